/-! PURE: the class lays out all that is done -/
def CYQ (F g n : Nat) (LsF : List Ln) (lim : Nat) (l : List Th) : Prop := ∀ (A B : List Ln) (pb sk kb : Nat) (L : List Nat) (i j : Nat) (Rm : List Nat) (K : Nat), LsF = A ++ ((lx l).2.2 A.length pb sk ++ B) → (∀ t ∈ l, thX n t) → GL l L → (0 ∉ L → i = 0) → (1 ∉ L → j = 0) → i < 16 → j < 16 → CLc F g LsF (A.length + nl l) i j Rm K → CLc F g LsF A.length i j ((TR l kb A.length L i j).map cdQ ++ Rm) (K + stp l)
theorem cy_turns {F g n lim : Nat} {LsF : List Ln} {b : List Th} {o : Th} (ih : CYQ F g n LsF lim b) (hm : lv lim 0 b = some 0) (hx : thw o < 2) (htn : tn o ≤ 16) {A B : List Ln} {Xb : List Ln} {pb sk kb W f e : Nat} {L : List Nat} {i j : Nat} (hL : thw o ∉ L) (hXb : (lx b).2.2 (A.length + 1) pb sk = Xb) (hLs : LsF = A ++ ((91, thw o, tn o, pb, pb, W) :: (Xb ++ (93, thw o, A.length, f, e, 0) :: B))) (hok : ∀ t ∈ b, thX n t) (hG : GL b (L ++ [thw o])) (h0 : 0 ∉ L → i = 0) (h1 : 1 ∉ L → j = 0) (hi : i < 16) (hj : j < 16) {Rm : List Nat} {K : Nat} (hend : CLc F g LsF (A.length + 1 + Xb.length + 1) i j Rm K) : ∀ (d q : Nat), q + (d + 1) = tn o → CLc F g LsF (A.length + 1) (rA (thw o) q i) (rB (thw o) q j) ((TQ o b kb A.length L i j q (d + 1)).map cdQ ++ Rm) (K + (d + 1) * (stp b + 1)) := by
  have hnl := nl_lx hm (A.length + 1) pb sk
  rw [hXb] at hnl
  have hline : LsF[A.length]? = some (91, thw o, tn o, pb, pb, W) := by rw [hLs]; exact mid_get
  have hline2 : LsF[A.length + 1 + Xb.length]? = some (93, thw o, A.length, f, e, 0) := by
    rw [hLs, List.getElem?_append_right (by omega), show A.length + 1 + Xb.length - A.length = Xb.length + 1 from by omega, List.getElem?_cons_succ, List.getElem?_append_right (Nat.le_refl _), Nat.sub_self]
    rfl
  have body : ∀ (q : Nat) (Rm' : List Nat) (K' : Nat), q < tn o → CLc F g LsF (A.length + 1 + Xb.length) (rA (thw o) q i) (rB (thw o) q j) Rm' K' → CLc F g LsF (A.length + 1) (rA (thw o) q i) (rB (thw o) q j) ((TR b (kb + 1) (A.length + 1) (L ++ [thw o]) (if thw o = 0 then q else i) (if thw o = 0 then j else q)).map cdQ ++ Rm') (K' + stp b) := by
    intro q Rm' K' hq hc
    have := ih (A ++ [(91, thw o, tn o, pb, pb, W)]) ((93, thw o, A.length, f, e, 0) :: B) pb sk (kb + 1) (L ++ [thw o]) (rA (thw o) q i) (rB (thw o) q j) Rm' K' (by rw [List.length_append, List.length_singleton, hXb, hLs]; simp only [List.append_assoc, List.cons_append, List.nil_append]) hok hG (fun h => by
      unfold rA
      have hne : ¬ thw o = 0 := fun e => h (List.mem_append_right _ (by rw [e]; exact List.mem_singleton.mpr rfl))
      rw [if_neg hne]
      exact h0 (fun k => h (List.mem_append_left _ k))) (fun h => by
      unfold rB
      have hne : thw o = 0 := by
        have : thw o ≠ 1 := fun e => h (List.mem_append_right _ (by rw [e]; exact List.mem_singleton.mpr rfl))
        omega
      rw [if_pos hne]
      exact h1 (fun k => h (List.mem_append_left _ k))) (by unfold rA; split <;> omega) (by unfold rB; split <;> omega) (by rw [List.length_append, List.length_singleton, ← hnl]; exact hc)
    rw [List.length_append, List.length_singleton] at this
    exact this
  have hij : ∀ q, (if thw o = 0 then rA (thw o) q i else rB (thw o) q j) = q := by
    intro q
    unfold rA rB
    split <;> rfl
  intro d
  induction d with
  | zero =>
    intro q hq
    have hcl := cl_close (K := K) (Rm := Rm) hline2 hline hx htn (show q < 16 by omega) (hij q) (by
      rw [if_neg (by omega), if_neg (by omega)]
      have e1 : rA (thw o) 0 (rA (thw o) q i) = i := by
        unfold rA
        split
        · rename_i h; exact (h0 (fun k => hL (by rw [h]; exact k))).symm
        · rfl
      have e2 : rB (thw o) 0 (rB (thw o) q j) = j := by
        unfold rB
        split
        · rfl
        · rename_i h
          have : thw o = 1 := by omega
          exact (h1 (fun k => hL (by rw [this]; exact k))).symm
      rw [e1, e2]
      exact hend)
    have := body q Rm (K + 1) (by omega) hcl
    rw [TQ_s, show TQ o b kb A.length L i j (q + 1) 0 = [] from rfl, List.append_nil, show K + (0 + 1) * (stp b + 1) = K + 1 + stp b from by omega]
    exact this
  | succ d ihd =>
    intro q hq
    have hn := ihd (q + 1) (by omega)
    have hcl := cl_close (K := K + (d + 1) * (stp b + 1)) (Rm := (TQ o b kb A.length L i j (q + 1) (d + 1)).map cdQ ++ Rm) hline2 hline hx htn (show q < 16 by omega) (hij q) (by
      rw [if_pos (by omega), if_pos (by omega)]
      have e1 : rA (thw o) (q + 1) (rA (thw o) q i) = rA (thw o) (q + 1) i := by
        unfold rA
        split
        · rfl
        · rfl
      have e2 : rB (thw o) (q + 1) (rB (thw o) q j) = rB (thw o) (q + 1) j := by
        unfold rB
        split
        · rfl
        · rfl
      rw [e1, e2]
      exact hn)
    have := body q _ _ (by omega) hcl
    rw [TQ_s, List.map_append, List.append_assoc, show K + (d + 1 + 1) * (stp b + 1) = K + (d + 1) * (stp b + 1) + 1 + stp b from by rw [Nat.succ_mul]; omega]
    exact this
theorem cy_all {F g n lim : Nat} {LsF : List Ln} {l : List Th} (h : lv lim 0 l = some 0) : CYQ F g n LsF lim l := by
  refine dyck (P := CYQ F g n LsF) h ?_ ?_ ?_
  · intro lim A B pb sk kb L i j Rm K _ _ _ _ _ _ _ hc
    exact hc
  · intro lim t r e2 e3 hr ih A B pb sk kb L i j Rm K hLs hok hG h0 h1 hi hj hc
    rw [lx_leaf e2 e3 hr] at hLs
    simp only [lxf] at hLs
    rw [nl_leaf e2 e3 hr] at hc
    rw [GL_leaf e2 e3 hr] at hG
    obtain ⟨w1, w2, w3, -⟩ := lnT_w (pb := pb) (sk := sk) e2 e3 (hok t (List.mem_cons_self ..))
    have hr2 := ih (A ++ [lnT t pb sk]) B (pb + npT t) (sk + skW t) (kb + 1) L i j Rm K (by rw [List.length_append, List.length_singleton, hLs]; simp only [List.append_assoc, List.cons_append, List.nil_append]) (fun t ht => hok t (List.mem_cons_of_mem _ ht)) hG h0 h1 hi hj (by rw [List.length_append, List.length_singleton, show A.length + 1 + nl r = A.length + (nl r + 1) from by omega]; exact hc)
    rw [List.length_append, List.length_singleton] at hr2
    have hline : LsF[A.length]? = some (lnT t pb sk) := by rw [hLs]; exact mid_get
    have := cl_leaf hline w1 w2 w3 hi hj hr2
    rw [TR_leaf e2 e3 hr, stp_leaf e2 e3 hr, show K + (1 + stp r) = K + stp r + 1 from by omega]
    exact this
  · intro lim o b c r e2 e3 hm hr i1 i2 A B pb sk kb L i j Rm K hLs hok hG h0 h1 hi hj hc
    rw [GL_loop e2 e3 hm hr] at hG
    obtain ⟨⟨g1, g2, g3⟩, g4, g5⟩ := hG
    have htn : tn o = thv o := by unfold tn; omega
    rw [lx_loop e2 e3 hm hr] at hLs
    simp only [lxp] at hLs
    rw [nl_loop e2 e3 hm hr] at hc
    rw [TR_loop e2 e3 hm hr, stp_loop e2 e3 hm hr]
    have hokb : ∀ t ∈ b, thX n t := fun t ht => hok t (List.mem_cons_of_mem _ (List.mem_append_left _ ht))
    have hokr : ∀ t ∈ r, thX n t := fun t ht => hok t (List.mem_cons_of_mem _ (List.mem_append_right _ (List.mem_cons_of_mem _ ht)))
    have hx := (hok o (List.mem_cons_self ..)).1 e2
    have hnl := nl_lx hm (A.length + 1) pb sk
    generalize hXb : (lx b).2.2 (A.length + 1) pb sk = Xb at *
    by_cases hE : Xb = []
    · rw [if_pos hE] at hLs
      rw [hE] at hnl
      have hz : nl b = 0 := hnl.symm
      have hTQ : TQ o b kb A.length L i j 0 (tn o) = [] := by
        have a1 := (nl_wt hm _ g4).1 hz
        have hh : ∀ d q, TQ o b kb A.length L i j q d = [] := by
          intro d
          induction d with
          | zero => intro q; rfl
          | succ d ih => intro q; rw [TQ_s, a1, ih]; rfl
        exact hh _ _
      have hnlL : nlL b = 0 := by unfold nlL; rw [if_pos hz]
      rw [hnlL] at hc ⊢
      rw [hTQ, List.nil_append, if_pos hz, Nat.zero_add, Nat.add_zero]
      rw [Nat.zero_add] at hc
      exact i2 A B _ _ _ L i j Rm K hLs hokr g5 h0 h1 hi hj hc
    · rw [if_neg hE] at hLs
      have hpos : 0 < Xb.length := List.length_pos_iff.mpr hE
      have hz : ¬ nl b = 0 := by omega
      have hnlL : nlL b = Xb.length + 2 := by unfold nlL; rw [if_neg hz, hnl]
      rw [hnlL] at hc ⊢
      have hr2 := i2 (A ++ (91, thw o, tn o, pb, pb, (lx b).2.1) :: (Xb ++ [(93, thw o, A.length, pb + (lx b).1, pb + (lx b).1, 0)])) B (pb + (lx b).1) (sk + tn o * (lx b).2.1) (kb + b.length + 2) L i j Rm K (by rw [hLs]; simp only [List.length_append, List.length_cons, List.length_nil, List.append_assoc, List.cons_append, List.nil_append, Nat.add_assoc]) hokr g5 h0 h1 hi hj (by
        rw [show (A ++ (91, thw o, tn o, pb, pb, (lx b).2.1) :: (Xb ++ [((93, thw o, A.length, pb + (lx b).1, pb + (lx b).1, 0) : Ln)])).length = A.length + (Xb.length + 2) from by simp only [List.length_append, List.length_cons, List.length_nil], Nat.add_assoc]
        exact hc)
      rw [show (A ++ (91, thw o, tn o, pb, pb, (lx b).2.1) :: (Xb ++ [((93, thw o, A.length, pb + (lx b).1, pb + (lx b).1, 0) : Ln)])).length = A.length + (Xb.length + 2) from by simp only [List.length_append, List.length_cons, List.length_nil]] at hr2
      obtain ⟨d, hd⟩ : ∃ d, tn o = d + 1 := ⟨tn o - 1, by omega⟩
      have ht := cy_turns (kb := kb) i1 hm hx (Nat.min_le_right _ _) g1 hXb (show LsF = A ++ ((91, thw o, tn o, pb, pb, (lx b).2.1) :: (Xb ++ (93, thw o, A.length, pb + (lx b).1, pb + (lx b).1, 0) :: ((lx r).2.2 (A.length + Xb.length + 2) (pb + (lx b).1) (sk + tn o * (lx b).2.1) ++ B))) by rw [hLs]; simp only [List.append_assoc, List.cons_append]) hokb g4 h0 h1 hi hj (by rw [show A.length + 1 + Xb.length + 1 = A.length + (Xb.length + 2) from by omega]; exact hr2) d 0 (by omega)
      have hline : LsF[A.length]? = some (91, thw o, tn o, pb, pb, (lx b).2.1) := by rw [hLs]; exact mid_get
      have := cl_open hline hx ht
      rw [if_neg hz, List.map_append, List.append_assoc, hd, show K + (1 + (d + 1) * (stp b + 1) + stp r) = K + stp r + (d + 1) * (stp b + 1) + 1 from by omega]
      exact this
theorem wt_mono {f h : Th → Nat} {lim : Nat} {l : List Th} (hl : lv lim 0 l = some 0) : (∀ t ∈ l, thk t ≠ 2 → thk t ≠ 3 → f t ≤ h t) → wt f l ≤ wt h l := by
  refine dyck (P := fun _ l => (∀ t ∈ l, thk t ≠ 2 → thk t ≠ 3 → f t ≤ h t) → wt f l ≤ wt h l) hl (fun _ _ => Nat.le_refl _) ?_ ?_
  · intro lim t r e2 e3 hr ih hf
    rw [wt_leaf e2 e3 hr, wt_leaf e2 e3 hr]
    have := ih (fun t ht => hf t (List.mem_cons_of_mem _ ht))
    have := hf t (List.mem_cons_self ..) e2 e3
    omega
  · intro lim o b c r e2 e3 hm hr i1 i2 hf
    rw [wt_loop e2 e3 hm hr, wt_loop e2 e3 hm hr]
    have := Nat.mul_le_mul_left (tn o) (i1 (fun t ht => hf t (List.mem_cons_of_mem _ (List.mem_append_left _ ht))))
    have := i2 (fun t ht => hf t (List.mem_cons_of_mem _ (List.mem_append_right _ (List.mem_cons_of_mem _ ht))))
    omega
theorem icW_1 (t : Th) : 1 ≤ icW t := by
  unfold icW insK
  split
  · omega
  · split <;> omega
/-- all that is done, in its order -/
def TRD (D : Ds) : List Q5 := TR (dW D) 0 0 [] 0 0 ++ TR (dSt D) (dW D).length (nl (dW D)) [] 0 0
theorem TRD_len {D : Ds} (h1 : lv 2 0 (dW D) = some 0) (h2 : lv 2 0 (dSt D) = some 0) : (TRD D).length = wt w1 (dW D) + wt w1 (dSt D) := by
  unfold TRD
  rw [List.length_append, TR_len (f := w1) h1 (fun _ _ _ _ => rfl), TR_len (f := w1) h2 (fun _ _ _ _ => rfl)]
def lsD (D : Ds) : List Ln := (lx (dW D)).2.2 0 0 0 ++ (lx (dSt D)).2.2 ((lx (dW D)).2.2 0 0 0).length (PX (dW D) []).length (wt skW (dW D))
theorem rd_layOut {F g n : Nat} {D : Ds} {s : ax_σ} (hF : 10000 ≤ F) (hO : ThO n D) (hX : ∀ t ∈ dH D, thX n t) (hGw : GL (dW D) []) (hGs : GL (dSt D) []) (hb : ¬ big D) (hR : RL g (lsD D) s) : ∃ s', f_P_layOut F g s = some s' ∧ (∀ p e, (TRD D)[p]? = some e → s'.1 g 20 p = nI (cdQ e)) ∧ frm (XOr g) s s' := by
  obtain ⟨h0, hn, hB, hT, l1, l2, htb, hok⟩ := id hO
  have f0 : frm (XOr g) s (ax_wI (ax_wI s g 21 0 (nI 0)) g 21 1 (nI 0)) := (frm.refl.wI _ _ _ _ ⟨rfl, Or.inr rfl⟩).wI _ _ _ _ ⟨rfl, Or.inr rfl⟩
  have hR0 := hR.keep f0 (fun g' r k hx => by unfold XN at hx; unfold XOr; omega)
  have hl120 := hR.1
  have hlen : (lsD D).length = nl (dW D) + nl (dSt D) := by unfold lsD; rw [List.length_append, nl_lx l1, nl_lx l2]
  have hXw : ∀ t ∈ dW D, thX n t := fun t ht => hX t (List.mem_append_left _ ht)
  have hXs : ∀ t ∈ dSt D, thX n t := fun t ht => hX t (List.mem_append_right _ ht)
  have hend : CLc F g (lsD D) (nl (dW D) + nl (dSt D)) 0 0 [] 0 := cl_end (by omega) (by omega)
  have hnw := nl_lx l1 0 0 0
  have c2 := cy_all (F := F) (g := g) (n := n) (LsF := lsD D) l2 ((lx (dW D)).2.2 0 0 0) [] (PX (dW D) []).length (wt skW (dW D)) (dW D).length [] 0 0 [] 0 (by rw [List.append_nil]; rfl) hXs hGs (fun _ => rfl) (fun _ => rfl) (by omega) (by omega) (by rw [hnw]; exact hend)
  rw [hnw, List.append_nil, Nat.zero_add] at c2
  have c1 := cy_all (F := F) (g := g) (n := n) (LsF := lsD D) l1 [] ((lx (dSt D)).2.2 ((lx (dW D)).2.2 0 0 0).length (PX (dW D) []).length (wt skW (dW D))) 0 0 0 [] 0 0 _ _ rfl hXw hGw (fun _ => rfl) (fun _ => rfl) (by omega) (by omega) (by rw [List.length_nil, Nat.zero_add]; exact c2)
  rw [List.length_nil, ← List.map_append] at c1
  have hi1 := wt_mono (f := w1) (h := icW) l1 (fun t _ _ _ => icW_1 t)
  have hi2 := wt_mono (f := w1) (h := icW) l2 (fun t _ _ _ => icW_1 t)
  have hle : wt w1 (dW D) + wt w1 (dSt D) ≤ 400 := by unfold big at hb; omega
  have s1 := stp_le l1 _ hGw
  have s2 := stp_le l2 _ hGs
  have htl := TRD_len l1 l2
  obtain ⟨s', a1, a2, a3, a4⟩ := c1 _ 0 0 F hR0 (by simp (disch := omega) only [wI_1, wI_2, wL_1, wL_2, true_and, and_true, and_self, false_and, and_false, if_true, if_false, if_pos, if_neg]) (by simp (disch := omega) only [wI_1, wI_2, wL_1, wL_2, true_and, and_true, and_self, false_and, and_false, if_true, if_false, if_pos, if_neg]) (by rw [List.length_map]; unfold TRD at htl; omega) (by omega) (by omega)
  refine ⟨s', ?_, fun p e hp => ?_, f0.trans a4⟩
  · have i0 : ax_in (0 : Int32) 2 = true := by decide
    have i1 : ax_in (1 : Int32) 2 = true := by decide
    have a1 : lp_P_layOut_20 F g F (0 : Int32) (0 : Int32) (0 : Int32) (ax_wI (ax_wI s g 21 ((0 : Int32)).toNatClampNeg (0 : Int32)) g 21 ((1 : Int32)).toNatClampNeg (0 : Int32)) = some s' := a1
    unfold f_P_layOut
    simp only [ax_let]
    rw [i0, i1, cond_true, cond_true, a1]
    rfl
  · have := a2 p (cdQ e) (by rw [List.getElem?_map]; unfold TRD at hp; rw [hp]; rfl)
    rw [Nat.zero_add] at this
    exact this
