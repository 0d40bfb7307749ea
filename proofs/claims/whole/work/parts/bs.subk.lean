/-! PURE: the subkeys -/
def opsAt (D : Ds) (e : Q5) : List Op := match (dH D)[e.1]? with
  | some t => the t
  | none => []
def skS (D : Ds) (w : Nat) (A K : Nat → Int64) : Nat → Nat → Int64
  | 0 => fun _ => 0
  | p + 1 => match (trW D)[p]? with
    | some e => upL (skS D w A K p) p (exV (w, A, K, skS D w A K p, e.2.2.1, e.2.2.2.1) (opsAt D e))
    | none => skS D w A K p
/-- what the class's run needs of its memory -/
def MC (g : Nat) (D : Ds) (s : ax_σ) : Prop := RL g (lsD D) s ∧ PM g (prt D) s ∧ (∀ p e, (TRD D)[p]? = some e → s.1 g 20 p = nI (cdQ e)) ∧ s.1 g 1 4 = nI (tot D) ∧ MW D.1.1 s
def MZ (D : Ds) (s : ax_σ) : Prop := ZX D s ∧ ZLy D s
theorem MZ.w {D : Ds} {s : ax_σ} (h : MZ D s) : ZWd D.1.1 s := (h.1.1.1.2 0 _ rfl).1
theorem SD.nums {D : Ds} (h : SD D) : tot D ≤ 32 ∧ (trW D).length = tot D ∧ (trW D).length + (trS D).length ≤ 400 ∧ (trS D).length = wt w1 (dSt D) ∧ okW D.1.1 ∧ D.2.1.1 ≤ 4 ∧ D.2.2.1.1 ≤ 4 ∧ DB D ∧ (dT D).length ≤ 2 := by
  obtain ⟨n, T, g, B, hn, hP, hB, hkB, hF, hb⟩ := h
  obtain ⟨h0, -, -, -, l1, l2, htb, hok⟩ := hP.tho hn hB
  obtain ⟨-, hX, -, -, -, -, hs1, hw1, -⟩ := hP.all hB
  obtain ⟨v1, v2, v3⟩ := sd_vD hn hP hF
  have e1 : (trW D).length = tot D := TR_len (f := skW) l1 (fun t ht h1 h2 => by unfold skW; rw [if_pos (hw1 t ht h1 h2)]) 0 0 [] 0 0
  have e2 : (trW D).length = wt w1 (dW D) := TR_len (f := w1) l1 (fun _ _ _ _ => rfl) 0 0 [] 0 0
  have e3 : (trS D).length = wt w1 (dSt D) := TR_len (f := w1) l2 (fun _ _ _ _ => rfl) _ _ [] 0 0
  unfold big at hb
  have e4 : wt w1 (dW D) ≤ wt icW (dW D) := wt_mono l1 (fun t _ _ _ => icW_1 t)
  have e5 : wt w1 (dSt D) ≤ wt icW (dSt D) := wt_mono l2 (fun t _ _ _ => icW_1 t)
  refine ⟨?_, e1, by omega, e3, v1, by omega, by omega, hB, htb⟩
  unfold tot
  omega
section
variable {D : Ds} {A K : Nat → Int64}
theorem skS_s {w p : Nat} {e : Q5} (h : (trW D)[p]? = some e) : skS D w A K (p + 1) = upL (skS D w A K p) p (exV (w, A, K, skS D w A K p, e.2.2.1, e.2.2.2.1) (opsAt D e)) := by
  rw [skS, h]
theorem opsAt_t {e : Q5} {t : Th} (h : (dH D)[e.1]? = some t) : opsAt D e = the t := by unfold opsAt; rw [h]
theorem sk_bW (h : SD D) (hA : ∀ k, k < 4 → bW D.1.1 (A k)) (hK : ∀ k, k < 4 → bW D.1.1 (K k)) : ∀ p, p ≤ (trW D).length → ∀ k, k < p → bW D.1.1 (skS D D.1.1 A K p k)
  | 0, _, k, hk => absurd hk (Nat.not_lt_zero _)
  | p + 1, hp, k, hk => by
    obtain ⟨n1, n2, -, -, n5, n6, n7, -⟩ := h.nums
    have he : (trW D)[p]? = some (trW D)[p] := List.getElem?_eq_getElem (by omega)
    rw [skS_s he]
    unfold upL
    by_cases hkp : k = p
    · rw [if_pos hkp]
      obtain ⟨t, pb, sk, a1, -, -, -, -, a6, a7, a8⟩ := h.wr he
      rw [opsAt_t a1]
      have hE : evF D.1.1 p (trW D)[p].2.2.2.2 (trW D)[p].2.2.1 (trW D)[p].2.2.2.1 (D.1.1, A, K, skS D D.1.1 A K p, (trW D)[p].2.2.1, (trW D)[p].2.2.2.1) := ⟨rfl, fun _ => rfl, fun _ => rfl, by show (trW D)[p].2.2.1 ≤ 16; omega, by show (trW D)[p].2.2.2.1 ≤ 16; omega, hA, hK, fun k hk => sk_bW h hA hK p (by omega) k hk⟩
      exact exV_bW (E := (D.1.1, A, K, skS D D.1.1 A K p, (trW D)[p].2.2.1, (trW D)[p].2.2.2.1)) n5 (fun o ho h5 => (gd_of n5 (a6 o ho) hE (by omega) n7 (by omega)).2.2 h5)
    · rw [if_neg hkp]
      exact sk_bW h hA hK p (by omega) k (by omega)
def X35 (g r k : Nat) : Prop := g = 0 ∧ (r = 35 ∨ r = 36)
theorem MC.keep {g : Nat} {s s' : ax_σ} {Q : Nat → Nat → Nat → Prop} (h : MC g D s) (hf : frm Q s s') (hq : ∀ g' r k, Q g' r k → g' = 0 ∧ 33 ≤ r) : MC g D s' := by
  obtain ⟨h1, h2, h3, h4, h5, h6⟩ := h
  refine ⟨h1.keep hf (fun g' r k hx hQ => ?_), h2.keep hf (fun r k h5 h9 hQ => ?_), fun p e hp => (hf.1 _ _ _ (fun hQ => ?_)).trans (h3 p e hp), (hf.1 _ _ _ (fun hQ => ?_)).trans h4, (hf.1 _ _ _ (fun hQ => ?_)).trans h5, (hf.2 _ _ _ (fun hQ => ?_)).trans h6⟩
  · have := (hq _ _ _ hQ).2
    unfold XN at hx
    omega
  · have := (hq _ _ _ hQ).2
    omega
  · have := (hq _ _ _ hQ).2
    omega
  · have := (hq _ _ _ hQ).2
    omega
  · have := (hq _ _ _ hQ).2
    omega
  · have := (hq _ _ _ hQ).2
    omega
theorem ms_loop {F g : Nat} (hF : 241 ≤ F) (h : SD D) (hA : ∀ k, k < 4 → bW D.1.1 (A k)) (hK : ∀ k, k < 4 → bW D.1.1 (K k)) : ∀ (m p n : Nat) (s : ax_σ), p + m = tot D → m < n → MC g D s → (∀ k, k < 4 → s.2 0 34 k = A k) → (∀ k, k < 4 → s.2 0 33 k = K k) → (∀ k, k < p → s.2 0 35 k = skS D D.1.1 A K p k) → ∃ s', lp_M_makeSubkeys_2 F g n (nI p) s = some s' ∧ (∀ k, k < tot D → s'.2 0 35 k = skS D D.1.1 A K (tot D) k) ∧ frm X35 s s'
  | _, _, 0, _, _, h, _, _, _, _ => absurd h (Nat.not_lt_zero _)
  | 0, p, n + 1, s, e, _, hM, _, _, hS => by
    obtain ⟨n1, -⟩ := h.nums
    rw [Nat.add_zero] at e
    have h4 : s.1 g 1 ((4 : Int32)).toNatClampNeg = nI (tot D) := hM.2.2.2.1
    refine ⟨s, ?_, by rw [← e]; exact hS, frm.refl⟩
    rw [lp_M_makeSubkeys_2, h4, if_pos (by rw [nI_leI (by omega) (by omega)]; omega)]
    rfl
  | m + 1, p, n + 1, s, e, hn, hM, hAs, hKs, hS => by
    obtain ⟨n1, n2, n3, -, n5, n6, n7, -⟩ := h.nums
    have h4 : s.1 g 1 ((4 : Int32)).toNatClampNeg = nI (tot D) := hM.2.2.2.1
    have he : (trW D)[p]? = some (trW D)[p] := List.getElem?_eq_getElem (by omega)
    generalize (trW D)[p] = ee at he
    have hT : (TRD D)[p]? = some ee := by
      show (trW D ++ trS D)[p]? = _
      rw [List.getElem?_append_left (by omega)]
      exact he
    have hcd := hM.2.2.1 p ee hT
    obtain ⟨t, pb, sk, a1, a2, a3, a4, a5, a6, a7, a8⟩ := h.wr he
    have hE : evF D.1.1 p ee.2.2.2.2 ee.2.2.1 ee.2.2.2.1 (D.1.1, A, K, fun k => s.2 0 35 k, ee.2.2.1, ee.2.2.2.1) := ⟨rfl, fun _ => rfl, fun _ => rfl, by show ee.2.2.1 ≤ 16; omega, by show ee.2.2.2.1 ≤ 16; omega, hA, hK, fun k hk => by
      show bW D.1.1 (s.2 0 35 k)
      rw [hS k hk]
      exact sk_bW h hA hK p (by omega) k hk⟩
    have hE' : evF D.1.1 p ee.2.2.2.2 ee.2.2.1 ee.2.2.2.1 (D.1.1, A, K, skS D D.1.1 A K p, ee.2.2.1, ee.2.2.2.1) := ⟨rfl, fun _ => rfl, fun _ => rfl, by show ee.2.2.1 ≤ 16; omega, by show ee.2.2.2.1 ≤ 16; omega, hA, hK, fun k hk => sk_bW h hA hK p (by omega) k hk⟩
    have hex := ex_eq a6 hE hE' (by omega) n7 (fun _ _ => rfl) (fun _ _ => rfl) hS
    have hln := get_lt a3
    have hl := hM.1.2.2 _ _ a3
    have hlT : lnT t pb sk = (62, 0, 0, pb, pb + (the t).length, sk) := by unfold lnT; rw [if_pos a2]
    rw [hlT] at hl
    have hp5 : p5L ee.2.2.2.2 t = (the t).map (cO ee.2.2.2.2) := by unfold p5L; rw [if_pos a2]
    rw [hp5] at a4
    have hpl : pb + (the t).length ≤ 240 := by
      by_cases h0 : (the t).length = 0
      · rw [List.length_eq_zero_iff.mp h0] at a5
        cases a5
      · have := a4 ((the t).length - 1) (cO ee.2.2.2.2 ((the t)[(the t).length - 1]'(by omega))) (by rw [List.getElem?_map, List.getElem?_eq_getElem (by omega)]; rfl)
        have := get_lt this
        have := hM.2.1.1
        omega
    obtain ⟨s1, v1, v2⟩ := m_value (F := F) (g := g) (ln := ee.2.1) (p := pb) (L := ee.2.2.2.2) (E := (D.1.1, A, K, fun k => s.2 0 35 k, ee.2.2.1, ee.2.2.2.1)) (e := the t) (s := s) hF n5 a7 a8 (by have := hM.1.1; omega) a5 (fun o ho => ⟨(gd_of n5 (a6 o ho) hE (by omega) n7 (by omega)).1, (a6 o ho).1⟩) hpl hl.2.2.2.1 hl.2.2.2.2.1 (fun q o hq => by
      have := hM.2.1.2 (pb + q) (cO ee.2.2.2.2 o) (a4 q _ (by rw [List.getElem?_map, hq]; rfl))
      exact ⟨this.1, this.2.1, this.2.2.1, this.2.2.2.1⟩) hM.2.2.2.2 hAs hKs (fun _ _ => rfl)
    have v1 : f_M_value F g (nI (cdQ ee)) s = some (exV (D.1.1, A, K, fun k => s.2 0 35 k, ee.2.2.1, ee.2.2.2.1) (the t), s1) := v1
    rw [hex] at v1
    have f1 : frm X35 s (ax_wL s1 0 35 p (exV (D.1.1, A, K, skS D D.1.1 A K p, ee.2.2.1, ee.2.2.2.1) (the t))) := (v2.imp (fun g r k h => ⟨h.1, Or.inr h.2⟩)).wL 0 35 _ _ ⟨rfl, Or.inl rfl⟩
    obtain ⟨s', b1, b2, b3⟩ := ms_loop hF h hA hK m (p + 1) n _ (by omega) (by omega) (hM.keep f1 (fun g' r k hQ => by unfold X35 at hQ; omega)) (fun k hk => (f1.2 _ _ _ (by unfold X35; omega)).trans (hAs k hk)) (fun k hk => (f1.2 _ _ _ (by unfold X35; omega)).trans (hKs k hk)) (fun k hk => by
      rw [skS_s he, opsAt_t a1, wL_2]
      unfold upL
      by_cases hkp : k = p
      · rw [if_pos ⟨rfl, rfl, hkp⟩, if_pos hkp]
      · rw [if_neg (fun e => hkp e.2.2), if_neg hkp, v2.2 _ _ _ (by unfold X36; omega)]
        exact hS k (by omega))
    refine ⟨s', ?_, b2, f1.trans b3⟩
    rw [lp_M_makeSubkeys_2, h4, if_neg (by rw [nI_leI (by omega) (by omega)]; omega), pu_in (by omega : p < 400) (by omega), cond_true, nI_clamp (by omega), hcd, v1, Option.bind_some]
    simp only [ax_let]
    rw [pu_in (by omega : p < 32) (by omega), cond_true, c_1, nI_add, b1]
    rfl
theorem m_subk {F g : Nat} {s : ax_σ} (hF : 241 ≤ F) (h : SD D) (hA : ∀ k, k < 4 → bW D.1.1 (A k)) (hK : ∀ k, k < 4 → bW D.1.1 (K k)) (hM : MC g D s) (hAs : ∀ k, k < 4 → s.2 0 34 k = A k) (hKs : ∀ k, k < 4 → s.2 0 33 k = K k) : ∃ s', f_M_makeSubkeys F g s = some s' ∧ (∀ k, k < tot D → s'.2 0 35 k = skS D D.1.1 A K (tot D) k) ∧ frm X35 s s' := by
  obtain ⟨n1, -⟩ := h.nums
  obtain ⟨s', a1, a2, a3⟩ := ms_loop (g := g) hF h hA hK (tot D) 0 F s (by omega) (by omega) hM hAs hKs (fun k hk => absurd hk (Nat.not_lt_zero _))
  refine ⟨s', ?_, a2, a3⟩
  have a1 : lp_M_makeSubkeys_2 F g F (0 : Int32) s = some s' := a1
  unfold f_M_makeSubkeys
  rw [a1]
  rfl
end
