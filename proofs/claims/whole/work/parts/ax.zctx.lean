/-! PURE: what the reference holds of a description; the loops around a thing -/
def ZX (D : Ds) (s : ax_σ) : Prop := (ZHd [D.1, D.2.1, D.2.2.1] s ∧ s.1 0 38 14 = nI (dT D).length ∧ ZTb (dT D) s) ∧ (ZO ((dH D).flatMap the) s ∧ ZM (((dH D).flatMap the).flatMap opT) s ∧ ZU ((dH D).flatMap thn) s) ∧ (∀ (i : Nat) (t : Th), (dH D)[i]? = some t → zhA i t (oOff (dH D) i) (rOff (dH D) i) s) ∧ (∀ (i : Nat) (t : Th) (k : Nat), (dH D)[i]? = some t → thk t = 3 → (stk ((dH D).take i)).head? = some k → k < i → s.1 0 50 i = nI k ∧ s.1 0 50 k = nI i) ∧ s.1 0 38 23 = nI (dW D).length ∧ s.1 0 38 22 = nI (dH D).length
def XX (r k : Nat) : Prop := (41 ≤ r ∧ r ≤ 45) ∨ (47 ≤ r ∧ r ≤ 65) ∨ (r = 38 ∧ (k = 11 ∨ k = 14 ∨ k = 22 ∨ k = 23 ∨ k = 33 ∨ k = 36 ∨ k = 42))
theorem ZX.keep {D : Ds} {s s' : ax_σ} {Q : Nat → Nat → Nat → Prop} (h : ZX D s) (hf : frm Q s s') (hq : ∀ r k, XX r k → ¬ Q 0 r k) : ZX D s' := by
  obtain ⟨⟨⟨a1, a2⟩, a3, a4⟩, ⟨b1, b2, b3⟩, c, d, e, f⟩ := h
  refine ⟨⟨⟨(hf.1 _ _ _ (hq _ _ (by unfold XX; omega))).trans a1, fun i x hi => ⟨(hf.2 _ _ _ (hq _ _ (by unfold XX; omega))).trans (a2 i x hi).1, (hf.1 _ _ _ (hq _ _ (by unfold XX; omega))).trans (a2 i x hi).2⟩⟩, (hf.1 _ _ _ (hq _ _ (by unfold XX; omega))).trans a3, a4.keep hf (fun r k h => hq r k (by unfold XX; omega))⟩, ⟨b1.keep hf (fun r k h => hq r k (by unfold XX; omega)), b2.keep hf (fun r k h => hq r k (by unfold XX; omega)), b3.keep hf (fun r k h => hq r k (by unfold XX; omega))⟩, fun i t hi => (c i t hi).keep hf (fun r h1 h2 _ => hq r i (by unfold XX; omega)), fun i t k h1 h2 h3 h4 => ⟨(hf.1 _ _ _ (hq _ _ (by unfold XX; omega))).trans (d i t k h1 h2 h3 h4).1, (hf.1 _ _ _ (hq _ _ (by unfold XX; omega))).trans (d i t k h1 h2 h3 h4).2⟩, (hf.1 _ _ _ (hq _ _ (by unfold XX; omega))).trans e, (hf.1 _ _ _ (hq _ _ (by unfold XX; omega))).trans f⟩
theorem ZD0.zx {D : Ds} {Pr : List Nat} {s : ax_σ} (h : ZD0 D Pr s) : ZX D s ∧ DB D ∧ ZP Pr s ∧ Pr.length ≤ 264 := by
  obtain ⟨a1, a2, a3, a4, a5, a6, ⟨g1, g2, ⟨-, g3⟩, -⟩, a8, a9, ⟨b1, b2, b3, b4, b5⟩, -⟩ := h
  refine ⟨⟨⟨a1, a2, a3⟩, ⟨a4, a5, a6⟩, g1, g2, ?_, a8⟩, ⟨b1, b2, b3, b4⟩, a9, b5⟩
  rw [g3, show (2 * D.2.2.2.2.1.length + 1) / 2 = D.2.2.2.2.1.length from by omega]
  rfl
theorem fm_get {α β : Type} {f : α → List β} {l : List α} {k j : Nat} {t : α} (h : l[k]? = some t) (hj : j < (f t).length) : (l.flatMap f)[((l.take k).flatMap f).length + j]? = (f t)[j]? := by
  have hk := get_lt h
  have e : l = l.take k ++ t :: l.drop (k + 1) := by
    obtain ⟨h1, h2⟩ := List.getElem?_eq_some_iff.mp h
    rw [← h2, ← List.drop_eq_getElem_cons h1, List.take_append_drop]
  conv => lhs; rw [e]
  rw [List.flatMap_append, List.flatMap_cons, List.take_append_of_le_length (by rw [List.length_take]; omega), List.take_take, Nat.min_self, List.getElem?_append_right (by omega), Nat.add_sub_cancel_left, List.getElem?_append_left hj]
theorem fm_len2 {α β : Type} {f : α → List β} {l : List α} {k : Nat} {t : α} (h : l[k]? = some t) : ((l.take k).flatMap f).length + (f t).length ≤ (l.flatMap f).length := by
  have hk := get_lt h
  have e : l = l.take k ++ t :: l.drop (k + 1) := by
    obtain ⟨h1, h2⟩ := List.getElem?_eq_some_iff.mp h
    rw [← h2, ← List.drop_eq_getElem_cons h1, List.take_append_drop]
  conv => rhs; rw [e]
  rw [List.flatMap_append, List.flatMap_cons, List.length_append, List.length_append]
  omega
/-- the operations of a thing, where they lie -/
theorem ZX.op {D : Ds} {s : ax_σ} {k j : Nat} {t : Th} {o : Op} (h : ZX D s) (hB : DB D) (hk : (dH D)[k]? = some t) (hj : (the t)[j]? = some o) : ∃ t0, zoA (oOff (dH D) k + j) o t0 s ∧ oOff (dH D) k + j < 240 ∧ t0 + o.2.2.2.length ≤ 240 ∧ ∀ i x, o.2.2.2[i]? = some x → ztA (t0 + i) x s := by
  have hjl := get_lt hj
  have e1 := fm_get (f := the) hk hjl
  rw [hj] at e1
  have l1 := fm_len2 (f := the) hk
  have hB2 := hB.2.1
  have e2 := h.2.1.1.2 _ _ e1
  have l2 := fm_len2 (f := opT) e1
  have hB3 := hB.2.2.1
  refine ⟨_, e2, by unfold oOff; omega, Nat.le_trans l2 hB3, fun i x hi => ?_⟩
  have e3 := fm_get (f := opT) e1 (j := i) (get_lt hi)
  exact h.2.1.2.1.2 _ _ (e3.trans hi)
theorem ZX.kd {D : Ds} {s : ax_σ} (h : ZX D s) (hB : DB D) (hv : ∀ t ∈ dH D, thk t < 13 ∧ (thk t = 2 → thv t < 10 ^ 9)) : ZKd (dH D) s := by
  refine ⟨hB.1, fun i t hi => ?_⟩
  obtain ⟨a, -, -, -, b, -⟩ := h.2.2.1 i t hi
  obtain ⟨c, d⟩ := hv t (List.mem_of_getElem? hi)
  exact ⟨a, c, fun e => ⟨(b (Or.inl e)).1, d e⟩⟩
theorem stk_bal {lim : Nat} {l : List Th} (h : lv lim 0 l = some 0) : ∀ (q : Nat) (S : List Nat), l.foldl (fun (q : Nat × List Nat) t => (q.1 + 1, stkA q.1 q.2 t)) (q, S) = (q + l.length, S) := by
  refine dyck (P := fun _ l => ∀ (q : Nat) (S : List Nat), l.foldl (fun (q : Nat × List Nat) t => (q.1 + 1, stkA q.1 q.2 t)) (q, S) = (q + l.length, S)) h (fun _ _ _ => rfl) ?_ ?_
  · intro lim t r e2 e3 hr ih q S
    rw [List.foldl_cons]
    have e : stkA q S t = S := by unfold stkA; rw [if_neg e2, if_neg e3]
    simp only [e]
    rw [ih, List.length_cons, show q + 1 + r.length = q + (r.length + 1) from by omega]
  · intro lim o b c r e2 e3 hm hr i1 i2 q S
    have eo : stkA q S o = q :: S := by unfold stkA; rw [if_pos e2]
    have ec : ∀ i, stkA i (q :: S) c = S := fun i => by unfold stkA; rw [if_neg (by omega), if_pos e3]; rfl
    rw [List.foldl_cons, List.foldl_append]
    simp only [eo]
    rw [i1, List.foldl_cons]
    simp only [ec]
    rw [i2, List.length_cons, List.length_append, List.length_cons, show q + 1 + b.length + 1 + r.length = q + (b.length + (r.length + 1) + 1) from by omega]
theorem stk_open {lim : Nat} {X M : List Th} {o : Th} (e2 : thk o = 2) (h : lv lim 0 M = some 0) : (stk (X ++ o :: M)).head? = some X.length := by
  unfold stk
  rw [List.foldl_append, List.foldl_cons]
  have e1 := stk_1 X (0, [])
  rw [Nat.zero_add] at e1
  have eo : ∀ q S, stkA q S o = q :: S := fun q S => by unfold stkA; rw [if_pos e2]
  rw [stk_bal h]
  simp only [eo, e1]
  rfl
/-- a loop and its end -/
theorem ZX.oth {D : Ds} {s : ax_σ} {lim : Nat} {X M R : List Th} {o e : Th} (h : ZX D s) (hH : dH D = X ++ o :: (M ++ e :: R)) (e2 : thk o = 2) (e3 : thk e = 3) (hM : lv lim 0 M = some 0) : s.1 0 50 X.length = nI (X.length + 1 + M.length) ∧ s.1 0 50 (X.length + 1 + M.length) = nI X.length := by
  have hl : (X ++ o :: M).length = X.length + 1 + M.length := by rw [List.length_append, List.length_cons]; omega
  have hH2 : dH D = (X ++ o :: M) ++ e :: R := by rw [hH]; simp only [List.append_assoc, List.cons_append]
  have hg : (dH D)[X.length + 1 + M.length]? = some e := by rw [← hl, hH2]; exact mid_get
  have ht : (dH D).take (X.length + 1 + M.length) = X ++ o :: M := by rw [← hl, hH2, List.take_left]
  obtain ⟨a, b⟩ := h.2.2.2.1 _ e X.length hg e3 (by rw [ht]; exact stk_open e2 hM) (by omega)
  exact ⟨b, a⟩
/-- the loops around what stands behind pre -/
def CxR : List (Nat × Cx) → Nat → List Th → Nat → List Th → Nat → List Th → Prop
  | [], lim, H, _, pre, sk, rest => H = pre ++ rest ∧ lv lim 0 pre = some 0 ∧ sk = wt skW pre
  | _ :: _, 0, _, _, _, _, _ => False
  | (k0, c) :: C, lim + 1, H, off, pre, sk, rest => ∃ A o M e R p' sk', H = A ++ o :: (M ++ e :: R) ∧ pre = A ++ o :: p' ∧ lv (lim + 1) 0 A = some 0 ∧ lv lim 0 M = some 0 ∧ thk o = 2 ∧ thk e = 3 ∧ k0 = off + A.length ∧ c = (thw o, thv o, wt skW M) ∧ sk = wt skW A + sk' ∧ CxR C lim M (k0 + 1) p' sk' rest
theorem CxR.pre : ∀ {C : List (Nat × Cx)} {lim : Nat} {H : List Th} {off : Nat} {pre : List Th} {sk : Nat} {rest : List Th}, CxR C lim H off pre sk rest → C.length ≤ lim ∧ ∃ post, H = pre ++ (rest ++ post)
  | [], lim, H, off, pre, sk, rest, h => ⟨Nat.zero_le _, [], by rw [List.append_nil]; exact h.1⟩
  | _ :: _, 0, H, off, pre, sk, rest, h => h.elim
  | (k0, c) :: C, lim + 1, H, off, pre, sk, rest, h => by
    obtain ⟨A, o, M, e, R, p', sk', h1, h2, h3, h4, h5, h6, h7, h8, h9, h10⟩ := h
    obtain ⟨a, post, b⟩ := h10.pre
    exact ⟨by rw [List.length_cons]; omega, post ++ e :: R, by rw [h1, h2, b]; simp only [List.append_assoc, List.cons_append]⟩
theorem CxR.leaf {t : Th} (e2 : thk t ≠ 2) (e3 : thk t ≠ 3) : ∀ {C : List (Nat × Cx)} {lim : Nat} {H : List Th} {off : Nat} {pre : List Th} {sk : Nat} {rest : List Th}, CxR C lim H off pre sk (t :: rest) → CxR C lim H off (pre ++ [t]) (sk + skW t) rest
  | [], lim, H, off, pre, sk, rest, h => by
    obtain ⟨h1, h2, h3⟩ := h
    have e : lv lim 0 [t] = some 0 := by rw [lv_1 e2 e3]; rfl
    exact ⟨by rw [h1, List.append_assoc]; rfl, by rw [lv_app pre [t] 0 0 h2]; exact e, by rw [h3, wt_app h2 e (Nat.le_refl _), wt_leaf e2 e3 (r := []) (lim := 0) rfl]; rfl⟩
  | _ :: _, 0, H, off, pre, sk, rest, h => h.elim
  | (k0, c) :: C, lim + 1, H, off, pre, sk, rest, h => by
    obtain ⟨A, o, M, e, R, p', sk', h1, h2, h3, h4, h5, h6, h7, h8, h9, h10⟩ := h
    exact ⟨A, o, M, e, R, p' ++ [t], sk' + skW t, h1, by rw [h2, List.append_assoc]; rfl, h3, h4, h5, h6, h7, h8, by rw [h9, Nat.add_assoc], h10.leaf e2 e3⟩
theorem CxR.opn {o e : Th} {b : List Th} (e2 : thk o = 2) (e3 : thk e = 3) : ∀ {C : List (Nat × Cx)} {lim : Nat} {H : List Th} {off : Nat} {pre : List Th} {sk : Nat} {rest : List Th} {l : Nat}, lim = C.length + l + 1 → lv l 0 b = some 0 → CxR C lim H off pre sk (o :: (b ++ e :: rest)) → CxR (C ++ [(off + pre.length, (thw o, thv o, wt skW b))]) lim H off (pre ++ [o]) sk b
  | [], lim, H, off, pre, sk, rest, l, hl, hb, h => by
    obtain ⟨h1, h2, h3⟩ := h
    obtain rfl : lim = l + 1 := by rw [List.length_nil] at hl; omega
    exact ⟨pre, o, b, e, rest, [], 0, h1, rfl, h2, hb, e2, e3, rfl, rfl, h3, rfl, rfl, rfl⟩
  | _ :: _, 0, H, off, pre, sk, rest, l, hl, hb, h => h.elim
  | (k0, c) :: C, lim + 1, H, off, pre, sk, rest, l, hl, hb, h => by
    obtain ⟨A, o', M, e', R, p', sk', h1, h2, h3, h4, h5, h6, h7, h8, h9, h10⟩ := h
    rw [List.length_cons] at hl
    have := h10.opn e2 e3 (l := l) (by omega) hb
    refine ⟨A, o', M, e', R, p' ++ [o], sk', h1, by rw [h2, List.append_assoc]; rfl, h3, h4, h5, h6, h7, h8, h9, ?_⟩
    rw [show off + pre.length = k0 + 1 + p'.length from by rw [h2, h7, List.length_append, List.length_cons]; omega]
    exact this
theorem CxR.cls {o e : Th} {b : List Th} (e2 : thk o = 2) (e3 : thk e = 3) : ∀ {C : List (Nat × Cx)} {lim : Nat} {H : List Th} {off : Nat} {pre : List Th} {sk : Nat} {rest : List Th} {l : Nat}, lim = C.length + l + 1 → lv l 0 b = some 0 → CxR C lim H off pre sk (o :: (b ++ e :: rest)) → CxR C lim H off (pre ++ o :: (b ++ [e])) (sk + tn o * wt skW b) rest
  | [], lim, H, off, pre, sk, rest, l, hl, hb, h => by
    obtain ⟨h1, h2, h3⟩ := h
    obtain rfl : lim = l + 1 := by rw [List.length_nil] at hl; omega
    have hn : lv (l + 1) 0 [] = some 0 := rfl
    have e1 : lv (l + 1) 0 (o :: (b ++ [e])) = some 0 := by
      rw [lv_2 e2 (by omega)]
      have mono : ∀ (b : List Th) (j k : Nat), lv l j b = some k → lv (l + 1) (j + 1) b = some (k + 1) := by
        intro b
        induction b with
        | nil => intro j k h; injection h with h; rw [h]; rfl
        | cons t b ih =>
          intro j k h
          by_cases x2 : thk t = 2
          · rw [lv, if_pos x2] at h
            by_cases hj : j < l
            · rw [if_pos hj] at h
              rw [lv_2 x2 (by omega)]
              exact ih _ _ h
            · rw [if_neg hj] at h; cases h
          · by_cases x3 : thk t = 3
            · rw [lv, if_neg x2, if_pos x3] at h
              by_cases h0 : j = 0
              · rw [if_pos h0] at h; cases h
              · rw [if_neg h0] at h
                obtain ⟨j', rfl⟩ : ∃ j', j = j' + 1 := ⟨j - 1, by omega⟩
                rw [lv_3 x3]
                exact ih _ _ h
            · rw [lv_1 x2 x3] at h ⊢
              exact ih _ _ h
      rw [lv_app b [e] _ _ (mono b 0 0 hb), lv_3 e3]
      rfl
    refine ⟨by rw [h1]; simp only [List.append_assoc, List.cons_append, List.nil_append], by rw [lv_app pre _ 0 0 h2]; exact e1, ?_⟩
    rw [wt_app h2 e1 (Nat.le_refl _), wt_loop e2 e3 hb hn, wt_nil, Nat.add_zero, h3]
  | _ :: _, 0, H, off, pre, sk, rest, l, hl, hb, h => h.elim
  | (k0, c) :: C, lim + 1, H, off, pre, sk, rest, l, hl, hb, h => by
    obtain ⟨A, o', M, e', R, p', sk', h1, h2, h3, h4, h5, h6, h7, h8, h9, h10⟩ := h
    rw [List.length_cons] at hl
    exact ⟨A, o', M, e', R, p' ++ o :: (b ++ [e]), sk' + tn o * wt skW b, h1, by rw [h2, List.append_assoc]; rfl, h3, h4, h5, h6, h7, h8, by rw [h9, Nat.add_assoc], h10.cls e2 e3 (l := l) (by omega) hb⟩
/-- the reference finds them -/
theorem ar_ctx {F K : Nat} {G : List Th} (hK2 : K ≤ 240) : ∀ {C : List (Nat × Cx)} {lim : Nat} {H : List Th} {off : Nat} {pre : List Th} {sk : Nat} {rest G0 G1 : List Th} (d : Nat) (s : ax_σ), CxR C lim H off pre sk rest → G = G0 ++ (H ++ G1) → G0.length = off → off + pre.length ≤ K → d + lim ≤ 2 → ZKd G s → ∃ s', (∀ M, lp_Z_around_4 F (nI K) (M + pre.length) (nI d) (nI off) s = lp_Z_around_4 F (nI K) M (nI (d + C.length)) (nI (off + pre.length)) s') ∧ frm (X46 d) s s' ∧ ∀ (i : Nat) (c : Nat × Cx), C[i]? = some c → s'.1 0 46 (d + i) = nI c.1
  | [], lim, H, off, pre, sk, rest, G0, G1, d, s, h, hG, hl, hK, hd, hk => by
    obtain ⟨h1, h2, h3⟩ := h
    obtain ⟨s', a1, a2⟩ := ar_bal (F := F) h2 hK2 G0 (rest ++ G1) d s (by rw [hG, h1, List.append_assoc]) (by omega) hd hk
    rw [hl] at a1
    exact ⟨s', a1, a2, fun i c hi => by cases hi⟩
  | _ :: _, 0, H, off, pre, sk, rest, G0, G1, d, s, h, _, _, _, _, _ => h.elim
  | (k0, c) :: C, lim + 1, H, off, pre, sk, rest, G0, G1, d, s, h, hG, hl, hK, hd, hk => by
    obtain ⟨A, o, M, e, R, p', sk', h1, h2, h3, h4, h5, h6, h7, h8, h9, h10⟩ := h
    have hpl : pre.length = A.length + 1 + p'.length := by rw [h2, List.length_append, List.length_cons]; omega
    obtain ⟨s1, a1, a2⟩ := ar_bal (F := F) h3 hK2 G0 (o :: (M ++ e :: R) ++ G1) d s (by rw [hG, h1, List.append_assoc]) (by omega) hd hk
    have k1 := hk.keep a2 (fun r k h => by unfold X46; omega)
    have f1 : frm (X46 d) s1 (ax_wI s1 0 46 d (nI (G0 ++ A).length)) := frm.refl.wI _ _ _ _ ⟨rfl, rfl, Nat.le_refl _⟩
    have k2 := k1.keep f1 (fun r k h => by unfold X46; omega)
    have hGA : (G0 ++ A).length = k0 := by rw [List.length_append, hl, h7]
    obtain ⟨s2, b1, b2, b3⟩ := ar_ctx (F := F) (K := K) hK2 (G0 := G0 ++ (A ++ [o])) (G1 := e :: (R ++ G1)) (d + 1) _ h10 (by rw [hG, h1]; simp only [List.append_assoc, List.cons_append, List.nil_append]) (by simp only [List.length_append, List.length_cons, List.length_nil] at hGA ⊢; omega) (by omega) (by omega) k2
    have hao := fun M' => ar_o (F := F) (K := K) (pre := G0 ++ A) (post := M ++ e :: (R ++ G1)) (o := o) (d := d) (M := M') (s := s1) (by rw [hG, h1]; simp only [List.append_assoc, List.cons_append, List.nil_append]) k1 h5 (by omega) hK2 (by omega)
    refine ⟨s2, fun M' => ?_, (a2.trans f1).trans (b2.imp (fun g r k h => by unfold X46 at h ⊢; omega)), fun i c' hi => ?_⟩
    · have e1 := a1 (M' + p'.length + 1)
      rw [hl, ← h7] at e1
      have e2 := hao (M' + p'.length)
      rw [hGA] at e2
      have e3 := b1 M'
      rw [hGA] at e3
      rw [hpl, show M' + (A.length + 1 + p'.length) = M' + p'.length + 1 + A.length from by omega, e1, e2, e3, List.length_cons, show d + 1 + C.length = d + (C.length + 1) from by omega, show k0 + 1 + p'.length = off + (A.length + 1 + p'.length) from by omega]
    · match i, hi with
      | 0, hi =>
        cases hi
        rw [Nat.add_zero, b2.1 0 46 d (by unfold X46; omega), wI_1, if_pos ⟨rfl, rfl, rfl⟩, hGA]
      | i + 1, hi =>
        rw [show d + (i + 1) = d + 1 + i from by omega]
        exact b3 i c' hi
theorem z_around {F : Nat} {D : Ds} {C : List (Nat × Cx)} {pre rest : List Th} {sk : Nat} {s : ax_σ} (hF : 241 ≤ F) (h : CxR C 2 (dH D) 0 pre sk rest) (hk : ZKd (dH D) s) : ∃ s', f_Z_around F (nI pre.length) s = some (nI C.length, s') ∧ frm (X46 0) s s' ∧ ∀ (i : Nat) (c : Nat × Cx), C[i]? = some c → s'.1 0 46 i = nI c.1 := by
  obtain ⟨a, post, b⟩ := h.pre
  have hl := hk.1
  have hpl : pre.length ≤ 240 := by rw [b, List.length_append] at hl; omega
  obtain ⟨s', c1, c2, c3⟩ := ar_ctx (F := F) (K := pre.length) hpl (G := dH D) (G0 := []) (G1 := []) 0 s h (by rw [List.append_nil]; rfl) rfl (by omega) (by omega) hk
  refine ⟨s', ?_, c2, fun i c hi => by have := c3 i c hi; rw [Nat.zero_add] at this; exact this⟩
  have e := c1 (F - pre.length - 1 + 1)
  rw [show F - pre.length - 1 + 1 + pre.length = F from by omega, Nat.zero_add, Nat.zero_add] at e
  show Option.bind (lp_Z_around_4 F (nI pre.length) F (nI 0) (nI 0) s) (fun (v8, s9) => some (v8, s9)) = _
  rw [e, lp_Z_around_4, if_pos (Int32.le_refl _)]
  rfl
