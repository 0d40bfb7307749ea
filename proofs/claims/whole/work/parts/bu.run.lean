/-! PURE: steps of a run -/
section
variable {D : Ds} {A K S : Nat → Int64} {en : Nat → Nat → Nat → Int32}
theorem bkL_r {f : Nat → Int32} {i : Int32} : ∀ (n : Nat) (acc : Int32), bkL f i n acc = acc ∨ ∃ v, v < n ∧ bkL f i n acc = nI v
  | 0, _ => Or.inl rfl
  | n + 1, acc => by
    rw [bkL]
    rcases bkL_r (f := f) (i := i) n (if f n = i then nI n else acc) with h | ⟨v, h1, h2⟩
    · rw [h]
      by_cases hh : f n = i
      · rw [if_pos hh]; exact Or.inr ⟨n, by omega, rfl⟩
      · rw [if_neg hh]; exact Or.inl rfl
    · exact Or.inr ⟨v, by omega, h2⟩
def enOK (D : Ds) (en : Nat → Nat → Nat → Int32) : Prop := ∀ (u : Nat) (x : Tb), (dT D)[u]? = some x → ∀ k, k < 16 → en u 0 k = nI (tbE x k) ∧ en u 1 k = bkL (fun y => nI (tbE x y)) (nI k) 16 nM
theorem gt_of {L : List Nat} {i j : Nat} {t : Th} {E : Ev} (h : SD D) (hst : stG D L i j t) (hE : evF D.1.1 (tot D) L i j E) (hen : enOK D en) : gdT E en t := by
  obtain ⟨n1, n2, n3, -, n5, n6, n7, n8, n9⟩ := h.nums
  have hW : D.1.1 ≤ 64 := by rcases n5 with h | h | h | h <;> omega
  obtain ⟨h1, h2⟩ := hst
  refine ⟨by omega, ?_⟩
  rcases h2 with ⟨e, e1, e2, e3⟩ | ⟨e, e1, e2⟩ | ⟨e, e1⟩ | ⟨e, e1⟩ | ⟨e, e1, e2⟩ | ⟨e, e1, e2⟩
  · exact Or.inl ⟨e, e1, e2, fun o ho => gd_of n5 (e3 o ho) hE n6 n7 n1⟩
  · exact Or.inr (Or.inl ⟨e, e1, e2⟩)
  · exact Or.inr (Or.inr (Or.inl ⟨e, by omega⟩))
  · exact Or.inr (Or.inr (Or.inr (Or.inl ⟨e, by omega⟩)))
  · refine Or.inr (Or.inr (Or.inr (Or.inr (Or.inl ⟨e, by omega, fun d hd k hk => ?_⟩))))
    have hx : (dT D)[thv t]? = some (dT D)[thv t] := List.getElem?_eq_getElem e1
    obtain ⟨y1, y2⟩ := hen _ _ hx k hk
    obtain ⟨z1, z2⟩ := e2 _ hx k hk
    rcases (by omega : d = 0 ∨ d = 1) with h0 | h0
    · rw [h0]; exact ⟨_, y1, z1⟩
    · rw [h0, y2]
      rcases bkL_r (f := fun y => nI (tbE (dT D)[thv t] y)) (i := nI k) 16 nM with hh | ⟨v, v1, v2⟩
      · exact absurd hh z2
      · exact ⟨v, v2, v1⟩
  · exact Or.inr (Or.inr (Or.inr (Or.inr (Or.inr ⟨e, e1, e2.2⟩))))
theorem upL_bW {w x : Nat} {v : Int64} {A : Nat → Int64} (hA : ∀ k, k < 4 → bW w (A k)) (hv : bW w v) : ∀ k, k < 4 → bW w (upL A x v k) := by
  intro k hk
  unfold upL
  split
  · exact hv
  · exact hA k hk
theorem stA_bW {E : Ev} {t : Th} {d : Nat} (hW : okW (evW E)) (hd : d < 2) (hA : ∀ k, k < 4 → bW (evW E) (evA E k)) (hg : gdT E en t) : ∀ k, k < 4 → bW (evW E) (stA E en d t k) := by
  obtain ⟨hw, hg⟩ := hg
  have hx := hA _ hw
  unfold stA
  rcases hg with ⟨e, e1, e2, e3⟩ | ⟨e, e1, e2⟩ | ⟨e, e1⟩ | ⟨e, e1⟩ | ⟨e, e1, e2⟩ | ⟨e, e1, e2⟩
  · have hv := exV_bW hW (fun o ho => (e3 o ho).2.2)
    by_cases h4 : thk t = 4
    · rw [if_pos h4]; exact upL_bW hA (bW_xor hx hv)
    · rw [if_neg h4]
      by_cases h5 : thk t = 5
      · rw [if_pos h5]; exact upL_bW hA (bW_mk hW _)
      · rw [if_neg h5, if_pos (by omega)]; exact upL_bW hA (bW_mk hW _)
  · rw [if_neg (by omega), if_neg (by omega), if_neg (by omega), if_pos e]; exact upL_bW hA (bW_mk hW _)
  · rw [if_neg (by omega), if_neg (by omega), if_neg (by omega), if_neg (by omega), if_pos e]; exact upL_bW hA (bW_rtw hW)
  · rw [if_neg (by omega), if_neg (by omega), if_neg (by omega), if_neg (by omega), if_neg (by omega)]
    by_cases h9 : thk t = 9
    · rw [if_pos h9]; exact upL_bW hA (bW_rtw hW)
    · rw [if_neg h9, if_pos (by omega)]; exact upL_bW (upL_bW hA hx) (hA _ e1)
  · rw [if_neg (by omega), if_neg (by omega), if_neg (by omega), if_neg (by omega), if_neg (by omega), if_neg (by omega), if_neg (by omega), if_pos e]
    exact upL_bW hA (rp_bW hW (e2 d hd) _ _ _ (by rcases hW with h | h | h | h <;> omega) (bW_0 _))
  · rw [if_neg (by omega), if_neg (by omega), if_neg (by omega), if_neg (by omega), if_neg (by omega), if_neg (by omega), if_neg (by omega), if_neg (by omega)]
    exact upL_bW hA (bW_spN hW _ _ hx)
theorem stA_cg {E E' : Ev} {t : Th} {d : Nat} (hw : evW E = evW E') (hA : evA E = evA E') (hx : (4 ≤ thk t ∧ thk t ≤ 6) → exV E (the t) = exV E' (the t)) : stA E en d t = stA E' en d t := by
  unfold stA
  rw [hw, hA]
  by_cases h : 4 ≤ thk t ∧ thk t ≤ 6
  · rw [hx h]
  · have h4 : ¬ thk t = 4 := by omega
    have h5 : ¬ thk t = 5 := by omega
    have h6 : ¬ thk t = 6 := by omega
    rw [if_neg h4, if_neg h4, if_neg h5, if_neg h5, if_neg h6, if_neg h6]
/-- the state behind the step p -/
def stP (D : Ds) (en : Nat → Nat → Nat → Int32) (K S : Nat → Int64) (d p : Nat) (A : Nat → Int64) : Nat → Int64 := match (trS D)[p]? with
  | some e => match (dH D)[e.1]? with
    | some t => stA (D.1.1, A, K, S, e.2.2.1, e.2.2.2.1) en d t
    | none => A
  | none => A
theorem stP_t {d p : Nat} {e : Q5} {t : Th} (he : (trS D)[p]? = some e) (ht : (dH D)[e.1]? = some t) : stP D en K S d p A = stA (D.1.1, A, K, S, e.2.2.1, e.2.2.2.1) en d t := by
  unfold stP
  rw [he]
  simp only
  rw [ht]
/-- words that fit -/
def wOK (D : Ds) (A K S : Nat → Int64) : Prop := (∀ k, k < 4 → bW D.1.1 (A k)) ∧ (∀ k, k < 4 → bW D.1.1 (K k)) ∧ (∀ k, k < tot D → bW D.1.1 (S k))
theorem ev_f {e : Q5} {i j : Nat} {M : Nat → Int64} (hw : wOK D A K S) (hM : ∀ k, k < tot D → M k = S k) (h0 : 0 ∈ e.2.2.2.2 → i = e.2.2.1) (h1 : 1 ∈ e.2.2.2.2 → j = e.2.2.2.1) (hi : i ≤ 16) (hj : j ≤ 16) : evF D.1.1 (tot D) e.2.2.2.2 e.2.2.1 e.2.2.2.1 (D.1.1, A, K, M, i, j) := ⟨rfl, h0, h1, hi, hj, hw.1, hw.2.1, fun k hk => by show bW D.1.1 (M k); rw [hM k hk]; exact hw.2.2 k hk⟩
theorem stP_bW {d p : Nat} (h : SD D) (hd : d < 2) (hen : enOK D en) (hw : wOK D A K S) : wOK D (stP D en K S d p A) K S := by
  refine ⟨?_, hw.2⟩
  obtain ⟨n1, n2, n3, -, n5, n6, n7, n8, n9⟩ := h.nums
  cases he : (trS D)[p]? with
  | none =>
    have : stP D en K S d p A = A := by unfold stP; rw [he]
    rw [this]
    exact hw.1
  | some e =>
    obtain ⟨t, pb, sk, a1, -, -, -, a5, a6, a7⟩ := h.st he
    rw [stP_t he a1]
    exact stA_bW (E := (D.1.1, A, K, S, e.2.2.1, e.2.2.2.1)) n5 hd hw.1 (gt_of h a5 (ev_f hw (fun _ _ => rfl) (fun _ => rfl) (fun _ => rfl) (by omega) (by omega)) hen)
theorem m_st {F g d p : Nat} {s : ax_σ} (hF : 241 ≤ F) (h : SD D) (hd : d < 2) (hp : p < (trS D).length) (hen : enOK D en) (hw : wOK D A K S) (hM : MC g D s) (hA : ∀ k, k < 4 → s.2 0 34 k = A k) (hK : ∀ k, k < 4 → s.2 0 33 k = K k) (hS : ∀ k, k < tot D → s.2 0 35 k = S k) (ht : ∀ u k, u < (dT D).length → k < 16 → s.1 g 2 (u * 16 + k) = en u 0 k ∧ s.1 g 3 (u * 16 + k) = en u 1 k) : ∃ s', f_M_change F g (s.1 g 20 (tot D + p)) (nI d) s = some s' ∧ (∀ k, k < 4 → s'.2 0 34 k = stP D en K S d p A k) ∧ frm XMs s s' := by
  obtain ⟨n1, n2, n3, -, n5, n6, n7, n8, n9⟩ := h.nums
  have he : (trS D)[p]? = some (trS D)[p] := List.getElem?_eq_getElem hp
  generalize (trS D)[p] = e at he
  obtain ⟨t, pb, sk, a1, a2, a3, a4, a5, a6, a7⟩ := h.st he
  have hT : (TRD D)[tot D + p]? = some e := by
    show (trW D ++ trS D)[tot D + p]? = _
    rw [List.getElem?_append_right (by omega), n2, Nat.add_sub_cancel_left]
    exact he
  have hcd := hM.2.2.1 _ e hT
  have hE := ev_f (e := e) (i := e.2.2.1) (j := e.2.2.2.1) (M := fun k => s.2 0 35 k) hw hS (fun _ => rfl) (fun _ => rfl) (by omega) (by omega)
  have hE' := ev_f (e := e) (i := e.2.2.1) (j := e.2.2.2.1) (M := S) hw (fun _ _ => rfl) (fun _ => rfl) (fun _ => rfl) (by omega) (by omega)
  have hg := gt_of h a5 hE hen
  have hln := get_lt a3
  have hl := hM.1.2.2 _ _ a3
  have hlT : lnT t pb sk = (kc (thk t), thw t, opd pb (wkOf t), pb, pb + npT t, 0) := by unfold lnT; rw [if_neg (by omega)]
  rw [hlT] at hl
  obtain ⟨l1, l2, l3, l4, l5, -⟩ := hl
  have hpl : thk t ≤ 6 ∨ thk t = 12 → pb + npT t ≤ 240 := by
    intro h612
    by_cases h0 : npT t = 0
    · exfalso
      unfold npT at h0
      rw [if_neg (by omega)] at h0
      rcases a5.2 with ⟨-, e, -⟩ | ⟨e, -⟩ | ⟨e, -⟩ | ⟨e, -⟩ | ⟨e, -⟩ | ⟨-, -, e, -⟩
      · rw [List.length_eq_zero_iff.mp (by omega : (the t).length = 0)] at e
        cases e
      · omega
      · omega
      · omega
      · omega
      · omega
    · have hq : npT t - 1 < (p5L e.2.2.2.2 t).length := by rw [p5L_len]; omega
      have := get_lt (a4 (npT t - 1) _ (List.getElem?_eq_getElem hq))
      have := hM.2.1.1
      omega
  have hC : StC g e.2.1 pb e.2.2.2.2 t s := ⟨by have := hM.1.1; omega, ⟨l1, l2, l3, l4, l5⟩, hpl, fun q x hx => by
    have := hM.2.1.2 _ _ (a4 q x hx)
    exact ⟨this.1, this.2.1, this.2.2.1, this.2.2.2.1⟩⟩
  obtain ⟨s', b1, b2, b3⟩ := m_step (F := F) (g := g) (ln := e.2.1) (pb := pb) (d := d) (L := e.2.2.2.2) (E := (D.1.1, A, K, fun k => s.2 0 35 k, e.2.2.1, e.2.2.2.1)) (t := t) (en := en) (s := s) hF n5 a6 a7 hd hw.1 hg hC ⟨hM.2.2.2.2, hA, hK, fun _ _ => rfl⟩ (fun h11 k hk => by
    have hu : thv t < (dT D).length := by
      rcases a5.2 with ⟨e, -⟩ | ⟨e, -⟩ | ⟨e, -⟩ | ⟨e, -⟩ | ⟨-, e, -⟩ | ⟨e, -⟩
      · omega
      · omega
      · omega
      · omega
      · exact e
      · omega
    exact ⟨fun _ => (ht _ k hu hk).1, fun _ => (ht _ k hu hk).2⟩)
  refine ⟨s', by rw [hcd]; exact b1, fun k hk => ?_, b3⟩
  rw [b2 k hk, stP_t he a1, stA_cg (E := (D.1.1, A, K, fun k => s.2 0 35 k, e.2.2.1, e.2.2.2.1)) (E' := (D.1.1, A, K, S, e.2.2.1, e.2.2.2.1)) rfl rfl (fun hk => by
    rcases a5.2 with ⟨-, -, -, e3⟩ | ⟨e, -⟩ | ⟨e, -⟩ | ⟨e, -⟩ | ⟨e, -⟩ | ⟨e, -⟩
    · exact ex_eq e3 hE hE' n6 n7 (fun _ _ => rfl) (fun _ _ => rfl) hS
    · omega
    · omega
    · omega
    · omega
    · omega)]
end
