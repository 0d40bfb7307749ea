/-! PURE: operations that can be done, in the class's turn and the reference's -/
def opG (w sn ky N : Nat) (L : List Nat) (i j : Nat) (o : Op) : Prop := (∀ x ∈ o.2.2.2, x.2.1 ≤ 2) ∧ ((o.1 = 1 ∧ o.2.1 < sn) ∨ ((o.1 = 2 ∨ o.1 = 3) ∧ knw L o.2.2.2 = true ∧ ixV o.2.2.2 i j < (if o.1 = 2 then ky else N)) ∨ (o.1 = 4 ∧ o.2.1 < 10 ^ 9 ∧ o.2.1 < wb w) ∨ (o.1 = 5 ∧ o.2.1 < 2 ∧ o.2.1 ∈ L) ∨ (o.1 = 6 ∧ o.2.1 = 0) ∨ (o.1 = 7 ∧ o.2.1 < 10 ^ 9) ∨ (o.1 = 8 ∧ isOp o.2.1))
theorem knw_of {L : List Nat} : ∀ {l : List Tm}, (∀ t ∈ l, t.2.1 ≠ 0 → t.2.1 - 1 ∈ L) → knw L l = true
  | [], _ => rfl
  | t :: l, h => by
    show (decide (t.2.1 = 0 ∨ t.2.1 - 1 ∈ L) && knw L l) = true
    rw [knw_of (fun t ht => h t (List.mem_cons_of_mem _ ht)), Bool.and_true, decide_eq_true_eq]
    by_cases h0 : t.2.1 = 0
    · exact Or.inl h0
    · exact Or.inr (h t (List.mem_cons_self ..) h0)
theorem ixV_cg {L : List Nat} {l : List Tm} {i j i' j' : Nat} (hl : ∀ t ∈ l, t.2.1 ≤ 2) (hk : knw L l = true) (h0 : 0 ∈ L → i = i') (h1 : 1 ∈ L → j = j') : ixV l i j = ixV l i' j' := by
  obtain ⟨k0, k1⟩ := knw_0 hl hk
  unfold ixV
  have e0 : ixI l * i = ixI l * i' := by
    by_cases h : 0 ∈ L
    · rw [h0 h]
    · rw [k0 h, Nat.zero_mul, Nat.zero_mul]
  have e1 : ixJ l * j = ixJ l * j' := by
    by_cases h : 1 ∈ L
    · rw [h1 h]
    · rw [k1 h, Nat.zero_mul, Nat.zero_mul]
  rw [e0, e1]
theorem op_g {w sn tot ky N sk a b i j : Nat} {C : List Cx} {L w' : List Nat} {o : Op} {wr : Bool} (ho : okOp w' o) (hw' : ∀ q ∈ w', q < 240) (hN : opN sn w 1928 L o) (hG : gxO 1928 tot ky C sk wr o) (hC : cxOK C L a b i j) (hB : (if wr = true then bf C sk a b else tot) = N) : opG w sn ky N L i j o := by
  obtain ⟨n1, n2, n3, n4, n5⟩ := hN
  obtain ⟨c1, c2, c3, c4, c5, -, -⟩ := hC
  rcases ho with ⟨h, h1, h2, h3⟩ | ⟨h, h1, h2, h3⟩ | ⟨h, h1, h2, h3⟩ | ⟨h, h1, h2, h3⟩ | ⟨h, h1, h2, h3⟩ | ⟨h, h1, h2, h3⟩ | ⟨h, h1, h2, h3⟩
  · have := hw' _ h2
    refine ⟨(fun x hx => by rw [h3] at hx; exact absurd hx List.not_mem_nil), Or.inl ⟨h, ?_⟩⟩
    by_cases hh : o.2.1 < sn
    · exact hh
    · have := n1 h hh; omega
  · have hp := hw' _ h2
    have hl : ∀ x ∈ o.2.2.2, x.2.1 ≤ 2 := fun x hx => (h3 x hx).2.1
    have hk : knw L o.2.2.2 = true := knw_of (fun x hx h0 => by
      by_cases hh : x.2.1 - 1 ∈ L
      · exact hh
      · have q1 := n2 h x hx h0 hh
        have q2 := hw' _ (h3 x hx).2.2
        omega)
    refine ⟨hl, Or.inr (Or.inl ⟨h, hk, ?_⟩)⟩
    have e := ixV_cg (i := rv C a b 0) (j := rv C a b 1) (i' := i) (j' := j) hl hk c4 c5
    rw [← e]
    by_cases hh : ixV o.2.2.2 (rv C a b 0) (rv C a b 1) < (if o.1 = 2 then ky else N)
    · exact hh
    · have q := hG h (by rw [← c1]; exact hk) ⟨a, b, c2, c3, ?_⟩
      · omega
      · by_cases h2' : o.1 = 2
        · rw [if_pos h2'] at hh ⊢
          omega
        · rw [if_neg h2'] at hh ⊢
          rw [hB]
          omega
  · have := hw' _ h2
    refine ⟨(fun x hx => by rw [h3] at hx; exact absurd hx List.not_mem_nil), Or.inr (Or.inr (Or.inl ⟨h, h1, ?_⟩))⟩
    by_cases hh : o.2.1 < wb w
    · exact hh
    · have := n3 h hh; omega
  · have := hw' _ h2
    refine ⟨(fun x hx => by rw [h3] at hx; exact absurd hx List.not_mem_nil), Or.inr (Or.inr (Or.inr (Or.inl ⟨h, h1, ?_⟩)))⟩
    by_cases hh : o.2.1 ∈ L
    · exact hh
    · have := n4 h hh; omega
  · exact ⟨(fun x hx => by rw [h3] at hx; exact absurd hx List.not_mem_nil), Or.inr (Or.inr (Or.inr (Or.inr (Or.inl ⟨h, h1⟩))))⟩
  · exact ⟨(fun x hx => by rw [h3] at hx; exact absurd hx List.not_mem_nil), Or.inr (Or.inr (Or.inr (Or.inr (Or.inr (Or.inl ⟨h, h1⟩)))))⟩
  · exact ⟨(fun x hx => by rw [h3] at hx; exact absurd hx List.not_mem_nil), Or.inr (Or.inr (Or.inr (Or.inr (Or.inr (Or.inr ⟨h, h1⟩)))))⟩
/-- what values are taken from fits an entry -/
def evF (w N : Nat) (L : List Nat) (i j : Nat) (E : Ev) : Prop := evW E = w ∧ (0 ∈ L → evI E = i) ∧ (1 ∈ L → evJ E = j) ∧ evI E ≤ 16 ∧ evJ E ≤ 16 ∧ (∀ k, k < 4 → bW w (evA E k)) ∧ (∀ k, k < 4 → bW w (evK E k)) ∧ (∀ k, k < N → bW w (evS E k))
theorem wb_pw {w n : Nat} (hw : okW w) (h : n < wb w) : n < 2 ^ w := by
  unfold wb at h
  rcases hw with e | e | e | e <;> subst e <;> simp at h <;> omega
section
variable {E : Ev} {o : Op}
theorem lfV_1 (h : o.1 = 1) : lfV E o = evA E o.2.1 := by unfold lfV; rw [if_pos h]
theorem lfV_2 (h : o.1 = 2) : lfV E o = evK E (ixV o.2.2.2 (evI E) (evJ E)) := by unfold lfV; rw [if_neg (by omega), if_pos h]
theorem lfV_3 (h : o.1 = 3) : lfV E o = evS E (ixV o.2.2.2 (evI E) (evJ E)) := by unfold lfV; rw [if_neg (by omega), if_neg (by omega), if_pos h]
theorem lfV_4 (h : o.1 = 4) : lfV E o = lN o.2.1 := by unfold lfV; rw [if_neg (by omega), if_neg (by omega), if_neg (by omega), if_pos h]
theorem lfV_5 (h : o.1 = 5) : lfV E o = lN (if o.2.1 = 0 then evI E else evJ E) := by unfold lfV; rw [if_neg (by omega), if_neg (by omega), if_neg (by omega), if_neg (by omega)]
end
theorem gd_of {w sn ky N i j : Nat} {L : List Nat} {o : Op} {E : Ev} (hW : okW w) (h : opG w sn ky N L i j o) (hE : evF w N L i j E) (hsn : sn ≤ 4) (hky : ky ≤ 4) (hN : N ≤ 32) : gdO E o ∧ (∀ x ∈ o.2.2.2, x.2.1 ≤ 2) ∧ (o.1 ≤ 5 → bW (evW E) (lfV E o)) := by
  obtain ⟨hl, h⟩ := h
  obtain ⟨e1, e2, e3, e4, e5, e6, e7, e8⟩ := hE
  rw [e1]
  have small : ∀ x, x ≤ 16 → bW w (lN x) := fun x hx => bW_lN (by
    have : 2 ^ 8 ≤ 2 ^ w := Nat.pow_le_pow_right (by omega) (by rcases hW with e | e | e | e <;> omega)
    omega)
  rcases h with ⟨h, h1⟩ | ⟨h, h1, h2⟩ | ⟨h, h1, h2⟩ | ⟨h, h1, h2⟩ | ⟨h, h1⟩ | ⟨h, h1⟩ | ⟨h, h1⟩
  · refine ⟨Or.inl ⟨h, by omega⟩, hl, fun _ => ?_⟩
    unfold lfV
    rw [if_pos h]
    exact e6 _ (by omega)
  · have e := ixV_cg (i := evI E) (j := evJ E) hl h1 e2 e3
    rcases h with h | h
    · rw [if_pos h] at h2
      refine ⟨Or.inr (Or.inl ⟨h, by rw [e]; omega⟩), hl, fun _ => ?_⟩
      unfold lfV
      rw [if_neg (by omega), if_pos h]
      exact e7 _ (by rw [e]; omega)
    · rw [if_neg (by omega)] at h2
      refine ⟨Or.inr (Or.inr (Or.inl ⟨h, by rw [e]; omega⟩)), hl, fun _ => ?_⟩
      unfold lfV
      rw [if_neg (by omega), if_neg (by omega), if_pos h]
      exact e8 _ (by rw [e]; omega)
  · refine ⟨Or.inr (Or.inr (Or.inr (Or.inl ⟨h, h1⟩))), hl, fun _ => ?_⟩
    unfold lfV
    rw [if_neg (by omega), if_neg (by omega), if_neg (by omega), if_pos h]
    exact bW_lN (wb_pw hW h2)
  · refine ⟨Or.inr (Or.inr (Or.inr (Or.inr (Or.inl ⟨h, h1⟩)))), hl, fun _ => ?_⟩
    unfold lfV
    rw [if_neg (by omega), if_neg (by omega), if_neg (by omega), if_neg (by omega)]
    exact small _ (by split <;> omega)
  · exact ⟨Or.inr (Or.inr (Or.inr (Or.inr (Or.inr (Or.inl ⟨h, h1⟩))))), hl, fun h5 => by omega⟩
  · exact ⟨Or.inr (Or.inr (Or.inr (Or.inr (Or.inr (Or.inr (Or.inl ⟨h, h1⟩)))))), hl, fun h5 => by omega⟩
  · exact ⟨Or.inr (Or.inr (Or.inr (Or.inr (Or.inr (Or.inr (Or.inr ⟨h, h1⟩)))))), hl, fun h5 => by omega⟩
theorem lf_eq {w sn ky N i j : Nat} {L : List Nat} {o : Op} {E E' : Ev} (h : opG w sn ky N L i j o) (hE : evF w N L i j E) (hE' : evF w N L i j E') (hsn : sn ≤ 4) (hky : ky ≤ 4) (hA : ∀ k, k < 4 → evA E k = evA E' k) (hK : ∀ k, k < 4 → evK E k = evK E' k) (hS : ∀ k, k < N → evS E k = evS E' k) (h5 : o.1 ≤ 5) : lfV E o = lfV E' o := by
  obtain ⟨hl, h⟩ := h
  obtain ⟨e1, e2, e3, -⟩ := hE
  obtain ⟨f1, f2, f3, -⟩ := hE'
  rcases h with ⟨h, h1⟩ | ⟨h, h1, h2⟩ | ⟨h, h1, h2⟩ | ⟨h, h1, h2⟩ | ⟨h, h1⟩ | ⟨h, h1⟩ | ⟨h, h1⟩
  · rw [lfV_1 h, lfV_1 h]
    exact hA _ (by omega)
  · have e := ixV_cg (i := evI E) (j := evJ E) hl h1 e2 e3
    have f := ixV_cg (i := evI E') (j := evJ E') hl h1 f2 f3
    rcases h with h | h
    · rw [if_pos h] at h2
      rw [lfV_2 h, lfV_2 h, e, f]
      exact hK _ (by omega)
    · rw [if_neg (by omega)] at h2
      rw [lfV_3 h, lfV_3 h, e, f]
      exact hS _ h2
  · rw [lfV_4 h, lfV_4 h]
  · rw [lfV_5 h, lfV_5 h]
    by_cases h0 : o.2.1 = 0
    · rw [if_pos h0, if_pos h0, e2 (h0 ▸ h2), f2 (h0 ▸ h2)]
    · have h1' : o.2.1 = 1 := by omega
      rw [if_neg h0, if_neg h0, e3 (h1' ▸ h2), f3 (h1' ▸ h2)]
  · omega
  · omega
  · omega
theorem ex_cg {E E' : Ev} (hw : evW E = evW E') : ∀ (e : List Op) (st : List Int64), (∀ o ∈ e, o.1 ≤ 5 → lfV E o = lfV E' o) → e.foldl (evO E) st = e.foldl (evO E') st
  | [], _, _ => rfl
  | o :: e, st, h => by
    rw [List.foldl_cons, List.foldl_cons]
    have : evO E st o = evO E' st o := by
      unfold evO
      by_cases h5 : o.1 ≤ 5
      · rw [if_pos h5, if_pos h5, h o (List.mem_cons_self ..) h5]
      · rw [if_neg h5, if_neg h5, hw]
    rw [this]
    exact ex_cg hw e _ (fun o ho => h o (List.mem_cons_of_mem _ ho))
theorem ex_eq {w sn ky N i j : Nat} {L : List Nat} {e : List Op} {E E' : Ev} (h : ∀ o ∈ e, opG w sn ky N L i j o) (hE : evF w N L i j E) (hE' : evF w N L i j E') (hsn : sn ≤ 4) (hky : ky ≤ 4) (hA : ∀ k, k < 4 → evA E k = evA E' k) (hK : ∀ k, k < 4 → evK E k = evK E' k) (hS : ∀ k, k < N → evS E k = evS E' k) : exV E e = exV E' e := by
  unfold exV
  rw [ex_cg (hE.1.trans hE'.1.symm) e [] (fun o ho h5 => lf_eq (h o ho) hE hE' hsn hky hA hK hS h5)]
