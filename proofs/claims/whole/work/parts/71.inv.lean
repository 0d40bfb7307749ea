/-! PURE: what holds between two calls -/
/-- the places that the text, write, wipe and 'thrown' are about -/
def pr_Tb (g r k : Nat) : Bool := Nat.beq g 0 && ((Nat.beq r 23 && Nat.beq k 1) || Nat.beq r 24 || (Nat.beq r 38 && (Nat.beq k 0 || Nat.beq k 2)) || Nat.beq r 39)
/-- a memory without them, and without the law's own array -/
def msk (s : ax_σ) : ax_σ := (fun g r k => bif pr_Tb g r k then 0 else s.1 g r k, fun g r k => bif Nat.beq r 37 then 0 else s.2 g r k)
theorem pr_Tb_T {g r k : Nat} : pr_Tb g r k = true ↔ pr_T g r k := by
  unfold pr_Tb pr_T
  simp only [Bool.and_eq_true, Bool.or_eq_true, Nat.beq_eq]
  constructor
  · rintro ⟨h, (((⟨a, b⟩ | a) | ⟨a, b | b⟩) | a)⟩
    · exact ⟨h, Or.inl ⟨a, b⟩⟩
    · exact ⟨h, Or.inr (Or.inl a)⟩
    · exact ⟨h, Or.inr (Or.inr (Or.inl ⟨a, Or.inl b⟩))⟩
    · exact ⟨h, Or.inr (Or.inr (Or.inl ⟨a, Or.inr b⟩))⟩
    · exact ⟨h, Or.inr (Or.inr (Or.inr a))⟩
  · rintro ⟨h, (⟨a, b⟩ | a | ⟨a, b | b⟩ | a)⟩
    · exact ⟨h, Or.inl (Or.inl (Or.inl ⟨a, b⟩))⟩
    · exact ⟨h, Or.inl (Or.inl (Or.inr a))⟩
    · exact ⟨h, Or.inl (Or.inr ⟨a, Or.inl b⟩)⟩
    · exact ⟨h, Or.inl (Or.inr ⟨a, Or.inr b⟩)⟩
    · exact ⟨h, Or.inr a⟩
theorem msk_1 {s : ax_σ} {g r k : Nat} (h : pr_Tb g r k = false) : (msk s).1 g r k = s.1 g r k := by
  show (bif pr_Tb g r k then 0 else s.1 g r k) = _
  rw [h]; rfl
theorem msk_2 {s : ax_σ} {g r k : Nat} (h : Nat.beq r 37 = false) : (msk s).2 g r k = s.2 g r k := by
  show (bif Nat.beq r 37 then 0 else s.2 g r k) = _
  rw [h]; rfl
theorem msk_fr {s s' : ax_σ} (h : pr_fr pr_T s s') : msk s' = msk s := by
  unfold msk
  refine Prod.ext ?_ ?_
  · funext g r k
    show (bif pr_Tb g r k then 0 else s'.1 g r k) = (bif pr_Tb g r k then 0 else s.1 g r k)
    cases hb : pr_Tb g r k with
    | true => rfl
    | false => exact h.1 g r k (fun z => by rw [pr_Tb_T.mpr z] at hb; cases hb)
  · show (fun g r k => bif Nat.beq r 37 then 0 else s'.2 g r k) = _
    rw [h.2]
theorem msk_th (s : ax_σ) (v : Int32) : msk (ax_wI s 0 38 0 v) = msk s := msk_fr (pr_fr.refl.w 0 38 0 v ⟨rfl, Or.inr (Or.inr (Or.inl ⟨rfl, Or.inl rfl⟩))⟩)
theorem msk_o (s : ax_σ) (v : Int64) : msk (pr_o s v) = msk s := by
  unfold msk pr_o
  refine Prod.ext rfl ?_
  funext g r k
  show (bif Nat.beq r 37 then 0 else ax_uL s.2 0 37 ((0 : Int32)).toNatClampNeg v g r k) = (bif Nat.beq r 37 then 0 else s.2 g r k)
  cases hb : Nat.beq r 37 with
  | true => rfl
  | false =>
    have : r ≠ 37 := fun e => by subst e; cases hb
    show ax_uL s.2 0 37 ((0 : Int32)).toNatClampNeg v g r k = s.2 g r k
    unfold ax_uL
    rw [if_neg (fun e => this e.2.1)]
/-- what holds: I0 says what of the rest -/
def pr_I (I0 : Option Nat → ax_σ → Prop) (ph : Option Nat) (s : ax_σ) : Prop := (∃ n f, pr_tx n f s) ∧ s.1 0 23 2 = s.1 0 38 6 ∧ s.1 0 38 5 = (if ph.isSome then 1 else 0) ∧ I0 ph (msk s)
section
variable {I0 : Option Nat → ax_σ → Prop} {ph : Option Nat} {s : ax_σ}
theorem pr_I.th (h : pr_I I0 ph s) (v : Int32) : pr_I I0 ph (ax_wI s 0 38 0 v) := by
  obtain ⟨⟨n, f, hn, h1, h2, h3⟩, h4, h5, h6⟩ := h
  refine ⟨⟨n, f, hn, by rw [wI_1, if_neg (by omega)]; exact h1, by rw [wI_1, if_neg (by omega)]; exact h2, fun k hk => ⟨(h3 k hk).1, by rw [wI_1, if_neg (by omega)]; exact (h3 k hk).2.1, by rw [wI_1, if_neg (by omega)]; exact (h3 k hk).2.2⟩⟩, ?_, ?_, ?_⟩
  · rw [wI_1, wI_1, if_neg (by omega), if_neg (by omega)]; exact h4
  · rw [wI_1, if_neg (by omega)]; exact h5
  · rw [msk_th]; exact h6
theorem pr_I.o (h : pr_I I0 ph s) (v : Int64) : pr_I I0 ph (pr_o s v) := by
  obtain ⟨h1, h4, h5, h6⟩ := h
  exact ⟨h1, h4, h5, by rw [msk_o]; exact h6⟩
theorem pr_I.fr {s' : ax_σ} (h : pr_I I0 ph s) (hf : pr_fr pr_T s s') (ht : ∃ n f, pr_tx n f s') : pr_I I0 ph s' := by
  obtain ⟨h1, h4, h5, h6⟩ := h
  refine ⟨ht, ?_, ?_, ?_⟩
  · rw [hf.1 0 23 2 (by unfold pr_T; omega), hf.1 0 38 6 (by unfold pr_T; omega)]; exact h4
  · rw [hf.1 0 38 5 (by unfold pr_T; omega)]; exact h5
  · rw [msk_fr hf]; exact h6
theorem iv_write (a : Int64) (h : pr_I I0 ph s) : ∃ F r s1 F2 s2, f_X_write F a s = some (r, s1) ∧ f_Z_write F2 a s1 = some (r, s2) ∧ pr_I I0 ph s2 := by
  obtain ⟨n, f, hx⟩ := h.1
  obtain ⟨r, s1, s2, e1, e2, e3, e4⟩ := pu_write a hx
  exact ⟨9, r, s1, 9, s2, e1, e2, h.fr e3 e4⟩
theorem iv_wipe (h : pr_I I0 ph s) : ∃ r s1 s2, f_X_wipe s = some (r, s1) ∧ f_Z_wipe s1 = some (r, s2) ∧ pr_I I0 ph s2 := by
  obtain ⟨n, f, hn, h1, h2, h3⟩ := h.1
  refine ⟨nI n, ax_wI s 0 23 1 0, ax_wI (ax_wI (ax_wI s 0 23 1 0) 0 38 0 0) 0 38 2 0, ?_, ?_, h.fr (((pr_fr.refl.w 0 23 1 0 ⟨rfl, Or.inl ⟨rfl, rfl⟩⟩).w 0 38 0 0 ⟨rfl, Or.inr (Or.inr (Or.inl ⟨rfl, Or.inl rfl⟩))⟩).w 0 38 2 0 ⟨rfl, Or.inr (Or.inr (Or.inl ⟨rfl, Or.inr rfl⟩))⟩) ⟨0, f, Nat.zero_le _, ?_, ?_, fun k hk => absurd hk (Nat.not_lt_zero k)⟩⟩
  · unfold f_X_wipe ax_let; rw [h1]
  · unfold f_Z_wipe
    simp only [ax_let]
    rw [wI_1, if_neg (by omega), wI_1, if_neg (by omega), h2]
  · rw [wI_1, if_neg (by omega), wI_1, if_neg (by omega), wI_1, if_pos ⟨rfl, rfl, rfl⟩]; rfl
  · rw [wI_1, if_pos ⟨rfl, rfl, rfl⟩]; rfl
theorem iv_place (h : pr_I I0 ph s) : ∃ r s2, f_X_place s = some r ∧ f_Z_place s = some (r, s2) ∧ pr_I I0 ph s2 := by
  refine ⟨s.1 0 23 2, ax_wI s 0 38 0 0, rfl, ?_, h.th 0⟩
  unfold f_Z_place
  simp only [ax_let]
  rw [wI_1, if_neg (by omega), ← h.2.1]
theorem iv_has0 (h : pr_I I0 none s) : s.1 0 38 5 = 0 := h.2.2.1
theorem iv_has1 {g : Nat} (h : pr_I I0 (some g) s) : s.1 0 38 5 = 1 := h.2.2.1
theorem iv_print0 (a : Int32) (h : pr_I I0 none s) : ∃ r s2, f_X_print_0 a = some r ∧ f_Z_print_I a s = some (r, s2) ∧ pr_I I0 none s2 := by
  refine ⟨-1, ax_wI s 0 38 0 0, rfl, ?_, h.th 0⟩
  unfold f_Z_print_I
  simp only [ax_let]
  rw [show (ax_wI s 0 38 0 0).1 0 38 5 = 0 from (by rw [wI_1, if_neg (by omega)]; exact iv_has0 h), if_pos rfl]
  rfl
theorem iv_thrown (v : Int32) : f_Z_thrown (ax_wI s 0 38 0 v) = some v := by
  unfold f_Z_thrown
  rw [wI_1, if_pos ⟨rfl, rfl, rfl⟩]
end
