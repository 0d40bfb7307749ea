/-! PURE: the reader's own steps -/
/-- the signs T of a text of n characters, as the reader holds them -/
def rdC (n : Nat) (T : List Tok) (s : ax_σ) : Prop := T.length ≤ 240 ∧ n ≤ 240 ∧ s.1 0 25 2 = nI T.length ∧ (∀ i c p, T[i]? = some (c, p) → s.1 0 26 i = nI c ∧ s.1 0 27 i = nI p ∧ (33 ≤ c ∧ c ≤ 126) ∧ p < n) ∧ s.1 0 26 T.length = 0 ∧ s.1 0 27 T.length = nI n
/-- and what is still to be read of them -/
def rdA (n : Nat) (T ts : List Tok) (s : ax_σ) : Prop := rdC n T s ∧ ∃ k, k ≤ T.length ∧ s.1 0 25 3 = nI k ∧ ts = T.drop k
def sg : List Tok → Nat
  | [] => 0
  | (c, _) :: _ => c
def pl (n : Nat) : List Tok → Nat
  | [] => n
  | (_, p) :: _ => p
/-- what keeps the reader's signs and place -/
def rdK (s s' : ax_σ) : Prop := s'.1 0 25 2 = s.1 0 25 2 ∧ s'.1 0 25 3 = s.1 0 25 3 ∧ s'.1 0 26 = s.1 0 26 ∧ s'.1 0 27 = s.1 0 27
theorem rdA.keep {n : Nat} {T ts : List Tok} {s s' : ax_σ} (h : rdA n T ts s) (hk : rdK s s') : rdA n T ts s' := by
  obtain ⟨⟨h1, h2, h3, h4, h5, h6⟩, k, h7, h8, h9⟩ := h
  obtain ⟨k1, k2, k3, k4⟩ := hk
  exact ⟨⟨h1, h2, by rw [k1]; exact h3, by rw [k3, k4]; exact h4, by rw [k3]; exact h5, by rw [k4]; exact h6⟩, k, h7, by rw [k2]; exact h8, h9⟩
section
variable {n : Nat} {T ts : List Tok} {s : ax_σ}
theorem rdA.inb (h : rdA n T ts s) : ax_in (s.1 0 25 3) 241 = true := by
  obtain ⟨⟨h1, -⟩, k, h7, h8, -⟩ := h
  rw [h8]; exact pu_in (by omega) (by decide)
theorem rdA.at (h : rdA n T ts s) : s.1 0 26 (s.1 0 25 3).toNatClampNeg = nI (sg ts) ∧ s.1 0 27 (s.1 0 25 3).toNatClampNeg = nI (pl n ts) ∧ sg ts < 127 ∧ pl n ts ≤ 240 ∧ (sg ts = 0 ∨ 33 ≤ sg ts) := by
  obtain ⟨⟨h1, h2, h3, h4, h5, h6⟩, k, h7, h8, h9⟩ := h
  rw [h8, nI_clamp (by omega)]
  subst h9
  by_cases hk : k < T.length
  · have hg : T[k]? = some T[k] := List.getElem?_eq_getElem hk
    obtain ⟨⟨c, p⟩, hT⟩ : ∃ t, T[k] = t := ⟨_, rfl⟩
    rw [hT] at hg
    have hd : T.drop k = (c, p) :: T.drop (k + 1) := by rw [List.drop_eq_getElem_cons hk, hT]
    obtain ⟨a1, a2, a3, a4⟩ := h4 k c p hg
    rw [hd]
    exact ⟨a1, a2, by show c < 127; omega, by show p ≤ 240; omega, Or.inr a3.1⟩
  · have e : k = T.length := by omega
    subst e
    rw [List.drop_length]
    exact ⟨h5, h6, by show (0 : Nat) < 127; omega, by show n ≤ 240; omega, Or.inl rfl⟩
theorem rdA.step {c p : Nat} (h : rdA n T ((c, p) :: ts) s) : rdA n T ts (ax_wI s 0 25 3 (s.1 0 25 3 + 1)) := by
  obtain ⟨⟨h1, h2, h3, h4, h5, h6⟩, k, h7, h8, h9⟩ := h
  have hk : k < T.length := by
    by_cases hk : k < T.length
    · exact hk
    · rw [List.drop_eq_nil_of_le (by omega)] at h9; cases h9
  refine ⟨⟨h1, h2, ?_, fun i c p hi => ?_, ?_, ?_⟩, k + 1, hk, ?_, ?_⟩
  · rw [wI_1, if_neg (by omega)]; exact h3
  · rw [wI_1, if_neg (by omega), wI_1, if_neg (by omega)]; exact h4 i c p hi
  · rw [wI_1, if_neg (by omega)]; exact h5
  · rw [wI_1, if_neg (by omega)]; exact h6
  · rw [wI_1, if_pos ⟨rfl, rfl, rfl⟩, h8, nI_1]
  · rw [List.drop_eq_getElem_cons hk] at h9
    injection h9
theorem rd_take_ok {g c : Nat} {r : List Tok} (h : rdA n T ts s) (hc : c < 128) (hp : pTake c ts = .ok ((), r)) : f_R_take g (nI c) s = some (1, ax_wI s 0 25 3 (s.1 0 25 3 + 1)) ∧ rdA n T r (ax_wI s 0 25 3 (s.1 0 25 3 + 1)) := by
  match ts, hp with
  | (d, p) :: ts', hp =>
    simp only [pTake] at hp
    by_cases hd : d = c
    · rw [if_pos hd] at hp
      cases hp
      subst hd
      refine ⟨?_, h.step⟩
      unfold f_R_take
      rw [h.inb, h.at.1]
      simp only [cond_true, ax_let]
      exact if_pos rfl
    · rw [if_neg hd] at hp; cases hp
theorem rd_take_er {g c : Nat} {r : List Tok} (h : rdA n T ts s) (hc0 : 0 < c) (hc : c < 128) (hp : pTake c ts = .error r) : f_R_take g (nI c) s = some (0, s) ∧ r = ts := by
  have key : sg ts ≠ c → f_R_take g (nI c) s = some (0, s) := by
    intro hne
    unfold f_R_take
    have h2 := h.at
    rw [h.inb, h2.1]
    simp only [cond_true]
    rw [if_neg (by rw [nI_eq (by omega) (by omega)]; exact hne)]
  match ts, hp, h, key with
  | [], hp, h, key =>
    cases hp
    exact ⟨key (by show (0 : Nat) ≠ c; omega), rfl⟩
  | (d, p) :: ts', hp, h, key =>
    simp only [pTake] at hp
    by_cases hd : d = c
    · rw [if_pos hd] at hp; cases hp
    · rw [if_neg hd] at hp
      cases hp
      exact ⟨key hd, rfl⟩
/-- the least fault so far -/
theorem rd_note {g lf p c : Nat} (hl : s.1 0 25 7 = nI lf) (h1 : lf < 2 ^ 31) (h2 : p * 8 + c < 2 ^ 31) : f_R_note g (nI p) (nI c) s = some (ax_wI s 0 25 7 (nI (min lf (p * 8 + c)))) := by
  have e : nI p * (8 : Int32) + nI c = nI (p * 8 + c) := by
    have e3 : nI p * (8 : Int32) = nI (p * 8) := (Int32.ofNat_mul p 8).symm
    rw [e3, nI_add]
  unfold f_R_note f_Math_min
  rw [hl, e]
  by_cases h : p * 8 + c < lf
  · rw [if_pos ((nI_ltI h2 h1).mpr h), Nat.min_eq_right (by omega)]; rfl
  · rw [if_neg (by rw [nI_ltI h2 h1]; exact h), Nat.min_eq_left (by omega)]; rfl
theorem rd_digit {c : Nat} (hc : c < 128) : f_R_isDigit (nI c) = some (if isD c = true then 1 else 0) := by
  have h : ∀ c, c < 128 → f_R_isDigit (nI c) = some (if isD c = true then 1 else 0) := by decide +kernel
  exact h c hc
theorem rd_letter {c : Nat} (hc : c < 128) : f_R_isLetter (nI c) = some (if c = 105 ∨ c = 106 then 1 else 0) := by
  have h : ∀ c, c < 128 → f_R_isLetter (nI c) = some (if c = 105 ∨ c = 106 then 1 else 0) := by decide +kernel
  exact h c hc
end
