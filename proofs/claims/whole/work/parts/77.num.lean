/-! PURE: the reader takes a number, a STATE -/
theorem wI_self {s : ax_σ} {g r k : Nat} {v : Int32} (h : s.1 g r k = v) : ax_wI s g r k v = s := by
  refine Prod.ext ?_ rfl
  funext g' r' k'
  show (if g' = g ∧ r' = r ∧ k' = k then v else s.1 g' r' k') = s.1 g' r' k'
  split
  · rename_i e; rw [e.1, e.2.1, e.2.2, h]
  · rfl
theorem wI_wI (s : ax_σ) (g r k : Nat) (a b : Int32) : ax_wI (ax_wI s g r k a) g r k b = ax_wI s g r k b := by
  refine Prod.ext ?_ rfl
  funext g' r' k'
  show (if g' = g ∧ r' = r ∧ k' = k then b else (if g' = g ∧ r' = r ∧ k' = k then a else s.1 g' r' k')) = (if g' = g ∧ r' = r ∧ k' = k then b else s.1 g' r' k')
  split
  · rfl
  · rfl
theorem rdK_w {s : ax_σ} {g r k : Nat} {v : Int32} (h : ¬ (g = 0 ∧ (r = 26 ∨ r = 27 ∨ (r = 25 ∧ (k = 2 ∨ k = 3))))) : rdK s (ax_wI s g r k v) := by
  refine ⟨?_, ?_, ?_, ?_⟩
  · rw [wI_1, if_neg (fun e => h ⟨e.1.symm, Or.inr (Or.inr ⟨e.2.1.symm, Or.inl e.2.2.symm⟩)⟩)]
  · rw [wI_1, if_neg (fun e => h ⟨e.1.symm, Or.inr (Or.inr ⟨e.2.1.symm, Or.inr e.2.2.symm⟩)⟩)]
  · funext i; rw [wI_1, if_neg (fun e => h ⟨e.1.symm, Or.inl e.2.1.symm⟩)]
  · funext i; rw [wI_1, if_neg (fun e => h ⟨e.1.symm, Or.inr (Or.inl e.2.1.symm)⟩)]
theorem pDig_nil (j q v : Nat) : pDig j q v [] = (v, []) := by
  cases j <;> rfl
section
variable {n : Nat} {T : List Tok}
theorem rd_dig {F g k0 p0 : Nat} (bd : Int32) (hk0 : k0 < 241) (hp0 : p0 ≤ 240) : ∀ (j i m v : Nat) (ts : List Tok) (s : ax_σ), i + j = 9 → j < m → v < 10 ^ i → s.1 0 27 k0 = nI p0 → rdA n T ts s → ∃ k' : Nat, lp_R_takeNumber_10 F g bd (nI k0) m (nI v) (nI i) s = some (nI (pDig j (p0 + i) v ts).1, ax_wI s 0 25 3 (nI k')) ∧ rdA n T (pDig j (p0 + i) v ts).2 (ax_wI s 0 25 3 (nI k')) ∧ (pDig j (p0 + i) v ts).1 < 10 ^ 9
  | 0, i, m + 1, v, ts, s, h1, _, hv, _, hr => by
    have e9 : i = 9 := by omega
    subst e9
    obtain ⟨k, hk1, hk2, hk3⟩ := hr.2
    refine ⟨k, ?_, ?_, ?_⟩
    · rw [wI_self hk2, lp_R_takeNumber_10, if_pos (by decide)]
      rfl
    · rw [wI_self hk2]; exact hr
    · exact hv
  | j + 1, i, m + 1, v, ts, s, h1, hm, hv, hp, hr => by
    obtain ⟨k, hk1, hk2, hk3⟩ := id hr.2
    have hat := hr.at
    have hstop : (isD (sg ts) = true → pl n ts = p0 + i → False) → lp_R_takeNumber_10 F g bd (nI k0) (m + 1) (nI v) (nI i) s = some (nI v, s) := by
      intro hno
      rw [lp_R_takeNumber_10, if_neg (by rw [show (9 : Int32) = nI 9 from rfl, nI_leI (by decide) (by omega)]; omega), hr.inb, hat.1, rd_digit (by omega)]
      simp only [cond_true, Option.bind_some]
      by_cases hd : isD (sg ts) = true
      · rw [if_pos hd, if_neg (by decide), hat.2.1, pu_in hk0 (by decide), nI_clamp (by omega), hp, nI_add]
        simp only [cond_true]
        rw [if_neg (by rw [nI_eq (by omega) (by omega)]; exact hno hd)]
        rfl
      · rw [if_neg hd, if_pos rfl]; rfl
    match ts, hr, hk3, hat, hstop with
    | [], hr, hk3, hat, hstop =>
      rw [pDig_nil]
      refine ⟨k, ?_, ?_, ?_⟩
      · rw [wI_self hk2]; exact hstop (fun h _ => by revert h; decide)
      · rw [wI_self hk2]; exact hr
      · exact Nat.lt_of_lt_of_le hv (Nat.pow_le_pow_right (by decide) (by omega))
    | (c, p) :: ts', hr, hk3, hat, hstop =>
      unfold pDig
      by_cases hc : isD c = true ∧ p = p0 + i
      · rw [if_pos hc]
        have hc48 : 48 ≤ c ∧ c ≤ 57 := by
          have := hc.1
          simp only [isD, Bool.and_eq_true] at this
          exact ⟨Nat.le_of_ble_eq_true this.1, Nat.le_of_ble_eq_true this.2⟩
        have hv2 : v * 10 + (c - 48) < 10 ^ (i + 1) := by rw [Nat.pow_succ]; omega
        have hb : (10 : Nat) ^ (i + 1) ≤ 10 ^ 9 := Nat.pow_le_pow_right (by decide) (by omega)
        have hst := hr.step
        obtain ⟨k', e1, e2, e3⟩ := rd_dig bd hk0 hp0 j (i + 1) m (v * 10 + (c - 48)) ts' (ax_wI s 0 25 3 (s.1 0 25 3 + 1)) (by omega) (by omega) hv2 (by rw [wI_1, if_neg (by omega)]; exact hp) hst
        rw [wI_wI] at e1 e2
        rw [show p0 + i + 1 = p0 + (i + 1) by omega]
        refine ⟨k', ?_, e2, e3⟩
        rw [lp_R_takeNumber_10, if_neg (by rw [show (9 : Int32) = nI 9 from rfl, nI_leI (by decide) (by omega)]; omega), hr.inb, hat.1, rd_digit (by omega)]
        simp only [cond_true, Option.bind_some]
        rw [if_pos (show isD (sg ((c, p) :: ts')) = true from hc.1), if_neg (by decide), hat.2.1, pu_in hk0 (by decide), nI_clamp (by omega), hp, nI_add]
        simp only [cond_true]
        rw [if_pos (show nI (pl n ((c, p) :: ts')) = nI (p0 + i) by show nI p = _; rw [hc.2])]
        simp only [Option.bind_some, cond_false, ax_let]
        rw [nI_1]
        have ev : nI v * (10 : Int32) + (nI (sg ((c, p) :: ts')) - (48 : Int32)) = nI (v * 10 + (c - 48)) := by
          have a1 : nI v * (10 : Int32) = nI (v * 10) := (Int32.ofNat_mul v 10).symm
          have a2 : nI (sg ((c, p) :: ts')) - (48 : Int32) = nI (c - 48) := by
            have a3 : nI c = nI (c - 48) + (48 : Int32) := by
              have := nI_add (c - 48) 48
              rw [show c - 48 + 48 = c by omega] at this
              exact this.symm
            show nI c - 48 = _
            rw [a3]; exact Int32.add_sub_cancel _ _
          rw [a1, a2, nI_add]
        rw [ev]
        exact e1
      · rw [if_neg hc]
        refine ⟨k, ?_, ?_, ?_⟩
        · rw [wI_self hk2]; exact hstop (fun a b => hc ⟨a, b⟩)
        · rw [wI_self hk2]; exact hr
        · exact Nat.lt_of_lt_of_le hv (Nat.pow_le_pow_right (by decide) (by omega))
end
