/-! PURE: the tables are read -/
theorem nI_15 (v : Nat) : nI v &&& (15 : Int32) = nI (v % 16) := by
  apply Int32.toBitVec.inj
  show BitVec.ofNat 32 v &&& 15#32 = BitVec.ofNat 32 (v % 16)
  apply BitVec.eq_of_toNat_eq
  have e1 : (BitVec.ofNat 32 v &&& 15#32).toNat = v % 2 ^ 32 &&& 2 ^ 4 - 1 := by
    rw [BitVec.toNat_and, BitVec.toNat_ofNat]
    rfl
  rw [e1, BitVec.toNat_ofNat, Nat.and_two_pow_sub_one_eq_mod]
  omega
theorem hexv_lt {c v : Nat} (h : hexv c = some v) : v < 16 := by
  unfold hexv at h
  by_cases h1 : isD c = true
  · rw [if_pos h1] at h
    injection h with h
    simp only [isD, Bool.and_eq_true, Nat.ble_eq] at h1
    omega
  · rw [if_neg h1] at h
    by_cases h2 : 97 ≤ c ∧ c ≤ 102
    · rw [if_pos h2] at h
      injection h with h
      omega
    · rw [if_neg h2] at h; cases h
theorem pHex_lt : ∀ (j : Nat) (ts r : List Tok) (l : List Nat), pHex j ts = .ok (l, r) → l.length = j ∧ (∀ v ∈ l, v < 16) ∧ r.length + j = ts.length
  | 0, ts, r, l, h => by
    cases h
    exact ⟨rfl, fun v hv => (by cases hv), rfl⟩
  | j + 1, [], r, l, h => by cases h
  | j + 1, (c, p) :: ts, r, l, h => by
    rw [pHex] at h
    match hc : hexv c, h with
    | some v, h =>
      obtain ⟨l', r', h1, h2⟩ := rb_ok h
      cases h2
      obtain ⟨a1, a2, a3⟩ := pHex_lt j ts r l' h1
      refine ⟨by rw [List.length_cons, a1], fun x hx => ?_, by rw [List.length_cons]; omega⟩
      cases hx with
      | head => exact hexv_lt hc
      | tail _ hx => exact a2 x hx
def XD (g t i g' r k : Nat) : Prop := (g' = 0 ∧ r = 25 ∧ k = 3) ∨ (g' = g ∧ r = 2 ∧ t * 16 + i ≤ k ∧ k < t * 16 + 16)
section
variable {n : Nat} {T : List Tok} {g t : Nat}
theorem rd_digits {F : Nat} (hF : 241 ≤ F) (ht : t < 2) : ∀ (j i m : Nat) (ts : List Tok) (s : ax_σ), i + j = 16 → j < m → rdA n T ts s → roL n T (pHex j ts) (frm (XD g t i) s) (fun l r s' => rdA n T r s' ∧ ∀ k v, l[k]? = some v → s'.1 g 2 (t * 16 + i + k) = nI v) (lp_R_tableByDigits_2 F g (nI t) m (nI i) s) (fun s' => some (.inr s'))
  | j, i, 0, ts, s, _, hm, _ => absurd hm (Nat.not_lt_zero _)
  | 0, i, m + 1, ts, s, hi, hm, h => by
    refine ⟨s, ?_, ⟨h, fun k v hk => by cases hk⟩, frm.refl⟩
    rw [lp_R_tableByDigits_2]
    simp (disch := omega) only [ax_let, Option.bind_some, cond_true, cond_false, if_pos, if_neg, if_true, if_false, eq_self, nI_add, nI_ltI, nI_leI, nI_eq, nI_clamp, pu_in, c_0, c_1, c_2, c_3, c_4, c_5, c_6, c_7, c_8, c_9, c_10, c_11, c_12, c_15, c_16, c_17, c_32, c_35, c_36, c_38, c_40, c_41, c_42, c_43, c_44, c_45, c_48, c_57, c_58, c_59, c_60, c_61, c_62, c_64, c_65, c_69, c_75, c_83, c_91, c_93, c_94, c_97, c_105, c_106, c_110, c_119, c_123, c_124, c_125, c_126, c_240, c_256, c_400, c_m, nI_m1, nM_i]
  | j + 1, i, m + 1, ts, s, hi, hm, h => by
    have hat := h.at
    have hix := ix_dg (F := F) (c := sg ts) (s := s) (by omega) (by omega)
    have stop : hexv (sg ts) = none → lp_R_tableByDigits_2 F g (nI t) (m + 1) (nI i) s = some (.inl (nI 0, s)) := by
      intro hn
      rw [hn] at hix
      rw [lp_R_tableByDigits_2]
      simp (disch := omega) only [ax_let, Option.bind_some, cond_true, cond_false, if_pos, if_neg, if_true, if_false, eq_self, nI_add, nI_ltI, nI_leI, nI_eq, nI_clamp, pu_in, c_0, c_1, c_2, c_3, c_4, c_5, c_6, c_7, c_8, c_9, c_10, c_11, c_12, c_15, c_16, c_17, c_32, c_35, c_36, c_38, c_40, c_41, c_42, c_43, c_44, c_45, c_48, c_57, c_58, c_59, c_60, c_61, c_62, c_64, c_65, c_69, c_75, c_83, c_91, c_93, c_94, c_97, c_105, c_106, c_110, c_119, c_123, c_124, c_125, c_126, c_240, c_256, c_400, c_m, nI_m1, nM_i, h.inb, hat.1, hix]
      rfl
    match ts, h, hat, hix, stop with
    | [], h, hat, hix, stop => exact ⟨s, stop rfl, h, frm.refl⟩
    | (c, p) :: ts', h, hat, hix, stop =>
      rw [pHex]
      match hc : hexv c with
      | none => exact ⟨s, stop hc, h, frm.refl⟩
      | some v =>
        have hv := hexv_lt hc
        have hix : f_String_indexOf_I F 0 (nI (sg ((c, p) :: ts'))) s = some (match hexv c with
          | some j => nI j
          | none => nM) := hix
        rw [hc] at hix
        have f1 : frm (XD g t i) s (ax_wI s g 2 (t * 16 + i) (nI v)) := frm.refl.wI _ _ _ _ (Or.inr ⟨rfl, rfl, Nat.le_refl _, by omega⟩)
        have h1 : rdA n T ((c, p) :: ts') (ax_wI s g 2 (t * 16 + i) (nI v)) := h.keepf (Q := fun g' r k => r = 2) (frm.refl.wI _ _ _ _ rfl) (fun r k hx => by omega)
        have h2 := h1.step
        have f2 : frm (XD g t i) s _ := f1.wI 0 25 3 ((ax_wI s g 2 (t * 16 + i) (nI v)).1 0 25 3 + 1) (Or.inl ⟨rfl, rfl, rfl⟩)
        have ih := rd_digits hF ht j (i + 1) m ts' _ (by omega) (by omega) h2
        have e : lp_R_tableByDigits_2 F g (nI t) (m + 1) (nI i) s = lp_R_tableByDigits_2 F g (nI t) m (nI (i + 1)) (ax_wI (ax_wI s g 2 (t * 16 + i) (nI v)) 0 25 3 ((ax_wI s g 2 (t * 16 + i) (nI v)).1 0 25 3 + 1)) := by
          rw [lp_R_tableByDigits_2]
          simp (disch := omega) only [ax_let, Option.bind_some, cond_true, cond_false, if_pos, if_neg, if_true, if_false, eq_self, nI_add, nI_ltI, nI_leI, nI_eq, nI_clamp, pu_in, c_0, c_1, c_2, c_3, c_4, c_5, c_6, c_7, c_8, c_9, c_10, c_11, c_12, c_15, c_16, c_17, c_32, c_35, c_36, c_38, c_40, c_41, c_42, c_43, c_44, c_45, c_48, c_57, c_58, c_59, c_60, c_61, c_62, c_64, c_65, c_69, c_75, c_83, c_91, c_93, c_94, c_97, c_105, c_106, c_110, c_119, c_123, c_124, c_125, c_126, c_240, c_256, c_400, c_m, nI_m1, nM_i, h.inb, hat.1, hix, nI_mul]
        rw [e]
        have up : ∀ g' r k, XD g t (i + 1) g' r k → XD g t i g' r k := fun g' r k hx => by unfold XD at hx ⊢; omega
        show roL n T (rbind (pHex j ts') (fun l r => .ok (v :: l, r))) _ _ _ _
        match hq : pHex j ts', ih with
        | .error r, ih =>
          obtain ⟨s3, a1, a2, a3⟩ := ih
          exact ⟨s3, a1, a2, f2.trans (a3.imp up)⟩
        | .ok (l, r), ih =>
          obtain ⟨s3, a1, ⟨a2, a4⟩, a3⟩ := ih
          refine ⟨s3, a1, ⟨a2, fun k x hk => ?_⟩, f2.trans (a3.imp up)⟩
          match k, hk with
          | 0, hk =>
            injection hk with hk
            subst hk
            rw [a3.1 g 2 (t * 16 + i + 0) (by unfold XD; omega)]
            simp (disch := omega) only [wI_1, wI_2, wL_1, wL_2, true_and, and_true, and_self, false_and, and_false, if_true, if_false, if_pos, if_neg]
          | k + 1, hk => rw [show t * 16 + i + (k + 1) = t * 16 + (i + 1) + k from by omega]; exact a4 k x hk
theorem rd_rule {F f a : Nat} (ht : t < 2) : ∀ (j i m : Nat) (s : ax_σ), i + j = 16 → j < m → ∃ s', lp_R_tableByRule_50 F g (nI t) (nI f) (nI a) m (nI i) s = some s' ∧ frm (fun g' r k => g' = g ∧ r = 2 ∧ t * 16 + i ≤ k ∧ k < t * 16 + 16) s s' ∧ ∀ k, i ≤ k → k < 16 → s'.1 g 2 (t * 16 + k) = nI ((k * f + a) % 16)
  | j, i, 0, s, _, hm => absurd hm (Nat.not_lt_zero _)
  | 0, i, m + 1, s, hi, hm => by
    refine ⟨s, ?_, frm.refl, fun k h1 h2 => by omega⟩
    rw [lp_R_tableByRule_50]
    simp (disch := omega) only [ax_let, Option.bind_some, cond_true, cond_false, if_pos, if_neg, if_true, if_false, eq_self, nI_add, nI_ltI, nI_leI, nI_eq, nI_clamp, pu_in, c_0, c_1, c_2, c_3, c_4, c_5, c_6, c_7, c_8, c_9, c_10, c_11, c_12, c_15, c_16, c_17, c_32, c_35, c_36, c_38, c_40, c_41, c_42, c_43, c_44, c_45, c_48, c_57, c_58, c_59, c_60, c_61, c_62, c_64, c_65, c_69, c_75, c_83, c_91, c_93, c_94, c_97, c_105, c_106, c_110, c_119, c_123, c_124, c_125, c_126, c_240, c_256, c_400, c_m, nI_m1, nM_i]
  | j + 1, i, m + 1, s, hi, hm => by
    obtain ⟨s', a1, a2, a3⟩ := rd_rule (F := F) (f := f) (a := a) ht j (i + 1) m (ax_wI s g 2 (t * 16 + i) (nI ((i * f + a) % 16))) (by omega) (by omega)
    refine ⟨s', ?_, (frm.refl.wI g 2 (t * 16 + i) (nI ((i * f + a) % 16)) (by omega)).trans (a2.imp (fun g' r k h => by omega)), fun k h1 h2 => ?_⟩
    · rw [lp_R_tableByRule_50]
      have e : (nI i * nI f + nI a) &&& (15 : Int32) = nI ((i * f + a) % 16) := by rw [nI_mul, nI_add, nI_15]
      have e' : (nI i * nI f + nI a) &&& nI 15 = nI ((i * f + a) % 16) := e
      rw [e]
      simp (disch := omega) only [ax_let, Option.bind_some, cond_true, cond_false, if_pos, if_neg, if_true, if_false, eq_self, nI_add, nI_ltI, nI_leI, nI_eq, nI_clamp, pu_in, c_0, c_1, c_2, c_3, c_4, c_5, c_6, c_7, c_8, c_9, c_10, c_11, c_12, c_15, c_16, c_17, c_32, c_35, c_36, c_38, c_40, c_41, c_42, c_43, c_44, c_45, c_48, c_57, c_58, c_59, c_60, c_61, c_62, c_64, c_65, c_69, c_75, c_83, c_91, c_93, c_94, c_97, c_105, c_106, c_110, c_119, c_123, c_124, c_125, c_126, c_240, c_256, c_400, c_m, nI_m1, nM_i, nI_mul]
      exact a1
    · by_cases hk : k = i
      · subst hk
        rw [a2.1 g 2 (t * 16 + k) (by omega), wI_1, if_pos ⟨rfl, rfl, rfl⟩]
      · exact a3 k (by omega) h2
def XB (g t g' r k : Nat) : Prop := g' = g ∧ r = 3 ∧ t * 16 ≤ k ∧ k < t * 16 + 16
theorem tt_7 {F : Nat} (ht : t < 2) : ∀ (j i m : Nat) (s : ax_σ), i + j = 16 → j < m → ∃ s', lp_P_turnTableRound_7 F g (nI (t * 16)) m (nI i) s = some s' ∧ frm (XB g t) s s' ∧ ∀ k, k < 16 → s'.1 g 3 (t * 16 + k) = if i ≤ k then nM else s.1 g 3 (t * 16 + k)
  | j, i, 0, s, _, hm => absurd hm (Nat.not_lt_zero _)
  | 0, i, m + 1, s, hi, hm => by
    refine ⟨s, ?_, frm.refl, fun k h1 => by rw [if_neg (by omega)]⟩
    rw [lp_P_turnTableRound_7]
    simp (disch := omega) only [ax_let, Option.bind_some, cond_true, cond_false, if_pos, if_neg, if_true, if_false, eq_self, nI_add, nI_ltI, nI_leI, nI_eq, nI_clamp, pu_in, c_0, c_1, c_2, c_3, c_4, c_5, c_6, c_7, c_8, c_9, c_10, c_11, c_12, c_15, c_16, c_17, c_32, c_35, c_36, c_38, c_40, c_41, c_42, c_43, c_44, c_45, c_48, c_57, c_58, c_59, c_60, c_61, c_62, c_64, c_65, c_69, c_75, c_83, c_91, c_93, c_94, c_97, c_105, c_106, c_110, c_119, c_123, c_124, c_125, c_126, c_240, c_256, c_400, c_m, nI_m1, nM_i]
  | j + 1, i, m + 1, s, hi, hm => by
    obtain ⟨s', a1, a2, a3⟩ := tt_7 (F := F) ht j (i + 1) m (ax_wI s g 3 (t * 16 + i) nM) (by omega) (by omega)
    refine ⟨s', ?_, (frm.refl.wI g 3 (t * 16 + i) nM (by unfold XB; omega)).trans a2, fun k h1 => ?_⟩
    · rw [lp_P_turnTableRound_7]
      simp (disch := omega) only [ax_let, Option.bind_some, cond_true, cond_false, if_pos, if_neg, if_true, if_false, eq_self, nI_add, nI_ltI, nI_leI, nI_eq, nI_clamp, pu_in, c_0, c_1, c_2, c_3, c_4, c_5, c_6, c_7, c_8, c_9, c_10, c_11, c_12, c_15, c_16, c_17, c_32, c_35, c_36, c_38, c_40, c_41, c_42, c_43, c_44, c_45, c_48, c_57, c_58, c_59, c_60, c_61, c_62, c_64, c_65, c_69, c_75, c_83, c_91, c_93, c_94, c_97, c_105, c_106, c_110, c_119, c_123, c_124, c_125, c_126, c_240, c_256, c_400, c_m, nI_m1, nM_i]
      exact a1
    · rw [a3 k h1, wI_1]
      by_cases hk : k = i
      · subst hk
        rw [if_neg (by omega), if_pos ⟨rfl, rfl, rfl⟩, if_pos (Nat.le_refl _)]
      · by_cases h2 : i + 1 ≤ k
        · rw [if_pos h2, if_pos (by omega)]
        · rw [if_neg h2, if_neg (by omega), if_neg (by omega)]
theorem tt_31 {F : Nat} {E : Nat → Nat} (ht : t < 2) (hE : ∀ k, k < 16 → E k < 16) : ∀ (j m : Nat) (s : ax_σ), j ≤ 16 → j < m → (∀ k, k < 16 → s.1 g 2 (t * 16 + k) = nI (E k)) → ∃ s', lp_P_turnTableRound_31 F g (nI (t * 16)) m (nI j + (-1 : Int32)) s = some s' ∧ frm (XB g t) s s' ∧ ∀ k, k < 16 → s'.1 g 3 (t * 16 + k) = bkL (fun x => nI (E x)) (nI k) j (s.1 g 3 (t * 16 + k))
  | j, 0, s, _, hm, _ => absurd hm (Nat.not_lt_zero _)
  | 0, m + 1, s, hi, hm, h2 => by
    refine ⟨s, ?_, frm.refl, fun k h1 => rfl⟩
    rw [lp_P_turnTableRound_31]
    rfl
  | j + 1, m + 1, s, hi, hm, h2 => by
    have ee : nI (j + 1) + (-1 : Int32) = nI j := by
      rw [show nI (j + 1) = nI j + nI 1 from (nI_add j 1).symm, Int32.add_assoc]
      show nI j + (0 : Int32) = nI j
      rw [Int32.add_zero]
    have hEj := hE j (by omega)
    obtain ⟨s', a1, a2, a3⟩ := tt_31 (F := F) ht hE j m (ax_wI s g 3 (t * 16 + E j) (nI j)) (by omega) (by omega) (fun k hk => by rw [wI_1, if_neg (by omega)]; exact h2 k hk)
    refine ⟨s', ?_, (frm.refl.wI g 3 (t * 16 + E j) (nI j) (by unfold XB; omega)).trans a2, fun k h1 => ?_⟩
    · rw [ee, lp_P_turnTableRound_31]
      have hj := h2 j (by omega)
      have hn : ¬ nI j < (0 : Int32) := nI_pos (by omega)
      rw [if_neg hn]
      simp (disch := omega) only [ax_let, Option.bind_some, cond_true, cond_false, if_pos, if_neg, if_true, if_false, eq_self, nI_add, nI_ltI, nI_leI, nI_eq, nI_clamp, pu_in, c_0, c_1, c_2, c_3, c_4, c_5, c_6, c_7, c_8, c_9, c_10, c_11, c_12, c_15, c_16, c_17, c_32, c_35, c_36, c_38, c_40, c_41, c_42, c_43, c_44, c_45, c_48, c_57, c_58, c_59, c_60, c_61, c_62, c_64, c_65, c_69, c_75, c_83, c_91, c_93, c_94, c_97, c_105, c_106, c_110, c_119, c_123, c_124, c_125, c_126, c_240, c_256, c_400, c_m, nI_m1, nM_i, hj]
      exact a1
    · rw [a3 k h1, wI_1]
      rw [bkL]
      by_cases hk : E j = k
      · subst hk
        rw [if_pos ⟨rfl, rfl, rfl⟩, if_pos rfl]
      · rw [if_neg (by omega), if_neg (by rw [nI_eq (by omega) (by omega)]; exact hk)]
theorem rd_round {F : Nat} {E : Nat → Nat} {s : ax_σ} (hF : 241 ≤ F) (ht : t < 2) (hE : ∀ k, k < 16 → E k < 16) (h : ∀ k, k < 16 → s.1 g 2 (t * 16 + k) = nI (E k)) : ∃ s', f_P_turnTableRound F g (nI t) s = some s' ∧ frm (XB g t) s s' ∧ ∀ k, k < 16 → s'.1 g 3 (t * 16 + k) = bkL (fun x => nI (E x)) (nI k) 16 nM := by
  obtain ⟨s1, a1, a2, a3⟩ := tt_7 (g := g) (F := F) ht 16 0 F s (by omega) (by omega)
  obtain ⟨s2, b1, b2, b3⟩ := tt_31 (g := g) (F := F) ht hE 16 F s1 (by omega) (by omega) (fun k hk => (a2.1 g 2 _ (by unfold XB; omega)).trans (h k hk))
  refine ⟨s2, ?_, a2.trans b2, fun k hk => by rw [b3 k hk, a3 k hk, if_pos (Nat.zero_le _)]⟩
  have b1' : lp_P_turnTableRound_31 F g (nI (t * 16)) F (nI 15) s1 = some s2 := b1
  unfold f_P_turnTableRound
  simp (disch := omega) only [ax_let, Option.bind_some, cond_true, cond_false, if_pos, if_neg, if_true, if_false, eq_self, nI_add, nI_ltI, nI_leI, nI_eq, nI_clamp, pu_in, c_0, c_1, c_2, c_3, c_4, c_5, c_6, c_7, c_8, c_9, c_10, c_11, c_12, c_15, c_16, c_17, c_32, c_35, c_36, c_38, c_40, c_41, c_42, c_43, c_44, c_45, c_48, c_57, c_58, c_59, c_60, c_61, c_62, c_64, c_65, c_69, c_75, c_83, c_91, c_93, c_94, c_97, c_105, c_106, c_110, c_119, c_123, c_124, c_125, c_126, c_240, c_256, c_400, c_m, nI_m1, nM_i, nI_mul, a1, b1']
end
