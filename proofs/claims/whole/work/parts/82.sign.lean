/-! PURE: the signs behind a part, the bound of a word; the length of what is read -/
theorem sl_1 : f_String_length 1 = some (nI 7) := by decide +kernel
theorem sl_0 : f_String_length 0 = some (nI 16) := by decide +kernel
theorem sl_l (k : Nat) : f_String_isLatin1 k = some (nI 1) := rfl
theorem sl_c (k : Nat) (hk : k = 0 ∨ k = 1) : f_String_coder k = some (nI 0) := rfl
theorem sl_b : ∀ c, c < 128 → (nI c).toInt8.toInt32 = nI c := by decide +kernel
theorem ix_1 {F c : Nat} {s : ax_σ} (hc : c < 128) : f_String_indexOf_I F 1 (nI c) s = Option.bind (lp_StringLatin1_indexOfChar_7 F 1 (nI 7) (nI c) s F (nI 0)) (fun w => match w with
    | .inl w => some w
    | .inr _ => some ((-1 : Int32))) := by
  have h255 : (255 : Int32) = nI 255 := rfl
  have e7 : Int32.ofNat (ax_len.getD 1 0) = nI 7 := rfl
  unfold f_String_indexOf_I f_String_indexOf_II f_StringLatin1_indexOf f_StringLatin1_canEncode f_StringLatin1_indexOfChar f_Math_max_II f_Math_min
  simp (disch := omega) only [ax_let, Option.bind_some, cond_true, cond_false, if_pos, if_neg, if_true, if_false, eq_self, nI_add, nI_ltI, nI_leI, nI_eq, nI_clamp, pu_in, c_0, c_1, c_2, c_3, c_4, c_5, c_6, c_7, c_8, c_9, c_10, c_11, c_12, c_15, c_16, c_17, c_32, c_35, c_36, c_38, c_40, c_41, c_42, c_43, c_44, c_45, c_48, c_57, c_58, c_59, c_60, c_61, c_62, c_64, c_65, c_69, c_75, c_83, c_91, c_93, c_94, c_97, c_105, c_106, c_110, c_119, c_123, c_124, c_125, c_126, c_240, c_256, c_400, c_m, nI_m1, nM_i, sl_1, sl_l, h255, e7, sl_b c hc]
  cases lp_StringLatin1_indexOfChar_7 F 1 (nI 7) (nI c) s F (nI 0) with
  | none => rfl
  | some w => cases w <;> rfl
theorem ix_0 {F c : Nat} {s : ax_σ} (hc : c < 128) : f_String_indexOf_I F 0 (nI c) s = Option.bind (lp_StringLatin1_indexOfChar_7 F 0 (nI 16) (nI c) s F (nI 0)) (fun w => match w with
    | .inl w => some w
    | .inr _ => some ((-1 : Int32))) := by
  have h255 : (255 : Int32) = nI 255 := rfl
  have e7 : Int32.ofNat (ax_len.getD 0 0) = nI 16 := rfl
  unfold f_String_indexOf_I f_String_indexOf_II f_StringLatin1_indexOf f_StringLatin1_canEncode f_StringLatin1_indexOfChar f_Math_max_II f_Math_min
  simp (disch := omega) only [ax_let, Option.bind_some, cond_true, cond_false, if_pos, if_neg, if_true, if_false, eq_self, nI_add, nI_ltI, nI_leI, nI_eq, nI_clamp, pu_in, c_0, c_1, c_2, c_3, c_4, c_5, c_6, c_7, c_8, c_9, c_10, c_11, c_12, c_15, c_16, c_17, c_32, c_35, c_36, c_38, c_40, c_41, c_42, c_43, c_44, c_45, c_48, c_57, c_58, c_59, c_60, c_61, c_62, c_64, c_65, c_69, c_75, c_83, c_91, c_93, c_94, c_97, c_105, c_106, c_110, c_119, c_123, c_124, c_125, c_126, c_240, c_256, c_400, c_m, nI_m1, nM_i, sl_0, sl_l, h255, e7, sl_b c hc]
  cases lp_StringLatin1_indexOfChar_7 F 0 (nI 16) (nI c) s F (nI 0) with
  | none => rfl
  | some w => cases w <;> rfl
/-- the place of a sign among bs, from j on -/
def ixF (c : Nat) : List Nat → Nat → Option Nat
  | [], _ => none
  | b :: bs, j => if b = c then some j else ixF c bs (j + 1)
theorem ix_run {F k c N : Nat} {s : ax_σ} {B : List Nat} (hN : ax_len.getD k 0 = N) (hN2 : N < 2 ^ 31) (hB : B.length = N) (hb : ∀ j b, B[j]? = some b → b < 128 ∧ (ax_byt.getD k []).getD j (nI 0) = nI b) (hc : c < 128) : ∀ (m j : Nat), j ≤ N → N - j < m → lp_StringLatin1_indexOfChar_7 F k (nI N) (nI c) s m (nI j) = some (match ixF c (B.drop j) j with
    | some j => .inl (nI j)
    | none => .inr ())
  | 0, j, _, h => absurd h (Nat.not_lt_zero _)
  | m + 1, j, hj, hm => by
    rw [lp_StringLatin1_indexOfChar_7]
    by_cases e : j = N
    · subst e
      rw [List.drop_eq_nil_of_le (by omega)]
      simp (disch := omega) only [ax_let, Option.bind_some, cond_true, cond_false, if_pos, if_neg, if_true, if_false, eq_self, nI_add, nI_ltI, nI_leI, nI_eq, nI_clamp, pu_in, c_0, c_1, c_2, c_3, c_4, c_5, c_6, c_7, c_8, c_9, c_10, c_11, c_12, c_15, c_16, c_17, c_32, c_35, c_36, c_38, c_40, c_41, c_42, c_43, c_44, c_45, c_48, c_57, c_58, c_59, c_60, c_61, c_62, c_64, c_65, c_69, c_75, c_83, c_91, c_93, c_94, c_97, c_105, c_106, c_110, c_119, c_123, c_124, c_125, c_126, c_240, c_256, c_400, c_m, nI_m1, nM_i]
      rfl
    · have hlt : j < B.length := by omega
      rw [List.drop_eq_getElem_cons hlt]
      obtain ⟨b1, b2⟩ := hb j B[j] (List.getElem?_eq_getElem hlt)
      by_cases eb : B[j] = c
      · simp (disch := omega) only [ax_let, Option.bind_some, cond_true, cond_false, if_pos, if_neg, if_true, if_false, eq_self, nI_add, nI_ltI, nI_leI, nI_eq, nI_clamp, pu_in, c_0, c_1, c_2, c_3, c_4, c_5, c_6, c_7, c_8, c_9, c_10, c_11, c_12, c_15, c_16, c_17, c_32, c_35, c_36, c_38, c_40, c_41, c_42, c_43, c_44, c_45, c_48, c_57, c_58, c_59, c_60, c_61, c_62, c_64, c_65, c_69, c_75, c_83, c_91, c_93, c_94, c_97, c_105, c_106, c_110, c_119, c_123, c_124, c_125, c_126, c_240, c_256, c_400, c_m, nI_m1, nM_i, hN, b2, eb, ixF]
      · simp (disch := omega) only [ax_let, Option.bind_some, cond_true, cond_false, if_pos, if_neg, if_true, if_false, eq_self, nI_add, nI_ltI, nI_leI, nI_eq, nI_clamp, pu_in, c_0, c_1, c_2, c_3, c_4, c_5, c_6, c_7, c_8, c_9, c_10, c_11, c_12, c_15, c_16, c_17, c_32, c_35, c_36, c_38, c_40, c_41, c_42, c_43, c_44, c_45, c_48, c_57, c_58, c_59, c_60, c_61, c_62, c_64, c_65, c_69, c_75, c_83, c_91, c_93, c_94, c_97, c_105, c_106, c_110, c_119, c_123, c_124, c_125, c_126, c_240, c_256, c_400, c_m, nI_m1, nM_i, hN, b2, ixF]
        exact ix_run hN hN2 hB hb hc m (j + 1) (by omega) (by omega)
def ixS : List Nat := [94, 38, 124, 43, 45, 42, 60]
def ixD : List Nat := [48, 49, 50, 51, 52, 53, 54, 55, 56, 57, 97, 98, 99, 100, 101, 102]
theorem ix_b {B : List Nat} {k : Nat} (h : ∀ j, j < B.length → B.getD j 0 < 128 ∧ (ax_byt.getD k []).getD j (nI 0) = nI (B.getD j 0)) : ∀ j b, B[j]? = some b → b < 128 ∧ (ax_byt.getD k []).getD j (nI 0) = nI b := by
  intro j b hj
  obtain ⟨h1, h2⟩ := List.getElem?_eq_some_iff.mp hj
  have h3 := h j h1
  rw [List.getD_eq_getElem?_getD, hj] at h3
  exact h3
theorem ix_sg {F c : Nat} {s : ax_σ} (hF : 8 ≤ F) (hc : c < 128) : f_String_indexOf_I F 1 (nI c) s = some (match ixF c ixS 0 with
    | some j => nI j
    | none => nM) := by
  rw [ix_1 hc, ix_run (N := 7) (B := ixS) rfl (by decide) rfl (ix_b (by decide +kernel)) hc F 0 (by omega) (by omega)]
  rw [List.drop_zero]
  cases ixF c ixS 0 <;> rfl
theorem ix_dg {F c : Nat} {s : ax_σ} (hF : 17 ≤ F) (hc : c < 128) : f_String_indexOf_I F 0 (nI c) s = some (match hexv c with
    | some j => nI j
    | none => nM) := by
  have hx : ∀ c, c < 128 → ixF c ixD 0 = hexv c := by decide +kernel
  rw [ix_0 hc, ix_run (N := 16) (B := ixD) rfl (by decide) rfl (ix_b (by decide +kernel)) hc F 0 (by omega) (by omega), ← hx c hc]
  rw [List.drop_zero]
  cases ixF c ixD 0 <;> rfl
theorem ix_sgI {F c : Nat} {s : ax_σ} (hF : 8 ≤ F) (hc : c = 60 ∨ c = 94 ∨ c = 38 ∨ c = 124 ∨ c = 43 ∨ c = 45 ∨ c = 42) : ∃ j, j < 7 ∧ f_String_indexOf_I F 1 (nI c) s = some (nI j) := by
  rw [ix_sg hF (by omega)]
  rcases hc with rfl | rfl | rfl | rfl | rfl | rfl | rfl
  · exact ⟨6, by omega, rfl⟩
  · exact ⟨0, by omega, rfl⟩
  · exact ⟨1, by omega, rfl⟩
  · exact ⟨2, by omega, rfl⟩
  · exact ⟨3, by omega, rfl⟩
  · exact ⟨4, by omega, rfl⟩
  · exact ⟨5, by omega, rfl⟩
theorem ix_sgN {F c : Nat} {s : ax_σ} (hF : 8 ≤ F) (hc : c < 128) (hn : ¬ (c = 60 ∨ c = 94 ∨ c = 38 ∨ c = 124 ∨ c = 43 ∨ c = 45 ∨ c = 42)) : f_String_indexOf_I F 1 (nI c) s = some nM := by
  have hx : ∀ c, c < 128 → ¬ (c = 60 ∨ c = 94 ∨ c = 38 ∨ c = 124 ∨ c = 43 ∨ c = 45 ∨ c = 42) → ixF c ixS 0 = none := by decide +kernel
  rw [ix_sg hF hc, hx c hc hn]
def wb (w : Nat) : Nat := if w ≤ 16 then 2 ^ w else 1000000000
theorem wb_lt (w : Nat) : wb w < 2 ^ 31 ∧ 0 < wb w := by
  unfold wb
  split
  · exact ⟨Nat.lt_of_le_of_lt (Nat.pow_le_pow_right (by decide) (by assumption)) (by decide), Nat.pow_pos (by decide)⟩
  · exact ⟨by decide, by decide⟩
theorem sh_16 : ∀ v, v < 17 → (nI 1 <<< (nI v &&& 31)) = nI (2 ^ v) := by decide +kernel
theorem rd_bound {g w : Nat} {s : ax_σ} (h : s.1 g 1 0 = nI w) (hw : w < 2 ^ 31) : f_R_wordBound g s = some (nI (wb w)) := by
  unfold f_R_wordBound wb
  by_cases e : w ≤ 16
  · rw [if_pos e]
    simp (disch := omega) only [ax_let, Option.bind_some, cond_true, cond_false, if_pos, if_neg, if_true, if_false, eq_self, nI_add, nI_ltI, nI_leI, nI_eq, nI_clamp, pu_in, c_0, c_1, c_2, c_3, c_4, c_5, c_6, c_7, c_8, c_9, c_10, c_11, c_12, c_15, c_16, c_17, c_32, c_35, c_36, c_38, c_40, c_41, c_42, c_43, c_44, c_45, c_48, c_57, c_58, c_59, c_60, c_61, c_62, c_64, c_65, c_69, c_75, c_83, c_91, c_93, c_94, c_97, c_105, c_106, c_110, c_119, c_123, c_124, c_125, c_126, c_240, c_256, c_400, c_m, nI_m1, nM_i, h]
    rw [sh_16 w (by omega)]
  · rw [if_neg e]
    simp (disch := omega) only [ax_let, Option.bind_some, cond_true, cond_false, if_pos, if_neg, if_true, if_false, eq_self, nI_add, nI_ltI, nI_leI, nI_eq, nI_clamp, pu_in, c_0, c_1, c_2, c_3, c_4, c_5, c_6, c_7, c_8, c_9, c_10, c_11, c_12, c_15, c_16, c_17, c_32, c_35, c_36, c_38, c_40, c_41, c_42, c_43, c_44, c_45, c_48, c_57, c_58, c_59, c_60, c_61, c_62, c_64, c_65, c_69, c_75, c_83, c_91, c_93, c_94, c_97, c_105, c_106, c_110, c_119, c_123, c_124, c_125, c_126, c_240, c_256, c_400, c_m, nI_m1, nM_i, h, c_giga]
theorem pTerms_len : ∀ (f : Nat) (ts : List Tok) (l : List Tm) (r : List Tok), pTerms f ts = .ok (l, r) → r.length + 2 ≤ ts.length
  | 0, ts, l, r, h => by cases h
  | f + 1, ts, l, r, h => by
    have ht : ∀ (a : Option (Nat × Nat)) (u : List Tok) (t : Tm) (v : List Tok), pTerm a u = .ok (t, v) → v.length ≤ u.length ∧ (a = none → v.length < u.length) := by
      intro a u t v hu
      match a, u, hu with
      | some (x, y), [], hu => injection hu with hu; injection hu with _ hu; rw [← hu]; exact ⟨Nat.le_refl _, fun z => by cases z⟩
      | none, [], hu => cases hu
      | a, (c, q) :: u', hu =>
        simp only [pTerm] at hu
        split at hu
        · injection hu with hu; injection hu with _ hu; rw [← hu]; exact ⟨Nat.le_succ _, fun _ => Nat.lt_succ_self _⟩
        · match a, hu with
          | some (x, y), hu => injection hu with hu; injection hu with _ hu; rw [← hu]; exact ⟨Nat.le_refl _, fun z => by cases z⟩
          | none, hu => cases hu
    have tail : ∀ (t : Tm) (u : List Tok), (match u with
      | [] => (.error [] : Rd (List Tm))
      | (c, p) :: r' => if c = 43 then rbind (pTerms f r') (fun l r'' => .ok (t :: l, r'')) else if c = 41 then .ok ([t], r') else .error ((c, p) :: r')) = .ok (l, r) → r.length < u.length := by
      intro t u hu
      match u, hu with
      | (c, p) :: r', hu =>
        simp only at hu
        split at hu
        · match hq : pTerms f r', hu with
          | .ok (l', r''), hu =>
            have := pTerms_len f r' l' r'' hq
            injection hu with hu; injection hu with _ hu
            rw [← hu]; simp only [List.length_cons]; omega
        · split at hu
          · injection hu with hu; injection hu with _ hu; rw [← hu]; exact Nat.lt_succ_self _
          · cases hu
    unfold pTerms at h
    match hp : pNum ts, h with
    | some (v, p, u), h =>
      have hl := pNum_len hp
      match hq : pTerm (some (v, p)) u, h with
      | .ok (t, u'), h =>
        have h1 := (ht _ _ _ _ hq).1
        simp only [hq, rbind] at h
        have h2 := tail t u' h
        omega
      | .error e, h => simp only [hq, rbind] at h; cases h
    | none, h =>
      match hq : pTerm none ts, h with
      | .ok (t, u'), h =>
        have h1 := (ht _ _ _ _ hq).2 rfl
        simp only [hq, rbind] at h
        have h2 := tail t u' h
        omega
      | .error e, h => simp only [hq, rbind] at h; cases h
