/-! PURE: the reference reads a number -/
theorem tkR_pl (f : Nat → Nat) : ∀ (m p : Nat) (c q : Nat) (r : List Tok), tkR f p m = (c, q) :: r → p ≤ q
  | 0, p, c, q, r, h => by cases h
  | m + 1, p, c, q, r, h => by
    rw [tkR] at h
    by_cases hb : f p = 32
    · rw [if_pos hb] at h
      have := tkR_pl f m (p + 1) c q r h
      omega
    · rw [if_neg hb] at h
      injection h with h1 h2
      injection h1 with h1 h3
      omega
theorem pDig_gap (f : Nat → Nat) (m j q v : Nat) : pDig j q v (tkR f (q + 1) m) = (v, tkR f (q + 1) m) := by
  match j with
  | 0 => rw [pDig]
  | j + 1 =>
    match h : tkR f (q + 1) m with
    | [] => rw [pDig_nil]
    | (c, p) :: r =>
      have := tkR_pl f m (q + 1) c p r h
      rw [pDig, if_neg (fun e => by omega)]
theorem isD_i {c : Nat} : isD c = true ↔ 48 ≤ c ∧ c ≤ 57 := by
  simp only [isD, Bool.and_eq_true, Nat.ble_eq]
section
variable {ph R F n : Nat} {f : Nat → Nat} {ts r r2 : List Tok} {s s' s2 : ax_σ}
theorem zN_8 (s : ax_σ) (k v p : Nat) : (zN s k v p).1 0 38 8 = nI k := by
  unfold zN; simp (disch := omega) only [wI_1, wI_2, wL_1, wL_2, true_and, and_true, and_self, false_and, and_false, if_true, if_false, if_pos, if_neg]
theorem zN_9 (s : ax_σ) (k v p : Nat) : (zN s k v p).2 0 38 9 = lN v := by
  unfold zN; simp (disch := omega) only [wI_1, wI_2, wL_1, wL_2, true_and, and_true, and_self, false_and, and_false, if_true, if_false, if_pos, if_neg]
theorem zN_10 (s : ax_σ) (k v p : Nat) : (zN s k v p).1 0 38 10 = nI p := by
  unfold zN; simp (disch := omega) only [wI_1, wI_2, wL_1, wL_2, true_and, and_true, and_self, false_and, and_false, if_true, if_false, if_pos, if_neg]
theorem zN_o (s : ax_σ) (k v p : Nat) {a b c : Nat} (h : ¬ (a = 0 ∧ b = 38 ∧ (c = 8 ∨ c = 10))) : (zN s k v p).1 a b c = s.1 a b c := by
  unfold zN
  simp (disch := omega) only [wI_1, wI_2, wL_1, wL_2, true_and, and_true, and_self, false_and, and_false, if_true, if_false, if_pos, if_neg]
theorem zN_oL (s : ax_σ) (k v p : Nat) {a b c : Nat} (h : ¬ (a = 0 ∧ b = 38 ∧ c = 9)) : (zN s k v p).2 a b c = s.2 a b c := by
  unfold zN
  simp only [wI_2, wL_2]
  rw [if_neg h]
theorem zfin_e {k v p : Nat} (hk : 1 ≤ k) (hk9 : k ≤ 9) (hE : f_Z_endNumber F (zN s 0 v p) = some s') (h8 : s'.1 0 38 8 = nI 0) : zfin F (nI n) (.inr (zN s k v p)) = zfin F (nI n) (.inr s') := by
  have hE' := (zN_e F s k v p).trans hE
  have h1 := zN_8 s k v p
  unfold zfin
  simp (disch := omega) only [ax_let, Option.bind_some, cond_true, cond_false, if_pos, if_neg, if_true, if_false, eq_self, nI_add, nI_ltI, nI_leI, nI_eq, nI_clamp, pu_in, c_0, c_1, c_2, c_3, c_4, c_5, c_6, c_7, c_8, c_9, c_10, c_11, c_12, c_15, c_16, c_17, c_32, c_35, c_36, c_38, c_40, c_41, c_42, c_43, c_44, c_45, c_48, c_57, c_58, c_59, c_60, c_61, c_62, c_64, c_65, c_69, c_75, c_83, c_91, c_93, c_94, c_97, c_105, c_106, c_110, c_119, c_123, c_124, c_125, c_126, c_240, c_256, c_400, c_m, nI_m1, nM_i, lN_add, lN_mul, lN_i, nI_l, lN_eq, lgN_le, lgN_lt, lgN_ge, lgN_gt, nI_sub, nI_mul, d_0, d_1, c_13, c_14, c_18, c_19, c_20, c_21, c_22, c_23, c_24, c_25, c_26, c_27, c_28, c_29, c_30, c_31, c_33, c_34, c_37, c_39, c_46, c_47, c_49, c_50, c_51, c_52, c_53, c_54, c_55, c_56, c_63, c_66, c_67, c_68, c_70, c_71, c_72, c_73, c_74, c_76, c_77, c_78, c_79, c_80, c_81, c_82, c_84, c_85, c_86, c_87, c_88, c_89, c_90, c_92, c_95, c_96, c_98, c_99, c_100, c_101, c_102, c_103, c_104, c_107, c_108, c_109, c_111, c_112, c_113, c_114, c_115, c_116, c_117, c_118, c_120, c_121, c_122, c_127, c_280, d_2, d_3, d_4, d_8, d_9, d_10, d_15, d_16, d_32, d_48, d_62, d_63, d_64, h1, hE', h8]
theorem z_dig {p0 : Nat} {e : Int32} {G : ax_σ → Prop} (htx : ztx R n f s) (hf : frm (XZ ph) s s') (h8 : s'.1 0 38 8 = nI 0) (hrej : ∀ c p, isD c = true → ∃ s2, f_Z_accepts F (nI c) (nI p) s' = some (nI 0, s2)) : ∀ m q k v M, q + m = n → q = p0 + k → 1 ≤ k → k ≤ 9 → v < 10 ^ k → m < M → f_Z_endNumber F (zN s 0 (pDig (9 - k) q v (tkR f q m)).1 p0) = some s' → zR ph R F n f (pDig (9 - k) q v (tkR f q m)).2 s' e G → ∃ s3, Option.bind (lpG R F (nI n) M (nI q) (zN s k v p0)) (zfin F (nI n)) = some (e, s3) ∧ frm (XZ ph) s s3 ∧ (e = nM → G s3)
  | m, q, k, v, 0, _, _, _, _, _, hm, _, _ => absurd hm (Nat.not_lt_zero _)
  | 0, q, k, v, M + 1, hq, hp, hk1, hk9, hv, hm, hE, hR => by
    rw [tkR, pDig_nil] at hE hR
    obtain ⟨s3, a1, a2, a3⟩ := hR n 0 1 (by omega) (by omega) rfl
    have hn := htx.1
    have e1 : lpG R F (nI n) (M + 1) (nI q) (zN s k v p0) = some (.inr (zN s k v p0)) := by
      rw [lpG]
      simp (disch := omega) only [ax_let, Option.bind_some, cond_true, cond_false, if_pos, if_neg, if_true, if_false, eq_self, nI_add, nI_ltI, nI_leI, nI_eq, nI_clamp, pu_in, c_0, c_1, c_2, c_3, c_4, c_5, c_6, c_7, c_8, c_9, c_10, c_11, c_12, c_15, c_16, c_17, c_32, c_35, c_36, c_38, c_40, c_41, c_42, c_43, c_44, c_45, c_48, c_57, c_58, c_59, c_60, c_61, c_62, c_64, c_65, c_69, c_75, c_83, c_91, c_93, c_94, c_97, c_105, c_106, c_110, c_119, c_123, c_124, c_125, c_126, c_240, c_256, c_400, c_m, nI_m1, nM_i, lN_add, lN_mul, lN_i, nI_l, lN_eq, lgN_le, lgN_lt, lgN_ge, lgN_gt, nI_sub, nI_mul, d_0, d_1, c_13, c_14, c_18, c_19, c_20, c_21, c_22, c_23, c_24, c_25, c_26, c_27, c_28, c_29, c_30, c_31, c_33, c_34, c_37, c_39, c_46, c_47, c_49, c_50, c_51, c_52, c_53, c_54, c_55, c_56, c_63, c_66, c_67, c_68, c_70, c_71, c_72, c_73, c_74, c_76, c_77, c_78, c_79, c_80, c_81, c_82, c_84, c_85, c_86, c_87, c_88, c_89, c_90, c_92, c_95, c_96, c_98, c_99, c_100, c_101, c_102, c_103, c_104, c_107, c_108, c_109, c_111, c_112, c_113, c_114, c_115, c_116, c_117, c_118, c_120, c_121, c_122, c_127, c_280, d_2, d_3, d_4, d_8, d_9, d_10, d_15, d_16, d_32, d_48, d_62, d_63, d_64]
    have e2 : lpG R F (nI n) 1 (nI n) s' = some (.inr s') := by
      rw [lpG]
      simp (disch := omega) only [ax_let, Option.bind_some, cond_true, cond_false, if_pos, if_neg, if_true, if_false, eq_self, nI_add, nI_ltI, nI_leI, nI_eq, nI_clamp, pu_in, c_0, c_1, c_2, c_3, c_4, c_5, c_6, c_7, c_8, c_9, c_10, c_11, c_12, c_15, c_16, c_17, c_32, c_35, c_36, c_38, c_40, c_41, c_42, c_43, c_44, c_45, c_48, c_57, c_58, c_59, c_60, c_61, c_62, c_64, c_65, c_69, c_75, c_83, c_91, c_93, c_94, c_97, c_105, c_106, c_110, c_119, c_123, c_124, c_125, c_126, c_240, c_256, c_400, c_m, nI_m1, nM_i, lN_add, lN_mul, lN_i, nI_l, lN_eq, lgN_le, lgN_lt, lgN_ge, lgN_gt, nI_sub, nI_mul, d_0, d_1, c_13, c_14, c_18, c_19, c_20, c_21, c_22, c_23, c_24, c_25, c_26, c_27, c_28, c_29, c_30, c_31, c_33, c_34, c_37, c_39, c_46, c_47, c_49, c_50, c_51, c_52, c_53, c_54, c_55, c_56, c_63, c_66, c_67, c_68, c_70, c_71, c_72, c_73, c_74, c_76, c_77, c_78, c_79, c_80, c_81, c_82, c_84, c_85, c_86, c_87, c_88, c_89, c_90, c_92, c_95, c_96, c_98, c_99, c_100, c_101, c_102, c_103, c_104, c_107, c_108, c_109, c_111, c_112, c_113, c_114, c_115, c_116, c_117, c_118, c_120, c_121, c_122, c_127, c_280, d_2, d_3, d_4, d_8, d_9, d_10, d_15, d_16, d_32, d_48, d_62, d_63, d_64]
    rw [e2] at a1
    refine ⟨s3, ?_, hf.trans a2, a3⟩
    rw [e1]
    show zfin F (nI n) (.inr (zN s k v p0)) = _
    rw [zfin_e hk1 hk9 hE h8]
    exact a1
  | m + 1, q, k, v, M + 1, hq, hp, hk1, hk9, hv, hm, hE, hR => by
    have hn := htx.1
    obtain ⟨hc, ht⟩ := htx.2.2 q (by omega)
    have hRo := htx.2.1
    have hr1 : (zN s k v p0).1 0 R q = nI (f q) := (zN_o s k v p0 (by omega)).trans ht
    have hr2 := zN_8 s k v p0
    have hr3 := zN_9 s k v p0
    have hdg := zd (c := f q) (by omega)
    by_cases hb : f q = 32
    · rw [tkR, if_pos hb, pDig_gap] at hE hR
      obtain ⟨s3, a1, a2, a3⟩ := hR (q + 1) m M (by omega) (by omega) rfl
      have hE' := (zN_e F s k v p0).trans hE
      have hnd : f_Z_isDigit (nI 32) = some (nI 0) := rfl
      have e1 : lpG R F (nI n) (M + 1) (nI q) (zN s k v p0) = lpG R F (nI n) M (nI (q + 1)) s' := by
        rw [lpG]
        simp (disch := omega) only [ax_let, Option.bind_some, cond_true, cond_false, if_pos, if_neg, if_true, if_false, eq_self, nI_add, nI_ltI, nI_leI, nI_eq, nI_clamp, pu_in, c_0, c_1, c_2, c_3, c_4, c_5, c_6, c_7, c_8, c_9, c_10, c_11, c_12, c_15, c_16, c_17, c_32, c_35, c_36, c_38, c_40, c_41, c_42, c_43, c_44, c_45, c_48, c_57, c_58, c_59, c_60, c_61, c_62, c_64, c_65, c_69, c_75, c_83, c_91, c_93, c_94, c_97, c_105, c_106, c_110, c_119, c_123, c_124, c_125, c_126, c_240, c_256, c_400, c_m, nI_m1, nM_i, lN_add, lN_mul, lN_i, nI_l, lN_eq, lgN_le, lgN_lt, lgN_ge, lgN_gt, nI_sub, nI_mul, d_0, d_1, c_13, c_14, c_18, c_19, c_20, c_21, c_22, c_23, c_24, c_25, c_26, c_27, c_28, c_29, c_30, c_31, c_33, c_34, c_37, c_39, c_46, c_47, c_49, c_50, c_51, c_52, c_53, c_54, c_55, c_56, c_63, c_66, c_67, c_68, c_70, c_71, c_72, c_73, c_74, c_76, c_77, c_78, c_79, c_80, c_81, c_82, c_84, c_85, c_86, c_87, c_88, c_89, c_90, c_92, c_95, c_96, c_98, c_99, c_100, c_101, c_102, c_103, c_104, c_107, c_108, c_109, c_111, c_112, c_113, c_114, c_115, c_116, c_117, c_118, c_120, c_121, c_122, c_127, c_280, d_2, d_3, d_4, d_8, d_9, d_10, d_15, d_16, d_32, d_48, d_62, d_63, d_64, hr1, hr2, hb, hnd, hE']
      rw [e1]
      exact ⟨s3, a1, hf.trans a2, a3⟩
    · rw [tkR, if_neg hb] at hE hR
      by_cases hd : isD (f q) = true
      · rw [if_pos hd] at hdg
        have hd' := isD_i.mp hd
        by_cases h9 : k = 9
        · subst h9
          rw [pDig] at hE hR
          obtain ⟨s3, a1, a2, a3⟩ := hR q (m + 1) (M + 1) hq hm (by rw [tkR, if_neg hb])
          obtain ⟨s4, b1⟩ := hrej (f q) q hd
          have ht' : s'.1 0 R q = nI (f q) := (hf.1 0 R q (by unfold XZ; omega)).trans ht
          have e2 : lpG R F (nI n) (M + 1) (nI q) s' = some (.inl (nI q, s4)) := by
            rw [lpG]
            simp (disch := omega) only [ax_let, Option.bind_some, cond_true, cond_false, if_pos, if_neg, if_true, if_false, eq_self, nI_add, nI_ltI, nI_leI, nI_eq, nI_clamp, pu_in, c_0, c_1, c_2, c_3, c_4, c_5, c_6, c_7, c_8, c_9, c_10, c_11, c_12, c_15, c_16, c_17, c_32, c_35, c_36, c_38, c_40, c_41, c_42, c_43, c_44, c_45, c_48, c_57, c_58, c_59, c_60, c_61, c_62, c_64, c_65, c_69, c_75, c_83, c_91, c_93, c_94, c_97, c_105, c_106, c_110, c_119, c_123, c_124, c_125, c_126, c_240, c_256, c_400, c_m, nI_m1, nM_i, lN_add, lN_mul, lN_i, nI_l, lN_eq, lgN_le, lgN_lt, lgN_ge, lgN_gt, nI_sub, nI_mul, d_0, d_1, c_13, c_14, c_18, c_19, c_20, c_21, c_22, c_23, c_24, c_25, c_26, c_27, c_28, c_29, c_30, c_31, c_33, c_34, c_37, c_39, c_46, c_47, c_49, c_50, c_51, c_52, c_53, c_54, c_55, c_56, c_63, c_66, c_67, c_68, c_70, c_71, c_72, c_73, c_74, c_76, c_77, c_78, c_79, c_80, c_81, c_82, c_84, c_85, c_86, c_87, c_88, c_89, c_90, c_92, c_95, c_96, c_98, c_99, c_100, c_101, c_102, c_103, c_104, c_107, c_108, c_109, c_111, c_112, c_113, c_114, c_115, c_116, c_117, c_118, c_120, c_121, c_122, c_127, c_280, d_2, d_3, d_4, d_8, d_9, d_10, d_15, d_16, d_32, d_48, d_62, d_63, d_64, h8, ht', b1]
          rw [e2] at a1
          have a1 : some (nI q, s4) = some (e, s3) := a1
          injection a1 with a1
          injection a1 with a1 a4
          have e1 : lpG R F (nI n) (M + 1) (nI q) (zN s 9 v p0) = some (.inl (nI q, zN s 9 v p0)) := by
            rw [lpG]
            simp (disch := omega) only [ax_let, Option.bind_some, cond_true, cond_false, if_pos, if_neg, if_true, if_false, eq_self, nI_add, nI_ltI, nI_leI, nI_eq, nI_clamp, pu_in, c_0, c_1, c_2, c_3, c_4, c_5, c_6, c_7, c_8, c_9, c_10, c_11, c_12, c_15, c_16, c_17, c_32, c_35, c_36, c_38, c_40, c_41, c_42, c_43, c_44, c_45, c_48, c_57, c_58, c_59, c_60, c_61, c_62, c_64, c_65, c_69, c_75, c_83, c_91, c_93, c_94, c_97, c_105, c_106, c_110, c_119, c_123, c_124, c_125, c_126, c_240, c_256, c_400, c_m, nI_m1, nM_i, lN_add, lN_mul, lN_i, nI_l, lN_eq, lgN_le, lgN_lt, lgN_ge, lgN_gt, nI_sub, nI_mul, d_0, d_1, c_13, c_14, c_18, c_19, c_20, c_21, c_22, c_23, c_24, c_25, c_26, c_27, c_28, c_29, c_30, c_31, c_33, c_34, c_37, c_39, c_46, c_47, c_49, c_50, c_51, c_52, c_53, c_54, c_55, c_56, c_63, c_66, c_67, c_68, c_70, c_71, c_72, c_73, c_74, c_76, c_77, c_78, c_79, c_80, c_81, c_82, c_84, c_85, c_86, c_87, c_88, c_89, c_90, c_92, c_95, c_96, c_98, c_99, c_100, c_101, c_102, c_103, c_104, c_107, c_108, c_109, c_111, c_112, c_113, c_114, c_115, c_116, c_117, c_118, c_120, c_121, c_122, c_127, c_280, d_2, d_3, d_4, d_8, d_9, d_10, d_15, d_16, d_32, d_48, d_62, d_63, d_64, hr1, hr2, hdg]
          refine ⟨zN s 9 v p0, ?_, zN_f .., fun he => ?_⟩
          · rw [e1, ← a1]
            rfl
          · rw [← a1] at he
            exact absurd he (of_eq_false (nI_m1 (by omega)))
        · have hj : 9 - k = (9 - (k + 1)) + 1 := by omega
          rw [hj, pDig, if_pos ⟨hd, rfl⟩] at hE hR
          have hv' : v * 10 + (f q - 48) < 10 ^ (k + 1) := by rw [Nat.pow_succ]; omega
          have ih := z_dig htx hf h8 hrej m (q + 1) (k + 1) (v * 10 + (f q - 48)) M (by omega) (by omega) (by omega) (by omega) hv' (by omega) hE hR
          have e3 : lN (10 * v + f q) - lN 48 = lN (v * 10 + (f q - 48)) := by
            rw [lN_sub (by omega)]
            congr 1
            omega
          have e1 : lpG R F (nI n) (M + 1) (nI q) (zN s k v p0) = lpG R F (nI n) M (nI (q + 1)) (ax_wI (ax_wL (zN s k v p0) 0 38 9 (lN (v * 10 + (f q - 48)))) 0 38 8 (nI (k + 1))) := by
            rw [lpG]
            have hl := nI_l (n := f q) (by omega)
            simp (disch := omega) only [ax_let, Option.bind_some, cond_true, cond_false, if_pos, if_neg, if_true, if_false, eq_self, nI_add, nI_ltI, nI_leI, nI_eq, nI_clamp, pu_in, c_0, c_1, c_2, c_3, c_4, c_5, c_6, c_7, c_8, c_9, c_10, c_11, c_12, c_15, c_16, c_17, c_32, c_35, c_36, c_38, c_40, c_41, c_42, c_43, c_44, c_45, c_48, c_57, c_58, c_59, c_60, c_61, c_62, c_64, c_65, c_69, c_75, c_83, c_91, c_93, c_94, c_97, c_105, c_106, c_110, c_119, c_123, c_124, c_125, c_126, c_240, c_256, c_400, c_m, nI_m1, nM_i, lN_add, lN_mul, lN_i, nI_l, lN_eq, lgN_le, lgN_lt, lgN_ge, lgN_gt, nI_sub, nI_mul, d_0, d_1, c_13, c_14, c_18, c_19, c_20, c_21, c_22, c_23, c_24, c_25, c_26, c_27, c_28, c_29, c_30, c_31, c_33, c_34, c_37, c_39, c_46, c_47, c_49, c_50, c_51, c_52, c_53, c_54, c_55, c_56, c_63, c_66, c_67, c_68, c_70, c_71, c_72, c_73, c_74, c_76, c_77, c_78, c_79, c_80, c_81, c_82, c_84, c_85, c_86, c_87, c_88, c_89, c_90, c_92, c_95, c_96, c_98, c_99, c_100, c_101, c_102, c_103, c_104, c_107, c_108, c_109, c_111, c_112, c_113, c_114, c_115, c_116, c_117, c_118, c_120, c_121, c_122, c_127, c_280, d_2, d_3, d_4, d_8, d_9, d_10, d_15, d_16, d_32, d_48, d_62, d_63, d_64, hr1, hr2, hr3, hdg, hl, e3, wL_1]
          rw [e1, zN_w]
          exact ih
      · rw [if_neg hd] at hdg
        have hx : pDig (9 - k) q v ((f q, q) :: tkR f (q + 1) m) = (v, (f q, q) :: tkR f (q + 1) m) := by
          match 9 - k with
          | 0 => rw [pDig]
          | j + 1 => rw [pDig, if_neg (fun e => hd e.1)]
        rw [hx] at hE hR
        obtain ⟨s3, a1, a2, a3⟩ := hR q (m + 1) (M + 1) hq hm (by rw [tkR, if_neg hb])
        have hE' := (zN_e F s k v p0).trans hE
        have ht' : s'.1 0 R q = nI (f q) := (hf.1 0 R q (by unfold XZ; omega)).trans ht
        have e1 : lpG R F (nI n) (M + 1) (nI q) (zN s k v p0) = lpG R F (nI n) (M + 1) (nI q) s' := by
          rw [lpG, lpG]
          simp (disch := omega) only [ax_let, Option.bind_some, cond_true, cond_false, if_pos, if_neg, if_true, if_false, eq_self, nI_add, nI_ltI, nI_leI, nI_eq, nI_clamp, pu_in, c_0, c_1, c_2, c_3, c_4, c_5, c_6, c_7, c_8, c_9, c_10, c_11, c_12, c_15, c_16, c_17, c_32, c_35, c_36, c_38, c_40, c_41, c_42, c_43, c_44, c_45, c_48, c_57, c_58, c_59, c_60, c_61, c_62, c_64, c_65, c_69, c_75, c_83, c_91, c_93, c_94, c_97, c_105, c_106, c_110, c_119, c_123, c_124, c_125, c_126, c_240, c_256, c_400, c_m, nI_m1, nM_i, lN_add, lN_mul, lN_i, nI_l, lN_eq, lgN_le, lgN_lt, lgN_ge, lgN_gt, nI_sub, nI_mul, d_0, d_1, c_13, c_14, c_18, c_19, c_20, c_21, c_22, c_23, c_24, c_25, c_26, c_27, c_28, c_29, c_30, c_31, c_33, c_34, c_37, c_39, c_46, c_47, c_49, c_50, c_51, c_52, c_53, c_54, c_55, c_56, c_63, c_66, c_67, c_68, c_70, c_71, c_72, c_73, c_74, c_76, c_77, c_78, c_79, c_80, c_81, c_82, c_84, c_85, c_86, c_87, c_88, c_89, c_90, c_92, c_95, c_96, c_98, c_99, c_100, c_101, c_102, c_103, c_104, c_107, c_108, c_109, c_111, c_112, c_113, c_114, c_115, c_116, c_117, c_118, c_120, c_121, c_122, c_127, c_280, d_2, d_3, d_4, d_8, d_9, d_10, d_15, d_16, d_32, d_48, d_62, d_63, d_64, hr1, hr2, hdg, hE', h8, ht']
        rw [e1]
        exact ⟨s3, a1, hf.trans a2, a3⟩
def wants (md : Nat) : Prop := md = 0 ∨ md = 5 ∨ md = 7 ∨ md = 11 ∨ md = 20 ∨ md = 22 ∨ md = 31 ∨ md = 42 ∨ md = 43 ∨ md = 45 ∨ md = 46
theorem z_wants {md : Nat} (h7 : s.1 0 38 7 = nI md) (hw : wants md) : f_Z_wantsNumber s = some (nI 1) := by
  unfold wants at hw
  unfold f_Z_wantsNumber
  rcases hw with rfl | rfl | rfl | rfl | rfl | rfl | rfl | rfl | rfl | rfl | rfl <;> simp (disch := omega) only [ax_let, Option.bind_some, cond_true, cond_false, if_pos, if_neg, if_true, if_false, eq_self, nI_add, nI_ltI, nI_leI, nI_eq, nI_clamp, pu_in, c_0, c_1, c_2, c_3, c_4, c_5, c_6, c_7, c_8, c_9, c_10, c_11, c_12, c_15, c_16, c_17, c_32, c_35, c_36, c_38, c_40, c_41, c_42, c_43, c_44, c_45, c_48, c_57, c_58, c_59, c_60, c_61, c_62, c_64, c_65, c_69, c_75, c_83, c_91, c_93, c_94, c_97, c_105, c_106, c_110, c_119, c_123, c_124, c_125, c_126, c_240, c_256, c_400, c_m, nI_m1, nM_i, lN_add, lN_mul, lN_i, nI_l, lN_eq, lgN_le, lgN_lt, lgN_ge, lgN_gt, nI_sub, nI_mul, d_0, d_1, c_13, c_14, c_18, c_19, c_20, c_21, c_22, c_23, c_24, c_25, c_26, c_27, c_28, c_29, c_30, c_31, c_33, c_34, c_37, c_39, c_46, c_47, c_49, c_50, c_51, c_52, c_53, c_54, c_55, c_56, c_63, c_66, c_67, c_68, c_70, c_71, c_72, c_73, c_74, c_76, c_77, c_78, c_79, c_80, c_81, c_82, c_84, c_85, c_86, c_87, c_88, c_89, c_90, c_92, c_95, c_96, c_98, c_99, c_100, c_101, c_102, c_103, c_104, c_107, c_108, c_109, c_111, c_112, c_113, c_114, c_115, c_116, c_117, c_118, c_120, c_121, c_122, c_127, c_280, d_2, d_3, d_4, d_8, d_9, d_10, d_15, d_16, d_32, d_48, d_62, d_63, d_64, h7]
theorem z_nwants {md : Nat} (h7 : s.1 0 38 7 = nI md) (hm : md < 100) (hw : ¬ wants md) : f_Z_wantsNumber s = some (nI 0) := by
  unfold wants at hw
  unfold f_Z_wantsNumber
  simp (disch := omega) only [ax_let, Option.bind_some, cond_true, cond_false, if_pos, if_neg, if_true, if_false, eq_self, nI_add, nI_ltI, nI_leI, nI_eq, nI_clamp, pu_in, c_0, c_1, c_2, c_3, c_4, c_5, c_6, c_7, c_8, c_9, c_10, c_11, c_12, c_15, c_16, c_17, c_32, c_35, c_36, c_38, c_40, c_41, c_42, c_43, c_44, c_45, c_48, c_57, c_58, c_59, c_60, c_61, c_62, c_64, c_65, c_69, c_75, c_83, c_91, c_93, c_94, c_97, c_105, c_106, c_110, c_119, c_123, c_124, c_125, c_126, c_240, c_256, c_400, c_m, nI_m1, nM_i, lN_add, lN_mul, lN_i, nI_l, lN_eq, lgN_le, lgN_lt, lgN_ge, lgN_gt, nI_sub, nI_mul, d_0, d_1, c_13, c_14, c_18, c_19, c_20, c_21, c_22, c_23, c_24, c_25, c_26, c_27, c_28, c_29, c_30, c_31, c_33, c_34, c_37, c_39, c_46, c_47, c_49, c_50, c_51, c_52, c_53, c_54, c_55, c_56, c_63, c_66, c_67, c_68, c_70, c_71, c_72, c_73, c_74, c_76, c_77, c_78, c_79, c_80, c_81, c_82, c_84, c_85, c_86, c_87, c_88, c_89, c_90, c_92, c_95, c_96, c_98, c_99, c_100, c_101, c_102, c_103, c_104, c_107, c_108, c_109, c_111, c_112, c_113, c_114, c_115, c_116, c_117, c_118, c_120, c_121, c_122, c_127, c_280, d_2, d_3, d_4, d_8, d_9, d_10, d_15, d_16, d_32, d_48, d_62, d_63, d_64, h7]
theorem z_num {v p md : Nat} (htx : ztx R n f s) (h8 : s.1 0 38 8 = nI 0) (h7 : s.1 0 38 7 = nI md) (hw : wants md) (hp : pNum ts = some (v, p, r)) (hE : f_Z_endNumber F (zN s 0 v p) = some s') (hf : frm (XZ ph) s s') (h8' : s'.1 0 38 8 = nI 0) (hrej : ∀ c p, isD c = true → ∃ s2, f_Z_accepts F (nI c) (nI p) s' = some (nI 0, s2)) : zgo ph R F n f ts s r s' := by
  refine ⟨hf, fun e G hR => fun p0 m0 M0 h1 h2 h3 => ?_⟩
  refine z_blank (P := fun y => ∃ s', y = some (e, s') ∧ frm (XZ ph) s s' ∧ (e = nM → G s')) htx h8 (fun q m M h1 h2 h3 h4 => ?_) m0 p0 M0 h1 h2 h3
  match m, h1, h2, h3, h4 with
  | 0, h1, h2, h3, h4 =>
    rw [tkR] at h3
    rw [← h3] at hp
    cases hp
  | m + 1, h1, h2, h3, h4 =>
    have hb : f q ≠ 32 := h4.resolve_left (by omega)
    rw [tkR, if_neg hb] at h3
    rw [← h3] at hp
    rw [pNum] at hp
    by_cases hd : isD (f q) = true
    · rw [if_pos hd] at hp
      injection hp with hp
      injection hp with hp1 hp2
      injection hp2 with hp2 hp3
      subst hp2
      match M, h2 with
      | M + 1, h2 =>
        have hn := htx.1
        have hd' := isD_i.mp hd
        have ht := (htx.2.2 q (by omega)).2
        have hdg := zd (c := f q) (by omega)
        rw [if_pos hd] at hdg
        have hwn := z_wants h7 hw
        have ha : f_Z_accepts F (nI (f q)) (nI q) s = some (nI 1, zN s 1 (f q - 48) q) := by
          unfold f_Z_accepts zN
          simp (disch := omega) only [ax_let, Option.bind_some, cond_true, cond_false, if_pos, if_neg, if_true, if_false, eq_self, nI_add, nI_ltI, nI_leI, nI_eq, nI_clamp, pu_in, c_0, c_1, c_2, c_3, c_4, c_5, c_6, c_7, c_8, c_9, c_10, c_11, c_12, c_15, c_16, c_17, c_32, c_35, c_36, c_38, c_40, c_41, c_42, c_43, c_44, c_45, c_48, c_57, c_58, c_59, c_60, c_61, c_62, c_64, c_65, c_69, c_75, c_83, c_91, c_93, c_94, c_97, c_105, c_106, c_110, c_119, c_123, c_124, c_125, c_126, c_240, c_256, c_400, c_m, nI_m1, nM_i, lN_add, lN_mul, lN_i, nI_l, lN_eq, lgN_le, lgN_lt, lgN_ge, lgN_gt, nI_sub, nI_mul, d_0, d_1, c_13, c_14, c_18, c_19, c_20, c_21, c_22, c_23, c_24, c_25, c_26, c_27, c_28, c_29, c_30, c_31, c_33, c_34, c_37, c_39, c_46, c_47, c_49, c_50, c_51, c_52, c_53, c_54, c_55, c_56, c_63, c_66, c_67, c_68, c_70, c_71, c_72, c_73, c_74, c_76, c_77, c_78, c_79, c_80, c_81, c_82, c_84, c_85, c_86, c_87, c_88, c_89, c_90, c_92, c_95, c_96, c_98, c_99, c_100, c_101, c_102, c_103, c_104, c_107, c_108, c_109, c_111, c_112, c_113, c_114, c_115, c_116, c_117, c_118, c_120, c_121, c_122, c_127, c_280, d_2, d_3, d_4, d_8, d_9, d_10, d_15, d_16, d_32, d_48, d_62, d_63, d_64, hwn, hdg]
        have e1 : lpG R F (nI n) (M + 1) (nI q) s = lpG R F (nI n) M (nI (q + 1)) (zN s 1 (f q - 48) q) := by
          rw [lpG]
          simp (disch := omega) only [ax_let, Option.bind_some, cond_true, cond_false, if_pos, if_neg, if_true, if_false, eq_self, nI_add, nI_ltI, nI_leI, nI_eq, nI_clamp, pu_in, c_0, c_1, c_2, c_3, c_4, c_5, c_6, c_7, c_8, c_9, c_10, c_11, c_12, c_15, c_16, c_17, c_32, c_35, c_36, c_38, c_40, c_41, c_42, c_43, c_44, c_45, c_48, c_57, c_58, c_59, c_60, c_61, c_62, c_64, c_65, c_69, c_75, c_83, c_91, c_93, c_94, c_97, c_105, c_106, c_110, c_119, c_123, c_124, c_125, c_126, c_240, c_256, c_400, c_m, nI_m1, nM_i, lN_add, lN_mul, lN_i, nI_l, lN_eq, lgN_le, lgN_lt, lgN_ge, lgN_gt, nI_sub, nI_mul, d_0, d_1, c_13, c_14, c_18, c_19, c_20, c_21, c_22, c_23, c_24, c_25, c_26, c_27, c_28, c_29, c_30, c_31, c_33, c_34, c_37, c_39, c_46, c_47, c_49, c_50, c_51, c_52, c_53, c_54, c_55, c_56, c_63, c_66, c_67, c_68, c_70, c_71, c_72, c_73, c_74, c_76, c_77, c_78, c_79, c_80, c_81, c_82, c_84, c_85, c_86, c_87, c_88, c_89, c_90, c_92, c_95, c_96, c_98, c_99, c_100, c_101, c_102, c_103, c_104, c_107, c_108, c_109, c_111, c_112, c_113, c_114, c_115, c_116, c_117, c_118, c_120, c_121, c_122, c_127, c_280, d_2, d_3, d_4, d_8, d_9, d_10, d_15, d_16, d_32, d_48, d_62, d_63, d_64, h8, ht, ha]
        rw [e1]
        exact z_dig htx hf h8' hrej m (q + 1) 1 (f q - 48) M (by omega) rfl (by omega) (by omega) (by omega) (by omega) (by show f_Z_endNumber F (zN s 0 (pDig 8 (q + 1) (f q - 48) (tkR f (q + 1) m)).1 q) = some s'; rw [hp1]; exact hE) (by show zR ph R F n f (pDig 8 (q + 1) (f q - 48) (tkR f (q + 1) m)).2 s' e G; rw [hp3]; exact hR)
    · rw [if_neg hd] at hp; cases hp
end
