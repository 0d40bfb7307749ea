/-! PURE: the reference checks a step -/
theorem rp_13 {F u i : Nat} {E : Nat → Nat} {s : ax_σ} (hu : u < 2) (hi : i < 16) (hE : ∀ k, k < 16 → s.1 0 43 (16 * u + k) = nI (E k) ∧ E k < 16) : ∀ (d j M : Nat) (fl : Bool), j + d = i → d < M → ∃ fl' : Bool, lp_Z_repeats_13 F (nI u) (nI i) s M (if fl = true then nI 1 else nI 0) (nI j) = some (if fl' = true then nI 1 else nI 0) ∧ (fl' = true ↔ fl = true ∨ ∃ j', j ≤ j' ∧ j' < i ∧ E i = E j')
  | d, j, 0, fl, _, h => absurd h (Nat.not_lt_zero _)
  | 0, j, M + 1, fl, hj, _ => by
    refine ⟨fl, ?_, ⟨fun k => Or.inl k, fun k => k.elim id (fun ⟨j', h1, h2, _⟩ => by omega)⟩⟩
    rw [lp_Z_repeats_13]
    simp (disch := omega) only [ax_let, Option.bind_some, cond_true, cond_false, if_pos, if_neg, if_true, if_false, eq_self, nI_add, nI_ltI, nI_leI, nI_eq, nI_clamp, pu_in, c_0, c_1, c_2, c_3, c_4, c_5, c_6, c_7, c_8, c_9, c_10, c_11, c_12, c_15, c_16, c_17, c_32, c_35, c_36, c_38, c_40, c_41, c_42, c_43, c_44, c_45, c_48, c_57, c_58, c_59, c_60, c_61, c_62, c_64, c_65, c_69, c_75, c_83, c_91, c_93, c_94, c_97, c_105, c_106, c_110, c_119, c_123, c_124, c_125, c_126, c_240, c_256, c_400, c_m, nI_m1, nM_i, lN_add, lN_mul, lN_i, nI_l, lN_eq, lgN_le, lgN_lt, lgN_ge, lgN_gt, nI_sub, nI_mul, d_0, d_1, c_13, c_14, c_18, c_19, c_20, c_21, c_22, c_23, c_24, c_25, c_26, c_27, c_28, c_29, c_30, c_31, c_33, c_34, c_37, c_39, c_46, c_47, c_49, c_50, c_51, c_52, c_53, c_54, c_55, c_56, c_63, c_66, c_67, c_68, c_70, c_71, c_72, c_73, c_74, c_76, c_77, c_78, c_79, c_80, c_81, c_82, c_84, c_85, c_86, c_87, c_88, c_89, c_90, c_92, c_95, c_96, c_98, c_99, c_100, c_101, c_102, c_103, c_104, c_107, c_108, c_109, c_111, c_112, c_113, c_114, c_115, c_116, c_117, c_118, c_120, c_121, c_122, c_127, c_280, d_2, d_3, d_4, d_8, d_9, d_10, d_15, d_16, d_32, d_48, d_62, d_63, d_64]
  | d + 1, j, M + 1, fl, hj, hM => by
    obtain ⟨fl', a1, a2⟩ := rp_13 (F := F) hu hi hE d (j + 1) M (fl || decide (E i = E j)) (by omega) (by omega)
    obtain ⟨e1, e2⟩ := hE i hi
    obtain ⟨e3, e4⟩ := hE j (by omega)
    refine ⟨fl', ?_, ?_⟩
    · rw [← a1, lp_Z_repeats_13]
      cases fl with
      | true =>
        rw [Bool.true_or, if_pos rfl]
        simp (disch := omega) only [ax_let, Option.bind_some, cond_true, cond_false, if_pos, if_neg, if_true, if_false, eq_self, nI_add, nI_ltI, nI_leI, nI_eq, nI_clamp, pu_in, c_0, c_1, c_2, c_3, c_4, c_5, c_6, c_7, c_8, c_9, c_10, c_11, c_12, c_15, c_16, c_17, c_32, c_35, c_36, c_38, c_40, c_41, c_42, c_43, c_44, c_45, c_48, c_57, c_58, c_59, c_60, c_61, c_62, c_64, c_65, c_69, c_75, c_83, c_91, c_93, c_94, c_97, c_105, c_106, c_110, c_119, c_123, c_124, c_125, c_126, c_240, c_256, c_400, c_m, nI_m1, nM_i, lN_add, lN_mul, lN_i, nI_l, lN_eq, lgN_le, lgN_lt, lgN_ge, lgN_gt, nI_sub, nI_mul, d_0, d_1, c_13, c_14, c_18, c_19, c_20, c_21, c_22, c_23, c_24, c_25, c_26, c_27, c_28, c_29, c_30, c_31, c_33, c_34, c_37, c_39, c_46, c_47, c_49, c_50, c_51, c_52, c_53, c_54, c_55, c_56, c_63, c_66, c_67, c_68, c_70, c_71, c_72, c_73, c_74, c_76, c_77, c_78, c_79, c_80, c_81, c_82, c_84, c_85, c_86, c_87, c_88, c_89, c_90, c_92, c_95, c_96, c_98, c_99, c_100, c_101, c_102, c_103, c_104, c_107, c_108, c_109, c_111, c_112, c_113, c_114, c_115, c_116, c_117, c_118, c_120, c_121, c_122, c_127, c_280, d_2, d_3, d_4, d_8, d_9, d_10, d_15, d_16, d_32, d_48, d_62, d_63, d_64]
      | false =>
        rw [Bool.false_or, show (if false = true then nI 1 else nI 0) = nI 0 from rfl]
        by_cases e : E i = E j
        · rw [decide_eq_true e, if_pos rfl]
          simp (disch := omega) only [ax_let, Option.bind_some, cond_true, cond_false, if_pos, if_neg, if_true, if_false, eq_self, nI_add, nI_ltI, nI_leI, nI_eq, nI_clamp, pu_in, c_0, c_1, c_2, c_3, c_4, c_5, c_6, c_7, c_8, c_9, c_10, c_11, c_12, c_15, c_16, c_17, c_32, c_35, c_36, c_38, c_40, c_41, c_42, c_43, c_44, c_45, c_48, c_57, c_58, c_59, c_60, c_61, c_62, c_64, c_65, c_69, c_75, c_83, c_91, c_93, c_94, c_97, c_105, c_106, c_110, c_119, c_123, c_124, c_125, c_126, c_240, c_256, c_400, c_m, nI_m1, nM_i, lN_add, lN_mul, lN_i, nI_l, lN_eq, lgN_le, lgN_lt, lgN_ge, lgN_gt, nI_sub, nI_mul, d_0, d_1, c_13, c_14, c_18, c_19, c_20, c_21, c_22, c_23, c_24, c_25, c_26, c_27, c_28, c_29, c_30, c_31, c_33, c_34, c_37, c_39, c_46, c_47, c_49, c_50, c_51, c_52, c_53, c_54, c_55, c_56, c_63, c_66, c_67, c_68, c_70, c_71, c_72, c_73, c_74, c_76, c_77, c_78, c_79, c_80, c_81, c_82, c_84, c_85, c_86, c_87, c_88, c_89, c_90, c_92, c_95, c_96, c_98, c_99, c_100, c_101, c_102, c_103, c_104, c_107, c_108, c_109, c_111, c_112, c_113, c_114, c_115, c_116, c_117, c_118, c_120, c_121, c_122, c_127, c_280, d_2, d_3, d_4, d_8, d_9, d_10, d_15, d_16, d_32, d_48, d_62, d_63, d_64, e1, e3]
        · rw [decide_eq_false e, show (if false = true then nI 1 else nI 0) = nI 0 from rfl]
          simp (disch := omega) only [ax_let, Option.bind_some, cond_true, cond_false, if_pos, if_neg, if_true, if_false, eq_self, nI_add, nI_ltI, nI_leI, nI_eq, nI_clamp, pu_in, c_0, c_1, c_2, c_3, c_4, c_5, c_6, c_7, c_8, c_9, c_10, c_11, c_12, c_15, c_16, c_17, c_32, c_35, c_36, c_38, c_40, c_41, c_42, c_43, c_44, c_45, c_48, c_57, c_58, c_59, c_60, c_61, c_62, c_64, c_65, c_69, c_75, c_83, c_91, c_93, c_94, c_97, c_105, c_106, c_110, c_119, c_123, c_124, c_125, c_126, c_240, c_256, c_400, c_m, nI_m1, nM_i, lN_add, lN_mul, lN_i, nI_l, lN_eq, lgN_le, lgN_lt, lgN_ge, lgN_gt, nI_sub, nI_mul, d_0, d_1, c_13, c_14, c_18, c_19, c_20, c_21, c_22, c_23, c_24, c_25, c_26, c_27, c_28, c_29, c_30, c_31, c_33, c_34, c_37, c_39, c_46, c_47, c_49, c_50, c_51, c_52, c_53, c_54, c_55, c_56, c_63, c_66, c_67, c_68, c_70, c_71, c_72, c_73, c_74, c_76, c_77, c_78, c_79, c_80, c_81, c_82, c_84, c_85, c_86, c_87, c_88, c_89, c_90, c_92, c_95, c_96, c_98, c_99, c_100, c_101, c_102, c_103, c_104, c_107, c_108, c_109, c_111, c_112, c_113, c_114, c_115, c_116, c_117, c_118, c_120, c_121, c_122, c_127, c_280, d_2, d_3, d_4, d_8, d_9, d_10, d_15, d_16, d_32, d_48, d_62, d_63, d_64, e1, e3]
    · rw [a2, Bool.or_eq_true, decide_eq_true_eq, or_assoc]
      refine or_congr Iff.rfl ⟨fun h => ?_, fun ⟨j', h1, h2, h3⟩ => ?_⟩
      · rcases h with h | ⟨j', h1, h2, h3⟩
        · exact ⟨j, Nat.le_refl _, by omega, h⟩
        · exact ⟨j', by omega, h2, h3⟩
      · by_cases e : j' = j
        · subst e; exact Or.inl h3
        · exact Or.inr ⟨j', by omega, h2, h3⟩
theorem rp_4 {F u : Nat} {E : Nat → Nat} {s : ax_σ} (hF : 241 ≤ F) (hu : u < 2) (hE : ∀ k, k < 16 → s.1 0 43 (16 * u + k) = nI (E k) ∧ E k < 16) : ∀ (d i M : Nat) (fl : Bool), i + d = 16 → d < M → ∃ fl' : Bool, lp_Z_repeats_4 F (nI u) s M (if fl = true then nI 1 else nI 0) (nI i) = some (if fl' = true then nI 1 else nI 0) ∧ (fl' = true ↔ fl = true ∨ ∃ i' j', i ≤ i' ∧ i' < 16 ∧ j' < i' ∧ E i' = E j')
  | d, i, 0, fl, _, h => absurd h (Nat.not_lt_zero _)
  | 0, i, M + 1, fl, hj, _ => by
    refine ⟨fl, ?_, ⟨fun k => Or.inl k, fun k => k.elim id (fun ⟨i', j', h1, h2, _⟩ => by omega)⟩⟩
    rw [lp_Z_repeats_4]
    simp (disch := omega) only [ax_let, Option.bind_some, cond_true, cond_false, if_pos, if_neg, if_true, if_false, eq_self, nI_add, nI_ltI, nI_leI, nI_eq, nI_clamp, pu_in, c_0, c_1, c_2, c_3, c_4, c_5, c_6, c_7, c_8, c_9, c_10, c_11, c_12, c_15, c_16, c_17, c_32, c_35, c_36, c_38, c_40, c_41, c_42, c_43, c_44, c_45, c_48, c_57, c_58, c_59, c_60, c_61, c_62, c_64, c_65, c_69, c_75, c_83, c_91, c_93, c_94, c_97, c_105, c_106, c_110, c_119, c_123, c_124, c_125, c_126, c_240, c_256, c_400, c_m, nI_m1, nM_i, lN_add, lN_mul, lN_i, nI_l, lN_eq, lgN_le, lgN_lt, lgN_ge, lgN_gt, nI_sub, nI_mul, d_0, d_1, c_13, c_14, c_18, c_19, c_20, c_21, c_22, c_23, c_24, c_25, c_26, c_27, c_28, c_29, c_30, c_31, c_33, c_34, c_37, c_39, c_46, c_47, c_49, c_50, c_51, c_52, c_53, c_54, c_55, c_56, c_63, c_66, c_67, c_68, c_70, c_71, c_72, c_73, c_74, c_76, c_77, c_78, c_79, c_80, c_81, c_82, c_84, c_85, c_86, c_87, c_88, c_89, c_90, c_92, c_95, c_96, c_98, c_99, c_100, c_101, c_102, c_103, c_104, c_107, c_108, c_109, c_111, c_112, c_113, c_114, c_115, c_116, c_117, c_118, c_120, c_121, c_122, c_127, c_280, d_2, d_3, d_4, d_8, d_9, d_10, d_15, d_16, d_32, d_48, d_62, d_63, d_64]
  | d + 1, i, M + 1, fl, hj, hM => by
    obtain ⟨f1, b1, b2⟩ := rp_13 (F := F) hu (show i < 16 by omega) hE i 0 F fl (by omega) (by omega)
    obtain ⟨fl', a1, a2⟩ := rp_4 (F := F) hF hu hE d (i + 1) M f1 (by omega) (by omega)
    refine ⟨fl', ?_, ?_⟩
    · rw [← a1, lp_Z_repeats_4]
      simp (disch := omega) only [ax_let, Option.bind_some, cond_true, cond_false, if_pos, if_neg, if_true, if_false, eq_self, nI_add, nI_ltI, nI_leI, nI_eq, nI_clamp, pu_in, c_0, c_1, c_2, c_3, c_4, c_5, c_6, c_7, c_8, c_9, c_10, c_11, c_12, c_15, c_16, c_17, c_32, c_35, c_36, c_38, c_40, c_41, c_42, c_43, c_44, c_45, c_48, c_57, c_58, c_59, c_60, c_61, c_62, c_64, c_65, c_69, c_75, c_83, c_91, c_93, c_94, c_97, c_105, c_106, c_110, c_119, c_123, c_124, c_125, c_126, c_240, c_256, c_400, c_m, nI_m1, nM_i, lN_add, lN_mul, lN_i, nI_l, lN_eq, lgN_le, lgN_lt, lgN_ge, lgN_gt, nI_sub, nI_mul, d_0, d_1, c_13, c_14, c_18, c_19, c_20, c_21, c_22, c_23, c_24, c_25, c_26, c_27, c_28, c_29, c_30, c_31, c_33, c_34, c_37, c_39, c_46, c_47, c_49, c_50, c_51, c_52, c_53, c_54, c_55, c_56, c_63, c_66, c_67, c_68, c_70, c_71, c_72, c_73, c_74, c_76, c_77, c_78, c_79, c_80, c_81, c_82, c_84, c_85, c_86, c_87, c_88, c_89, c_90, c_92, c_95, c_96, c_98, c_99, c_100, c_101, c_102, c_103, c_104, c_107, c_108, c_109, c_111, c_112, c_113, c_114, c_115, c_116, c_117, c_118, c_120, c_121, c_122, c_127, c_280, d_2, d_3, d_4, d_8, d_9, d_10, d_15, d_16, d_32, d_48, d_62, d_63, d_64, b1]
    · rw [a2, b2, or_assoc]
      refine or_congr Iff.rfl ⟨fun h => ?_, fun ⟨i', j', h1, h2, h3, h4⟩ => ?_⟩
      · rcases h with ⟨j', h1, h2, h3⟩ | ⟨i', j', h1, h2, h3, h4⟩
        · exact ⟨i, j', Nat.le_refl _, by omega, h2, h3⟩
        · exact ⟨i', j', by omega, h2, h3, h4⟩
      · by_cases e : i' = i
        · subst e; exact Or.inl ⟨j', Nat.zero_le _, h3, h4⟩
        · exact Or.inr ⟨i', j', by omega, h2, h3, h4⟩
theorem z_rep {F u : Nat} {E : Nat → Nat} {s : ax_σ} (hF : 241 ≤ F) (hu : u < 2) (hE : ∀ k, k < 16 → s.1 0 43 (16 * u + k) = nI (E k) ∧ E k < 16) : ∃ fl : Bool, f_Z_repeats F (nI u) s = some (if fl = true then nI 1 else nI 0) ∧ (fl = true ↔ ∃ i j, i < 16 ∧ j < i ∧ E i = E j) := by
  obtain ⟨fl, a1, a2⟩ := rp_4 (F := F) hF hu hE 16 0 F false (by omega) (by omega)
  refine ⟨fl, ?_, ?_⟩
  · have a1 : lp_Z_repeats_4 F (nI u) s F (nI 0) (nI 0) = some (if fl = true then nI 1 else nI 0) := a1
    unfold f_Z_repeats
    simp (disch := omega) only [ax_let, Option.bind_some, cond_true, cond_false, if_pos, if_neg, if_true, if_false, eq_self, nI_add, nI_ltI, nI_leI, nI_eq, nI_clamp, pu_in, c_0, c_1, c_2, c_3, c_4, c_5, c_6, c_7, c_8, c_9, c_10, c_11, c_12, c_15, c_16, c_17, c_32, c_35, c_36, c_38, c_40, c_41, c_42, c_43, c_44, c_45, c_48, c_57, c_58, c_59, c_60, c_61, c_62, c_64, c_65, c_69, c_75, c_83, c_91, c_93, c_94, c_97, c_105, c_106, c_110, c_119, c_123, c_124, c_125, c_126, c_240, c_256, c_400, c_m, nI_m1, nM_i, lN_add, lN_mul, lN_i, nI_l, lN_eq, lgN_le, lgN_lt, lgN_ge, lgN_gt, nI_sub, nI_mul, d_0, d_1, c_13, c_14, c_18, c_19, c_20, c_21, c_22, c_23, c_24, c_25, c_26, c_27, c_28, c_29, c_30, c_31, c_33, c_34, c_37, c_39, c_46, c_47, c_49, c_50, c_51, c_52, c_53, c_54, c_55, c_56, c_63, c_66, c_67, c_68, c_70, c_71, c_72, c_73, c_74, c_76, c_77, c_78, c_79, c_80, c_81, c_82, c_84, c_85, c_86, c_87, c_88, c_89, c_90, c_92, c_95, c_96, c_98, c_99, c_100, c_101, c_102, c_103, c_104, c_107, c_108, c_109, c_111, c_112, c_113, c_114, c_115, c_116, c_117, c_118, c_120, c_121, c_122, c_127, c_280, d_2, d_3, d_4, d_8, d_9, d_10, d_15, d_16, d_32, d_48, d_62, d_63, d_64, a1]
    cases fl <;> rfl
  · rw [a2]
    exact ⟨fun h => h.elim (fun h => absurd h (by decide)) (fun ⟨i, j, _, h1, h2, h3⟩ => ⟨i, j, h1, h2, h3⟩), fun ⟨i, j, h1, h2, h3⟩ => Or.inr ⟨i, j, Nat.zero_le _, h1, h2, h3⟩⟩
theorem bkL_nM {f : Nat → Int32} {i : Int32} : ∀ (n : Nat) (acc : Int32), n < 2 ^ 31 → (bkL f i n acc = nM ↔ acc = nM ∧ ∀ y, y < n → f y ≠ i)
  | 0, acc, _ => ⟨fun h => ⟨h, fun y hy => absurd hy (Nat.not_lt_zero _)⟩, fun h => h.1⟩
  | n + 1, acc, hn => by
    rw [bkL, bkL_nM n _ (by omega)]
    by_cases e : f n = i
    · rw [if_pos e]
      exact ⟨fun h => absurd h.1 (by rw [nI_m1 (by omega)]; exact id), fun h => absurd e (h.2 n (by omega))⟩
    · rw [if_neg e]
      constructor
      · rintro ⟨a, b⟩
        refine ⟨a, fun y hy => ?_⟩
        by_cases e2 : y = n
        · rw [e2]; exact e
        · exact b y (by omega)
      · rintro ⟨a, b⟩
        exact ⟨a, fun y hy => b y (by omega)⟩
theorem tbF_iff {B : Nat → Int32} {t : Nat} : ∀ (n i : Nat), tbF B t n i = true ↔ ∀ k, i ≤ k → k < i + n → B (t * 16 + k) ≠ nM
  | 0, i => ⟨fun _ k h1 h2 => by omega, fun _ => rfl⟩
  | n + 1, i => by
    rw [tbF]
    by_cases e : B (t * 16 + i) = nM
    · rw [if_pos e]
      exact ⟨fun h => absurd h (by decide), fun h => absurd e (h i (Nat.le_refl _) (by omega))⟩
    · rw [if_neg e, tbF_iff n (i + 1)]
      constructor
      · intro h k h1 h2
        by_cases e2 : k = i
        · rw [e2]; exact e
        · exact h k (by omega) (by omega)
      · intro h k h1 h2
        exact h k (by omega) (by omega)
/-- a table can be turned round if no number stands in it twice -/
theorem tb_rep {B : Nat → Int32} {u : Nat} {E : Nat → Nat} (hE : ∀ k, k < 16 → E k < 16) (hB : ∀ k, k < 16 → B (u * 16 + k) = bkL (fun y => nI (E y)) (nI k) 16 nM) : tbF B u 16 0 = true ↔ ¬ ∃ i j, i < 16 ∧ j < i ∧ E i = E j := by
  have h1 : tbF B u 16 0 = true ↔ ∀ k, k < 16 → ∃ y, y < 16 ∧ E y = k := by
    rw [tbF_iff]
    have h2 : ∀ k, k < 16 → (B (u * 16 + k) ≠ nM ↔ ∃ y, y < 16 ∧ E y = k) := by
      intro k hk
      rw [hB k hk, ne_eq, bkL_nM 16 nM (by decide)]
      constructor
      · intro h
        refine Classical.byContradiction (fun hn => h ⟨rfl, fun y hy e => hn ⟨y, hy, ?_⟩⟩)
        have := hE y hy
        exact (nI_eq (by omega) (by omega)).mp e
      · rintro ⟨y, hy, e⟩ ⟨-, h⟩
        exact h y hy (by rw [e])
    exact ⟨fun h k hk => (h2 k hk).mp (h k (Nat.zero_le _) (by omega)), fun h k _ hk => (h2 k (by omega)).mpr (h k (by omega))⟩
  rw [h1]
  constructor
  · rintro h ⟨i, j, hi, hj, e⟩
    have := sur_inj h hE i j hi (by omega) e
    omega
  · intro h
    refine inj_sur 16 E hE (fun i j hi hj e => ?_)
    refine Classical.byContradiction (fun hne => h ?_)
    by_cases hij : j < i
    · exact ⟨i, j, hi, hij, e⟩
    · exact ⟨j, i, hj, by omega, e.symm⟩
/-- the numbers behind @ -/
theorem cs_332 {F k e : Nat} {D : Ds} (hk : k < 240) (he : e ≤ 240) (hw : D.1.1 ≤ 64) : ∀ (l : List (Nat × Nat)) (r0 M rf : Nat) (s : ax_σ), r0 + l.length = e → l.length < M → s.1 0 55 k = nI e → s.2 0 41 0 = lN D.1.1 → (∀ j x, l[j]? = some x → s.2 0 56 (r0 + j) = lN x.1 ∧ s.1 0 57 (r0 + j) = nI x.2) → (∀ x ∈ l, x.1 < 10 ^ 9 ∧ x.2 ≤ 240) → ZFa rf s → ∃ s' rf', lp_Z_checkStep_332 F (nI k) M (nI r0) s = some s' ∧ ZFa rf' s' ∧ (∀ m, m ≤ rf' ↔ m ≤ rf ∧ ∀ x ∈ l, ¬ x.1 < D.1.1 → m ≤ x.2 * 8 + 3) ∧ frm X53 s s'
  | l, r0, 0, rf, s, _, h, _, _, _, _, _ => absurd h (Nat.not_lt_zero _)
  | [], r0, M + 1, rf, s, h1, _, h55, h41, hT, hx, hf => by
    rw [List.length_nil] at h1
    refine ⟨s, rf, ?_, hf, fun m => ⟨fun k => ⟨k, fun x hx => absurd hx List.not_mem_nil⟩, fun k => k.1⟩, frm.refl⟩
    rw [lp_Z_checkStep_332]
    simp (disch := omega) only [ax_let, Option.bind_some, cond_true, cond_false, if_pos, if_neg, if_true, if_false, eq_self, nI_add, nI_ltI, nI_leI, nI_eq, nI_clamp, pu_in, c_0, c_1, c_2, c_3, c_4, c_5, c_6, c_7, c_8, c_9, c_10, c_11, c_12, c_15, c_16, c_17, c_32, c_35, c_36, c_38, c_40, c_41, c_42, c_43, c_44, c_45, c_48, c_57, c_58, c_59, c_60, c_61, c_62, c_64, c_65, c_69, c_75, c_83, c_91, c_93, c_94, c_97, c_105, c_106, c_110, c_119, c_123, c_124, c_125, c_126, c_240, c_256, c_400, c_m, nI_m1, nM_i, lN_add, lN_mul, lN_i, nI_l, lN_eq, lgN_le, lgN_lt, lgN_ge, lgN_gt, nI_sub, nI_mul, d_0, d_1, c_13, c_14, c_18, c_19, c_20, c_21, c_22, c_23, c_24, c_25, c_26, c_27, c_28, c_29, c_30, c_31, c_33, c_34, c_37, c_39, c_46, c_47, c_49, c_50, c_51, c_52, c_53, c_54, c_55, c_56, c_63, c_66, c_67, c_68, c_70, c_71, c_72, c_73, c_74, c_76, c_77, c_78, c_79, c_80, c_81, c_82, c_84, c_85, c_86, c_87, c_88, c_89, c_90, c_92, c_95, c_96, c_98, c_99, c_100, c_101, c_102, c_103, c_104, c_107, c_108, c_109, c_111, c_112, c_113, c_114, c_115, c_116, c_117, c_118, c_120, c_121, c_122, c_127, c_280, d_2, d_3, d_4, d_8, d_9, d_10, d_15, d_16, d_32, d_48, d_62, d_63, d_64, h55]
  | x :: l, r0, M + 1, rf, s, h1, hM, h55, h41, hT, hx, hf => by
    rw [List.length_cons] at h1 hM
    obtain ⟨z1, z2⟩ := hT 0 x rfl
    rw [Nat.add_zero] at z1 z2
    obtain ⟨b1, b2⟩ := hx x (List.mem_cons_self ..)
    obtain ⟨s1, rf1, c1, c0, c2, c3, c4⟩ := z_conD (c := 3) (¬ x.1 < D.1.1) (by omega) b2 hf
    obtain ⟨s2, rf2, d1, d2, d3, d4⟩ := cs_332 (F := F) hk he hw l (r0 + 1) M rf1 s1 (by omega) (by omega) ((c4.1 _ _ _ (by unfold X53; omega)).trans h55) ((c4.2 _ _ _ (by unfold X53; omega)).trans h41) (fun j y hj => by
      obtain ⟨y1, y2⟩ := hT (j + 1) y hj
      rw [show r0 + (j + 1) = r0 + 1 + j from by omega] at y1 y2
      exact ⟨(c4.2 _ _ _ (by unfold X53; omega)).trans y1, (c4.1 _ _ _ (by unfold X53; omega)).trans y2⟩) (fun x h => hx x (List.mem_cons_of_mem _ h)) c2
    refine ⟨s2, rf2, ?_, d2, fun m => ?_, c4.trans d4⟩
    · rw [← d1, lp_Z_checkStep_332]
      by_cases hP : x.1 < D.1.1
      · have c0' := c0 (fun e => e hP)
        simp (disch := omega) only [ax_let, Option.bind_some, cond_true, cond_false, if_pos, if_neg, if_true, if_false, eq_self, nI_add, nI_ltI, nI_leI, nI_eq, nI_clamp, pu_in, c_0, c_1, c_2, c_3, c_4, c_5, c_6, c_7, c_8, c_9, c_10, c_11, c_12, c_15, c_16, c_17, c_32, c_35, c_36, c_38, c_40, c_41, c_42, c_43, c_44, c_45, c_48, c_57, c_58, c_59, c_60, c_61, c_62, c_64, c_65, c_69, c_75, c_83, c_91, c_93, c_94, c_97, c_105, c_106, c_110, c_119, c_123, c_124, c_125, c_126, c_240, c_256, c_400, c_m, nI_m1, nM_i, lN_add, lN_mul, lN_i, nI_l, lN_eq, lgN_le, lgN_lt, lgN_ge, lgN_gt, nI_sub, nI_mul, d_0, d_1, c_13, c_14, c_18, c_19, c_20, c_21, c_22, c_23, c_24, c_25, c_26, c_27, c_28, c_29, c_30, c_31, c_33, c_34, c_37, c_39, c_46, c_47, c_49, c_50, c_51, c_52, c_53, c_54, c_55, c_56, c_63, c_66, c_67, c_68, c_70, c_71, c_72, c_73, c_74, c_76, c_77, c_78, c_79, c_80, c_81, c_82, c_84, c_85, c_86, c_87, c_88, c_89, c_90, c_92, c_95, c_96, c_98, c_99, c_100, c_101, c_102, c_103, c_104, c_107, c_108, c_109, c_111, c_112, c_113, c_114, c_115, c_116, c_117, c_118, c_120, c_121, c_122, c_127, c_280, d_2, d_3, d_4, d_8, d_9, d_10, d_15, d_16, d_32, d_48, d_62, d_63, d_64, h55, h41, z1, z2, c0']
      · have c1' := c1 hP
        simp (disch := omega) only [ax_let, Option.bind_some, cond_true, cond_false, if_pos, if_neg, if_true, if_false, eq_self, nI_add, nI_ltI, nI_leI, nI_eq, nI_clamp, pu_in, c_0, c_1, c_2, c_3, c_4, c_5, c_6, c_7, c_8, c_9, c_10, c_11, c_12, c_15, c_16, c_17, c_32, c_35, c_36, c_38, c_40, c_41, c_42, c_43, c_44, c_45, c_48, c_57, c_58, c_59, c_60, c_61, c_62, c_64, c_65, c_69, c_75, c_83, c_91, c_93, c_94, c_97, c_105, c_106, c_110, c_119, c_123, c_124, c_125, c_126, c_240, c_256, c_400, c_m, nI_m1, nM_i, lN_add, lN_mul, lN_i, nI_l, lN_eq, lgN_le, lgN_lt, lgN_ge, lgN_gt, nI_sub, nI_mul, d_0, d_1, c_13, c_14, c_18, c_19, c_20, c_21, c_22, c_23, c_24, c_25, c_26, c_27, c_28, c_29, c_30, c_31, c_33, c_34, c_37, c_39, c_46, c_47, c_49, c_50, c_51, c_52, c_53, c_54, c_55, c_56, c_63, c_66, c_67, c_68, c_70, c_71, c_72, c_73, c_74, c_76, c_77, c_78, c_79, c_80, c_81, c_82, c_84, c_85, c_86, c_87, c_88, c_89, c_90, c_92, c_95, c_96, c_98, c_99, c_100, c_101, c_102, c_103, c_104, c_107, c_108, c_109, c_111, c_112, c_113, c_114, c_115, c_116, c_117, c_118, c_120, c_121, c_122, c_127, c_280, d_2, d_3, d_4, d_8, d_9, d_10, d_15, d_16, d_32, d_48, d_62, d_63, d_64, h55, h41, z1, z2, c1']
    · rw [d3, c3]
      constructor
      · rintro ⟨⟨k1, k2⟩, k3⟩
        refine ⟨k1, fun y hy => ?_⟩
        cases hy with
        | head => exact k2
        | tail _ hy => exact k3 y hy
      · rintro ⟨k1, k2⟩
        exact ⟨⟨k1, k2 x (List.mem_cons_self ..)⟩, fun y hy => k2 y (List.mem_cons_of_mem _ hy)⟩
