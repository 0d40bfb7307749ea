/-! PURE: the reference accepts a sign -/
theorem bo_1 : ax_bo (nI 1) = true := rfl
theorem bo_0 : ax_bo (nI 0) = true := rfl
def zdis (F md c p : Nat) (s : ax_σ) : Option (Int32 × ax_σ) := if md < 10 ∨ 49 < md then f_Z_acceptsHead F (nI c) s else if md < 20 then f_Z_acceptsThing (nI c) (nI p) s else if md < 40 then f_Z_acceptsExpression F (nI c) (nI p) s else f_Z_acceptsStep (nI c) (nI p) s
def zsil (md c : Nat) : Bool := decide ((md = 3 ∧ c = 42) ∨ md = 6 ∨ md = 8)
section
variable {R F n : Nat} {f : Nat → Nat} {ts r r2 : List Tok} {s s' s1 s2 : ax_σ} {md c p : Nat} {Pr : List Nat}
theorem zw_or (h7 : s.1 0 38 7 = nI md) (hmd : md < 61) (hc : c < 128) (hw : ¬ (wants md ∧ isD c = true)) : (f_Z_wantsNumber s = some (nI 1) ∧ f_Z_isDigit (nI c) = some (nI 0)) ∨ f_Z_wantsNumber s = some (nI 0) := by
  by_cases h : wants md
  · refine Or.inl ⟨z_wants h7 h, ?_⟩
    rw [zd hc, if_neg (fun e => hw ⟨h, e⟩)]
  · exact Or.inr (z_nwants h7 (by omega) h)
theorem acc_e {b : Nat} (hb : b = 0 ∨ b = 1) (h7 : s.1 0 38 7 = nI md) (hmd : md < 61) (hc : c < 128) (hw : ¬ (wants md ∧ isD c = true)) (hD : zdis F md c p s = some (nI b, s1)) : f_Z_accepts F (nI c) (nI p) s = Option.bind (f_Z_print_II (nI c) (if b = 0 ∨ zsil md c = true then nI 0 else nI 1) s1) (fun s37 => some (nI b, s37)) := by
  have hww := zw_or (F := F) h7 hmd hc hw
  unfold zdis at hD
  unfold zsil
  unfold f_Z_accepts
  by_cases m3 : md = 3
  · subst m3
    rw [if_pos (by omega)] at hD
    by_cases c42 : c = 42
    · subst c42
      rcases hww with ⟨w1, w2⟩ | w1 <;> rcases hb with rfl | rfl <;> simp (disch := omega) only [ax_let, Option.bind_some, cond_true, cond_false, if_pos, if_neg, if_true, if_false, eq_self, nI_add, nI_ltI, nI_leI, nI_eq, nI_clamp, pu_in, c_0, c_1, c_2, c_3, c_4, c_5, c_6, c_7, c_8, c_9, c_10, c_11, c_12, c_15, c_16, c_17, c_32, c_35, c_36, c_38, c_40, c_41, c_42, c_43, c_44, c_45, c_48, c_57, c_58, c_59, c_60, c_61, c_62, c_64, c_65, c_69, c_75, c_83, c_91, c_93, c_94, c_97, c_105, c_106, c_110, c_119, c_123, c_124, c_125, c_126, c_240, c_256, c_400, c_m, nI_m1, nM_i, lN_add, lN_mul, lN_i, nI_l, lN_eq, lgN_le, lgN_lt, lgN_ge, lgN_gt, nI_sub, nI_mul, d_0, d_1, c_13, c_14, c_18, c_19, c_20, c_21, c_22, c_23, c_24, c_25, c_26, c_27, c_28, c_29, c_30, c_31, c_33, c_34, c_37, c_39, c_46, c_47, c_49, c_50, c_51, c_52, c_53, c_54, c_55, c_56, c_63, c_66, c_67, c_68, c_70, c_71, c_72, c_73, c_74, c_76, c_77, c_78, c_79, c_80, c_81, c_82, c_84, c_85, c_86, c_87, c_88, c_89, c_90, c_92, c_95, c_96, c_98, c_99, c_100, c_101, c_102, c_103, c_104, c_107, c_108, c_109, c_111, c_112, c_113, c_114, c_115, c_116, c_117, c_118, c_120, c_121, c_122, c_127, c_280, d_2, d_3, d_4, d_8, d_9, d_10, d_15, d_16, d_32, d_48, d_62, d_63, d_64, w1, h7, hD, bo_1, bo_0, decide_eq_true_eq] <;> simp only [w2]
    · rcases hww with ⟨w1, w2⟩ | w1 <;> rcases hb with rfl | rfl <;> simp (disch := omega) only [ax_let, Option.bind_some, cond_true, cond_false, if_pos, if_neg, if_true, if_false, eq_self, nI_add, nI_ltI, nI_leI, nI_eq, nI_clamp, pu_in, c_0, c_1, c_2, c_3, c_4, c_5, c_6, c_7, c_8, c_9, c_10, c_11, c_12, c_15, c_16, c_17, c_32, c_35, c_36, c_38, c_40, c_41, c_42, c_43, c_44, c_45, c_48, c_57, c_58, c_59, c_60, c_61, c_62, c_64, c_65, c_69, c_75, c_83, c_91, c_93, c_94, c_97, c_105, c_106, c_110, c_119, c_123, c_124, c_125, c_126, c_240, c_256, c_400, c_m, nI_m1, nM_i, lN_add, lN_mul, lN_i, nI_l, lN_eq, lgN_le, lgN_lt, lgN_ge, lgN_gt, nI_sub, nI_mul, d_0, d_1, c_13, c_14, c_18, c_19, c_20, c_21, c_22, c_23, c_24, c_25, c_26, c_27, c_28, c_29, c_30, c_31, c_33, c_34, c_37, c_39, c_46, c_47, c_49, c_50, c_51, c_52, c_53, c_54, c_55, c_56, c_63, c_66, c_67, c_68, c_70, c_71, c_72, c_73, c_74, c_76, c_77, c_78, c_79, c_80, c_81, c_82, c_84, c_85, c_86, c_87, c_88, c_89, c_90, c_92, c_95, c_96, c_98, c_99, c_100, c_101, c_102, c_103, c_104, c_107, c_108, c_109, c_111, c_112, c_113, c_114, c_115, c_116, c_117, c_118, c_120, c_121, c_122, c_127, c_280, d_2, d_3, d_4, d_8, d_9, d_10, d_15, d_16, d_32, d_48, d_62, d_63, d_64, w1, h7, hD, bo_1, bo_0, decide_eq_true_eq] <;> simp only [w2]
  · by_cases m6 : md = 6 ∨ md = 8
    · rw [if_pos (by omega)] at hD
      rcases m6 with rfl | rfl <;> rcases hww with ⟨w1, w2⟩ | w1 <;> rcases hb with rfl | rfl <;> simp (disch := omega) only [ax_let, Option.bind_some, cond_true, cond_false, if_pos, if_neg, if_true, if_false, eq_self, nI_add, nI_ltI, nI_leI, nI_eq, nI_clamp, pu_in, c_0, c_1, c_2, c_3, c_4, c_5, c_6, c_7, c_8, c_9, c_10, c_11, c_12, c_15, c_16, c_17, c_32, c_35, c_36, c_38, c_40, c_41, c_42, c_43, c_44, c_45, c_48, c_57, c_58, c_59, c_60, c_61, c_62, c_64, c_65, c_69, c_75, c_83, c_91, c_93, c_94, c_97, c_105, c_106, c_110, c_119, c_123, c_124, c_125, c_126, c_240, c_256, c_400, c_m, nI_m1, nM_i, lN_add, lN_mul, lN_i, nI_l, lN_eq, lgN_le, lgN_lt, lgN_ge, lgN_gt, nI_sub, nI_mul, d_0, d_1, c_13, c_14, c_18, c_19, c_20, c_21, c_22, c_23, c_24, c_25, c_26, c_27, c_28, c_29, c_30, c_31, c_33, c_34, c_37, c_39, c_46, c_47, c_49, c_50, c_51, c_52, c_53, c_54, c_55, c_56, c_63, c_66, c_67, c_68, c_70, c_71, c_72, c_73, c_74, c_76, c_77, c_78, c_79, c_80, c_81, c_82, c_84, c_85, c_86, c_87, c_88, c_89, c_90, c_92, c_95, c_96, c_98, c_99, c_100, c_101, c_102, c_103, c_104, c_107, c_108, c_109, c_111, c_112, c_113, c_114, c_115, c_116, c_117, c_118, c_120, c_121, c_122, c_127, c_280, d_2, d_3, d_4, d_8, d_9, d_10, d_15, d_16, d_32, d_48, d_62, d_63, d_64, w1, h7, hD, bo_1, bo_0, decide_eq_true_eq]
    · by_cases m1 : md < 10
      · rw [if_pos (by omega)] at hD
        rcases hww with ⟨w1, w2⟩ | w1 <;> rcases hb with rfl | rfl <;> simp (disch := omega) only [ax_let, Option.bind_some, cond_true, cond_false, if_pos, if_neg, if_true, if_false, eq_self, nI_add, nI_ltI, nI_leI, nI_eq, nI_clamp, pu_in, c_0, c_1, c_2, c_3, c_4, c_5, c_6, c_7, c_8, c_9, c_10, c_11, c_12, c_15, c_16, c_17, c_32, c_35, c_36, c_38, c_40, c_41, c_42, c_43, c_44, c_45, c_48, c_57, c_58, c_59, c_60, c_61, c_62, c_64, c_65, c_69, c_75, c_83, c_91, c_93, c_94, c_97, c_105, c_106, c_110, c_119, c_123, c_124, c_125, c_126, c_240, c_256, c_400, c_m, nI_m1, nM_i, lN_add, lN_mul, lN_i, nI_l, lN_eq, lgN_le, lgN_lt, lgN_ge, lgN_gt, nI_sub, nI_mul, d_0, d_1, c_13, c_14, c_18, c_19, c_20, c_21, c_22, c_23, c_24, c_25, c_26, c_27, c_28, c_29, c_30, c_31, c_33, c_34, c_37, c_39, c_46, c_47, c_49, c_50, c_51, c_52, c_53, c_54, c_55, c_56, c_63, c_66, c_67, c_68, c_70, c_71, c_72, c_73, c_74, c_76, c_77, c_78, c_79, c_80, c_81, c_82, c_84, c_85, c_86, c_87, c_88, c_89, c_90, c_92, c_95, c_96, c_98, c_99, c_100, c_101, c_102, c_103, c_104, c_107, c_108, c_109, c_111, c_112, c_113, c_114, c_115, c_116, c_117, c_118, c_120, c_121, c_122, c_127, c_280, d_2, d_3, d_4, d_8, d_9, d_10, d_15, d_16, d_32, d_48, d_62, d_63, d_64, w1, h7, hD, bo_1, bo_0, decide_eq_true_eq] <;> simp (disch := omega) only [ax_let, Option.bind_some, cond_true, cond_false, if_pos, if_neg, if_true, if_false, eq_self, nI_add, nI_ltI, nI_leI, nI_eq, nI_clamp, pu_in, c_0, c_1, c_2, c_3, c_4, c_5, c_6, c_7, c_8, c_9, c_10, c_11, c_12, c_15, c_16, c_17, c_32, c_35, c_36, c_38, c_40, c_41, c_42, c_43, c_44, c_45, c_48, c_57, c_58, c_59, c_60, c_61, c_62, c_64, c_65, c_69, c_75, c_83, c_91, c_93, c_94, c_97, c_105, c_106, c_110, c_119, c_123, c_124, c_125, c_126, c_240, c_256, c_400, c_m, nI_m1, nM_i, lN_add, lN_mul, lN_i, nI_l, lN_eq, lgN_le, lgN_lt, lgN_ge, lgN_gt, nI_sub, nI_mul, d_0, d_1, c_13, c_14, c_18, c_19, c_20, c_21, c_22, c_23, c_24, c_25, c_26, c_27, c_28, c_29, c_30, c_31, c_33, c_34, c_37, c_39, c_46, c_47, c_49, c_50, c_51, c_52, c_53, c_54, c_55, c_56, c_63, c_66, c_67, c_68, c_70, c_71, c_72, c_73, c_74, c_76, c_77, c_78, c_79, c_80, c_81, c_82, c_84, c_85, c_86, c_87, c_88, c_89, c_90, c_92, c_95, c_96, c_98, c_99, c_100, c_101, c_102, c_103, c_104, c_107, c_108, c_109, c_111, c_112, c_113, c_114, c_115, c_116, c_117, c_118, c_120, c_121, c_122, c_127, c_280, d_2, d_3, d_4, d_8, d_9, d_10, d_15, d_16, d_32, d_48, d_62, d_63, d_64, w2, h7, hD, bo_1, bo_0, decide_eq_true_eq]
      · by_cases m2 : 49 < md
        · rw [if_pos (by omega)] at hD
          rcases hww with ⟨w1, w2⟩ | w1 <;> rcases hb with rfl | rfl <;> simp (disch := omega) only [ax_let, Option.bind_some, cond_true, cond_false, if_pos, if_neg, if_true, if_false, eq_self, nI_add, nI_ltI, nI_leI, nI_eq, nI_clamp, pu_in, c_0, c_1, c_2, c_3, c_4, c_5, c_6, c_7, c_8, c_9, c_10, c_11, c_12, c_15, c_16, c_17, c_32, c_35, c_36, c_38, c_40, c_41, c_42, c_43, c_44, c_45, c_48, c_57, c_58, c_59, c_60, c_61, c_62, c_64, c_65, c_69, c_75, c_83, c_91, c_93, c_94, c_97, c_105, c_106, c_110, c_119, c_123, c_124, c_125, c_126, c_240, c_256, c_400, c_m, nI_m1, nM_i, lN_add, lN_mul, lN_i, nI_l, lN_eq, lgN_le, lgN_lt, lgN_ge, lgN_gt, nI_sub, nI_mul, d_0, d_1, c_13, c_14, c_18, c_19, c_20, c_21, c_22, c_23, c_24, c_25, c_26, c_27, c_28, c_29, c_30, c_31, c_33, c_34, c_37, c_39, c_46, c_47, c_49, c_50, c_51, c_52, c_53, c_54, c_55, c_56, c_63, c_66, c_67, c_68, c_70, c_71, c_72, c_73, c_74, c_76, c_77, c_78, c_79, c_80, c_81, c_82, c_84, c_85, c_86, c_87, c_88, c_89, c_90, c_92, c_95, c_96, c_98, c_99, c_100, c_101, c_102, c_103, c_104, c_107, c_108, c_109, c_111, c_112, c_113, c_114, c_115, c_116, c_117, c_118, c_120, c_121, c_122, c_127, c_280, d_2, d_3, d_4, d_8, d_9, d_10, d_15, d_16, d_32, d_48, d_62, d_63, d_64, w1, h7, hD, bo_1, bo_0, decide_eq_true_eq] <;> simp (disch := omega) only [ax_let, Option.bind_some, cond_true, cond_false, if_pos, if_neg, if_true, if_false, eq_self, nI_add, nI_ltI, nI_leI, nI_eq, nI_clamp, pu_in, c_0, c_1, c_2, c_3, c_4, c_5, c_6, c_7, c_8, c_9, c_10, c_11, c_12, c_15, c_16, c_17, c_32, c_35, c_36, c_38, c_40, c_41, c_42, c_43, c_44, c_45, c_48, c_57, c_58, c_59, c_60, c_61, c_62, c_64, c_65, c_69, c_75, c_83, c_91, c_93, c_94, c_97, c_105, c_106, c_110, c_119, c_123, c_124, c_125, c_126, c_240, c_256, c_400, c_m, nI_m1, nM_i, lN_add, lN_mul, lN_i, nI_l, lN_eq, lgN_le, lgN_lt, lgN_ge, lgN_gt, nI_sub, nI_mul, d_0, d_1, c_13, c_14, c_18, c_19, c_20, c_21, c_22, c_23, c_24, c_25, c_26, c_27, c_28, c_29, c_30, c_31, c_33, c_34, c_37, c_39, c_46, c_47, c_49, c_50, c_51, c_52, c_53, c_54, c_55, c_56, c_63, c_66, c_67, c_68, c_70, c_71, c_72, c_73, c_74, c_76, c_77, c_78, c_79, c_80, c_81, c_82, c_84, c_85, c_86, c_87, c_88, c_89, c_90, c_92, c_95, c_96, c_98, c_99, c_100, c_101, c_102, c_103, c_104, c_107, c_108, c_109, c_111, c_112, c_113, c_114, c_115, c_116, c_117, c_118, c_120, c_121, c_122, c_127, c_280, d_2, d_3, d_4, d_8, d_9, d_10, d_15, d_16, d_32, d_48, d_62, d_63, d_64, w2, h7, hD, bo_1, bo_0, decide_eq_true_eq]
        · rw [if_neg (by omega)] at hD
          by_cases m4 : md < 20
          · rw [if_pos m4] at hD
            rcases hww with ⟨w1, w2⟩ | w1 <;> rcases hb with rfl | rfl <;> simp (disch := omega) only [ax_let, Option.bind_some, cond_true, cond_false, if_pos, if_neg, if_true, if_false, eq_self, nI_add, nI_ltI, nI_leI, nI_eq, nI_clamp, pu_in, c_0, c_1, c_2, c_3, c_4, c_5, c_6, c_7, c_8, c_9, c_10, c_11, c_12, c_15, c_16, c_17, c_32, c_35, c_36, c_38, c_40, c_41, c_42, c_43, c_44, c_45, c_48, c_57, c_58, c_59, c_60, c_61, c_62, c_64, c_65, c_69, c_75, c_83, c_91, c_93, c_94, c_97, c_105, c_106, c_110, c_119, c_123, c_124, c_125, c_126, c_240, c_256, c_400, c_m, nI_m1, nM_i, lN_add, lN_mul, lN_i, nI_l, lN_eq, lgN_le, lgN_lt, lgN_ge, lgN_gt, nI_sub, nI_mul, d_0, d_1, c_13, c_14, c_18, c_19, c_20, c_21, c_22, c_23, c_24, c_25, c_26, c_27, c_28, c_29, c_30, c_31, c_33, c_34, c_37, c_39, c_46, c_47, c_49, c_50, c_51, c_52, c_53, c_54, c_55, c_56, c_63, c_66, c_67, c_68, c_70, c_71, c_72, c_73, c_74, c_76, c_77, c_78, c_79, c_80, c_81, c_82, c_84, c_85, c_86, c_87, c_88, c_89, c_90, c_92, c_95, c_96, c_98, c_99, c_100, c_101, c_102, c_103, c_104, c_107, c_108, c_109, c_111, c_112, c_113, c_114, c_115, c_116, c_117, c_118, c_120, c_121, c_122, c_127, c_280, d_2, d_3, d_4, d_8, d_9, d_10, d_15, d_16, d_32, d_48, d_62, d_63, d_64, w1, h7, hD, bo_1, bo_0, decide_eq_true_eq] <;> simp (disch := omega) only [ax_let, Option.bind_some, cond_true, cond_false, if_pos, if_neg, if_true, if_false, eq_self, nI_add, nI_ltI, nI_leI, nI_eq, nI_clamp, pu_in, c_0, c_1, c_2, c_3, c_4, c_5, c_6, c_7, c_8, c_9, c_10, c_11, c_12, c_15, c_16, c_17, c_32, c_35, c_36, c_38, c_40, c_41, c_42, c_43, c_44, c_45, c_48, c_57, c_58, c_59, c_60, c_61, c_62, c_64, c_65, c_69, c_75, c_83, c_91, c_93, c_94, c_97, c_105, c_106, c_110, c_119, c_123, c_124, c_125, c_126, c_240, c_256, c_400, c_m, nI_m1, nM_i, lN_add, lN_mul, lN_i, nI_l, lN_eq, lgN_le, lgN_lt, lgN_ge, lgN_gt, nI_sub, nI_mul, d_0, d_1, c_13, c_14, c_18, c_19, c_20, c_21, c_22, c_23, c_24, c_25, c_26, c_27, c_28, c_29, c_30, c_31, c_33, c_34, c_37, c_39, c_46, c_47, c_49, c_50, c_51, c_52, c_53, c_54, c_55, c_56, c_63, c_66, c_67, c_68, c_70, c_71, c_72, c_73, c_74, c_76, c_77, c_78, c_79, c_80, c_81, c_82, c_84, c_85, c_86, c_87, c_88, c_89, c_90, c_92, c_95, c_96, c_98, c_99, c_100, c_101, c_102, c_103, c_104, c_107, c_108, c_109, c_111, c_112, c_113, c_114, c_115, c_116, c_117, c_118, c_120, c_121, c_122, c_127, c_280, d_2, d_3, d_4, d_8, d_9, d_10, d_15, d_16, d_32, d_48, d_62, d_63, d_64, w2, h7, hD, bo_1, bo_0, decide_eq_true_eq]
          · rw [if_neg m4] at hD
            by_cases m5 : md < 40
            · rw [if_pos m5] at hD
              rcases hww with ⟨w1, w2⟩ | w1 <;> rcases hb with rfl | rfl <;> simp (disch := omega) only [ax_let, Option.bind_some, cond_true, cond_false, if_pos, if_neg, if_true, if_false, eq_self, nI_add, nI_ltI, nI_leI, nI_eq, nI_clamp, pu_in, c_0, c_1, c_2, c_3, c_4, c_5, c_6, c_7, c_8, c_9, c_10, c_11, c_12, c_15, c_16, c_17, c_32, c_35, c_36, c_38, c_40, c_41, c_42, c_43, c_44, c_45, c_48, c_57, c_58, c_59, c_60, c_61, c_62, c_64, c_65, c_69, c_75, c_83, c_91, c_93, c_94, c_97, c_105, c_106, c_110, c_119, c_123, c_124, c_125, c_126, c_240, c_256, c_400, c_m, nI_m1, nM_i, lN_add, lN_mul, lN_i, nI_l, lN_eq, lgN_le, lgN_lt, lgN_ge, lgN_gt, nI_sub, nI_mul, d_0, d_1, c_13, c_14, c_18, c_19, c_20, c_21, c_22, c_23, c_24, c_25, c_26, c_27, c_28, c_29, c_30, c_31, c_33, c_34, c_37, c_39, c_46, c_47, c_49, c_50, c_51, c_52, c_53, c_54, c_55, c_56, c_63, c_66, c_67, c_68, c_70, c_71, c_72, c_73, c_74, c_76, c_77, c_78, c_79, c_80, c_81, c_82, c_84, c_85, c_86, c_87, c_88, c_89, c_90, c_92, c_95, c_96, c_98, c_99, c_100, c_101, c_102, c_103, c_104, c_107, c_108, c_109, c_111, c_112, c_113, c_114, c_115, c_116, c_117, c_118, c_120, c_121, c_122, c_127, c_280, d_2, d_3, d_4, d_8, d_9, d_10, d_15, d_16, d_32, d_48, d_62, d_63, d_64, w1, h7, hD, bo_1, bo_0, decide_eq_true_eq] <;> simp (disch := omega) only [ax_let, Option.bind_some, cond_true, cond_false, if_pos, if_neg, if_true, if_false, eq_self, nI_add, nI_ltI, nI_leI, nI_eq, nI_clamp, pu_in, c_0, c_1, c_2, c_3, c_4, c_5, c_6, c_7, c_8, c_9, c_10, c_11, c_12, c_15, c_16, c_17, c_32, c_35, c_36, c_38, c_40, c_41, c_42, c_43, c_44, c_45, c_48, c_57, c_58, c_59, c_60, c_61, c_62, c_64, c_65, c_69, c_75, c_83, c_91, c_93, c_94, c_97, c_105, c_106, c_110, c_119, c_123, c_124, c_125, c_126, c_240, c_256, c_400, c_m, nI_m1, nM_i, lN_add, lN_mul, lN_i, nI_l, lN_eq, lgN_le, lgN_lt, lgN_ge, lgN_gt, nI_sub, nI_mul, d_0, d_1, c_13, c_14, c_18, c_19, c_20, c_21, c_22, c_23, c_24, c_25, c_26, c_27, c_28, c_29, c_30, c_31, c_33, c_34, c_37, c_39, c_46, c_47, c_49, c_50, c_51, c_52, c_53, c_54, c_55, c_56, c_63, c_66, c_67, c_68, c_70, c_71, c_72, c_73, c_74, c_76, c_77, c_78, c_79, c_80, c_81, c_82, c_84, c_85, c_86, c_87, c_88, c_89, c_90, c_92, c_95, c_96, c_98, c_99, c_100, c_101, c_102, c_103, c_104, c_107, c_108, c_109, c_111, c_112, c_113, c_114, c_115, c_116, c_117, c_118, c_120, c_121, c_122, c_127, c_280, d_2, d_3, d_4, d_8, d_9, d_10, d_15, d_16, d_32, d_48, d_62, d_63, d_64, w2, h7, hD, bo_1, bo_0, decide_eq_true_eq]
            · rw [if_neg m5] at hD
              rcases hww with ⟨w1, w2⟩ | w1 <;> rcases hb with rfl | rfl <;> simp (disch := omega) only [ax_let, Option.bind_some, cond_true, cond_false, if_pos, if_neg, if_true, if_false, eq_self, nI_add, nI_ltI, nI_leI, nI_eq, nI_clamp, pu_in, c_0, c_1, c_2, c_3, c_4, c_5, c_6, c_7, c_8, c_9, c_10, c_11, c_12, c_15, c_16, c_17, c_32, c_35, c_36, c_38, c_40, c_41, c_42, c_43, c_44, c_45, c_48, c_57, c_58, c_59, c_60, c_61, c_62, c_64, c_65, c_69, c_75, c_83, c_91, c_93, c_94, c_97, c_105, c_106, c_110, c_119, c_123, c_124, c_125, c_126, c_240, c_256, c_400, c_m, nI_m1, nM_i, lN_add, lN_mul, lN_i, nI_l, lN_eq, lgN_le, lgN_lt, lgN_ge, lgN_gt, nI_sub, nI_mul, d_0, d_1, c_13, c_14, c_18, c_19, c_20, c_21, c_22, c_23, c_24, c_25, c_26, c_27, c_28, c_29, c_30, c_31, c_33, c_34, c_37, c_39, c_46, c_47, c_49, c_50, c_51, c_52, c_53, c_54, c_55, c_56, c_63, c_66, c_67, c_68, c_70, c_71, c_72, c_73, c_74, c_76, c_77, c_78, c_79, c_80, c_81, c_82, c_84, c_85, c_86, c_87, c_88, c_89, c_90, c_92, c_95, c_96, c_98, c_99, c_100, c_101, c_102, c_103, c_104, c_107, c_108, c_109, c_111, c_112, c_113, c_114, c_115, c_116, c_117, c_118, c_120, c_121, c_122, c_127, c_280, d_2, d_3, d_4, d_8, d_9, d_10, d_15, d_16, d_32, d_48, d_62, d_63, d_64, w1, h7, hD, bo_1, bo_0, decide_eq_true_eq] <;> simp (disch := omega) only [ax_let, Option.bind_some, cond_true, cond_false, if_pos, if_neg, if_true, if_false, eq_self, nI_add, nI_ltI, nI_leI, nI_eq, nI_clamp, pu_in, c_0, c_1, c_2, c_3, c_4, c_5, c_6, c_7, c_8, c_9, c_10, c_11, c_12, c_15, c_16, c_17, c_32, c_35, c_36, c_38, c_40, c_41, c_42, c_43, c_44, c_45, c_48, c_57, c_58, c_59, c_60, c_61, c_62, c_64, c_65, c_69, c_75, c_83, c_91, c_93, c_94, c_97, c_105, c_106, c_110, c_119, c_123, c_124, c_125, c_126, c_240, c_256, c_400, c_m, nI_m1, nM_i, lN_add, lN_mul, lN_i, nI_l, lN_eq, lgN_le, lgN_lt, lgN_ge, lgN_gt, nI_sub, nI_mul, d_0, d_1, c_13, c_14, c_18, c_19, c_20, c_21, c_22, c_23, c_24, c_25, c_26, c_27, c_28, c_29, c_30, c_31, c_33, c_34, c_37, c_39, c_46, c_47, c_49, c_50, c_51, c_52, c_53, c_54, c_55, c_56, c_63, c_66, c_67, c_68, c_70, c_71, c_72, c_73, c_74, c_76, c_77, c_78, c_79, c_80, c_81, c_82, c_84, c_85, c_86, c_87, c_88, c_89, c_90, c_92, c_95, c_96, c_98, c_99, c_100, c_101, c_102, c_103, c_104, c_107, c_108, c_109, c_111, c_112, c_113, c_114, c_115, c_116, c_117, c_118, c_120, c_121, c_122, c_127, c_280, d_2, d_3, d_4, d_8, d_9, d_10, d_15, d_16, d_32, d_48, d_62, d_63, d_64, w2, h7, hD, bo_1, bo_0, decide_eq_true_eq]
theorem acc_1 (h7 : s.1 0 38 7 = nI md) (hmd : md < 61) (hc : c < 128) (hw : ¬ (wants md ∧ isD c = true)) (hD : zdis F md c p s = some (nI 1, s1)) (hP : ZP Pr s1) (hl : Pr.length < 280) : ∃ s2, f_Z_accepts F (nI c) (nI p) s = some (nI 1, s2) ∧ ZP (if zsil md c = true then Pr else Pr ++ [c]) s2 ∧ frm XP s1 s2 := by
  rw [acc_e (Or.inr rfl) h7 hmd hc hw hD]
  by_cases h : zsil md c = true
  · obtain ⟨s2, a1, a2, a3⟩ := zp_0 (c := c) hP hl
    refine ⟨s2, ?_, by rw [if_pos h]; exact a2, a3⟩
    rw [if_pos (Or.inr h), a1]
    rfl
  · obtain ⟨s2, a1, a2, a3⟩ := zp_1 (c := c) hP hl
    refine ⟨s2, ?_, by rw [if_neg h]; exact a2, a3⟩
    rw [if_neg (fun e => h (e.resolve_left (by omega))), a1]
    rfl
theorem acc_0 (h7 : s.1 0 38 7 = nI md) (hmd : md < 61) (hc : c < 128) (hw : ¬ (wants md ∧ isD c = true)) (hD : zdis F md c p s = some (nI 0, s1)) (hP : ZP Pr s1) (hl : Pr.length < 280) : ∃ s2, f_Z_accepts F (nI c) (nI p) s = some (nI 0, s2) ∧ frm XP s1 s2 := by
  rw [acc_e (Or.inl rfl) h7 hmd hc hw hD]
  obtain ⟨s2, a1, a2, a3⟩ := zp_0 (c := c) hP hl
  refine ⟨s2, ?_, a3⟩
  rw [if_pos (Or.inl rfl), a1]
  rfl
end
/-- what is still to be printed and what is, are the whole -/
def PQ (md : Nat) (ts : List Tok) (Tot Pr : List Nat) : Prop := isD (sg ts) = false ∨ wants md → Pr ++ fmt false (ts.map (·.1)) = Tot
theorem PQ.step {md md' c p : Nat} {ts : List Tok} {Tot Pr : List Nat} (h : PQ md ((c, p) :: ts) Tot Pr) (hc : isD c = false) : PQ md' ts Tot (Pr ++ [c]) := by
  intro _
  have h1 := h (Or.inl hc)
  rw [List.map_cons, fmt_n hc] at h1
  rw [List.append_assoc]
  exact h1
theorem PQ.num {md md' v p : Nat} {ts r : List Tok} {Tot Pr : List Nat} (h : PQ md ts Tot Pr) (hw : wants md) (hw' : ¬ wants md') (hp : pNum ts = some (v, p, r)) : PQ md' r Tot (Pr ++ dec v) := by
  intro h1
  have h2 := h1.resolve_right hw'
  have h3 := h (Or.inr hw)
  rw [(fmt_pn hp).1 h2] at h3
  rw [List.append_assoc]
  exact h3
/-- what the signs of an expression change, but for printing -/
def XZm (g r k : Nat) : Prop := g = 0 ∧ ((58 ≤ r ∧ r ≤ 66) ∨ (r = 38 ∧ (k = 7 ∨ k = 9 ∨ k = 10 ∨ k = 36 ∨ k = 42 ∨ (46 ≤ k ∧ k ≤ 49))))
def XZe (g r k : Nat) : Prop := g = 0 ∧ ((58 ≤ r ∧ r ≤ 67) ∨ (r = 38 ∧ ((7 ≤ k ∧ k ≤ 10) ∨ k = 36 ∨ k = 42 ∨ (46 ≤ k ∧ k ≤ 49) ∨ k = 51)))
def ZE (R n : Nat) (f : Nat → Nat) (md : Nat) (ts : List Tok) (Tot Pr : List Nat) (Ops : List Op) (Tms : List Tm) (Fs : List Nat) (s : ax_σ) : Prop := ztx R n f s ∧ s.1 0 38 8 = nI 0 ∧ s.1 0 38 7 = nI md ∧ ZP Pr s ∧ ZO Ops s ∧ ZM Tms s ∧ ZF Fs s ∧ (Pr.length + ts.length ≤ 264 ∧ Ops.length + Fs.length + ts.length ≤ 240 ∧ Tms.length + ts.length ≤ 240 ∧ Fs.length ≤ 12 ∧ ∀ t ∈ ts, t.1 < 128 ∧ t.2 ≤ 240) ∧ PQ md ts Tot Pr
theorem XZm.e {s s' : ax_σ} (h : frm XZm s s') : frm XZe s s' := h.imp (fun g r k h => by unfold XZm at h; unfold XZe; omega)
theorem XP.e {s s' : ax_σ} (h : frm XP s s') : frm XZe s s' := h.imp (fun g r k h => by unfold XP at h; unfold XZe; omega)
theorem XZe.z {s s' : ax_σ} (h : frm XZe s s') : frm XZ s s' := h.imp (fun g r k h => by unfold XZe at h; unfold XZ; omega)
section
variable {R F n : Nat} {f : Nat → Nat} {ts r r2 : List Tok} {s s' s1 s2 : ax_σ} {md md' c p : Nat} {Tot Pr : List Nat} {Ops Ops' : List Op} {Tms Tms' : List Tm} {Fs Fs' : List Nat}
theorem ZE.tk (h : ZE R n f md ts Tot Pr Ops Tms Fs s) : ∀ t ∈ ts, t.1 < 128 ∧ t.2 ≤ 240 := by
  obtain ⟨_, _, _, _, _, _, _, ⟨_, _, _, _, h⟩, _⟩ := h
  exact h
theorem ZE.step (h : ZE R n f md ((c, p) :: ts) Tot Pr Ops Tms Fs s) (hmd : md < 60) (hm3 : 20 ≤ md ∧ md < 40) (hc : isD c = false) (hD : zdis F md c p s = some (nI 1, s1)) (hf : frm XZm s s1) (h7 : s1.1 0 38 7 = nI md') (hO : ZO Ops' s1) (hM : ZM Tms' s1) (hFs : ZF Fs' s1) (b1 : Ops'.length + Fs'.length + ts.length ≤ 240) (b2 : Tms'.length + ts.length ≤ 240) (b3 : Fs'.length ≤ 12) : ∃ s2, zgo R F n f ((c, p) :: ts) s ts s2 ∧ ZE R n f md' ts Tot (Pr ++ [c]) Ops' Tms' Fs' s2 ∧ frm XP s1 s2 := by
  obtain ⟨a1, a2, a3, a4, a5, a6, a7, ⟨a8, a9, a10, a11, a12⟩, a13⟩ := h
  have hck := a12 _ (List.mem_cons_self ..)
  have hP1 : ZP Pr s1 := a4.keep hf (fun r k h => by unfold XZm; omega)
  rw [List.length_cons] at a8 a9 a10
  obtain ⟨s2, e1, e2, e3⟩ := acc_1 (p := p) a3 (by omega) hck.1 (fun e => by rw [hc] at e; cases e.2) hD hP1 (by omega)
  have hs : zsil md c = false := decide_eq_false (by omega)
  rw [hs] at e2
  have fz : frm XZe s s2 := (XZm.e hf).trans (XP.e e3)
  refine ⟨s2, z_step a1 a2 (XZe.z fz) e1, ⟨a1.keep (XZe.z fz), ?_, ?_, e2, hO.keep e3 (fun r k h => by unfold XP; omega), hM.keep e3 (fun r k h => by unfold XP; omega), hFs.keep e3 (fun r k h => by unfold XP; omega), ⟨by rw [List.length_append, List.length_singleton]; omega, b1, b2, b3, fun t ht => a12 t (List.mem_cons_of_mem _ ht)⟩, a13.step hc⟩, e3⟩
  · rw [e3.1 0 38 8 (by unfold XP; omega), hf.1 0 38 8 (by unfold XZm; omega)]; exact a2
  · rw [e3.1 0 38 7 (by unfold XP; omega)]; exact h7
theorem ZE.rej {G : ax_σ → Prop} (h : ZE R n f md ((c, p) :: ts) Tot Pr Ops Tms Fs s) (hmd : md < 60) (hw : ¬ (wants md ∧ isD c = true)) (hD : ∃ s1, zdis F md c p s = some (nI 0, s1) ∧ frm XZm s s1) : zR R F n f ((c, p) :: ts) s (nI p) G := by
  obtain ⟨s1, hD, hf⟩ := hD
  obtain ⟨a1, a2, a3, a4, a5, a6, a7, ⟨a8, a9, a10, a11, a12⟩, a13⟩ := h
  have hck := a12 _ (List.mem_cons_self ..)
  have hP1 : ZP Pr s1 := a4.keep hf (fun r k h => by unfold XZm; omega)
  rw [List.length_cons] at a8
  obtain ⟨s2, e1, e3⟩ := acc_0 (p := p) a3 (by omega) hck.1 hw hD hP1 (by omega)
  exact z_stop a1 a2 (XZe.z ((XZm.e hf).trans (XP.e e3))) e1
theorem ZE.nil {G : ax_σ → Prop} (h : ZE R n f md [] Tot Pr Ops Tms Fs s) (hmd : md < 60) : zR R F n f [] s (nI n) G := by
  have := z_end (F := F) (G := G) h.1 h.2.1 h.2.2.1 (by omega) (fun e => by omega)
  rw [if_neg (by omega)] at this
  exact this
theorem zs {c : Nat} (hc : c < 128) : f_Z_isState (nI c) = some (if 65 ≤ c ∧ c ≤ 68 then nI 1 else nI 0) := by
  have h : ∀ c, c < 128 → f_Z_isState (nI c) = some (if 65 ≤ c ∧ c ≤ 68 then nI 1 else nI 0) := by decide +kernel
  exact h c hc
theorem zl {c : Nat} (hc : c < 128) : f_Z_isLetter (nI c) = some (if c = 105 ∨ c = 106 then nI 1 else nI 0) := by
  have h : ∀ c, c < 128 → f_Z_isLetter (nI c) = some (if c = 105 ∨ c = 106 then nI 1 else nI 0) := by decide +kernel
  exact h c hc
/-- what comes out of the reference's reading of a piece -/
def zq (R F n : Nat) (f : Nat → Nat) {α : Type} (ts : List Tok) (s : ax_σ) (x : Rd α) (K : α → List Tok → ax_σ → Prop) : Prop := match x with
  | .ok (a, r) => ∃ s', K a r s' ∧ zgo R F n f ts s r s'
  | .error r => ∀ G, zR R F n f ts s (nI (pl n r)) G
theorem zq.pre {α : Type} {x : Rd α} {K : α → List Tok → ax_σ → Prop} (h : zgo R F n f ts s r s') (hq : zq R F n f r s' x K) : zq R F n f ts s x K := by
  match x, hq with
  | .ok (a, r), ⟨s2, h1, h2⟩ => exact ⟨s2, h1, h.trans h2⟩
  | .error r, hq => exact fun G => h.2 _ _ (hq G)
theorem zq.imp {α : Type} {x : Rd α} {K K' : α → List Tok → ax_σ → Prop} (hq : zq R F n f ts s x K) (h : ∀ a r s', K a r s' → K' a r s') : zq R F n f ts s x K' := by
  match x, hq with
  | .ok (a, r), ⟨s2, h1, h2⟩ => exact ⟨s2, h _ _ _ h1, h2⟩
  | .error r, hq => exact hq
theorem zq.bind {α β : Type} {x : Rd α} {k : α → List Tok → Rd β} {K : α → List Tok → ax_σ → Prop} {K' : β → List Tok → ax_σ → Prop} (hq : zq R F n f ts s x K) (h : ∀ a r s', x = .ok (a, r) → K a r s' → zq R F n f r s' (k a r) K') : zq R F n f ts s (rbind x k) K' := by
  match x, hq, h with
  | .ok (a, r), ⟨s2, h1, h2⟩, h => exact zq.pre h2 (h a r s2 rfl h1)
  | .error r, hq, h => exact hq
end
