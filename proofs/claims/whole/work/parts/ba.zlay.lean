/-! PURE: the reference lays out what is done -/
section
variable {F : Nat} {D : Ds} {s : ax_σ}
theorem z_note {k ins rg a b : Nat} {wr : Bool} {R : List R3} (hk : k < 240) (hfs : (dW D).length ≤ 240) (hw1 : wr = true → k < (dW D).length) (hw2 : wr = false → ¬ k < (dW D).length) (hR : R.length < 2 ^ 30) (h : ZY D wr R ins rg a b s) : ∃ s', f_Z_note (nI k) s = some s' ∧ ZY D wr (R ++ [(k, a, b)]) ins rg a b s' ∧ frm (XY wr) s s' := by
  obtain ⟨hZ, hKd, ⟨r1, r2⟩, h63, ⟨h64, hrg⟩, ha, hb, hab⟩ := h
  have h23 : s.1 0 38 23 = nI (dW D).length := hZ.2.2.2.2.1
  have keep : ∀ s', frm (XY wr) s s' → s'.1 0 38 63 = s.1 0 38 63 → s'.1 0 38 64 = s.1 0 38 64 → s'.1 0 74 0 = s.1 0 74 0 → s'.1 0 74 1 = s.1 0 74 1 → RcM wr (R ++ [(k, a, b)]) s' → ZY D wr (R ++ [(k, a, b)]) ins rg a b s' := by
    intro s' hf e1 e2 e3 e4 hM
    exact ⟨hZ.keep hf (fun r k h => XY.q h), hKd.keep hf (fun r k h => XY.q (by unfold XX; omega)), hM, e1.trans h63, ⟨e2.trans h64, hrg⟩, e3.trans ha, e4.trans hb, hab⟩
  cases wr with
  | true =>
    have hkl := hw1 rfl
    have r1 : s.1 0 38 55 = nI R.length := r1
    by_cases h32 : R.length < 32
    · refine ⟨ax_wI (ax_wI (ax_wI (ax_wI s 0 68 R.length (nI k)) 0 69 R.length (nI a)) 0 70 R.length (nI b)) 0 38 55 (nI (R.length + 1)), ?_, ?_, ?_⟩
      · unfold f_Z_note
        simp (disch := omega) only [ax_let, Option.bind_some, cond_true, cond_false, if_pos, if_neg, if_true, if_false, eq_self, nI_add, nI_ltI, nI_leI, nI_eq, nI_clamp, pu_in, c_0, c_1, c_2, c_3, c_4, c_5, c_6, c_7, c_8, c_9, c_10, c_11, c_12, c_15, c_16, c_17, c_32, c_35, c_36, c_38, c_40, c_41, c_42, c_43, c_44, c_45, c_48, c_57, c_58, c_59, c_60, c_61, c_62, c_64, c_65, c_69, c_75, c_83, c_91, c_93, c_94, c_97, c_105, c_106, c_110, c_119, c_123, c_124, c_125, c_126, c_240, c_256, c_400, c_m, nI_m1, nM_i, lN_add, lN_mul, lN_i, nI_l, lN_eq, lgN_le, lgN_lt, lgN_ge, lgN_gt, nI_sub, nI_mul, d_0, d_1, c_13, c_14, c_18, c_19, c_20, c_21, c_22, c_23, c_24, c_25, c_26, c_27, c_28, c_29, c_30, c_31, c_33, c_34, c_37, c_39, c_46, c_47, c_49, c_50, c_51, c_52, c_53, c_54, c_55, c_56, c_63, c_66, c_67, c_68, c_70, c_71, c_72, c_73, c_74, c_76, c_77, c_78, c_79, c_80, c_81, c_82, c_84, c_85, c_86, c_87, c_88, c_89, c_90, c_92, c_95, c_96, c_98, c_99, c_100, c_101, c_102, c_103, c_104, c_107, c_108, c_109, c_111, c_112, c_113, c_114, c_115, c_116, c_117, c_118, c_120, c_121, c_122, c_127, c_280, d_2, d_3, d_4, d_8, d_9, d_10, d_15, d_16, d_32, d_48, d_62, d_63, d_64, wI_1, wI_2, wL_1, wL_2, true_and, and_true, and_self, false_and, and_false, if_true, if_false, h23, r1, ha, hb]
      · refine keep _ ?_ (by simp (disch := omega) only [wI_1, wI_2, wL_1, wL_2, true_and, and_true, and_self, false_and, and_false, if_true, if_false, if_pos, if_neg]) (by simp (disch := omega) only [wI_1, wI_2, wL_1, wL_2, true_and, and_true, and_self, false_and, and_false, if_true, if_false, if_pos, if_neg]) (by simp (disch := omega) only [wI_1, wI_2, wL_1, wL_2, true_and, and_true, and_self, false_and, and_false, if_true, if_false, if_pos, if_neg]) (by simp (disch := omega) only [wI_1, wI_2, wL_1, wL_2, true_and, and_true, and_self, false_and, and_false, if_true, if_false, if_pos, if_neg]) ⟨by show (ax_wI _ 0 38 55 _).1 0 38 55 = _; simp (disch := omega) only [wI_1, wI_2, wL_1, wL_2, true_and, and_true, and_self, false_and, and_false, if_true, if_false, if_pos, if_neg, List.length_append, List.length_singleton], fun p x hp hp2 => ?_⟩
        · refine (((frm.refl.wI _ _ _ _ ?_).wI _ _ _ _ ?_).wI _ _ _ _ ?_).wI _ _ _ _ ?_ <;> unfold XY cRc aRc <;> simp
        · show (ax_wI (ax_wI (ax_wI (ax_wI s 0 68 R.length (nI k)) 0 69 R.length (nI a)) 0 70 R.length (nI b)) 0 38 55 (nI (R.length + 1))).1 0 68 p = nI x.1 ∧ (ax_wI (ax_wI (ax_wI (ax_wI s 0 68 R.length (nI k)) 0 69 R.length (nI a)) 0 70 R.length (nI b)) 0 38 55 (nI (R.length + 1))).1 0 69 p = nI x.2.1 ∧ (ax_wI (ax_wI (ax_wI (ax_wI s 0 68 R.length (nI k)) 0 69 R.length (nI a)) 0 70 R.length (nI b)) 0 38 55 (nI (R.length + 1))).1 0 70 p = nI x.2.2
          rcases getc hp with ⟨i1, i2⟩ | ⟨i1, i2⟩
          · obtain ⟨y1, y2, y3⟩ := r2 p x i2 hp2
            have y1 : s.1 0 68 p = nI x.1 := y1
            have y2 : s.1 0 69 p = nI x.2.1 := y2
            have y3 : s.1 0 70 p = nI x.2.2 := y3
            refine ⟨?_, ?_, ?_⟩
            · simp (disch := omega) only [wI_1, wI_2, wL_1, wL_2, true_and, and_true, and_self, false_and, and_false, if_true, if_false, if_pos, if_neg]; exact y1
            · simp (disch := omega) only [wI_1, wI_2, wL_1, wL_2, true_and, and_true, and_self, false_and, and_false, if_true, if_false, if_pos, if_neg]; exact y2
            · simp (disch := omega) only [wI_1, wI_2, wL_1, wL_2, true_and, and_true, and_self, false_and, and_false, if_true, if_false, if_pos, if_neg]; exact y3
          · subst i1
            subst i2
            refine ⟨?_, ?_, ?_⟩ <;> simp (disch := omega) only [wI_1, wI_2, wL_1, wL_2, true_and, and_true, and_self, false_and, and_false, if_true, if_false, if_pos, if_neg]
      · refine (((frm.refl.wI _ _ _ _ ?_).wI _ _ _ _ ?_).wI _ _ _ _ ?_).wI _ _ _ _ ?_ <;> unfold XY cRc aRc <;> simp
    · refine ⟨ax_wI s 0 38 55 (nI (R.length + 1)), ?_, ?_, frm.refl.wI _ _ _ _ (by unfold XY cRc aRc; simp)⟩
      · unfold f_Z_note
        simp (disch := omega) only [ax_let, Option.bind_some, cond_true, cond_false, if_pos, if_neg, if_true, if_false, eq_self, nI_add, nI_ltI, nI_leI, nI_eq, nI_clamp, pu_in, c_0, c_1, c_2, c_3, c_4, c_5, c_6, c_7, c_8, c_9, c_10, c_11, c_12, c_15, c_16, c_17, c_32, c_35, c_36, c_38, c_40, c_41, c_42, c_43, c_44, c_45, c_48, c_57, c_58, c_59, c_60, c_61, c_62, c_64, c_65, c_69, c_75, c_83, c_91, c_93, c_94, c_97, c_105, c_106, c_110, c_119, c_123, c_124, c_125, c_126, c_240, c_256, c_400, c_m, nI_m1, nM_i, lN_add, lN_mul, lN_i, nI_l, lN_eq, lgN_le, lgN_lt, lgN_ge, lgN_gt, nI_sub, nI_mul, d_0, d_1, c_13, c_14, c_18, c_19, c_20, c_21, c_22, c_23, c_24, c_25, c_26, c_27, c_28, c_29, c_30, c_31, c_33, c_34, c_37, c_39, c_46, c_47, c_49, c_50, c_51, c_52, c_53, c_54, c_55, c_56, c_63, c_66, c_67, c_68, c_70, c_71, c_72, c_73, c_74, c_76, c_77, c_78, c_79, c_80, c_81, c_82, c_84, c_85, c_86, c_87, c_88, c_89, c_90, c_92, c_95, c_96, c_98, c_99, c_100, c_101, c_102, c_103, c_104, c_107, c_108, c_109, c_111, c_112, c_113, c_114, c_115, c_116, c_117, c_118, c_120, c_121, c_122, c_127, c_280, d_2, d_3, d_4, d_8, d_9, d_10, d_15, d_16, d_32, d_48, d_62, d_63, d_64, wI_1, wI_2, wL_1, wL_2, true_and, and_true, and_self, false_and, and_false, if_true, if_false, h23, r1, ha, hb]
      · refine keep _ (frm.refl.wI _ _ _ _ (by unfold XY cRc aRc; simp)) (by simp (disch := omega) only [wI_1, wI_2, wL_1, wL_2, true_and, and_true, and_self, false_and, and_false, if_true, if_false, if_pos, if_neg]) (by simp (disch := omega) only [wI_1, wI_2, wL_1, wL_2, true_and, and_true, and_self, false_and, and_false, if_true, if_false, if_pos, if_neg]) (by simp (disch := omega) only [wI_1, wI_2, wL_1, wL_2, true_and, and_true, and_self, false_and, and_false, if_true, if_false, if_pos, if_neg]) (by simp (disch := omega) only [wI_1, wI_2, wL_1, wL_2, true_and, and_true, and_self, false_and, and_false, if_true, if_false, if_pos, if_neg]) ⟨by show (ax_wI _ 0 38 55 _).1 0 38 55 = _; simp (disch := omega) only [wI_1, wI_2, wL_1, wL_2, true_and, and_true, and_self, false_and, and_false, if_true, if_false, if_pos, if_neg, List.length_append, List.length_singleton], fun p x hp hp2 => ?_⟩
        have hp2' : p < 32 := hp2
        rcases getc hp with ⟨i1, i2⟩ | ⟨i1, i2⟩
        · obtain ⟨y1, y2, y3⟩ := r2 p x i2 hp2
          have y1 : s.1 0 68 p = nI x.1 := y1
          have y2 : s.1 0 69 p = nI x.2.1 := y2
          have y3 : s.1 0 70 p = nI x.2.2 := y3
          show (ax_wI s 0 38 55 (nI (R.length + 1))).1 0 68 p = nI x.1 ∧ (ax_wI s 0 38 55 (nI (R.length + 1))).1 0 69 p = nI x.2.1 ∧ (ax_wI s 0 38 55 (nI (R.length + 1))).1 0 70 p = nI x.2.2
          refine ⟨?_, ?_, ?_⟩
          · simp (disch := omega) only [wI_1, wI_2, wL_1, wL_2, true_and, and_true, and_self, false_and, and_false, if_true, if_false, if_pos, if_neg]; exact y1
          · simp (disch := omega) only [wI_1, wI_2, wL_1, wL_2, true_and, and_true, and_self, false_and, and_false, if_true, if_false, if_pos, if_neg]; exact y2
          · simp (disch := omega) only [wI_1, wI_2, wL_1, wL_2, true_and, and_true, and_self, false_and, and_false, if_true, if_false, if_pos, if_neg]; exact y3
        · omega
  | false =>
    have hkl := hw2 rfl
    have r1 : s.1 0 38 59 = nI R.length := r1
    by_cases h32 : R.length < 400
    · refine ⟨ax_wI (ax_wI (ax_wI (ax_wI s 0 71 R.length (nI k)) 0 72 R.length (nI a)) 0 73 R.length (nI b)) 0 38 59 (nI (R.length + 1)), ?_, ?_, ?_⟩
      · unfold f_Z_note
        simp (disch := omega) only [ax_let, Option.bind_some, cond_true, cond_false, if_pos, if_neg, if_true, if_false, eq_self, nI_add, nI_ltI, nI_leI, nI_eq, nI_clamp, pu_in, c_0, c_1, c_2, c_3, c_4, c_5, c_6, c_7, c_8, c_9, c_10, c_11, c_12, c_15, c_16, c_17, c_32, c_35, c_36, c_38, c_40, c_41, c_42, c_43, c_44, c_45, c_48, c_57, c_58, c_59, c_60, c_61, c_62, c_64, c_65, c_69, c_75, c_83, c_91, c_93, c_94, c_97, c_105, c_106, c_110, c_119, c_123, c_124, c_125, c_126, c_240, c_256, c_400, c_m, nI_m1, nM_i, lN_add, lN_mul, lN_i, nI_l, lN_eq, lgN_le, lgN_lt, lgN_ge, lgN_gt, nI_sub, nI_mul, d_0, d_1, c_13, c_14, c_18, c_19, c_20, c_21, c_22, c_23, c_24, c_25, c_26, c_27, c_28, c_29, c_30, c_31, c_33, c_34, c_37, c_39, c_46, c_47, c_49, c_50, c_51, c_52, c_53, c_54, c_55, c_56, c_63, c_66, c_67, c_68, c_70, c_71, c_72, c_73, c_74, c_76, c_77, c_78, c_79, c_80, c_81, c_82, c_84, c_85, c_86, c_87, c_88, c_89, c_90, c_92, c_95, c_96, c_98, c_99, c_100, c_101, c_102, c_103, c_104, c_107, c_108, c_109, c_111, c_112, c_113, c_114, c_115, c_116, c_117, c_118, c_120, c_121, c_122, c_127, c_280, d_2, d_3, d_4, d_8, d_9, d_10, d_15, d_16, d_32, d_48, d_62, d_63, d_64, wI_1, wI_2, wL_1, wL_2, true_and, and_true, and_self, false_and, and_false, if_true, if_false, h23, r1, ha, hb]
      · refine keep _ ?_ (by simp (disch := omega) only [wI_1, wI_2, wL_1, wL_2, true_and, and_true, and_self, false_and, and_false, if_true, if_false, if_pos, if_neg]) (by simp (disch := omega) only [wI_1, wI_2, wL_1, wL_2, true_and, and_true, and_self, false_and, and_false, if_true, if_false, if_pos, if_neg]) (by simp (disch := omega) only [wI_1, wI_2, wL_1, wL_2, true_and, and_true, and_self, false_and, and_false, if_true, if_false, if_pos, if_neg]) (by simp (disch := omega) only [wI_1, wI_2, wL_1, wL_2, true_and, and_true, and_self, false_and, and_false, if_true, if_false, if_pos, if_neg]) ⟨by show (ax_wI _ 0 38 59 _).1 0 38 59 = _; simp (disch := omega) only [wI_1, wI_2, wL_1, wL_2, true_and, and_true, and_self, false_and, and_false, if_true, if_false, if_pos, if_neg, List.length_append, List.length_singleton], fun p x hp hp2 => ?_⟩
        · refine (((frm.refl.wI _ _ _ _ ?_).wI _ _ _ _ ?_).wI _ _ _ _ ?_).wI _ _ _ _ ?_ <;> unfold XY cRc aRc <;> simp
        · show (ax_wI (ax_wI (ax_wI (ax_wI s 0 71 R.length (nI k)) 0 72 R.length (nI a)) 0 73 R.length (nI b)) 0 38 59 (nI (R.length + 1))).1 0 71 p = nI x.1 ∧ (ax_wI (ax_wI (ax_wI (ax_wI s 0 71 R.length (nI k)) 0 72 R.length (nI a)) 0 73 R.length (nI b)) 0 38 59 (nI (R.length + 1))).1 0 72 p = nI x.2.1 ∧ (ax_wI (ax_wI (ax_wI (ax_wI s 0 71 R.length (nI k)) 0 72 R.length (nI a)) 0 73 R.length (nI b)) 0 38 59 (nI (R.length + 1))).1 0 73 p = nI x.2.2
          rcases getc hp with ⟨i1, i2⟩ | ⟨i1, i2⟩
          · obtain ⟨y1, y2, y3⟩ := r2 p x i2 hp2
            have y1 : s.1 0 71 p = nI x.1 := y1
            have y2 : s.1 0 72 p = nI x.2.1 := y2
            have y3 : s.1 0 73 p = nI x.2.2 := y3
            refine ⟨?_, ?_, ?_⟩
            · simp (disch := omega) only [wI_1, wI_2, wL_1, wL_2, true_and, and_true, and_self, false_and, and_false, if_true, if_false, if_pos, if_neg]; exact y1
            · simp (disch := omega) only [wI_1, wI_2, wL_1, wL_2, true_and, and_true, and_self, false_and, and_false, if_true, if_false, if_pos, if_neg]; exact y2
            · simp (disch := omega) only [wI_1, wI_2, wL_1, wL_2, true_and, and_true, and_self, false_and, and_false, if_true, if_false, if_pos, if_neg]; exact y3
          · subst i1
            subst i2
            refine ⟨?_, ?_, ?_⟩ <;> simp (disch := omega) only [wI_1, wI_2, wL_1, wL_2, true_and, and_true, and_self, false_and, and_false, if_true, if_false, if_pos, if_neg]
      · refine (((frm.refl.wI _ _ _ _ ?_).wI _ _ _ _ ?_).wI _ _ _ _ ?_).wI _ _ _ _ ?_ <;> unfold XY cRc aRc <;> simp
    · refine ⟨ax_wI s 0 38 59 (nI (R.length + 1)), ?_, ?_, frm.refl.wI _ _ _ _ (by unfold XY cRc aRc; simp)⟩
      · unfold f_Z_note
        simp (disch := omega) only [ax_let, Option.bind_some, cond_true, cond_false, if_pos, if_neg, if_true, if_false, eq_self, nI_add, nI_ltI, nI_leI, nI_eq, nI_clamp, pu_in, c_0, c_1, c_2, c_3, c_4, c_5, c_6, c_7, c_8, c_9, c_10, c_11, c_12, c_15, c_16, c_17, c_32, c_35, c_36, c_38, c_40, c_41, c_42, c_43, c_44, c_45, c_48, c_57, c_58, c_59, c_60, c_61, c_62, c_64, c_65, c_69, c_75, c_83, c_91, c_93, c_94, c_97, c_105, c_106, c_110, c_119, c_123, c_124, c_125, c_126, c_240, c_256, c_400, c_m, nI_m1, nM_i, lN_add, lN_mul, lN_i, nI_l, lN_eq, lgN_le, lgN_lt, lgN_ge, lgN_gt, nI_sub, nI_mul, d_0, d_1, c_13, c_14, c_18, c_19, c_20, c_21, c_22, c_23, c_24, c_25, c_26, c_27, c_28, c_29, c_30, c_31, c_33, c_34, c_37, c_39, c_46, c_47, c_49, c_50, c_51, c_52, c_53, c_54, c_55, c_56, c_63, c_66, c_67, c_68, c_70, c_71, c_72, c_73, c_74, c_76, c_77, c_78, c_79, c_80, c_81, c_82, c_84, c_85, c_86, c_87, c_88, c_89, c_90, c_92, c_95, c_96, c_98, c_99, c_100, c_101, c_102, c_103, c_104, c_107, c_108, c_109, c_111, c_112, c_113, c_114, c_115, c_116, c_117, c_118, c_120, c_121, c_122, c_127, c_280, d_2, d_3, d_4, d_8, d_9, d_10, d_15, d_16, d_32, d_48, d_62, d_63, d_64, wI_1, wI_2, wL_1, wL_2, true_and, and_true, and_self, false_and, and_false, if_true, if_false, h23, r1, ha, hb]
      · refine keep _ (frm.refl.wI _ _ _ _ (by unfold XY cRc aRc; simp)) (by simp (disch := omega) only [wI_1, wI_2, wL_1, wL_2, true_and, and_true, and_self, false_and, and_false, if_true, if_false, if_pos, if_neg]) (by simp (disch := omega) only [wI_1, wI_2, wL_1, wL_2, true_and, and_true, and_self, false_and, and_false, if_true, if_false, if_pos, if_neg]) (by simp (disch := omega) only [wI_1, wI_2, wL_1, wL_2, true_and, and_true, and_self, false_and, and_false, if_true, if_false, if_pos, if_neg]) (by simp (disch := omega) only [wI_1, wI_2, wL_1, wL_2, true_and, and_true, and_self, false_and, and_false, if_true, if_false, if_pos, if_neg]) ⟨by show (ax_wI _ 0 38 59 _).1 0 38 59 = _; simp (disch := omega) only [wI_1, wI_2, wL_1, wL_2, true_and, and_true, and_self, false_and, and_false, if_true, if_false, if_pos, if_neg, List.length_append, List.length_singleton], fun p x hp hp2 => ?_⟩
        have hp2' : p < 400 := hp2
        rcases getc hp with ⟨i1, i2⟩ | ⟨i1, i2⟩
        · obtain ⟨y1, y2, y3⟩ := r2 p x i2 hp2
          have y1 : s.1 0 71 p = nI x.1 := y1
          have y2 : s.1 0 72 p = nI x.2.1 := y2
          have y3 : s.1 0 73 p = nI x.2.2 := y3
          show (ax_wI s 0 38 59 (nI (R.length + 1))).1 0 71 p = nI x.1 ∧ (ax_wI s 0 38 59 (nI (R.length + 1))).1 0 72 p = nI x.2.1 ∧ (ax_wI s 0 38 59 (nI (R.length + 1))).1 0 73 p = nI x.2.2
          refine ⟨?_, ?_, ?_⟩
          · simp (disch := omega) only [wI_1, wI_2, wL_1, wL_2, true_and, and_true, and_self, false_and, and_false, if_true, if_false, if_pos, if_neg]; exact y1
          · simp (disch := omega) only [wI_1, wI_2, wL_1, wL_2, true_and, and_true, and_self, false_and, and_false, if_true, if_false, if_pos, if_neg]; exact y2
          · simp (disch := omega) only [wI_1, wI_2, wL_1, wL_2, true_and, and_true, and_self, false_and, and_false, if_true, if_false, if_pos, if_neg]; exact y3
        · omega
end
