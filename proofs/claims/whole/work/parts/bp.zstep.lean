/-! PURE: a step, the reference's -/
def ZtC (th : Nat) (t : Th) (s : ax_σ) : Prop := th < 240 ∧ ∃ o r, zhA th t o r s ∧ o + (the t).length ≤ 240 ∧ r + (thn t).length ≤ 240 ∧ (∀ (q : Nat) (x : Op), (the t)[q]? = some x → ZVo (o + q) x s) ∧ (∀ (q : Nat) (x : Nat × Nat), (thn t)[q]? = some x → s.2 0 56 (r + q) = lN x.1)
def ZAw (E : Ev) (s : ax_σ) : Prop := ZWd (evW E) s ∧ (∀ k, k < 4 → s.2 0 80 k = evA E k) ∧ (∀ k, k < 4 → s.2 0 79 k = evK E k) ∧ (∀ k, k < 32 → s.2 0 81 k = evS E k)
def XZs (g r k : Nat) : Prop := g = 0 ∧ (r = 80 ∨ r = 74 ∨ r = 75)
section
variable {F p th d : Nat} {E : Ev} {t : Th} {en : Nat → Nat → Nat → Int32} {s : ax_σ}
theorem z_dostep (hF : 241 ≤ F) (hW : okW (evW E)) (hi : evI E ≤ 16) (hj : evJ E ≤ 16) (hd : d < 2) (hp : p < 400) (hA0 : ∀ k, k < 4 → bW (evW E) (evA E k)) (hg : gdT E en t) (hC : ZtC th t s) (h71 : s.1 0 71 p = nI th) (h72 : s.1 0 72 p = nI (evI E)) (h73 : s.1 0 73 p = nI (evJ E)) (hM : ZAw E s) (hen : thk t = 11 → ∀ k, k < 16 → zEn (thv t) d s k = en (thv t) d k) : ∃ s', f_Z_doStep F (nI p) (nI d) s = some s' ∧ (∀ k, k < 4 → s'.2 0 80 k = stA E en d t k) ∧ frm XZs s s' := by
  obtain ⟨hM1, hMA, hMK, hMS⟩ := hM
  obtain ⟨hth, oo, rr, ⟨h47, -, h49, h50, h52, h54, h54'⟩, hol, hrl, hO, hR⟩ := hC
  obtain ⟨hwt, hg⟩ := hg
  have hax := hMA _ hwt
  have hb := hA0 _ hwt
  have hk4 : 4 ≤ thk t ∧ thk t ≤ 12 := by
    rcases hg with ⟨h, -⟩ | ⟨h, -⟩ | ⟨h, -⟩ | ⟨h, -⟩ | ⟨h, -⟩ | ⟨h, -⟩ <;> omega
  have h49 : s.1 0 49 th = nI (thw t) := h49 ⟨by omega, by omega⟩
  have hcut := fun (s' : ax_σ) (h : ZWd (evW E) s') (a : Int64) => z_cut hW h a
  have fin : ∀ {s51 : ax_σ} {v : Int64} {A' : Nat → Int64}, frm XZs s s51 → (∀ k, k < 4 → s51.2 0 80 k = A' k) → ∃ s', some (ax_wL s51 0 80 (thw t) v) = some s' ∧ (∀ k, k < 4 → s'.2 0 80 k = upL A' (thw t) v k) ∧ frm XZs s s' := by
    intro s51 v A' h1 h3
    refine ⟨_, rfl, fun k hk => ?_, h1.wL 0 80 _ _ ⟨rfl, Or.inl rfl⟩⟩
    rw [wL_2]
    unfold upL
    by_cases h : k = thw t
    · rw [if_pos ⟨rfl, rfl, h⟩, if_pos h]
    · rw [if_neg (fun e => h e.2.2), if_neg h]
      exact h3 k hk
  rcases hg with ⟨hk, hh, hn, ho⟩ | ⟨hk, hv, ho⟩ | ⟨hk, hv⟩ | ⟨hk, hv⟩ | ⟨hk, hv, hen2⟩ | ⟨hk, hte, hl⟩
  · obtain ⟨y1, y2⟩ := h54 (by omega)
    obtain ⟨s14, v1, v2⟩ := z_value (F := F) hF hW hi hj hth hh ho hol y1 y2 hO hM1 hMA hMK hMS
    have f14 : frm XZs s s14 := v2.imp (fun g r k h => ⟨h.1, Or.inr h.2⟩)
    have hA14 : ∀ k, k < 4 → s14.2 0 80 k = evA E k := fun k hk => (v2.2 _ _ _ (by omega)).trans (hMA k hk)
    have h47' : s14.1 0 47 th = nI (thk t) := (v2.1 _ _ _ (by omega)).trans h47
    have hc14 := hcut s14 ((v2.2 _ _ _ (by omega)).trans hM1)
    have e4 : thk t = 4 → stA E en d t = upL (evA E) (thw t) (evA E (thw t) ^^^ exV E (the t)) := fun h => by
      unfold stA; rw [if_pos h]
    have e5 : thk t = 5 → stA E en d t = upL (evA E) (thw t) ((if d = 0 then evA E (thw t) + exV E (the t) else evA E (thw t) - exV E (the t)) &&& mkW (evW E)) := fun h => by
      unfold stA; rw [if_neg (by omega), if_pos h]
    have e6 : thk t = 6 → stA E en d t = upL (evA E) (thw t) ((if d = 0 then evA E (thw t) - exV E (the t) else evA E (thw t) + exV E (the t)) &&& mkW (evW E)) := fun h => by
      unfold stA; rw [if_neg (by omega), if_neg (by omega), if_pos h]
    clear ho hh hO hR h50 h52 h54 h54' hcut hk4
    unfold f_Z_doStep
    rw [pu_in hp (by omega), cond_true, nI_clamp (by omega), h71, pu_in hth (by omega), cond_true, nI_clamp (by omega), h49, pu_in hwt (by omega), cond_true, cond_true, h47, nI_clamp (by omega), hax, h72, h73]
    rcases (by omega : thk t = 4 ∨ thk t = 5 ∨ thk t = 6) with h | h | h
    · rw [e4 h, h]
      clear e4 e5 e6
      simp (disch := omega) only [ax_let, Option.bind_some, cond_true, cond_false, if_pos, if_neg, if_true, if_false, eq_self, nI_add, nI_ltI, nI_leI, nI_eq, nI_clamp, pu_in, c_0, c_1, c_2, c_3, c_4, c_5, c_6, c_7, c_8, c_9, c_10, c_11, c_12, c_15, c_16, c_17, c_32, c_35, c_36, c_38, c_40, c_41, c_42, c_43, c_44, c_45, c_48, c_57, c_58, c_59, c_60, c_61, c_62, c_64, c_65, c_69, c_75, c_83, c_91, c_93, c_94, c_97, c_105, c_106, c_110, c_119, c_123, c_124, c_125, c_126, c_240, c_256, c_400, c_m, nI_m1, nM_i, lN_add, lN_mul, lN_i, nI_l, lN_eq, lgN_le, lgN_lt, lgN_ge, lgN_gt, nI_sub, nI_mul, d_0, d_1, c_13, c_14, c_18, c_19, c_20, c_21, c_22, c_23, c_24, c_25, c_26, c_27, c_28, c_29, c_30, c_31, c_33, c_34, c_37, c_39, c_46, c_47, c_49, c_50, c_51, c_52, c_53, c_54, c_55, c_56, c_63, c_66, c_67, c_68, c_70, c_71, c_72, c_73, c_74, c_76, c_77, c_78, c_79, c_80, c_81, c_82, c_84, c_85, c_86, c_87, c_88, c_89, c_90, c_92, c_95, c_96, c_98, c_99, c_100, c_101, c_102, c_103, c_104, c_107, c_108, c_109, c_111, c_112, c_113, c_114, c_115, c_116, c_117, c_118, c_120, c_121, c_122, c_127, c_280, d_2, d_3, d_4, d_8, d_9, d_10, d_15, d_16, d_32, d_48, d_62, d_63, d_64, v1]
      exact fin f14 hA14
    · rw [e5 h]
      rw [h] at h47' ⊢
      clear e4 e5 e6
      rcases (by omega : d = 0 ∨ d = 1) with h0 | h0
      · rw [h0, if_pos (rfl : (0 : Nat) = 0)]
        simp (disch := omega) only [ax_let, Option.bind_some, cond_true, cond_false, if_pos, if_neg, if_true, if_false, eq_self, nI_add, nI_ltI, nI_leI, nI_eq, nI_clamp, pu_in, c_0, c_1, c_2, c_3, c_4, c_5, c_6, c_7, c_8, c_9, c_10, c_11, c_12, c_15, c_16, c_17, c_32, c_35, c_36, c_38, c_40, c_41, c_42, c_43, c_44, c_45, c_48, c_57, c_58, c_59, c_60, c_61, c_62, c_64, c_65, c_69, c_75, c_83, c_91, c_93, c_94, c_97, c_105, c_106, c_110, c_119, c_123, c_124, c_125, c_126, c_240, c_256, c_400, c_m, nI_m1, nM_i, lN_add, lN_mul, lN_i, nI_l, lN_eq, lgN_le, lgN_lt, lgN_ge, lgN_gt, nI_sub, nI_mul, d_0, d_1, c_13, c_14, c_18, c_19, c_20, c_21, c_22, c_23, c_24, c_25, c_26, c_27, c_28, c_29, c_30, c_31, c_33, c_34, c_37, c_39, c_46, c_47, c_49, c_50, c_51, c_52, c_53, c_54, c_55, c_56, c_63, c_66, c_67, c_68, c_70, c_71, c_72, c_73, c_74, c_76, c_77, c_78, c_79, c_80, c_81, c_82, c_84, c_85, c_86, c_87, c_88, c_89, c_90, c_92, c_95, c_96, c_98, c_99, c_100, c_101, c_102, c_103, c_104, c_107, c_108, c_109, c_111, c_112, c_113, c_114, c_115, c_116, c_117, c_118, c_120, c_121, c_122, c_127, c_280, d_2, d_3, d_4, d_8, d_9, d_10, d_15, d_16, d_32, d_48, d_62, d_63, d_64, v1, h47', hc14]
        exact fin f14 hA14
      · rw [h0, if_neg (show ¬ (1 : Nat) = 0 by omega)]
        simp (disch := omega) only [ax_let, Option.bind_some, cond_true, cond_false, if_pos, if_neg, if_true, if_false, eq_self, nI_add, nI_ltI, nI_leI, nI_eq, nI_clamp, pu_in, c_0, c_1, c_2, c_3, c_4, c_5, c_6, c_7, c_8, c_9, c_10, c_11, c_12, c_15, c_16, c_17, c_32, c_35, c_36, c_38, c_40, c_41, c_42, c_43, c_44, c_45, c_48, c_57, c_58, c_59, c_60, c_61, c_62, c_64, c_65, c_69, c_75, c_83, c_91, c_93, c_94, c_97, c_105, c_106, c_110, c_119, c_123, c_124, c_125, c_126, c_240, c_256, c_400, c_m, nI_m1, nM_i, lN_add, lN_mul, lN_i, nI_l, lN_eq, lgN_le, lgN_lt, lgN_ge, lgN_gt, nI_sub, nI_mul, d_0, d_1, c_13, c_14, c_18, c_19, c_20, c_21, c_22, c_23, c_24, c_25, c_26, c_27, c_28, c_29, c_30, c_31, c_33, c_34, c_37, c_39, c_46, c_47, c_49, c_50, c_51, c_52, c_53, c_54, c_55, c_56, c_63, c_66, c_67, c_68, c_70, c_71, c_72, c_73, c_74, c_76, c_77, c_78, c_79, c_80, c_81, c_82, c_84, c_85, c_86, c_87, c_88, c_89, c_90, c_92, c_95, c_96, c_98, c_99, c_100, c_101, c_102, c_103, c_104, c_107, c_108, c_109, c_111, c_112, c_113, c_114, c_115, c_116, c_117, c_118, c_120, c_121, c_122, c_127, c_280, d_2, d_3, d_4, d_8, d_9, d_10, d_15, d_16, d_32, d_48, d_62, d_63, d_64, v1, h47', hc14]
        exact fin f14 hA14
    · rw [e6 h]
      rw [h] at h47' ⊢
      clear e4 e5 e6
      rcases (by omega : d = 0 ∨ d = 1) with h0 | h0
      · rw [h0, if_pos (rfl : (0 : Nat) = 0)]
        simp (disch := omega) only [ax_let, Option.bind_some, cond_true, cond_false, if_pos, if_neg, if_true, if_false, eq_self, nI_add, nI_ltI, nI_leI, nI_eq, nI_clamp, pu_in, c_0, c_1, c_2, c_3, c_4, c_5, c_6, c_7, c_8, c_9, c_10, c_11, c_12, c_15, c_16, c_17, c_32, c_35, c_36, c_38, c_40, c_41, c_42, c_43, c_44, c_45, c_48, c_57, c_58, c_59, c_60, c_61, c_62, c_64, c_65, c_69, c_75, c_83, c_91, c_93, c_94, c_97, c_105, c_106, c_110, c_119, c_123, c_124, c_125, c_126, c_240, c_256, c_400, c_m, nI_m1, nM_i, lN_add, lN_mul, lN_i, nI_l, lN_eq, lgN_le, lgN_lt, lgN_ge, lgN_gt, nI_sub, nI_mul, d_0, d_1, c_13, c_14, c_18, c_19, c_20, c_21, c_22, c_23, c_24, c_25, c_26, c_27, c_28, c_29, c_30, c_31, c_33, c_34, c_37, c_39, c_46, c_47, c_49, c_50, c_51, c_52, c_53, c_54, c_55, c_56, c_63, c_66, c_67, c_68, c_70, c_71, c_72, c_73, c_74, c_76, c_77, c_78, c_79, c_80, c_81, c_82, c_84, c_85, c_86, c_87, c_88, c_89, c_90, c_92, c_95, c_96, c_98, c_99, c_100, c_101, c_102, c_103, c_104, c_107, c_108, c_109, c_111, c_112, c_113, c_114, c_115, c_116, c_117, c_118, c_120, c_121, c_122, c_127, c_280, d_2, d_3, d_4, d_8, d_9, d_10, d_15, d_16, d_32, d_48, d_62, d_63, d_64, v1, h47', hc14]
        exact fin f14 hA14
      · rw [h0, if_neg (show ¬ (1 : Nat) = 0 by omega)]
        simp (disch := omega) only [ax_let, Option.bind_some, cond_true, cond_false, if_pos, if_neg, if_true, if_false, eq_self, nI_add, nI_ltI, nI_leI, nI_eq, nI_clamp, pu_in, c_0, c_1, c_2, c_3, c_4, c_5, c_6, c_7, c_8, c_9, c_10, c_11, c_12, c_15, c_16, c_17, c_32, c_35, c_36, c_38, c_40, c_41, c_42, c_43, c_44, c_45, c_48, c_57, c_58, c_59, c_60, c_61, c_62, c_64, c_65, c_69, c_75, c_83, c_91, c_93, c_94, c_97, c_105, c_106, c_110, c_119, c_123, c_124, c_125, c_126, c_240, c_256, c_400, c_m, nI_m1, nM_i, lN_add, lN_mul, lN_i, nI_l, lN_eq, lgN_le, lgN_lt, lgN_ge, lgN_gt, nI_sub, nI_mul, d_0, d_1, c_13, c_14, c_18, c_19, c_20, c_21, c_22, c_23, c_24, c_25, c_26, c_27, c_28, c_29, c_30, c_31, c_33, c_34, c_37, c_39, c_46, c_47, c_49, c_50, c_51, c_52, c_53, c_54, c_55, c_56, c_63, c_66, c_67, c_68, c_70, c_71, c_72, c_73, c_74, c_76, c_77, c_78, c_79, c_80, c_81, c_82, c_84, c_85, c_86, c_87, c_88, c_89, c_90, c_92, c_95, c_96, c_98, c_99, c_100, c_101, c_102, c_103, c_104, c_107, c_108, c_109, c_111, c_112, c_113, c_114, c_115, c_116, c_117, c_118, c_120, c_121, c_122, c_127, c_280, d_2, d_3, d_4, d_8, d_9, d_10, d_15, d_16, d_32, d_48, d_62, d_63, d_64, v1, h47', hc14]
        exact fin f14 hA14
  · have e : stA E en d t = upL (evA E) (thw t) ((evA E (thw t) * (if d = 0 then lN (thv t) else inv64 (thv t))) &&& mkW (evW E)) := by
      unfold stA
      rw [if_neg (by omega), if_neg (by omega), if_neg (by omega), if_pos hk]
    obtain ⟨y1, -⟩ := h52 (by omega)
    have hc := hcut s hM1
    have hin := z_inv (F := F) (s := s) (by omega) ho
    clear h50 h52 h54 h54' hcut hO hR
    rw [e]
    unfold f_Z_doStep
    rw [pu_in hp (by omega), cond_true, nI_clamp (by omega), h71, pu_in hth (by omega), cond_true, nI_clamp (by omega), h49, pu_in hwt (by omega), cond_true, cond_true, h47, nI_clamp (by omega), hax, hk, y1]
    rcases (by omega : d = 0 ∨ d = 1) with h0 | h0
    · rw [h0, if_pos (rfl : (0 : Nat) = 0)]
      simp (disch := omega) only [ax_let, Option.bind_some, cond_true, cond_false, if_pos, if_neg, if_true, if_false, eq_self, nI_add, nI_ltI, nI_leI, nI_eq, nI_clamp, pu_in, c_0, c_1, c_2, c_3, c_4, c_5, c_6, c_7, c_8, c_9, c_10, c_11, c_12, c_15, c_16, c_17, c_32, c_35, c_36, c_38, c_40, c_41, c_42, c_43, c_44, c_45, c_48, c_57, c_58, c_59, c_60, c_61, c_62, c_64, c_65, c_69, c_75, c_83, c_91, c_93, c_94, c_97, c_105, c_106, c_110, c_119, c_123, c_124, c_125, c_126, c_240, c_256, c_400, c_m, nI_m1, nM_i, lN_add, lN_mul, lN_i, nI_l, lN_eq, lgN_le, lgN_lt, lgN_ge, lgN_gt, nI_sub, nI_mul, d_0, d_1, c_13, c_14, c_18, c_19, c_20, c_21, c_22, c_23, c_24, c_25, c_26, c_27, c_28, c_29, c_30, c_31, c_33, c_34, c_37, c_39, c_46, c_47, c_49, c_50, c_51, c_52, c_53, c_54, c_55, c_56, c_63, c_66, c_67, c_68, c_70, c_71, c_72, c_73, c_74, c_76, c_77, c_78, c_79, c_80, c_81, c_82, c_84, c_85, c_86, c_87, c_88, c_89, c_90, c_92, c_95, c_96, c_98, c_99, c_100, c_101, c_102, c_103, c_104, c_107, c_108, c_109, c_111, c_112, c_113, c_114, c_115, c_116, c_117, c_118, c_120, c_121, c_122, c_127, c_280, d_2, d_3, d_4, d_8, d_9, d_10, d_15, d_16, d_32, d_48, d_62, d_63, d_64, hc]
      exact fin frm.refl hMA
    · rw [h0, if_neg (show ¬ (1 : Nat) = 0 by omega)]
      simp (disch := omega) only [ax_let, Option.bind_some, cond_true, cond_false, if_pos, if_neg, if_true, if_false, eq_self, nI_add, nI_ltI, nI_leI, nI_eq, nI_clamp, pu_in, c_0, c_1, c_2, c_3, c_4, c_5, c_6, c_7, c_8, c_9, c_10, c_11, c_12, c_15, c_16, c_17, c_32, c_35, c_36, c_38, c_40, c_41, c_42, c_43, c_44, c_45, c_48, c_57, c_58, c_59, c_60, c_61, c_62, c_64, c_65, c_69, c_75, c_83, c_91, c_93, c_94, c_97, c_105, c_106, c_110, c_119, c_123, c_124, c_125, c_126, c_240, c_256, c_400, c_m, nI_m1, nM_i, lN_add, lN_mul, lN_i, nI_l, lN_eq, lgN_le, lgN_lt, lgN_ge, lgN_gt, nI_sub, nI_mul, d_0, d_1, c_13, c_14, c_18, c_19, c_20, c_21, c_22, c_23, c_24, c_25, c_26, c_27, c_28, c_29, c_30, c_31, c_33, c_34, c_37, c_39, c_46, c_47, c_49, c_50, c_51, c_52, c_53, c_54, c_55, c_56, c_63, c_66, c_67, c_68, c_70, c_71, c_72, c_73, c_74, c_76, c_77, c_78, c_79, c_80, c_81, c_82, c_84, c_85, c_86, c_87, c_88, c_89, c_90, c_92, c_95, c_96, c_98, c_99, c_100, c_101, c_102, c_103, c_104, c_107, c_108, c_109, c_111, c_112, c_113, c_114, c_115, c_116, c_117, c_118, c_120, c_121, c_122, c_127, c_280, d_2, d_3, d_4, d_8, d_9, d_10, d_15, d_16, d_32, d_48, d_62, d_63, d_64, hin, hc]
      exact fin frm.refl hMA
  · have e : stA E en d t = upL (evA E) (thw t) (rtw (evW E) (evA E (thw t)) (amt (evW E) (if d = 0 then lN (thv t) else - lN (thv t)))) := by
      unfold stA
      rw [if_neg (by omega), if_neg (by omega), if_neg (by omega), if_neg (by omega), if_pos hk]
    obtain ⟨y1, -⟩ := h52 (by omega)
    have hro := fun c => z_turned hW hM1 hb c
    clear h50 h52 h54 h54' hcut hO hR
    rw [e]
    unfold f_Z_doStep
    rw [pu_in hp (by omega), cond_true, nI_clamp (by omega), h71, pu_in hth (by omega), cond_true, nI_clamp (by omega), h49, pu_in hwt (by omega), cond_true, cond_true, h47, nI_clamp (by omega), hax, hk, y1]
    rcases (by omega : d = 0 ∨ d = 1) with h0 | h0
    · rw [h0, if_pos (rfl : (0 : Nat) = 0)]
      simp (disch := omega) only [ax_let, Option.bind_some, cond_true, cond_false, if_pos, if_neg, if_true, if_false, eq_self, nI_add, nI_ltI, nI_leI, nI_eq, nI_clamp, pu_in, c_0, c_1, c_2, c_3, c_4, c_5, c_6, c_7, c_8, c_9, c_10, c_11, c_12, c_15, c_16, c_17, c_32, c_35, c_36, c_38, c_40, c_41, c_42, c_43, c_44, c_45, c_48, c_57, c_58, c_59, c_60, c_61, c_62, c_64, c_65, c_69, c_75, c_83, c_91, c_93, c_94, c_97, c_105, c_106, c_110, c_119, c_123, c_124, c_125, c_126, c_240, c_256, c_400, c_m, nI_m1, nM_i, lN_add, lN_mul, lN_i, nI_l, lN_eq, lgN_le, lgN_lt, lgN_ge, lgN_gt, nI_sub, nI_mul, d_0, d_1, c_13, c_14, c_18, c_19, c_20, c_21, c_22, c_23, c_24, c_25, c_26, c_27, c_28, c_29, c_30, c_31, c_33, c_34, c_37, c_39, c_46, c_47, c_49, c_50, c_51, c_52, c_53, c_54, c_55, c_56, c_63, c_66, c_67, c_68, c_70, c_71, c_72, c_73, c_74, c_76, c_77, c_78, c_79, c_80, c_81, c_82, c_84, c_85, c_86, c_87, c_88, c_89, c_90, c_92, c_95, c_96, c_98, c_99, c_100, c_101, c_102, c_103, c_104, c_107, c_108, c_109, c_111, c_112, c_113, c_114, c_115, c_116, c_117, c_118, c_120, c_121, c_122, c_127, c_280, d_2, d_3, d_4, d_8, d_9, d_10, d_15, d_16, d_32, d_48, d_62, d_63, d_64, hro]
      exact fin frm.refl hMA
    · rw [h0, if_neg (show ¬ (1 : Nat) = 0 by omega)]
      simp (disch := omega) only [ax_let, Option.bind_some, cond_true, cond_false, if_pos, if_neg, if_true, if_false, eq_self, nI_add, nI_ltI, nI_leI, nI_eq, nI_clamp, pu_in, c_0, c_1, c_2, c_3, c_4, c_5, c_6, c_7, c_8, c_9, c_10, c_11, c_12, c_15, c_16, c_17, c_32, c_35, c_36, c_38, c_40, c_41, c_42, c_43, c_44, c_45, c_48, c_57, c_58, c_59, c_60, c_61, c_62, c_64, c_65, c_69, c_75, c_83, c_91, c_93, c_94, c_97, c_105, c_106, c_110, c_119, c_123, c_124, c_125, c_126, c_240, c_256, c_400, c_m, nI_m1, nM_i, lN_add, lN_mul, lN_i, nI_l, lN_eq, lgN_le, lgN_lt, lgN_ge, lgN_gt, nI_sub, nI_mul, d_0, d_1, c_13, c_14, c_18, c_19, c_20, c_21, c_22, c_23, c_24, c_25, c_26, c_27, c_28, c_29, c_30, c_31, c_33, c_34, c_37, c_39, c_46, c_47, c_49, c_50, c_51, c_52, c_53, c_54, c_55, c_56, c_63, c_66, c_67, c_68, c_70, c_71, c_72, c_73, c_74, c_76, c_77, c_78, c_79, c_80, c_81, c_82, c_84, c_85, c_86, c_87, c_88, c_89, c_90, c_92, c_95, c_96, c_98, c_99, c_100, c_101, c_102, c_103, c_104, c_107, c_108, c_109, c_111, c_112, c_113, c_114, c_115, c_116, c_117, c_118, c_120, c_121, c_122, c_127, c_280, d_2, d_3, d_4, d_8, d_9, d_10, d_15, d_16, d_32, d_48, d_62, d_63, d_64, hro]
      exact fin frm.refl hMA
  · have hav := hMA _ hv
    have hbv := hA0 _ hv
    have hro := fun c => z_turned hW hM1 hb c
    obtain ⟨y1, -⟩ := h50 hk
    clear h50 h52 h54 h54' hcut hO hR
    rcases hk with hk | hk
    · have e : stA E en d t = upL (evA E) (thw t) (rtw (evW E) (evA E (thw t)) (amt (evW E) (if d = 0 then evA E (thv t) else - evA E (thv t)))) := by
        unfold stA
        rw [if_neg (by omega), if_neg (by omega), if_neg (by omega), if_neg (by omega), if_neg (by omega), if_pos hk]
      rw [e]
      unfold f_Z_doStep
      rw [pu_in hp (by omega), cond_true, nI_clamp (by omega), h71, pu_in hth (by omega), cond_true, nI_clamp (by omega), h49, pu_in hwt (by omega), cond_true, cond_true, h47, nI_clamp (by omega), hax, hk, y1]
      rcases (by omega : d = 0 ∨ d = 1) with h0 | h0
      · rw [h0, if_pos (rfl : (0 : Nat) = 0)]
        simp (disch := omega) only [ax_let, Option.bind_some, cond_true, cond_false, if_pos, if_neg, if_true, if_false, eq_self, nI_add, nI_ltI, nI_leI, nI_eq, nI_clamp, pu_in, c_0, c_1, c_2, c_3, c_4, c_5, c_6, c_7, c_8, c_9, c_10, c_11, c_12, c_15, c_16, c_17, c_32, c_35, c_36, c_38, c_40, c_41, c_42, c_43, c_44, c_45, c_48, c_57, c_58, c_59, c_60, c_61, c_62, c_64, c_65, c_69, c_75, c_83, c_91, c_93, c_94, c_97, c_105, c_106, c_110, c_119, c_123, c_124, c_125, c_126, c_240, c_256, c_400, c_m, nI_m1, nM_i, lN_add, lN_mul, lN_i, nI_l, lN_eq, lgN_le, lgN_lt, lgN_ge, lgN_gt, nI_sub, nI_mul, d_0, d_1, c_13, c_14, c_18, c_19, c_20, c_21, c_22, c_23, c_24, c_25, c_26, c_27, c_28, c_29, c_30, c_31, c_33, c_34, c_37, c_39, c_46, c_47, c_49, c_50, c_51, c_52, c_53, c_54, c_55, c_56, c_63, c_66, c_67, c_68, c_70, c_71, c_72, c_73, c_74, c_76, c_77, c_78, c_79, c_80, c_81, c_82, c_84, c_85, c_86, c_87, c_88, c_89, c_90, c_92, c_95, c_96, c_98, c_99, c_100, c_101, c_102, c_103, c_104, c_107, c_108, c_109, c_111, c_112, c_113, c_114, c_115, c_116, c_117, c_118, c_120, c_121, c_122, c_127, c_280, d_2, d_3, d_4, d_8, d_9, d_10, d_15, d_16, d_32, d_48, d_62, d_63, d_64, hav, hro]
        exact fin frm.refl hMA
      · rw [h0, if_neg (show ¬ (1 : Nat) = 0 by omega)]
        simp (disch := omega) only [ax_let, Option.bind_some, cond_true, cond_false, if_pos, if_neg, if_true, if_false, eq_self, nI_add, nI_ltI, nI_leI, nI_eq, nI_clamp, pu_in, c_0, c_1, c_2, c_3, c_4, c_5, c_6, c_7, c_8, c_9, c_10, c_11, c_12, c_15, c_16, c_17, c_32, c_35, c_36, c_38, c_40, c_41, c_42, c_43, c_44, c_45, c_48, c_57, c_58, c_59, c_60, c_61, c_62, c_64, c_65, c_69, c_75, c_83, c_91, c_93, c_94, c_97, c_105, c_106, c_110, c_119, c_123, c_124, c_125, c_126, c_240, c_256, c_400, c_m, nI_m1, nM_i, lN_add, lN_mul, lN_i, nI_l, lN_eq, lgN_le, lgN_lt, lgN_ge, lgN_gt, nI_sub, nI_mul, d_0, d_1, c_13, c_14, c_18, c_19, c_20, c_21, c_22, c_23, c_24, c_25, c_26, c_27, c_28, c_29, c_30, c_31, c_33, c_34, c_37, c_39, c_46, c_47, c_49, c_50, c_51, c_52, c_53, c_54, c_55, c_56, c_63, c_66, c_67, c_68, c_70, c_71, c_72, c_73, c_74, c_76, c_77, c_78, c_79, c_80, c_81, c_82, c_84, c_85, c_86, c_87, c_88, c_89, c_90, c_92, c_95, c_96, c_98, c_99, c_100, c_101, c_102, c_103, c_104, c_107, c_108, c_109, c_111, c_112, c_113, c_114, c_115, c_116, c_117, c_118, c_120, c_121, c_122, c_127, c_280, d_2, d_3, d_4, d_8, d_9, d_10, d_15, d_16, d_32, d_48, d_62, d_63, d_64, hav, hro]
        exact fin frm.refl hMA
    · have e : stA E en d t = upL (upL (evA E) (thv t) (evA E (thw t))) (thw t) (evA E (thv t)) := by
        unfold stA
        rw [if_neg (by omega), if_neg (by omega), if_neg (by omega), if_neg (by omega), if_neg (by omega), if_neg (by omega), if_pos hk]
      rw [e]
      unfold f_Z_doStep
      rw [pu_in hp (by omega), cond_true, nI_clamp (by omega), h71, pu_in hth (by omega), cond_true, nI_clamp (by omega), h49, pu_in hwt (by omega), cond_true, cond_true, h47, nI_clamp (by omega), hax, hk, y1]
      simp (disch := omega) only [ax_let, Option.bind_some, cond_true, cond_false, if_pos, if_neg, if_true, if_false, eq_self, nI_add, nI_ltI, nI_leI, nI_eq, nI_clamp, pu_in, c_0, c_1, c_2, c_3, c_4, c_5, c_6, c_7, c_8, c_9, c_10, c_11, c_12, c_15, c_16, c_17, c_32, c_35, c_36, c_38, c_40, c_41, c_42, c_43, c_44, c_45, c_48, c_57, c_58, c_59, c_60, c_61, c_62, c_64, c_65, c_69, c_75, c_83, c_91, c_93, c_94, c_97, c_105, c_106, c_110, c_119, c_123, c_124, c_125, c_126, c_240, c_256, c_400, c_m, nI_m1, nM_i, lN_add, lN_mul, lN_i, nI_l, lN_eq, lgN_le, lgN_lt, lgN_ge, lgN_gt, nI_sub, nI_mul, d_0, d_1, c_13, c_14, c_18, c_19, c_20, c_21, c_22, c_23, c_24, c_25, c_26, c_27, c_28, c_29, c_30, c_31, c_33, c_34, c_37, c_39, c_46, c_47, c_49, c_50, c_51, c_52, c_53, c_54, c_55, c_56, c_63, c_66, c_67, c_68, c_70, c_71, c_72, c_73, c_74, c_76, c_77, c_78, c_79, c_80, c_81, c_82, c_84, c_85, c_86, c_87, c_88, c_89, c_90, c_92, c_95, c_96, c_98, c_99, c_100, c_101, c_102, c_103, c_104, c_107, c_108, c_109, c_111, c_112, c_113, c_114, c_115, c_116, c_117, c_118, c_120, c_121, c_122, c_127, c_280, d_2, d_3, d_4, d_8, d_9, d_10, d_15, d_16, d_32, d_48, d_62, d_63, d_64, hav, wL_1, y1]
      refine ⟨_, rfl, fun k hk => ?_, (frm.refl.wL 0 80 _ _ ⟨rfl, Or.inl rfl⟩).wL 0 80 _ _ ⟨rfl, Or.inl rfl⟩⟩
      rw [wL_2, wL_2]
      unfold upL
      by_cases h : k = thv t
      · rw [if_pos ⟨rfl, rfl, h⟩]
        by_cases h' : k = thw t
        · rw [if_pos h', ← h, ← h']
        · rw [if_neg h', if_pos h]
      · rw [if_neg (fun e => h e.2.2), if_neg h]
        by_cases h' : k = thw t
        · rw [if_pos ⟨rfl, rfl, h'⟩, if_pos h']
        · rw [if_neg (fun e => h' e.2.2), if_neg h']
          exact hMA k hk
  · have e : stA E en d t = upL (evA E) (thw t) (rp (en (thv t) d) (evA E (thw t)) (evW E / 4) 0 0) := by
      unfold stA
      rw [if_neg (by omega), if_neg (by omega), if_neg (by omega), if_neg (by omega), if_neg (by omega), if_neg (by omega), if_neg (by omega), if_pos hk]
    have hen := hen hk
    have r1 := z_repl (F := F) (s := s) (a := evA E (thw t)) (by omega) hW hM1 hv hd
    rw [rp_cg hen] at r1
    obtain ⟨y1, -⟩ := h52 (by omega)
    clear hen2 hen h50 h52 h54 h54' hcut hO hR
    rw [e]
    unfold f_Z_doStep
    rw [pu_in hp (by omega), cond_true, nI_clamp (by omega), h71, pu_in hth (by omega), cond_true, nI_clamp (by omega), h49, pu_in hwt (by omega), cond_true, cond_true, h47, nI_clamp (by omega), hax, hk, y1]
    simp (disch := omega) only [ax_let, Option.bind_some, cond_true, cond_false, if_pos, if_neg, if_true, if_false, eq_self, nI_add, nI_ltI, nI_leI, nI_eq, nI_clamp, pu_in, c_0, c_1, c_2, c_3, c_4, c_5, c_6, c_7, c_8, c_9, c_10, c_11, c_12, c_15, c_16, c_17, c_32, c_35, c_36, c_38, c_40, c_41, c_42, c_43, c_44, c_45, c_48, c_57, c_58, c_59, c_60, c_61, c_62, c_64, c_65, c_69, c_75, c_83, c_91, c_93, c_94, c_97, c_105, c_106, c_110, c_119, c_123, c_124, c_125, c_126, c_240, c_256, c_400, c_m, nI_m1, nM_i, lN_add, lN_mul, lN_i, nI_l, lN_eq, lgN_le, lgN_lt, lgN_ge, lgN_gt, nI_sub, nI_mul, d_0, d_1, c_13, c_14, c_18, c_19, c_20, c_21, c_22, c_23, c_24, c_25, c_26, c_27, c_28, c_29, c_30, c_31, c_33, c_34, c_37, c_39, c_46, c_47, c_49, c_50, c_51, c_52, c_53, c_54, c_55, c_56, c_63, c_66, c_67, c_68, c_70, c_71, c_72, c_73, c_74, c_76, c_77, c_78, c_79, c_80, c_81, c_82, c_84, c_85, c_86, c_87, c_88, c_89, c_90, c_92, c_95, c_96, c_98, c_99, c_100, c_101, c_102, c_103, c_104, c_107, c_108, c_109, c_111, c_112, c_113, c_114, c_115, c_116, c_117, c_118, c_120, c_121, c_122, c_127, c_280, d_2, d_3, d_4, d_8, d_9, d_10, d_15, d_16, d_32, d_48, d_62, d_63, d_64, r1]
    exact fin frm.refl hMA
  · have e : stA E en d t = upL (evA E) (thw t) (spN (evW E) ((thn t).map (·.1)) (if d = 0 then 1 else evW E - 1) (evA E (thw t))) := by
      unfold stA
      rw [if_neg (by omega), if_neg (by omega), if_neg (by omega), if_neg (by omega), if_neg (by omega), if_neg (by omega), if_neg (by omega), if_neg (by omega)]
    obtain ⟨y1, y2⟩ := h54' hk
    have hcs : ((thn t).map (·.1)).length = (thn t).length := List.length_map ..
    rw [← hcs] at y2 hrl
    have hc : ∀ (q c : Nat), ((thn t).map (·.1))[q]? = some c → s.2 0 56 (rr + q) = lN c := by
      intro q c hq
      rw [List.getElem?_map] at hq
      match hx : (thn t)[q]?, hq with
      | some x, hq =>
        cases hq
        exact hR q x hx
    have r1 := z_353 (F := F) (x4 := nI (thw t)) hF hW hM1 hth hrl y1 y2 hc d hd (if d = 0 then 1 else evW E - 1) 0 F (evA E (thw t)) (by rw [Nat.zero_add]) (by
      have : evW E ≤ 64 := by rcases hW with h | h | h | h <;> omega
      split <;> omega) hb
    have r1 : lp_Z_doStep_353 F (nI d) (nI th) (nI (thw t)) s F (evA E (thw t)) (0 : Int32) = some (spN (evW E) ((thn t).map (·.1)) (if d = 0 then 1 else evW E - 1) (evA E (thw t))) := r1
    clear h50 h52 h54 h54' hcut hO hR hc
    rw [e]
    unfold f_Z_doStep
    rw [pu_in hp (by omega), cond_true, nI_clamp (by omega), h71, pu_in hth (by omega), cond_true, nI_clamp (by omega), h49, pu_in hwt (by omega), cond_true, cond_true, h47, nI_clamp (by omega), hax, hk]
    rw [r1]
    generalize spN (evW E) ((thn t).map (·.1)) (if d = 0 then 1 else evW E - 1) (evA E (thw t)) = V
    clear r1
    simp (disch := omega) only [ax_let, Option.bind_some, cond_true, cond_false, if_pos, if_neg, if_true, if_false, eq_self, nI_add, nI_ltI, nI_leI, nI_eq, nI_clamp, pu_in, c_0, c_1, c_2, c_3, c_4, c_5, c_6, c_7, c_8, c_9, c_10, c_11, c_12, c_15, c_16, c_17, c_32, c_35, c_36, c_38, c_40, c_41, c_42, c_43, c_44, c_45, c_48, c_57, c_58, c_59, c_60, c_61, c_62, c_64, c_65, c_69, c_75, c_83, c_91, c_93, c_94, c_97, c_105, c_106, c_110, c_119, c_123, c_124, c_125, c_126, c_240, c_256, c_400, c_m, nI_m1, nM_i, lN_add, lN_mul, lN_i, nI_l, lN_eq, lgN_le, lgN_lt, lgN_ge, lgN_gt, nI_sub, nI_mul, d_0, d_1, c_13, c_14, c_18, c_19, c_20, c_21, c_22, c_23, c_24, c_25, c_26, c_27, c_28, c_29, c_30, c_31, c_33, c_34, c_37, c_39, c_46, c_47, c_49, c_50, c_51, c_52, c_53, c_54, c_55, c_56, c_63, c_66, c_67, c_68, c_70, c_71, c_72, c_73, c_74, c_76, c_77, c_78, c_79, c_80, c_81, c_82, c_84, c_85, c_86, c_87, c_88, c_89, c_90, c_92, c_95, c_96, c_98, c_99, c_100, c_101, c_102, c_103, c_104, c_107, c_108, c_109, c_111, c_112, c_113, c_114, c_115, c_116, c_117, c_118, c_120, c_121, c_122, c_127, c_280, d_2, d_3, d_4, d_8, d_9, d_10, d_15, d_16, d_32, d_48, d_62, d_63, d_64]
    exact fin frm.refl hMA
end
