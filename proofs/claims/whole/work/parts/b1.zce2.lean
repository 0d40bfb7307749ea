/-! PURE: the reference checks an expression, operation by operation -/
/-- the sizes keep the rules -/
def vD (D : Ds) : Prop := (D.1.1 = 8 ∨ D.1.1 = 16 ∨ D.1.1 = 32 ∨ D.1.1 = 64) ∧ (2 ≤ D.2.1.1 ∧ D.2.1.1 ≤ 4) ∧ (1 ≤ D.2.2.1.1 ∧ D.2.2.1.1 ≤ 4)
def opY (n : Nat) (o : Op) : Prop := opX n o ∧ (o.1 = 5 → o.2.1 < 2) ∧ (∀ t ∈ o.2.2.2, t.2.2 < n)
def ceO (D : Ds) (C : List (Nat × Cx)) (k sk m : Nat) (t : Th) (o : Op) : Prop := opN (if k < (dW D).length then 0 else D.2.1.1) D.1.1 m (ltC C) o ∧ (¬ k < (dW D).length → o.1 = 1 → o.2.1 = thw t → m ≤ thp t * 8 + 5) ∧ gxO m (wt skW (dW D)) D.2.2.1.1 (C.map (·.2)) sk (decide (k < (dW D).length)) o
theorem ce_step {F n sk rf j : Nat} {D : Ds} {C : List (Nat × Cx)} {pre rest : List Th} {t : Th} {o : Op} {s : ax_σ} (hF : 241 ≤ F) (hn : n ≤ 240) (hv : vD D) (hB : DB D) (h5 : lv 2 0 (dW D) = some 0) (hsk : sk < 2 ^ 30) (hg : ∀ c ∈ C.map (·.2), c.2.2 < 2 ^ 20) (hS : CeS D C pre sk rest s) (hk : (dH D)[pre.length]? = some t) (hj : (the t)[j]? = some o) (hex : thk t = 1 ∨ thk t = 4 ∨ thk t = 5 ∨ thk t = 6) (ho : opY n o) (hkf : pre.length < (dW D).length ↔ thk t = 1) (hw4 : thw t < 4) (hp4 : thp t < n) (hf : ZFa rf s) : ∃ s' rf', (∀ M, lp_Z_checkExpression_13 F (nI pre.length) (nI C.length) (M + 1) (nI (oOff (dH D) pre.length + j)) s = lp_Z_checkExpression_13 F (nI pre.length) (nI C.length) M (nI (oOff (dH D) pre.length + j + 1)) s') ∧ ZFa rf' s' ∧ (∀ m, m ≤ rf' ↔ m ≤ rf ∧ ceO D C pre.length sk m t o) ∧ frm XF s s' := by
  obtain ⟨v1, v2, v3⟩ := hv
  obtain ⟨⟨⟨o1, o2, o3, o4, o5, o6⟩, o7⟩, o8, o9⟩ := ho
  obtain ⟨hR, hZ, hK, hC⟩ := hS
  obtain ⟨t0, ⟨z1, z2, z3, z4⟩, b1, b2, b3⟩ := hZ.op hB hk hj
  obtain ⟨y1, y2, y3, -, -, y6, -⟩ := hZ.2.2.1 _ _ hk
  obtain ⟨y6, y7⟩ := y6 hex
  have hjl := get_lt hj
  have hlen := hB.1
  have hkl := get_lt hk
  have hends := fm_len2 (f := the) hk
  have hB2 := hB.2.1
  have hend : oOff (dH D) pre.length + (the t).length ≤ 240 := by unfold oOff; omega
  have h23 : s.1 0 38 23 = nI (dW D).length := hZ.2.2.2.2.1
  have hdw : (dW D).length ≤ 240 := by unfold dH at hlen; rw [List.length_append] at hlen; omega
  have h41 := hZ.1.1.2
  have g0 : s.2 0 41 0 = lN D.1.1 := (h41 0 _ rfl).1
  have g1 : s.2 0 41 1 = lN D.2.1.1 := (h41 1 _ rfl).1
  have g2 : s.2 0 41 2 = lN D.2.2.1.1 := (h41 2 _ rfl).1
  have hwd0 := z_wide (s := s) (v := o.2.1) (by omega) v1 g0
  have hw64 : D.1.1 ≤ 64 := by omega
  have hk3 : thk t ≠ 3 := by omega
  have hlk : ¬ pre.length < (dW D).length → thk t ≠ 1 := fun h e => h (hkf.mpr e)
  clear v1 hex hkf
  generalize hoi : oOff (dH D) pre.length + j = oi at *
  generalize hee : oOff (dH D) pre.length + (the t).length = ee at *
  have hgx : ¬ (o.1 = 2 ∨ o.1 = 3) → ∀ m, gxO m (wt skW (dW D)) D.2.2.1.1 (C.map (·.2)) sk (decide (pre.length < (dW D).length)) o := fun h m e => absurd e h
  rcases (show o.1 = 1 ∨ o.1 = 2 ∨ o.1 = 3 ∨ o.1 = 4 ∨ o.1 = 5 ∨ o.1 = 6 ∨ o.1 = 7 ∨ o.1 = 8 by omega) with e | e | e | e | e | e | e | e
  · -- a STATE
    rw [e] at z1
    rw [if_neg (by omega)] at z3
    obtain ⟨s1, rf1, c1, c0, c2, c3, c4⟩ := z_conD (c := 4) (pre.length < (dW D).length ∨ ¬ o.2.1 < D.2.1.1) (by omega) (show o.2.2.1 ≤ 240 by omega) hf
    obtain ⟨s2, rf2, d1, d0, d2, d3, d4⟩ := z_conD (c := 5) (¬ pre.length < (dW D).length ∧ o.2.1 = thw t) (by omega) (show thp t ≤ 240 by omega) c2
    have w59 : s1.2 0 59 oi = lN o.2.1 := (c4.2 _ _ _ (by unfold X53; omega)).trans z2
    have w48 : s1.1 0 48 pre.length = nI (thp t) := (c4.1 _ _ _ (by unfold X53; omega)).trans y2
    have w23 : s1.1 0 38 23 = nI (dW D).length := (c4.1 _ _ _ (by unfold X53; omega)).trans h23
    refine ⟨s2, rf2, fun M => ?_, d2, fun m => ?_, (XF.ofC c4).trans (XF.ofC d4)⟩
    · rw [lp_Z_checkExpression_13, pu_in (show pre.length < 240 by omega) (by decide), cond_true, nI_clamp (show pre.length < 2 ^ 31 by omega), y7, if_neg (by rw [nI_leI (by omega) (by omega)]; omega), pu_in b1 (by decide), cond_true, nI_clamp (show oi < 2 ^ 31 by omega), z1, if_pos (show nI 1 = (1 : Int32) from rfl)]
      by_cases hlt : pre.length < (dW D).length
      · have c1' := c1 (Or.inl hlt)
        have d0' := d0 (fun e => e.1 hlt)
        simp (disch := omega) only [ax_let, Option.bind_some, cond_true, cond_false, if_pos, if_neg, if_true, if_false, eq_self, nI_add, nI_ltI, nI_leI, nI_eq, nI_clamp, pu_in, c_0, c_1, c_2, c_3, c_4, c_5, c_6, c_7, c_8, c_9, c_10, c_11, c_12, c_15, c_16, c_17, c_32, c_35, c_36, c_38, c_40, c_41, c_42, c_43, c_44, c_45, c_48, c_57, c_58, c_59, c_60, c_61, c_62, c_64, c_65, c_69, c_75, c_83, c_91, c_93, c_94, c_97, c_105, c_106, c_110, c_119, c_123, c_124, c_125, c_126, c_240, c_256, c_400, c_m, nI_m1, nM_i, lN_add, lN_mul, lN_i, nI_l, lN_eq, lgN_le, lgN_lt, lgN_ge, lgN_gt, nI_sub, nI_mul, d_0, d_1, c_13, c_14, c_18, c_19, c_20, c_21, c_22, c_23, c_24, c_25, c_26, c_27, c_28, c_29, c_30, c_31, c_33, c_34, c_37, c_39, c_46, c_47, c_49, c_50, c_51, c_52, c_53, c_54, c_55, c_56, c_63, c_66, c_67, c_68, c_70, c_71, c_72, c_73, c_74, c_76, c_77, c_78, c_79, c_80, c_81, c_82, c_84, c_85, c_86, c_87, c_88, c_89, c_90, c_92, c_95, c_96, c_98, c_99, c_100, c_101, c_102, c_103, c_104, c_107, c_108, c_109, c_111, c_112, c_113, c_114, c_115, c_116, c_117, c_118, c_120, c_121, c_122, c_127, c_280, d_2, d_3, d_4, d_8, d_9, d_10, d_15, d_16, d_32, d_48, d_62, d_63, d_64, y7, z1, z2, z3, h23, c1', w23, w48, d0']
      · have hw49 : s1.1 0 49 pre.length = nI (thw t) := (c4.1 _ _ _ (by unfold X53; omega)).trans (y3 ⟨hlk hlt, hk3⟩)
        by_cases hst : o.2.1 < D.2.1.1
        · have c0' := c0 (fun e => e.elim hlt (fun e => e hst))
          by_cases hsub : o.2.1 = thw t
          · have d1' := d1 ⟨hlt, hsub⟩
            have ecmp : (lg_cmp (lN o.2.1) (lN (thw t)) = nI 0) = True := eq_true ((lg_cmp_eq _ _).mpr (by rw [hsub]))
            simp (disch := omega) only [ax_let, Option.bind_some, cond_true, cond_false, if_pos, if_neg, if_true, if_false, eq_self, nI_add, nI_ltI, nI_leI, nI_eq, nI_clamp, pu_in, c_0, c_1, c_2, c_3, c_4, c_5, c_6, c_7, c_8, c_9, c_10, c_11, c_12, c_15, c_16, c_17, c_32, c_35, c_36, c_38, c_40, c_41, c_42, c_43, c_44, c_45, c_48, c_57, c_58, c_59, c_60, c_61, c_62, c_64, c_65, c_69, c_75, c_83, c_91, c_93, c_94, c_97, c_105, c_106, c_110, c_119, c_123, c_124, c_125, c_126, c_240, c_256, c_400, c_m, nI_m1, nM_i, lN_add, lN_mul, lN_i, nI_l, lN_eq, lgN_le, lgN_lt, lgN_ge, lgN_gt, nI_sub, nI_mul, d_0, d_1, c_13, c_14, c_18, c_19, c_20, c_21, c_22, c_23, c_24, c_25, c_26, c_27, c_28, c_29, c_30, c_31, c_33, c_34, c_37, c_39, c_46, c_47, c_49, c_50, c_51, c_52, c_53, c_54, c_55, c_56, c_63, c_66, c_67, c_68, c_70, c_71, c_72, c_73, c_74, c_76, c_77, c_78, c_79, c_80, c_81, c_82, c_84, c_85, c_86, c_87, c_88, c_89, c_90, c_92, c_95, c_96, c_98, c_99, c_100, c_101, c_102, c_103, c_104, c_107, c_108, c_109, c_111, c_112, c_113, c_114, c_115, c_116, c_117, c_118, c_120, c_121, c_122, c_127, c_280, d_2, d_3, d_4, d_8, d_9, d_10, d_15, d_16, d_32, d_48, d_62, d_63, d_64, y7, z1, z2, z3, h23, g1, c0', w23, w48, w59, hw49, d1', ecmp]
          · have d0' := d0 (fun e => hsub e.2)
            have ecmp : (lg_cmp (lN o.2.1) (lN (thw t)) = nI 0) = False := eq_false (fun e => hsub ((lN_eq (by omega) (by omega)).mp ((lg_cmp_eq _ _).mp e)))
            simp (disch := omega) only [ax_let, Option.bind_some, cond_true, cond_false, if_pos, if_neg, if_true, if_false, eq_self, nI_add, nI_ltI, nI_leI, nI_eq, nI_clamp, pu_in, c_0, c_1, c_2, c_3, c_4, c_5, c_6, c_7, c_8, c_9, c_10, c_11, c_12, c_15, c_16, c_17, c_32, c_35, c_36, c_38, c_40, c_41, c_42, c_43, c_44, c_45, c_48, c_57, c_58, c_59, c_60, c_61, c_62, c_64, c_65, c_69, c_75, c_83, c_91, c_93, c_94, c_97, c_105, c_106, c_110, c_119, c_123, c_124, c_125, c_126, c_240, c_256, c_400, c_m, nI_m1, nM_i, lN_add, lN_mul, lN_i, nI_l, lN_eq, lgN_le, lgN_lt, lgN_ge, lgN_gt, nI_sub, nI_mul, d_0, d_1, c_13, c_14, c_18, c_19, c_20, c_21, c_22, c_23, c_24, c_25, c_26, c_27, c_28, c_29, c_30, c_31, c_33, c_34, c_37, c_39, c_46, c_47, c_49, c_50, c_51, c_52, c_53, c_54, c_55, c_56, c_63, c_66, c_67, c_68, c_70, c_71, c_72, c_73, c_74, c_76, c_77, c_78, c_79, c_80, c_81, c_82, c_84, c_85, c_86, c_87, c_88, c_89, c_90, c_92, c_95, c_96, c_98, c_99, c_100, c_101, c_102, c_103, c_104, c_107, c_108, c_109, c_111, c_112, c_113, c_114, c_115, c_116, c_117, c_118, c_120, c_121, c_122, c_127, c_280, d_2, d_3, d_4, d_8, d_9, d_10, d_15, d_16, d_32, d_48, d_62, d_63, d_64, y7, z1, z2, z3, h23, g1, c0', w23, w48, w59, hw49, d0', ecmp]
        · have c1' := c1 (Or.inr hst)
          by_cases hsub : o.2.1 = thw t
          · have d1' := d1 ⟨hlt, hsub⟩
            have ecmp : (lg_cmp (lN o.2.1) (lN (thw t)) = nI 0) = True := eq_true ((lg_cmp_eq _ _).mpr (by rw [hsub]))
            simp (disch := omega) only [ax_let, Option.bind_some, cond_true, cond_false, if_pos, if_neg, if_true, if_false, eq_self, nI_add, nI_ltI, nI_leI, nI_eq, nI_clamp, pu_in, c_0, c_1, c_2, c_3, c_4, c_5, c_6, c_7, c_8, c_9, c_10, c_11, c_12, c_15, c_16, c_17, c_32, c_35, c_36, c_38, c_40, c_41, c_42, c_43, c_44, c_45, c_48, c_57, c_58, c_59, c_60, c_61, c_62, c_64, c_65, c_69, c_75, c_83, c_91, c_93, c_94, c_97, c_105, c_106, c_110, c_119, c_123, c_124, c_125, c_126, c_240, c_256, c_400, c_m, nI_m1, nM_i, lN_add, lN_mul, lN_i, nI_l, lN_eq, lgN_le, lgN_lt, lgN_ge, lgN_gt, nI_sub, nI_mul, d_0, d_1, c_13, c_14, c_18, c_19, c_20, c_21, c_22, c_23, c_24, c_25, c_26, c_27, c_28, c_29, c_30, c_31, c_33, c_34, c_37, c_39, c_46, c_47, c_49, c_50, c_51, c_52, c_53, c_54, c_55, c_56, c_63, c_66, c_67, c_68, c_70, c_71, c_72, c_73, c_74, c_76, c_77, c_78, c_79, c_80, c_81, c_82, c_84, c_85, c_86, c_87, c_88, c_89, c_90, c_92, c_95, c_96, c_98, c_99, c_100, c_101, c_102, c_103, c_104, c_107, c_108, c_109, c_111, c_112, c_113, c_114, c_115, c_116, c_117, c_118, c_120, c_121, c_122, c_127, c_280, d_2, d_3, d_4, d_8, d_9, d_10, d_15, d_16, d_32, d_48, d_62, d_63, d_64, y7, z1, z2, z3, h23, g1, c1', w23, w48, w59, hw49, d1', ecmp]
          · have d0' := d0 (fun e => hsub e.2)
            have ecmp : (lg_cmp (lN o.2.1) (lN (thw t)) = nI 0) = False := eq_false (fun e => hsub ((lN_eq (by omega) (by omega)).mp ((lg_cmp_eq _ _).mp e)))
            simp (disch := omega) only [ax_let, Option.bind_some, cond_true, cond_false, if_pos, if_neg, if_true, if_false, eq_self, nI_add, nI_ltI, nI_leI, nI_eq, nI_clamp, pu_in, c_0, c_1, c_2, c_3, c_4, c_5, c_6, c_7, c_8, c_9, c_10, c_11, c_12, c_15, c_16, c_17, c_32, c_35, c_36, c_38, c_40, c_41, c_42, c_43, c_44, c_45, c_48, c_57, c_58, c_59, c_60, c_61, c_62, c_64, c_65, c_69, c_75, c_83, c_91, c_93, c_94, c_97, c_105, c_106, c_110, c_119, c_123, c_124, c_125, c_126, c_240, c_256, c_400, c_m, nI_m1, nM_i, lN_add, lN_mul, lN_i, nI_l, lN_eq, lgN_le, lgN_lt, lgN_ge, lgN_gt, nI_sub, nI_mul, d_0, d_1, c_13, c_14, c_18, c_19, c_20, c_21, c_22, c_23, c_24, c_25, c_26, c_27, c_28, c_29, c_30, c_31, c_33, c_34, c_37, c_39, c_46, c_47, c_49, c_50, c_51, c_52, c_53, c_54, c_55, c_56, c_63, c_66, c_67, c_68, c_70, c_71, c_72, c_73, c_74, c_76, c_77, c_78, c_79, c_80, c_81, c_82, c_84, c_85, c_86, c_87, c_88, c_89, c_90, c_92, c_95, c_96, c_98, c_99, c_100, c_101, c_102, c_103, c_104, c_107, c_108, c_109, c_111, c_112, c_113, c_114, c_115, c_116, c_117, c_118, c_120, c_121, c_122, c_127, c_280, d_2, d_3, d_4, d_8, d_9, d_10, d_15, d_16, d_32, d_48, d_62, d_63, d_64, y7, z1, z2, z3, h23, g1, c1', w23, w48, w59, hw49, d0', ecmp]
    · rw [d3, c3]
      unfold ceO opN
      have hsn : (¬ o.2.1 < (if pre.length < (dW D).length then 0 else D.2.1.1)) ↔ (pre.length < (dW D).length ∨ ¬ o.2.1 < D.2.1.1) := by
        by_cases hlt : pre.length < (dW D).length
        · rw [if_pos hlt]; exact ⟨fun _ => Or.inl hlt, fun _ => Nat.not_lt_zero _⟩
        · rw [if_neg hlt]; exact ⟨fun h => Or.inr h, fun h => h.resolve_left hlt⟩
      constructor
      · rintro ⟨⟨k1, k2⟩, k3⟩
        exact ⟨k1, ⟨fun _ h => k2 (hsn.mp h), fun h => by omega, fun h => by omega, fun h => by omega, fun h => by omega⟩, fun h _ h2 => k3 ⟨h, h2⟩, hgx (by omega) m⟩
      · rintro ⟨k1, ⟨k2, -⟩, k3, -⟩
        exact ⟨⟨k1, fun h => k2 e (hsn.mpr h)⟩, fun h => k3 h.1 e h.2⟩
  · -- K
    rw [e] at z1
    rw [if_neg (by omega)] at z3
    obtain ⟨z5, z6⟩ := z4 (Or.inl e)
    obtain ⟨s1, rf1, c1, c2, c3, c4⟩ := ce_260 (F := F) (x1 := nI pre.length) (C := C) hF b1 b2 o.2.2.2 t0 F rf true s rfl (by omega) z6 b3 (fun x hx => ⟨(o5 x hx).2, by have := o9 x hx; omega⟩) hC hf
    rw [Bool.true_and] at c1
    have c1 : lp_Z_checkExpression_260 F (nI pre.length) (nI C.length) (nI oi) F (nI 1) (nI t0) s = some (if knw (ltC C) o.2.2.2 = true then nI 1 else nI 0, s1) := c1
    by_cases hkn : knw (ltC C) o.2.2.2 = true
    · rw [if_pos hkn] at c1
      have hT : TgS D C pre sk rest t o oi s1 := by
        have hS1 := CeS.keep (Q := X53) ⟨hR, hZ, hK, hC⟩ c4 (fun r k h => by unfold X53; unfold XX at h; omega)
        refine ⟨hS1.1, hS1.2.1, hS1.2.2.1, hS1.2.2.2, b1, (c4.1 _ _ _ (by unfold X53; omega)).trans (by rw [e]; exact z1), t0, (c4.1 _ _ _ (by unfold X53; omega)).trans z5, (c4.1 _ _ _ (by unfold X53; omega)).trans z6, b2, fun i x hi => ?_⟩
        obtain ⟨x1, x2, x3⟩ := b3 i x hi
        exact ⟨(c4.2 _ _ _ (by unfold X53; omega)).trans x1, (c4.1 _ _ _ (by unfold X53; omega)).trans x2, (c4.1 _ _ _ (by unfold X53; omega)).trans x3⟩
      obtain ⟨fl, s2, d1, d2, d3⟩ := z_tooGreat (ky := D.2.2.1.1) hF hT (Or.inl e) o4 o5 hkn ((c4.2 _ _ _ (by unfold X53; omega)).trans g2) (by omega) hsk hg h5
      obtain ⟨s3, rf3, e1, e0, e2, e3, e4⟩ := z_conD (c := 3) (fl = true) (by omega) (show o.2.2.1 ≤ 240 by omega) (c2.keep d3 (fun k h => by unfold X74; omega))
      have w60 : s2.1 0 60 oi = nI o.2.2.1 := (d3.1 _ _ _ (by unfold X74; omega)).trans ((c4.1 _ _ _ (by unfold X53; omega)).trans z3)
      refine ⟨s3, rf3, fun M => ?_, e2, fun m => ?_, ((XF.ofC c4).trans (XF.ofR d3)).trans (XF.ofC e4)⟩
      · rw [lp_Z_checkExpression_13, pu_in (show pre.length < 240 by omega) (by decide), cond_true, nI_clamp (show pre.length < 2 ^ 31 by omega), y7, if_neg (by rw [nI_leI (by omega) (by omega)]; omega), pu_in b1 (by decide), cond_true, nI_clamp (show oi < 2 ^ 31 by omega), z1, if_neg (show ¬ nI 2 = (1 : Int32) by decide), if_pos (show nI 2 = (2 : Int32) from rfl)]
        cases hfl : fl with
        | true =>
          rw [hfl] at d1
          have e1' := e1 hfl
          have d1 : f_Z_isTooGreat F (nI pre.length) (nI oi) (nI C.length) s1 = some (nI 1, s2) := d1
          simp (disch := omega) only [ax_let, Option.bind_some, cond_true, cond_false, if_pos, if_neg, if_true, if_false, eq_self, nI_add, nI_ltI, nI_leI, nI_eq, nI_clamp, pu_in, c_0, c_1, c_2, c_3, c_4, c_5, c_6, c_7, c_8, c_9, c_10, c_11, c_12, c_15, c_16, c_17, c_32, c_35, c_36, c_38, c_40, c_41, c_42, c_43, c_44, c_45, c_48, c_57, c_58, c_59, c_60, c_61, c_62, c_64, c_65, c_69, c_75, c_83, c_91, c_93, c_94, c_97, c_105, c_106, c_110, c_119, c_123, c_124, c_125, c_126, c_240, c_256, c_400, c_m, nI_m1, nM_i, lN_add, lN_mul, lN_i, nI_l, lN_eq, lgN_le, lgN_lt, lgN_ge, lgN_gt, nI_sub, nI_mul, d_0, d_1, c_13, c_14, c_18, c_19, c_20, c_21, c_22, c_23, c_24, c_25, c_26, c_27, c_28, c_29, c_30, c_31, c_33, c_34, c_37, c_39, c_46, c_47, c_49, c_50, c_51, c_52, c_53, c_54, c_55, c_56, c_63, c_66, c_67, c_68, c_70, c_71, c_72, c_73, c_74, c_76, c_77, c_78, c_79, c_80, c_81, c_82, c_84, c_85, c_86, c_87, c_88, c_89, c_90, c_92, c_95, c_96, c_98, c_99, c_100, c_101, c_102, c_103, c_104, c_107, c_108, c_109, c_111, c_112, c_113, c_114, c_115, c_116, c_117, c_118, c_120, c_121, c_122, c_127, c_280, d_2, d_3, d_4, d_8, d_9, d_10, d_15, d_16, d_32, d_48, d_62, d_63, d_64, y7, z1, z5, c1, d1, w60, e1']
        | false =>
          rw [hfl] at d1
          have e0' := e0 (by rw [hfl]; decide)
          have d1 : f_Z_isTooGreat F (nI pre.length) (nI oi) (nI C.length) s1 = some (nI 0, s2) := d1
          simp (disch := omega) only [ax_let, Option.bind_some, cond_true, cond_false, if_pos, if_neg, if_true, if_false, eq_self, nI_add, nI_ltI, nI_leI, nI_eq, nI_clamp, pu_in, c_0, c_1, c_2, c_3, c_4, c_5, c_6, c_7, c_8, c_9, c_10, c_11, c_12, c_15, c_16, c_17, c_32, c_35, c_36, c_38, c_40, c_41, c_42, c_43, c_44, c_45, c_48, c_57, c_58, c_59, c_60, c_61, c_62, c_64, c_65, c_69, c_75, c_83, c_91, c_93, c_94, c_97, c_105, c_106, c_110, c_119, c_123, c_124, c_125, c_126, c_240, c_256, c_400, c_m, nI_m1, nM_i, lN_add, lN_mul, lN_i, nI_l, lN_eq, lgN_le, lgN_lt, lgN_ge, lgN_gt, nI_sub, nI_mul, d_0, d_1, c_13, c_14, c_18, c_19, c_20, c_21, c_22, c_23, c_24, c_25, c_26, c_27, c_28, c_29, c_30, c_31, c_33, c_34, c_37, c_39, c_46, c_47, c_49, c_50, c_51, c_52, c_53, c_54, c_55, c_56, c_63, c_66, c_67, c_68, c_70, c_71, c_72, c_73, c_74, c_76, c_77, c_78, c_79, c_80, c_81, c_82, c_84, c_85, c_86, c_87, c_88, c_89, c_90, c_92, c_95, c_96, c_98, c_99, c_100, c_101, c_102, c_103, c_104, c_107, c_108, c_109, c_111, c_112, c_113, c_114, c_115, c_116, c_117, c_118, c_120, c_121, c_122, c_127, c_280, d_2, d_3, d_4, d_8, d_9, d_10, d_15, d_16, d_32, d_48, d_62, d_63, d_64, y7, z1, z5, c1, d1, w60, e0']
      · rw [e3, c3, d2]
        unfold ceO opN gxO
        constructor
        · rintro ⟨⟨k1, k2⟩, k3⟩
          exact ⟨k1, ⟨fun h => by omega, fun _ => k2, fun h => by omega, fun h => by omega, fun h => by omega⟩, fun _ h => by omega, fun _ _ h => k3 h⟩
        · rintro ⟨k1, ⟨-, k2, -⟩, -, k3⟩
          exact ⟨⟨k1, k2 (Or.inl e)⟩, fun h => k3 (Or.inl e) hkn h⟩
    · rw [if_neg hkn] at c1
      have w60 : s1.1 0 60 oi = nI o.2.2.1 := (c4.1 _ _ _ (by unfold X53; omega)).trans z3
      have e0' : f_Z_consider (nI 0) (nI 3) (nI o.2.2.1) s1 = some s1 := rfl
      refine ⟨s1, rf1, fun M => ?_, c2, fun m => ?_, XF.ofC c4⟩
      · rw [lp_Z_checkExpression_13, pu_in (show pre.length < 240 by omega) (by decide), cond_true, nI_clamp (show pre.length < 2 ^ 31 by omega), y7, if_neg (by rw [nI_leI (by omega) (by omega)]; omega), pu_in b1 (by decide), cond_true, nI_clamp (show oi < 2 ^ 31 by omega), z1, if_neg (show ¬ nI 2 = (1 : Int32) by decide), if_pos (show nI 2 = (2 : Int32) from rfl)]
        simp (disch := omega) only [ax_let, Option.bind_some, cond_true, cond_false, if_pos, if_neg, if_true, if_false, eq_self, nI_add, nI_ltI, nI_leI, nI_eq, nI_clamp, pu_in, c_0, c_1, c_2, c_3, c_4, c_5, c_6, c_7, c_8, c_9, c_10, c_11, c_12, c_15, c_16, c_17, c_32, c_35, c_36, c_38, c_40, c_41, c_42, c_43, c_44, c_45, c_48, c_57, c_58, c_59, c_60, c_61, c_62, c_64, c_65, c_69, c_75, c_83, c_91, c_93, c_94, c_97, c_105, c_106, c_110, c_119, c_123, c_124, c_125, c_126, c_240, c_256, c_400, c_m, nI_m1, nM_i, lN_add, lN_mul, lN_i, nI_l, lN_eq, lgN_le, lgN_lt, lgN_ge, lgN_gt, nI_sub, nI_mul, d_0, d_1, c_13, c_14, c_18, c_19, c_20, c_21, c_22, c_23, c_24, c_25, c_26, c_27, c_28, c_29, c_30, c_31, c_33, c_34, c_37, c_39, c_46, c_47, c_49, c_50, c_51, c_52, c_53, c_54, c_55, c_56, c_63, c_66, c_67, c_68, c_70, c_71, c_72, c_73, c_74, c_76, c_77, c_78, c_79, c_80, c_81, c_82, c_84, c_85, c_86, c_87, c_88, c_89, c_90, c_92, c_95, c_96, c_98, c_99, c_100, c_101, c_102, c_103, c_104, c_107, c_108, c_109, c_111, c_112, c_113, c_114, c_115, c_116, c_117, c_118, c_120, c_121, c_122, c_127, c_280, d_2, d_3, d_4, d_8, d_9, d_10, d_15, d_16, d_32, d_48, d_62, d_63, d_64, y7, z1, z5, c1, w60, e0']
      · rw [c3]
        unfold ceO opN gxO
        constructor
        · rintro ⟨k1, k2⟩
          exact ⟨k1, ⟨fun h => by omega, fun _ => k2, fun h => by omega, fun h => by omega, fun h => by omega⟩, fun _ h => by omega, fun _ h _ => absurd h hkn⟩
        · rintro ⟨k1, ⟨-, k2, -⟩, -, -⟩
          exact ⟨k1, k2 (Or.inl e)⟩
  · -- S
    rw [e] at z1
    rw [if_neg (by omega)] at z3
    obtain ⟨z5, z6⟩ := z4 (Or.inr e)
    obtain ⟨s1, rf1, c1, c2, c3, c4⟩ := ce_260 (F := F) (x1 := nI pre.length) (C := C) hF b1 b2 o.2.2.2 t0 F rf true s rfl (by omega) z6 b3 (fun x hx => ⟨(o5 x hx).2, by have := o9 x hx; omega⟩) hC hf
    rw [Bool.true_and] at c1
    have c1 : lp_Z_checkExpression_260 F (nI pre.length) (nI C.length) (nI oi) F (nI 1) (nI t0) s = some (if knw (ltC C) o.2.2.2 = true then nI 1 else nI 0, s1) := c1
    by_cases hkn : knw (ltC C) o.2.2.2 = true
    · rw [if_pos hkn] at c1
      have hT : TgS D C pre sk rest t o oi s1 := by
        have hS1 := CeS.keep (Q := X53) ⟨hR, hZ, hK, hC⟩ c4 (fun r k h => by unfold X53; unfold XX at h; omega)
        refine ⟨hS1.1, hS1.2.1, hS1.2.2.1, hS1.2.2.2, b1, (c4.1 _ _ _ (by unfold X53; omega)).trans (by rw [e]; exact z1), t0, (c4.1 _ _ _ (by unfold X53; omega)).trans z5, (c4.1 _ _ _ (by unfold X53; omega)).trans z6, b2, fun i x hi => ?_⟩
        obtain ⟨x1, x2, x3⟩ := b3 i x hi
        exact ⟨(c4.2 _ _ _ (by unfold X53; omega)).trans x1, (c4.1 _ _ _ (by unfold X53; omega)).trans x2, (c4.1 _ _ _ (by unfold X53; omega)).trans x3⟩
      obtain ⟨fl, s2, d1, d2, d3⟩ := z_tooGreat (ky := D.2.2.1.1) hF hT (Or.inr e) o4 o5 hkn ((c4.2 _ _ _ (by unfold X53; omega)).trans g2) (by omega) hsk hg h5
      obtain ⟨s3, rf3, e1, e0, e2, e3, e4⟩ := z_conD (c := 3) (fl = true) (by omega) (show o.2.2.1 ≤ 240 by omega) (c2.keep d3 (fun k h => by unfold X74; omega))
      have w60 : s2.1 0 60 oi = nI o.2.2.1 := (d3.1 _ _ _ (by unfold X74; omega)).trans ((c4.1 _ _ _ (by unfold X53; omega)).trans z3)
      refine ⟨s3, rf3, fun M => ?_, e2, fun m => ?_, ((XF.ofC c4).trans (XF.ofR d3)).trans (XF.ofC e4)⟩
      · rw [lp_Z_checkExpression_13, pu_in (show pre.length < 240 by omega) (by decide), cond_true, nI_clamp (show pre.length < 2 ^ 31 by omega), y7, if_neg (by rw [nI_leI (by omega) (by omega)]; omega), pu_in b1 (by decide), cond_true, nI_clamp (show oi < 2 ^ 31 by omega), z1, if_neg (show ¬ nI 3 = (1 : Int32) by decide), if_neg (show ¬ nI 3 = (2 : Int32) by decide), if_pos (show nI 3 = (3 : Int32) from rfl)]
        cases hfl : fl with
        | true =>
          rw [hfl] at d1
          have e1' := e1 hfl
          have d1 : f_Z_isTooGreat F (nI pre.length) (nI oi) (nI C.length) s1 = some (nI 1, s2) := d1
          simp (disch := omega) only [ax_let, Option.bind_some, cond_true, cond_false, if_pos, if_neg, if_true, if_false, eq_self, nI_add, nI_ltI, nI_leI, nI_eq, nI_clamp, pu_in, c_0, c_1, c_2, c_3, c_4, c_5, c_6, c_7, c_8, c_9, c_10, c_11, c_12, c_15, c_16, c_17, c_32, c_35, c_36, c_38, c_40, c_41, c_42, c_43, c_44, c_45, c_48, c_57, c_58, c_59, c_60, c_61, c_62, c_64, c_65, c_69, c_75, c_83, c_91, c_93, c_94, c_97, c_105, c_106, c_110, c_119, c_123, c_124, c_125, c_126, c_240, c_256, c_400, c_m, nI_m1, nM_i, lN_add, lN_mul, lN_i, nI_l, lN_eq, lgN_le, lgN_lt, lgN_ge, lgN_gt, nI_sub, nI_mul, d_0, d_1, c_13, c_14, c_18, c_19, c_20, c_21, c_22, c_23, c_24, c_25, c_26, c_27, c_28, c_29, c_30, c_31, c_33, c_34, c_37, c_39, c_46, c_47, c_49, c_50, c_51, c_52, c_53, c_54, c_55, c_56, c_63, c_66, c_67, c_68, c_70, c_71, c_72, c_73, c_74, c_76, c_77, c_78, c_79, c_80, c_81, c_82, c_84, c_85, c_86, c_87, c_88, c_89, c_90, c_92, c_95, c_96, c_98, c_99, c_100, c_101, c_102, c_103, c_104, c_107, c_108, c_109, c_111, c_112, c_113, c_114, c_115, c_116, c_117, c_118, c_120, c_121, c_122, c_127, c_280, d_2, d_3, d_4, d_8, d_9, d_10, d_15, d_16, d_32, d_48, d_62, d_63, d_64, y7, z1, z5, c1, d1, w60, e1']
        | false =>
          rw [hfl] at d1
          have e0' := e0 (by rw [hfl]; decide)
          have d1 : f_Z_isTooGreat F (nI pre.length) (nI oi) (nI C.length) s1 = some (nI 0, s2) := d1
          simp (disch := omega) only [ax_let, Option.bind_some, cond_true, cond_false, if_pos, if_neg, if_true, if_false, eq_self, nI_add, nI_ltI, nI_leI, nI_eq, nI_clamp, pu_in, c_0, c_1, c_2, c_3, c_4, c_5, c_6, c_7, c_8, c_9, c_10, c_11, c_12, c_15, c_16, c_17, c_32, c_35, c_36, c_38, c_40, c_41, c_42, c_43, c_44, c_45, c_48, c_57, c_58, c_59, c_60, c_61, c_62, c_64, c_65, c_69, c_75, c_83, c_91, c_93, c_94, c_97, c_105, c_106, c_110, c_119, c_123, c_124, c_125, c_126, c_240, c_256, c_400, c_m, nI_m1, nM_i, lN_add, lN_mul, lN_i, nI_l, lN_eq, lgN_le, lgN_lt, lgN_ge, lgN_gt, nI_sub, nI_mul, d_0, d_1, c_13, c_14, c_18, c_19, c_20, c_21, c_22, c_23, c_24, c_25, c_26, c_27, c_28, c_29, c_30, c_31, c_33, c_34, c_37, c_39, c_46, c_47, c_49, c_50, c_51, c_52, c_53, c_54, c_55, c_56, c_63, c_66, c_67, c_68, c_70, c_71, c_72, c_73, c_74, c_76, c_77, c_78, c_79, c_80, c_81, c_82, c_84, c_85, c_86, c_87, c_88, c_89, c_90, c_92, c_95, c_96, c_98, c_99, c_100, c_101, c_102, c_103, c_104, c_107, c_108, c_109, c_111, c_112, c_113, c_114, c_115, c_116, c_117, c_118, c_120, c_121, c_122, c_127, c_280, d_2, d_3, d_4, d_8, d_9, d_10, d_15, d_16, d_32, d_48, d_62, d_63, d_64, y7, z1, z5, c1, d1, w60, e0']
      · rw [e3, c3, d2]
        unfold ceO opN gxO
        constructor
        · rintro ⟨⟨k1, k2⟩, k3⟩
          exact ⟨k1, ⟨fun h => by omega, fun _ => k2, fun h => by omega, fun h => by omega, fun h => by omega⟩, fun _ h => by omega, fun _ _ h => k3 h⟩
        · rintro ⟨k1, ⟨-, k2, -⟩, -, k3⟩
          exact ⟨⟨k1, k2 (Or.inr e)⟩, fun h => k3 (Or.inr e) hkn h⟩
    · rw [if_neg hkn] at c1
      have w60 : s1.1 0 60 oi = nI o.2.2.1 := (c4.1 _ _ _ (by unfold X53; omega)).trans z3
      have e0' : f_Z_consider (nI 0) (nI 3) (nI o.2.2.1) s1 = some s1 := rfl
      refine ⟨s1, rf1, fun M => ?_, c2, fun m => ?_, XF.ofC c4⟩
      · rw [lp_Z_checkExpression_13, pu_in (show pre.length < 240 by omega) (by decide), cond_true, nI_clamp (show pre.length < 2 ^ 31 by omega), y7, if_neg (by rw [nI_leI (by omega) (by omega)]; omega), pu_in b1 (by decide), cond_true, nI_clamp (show oi < 2 ^ 31 by omega), z1, if_neg (show ¬ nI 3 = (1 : Int32) by decide), if_neg (show ¬ nI 3 = (2 : Int32) by decide), if_pos (show nI 3 = (3 : Int32) from rfl)]
        simp (disch := omega) only [ax_let, Option.bind_some, cond_true, cond_false, if_pos, if_neg, if_true, if_false, eq_self, nI_add, nI_ltI, nI_leI, nI_eq, nI_clamp, pu_in, c_0, c_1, c_2, c_3, c_4, c_5, c_6, c_7, c_8, c_9, c_10, c_11, c_12, c_15, c_16, c_17, c_32, c_35, c_36, c_38, c_40, c_41, c_42, c_43, c_44, c_45, c_48, c_57, c_58, c_59, c_60, c_61, c_62, c_64, c_65, c_69, c_75, c_83, c_91, c_93, c_94, c_97, c_105, c_106, c_110, c_119, c_123, c_124, c_125, c_126, c_240, c_256, c_400, c_m, nI_m1, nM_i, lN_add, lN_mul, lN_i, nI_l, lN_eq, lgN_le, lgN_lt, lgN_ge, lgN_gt, nI_sub, nI_mul, d_0, d_1, c_13, c_14, c_18, c_19, c_20, c_21, c_22, c_23, c_24, c_25, c_26, c_27, c_28, c_29, c_30, c_31, c_33, c_34, c_37, c_39, c_46, c_47, c_49, c_50, c_51, c_52, c_53, c_54, c_55, c_56, c_63, c_66, c_67, c_68, c_70, c_71, c_72, c_73, c_74, c_76, c_77, c_78, c_79, c_80, c_81, c_82, c_84, c_85, c_86, c_87, c_88, c_89, c_90, c_92, c_95, c_96, c_98, c_99, c_100, c_101, c_102, c_103, c_104, c_107, c_108, c_109, c_111, c_112, c_113, c_114, c_115, c_116, c_117, c_118, c_120, c_121, c_122, c_127, c_280, d_2, d_3, d_4, d_8, d_9, d_10, d_15, d_16, d_32, d_48, d_62, d_63, d_64, y7, z1, z5, c1, w60, e0']
      · rw [c3]
        unfold ceO opN gxO
        constructor
        · rintro ⟨k1, k2⟩
          exact ⟨k1, ⟨fun h => by omega, fun _ => k2, fun h => by omega, fun h => by omega, fun h => by omega⟩, fun _ h => by omega, fun _ h _ => absurd h hkn⟩
        · rintro ⟨k1, ⟨-, k2, -⟩, -, -⟩
          exact ⟨k1, k2 (Or.inr e)⟩
  · -- a number
    rw [e] at z1
    rw [if_neg (by omega)] at z3
    have hwd := hwd0
    obtain ⟨s1, rf1, c1, c0, c2, c3, c4⟩ := z_conD (c := 3) (¬ o.2.1 < wb D.1.1) (by omega) (show o.2.2.1 ≤ 240 by omega) hf
    refine ⟨s1, rf1, fun M => ?_, c2, fun m => ?_, XF.ofC c4⟩
    · rw [lp_Z_checkExpression_13, pu_in (show pre.length < 240 by omega) (by decide), cond_true, nI_clamp (show pre.length < 2 ^ 31 by omega), y7, if_neg (by rw [nI_leI (by omega) (by omega)]; omega), pu_in b1 (by decide), cond_true, nI_clamp (show oi < 2 ^ 31 by omega), z1, if_neg (show ¬ nI 4 = (1 : Int32) by decide), if_neg (show ¬ nI 4 = (2 : Int32) by decide), if_neg (show ¬ nI 4 = (3 : Int32) by decide), if_pos (show nI 4 = (4 : Int32) from rfl)]
      by_cases hP : ¬ o.2.1 < wb D.1.1
      · rw [decide_eq_true hP, if_pos rfl] at hwd
        have c1' := c1 hP
        simp (disch := omega) only [ax_let, Option.bind_some, cond_true, cond_false, if_pos, if_neg, if_true, if_false, eq_self, nI_add, nI_ltI, nI_leI, nI_eq, nI_clamp, pu_in, c_0, c_1, c_2, c_3, c_4, c_5, c_6, c_7, c_8, c_9, c_10, c_11, c_12, c_15, c_16, c_17, c_32, c_35, c_36, c_38, c_40, c_41, c_42, c_43, c_44, c_45, c_48, c_57, c_58, c_59, c_60, c_61, c_62, c_64, c_65, c_69, c_75, c_83, c_91, c_93, c_94, c_97, c_105, c_106, c_110, c_119, c_123, c_124, c_125, c_126, c_240, c_256, c_400, c_m, nI_m1, nM_i, lN_add, lN_mul, lN_i, nI_l, lN_eq, lgN_le, lgN_lt, lgN_ge, lgN_gt, nI_sub, nI_mul, d_0, d_1, c_13, c_14, c_18, c_19, c_20, c_21, c_22, c_23, c_24, c_25, c_26, c_27, c_28, c_29, c_30, c_31, c_33, c_34, c_37, c_39, c_46, c_47, c_49, c_50, c_51, c_52, c_53, c_54, c_55, c_56, c_63, c_66, c_67, c_68, c_70, c_71, c_72, c_73, c_74, c_76, c_77, c_78, c_79, c_80, c_81, c_82, c_84, c_85, c_86, c_87, c_88, c_89, c_90, c_92, c_95, c_96, c_98, c_99, c_100, c_101, c_102, c_103, c_104, c_107, c_108, c_109, c_111, c_112, c_113, c_114, c_115, c_116, c_117, c_118, c_120, c_121, c_122, c_127, c_280, d_2, d_3, d_4, d_8, d_9, d_10, d_15, d_16, d_32, d_48, d_62, d_63, d_64, y7, z1, z2, z3, hwd, c1']
      · rw [decide_eq_false hP] at hwd
        have hwd : f_Z_isWide (lN o.2.1) s = some (nI 0) := hwd
        have c0' := c0 hP
        simp (disch := omega) only [ax_let, Option.bind_some, cond_true, cond_false, if_pos, if_neg, if_true, if_false, eq_self, nI_add, nI_ltI, nI_leI, nI_eq, nI_clamp, pu_in, c_0, c_1, c_2, c_3, c_4, c_5, c_6, c_7, c_8, c_9, c_10, c_11, c_12, c_15, c_16, c_17, c_32, c_35, c_36, c_38, c_40, c_41, c_42, c_43, c_44, c_45, c_48, c_57, c_58, c_59, c_60, c_61, c_62, c_64, c_65, c_69, c_75, c_83, c_91, c_93, c_94, c_97, c_105, c_106, c_110, c_119, c_123, c_124, c_125, c_126, c_240, c_256, c_400, c_m, nI_m1, nM_i, lN_add, lN_mul, lN_i, nI_l, lN_eq, lgN_le, lgN_lt, lgN_ge, lgN_gt, nI_sub, nI_mul, d_0, d_1, c_13, c_14, c_18, c_19, c_20, c_21, c_22, c_23, c_24, c_25, c_26, c_27, c_28, c_29, c_30, c_31, c_33, c_34, c_37, c_39, c_46, c_47, c_49, c_50, c_51, c_52, c_53, c_54, c_55, c_56, c_63, c_66, c_67, c_68, c_70, c_71, c_72, c_73, c_74, c_76, c_77, c_78, c_79, c_80, c_81, c_82, c_84, c_85, c_86, c_87, c_88, c_89, c_90, c_92, c_95, c_96, c_98, c_99, c_100, c_101, c_102, c_103, c_104, c_107, c_108, c_109, c_111, c_112, c_113, c_114, c_115, c_116, c_117, c_118, c_120, c_121, c_122, c_127, c_280, d_2, d_3, d_4, d_8, d_9, d_10, d_15, d_16, d_32, d_48, d_62, d_63, d_64, y7, z1, z2, z3, hwd, c0']
    · rw [c3]
      unfold ceO opN
      exact ⟨fun k => ⟨k.1, ⟨fun h => by omega, fun h => by omega, fun _ => k.2, fun h => by omega, fun h => by omega⟩, fun _ h => by omega, hgx (by omega) m⟩, fun k => ⟨k.1, k.2.1.2.2.1 e⟩⟩
  · -- a LETTER
    rw [e] at z1
    rw [if_neg (by omega)] at z3
    have ho8 := o8 e
    have hio := z_isOpen (F := F) (x := o.2.1) hF ho8 hC
    obtain ⟨s1, rf1, c1, c0, c2, c3, c4⟩ := z_conD (c := 4) (o.2.1 ∉ ltC C) (by omega) (show o.2.2.1 ≤ 240 by omega) hf
    refine ⟨s1, rf1, fun M => ?_, c2, fun m => ?_, XF.ofC c4⟩
    · rw [lp_Z_checkExpression_13, pu_in (show pre.length < 240 by omega) (by decide), cond_true, nI_clamp (show pre.length < 2 ^ 31 by omega), y7, if_neg (by rw [nI_leI (by omega) (by omega)]; omega), pu_in b1 (by decide), cond_true, nI_clamp (show oi < 2 ^ 31 by omega), z1, if_neg (show ¬ nI 5 = (1 : Int32) by decide), if_neg (show ¬ nI 5 = (2 : Int32) by decide), if_neg (show ¬ nI 5 = (3 : Int32) by decide), if_neg (show ¬ nI 5 = (4 : Int32) by decide), if_pos (show nI 5 = (5 : Int32) from rfl)]
      by_cases hP : o.2.1 ∈ ltC C
      · rw [if_pos hP] at hio
        have c0' := c0 (fun e => e hP)
        simp (disch := omega) only [ax_let, Option.bind_some, cond_true, cond_false, if_pos, if_neg, if_true, if_false, eq_self, nI_add, nI_ltI, nI_leI, nI_eq, nI_clamp, pu_in, c_0, c_1, c_2, c_3, c_4, c_5, c_6, c_7, c_8, c_9, c_10, c_11, c_12, c_15, c_16, c_17, c_32, c_35, c_36, c_38, c_40, c_41, c_42, c_43, c_44, c_45, c_48, c_57, c_58, c_59, c_60, c_61, c_62, c_64, c_65, c_69, c_75, c_83, c_91, c_93, c_94, c_97, c_105, c_106, c_110, c_119, c_123, c_124, c_125, c_126, c_240, c_256, c_400, c_m, nI_m1, nM_i, lN_add, lN_mul, lN_i, nI_l, lN_eq, lgN_le, lgN_lt, lgN_ge, lgN_gt, nI_sub, nI_mul, d_0, d_1, c_13, c_14, c_18, c_19, c_20, c_21, c_22, c_23, c_24, c_25, c_26, c_27, c_28, c_29, c_30, c_31, c_33, c_34, c_37, c_39, c_46, c_47, c_49, c_50, c_51, c_52, c_53, c_54, c_55, c_56, c_63, c_66, c_67, c_68, c_70, c_71, c_72, c_73, c_74, c_76, c_77, c_78, c_79, c_80, c_81, c_82, c_84, c_85, c_86, c_87, c_88, c_89, c_90, c_92, c_95, c_96, c_98, c_99, c_100, c_101, c_102, c_103, c_104, c_107, c_108, c_109, c_111, c_112, c_113, c_114, c_115, c_116, c_117, c_118, c_120, c_121, c_122, c_127, c_280, d_2, d_3, d_4, d_8, d_9, d_10, d_15, d_16, d_32, d_48, d_62, d_63, d_64, y7, z1, z2, z3, hio, c0']
      · rw [if_neg hP] at hio
        have c1' := c1 hP
        simp (disch := omega) only [ax_let, Option.bind_some, cond_true, cond_false, if_pos, if_neg, if_true, if_false, eq_self, nI_add, nI_ltI, nI_leI, nI_eq, nI_clamp, pu_in, c_0, c_1, c_2, c_3, c_4, c_5, c_6, c_7, c_8, c_9, c_10, c_11, c_12, c_15, c_16, c_17, c_32, c_35, c_36, c_38, c_40, c_41, c_42, c_43, c_44, c_45, c_48, c_57, c_58, c_59, c_60, c_61, c_62, c_64, c_65, c_69, c_75, c_83, c_91, c_93, c_94, c_97, c_105, c_106, c_110, c_119, c_123, c_124, c_125, c_126, c_240, c_256, c_400, c_m, nI_m1, nM_i, lN_add, lN_mul, lN_i, nI_l, lN_eq, lgN_le, lgN_lt, lgN_ge, lgN_gt, nI_sub, nI_mul, d_0, d_1, c_13, c_14, c_18, c_19, c_20, c_21, c_22, c_23, c_24, c_25, c_26, c_27, c_28, c_29, c_30, c_31, c_33, c_34, c_37, c_39, c_46, c_47, c_49, c_50, c_51, c_52, c_53, c_54, c_55, c_56, c_63, c_66, c_67, c_68, c_70, c_71, c_72, c_73, c_74, c_76, c_77, c_78, c_79, c_80, c_81, c_82, c_84, c_85, c_86, c_87, c_88, c_89, c_90, c_92, c_95, c_96, c_98, c_99, c_100, c_101, c_102, c_103, c_104, c_107, c_108, c_109, c_111, c_112, c_113, c_114, c_115, c_116, c_117, c_118, c_120, c_121, c_122, c_127, c_280, d_2, d_3, d_4, d_8, d_9, d_10, d_15, d_16, d_32, d_48, d_62, d_63, d_64, y7, z1, z2, z3, hio, c1']
    · rw [c3]
      unfold ceO opN
      exact ⟨fun k => ⟨k.1, ⟨fun h => by omega, fun h => by omega, fun h => by omega, fun _ => k.2, fun h => by omega⟩, fun _ h => by omega, hgx (by omega) m⟩, fun k => ⟨k.1, k.2.1.2.2.2.1 e⟩⟩
  · -- ~
    rw [e] at z1
    refine ⟨s, rf, fun M => ?_, hf, fun m => ?_, frm.refl⟩
    · rw [lp_Z_checkExpression_13, pu_in (show pre.length < 240 by omega) (by decide), cond_true, nI_clamp (show pre.length < 2 ^ 31 by omega), y7, if_neg (by rw [nI_leI (by omega) (by omega)]; omega), pu_in b1 (by decide), cond_true, nI_clamp (show oi < 2 ^ 31 by omega), z1, if_neg (show ¬ nI 6 = (1 : Int32) by decide), if_neg (show ¬ nI 6 = (2 : Int32) by decide), if_neg (show ¬ nI 6 = (3 : Int32) by decide), if_neg (show ¬ nI 6 = (4 : Int32) by decide), if_neg (show ¬ nI 6 = (5 : Int32) by decide), if_pos (show nI 6 = (6 : Int32) from rfl)]
      simp (disch := omega) only [ax_let, Option.bind_some, cond_true, cond_false, if_pos, if_neg, if_true, if_false, eq_self, nI_add, nI_ltI, nI_leI, nI_eq, nI_clamp, pu_in, c_0, c_1, c_2, c_3, c_4, c_5, c_6, c_7, c_8, c_9, c_10, c_11, c_12, c_15, c_16, c_17, c_32, c_35, c_36, c_38, c_40, c_41, c_42, c_43, c_44, c_45, c_48, c_57, c_58, c_59, c_60, c_61, c_62, c_64, c_65, c_69, c_75, c_83, c_91, c_93, c_94, c_97, c_105, c_106, c_110, c_119, c_123, c_124, c_125, c_126, c_240, c_256, c_400, c_m, nI_m1, nM_i, lN_add, lN_mul, lN_i, nI_l, lN_eq, lgN_le, lgN_lt, lgN_ge, lgN_gt, nI_sub, nI_mul, d_0, d_1, c_13, c_14, c_18, c_19, c_20, c_21, c_22, c_23, c_24, c_25, c_26, c_27, c_28, c_29, c_30, c_31, c_33, c_34, c_37, c_39, c_46, c_47, c_49, c_50, c_51, c_52, c_53, c_54, c_55, c_56, c_63, c_66, c_67, c_68, c_70, c_71, c_72, c_73, c_74, c_76, c_77, c_78, c_79, c_80, c_81, c_82, c_84, c_85, c_86, c_87, c_88, c_89, c_90, c_92, c_95, c_96, c_98, c_99, c_100, c_101, c_102, c_103, c_104, c_107, c_108, c_109, c_111, c_112, c_113, c_114, c_115, c_116, c_117, c_118, c_120, c_121, c_122, c_127, c_280, d_2, d_3, d_4, d_8, d_9, d_10, d_15, d_16, d_32, d_48, d_62, d_63, d_64, y7, z1]
    · unfold ceO opN
      exact ⟨fun k => ⟨k, ⟨fun h => by omega, fun h => by omega, fun h => by omega, fun h => by omega, fun h => by omega⟩, fun _ h => by omega, hgx (by omega) m⟩, fun k => k.1⟩
  · -- a rotation
    rw [e] at z1
    rw [if_neg (by omega)] at z3
    obtain ⟨s1, rf1, c1, c0, c2, c3, c4⟩ := z_conD (c := 3) (¬ o.2.1 < D.1.1) (by omega) (show o.2.2.1 ≤ 240 by omega) hf
    refine ⟨s1, rf1, fun M => ?_, c2, fun m => ?_, XF.ofC c4⟩
    · rw [lp_Z_checkExpression_13, pu_in (show pre.length < 240 by omega) (by decide), cond_true, nI_clamp (show pre.length < 2 ^ 31 by omega), y7, if_neg (by rw [nI_leI (by omega) (by omega)]; omega), pu_in b1 (by decide), cond_true, nI_clamp (show oi < 2 ^ 31 by omega), z1, if_neg (show ¬ nI 7 = (1 : Int32) by decide), if_neg (show ¬ nI 7 = (2 : Int32) by decide), if_neg (show ¬ nI 7 = (3 : Int32) by decide), if_neg (show ¬ nI 7 = (4 : Int32) by decide), if_neg (show ¬ nI 7 = (5 : Int32) by decide), if_neg (show ¬ nI 7 = (6 : Int32) by decide), if_pos (show nI 7 = (7 : Int32) from rfl)]
      by_cases hP : o.2.1 < D.1.1
      · have c0' := c0 (fun e => e hP)
        simp (disch := omega) only [ax_let, Option.bind_some, cond_true, cond_false, if_pos, if_neg, if_true, if_false, eq_self, nI_add, nI_ltI, nI_leI, nI_eq, nI_clamp, pu_in, c_0, c_1, c_2, c_3, c_4, c_5, c_6, c_7, c_8, c_9, c_10, c_11, c_12, c_15, c_16, c_17, c_32, c_35, c_36, c_38, c_40, c_41, c_42, c_43, c_44, c_45, c_48, c_57, c_58, c_59, c_60, c_61, c_62, c_64, c_65, c_69, c_75, c_83, c_91, c_93, c_94, c_97, c_105, c_106, c_110, c_119, c_123, c_124, c_125, c_126, c_240, c_256, c_400, c_m, nI_m1, nM_i, lN_add, lN_mul, lN_i, nI_l, lN_eq, lgN_le, lgN_lt, lgN_ge, lgN_gt, nI_sub, nI_mul, d_0, d_1, c_13, c_14, c_18, c_19, c_20, c_21, c_22, c_23, c_24, c_25, c_26, c_27, c_28, c_29, c_30, c_31, c_33, c_34, c_37, c_39, c_46, c_47, c_49, c_50, c_51, c_52, c_53, c_54, c_55, c_56, c_63, c_66, c_67, c_68, c_70, c_71, c_72, c_73, c_74, c_76, c_77, c_78, c_79, c_80, c_81, c_82, c_84, c_85, c_86, c_87, c_88, c_89, c_90, c_92, c_95, c_96, c_98, c_99, c_100, c_101, c_102, c_103, c_104, c_107, c_108, c_109, c_111, c_112, c_113, c_114, c_115, c_116, c_117, c_118, c_120, c_121, c_122, c_127, c_280, d_2, d_3, d_4, d_8, d_9, d_10, d_15, d_16, d_32, d_48, d_62, d_63, d_64, y7, z1, z2, z3, g0, c0']
      · have c1' := c1 hP
        simp (disch := omega) only [ax_let, Option.bind_some, cond_true, cond_false, if_pos, if_neg, if_true, if_false, eq_self, nI_add, nI_ltI, nI_leI, nI_eq, nI_clamp, pu_in, c_0, c_1, c_2, c_3, c_4, c_5, c_6, c_7, c_8, c_9, c_10, c_11, c_12, c_15, c_16, c_17, c_32, c_35, c_36, c_38, c_40, c_41, c_42, c_43, c_44, c_45, c_48, c_57, c_58, c_59, c_60, c_61, c_62, c_64, c_65, c_69, c_75, c_83, c_91, c_93, c_94, c_97, c_105, c_106, c_110, c_119, c_123, c_124, c_125, c_126, c_240, c_256, c_400, c_m, nI_m1, nM_i, lN_add, lN_mul, lN_i, nI_l, lN_eq, lgN_le, lgN_lt, lgN_ge, lgN_gt, nI_sub, nI_mul, d_0, d_1, c_13, c_14, c_18, c_19, c_20, c_21, c_22, c_23, c_24, c_25, c_26, c_27, c_28, c_29, c_30, c_31, c_33, c_34, c_37, c_39, c_46, c_47, c_49, c_50, c_51, c_52, c_53, c_54, c_55, c_56, c_63, c_66, c_67, c_68, c_70, c_71, c_72, c_73, c_74, c_76, c_77, c_78, c_79, c_80, c_81, c_82, c_84, c_85, c_86, c_87, c_88, c_89, c_90, c_92, c_95, c_96, c_98, c_99, c_100, c_101, c_102, c_103, c_104, c_107, c_108, c_109, c_111, c_112, c_113, c_114, c_115, c_116, c_117, c_118, c_120, c_121, c_122, c_127, c_280, d_2, d_3, d_4, d_8, d_9, d_10, d_15, d_16, d_32, d_48, d_62, d_63, d_64, y7, z1, z2, z3, g0, c1']
    · rw [c3]
      unfold ceO opN
      exact ⟨fun k => ⟨k.1, ⟨fun h => by omega, fun h => by omega, fun h => by omega, fun h => by omega, fun _ => k.2⟩, fun _ h => by omega, hgx (by omega) m⟩, fun k => ⟨k.1, k.2.1.2.2.2.2 e⟩⟩
  · -- a pair
    rw [e] at z1
    refine ⟨s, rf, fun M => ?_, hf, fun m => ?_, frm.refl⟩
    · rw [lp_Z_checkExpression_13, pu_in (show pre.length < 240 by omega) (by decide), cond_true, nI_clamp (show pre.length < 2 ^ 31 by omega), y7, if_neg (by rw [nI_leI (by omega) (by omega)]; omega), pu_in b1 (by decide), cond_true, nI_clamp (show oi < 2 ^ 31 by omega), z1, if_neg (show ¬ nI 8 = (1 : Int32) by decide), if_neg (show ¬ nI 8 = (2 : Int32) by decide), if_neg (show ¬ nI 8 = (3 : Int32) by decide), if_neg (show ¬ nI 8 = (4 : Int32) by decide), if_neg (show ¬ nI 8 = (5 : Int32) by decide), if_neg (show ¬ nI 8 = (6 : Int32) by decide), if_neg (show ¬ nI 8 = (7 : Int32) by decide)]
      simp (disch := omega) only [ax_let, Option.bind_some, cond_true, cond_false, if_pos, if_neg, if_true, if_false, eq_self, nI_add, nI_ltI, nI_leI, nI_eq, nI_clamp, pu_in, c_0, c_1, c_2, c_3, c_4, c_5, c_6, c_7, c_8, c_9, c_10, c_11, c_12, c_15, c_16, c_17, c_32, c_35, c_36, c_38, c_40, c_41, c_42, c_43, c_44, c_45, c_48, c_57, c_58, c_59, c_60, c_61, c_62, c_64, c_65, c_69, c_75, c_83, c_91, c_93, c_94, c_97, c_105, c_106, c_110, c_119, c_123, c_124, c_125, c_126, c_240, c_256, c_400, c_m, nI_m1, nM_i, lN_add, lN_mul, lN_i, nI_l, lN_eq, lgN_le, lgN_lt, lgN_ge, lgN_gt, nI_sub, nI_mul, d_0, d_1, c_13, c_14, c_18, c_19, c_20, c_21, c_22, c_23, c_24, c_25, c_26, c_27, c_28, c_29, c_30, c_31, c_33, c_34, c_37, c_39, c_46, c_47, c_49, c_50, c_51, c_52, c_53, c_54, c_55, c_56, c_63, c_66, c_67, c_68, c_70, c_71, c_72, c_73, c_74, c_76, c_77, c_78, c_79, c_80, c_81, c_82, c_84, c_85, c_86, c_87, c_88, c_89, c_90, c_92, c_95, c_96, c_98, c_99, c_100, c_101, c_102, c_103, c_104, c_107, c_108, c_109, c_111, c_112, c_113, c_114, c_115, c_116, c_117, c_118, c_120, c_121, c_122, c_127, c_280, d_2, d_3, d_4, d_8, d_9, d_10, d_15, d_16, d_32, d_48, d_62, d_63, d_64, y7, z1]
    · unfold ceO opN
      exact ⟨fun k => ⟨k, ⟨fun h => by omega, fun h => by omega, fun h => by omega, fun h => by omega, fun h => by omega⟩, fun _ h => by omega, hgx (by omega) m⟩, fun k => k.1⟩
