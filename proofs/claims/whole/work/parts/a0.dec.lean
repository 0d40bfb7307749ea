/-! PURE: the reference prints -/
theorem c_13 : (13 : Int32) = nI 13 := rfl
theorem c_14 : (14 : Int32) = nI 14 := rfl
theorem c_18 : (18 : Int32) = nI 18 := rfl
theorem c_19 : (19 : Int32) = nI 19 := rfl
theorem c_20 : (20 : Int32) = nI 20 := rfl
theorem c_21 : (21 : Int32) = nI 21 := rfl
theorem c_22 : (22 : Int32) = nI 22 := rfl
theorem c_23 : (23 : Int32) = nI 23 := rfl
theorem c_24 : (24 : Int32) = nI 24 := rfl
theorem c_25 : (25 : Int32) = nI 25 := rfl
theorem c_26 : (26 : Int32) = nI 26 := rfl
theorem c_27 : (27 : Int32) = nI 27 := rfl
theorem c_28 : (28 : Int32) = nI 28 := rfl
theorem c_29 : (29 : Int32) = nI 29 := rfl
theorem c_30 : (30 : Int32) = nI 30 := rfl
theorem c_31 : (31 : Int32) = nI 31 := rfl
theorem c_33 : (33 : Int32) = nI 33 := rfl
theorem c_34 : (34 : Int32) = nI 34 := rfl
theorem c_37 : (37 : Int32) = nI 37 := rfl
theorem c_39 : (39 : Int32) = nI 39 := rfl
theorem c_46 : (46 : Int32) = nI 46 := rfl
theorem c_47 : (47 : Int32) = nI 47 := rfl
theorem c_49 : (49 : Int32) = nI 49 := rfl
theorem c_50 : (50 : Int32) = nI 50 := rfl
theorem c_51 : (51 : Int32) = nI 51 := rfl
theorem c_52 : (52 : Int32) = nI 52 := rfl
theorem c_53 : (53 : Int32) = nI 53 := rfl
theorem c_54 : (54 : Int32) = nI 54 := rfl
theorem c_55 : (55 : Int32) = nI 55 := rfl
theorem c_56 : (56 : Int32) = nI 56 := rfl
theorem c_63 : (63 : Int32) = nI 63 := rfl
theorem c_66 : (66 : Int32) = nI 66 := rfl
theorem c_67 : (67 : Int32) = nI 67 := rfl
theorem c_68 : (68 : Int32) = nI 68 := rfl
theorem c_70 : (70 : Int32) = nI 70 := rfl
theorem c_71 : (71 : Int32) = nI 71 := rfl
theorem c_72 : (72 : Int32) = nI 72 := rfl
theorem c_73 : (73 : Int32) = nI 73 := rfl
theorem c_74 : (74 : Int32) = nI 74 := rfl
theorem c_76 : (76 : Int32) = nI 76 := rfl
theorem c_77 : (77 : Int32) = nI 77 := rfl
theorem c_78 : (78 : Int32) = nI 78 := rfl
theorem c_79 : (79 : Int32) = nI 79 := rfl
theorem c_80 : (80 : Int32) = nI 80 := rfl
theorem c_81 : (81 : Int32) = nI 81 := rfl
theorem c_82 : (82 : Int32) = nI 82 := rfl
theorem c_84 : (84 : Int32) = nI 84 := rfl
theorem c_85 : (85 : Int32) = nI 85 := rfl
theorem c_86 : (86 : Int32) = nI 86 := rfl
theorem c_87 : (87 : Int32) = nI 87 := rfl
theorem c_88 : (88 : Int32) = nI 88 := rfl
theorem c_89 : (89 : Int32) = nI 89 := rfl
theorem c_90 : (90 : Int32) = nI 90 := rfl
theorem c_92 : (92 : Int32) = nI 92 := rfl
theorem c_95 : (95 : Int32) = nI 95 := rfl
theorem c_96 : (96 : Int32) = nI 96 := rfl
theorem c_98 : (98 : Int32) = nI 98 := rfl
theorem c_99 : (99 : Int32) = nI 99 := rfl
theorem c_100 : (100 : Int32) = nI 100 := rfl
theorem c_101 : (101 : Int32) = nI 101 := rfl
theorem c_102 : (102 : Int32) = nI 102 := rfl
theorem c_103 : (103 : Int32) = nI 103 := rfl
theorem c_104 : (104 : Int32) = nI 104 := rfl
theorem c_107 : (107 : Int32) = nI 107 := rfl
theorem c_108 : (108 : Int32) = nI 108 := rfl
theorem c_109 : (109 : Int32) = nI 109 := rfl
theorem c_111 : (111 : Int32) = nI 111 := rfl
theorem c_112 : (112 : Int32) = nI 112 := rfl
theorem c_113 : (113 : Int32) = nI 113 := rfl
theorem c_114 : (114 : Int32) = nI 114 := rfl
theorem c_115 : (115 : Int32) = nI 115 := rfl
theorem c_116 : (116 : Int32) = nI 116 := rfl
theorem c_117 : (117 : Int32) = nI 117 := rfl
theorem c_118 : (118 : Int32) = nI 118 := rfl
theorem c_120 : (120 : Int32) = nI 120 := rfl
theorem c_121 : (121 : Int32) = nI 121 := rfl
theorem c_122 : (122 : Int32) = nI 122 := rfl
theorem c_127 : (127 : Int32) = nI 127 := rfl
theorem c_280 : (280 : Int32) = nI 280 := rfl
theorem d_2 : (2 : Int64) = lN 2 := rfl
theorem d_3 : (3 : Int64) = lN 3 := rfl
theorem d_4 : (4 : Int64) = lN 4 := rfl
theorem d_8 : (8 : Int64) = lN 8 := rfl
theorem d_9 : (9 : Int64) = lN 9 := rfl
theorem d_10 : (10 : Int64) = lN 10 := rfl
theorem d_15 : (15 : Int64) = lN 15 := rfl
theorem d_16 : (16 : Int64) = lN 16 := rfl
theorem d_32 : (32 : Int64) = lN 32 := rfl
theorem d_48 : (48 : Int64) = lN 48 := rfl
theorem d_62 : (62 : Int64) = lN 62 := rfl
theorem d_63 : (63 : Int64) = lN 63 := rfl
theorem d_64 : (64 : Int64) = lN 64 := rfl
theorem lN_div {a b : Nat} (ha : a < 2 ^ 31) (hb : b < 2 ^ 31) : lN a / lN b = lN (a / b) := by
  apply Int64.toInt_inj.mp
  have hm : lN b ≠ -1 := fun e => by
    have h1 := lN_toInt hb
    rw [e] at h1
    have h2 : ((-1 : Int64)).toInt = -1 := by decide
    rw [h2] at h1
    omega
  rw [Int64.toInt_div_of_ne_right _ _ hm, lN_toInt ha, lN_toInt hb, lN_toInt (Nat.lt_of_le_of_lt (Nat.div_le_self _ _) ha)]
  rfl
theorem lgN_le {a b : Nat} (ha : a < 2 ^ 31) (hb : b < 2 ^ 31) : (lg_cmp (lN a) (lN b) ≤ nI 0) ↔ a ≤ b := (lg_cmp_le _ _).trans (lN_le ha hb)
theorem lgN_lt {a b : Nat} (ha : a < 2 ^ 31) (hb : b < 2 ^ 31) : (lg_cmp (lN a) (lN b) < nI 0) ↔ a < b := (lg_cmp_lt _ _).trans (lN_lt ha hb)
theorem i_nlt (x : Int32) : (nI 0 ≤ x) ↔ ¬ x < nI 0 := by
  rw [Int32.lt_iff_toInt_lt, Int32.le_iff_toInt_le]
  omega
theorem i_nle (x : Int32) : (nI 0 < x) ↔ ¬ x ≤ nI 0 := by
  rw [Int32.lt_iff_toInt_lt, Int32.le_iff_toInt_le]
  omega
theorem lgN_ge {a b : Nat} (ha : a < 2 ^ 31) (hb : b < 2 ^ 31) : (nI 0 ≤ lg_cmp (lN a) (lN b)) ↔ b ≤ a := by
  rw [i_nlt, lgN_lt ha hb]
  omega
theorem lgN_gt {a b : Nat} (ha : a < 2 ^ 31) (hb : b < 2 ^ 31) : (nI 0 < lg_cmp (lN a) (lN b)) ↔ b < a := by
  rw [i_nle, lgN_le ha hb]
  omega
def XP (g r k : Nat) : Prop := g = 0 ∧ ((r = 38 ∧ k = 51) ∨ r = 67)
def ZP (Pr : List Nat) (s : ax_σ) : Prop := s.1 0 38 51 = nI Pr.length ∧ ∀ i c, Pr[i]? = some c → s.1 0 67 i = nI c
theorem ZP.keep {Pr : List Nat} {s s' : ax_σ} {Q : Nat → Nat → Nat → Prop} (h : ZP Pr s) (hf : frm Q s s') (hq : ∀ r k, (r = 38 ∧ k = 51) ∨ r = 67 → ¬ Q 0 r k) : ZP Pr s' :=
  ⟨(hf.1 _ _ _ (hq 38 51 (Or.inl ⟨rfl, rfl⟩))).trans h.1, fun i c hi => (hf.1 _ _ _ (hq 67 i (Or.inr rfl))).trans (h.2 i c hi)⟩
theorem get_lt {α : Type} {l : List α} {i : Nat} {x : α} (h : l[i]? = some x) : i < l.length := by
  by_cases hl : i < l.length
  · exact hl
  · rw [List.getElem?_eq_none (by omega)] at h; cases h
theorem zp_1 {Pr : List Nat} {c : Nat} {s : ax_σ} (h : ZP Pr s) (hl : Pr.length < 280) : ∃ s', f_Z_print_II (nI c) (nI 1) s = some s' ∧ ZP (Pr ++ [c]) s' ∧ frm XP s s' := by
  obtain ⟨h1, h2⟩ := h
  refine ⟨ax_wI (ax_wI s 0 67 Pr.length (nI c)) 0 38 51 (nI (Pr.length + 1)), ?_, ⟨?_, fun i x hi => ?_⟩, ?_⟩
  · unfold f_Z_print_II
    simp (disch := omega) only [ax_let, Option.bind_some, cond_true, cond_false, if_pos, if_neg, if_true, if_false, eq_self, nI_add, nI_ltI, nI_leI, nI_eq, nI_clamp, pu_in, c_0, c_1, c_2, c_3, c_4, c_5, c_6, c_7, c_8, c_9, c_10, c_11, c_12, c_15, c_16, c_17, c_32, c_35, c_36, c_38, c_40, c_41, c_42, c_43, c_44, c_45, c_48, c_57, c_58, c_59, c_60, c_61, c_62, c_64, c_65, c_69, c_75, c_83, c_91, c_93, c_94, c_97, c_105, c_106, c_110, c_119, c_123, c_124, c_125, c_126, c_240, c_256, c_400, c_m, nI_m1, nM_i, lN_add, lN_mul, lN_i, nI_l, lN_eq, lgN_le, lgN_lt, lgN_ge, lgN_gt, nI_sub, nI_mul, d_0, d_1, c_13, c_14, c_18, c_19, c_20, c_21, c_22, c_23, c_24, c_25, c_26, c_27, c_28, c_29, c_30, c_31, c_33, c_34, c_37, c_39, c_46, c_47, c_49, c_50, c_51, c_52, c_53, c_54, c_55, c_56, c_63, c_66, c_67, c_68, c_70, c_71, c_72, c_73, c_74, c_76, c_77, c_78, c_79, c_80, c_81, c_82, c_84, c_85, c_86, c_87, c_88, c_89, c_90, c_92, c_95, c_96, c_98, c_99, c_100, c_101, c_102, c_103, c_104, c_107, c_108, c_109, c_111, c_112, c_113, c_114, c_115, c_116, c_117, c_118, c_120, c_121, c_122, c_127, c_280, d_2, d_3, d_4, d_8, d_9, d_10, d_15, d_16, d_32, d_48, d_62, d_63, d_64, wI_1, wI_2, wL_1, wL_2, true_and, and_true, and_self, false_and, and_false, if_true, if_false, h1]
  · simp (disch := omega) only [wI_1, wI_2, wL_1, wL_2, true_and, and_true, and_self, false_and, and_false, if_true, if_false, if_pos, if_neg, List.length_append, List.length_singleton]
  · rcases getc hi with ⟨i1, i2⟩ | ⟨i1, i2⟩
    · simp (disch := omega) only [wI_1, wI_2, wL_1, wL_2, true_and, and_true, and_self, false_and, and_false, if_true, if_false, if_pos, if_neg]
      exact h2 i x i2
    · subst i1
      subst i2
      simp (disch := omega) only [wI_1, wI_2, wL_1, wL_2, true_and, and_true, and_self, false_and, and_false, if_true, if_false, if_pos, if_neg]
  · refine (frm.refl.wI _ _ _ _ ?_).wI _ _ _ _ ?_ <;> unfold XP <;> omega
theorem zp_0 {Pr : List Nat} {c : Nat} {s : ax_σ} (h : ZP Pr s) (hl : Pr.length < 280) : ∃ s', f_Z_print_II (nI c) (nI 0) s = some s' ∧ ZP Pr s' ∧ frm XP s s' := by
  obtain ⟨h1, h2⟩ := h
  refine ⟨ax_wI (ax_wI s 0 67 Pr.length (nI c)) 0 38 51 (nI (Pr.length + 0)), ?_, ⟨?_, fun i x hi => ?_⟩, ?_⟩
  · unfold f_Z_print_II
    simp (disch := omega) only [ax_let, Option.bind_some, cond_true, cond_false, if_pos, if_neg, if_true, if_false, eq_self, nI_add, nI_ltI, nI_leI, nI_eq, nI_clamp, pu_in, c_0, c_1, c_2, c_3, c_4, c_5, c_6, c_7, c_8, c_9, c_10, c_11, c_12, c_15, c_16, c_17, c_32, c_35, c_36, c_38, c_40, c_41, c_42, c_43, c_44, c_45, c_48, c_57, c_58, c_59, c_60, c_61, c_62, c_64, c_65, c_69, c_75, c_83, c_91, c_93, c_94, c_97, c_105, c_106, c_110, c_119, c_123, c_124, c_125, c_126, c_240, c_256, c_400, c_m, nI_m1, nM_i, lN_add, lN_mul, lN_i, nI_l, lN_eq, lgN_le, lgN_lt, lgN_ge, lgN_gt, nI_sub, nI_mul, d_0, d_1, c_13, c_14, c_18, c_19, c_20, c_21, c_22, c_23, c_24, c_25, c_26, c_27, c_28, c_29, c_30, c_31, c_33, c_34, c_37, c_39, c_46, c_47, c_49, c_50, c_51, c_52, c_53, c_54, c_55, c_56, c_63, c_66, c_67, c_68, c_70, c_71, c_72, c_73, c_74, c_76, c_77, c_78, c_79, c_80, c_81, c_82, c_84, c_85, c_86, c_87, c_88, c_89, c_90, c_92, c_95, c_96, c_98, c_99, c_100, c_101, c_102, c_103, c_104, c_107, c_108, c_109, c_111, c_112, c_113, c_114, c_115, c_116, c_117, c_118, c_120, c_121, c_122, c_127, c_280, d_2, d_3, d_4, d_8, d_9, d_10, d_15, d_16, d_32, d_48, d_62, d_63, d_64, wI_1, wI_2, wL_1, wL_2, true_and, and_true, and_self, false_and, and_false, if_true, if_false, h1]
  · simp (disch := omega) only [wI_1, wI_2, wL_1, wL_2, true_and, and_true, and_self, false_and, and_false, if_true, if_false, if_pos, if_neg]
    rfl
  · have := get_lt hi
    simp (disch := omega) only [wI_1, wI_2, wL_1, wL_2, true_and, and_true, and_self, false_and, and_false, if_true, if_false, if_pos, if_neg]
    exact h2 i x hi
  · refine (frm.refl.wI _ _ _ _ ?_).wI _ _ _ _ ?_ <;> unfold XP <;> omega
/-- k + 1 digits of v -/
def dcP : Nat → Nat → List Nat
  | 0, v => [48 + v % 10]
  | k + 1, v => (48 + v / 10 ^ (k + 1) % 10) :: dcP k v
def dcF (v : Nat) : Nat → Nat → Nat
  | 0, k => k
  | f + 1, k => if v / 10 ^ k ≤ 9 then k else dcF v f (k + 1)
/-- the digits of v -/
def dec (v : Nat) : List Nat := dcP (dcF v 8 0) v
theorem dcP_len : ∀ (k v : Nat), (dcP k v).length = k + 1
  | 0, v => rfl
  | k + 1, v => by rw [dcP, List.length_cons, dcP_len k v]
theorem dcF_le (v : Nat) : ∀ (f k : Nat), dcF v f k ≤ k + f
  | 0, k => Nat.le_refl _
  | f + 1, k => by
    rw [dcF]
    split
    · omega
    · have := dcF_le v f (k + 1); omega
theorem p10 : ∀ k, k < 9 → 10 ^ k < 2 ^ 31 ∧ 0 < 10 ^ k := by decide
theorem zp_2 {F v : Nat} {s : ax_σ} (hv : v < 10 ^ 9) : ∀ (f k M : Nat), k + f = 8 → f < M → lp_Z_printNumber_2 F (lN v) s M (lN (10 ^ k)) = some (lN (10 ^ dcF v f k))
  | f, k, 0, _, hm => absurd hm (Nat.not_lt_zero _)
  | 0, k, M + 1, hk, hm => by
    have hk8 : k = 8 := by omega
    subst hk8
    have h9 : v / 10 ^ 8 ≤ 9 := by omega
    rw [lp_Z_printNumber_2, dcF]
    simp (disch := omega) only [ax_let, Option.bind_some, cond_true, cond_false, if_pos, if_neg, if_true, if_false, eq_self, nI_add, nI_ltI, nI_leI, nI_eq, nI_clamp, pu_in, c_0, c_1, c_2, c_3, c_4, c_5, c_6, c_7, c_8, c_9, c_10, c_11, c_12, c_15, c_16, c_17, c_32, c_35, c_36, c_38, c_40, c_41, c_42, c_43, c_44, c_45, c_48, c_57, c_58, c_59, c_60, c_61, c_62, c_64, c_65, c_69, c_75, c_83, c_91, c_93, c_94, c_97, c_105, c_106, c_110, c_119, c_123, c_124, c_125, c_126, c_240, c_256, c_400, c_m, nI_m1, nM_i, lN_add, lN_mul, lN_i, nI_l, lN_eq, lgN_le, lgN_lt, lgN_ge, lgN_gt, nI_sub, nI_mul, d_0, d_1, c_13, c_14, c_18, c_19, c_20, c_21, c_22, c_23, c_24, c_25, c_26, c_27, c_28, c_29, c_30, c_31, c_33, c_34, c_37, c_39, c_46, c_47, c_49, c_50, c_51, c_52, c_53, c_54, c_55, c_56, c_63, c_66, c_67, c_68, c_70, c_71, c_72, c_73, c_74, c_76, c_77, c_78, c_79, c_80, c_81, c_82, c_84, c_85, c_86, c_87, c_88, c_89, c_90, c_92, c_95, c_96, c_98, c_99, c_100, c_101, c_102, c_103, c_104, c_107, c_108, c_109, c_111, c_112, c_113, c_114, c_115, c_116, c_117, c_118, c_120, c_121, c_122, c_127, c_280, d_2, d_3, d_4, d_8, d_9, d_10, d_15, d_16, d_32, d_48, d_62, d_63, d_64, lN_div, (by decide : decide (10 ^ 8 = 0) = false), Bool.not_false]
  | f + 1, k, M + 1, hk, hm => by
    obtain ⟨p1, p2⟩ := p10 k (by omega)
    have hle : v / 10 ^ k ≤ v := Nat.div_le_self _ _
    have hz : decide (10 ^ k = 0) = false := decide_eq_false (by omega)
    rw [lp_Z_printNumber_2, dcF]
    by_cases h : v / 10 ^ k ≤ 9
    · rw [if_pos h]
      simp (disch := omega) only [ax_let, Option.bind_some, cond_true, cond_false, if_pos, if_neg, if_true, if_false, eq_self, nI_add, nI_ltI, nI_leI, nI_eq, nI_clamp, pu_in, c_0, c_1, c_2, c_3, c_4, c_5, c_6, c_7, c_8, c_9, c_10, c_11, c_12, c_15, c_16, c_17, c_32, c_35, c_36, c_38, c_40, c_41, c_42, c_43, c_44, c_45, c_48, c_57, c_58, c_59, c_60, c_61, c_62, c_64, c_65, c_69, c_75, c_83, c_91, c_93, c_94, c_97, c_105, c_106, c_110, c_119, c_123, c_124, c_125, c_126, c_240, c_256, c_400, c_m, nI_m1, nM_i, lN_add, lN_mul, lN_i, nI_l, lN_eq, lgN_le, lgN_lt, lgN_ge, lgN_gt, nI_sub, nI_mul, d_0, d_1, c_13, c_14, c_18, c_19, c_20, c_21, c_22, c_23, c_24, c_25, c_26, c_27, c_28, c_29, c_30, c_31, c_33, c_34, c_37, c_39, c_46, c_47, c_49, c_50, c_51, c_52, c_53, c_54, c_55, c_56, c_63, c_66, c_67, c_68, c_70, c_71, c_72, c_73, c_74, c_76, c_77, c_78, c_79, c_80, c_81, c_82, c_84, c_85, c_86, c_87, c_88, c_89, c_90, c_92, c_95, c_96, c_98, c_99, c_100, c_101, c_102, c_103, c_104, c_107, c_108, c_109, c_111, c_112, c_113, c_114, c_115, c_116, c_117, c_118, c_120, c_121, c_122, c_127, c_280, d_2, d_3, d_4, d_8, d_9, d_10, d_15, d_16, d_32, d_48, d_62, d_63, d_64, lN_div, hz, Bool.not_false]
    · rw [if_neg h]
      simp (disch := omega) only [ax_let, Option.bind_some, cond_true, cond_false, if_pos, if_neg, if_true, if_false, eq_self, nI_add, nI_ltI, nI_leI, nI_eq, nI_clamp, pu_in, c_0, c_1, c_2, c_3, c_4, c_5, c_6, c_7, c_8, c_9, c_10, c_11, c_12, c_15, c_16, c_17, c_32, c_35, c_36, c_38, c_40, c_41, c_42, c_43, c_44, c_45, c_48, c_57, c_58, c_59, c_60, c_61, c_62, c_64, c_65, c_69, c_75, c_83, c_91, c_93, c_94, c_97, c_105, c_106, c_110, c_119, c_123, c_124, c_125, c_126, c_240, c_256, c_400, c_m, nI_m1, nM_i, lN_add, lN_mul, lN_i, nI_l, lN_eq, lgN_le, lgN_lt, lgN_ge, lgN_gt, nI_sub, nI_mul, d_0, d_1, c_13, c_14, c_18, c_19, c_20, c_21, c_22, c_23, c_24, c_25, c_26, c_27, c_28, c_29, c_30, c_31, c_33, c_34, c_37, c_39, c_46, c_47, c_49, c_50, c_51, c_52, c_53, c_54, c_55, c_56, c_63, c_66, c_67, c_68, c_70, c_71, c_72, c_73, c_74, c_76, c_77, c_78, c_79, c_80, c_81, c_82, c_84, c_85, c_86, c_87, c_88, c_89, c_90, c_92, c_95, c_96, c_98, c_99, c_100, c_101, c_102, c_103, c_104, c_107, c_108, c_109, c_111, c_112, c_113, c_114, c_115, c_116, c_117, c_118, c_120, c_121, c_122, c_127, c_280, d_2, d_3, d_4, d_8, d_9, d_10, d_15, d_16, d_32, d_48, d_62, d_63, d_64, lN_div, hz, Bool.not_false]
      exact zp_2 hv f (k + 1) M (by omega) (by omega)
theorem zp_21 {F v : Nat} (hv : v < 10 ^ 9) : ∀ (k M : Nat) (Pr : List Nat) (s : ax_σ), k < 9 → k + 1 < M → ZP Pr s → Pr.length + k + 1 ≤ 280 → ∃ s', lp_Z_printNumber_21 F (lN v) M (lN (10 ^ k)) s = some s' ∧ ZP (Pr ++ dcP k v) s' ∧ frm XP s s'
  | k, 0, Pr, s, _, hm, _, _ => absurd hm (Nat.not_lt_zero _)
  | k, M + 1, Pr, s, hk, hm, h, hl => by
    obtain ⟨p1, p2⟩ := p10 k hk
    have hle : v / 10 ^ k ≤ v := Nat.div_le_self _ _
    have hz : decide (10 ^ k = 0) = false := decide_eq_false (by omega)
    have e1 : lN (v / 10 ^ k) - lN (v / 10 ^ k / 10 * 10) = lN (v / 10 ^ k % 10) := by
      rw [lN_sub (by omega)]
      congr 1
      omega
    obtain ⟨s1, a1, a2, a3⟩ := zp_1 (c := 48 + v / 10 ^ k % 10) h (by omega)
    rw [lp_Z_printNumber_21]
    simp (disch := omega) only [ax_let, Option.bind_some, cond_true, cond_false, if_pos, if_neg, if_true, if_false, eq_self, nI_add, nI_ltI, nI_leI, nI_eq, nI_clamp, pu_in, c_0, c_1, c_2, c_3, c_4, c_5, c_6, c_7, c_8, c_9, c_10, c_11, c_12, c_15, c_16, c_17, c_32, c_35, c_36, c_38, c_40, c_41, c_42, c_43, c_44, c_45, c_48, c_57, c_58, c_59, c_60, c_61, c_62, c_64, c_65, c_69, c_75, c_83, c_91, c_93, c_94, c_97, c_105, c_106, c_110, c_119, c_123, c_124, c_125, c_126, c_240, c_256, c_400, c_m, nI_m1, nM_i, lN_add, lN_mul, lN_i, nI_l, lN_eq, lgN_le, lgN_lt, lgN_ge, lgN_gt, nI_sub, nI_mul, d_0, d_1, c_13, c_14, c_18, c_19, c_20, c_21, c_22, c_23, c_24, c_25, c_26, c_27, c_28, c_29, c_30, c_31, c_33, c_34, c_37, c_39, c_46, c_47, c_49, c_50, c_51, c_52, c_53, c_54, c_55, c_56, c_63, c_66, c_67, c_68, c_70, c_71, c_72, c_73, c_74, c_76, c_77, c_78, c_79, c_80, c_81, c_82, c_84, c_85, c_86, c_87, c_88, c_89, c_90, c_92, c_95, c_96, c_98, c_99, c_100, c_101, c_102, c_103, c_104, c_107, c_108, c_109, c_111, c_112, c_113, c_114, c_115, c_116, c_117, c_118, c_120, c_121, c_122, c_127, c_280, d_2, d_3, d_4, d_8, d_9, d_10, d_15, d_16, d_32, d_48, d_62, d_63, d_64, lN_div, hz, Bool.not_false, e1, a1]
    match k, hk, hm, p1, p2, a1, a2, hl with
    | 0, hk, hm, p1, p2, a1, a2, hl =>
      match M, hm with
      | M + 1, hm =>
        refine ⟨s1, ?_, ?_, a3⟩
        · rw [lp_Z_printNumber_21]
          simp (disch := omega) only [ax_let, Option.bind_some, cond_true, cond_false, if_pos, if_neg, if_true, if_false, eq_self, nI_add, nI_ltI, nI_leI, nI_eq, nI_clamp, pu_in, c_0, c_1, c_2, c_3, c_4, c_5, c_6, c_7, c_8, c_9, c_10, c_11, c_12, c_15, c_16, c_17, c_32, c_35, c_36, c_38, c_40, c_41, c_42, c_43, c_44, c_45, c_48, c_57, c_58, c_59, c_60, c_61, c_62, c_64, c_65, c_69, c_75, c_83, c_91, c_93, c_94, c_97, c_105, c_106, c_110, c_119, c_123, c_124, c_125, c_126, c_240, c_256, c_400, c_m, nI_m1, nM_i, lN_add, lN_mul, lN_i, nI_l, lN_eq, lgN_le, lgN_lt, lgN_ge, lgN_gt, nI_sub, nI_mul, d_0, d_1, c_13, c_14, c_18, c_19, c_20, c_21, c_22, c_23, c_24, c_25, c_26, c_27, c_28, c_29, c_30, c_31, c_33, c_34, c_37, c_39, c_46, c_47, c_49, c_50, c_51, c_52, c_53, c_54, c_55, c_56, c_63, c_66, c_67, c_68, c_70, c_71, c_72, c_73, c_74, c_76, c_77, c_78, c_79, c_80, c_81, c_82, c_84, c_85, c_86, c_87, c_88, c_89, c_90, c_92, c_95, c_96, c_98, c_99, c_100, c_101, c_102, c_103, c_104, c_107, c_108, c_109, c_111, c_112, c_113, c_114, c_115, c_116, c_117, c_118, c_120, c_121, c_122, c_127, c_280, d_2, d_3, d_4, d_8, d_9, d_10, d_15, d_16, d_32, d_48, d_62, d_63, d_64, (by decide : (10 : Nat) ^ 0 / 10 = 0)]
        · have e : v / 10 ^ 0 = v := by rw [Nat.pow_zero, Nat.div_one]
          rw [e] at a2
          exact a2
    | k + 1, hk, hm, p1, p2, a1, a2, hl =>
      obtain ⟨s2, b1, b2, b3⟩ := zp_21 (F := F) hv k M (Pr ++ [48 + v / 10 ^ (k + 1) % 10]) s1 (by omega) (by omega) a2 (by rw [List.length_append, List.length_singleton]; omega)
      have e : 10 ^ (k + 1) / 10 = 10 ^ k := by rw [Nat.pow_succ, Nat.mul_div_cancel _ (by omega)]
      refine ⟨s2, ?_, ?_, a3.trans b3⟩
      · rw [e]
        exact b1
      · rw [List.append_assoc] at b2
        exact b2
theorem zp_num {F v : Nat} {Pr : List Nat} {s : ax_σ} (hF : 241 ≤ F) (hv : v < 10 ^ 9) (h : ZP Pr s) (hl : Pr.length + (dec v).length ≤ 280) : ∃ s', f_Z_printNumber F (lN v) s = some s' ∧ ZP (Pr ++ dec v) s' ∧ frm XP s s' := by
  have hk := dcF_le v 8 0
  have a1 := zp_2 (F := F) (s := s) hv 8 0 F (by omega) (by omega)
  have a1 : lp_Z_printNumber_2 F (lN v) s F (lN 1) = some (lN (10 ^ dcF v 8 0)) := a1
  unfold dec at hl ⊢
  rw [dcP_len] at hl
  obtain ⟨s', b1, b2, b3⟩ := zp_21 (F := F) hv (dcF v 8 0) F Pr s (by omega) (by omega) h (by omega)
  refine ⟨s', ?_, b2, b3⟩
  unfold f_Z_printNumber
  simp (disch := omega) only [ax_let, Option.bind_some, cond_true, cond_false, if_pos, if_neg, if_true, if_false, eq_self, nI_add, nI_ltI, nI_leI, nI_eq, nI_clamp, pu_in, c_0, c_1, c_2, c_3, c_4, c_5, c_6, c_7, c_8, c_9, c_10, c_11, c_12, c_15, c_16, c_17, c_32, c_35, c_36, c_38, c_40, c_41, c_42, c_43, c_44, c_45, c_48, c_57, c_58, c_59, c_60, c_61, c_62, c_64, c_65, c_69, c_75, c_83, c_91, c_93, c_94, c_97, c_105, c_106, c_110, c_119, c_123, c_124, c_125, c_126, c_240, c_256, c_400, c_m, nI_m1, nM_i, lN_add, lN_mul, lN_i, nI_l, lN_eq, lgN_le, lgN_lt, lgN_ge, lgN_gt, nI_sub, nI_mul, d_0, d_1, c_13, c_14, c_18, c_19, c_20, c_21, c_22, c_23, c_24, c_25, c_26, c_27, c_28, c_29, c_30, c_31, c_33, c_34, c_37, c_39, c_46, c_47, c_49, c_50, c_51, c_52, c_53, c_54, c_55, c_56, c_63, c_66, c_67, c_68, c_70, c_71, c_72, c_73, c_74, c_76, c_77, c_78, c_79, c_80, c_81, c_82, c_84, c_85, c_86, c_87, c_88, c_89, c_90, c_92, c_95, c_96, c_98, c_99, c_100, c_101, c_102, c_103, c_104, c_107, c_108, c_109, c_111, c_112, c_113, c_114, c_115, c_116, c_117, c_118, c_120, c_121, c_122, c_127, c_280, d_2, d_3, d_4, d_8, d_9, d_10, d_15, d_16, d_32, d_48, d_62, d_63, d_64, a1, b1]
/-- a text of signs as it is printed: no zero in front of a number -/
def fmt : Bool → List Nat → List Nat
  | _, [] => []
  | w, c :: cs => if c = 48 ∧ w = false ∧ isD (cs.headD 0) = true then fmt w cs else c :: fmt (isD c) cs
theorem fmt_n {w : Bool} {c : Nat} {cs : List Nat} (h : isD c = false) : fmt w (c :: cs) = c :: fmt false cs := by
  rw [fmt, if_neg (fun e => by rw [e.1] at h; cases h), h]
theorem fmt_w {w : Bool} {cs : List Nat} (h : isD (cs.headD 0) = false) : fmt w cs = fmt false cs := by
  match cs, h with
  | [], h => rfl
  | c :: cs, h =>
    have h : isD c = false := h
    rw [fmt_n h, fmt_n h]
theorem fmt_t : ∀ (ds b : List Nat), (∀ d ∈ ds, isD d = true) → isD (b.headD 0) = false → fmt true (ds ++ b) = ds ++ fmt false b
  | [], b, _, hb => fmt_w hb
  | d :: ds, b, hd, hb => by
    have h1 := hd d (List.mem_cons_self ..)
    rw [List.cons_append, fmt, if_neg (fun e => by cases e.2.1), h1, fmt_t ds b (fun x hx => hd x (List.mem_cons_of_mem _ hx)) hb]
    rfl
/-- the digits' value -/
def dv (v : Nat) (ds : List Nat) : Nat := ds.foldl (fun v d => v * 10 + (d - 48)) v
theorem dv_lt : ∀ (ds : List Nat) (v : Nat), dv v ds = v * 10 ^ ds.length + dv 0 ds
  | [], v => by show v = v * 1 + 0; omega
  | d :: ds, v => by
    show dv (v * 10 + (d - 48)) ds = v * 10 ^ (ds.length + 1) + dv (0 * 10 + (d - 48)) ds
    rw [Nat.zero_mul, Nat.zero_add, dv_lt ds (v * 10 + (d - 48)), dv_lt ds (d - 48), Nat.add_mul, Nat.pow_succ, Nat.mul_assoc, Nat.mul_comm 10]
    omega
theorem dv_le : ∀ (ds : List Nat), (∀ d ∈ ds, isD d = true) → dv 0 ds < 10 ^ ds.length
  | [], _ => by show 0 < 1; omega
  | d :: ds, h => by
    have ih := dv_le ds (fun x hx => h x (List.mem_cons_of_mem _ hx))
    have hd := h d (List.mem_cons_self ..)
    simp only [isD, Bool.and_eq_true, Nat.ble_eq] at hd
    show dv (0 * 10 + (d - 48)) ds < 10 ^ (ds.length + 1)
    rw [dv_lt, Nat.pow_succ]
    have h9 : d - 48 ≤ 9 := by omega
    have h10 : (0 * 10 + (d - 48)) * 10 ^ ds.length ≤ 9 * 10 ^ ds.length := Nat.mul_le_mul_right _ (by omega)
    omega
/-- digits are those of their value -/
theorem dv_dcP : ∀ (k : Nat) (ds : List Nat), ds.length = k + 1 → (∀ d ∈ ds, isD d = true) → ∀ v, v % 10 ^ (k + 1) = dv 0 ds → dcP k v = ds
  | 0, ds, hl, hd, v, hv => by
    match ds, hl with
    | [d], hl =>
      have h1 := hd d (List.mem_cons_self ..)
      simp only [isD, Bool.and_eq_true, Nat.ble_eq] at h1
      have hv : v % 10 ^ 1 = 0 * 10 + (d - 48) := hv
      rw [dcP]
      congr 1
      omega
  | k + 1, ds, hl, hd, v, hv => by
    match ds, hl with
    | d :: ds, hl =>
      have hl' : ds.length = k + 1 := by rw [List.length_cons] at hl; omega
      have h1 := hd d (List.mem_cons_self ..)
      simp only [isD, Bool.and_eq_true, Nat.ble_eq] at h1
      have hd' : ∀ x ∈ ds, isD x = true := fun x hx => hd x (List.mem_cons_of_mem _ hx)
      have hlt := dv_le ds hd'
      have hv : v % 10 ^ (k + 1 + 1) = dv (0 * 10 + (d - 48)) ds := hv
      rw [dv_lt, hl'] at hv
      rw [hl'] at hlt
      rw [dcP]
      have hP : 0 < 10 ^ (k + 1) := Nat.pow_pos (by omega)
      rw [Nat.pow_succ 10 (k + 1)] at hv
      have hm : v % 10 ^ (k + 1) = dv 0 ds := by
        have := Nat.mod_mul_right_mod v (10 ^ (k + 1)) 10
        rw [← this, hv, Nat.mul_comm, Nat.mul_add_mod, Nat.mod_eq_of_lt hlt]
      have hq : v / 10 ^ (k + 1) % 10 = d - 48 := by
        rw [← Nat.mod_mul_right_div_self, hv, Nat.mul_comm, Nat.mul_add_div hP, Nat.div_eq_of_lt hlt]
        omega
      rw [hq, dv_dcP k ds hl' hd' v hm]
      congr 1
      omega
theorem dcF_eq {v K : Nat} (h1 : 10 ^ K ≤ v ∨ K = 0) (h2 : v < 10 ^ (K + 1)) : ∀ (f k : Nat), k ≤ K → K ≤ k + f → dcF v f k = K
  | 0, k, hk, hf => by rw [dcF]; omega
  | f + 1, k, hk, hf => by
    rw [dcF]
    by_cases e : k = K
    · subst e
      rw [if_pos]
      rw [Nat.pow_succ] at h2
      have h3 := (Nat.div_lt_iff_lt_mul (Nat.pow_pos (by omega) : 0 < 10 ^ k)).mpr (Nat.mul_comm (10 ^ k) 10 ▸ h2)
      omega
    · have hK : 10 ^ K ≤ v := by
        rcases h1 with h1 | h1
        · exact h1
        · omega
      rw [if_neg, dcF_eq h1 h2 f (k + 1) (by omega) (by omega)]
      have h4 : 10 ^ (k + 1) ≤ v := Nat.le_trans (Nat.pow_le_pow_right (by omega) (by omega)) hK
      have h5 : 10 ≤ v / 10 ^ k := (Nat.le_div_iff_mul_le (Nat.pow_pos (by omega))).mpr (by rw [Nat.pow_succ, Nat.mul_comm] at h4; exact h4)
      omega
theorem fmt_num : ∀ (ds b : List Nat), ds ≠ [] → ds.length ≤ 9 → (∀ d ∈ ds, isD d = true) → isD (b.headD 0) = false → fmt false (ds ++ b) = dec (dv 0 ds) ++ fmt false b
  | [], b, h, _, _, _ => absurd rfl h
  | [d], b, _, _, hd, hb => by
    have h1 := hd d (List.mem_cons_self ..)
    rw [List.cons_append, List.nil_append, fmt, if_neg (fun e => by rw [hb] at e; cases e.2.2), fmt_w hb]
    simp only [isD, Bool.and_eq_true, Nat.ble_eq] at h1
    show d :: fmt false b = dec (0 * 10 + (d - 48)) ++ fmt false b
    rw [dec, dcF_eq (K := 0) (Or.inr rfl) (by show _ < 10; omega) 8 0 (by omega) (by omega), dcP]
    show d :: fmt false b = (48 + (0 * 10 + (d - 48)) % 10) :: fmt false b
    congr 1
    omega
  | d :: d2 :: ds, b, _, hl, hd, hb => by
    have h1 := hd d (List.mem_cons_self ..)
    have hd' : ∀ x ∈ d2 :: ds, isD x = true := fun x hx => hd x (List.mem_cons_of_mem _ hx)
    have h2 := hd' d2 (List.mem_cons_self ..)
    by_cases e : d = 48
    · subst e
      rw [List.cons_append, fmt, if_pos ⟨rfl, rfl, h2⟩, fmt_num (d2 :: ds) b (by intro h; cases h) (by rw [List.length_cons] at hl; omega) hd' hb]
      rfl
    · rw [List.cons_append, fmt, if_neg (fun z => e z.1), h1, fmt_t (d2 :: ds) b hd' hb]
      have hlt := dv_le (d :: d2 :: ds) hd
      have hge : 10 ^ (d2 :: ds).length ≤ dv 0 (d :: d2 :: ds) := by
        show _ ≤ dv (0 * 10 + (d - 48)) (d2 :: ds)
        rw [dv_lt]
        simp only [isD, Bool.and_eq_true, Nat.ble_eq] at h1
        have : 1 * 10 ^ (d2 :: ds).length ≤ (0 * 10 + (d - 48)) * 10 ^ (d2 :: ds).length := Nat.mul_le_mul_right _ (by omega)
        omega
      have hl2 : (d2 :: ds).length ≤ 8 := by rw [List.length_cons] at hl; omega
      have hK : dcF (dv 0 (d :: d2 :: ds)) 8 0 = (d2 :: ds).length := dcF_eq (Or.inl hge) hlt 8 0 (by omega) (by omega)
      rw [dec, hK, dv_dcP (d2 :: ds).length (d :: d2 :: ds) rfl hd _ (Nat.mod_eq_of_lt hlt)]
      rfl
theorem fmt_len : ∀ (l : List Nat) (w : Bool), (fmt w l).length ≤ l.length
  | [], w => Nat.le_refl _
  | c :: l, w => by
    rw [fmt]
    have h1 := fmt_len l w
    have h2 := fmt_len l (isD c)
    split
    · rw [List.length_cons]; omega
    · rw [List.length_cons, List.length_cons]; omega
theorem pDig_ds : ∀ (j q v : Nat) (ts : List Tok), ∃ ds : List Nat, ts.map (·.1) = ds ++ (pDig j q v ts).2.map (·.1) ∧ (∀ d ∈ ds, isD d = true) ∧ ds.length ≤ j ∧ (pDig j q v ts).1 = dv v ds ∧ ts.length = ds.length + (pDig j q v ts).2.length
  | 0, q, v, ts => by
    rw [pDig]
    exact ⟨[], rfl, fun d hd => (by cases hd), Nat.le_refl _, rfl, (Nat.zero_add _).symm⟩
  | j + 1, q, v, [] => ⟨[], by rw [pDig_nil]; rfl, fun d hd => (by cases hd), Nat.zero_le _, by rw [pDig_nil]; rfl, by rw [pDig_nil]; rfl⟩
  | j + 1, q, v, (c, p) :: ts => by
    rw [pDig]
    by_cases h : isD c = true ∧ p = q
    · rw [if_pos h]
      obtain ⟨ds, a1, a2, a3, a4, a5⟩ := pDig_ds j (q + 1) (v * 10 + (c - 48)) ts
      refine ⟨c :: ds, ?_, fun d hd => ?_, by rw [List.length_cons]; omega, a4, by rw [List.length_cons, List.length_cons]; omega⟩
      · rw [List.map_cons, a1]; rfl
      · cases hd with
        | head => exact h.1
        | tail _ hd => exact a2 d hd
    · rw [if_neg h]
      exact ⟨[], rfl, fun d hd => (by cases hd), Nat.zero_le _, rfl, by rw [List.length_nil, Nat.zero_add]⟩
theorem pNum_ds {ts r : List Tok} {v p : Nat} (h : pNum ts = some (v, p, r)) : ∃ ds : List Nat, ts.map (·.1) = ds ++ r.map (·.1) ∧ (∀ d ∈ ds, isD d = true) ∧ ds ≠ [] ∧ ds.length ≤ 9 ∧ v = dv 0 ds ∧ ts.length = ds.length + r.length := by
  match ts, h with
  | (c, q) :: ts, h =>
    rw [pNum] at h
    by_cases hc : isD c = true
    · rw [if_pos hc] at h
      injection h with h
      injection h with h1 h2
      injection h2 with h2 h3
      obtain ⟨ds, a1, a2, a3, a4, a5⟩ := pDig_ds 8 (q + 1) (c - 48) ts
      rw [h3] at a1 a5
      rw [h1] at a4
      refine ⟨c :: ds, by rw [List.map_cons, a1]; rfl, fun d hd => ?_, fun e => (by cases e), by rw [List.length_cons]; omega, ?_, by rw [List.length_cons, List.length_cons]; omega⟩
      · cases hd with
        | head => exact hc
        | tail _ hd => exact a2 d hd
      · rw [a4]
        show dv (c - 48) ds = dv (0 * 10 + (c - 48)) ds
        congr 1
        omega
    · rw [if_neg hc] at h; cases h
theorem sg_map (ts : List Tok) : (ts.map (·.1)).headD 0 = sg ts := by
  match ts with
  | [] => rfl
  | (c, p) :: ts => rfl
/-- what a number prints, and how long that is -/
theorem fmt_pn {ts r : List Tok} {v p : Nat} (h : pNum ts = some (v, p, r)) : (isD (sg r) = false → fmt false (ts.map (·.1)) = dec v ++ fmt false (r.map (·.1))) ∧ (dec v).length + r.length ≤ ts.length ∧ v < 10 ^ 9 := by
  obtain ⟨ds, a1, a2, a3, a4, a5, a6⟩ := pNum_ds h
  refine ⟨fun hr => ?_, ?_, ?_⟩
  · rw [a1, a5]
    exact fmt_num ds _ a3 a4 a2 (by rw [sg_map]; exact hr)
  · have h1 := fmt_num ds [] a3 a4 a2 rfl
    have h2 := fmt_len (ds ++ []) false
    rw [h1, fmt, List.append_nil, List.append_nil, ← a5] at h2
    omega
  · rw [a5]
    exact Nat.lt_of_lt_of_le (dv_le ds a2) (Nat.pow_le_pow_right (by omega) a4)
