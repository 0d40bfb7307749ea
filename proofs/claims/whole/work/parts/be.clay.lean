/-! PURE: the class lays out what is done -/
def cdQ (e : Q5) : Nat := (e.2.1 * 16 + e.2.2.1) * 16 + e.2.2.2.1
def XOr (g g' r k : Nat) : Prop := g' = g ∧ (r = 20 ∨ r = 21)
/-- from this line on, with i and j, the codes Rm are laid out, in at most K turns -/
def CLc (F g : Nat) (LsF : List Ln) (line i j : Nat) (Rm : List Nat) (K : Nat) : Prop := ∀ (s : ax_σ) (d n M : Nat), RL g LsF s → s.1 g 21 0 = nI i → s.1 g 21 1 = nI j → d + Rm.length ≤ 400 → n + K ≤ 9000 → K < M → ∃ s', lp_P_layOut_20 F g M (nI line) (nI d) (nI n) s = some s' ∧ (∀ p c, Rm[p]? = some c → s'.1 g 20 (d + p) = nI c) ∧ (∀ p, p < d → s'.1 g 20 p = s.1 g 20 p) ∧ frm (XOr g) s s'
section
variable {F g : Nat} {LsF : List Ln} {line i j K : Nat} {Rm : List Nat}
theorem cl_stop {s : ax_σ} {d n M : Nat} (hM : 0 < M) (hl : line ≤ 120) (hR : RL g LsF s) (hn : n ≤ 9000) (hd : d = 400) : lp_P_layOut_20 F g M (nI line) (nI d) (nI n) s = some s := by
  obtain ⟨M', rfl⟩ : ∃ M', M = M' + 1 := ⟨M - 1, by omega⟩
  have h13 := hR.2.1
  have hl2 := hR.1
  rw [lp_P_layOut_20, show (10000 : Int32) = nI 10000 from rfl, if_neg (by rw [nI_leI (by omega) (by omega)]; omega), h13]
  by_cases h : LsF.length ≤ line
  · simp (disch := omega) only [ax_let, Option.bind_some, cond_true, cond_false, if_pos, if_neg, if_true, if_false, eq_self, nI_add, nI_ltI, nI_leI, nI_eq, nI_clamp, pu_in, c_0, c_1, c_2, c_3, c_4, c_5, c_6, c_7, c_8, c_9, c_10, c_11, c_12, c_15, c_16, c_17, c_32, c_35, c_36, c_38, c_40, c_41, c_42, c_43, c_44, c_45, c_48, c_57, c_58, c_59, c_60, c_61, c_62, c_64, c_65, c_69, c_75, c_83, c_91, c_93, c_94, c_97, c_105, c_106, c_110, c_119, c_123, c_124, c_125, c_126, c_240, c_256, c_400, c_m, nI_m1, nM_i, lN_add, lN_mul, lN_i, nI_l, lN_eq, lgN_le, lgN_lt, lgN_ge, lgN_gt, nI_sub, nI_mul, d_0, d_1, c_13, c_14, c_18, c_19, c_20, c_21, c_22, c_23, c_24, c_25, c_26, c_27, c_28, c_29, c_30, c_31, c_33, c_34, c_37, c_39, c_46, c_47, c_49, c_50, c_51, c_52, c_53, c_54, c_55, c_56, c_63, c_66, c_67, c_68, c_70, c_71, c_72, c_73, c_74, c_76, c_77, c_78, c_79, c_80, c_81, c_82, c_84, c_85, c_86, c_87, c_88, c_89, c_90, c_92, c_95, c_96, c_98, c_99, c_100, c_101, c_102, c_103, c_104, c_107, c_108, c_109, c_111, c_112, c_113, c_114, c_115, c_116, c_117, c_118, c_120, c_121, c_122, c_127, c_280, d_2, d_3, d_4, d_8, d_9, d_10, d_15, d_16, d_32, d_48, d_62, d_63, d_64]
  · simp (disch := omega) only [ax_let, Option.bind_some, cond_true, cond_false, if_pos, if_neg, if_true, if_false, eq_self, nI_add, nI_ltI, nI_leI, nI_eq, nI_clamp, pu_in, c_0, c_1, c_2, c_3, c_4, c_5, c_6, c_7, c_8, c_9, c_10, c_11, c_12, c_15, c_16, c_17, c_32, c_35, c_36, c_38, c_40, c_41, c_42, c_43, c_44, c_45, c_48, c_57, c_58, c_59, c_60, c_61, c_62, c_64, c_65, c_69, c_75, c_83, c_91, c_93, c_94, c_97, c_105, c_106, c_110, c_119, c_123, c_124, c_125, c_126, c_240, c_256, c_400, c_m, nI_m1, nM_i, lN_add, lN_mul, lN_i, nI_l, lN_eq, lgN_le, lgN_lt, lgN_ge, lgN_gt, nI_sub, nI_mul, d_0, d_1, c_13, c_14, c_18, c_19, c_20, c_21, c_22, c_23, c_24, c_25, c_26, c_27, c_28, c_29, c_30, c_31, c_33, c_34, c_37, c_39, c_46, c_47, c_49, c_50, c_51, c_52, c_53, c_54, c_55, c_56, c_63, c_66, c_67, c_68, c_70, c_71, c_72, c_73, c_74, c_76, c_77, c_78, c_79, c_80, c_81, c_82, c_84, c_85, c_86, c_87, c_88, c_89, c_90, c_92, c_95, c_96, c_98, c_99, c_100, c_101, c_102, c_103, c_104, c_107, c_108, c_109, c_111, c_112, c_113, c_114, c_115, c_116, c_117, c_118, c_120, c_121, c_122, c_127, c_280, d_2, d_3, d_4, d_8, d_9, d_10, d_15, d_16, d_32, d_48, d_62, d_63, d_64]
theorem cl_end (h : LsF.length ≤ line) (hl : line ≤ 120) : CLc F g LsF line i j [] 0 := by
  intro s d n M hR _ _ hd hn hM
  obtain ⟨M', rfl⟩ : ∃ M', M = M' + 1 := ⟨M - 1, by omega⟩
  have h13 := hR.2.1
  have hl2 := hR.1
  refine ⟨s, ?_, fun p c hp => absurd hp (by simp), fun p _ => rfl, frm.refl⟩
  rw [lp_P_layOut_20, show (10000 : Int32) = nI 10000 from rfl, if_neg (by rw [nI_leI (by omega) (by omega)]; omega), h13]
  simp (disch := omega) only [ax_let, Option.bind_some, cond_true, cond_false, if_pos, if_neg, if_true, if_false, eq_self, nI_add, nI_ltI, nI_leI, nI_eq, nI_clamp, pu_in, c_0, c_1, c_2, c_3, c_4, c_5, c_6, c_7, c_8, c_9, c_10, c_11, c_12, c_15, c_16, c_17, c_32, c_35, c_36, c_38, c_40, c_41, c_42, c_43, c_44, c_45, c_48, c_57, c_58, c_59, c_60, c_61, c_62, c_64, c_65, c_69, c_75, c_83, c_91, c_93, c_94, c_97, c_105, c_106, c_110, c_119, c_123, c_124, c_125, c_126, c_240, c_256, c_400, c_m, nI_m1, nM_i, lN_add, lN_mul, lN_i, nI_l, lN_eq, lgN_le, lgN_lt, lgN_ge, lgN_gt, nI_sub, nI_mul, d_0, d_1, c_13, c_14, c_18, c_19, c_20, c_21, c_22, c_23, c_24, c_25, c_26, c_27, c_28, c_29, c_30, c_31, c_33, c_34, c_37, c_39, c_46, c_47, c_49, c_50, c_51, c_52, c_53, c_54, c_55, c_56, c_63, c_66, c_67, c_68, c_70, c_71, c_72, c_73, c_74, c_76, c_77, c_78, c_79, c_80, c_81, c_82, c_84, c_85, c_86, c_87, c_88, c_89, c_90, c_92, c_95, c_96, c_98, c_99, c_100, c_101, c_102, c_103, c_104, c_107, c_108, c_109, c_111, c_112, c_113, c_114, c_115, c_116, c_117, c_118, c_120, c_121, c_122, c_127, c_280, d_2, d_3, d_4, d_8, d_9, d_10, d_15, d_16, d_32, d_48, d_62, d_63, d_64]
theorem cl_leaf {x : Ln} (hx : LsF[line]? = some x) (h1 : x.1 < 128) (h91 : x.1 ≠ 91) (h93 : x.1 ≠ 93) (hi : i < 16) (hj : j < 16) (h : CLc F g LsF (line + 1) i j Rm K) : CLc F g LsF line i j (((line * 16 + i) * 16 + j) :: Rm) (K + 1) := by
  intro s d n M hR t0 t1 hd hn hM
  obtain ⟨M', rfl⟩ : ∃ M', M = M' + 1 := ⟨M - 1, by omega⟩
  rw [List.length_cons] at hd
  have h13 := hR.2.1
  have hl2 := hR.1
  have hll := get_lt hx
  obtain ⟨x1, -⟩ := hR.2.2 line x hx
  have f1 : frm (XOr g) s (ax_wI s g 20 d (nI ((line * 16 + i) * 16 + j))) := frm.refl.wI _ _ _ _ ⟨rfl, Or.inl rfl⟩
  obtain ⟨s', a1, a2, a3, a4⟩ := h (ax_wI s g 20 d (nI ((line * 16 + i) * 16 + j))) (d + 1) (n + 1) M' (hR.keep f1 (fun g' r k hx => by unfold XN at hx; unfold XOr; omega)) (by simp (disch := omega) only [wI_1, wI_2, wL_1, wL_2, true_and, and_true, and_self, false_and, and_false, if_true, if_false, if_pos, if_neg]; exact t0) (by simp (disch := omega) only [wI_1, wI_2, wL_1, wL_2, true_and, and_true, and_self, false_and, and_false, if_true, if_false, if_pos, if_neg]; exact t1) (by omega) (by omega) (by omega)
  refine ⟨s', ?_, fun p c hp => ?_, fun p hp => ?_, f1.trans a4⟩
  · rw [← a1, lp_P_layOut_20, show (10000 : Int32) = nI 10000 from rfl, if_neg (by rw [nI_leI (by omega) (by omega)]; omega), h13]
    simp (disch := omega) only [ax_let, Option.bind_some, cond_true, cond_false, if_pos, if_neg, if_true, if_false, eq_self, nI_add, nI_ltI, nI_leI, nI_eq, nI_clamp, pu_in, c_0, c_1, c_2, c_3, c_4, c_5, c_6, c_7, c_8, c_9, c_10, c_11, c_12, c_15, c_16, c_17, c_32, c_35, c_36, c_38, c_40, c_41, c_42, c_43, c_44, c_45, c_48, c_57, c_58, c_59, c_60, c_61, c_62, c_64, c_65, c_69, c_75, c_83, c_91, c_93, c_94, c_97, c_105, c_106, c_110, c_119, c_123, c_124, c_125, c_126, c_240, c_256, c_400, c_m, nI_m1, nM_i, lN_add, lN_mul, lN_i, nI_l, lN_eq, lgN_le, lgN_lt, lgN_ge, lgN_gt, nI_sub, nI_mul, d_0, d_1, c_13, c_14, c_18, c_19, c_20, c_21, c_22, c_23, c_24, c_25, c_26, c_27, c_28, c_29, c_30, c_31, c_33, c_34, c_37, c_39, c_46, c_47, c_49, c_50, c_51, c_52, c_53, c_54, c_55, c_56, c_63, c_66, c_67, c_68, c_70, c_71, c_72, c_73, c_74, c_76, c_77, c_78, c_79, c_80, c_81, c_82, c_84, c_85, c_86, c_87, c_88, c_89, c_90, c_92, c_95, c_96, c_98, c_99, c_100, c_101, c_102, c_103, c_104, c_107, c_108, c_109, c_111, c_112, c_113, c_114, c_115, c_116, c_117, c_118, c_120, c_121, c_122, c_127, c_280, d_2, d_3, d_4, d_8, d_9, d_10, d_15, d_16, d_32, d_48, d_62, d_63, d_64, x1, t0, t1]
  · match p, hp with
    | 0, hp =>
      cases hp
      rw [Nat.add_zero, a3 d (by omega), wI_1, if_pos ⟨rfl, rfl, rfl⟩]
    | p + 1, hp =>
      rw [show d + (p + 1) = d + 1 + p from by omega]
      exact a2 p c hp
  · rw [a3 p (by omega), wI_1, if_neg (by omega)]
theorem cl_open {x a f e w : Nat} (hx : LsF[line]? = some (91, x, a, f, e, w)) (x2 : x < 2) (h : CLc F g LsF (line + 1) (rA x 0 i) (rB x 0 j) Rm K) : CLc F g LsF line i j Rm (K + 1) := by
  intro s d n M hR t0 t1 hd hn hM
  have hl2 := hR.1
  have hll := get_lt hx
  by_cases h400 : d = 400
  · have : Rm = [] := List.eq_nil_of_length_eq_zero (by omega)
    subst this
    exact ⟨s, cl_stop (by omega) (by omega) hR (by omega) h400, fun p c hp => absurd hp (by simp), fun p _ => rfl, frm.refl⟩
  obtain ⟨M', rfl⟩ : ∃ M', M = M' + 1 := ⟨M - 1, by omega⟩
  have h13 := hR.2.1
  obtain ⟨x1, y2, -⟩ := hR.2.2 line _ hx
  simp only at x1 y2
  have f1 : frm (XOr g) s (ax_wI s g 21 x (nI 0)) := frm.refl.wI _ _ _ _ ⟨rfl, Or.inr rfl⟩
  obtain ⟨s', a1, a2, a3, a4⟩ := h (ax_wI s g 21 x (nI 0)) d (n + 1) M' (hR.keep f1 (fun g' r k hx => by unfold XN at hx; unfold XOr; omega)) (by
    unfold rA
    rcases (show x = 0 ∨ x = 1 by omega) with rfl | rfl
    · simp (disch := omega) only [wI_1, wI_2, wL_1, wL_2, true_and, and_true, and_self, false_and, and_false, if_true, if_false, if_pos, if_neg]
    · simp (disch := omega) only [wI_1, wI_2, wL_1, wL_2, true_and, and_true, and_self, false_and, and_false, if_true, if_false, if_pos, if_neg]; exact t0) (by
    unfold rB
    rcases (show x = 0 ∨ x = 1 by omega) with rfl | rfl
    · simp (disch := omega) only [wI_1, wI_2, wL_1, wL_2, true_and, and_true, and_self, false_and, and_false, if_true, if_false, if_pos, if_neg]; exact t1
    · simp (disch := omega) only [wI_1, wI_2, wL_1, wL_2, true_and, and_true, and_self, false_and, and_false, if_true, if_false, if_pos, if_neg]) hd (by omega) (by omega)
  refine ⟨s', ?_, a2, fun p hp => ?_, f1.trans a4⟩
  · rw [← a1, lp_P_layOut_20, show (10000 : Int32) = nI 10000 from rfl, if_neg (by rw [nI_leI (by omega) (by omega)]; omega), h13]
    simp (disch := omega) only [ax_let, Option.bind_some, cond_true, cond_false, if_pos, if_neg, if_true, if_false, eq_self, nI_add, nI_ltI, nI_leI, nI_eq, nI_clamp, pu_in, c_0, c_1, c_2, c_3, c_4, c_5, c_6, c_7, c_8, c_9, c_10, c_11, c_12, c_15, c_16, c_17, c_32, c_35, c_36, c_38, c_40, c_41, c_42, c_43, c_44, c_45, c_48, c_57, c_58, c_59, c_60, c_61, c_62, c_64, c_65, c_69, c_75, c_83, c_91, c_93, c_94, c_97, c_105, c_106, c_110, c_119, c_123, c_124, c_125, c_126, c_240, c_256, c_400, c_m, nI_m1, nM_i, lN_add, lN_mul, lN_i, nI_l, lN_eq, lgN_le, lgN_lt, lgN_ge, lgN_gt, nI_sub, nI_mul, d_0, d_1, c_13, c_14, c_18, c_19, c_20, c_21, c_22, c_23, c_24, c_25, c_26, c_27, c_28, c_29, c_30, c_31, c_33, c_34, c_37, c_39, c_46, c_47, c_49, c_50, c_51, c_52, c_53, c_54, c_55, c_56, c_63, c_66, c_67, c_68, c_70, c_71, c_72, c_73, c_74, c_76, c_77, c_78, c_79, c_80, c_81, c_82, c_84, c_85, c_86, c_87, c_88, c_89, c_90, c_92, c_95, c_96, c_98, c_99, c_100, c_101, c_102, c_103, c_104, c_107, c_108, c_109, c_111, c_112, c_113, c_114, c_115, c_116, c_117, c_118, c_120, c_121, c_122, c_127, c_280, d_2, d_3, d_4, d_8, d_9, d_10, d_15, d_16, d_32, d_48, d_62, d_63, d_64, x1, y2]
  · rw [a3 p hp, wI_1, if_neg (by omega)]
theorem cl_close {x q l0 a f e w f' e' w' : Nat} (hx : LsF[line]? = some (93, x, l0, f, e, w)) (h0 : LsF[l0]? = some (91, x, a, f', e', w')) (x2 : x < 2) (ha : a ≤ 16) (hq : q < 16) (hij : (if x = 0 then i else j) = q) (h : CLc F g LsF (if q + 1 < a then l0 + 1 else line + 1) (rA x (if q + 1 < a then q + 1 else 0) i) (rB x (if q + 1 < a then q + 1 else 0) j) Rm K) : CLc F g LsF line i j Rm (K + 1) := by
  intro s d n M hR t0 t1 hd hn hM
  have hl2 := hR.1
  have hll := get_lt hx
  have hl0 := get_lt h0
  by_cases h400 : d = 400
  · have : Rm = [] := List.eq_nil_of_length_eq_zero (by omega)
    subst this
    exact ⟨s, cl_stop (by omega) (by omega) hR (by omega) h400, fun p c hp => absurd hp (by simp), fun p _ => rfl, frm.refl⟩
  obtain ⟨M', rfl⟩ : ∃ M', M = M' + 1 := ⟨M - 1, by omega⟩
  have h13 := hR.2.1
  obtain ⟨x1, y2, y3, -⟩ := hR.2.2 line _ hx
  obtain ⟨-, -, z3, -⟩ := hR.2.2 l0 _ h0
  simp only at x1 y2 y3 z3
  have t21 : s.1 g 21 x = nI q := by
    rcases (show x = 0 ∨ x = 1 by omega) with rfl | rfl
    · rw [if_pos rfl] at hij; rw [← hij]; exact t0
    · rw [if_neg (by omega)] at hij; rw [← hij]; exact t1
  by_cases hc : q + 1 < a
  · rw [if_pos hc, if_pos hc] at h
    have f1 : frm (XOr g) s (ax_wI s g 21 x (nI (q + 1))) := frm.refl.wI _ _ _ _ ⟨rfl, Or.inr rfl⟩
    obtain ⟨s', a1, a2, a3, a4⟩ := h (ax_wI s g 21 x (nI (q + 1))) d (n + 1) M' (hR.keep f1 (fun g' r k hx => by unfold XN at hx; unfold XOr; omega)) (by
      unfold rA
      rcases (show x = 0 ∨ x = 1 by omega) with rfl | rfl
      · simp (disch := omega) only [wI_1, wI_2, wL_1, wL_2, true_and, and_true, and_self, false_and, and_false, if_true, if_false, if_pos, if_neg]
      · simp (disch := omega) only [wI_1, wI_2, wL_1, wL_2, true_and, and_true, and_self, false_and, and_false, if_true, if_false, if_pos, if_neg]; exact t0) (by
      unfold rB
      rcases (show x = 0 ∨ x = 1 by omega) with rfl | rfl
      · simp (disch := omega) only [wI_1, wI_2, wL_1, wL_2, true_and, and_true, and_self, false_and, and_false, if_true, if_false, if_pos, if_neg]; exact t1
      · simp (disch := omega) only [wI_1, wI_2, wL_1, wL_2, true_and, and_true, and_self, false_and, and_false, if_true, if_false, if_pos, if_neg]) hd (by omega) (by omega)
    refine ⟨s', ?_, a2, fun p hp => ?_, f1.trans a4⟩
    · rw [← a1, lp_P_layOut_20, show (10000 : Int32) = nI 10000 from rfl, if_neg (by rw [nI_leI (by omega) (by omega)]; omega), h13]
      simp (disch := omega) only [ax_let, Option.bind_some, cond_true, cond_false, if_pos, if_neg, if_true, if_false, eq_self, nI_add, nI_ltI, nI_leI, nI_eq, nI_clamp, pu_in, c_0, c_1, c_2, c_3, c_4, c_5, c_6, c_7, c_8, c_9, c_10, c_11, c_12, c_15, c_16, c_17, c_32, c_35, c_36, c_38, c_40, c_41, c_42, c_43, c_44, c_45, c_48, c_57, c_58, c_59, c_60, c_61, c_62, c_64, c_65, c_69, c_75, c_83, c_91, c_93, c_94, c_97, c_105, c_106, c_110, c_119, c_123, c_124, c_125, c_126, c_240, c_256, c_400, c_m, nI_m1, nM_i, lN_add, lN_mul, lN_i, nI_l, lN_eq, lgN_le, lgN_lt, lgN_ge, lgN_gt, nI_sub, nI_mul, d_0, d_1, c_13, c_14, c_18, c_19, c_20, c_21, c_22, c_23, c_24, c_25, c_26, c_27, c_28, c_29, c_30, c_31, c_33, c_34, c_37, c_39, c_46, c_47, c_49, c_50, c_51, c_52, c_53, c_54, c_55, c_56, c_63, c_66, c_67, c_68, c_70, c_71, c_72, c_73, c_74, c_76, c_77, c_78, c_79, c_80, c_81, c_82, c_84, c_85, c_86, c_87, c_88, c_89, c_90, c_92, c_95, c_96, c_98, c_99, c_100, c_101, c_102, c_103, c_104, c_107, c_108, c_109, c_111, c_112, c_113, c_114, c_115, c_116, c_117, c_118, c_120, c_121, c_122, c_127, c_280, d_2, d_3, d_4, d_8, d_9, d_10, d_15, d_16, d_32, d_48, d_62, d_63, d_64, wI_1, wI_2, wL_1, wL_2, true_and, and_true, and_self, false_and, and_false, if_true, if_false, x1, y2, y3, z3, t21]
    · rw [a3 p hp, wI_1, if_neg (by omega)]
  · rw [if_neg hc, if_neg hc] at h
    have f1 : frm (XOr g) s (ax_wI (ax_wI s g 21 x (nI (q + 1))) g 21 x (nI 0)) := (frm.refl.wI _ _ _ _ ⟨rfl, Or.inr rfl⟩).wI _ _ _ _ ⟨rfl, Or.inr rfl⟩
    obtain ⟨s', a1, a2, a3, a4⟩ := h (ax_wI (ax_wI s g 21 x (nI (q + 1))) g 21 x (nI 0)) d (n + 1) M' (hR.keep f1 (fun g' r k hx => by unfold XN at hx; unfold XOr; omega)) (by
      unfold rA
      rcases (show x = 0 ∨ x = 1 by omega) with rfl | rfl
      · simp (disch := omega) only [wI_1, wI_2, wL_1, wL_2, true_and, and_true, and_self, false_and, and_false, if_true, if_false, if_pos, if_neg]
      · simp (disch := omega) only [wI_1, wI_2, wL_1, wL_2, true_and, and_true, and_self, false_and, and_false, if_true, if_false, if_pos, if_neg]; exact t0) (by
      unfold rB
      rcases (show x = 0 ∨ x = 1 by omega) with rfl | rfl
      · simp (disch := omega) only [wI_1, wI_2, wL_1, wL_2, true_and, and_true, and_self, false_and, and_false, if_true, if_false, if_pos, if_neg]; exact t1
      · simp (disch := omega) only [wI_1, wI_2, wL_1, wL_2, true_and, and_true, and_self, false_and, and_false, if_true, if_false, if_pos, if_neg]) hd (by omega) (by omega)
    refine ⟨s', ?_, a2, fun p hp => ?_, f1.trans a4⟩
    · rw [← a1, lp_P_layOut_20, show (10000 : Int32) = nI 10000 from rfl, if_neg (by rw [nI_leI (by omega) (by omega)]; omega), h13]
      simp (disch := omega) only [ax_let, Option.bind_some, cond_true, cond_false, if_pos, if_neg, if_true, if_false, eq_self, nI_add, nI_ltI, nI_leI, nI_eq, nI_clamp, pu_in, c_0, c_1, c_2, c_3, c_4, c_5, c_6, c_7, c_8, c_9, c_10, c_11, c_12, c_15, c_16, c_17, c_32, c_35, c_36, c_38, c_40, c_41, c_42, c_43, c_44, c_45, c_48, c_57, c_58, c_59, c_60, c_61, c_62, c_64, c_65, c_69, c_75, c_83, c_91, c_93, c_94, c_97, c_105, c_106, c_110, c_119, c_123, c_124, c_125, c_126, c_240, c_256, c_400, c_m, nI_m1, nM_i, lN_add, lN_mul, lN_i, nI_l, lN_eq, lgN_le, lgN_lt, lgN_ge, lgN_gt, nI_sub, nI_mul, d_0, d_1, c_13, c_14, c_18, c_19, c_20, c_21, c_22, c_23, c_24, c_25, c_26, c_27, c_28, c_29, c_30, c_31, c_33, c_34, c_37, c_39, c_46, c_47, c_49, c_50, c_51, c_52, c_53, c_54, c_55, c_56, c_63, c_66, c_67, c_68, c_70, c_71, c_72, c_73, c_74, c_76, c_77, c_78, c_79, c_80, c_81, c_82, c_84, c_85, c_86, c_87, c_88, c_89, c_90, c_92, c_95, c_96, c_98, c_99, c_100, c_101, c_102, c_103, c_104, c_107, c_108, c_109, c_111, c_112, c_113, c_114, c_115, c_116, c_117, c_118, c_120, c_121, c_122, c_127, c_280, d_2, d_3, d_4, d_8, d_9, d_10, d_15, d_16, d_32, d_48, d_62, d_63, d_64, wI_1, wI_2, wL_1, wL_2, true_and, and_true, and_self, false_and, and_false, if_true, if_false, x1, y2, y3, z3, t21]
    · rw [a3 p hp, wI_1, if_neg (by omega), wI_1, if_neg (by omega)]
end
/-- how many turns the class's loop takes -/
def stp (l : List Th) : Nat := (dF (β := Nat × Nat) (0, 0) (fun _ r => (1 + r.1, 1 + r.2)) (fun o m r => ((if m.2 = 0 then 0 else 1 + tn o * (m.1 + 1)) + r.1, (if m.2 = 0 then 0 else m.2 + 2) + r.2)) l).1
section
variable {lim lim' : Nat} {t o c : Th} {b r l : List Th}
theorem stp_2 (h : lv lim 0 l = some 0) : (dF (β := Nat × Nat) (0, 0) (fun _ r => (1 + r.1, 1 + r.2)) (fun o m r => ((if m.2 = 0 then 0 else 1 + tn o * (m.1 + 1)) + r.1, (if m.2 = 0 then 0 else m.2 + 2) + r.2)) l).2 = nl l := by
  refine dyck (P := fun _ l => (dF (β := Nat × Nat) (0, 0) (fun _ r => (1 + r.1, 1 + r.2)) (fun o m r => ((if m.2 = 0 then 0 else 1 + tn o * (m.1 + 1)) + r.1, (if m.2 = 0 then 0 else m.2 + 2) + r.2)) l).2 = nl l) h (fun _ => rfl) ?_ ?_
  · intro lim t r e2 e3 hr ih
    rw [dF_leaf (β := Nat × Nat) _ _ _ e2 e3 hr, nl_leaf e2 e3 hr, ← ih]
    exact Nat.add_comm _ _
  · intro lim o b c r e2 e3 hm hr i1 i2
    rw [dF_loop (β := Nat × Nat) _ _ _ e2 e3 hm hr, nl_loop e2 e3 hm hr]
    unfold nlL
    rw [← i1, ← i2]
theorem stp_leaf (e2 : thk t ≠ 2) (e3 : thk t ≠ 3) (hr : lv lim 0 r = some 0) : stp (t :: r) = 1 + stp r := by
  unfold stp
  rw [dF_leaf (β := Nat × Nat) _ _ _ e2 e3 hr]
theorem stp_loop (e2 : thk o = 2) (e3 : thk c = 3) (hm : lv lim 0 b = some 0) (hr : lv lim' 0 r = some 0) : stp (o :: (b ++ c :: r)) = (if nl b = 0 then 0 else 1 + tn o * (stp b + 1)) + stp r := by
  have h := stp_2 hm
  unfold stp
  rw [dF_loop (β := Nat × Nat) _ _ _ e2 e3 hm hr, ← h]
def w1 (_ : Th) : Nat := 1
theorem nl_wt (h : lv lim 0 l = some 0) : ∀ L, GL l L → (nl l = 0 → ∀ kb lb L i j, TR l kb lb L i j = []) ∧ (0 < nl l → 0 < wt w1 l) := by
  refine dyck (P := fun _ l => ∀ L, GL l L → (nl l = 0 → ∀ kb lb L i j, TR l kb lb L i j = []) ∧ (0 < nl l → 0 < wt w1 l)) h (fun _ _ _ => ⟨fun _ _ _ _ _ _ => rfl, fun h => absurd h (Nat.lt_irrefl _)⟩) ?_ ?_
  · intro lim t r e2 e3 hr ih L hG
    rw [nl_leaf e2 e3 hr, wt_leaf e2 e3 hr]
    exact ⟨fun h => by omega, fun _ => by show 0 < 1 + _; omega⟩
  · intro lim o b c r e2 e3 hm hr i1 i2 L hG
    rw [GL_loop e2 e3 hm hr] at hG
    rw [nl_loop e2 e3 hm hr, wt_loop e2 e3 hm hr]
    obtain ⟨a1, a2⟩ := i1 _ hG.2.1
    obtain ⟨b1, b2⟩ := i2 _ hG.2.2
    have htn : tn o = thv o := by unfold tn; omega
    unfold nlL
    by_cases hb : nl b = 0
    · rw [if_pos hb, Nat.zero_add]
      refine ⟨fun h kb lb L i j => ?_, fun h => by have := b2 h; omega⟩
      rw [TR_loop e2 e3 hm hr, b1 h, List.append_nil]
      have hz : ∀ d q, TQ o b kb lb L i j q d = [] := by
        intro d
        induction d with
        | zero => intro q; rfl
        | succ d ih => intro q; rw [TQ_s, a1 hb, ih]; rfl
      exact hz _ _
    · rw [if_neg hb]
      refine ⟨fun h => by omega, fun _ => ?_⟩
      have := a2 (by omega)
      have h2 : 1 * 1 ≤ tn o * wt w1 b := Nat.mul_le_mul (by omega) (by omega)
      omega
theorem stp_le (h : lv lim 0 l = some 0) : ∀ L, GL l L → stp l ≤ (1 + 2 * lim) * wt w1 l := by
  refine dyck (P := fun lim l => ∀ L, GL l L → stp l ≤ (1 + 2 * lim) * wt w1 l) h (fun _ _ _ => Nat.zero_le _) ?_ ?_
  · intro lim t r e2 e3 hr ih L hG
    rw [GL_leaf e2 e3 hr] at hG
    have := ih L hG
    rw [stp_leaf e2 e3 hr, wt_leaf e2 e3 hr, Nat.mul_add]
    have : (1 + 2 * lim) * 1 ≤ (1 + 2 * lim) * w1 t := Nat.le_refl _
    omega
  · intro lim o b c r e2 e3 hm hr i1 i2 L hG
    rw [GL_loop e2 e3 hm hr] at hG
    have h1 := i1 _ hG.2.1
    have h2 := i2 _ hG.2.2
    have htn : tn o = thv o := by unfold tn; omega
    rw [stp_loop e2 e3 hm hr, wt_loop e2 e3 hm hr, Nat.mul_add (1 + 2 * (lim + 1))]
    by_cases hb : nl b = 0
    · rw [if_pos hb]; omega
    · rw [if_neg hb]
      have hw := (nl_wt hm _ hG.2.1).2 (by omega)
      have e1 : tn o * (stp b + 1) ≤ tn o * ((1 + 2 * lim) * wt w1 b + 1) := Nat.mul_le_mul_left _ (by omega)
      have e2' : tn o * ((1 + 2 * lim) * wt w1 b + 1) = (1 + 2 * lim) * (tn o * wt w1 b) + tn o := by
        rw [Nat.mul_add, Nat.mul_one, Nat.mul_left_comm]
      have e3' : tn o * 1 ≤ tn o * wt w1 b := Nat.mul_le_mul_left _ hw
      have e4 : (1 + 2 * (lim + 1)) * (tn o * wt w1 b) = (1 + 2 * lim) * (tn o * wt w1 b) + 2 * (tn o * wt w1 b) := by
        rw [show 1 + 2 * (lim + 1) = (1 + 2 * lim) + 2 from by omega, Nat.add_mul]
      omega
end
