/-! PURE: the standard form, as the class puts it -/
def FP (g : Nat) (Pr : List Nat) (s : ax_σ) : Prop := s.1 g 0 8 = nI Pr.length ∧ ∀ (p c : Nat), Pr[p]? = some c → s.1 g 22 p = nI c
def XFm (g g' r k : Nat) : Prop := g' = g ∧ (r = 22 ∨ (r = 0 ∧ k = 8))
section
variable {F g : Nat} {Pr : List Nat} {s : ax_σ}
theorem rd_put {c : Nat} (hc : c < 128) (h : FP g Pr s) (hl : Pr.length < 264) : ∃ s', f_R_put g (nI c) s = some s' ∧ FP g (Pr ++ [c]) s' ∧ frm (XFm g) s s' := by
  have hnar := nar_c c hc
  have h8 := h.1
  refine ⟨ax_wI (ax_wI s g 0 8 (nI (Pr.length + 1))) g 22 Pr.length (nI c), ?_, ⟨by simp (disch := omega) only [wI_1, wI_2, wL_1, wL_2, true_and, and_true, and_self, false_and, and_false, if_true, if_false, if_pos, if_neg, List.length_append, List.length_singleton], fun p d hp => ?_⟩, (frm.refl.wI _ _ _ _ (by unfold XFm; omega)).wI _ _ _ _ (by unfold XFm; omega)⟩
  · unfold f_R_put
    simp (disch := omega) only [ax_let, Option.bind_some, cond_true, cond_false, if_pos, if_neg, if_true, if_false, eq_self, nI_add, nI_ltI, nI_leI, nI_eq, nI_clamp, pu_in, c_0, c_1, c_2, c_3, c_4, c_5, c_6, c_7, c_8, c_9, c_10, c_11, c_12, c_15, c_16, c_17, c_32, c_35, c_36, c_38, c_40, c_41, c_42, c_43, c_44, c_45, c_48, c_57, c_58, c_59, c_60, c_61, c_62, c_64, c_65, c_69, c_75, c_83, c_91, c_93, c_94, c_97, c_105, c_106, c_110, c_119, c_123, c_124, c_125, c_126, c_240, c_256, c_400, c_m, nI_m1, nM_i, lN_add, lN_mul, lN_i, nI_l, lN_eq, lgN_le, lgN_lt, lgN_ge, lgN_gt, nI_sub, nI_mul, d_0, d_1, c_13, c_14, c_18, c_19, c_20, c_21, c_22, c_23, c_24, c_25, c_26, c_27, c_28, c_29, c_30, c_31, c_33, c_34, c_37, c_39, c_46, c_47, c_49, c_50, c_51, c_52, c_53, c_54, c_55, c_56, c_63, c_66, c_67, c_68, c_70, c_71, c_72, c_73, c_74, c_76, c_77, c_78, c_79, c_80, c_81, c_82, c_84, c_85, c_86, c_87, c_88, c_89, c_90, c_92, c_95, c_96, c_98, c_99, c_100, c_101, c_102, c_103, c_104, c_107, c_108, c_109, c_111, c_112, c_113, c_114, c_115, c_116, c_117, c_118, c_120, c_121, c_122, c_127, c_280, d_2, d_3, d_4, d_8, d_9, d_10, d_15, d_16, d_32, d_48, d_62, d_63, d_64, h8, hnar]
  · rcases getc hp with ⟨i1, i2⟩ | ⟨i1, i2⟩
    · simp (disch := omega) only [wI_1, wI_2, wL_1, wL_2, true_and, and_true, and_self, false_and, and_false, if_true, if_false, if_pos, if_neg]; exact h.2 p d i2
    · subst i1
      subst i2
      simp (disch := omega) only [wI_1, wI_2, wL_1, wL_2, true_and, and_true, and_self, false_and, and_false, if_true, if_false, if_pos, if_neg]
/-- the signs from k on are a, and a sign that is no digit stands behind them -/
def sgM (k : Nat) (a : List Nat) (s : ax_σ) : Prop := k + a.length ≤ 240 ∧ (∀ (p c : Nat), a[p]? = some c → s.1 0 26 (k + p) = nI c ∧ c < 128) ∧ ∃ c, s.1 0 26 (k + a.length) = nI c ∧ c < 128 ∧ isD c = false
theorem ps_5 : ∀ (a : List Nat) (k M : Nat) (w : Bool) (Pr : List Nat) (s : ax_σ), a.length < M → sgM k a s → FP g Pr s → Pr.length + (fmt w a).length ≤ 264 → ∃ s', lp_R_putSigns_5 F g (nI (k + a.length)) M (if w = true then nI 1 else nI 0) (nI k) s = some s' ∧ FP g (Pr ++ fmt w a) s' ∧ frm (XFm g) s s'
  | a, k, 0, w, Pr, s, h, _, _, _ => absurd h (Nat.not_lt_zero _)
  | [], k, M + 1, w, Pr, s, _, hS, hP, hl => by
    refine ⟨s, ?_, by rw [fmt, List.append_nil]; exact hP, frm.refl⟩
    rw [lp_R_putSigns_5, List.length_nil, Nat.add_zero, if_pos (Int32.le_refl _)]
  | c :: a, k, M + 1, w, Pr, s, hM, ⟨hk, hS, cn, n1, n2, n3⟩, hP, hl => by
    rw [List.length_cons] at hM hk
    obtain ⟨c1, c2⟩ := hS 0 c rfl
    rw [Nat.add_zero] at c1
    -- the sign behind it
    have hnx : ∃ d, s.1 0 26 (k + 1) = nI d ∧ d < 128 ∧ isD d = isD (a.headD 0) := by
      match a, hS, n1 with
      | [], hS, n1 => exact ⟨cn, n1, n2, n3⟩
      | e :: a, hS, n1 =>
        obtain ⟨d1, d2⟩ := hS 1 e rfl
        exact ⟨e, d1, d2, rfl⟩
    obtain ⟨d, d1, d2, d3⟩ := hnx
    have hdg := rx_digit (c := d) d2
    have hcg := rx_digit (c := c) c2
    have hS' : ∀ s1 : ax_σ, frm (XFm g) s s1 → sgM (k + 1) a s1 := by
      intro s1 hf
      refine ⟨by omega, fun p e hp => ?_, cn, ?_, n2, n3⟩
      · obtain ⟨e1, e2⟩ := hS (p + 1) e hp
        rw [show k + 1 + p = k + (p + 1) from by omega]
        exact ⟨(hf.1 _ _ _ (by unfold XFm; omega)).trans e1, e2⟩
      · rw [show k + 1 + a.length = k + (c :: a).length from by rw [List.length_cons]; omega]
        exact (hf.1 _ _ _ (by unfold XFm; omega)).trans n1
    have hto : k + (c :: a).length = k + 1 + a.length := by rw [List.length_cons]; omega
    rw [hto]
    rw [fmt] at hl ⊢
    by_cases hz : c = 48 ∧ w = false ∧ isD (a.headD 0) = true
    · rw [if_pos hz] at hl ⊢
      obtain ⟨z1, z2, z3⟩ := hz
      obtain ⟨s1, a1, a2, a3⟩ := ps_5 a (k + 1) M w Pr s (by omega) (hS' s frm.refl) hP hl
      refine ⟨s1, ?_, a2, a3⟩
      rw [← a1, lp_R_putSigns_5]
      subst z2
      rw [show (if false = true then nI 1 else nI 0) = nI 0 from rfl]
      rw [d3, z3, if_pos rfl] at hdg
      rw [z1] at c1
      simp (disch := omega) only [ax_let, Option.bind_some, cond_true, cond_false, if_pos, if_neg, if_true, if_false, eq_self, nI_add, nI_ltI, nI_leI, nI_eq, nI_clamp, pu_in, c_0, c_1, c_2, c_3, c_4, c_5, c_6, c_7, c_8, c_9, c_10, c_11, c_12, c_15, c_16, c_17, c_32, c_35, c_36, c_38, c_40, c_41, c_42, c_43, c_44, c_45, c_48, c_57, c_58, c_59, c_60, c_61, c_62, c_64, c_65, c_69, c_75, c_83, c_91, c_93, c_94, c_97, c_105, c_106, c_110, c_119, c_123, c_124, c_125, c_126, c_240, c_256, c_400, c_m, nI_m1, nM_i, lN_add, lN_mul, lN_i, nI_l, lN_eq, lgN_le, lgN_lt, lgN_ge, lgN_gt, nI_sub, nI_mul, d_0, d_1, c_13, c_14, c_18, c_19, c_20, c_21, c_22, c_23, c_24, c_25, c_26, c_27, c_28, c_29, c_30, c_31, c_33, c_34, c_37, c_39, c_46, c_47, c_49, c_50, c_51, c_52, c_53, c_54, c_55, c_56, c_63, c_66, c_67, c_68, c_70, c_71, c_72, c_73, c_74, c_76, c_77, c_78, c_79, c_80, c_81, c_82, c_84, c_85, c_86, c_87, c_88, c_89, c_90, c_92, c_95, c_96, c_98, c_99, c_100, c_101, c_102, c_103, c_104, c_107, c_108, c_109, c_111, c_112, c_113, c_114, c_115, c_116, c_117, c_118, c_120, c_121, c_122, c_127, c_280, d_2, d_3, d_4, d_8, d_9, d_10, d_15, d_16, d_32, d_48, d_62, d_63, d_64, c1, d1, hdg]
    · rw [if_neg hz] at hl ⊢
      rw [List.length_cons] at hl
      obtain ⟨s1, b1, b2, b3⟩ := rd_put (g := g) c2 hP (by omega)
      obtain ⟨s2, a1, a2, a3⟩ := ps_5 a (k + 1) M (isD c) (Pr ++ [c]) s1 (by omega) (hS' s1 b3) b2 (by rw [List.length_append, List.length_singleton]; omega)
      have c1' : s1.1 0 26 k = nI c := (b3.1 _ _ _ (by unfold XFm; omega)).trans c1
      refine ⟨s2, ?_, by rw [List.append_assoc] at a2; exact a2, b3.trans a3⟩
      rw [← a1, lp_R_putSigns_5]
      by_cases h48 : c = 48
      · cases w with
        | true =>
          rw [if_pos rfl]
          simp (disch := omega) only [ax_let, Option.bind_some, cond_true, cond_false, if_pos, if_neg, if_true, if_false, eq_self, nI_add, nI_ltI, nI_leI, nI_eq, nI_clamp, pu_in, c_0, c_1, c_2, c_3, c_4, c_5, c_6, c_7, c_8, c_9, c_10, c_11, c_12, c_15, c_16, c_17, c_32, c_35, c_36, c_38, c_40, c_41, c_42, c_43, c_44, c_45, c_48, c_57, c_58, c_59, c_60, c_61, c_62, c_64, c_65, c_69, c_75, c_83, c_91, c_93, c_94, c_97, c_105, c_106, c_110, c_119, c_123, c_124, c_125, c_126, c_240, c_256, c_400, c_m, nI_m1, nM_i, lN_add, lN_mul, lN_i, nI_l, lN_eq, lgN_le, lgN_lt, lgN_ge, lgN_gt, nI_sub, nI_mul, d_0, d_1, c_13, c_14, c_18, c_19, c_20, c_21, c_22, c_23, c_24, c_25, c_26, c_27, c_28, c_29, c_30, c_31, c_33, c_34, c_37, c_39, c_46, c_47, c_49, c_50, c_51, c_52, c_53, c_54, c_55, c_56, c_63, c_66, c_67, c_68, c_70, c_71, c_72, c_73, c_74, c_76, c_77, c_78, c_79, c_80, c_81, c_82, c_84, c_85, c_86, c_87, c_88, c_89, c_90, c_92, c_95, c_96, c_98, c_99, c_100, c_101, c_102, c_103, c_104, c_107, c_108, c_109, c_111, c_112, c_113, c_114, c_115, c_116, c_117, c_118, c_120, c_121, c_122, c_127, c_280, d_2, d_3, d_4, d_8, d_9, d_10, d_15, d_16, d_32, d_48, d_62, d_63, d_64, c1, b1, c1', hcg]
        | false =>
          have hnd : isD d = false := by
            rw [d3]
            cases hx : isD (a.headD 0) with
            | false => rfl
            | true => exact absurd ⟨h48, rfl, hx⟩ hz
          rw [hnd] at hdg
          have hdg : f_R_isDigit (nI d) = some (nI 0) := hdg
          rw [show (if false = true then nI 1 else nI 0) = nI 0 from rfl]
          simp (disch := omega) only [ax_let, Option.bind_some, cond_true, cond_false, if_pos, if_neg, if_true, if_false, eq_self, nI_add, nI_ltI, nI_leI, nI_eq, nI_clamp, pu_in, c_0, c_1, c_2, c_3, c_4, c_5, c_6, c_7, c_8, c_9, c_10, c_11, c_12, c_15, c_16, c_17, c_32, c_35, c_36, c_38, c_40, c_41, c_42, c_43, c_44, c_45, c_48, c_57, c_58, c_59, c_60, c_61, c_62, c_64, c_65, c_69, c_75, c_83, c_91, c_93, c_94, c_97, c_105, c_106, c_110, c_119, c_123, c_124, c_125, c_126, c_240, c_256, c_400, c_m, nI_m1, nM_i, lN_add, lN_mul, lN_i, nI_l, lN_eq, lgN_le, lgN_lt, lgN_ge, lgN_gt, nI_sub, nI_mul, d_0, d_1, c_13, c_14, c_18, c_19, c_20, c_21, c_22, c_23, c_24, c_25, c_26, c_27, c_28, c_29, c_30, c_31, c_33, c_34, c_37, c_39, c_46, c_47, c_49, c_50, c_51, c_52, c_53, c_54, c_55, c_56, c_63, c_66, c_67, c_68, c_70, c_71, c_72, c_73, c_74, c_76, c_77, c_78, c_79, c_80, c_81, c_82, c_84, c_85, c_86, c_87, c_88, c_89, c_90, c_92, c_95, c_96, c_98, c_99, c_100, c_101, c_102, c_103, c_104, c_107, c_108, c_109, c_111, c_112, c_113, c_114, c_115, c_116, c_117, c_118, c_120, c_121, c_122, c_127, c_280, d_2, d_3, d_4, d_8, d_9, d_10, d_15, d_16, d_32, d_48, d_62, d_63, d_64, c1, d1, hdg, b1, c1', hcg]
      · simp (disch := omega) only [ax_let, Option.bind_some, cond_true, cond_false, if_pos, if_neg, if_true, if_false, eq_self, nI_add, nI_ltI, nI_leI, nI_eq, nI_clamp, pu_in, c_0, c_1, c_2, c_3, c_4, c_5, c_6, c_7, c_8, c_9, c_10, c_11, c_12, c_15, c_16, c_17, c_32, c_35, c_36, c_38, c_40, c_41, c_42, c_43, c_44, c_45, c_48, c_57, c_58, c_59, c_60, c_61, c_62, c_64, c_65, c_69, c_75, c_83, c_91, c_93, c_94, c_97, c_105, c_106, c_110, c_119, c_123, c_124, c_125, c_126, c_240, c_256, c_400, c_m, nI_m1, nM_i, lN_add, lN_mul, lN_i, nI_l, lN_eq, lgN_le, lgN_lt, lgN_ge, lgN_gt, nI_sub, nI_mul, d_0, d_1, c_13, c_14, c_18, c_19, c_20, c_21, c_22, c_23, c_24, c_25, c_26, c_27, c_28, c_29, c_30, c_31, c_33, c_34, c_37, c_39, c_46, c_47, c_49, c_50, c_51, c_52, c_53, c_54, c_55, c_56, c_63, c_66, c_67, c_68, c_70, c_71, c_72, c_73, c_74, c_76, c_77, c_78, c_79, c_80, c_81, c_82, c_84, c_85, c_86, c_87, c_88, c_89, c_90, c_92, c_95, c_96, c_98, c_99, c_100, c_101, c_102, c_103, c_104, c_107, c_108, c_109, c_111, c_112, c_113, c_114, c_115, c_116, c_117, c_118, c_120, c_121, c_122, c_127, c_280, d_2, d_3, d_4, d_8, d_9, d_10, d_15, d_16, d_32, d_48, d_62, d_63, d_64, c1, h48, b1, c1', hcg]
theorem rd_putSigns {a : List Nat} {k : Nat} (hF : 300 ≤ F) (hS : sgM k a s) (hP : FP g Pr s) (hl : Pr.length + (fmt false a).length ≤ 264) : ∃ s', f_R_putSigns F g (nI k) (nI (k + a.length)) s = some s' ∧ FP g (Pr ++ fmt false a) s' ∧ frm (XFm g) s s' := by
  have := hS.1
  obtain ⟨s1, a1, a2, a3⟩ := ps_5 (F := F) (g := g) a k F false Pr s (by omega) hS hP hl
  have a1 : lp_R_putSigns_5 F g (nI (k + a.length)) F (0 : Int32) (nI k) s = some s1 := a1
  refine ⟨s1, ?_, a2, a3⟩
  unfold f_R_putSigns
  rw [a1]
  rfl
theorem ch_0 : ∀ v, v < 16 → f_String_charAt 0 (nI v) = some (nI (hxC v)) := by decide +kernel
theorem hxC_lt {v : Nat} (h : v < 16) : hxC v < 128 := by unfold hxC; split <;> omega
theorem pt_8 {u : Nat} {E : Nat → Nat} (hu : u < 2) : ∀ (d i M : Nat) (Pr : List Nat) (s : ax_σ), i + d = 16 → d < M → (∀ k, k < 16 → s.1 g 2 (u * 16 + k) = nI (E k) ∧ E k < 16) → FP g Pr s → Pr.length + d ≤ 264 → ∃ s', lp_R_putTable_8 F g (nI u) M (nI i) s = some s' ∧ FP g (Pr ++ hxs E i d) s' ∧ frm (XFm g) s s'
  | d, i, 0, Pr, s, _, h, _, _, _ => absurd h (Nat.not_lt_zero _)
  | 0, i, M + 1, Pr, s, hi, _, hE, hP, hl => by
    refine ⟨s, ?_, by rw [hxs, List.append_nil]; exact hP, frm.refl⟩
    rw [lp_R_putTable_8]
    simp (disch := omega) only [ax_let, Option.bind_some, cond_true, cond_false, if_pos, if_neg, if_true, if_false, eq_self, nI_add, nI_ltI, nI_leI, nI_eq, nI_clamp, pu_in, c_0, c_1, c_2, c_3, c_4, c_5, c_6, c_7, c_8, c_9, c_10, c_11, c_12, c_15, c_16, c_17, c_32, c_35, c_36, c_38, c_40, c_41, c_42, c_43, c_44, c_45, c_48, c_57, c_58, c_59, c_60, c_61, c_62, c_64, c_65, c_69, c_75, c_83, c_91, c_93, c_94, c_97, c_105, c_106, c_110, c_119, c_123, c_124, c_125, c_126, c_240, c_256, c_400, c_m, nI_m1, nM_i, lN_add, lN_mul, lN_i, nI_l, lN_eq, lgN_le, lgN_lt, lgN_ge, lgN_gt, nI_sub, nI_mul, d_0, d_1, c_13, c_14, c_18, c_19, c_20, c_21, c_22, c_23, c_24, c_25, c_26, c_27, c_28, c_29, c_30, c_31, c_33, c_34, c_37, c_39, c_46, c_47, c_49, c_50, c_51, c_52, c_53, c_54, c_55, c_56, c_63, c_66, c_67, c_68, c_70, c_71, c_72, c_73, c_74, c_76, c_77, c_78, c_79, c_80, c_81, c_82, c_84, c_85, c_86, c_87, c_88, c_89, c_90, c_92, c_95, c_96, c_98, c_99, c_100, c_101, c_102, c_103, c_104, c_107, c_108, c_109, c_111, c_112, c_113, c_114, c_115, c_116, c_117, c_118, c_120, c_121, c_122, c_127, c_280, d_2, d_3, d_4, d_8, d_9, d_10, d_15, d_16, d_32, d_48, d_62, d_63, d_64]
  | d + 1, i, M + 1, Pr, s, hi, hM, hE, hP, hl => by
    obtain ⟨e1, e2⟩ := hE i (by omega)
    have hch := ch_0 (E i) e2
    obtain ⟨s1, b1, b2, b3⟩ := rd_put (g := g) (hxC_lt e2) hP (by omega)
    obtain ⟨s2, a1, a2, a3⟩ := pt_8 hu d (i + 1) M (Pr ++ [hxC (E i)]) s1 (by omega) (by omega) (fun k hk => ⟨(b3.1 _ _ _ (by unfold XFm; omega)).trans (hE k hk).1, (hE k hk).2⟩) b2 (by rw [List.length_append, List.length_singleton]; omega)
    refine ⟨s2, ?_, by rw [List.append_assoc] at a2; exact a2, b3.trans a3⟩
    rw [← a1, lp_R_putTable_8]
    simp (disch := omega) only [ax_let, Option.bind_some, cond_true, cond_false, if_pos, if_neg, if_true, if_false, eq_self, nI_add, nI_ltI, nI_leI, nI_eq, nI_clamp, pu_in, c_0, c_1, c_2, c_3, c_4, c_5, c_6, c_7, c_8, c_9, c_10, c_11, c_12, c_15, c_16, c_17, c_32, c_35, c_36, c_38, c_40, c_41, c_42, c_43, c_44, c_45, c_48, c_57, c_58, c_59, c_60, c_61, c_62, c_64, c_65, c_69, c_75, c_83, c_91, c_93, c_94, c_97, c_105, c_106, c_110, c_119, c_123, c_124, c_125, c_126, c_240, c_256, c_400, c_m, nI_m1, nM_i, lN_add, lN_mul, lN_i, nI_l, lN_eq, lgN_le, lgN_lt, lgN_ge, lgN_gt, nI_sub, nI_mul, d_0, d_1, c_13, c_14, c_18, c_19, c_20, c_21, c_22, c_23, c_24, c_25, c_26, c_27, c_28, c_29, c_30, c_31, c_33, c_34, c_37, c_39, c_46, c_47, c_49, c_50, c_51, c_52, c_53, c_54, c_55, c_56, c_63, c_66, c_67, c_68, c_70, c_71, c_72, c_73, c_74, c_76, c_77, c_78, c_79, c_80, c_81, c_82, c_84, c_85, c_86, c_87, c_88, c_89, c_90, c_92, c_95, c_96, c_98, c_99, c_100, c_101, c_102, c_103, c_104, c_107, c_108, c_109, c_111, c_112, c_113, c_114, c_115, c_116, c_117, c_118, c_120, c_121, c_122, c_127, c_280, d_2, d_3, d_4, d_8, d_9, d_10, d_15, d_16, d_32, d_48, d_62, d_63, d_64, e1, hch, b1]
theorem rd_putTable {u : Nat} {x : Tb} (hF : 300 ≤ F) (hu : u < 2) (hE : ∀ k, k < 16 → s.1 g 2 (u * 16 + k) = nI (tbE x k) ∧ tbE x k < 16) (hP : FP g Pr s) (hl : Pr.length + 18 ≤ 264) : ∃ s', f_R_putTable F g (nI u) s = some s' ∧ FP g (Pr ++ tbPr x) s' ∧ frm (XFm g) s s' := by
  obtain ⟨s1, b1, b2, b3⟩ := rd_put (g := g) (c := 35) (by omega) hP (by omega)
  obtain ⟨s2, a1, a2, a3⟩ := pt_8 (F := F) (g := g) (E := tbE x) hu 16 0 F (Pr ++ [35]) s1 (by omega) (by omega) (fun k hk => ⟨(b3.1 _ _ _ (by unfold XFm; omega)).trans (hE k hk).1, (hE k hk).2⟩) b2 (by rw [List.length_append, List.length_singleton]; omega)
  obtain ⟨s3, c1, c2, c3⟩ := rd_put (g := g) (c := 59) (by omega) a2 (by rw [List.length_append, List.length_append, List.length_singleton, hxs_len]; omega)
  refine ⟨s3, ?_, ?_, (b3.trans a3).trans c3⟩
  · unfold f_R_putTable
    have b1 : f_R_put g (35 : Int32) s = some s1 := b1
    have a1 : lp_R_putTable_8 F g (nI u) F (0 : Int32) s1 = some s2 := a1
    have c1 : f_R_put g (59 : Int32) s2 = some s3 := c1
    rw [b1, Option.bind_some, a1, Option.bind_some, c1]
    rfl
  · rw [List.append_assoc, List.append_assoc] at c2
    exact c2
theorem pf_46 {x1 : Int32} (hF : 300 ≤ F) {tb : List Tb} (htb : tb.length ≤ 2) : ∀ (d u M : Nat) (Pr : List Nat) (s : ax_σ), u + d = tb.length → d < M → s.1 g 1 3 = nI tb.length → (∀ (u : Nat) (x : Tb), tb[u]? = some x → ∀ k, k < 16 → s.1 g 2 (u * 16 + k) = nI (tbE x k) ∧ tbE x k < 16) → FP g Pr s → Pr.length + 18 * d ≤ 264 → ∃ s', lp_R_putForm_46 F g x1 M (nI u) s = some s' ∧ FP g (Pr ++ (tb.drop u).flatMap tbPr) s' ∧ frm (XFm g) s s'
  | d, u, 0, Pr, s, _, h, _, _, _, _ => absurd h (Nat.not_lt_zero _)
  | 0, u, M + 1, Pr, s, hu, _, h3, hE, hP, hl => by
    refine ⟨s, ?_, ?_, frm.refl⟩
    · rw [lp_R_putForm_46]
      simp (disch := omega) only [ax_let, Option.bind_some, cond_true, cond_false, if_pos, if_neg, if_true, if_false, eq_self, nI_add, nI_ltI, nI_leI, nI_eq, nI_clamp, pu_in, c_0, c_1, c_2, c_3, c_4, c_5, c_6, c_7, c_8, c_9, c_10, c_11, c_12, c_15, c_16, c_17, c_32, c_35, c_36, c_38, c_40, c_41, c_42, c_43, c_44, c_45, c_48, c_57, c_58, c_59, c_60, c_61, c_62, c_64, c_65, c_69, c_75, c_83, c_91, c_93, c_94, c_97, c_105, c_106, c_110, c_119, c_123, c_124, c_125, c_126, c_240, c_256, c_400, c_m, nI_m1, nM_i, lN_add, lN_mul, lN_i, nI_l, lN_eq, lgN_le, lgN_lt, lgN_ge, lgN_gt, nI_sub, nI_mul, d_0, d_1, c_13, c_14, c_18, c_19, c_20, c_21, c_22, c_23, c_24, c_25, c_26, c_27, c_28, c_29, c_30, c_31, c_33, c_34, c_37, c_39, c_46, c_47, c_49, c_50, c_51, c_52, c_53, c_54, c_55, c_56, c_63, c_66, c_67, c_68, c_70, c_71, c_72, c_73, c_74, c_76, c_77, c_78, c_79, c_80, c_81, c_82, c_84, c_85, c_86, c_87, c_88, c_89, c_90, c_92, c_95, c_96, c_98, c_99, c_100, c_101, c_102, c_103, c_104, c_107, c_108, c_109, c_111, c_112, c_113, c_114, c_115, c_116, c_117, c_118, c_120, c_121, c_122, c_127, c_280, d_2, d_3, d_4, d_8, d_9, d_10, d_15, d_16, d_32, d_48, d_62, d_63, d_64, h3]
    · rw [List.drop_eq_nil_of_le (by omega), List.flatMap_nil, List.append_nil]
      exact hP
  | d + 1, u, M + 1, Pr, s, hu, hM, h3, hE, hP, hl => by
    have hx : tb[u]? = some tb[u] := List.getElem?_eq_getElem (by omega)
    obtain ⟨s1, b1, b2, b3⟩ := rd_putTable (F := F) (g := g) hF (show u < 2 by omega) (hE u _ hx) hP (by omega)
    have htl : (tbPr (tb[u]'(by omega))).length = 18 := by
      show (35 :: (hxs _ 0 16 ++ [59])).length = 18
      rw [List.length_cons, List.length_append, hxs_len]
      rfl
    obtain ⟨s2, a1, a2, a3⟩ := pf_46 (x1 := x1) hF htb d (u + 1) M _ s1 (by omega) (by omega) ((b3.1 _ _ _ (by unfold XFm; omega)).trans h3) (fun u x hx k hk => ⟨(b3.1 _ _ _ (by unfold XFm; omega)).trans (hE u x hx k hk).1, (hE u x hx k hk).2⟩) b2 (by rw [List.length_append, htl]; omega)
    refine ⟨s2, ?_, ?_, b3.trans a3⟩
    · rw [← a1, lp_R_putForm_46]
      simp (disch := omega) only [ax_let, Option.bind_some, cond_true, cond_false, if_pos, if_neg, if_true, if_false, eq_self, nI_add, nI_ltI, nI_leI, nI_eq, nI_clamp, pu_in, c_0, c_1, c_2, c_3, c_4, c_5, c_6, c_7, c_8, c_9, c_10, c_11, c_12, c_15, c_16, c_17, c_32, c_35, c_36, c_38, c_40, c_41, c_42, c_43, c_44, c_45, c_48, c_57, c_58, c_59, c_60, c_61, c_62, c_64, c_65, c_69, c_75, c_83, c_91, c_93, c_94, c_97, c_105, c_106, c_110, c_119, c_123, c_124, c_125, c_126, c_240, c_256, c_400, c_m, nI_m1, nM_i, lN_add, lN_mul, lN_i, nI_l, lN_eq, lgN_le, lgN_lt, lgN_ge, lgN_gt, nI_sub, nI_mul, d_0, d_1, c_13, c_14, c_18, c_19, c_20, c_21, c_22, c_23, c_24, c_25, c_26, c_27, c_28, c_29, c_30, c_31, c_33, c_34, c_37, c_39, c_46, c_47, c_49, c_50, c_51, c_52, c_53, c_54, c_55, c_56, c_63, c_66, c_67, c_68, c_70, c_71, c_72, c_73, c_74, c_76, c_77, c_78, c_79, c_80, c_81, c_82, c_84, c_85, c_86, c_87, c_88, c_89, c_90, c_92, c_95, c_96, c_98, c_99, c_100, c_101, c_102, c_103, c_104, c_107, c_108, c_109, c_111, c_112, c_113, c_114, c_115, c_116, c_117, c_118, c_120, c_121, c_122, c_127, c_280, d_2, d_3, d_4, d_8, d_9, d_10, d_15, d_16, d_32, d_48, d_62, d_63, d_64, h3, b1]
    · rw [List.drop_eq_getElem_cons (show u < tb.length by omega), List.flatMap_cons, ← List.append_assoc]
      exact a2
end
/-- where the first sign of a kind stands -/
theorem pf_2 {F g N : Nat} {s : ax_σ} (h2 : s.1 0 25 2 = nI N) (hN : N ≤ 240) : ∀ (a : List Nat) (k M : Nat), a.length < M → k + a.length < N → (∀ (p c : Nat), a[p]? = some c → s.1 0 26 (k + p) = nI c ∧ c < 128 ∧ c ≠ 35 ∧ c ≠ 123) → (s.1 0 26 (k + a.length) = nI 35 ∨ s.1 0 26 (k + a.length) = nI 123) → lp_R_putForm_2 F g s M (nI k) = some (nI (k + a.length))
  | a, k, 0, h, _, _, _ => absurd h (Nat.not_lt_zero _)
  | [], k, M + 1, _, hk, _, he => by
    rw [List.length_nil, Nat.add_zero] at hk he ⊢
    rw [lp_R_putForm_2]
    rcases he with he | he
    · simp (disch := omega) only [ax_let, Option.bind_some, cond_true, cond_false, if_pos, if_neg, if_true, if_false, eq_self, nI_add, nI_ltI, nI_leI, nI_eq, nI_clamp, pu_in, c_0, c_1, c_2, c_3, c_4, c_5, c_6, c_7, c_8, c_9, c_10, c_11, c_12, c_15, c_16, c_17, c_32, c_35, c_36, c_38, c_40, c_41, c_42, c_43, c_44, c_45, c_48, c_57, c_58, c_59, c_60, c_61, c_62, c_64, c_65, c_69, c_75, c_83, c_91, c_93, c_94, c_97, c_105, c_106, c_110, c_119, c_123, c_124, c_125, c_126, c_240, c_256, c_400, c_m, nI_m1, nM_i, lN_add, lN_mul, lN_i, nI_l, lN_eq, lgN_le, lgN_lt, lgN_ge, lgN_gt, nI_sub, nI_mul, d_0, d_1, c_13, c_14, c_18, c_19, c_20, c_21, c_22, c_23, c_24, c_25, c_26, c_27, c_28, c_29, c_30, c_31, c_33, c_34, c_37, c_39, c_46, c_47, c_49, c_50, c_51, c_52, c_53, c_54, c_55, c_56, c_63, c_66, c_67, c_68, c_70, c_71, c_72, c_73, c_74, c_76, c_77, c_78, c_79, c_80, c_81, c_82, c_84, c_85, c_86, c_87, c_88, c_89, c_90, c_92, c_95, c_96, c_98, c_99, c_100, c_101, c_102, c_103, c_104, c_107, c_108, c_109, c_111, c_112, c_113, c_114, c_115, c_116, c_117, c_118, c_120, c_121, c_122, c_127, c_280, d_2, d_3, d_4, d_8, d_9, d_10, d_15, d_16, d_32, d_48, d_62, d_63, d_64, h2, he]
      rfl
    · simp (disch := omega) only [ax_let, Option.bind_some, cond_true, cond_false, if_pos, if_neg, if_true, if_false, eq_self, nI_add, nI_ltI, nI_leI, nI_eq, nI_clamp, pu_in, c_0, c_1, c_2, c_3, c_4, c_5, c_6, c_7, c_8, c_9, c_10, c_11, c_12, c_15, c_16, c_17, c_32, c_35, c_36, c_38, c_40, c_41, c_42, c_43, c_44, c_45, c_48, c_57, c_58, c_59, c_60, c_61, c_62, c_64, c_65, c_69, c_75, c_83, c_91, c_93, c_94, c_97, c_105, c_106, c_110, c_119, c_123, c_124, c_125, c_126, c_240, c_256, c_400, c_m, nI_m1, nM_i, lN_add, lN_mul, lN_i, nI_l, lN_eq, lgN_le, lgN_lt, lgN_ge, lgN_gt, nI_sub, nI_mul, d_0, d_1, c_13, c_14, c_18, c_19, c_20, c_21, c_22, c_23, c_24, c_25, c_26, c_27, c_28, c_29, c_30, c_31, c_33, c_34, c_37, c_39, c_46, c_47, c_49, c_50, c_51, c_52, c_53, c_54, c_55, c_56, c_63, c_66, c_67, c_68, c_70, c_71, c_72, c_73, c_74, c_76, c_77, c_78, c_79, c_80, c_81, c_82, c_84, c_85, c_86, c_87, c_88, c_89, c_90, c_92, c_95, c_96, c_98, c_99, c_100, c_101, c_102, c_103, c_104, c_107, c_108, c_109, c_111, c_112, c_113, c_114, c_115, c_116, c_117, c_118, c_120, c_121, c_122, c_127, c_280, d_2, d_3, d_4, d_8, d_9, d_10, d_15, d_16, d_32, d_48, d_62, d_63, d_64, h2, he]
      rfl
  | c :: a, k, M + 1, hM, hk, hS, he => by
    rw [List.length_cons] at hM hk he ⊢
    obtain ⟨c1, c2, c3, c4⟩ := hS 0 c rfl
    rw [Nat.add_zero] at c1
    have ih := pf_2 (F := F) (g := g) h2 hN a (k + 1) M (by omega) (by omega) (fun p c hp => by rw [show k + 1 + p = k + (p + 1) from by omega]; exact hS (p + 1) c hp) (by rw [show k + 1 + a.length = k + (a.length + 1) from by omega]; exact he)
    rw [show k + (a.length + 1) = k + 1 + a.length from by omega, ← ih, lp_R_putForm_2]
    clear he
    simp (disch := omega) only [ax_let, Option.bind_some, cond_true, cond_false, if_pos, if_neg, if_true, if_false, eq_self, nI_add, nI_ltI, nI_leI, nI_eq, nI_clamp, pu_in, c_0, c_1, c_2, c_3, c_4, c_5, c_6, c_7, c_8, c_9, c_10, c_11, c_12, c_15, c_16, c_17, c_32, c_35, c_36, c_38, c_40, c_41, c_42, c_43, c_44, c_45, c_48, c_57, c_58, c_59, c_60, c_61, c_62, c_64, c_65, c_69, c_75, c_83, c_91, c_93, c_94, c_97, c_105, c_106, c_110, c_119, c_123, c_124, c_125, c_126, c_240, c_256, c_400, c_m, nI_m1, nM_i, lN_add, lN_mul, lN_i, nI_l, lN_eq, lgN_le, lgN_lt, lgN_ge, lgN_gt, nI_sub, nI_mul, d_0, d_1, c_13, c_14, c_18, c_19, c_20, c_21, c_22, c_23, c_24, c_25, c_26, c_27, c_28, c_29, c_30, c_31, c_33, c_34, c_37, c_39, c_46, c_47, c_49, c_50, c_51, c_52, c_53, c_54, c_55, c_56, c_63, c_66, c_67, c_68, c_70, c_71, c_72, c_73, c_74, c_76, c_77, c_78, c_79, c_80, c_81, c_82, c_84, c_85, c_86, c_87, c_88, c_89, c_90, c_92, c_95, c_96, c_98, c_99, c_100, c_101, c_102, c_103, c_104, c_107, c_108, c_109, c_111, c_112, c_113, c_114, c_115, c_116, c_117, c_118, c_120, c_121, c_122, c_127, c_280, d_2, d_3, d_4, d_8, d_9, d_10, d_15, d_16, d_32, d_48, d_62, d_63, d_64, h2, c1, c3, c4]
theorem pf_70 {F g N : Nat} {s : ax_σ} (h2 : s.1 0 25 2 = nI N) (hN : N ≤ 240) : ∀ (a : List Nat) (k M : Nat), a.length < M → k + a.length < N → (∀ (p c : Nat), a[p]? = some c → s.1 0 26 (k + p) = nI c ∧ c < 128 ∧ c ≠ 123) → s.1 0 26 (k + a.length) = nI 123 → lp_R_putForm_70 F g s M (nI k) = some (nI (k + a.length))
  | a, k, 0, h, _, _, _ => absurd h (Nat.not_lt_zero _)
  | [], k, M + 1, _, hk, _, he => by
    rw [List.length_nil, Nat.add_zero] at hk he ⊢
    rw [lp_R_putForm_70]
    simp (disch := omega) only [ax_let, Option.bind_some, cond_true, cond_false, if_pos, if_neg, if_true, if_false, eq_self, nI_add, nI_ltI, nI_leI, nI_eq, nI_clamp, pu_in, c_0, c_1, c_2, c_3, c_4, c_5, c_6, c_7, c_8, c_9, c_10, c_11, c_12, c_15, c_16, c_17, c_32, c_35, c_36, c_38, c_40, c_41, c_42, c_43, c_44, c_45, c_48, c_57, c_58, c_59, c_60, c_61, c_62, c_64, c_65, c_69, c_75, c_83, c_91, c_93, c_94, c_97, c_105, c_106, c_110, c_119, c_123, c_124, c_125, c_126, c_240, c_256, c_400, c_m, nI_m1, nM_i, lN_add, lN_mul, lN_i, nI_l, lN_eq, lgN_le, lgN_lt, lgN_ge, lgN_gt, nI_sub, nI_mul, d_0, d_1, c_13, c_14, c_18, c_19, c_20, c_21, c_22, c_23, c_24, c_25, c_26, c_27, c_28, c_29, c_30, c_31, c_33, c_34, c_37, c_39, c_46, c_47, c_49, c_50, c_51, c_52, c_53, c_54, c_55, c_56, c_63, c_66, c_67, c_68, c_70, c_71, c_72, c_73, c_74, c_76, c_77, c_78, c_79, c_80, c_81, c_82, c_84, c_85, c_86, c_87, c_88, c_89, c_90, c_92, c_95, c_96, c_98, c_99, c_100, c_101, c_102, c_103, c_104, c_107, c_108, c_109, c_111, c_112, c_113, c_114, c_115, c_116, c_117, c_118, c_120, c_121, c_122, c_127, c_280, d_2, d_3, d_4, d_8, d_9, d_10, d_15, d_16, d_32, d_48, d_62, d_63, d_64, h2, he]
    rfl
  | c :: a, k, M + 1, hM, hk, hS, he => by
    rw [List.length_cons] at hM hk he ⊢
    obtain ⟨c1, c2, c4⟩ := hS 0 c rfl
    rw [Nat.add_zero] at c1
    have ih := pf_70 (F := F) (g := g) h2 hN a (k + 1) M (by omega) (by omega) (fun p c hp => by rw [show k + 1 + p = k + (p + 1) from by omega]; exact hS (p + 1) c hp) (by rw [show k + 1 + a.length = k + (a.length + 1) from by omega]; exact he)
    rw [show k + (a.length + 1) = k + 1 + a.length from by omega, ← ih, lp_R_putForm_70]
    simp (disch := omega) only [ax_let, Option.bind_some, cond_true, cond_false, if_pos, if_neg, if_true, if_false, eq_self, nI_add, nI_ltI, nI_leI, nI_eq, nI_clamp, pu_in, c_0, c_1, c_2, c_3, c_4, c_5, c_6, c_7, c_8, c_9, c_10, c_11, c_12, c_15, c_16, c_17, c_32, c_35, c_36, c_38, c_40, c_41, c_42, c_43, c_44, c_45, c_48, c_57, c_58, c_59, c_60, c_61, c_62, c_64, c_65, c_69, c_75, c_83, c_91, c_93, c_94, c_97, c_105, c_106, c_110, c_119, c_123, c_124, c_125, c_126, c_240, c_256, c_400, c_m, nI_m1, nM_i, lN_add, lN_mul, lN_i, nI_l, lN_eq, lgN_le, lgN_lt, lgN_ge, lgN_gt, nI_sub, nI_mul, d_0, d_1, c_13, c_14, c_18, c_19, c_20, c_21, c_22, c_23, c_24, c_25, c_26, c_27, c_28, c_29, c_30, c_31, c_33, c_34, c_37, c_39, c_46, c_47, c_49, c_50, c_51, c_52, c_53, c_54, c_55, c_56, c_63, c_66, c_67, c_68, c_70, c_71, c_72, c_73, c_74, c_76, c_77, c_78, c_79, c_80, c_81, c_82, c_84, c_85, c_86, c_87, c_88, c_89, c_90, c_92, c_95, c_96, c_98, c_99, c_100, c_101, c_102, c_103, c_104, c_107, c_108, c_109, c_111, c_112, c_113, c_114, c_115, c_116, c_117, c_118, c_120, c_121, c_122, c_127, c_280, d_2, d_3, d_4, d_8, d_9, d_10, d_15, d_16, d_32, d_48, d_62, d_63, d_64, h2, c1, c4]
