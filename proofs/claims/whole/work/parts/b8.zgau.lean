/-! PURE: the reference gauges an expression -/
theorem ite_some {α : Type} {c : Prop} [Decidable c] {a b : α} : (if c then some a else some b) = some (if c then a else b) := by split <;> rfl
def atC (p : Nat) (a : At) (s : ax_σ) : Prop := s.1 0 76 p = nI a.2.1 ∧ s.1 0 77 p = nI a.2.2 ∧ s.1 0 78 p = (if a.1 = 0 then nI 1 else nI 0)
def gS (st : List At) (s : ax_σ) : Prop := ∀ (p : Nat) (a : At), st.reverse[p]? = some a → atC p a s
def X76 (g r k : Nat) : Prop := g = 0 ∧ 76 ≤ r ∧ r ≤ 78
theorem gS.top {st : List At} {a : At} {s : ax_σ} (h : gS (a :: st) s) : atC st.length a s := h st.length a (by rw [List.reverse_cons, List.getElem?_append_right (by rw [List.length_reverse]; exact Nat.le_refl _), List.length_reverse, Nat.sub_self]; rfl)
theorem gS.pop {st : List At} {a : At} {s : ax_σ} (h : gS (a :: st) s) : gS st s := by
  intro p b hp
  refine h p b ?_
  rw [List.reverse_cons, List.getElem?_append_left (by have := get_lt hp; exact this)]
  exact hp
def gW (n : Nat) (a : At) (s : ax_σ) : ax_σ := ax_wI (ax_wI (ax_wI s 0 76 n (nI a.2.1)) 0 77 n (nI a.2.2)) 0 78 n (if a.1 = 0 then nI 1 else nI 0)
theorem gW_f {n : Nat} {a : At} {s : ax_σ} : frm X76 s (gW n a s) := by
  unfold gW
  refine ((frm.refl.wI _ _ _ _ ?_).wI _ _ _ _ ?_).wI _ _ _ _ ?_ <;> unfold X76 <;> omega
theorem gS.push {st : List At} {a : At} {s : ax_σ} (h : gS st s) : gS (a :: st) (gW st.length a s) := by
  intro p b hp
  rw [List.reverse_cons] at hp
  rcases getc hp with ⟨h1, h2⟩ | ⟨h1, h2⟩
  · rw [List.length_reverse] at h1
    obtain ⟨x1, x2, x3⟩ := h p b h2
    unfold gW
    refine ⟨?_, ?_, ?_⟩
    · simp (disch := omega) only [wI_1, wI_2, wL_1, wL_2, true_and, and_true, and_self, false_and, and_false, if_true, if_false, if_pos, if_neg]; exact x1
    · simp (disch := omega) only [wI_1, wI_2, wL_1, wL_2, true_and, and_true, and_self, false_and, and_false, if_true, if_false, if_pos, if_neg]; exact x2
    · simp (disch := omega) only [wI_1, wI_2, wL_1, wL_2, true_and, and_true, and_self, false_and, and_false, if_true, if_false, if_pos, if_neg]; exact x3
  · rw [List.length_reverse] at h1
    subst h1
    subst h2
    unfold gW
    refine ⟨?_, ?_, ?_⟩ <;> simp (disch := omega) only [wI_1, wI_2, wL_1, wL_2, true_and, and_true, and_self, false_and, and_false, if_true, if_false, if_pos, if_neg]
theorem nar_b : vp_nar .boolean (nI 1) = nI 1 ∧ vp_nar .boolean (nI 0) = nI 0 := by decide
def sN : List At → Nat
  | [] => 0
  | a :: st => a.2.1 + sN st
/-- what one operation leaves of the stack stays small -/
def skB (q : Nat) (st : List At) : Prop := sN st ≤ q ∧ ∀ a ∈ st, a.2.2 ≤ q
theorem g_step {F k e oi q M : Nat} {o : Op} {st st' : List At} {s : ax_σ} (hk : k < 240) (he : e ≤ 240) (hoi : oi < e) (h55 : s.1 0 55 k = nI e) (h58 : s.1 0 58 oi = nI o.1) (ho : 1 ≤ o.1 ∧ o.1 ≤ 8) (hq : q ≤ 240) (hst : gS st s) (hB : skB q st) (hh : (o.1 ≤ 5 → st.length < 13 ∧ st' = aOp o st) ∧ (o.1 = 6 ∨ o.1 = 7 → ∃ a t, st = a :: t ∧ st' = aOver a :: t) ∧ (o.1 = 8 → ∃ a b t, st = b :: a :: t ∧ st' = aPair a b :: t)) (hl : st.length ≤ 13) : ∃ s', lp_Z_gauge_9 F (nI k) (M + 1) (nI st.length) (nI oi) s = lp_Z_gauge_9 F (nI k) M (nI st'.length) (nI (oi + 1)) s' ∧ gS st' s' ∧ skB (q + 1) st' ∧ frm X76 s s' := by
  obtain ⟨n1, n0⟩ := nar_b
  have leaf : ∀ (u c d : Nat), o.1 ≤ 5 → aOp o st = (u, c, d) :: st → c ≤ 1 → d ≤ 1 → skB (q + 1) ((u, c, d) :: st) := by
    intro u c d _ _ hc hd
    refine ⟨by have := hB.1; show c + sN st ≤ q + 1; omega, fun a ha => ?_⟩
    cases ha with
    | head => show d ≤ q + 1; omega
    | tail _ ha => have := hB.2 a ha; omega
  by_cases h5 : o.1 ≤ 5
  · obtain ⟨h13, rfl⟩ := hh.1 h5
    clear hh
    rcases (show o.1 = 1 ∨ (o.1 = 2 ∨ o.1 = 3) ∨ (o.1 = 4 ∨ o.1 = 5) by omega) with x | x | x
    · have ha : aOp o st = (2 ^ o.2.1, 0, 0) :: st := by unfold aOp; rw [if_pos x]
      refine ⟨gW st.length (2 ^ o.2.1, 0, 0) s, ?_, by rw [ha]; exact hst.push, by rw [ha]; exact leaf _ _ _ h5 ha (by omega) (by omega), gW_f⟩
      have hp : 2 ^ o.2.1 ≠ 0 := by have := Nat.two_pow_pos o.2.1; omega
      rw [ha, lp_Z_gauge_9]
      rw [x] at h58
      unfold gW
      rw [if_neg (show ¬ ((2 ^ o.2.1, 0, 0) : At).1 = 0 from hp)]
      simp (disch := omega) only [ax_let, Option.bind_some, cond_true, cond_false, if_pos, if_neg, if_true, if_false, eq_self, nI_add, nI_ltI, nI_leI, nI_eq, nI_clamp, pu_in, c_0, c_1, c_2, c_3, c_4, c_5, c_6, c_7, c_8, c_9, c_10, c_11, c_12, c_15, c_16, c_17, c_32, c_35, c_36, c_38, c_40, c_41, c_42, c_43, c_44, c_45, c_48, c_57, c_58, c_59, c_60, c_61, c_62, c_64, c_65, c_69, c_75, c_83, c_91, c_93, c_94, c_97, c_105, c_106, c_110, c_119, c_123, c_124, c_125, c_126, c_240, c_256, c_400, c_m, nI_m1, nM_i, lN_add, lN_mul, lN_i, nI_l, lN_eq, lgN_le, lgN_lt, lgN_ge, lgN_gt, nI_sub, nI_mul, d_0, d_1, c_13, c_14, c_18, c_19, c_20, c_21, c_22, c_23, c_24, c_25, c_26, c_27, c_28, c_29, c_30, c_31, c_33, c_34, c_37, c_39, c_46, c_47, c_49, c_50, c_51, c_52, c_53, c_54, c_55, c_56, c_63, c_66, c_67, c_68, c_70, c_71, c_72, c_73, c_74, c_76, c_77, c_78, c_79, c_80, c_81, c_82, c_84, c_85, c_86, c_87, c_88, c_89, c_90, c_92, c_95, c_96, c_98, c_99, c_100, c_101, c_102, c_103, c_104, c_107, c_108, c_109, c_111, c_112, c_113, c_114, c_115, c_116, c_117, c_118, c_120, c_121, c_122, c_127, c_280, d_2, d_3, d_4, d_8, d_9, d_10, d_15, d_16, d_32, d_48, d_62, d_63, d_64, h55, h58, ite_some, List.length_cons, n0]
    · have ha : aOp o st = (16, 1, 1) :: st := by unfold aOp; rw [if_neg (by omega), if_pos x]
      refine ⟨gW st.length (16, 1, 1) s, ?_, by rw [ha]; exact hst.push, by rw [ha]; exact leaf _ _ _ h5 ha (by omega) (by omega), gW_f⟩
      rw [ha, lp_Z_gauge_9]
      unfold gW
      rw [if_neg (show ¬ ((16, 1, 1) : At).1 = 0 by decide)]
      rcases x with x | x
      · rw [x] at h58
        simp (disch := omega) only [ax_let, Option.bind_some, cond_true, cond_false, if_pos, if_neg, if_true, if_false, eq_self, nI_add, nI_ltI, nI_leI, nI_eq, nI_clamp, pu_in, c_0, c_1, c_2, c_3, c_4, c_5, c_6, c_7, c_8, c_9, c_10, c_11, c_12, c_15, c_16, c_17, c_32, c_35, c_36, c_38, c_40, c_41, c_42, c_43, c_44, c_45, c_48, c_57, c_58, c_59, c_60, c_61, c_62, c_64, c_65, c_69, c_75, c_83, c_91, c_93, c_94, c_97, c_105, c_106, c_110, c_119, c_123, c_124, c_125, c_126, c_240, c_256, c_400, c_m, nI_m1, nM_i, lN_add, lN_mul, lN_i, nI_l, lN_eq, lgN_le, lgN_lt, lgN_ge, lgN_gt, nI_sub, nI_mul, d_0, d_1, c_13, c_14, c_18, c_19, c_20, c_21, c_22, c_23, c_24, c_25, c_26, c_27, c_28, c_29, c_30, c_31, c_33, c_34, c_37, c_39, c_46, c_47, c_49, c_50, c_51, c_52, c_53, c_54, c_55, c_56, c_63, c_66, c_67, c_68, c_70, c_71, c_72, c_73, c_74, c_76, c_77, c_78, c_79, c_80, c_81, c_82, c_84, c_85, c_86, c_87, c_88, c_89, c_90, c_92, c_95, c_96, c_98, c_99, c_100, c_101, c_102, c_103, c_104, c_107, c_108, c_109, c_111, c_112, c_113, c_114, c_115, c_116, c_117, c_118, c_120, c_121, c_122, c_127, c_280, d_2, d_3, d_4, d_8, d_9, d_10, d_15, d_16, d_32, d_48, d_62, d_63, d_64, h55, h58, ite_some, List.length_cons, n0]
      · rw [x] at h58
        simp (disch := omega) only [ax_let, Option.bind_some, cond_true, cond_false, if_pos, if_neg, if_true, if_false, eq_self, nI_add, nI_ltI, nI_leI, nI_eq, nI_clamp, pu_in, c_0, c_1, c_2, c_3, c_4, c_5, c_6, c_7, c_8, c_9, c_10, c_11, c_12, c_15, c_16, c_17, c_32, c_35, c_36, c_38, c_40, c_41, c_42, c_43, c_44, c_45, c_48, c_57, c_58, c_59, c_60, c_61, c_62, c_64, c_65, c_69, c_75, c_83, c_91, c_93, c_94, c_97, c_105, c_106, c_110, c_119, c_123, c_124, c_125, c_126, c_240, c_256, c_400, c_m, nI_m1, nM_i, lN_add, lN_mul, lN_i, nI_l, lN_eq, lgN_le, lgN_lt, lgN_ge, lgN_gt, nI_sub, nI_mul, d_0, d_1, c_13, c_14, c_18, c_19, c_20, c_21, c_22, c_23, c_24, c_25, c_26, c_27, c_28, c_29, c_30, c_31, c_33, c_34, c_37, c_39, c_46, c_47, c_49, c_50, c_51, c_52, c_53, c_54, c_55, c_56, c_63, c_66, c_67, c_68, c_70, c_71, c_72, c_73, c_74, c_76, c_77, c_78, c_79, c_80, c_81, c_82, c_84, c_85, c_86, c_87, c_88, c_89, c_90, c_92, c_95, c_96, c_98, c_99, c_100, c_101, c_102, c_103, c_104, c_107, c_108, c_109, c_111, c_112, c_113, c_114, c_115, c_116, c_117, c_118, c_120, c_121, c_122, c_127, c_280, d_2, d_3, d_4, d_8, d_9, d_10, d_15, d_16, d_32, d_48, d_62, d_63, d_64, h55, h58, ite_some, List.length_cons, n0]
    · have ha : aOp o st = (0, 1, 1) :: st := by unfold aOp; rw [if_neg (by omega), if_neg (by omega), if_pos x]
      refine ⟨gW st.length (0, 1, 1) s, ?_, by rw [ha]; exact hst.push, by rw [ha]; exact leaf _ _ _ h5 ha (by omega) (by omega), gW_f⟩
      rw [ha, lp_Z_gauge_9]
      unfold gW
      rw [if_pos (show ((0, 1, 1) : At).1 = 0 from rfl)]
      rcases x with x | x
      · rw [x] at h58
        simp (disch := omega) only [ax_let, Option.bind_some, cond_true, cond_false, if_pos, if_neg, if_true, if_false, eq_self, nI_add, nI_ltI, nI_leI, nI_eq, nI_clamp, pu_in, c_0, c_1, c_2, c_3, c_4, c_5, c_6, c_7, c_8, c_9, c_10, c_11, c_12, c_15, c_16, c_17, c_32, c_35, c_36, c_38, c_40, c_41, c_42, c_43, c_44, c_45, c_48, c_57, c_58, c_59, c_60, c_61, c_62, c_64, c_65, c_69, c_75, c_83, c_91, c_93, c_94, c_97, c_105, c_106, c_110, c_119, c_123, c_124, c_125, c_126, c_240, c_256, c_400, c_m, nI_m1, nM_i, lN_add, lN_mul, lN_i, nI_l, lN_eq, lgN_le, lgN_lt, lgN_ge, lgN_gt, nI_sub, nI_mul, d_0, d_1, c_13, c_14, c_18, c_19, c_20, c_21, c_22, c_23, c_24, c_25, c_26, c_27, c_28, c_29, c_30, c_31, c_33, c_34, c_37, c_39, c_46, c_47, c_49, c_50, c_51, c_52, c_53, c_54, c_55, c_56, c_63, c_66, c_67, c_68, c_70, c_71, c_72, c_73, c_74, c_76, c_77, c_78, c_79, c_80, c_81, c_82, c_84, c_85, c_86, c_87, c_88, c_89, c_90, c_92, c_95, c_96, c_98, c_99, c_100, c_101, c_102, c_103, c_104, c_107, c_108, c_109, c_111, c_112, c_113, c_114, c_115, c_116, c_117, c_118, c_120, c_121, c_122, c_127, c_280, d_2, d_3, d_4, d_8, d_9, d_10, d_15, d_16, d_32, d_48, d_62, d_63, d_64, h55, h58, ite_some, List.length_cons, n1]
      · rw [x] at h58
        simp (disch := omega) only [ax_let, Option.bind_some, cond_true, cond_false, if_pos, if_neg, if_true, if_false, eq_self, nI_add, nI_ltI, nI_leI, nI_eq, nI_clamp, pu_in, c_0, c_1, c_2, c_3, c_4, c_5, c_6, c_7, c_8, c_9, c_10, c_11, c_12, c_15, c_16, c_17, c_32, c_35, c_36, c_38, c_40, c_41, c_42, c_43, c_44, c_45, c_48, c_57, c_58, c_59, c_60, c_61, c_62, c_64, c_65, c_69, c_75, c_83, c_91, c_93, c_94, c_97, c_105, c_106, c_110, c_119, c_123, c_124, c_125, c_126, c_240, c_256, c_400, c_m, nI_m1, nM_i, lN_add, lN_mul, lN_i, nI_l, lN_eq, lgN_le, lgN_lt, lgN_ge, lgN_gt, nI_sub, nI_mul, d_0, d_1, c_13, c_14, c_18, c_19, c_20, c_21, c_22, c_23, c_24, c_25, c_26, c_27, c_28, c_29, c_30, c_31, c_33, c_34, c_37, c_39, c_46, c_47, c_49, c_50, c_51, c_52, c_53, c_54, c_55, c_56, c_63, c_66, c_67, c_68, c_70, c_71, c_72, c_73, c_74, c_76, c_77, c_78, c_79, c_80, c_81, c_82, c_84, c_85, c_86, c_87, c_88, c_89, c_90, c_92, c_95, c_96, c_98, c_99, c_100, c_101, c_102, c_103, c_104, c_107, c_108, c_109, c_111, c_112, c_113, c_114, c_115, c_116, c_117, c_118, c_120, c_121, c_122, c_127, c_280, d_2, d_3, d_4, d_8, d_9, d_10, d_15, d_16, d_32, d_48, d_62, d_63, d_64, h55, h58, ite_some, List.length_cons, n1]
  · by_cases h7 : o.1 ≤ 7
    · obtain ⟨a, t, rfl, rfl⟩ := hh.2.1 (by omega)
      clear hh
      rw [List.length_cons] at hl
      obtain ⟨t1, t2, t3⟩ := hst.top
      have hb1 := hB.1
      have hb2 := hB.2 a (List.mem_cons_self ..)
      have hb1 : a.2.1 + sN t ≤ q := hb1
      refine ⟨gW t.length (aOver a) s, ?_, hst.pop.push, ?_, gW_f⟩
      · rw [lp_Z_gauge_9, List.length_cons]
        unfold gW aOver
        by_cases hu : a.1 = 0
        · rw [if_pos hu] at t3
          rw [if_pos hu, if_pos (show ((0, 1, 1) : At).1 = 0 from rfl)]
          rcases (show o.1 = 6 ∨ o.1 = 7 by omega) with x | x
          · rw [x] at h58
            simp (disch := omega) only [ax_let, Option.bind_some, cond_true, cond_false, if_pos, if_neg, if_true, if_false, eq_self, nI_add, nI_ltI, nI_leI, nI_eq, nI_clamp, pu_in, c_0, c_1, c_2, c_3, c_4, c_5, c_6, c_7, c_8, c_9, c_10, c_11, c_12, c_15, c_16, c_17, c_32, c_35, c_36, c_38, c_40, c_41, c_42, c_43, c_44, c_45, c_48, c_57, c_58, c_59, c_60, c_61, c_62, c_64, c_65, c_69, c_75, c_83, c_91, c_93, c_94, c_97, c_105, c_106, c_110, c_119, c_123, c_124, c_125, c_126, c_240, c_256, c_400, c_m, nI_m1, nM_i, lN_add, lN_mul, lN_i, nI_l, lN_eq, lgN_le, lgN_lt, lgN_ge, lgN_gt, nI_sub, nI_mul, d_0, d_1, c_13, c_14, c_18, c_19, c_20, c_21, c_22, c_23, c_24, c_25, c_26, c_27, c_28, c_29, c_30, c_31, c_33, c_34, c_37, c_39, c_46, c_47, c_49, c_50, c_51, c_52, c_53, c_54, c_55, c_56, c_63, c_66, c_67, c_68, c_70, c_71, c_72, c_73, c_74, c_76, c_77, c_78, c_79, c_80, c_81, c_82, c_84, c_85, c_86, c_87, c_88, c_89, c_90, c_92, c_95, c_96, c_98, c_99, c_100, c_101, c_102, c_103, c_104, c_107, c_108, c_109, c_111, c_112, c_113, c_114, c_115, c_116, c_117, c_118, c_120, c_121, c_122, c_127, c_280, d_2, d_3, d_4, d_8, d_9, d_10, d_15, d_16, d_32, d_48, d_62, d_63, d_64, h55, h58, t1, t2, t3, ite_some, List.length_cons, n1, nI_sub, Nat.add_sub_cancel]
          · rw [x] at h58
            simp (disch := omega) only [ax_let, Option.bind_some, cond_true, cond_false, if_pos, if_neg, if_true, if_false, eq_self, nI_add, nI_ltI, nI_leI, nI_eq, nI_clamp, pu_in, c_0, c_1, c_2, c_3, c_4, c_5, c_6, c_7, c_8, c_9, c_10, c_11, c_12, c_15, c_16, c_17, c_32, c_35, c_36, c_38, c_40, c_41, c_42, c_43, c_44, c_45, c_48, c_57, c_58, c_59, c_60, c_61, c_62, c_64, c_65, c_69, c_75, c_83, c_91, c_93, c_94, c_97, c_105, c_106, c_110, c_119, c_123, c_124, c_125, c_126, c_240, c_256, c_400, c_m, nI_m1, nM_i, lN_add, lN_mul, lN_i, nI_l, lN_eq, lgN_le, lgN_lt, lgN_ge, lgN_gt, nI_sub, nI_mul, d_0, d_1, c_13, c_14, c_18, c_19, c_20, c_21, c_22, c_23, c_24, c_25, c_26, c_27, c_28, c_29, c_30, c_31, c_33, c_34, c_37, c_39, c_46, c_47, c_49, c_50, c_51, c_52, c_53, c_54, c_55, c_56, c_63, c_66, c_67, c_68, c_70, c_71, c_72, c_73, c_74, c_76, c_77, c_78, c_79, c_80, c_81, c_82, c_84, c_85, c_86, c_87, c_88, c_89, c_90, c_92, c_95, c_96, c_98, c_99, c_100, c_101, c_102, c_103, c_104, c_107, c_108, c_109, c_111, c_112, c_113, c_114, c_115, c_116, c_117, c_118, c_120, c_121, c_122, c_127, c_280, d_2, d_3, d_4, d_8, d_9, d_10, d_15, d_16, d_32, d_48, d_62, d_63, d_64, h55, h58, t1, t2, t3, ite_some, List.length_cons, n1, nI_sub, Nat.add_sub_cancel]
        · rw [if_neg hu] at t3
          rw [if_neg hu, if_neg (show ¬ ((a.1, a.2.1 + 1, max 1 a.2.2) : At).1 = 0 from hu)]
          have em : max 1 a.2.2 = if 1 ≤ a.2.2 then a.2.2 else 1 := by split <;> omega
          have ec : a.2.1 + 1 = 1 + a.2.1 := Nat.add_comm _ _
          simp only [em, ec]
          by_cases h1 : 1 ≤ a.2.2
          · rw [if_pos h1]
            rcases (show o.1 = 6 ∨ o.1 = 7 by omega) with x | x
            · rw [x] at h58
              simp (disch := omega) only [ax_let, Option.bind_some, cond_true, cond_false, if_pos, if_neg, if_true, if_false, eq_self, nI_add, nI_ltI, nI_leI, nI_eq, nI_clamp, pu_in, c_0, c_1, c_2, c_3, c_4, c_5, c_6, c_7, c_8, c_9, c_10, c_11, c_12, c_15, c_16, c_17, c_32, c_35, c_36, c_38, c_40, c_41, c_42, c_43, c_44, c_45, c_48, c_57, c_58, c_59, c_60, c_61, c_62, c_64, c_65, c_69, c_75, c_83, c_91, c_93, c_94, c_97, c_105, c_106, c_110, c_119, c_123, c_124, c_125, c_126, c_240, c_256, c_400, c_m, nI_m1, nM_i, lN_add, lN_mul, lN_i, nI_l, lN_eq, lgN_le, lgN_lt, lgN_ge, lgN_gt, nI_sub, nI_mul, d_0, d_1, c_13, c_14, c_18, c_19, c_20, c_21, c_22, c_23, c_24, c_25, c_26, c_27, c_28, c_29, c_30, c_31, c_33, c_34, c_37, c_39, c_46, c_47, c_49, c_50, c_51, c_52, c_53, c_54, c_55, c_56, c_63, c_66, c_67, c_68, c_70, c_71, c_72, c_73, c_74, c_76, c_77, c_78, c_79, c_80, c_81, c_82, c_84, c_85, c_86, c_87, c_88, c_89, c_90, c_92, c_95, c_96, c_98, c_99, c_100, c_101, c_102, c_103, c_104, c_107, c_108, c_109, c_111, c_112, c_113, c_114, c_115, c_116, c_117, c_118, c_120, c_121, c_122, c_127, c_280, d_2, d_3, d_4, d_8, d_9, d_10, d_15, d_16, d_32, d_48, d_62, d_63, d_64, h55, h58, t1, t2, t3, ite_some, List.length_cons, n0, nI_sub, Nat.add_sub_cancel]
            · rw [x] at h58
              simp (disch := omega) only [ax_let, Option.bind_some, cond_true, cond_false, if_pos, if_neg, if_true, if_false, eq_self, nI_add, nI_ltI, nI_leI, nI_eq, nI_clamp, pu_in, c_0, c_1, c_2, c_3, c_4, c_5, c_6, c_7, c_8, c_9, c_10, c_11, c_12, c_15, c_16, c_17, c_32, c_35, c_36, c_38, c_40, c_41, c_42, c_43, c_44, c_45, c_48, c_57, c_58, c_59, c_60, c_61, c_62, c_64, c_65, c_69, c_75, c_83, c_91, c_93, c_94, c_97, c_105, c_106, c_110, c_119, c_123, c_124, c_125, c_126, c_240, c_256, c_400, c_m, nI_m1, nM_i, lN_add, lN_mul, lN_i, nI_l, lN_eq, lgN_le, lgN_lt, lgN_ge, lgN_gt, nI_sub, nI_mul, d_0, d_1, c_13, c_14, c_18, c_19, c_20, c_21, c_22, c_23, c_24, c_25, c_26, c_27, c_28, c_29, c_30, c_31, c_33, c_34, c_37, c_39, c_46, c_47, c_49, c_50, c_51, c_52, c_53, c_54, c_55, c_56, c_63, c_66, c_67, c_68, c_70, c_71, c_72, c_73, c_74, c_76, c_77, c_78, c_79, c_80, c_81, c_82, c_84, c_85, c_86, c_87, c_88, c_89, c_90, c_92, c_95, c_96, c_98, c_99, c_100, c_101, c_102, c_103, c_104, c_107, c_108, c_109, c_111, c_112, c_113, c_114, c_115, c_116, c_117, c_118, c_120, c_121, c_122, c_127, c_280, d_2, d_3, d_4, d_8, d_9, d_10, d_15, d_16, d_32, d_48, d_62, d_63, d_64, h55, h58, t1, t2, t3, ite_some, List.length_cons, n0, nI_sub, Nat.add_sub_cancel]
          · rw [if_neg h1]
            rcases (show o.1 = 6 ∨ o.1 = 7 by omega) with x | x
            · rw [x] at h58
              simp (disch := omega) only [ax_let, Option.bind_some, cond_true, cond_false, if_pos, if_neg, if_true, if_false, eq_self, nI_add, nI_ltI, nI_leI, nI_eq, nI_clamp, pu_in, c_0, c_1, c_2, c_3, c_4, c_5, c_6, c_7, c_8, c_9, c_10, c_11, c_12, c_15, c_16, c_17, c_32, c_35, c_36, c_38, c_40, c_41, c_42, c_43, c_44, c_45, c_48, c_57, c_58, c_59, c_60, c_61, c_62, c_64, c_65, c_69, c_75, c_83, c_91, c_93, c_94, c_97, c_105, c_106, c_110, c_119, c_123, c_124, c_125, c_126, c_240, c_256, c_400, c_m, nI_m1, nM_i, lN_add, lN_mul, lN_i, nI_l, lN_eq, lgN_le, lgN_lt, lgN_ge, lgN_gt, nI_sub, nI_mul, d_0, d_1, c_13, c_14, c_18, c_19, c_20, c_21, c_22, c_23, c_24, c_25, c_26, c_27, c_28, c_29, c_30, c_31, c_33, c_34, c_37, c_39, c_46, c_47, c_49, c_50, c_51, c_52, c_53, c_54, c_55, c_56, c_63, c_66, c_67, c_68, c_70, c_71, c_72, c_73, c_74, c_76, c_77, c_78, c_79, c_80, c_81, c_82, c_84, c_85, c_86, c_87, c_88, c_89, c_90, c_92, c_95, c_96, c_98, c_99, c_100, c_101, c_102, c_103, c_104, c_107, c_108, c_109, c_111, c_112, c_113, c_114, c_115, c_116, c_117, c_118, c_120, c_121, c_122, c_127, c_280, d_2, d_3, d_4, d_8, d_9, d_10, d_15, d_16, d_32, d_48, d_62, d_63, d_64, h55, h58, t1, t2, t3, ite_some, List.length_cons, n0, nI_sub, Nat.add_sub_cancel]
            · rw [x] at h58
              simp (disch := omega) only [ax_let, Option.bind_some, cond_true, cond_false, if_pos, if_neg, if_true, if_false, eq_self, nI_add, nI_ltI, nI_leI, nI_eq, nI_clamp, pu_in, c_0, c_1, c_2, c_3, c_4, c_5, c_6, c_7, c_8, c_9, c_10, c_11, c_12, c_15, c_16, c_17, c_32, c_35, c_36, c_38, c_40, c_41, c_42, c_43, c_44, c_45, c_48, c_57, c_58, c_59, c_60, c_61, c_62, c_64, c_65, c_69, c_75, c_83, c_91, c_93, c_94, c_97, c_105, c_106, c_110, c_119, c_123, c_124, c_125, c_126, c_240, c_256, c_400, c_m, nI_m1, nM_i, lN_add, lN_mul, lN_i, nI_l, lN_eq, lgN_le, lgN_lt, lgN_ge, lgN_gt, nI_sub, nI_mul, d_0, d_1, c_13, c_14, c_18, c_19, c_20, c_21, c_22, c_23, c_24, c_25, c_26, c_27, c_28, c_29, c_30, c_31, c_33, c_34, c_37, c_39, c_46, c_47, c_49, c_50, c_51, c_52, c_53, c_54, c_55, c_56, c_63, c_66, c_67, c_68, c_70, c_71, c_72, c_73, c_74, c_76, c_77, c_78, c_79, c_80, c_81, c_82, c_84, c_85, c_86, c_87, c_88, c_89, c_90, c_92, c_95, c_96, c_98, c_99, c_100, c_101, c_102, c_103, c_104, c_107, c_108, c_109, c_111, c_112, c_113, c_114, c_115, c_116, c_117, c_118, c_120, c_121, c_122, c_127, c_280, d_2, d_3, d_4, d_8, d_9, d_10, d_15, d_16, d_32, d_48, d_62, d_63, d_64, h55, h58, t1, t2, t3, ite_some, List.length_cons, n0, nI_sub, Nat.add_sub_cancel]
      · unfold aOver
        split
        · refine ⟨by show 1 + sN t ≤ q + 1; omega, fun b hb => ?_⟩
          cases hb with
          | head => show 1 ≤ q + 1; omega
          | tail _ hb => have := hB.2 b (List.mem_cons_of_mem _ hb); omega
        · refine ⟨by show a.2.1 + 1 + sN t ≤ q + 1; omega, fun b hb => ?_⟩
          cases hb with
          | head => show max 1 a.2.2 ≤ q + 1; omega
          | tail _ hb => have := hB.2 b (List.mem_cons_of_mem _ hb); omega
    · obtain ⟨a, b, t, rfl, rfl⟩ := hh.2.2 (by omega)
      clear hh
      rw [List.length_cons, List.length_cons] at hl
      have x : o.1 = 8 := by omega
      rw [x] at h58
      obtain ⟨t1, t2, t3⟩ := hst.top
      obtain ⟨u1, u2, u3⟩ := hst.pop.top
      rw [List.length_cons] at t1 t2 t3
      have hb1 : b.2.1 + (a.2.1 + sN t) ≤ q := hB.1
      have hb2 := hB.2 b (List.mem_cons_self ..)
      have hb3 := hB.2 a (List.mem_cons_of_mem _ (List.mem_cons_self ..))
      have e2 : nI (t.length + 1 + 1) - nI 2 = nI t.length := by rw [nI_sub (by omega)]; rfl
      refine ⟨gW t.length (aPair a b) s, ?_, hst.pop.pop.push, ?_, gW_f⟩
      · rw [lp_Z_gauge_9, List.length_cons, List.length_cons]
        unfold gW aPair
        by_cases hu : a.1 ||| b.1 = 0
        · have hua : a.1 = 0 := by have := Nat.left_le_or (n := a.1) (m := b.1); omega
          have hub : b.1 = 0 := by have := Nat.right_le_or (n := a.1) (m := b.1); omega
          rw [if_pos hub] at t3
          rw [if_pos hua] at u3
          rw [if_pos hu, if_pos (show ((0, 1, 1) : At).1 = 0 from rfl)]
          simp (disch := omega) only [ax_let, Option.bind_some, cond_true, cond_false, if_pos, if_neg, if_true, if_false, eq_self, nI_add, nI_ltI, nI_leI, nI_eq, nI_clamp, pu_in, c_0, c_1, c_2, c_3, c_4, c_5, c_6, c_7, c_8, c_9, c_10, c_11, c_12, c_15, c_16, c_17, c_32, c_35, c_36, c_38, c_40, c_41, c_42, c_43, c_44, c_45, c_48, c_57, c_58, c_59, c_60, c_61, c_62, c_64, c_65, c_69, c_75, c_83, c_91, c_93, c_94, c_97, c_105, c_106, c_110, c_119, c_123, c_124, c_125, c_126, c_240, c_256, c_400, c_m, nI_m1, nM_i, lN_add, lN_mul, lN_i, nI_l, lN_eq, lgN_le, lgN_lt, lgN_ge, lgN_gt, nI_sub, nI_mul, d_0, d_1, c_13, c_14, c_18, c_19, c_20, c_21, c_22, c_23, c_24, c_25, c_26, c_27, c_28, c_29, c_30, c_31, c_33, c_34, c_37, c_39, c_46, c_47, c_49, c_50, c_51, c_52, c_53, c_54, c_55, c_56, c_63, c_66, c_67, c_68, c_70, c_71, c_72, c_73, c_74, c_76, c_77, c_78, c_79, c_80, c_81, c_82, c_84, c_85, c_86, c_87, c_88, c_89, c_90, c_92, c_95, c_96, c_98, c_99, c_100, c_101, c_102, c_103, c_104, c_107, c_108, c_109, c_111, c_112, c_113, c_114, c_115, c_116, c_117, c_118, c_120, c_121, c_122, c_127, c_280, d_2, d_3, d_4, d_8, d_9, d_10, d_15, d_16, d_32, d_48, d_62, d_63, d_64, h55, h58, t1, t2, t3, u1, u2, u3, ite_some, List.length_cons, n1, e2]
        · rw [if_neg hu, if_neg (show ¬ ((a.1 ||| b.1, a.2.1 + b.2.1 + 1, if a.2.2 = b.2.2 then a.2.2 + 1 else max a.2.2 b.2.2) : At).1 = 0 from hu)]
          have ec : a.2.1 + b.2.1 + 1 = 1 + a.2.1 + b.2.1 := by omega
          have em : (if a.2.2 = b.2.2 then a.2.2 + 1 else max a.2.2 b.2.2) = if a.2.2 = b.2.2 then a.2.2 + 1 else if a.2.2 ≤ b.2.2 then b.2.2 else a.2.2 := by
            split
            · rfl
            · split <;> omega
          simp only [em, ec]
          have hst3 : ¬ (a.1 = 0 ∧ b.1 = 0) := fun h => hu (by rw [h.1, h.2]; rfl)
          by_cases hua : a.1 = 0
          · have hub : ¬ b.1 = 0 := fun h => hst3 ⟨hua, h⟩
            rw [if_neg hub] at t3
            rw [if_pos hua] at u3
            by_cases k1 : a.2.2 = b.2.2
            · rw [if_pos k1]
              simp (disch := omega) only [ax_let, Option.bind_some, cond_true, cond_false, if_pos, if_neg, if_true, if_false, eq_self, nI_add, nI_ltI, nI_leI, nI_eq, nI_clamp, pu_in, c_0, c_1, c_2, c_3, c_4, c_5, c_6, c_7, c_8, c_9, c_10, c_11, c_12, c_15, c_16, c_17, c_32, c_35, c_36, c_38, c_40, c_41, c_42, c_43, c_44, c_45, c_48, c_57, c_58, c_59, c_60, c_61, c_62, c_64, c_65, c_69, c_75, c_83, c_91, c_93, c_94, c_97, c_105, c_106, c_110, c_119, c_123, c_124, c_125, c_126, c_240, c_256, c_400, c_m, nI_m1, nM_i, lN_add, lN_mul, lN_i, nI_l, lN_eq, lgN_le, lgN_lt, lgN_ge, lgN_gt, nI_sub, nI_mul, d_0, d_1, c_13, c_14, c_18, c_19, c_20, c_21, c_22, c_23, c_24, c_25, c_26, c_27, c_28, c_29, c_30, c_31, c_33, c_34, c_37, c_39, c_46, c_47, c_49, c_50, c_51, c_52, c_53, c_54, c_55, c_56, c_63, c_66, c_67, c_68, c_70, c_71, c_72, c_73, c_74, c_76, c_77, c_78, c_79, c_80, c_81, c_82, c_84, c_85, c_86, c_87, c_88, c_89, c_90, c_92, c_95, c_96, c_98, c_99, c_100, c_101, c_102, c_103, c_104, c_107, c_108, c_109, c_111, c_112, c_113, c_114, c_115, c_116, c_117, c_118, c_120, c_121, c_122, c_127, c_280, d_2, d_3, d_4, d_8, d_9, d_10, d_15, d_16, d_32, d_48, d_62, d_63, d_64, h55, h58, t1, t2, t3, u1, u2, u3, ite_some, List.length_cons, n0, e2]
            · rw [if_neg k1]
              by_cases k2 : a.2.2 ≤ b.2.2
              · rw [if_pos k2]
                simp (disch := omega) only [ax_let, Option.bind_some, cond_true, cond_false, if_pos, if_neg, if_true, if_false, eq_self, nI_add, nI_ltI, nI_leI, nI_eq, nI_clamp, pu_in, c_0, c_1, c_2, c_3, c_4, c_5, c_6, c_7, c_8, c_9, c_10, c_11, c_12, c_15, c_16, c_17, c_32, c_35, c_36, c_38, c_40, c_41, c_42, c_43, c_44, c_45, c_48, c_57, c_58, c_59, c_60, c_61, c_62, c_64, c_65, c_69, c_75, c_83, c_91, c_93, c_94, c_97, c_105, c_106, c_110, c_119, c_123, c_124, c_125, c_126, c_240, c_256, c_400, c_m, nI_m1, nM_i, lN_add, lN_mul, lN_i, nI_l, lN_eq, lgN_le, lgN_lt, lgN_ge, lgN_gt, nI_sub, nI_mul, d_0, d_1, c_13, c_14, c_18, c_19, c_20, c_21, c_22, c_23, c_24, c_25, c_26, c_27, c_28, c_29, c_30, c_31, c_33, c_34, c_37, c_39, c_46, c_47, c_49, c_50, c_51, c_52, c_53, c_54, c_55, c_56, c_63, c_66, c_67, c_68, c_70, c_71, c_72, c_73, c_74, c_76, c_77, c_78, c_79, c_80, c_81, c_82, c_84, c_85, c_86, c_87, c_88, c_89, c_90, c_92, c_95, c_96, c_98, c_99, c_100, c_101, c_102, c_103, c_104, c_107, c_108, c_109, c_111, c_112, c_113, c_114, c_115, c_116, c_117, c_118, c_120, c_121, c_122, c_127, c_280, d_2, d_3, d_4, d_8, d_9, d_10, d_15, d_16, d_32, d_48, d_62, d_63, d_64, h55, h58, t1, t2, t3, u1, u2, u3, ite_some, List.length_cons, n0, e2]
              · rw [if_neg k2]
                simp (disch := omega) only [ax_let, Option.bind_some, cond_true, cond_false, if_pos, if_neg, if_true, if_false, eq_self, nI_add, nI_ltI, nI_leI, nI_eq, nI_clamp, pu_in, c_0, c_1, c_2, c_3, c_4, c_5, c_6, c_7, c_8, c_9, c_10, c_11, c_12, c_15, c_16, c_17, c_32, c_35, c_36, c_38, c_40, c_41, c_42, c_43, c_44, c_45, c_48, c_57, c_58, c_59, c_60, c_61, c_62, c_64, c_65, c_69, c_75, c_83, c_91, c_93, c_94, c_97, c_105, c_106, c_110, c_119, c_123, c_124, c_125, c_126, c_240, c_256, c_400, c_m, nI_m1, nM_i, lN_add, lN_mul, lN_i, nI_l, lN_eq, lgN_le, lgN_lt, lgN_ge, lgN_gt, nI_sub, nI_mul, d_0, d_1, c_13, c_14, c_18, c_19, c_20, c_21, c_22, c_23, c_24, c_25, c_26, c_27, c_28, c_29, c_30, c_31, c_33, c_34, c_37, c_39, c_46, c_47, c_49, c_50, c_51, c_52, c_53, c_54, c_55, c_56, c_63, c_66, c_67, c_68, c_70, c_71, c_72, c_73, c_74, c_76, c_77, c_78, c_79, c_80, c_81, c_82, c_84, c_85, c_86, c_87, c_88, c_89, c_90, c_92, c_95, c_96, c_98, c_99, c_100, c_101, c_102, c_103, c_104, c_107, c_108, c_109, c_111, c_112, c_113, c_114, c_115, c_116, c_117, c_118, c_120, c_121, c_122, c_127, c_280, d_2, d_3, d_4, d_8, d_9, d_10, d_15, d_16, d_32, d_48, d_62, d_63, d_64, h55, h58, t1, t2, t3, u1, u2, u3, ite_some, List.length_cons, n0, e2]
          · rw [if_neg hua] at u3
            by_cases k1 : a.2.2 = b.2.2
            · rw [if_pos k1]
              simp (disch := omega) only [ax_let, Option.bind_some, cond_true, cond_false, if_pos, if_neg, if_true, if_false, eq_self, nI_add, nI_ltI, nI_leI, nI_eq, nI_clamp, pu_in, c_0, c_1, c_2, c_3, c_4, c_5, c_6, c_7, c_8, c_9, c_10, c_11, c_12, c_15, c_16, c_17, c_32, c_35, c_36, c_38, c_40, c_41, c_42, c_43, c_44, c_45, c_48, c_57, c_58, c_59, c_60, c_61, c_62, c_64, c_65, c_69, c_75, c_83, c_91, c_93, c_94, c_97, c_105, c_106, c_110, c_119, c_123, c_124, c_125, c_126, c_240, c_256, c_400, c_m, nI_m1, nM_i, lN_add, lN_mul, lN_i, nI_l, lN_eq, lgN_le, lgN_lt, lgN_ge, lgN_gt, nI_sub, nI_mul, d_0, d_1, c_13, c_14, c_18, c_19, c_20, c_21, c_22, c_23, c_24, c_25, c_26, c_27, c_28, c_29, c_30, c_31, c_33, c_34, c_37, c_39, c_46, c_47, c_49, c_50, c_51, c_52, c_53, c_54, c_55, c_56, c_63, c_66, c_67, c_68, c_70, c_71, c_72, c_73, c_74, c_76, c_77, c_78, c_79, c_80, c_81, c_82, c_84, c_85, c_86, c_87, c_88, c_89, c_90, c_92, c_95, c_96, c_98, c_99, c_100, c_101, c_102, c_103, c_104, c_107, c_108, c_109, c_111, c_112, c_113, c_114, c_115, c_116, c_117, c_118, c_120, c_121, c_122, c_127, c_280, d_2, d_3, d_4, d_8, d_9, d_10, d_15, d_16, d_32, d_48, d_62, d_63, d_64, h55, h58, t1, t2, u1, u2, u3, ite_some, List.length_cons, n0, e2]
            · rw [if_neg k1]
              by_cases k2 : a.2.2 ≤ b.2.2
              · rw [if_pos k2]
                simp (disch := omega) only [ax_let, Option.bind_some, cond_true, cond_false, if_pos, if_neg, if_true, if_false, eq_self, nI_add, nI_ltI, nI_leI, nI_eq, nI_clamp, pu_in, c_0, c_1, c_2, c_3, c_4, c_5, c_6, c_7, c_8, c_9, c_10, c_11, c_12, c_15, c_16, c_17, c_32, c_35, c_36, c_38, c_40, c_41, c_42, c_43, c_44, c_45, c_48, c_57, c_58, c_59, c_60, c_61, c_62, c_64, c_65, c_69, c_75, c_83, c_91, c_93, c_94, c_97, c_105, c_106, c_110, c_119, c_123, c_124, c_125, c_126, c_240, c_256, c_400, c_m, nI_m1, nM_i, lN_add, lN_mul, lN_i, nI_l, lN_eq, lgN_le, lgN_lt, lgN_ge, lgN_gt, nI_sub, nI_mul, d_0, d_1, c_13, c_14, c_18, c_19, c_20, c_21, c_22, c_23, c_24, c_25, c_26, c_27, c_28, c_29, c_30, c_31, c_33, c_34, c_37, c_39, c_46, c_47, c_49, c_50, c_51, c_52, c_53, c_54, c_55, c_56, c_63, c_66, c_67, c_68, c_70, c_71, c_72, c_73, c_74, c_76, c_77, c_78, c_79, c_80, c_81, c_82, c_84, c_85, c_86, c_87, c_88, c_89, c_90, c_92, c_95, c_96, c_98, c_99, c_100, c_101, c_102, c_103, c_104, c_107, c_108, c_109, c_111, c_112, c_113, c_114, c_115, c_116, c_117, c_118, c_120, c_121, c_122, c_127, c_280, d_2, d_3, d_4, d_8, d_9, d_10, d_15, d_16, d_32, d_48, d_62, d_63, d_64, h55, h58, t1, t2, u1, u2, u3, ite_some, List.length_cons, n0, e2]
              · rw [if_neg k2]
                simp (disch := omega) only [ax_let, Option.bind_some, cond_true, cond_false, if_pos, if_neg, if_true, if_false, eq_self, nI_add, nI_ltI, nI_leI, nI_eq, nI_clamp, pu_in, c_0, c_1, c_2, c_3, c_4, c_5, c_6, c_7, c_8, c_9, c_10, c_11, c_12, c_15, c_16, c_17, c_32, c_35, c_36, c_38, c_40, c_41, c_42, c_43, c_44, c_45, c_48, c_57, c_58, c_59, c_60, c_61, c_62, c_64, c_65, c_69, c_75, c_83, c_91, c_93, c_94, c_97, c_105, c_106, c_110, c_119, c_123, c_124, c_125, c_126, c_240, c_256, c_400, c_m, nI_m1, nM_i, lN_add, lN_mul, lN_i, nI_l, lN_eq, lgN_le, lgN_lt, lgN_ge, lgN_gt, nI_sub, nI_mul, d_0, d_1, c_13, c_14, c_18, c_19, c_20, c_21, c_22, c_23, c_24, c_25, c_26, c_27, c_28, c_29, c_30, c_31, c_33, c_34, c_37, c_39, c_46, c_47, c_49, c_50, c_51, c_52, c_53, c_54, c_55, c_56, c_63, c_66, c_67, c_68, c_70, c_71, c_72, c_73, c_74, c_76, c_77, c_78, c_79, c_80, c_81, c_82, c_84, c_85, c_86, c_87, c_88, c_89, c_90, c_92, c_95, c_96, c_98, c_99, c_100, c_101, c_102, c_103, c_104, c_107, c_108, c_109, c_111, c_112, c_113, c_114, c_115, c_116, c_117, c_118, c_120, c_121, c_122, c_127, c_280, d_2, d_3, d_4, d_8, d_9, d_10, d_15, d_16, d_32, d_48, d_62, d_63, d_64, h55, h58, t1, t2, u1, u2, u3, ite_some, List.length_cons, n0, e2]
      · unfold aPair
        split
        · refine ⟨by show 1 + sN t ≤ q + 1; omega, fun c hc => ?_⟩
          cases hc with
          | head => show 1 ≤ q + 1; omega
          | tail _ hc => have := hB.2 c (List.mem_cons_of_mem _ (List.mem_cons_of_mem _ hc)); omega
        · refine ⟨by show a.2.1 + b.2.1 + 1 + sN t ≤ q + 1; omega, fun c hc => ?_⟩
          cases hc with
          | head => show (if a.2.2 = b.2.2 then a.2.2 + 1 else max a.2.2 b.2.2) ≤ q + 1; split <;> omega
          | tail _ hc => have := hB.2 c (List.mem_cons_of_mem _ (List.mem_cons_of_mem _ hc)); omega
theorem g_run {F k e : Nat} (hk : k < 240) (he : e ≤ 240) : ∀ (l : List Op) (h kk q M oi : Nat) (st : List At) (s : ax_σ), oi + l.length = e → q + l.length ≤ 240 → st.length = h → h ≤ 13 → hw 13 h l = some kk → (∀ o ∈ l, 1 ≤ o.1 ∧ o.1 ≤ 8) → s.1 0 55 k = nI e → (∀ j o, l[j]? = some o → s.1 0 58 (oi + j) = nI o.1) → gS st s → skB q st → ∃ s', lp_Z_gauge_9 F (nI k) (M + l.length) (nI st.length) (nI oi) s = lp_Z_gauge_9 F (nI k) M (nI (aRun l st).length) (nI e) s' ∧ gS (aRun l st) s' ∧ skB (q + l.length) (aRun l st) ∧ frm X76 s s'
  | [], h, kk, q, M, oi, st, s, h1, _, _, _, _, _, _, _, hs, hB => by
    rw [List.length_nil, Nat.add_zero] at h1
    exact ⟨s, by rw [h1]; rfl, hs, hB, frm.refl⟩
  | o :: l, h, kk, q, M, oi, st, s, h1, hq, h2, h3, hh, ho, h55, h58, hs, hB => by
    rw [List.length_cons] at h1 hq
    have ho1 := ho o (List.mem_cons_self ..)
    have key : ∃ h', hw 13 h' l = some kk ∧ (aOp o st).length = h' ∧ h' ≤ 13 ∧ ((o.1 ≤ 5 → st.length < 13 ∧ aOp o st = aOp o st) ∧ (o.1 = 6 ∨ o.1 = 7 → ∃ a t, st = a :: t ∧ aOp o st = aOver a :: t) ∧ (o.1 = 8 → ∃ a b t, st = b :: a :: t ∧ aOp o st = aPair a b :: t)) := by
      rw [hw] at hh
      by_cases h5 : o.1 ≤ 5
      · rw [if_pos h5] at hh
        by_cases hB : h < 13
        · rw [if_pos hB] at hh
          refine ⟨h + 1, hh, ?_, by omega, fun _ => ⟨by omega, rfl⟩, fun e => by omega, fun e => by omega⟩
          unfold aOp
          by_cases x1 : o.1 = 1
          · rw [if_pos x1, List.length_cons, h2]
          · rw [if_neg x1]
            by_cases x2 : o.1 = 2 ∨ o.1 = 3
            · rw [if_pos x2, List.length_cons, h2]
            · rw [if_neg x2, if_pos (by omega), List.length_cons, h2]
        · rw [if_neg hB] at hh; cases hh
      · rw [if_neg h5] at hh
        by_cases h7 : o.1 ≤ 7
        · rw [if_pos h7] at hh
          by_cases hb : 1 ≤ h
          · rw [if_pos hb] at hh
            match st, h2 with
            | [], h2 => rw [List.length_nil] at h2; omega
            | a :: t, h2 =>
              have ea := aOp_over (a := a) (st := t) (show o.1 = 6 ∨ o.1 = 7 by omega)
              exact ⟨h, hh, by rw [ea]; exact h2, h3, fun e => by omega, fun _ => ⟨a, t, rfl, ea⟩, fun e => by omega⟩
          · rw [if_neg hb] at hh; cases hh
        · rw [if_neg h7] at hh
          by_cases hb : 2 ≤ h
          · rw [if_pos hb] at hh
            match st, h2 with
            | [], h2 => rw [List.length_nil] at h2; omega
            | [_], h2 => rw [List.length_singleton] at h2; omega
            | b :: a :: t, h2 =>
              have ea := aOp_pair (a := a) (b := b) (st := t) (show o.1 = 8 by omega)
              rw [List.length_cons, List.length_cons] at h2
              exact ⟨h - 1, hh, by rw [ea, List.length_cons]; omega, by omega, fun e => by omega, fun e => by omega, fun _ => ⟨a, b, t, rfl, ea⟩⟩
          · rw [if_neg hb] at hh; cases hh
    obtain ⟨h', k1, k2, k3, k4⟩ := key
    have h58o := h58 0 o rfl
    rw [Nat.add_zero] at h58o
    obtain ⟨s1, a1, a2, a3, a4⟩ := g_step (F := F) (M := M + l.length) hk he (show oi < e by omega) h55 h58o ho1 (show q ≤ 240 by omega) hs hB k4 (by omega)
    obtain ⟨s2, b1, b2, b3, b4⟩ := g_run (F := F) hk he l h' kk (q + 1) M (oi + 1) (aOp o st) s1 (by omega) (by omega) k2 k3 k1 (fun o ho' => ho o (List.mem_cons_of_mem _ ho')) ((a4.1 _ _ _ (by unfold X76; omega)).trans h55) (fun j x hj => by
      rw [show oi + 1 + j = oi + (j + 1) from by omega]
      exact (a4.1 _ _ _ (by unfold X76; omega)).trans (h58 (j + 1) x hj)) a2 a3
    refine ⟨s2, ?_, b2, by rw [List.length_cons, show q + (l.length + 1) = q + 1 + l.length from by omega]; exact b3, a4.trans b4⟩
    rw [List.length_cons, ← Nat.add_assoc, a1, b1]
    rfl
theorem aOf_1 {w : List Nat} {e : List Op} (h : okE w e) : ∃ a : At, aRun e [] = [a] ∧ aOf e = a := by
  have hk : ∀ o ∈ e, 1 ≤ o.1 ∧ o.1 ≤ 8 := by
    intro o ho
    rcases h.1 o ho with ⟨a, -⟩ | ⟨a, -⟩ | ⟨a, -⟩ | ⟨a, -⟩ | ⟨a, -⟩ | ⟨a, -⟩ | ⟨a, -⟩ <;> omega
  obtain ⟨-, a2⟩ := or_run (B := 13) e 0 1 [] rfl hk h.2
  match hr : aRun e [], a2 with
  | [a], a2 => exact ⟨a, rfl, by unfold aOf; rw [hr]; rfl⟩
theorem okE_k {w : List Nat} {e : List Op} (h : okE w e) : ∀ o ∈ e, 1 ≤ o.1 ∧ o.1 ≤ 8 := by
  intro o ho
  rcases h.1 o ho with ⟨a, -⟩ | ⟨a, -⟩ | ⟨a, -⟩ | ⟨a, -⟩ | ⟨a, -⟩ | ⟨a, -⟩ | ⟨a, -⟩ <;> omega
def X7r (g r k : Nat) : Prop := X76 g r k ∨ (g = 0 ∧ r = 38 ∧ k = 64)
theorem z_gauge {F k rg : Nat} {D : Ds} {t : Th} {w : List Nat} {s : ax_σ} (hF : 300 ≤ F) (hB : DB D) (hk : (dH D)[k]? = some t) (hex : thk t = 1 ∨ thk t = 4 ∨ thk t = 5 ∨ thk t = 6) (hE : okE w (the t)) (hZ : ZX D s) (hr : s.1 0 38 64 = nI rg) (hr2 : rg < 2 ^ 31) : ∃ s', f_Z_gauge F (nI k) s = some (nI (aOf (the t)).2.1, s') ∧ s'.1 0 38 64 = nI (max rg (aOf (the t)).2.2) ∧ frm X7r s s' ∧ (aOf (the t)).2.1 ≤ 240 ∧ (aOf (the t)).2.2 ≤ 240 := by
  obtain ⟨-, -, -, -, -, y6, -⟩ := hZ.2.2.1 _ _ hk
  obtain ⟨y6, y7⟩ := y6 hex
  have hends := fm_len2 (f := the) hk
  have hB2 := hB.2.1
  have hlen := hB.1
  have hkl := get_lt hk
  have hend : oOff (dH D) k + (the t).length ≤ 240 := by unfold oOff; omega
  obtain ⟨a, ha, ha2⟩ := aOf_1 hE
  obtain ⟨s1, a1, a2, a3, a4⟩ := g_run (F := F) (k := k) (by omega) hend (the t) 0 1 0 (F - (the t).length - 1 + 1) (oOff (dH D) k) [] s rfl (by omega) rfl (by omega) hE.2 (okE_k hE) y7 (fun j o hj => by
    obtain ⟨t0, ⟨z1, -⟩, -⟩ := hZ.op hB hk hj
    exact z1) (fun p a hp => by cases hp) ⟨Nat.le_refl _, fun a ha => by cases ha⟩
  rw [show F - (the t).length - 1 + 1 + (the t).length = F from by omega, ha] at a1
  rw [ha] at a2 a3
  obtain ⟨t1, t2, t3⟩ := a2.top
  rw [List.length_nil] at t1 t2 t3
  have b1 : a.2.1 + 0 ≤ 0 + (the t).length := a3.1
  have b2 := a3.2 a (List.mem_cons_self ..)
  have w64 : s1.1 0 38 64 = nI rg := (a4.1 _ _ _ (by unfold X76; omega)).trans hr
  have w55 : s1.1 0 55 k = nI (oOff (dH D) k + (the t).length) := (a4.1 _ _ _ (by unfold X76; omega)).trans y7
  have hrun : lp_Z_gauge_9 F (nI k) F (nI 0) (nI (oOff (dH D) k)) s = some s1 := by
    have a1 : lp_Z_gauge_9 F (nI k) F (nI 0) (nI (oOff (dH D) k)) s = lp_Z_gauge_9 F (nI k) (F - (the t).length - 1 + 1) (nI 1) (nI (oOff (dH D) k + (the t).length)) s1 := a1
    rw [a1, lp_Z_gauge_9, pu_in (show k < 240 by omega) (by decide), cond_true, nI_clamp (show k < 2 ^ 31 by omega), w55, if_pos (Int32.le_refl _)]
  rw [ha2]
  refine ⟨ax_wI s1 0 38 64 (nI (max rg a.2.2)), ?_, by simp (disch := omega) only [wI_1, wI_2, wL_1, wL_2, true_and, and_true, and_self, false_and, and_false, if_true, if_false, if_pos, if_neg], (a4.imp (fun g r k h => Or.inl h)).wI _ _ _ _ (Or.inr ⟨rfl, rfl, rfl⟩), by omega, by omega⟩
  unfold f_Z_gauge
  clear hex
  by_cases hm : a.2.2 ≤ rg
  · rw [Nat.max_eq_left hm]
    simp (disch := omega) only [ax_let, Option.bind_some, cond_true, cond_false, if_pos, if_neg, if_true, if_false, eq_self, nI_add, nI_ltI, nI_leI, nI_eq, nI_clamp, pu_in, c_0, c_1, c_2, c_3, c_4, c_5, c_6, c_7, c_8, c_9, c_10, c_11, c_12, c_15, c_16, c_17, c_32, c_35, c_36, c_38, c_40, c_41, c_42, c_43, c_44, c_45, c_48, c_57, c_58, c_59, c_60, c_61, c_62, c_64, c_65, c_69, c_75, c_83, c_91, c_93, c_94, c_97, c_105, c_106, c_110, c_119, c_123, c_124, c_125, c_126, c_240, c_256, c_400, c_m, nI_m1, nM_i, lN_add, lN_mul, lN_i, nI_l, lN_eq, lgN_le, lgN_lt, lgN_ge, lgN_gt, nI_sub, nI_mul, d_0, d_1, c_13, c_14, c_18, c_19, c_20, c_21, c_22, c_23, c_24, c_25, c_26, c_27, c_28, c_29, c_30, c_31, c_33, c_34, c_37, c_39, c_46, c_47, c_49, c_50, c_51, c_52, c_53, c_54, c_55, c_56, c_63, c_66, c_67, c_68, c_70, c_71, c_72, c_73, c_74, c_76, c_77, c_78, c_79, c_80, c_81, c_82, c_84, c_85, c_86, c_87, c_88, c_89, c_90, c_92, c_95, c_96, c_98, c_99, c_100, c_101, c_102, c_103, c_104, c_107, c_108, c_109, c_111, c_112, c_113, c_114, c_115, c_116, c_117, c_118, c_120, c_121, c_122, c_127, c_280, d_2, d_3, d_4, d_8, d_9, d_10, d_15, d_16, d_32, d_48, d_62, d_63, d_64, wI_1, wI_2, wL_1, wL_2, true_and, and_true, and_self, false_and, and_false, if_true, if_false, y6, hrun, t2, w64, t1]
  · rw [Nat.max_eq_right (by omega)]
    simp (disch := omega) only [ax_let, Option.bind_some, cond_true, cond_false, if_pos, if_neg, if_true, if_false, eq_self, nI_add, nI_ltI, nI_leI, nI_eq, nI_clamp, pu_in, c_0, c_1, c_2, c_3, c_4, c_5, c_6, c_7, c_8, c_9, c_10, c_11, c_12, c_15, c_16, c_17, c_32, c_35, c_36, c_38, c_40, c_41, c_42, c_43, c_44, c_45, c_48, c_57, c_58, c_59, c_60, c_61, c_62, c_64, c_65, c_69, c_75, c_83, c_91, c_93, c_94, c_97, c_105, c_106, c_110, c_119, c_123, c_124, c_125, c_126, c_240, c_256, c_400, c_m, nI_m1, nM_i, lN_add, lN_mul, lN_i, nI_l, lN_eq, lgN_le, lgN_lt, lgN_ge, lgN_gt, nI_sub, nI_mul, d_0, d_1, c_13, c_14, c_18, c_19, c_20, c_21, c_22, c_23, c_24, c_25, c_26, c_27, c_28, c_29, c_30, c_31, c_33, c_34, c_37, c_39, c_46, c_47, c_49, c_50, c_51, c_52, c_53, c_54, c_55, c_56, c_63, c_66, c_67, c_68, c_70, c_71, c_72, c_73, c_74, c_76, c_77, c_78, c_79, c_80, c_81, c_82, c_84, c_85, c_86, c_87, c_88, c_89, c_90, c_92, c_95, c_96, c_98, c_99, c_100, c_101, c_102, c_103, c_104, c_107, c_108, c_109, c_111, c_112, c_113, c_114, c_115, c_116, c_117, c_118, c_120, c_121, c_122, c_127, c_280, d_2, d_3, d_4, d_8, d_9, d_10, d_15, d_16, d_32, d_48, d_62, d_63, d_64, wI_1, wI_2, wL_1, wL_2, true_and, and_true, and_self, false_and, and_false, if_true, if_false, y6, hrun, t2, w64, t1]
