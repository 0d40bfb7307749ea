/-! PURE: the reference reads a text -/
section
variable {ph R F n : Nat} {f : Nat → Nat} {ts r r2 : List Tok} {s s' s1 s2 s0 : ax_σ} {md md' c p m sec t : Nat} {Tot Pr P1 : List Nat} {Ops Ops' : List Op} {Tms Tms' : List Tm} {Fs Fs' : List Nat}
def XTq (g r k : Nat) : Prop := g = 0 ∧ (r = 67 ∨ (43 ≤ r ∧ r ≤ 45) ∨ (r = 38 ∧ ((7 ≤ k ∧ k ≤ 10) ∨ k = 14 ∨ k = 15 ∨ k = 51)))
theorem XTq.up (h : frm XTq s s') : frm XHp s s' := h.imp (fun g r k h => by unfold XTq at h; unfold XHp; omega)
theorem XTb.q (h : frm (XTb t) s s') : frm XTq s s' := h.imp (fun g r k h => by unfold XTb at h; unfold XTq; omega)
theorem zTbs (hF : 241 ≤ F) : ∀ (j : Nat) (ts : List Tok) (l : List Tb) (Tot Pr : List Nat) (s : ax_σ), l.length + j = 2 → ZE R n f 2 ts Tot Pr Ops Tms Fs s → s.1 0 38 14 = nI l.length → ZTb l s → Pr.length + ts.length ≤ 240 + 12 * l.length → zq 0 R F n f ts s (pTbs j ts) (fun l' r s' => ∃ T2, ZE R n f 2 r T2 (Pr ++ l'.flatMap tbPr) Ops Tms Fs s' ∧ (l' = [] → T2 = Tot) ∧ s'.1 0 38 14 = nI (l ++ l').length ∧ ZTb (l ++ l') s' ∧ frm XTq s s')
  | 0, ts, l, Tot, Pr, s, hl, h, h14, hT, hB => by
    rw [pTbs]
    refine ⟨s, ⟨Tot, ?_, fun _ => rfl, ?_, ?_, frm.refl⟩, zgo.refl⟩
    · rw [List.flatMap_nil, List.append_nil]; exact h
    · rw [List.append_nil]; exact h14
    · rw [List.append_nil]; exact hT
  | j + 1, [], l, Tot, Pr, s, hl, h, h14, hT, hB => by
    rw [pTbs]
    refine ⟨s, ⟨Tot, ?_, fun _ => rfl, ?_, ?_, frm.refl⟩, zgo.refl⟩
    · rw [List.flatMap_nil, List.append_nil]; exact h
    · rw [List.append_nil]; exact h14
    · rw [List.append_nil]; exact hT
  | j + 1, (c, p) :: ts, l, Tot, Pr, s, hl, h, h14, hT, hB => by
    rw [pTbs]
    by_cases hc : c = 35
    · rw [if_pos hc]
      subst hc
      have e1 : rbind (pTb ts) (fun t r => rbind (pTake 59 r) (fun _ r' => rbind (pTbs j r') (fun l r'' => .ok (t :: l, r'')))) = rbind (pTbT ts) (fun t r' => rbind (pTbs j r') (fun l r'' => .ok (t :: l, r''))) := by
        unfold pTbT
        rw [rbind_a]
        congr 1
        funext t r
        rw [rbind_a]
        rfl
      rw [e1]
      rw [List.length_cons] at hB
      refine (zTb hF h h14 (by omega) (by omega)).bind (fun x r s2 _ hK => ?_)
      obtain ⟨T2, a1, a2, a3, a4, a5⟩ := hK
      have hT2 : ZTb (l ++ [x]) s2 := (hT.keep a4 (fun r k h => by unfold XTb; omega)).add a3
      refine (zTbs hF j r (l ++ [x]) T2 _ s2 (by rw [List.length_append, List.length_singleton]; omega) a1 (by rw [List.length_append, List.length_singleton]; exact a2) hT2 (by have a6 := a5; simp only [List.length_append, List.length_singleton] at a6 ⊢; omega)).bind (fun l' r2 s3 _ hK2 => ⟨s3, ?_, zgo.refl⟩)
      obtain ⟨T3, b1, b2, b3, b4, b5⟩ := hK2
      rw [List.append_assoc] at b1 b3 b4
      exact ⟨T3, b1, fun e => (by cases e), b3, b4, (XTb.q a4).trans b5⟩
    · rw [if_neg hc]
      refine ⟨s, ⟨Tot, ?_, fun _ => rfl, ?_, ?_, frm.refl⟩, zgo.refl⟩
      · rw [List.flatMap_nil, List.append_nil]; exact h
      · rw [List.append_nil]; exact h14
      · rw [List.append_nil]; exact hT
/-- { of the first block, of the second -/
theorem ZE.brace2 (h : ZE R n f 2 ((123, p) :: ts) Tot Pr Ops Tms Fs s) : ∃ s2, zgo ph R F n f ((123, p) :: ts) s ts s2 ∧ ZE R n f 10 ts Tot (Pr ++ [123]) Ops Tms Fs s2 ∧ frm (fun g r k => g = 0 ∧ (r = 67 ∨ (r = 38 ∧ (k = 7 ∨ k = 51)))) s s2 := by
  have f1 : frm (fun g r k => g = 0 ∧ r = 38 ∧ k = 7) s (ax_wI s 0 38 7 (nI 10)) := frm.refl.wI _ _ _ _ ⟨rfl, rfl, rfl⟩
  have hD : zdis F 2 123 p s = some (nI 1, ax_wI s 0 38 7 (nI 10)) := by
    have h7' := h.2.2.1
    unfold zdis f_Z_acceptsHead
    simp (disch := omega) only [ax_let, Option.bind_some, cond_true, cond_false, if_pos, if_neg, if_true, if_false, eq_self, nI_add, nI_ltI, nI_leI, nI_eq, nI_clamp, pu_in, c_0, c_1, c_2, c_3, c_4, c_5, c_6, c_7, c_8, c_9, c_10, c_11, c_12, c_15, c_16, c_17, c_32, c_35, c_36, c_38, c_40, c_41, c_42, c_43, c_44, c_45, c_48, c_57, c_58, c_59, c_60, c_61, c_62, c_64, c_65, c_69, c_75, c_83, c_91, c_93, c_94, c_97, c_105, c_106, c_110, c_119, c_123, c_124, c_125, c_126, c_240, c_256, c_400, c_m, nI_m1, nM_i, lN_add, lN_mul, lN_i, nI_l, lN_eq, lgN_le, lgN_lt, lgN_ge, lgN_gt, nI_sub, nI_mul, d_0, d_1, c_13, c_14, c_18, c_19, c_20, c_21, c_22, c_23, c_24, c_25, c_26, c_27, c_28, c_29, c_30, c_31, c_33, c_34, c_37, c_39, c_46, c_47, c_49, c_50, c_51, c_52, c_53, c_54, c_55, c_56, c_63, c_66, c_67, c_68, c_70, c_71, c_72, c_73, c_74, c_76, c_77, c_78, c_79, c_80, c_81, c_82, c_84, c_85, c_86, c_87, c_88, c_89, c_90, c_92, c_95, c_96, c_98, c_99, c_100, c_101, c_102, c_103, c_104, c_107, c_108, c_109, c_111, c_112, c_113, c_114, c_115, c_116, c_117, c_118, c_120, c_121, c_122, c_127, c_280, d_2, d_3, d_4, d_8, d_9, d_10, d_15, d_16, d_32, d_48, d_62, d_63, d_64, h7']
  obtain ⟨s2, b1, b2, b3⟩ := h.stepT (ph := ph) (md' := 10) (by omega) (by omega) rfl hD (f1.imp (fun g r k h => by unfold XZt; omega)) (by simp (disch := omega) only [wI_1, wI_2, wL_1, wL_2, true_and, and_true, and_self, false_and, and_false, if_true, if_false, if_pos, if_neg])
  exact ⟨s2, b1, b2, (f1.imp (fun g r k h => by omega)).trans (b3.imp (fun g r k h => by unfold XP at h; omega))⟩
theorem zx_2 {c p : Nat} (hc' : c < 128) (h7' : s.1 0 38 7 = nI 2) (h14 : s.1 0 38 14 = nI t) (ht : t ≤ 2) (h1 : c ≠ 123) (h2 : c = 35 → t = 2) : ∃ s1, zdis F 2 c p s = some (nI 0, s1) ∧ frm XZt s s1 := by
  refine ⟨ax_wI s 0 38 7 (nI 10), ?_, frm.refl.wI _ _ _ _ (by unfold XZt; omega)⟩
  unfold zdis f_Z_acceptsHead
  by_cases hc : c = 35
  · have := h2 hc
    simp (disch := omega) only [ax_let, Option.bind_some, cond_true, cond_false, if_pos, if_neg, if_true, if_false, eq_self, nI_add, nI_ltI, nI_leI, nI_eq, nI_clamp, pu_in, c_0, c_1, c_2, c_3, c_4, c_5, c_6, c_7, c_8, c_9, c_10, c_11, c_12, c_15, c_16, c_17, c_32, c_35, c_36, c_38, c_40, c_41, c_42, c_43, c_44, c_45, c_48, c_57, c_58, c_59, c_60, c_61, c_62, c_64, c_65, c_69, c_75, c_83, c_91, c_93, c_94, c_97, c_105, c_106, c_110, c_119, c_123, c_124, c_125, c_126, c_240, c_256, c_400, c_m, nI_m1, nM_i, lN_add, lN_mul, lN_i, nI_l, lN_eq, lgN_le, lgN_lt, lgN_ge, lgN_gt, nI_sub, nI_mul, d_0, d_1, c_13, c_14, c_18, c_19, c_20, c_21, c_22, c_23, c_24, c_25, c_26, c_27, c_28, c_29, c_30, c_31, c_33, c_34, c_37, c_39, c_46, c_47, c_49, c_50, c_51, c_52, c_53, c_54, c_55, c_56, c_63, c_66, c_67, c_68, c_70, c_71, c_72, c_73, c_74, c_76, c_77, c_78, c_79, c_80, c_81, c_82, c_84, c_85, c_86, c_87, c_88, c_89, c_90, c_92, c_95, c_96, c_98, c_99, c_100, c_101, c_102, c_103, c_104, c_107, c_108, c_109, c_111, c_112, c_113, c_114, c_115, c_116, c_117, c_118, c_120, c_121, c_122, c_127, c_280, d_2, d_3, d_4, d_8, d_9, d_10, d_15, d_16, d_32, d_48, d_62, d_63, d_64, h7', h14]
  · simp (disch := omega) only [ax_let, Option.bind_some, cond_true, cond_false, if_pos, if_neg, if_true, if_false, eq_self, nI_add, nI_ltI, nI_leI, nI_eq, nI_clamp, pu_in, c_0, c_1, c_2, c_3, c_4, c_5, c_6, c_7, c_8, c_9, c_10, c_11, c_12, c_15, c_16, c_17, c_32, c_35, c_36, c_38, c_40, c_41, c_42, c_43, c_44, c_45, c_48, c_57, c_58, c_59, c_60, c_61, c_62, c_64, c_65, c_69, c_75, c_83, c_91, c_93, c_94, c_97, c_105, c_106, c_110, c_119, c_123, c_124, c_125, c_126, c_240, c_256, c_400, c_m, nI_m1, nM_i, lN_add, lN_mul, lN_i, nI_l, lN_eq, lgN_le, lgN_lt, lgN_ge, lgN_gt, nI_sub, nI_mul, d_0, d_1, c_13, c_14, c_18, c_19, c_20, c_21, c_22, c_23, c_24, c_25, c_26, c_27, c_28, c_29, c_30, c_31, c_33, c_34, c_37, c_39, c_46, c_47, c_49, c_50, c_51, c_52, c_53, c_54, c_55, c_56, c_63, c_66, c_67, c_68, c_70, c_71, c_72, c_73, c_74, c_76, c_77, c_78, c_79, c_80, c_81, c_82, c_84, c_85, c_86, c_87, c_88, c_89, c_90, c_92, c_95, c_96, c_98, c_99, c_100, c_101, c_102, c_103, c_104, c_107, c_108, c_109, c_111, c_112, c_113, c_114, c_115, c_116, c_117, c_118, c_120, c_121, c_122, c_127, c_280, d_2, d_3, d_4, d_8, d_9, d_10, d_15, d_16, d_32, d_48, d_62, d_63, d_64, h7', h14]
theorem ZE.brace50 (h : ZE R n f 50 ((123, p) :: ts) Tot Pr Ops Tms Fs s) : ∃ s2, zgo ph R F n f ((123, p) :: ts) s ts s2 ∧ ZE R n f 10 ts Tot (Pr ++ [123]) Ops Tms Fs s2 ∧ s2.1 0 38 19 = nI 1 ∧ frm (fun g r k => g = 0 ∧ (r = 67 ∨ (r = 38 ∧ (k = 7 ∨ k = 19 ∨ k = 51)))) s s2 := by
  have f1 : frm (fun g r k => g = 0 ∧ r = 38 ∧ (k = 7 ∨ k = 19)) s (ax_wI (ax_wI s 0 38 19 (nI 1)) 0 38 7 (nI 10)) := by
    refine (frm.refl.wI _ _ _ _ ?_).wI _ _ _ _ ?_ <;> omega
  have hD : zdis F 50 123 p s = some (nI 1, ax_wI (ax_wI s 0 38 19 (nI 1)) 0 38 7 (nI 10)) := by
    have h7' := h.2.2.1
    unfold zdis f_Z_acceptsHead
    simp (disch := omega) only [ax_let, Option.bind_some, cond_true, cond_false, if_pos, if_neg, if_true, if_false, eq_self, nI_add, nI_ltI, nI_leI, nI_eq, nI_clamp, pu_in, c_0, c_1, c_2, c_3, c_4, c_5, c_6, c_7, c_8, c_9, c_10, c_11, c_12, c_15, c_16, c_17, c_32, c_35, c_36, c_38, c_40, c_41, c_42, c_43, c_44, c_45, c_48, c_57, c_58, c_59, c_60, c_61, c_62, c_64, c_65, c_69, c_75, c_83, c_91, c_93, c_94, c_97, c_105, c_106, c_110, c_119, c_123, c_124, c_125, c_126, c_240, c_256, c_400, c_m, nI_m1, nM_i, lN_add, lN_mul, lN_i, nI_l, lN_eq, lgN_le, lgN_lt, lgN_ge, lgN_gt, nI_sub, nI_mul, d_0, d_1, c_13, c_14, c_18, c_19, c_20, c_21, c_22, c_23, c_24, c_25, c_26, c_27, c_28, c_29, c_30, c_31, c_33, c_34, c_37, c_39, c_46, c_47, c_49, c_50, c_51, c_52, c_53, c_54, c_55, c_56, c_63, c_66, c_67, c_68, c_70, c_71, c_72, c_73, c_74, c_76, c_77, c_78, c_79, c_80, c_81, c_82, c_84, c_85, c_86, c_87, c_88, c_89, c_90, c_92, c_95, c_96, c_98, c_99, c_100, c_101, c_102, c_103, c_104, c_107, c_108, c_109, c_111, c_112, c_113, c_114, c_115, c_116, c_117, c_118, c_120, c_121, c_122, c_127, c_280, d_2, d_3, d_4, d_8, d_9, d_10, d_15, d_16, d_32, d_48, d_62, d_63, d_64, h7', bo_1]
  obtain ⟨s2, b1, b2, b3⟩ := h.stepT (ph := ph) (md' := 10) (by omega) (by omega) rfl hD (f1.imp (fun g r k h => by unfold XZt; omega)) (by simp (disch := omega) only [wI_1, wI_2, wL_1, wL_2, true_and, and_true, and_self, false_and, and_false, if_true, if_false, if_pos, if_neg])
  refine ⟨s2, b1, b2, ?_, (f1.imp (fun g r k h => by omega)).trans (b3.imp (fun g r k h => by unfold XP at h; omega))⟩
  rw [b3.1 0 38 19 (by unfold XP; omega)]
  simp (disch := omega) only [wI_1, wI_2, wL_1, wL_2, true_and, and_true, and_self, false_and, and_false, if_true, if_false, if_pos, if_neg]
theorem zx_50 {c p : Nat} (hc' : c < 128) (hmd : md = 50 ∨ md = 60) (h7' : s.1 0 38 7 = nI md) (h1 : md = 50 → c ≠ 123) : ∃ s1, zdis F md c p s = some (nI 0, s1) ∧ frm XZt s s1 := by
  refine ⟨ax_wI (ax_wI s 0 38 19 (s.1 0 38 19)) 0 38 7 (nI md), ?_, by refine (frm.refl.wI _ _ _ _ ?_).wI _ _ _ _ ?_ <;> unfold XZt <;> omega⟩
  unfold zdis f_Z_acceptsHead
  rcases hmd with rfl | rfl
  · have := h1 rfl
    simp (disch := omega) only [ax_let, Option.bind_some, cond_true, cond_false, if_pos, if_neg, if_true, if_false, eq_self, nI_add, nI_ltI, nI_leI, nI_eq, nI_clamp, pu_in, c_0, c_1, c_2, c_3, c_4, c_5, c_6, c_7, c_8, c_9, c_10, c_11, c_12, c_15, c_16, c_17, c_32, c_35, c_36, c_38, c_40, c_41, c_42, c_43, c_44, c_45, c_48, c_57, c_58, c_59, c_60, c_61, c_62, c_64, c_65, c_69, c_75, c_83, c_91, c_93, c_94, c_97, c_105, c_106, c_110, c_119, c_123, c_124, c_125, c_126, c_240, c_256, c_400, c_m, nI_m1, nM_i, lN_add, lN_mul, lN_i, nI_l, lN_eq, lgN_le, lgN_lt, lgN_ge, lgN_gt, nI_sub, nI_mul, d_0, d_1, c_13, c_14, c_18, c_19, c_20, c_21, c_22, c_23, c_24, c_25, c_26, c_27, c_28, c_29, c_30, c_31, c_33, c_34, c_37, c_39, c_46, c_47, c_49, c_50, c_51, c_52, c_53, c_54, c_55, c_56, c_63, c_66, c_67, c_68, c_70, c_71, c_72, c_73, c_74, c_76, c_77, c_78, c_79, c_80, c_81, c_82, c_84, c_85, c_86, c_87, c_88, c_89, c_90, c_92, c_95, c_96, c_98, c_99, c_100, c_101, c_102, c_103, c_104, c_107, c_108, c_109, c_111, c_112, c_113, c_114, c_115, c_116, c_117, c_118, c_120, c_121, c_122, c_127, c_280, d_2, d_3, d_4, d_8, d_9, d_10, d_15, d_16, d_32, d_48, d_62, d_63, d_64, wI_1, wI_2, wL_1, wL_2, true_and, and_true, and_self, false_and, and_false, if_true, if_false, h7', bo_0]
  · simp (disch := omega) only [ax_let, Option.bind_some, cond_true, cond_false, if_pos, if_neg, if_true, if_false, eq_self, nI_add, nI_ltI, nI_leI, nI_eq, nI_clamp, pu_in, c_0, c_1, c_2, c_3, c_4, c_5, c_6, c_7, c_8, c_9, c_10, c_11, c_12, c_15, c_16, c_17, c_32, c_35, c_36, c_38, c_40, c_41, c_42, c_43, c_44, c_45, c_48, c_57, c_58, c_59, c_60, c_61, c_62, c_64, c_65, c_69, c_75, c_83, c_91, c_93, c_94, c_97, c_105, c_106, c_110, c_119, c_123, c_124, c_125, c_126, c_240, c_256, c_400, c_m, nI_m1, nM_i, lN_add, lN_mul, lN_i, nI_l, lN_eq, lgN_le, lgN_lt, lgN_ge, lgN_gt, nI_sub, nI_mul, d_0, d_1, c_13, c_14, c_18, c_19, c_20, c_21, c_22, c_23, c_24, c_25, c_26, c_27, c_28, c_29, c_30, c_31, c_33, c_34, c_37, c_39, c_46, c_47, c_49, c_50, c_51, c_52, c_53, c_54, c_55, c_56, c_63, c_66, c_67, c_68, c_70, c_71, c_72, c_73, c_74, c_76, c_77, c_78, c_79, c_80, c_81, c_82, c_84, c_85, c_86, c_87, c_88, c_89, c_90, c_92, c_95, c_96, c_98, c_99, c_100, c_101, c_102, c_103, c_104, c_107, c_108, c_109, c_111, c_112, c_113, c_114, c_115, c_116, c_117, c_118, c_120, c_121, c_122, c_127, c_280, d_2, d_3, d_4, d_8, d_9, d_10, d_15, d_16, d_32, d_48, d_62, d_63, d_64, wI_1, wI_2, wL_1, wL_2, true_and, and_true, and_self, false_and, and_false, if_true, if_false, h7', bo_0]
/-- what the reference holds of a description: what it printed is Pr -/
def ZD0 (D : Ds) (Pr : List Nat) (s : ax_σ) : Prop := ZHd [D.1, D.2.1, D.2.2.1] s ∧ s.1 0 38 14 = nI D.2.2.2.1.length ∧ ZTb D.2.2.2.1 s ∧ ZO ((D.2.2.2.2.1 ++ D.2.2.2.2.2).flatMap the) s ∧ ZM (((D.2.2.2.2.1 ++ D.2.2.2.2.2).flatMap the).flatMap opT) s ∧ ZU ((D.2.2.2.2.1 ++ D.2.2.2.2.2).flatMap thn) s ∧ ZG (D.2.2.2.2.1 ++ D.2.2.2.2.2) [] (2 * D.2.2.2.2.1.length + 1) s ∧ s.1 0 38 22 = nI (D.2.2.2.2.1 ++ D.2.2.2.2.2).length ∧ ZP Pr s ∧ ((D.2.2.2.2.1 ++ D.2.2.2.2.2).length ≤ 240 ∧ ((D.2.2.2.2.1 ++ D.2.2.2.2.2).flatMap the).length ≤ 240 ∧ (((D.2.2.2.2.1 ++ D.2.2.2.2.2).flatMap the).flatMap opT).length ≤ 240 ∧ ((D.2.2.2.2.1 ++ D.2.2.2.2.2).flatMap thn).length ≤ 240 ∧ Pr.length ≤ 264) ∧ WF (D.2.2.2.2.1 ++ D.2.2.2.2.2) ∧ stk D.2.2.2.2.1 = [] ∧ stk (D.2.2.2.2.1 ++ D.2.2.2.2.2) = []
def pBl (tb : List Tb) (h : Hd) (r : List Tok) : Rd Ds := rbind (rbind (pTake 123 r) (fun _ r => pThs true (r.length + 1) 0 r)) (fun ws r => rbind (rbind (pTake 123 r) (fun _ r => pThs false (r.length + 1) 0 r)) (fun ss r => match r with
    | [] => .ok ((h.1, h.2.1, h.2.2, tb, ws, ss), [])
    | _ => .error r))
theorem pDs_bl (ts : List Tok) : pDs ts = rbind (pHd ts) (fun h r => rbind (pTbs 2 r) (fun tb r => pBl tb h r)) := pDs_eq ts
def zst0 (s : ax_σ) : Prop := s.1 0 38 7 = nI 0 ∧ s.1 0 38 8 = nI 0 ∧ s.1 0 38 11 = nI 0 ∧ s.1 0 38 14 = nI 0 ∧ s.1 0 38 19 = nI 0 ∧ s.1 0 38 20 = nI 0 ∧ s.1 0 38 22 = nI 0 ∧ s.1 0 38 23 = nI 0 ∧ s.1 0 38 33 = nI 0 ∧ s.1 0 38 36 = nI 0 ∧ s.1 0 38 42 = nI 0 ∧ s.1 0 38 49 = nI 0 ∧ s.1 0 38 51 = nI 0
def zE0 (s : ax_σ) : Prop := s.1 0 38 19 = nI 0 ∧ s.1 0 38 20 = nI 0 ∧ s.1 0 38 22 = nI 0 ∧ s.1 0 38 23 = nI 0 ∧ s.1 0 38 33 = nI 0
/-- what comes out at the end -/
def zfn (R F n : Nat) (f : Nat → Nat) (ts : List Tok) (s : ax_σ) (ph : Nat) (x : Rd Ds) (G : Ds → ax_σ → Prop) : Prop := match x with
    | .ok (D, _) => zR ph R F n f ts s nM (G D)
    | .error r' => ∀ G, zR ph R F n f ts s (nI (pl n r')) G
theorem zfn.pre {x : Rd Ds} {G : Ds → ax_σ → Prop} (h : zgo ph R F n f ts s r s') (hq : zfn R F n f r s' ph x G) : zfn R F n f ts s ph x G := by
  match x, hq with
  | .ok (D, r2), hq => exact h.2 _ _ hq
  | .error r2, hq => exact fun G => h.2 _ _ (hq G)
theorem zfn.bind {α : Type} {x : Rd α} {k : α → List Tok → Rd Ds} {K : α → List Tok → ax_σ → Prop} {G : Ds → ax_σ → Prop} (hq : zq ph R F n f ts s x K) (h : ∀ a r s', x = .ok (a, r) → K a r s' → zfn R F n f r s' ph (k a r) G) : zfn R F n f ts s ph (rbind x k) G := by
  match x, hq, h with
  | .ok (a, r), ⟨s2, h1, h2⟩, h => exact zfn.pre h2 (h a r s2 rfl h1)
  | .error r, hq, h => exact hq
theorem zfn.weak {x : Rd Ds} {G G' : Ds → ax_σ → Prop} (h : zfn R F n f ts s 1 x G) (hG : ∀ D r s', x = .ok (D, r) → frm (XZ 1) s s' → G D s' → G' D s') : zfn R F n f ts s 0 x G' := by
  match x, h, hG with
  | .ok (D, r2), h, hG =>
    intro p m M h1 h2 h3
    obtain ⟨s', a1, a2, a3⟩ := h p m M h1 h2 h3
    exact ⟨s', a1, XZ.w a2, fun e => hG D r2 s' rfl a2 (a3 e)⟩
  | .error r2, h, hG =>
    intro G p m M h1 h2 h3
    obtain ⟨s', a1, a2, a3⟩ := h G p m M h1 h2 h3
    exact ⟨s', a1, XZ.w a2, a3⟩
def ZB1 (D : Ds) (Pr : List Nat) (s : ax_σ) : Prop := ZO ((D.2.2.2.2.1 ++ D.2.2.2.2.2).flatMap the) s ∧ ZM (((D.2.2.2.2.1 ++ D.2.2.2.2.2).flatMap the).flatMap opT) s ∧ ZU ((D.2.2.2.2.1 ++ D.2.2.2.2.2).flatMap thn) s ∧ ZG (D.2.2.2.2.1 ++ D.2.2.2.2.2) [] (2 * D.2.2.2.2.1.length + 1) s ∧ s.1 0 38 22 = nI (D.2.2.2.2.1 ++ D.2.2.2.2.2).length ∧ ZP Pr s ∧ ((D.2.2.2.2.1 ++ D.2.2.2.2.2).length ≤ 240 ∧ ((D.2.2.2.2.1 ++ D.2.2.2.2.2).flatMap the).length ≤ 240 ∧ (((D.2.2.2.2.1 ++ D.2.2.2.2.2).flatMap the).flatMap opT).length ≤ 240 ∧ ((D.2.2.2.2.1 ++ D.2.2.2.2.2).flatMap thn).length ≤ 240 ∧ Pr.length ≤ 264) ∧ WF (D.2.2.2.2.1 ++ D.2.2.2.2.2) ∧ stk D.2.2.2.2.1 = [] ∧ stk (D.2.2.2.2.1 ++ D.2.2.2.2.2) = []
theorem ZQ.next {fs : Nat} {Ths : List Th} (h : ZQ R n f 50 ts Tot Pr Ths (2 * fs) s) (hE : ZE R n f 10 r Tot P1 (Ths.flatMap the) ((Ths.flatMap the).flatMap opT) [] s') (hl : r.length ≤ ts.length) (h19 : s'.1 0 38 19 = nI 1) (hf : frm (fun g r k => g = 0 ∧ (r = 67 ∨ (r = 38 ∧ (k = 7 ∨ k = 19 ∨ k = 51)))) s s') : ZS R n f r Tot P1 Ths (2 * fs + 1) s' := by
  obtain ⟨h1, h2, ⟨g1, g2, g3, g4⟩, h4, ⟨h5, h6⟩, h7, h8⟩ := h
  refine ⟨hE, h2.keep hf (fun r k h => by omega), ⟨fun i t hi => (g1 i t hi).keep hf (fun r a b _ => by omega), fun i t k hi hk hh hl => ?_, ⟨?_, ?_⟩, g4.keep hf (fun r k h => by omega)⟩, (hf.1 0 38 22 (by omega)).trans h4, ⟨by omega, by omega⟩, h7⟩
  · obtain ⟨c1, c2⟩ := g2 i t k hi hk hh hl
    exact ⟨(hf.1 0 50 i (by omega)).trans c1, (hf.1 0 50 k (by omega)).trans c2⟩
  · rw [show (2 * fs + 1) % 2 = 1 from by omega]
    exact h19
  · rw [hf.1 0 38 23 (by omega), show (2 * fs + 1) / 2 = 2 * fs / 2 from by omega]
    exact g3.2
theorem stk_nil : stk [] = [] := rfl
theorem zBl {D1 : Hd} {tb : List Tb} (hF : 241 ≤ F) (htb : tb.length ≤ 2) (hr : sg r = 35 → tb.length = 2) (h : ZE R n f 2 r Tot Pr [] [] [] s) (h14 : s.1 0 38 14 = nI tb.length) (hz : zE0 s) (hl : r.length ≤ 240) : zfn R F n f r s ph (pBl tb D1 r) (fun D s' => ZB1 D Tot s') := by
  unfold pBl
  rw [rbind_a]
  match r, h, hr, hl with
  | [], h, hr, hl => exact fun G => h.nil (by omega)
  | (c, p) :: r, h, hr, hl =>
    rw [List.length_cons] at hl
    by_cases hc : c = 123
    · subst hc
      obtain ⟨s2, a1, a2, a3⟩ := h.brace2 (ph := ph) (F := F)
      refine zfn.pre a1 ?_
      show zfn R F n f r s2 ph (rbind (pThs true (r.length + 1) 0 r) _) _
      obtain ⟨z1, z2, z3, z4, z5⟩ := hz
      have hS : ZS R n f r Tot (Pr ++ [123]) [] 0 s2 := ⟨a2, ⟨(a3.1 0 38 33 (by omega)).trans z5, fun i t hi => (by cases hi)⟩, ⟨fun i t hi => (by cases hi), fun i t k hi => (by cases hi), ⟨(a3.1 0 38 19 (by omega)).trans z1, (a3.1 0 38 23 (by omega)).trans z4⟩, ⟨(a3.1 0 38 20 (by omega)).trans z2, by decide, fun j k hj => (by cases hj)⟩⟩, (a3.1 0 38 22 (by omega)).trans z3, ⟨by rw [List.length_nil]; omega, by rw [List.flatMap_nil, List.length_nil]; omega⟩, ⟨fun k hk => (by cases hk), List.Pairwise.nil, fun i t k hi => (by cases hi)⟩⟩
      refine zfn.bind (zThs (ph := ph) (wr := true) (fs := 0) hF (Or.inl ⟨rfl, rfl⟩) (r.length + 1) r [] _ s2 (by omega) hS) (fun ws r1 s3 _ hK => ?_)
      obtain ⟨P3, b1⟩ := hK
      rw [List.nil_append, if_pos rfl, if_pos rfl] at b1
      rw [rbind_a]
      match r1, b1 with
      | [], b1 => exact fun G => b1.1.nil (by omega)
      | (c, p) :: r1, b1 =>
        by_cases hc : c = 123
        · subst hc
          obtain ⟨s4, c1, c2, c3, c4⟩ := b1.1.brace50 (ph := ph) (F := F)
          refine zfn.pre c1 ?_
          show zfn R F n f r1 s4 ph (rbind (pThs false (r1.length + 1) 0 r1) _) _
          have hS2 := b1.next c2 (by rw [List.length_cons]; omega) c3 c4
          have hs0 : (stk ws).length = 0 := by rw [b1.2.2.2.2.2.2]; rfl
          have k2 := zThs (ph := ph) (wr := false) (fs := ws.length) hF (Or.inr ⟨rfl, rfl⟩) (r1.length + 1) r1 ws _ s4 (by omega) hS2
          rw [hs0] at k2
          refine zfn.bind k2 (fun ss r2 s5 _ hK2 => ?_)
          obtain ⟨P5, d1⟩ := hK2
          rw [if_neg (by omega), if_neg (by omega)] at d1
          match r2, d1 with
          | [], d1 =>
            have e := z_end (ph := ph) (F := F) (G := ZB1 (D1.1, D1.2.1, D1.2.2, tb, ws, ss) Tot) d1.1.1 d1.1.2.1 d1.1.2.2.1 (by omega) (fun _ => ?_)
            · rw [if_pos rfl] at e
              exact e
            · obtain ⟨e1, e2, e3, e4, ⟨e5, e6⟩, e7, e8⟩ := d1
              obtain ⟨f1, f2, f3, f4, f5, f6, f7, ⟨f8, f9, f10, f11, f12⟩, f13⟩ := e1
              have hP : P5 = Tot := by
                have := f13 (Or.inl rfl)
                rw [List.map_nil, fmt, List.append_nil] at this
                exact this
              rw [List.length_nil] at e5 e6 f8 f9 f10
              rw [List.length_nil] at f9
              rw [e8] at e3
              rw [← hP]
              exact ⟨f5, f6, e2, e3, e4, f4, ⟨by omega, by omega, by omega, by omega, by omega⟩, e7, b1.2.2.2.2.2.2, e8⟩
          | (c, p) :: r2, d1 =>
            exact fun G => d1.1.rejT (by omega) (zw_z (by unfold wants; omega)) (zx_50 (d1.1.tk _ (List.mem_cons_self ..)).1 (Or.inr rfl) d1.1.2.2.1 (fun e => by omega))
        · have e1 : pTake 123 ((c, p) :: r1) = .error ((c, p) :: r1) := by rw [pTake, if_neg hc]
          rw [e1]
          exact fun G => b1.1.rejT (by omega) (zw_z (by unfold wants; omega)) (zx_50 (b1.1.tk _ (List.mem_cons_self ..)).1 (Or.inl rfl) b1.1.2.2.1 (fun _ => hc))
    · have e1 : pTake 123 ((c, p) :: r) = .error ((c, p) :: r) := by rw [pTake, if_neg hc]
      rw [e1]
      obtain ⟨s1, x1, x2⟩ := zx_2 (F := F) (p := p) (h.tk _ (List.mem_cons_self ..)).1 h.2.2.1 h14 htb hc hr
      exact fun G => h.rejT (by omega) (zw_z (by unfold wants; omega)) ⟨s1, x1, x2⟩
end
