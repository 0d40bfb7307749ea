/-! PURE: the reference reads an expression -/
section
variable {ph R F n : Nat} {f : Nat → Nat} {ts r r2 : List Tok} {s s' s1 s2 s0 : ax_σ} {md md' c p : Nat} {Tot Pr : List Nat} {Ops Ops' : List Op} {Tms Tms' : List Tm} {Fs Fs' : List Nat}
theorem ZE.ks20 (h : ZE R n f 20 ((c, p) :: ts) Tot Pr Ops Tms Fs s) (hc : c = 75 ∨ c = 83) : ∃ s2, zgo ph R F n f ((c, p) :: ts) s ts s2 ∧ ZE R n f 30 ts Tot (Pr ++ [c]) Ops Tms Fs s2 ∧ s2.1 0 38 46 = nI (if c = 75 then 2 else 3) ∧ s2.1 0 38 47 = nI p ∧ s2.1 0 38 48 = nI Tms.length ∧ frm XZe s s2 := by
  obtain ⟨a1, a2, a3, a4, a5, a6, a7, ⟨a8, a9, a10, a11, a12⟩, a13⟩ := id h
  rw [List.length_cons] at a9 a10
  have h42 := a6.1
  have f7 : frm (fun g r k => g = 0 ∧ r = 38 ∧ (k = 7 ∨ (46 ≤ k ∧ k ≤ 48))) s (ax_wI (ax_wI (ax_wI (ax_wI s 0 38 46 (nI (if c = 75 then 2 else 3))) 0 38 47 (nI p)) 0 38 48 (nI Tms.length)) 0 38 7 (nI 30)) := by
    refine (((frm.refl.wI _ _ _ _ ?_).wI _ _ _ _ ?_).wI _ _ _ _ ?_).wI _ _ _ _ ?_ <;> omega
  have fm : frm XZm s _ := f7.imp (fun g r k h => by unfold XZm; omega)
  have hD : zdis F 20 c p s = some (nI 1, ax_wI (ax_wI (ax_wI (ax_wI s 0 38 46 (nI (if c = 75 then 2 else 3))) 0 38 47 (nI p)) 0 38 48 (nI Tms.length)) 0 38 7 (nI 30)) := by
    have hs := zs (c := c) (by omega)
    have hl := zl (c := c) (by omega)
    rw [if_neg (by omega)] at hs hl
    unfold zdis f_Z_acceptsExpression f_Z_acceptsStart
    rcases hc with rfl | rfl <;> simp (disch := omega) only [ax_let, Option.bind_some, cond_true, cond_false, if_pos, if_neg, if_true, if_false, eq_self, nI_add, nI_ltI, nI_leI, nI_eq, nI_clamp, pu_in, c_0, c_1, c_2, c_3, c_4, c_5, c_6, c_7, c_8, c_9, c_10, c_11, c_12, c_15, c_16, c_17, c_32, c_35, c_36, c_38, c_40, c_41, c_42, c_43, c_44, c_45, c_48, c_57, c_58, c_59, c_60, c_61, c_62, c_64, c_65, c_69, c_75, c_83, c_91, c_93, c_94, c_97, c_105, c_106, c_110, c_119, c_123, c_124, c_125, c_126, c_240, c_256, c_400, c_m, nI_m1, nM_i, lN_add, lN_mul, lN_i, nI_l, lN_eq, lgN_le, lgN_lt, lgN_ge, lgN_gt, nI_sub, nI_mul, d_0, d_1, c_13, c_14, c_18, c_19, c_20, c_21, c_22, c_23, c_24, c_25, c_26, c_27, c_28, c_29, c_30, c_31, c_33, c_34, c_37, c_39, c_46, c_47, c_49, c_50, c_51, c_52, c_53, c_54, c_55, c_56, c_63, c_66, c_67, c_68, c_70, c_71, c_72, c_73, c_74, c_76, c_77, c_78, c_79, c_80, c_81, c_82, c_84, c_85, c_86, c_87, c_88, c_89, c_90, c_92, c_95, c_96, c_98, c_99, c_100, c_101, c_102, c_103, c_104, c_107, c_108, c_109, c_111, c_112, c_113, c_114, c_115, c_116, c_117, c_118, c_120, c_121, c_122, c_127, c_280, d_2, d_3, d_4, d_8, d_9, d_10, d_15, d_16, d_32, d_48, d_62, d_63, d_64, wI_1, wI_2, wL_1, wL_2, true_and, and_true, and_self, false_and, and_false, if_true, if_false, a3, hs, hl, h42, bo_1]
  obtain ⟨s2, c1, c2, c3⟩ := h.step (ph := ph) (md' := 30) (by omega) (by omega) (by rcases hc with rfl | rfl <;> rfl) hD fm (by simp (disch := omega) only [wI_1, wI_2, wL_1, wL_2, true_and, and_true, and_self, false_and, and_false, if_true, if_false, if_pos, if_neg]) (a5.keep f7 (fun r k h => by omega)) (a6.keep f7 (fun r k h => by omega)) (a7.keep f7 (fun r k h => by omega)) (by omega) (by omega) a11
  refine ⟨s2, c1, c2, ?_, ?_, ?_, (XZm.e fm).trans (XP.e c3)⟩
  · rw [c3.1 0 38 46 (by unfold XP; omega)]; simp (disch := omega) only [wI_1, wI_2, wL_1, wL_2, true_and, and_true, and_self, false_and, and_false, if_true, if_false, if_pos, if_neg]
  · rw [c3.1 0 38 47 (by unfold XP; omega)]; simp (disch := omega) only [wI_1, wI_2, wL_1, wL_2, true_and, and_true, and_self, false_and, and_false, if_true, if_false, if_pos, if_neg]
  · rw [c3.1 0 38 48 (by unfold XP; omega)]; simp (disch := omega) only [wI_1, wI_2, wL_1, wL_2, true_and, and_true, and_self, false_and, and_false, if_true, if_false, if_pos, if_neg]
theorem ZE.par30 (h : ZE R n f 30 ((40, p) :: ts) Tot Pr Ops Tms Fs s) : ∃ s2, zgo ph R F n f ((40, p) :: ts) s ts s2 ∧ ZE R n f 31 ts Tot (Pr ++ [40]) Ops Tms Fs s2 ∧ frm XIp s s2 := by
  obtain ⟨a1, a2, a3, a4, a5, a6, a7, ⟨a8, a9, a10, a11, a12⟩, a13⟩ := id h
  rw [List.length_cons] at a9 a10
  have f78 : frm XI s (ax_wI s 0 38 7 (nI 31)) := frm.refl.wI _ _ _ _ (by unfold XI; omega)
  have f7 : frm (fun g r k => g = 0 ∧ r = 38 ∧ k = 7) s (ax_wI s 0 38 7 (nI 31)) := frm.refl.wI _ _ _ _ ⟨rfl, rfl, rfl⟩
  have hD : zdis F 30 40 p s = some (nI 1, ax_wI s 0 38 7 (nI 31)) := by
    unfold zdis f_Z_acceptsExpression f_Z_acceptsIndex
    simp (disch := omega) only [ax_let, Option.bind_some, cond_true, cond_false, if_pos, if_neg, if_true, if_false, eq_self, nI_add, nI_ltI, nI_leI, nI_eq, nI_clamp, pu_in, c_0, c_1, c_2, c_3, c_4, c_5, c_6, c_7, c_8, c_9, c_10, c_11, c_12, c_15, c_16, c_17, c_32, c_35, c_36, c_38, c_40, c_41, c_42, c_43, c_44, c_45, c_48, c_57, c_58, c_59, c_60, c_61, c_62, c_64, c_65, c_69, c_75, c_83, c_91, c_93, c_94, c_97, c_105, c_106, c_110, c_119, c_123, c_124, c_125, c_126, c_240, c_256, c_400, c_m, nI_m1, nM_i, lN_add, lN_mul, lN_i, nI_l, lN_eq, lgN_le, lgN_lt, lgN_ge, lgN_gt, nI_sub, nI_mul, d_0, d_1, c_13, c_14, c_18, c_19, c_20, c_21, c_22, c_23, c_24, c_25, c_26, c_27, c_28, c_29, c_30, c_31, c_33, c_34, c_37, c_39, c_46, c_47, c_49, c_50, c_51, c_52, c_53, c_54, c_55, c_56, c_63, c_66, c_67, c_68, c_70, c_71, c_72, c_73, c_74, c_76, c_77, c_78, c_79, c_80, c_81, c_82, c_84, c_85, c_86, c_87, c_88, c_89, c_90, c_92, c_95, c_96, c_98, c_99, c_100, c_101, c_102, c_103, c_104, c_107, c_108, c_109, c_111, c_112, c_113, c_114, c_115, c_116, c_117, c_118, c_120, c_121, c_122, c_127, c_280, d_2, d_3, d_4, d_8, d_9, d_10, d_15, d_16, d_32, d_48, d_62, d_63, d_64, a3, bo_1]
  obtain ⟨s2, c1, c2, c3⟩ := h.step (ph := ph) (md' := 31) (by omega) (by omega) rfl hD (XI.m f78) (by simp (disch := omega) only [wI_1, wI_2, wL_1, wL_2, true_and, and_true, and_self, false_and, and_false, if_true, if_false, if_pos, if_neg]) (a5.keep f7 (fun r k h => by omega)) (a6.keep f7 (fun r k h => by omega)) (a7.keep f7 (fun r k h => by omega)) (by omega) (by omega) a11
  exact ⟨s2, c1, c2, (XI.pp f78).trans (XIp.ofP c3)⟩
theorem zx_30 {c p : Nat} (hc : c < 128) (h7 : s.1 0 38 7 = nI 30) (h1 : c ≠ 40) : ∃ s1, zdis F 30 c p s = some (nI 0, s1) ∧ frm XZm s s1 := by
  refine ⟨ax_wI s 0 38 7 (nI 31), ?_, frm.refl.wI _ _ _ _ (by unfold XZm; omega)⟩
  unfold zdis f_Z_acceptsExpression f_Z_acceptsIndex
  simp (disch := omega) only [ax_let, Option.bind_some, cond_true, cond_false, if_pos, if_neg, if_true, if_false, eq_self, nI_add, nI_ltI, nI_leI, nI_eq, nI_clamp, pu_in, c_0, c_1, c_2, c_3, c_4, c_5, c_6, c_7, c_8, c_9, c_10, c_11, c_12, c_15, c_16, c_17, c_32, c_35, c_36, c_38, c_40, c_41, c_42, c_43, c_44, c_45, c_48, c_57, c_58, c_59, c_60, c_61, c_62, c_64, c_65, c_69, c_75, c_83, c_91, c_93, c_94, c_97, c_105, c_106, c_110, c_119, c_123, c_124, c_125, c_126, c_240, c_256, c_400, c_m, nI_m1, nM_i, lN_add, lN_mul, lN_i, nI_l, lN_eq, lgN_le, lgN_lt, lgN_ge, lgN_gt, nI_sub, nI_mul, d_0, d_1, c_13, c_14, c_18, c_19, c_20, c_21, c_22, c_23, c_24, c_25, c_26, c_27, c_28, c_29, c_30, c_31, c_33, c_34, c_37, c_39, c_46, c_47, c_49, c_50, c_51, c_52, c_53, c_54, c_55, c_56, c_63, c_66, c_67, c_68, c_70, c_71, c_72, c_73, c_74, c_76, c_77, c_78, c_79, c_80, c_81, c_82, c_84, c_85, c_86, c_87, c_88, c_89, c_90, c_92, c_95, c_96, c_98, c_99, c_100, c_101, c_102, c_103, c_104, c_107, c_108, c_109, c_111, c_112, c_113, c_114, c_115, c_116, c_117, c_118, c_120, c_121, c_122, c_127, c_280, d_2, d_3, d_4, d_8, d_9, d_10, d_15, d_16, d_32, d_48, d_62, d_63, d_64, h7, bo_0]
/-- an index -/
theorem ZE.idx20 (hF : 241 ≤ F) (h : ZE R n f 20 ((c, p) :: ts) Tot Pr Ops (Ops.flatMap (·.2.2.2)) Fs s) (hc : c = 75 ∨ c = 83) : zq ph R F n f ((c, p) :: ts) s (rbind (pTake 40 ts) (fun _ r => rbind (pTerms (r.length + 1) r) (fun l r' => .ok ([(if c = 75 then 2 else 3, 0, p, l)], r')))) (zKe R n f Tot Ops Fs s) := by
  obtain ⟨s2, a1, a2, a3, a4, a5, a6⟩ := h.ks20 (ph := ph) (F := F) hc
  refine zq.pre a1 ?_
  match ts, a2 with
  | [], a2 => exact fun G => a2.nil (by omega)
  | (d, q) :: r, a2 =>
    by_cases hd : d = 40
    · subst hd
      obtain ⟨s3, b1, b2, b3⟩ := a2.par30 (ph := ph) (F := F)
      refine zq.pre b1 ?_
      have hT := zTms (ph := ph) (R := R) (F := F) (n := n) (f := f) (Tot := Tot) (Ops := Ops) (Fs := Fs) (k := if c = 75 then 2 else 3) (q := p) hF (by split <;> omega) (r.length + 1) r [] _ s s3 (by omega) (a6.trans (XIp.e b3)) (by rw [List.append_nil]; exact b2) ((b3.1 0 38 46 (by unfold XIp; omega)).trans a3) ((b3.1 0 38 47 (by unfold XIp; omega)).trans a4) ((b3.1 0 38 48 (by unfold XIp; omega)).trans a5)
      show zq ph R F n f r s3 (rbind (pTerms (r.length + 1) r) (fun l r' => .ok ([(if c = 75 then 2 else 3, 0, p, l)], r'))) _
      refine hT.bind (fun l r' s4 _ hK => ⟨s4, ?_, zgo.refl⟩)
      obtain ⟨Pr', k1, k2⟩ := hK
      refine ⟨Pr', ?_, k2⟩
      rw [fm_r, List.flatMap_append]
      simp only [List.flatMap_cons, List.flatMap_nil, List.append_nil]
      exact k1
    · have hc' := (a2.tk _ (List.mem_cons_self ..)).1
      have e : pTake 40 ((d, q) :: r) = .error ((d, q) :: r) := by rw [pTake, if_neg hd]
      rw [e]
      exact fun G => a2.rej (by omega) (fun e => by have := e.1; unfold wants at this; omega) (zx_30 hc' a2.2.2.1 hd)
/-- ~ and ( -/
theorem ZE.open20 {x : Nat} (h : ZE R n f 20 ((c, p) :: ts) Tot Pr Ops Tms Fs s) (hc : (c = 126 ∧ x = 0) ∨ (c = 40 ∧ x = 1)) (hl : Fs.length < 12) : ∃ s2, zgo ph R F n f ((c, p) :: ts) s ts s2 ∧ ZE R n f 20 ts Tot (Pr ++ [c]) Ops Tms (x :: Fs) s2 ∧ frm XZe s s2 := by
  obtain ⟨a1, a2, a3, a4, a5, a6, a7, ⟨a8, a9, a10, a11, a12⟩, a13⟩ := id h
  rw [List.length_cons] at a9 a10
  have h49 := a7.1
  have f7 : frm (fun g r k => g = 0 ∧ ((r = 66 ∧ k = Fs.length) ∨ (r = 38 ∧ k = 49))) s (ax_wI (ax_wI s 0 66 Fs.length (nI x)) 0 38 49 (nI (Fs.length + 1))) := by
    refine (frm.refl.wI _ _ _ _ ?_).wI _ _ _ _ ?_ <;> omega
  have fm : frm XZm s _ := f7.imp (fun g r k h => by unfold XZm; omega)
  have hD : zdis F 20 c p s = some (nI 1, ax_wI (ax_wI s 0 66 Fs.length (nI x)) 0 38 49 (nI (Fs.length + 1))) := by
    have hs := zs (c := c) (by omega)
    have hl := zl (c := c) (by omega)
    rw [if_neg (by omega)] at hs hl
    unfold zdis f_Z_acceptsExpression f_Z_acceptsStart f_Z_opens
    rcases hc with ⟨rfl, rfl⟩ | ⟨rfl, rfl⟩ <;> simp (disch := omega) only [ax_let, Option.bind_some, cond_true, cond_false, if_pos, if_neg, if_true, if_false, eq_self, nI_add, nI_ltI, nI_leI, nI_eq, nI_clamp, pu_in, c_0, c_1, c_2, c_3, c_4, c_5, c_6, c_7, c_8, c_9, c_10, c_11, c_12, c_15, c_16, c_17, c_32, c_35, c_36, c_38, c_40, c_41, c_42, c_43, c_44, c_45, c_48, c_57, c_58, c_59, c_60, c_61, c_62, c_64, c_65, c_69, c_75, c_83, c_91, c_93, c_94, c_97, c_105, c_106, c_110, c_119, c_123, c_124, c_125, c_126, c_240, c_256, c_400, c_m, nI_m1, nM_i, lN_add, lN_mul, lN_i, nI_l, lN_eq, lgN_le, lgN_lt, lgN_ge, lgN_gt, nI_sub, nI_mul, d_0, d_1, c_13, c_14, c_18, c_19, c_20, c_21, c_22, c_23, c_24, c_25, c_26, c_27, c_28, c_29, c_30, c_31, c_33, c_34, c_37, c_39, c_46, c_47, c_49, c_50, c_51, c_52, c_53, c_54, c_55, c_56, c_63, c_66, c_67, c_68, c_70, c_71, c_72, c_73, c_74, c_76, c_77, c_78, c_79, c_80, c_81, c_82, c_84, c_85, c_86, c_87, c_88, c_89, c_90, c_92, c_95, c_96, c_98, c_99, c_100, c_101, c_102, c_103, c_104, c_107, c_108, c_109, c_111, c_112, c_113, c_114, c_115, c_116, c_117, c_118, c_120, c_121, c_122, c_127, c_280, d_2, d_3, d_4, d_8, d_9, d_10, d_15, d_16, d_32, d_48, d_62, d_63, d_64, wI_1, wI_2, wL_1, wL_2, true_and, and_true, and_self, false_and, and_false, if_true, if_false, a3, hs, hl, h49, bo_1]
  obtain ⟨s2, c1, c2, c3⟩ := h.step (ph := ph) (md' := 20) (Fs' := x :: Fs) (by omega) (by omega) (by rcases hc with ⟨rfl, rfl⟩ | ⟨rfl, rfl⟩ <;> rfl) hD fm (by simp (disch := omega) only [wI_1, wI_2, wL_1, wL_2, true_and, and_true, and_self, false_and, and_false, if_true, if_false, if_pos, if_neg]; exact a3) (a5.keep f7 (fun r k h => by omega)) (a6.keep f7 (fun r k h => by omega)) (a7.push (by omega) (f7.imp (fun g r k h => by omega)) (by simp (disch := omega) only [wI_1, wI_2, wL_1, wL_2, true_and, and_true, and_self, false_and, and_false, if_true, if_false, if_pos, if_neg]) (by simp (disch := omega) only [wI_1, wI_2, wL_1, wL_2, true_and, and_true, and_self, false_and, and_false, if_true, if_false, if_pos, if_neg])) (by rw [List.length_cons]; omega) (by omega) (by rw [List.length_cons]; omega)
  exact ⟨s2, c1, c2, (XZm.e fm).trans (XP.e c3)⟩
theorem zx_20f {c p : Nat} (h7 : s.1 0 38 7 = nI 20) (h49 : s.1 0 38 49 = nI 12) (h1 : c = 126 ∨ c = 40) : ∃ s1, zdis F 20 c p s = some (nI 0, s1) ∧ frm XZm s s1 := by
  refine ⟨s, ?_, frm.refl⟩
  have hs := zs (c := c) (by omega)
  have hl := zl (c := c) (by omega)
  rw [if_neg (by omega)] at hs hl
  unfold zdis f_Z_acceptsExpression f_Z_acceptsStart f_Z_opens
  rcases h1 with rfl | rfl <;> simp (disch := omega) only [ax_let, Option.bind_some, cond_true, cond_false, if_pos, if_neg, if_true, if_false, eq_self, nI_add, nI_ltI, nI_leI, nI_eq, nI_clamp, pu_in, c_0, c_1, c_2, c_3, c_4, c_5, c_6, c_7, c_8, c_9, c_10, c_11, c_12, c_15, c_16, c_17, c_32, c_35, c_36, c_38, c_40, c_41, c_42, c_43, c_44, c_45, c_48, c_57, c_58, c_59, c_60, c_61, c_62, c_64, c_65, c_69, c_75, c_83, c_91, c_93, c_94, c_97, c_105, c_106, c_110, c_119, c_123, c_124, c_125, c_126, c_240, c_256, c_400, c_m, nI_m1, nM_i, lN_add, lN_mul, lN_i, nI_l, lN_eq, lgN_le, lgN_lt, lgN_ge, lgN_gt, nI_sub, nI_mul, d_0, d_1, c_13, c_14, c_18, c_19, c_20, c_21, c_22, c_23, c_24, c_25, c_26, c_27, c_28, c_29, c_30, c_31, c_33, c_34, c_37, c_39, c_46, c_47, c_49, c_50, c_51, c_52, c_53, c_54, c_55, c_56, c_63, c_66, c_67, c_68, c_70, c_71, c_72, c_73, c_74, c_76, c_77, c_78, c_79, c_80, c_81, c_82, c_84, c_85, c_86, c_87, c_88, c_89, c_90, c_92, c_95, c_96, c_98, c_99, c_100, c_101, c_102, c_103, c_104, c_107, c_108, c_109, c_111, c_112, c_113, c_114, c_115, c_116, c_117, c_118, c_120, c_121, c_122, c_127, c_280, d_2, d_3, d_4, d_8, d_9, d_10, d_15, d_16, d_32, d_48, d_62, d_63, d_64, h7, hs, hl, h49, bo_0]
theorem zx_20 {c p : Nat} (hc : c < 128) (h7 : s.1 0 38 7 = nI 20) (h1 : ¬ (65 ≤ c ∧ c ≤ 68)) (h2 : ¬ (c = 105 ∨ c = 106)) (h3 : ¬ (c = 75 ∨ c = 83)) (h4 : c ≠ 126) (h5 : c ≠ 40) : ∃ s1, zdis F 20 c p s = some (nI 0, s1) ∧ frm XZm s s1 := by
  refine ⟨s, ?_, frm.refl⟩
  have hs := zs hc
  have hl := zl hc
  rw [if_neg h1] at hs
  rw [if_neg h2] at hl
  unfold zdis f_Z_acceptsExpression f_Z_acceptsStart
  simp (disch := omega) only [ax_let, Option.bind_some, cond_true, cond_false, if_pos, if_neg, if_true, if_false, eq_self, nI_add, nI_ltI, nI_leI, nI_eq, nI_clamp, pu_in, c_0, c_1, c_2, c_3, c_4, c_5, c_6, c_7, c_8, c_9, c_10, c_11, c_12, c_15, c_16, c_17, c_32, c_35, c_36, c_38, c_40, c_41, c_42, c_43, c_44, c_45, c_48, c_57, c_58, c_59, c_60, c_61, c_62, c_64, c_65, c_69, c_75, c_83, c_91, c_93, c_94, c_97, c_105, c_106, c_110, c_119, c_123, c_124, c_125, c_126, c_240, c_256, c_400, c_m, nI_m1, nM_i, lN_add, lN_mul, lN_i, nI_l, lN_eq, lgN_le, lgN_lt, lgN_ge, lgN_gt, nI_sub, nI_mul, d_0, d_1, c_13, c_14, c_18, c_19, c_20, c_21, c_22, c_23, c_24, c_25, c_26, c_27, c_28, c_29, c_30, c_31, c_33, c_34, c_37, c_39, c_46, c_47, c_49, c_50, c_51, c_52, c_53, c_54, c_55, c_56, c_63, c_66, c_67, c_68, c_70, c_71, c_72, c_73, c_74, c_76, c_77, c_78, c_79, c_80, c_81, c_82, c_84, c_85, c_86, c_87, c_88, c_89, c_90, c_92, c_95, c_96, c_98, c_99, c_100, c_101, c_102, c_103, c_104, c_107, c_108, c_109, c_111, c_112, c_113, c_114, c_115, c_116, c_117, c_118, c_120, c_121, c_122, c_127, c_280, d_2, d_3, d_4, d_8, d_9, d_10, d_15, d_16, d_32, d_48, d_62, d_63, d_64, h7, hs, hl, bo_0]
def isOp (o : Nat) : Prop := o = 94 ∨ o = 38 ∨ o = 124 ∨ o = 43 ∨ o = 45 ∨ o = 42
/-- the sign behind the first part of a bracket -/
theorem ZE.op21 {o : Nat} (h : ZE R n f 21 ((o, p) :: ts) Tot Pr Ops Tms (1 :: Fs) s) (ho : isOp o ∨ o = 60) : ∃ s2, zgo ph R F n f ((o, p) :: ts) s ts s2 ∧ ZE R n f (if o = 60 then 22 else 20) ts Tot (Pr ++ [o]) Ops Tms ((if o = 60 then 1 else o) :: Fs) s2 ∧ frm XZe s s2 := by
  unfold isOp at ho
  obtain ⟨a1, a2, a3, a4, a5, a6, a7, ⟨a8, a9, a10, a11, a12⟩, a13⟩ := id h
  rw [List.length_cons] at a9 a10 a11
  rw [List.length_cons] at a9
  have h49 : s.1 0 38 49 = nI (Fs.length + 1) := a7.1
  have e1 : Fs.length + 1 - 1 = Fs.length := by omega
  have f7 : frm (fun g r k => g = 0 ∧ ((r = 66 ∧ k = Fs.length) ∨ (r = 38 ∧ k = 7))) s (ax_wI (ax_wI s 0 66 Fs.length (nI (if o = 60 then 1 else o))) 0 38 7 (nI (if o = 60 then 22 else 20))) := by
    refine (frm.refl.wI _ _ _ _ ?_).wI _ _ _ _ ?_ <;> omega
  have fm : frm XZm s _ := f7.imp (fun g r k h => by unfold XZm; omega)
  have hD : zdis F 21 o p s = some (nI 1, ax_wI (ax_wI s 0 66 Fs.length (nI (if o = 60 then 1 else o))) 0 38 7 (nI (if o = 60 then 22 else 20))) := by
    unfold zdis f_Z_acceptsExpression
    rcases ho with (rfl | rfl | rfl | rfl | rfl | rfl) | rfl <;> simp (disch := omega) only [ax_let, Option.bind_some, cond_true, cond_false, if_pos, if_neg, if_true, if_false, eq_self, nI_add, nI_ltI, nI_leI, nI_eq, nI_clamp, pu_in, c_0, c_1, c_2, c_3, c_4, c_5, c_6, c_7, c_8, c_9, c_10, c_11, c_12, c_15, c_16, c_17, c_32, c_35, c_36, c_38, c_40, c_41, c_42, c_43, c_44, c_45, c_48, c_57, c_58, c_59, c_60, c_61, c_62, c_64, c_65, c_69, c_75, c_83, c_91, c_93, c_94, c_97, c_105, c_106, c_110, c_119, c_123, c_124, c_125, c_126, c_240, c_256, c_400, c_m, nI_m1, nM_i, lN_add, lN_mul, lN_i, nI_l, lN_eq, lgN_le, lgN_lt, lgN_ge, lgN_gt, nI_sub, nI_mul, d_0, d_1, c_13, c_14, c_18, c_19, c_20, c_21, c_22, c_23, c_24, c_25, c_26, c_27, c_28, c_29, c_30, c_31, c_33, c_34, c_37, c_39, c_46, c_47, c_49, c_50, c_51, c_52, c_53, c_54, c_55, c_56, c_63, c_66, c_67, c_68, c_70, c_71, c_72, c_73, c_74, c_76, c_77, c_78, c_79, c_80, c_81, c_82, c_84, c_85, c_86, c_87, c_88, c_89, c_90, c_92, c_95, c_96, c_98, c_99, c_100, c_101, c_102, c_103, c_104, c_107, c_108, c_109, c_111, c_112, c_113, c_114, c_115, c_116, c_117, c_118, c_120, c_121, c_122, c_127, c_280, d_2, d_3, d_4, d_8, d_9, d_10, d_15, d_16, d_32, d_48, d_62, d_63, d_64, wI_1, wI_2, wL_1, wL_2, true_and, and_true, and_self, false_and, and_false, if_true, if_false, a3, h49, e1]
  have hF0 : ZF Fs (ax_wI s 0 38 49 (nI Fs.length)) := a7.pop (frm.refl.wI _ _ _ _ (by omega)) (by simp (disch := omega) only [wI_1, wI_2, wL_1, wL_2, true_and, and_true, and_self, false_and, and_false, if_true, if_false, if_pos, if_neg])
  have hF2 : ZF ((if o = 60 then 1 else o) :: Fs) (ax_wI (ax_wI s 0 66 Fs.length (nI (if o = 60 then 1 else o))) 0 38 7 (nI (if o = 60 then 22 else 20))) := by
    refine hF0.push (by split <;> omega) ?_ (by simp (disch := omega) only [wI_1, wI_2, wL_1, wL_2, true_and, and_true, and_self, false_and, and_false, if_true, if_false, if_pos, if_neg]; exact h49) (by simp (disch := omega) only [wI_1, wI_2, wL_1, wL_2, true_and, and_true, and_self, false_and, and_false, if_true, if_false, if_pos, if_neg])
    refine ⟨fun g r k hn => ?_, fun g r k hn => rfl⟩
    have hn' : g = 0 ∧ r = 66 ∧ k < Fs.length := by omega
    obtain ⟨rfl, rfl, hk⟩ := hn'
    simp (disch := omega) only [wI_1, wI_2, wL_1, wL_2, true_and, and_true, and_self, false_and, and_false, if_true, if_false, if_pos, if_neg]
  obtain ⟨s2, c1, c2, c3⟩ := h.step (ph := ph) (md' := if o = 60 then 22 else 20) (Fs' := (if o = 60 then 1 else o) :: Fs) (by omega) (by omega) (by rcases ho with (rfl | rfl | rfl | rfl | rfl | rfl) | rfl <;> rfl) hD fm (by simp (disch := omega) only [wI_1, wI_2, wL_1, wL_2, true_and, and_true, and_self, false_and, and_false, if_true, if_false, if_pos, if_neg]) (a5.keep f7 (fun r k h => by omega)) (a6.keep f7 (fun r k h => by omega)) hF2 (by rw [List.length_cons]; omega) (by omega) (by rw [List.length_cons]; omega)
  exact ⟨s2, c1, c2, (XZm.e fm).trans (XP.e c3)⟩
theorem zx_21 {c p : Nat} (hc : c < 128) (h7 : s.1 0 38 7 = nI 21) (hFs : ZF (1 :: Fs) s) (h12 : Fs.length + 1 ≤ 12) (h1 : ¬ isOp c) (h2 : c ≠ 60) : ∃ s1, zdis F 21 c p s = some (nI 0, s1) ∧ frm XZm s s1 := by
  unfold isOp at h1
  have h49 : s.1 0 38 49 = nI (Fs.length + 1) := hFs.1
  have e1 : Fs.length + 1 - 1 = Fs.length := by omega
  refine ⟨ax_wI (ax_wI s 0 66 Fs.length (nI 1)) 0 38 7 (nI 22), ?_, by refine (frm.refl.wI _ _ _ _ ?_).wI _ _ _ _ ?_ <;> unfold XZm <;> omega⟩
  unfold zdis f_Z_acceptsExpression
  simp (disch := omega) only [ax_let, Option.bind_some, cond_true, cond_false, if_pos, if_neg, if_true, if_false, eq_self, nI_add, nI_ltI, nI_leI, nI_eq, nI_clamp, pu_in, c_0, c_1, c_2, c_3, c_4, c_5, c_6, c_7, c_8, c_9, c_10, c_11, c_12, c_15, c_16, c_17, c_32, c_35, c_36, c_38, c_40, c_41, c_42, c_43, c_44, c_45, c_48, c_57, c_58, c_59, c_60, c_61, c_62, c_64, c_65, c_69, c_75, c_83, c_91, c_93, c_94, c_97, c_105, c_106, c_110, c_119, c_123, c_124, c_125, c_126, c_240, c_256, c_400, c_m, nI_m1, nM_i, lN_add, lN_mul, lN_i, nI_l, lN_eq, lgN_le, lgN_lt, lgN_ge, lgN_gt, nI_sub, nI_mul, d_0, d_1, c_13, c_14, c_18, c_19, c_20, c_21, c_22, c_23, c_24, c_25, c_26, c_27, c_28, c_29, c_30, c_31, c_33, c_34, c_37, c_39, c_46, c_47, c_49, c_50, c_51, c_52, c_53, c_54, c_55, c_56, c_63, c_66, c_67, c_68, c_70, c_71, c_72, c_73, c_74, c_76, c_77, c_78, c_79, c_80, c_81, c_82, c_84, c_85, c_86, c_87, c_88, c_89, c_90, c_92, c_95, c_96, c_98, c_99, c_100, c_101, c_102, c_103, c_104, c_107, c_108, c_109, c_111, c_112, c_113, c_114, c_115, c_116, c_117, c_118, c_120, c_121, c_122, c_127, c_280, d_2, d_3, d_4, d_8, d_9, d_10, d_15, d_16, d_32, d_48, d_62, d_63, d_64, h7, h49, e1]
theorem zx_22 {c p : Nat} (hc : c < 128) (hmd : md = 22 ∨ md = 23 ∨ md = 24) (h7 : s.1 0 38 7 = nI md) (h1 : c ≠ 41 ∨ md = 22) : ∃ s1, zdis F md c p s = some (nI 0, s1) ∧ frm XZm s s1 := by
  refine ⟨s, ?_, frm.refl⟩
  unfold zdis f_Z_acceptsExpression
  rcases hmd with rfl | rfl | rfl
  · simp (disch := omega) only [ax_let, Option.bind_some, cond_true, cond_false, if_pos, if_neg, if_true, if_false, eq_self, nI_add, nI_ltI, nI_leI, nI_eq, nI_clamp, pu_in, c_0, c_1, c_2, c_3, c_4, c_5, c_6, c_7, c_8, c_9, c_10, c_11, c_12, c_15, c_16, c_17, c_32, c_35, c_36, c_38, c_40, c_41, c_42, c_43, c_44, c_45, c_48, c_57, c_58, c_59, c_60, c_61, c_62, c_64, c_65, c_69, c_75, c_83, c_91, c_93, c_94, c_97, c_105, c_106, c_110, c_119, c_123, c_124, c_125, c_126, c_240, c_256, c_400, c_m, nI_m1, nM_i, lN_add, lN_mul, lN_i, nI_l, lN_eq, lgN_le, lgN_lt, lgN_ge, lgN_gt, nI_sub, nI_mul, d_0, d_1, c_13, c_14, c_18, c_19, c_20, c_21, c_22, c_23, c_24, c_25, c_26, c_27, c_28, c_29, c_30, c_31, c_33, c_34, c_37, c_39, c_46, c_47, c_49, c_50, c_51, c_52, c_53, c_54, c_55, c_56, c_63, c_66, c_67, c_68, c_70, c_71, c_72, c_73, c_74, c_76, c_77, c_78, c_79, c_80, c_81, c_82, c_84, c_85, c_86, c_87, c_88, c_89, c_90, c_92, c_95, c_96, c_98, c_99, c_100, c_101, c_102, c_103, c_104, c_107, c_108, c_109, c_111, c_112, c_113, c_114, c_115, c_116, c_117, c_118, c_120, c_121, c_122, c_127, c_280, d_2, d_3, d_4, d_8, d_9, d_10, d_15, d_16, d_32, d_48, d_62, d_63, d_64, h7]
  · have := h1.resolve_right (by omega)
    simp (disch := omega) only [ax_let, Option.bind_some, cond_true, cond_false, if_pos, if_neg, if_true, if_false, eq_self, nI_add, nI_ltI, nI_leI, nI_eq, nI_clamp, pu_in, c_0, c_1, c_2, c_3, c_4, c_5, c_6, c_7, c_8, c_9, c_10, c_11, c_12, c_15, c_16, c_17, c_32, c_35, c_36, c_38, c_40, c_41, c_42, c_43, c_44, c_45, c_48, c_57, c_58, c_59, c_60, c_61, c_62, c_64, c_65, c_69, c_75, c_83, c_91, c_93, c_94, c_97, c_105, c_106, c_110, c_119, c_123, c_124, c_125, c_126, c_240, c_256, c_400, c_m, nI_m1, nM_i, lN_add, lN_mul, lN_i, nI_l, lN_eq, lgN_le, lgN_lt, lgN_ge, lgN_gt, nI_sub, nI_mul, d_0, d_1, c_13, c_14, c_18, c_19, c_20, c_21, c_22, c_23, c_24, c_25, c_26, c_27, c_28, c_29, c_30, c_31, c_33, c_34, c_37, c_39, c_46, c_47, c_49, c_50, c_51, c_52, c_53, c_54, c_55, c_56, c_63, c_66, c_67, c_68, c_70, c_71, c_72, c_73, c_74, c_76, c_77, c_78, c_79, c_80, c_81, c_82, c_84, c_85, c_86, c_87, c_88, c_89, c_90, c_92, c_95, c_96, c_98, c_99, c_100, c_101, c_102, c_103, c_104, c_107, c_108, c_109, c_111, c_112, c_113, c_114, c_115, c_116, c_117, c_118, c_120, c_121, c_122, c_127, c_280, d_2, d_3, d_4, d_8, d_9, d_10, d_15, d_16, d_32, d_48, d_62, d_63, d_64, h7]
  · have := h1.resolve_right (by omega)
    simp (disch := omega) only [ax_let, Option.bind_some, cond_true, cond_false, if_pos, if_neg, if_true, if_false, eq_self, nI_add, nI_ltI, nI_leI, nI_eq, nI_clamp, pu_in, c_0, c_1, c_2, c_3, c_4, c_5, c_6, c_7, c_8, c_9, c_10, c_11, c_12, c_15, c_16, c_17, c_32, c_35, c_36, c_38, c_40, c_41, c_42, c_43, c_44, c_45, c_48, c_57, c_58, c_59, c_60, c_61, c_62, c_64, c_65, c_69, c_75, c_83, c_91, c_93, c_94, c_97, c_105, c_106, c_110, c_119, c_123, c_124, c_125, c_126, c_240, c_256, c_400, c_m, nI_m1, nM_i, lN_add, lN_mul, lN_i, nI_l, lN_eq, lgN_le, lgN_lt, lgN_ge, lgN_gt, nI_sub, nI_mul, d_0, d_1, c_13, c_14, c_18, c_19, c_20, c_21, c_22, c_23, c_24, c_25, c_26, c_27, c_28, c_29, c_30, c_31, c_33, c_34, c_37, c_39, c_46, c_47, c_49, c_50, c_51, c_52, c_53, c_54, c_55, c_56, c_63, c_66, c_67, c_68, c_70, c_71, c_72, c_73, c_74, c_76, c_77, c_78, c_79, c_80, c_81, c_82, c_84, c_85, c_86, c_87, c_88, c_89, c_90, c_92, c_95, c_96, c_98, c_99, c_100, c_101, c_102, c_103, c_104, c_107, c_108, c_109, c_111, c_112, c_113, c_114, c_115, c_116, c_117, c_118, c_120, c_121, c_122, c_127, c_280, d_2, d_3, d_4, d_8, d_9, d_10, d_15, d_16, d_32, d_48, d_62, d_63, d_64, h7]
/-- the number of a rotation -/
theorem ZE.num22 {v p : Nat} (hF : 241 ≤ F) (h : ZE R n f 22 ts Tot Pr Ops Tms Fs s) (hp : pNum ts = some (v, p, r)) : ∃ s2, zgo ph R F n f ts s r s2 ∧ ZE R n f 23 r Tot (Pr ++ dec v) Ops Tms Fs s2 ∧ s2.2 0 38 9 = lN v ∧ s2.1 0 38 10 = nI p ∧ frm XZe s s2 := by
  have hw : wants 22 := Or.inr (Or.inr (Or.inr (Or.inr (Or.inr (Or.inl rfl)))))
  obtain ⟨s7, e1, e2, e3, e4, e5, e6, e7, e8, e9, e10, e11, e12, e13, e14, e15, e16⟩ := h.num hF hw (by omega) hp
  obtain ⟨a1, a2, a3, a4, a5, a6, a7, ⟨a8, a9, a10, a11, a12⟩, a13⟩ := h
  have f8 : frm (fun g r k => g = 0 ∧ r = 38 ∧ k = 7) s7 (ax_wI s7 0 38 7 (nI 23)) := frm.refl.wI _ _ _ _ ⟨rfl, rfl, rfl⟩
  have ff : frm XZe s (ax_wI s7 0 38 7 (nI 23)) := (e16.imp (fun g r k h => by unfold XZe; omega)).trans (f8.imp (fun g r k h => by unfold XZe; omega))
  have hP2 : ZP (Pr ++ dec v) (ax_wI s7 0 38 7 (nI 23)) := e2.keep f8 (fun r k h => by omega)
  have hE : f_Z_endNumber F (zN s 0 v p) = some (ax_wI s7 0 38 7 (nI 23)) := by
    have h7' : (zN s 0 v p).1 0 38 7 = nI 22 := (zN_o s 0 v p (by omega)).trans a3
    have h9' := zN_9 s 0 v p
    unfold f_Z_endNumber
    simp (disch := omega) only [ax_let, Option.bind_some, cond_true, cond_false, if_pos, if_neg, if_true, if_false, eq_self, nI_add, nI_ltI, nI_leI, nI_eq, nI_clamp, pu_in, c_0, c_1, c_2, c_3, c_4, c_5, c_6, c_7, c_8, c_9, c_10, c_11, c_12, c_15, c_16, c_17, c_32, c_35, c_36, c_38, c_40, c_41, c_42, c_43, c_44, c_45, c_48, c_57, c_58, c_59, c_60, c_61, c_62, c_64, c_65, c_69, c_75, c_83, c_91, c_93, c_94, c_97, c_105, c_106, c_110, c_119, c_123, c_124, c_125, c_126, c_240, c_256, c_400, c_m, nI_m1, nM_i, lN_add, lN_mul, lN_i, nI_l, lN_eq, lgN_le, lgN_lt, lgN_ge, lgN_gt, nI_sub, nI_mul, d_0, d_1, c_13, c_14, c_18, c_19, c_20, c_21, c_22, c_23, c_24, c_25, c_26, c_27, c_28, c_29, c_30, c_31, c_33, c_34, c_37, c_39, c_46, c_47, c_49, c_50, c_51, c_52, c_53, c_54, c_55, c_56, c_63, c_66, c_67, c_68, c_70, c_71, c_72, c_73, c_74, c_76, c_77, c_78, c_79, c_80, c_81, c_82, c_84, c_85, c_86, c_87, c_88, c_89, c_90, c_92, c_95, c_96, c_98, c_99, c_100, c_101, c_102, c_103, c_104, c_107, c_108, c_109, c_111, c_112, c_113, c_114, c_115, c_116, c_117, c_118, c_120, c_121, c_122, c_127, c_280, d_2, d_3, d_4, d_8, d_9, d_10, d_15, d_16, d_32, d_48, d_62, d_63, d_64, zN_0, h7', h9', e1, e6]
  have h7n : (ax_wI s7 0 38 7 (nI 23)).1 0 38 7 = nI 23 := by simp (disch := omega) only [wI_1, wI_2, wL_1, wL_2, true_and, and_true, and_self, false_and, and_false, if_true, if_false, if_pos, if_neg]
  have h8' : (ax_wI s7 0 38 7 (nI 23)).1 0 38 8 = nI 0 := (f8.1 0 38 8 (by omega)).trans e7
  refine ⟨_, z_num a1 a2 a3 hw hp hE (XZe.z ff) h8' (z_rejd h7n (by omega) (by unfold wants; omega) hP2 (by omega) (fun c p hc => zx_22 (by have := isD_i.mp hc; omega) (Or.inr (Or.inl rfl)) h7n (Or.inl (by have := isD_i.mp hc; omega)))), ⟨a1.keep (XZe.z ff), h8', h7n, hP2, e3.keep f8 (fun r k h => by omega), e4.keep f8 (fun r k h => by omega), e5.keep f8 (fun r k h => by omega), ⟨e12, by omega, by omega, a11, e14⟩, e15 23 (by unfold wants; omega)⟩, by simp (disch := omega) only [wI_1, wI_2, wL_1, wL_2, true_and, and_true, and_self, false_and, and_false, if_true, if_false, if_pos, if_neg]; exact e8, by simp (disch := omega) only [wI_1, wI_2, wL_1, wL_2, true_and, and_true, and_self, false_and, and_false, if_true, if_false, if_pos, if_neg]; exact e9, ff⟩
/-- the bracket is closed -/
theorem ZE.close23 {x k v q : Nat} {y : Int32} (hF : 241 ≤ F) (h : ZE R n f md ((41, p) :: ts) Tot Pr Ops (Ops.flatMap (·.2.2.2)) (x :: Fs) s) (hmd : (md = 23 ∧ k = 7 ∧ y = nI q ∧ s.2 0 38 9 = lN v ∧ s.1 0 38 10 = nI q) ∨ (md = 24 ∧ k = 8 ∧ y = nM ∧ v = x ∧ q = 0)) : ∃ s2 Pr', zgo ph R F n f ((41, p) :: ts) s ts s2 ∧ ZE R n f (cMd Fs) ts Tot Pr' (Ops ++ [(k, v, q, [])] ++ List.replicate (cNt Fs) oNot) (Ops.flatMap (·.2.2.2)) (cFs Fs) s2 ∧ frm XZe s s2 := by
  obtain ⟨a1, a2, a3, a4, a5, a6, a7, ⟨a8, a9, a10, a11, a12⟩, a13⟩ := id h
  rw [List.length_cons] at a9 a10 a11
  rw [List.length_cons] at a9
  have h49 : s.1 0 38 49 = nI (Fs.length + 1) := a7.1
  have e1 : Fs.length + 1 - 1 = Fs.length := by omega
  obtain ⟨ht, hx⟩ := a7.top
  obtain ⟨s3, b1, b2, b3⟩ := ze_emit (k := k) (v := v) (p := q) (l := []) (q := y) a5 (by omega) (by rcases hmd with ⟨_, rfl, rfl, _⟩ | ⟨_, rfl, rfl, _⟩ <;> rfl) (fun hk => by omega)
  have h49' : s3.1 0 38 49 = nI (Fs.length + 1) := (b3.1 0 38 49 (by omega)).trans h49
  have f3 : frm (fun g r k => g = 0 ∧ r = 38 ∧ k = 49) s3 (ax_wI s3 0 38 49 (nI Fs.length)) := frm.refl.wI _ _ _ _ ⟨rfl, rfl, rfl⟩
  have hFs : ZF Fs (ax_wI s3 0 38 49 (nI Fs.length)) := (a7.keep b3 (fun r k h => by omega)).pop (f3.imp (fun g r k h => by omega)) (by simp (disch := omega) only [wI_1, wI_2, wL_1, wL_2, true_and, and_true, and_self, false_and, and_false, if_true, if_false, if_pos, if_neg])
  obtain ⟨s4, c1, c2, c3, c4, c5⟩ := ze_comp (F := F) hF (b2.keep f3 (fun r k h => by omega)) hFs (by rw [List.length_append, List.length_singleton]; omega) (by omega)
  have f14 : frm XZm s s4 := ((b3.imp (fun g r k h => by unfold XZm; omega)).trans (f3.imp (fun g r k h => by unfold XZm; omega))).trans (XC1.m c5)
  have hM : ZM (Ops.flatMap (·.2.2.2)) s4 := ((a6.keep b3 (fun r k h => by omega)).keep f3 (fun r k h => by omega)).keep c5 (fun r k h => by unfold XC1; omega)
  have hlen := cFs_len Fs
  have hD : zdis F md 41 p s = some (nI 1, s4) := by
    unfold zdis f_Z_acceptsExpression
    rcases hmd with ⟨rfl, rfl, rfl, h9, h10⟩ | ⟨rfl, rfl, rfl, rfl, rfl⟩
    · simp (disch := omega) only [ax_let, Option.bind_some, cond_true, cond_false, if_pos, if_neg, if_true, if_false, eq_self, nI_add, nI_ltI, nI_leI, nI_eq, nI_clamp, pu_in, c_0, c_1, c_2, c_3, c_4, c_5, c_6, c_7, c_8, c_9, c_10, c_11, c_12, c_15, c_16, c_17, c_32, c_35, c_36, c_38, c_40, c_41, c_42, c_43, c_44, c_45, c_48, c_57, c_58, c_59, c_60, c_61, c_62, c_64, c_65, c_69, c_75, c_83, c_91, c_93, c_94, c_97, c_105, c_106, c_110, c_119, c_123, c_124, c_125, c_126, c_240, c_256, c_400, c_m, nI_m1, nM_i, lN_add, lN_mul, lN_i, nI_l, lN_eq, lgN_le, lgN_lt, lgN_ge, lgN_gt, nI_sub, nI_mul, d_0, d_1, c_13, c_14, c_18, c_19, c_20, c_21, c_22, c_23, c_24, c_25, c_26, c_27, c_28, c_29, c_30, c_31, c_33, c_34, c_37, c_39, c_46, c_47, c_49, c_50, c_51, c_52, c_53, c_54, c_55, c_56, c_63, c_66, c_67, c_68, c_70, c_71, c_72, c_73, c_74, c_76, c_77, c_78, c_79, c_80, c_81, c_82, c_84, c_85, c_86, c_87, c_88, c_89, c_90, c_92, c_95, c_96, c_98, c_99, c_100, c_101, c_102, c_103, c_104, c_107, c_108, c_109, c_111, c_112, c_113, c_114, c_115, c_116, c_117, c_118, c_120, c_121, c_122, c_127, c_280, d_2, d_3, d_4, d_8, d_9, d_10, d_15, d_16, d_32, d_48, d_62, d_63, d_64, a3, h9, h10, b1, h49', e1, c1]
    · simp (disch := omega) only [ax_let, Option.bind_some, cond_true, cond_false, if_pos, if_neg, if_true, if_false, eq_self, nI_add, nI_ltI, nI_leI, nI_eq, nI_clamp, pu_in, c_0, c_1, c_2, c_3, c_4, c_5, c_6, c_7, c_8, c_9, c_10, c_11, c_12, c_15, c_16, c_17, c_32, c_35, c_36, c_38, c_40, c_41, c_42, c_43, c_44, c_45, c_48, c_57, c_58, c_59, c_60, c_61, c_62, c_64, c_65, c_69, c_75, c_83, c_91, c_93, c_94, c_97, c_105, c_106, c_110, c_119, c_123, c_124, c_125, c_126, c_240, c_256, c_400, c_m, nI_m1, nM_i, lN_add, lN_mul, lN_i, nI_l, lN_eq, lgN_le, lgN_lt, lgN_ge, lgN_gt, nI_sub, nI_mul, d_0, d_1, c_13, c_14, c_18, c_19, c_20, c_21, c_22, c_23, c_24, c_25, c_26, c_27, c_28, c_29, c_30, c_31, c_33, c_34, c_37, c_39, c_46, c_47, c_49, c_50, c_51, c_52, c_53, c_54, c_55, c_56, c_63, c_66, c_67, c_68, c_70, c_71, c_72, c_73, c_74, c_76, c_77, c_78, c_79, c_80, c_81, c_82, c_84, c_85, c_86, c_87, c_88, c_89, c_90, c_92, c_95, c_96, c_98, c_99, c_100, c_101, c_102, c_103, c_104, c_107, c_108, c_109, c_111, c_112, c_113, c_114, c_115, c_116, c_117, c_118, c_120, c_121, c_122, c_127, c_280, d_2, d_3, d_4, d_8, d_9, d_10, d_15, d_16, d_32, d_48, d_62, d_63, d_64, a3, h49, e1, ht, b1, h49', c1]
  obtain ⟨s2, d1, d2, d3⟩ := h.step (ph := ph) (by omega) (by omega) rfl hD f14 c4 c2 hM c3 (by simp only [List.length_append, List.length_singleton, List.length_replicate]; omega) (by omega) (by omega)
  exact ⟨s2, _, d1, d2, (XZm.e f14).trans (XP.e d3)⟩
end
