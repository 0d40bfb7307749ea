/-! PURE: the reference's things -/
/-- what the signs of things change, but for printing -/
def XZt (g r k : Nat) : Prop := g = 0 ∧ ((46 ≤ r ∧ r ≤ 57) ∨ (r = 38 ∧ (k = 7 ∨ k = 19 ∨ k = 20 ∨ k = 22 ∨ k = 23 ∨ k = 33)))
theorem XZt.z {ph : Nat} {s s' : ax_σ} (h : frm XZt s s') : frm (XZ ph) s s' := h.imp (fun g r k h => by unfold XZt at h; unfold XZ; omega)
section
variable {ph R F n : Nat} {f : Nat → Nat} {ts r r2 : List Tok} {s s' s1 s2 s0 : ax_σ} {md md' c p m : Nat} {Tot Pr : List Nat} {Ops Ops' : List Op} {Tms Tms' : List Tm} {Fs Fs' : List Nat}
theorem ZE.stepT (h : ZE R n f md ((c, p) :: ts) Tot Pr Ops Tms Fs s) (hmd : md < 61) (hm3 : md ≠ 3 ∧ md ≠ 6 ∧ md ≠ 8) (hc : isD c = false) (hD : zdis F md c p s = some (nI 1, s1)) (hf : frm XZt s s1) (h7 : s1.1 0 38 7 = nI md') : ∃ s2, zgo ph R F n f ((c, p) :: ts) s ts s2 ∧ ZE R n f md' ts Tot (Pr ++ [c]) Ops Tms Fs s2 ∧ frm XP s1 s2 := by
  obtain ⟨a1, a2, a3, a4, a5, a6, a7, ⟨a8, a9, a10, a11, a12⟩, a13⟩ := h
  have hck := a12 _ (List.mem_cons_self ..)
  have hP1 : ZP Pr s1 := a4.keep hf (fun r k h => by unfold XZt; omega)
  rw [List.length_cons] at a8 a9 a10
  obtain ⟨s2, e1, e2, e3⟩ := acc_1 (p := p) a3 (by omega) hck.1 (fun e => by rw [hc] at e; cases e.2) hD hP1 (by omega)
  have hs : zsil md c = false := decide_eq_false (by omega)
  rw [hs] at e2
  have fz : frm (XZ ph) s s2 := (XZt.z hf).trans (XZe.z (XP.e e3))
  refine ⟨s2, z_step a1 a2 fz e1, ⟨a1.keep (XZ.w fz), ?_, ?_, e2, (a5.keep hf (fun r k h => by unfold XZt; omega)).keep e3 (fun r k h => by unfold XP; omega), (a6.keep hf (fun r k h => by unfold XZt; omega)).keep e3 (fun r k h => by unfold XP; omega), (a7.keep hf (fun r k h => by unfold XZt; omega)).keep e3 (fun r k h => by unfold XP; omega), ⟨by rw [List.length_append, List.length_singleton]; omega, by omega, by omega, a11, fun t ht => a12 t (List.mem_cons_of_mem _ ht)⟩, a13.step hc⟩, e3⟩
  · rw [e3.1 0 38 8 (by unfold XP; omega), hf.1 0 38 8 (by unfold XZt; omega)]; exact a2
  · rw [e3.1 0 38 7 (by unfold XP; omega)]; exact h7
theorem ZE.rejT {G : ax_σ → Prop} (h : ZE R n f md ((c, p) :: ts) Tot Pr Ops Tms Fs s) (hmd : md < 61) (hw : ¬ (wants md ∧ isD c = true)) (hD : ∃ s1, zdis F md c p s = some (nI 0, s1) ∧ frm XZt s s1) : zR ph R F n f ((c, p) :: ts) s (nI p) G := by
  obtain ⟨s1, hD, hf⟩ := hD
  obtain ⟨a1, a2, a3, a4, a5, a6, a7, ⟨a8, a9, a10, a11, a12⟩, a13⟩ := h
  have hck := a12 _ (List.mem_cons_self ..)
  have hP1 : ZP Pr s1 := a4.keep hf (fun r k h => by unfold XZt; omega)
  rw [List.length_cons] at a8
  obtain ⟨s2, e1, e3⟩ := acc_0 (p := p) a3 (by omega) hck.1 hw hD hP1 (by omega)
  exact z_stop a1 a2 ((XZt.z hf).trans (XZe.z (XP.e e3))) e1
/-- digits are refused where no number is wanted -/
theorem z_rejdT {P1 : List Nat} (h7 : s.1 0 38 7 = nI md) (hmd : md < 60) (hw : ¬ wants md) (hP : ZP P1 s) (hl : P1.length < 280) (hD : ∀ c p, isD c = true → ∃ s1, zdis F md c p s = some (nI 0, s1) ∧ frm XZt s s1) : ∀ c p, isD c = true → ∃ s2, f_Z_accepts F (nI c) (nI p) s = some (nI 0, s2) := by
  intro c p hc
  obtain ⟨s1, a1, a2⟩ := hD c p hc
  have hc' := isD_i.mp hc
  obtain ⟨s2, b1, b2⟩ := acc_0 (p := p) h7 (by omega) (by omega) (fun e => hw e.1) a1 (hP.keep a2 (fun r k h => by unfold XZt; omega)) hl
  exact ⟨s2, b1⟩
theorem zx_12 {c p : Nat} (hc : c < 128) (h7 : s.1 0 38 7 = nI 12) (h1 : c ≠ 91) : ∃ s1, zdis F 12 c p s = some (nI 0, s1) ∧ frm XZt s s1 := by
  refine ⟨ax_wI s 0 38 7 (nI 10), ?_, frm.refl.wI _ _ _ _ (by unfold XZt; omega)⟩
  unfold zdis f_Z_acceptsThing
  simp (disch := omega) only [ax_let, Option.bind_some, cond_true, cond_false, if_pos, if_neg, if_true, if_false, eq_self, nI_add, nI_ltI, nI_leI, nI_eq, nI_clamp, pu_in, c_0, c_1, c_2, c_3, c_4, c_5, c_6, c_7, c_8, c_9, c_10, c_11, c_12, c_15, c_16, c_17, c_32, c_35, c_36, c_38, c_40, c_41, c_42, c_43, c_44, c_45, c_48, c_57, c_58, c_59, c_60, c_61, c_62, c_64, c_65, c_69, c_75, c_83, c_91, c_93, c_94, c_97, c_105, c_106, c_110, c_119, c_123, c_124, c_125, c_126, c_240, c_256, c_400, c_m, nI_m1, nM_i, lN_add, lN_mul, lN_i, nI_l, lN_eq, lgN_le, lgN_lt, lgN_ge, lgN_gt, nI_sub, nI_mul, d_0, d_1, c_13, c_14, c_18, c_19, c_20, c_21, c_22, c_23, c_24, c_25, c_26, c_27, c_28, c_29, c_30, c_31, c_33, c_34, c_37, c_39, c_46, c_47, c_49, c_50, c_51, c_52, c_53, c_54, c_55, c_56, c_63, c_66, c_67, c_68, c_70, c_71, c_72, c_73, c_74, c_76, c_77, c_78, c_79, c_80, c_81, c_82, c_84, c_85, c_86, c_87, c_88, c_89, c_90, c_92, c_95, c_96, c_98, c_99, c_100, c_101, c_102, c_103, c_104, c_107, c_108, c_109, c_111, c_112, c_113, c_114, c_115, c_116, c_117, c_118, c_120, c_121, c_122, c_127, c_280, d_2, d_3, d_4, d_8, d_9, d_10, d_15, d_16, d_32, d_48, d_62, d_63, d_64, h7]
theorem zx_49 {c p : Nat} (hc : c < 128) (h7 : s.1 0 38 7 = nI 49) (h1 : c ≠ 59) : ∃ s1, zdis F 49 c p s = some (nI 0, s1) ∧ frm XZt s s1 := by
  refine ⟨s, ?_, frm.refl⟩
  unfold zdis f_Z_acceptsStep
  simp (disch := omega) only [ax_let, Option.bind_some, cond_true, cond_false, if_pos, if_neg, if_true, if_false, eq_self, nI_add, nI_ltI, nI_leI, nI_eq, nI_clamp, pu_in, c_0, c_1, c_2, c_3, c_4, c_5, c_6, c_7, c_8, c_9, c_10, c_11, c_12, c_15, c_16, c_17, c_32, c_35, c_36, c_38, c_40, c_41, c_42, c_43, c_44, c_45, c_48, c_57, c_58, c_59, c_60, c_61, c_62, c_64, c_65, c_69, c_75, c_83, c_91, c_93, c_94, c_97, c_105, c_106, c_110, c_119, c_123, c_124, c_125, c_126, c_240, c_256, c_400, c_m, nI_m1, nM_i, lN_add, lN_mul, lN_i, nI_l, lN_eq, lgN_le, lgN_lt, lgN_ge, lgN_gt, nI_sub, nI_mul, d_0, d_1, c_13, c_14, c_18, c_19, c_20, c_21, c_22, c_23, c_24, c_25, c_26, c_27, c_28, c_29, c_30, c_31, c_33, c_34, c_37, c_39, c_46, c_47, c_49, c_50, c_51, c_52, c_53, c_54, c_55, c_56, c_63, c_66, c_67, c_68, c_70, c_71, c_72, c_73, c_74, c_76, c_77, c_78, c_79, c_80, c_81, c_82, c_84, c_85, c_86, c_87, c_88, c_89, c_90, c_92, c_95, c_96, c_98, c_99, c_100, c_101, c_102, c_103, c_104, c_107, c_108, c_109, c_111, c_112, c_113, c_114, c_115, c_116, c_117, c_118, c_120, c_121, c_122, c_127, c_280, d_2, d_3, d_4, d_8, d_9, d_10, d_15, d_16, d_32, d_48, d_62, d_63, d_64, h7]
theorem zx_47 {c p : Nat} (hc : c < 128) (h7 : s.1 0 38 7 = nI 47) (h1 : c ≠ 59) (h2 : c ≠ 44) : ∃ s1, zdis F 47 c p s = some (nI 0, s1) ∧ frm XZt s s1 := by
  refine ⟨s, ?_, frm.refl⟩
  unfold zdis f_Z_acceptsStep
  simp (disch := omega) only [ax_let, Option.bind_some, cond_true, cond_false, if_pos, if_neg, if_true, if_false, eq_self, nI_add, nI_ltI, nI_leI, nI_eq, nI_clamp, pu_in, c_0, c_1, c_2, c_3, c_4, c_5, c_6, c_7, c_8, c_9, c_10, c_11, c_12, c_15, c_16, c_17, c_32, c_35, c_36, c_38, c_40, c_41, c_42, c_43, c_44, c_45, c_48, c_57, c_58, c_59, c_60, c_61, c_62, c_64, c_65, c_69, c_75, c_83, c_91, c_93, c_94, c_97, c_105, c_106, c_110, c_119, c_123, c_124, c_125, c_126, c_240, c_256, c_400, c_m, nI_m1, nM_i, lN_add, lN_mul, lN_i, nI_l, lN_eq, lgN_le, lgN_lt, lgN_ge, lgN_gt, nI_sub, nI_mul, d_0, d_1, c_13, c_14, c_18, c_19, c_20, c_21, c_22, c_23, c_24, c_25, c_26, c_27, c_28, c_29, c_30, c_31, c_33, c_34, c_37, c_39, c_46, c_47, c_49, c_50, c_51, c_52, c_53, c_54, c_55, c_56, c_63, c_66, c_67, c_68, c_70, c_71, c_72, c_73, c_74, c_76, c_77, c_78, c_79, c_80, c_81, c_82, c_84, c_85, c_86, c_87, c_88, c_89, c_90, c_92, c_95, c_96, c_98, c_99, c_100, c_101, c_102, c_103, c_104, c_107, c_108, c_109, c_111, c_112, c_113, c_114, c_115, c_116, c_117, c_118, c_120, c_121, c_122, c_127, c_280, d_2, d_3, d_4, d_8, d_9, d_10, d_15, d_16, d_32, d_48, d_62, d_63, d_64, h7]
def XNt (m g r k : Nat) : Prop := g = 0 ∧ (r = 67 ∨ (r = 38 ∧ ((7 ≤ k ∧ k ≤ 10) ∨ k = 51)) ∨ ((r = 47 ∨ r = 52 ∨ r = 53) ∧ k = m))
theorem XNt.z (h : frm (XNt m) s s') : frm (XZ ph) s s' := h.imp (fun g r k h => by unfold XNt at h; unfold XZ; omega)
/-- a number of a loop or a step -/
theorem ZE.numT {v p k0 : Nat} (hF : 241 ≤ F) (h : ZE R n f md ts Tot Pr Ops Tms Fs s) (hmd : md = 11 ∨ md = 42 ∨ md = 43 ∨ md = 45) (h22 : s.1 0 38 22 = nI (m + 1)) (hm : m < 240) (h47 : s.1 0 47 m = nI k0) (hp : pNum ts = some (v, p, r)) : ∃ s2, zgo ph R F n f ts s r s2 ∧ ZE R n f (if md = 11 then 12 else 49) r Tot (Pr ++ dec v) Ops Tms Fs s2 ∧ s2.2 0 52 m = lN v ∧ s2.1 0 53 m = nI p ∧ s2.1 0 47 m = nI (if md = 43 then 8 else k0) ∧ frm (XNt m) s s2 := by
  have hw : wants md := by unfold wants; omega
  obtain ⟨s7, e1, e2, e3, e4, e5, e6, e7, e8, e9, e10, e11, e12, e13, e14, e15, e16⟩ := h.num hF hw (by omega) hp
  obtain ⟨a1, a2, a3, a4, a5, a6, a7, ⟨a8, a9, a10, a11, a12⟩, a13⟩ := h
  have g22 : s7.1 0 38 22 = nI (m + 1) := (e16.1 0 38 22 (by omega)).trans h22
  have g47 : s7.1 0 47 m = nI k0 := (e16.1 0 47 m (by omega)).trans h47
  have em : m + 1 - 1 = m := by omega
  have f8 : frm (fun g r k => g = 0 ∧ ((r = 38 ∧ k = 7) ∨ ((r = 47 ∨ r = 52 ∨ r = 53) ∧ k = m))) s7 (ax_wI (ax_wI (ax_wI (ax_wL s7 0 52 m (lN v)) 0 53 m (nI p)) 0 47 m (nI (if md = 43 then 8 else k0))) 0 38 7 (nI (if md = 11 then 12 else 49))) := by
    refine (((frm.refl.wL _ _ _ _ ?_).wI _ _ _ _ ?_).wI _ _ _ _ ?_).wI _ _ _ _ ?_ <;> omega
  have ff : frm (XNt m) s _ := (e16.imp (fun g r k h => by unfold XNt; omega)).trans (f8.imp (fun g r k h => by unfold XNt; omega))
  have hP2 := e2.keep f8 (fun r k h => by omega)
  have hE : f_Z_endNumber F (zN s 0 v p) = some (ax_wI (ax_wI (ax_wI (ax_wL s7 0 52 m (lN v)) 0 53 m (nI p)) 0 47 m (nI (if md = 43 then 8 else k0))) 0 38 7 (nI (if md = 11 then 12 else 49))) := by
    have h7' : (zN s 0 v p).1 0 38 7 = nI md := (zN_o s 0 v p (by omega)).trans a3
    have h9' := zN_9 s 0 v p
    unfold f_Z_endNumber
    rcases hmd with rfl | rfl | rfl | rfl <;> simp (disch := omega) only [ax_let, Option.bind_some, cond_true, cond_false, if_pos, if_neg, if_true, if_false, eq_self, nI_add, nI_ltI, nI_leI, nI_eq, nI_clamp, pu_in, c_0, c_1, c_2, c_3, c_4, c_5, c_6, c_7, c_8, c_9, c_10, c_11, c_12, c_15, c_16, c_17, c_32, c_35, c_36, c_38, c_40, c_41, c_42, c_43, c_44, c_45, c_48, c_57, c_58, c_59, c_60, c_61, c_62, c_64, c_65, c_69, c_75, c_83, c_91, c_93, c_94, c_97, c_105, c_106, c_110, c_119, c_123, c_124, c_125, c_126, c_240, c_256, c_400, c_m, nI_m1, nM_i, lN_add, lN_mul, lN_i, nI_l, lN_eq, lgN_le, lgN_lt, lgN_ge, lgN_gt, nI_sub, nI_mul, d_0, d_1, c_13, c_14, c_18, c_19, c_20, c_21, c_22, c_23, c_24, c_25, c_26, c_27, c_28, c_29, c_30, c_31, c_33, c_34, c_37, c_39, c_46, c_47, c_49, c_50, c_51, c_52, c_53, c_54, c_55, c_56, c_63, c_66, c_67, c_68, c_70, c_71, c_72, c_73, c_74, c_76, c_77, c_78, c_79, c_80, c_81, c_82, c_84, c_85, c_86, c_87, c_88, c_89, c_90, c_92, c_95, c_96, c_98, c_99, c_100, c_101, c_102, c_103, c_104, c_107, c_108, c_109, c_111, c_112, c_113, c_114, c_115, c_116, c_117, c_118, c_120, c_121, c_122, c_127, c_280, d_2, d_3, d_4, d_8, d_9, d_10, d_15, d_16, d_32, d_48, d_62, d_63, d_64, wI_1, wI_2, wL_1, wL_2, true_and, and_true, and_self, false_and, and_false, if_true, if_false, zN_0, h7', h9', e1, e6, e8, e9, g22, em, g47]
  have h7n : (ax_wI (ax_wI (ax_wI (ax_wL s7 0 52 m (lN v)) 0 53 m (nI p)) 0 47 m (nI (if md = 43 then 8 else k0))) 0 38 7 (nI (if md = 11 then 12 else 49))).1 0 38 7 = nI (if md = 11 then 12 else 49) := by simp (disch := omega) only [wI_1, wI_2, wL_1, wL_2, true_and, and_true, and_self, false_and, and_false, if_true, if_false, if_pos, if_neg]
  have h8' := (f8.1 0 38 8 (by omega)).trans e7
  have hrej := z_rejdT (F := F) (md := if md = 11 then 12 else 49) h7n (by split <;> omega) (by unfold wants; split <;> omega) hP2 (by omega) (fun c p hc => by
    have hc' := isD_i.mp hc
    by_cases h11 : md = 11
    · rw [if_pos h11] at h7n ⊢
      exact zx_12 (by omega) h7n (by omega)
    · rw [if_neg h11] at h7n ⊢
      exact zx_49 (by omega) h7n (by omega))
  refine ⟨_, z_num a1 a2 a3 hw hp hE (XNt.z ff) h8' hrej, ⟨a1.keep (XNt.z ff), h8', h7n, hP2, e3.keep f8 (fun r k h => by omega), e4.keep f8 (fun r k h => by omega), e5.keep f8 (fun r k h => by omega), ⟨e12, by omega, by omega, a11, e14⟩, e15 _ (by unfold wants; split <;> omega)⟩, by simp (disch := omega) only [wI_1, wI_2, wL_1, wL_2, true_and, and_true, and_self, false_and, and_false, if_true, if_false, if_pos, if_neg], by simp (disch := omega) only [wI_1, wI_2, wL_1, wL_2, true_and, and_true, and_self, false_and, and_false, if_true, if_false, if_pos, if_neg], by simp (disch := omega) only [wI_1, wI_2, wL_1, wL_2, true_and, and_true, and_self, false_and, and_false, if_true, if_false, if_pos, if_neg], ff⟩
/-- the numbers behind @ -/
def ZU (Trs : List (Nat × Nat)) (s : ax_σ) : Prop := s.1 0 38 33 = nI Trs.length ∧ ∀ i t, Trs[i]? = some t → s.2 0 56 i = lN t.1 ∧ s.1 0 57 i = nI t.2
theorem ZU.keep {Trs : List (Nat × Nat)} {Q : Nat → Nat → Nat → Prop} (h : ZU Trs s) (hf : frm Q s s') (hq : ∀ r k, (r = 38 ∧ k = 33) ∨ r = 56 ∨ r = 57 → ¬ Q 0 r k) : ZU Trs s' :=
  ⟨(hf.1 _ _ _ (hq 38 33 (by omega))).trans h.1, fun i t hi => ⟨(hf.2 _ _ _ (hq 56 i (by omega))).trans (h.2 i t hi).1, (hf.1 _ _ _ (hq 57 i (by omega))).trans (h.2 i t hi).2⟩⟩
def XN46 (g r k : Nat) : Prop := g = 0 ∧ (r = 67 ∨ (r = 38 ∧ ((7 ≤ k ∧ k ≤ 10) ∨ k = 51 ∨ k = 33)) ∨ r = 56 ∨ r = 57)
theorem XN46.z (h : frm XN46 s s') : frm (XZ ph) s s' := h.imp (fun g r k h => by unfold XN46 at h; unfold XZ; omega)
theorem ZE.num46 {v p : Nat} {Trs : List (Nat × Nat)} (hF : 241 ≤ F) (h : ZE R n f 46 ts Tot Pr Ops Tms Fs s) (hU : ZU Trs s) (hl : Trs.length < 240) (hp : pNum ts = some (v, p, r)) : ∃ s2, zgo ph R F n f ts s r s2 ∧ ZE R n f 47 r Tot (Pr ++ dec v) Ops Tms Fs s2 ∧ ZU (Trs ++ [(v, p)]) s2 ∧ frm XN46 s s2 := by
  have hw : wants 46 := by unfold wants; omega
  obtain ⟨s7, e1, e2, e3, e4, e5, e6, e7, e8, e9, e10, e11, e12, e13, e14, e15, e16⟩ := h.num hF hw (by omega) hp
  obtain ⟨a1, a2, a3, a4, a5, a6, a7, ⟨a8, a9, a10, a11, a12⟩, a13⟩ := h
  have g33 : s7.1 0 38 33 = nI Trs.length := (e16.1 0 38 33 (by omega)).trans hU.1
  have f8 : frm (fun g r k => g = 0 ∧ ((r = 38 ∧ (k = 7 ∨ k = 33)) ∨ ((r = 56 ∨ r = 57) ∧ k = Trs.length))) s7 (ax_wI (ax_wI (ax_wI (ax_wL s7 0 56 Trs.length (lN v)) 0 57 Trs.length (nI p)) 0 38 33 (nI (Trs.length + 1))) 0 38 7 (nI 47)) := by
    refine (((frm.refl.wL _ _ _ _ ?_).wI _ _ _ _ ?_).wI _ _ _ _ ?_).wI _ _ _ _ ?_ <;> omega
  have ff : frm XN46 s _ := (e16.imp (fun g r k h => by unfold XN46; omega)).trans (f8.imp (fun g r k h => by unfold XN46; omega))
  have hP2 := e2.keep f8 (fun r k h => by omega)
  have hE : f_Z_endNumber F (zN s 0 v p) = some (ax_wI (ax_wI (ax_wI (ax_wL s7 0 56 Trs.length (lN v)) 0 57 Trs.length (nI p)) 0 38 33 (nI (Trs.length + 1))) 0 38 7 (nI 47)) := by
    have h7' : (zN s 0 v p).1 0 38 7 = nI 46 := (zN_o s 0 v p (by omega)).trans a3
    have h9' := zN_9 s 0 v p
    unfold f_Z_endNumber
    simp (disch := omega) only [ax_let, Option.bind_some, cond_true, cond_false, if_pos, if_neg, if_true, if_false, eq_self, nI_add, nI_ltI, nI_leI, nI_eq, nI_clamp, pu_in, c_0, c_1, c_2, c_3, c_4, c_5, c_6, c_7, c_8, c_9, c_10, c_11, c_12, c_15, c_16, c_17, c_32, c_35, c_36, c_38, c_40, c_41, c_42, c_43, c_44, c_45, c_48, c_57, c_58, c_59, c_60, c_61, c_62, c_64, c_65, c_69, c_75, c_83, c_91, c_93, c_94, c_97, c_105, c_106, c_110, c_119, c_123, c_124, c_125, c_126, c_240, c_256, c_400, c_m, nI_m1, nM_i, lN_add, lN_mul, lN_i, nI_l, lN_eq, lgN_le, lgN_lt, lgN_ge, lgN_gt, nI_sub, nI_mul, d_0, d_1, c_13, c_14, c_18, c_19, c_20, c_21, c_22, c_23, c_24, c_25, c_26, c_27, c_28, c_29, c_30, c_31, c_33, c_34, c_37, c_39, c_46, c_47, c_49, c_50, c_51, c_52, c_53, c_54, c_55, c_56, c_63, c_66, c_67, c_68, c_70, c_71, c_72, c_73, c_74, c_76, c_77, c_78, c_79, c_80, c_81, c_82, c_84, c_85, c_86, c_87, c_88, c_89, c_90, c_92, c_95, c_96, c_98, c_99, c_100, c_101, c_102, c_103, c_104, c_107, c_108, c_109, c_111, c_112, c_113, c_114, c_115, c_116, c_117, c_118, c_120, c_121, c_122, c_127, c_280, d_2, d_3, d_4, d_8, d_9, d_10, d_15, d_16, d_32, d_48, d_62, d_63, d_64, wI_1, wI_2, wL_1, wL_2, true_and, and_true, and_self, false_and, and_false, if_true, if_false, zN_0, h7', h9', e1, e6, e8, e9, g33]
  have h7n : (ax_wI (ax_wI (ax_wI (ax_wL s7 0 56 Trs.length (lN v)) 0 57 Trs.length (nI p)) 0 38 33 (nI (Trs.length + 1))) 0 38 7 (nI 47)).1 0 38 7 = nI 47 := by simp (disch := omega) only [wI_1, wI_2, wL_1, wL_2, true_and, and_true, and_self, false_and, and_false, if_true, if_false, if_pos, if_neg]
  have h8' := (f8.1 0 38 8 (by omega)).trans e7
  have hrej := z_rejdT (F := F) (md := 47) h7n (by omega) (by unfold wants; omega) hP2 (by omega) (fun c p hc => by
    have hc' := isD_i.mp hc
    exact zx_47 (by omega) h7n (by omega) (by omega))
  refine ⟨_, z_num a1 a2 a3 hw hp hE (XN46.z ff) h8' hrej, ⟨a1.keep (XN46.z ff), h8', h7n, hP2, e3.keep f8 (fun r k h => by omega), e4.keep f8 (fun r k h => by omega), e5.keep f8 (fun r k h => by omega), ⟨e12, by omega, by omega, a11, e14⟩, e15 _ (by unfold wants; omega)⟩, ⟨by simp (disch := omega) only [wI_1, wI_2, wL_1, wL_2, true_and, and_true, and_self, false_and, and_false, if_true, if_false, if_pos, if_neg, List.length_append, List.length_singleton], fun i t hi => ?_⟩, ff⟩
  rcases getc hi with ⟨i1, i2⟩ | ⟨i1, i2⟩
  · obtain ⟨b1, b2⟩ := hU.2 i t i2
    exact ⟨(f8.2 0 56 i (by omega)).trans ((e16.2 0 56 i (by omega)).trans b1), (f8.1 0 57 i (by omega)).trans ((e16.1 0 57 i (by omega)).trans b2)⟩
  · subst i1
    subst i2
    exact ⟨by simp (disch := omega) only [wI_1, wI_2, wL_1, wL_2, true_and, and_true, and_self, false_and, and_false, if_true, if_false, if_pos, if_neg], by simp (disch := omega) only [wI_1, wI_2, wL_1, wL_2, true_and, and_true, and_self, false_and, and_false, if_true, if_false, if_pos, if_neg]⟩
end
