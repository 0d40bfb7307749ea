/-! PURE: the reference reads the sizes -/
/-- what the signs of head and tables change -/
def XH (g r k : Nat) : Prop := g = 0 ∧ ((41 ≤ r ∧ r ≤ 45) ∨ (r = 38 ∧ (k = 7 ∨ (11 ≤ k ∧ k ≤ 15))))
def XHp (g r k : Nat) : Prop := g = 0 ∧ ((41 ≤ r ∧ r ≤ 45) ∨ r = 67 ∨ (r = 38 ∧ ((7 ≤ k ∧ k ≤ 15) ∨ k = 51)))
def XHq (g r k : Nat) : Prop := g = 0 ∧ (r = 41 ∨ r = 42 ∨ r = 67 ∨ (r = 38 ∧ ((7 ≤ k ∧ k ≤ 11) ∨ k = 51)))
section
variable {R F n : Nat} {f : Nat → Nat} {ts r r2 : List Tok} {s s' s1 s2 s0 : ax_σ} {md md' c p m sec : Nat} {Tot Pr P1 : List Nat} {Ops Ops' : List Op} {Tms Tms' : List Tm} {Fs Fs' : List Nat}
theorem XHp.z (h : frm XHp s s') : frm (XZ 0) s s' := h.imp (fun g r k h => by unfold XHp at h; unfold XZ; omega)
theorem XHp.ofP (h : frm XP s s') : frm XHp s s' := h.imp (fun g r k h => by unfold XP at h; unfold XHp; omega)
theorem XHq.up (h : frm XHq s s') : frm XHp s s' := h.imp (fun g r k h => by unfold XHq at h; unfold XHp; omega)
theorem XHp.ofH (h : frm XH s s') : frm XHp s s' := h.imp (fun g r k h => by unfold XH at h; unfold XHp; omega)
/-- a sign of the head: what is printed then is said outright -/
theorem ZE.stepH (h : ZE R n f md ((c, p) :: ts) Tot Pr Ops Tms Fs s) (hmd : md < 61) (hw : ¬ (wants md ∧ isD c = true)) (hD : zdis F md c p s = some (nI 1, s1)) (hf : frm XHp s s1) (h8 : s1.1 0 38 8 = nI 0) (h7 : s1.1 0 38 7 = nI md') (hP1 : ZP P1 s1) (hb1 : P1.length + ts.length ≤ 264) (hb : zsil md c = false → P1.length + 1 + ts.length ≤ 264) : ∃ s2, zgo 0 R F n f ((c, p) :: ts) s ts s2 ∧ ZE R n f md' ts ((if zsil md c = true then P1 else P1 ++ [c]) ++ fmt false (ts.map (·.1))) (if zsil md c = true then P1 else P1 ++ [c]) Ops Tms Fs s2 ∧ frm XP s1 s2 := by
  obtain ⟨a1, a2, a3, a4, a5, a6, a7, ⟨a8, a9, a10, a11, a12⟩, a13⟩ := h
  have hck := a12 _ (List.mem_cons_self ..)
  rw [List.length_cons] at a8 a9 a10
  obtain ⟨s2, e1, e2, e3⟩ := acc_1 (p := p) a3 (by omega) hck.1 hw hD hP1 (by omega)
  have fz : frm XHp s s2 := hf.trans (XHp.ofP e3)
  refine ⟨s2, z_step a1 a2 (XHp.z fz) e1, ⟨a1.keep (XHp.z fz), ?_, ?_, e2, (a5.keep hf (fun r k h => by unfold XHp; omega)).keep e3 (fun r k h => by unfold XP; omega), (a6.keep hf (fun r k h => by unfold XHp; omega)).keep e3 (fun r k h => by unfold XP; omega), (a7.keep hf (fun r k h => by unfold XHp; omega)).keep e3 (fun r k h => by unfold XP; omega), ⟨?_, by omega, by omega, a11, fun t ht => a12 t (List.mem_cons_of_mem _ ht)⟩, fun _ => rfl⟩, e3⟩
  · rw [e3.1 0 38 8 (by unfold XP; omega)]; exact h8
  · rw [e3.1 0 38 7 (by unfold XP; omega)]; exact h7
  · split
    · omega
    · rename_i hz
      have := hb (by cases hx : zsil md c with | false => rfl | true => exact absurd hx hz)
      rw [List.length_append, List.length_singleton]; omega
theorem ZE.rejH {G : ax_σ → Prop} (h : ZE R n f md ((c, p) :: ts) Tot Pr Ops Tms Fs s) (hmd : md < 61) (hw : ¬ (wants md ∧ isD c = true)) (hD : ∃ s1, zdis F md c p s = some (nI 0, s1) ∧ frm XH s s1) : zR 0 R F n f ((c, p) :: ts) s (nI p) G := by
  obtain ⟨s1, hD, hf⟩ := hD
  obtain ⟨a1, a2, a3, a4, a5, a6, a7, ⟨a8, a9, a10, a11, a12⟩, a13⟩ := h
  have hck := a12 _ (List.mem_cons_self ..)
  have hP1 : ZP Pr s1 := a4.keep hf (fun r k h => by unfold XH; omega)
  rw [List.length_cons] at a8
  obtain ⟨s2, e1, e3⟩ := acc_0 (p := p) a3 (by omega) hck.1 hw hD hP1 (by omega)
  exact z_stop a1 a2 (XHp.z ((XHp.ofH hf).trans (XHp.ofP e3))) e1
theorem z_rejdH (h7 : s.1 0 38 7 = nI md) (hmd : md < 60) (hw : ¬ wants md) (hP : ZP P1 s) (hl : P1.length < 280) (hD : ∀ c p, isD c = true → ∃ s1, zdis F md c p s = some (nI 0, s1) ∧ frm XH s s1) : ∀ c p, isD c = true → ∃ s2, f_Z_accepts F (nI c) (nI p) s = some (nI 0, s2) := by
  intro c p hc
  obtain ⟨s1, a1, a2⟩ := hD c p hc
  have hc' := isD_i.mp hc
  obtain ⟨s2, b1, b2⟩ := acc_0 (p := p) h7 (by omega) (by omega) (fun e => hw e.1) a1 (hP.keep a2 (fun r k h => by unfold XH; omega)) hl
  exact ⟨s2, b1⟩
/-- the sizes read so far -/
def ZHd (l : List (Nat × Nat)) (s : ax_σ) : Prop := s.1 0 38 11 = nI l.length ∧ ∀ i x, l[i]? = some x → s.2 0 41 i = lN x.1 ∧ s.1 0 42 i = nI x.2
theorem zx_1 {c p : Nat} {l : List (Nat × Nat)} (hc : c < 128) (h7 : s.1 0 38 7 = nI 1) (h11 : s.1 0 38 11 = nI l.length) (hl : l.length ≤ 3) (h1 : c ≠ (if l.length = 3 then 59 else 58)) : ∃ s1, zdis F 1 c p s = some (nI 0, s1) ∧ frm XH s s1 := by
  refine ⟨ax_wI s 0 38 7 (nI (if l.length = 3 then 2 else 0)), ?_, frm.refl.wI _ _ _ _ (by unfold XH; omega)⟩
  unfold zdis f_Z_acceptsHead
  by_cases h3 : l.length = 3
  · rw [if_pos h3] at h1
    simp (disch := omega) only [ax_let, Option.bind_some, cond_true, cond_false, if_pos, if_neg, if_true, if_false, eq_self, nI_add, nI_ltI, nI_leI, nI_eq, nI_clamp, pu_in, c_0, c_1, c_2, c_3, c_4, c_5, c_6, c_7, c_8, c_9, c_10, c_11, c_12, c_15, c_16, c_17, c_32, c_35, c_36, c_38, c_40, c_41, c_42, c_43, c_44, c_45, c_48, c_57, c_58, c_59, c_60, c_61, c_62, c_64, c_65, c_69, c_75, c_83, c_91, c_93, c_94, c_97, c_105, c_106, c_110, c_119, c_123, c_124, c_125, c_126, c_240, c_256, c_400, c_m, nI_m1, nM_i, lN_add, lN_mul, lN_i, nI_l, lN_eq, lgN_le, lgN_lt, lgN_ge, lgN_gt, nI_sub, nI_mul, d_0, d_1, c_13, c_14, c_18, c_19, c_20, c_21, c_22, c_23, c_24, c_25, c_26, c_27, c_28, c_29, c_30, c_31, c_33, c_34, c_37, c_39, c_46, c_47, c_49, c_50, c_51, c_52, c_53, c_54, c_55, c_56, c_63, c_66, c_67, c_68, c_70, c_71, c_72, c_73, c_74, c_76, c_77, c_78, c_79, c_80, c_81, c_82, c_84, c_85, c_86, c_87, c_88, c_89, c_90, c_92, c_95, c_96, c_98, c_99, c_100, c_101, c_102, c_103, c_104, c_107, c_108, c_109, c_111, c_112, c_113, c_114, c_115, c_116, c_117, c_118, c_120, c_121, c_122, c_127, c_280, d_2, d_3, d_4, d_8, d_9, d_10, d_15, d_16, d_32, d_48, d_62, d_63, d_64, h7, h11]
  · rw [if_neg h3] at h1
    simp (disch := omega) only [ax_let, Option.bind_some, cond_true, cond_false, if_pos, if_neg, if_true, if_false, eq_self, nI_add, nI_ltI, nI_leI, nI_eq, nI_clamp, pu_in, c_0, c_1, c_2, c_3, c_4, c_5, c_6, c_7, c_8, c_9, c_10, c_11, c_12, c_15, c_16, c_17, c_32, c_35, c_36, c_38, c_40, c_41, c_42, c_43, c_44, c_45, c_48, c_57, c_58, c_59, c_60, c_61, c_62, c_64, c_65, c_69, c_75, c_83, c_91, c_93, c_94, c_97, c_105, c_106, c_110, c_119, c_123, c_124, c_125, c_126, c_240, c_256, c_400, c_m, nI_m1, nM_i, lN_add, lN_mul, lN_i, nI_l, lN_eq, lgN_le, lgN_lt, lgN_ge, lgN_gt, nI_sub, nI_mul, d_0, d_1, c_13, c_14, c_18, c_19, c_20, c_21, c_22, c_23, c_24, c_25, c_26, c_27, c_28, c_29, c_30, c_31, c_33, c_34, c_37, c_39, c_46, c_47, c_49, c_50, c_51, c_52, c_53, c_54, c_55, c_56, c_63, c_66, c_67, c_68, c_70, c_71, c_72, c_73, c_74, c_76, c_77, c_78, c_79, c_80, c_81, c_82, c_84, c_85, c_86, c_87, c_88, c_89, c_90, c_92, c_95, c_96, c_98, c_99, c_100, c_101, c_102, c_103, c_104, c_107, c_108, c_109, c_111, c_112, c_113, c_114, c_115, c_116, c_117, c_118, c_120, c_121, c_122, c_127, c_280, d_2, d_3, d_4, d_8, d_9, d_10, d_15, d_16, d_32, d_48, d_62, d_63, d_64, h7, h11]
theorem ZE.num0 {v p : Nat} {l : List (Nat × Nat)} (hF : 241 ≤ F) (h : ZE R n f 0 ts Tot Pr Ops Tms Fs s) (hH : ZHd l s) (hl : l.length < 3) (hp : pNum ts = some (v, p, r)) : ∃ s2, zgo 0 R F n f ts s r s2 ∧ ZE R n f 1 r Tot (Pr ++ dec v) Ops Tms Fs s2 ∧ ZHd (l ++ [(v, p)]) s2 ∧ frm XHq s s2 := by
  have hw : wants 0 := by unfold wants; omega
  obtain ⟨s7, e1, e2, e3, e4, e5, e6, e7, e8, e9, e10, e11, e12, e13, e14, e15, e16⟩ := h.num hF hw (by omega) hp
  obtain ⟨a1, a2, a3, a4, a5, a6, a7, ⟨a8, a9, a10, a11, a12⟩, a13⟩ := h
  have g11 : s7.1 0 38 11 = nI l.length := (e16.1 0 38 11 (by omega)).trans hH.1
  have f8 : frm (fun g r k => g = 0 ∧ ((r = 38 ∧ (k = 7 ∨ k = 11)) ∨ ((r = 41 ∨ r = 42) ∧ k = l.length))) s7 (ax_wI (ax_wI (ax_wI (ax_wL s7 0 41 l.length (lN v)) 0 42 l.length (nI p)) 0 38 11 (nI (l.length + 1))) 0 38 7 (nI 1)) := by
    refine (((frm.refl.wL _ _ _ _ ?_).wI _ _ _ _ ?_).wI _ _ _ _ ?_).wI _ _ _ _ ?_ <;> omega
  have ff : frm XHq s _ := (e16.imp (fun g r k h => by unfold XHq; omega)).trans (f8.imp (fun g r k h => by unfold XHq; omega))
  have hP2 := e2.keep f8 (fun r k h => by omega)
  have hE : f_Z_endNumber F (zN s 0 v p) = some (ax_wI (ax_wI (ax_wI (ax_wL s7 0 41 l.length (lN v)) 0 42 l.length (nI p)) 0 38 11 (nI (l.length + 1))) 0 38 7 (nI 1)) := by
    have h7' : (zN s 0 v p).1 0 38 7 = nI 0 := (zN_o s 0 v p (by omega)).trans a3
    have h9' := zN_9 s 0 v p
    unfold f_Z_endNumber
    simp (disch := omega) only [ax_let, Option.bind_some, cond_true, cond_false, if_pos, if_neg, if_true, if_false, eq_self, nI_add, nI_ltI, nI_leI, nI_eq, nI_clamp, pu_in, c_0, c_1, c_2, c_3, c_4, c_5, c_6, c_7, c_8, c_9, c_10, c_11, c_12, c_15, c_16, c_17, c_32, c_35, c_36, c_38, c_40, c_41, c_42, c_43, c_44, c_45, c_48, c_57, c_58, c_59, c_60, c_61, c_62, c_64, c_65, c_69, c_75, c_83, c_91, c_93, c_94, c_97, c_105, c_106, c_110, c_119, c_123, c_124, c_125, c_126, c_240, c_256, c_400, c_m, nI_m1, nM_i, lN_add, lN_mul, lN_i, nI_l, lN_eq, lgN_le, lgN_lt, lgN_ge, lgN_gt, nI_sub, nI_mul, d_0, d_1, c_13, c_14, c_18, c_19, c_20, c_21, c_22, c_23, c_24, c_25, c_26, c_27, c_28, c_29, c_30, c_31, c_33, c_34, c_37, c_39, c_46, c_47, c_49, c_50, c_51, c_52, c_53, c_54, c_55, c_56, c_63, c_66, c_67, c_68, c_70, c_71, c_72, c_73, c_74, c_76, c_77, c_78, c_79, c_80, c_81, c_82, c_84, c_85, c_86, c_87, c_88, c_89, c_90, c_92, c_95, c_96, c_98, c_99, c_100, c_101, c_102, c_103, c_104, c_107, c_108, c_109, c_111, c_112, c_113, c_114, c_115, c_116, c_117, c_118, c_120, c_121, c_122, c_127, c_280, d_2, d_3, d_4, d_8, d_9, d_10, d_15, d_16, d_32, d_48, d_62, d_63, d_64, wI_1, wI_2, wL_1, wL_2, true_and, and_true, and_self, false_and, and_false, if_true, if_false, zN_0, h7', h9', e1, e6, e8, e9, g11]
  have h7n : (ax_wI (ax_wI (ax_wI (ax_wL s7 0 41 l.length (lN v)) 0 42 l.length (nI p)) 0 38 11 (nI (l.length + 1))) 0 38 7 (nI 1)).1 0 38 7 = nI 1 := by simp (disch := omega) only [wI_1, wI_2, wL_1, wL_2, true_and, and_true, and_self, false_and, and_false, if_true, if_false, if_pos, if_neg]
  have h11n : (ax_wI (ax_wI (ax_wI (ax_wL s7 0 41 l.length (lN v)) 0 42 l.length (nI p)) 0 38 11 (nI (l.length + 1))) 0 38 7 (nI 1)).1 0 38 11 = nI (l ++ [(v, p)]).length := by simp (disch := omega) only [wI_1, wI_2, wL_1, wL_2, true_and, and_true, and_self, false_and, and_false, if_true, if_false, if_pos, if_neg, List.length_append, List.length_singleton]
  have h8' := (f8.1 0 38 8 (by omega)).trans e7
  have hrej := z_rejdH (F := F) (md := 1) h7n (by omega) (by unfold wants; omega) hP2 (by omega) (fun c p hc => by
    have hc' := isD_i.mp hc
    exact zx_1 (by omega) h7n h11n (by rw [List.length_append, List.length_singleton]; omega) (by split <;> omega))
  refine ⟨_, z_num a1 a2 a3 hw hp hE (XHp.z (XHq.up ff)) h8' hrej, ⟨a1.keep (XHp.z (XHq.up ff)), h8', h7n, hP2, e3.keep f8 (fun r k h => by omega), e4.keep f8 (fun r k h => by omega), e5.keep f8 (fun r k h => by omega), ⟨e12, by omega, by omega, a11, e14⟩, e15 _ (by unfold wants; omega)⟩, ⟨h11n, fun i t hi => ?_⟩, ff⟩
  rcases getc hi with ⟨i1, i2⟩ | ⟨i1, i2⟩
  · obtain ⟨b1, b2⟩ := hH.2 i t i2
    exact ⟨(f8.2 0 41 i (by omega)).trans ((e16.2 0 41 i (by omega)).trans b1), (f8.1 0 42 i (by omega)).trans ((e16.1 0 42 i (by omega)).trans b2)⟩
  · subst i1
    subst i2
    exact ⟨by simp (disch := omega) only [wI_1, wI_2, wL_1, wL_2, true_and, and_true, and_self, false_and, and_false, if_true, if_false, if_pos, if_neg], by simp (disch := omega) only [wI_1, wI_2, wL_1, wL_2, true_and, and_true, and_self, false_and, and_false, if_true, if_false, if_pos, if_neg]⟩
theorem ZE.sep1 {l : List (Nat × Nat)} (h : ZE R n f 1 ((c, p) :: ts) Tot Pr Ops Tms Fs s) (hH : ZHd l s) (hl : l.length ≤ 3) (hc : c = (if l.length = 3 then 59 else 58)) : ∃ s2, zgo 0 R F n f ((c, p) :: ts) s ts s2 ∧ ZE R n f (if l.length = 3 then 2 else 0) ts Tot (Pr ++ [c]) Ops Tms Fs s2 ∧ ZHd l s2 ∧ frm XHq s s2 := by
  have f1 : frm (fun g r k => g = 0 ∧ r = 38 ∧ k = 7) s (ax_wI s 0 38 7 (nI (if l.length = 3 then 2 else 0))) := frm.refl.wI _ _ _ _ ⟨rfl, rfl, rfl⟩
  have h11 := hH.1
  have hD : zdis F 1 c p s = some (nI 1, ax_wI s 0 38 7 (nI (if l.length = 3 then 2 else 0))) := by
    have h7' := h.2.2.1
    unfold zdis f_Z_acceptsHead
    by_cases h3 : l.length = 3
    · rw [if_pos h3] at hc
      subst hc
      simp (disch := omega) only [ax_let, Option.bind_some, cond_true, cond_false, if_pos, if_neg, if_true, if_false, eq_self, nI_add, nI_ltI, nI_leI, nI_eq, nI_clamp, pu_in, c_0, c_1, c_2, c_3, c_4, c_5, c_6, c_7, c_8, c_9, c_10, c_11, c_12, c_15, c_16, c_17, c_32, c_35, c_36, c_38, c_40, c_41, c_42, c_43, c_44, c_45, c_48, c_57, c_58, c_59, c_60, c_61, c_62, c_64, c_65, c_69, c_75, c_83, c_91, c_93, c_94, c_97, c_105, c_106, c_110, c_119, c_123, c_124, c_125, c_126, c_240, c_256, c_400, c_m, nI_m1, nM_i, lN_add, lN_mul, lN_i, nI_l, lN_eq, lgN_le, lgN_lt, lgN_ge, lgN_gt, nI_sub, nI_mul, d_0, d_1, c_13, c_14, c_18, c_19, c_20, c_21, c_22, c_23, c_24, c_25, c_26, c_27, c_28, c_29, c_30, c_31, c_33, c_34, c_37, c_39, c_46, c_47, c_49, c_50, c_51, c_52, c_53, c_54, c_55, c_56, c_63, c_66, c_67, c_68, c_70, c_71, c_72, c_73, c_74, c_76, c_77, c_78, c_79, c_80, c_81, c_82, c_84, c_85, c_86, c_87, c_88, c_89, c_90, c_92, c_95, c_96, c_98, c_99, c_100, c_101, c_102, c_103, c_104, c_107, c_108, c_109, c_111, c_112, c_113, c_114, c_115, c_116, c_117, c_118, c_120, c_121, c_122, c_127, c_280, d_2, d_3, d_4, d_8, d_9, d_10, d_15, d_16, d_32, d_48, d_62, d_63, d_64, h7', h11]
    · rw [if_neg h3] at hc
      subst hc
      simp (disch := omega) only [ax_let, Option.bind_some, cond_true, cond_false, if_pos, if_neg, if_true, if_false, eq_self, nI_add, nI_ltI, nI_leI, nI_eq, nI_clamp, pu_in, c_0, c_1, c_2, c_3, c_4, c_5, c_6, c_7, c_8, c_9, c_10, c_11, c_12, c_15, c_16, c_17, c_32, c_35, c_36, c_38, c_40, c_41, c_42, c_43, c_44, c_45, c_48, c_57, c_58, c_59, c_60, c_61, c_62, c_64, c_65, c_69, c_75, c_83, c_91, c_93, c_94, c_97, c_105, c_106, c_110, c_119, c_123, c_124, c_125, c_126, c_240, c_256, c_400, c_m, nI_m1, nM_i, lN_add, lN_mul, lN_i, nI_l, lN_eq, lgN_le, lgN_lt, lgN_ge, lgN_gt, nI_sub, nI_mul, d_0, d_1, c_13, c_14, c_18, c_19, c_20, c_21, c_22, c_23, c_24, c_25, c_26, c_27, c_28, c_29, c_30, c_31, c_33, c_34, c_37, c_39, c_46, c_47, c_49, c_50, c_51, c_52, c_53, c_54, c_55, c_56, c_63, c_66, c_67, c_68, c_70, c_71, c_72, c_73, c_74, c_76, c_77, c_78, c_79, c_80, c_81, c_82, c_84, c_85, c_86, c_87, c_88, c_89, c_90, c_92, c_95, c_96, c_98, c_99, c_100, c_101, c_102, c_103, c_104, c_107, c_108, c_109, c_111, c_112, c_113, c_114, c_115, c_116, c_117, c_118, c_120, c_121, c_122, c_127, c_280, d_2, d_3, d_4, d_8, d_9, d_10, d_15, d_16, d_32, d_48, d_62, d_63, d_64, h7', h11]
  obtain ⟨s2, b1, b2, b3⟩ := h.stepT (ph := 0) (md' := if l.length = 3 then 2 else 0) (by omega) (by omega) (by rw [hc]; split <;> rfl) hD (f1.imp (fun g r k h => by unfold XZt; omega)) (by simp (disch := omega) only [wI_1, wI_2, wL_1, wL_2, true_and, and_true, and_self, false_and, and_false, if_true, if_false, if_pos, if_neg])
  have ff : frm (fun g r k => g = 0 ∧ (r = 67 ∨ (r = 38 ∧ (k = 7 ∨ k = 51)))) s s2 := (f1.imp (fun g r k h => by omega)).trans (b3.imp (fun g r k h => by unfold XP at h; omega))
  exact ⟨s2, b1, b2, ⟨(ff.1 0 38 11 (by omega)).trans h11, fun i x hi => ⟨(ff.2 0 41 i (by omega)).trans (hH.2 i x hi).1, (ff.1 0 42 i (by omega)).trans (hH.2 i x hi).2⟩⟩, ff.imp (fun g r k h => by unfold XHq; omega)⟩
theorem zx_0 {c p : Nat} (hc : c < 128) (hmd : md = 0 ∨ md = 5 ∨ md = 7) (h7 : s.1 0 38 7 = nI md) : ∃ s1, zdis F md c p s = some (nI 0, s1) ∧ frm XZt s s1 := by
  refine ⟨ax_wI (ax_wI s 0 38 19 (s.1 0 38 19)) 0 38 7 (nI md), ?_, by refine (frm.refl.wI _ _ _ _ ?_).wI _ _ _ _ ?_ <;> unfold XZt <;> omega⟩
  unfold zdis f_Z_acceptsHead
  rcases hmd with rfl | rfl | rfl <;> simp (disch := omega) only [ax_let, Option.bind_some, cond_true, cond_false, if_pos, if_neg, if_true, if_false, eq_self, nI_add, nI_ltI, nI_leI, nI_eq, nI_clamp, pu_in, c_0, c_1, c_2, c_3, c_4, c_5, c_6, c_7, c_8, c_9, c_10, c_11, c_12, c_15, c_16, c_17, c_32, c_35, c_36, c_38, c_40, c_41, c_42, c_43, c_44, c_45, c_48, c_57, c_58, c_59, c_60, c_61, c_62, c_64, c_65, c_69, c_75, c_83, c_91, c_93, c_94, c_97, c_105, c_106, c_110, c_119, c_123, c_124, c_125, c_126, c_240, c_256, c_400, c_m, nI_m1, nM_i, lN_add, lN_mul, lN_i, nI_l, lN_eq, lgN_le, lgN_lt, lgN_ge, lgN_gt, nI_sub, nI_mul, d_0, d_1, c_13, c_14, c_18, c_19, c_20, c_21, c_22, c_23, c_24, c_25, c_26, c_27, c_28, c_29, c_30, c_31, c_33, c_34, c_37, c_39, c_46, c_47, c_49, c_50, c_51, c_52, c_53, c_54, c_55, c_56, c_63, c_66, c_67, c_68, c_70, c_71, c_72, c_73, c_74, c_76, c_77, c_78, c_79, c_80, c_81, c_82, c_84, c_85, c_86, c_87, c_88, c_89, c_90, c_92, c_95, c_96, c_98, c_99, c_100, c_101, c_102, c_103, c_104, c_107, c_108, c_109, c_111, c_112, c_113, c_114, c_115, c_116, c_117, c_118, c_120, c_121, c_122, c_127, c_280, d_2, d_3, d_4, d_8, d_9, d_10, d_15, d_16, d_32, d_48, d_62, d_63, d_64, wI_1, wI_2, wL_1, wL_2, true_and, and_true, and_self, false_and, and_false, if_true, if_false, h7, bo_0]
/-- one size -/
theorem zSz {l : List (Nat × Nat)} {k : Nat} (hF : 241 ≤ F) (hk : l.length = k) (hk3 : k < 3) (h : ZE R n f 0 ts Tot Pr Ops Tms Fs s) (hH : ZHd l s) : zq 0 R F n f ts s (pSz k ts) (fun a r s' => ∃ Pr', ZE R n f (if k = 2 then 2 else 0) r Tot Pr' Ops Tms Fs s' ∧ ZHd (l ++ [a]) s' ∧ frm XHq s s' ∧ Pr'.length + r.length ≤ Pr.length + ts.length) := by
  unfold pSz
  match hp : pNumR ts with
  | .error r' =>
    obtain ⟨hp', e1⟩ := pNumR_er hp
    subst e1
    match r', h, hp' with
    | [], h, hp' => exact fun G => h.nil (by omega)
    | (c, p) :: r', h, hp' =>
      exact fun G => h.rejT (by omega) (fun e => pNum_none hp' e.2) (zx_0 (h.tk _ (List.mem_cons_self ..)).1 (Or.inl rfl) h.2.2.1)
  | .ok ((v, q), r') =>
    obtain ⟨s2, a1, a2, a3, a4⟩ := h.num0 hF hH (by omega) (pNumR_ok hp)
    refine zq.pre a1 ?_
    show zq 0 R F n f r' s2 (rbind (pTake (szC k) r') (fun _ r'' => .ok ((v, q), r''))) _
    have hlen : (l ++ [(v, q)]).length = k + 1 := by rw [List.length_append, List.length_singleton, hk]
    have hsz : (if (l ++ [(v, q)]).length = 3 then 59 else 58) = szC k := by
      rw [hlen]
      unfold szC
      by_cases h2 : k = 2
      · rw [if_pos (by omega), if_pos h2]
      · rw [if_neg (by omega), if_neg h2]
    match r', a2 with
    | [], a2 => exact fun G => a2.nil (by omega)
    | (d, q2) :: r', a2 =>
      by_cases hd : d = szC k
      · have e1 : pTake (szC k) ((d, q2) :: r') = .ok ((), r') := by rw [pTake, if_pos hd]
        rw [e1]
        obtain ⟨s3, b1, b2, b3, b4⟩ := a2.sep1 (F := F) a3 (by omega) (by rw [hsz]; exact hd)
        have hfl := (fmt_pn (pNumR_ok hp)).2.1
        rw [List.length_cons] at hfl
        refine zq.pre b1 ⟨s3, ⟨Pr ++ dec v ++ [d], ?_, b3, a4.trans b4, by rw [List.length_append, List.length_append, List.length_singleton]; omega⟩, zgo.refl⟩
        · have e2 : (if (l ++ [(v, q)]).length = 3 then 2 else 0) = (if k = 2 then 2 else 0) := by
            rw [hlen]
            by_cases h2 : k = 2
            · rw [if_pos (by omega), if_pos h2]
            · rw [if_neg (by omega), if_neg h2]
          rw [← e2]
          exact b2
      · have e1 : pTake (szC k) ((d, q2) :: r') = .error ((d, q2) :: r') := by rw [pTake, if_neg hd]
        rw [e1]
        exact fun G => a2.rejH (by omega) (zw_z (by unfold wants; omega)) (zx_1 (a2.tk _ (List.mem_cons_self ..)).1 a2.2.2.1 a3.1 (by omega) (by rw [hsz]; exact hd))
theorem zHd (hF : 241 ≤ F) (h : ZE R n f 0 ts Tot Pr Ops Tms Fs s) (hH : ZHd [] s) : zq 0 R F n f ts s (pHd ts) (fun a r s' => ∃ Pr', ZE R n f 2 r Tot Pr' Ops Tms Fs s' ∧ ZHd [a.1, a.2.1, a.2.2] s' ∧ frm XHq s s' ∧ Pr'.length + r.length ≤ Pr.length + ts.length) := by
  unfold pHd
  refine (zSz (l := []) (k := 0) hF rfl (by omega) h hH).bind (fun a r s2 _ hK => ?_)
  obtain ⟨P2, a1, a2, a3, a4⟩ := hK
  refine (zSz (l := [] ++ [a]) (k := 1) hF rfl (by omega) a1 a2).bind (fun b r s3 _ hK => ?_)
  obtain ⟨P3, b1, b2, b3, b4⟩ := hK
  refine (zSz (l := [] ++ [a] ++ [b]) (k := 2) hF rfl (by omega) b1 b2).bind (fun c r s4 _ hK => ⟨s4, ?_, zgo.refl⟩)
  obtain ⟨P4, c1, c2, c3, c4⟩ := hK
  exact ⟨P4, c1, c2, (a3.trans b3).trans c3, by omega⟩
end
