/-! PURE: the reference reads a writing, a loop's beginning, its end -/
def opT (o : Op) : List Tm := o.2.2.2
/-- between things -/
def ZS (R n : Nat) (f : Nat → Nat) (ts : List Tok) (Tot Pr : List Nat) (Ths : List Th) (sec : Nat) (s : ax_σ) : Prop := ZE R n f 10 ts Tot Pr (Ths.flatMap the) ((Ths.flatMap the).flatMap opT) [] s ∧ ZU (Ths.flatMap thn) s ∧ ZG Ths (stk Ths) sec s ∧ s.1 0 38 22 = nI Ths.length ∧ (Ths.length + ts.length ≤ 240 ∧ (Ths.flatMap thn).length + ts.length ≤ 240) ∧ WF Ths
/-- within a thing -/
def ZV (R n : Nat) (f : Nat → Nat) (md : Nat) (ts : List Tok) (Tot Pr : List Nat) (Ops : List Op) (Trs : List (Nat × Nat)) (Ths : List Th) (S : List Nat) (sec : Nat) (s : ax_σ) : Prop := ZE R n f md ts Tot Pr Ops (Ops.flatMap opT) [] s ∧ ZU Trs s ∧ ZG Ths S sec s ∧ s.1 0 38 22 = nI (Ths.length + 1) ∧ (Ths.length + 1 + ts.length ≤ 240 ∧ Trs.length + ts.length ≤ 240)
section
variable {ph R F n : Nat} {f : Nat → Nat} {ts r r2 : List Tok} {s s' s1 s2 s0 : ax_σ} {md md' c p m sec : Nat} {Tot Pr : List Nat} {Ops Ops' : List Op} {Trs : List (Nat × Nat)} {Ths : List Th} {S : List Nat}
theorem z_begin {k p : Nat} (h22 : s.1 0 38 22 = nI m) (hm : m < 240) (h36 : s.1 0 38 36 = nI c) : ∃ s1, f_Z_begin (nI k) (nI p) s = some s1 ∧ s1.1 0 47 m = nI k ∧ s1.1 0 48 m = nI p ∧ s1.1 0 54 m = nI c ∧ s1.1 0 38 22 = nI (m + 1) ∧ frm (fun g r k => g = 0 ∧ (((r = 47 ∨ r = 48 ∨ r = 54) ∧ k = m) ∨ (r = 38 ∧ k = 22))) s s1 := by
  refine ⟨ax_wI (ax_wI (ax_wI (ax_wI s 0 47 m (nI k)) 0 48 m (nI p)) 0 54 m (nI c)) 0 38 22 (nI (m + 1)), ?_, by simp (disch := omega) only [wI_1, wI_2, wL_1, wL_2, true_and, and_true, and_self, false_and, and_false, if_true, if_false, if_pos, if_neg], by simp (disch := omega) only [wI_1, wI_2, wL_1, wL_2, true_and, and_true, and_self, false_and, and_false, if_true, if_false, if_pos, if_neg], by simp (disch := omega) only [wI_1, wI_2, wL_1, wL_2, true_and, and_true, and_self, false_and, and_false, if_true, if_false, if_pos, if_neg], by simp (disch := omega) only [wI_1, wI_2, wL_1, wL_2, true_and, and_true, and_self, false_and, and_false, if_true, if_false, if_pos, if_neg], ?_⟩
  · unfold f_Z_begin
    simp (disch := omega) only [ax_let, Option.bind_some, cond_true, cond_false, if_pos, if_neg, if_true, if_false, eq_self, nI_add, nI_ltI, nI_leI, nI_eq, nI_clamp, pu_in, c_0, c_1, c_2, c_3, c_4, c_5, c_6, c_7, c_8, c_9, c_10, c_11, c_12, c_15, c_16, c_17, c_32, c_35, c_36, c_38, c_40, c_41, c_42, c_43, c_44, c_45, c_48, c_57, c_58, c_59, c_60, c_61, c_62, c_64, c_65, c_69, c_75, c_83, c_91, c_93, c_94, c_97, c_105, c_106, c_110, c_119, c_123, c_124, c_125, c_126, c_240, c_256, c_400, c_m, nI_m1, nM_i, lN_add, lN_mul, lN_i, nI_l, lN_eq, lgN_le, lgN_lt, lgN_ge, lgN_gt, nI_sub, nI_mul, d_0, d_1, c_13, c_14, c_18, c_19, c_20, c_21, c_22, c_23, c_24, c_25, c_26, c_27, c_28, c_29, c_30, c_31, c_33, c_34, c_37, c_39, c_46, c_47, c_49, c_50, c_51, c_52, c_53, c_54, c_55, c_56, c_63, c_66, c_67, c_68, c_70, c_71, c_72, c_73, c_74, c_76, c_77, c_78, c_79, c_80, c_81, c_82, c_84, c_85, c_86, c_87, c_88, c_89, c_90, c_92, c_95, c_96, c_98, c_99, c_100, c_101, c_102, c_103, c_104, c_107, c_108, c_109, c_111, c_112, c_113, c_114, c_115, c_116, c_117, c_118, c_120, c_121, c_122, c_127, c_280, d_2, d_3, d_4, d_8, d_9, d_10, d_15, d_16, d_32, d_48, d_62, d_63, d_64, wI_1, wI_2, wL_1, wL_2, true_and, and_true, and_self, false_and, and_false, if_true, if_false, h22, h36]
  · refine (((frm.refl.wI _ _ _ _ ?_).wI _ _ _ _ ?_).wI _ _ _ _ ?_).wI _ _ _ _ ?_ <;> omega
theorem ZS.tk (h : ZS R n f ((c, p) :: ts) Tot Pr Ths sec s) : c < 128 ∧ p ≤ 240 := h.1.tk _ (List.mem_cons_self ..)
/-- > -/
theorem ZS.wr (h : ZS R n f ((62, p) :: ts) Tot Pr Ths 0 s) : ∃ s2 Pr', zgo ph R F n f ((62, p) :: ts) s ts s2 ∧ ZV R n f 20 ts Tot Pr' (Ths.flatMap the) (Ths.flatMap thn) Ths (stk Ths) 0 s2 ∧ s2.1 0 47 Ths.length = nI 1 ∧ s2.1 0 48 Ths.length = nI p ∧ s2.1 0 54 Ths.length = nI (Ths.flatMap the).length := by
  obtain ⟨h1, h2, h3, h4, ⟨h5, h6⟩, h7⟩ := h
  rw [List.length_cons] at h5 h6
  obtain ⟨s1, a1, a2, a3, a4, a5, a6⟩ := z_begin (k := 1) (p := p) h4 (by omega) h1.2.2.2.2.1.1
  have f1 : frm (fun g r k => g = 0 ∧ (((r = 47 ∨ r = 48 ∨ r = 54) ∧ k = Ths.length) ∨ (r = 38 ∧ (k = 22 ∨ k = 7)))) s (ax_wI s1 0 38 7 (nI 20)) := (a6.imp (fun g r k h => by omega)).wI _ _ _ _ (by omega)
  have h19 : s.1 0 38 19 = nI 0 := h3.2.2.1.1
  have hD : zdis F 10 62 p s = some (nI 1, ax_wI s1 0 38 7 (nI 20)) := by
    have h7' := h1.2.2.1
    unfold zdis f_Z_acceptsThing
    simp (disch := omega) only [ax_let, Option.bind_some, cond_true, cond_false, if_pos, if_neg, if_true, if_false, eq_self, nI_add, nI_ltI, nI_leI, nI_eq, nI_clamp, pu_in, c_0, c_1, c_2, c_3, c_4, c_5, c_6, c_7, c_8, c_9, c_10, c_11, c_12, c_15, c_16, c_17, c_32, c_35, c_36, c_38, c_40, c_41, c_42, c_43, c_44, c_45, c_48, c_57, c_58, c_59, c_60, c_61, c_62, c_64, c_65, c_69, c_75, c_83, c_91, c_93, c_94, c_97, c_105, c_106, c_110, c_119, c_123, c_124, c_125, c_126, c_240, c_256, c_400, c_m, nI_m1, nM_i, lN_add, lN_mul, lN_i, nI_l, lN_eq, lgN_le, lgN_lt, lgN_ge, lgN_gt, nI_sub, nI_mul, d_0, d_1, c_13, c_14, c_18, c_19, c_20, c_21, c_22, c_23, c_24, c_25, c_26, c_27, c_28, c_29, c_30, c_31, c_33, c_34, c_37, c_39, c_46, c_47, c_49, c_50, c_51, c_52, c_53, c_54, c_55, c_56, c_63, c_66, c_67, c_68, c_70, c_71, c_72, c_73, c_74, c_76, c_77, c_78, c_79, c_80, c_81, c_82, c_84, c_85, c_86, c_87, c_88, c_89, c_90, c_92, c_95, c_96, c_98, c_99, c_100, c_101, c_102, c_103, c_104, c_107, c_108, c_109, c_111, c_112, c_113, c_114, c_115, c_116, c_117, c_118, c_120, c_121, c_122, c_127, c_280, d_2, d_3, d_4, d_8, d_9, d_10, d_15, d_16, d_32, d_48, d_62, d_63, d_64, h7', h19, a1]
  obtain ⟨s2, b1, b2, b3⟩ := h1.stepT (ph := ph) (md' := 20) (by omega) (by omega) rfl hD (f1.imp (fun g r k h => by unfold XZt; omega)) (by simp (disch := omega) only [wI_1, wI_2, wL_1, wL_2, true_and, and_true, and_self, false_and, and_false, if_true, if_false, if_pos, if_neg])
  refine ⟨s2, _, b1, ⟨b2, (h2.keep f1 (fun r k h => by omega)).keep b3 (fun r k h => by unfold XP; omega), (h3.keep f1 (fun r k h => by omega)).keep b3 (fun r k h => by unfold XP; omega), ?_, by omega, by omega⟩, ?_, ?_, ?_⟩
  · rw [b3.1 0 38 22 (by unfold XP; omega)]; simp (disch := omega) only [wI_1, wI_2, wL_1, wL_2, true_and, and_true, and_self, false_and, and_false, if_true, if_false, if_pos, if_neg]; exact a5
  · rw [b3.1 0 47 _ (by unfold XP; omega)]; simp (disch := omega) only [wI_1, wI_2, wL_1, wL_2, true_and, and_true, and_self, false_and, and_false, if_true, if_false, if_pos, if_neg]; exact a2
  · rw [b3.1 0 48 _ (by unfold XP; omega)]; simp (disch := omega) only [wI_1, wI_2, wL_1, wL_2, true_and, and_true, and_self, false_and, and_false, if_true, if_false, if_pos, if_neg]; exact a3
  · rw [b3.1 0 54 _ (by unfold XP; omega)]; simp (disch := omega) only [wI_1, wI_2, wL_1, wL_2, true_and, and_true, and_self, false_and, and_false, if_true, if_false, if_pos, if_neg]; exact a4
/-- ; behind an expression -/
theorem ZV.semi25 (h : ZV R n f 25 ((59, p) :: ts) Tot Pr Ops Trs Ths S sec s) : ∃ s2 Pr', zgo ph R F n f ((59, p) :: ts) s ts s2 ∧ ZV R n f 10 ts Tot Pr' Ops Trs Ths S sec s2 ∧ s2.1 0 55 Ths.length = nI Ops.length ∧ frm (fun g r k => g = 0 ∧ (r = 67 ∨ (r = 38 ∧ (k = 7 ∨ k = 51)) ∨ (r = 55 ∧ k = Ths.length))) s s2 := by
  obtain ⟨h1, h2, h3, h4, h5, h6⟩ := h
  rw [List.length_cons] at h5 h6
  have f1 : frm (fun g r k => g = 0 ∧ ((r = 55 ∧ k = Ths.length) ∨ (r = 38 ∧ k = 7))) s (ax_wI (ax_wI s 0 55 Ths.length (nI Ops.length)) 0 38 7 (nI 10)) := by
    refine (frm.refl.wI _ _ _ _ ?_).wI _ _ _ _ ?_ <;> omega
  have h36 := h1.2.2.2.2.1.1
  have em : Ths.length + 1 - 1 = Ths.length := by omega
  have hD : zdis F 25 59 p s = some (nI 1, ax_wI (ax_wI s 0 55 Ths.length (nI Ops.length)) 0 38 7 (nI 10)) := by
    have h7' := h1.2.2.1
    unfold zdis f_Z_acceptsExpression
    simp (disch := omega) only [ax_let, Option.bind_some, cond_true, cond_false, if_pos, if_neg, if_true, if_false, eq_self, nI_add, nI_ltI, nI_leI, nI_eq, nI_clamp, pu_in, c_0, c_1, c_2, c_3, c_4, c_5, c_6, c_7, c_8, c_9, c_10, c_11, c_12, c_15, c_16, c_17, c_32, c_35, c_36, c_38, c_40, c_41, c_42, c_43, c_44, c_45, c_48, c_57, c_58, c_59, c_60, c_61, c_62, c_64, c_65, c_69, c_75, c_83, c_91, c_93, c_94, c_97, c_105, c_106, c_110, c_119, c_123, c_124, c_125, c_126, c_240, c_256, c_400, c_m, nI_m1, nM_i, lN_add, lN_mul, lN_i, nI_l, lN_eq, lgN_le, lgN_lt, lgN_ge, lgN_gt, nI_sub, nI_mul, d_0, d_1, c_13, c_14, c_18, c_19, c_20, c_21, c_22, c_23, c_24, c_25, c_26, c_27, c_28, c_29, c_30, c_31, c_33, c_34, c_37, c_39, c_46, c_47, c_49, c_50, c_51, c_52, c_53, c_54, c_55, c_56, c_63, c_66, c_67, c_68, c_70, c_71, c_72, c_73, c_74, c_76, c_77, c_78, c_79, c_80, c_81, c_82, c_84, c_85, c_86, c_87, c_88, c_89, c_90, c_92, c_95, c_96, c_98, c_99, c_100, c_101, c_102, c_103, c_104, c_107, c_108, c_109, c_111, c_112, c_113, c_114, c_115, c_116, c_117, c_118, c_120, c_121, c_122, c_127, c_280, d_2, d_3, d_4, d_8, d_9, d_10, d_15, d_16, d_32, d_48, d_62, d_63, d_64, wI_1, wI_2, wL_1, wL_2, true_and, and_true, and_self, false_and, and_false, if_true, if_false, h7', h4, em, h36]
  obtain ⟨s2, b1, b2, b3⟩ := h1.stepT (ph := ph) (md' := 10) (by omega) (by omega) rfl hD (f1.imp (fun g r k h => by unfold XZt; omega)) (by simp (disch := omega) only [wI_1, wI_2, wL_1, wL_2, true_and, and_true, and_self, false_and, and_false, if_true, if_false, if_pos, if_neg])
  refine ⟨s2, _, b1, ⟨b2, (h2.keep f1 (fun r k h => by omega)).keep b3 (fun r k h => by unfold XP; omega), (h3.keep f1 (fun r k h => by omega)).keep b3 (fun r k h => by unfold XP; omega), ?_, by omega, by omega⟩, ?_, (f1.imp (fun g r k h => by omega)).trans (b3.imp (fun g r k h => by unfold XP at h; omega))⟩
  · rw [b3.1 0 38 22 (by unfold XP; omega)]; simp (disch := omega) only [wI_1, wI_2, wL_1, wL_2, true_and, and_true, and_self, false_and, and_false, if_true, if_false, if_pos, if_neg]; exact h4
  · rw [b3.1 0 55 _ (by unfold XP; omega)]; simp (disch := omega) only [wI_1, wI_2, wL_1, wL_2, true_and, and_true, and_self, false_and, and_false, if_true, if_false, if_pos, if_neg]
theorem zx_25 {c p : Nat} (hc : c < 128) (h7 : s.1 0 38 7 = nI 25) (h1 : c ≠ 59) : ∃ s1, zdis F 25 c p s = some (nI 0, s1) ∧ frm XZm s s1 := by
  refine ⟨s, ?_, frm.refl⟩
  unfold zdis f_Z_acceptsExpression
  simp (disch := omega) only [ax_let, Option.bind_some, cond_true, cond_false, if_pos, if_neg, if_true, if_false, eq_self, nI_add, nI_ltI, nI_leI, nI_eq, nI_clamp, pu_in, c_0, c_1, c_2, c_3, c_4, c_5, c_6, c_7, c_8, c_9, c_10, c_11, c_12, c_15, c_16, c_17, c_32, c_35, c_36, c_38, c_40, c_41, c_42, c_43, c_44, c_45, c_48, c_57, c_58, c_59, c_60, c_61, c_62, c_64, c_65, c_69, c_75, c_83, c_91, c_93, c_94, c_97, c_105, c_106, c_110, c_119, c_123, c_124, c_125, c_126, c_240, c_256, c_400, c_m, nI_m1, nM_i, lN_add, lN_mul, lN_i, nI_l, lN_eq, lgN_le, lgN_lt, lgN_ge, lgN_gt, nI_sub, nI_mul, d_0, d_1, c_13, c_14, c_18, c_19, c_20, c_21, c_22, c_23, c_24, c_25, c_26, c_27, c_28, c_29, c_30, c_31, c_33, c_34, c_37, c_39, c_46, c_47, c_49, c_50, c_51, c_52, c_53, c_54, c_55, c_56, c_63, c_66, c_67, c_68, c_70, c_71, c_72, c_73, c_74, c_76, c_77, c_78, c_79, c_80, c_81, c_82, c_84, c_85, c_86, c_87, c_88, c_89, c_90, c_92, c_95, c_96, c_98, c_99, c_100, c_101, c_102, c_103, c_104, c_107, c_108, c_109, c_111, c_112, c_113, c_114, c_115, c_116, c_117, c_118, c_120, c_121, c_122, c_127, c_280, d_2, d_3, d_4, d_8, d_9, d_10, d_15, d_16, d_32, d_48, d_62, d_63, d_64, h7]
/-- an expression within a thing -/
theorem ZV.expr (hF : 241 ≤ F) (h : ZV R n f 20 ts Tot Pr Ops Trs Ths S sec s) : zq ph R F n f ts s (pEx 14 0 ts) (fun e r s' => ∃ Pr', ZV R n f 25 r Tot Pr' (Ops ++ e) Trs Ths S sec s' ∧ frm XZe s s') := by
  obtain ⟨h1, h2, h3, h4, h5, h6⟩ := h
  have k := zEx (ph := ph) (R := R) (F := F) (n := n) (f := f) (Tot := Tot) hF 14 0 ts Pr Ops [] s rfl (by omega) (by omega) h1
  have hlen : ∀ e r, pEx 14 0 ts = .ok (e, r) → r.length ≤ ts.length := fun e r he => by have := pEx_len (by omega) he; omega
  match hp : pEx 14 0 ts, k, hlen with
  | .error r, k, hlen => exact k
  | .ok (e, r), ⟨s', ⟨Pr', k1, k2⟩, k3⟩, hlen =>
    have hl := hlen e r rfl
    have k1 : ZE R n f 25 r Tot Pr' (Ops ++ e ++ []) ((Ops ++ e ++ []).flatMap opT) [] s' := k1
    rw [List.append_nil] at k1
    refine ⟨s', ⟨Pr', ⟨k1, h2.keep k2 (fun r k h => by unfold XZe; omega), h3.keep k2 (fun r k h => by unfold XZe; omega), (k2.1 0 38 22 (by unfold XZe; omega)).trans h4, by omega, by omega⟩, k2⟩, k3⟩
/-- the thing is done -/
theorem ZV.done {t : Th} (h : ZV R n f 10 ts Tot Pr (Ths.flatMap the ++ the t) (Ths.flatMap thn ++ thn t) Ths S sec s) (hW : WF Ths) (hk : thk t ≠ 3) (ht : zhA Ths.length t (Ths.flatMap the).length (Ths.flatMap thn).length s) (hS : S = stkA Ths.length (stk Ths) t) : ZS R n f ts Tot Pr (Ths ++ [t]) sec s := by
  obtain ⟨h1, h2, h3, h4, h5, h6⟩ := h
  have e1 : (Ths ++ [t]).flatMap the = Ths.flatMap the ++ the t := by rw [List.flatMap_append, List.flatMap_cons, List.flatMap_nil, List.append_nil]
  have e2 : (Ths ++ [t]).flatMap thn = Ths.flatMap thn ++ thn t := by rw [List.flatMap_append, List.flatMap_cons, List.flatMap_nil, List.append_nil]
  refine ⟨by rw [e1]; exact h1, by rw [e2]; exact h2, ?_, by rw [List.length_append, List.length_singleton]; exact h4, ⟨by rw [List.length_append, List.length_singleton]; exact h5, by rw [e2]; exact h6⟩, hW.add⟩
  rw [stk_s, ← hS]
  exact h3.add ht hk h3.2.2.2
/-- a writing -/
theorem ZS.writing (hF : 241 ≤ F) (h : ZS R n f ((62, p) :: ts) Tot Pr Ths 0 s) : zq ph R F n f ((62, p) :: ts) s (rbind (pEx 14 0 ts) (fun e r => rbind (pTake 59 r) (fun _ r' => .ok (((1, p, 0, 0, 0, e, []) : Th), r')))) (fun t r s' => ∃ Pr', ZS R n f r Tot Pr' (Ths ++ [t]) 0 s') := by
  obtain ⟨s2, P2, a1, a2, a3, a4, a5⟩ := h.wr (ph := ph) (F := F)
  refine zq.pre a1 ((a2.expr hF).bind (fun e r s3 _ hK => ?_))
  obtain ⟨P3, b1, b2⟩ := hK
  match r, b1 with
  | [], b1 => exact fun G => b1.1.nil (by omega)
  | (c, q) :: r, b1 =>
    by_cases hc : c = 59
    · subst hc
      obtain ⟨s4, P4, c1, c2, c3, c4⟩ := b1.semi25 (ph := ph) (F := F)
      refine zq.pre c1 ⟨s4, ⟨P4, ?_⟩, zgo.refl⟩
      refine ZV.done (t := (1, p, 0, 0, 0, e, [])) (by show ZV R n f 10 r Tot P4 (Ths.flatMap the ++ e) (Ths.flatMap thn ++ []) Ths (stk Ths) 0 s4; rw [List.append_nil]; exact c2) h.2.2.2.2.2 (by show (1 : Nat) ≠ 3; omega) ⟨?_, ?_, fun hk => absurd rfl hk.1, fun hk => absurd hk (by show ¬ (1 = 9 ∨ 1 = 10); omega), fun hk => absurd hk (by show ¬ (1 = 2 ∨ 1 = 7 ∨ 1 = 8 ∨ 1 = 11); omega), fun _ => ⟨?_, ?_⟩, fun hk => absurd hk (by show ¬ 1 = 12; omega)⟩ rfl
      · rw [c4.1 0 47 _ (by omega), b2.1 0 47 _ (by unfold XZe; omega)]; exact a3
      · rw [c4.1 0 48 _ (by omega), b2.1 0 48 _ (by unfold XZe; omega)]; exact a4
      · rw [c4.1 0 54 _ (by omega), b2.1 0 54 _ (by unfold XZe; omega)]; exact a5
      · rw [c3, List.length_append]
        rfl
    · have e1 : pTake 59 ((c, q) :: r) = .error ((c, q) :: r) := by rw [pTake, if_neg hc]
      rw [e1]
      exact fun G => b1.1.rej (by omega) (zw_z (by unfold wants; omega)) (zx_25 (b1.1.tk _ (List.mem_cons_self ..)).1 b1.1.2.2.1 hc)
end
