/-! PURE: the reference's parts, terms and frames -/
def tOff (Ops : List Op) (i : Nat) : Nat := ((Ops.take i).flatMap (·.2.2.2)).length
def zoA (i : Nat) (o : Op) (t : Nat) (s : ax_σ) : Prop := s.1 0 58 i = nI o.1 ∧ s.2 0 59 i = lN o.2.1 ∧ s.1 0 60 i = (if o.1 = 6 ∨ o.1 = 8 then nM else nI o.2.2.1) ∧ ((o.1 = 2 ∨ o.1 = 3) → s.1 0 61 i = nI t ∧ s.1 0 62 i = nI (t + o.2.2.2.length))
def ZO (Ops : List Op) (s : ax_σ) : Prop := s.1 0 38 36 = nI Ops.length ∧ ∀ i o, Ops[i]? = some o → zoA i o (tOff Ops i) s
def ztA (i : Nat) (t : Tm) (s : ax_σ) : Prop := s.2 0 63 i = lN t.1 ∧ s.1 0 64 i = (if t.2.1 = 0 then nM else nI (t.2.1 - 1)) ∧ s.1 0 65 i = nI t.2.2
def ZM (Tms : List Tm) (s : ax_σ) : Prop := s.1 0 38 42 = nI Tms.length ∧ ∀ i t, Tms[i]? = some t → ztA i t s
def ZF (Fs : List Nat) (s : ax_σ) : Prop := s.1 0 38 49 = nI Fs.length ∧ ∀ i x, Fs.reverse[i]? = some x → s.1 0 66 i = nI x ∧ x < 128
theorem ZO.keep {Ops : List Op} {s s' : ax_σ} {Q : Nat → Nat → Nat → Prop} (h : ZO Ops s) (hf : frm Q s s') (hq : ∀ r k, (r = 38 ∧ k = 36) ∨ (58 ≤ r ∧ r ≤ 62 ∧ k < Ops.length) → ¬ Q 0 r k) : ZO Ops s' := by
  refine ⟨(hf.1 _ _ _ (hq 38 36 (by omega))).trans h.1, fun i o hi => ?_⟩
  have hl := get_lt hi
  obtain ⟨h1, h2, h3, h4⟩ := h.2 i o hi
  exact ⟨(hf.1 _ _ _ (hq 58 i (by omega))).trans h1, (hf.2 _ _ _ (hq 59 i (by omega))).trans h2, (hf.1 _ _ _ (hq 60 i (by omega))).trans h3, fun hk => ⟨(hf.1 _ _ _ (hq 61 i (by omega))).trans (h4 hk).1, (hf.1 _ _ _ (hq 62 i (by omega))).trans (h4 hk).2⟩⟩
theorem ZM.keep {Tms : List Tm} {s s' : ax_σ} {Q : Nat → Nat → Nat → Prop} (h : ZM Tms s) (hf : frm Q s s') (hq : ∀ r k, (r = 38 ∧ k = 42) ∨ (63 ≤ r ∧ r ≤ 65) → ¬ Q 0 r k) : ZM Tms s' := by
  refine ⟨(hf.1 _ _ _ (hq 38 42 (by omega))).trans h.1, fun i o hi => ?_⟩
  obtain ⟨h1, h2, h3⟩ := h.2 i o hi
  exact ⟨(hf.2 _ _ _ (hq 63 i (by omega))).trans h1, (hf.1 _ _ _ (hq 64 i (by omega))).trans h2, (hf.1 _ _ _ (hq 65 i (by omega))).trans h3⟩
theorem ZF.keep {Fs : List Nat} {s s' : ax_σ} {Q : Nat → Nat → Nat → Prop} (h : ZF Fs s) (hf : frm Q s s') (hq : ∀ r k, (r = 38 ∧ k = 49) ∨ r = 66 → ¬ Q 0 r k) : ZF Fs s' :=
  ⟨(hf.1 _ _ _ (hq 38 49 (by omega))).trans h.1, fun i x hi => ⟨(hf.1 _ _ _ (hq 66 i (by omega))).trans (h.2 i x hi).1, (h.2 i x hi).2⟩⟩
theorem ZF.top {Fs : List Nat} {x : Nat} {s : ax_σ} (h : ZF (x :: Fs) s) : s.1 0 66 Fs.length = nI x ∧ x < 128 := by
  refine h.2 Fs.length x ?_
  rw [List.reverse_cons, List.getElem?_append_right (by rw [List.length_reverse]; exact Nat.le_refl _), List.length_reverse, Nat.sub_self]
  rfl
theorem ZF.pop {Fs : List Nat} {x : Nat} {s s' : ax_σ} (h : ZF (x :: Fs) s) (hf : frm (fun g r k => ¬ (g = 0 ∧ r = 66)) s s') (h1 : s'.1 0 38 49 = nI Fs.length) : ZF Fs s' := by
  refine ⟨h1, fun i y hi => ?_⟩
  have hl := get_lt hi
  have := h.2 i y (by rw [List.reverse_cons, List.getElem?_append_left hl]; exact hi)
  rw [hf.1 0 66 i (by omega)]
  exact this
theorem ZF.push {Fs : List Nat} {x : Nat} {s s' : ax_σ} (h : ZF Fs s) (hx : x < 128) (hf : frm (fun g r k => ¬ (g = 0 ∧ r = 66 ∧ k < Fs.length)) s s') (h1 : s'.1 0 38 49 = nI (Fs.length + 1)) (h2 : s'.1 0 66 Fs.length = nI x) : ZF (x :: Fs) s' := by
  refine ⟨by rw [List.length_cons]; exact h1, fun i y hi => ?_⟩
  rw [List.reverse_cons] at hi
  rcases getc hi with ⟨i1, i2⟩ | ⟨i1, i2⟩
  · rw [List.length_reverse] at i1
    rw [hf.1 0 66 i (by omega)]
    exact h.2 i y i2
  · rw [List.length_reverse] at i1
    subst i1
    subst i2
    exact ⟨h2, hx⟩
/-- what emit and complete change -/
def XC1 (g r k : Nat) : Prop := g = 0 ∧ ((58 ≤ r ∧ r ≤ 60) ∨ (r = 38 ∧ (k = 7 ∨ k = 36 ∨ k = 49)))
theorem tOff_app (Ops : List Op) (x : Op) {i : Nat} (h : i ≤ Ops.length) : tOff (Ops ++ [x]) i = tOff Ops i := by
  unfold tOff
  rw [List.take_append_of_le_length h]
theorem tOff_len (Ops : List Op) : tOff Ops Ops.length = (Ops.flatMap (·.2.2.2)).length := by
  unfold tOff
  rw [List.take_length]
theorem ze_emit {Ops : List Op} {k v p : Nat} {l : List Tm} {q : Int32} {s : ax_σ} (h : ZO Ops s) (hl : Ops.length < 240) (hq : q = if k = 6 ∨ k = 8 then nM else nI p) (hk : k = 2 ∨ k = 3 → s.1 0 61 Ops.length = nI (Ops.flatMap (·.2.2.2)).length ∧ s.1 0 62 Ops.length = nI ((Ops.flatMap (·.2.2.2)).length + l.length)) : ∃ s', f_Z_emit (nI k) (lN v) q s = some s' ∧ ZO (Ops ++ [(k, v, p, l)]) s' ∧ frm (fun g r k => g = 0 ∧ ((58 ≤ r ∧ r ≤ 60 ∧ k = Ops.length) ∨ (r = 38 ∧ k = 36))) s s' := by
  obtain ⟨h1, h2⟩ := h
  have ff : frm (fun g r k => g = 0 ∧ ((58 ≤ r ∧ r ≤ 60 ∧ k = Ops.length) ∨ (r = 38 ∧ k = 36))) s (ax_wI (ax_wI (ax_wL (ax_wI s 0 58 Ops.length (nI k)) 0 59 Ops.length (lN v)) 0 60 Ops.length q) 0 38 36 (nI (Ops.length + 1))) := by
    refine (((frm.refl.wI _ _ _ _ ?_).wL _ _ _ _ ?_).wI _ _ _ _ ?_).wI _ _ _ _ ?_ <;> omega
  refine ⟨_, ?_, ⟨?_, fun i o hi => ?_⟩, ff⟩
  · unfold f_Z_emit
    simp (disch := omega) only [ax_let, Option.bind_some, cond_true, cond_false, if_pos, if_neg, if_true, if_false, eq_self, nI_add, nI_ltI, nI_leI, nI_eq, nI_clamp, pu_in, c_0, c_1, c_2, c_3, c_4, c_5, c_6, c_7, c_8, c_9, c_10, c_11, c_12, c_15, c_16, c_17, c_32, c_35, c_36, c_38, c_40, c_41, c_42, c_43, c_44, c_45, c_48, c_57, c_58, c_59, c_60, c_61, c_62, c_64, c_65, c_69, c_75, c_83, c_91, c_93, c_94, c_97, c_105, c_106, c_110, c_119, c_123, c_124, c_125, c_126, c_240, c_256, c_400, c_m, nI_m1, nM_i, lN_add, lN_mul, lN_i, nI_l, lN_eq, lgN_le, lgN_lt, lgN_ge, lgN_gt, nI_sub, nI_mul, d_0, d_1, c_13, c_14, c_18, c_19, c_20, c_21, c_22, c_23, c_24, c_25, c_26, c_27, c_28, c_29, c_30, c_31, c_33, c_34, c_37, c_39, c_46, c_47, c_49, c_50, c_51, c_52, c_53, c_54, c_55, c_56, c_63, c_66, c_67, c_68, c_70, c_71, c_72, c_73, c_74, c_76, c_77, c_78, c_79, c_80, c_81, c_82, c_84, c_85, c_86, c_87, c_88, c_89, c_90, c_92, c_95, c_96, c_98, c_99, c_100, c_101, c_102, c_103, c_104, c_107, c_108, c_109, c_111, c_112, c_113, c_114, c_115, c_116, c_117, c_118, c_120, c_121, c_122, c_127, c_280, d_2, d_3, d_4, d_8, d_9, d_10, d_15, d_16, d_32, d_48, d_62, d_63, d_64, wI_1, wI_2, wL_1, wL_2, true_and, and_true, and_self, false_and, and_false, if_true, if_false, h1]
  · simp (disch := omega) only [wI_1, wI_2, wL_1, wL_2, true_and, and_true, and_self, false_and, and_false, if_true, if_false, if_pos, if_neg, List.length_append, List.length_singleton]
  · rcases getc hi with ⟨i1, i2⟩ | ⟨i1, i2⟩
    · rw [tOff_app _ _ (by omega)]
      obtain ⟨a1, a2, a3, a4⟩ := h2 i o i2
      exact ⟨(ff.1 _ _ _ (by omega)).trans a1, (ff.2 _ _ _ (by omega)).trans a2, (ff.1 _ _ _ (by omega)).trans a3, fun hk => ⟨(ff.1 _ _ _ (by omega)).trans (a4 hk).1, (ff.1 _ _ _ (by omega)).trans (a4 hk).2⟩⟩
    · subst i1
      subst i2
      rw [tOff_app _ _ (Nat.le_refl _), tOff_len]
      refine ⟨by simp (disch := omega) only [wI_1, wI_2, wL_1, wL_2, true_and, and_true, and_self, false_and, and_false, if_true, if_false, if_pos, if_neg], by simp (disch := omega) only [wI_1, wI_2, wL_1, wL_2, true_and, and_true, and_self, false_and, and_false, if_true, if_false, if_pos, if_neg], by simp (disch := omega) only [wI_1, wI_2, wL_1, wL_2, true_and, and_true, and_self, false_and, and_false, if_true, if_false, if_pos, if_neg]; exact hq, fun h => ⟨?_, ?_⟩⟩
      · rw [ff.1 _ _ _ (by omega)]; exact (hk h).1
      · rw [ff.1 _ _ _ (by omega)]; exact (hk h).2
def oNot : Op := (6, 0, 0, [])
def cNt : List Nat → Nat
  | 0 :: Fs => cNt Fs + 1
  | _ => 0
def cFs : List Nat → List Nat
  | 0 :: Fs => cFs Fs
  | Fs => Fs
def cMd (Fs : List Nat) : Nat := match cFs Fs with
  | [] => 25
  | x :: _ => if x = 1 then 21 else 24
theorem cFs_n {x : Nat} {Fs : List Nat} (h : x ≠ 0) : cFs (x :: Fs) = x :: Fs ∧ cNt (x :: Fs) = 0 := by
  match x, h with
  | x + 1, h => exact ⟨rfl, rfl⟩
theorem cFs_len : ∀ (Fs : List Nat), (cFs Fs).length + cNt Fs = Fs.length
  | [] => rfl
  | 0 :: Fs => by
    show (cFs Fs).length + (cNt Fs + 1) = _
    rw [List.length_cons, ← cFs_len Fs]; omega
  | (x + 1) :: Fs => rfl
theorem ze_loop {F : Nat} : ∀ (Fs : List Nat) (M : Nat) (Ops : List Op) (s : ax_σ), Fs.length < M → ZO Ops s → ZF Fs s → Ops.length + Fs.length ≤ 240 → Fs.length ≤ 12 → ∃ s', lp_Z_complete_0 F M s = some s' ∧ ZO (Ops ++ List.replicate (cNt Fs) oNot) s' ∧ ZF (cFs Fs) s' ∧ frm XC1 s s'
  | [], 0, Ops, s, hm, _, _, _, _ => absurd hm (Nat.not_lt_zero _)
  | [], M + 1, Ops, s, hm, hO, hF, h1, h2 => by
    refine ⟨s, ?_, by show ZO (Ops ++ []) s; rw [List.append_nil]; exact hO, hF, frm.refl⟩
    have h49 : s.1 0 38 49 = nI 0 := hF.1
    rw [lp_Z_complete_0]
    simp (disch := omega) only [ax_let, Option.bind_some, cond_true, cond_false, if_pos, if_neg, if_true, if_false, eq_self, nI_add, nI_ltI, nI_leI, nI_eq, nI_clamp, pu_in, c_0, c_1, c_2, c_3, c_4, c_5, c_6, c_7, c_8, c_9, c_10, c_11, c_12, c_15, c_16, c_17, c_32, c_35, c_36, c_38, c_40, c_41, c_42, c_43, c_44, c_45, c_48, c_57, c_58, c_59, c_60, c_61, c_62, c_64, c_65, c_69, c_75, c_83, c_91, c_93, c_94, c_97, c_105, c_106, c_110, c_119, c_123, c_124, c_125, c_126, c_240, c_256, c_400, c_m, nI_m1, nM_i, lN_add, lN_mul, lN_i, nI_l, lN_eq, lgN_le, lgN_lt, lgN_ge, lgN_gt, nI_sub, nI_mul, d_0, d_1, c_13, c_14, c_18, c_19, c_20, c_21, c_22, c_23, c_24, c_25, c_26, c_27, c_28, c_29, c_30, c_31, c_33, c_34, c_37, c_39, c_46, c_47, c_49, c_50, c_51, c_52, c_53, c_54, c_55, c_56, c_63, c_66, c_67, c_68, c_70, c_71, c_72, c_73, c_74, c_76, c_77, c_78, c_79, c_80, c_81, c_82, c_84, c_85, c_86, c_87, c_88, c_89, c_90, c_92, c_95, c_96, c_98, c_99, c_100, c_101, c_102, c_103, c_104, c_107, c_108, c_109, c_111, c_112, c_113, c_114, c_115, c_116, c_117, c_118, c_120, c_121, c_122, c_127, c_280, d_2, d_3, d_4, d_8, d_9, d_10, d_15, d_16, d_32, d_48, d_62, d_63, d_64, h49]
  | x :: Fs, 0, Ops, s, hm, _, _, _, _ => absurd hm (Nat.not_lt_zero _)
  | x :: Fs, M + 1, Ops, s, hm, hO, hF, h1, h2 => by
    have h49 : s.1 0 38 49 = nI (Fs.length + 1) := hF.1
    obtain ⟨ht, hx⟩ := hF.top
    rw [List.length_cons] at h1 h2 hm
    have e1 : Fs.length + 1 - 1 = Fs.length := by omega
    by_cases h0 : x = 0
    · subst h0
      have f1 : frm XC1 s (ax_wI s 0 38 49 (nI Fs.length)) := frm.refl.wI _ _ _ _ (by unfold XC1; omega)
      have hO1 : ZO Ops (ax_wI s 0 38 49 (nI Fs.length)) := hO.keep (Q := fun g r k => r = 38 ∧ k = 49) (frm.refl.wI _ _ _ _ ⟨rfl, rfl⟩) (fun r k h => by omega)
      have hF1 : ZF Fs (ax_wI s 0 38 49 (nI Fs.length)) := hF.pop (frm.refl.wI _ _ _ _ (by omega)) (by simp (disch := omega) only [wI_1, wI_2, wL_1, wL_2, true_and, and_true, and_self, false_and, and_false, if_true, if_false, if_pos, if_neg])
      obtain ⟨s2, a1, a2, a3⟩ := ze_emit (k := 6) (v := 0) (p := 0) (l := []) (q := nM) hO1 (by omega) rfl (fun h => by omega)
      have hF2 : ZF Fs s2 := hF1.keep a3 (fun r k h => by omega)
      obtain ⟨s3, b1, b2, b3, b4⟩ := ze_loop (F := F) Fs M (Ops ++ [oNot]) s2 (by omega) a2 hF2 (by rw [List.length_append, List.length_singleton]; omega) (by omega)
      refine ⟨s3, ?_, ?_, b3, (f1.trans (a3.imp (fun g r k h => by unfold XC1; omega))).trans b4⟩
      · rw [lp_Z_complete_0]
        simp (disch := omega) only [ax_let, Option.bind_some, cond_true, cond_false, if_pos, if_neg, if_true, if_false, eq_self, nI_add, nI_ltI, nI_leI, nI_eq, nI_clamp, pu_in, c_0, c_1, c_2, c_3, c_4, c_5, c_6, c_7, c_8, c_9, c_10, c_11, c_12, c_15, c_16, c_17, c_32, c_35, c_36, c_38, c_40, c_41, c_42, c_43, c_44, c_45, c_48, c_57, c_58, c_59, c_60, c_61, c_62, c_64, c_65, c_69, c_75, c_83, c_91, c_93, c_94, c_97, c_105, c_106, c_110, c_119, c_123, c_124, c_125, c_126, c_240, c_256, c_400, c_m, nI_m1, nM_i, lN_add, lN_mul, lN_i, nI_l, lN_eq, lgN_le, lgN_lt, lgN_ge, lgN_gt, nI_sub, nI_mul, d_0, d_1, c_13, c_14, c_18, c_19, c_20, c_21, c_22, c_23, c_24, c_25, c_26, c_27, c_28, c_29, c_30, c_31, c_33, c_34, c_37, c_39, c_46, c_47, c_49, c_50, c_51, c_52, c_53, c_54, c_55, c_56, c_63, c_66, c_67, c_68, c_70, c_71, c_72, c_73, c_74, c_76, c_77, c_78, c_79, c_80, c_81, c_82, c_84, c_85, c_86, c_87, c_88, c_89, c_90, c_92, c_95, c_96, c_98, c_99, c_100, c_101, c_102, c_103, c_104, c_107, c_108, c_109, c_111, c_112, c_113, c_114, c_115, c_116, c_117, c_118, c_120, c_121, c_122, c_127, c_280, d_2, d_3, d_4, d_8, d_9, d_10, d_15, d_16, d_32, d_48, d_62, d_63, d_64, h49, e1, ht, a1]
        exact b1
      · rw [List.append_assoc] at b2
        exact b2
    · obtain ⟨c1, c2⟩ := cFs_n (Fs := Fs) h0
      refine ⟨s, ?_, by rw [c2, List.replicate_zero, List.append_nil]; exact hO, by rw [c1]; exact hF, frm.refl⟩
      rw [lp_Z_complete_0]
      simp (disch := omega) only [ax_let, Option.bind_some, cond_true, cond_false, if_pos, if_neg, if_true, if_false, eq_self, nI_add, nI_ltI, nI_leI, nI_eq, nI_clamp, pu_in, c_0, c_1, c_2, c_3, c_4, c_5, c_6, c_7, c_8, c_9, c_10, c_11, c_12, c_15, c_16, c_17, c_32, c_35, c_36, c_38, c_40, c_41, c_42, c_43, c_44, c_45, c_48, c_57, c_58, c_59, c_60, c_61, c_62, c_64, c_65, c_69, c_75, c_83, c_91, c_93, c_94, c_97, c_105, c_106, c_110, c_119, c_123, c_124, c_125, c_126, c_240, c_256, c_400, c_m, nI_m1, nM_i, lN_add, lN_mul, lN_i, nI_l, lN_eq, lgN_le, lgN_lt, lgN_ge, lgN_gt, nI_sub, nI_mul, d_0, d_1, c_13, c_14, c_18, c_19, c_20, c_21, c_22, c_23, c_24, c_25, c_26, c_27, c_28, c_29, c_30, c_31, c_33, c_34, c_37, c_39, c_46, c_47, c_49, c_50, c_51, c_52, c_53, c_54, c_55, c_56, c_63, c_66, c_67, c_68, c_70, c_71, c_72, c_73, c_74, c_76, c_77, c_78, c_79, c_80, c_81, c_82, c_84, c_85, c_86, c_87, c_88, c_89, c_90, c_92, c_95, c_96, c_98, c_99, c_100, c_101, c_102, c_103, c_104, c_107, c_108, c_109, c_111, c_112, c_113, c_114, c_115, c_116, c_117, c_118, c_120, c_121, c_122, c_127, c_280, d_2, d_3, d_4, d_8, d_9, d_10, d_15, d_16, d_32, d_48, d_62, d_63, d_64, h49, e1, ht]
theorem ze_comp {F : Nat} {Fs : List Nat} {Ops : List Op} {s : ax_σ} (hF0 : 241 ≤ F) (hO : ZO Ops s) (hF : ZF Fs s) (h1 : Ops.length + Fs.length ≤ 240) (h2 : Fs.length ≤ 12) : ∃ s', f_Z_complete F s = some s' ∧ ZO (Ops ++ List.replicate (cNt Fs) oNot) s' ∧ ZF (cFs Fs) s' ∧ s'.1 0 38 7 = nI (cMd Fs) ∧ frm XC1 s s' := by
  obtain ⟨s1, a1, a2, a3, a4⟩ := ze_loop (F := F) Fs F Ops s (by omega) hO hF h1 h2
  have hl := cFs_len Fs
  have ff : frm (fun g r k => g = 0 ∧ r = 38 ∧ k = 7) s1 (ax_wI s1 0 38 7 (nI (cMd Fs))) := frm.refl.wI _ _ _ _ ⟨rfl, rfl, rfl⟩
  refine ⟨ax_wI s1 0 38 7 (nI (cMd Fs)), ?_, a2.keep ff (fun r k h => by omega), a3.keep ff (fun r k h => by omega), by simp (disch := omega) only [wI_1, wI_2, wL_1, wL_2, true_and, and_true, and_self, false_and, and_false, if_true, if_false, if_pos, if_neg], a4.trans (ff.imp (fun g r k h => by unfold XC1; omega))⟩
  unfold f_Z_complete
  have h49 := a3.1
  unfold cMd
  match hc : cFs Fs with
  | [] =>
    rw [hc] at h49
    have h49 : s1.1 0 38 49 = nI 0 := h49
    simp (disch := omega) only [ax_let, Option.bind_some, cond_true, cond_false, if_pos, if_neg, if_true, if_false, eq_self, nI_add, nI_ltI, nI_leI, nI_eq, nI_clamp, pu_in, c_0, c_1, c_2, c_3, c_4, c_5, c_6, c_7, c_8, c_9, c_10, c_11, c_12, c_15, c_16, c_17, c_32, c_35, c_36, c_38, c_40, c_41, c_42, c_43, c_44, c_45, c_48, c_57, c_58, c_59, c_60, c_61, c_62, c_64, c_65, c_69, c_75, c_83, c_91, c_93, c_94, c_97, c_105, c_106, c_110, c_119, c_123, c_124, c_125, c_126, c_240, c_256, c_400, c_m, nI_m1, nM_i, lN_add, lN_mul, lN_i, nI_l, lN_eq, lgN_le, lgN_lt, lgN_ge, lgN_gt, nI_sub, nI_mul, d_0, d_1, c_13, c_14, c_18, c_19, c_20, c_21, c_22, c_23, c_24, c_25, c_26, c_27, c_28, c_29, c_30, c_31, c_33, c_34, c_37, c_39, c_46, c_47, c_49, c_50, c_51, c_52, c_53, c_54, c_55, c_56, c_63, c_66, c_67, c_68, c_70, c_71, c_72, c_73, c_74, c_76, c_77, c_78, c_79, c_80, c_81, c_82, c_84, c_85, c_86, c_87, c_88, c_89, c_90, c_92, c_95, c_96, c_98, c_99, c_100, c_101, c_102, c_103, c_104, c_107, c_108, c_109, c_111, c_112, c_113, c_114, c_115, c_116, c_117, c_118, c_120, c_121, c_122, c_127, c_280, d_2, d_3, d_4, d_8, d_9, d_10, d_15, d_16, d_32, d_48, d_62, d_63, d_64, a1, h49]
  | x :: Fs' =>
    rw [hc] at h49 a3 hl
    have k49 : s1.1 0 38 49 = nI (Fs'.length + 1) := h49
    clear h49
    obtain ⟨ht, hx⟩ := a3.top
    rw [List.length_cons] at hl
    have e1 : Fs'.length + 1 - 1 = Fs'.length := by omega
    by_cases hx1 : x = 1
    · subst hx1
      simp (disch := omega) only [ax_let, Option.bind_some, cond_true, cond_false, if_pos, if_neg, if_true, if_false, eq_self, nI_add, nI_ltI, nI_leI, nI_eq, nI_clamp, pu_in, c_0, c_1, c_2, c_3, c_4, c_5, c_6, c_7, c_8, c_9, c_10, c_11, c_12, c_15, c_16, c_17, c_32, c_35, c_36, c_38, c_40, c_41, c_42, c_43, c_44, c_45, c_48, c_57, c_58, c_59, c_60, c_61, c_62, c_64, c_65, c_69, c_75, c_83, c_91, c_93, c_94, c_97, c_105, c_106, c_110, c_119, c_123, c_124, c_125, c_126, c_240, c_256, c_400, c_m, nI_m1, nM_i, lN_add, lN_mul, lN_i, nI_l, lN_eq, lgN_le, lgN_lt, lgN_ge, lgN_gt, nI_sub, nI_mul, d_0, d_1, c_13, c_14, c_18, c_19, c_20, c_21, c_22, c_23, c_24, c_25, c_26, c_27, c_28, c_29, c_30, c_31, c_33, c_34, c_37, c_39, c_46, c_47, c_49, c_50, c_51, c_52, c_53, c_54, c_55, c_56, c_63, c_66, c_67, c_68, c_70, c_71, c_72, c_73, c_74, c_76, c_77, c_78, c_79, c_80, c_81, c_82, c_84, c_85, c_86, c_87, c_88, c_89, c_90, c_92, c_95, c_96, c_98, c_99, c_100, c_101, c_102, c_103, c_104, c_107, c_108, c_109, c_111, c_112, c_113, c_114, c_115, c_116, c_117, c_118, c_120, c_121, c_122, c_127, c_280, d_2, d_3, d_4, d_8, d_9, d_10, d_15, d_16, d_32, d_48, d_62, d_63, d_64, a1, k49, e1, ht]
    · simp (disch := omega) only [ax_let, Option.bind_some, cond_true, cond_false, if_pos, if_neg, if_true, if_false, eq_self, nI_add, nI_ltI, nI_leI, nI_eq, nI_clamp, pu_in, c_0, c_1, c_2, c_3, c_4, c_5, c_6, c_7, c_8, c_9, c_10, c_11, c_12, c_15, c_16, c_17, c_32, c_35, c_36, c_38, c_40, c_41, c_42, c_43, c_44, c_45, c_48, c_57, c_58, c_59, c_60, c_61, c_62, c_64, c_65, c_69, c_75, c_83, c_91, c_93, c_94, c_97, c_105, c_106, c_110, c_119, c_123, c_124, c_125, c_126, c_240, c_256, c_400, c_m, nI_m1, nM_i, lN_add, lN_mul, lN_i, nI_l, lN_eq, lgN_le, lgN_lt, lgN_ge, lgN_gt, nI_sub, nI_mul, d_0, d_1, c_13, c_14, c_18, c_19, c_20, c_21, c_22, c_23, c_24, c_25, c_26, c_27, c_28, c_29, c_30, c_31, c_33, c_34, c_37, c_39, c_46, c_47, c_49, c_50, c_51, c_52, c_53, c_54, c_55, c_56, c_63, c_66, c_67, c_68, c_70, c_71, c_72, c_73, c_74, c_76, c_77, c_78, c_79, c_80, c_81, c_82, c_84, c_85, c_86, c_87, c_88, c_89, c_90, c_92, c_95, c_96, c_98, c_99, c_100, c_101, c_102, c_103, c_104, c_107, c_108, c_109, c_111, c_112, c_113, c_114, c_115, c_116, c_117, c_118, c_120, c_121, c_122, c_127, c_280, d_2, d_3, d_4, d_8, d_9, d_10, d_15, d_16, d_32, d_48, d_62, d_63, d_64, a1, k49, e1, ht]
