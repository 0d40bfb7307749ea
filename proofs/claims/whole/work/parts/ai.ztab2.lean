/-! PURE: the reference reads all tables -/
section
variable {R F n : Nat} {f : Nat → Nat} {ts r r2 : List Tok} {s s' s1 s2 s0 : ax_σ} {md md' c p m sec t : Nat} {Tot Pr P1 : List Nat} {Ops Ops' : List Op} {Tms Tms' : List Tm} {Fs Fs' : List Nat}
def XDg (t i g r k : Nat) : Prop := g = 0 ∧ (r = 67 ∨ (r = 38 ∧ (k = 7 ∨ k = 15 ∨ k = 51)) ∨ (r = 43 ∧ 16 * t + i ≤ k ∧ k < 16 * t + 16))
theorem zHex (ht : t < 2) : ∀ (j i md : Nat) (ts : List Tok) (Pr Tot : List Nat) (s : ax_σ), i + j = 16 → (i = 0 ∧ md = 3 ∧ sg ts ≠ 42) ∨ (0 < i ∧ md = 4) → ZE R n f md ts Tot Pr Ops Tms Fs s → s.1 0 38 14 = nI (t + 1) → s.1 0 38 15 = nI i → zq 0 R F n f ts s (pHex j ts) (fun l r s' => ∃ T2, ZE R n f 4 r T2 (Pr ++ l.map hxC) Ops Tms Fs s' ∧ s'.1 0 38 15 = nI 16 ∧ (∀ k v, l[k]? = some v → s'.1 0 43 (16 * t + i + k) = nI v) ∧ frm (XDg t i) s s')
  | 0, i, md, ts, Pr, Tot, s, hi, hmd, h, h14, h15 => by
    rcases hmd with ⟨h0, _⟩ | ⟨_, rfl⟩
    · omega
    · rw [pHex]
      refine ⟨s, ⟨Tot, by rw [List.map_nil, List.append_nil]; exact h, ?_, fun k v hk => (by cases hk), frm.refl⟩, zgo.refl⟩
      have : i = 16 := by omega
      rw [h15, this]
  | j + 1, i, md, [], Pr, Tot, s, hi, hmd, h, h14, h15 => fun G => h.nil (by omega)
  | j + 1, i, md, (c, p) :: ts, Pr, Tot, s, hi, hmd, h, h14, h15 => by
    have hc' := (h.tk _ (List.mem_cons_self ..)).1
    have hm' : (md = 3 ∧ c ≠ 42) ∨ md = 4 := by
      rcases hmd with ⟨_, a, b⟩ | ⟨_, a⟩
      · exact Or.inl ⟨a, b⟩
      · exact Or.inr a
    rw [pHex]
    match hv : hexv c with
    | none => exact fun G => h.rejH (by omega) (zw_z (by unfold wants; omega)) (zx_3 hc' h.2.2.1 hm' h14 h15 ht (by omega) hv)
    | some v =>
      obtain ⟨s2, T2, a1, a2, a3, a4, a5⟩ := h.hex3 (F := F) hm' h14 h15 ht (by omega) hv
      refine zq.pre a1 ?_
      have up : frm (XDg t i) s s2 := a5.imp (fun g r k h => by unfold XDg; omega)
      refine (zHex ht j (i + 1) 4 ts _ T2 s2 (by omega) (Or.inr ⟨by omega, rfl⟩) a2 ((a5.1 0 38 14 (by omega)).trans h14) a3).bind (fun l r s3 _ hK => ⟨s3, ?_, zgo.refl⟩)
      obtain ⟨T3, b1, b2, b3, b4⟩ := hK
      refine ⟨T3, by rw [List.map_cons]; rw [List.append_assoc] at b1; exact b1, b2, fun k x hk => ?_, up.trans (b4.imp (fun g r k h => by unfold XDg at h ⊢; omega))⟩
      match k, hk with
      | 0, hk =>
        injection hk with hk
        subst hk
        rw [b4.1 0 43 _ (by unfold XDg; omega)]
        exact a4
      | k + 1, hk =>
        rw [show 16 * t + i + (k + 1) = 16 * t + (i + 1) + k from by omega]
        exact b3 k x hk
/-- ; behind the digits -/
theorem ZE.semi4 (h : ZE R n f 4 ((59, p) :: ts) Tot Pr Ops Tms Fs s) (h15 : s.1 0 38 15 = nI 16) : ∃ s2 T2, zgo 0 R F n f ((59, p) :: ts) s ts s2 ∧ ZE R n f 2 ts T2 (Pr ++ [59]) Ops Tms Fs s2 ∧ frm (fun g r k => g = 0 ∧ (r = 67 ∨ (r = 38 ∧ (k = 7 ∨ k = 51)))) s s2 := by
  have f1 : frm (fun g r k => g = 0 ∧ r = 38 ∧ k = 7) s (ax_wI s 0 38 7 (nI 2)) := frm.refl.wI _ _ _ _ ⟨rfl, rfl, rfl⟩
  have hD : zdis F 4 59 p s = some (nI 1, ax_wI s 0 38 7 (nI 2)) := by
    have h7' := h.2.2.1
    unfold zdis f_Z_acceptsHead
    simp (disch := omega) only [ax_let, Option.bind_some, cond_true, cond_false, if_pos, if_neg, if_true, if_false, eq_self, nI_add, nI_ltI, nI_leI, nI_eq, nI_clamp, pu_in, c_0, c_1, c_2, c_3, c_4, c_5, c_6, c_7, c_8, c_9, c_10, c_11, c_12, c_15, c_16, c_17, c_32, c_35, c_36, c_38, c_40, c_41, c_42, c_43, c_44, c_45, c_48, c_57, c_58, c_59, c_60, c_61, c_62, c_64, c_65, c_69, c_75, c_83, c_91, c_93, c_94, c_97, c_105, c_106, c_110, c_119, c_123, c_124, c_125, c_126, c_240, c_256, c_400, c_m, nI_m1, nM_i, lN_add, lN_mul, lN_i, nI_l, lN_eq, lgN_le, lgN_lt, lgN_ge, lgN_gt, nI_sub, nI_mul, d_0, d_1, c_13, c_14, c_18, c_19, c_20, c_21, c_22, c_23, c_24, c_25, c_26, c_27, c_28, c_29, c_30, c_31, c_33, c_34, c_37, c_39, c_46, c_47, c_49, c_50, c_51, c_52, c_53, c_54, c_55, c_56, c_63, c_66, c_67, c_68, c_70, c_71, c_72, c_73, c_74, c_76, c_77, c_78, c_79, c_80, c_81, c_82, c_84, c_85, c_86, c_87, c_88, c_89, c_90, c_92, c_95, c_96, c_98, c_99, c_100, c_101, c_102, c_103, c_104, c_107, c_108, c_109, c_111, c_112, c_113, c_114, c_115, c_116, c_117, c_118, c_120, c_121, c_122, c_127, c_280, d_2, d_3, d_4, d_8, d_9, d_10, d_15, d_16, d_32, d_48, d_62, d_63, d_64, h7', h15]
  have hb := h.2.2.2.2.2.2.2.1.1
  rw [List.length_cons] at hb
  obtain ⟨s2, b1, b2, b3⟩ := h.stepH (md' := 2) (P1 := Pr) (by omega) (zw_z (by unfold wants; omega)) hD (f1.imp (fun g r k h => by unfold XHp; omega)) (by simp (disch := omega) only [wI_1, wI_2, wL_1, wL_2, true_and, and_true, and_self, false_and, and_false, if_true, if_false, if_pos, if_neg]; exact h.2.1) (by simp (disch := omega) only [wI_1, wI_2, wL_1, wL_2, true_and, and_true, and_self, false_and, and_false, if_true, if_false, if_pos, if_neg]) (h.2.2.2.1.keep f1 (fun r k h => by omega)) (by omega) (fun _ => by omega)
  exact ⟨s2, _, b1, b2, (f1.imp (fun g r k h => by omega)).trans (b3.imp (fun g r k h => by unfold XP at h; omega))⟩
theorem zx_4 {c p : Nat} (hc' : c < 128) (h7' : s.1 0 38 7 = nI 4) (h15 : s.1 0 38 15 = nI 16) (h1 : c ≠ 59) : ∃ s1, zdis F 4 c p s = some (nI 0, s1) ∧ frm XH s s1 := by
  refine ⟨ax_wI s 0 38 7 (nI 2), ?_, frm.refl.wI _ _ _ _ (by unfold XH; omega)⟩
  unfold zdis f_Z_acceptsHead
  simp (disch := omega) only [ax_let, Option.bind_some, cond_true, cond_false, if_pos, if_neg, if_true, if_false, eq_self, nI_add, nI_ltI, nI_leI, nI_eq, nI_clamp, pu_in, c_0, c_1, c_2, c_3, c_4, c_5, c_6, c_7, c_8, c_9, c_10, c_11, c_12, c_15, c_16, c_17, c_32, c_35, c_36, c_38, c_40, c_41, c_42, c_43, c_44, c_45, c_48, c_57, c_58, c_59, c_60, c_61, c_62, c_64, c_65, c_69, c_75, c_83, c_91, c_93, c_94, c_97, c_105, c_106, c_110, c_119, c_123, c_124, c_125, c_126, c_240, c_256, c_400, c_m, nI_m1, nM_i, lN_add, lN_mul, lN_i, nI_l, lN_eq, lgN_le, lgN_lt, lgN_ge, lgN_gt, nI_sub, nI_mul, d_0, d_1, c_13, c_14, c_18, c_19, c_20, c_21, c_22, c_23, c_24, c_25, c_26, c_27, c_28, c_29, c_30, c_31, c_33, c_34, c_37, c_39, c_46, c_47, c_49, c_50, c_51, c_52, c_53, c_54, c_55, c_56, c_63, c_66, c_67, c_68, c_70, c_71, c_72, c_73, c_74, c_76, c_77, c_78, c_79, c_80, c_81, c_82, c_84, c_85, c_86, c_87, c_88, c_89, c_90, c_92, c_95, c_96, c_98, c_99, c_100, c_101, c_102, c_103, c_104, c_107, c_108, c_109, c_111, c_112, c_113, c_114, c_115, c_116, c_117, c_118, c_120, c_121, c_122, c_127, c_280, d_2, d_3, d_4, d_8, d_9, d_10, d_15, d_16, d_32, d_48, d_62, d_63, d_64, h7', h15]
/-- * and + of a rule -/
theorem ZE.star3 (h : ZE R n f md ((c, p) :: ts) Tot Pr Ops Tms Fs s) (hmd : (md = 3 ∧ c = 42 ∧ md' = 5) ∨ (md = 6 ∧ c = 43 ∧ md' = 7)) : ∃ s2 T2, zgo 0 R F n f ((c, p) :: ts) s ts s2 ∧ ZE R n f md' ts T2 Pr Ops Tms Fs s2 ∧ frm (fun g r k => g = 0 ∧ (r = 67 ∨ (r = 38 ∧ (k = 7 ∨ k = 51)))) s s2 := by
  have f1 : frm (fun g r k => g = 0 ∧ r = 38 ∧ k = 7) s (ax_wI s 0 38 7 (nI md')) := frm.refl.wI _ _ _ _ ⟨rfl, rfl, rfl⟩
  have hD : zdis F md c p s = some (nI 1, ax_wI s 0 38 7 (nI md')) := by
    have h7' := h.2.2.1
    unfold zdis f_Z_acceptsHead
    rcases hmd with ⟨rfl, rfl, rfl⟩ | ⟨rfl, rfl, rfl⟩ <;> simp (disch := omega) only [ax_let, Option.bind_some, cond_true, cond_false, if_pos, if_neg, if_true, if_false, eq_self, nI_add, nI_ltI, nI_leI, nI_eq, nI_clamp, pu_in, c_0, c_1, c_2, c_3, c_4, c_5, c_6, c_7, c_8, c_9, c_10, c_11, c_12, c_15, c_16, c_17, c_32, c_35, c_36, c_38, c_40, c_41, c_42, c_43, c_44, c_45, c_48, c_57, c_58, c_59, c_60, c_61, c_62, c_64, c_65, c_69, c_75, c_83, c_91, c_93, c_94, c_97, c_105, c_106, c_110, c_119, c_123, c_124, c_125, c_126, c_240, c_256, c_400, c_m, nI_m1, nM_i, lN_add, lN_mul, lN_i, nI_l, lN_eq, lgN_le, lgN_lt, lgN_ge, lgN_gt, nI_sub, nI_mul, d_0, d_1, c_13, c_14, c_18, c_19, c_20, c_21, c_22, c_23, c_24, c_25, c_26, c_27, c_28, c_29, c_30, c_31, c_33, c_34, c_37, c_39, c_46, c_47, c_49, c_50, c_51, c_52, c_53, c_54, c_55, c_56, c_63, c_66, c_67, c_68, c_70, c_71, c_72, c_73, c_74, c_76, c_77, c_78, c_79, c_80, c_81, c_82, c_84, c_85, c_86, c_87, c_88, c_89, c_90, c_92, c_95, c_96, c_98, c_99, c_100, c_101, c_102, c_103, c_104, c_107, c_108, c_109, c_111, c_112, c_113, c_114, c_115, c_116, c_117, c_118, c_120, c_121, c_122, c_127, c_280, d_2, d_3, d_4, d_8, d_9, d_10, d_15, d_16, d_32, d_48, d_62, d_63, d_64, h7']
  have hb := h.2.2.2.2.2.2.2.1.1
  rw [List.length_cons] at hb
  have hsil : zsil md c = true := decide_eq_true (by omega)
  obtain ⟨s2, b1, b2, b3⟩ := h.stepH (md' := md') (P1 := Pr) (by omega) (zw_z (by unfold wants; omega)) hD (f1.imp (fun g r k h => by unfold XHp; omega)) (by simp (disch := omega) only [wI_1, wI_2, wL_1, wL_2, true_and, and_true, and_self, false_and, and_false, if_true, if_false, if_pos, if_neg]; exact h.2.1) (by simp (disch := omega) only [wI_1, wI_2, wL_1, wL_2, true_and, and_true, and_self, false_and, and_false, if_true, if_false, if_pos, if_neg]) (h.2.2.2.1.keep f1 (fun r k h => by omega)) (by omega) (fun e => by rw [hsil] at e; cases e)
  rw [if_pos hsil] at b2
  exact ⟨s2, _, b1, b2, (f1.imp (fun g r k h => by omega)).trans (b3.imp (fun g r k h => by unfold XP at h; omega))⟩
theorem zx_6 {c p : Nat} (hc' : c < 128) (h7' : s.1 0 38 7 = nI md) (hmd : (md = 6 ∧ c ≠ 43) ∨ (md = 8 ∧ c ≠ 59)) : ∃ s1, zdis F md c p s = some (nI 0, s1) ∧ frm XH s s1 := by
  refine ⟨ax_wI s 0 38 7 (nI (if md = 6 then 7 else 2)), ?_, frm.refl.wI _ _ _ _ (by unfold XH; omega)⟩
  unfold zdis f_Z_acceptsHead
  rcases hmd with ⟨rfl, h1⟩ | ⟨rfl, h1⟩ <;> simp (disch := omega) only [ax_let, Option.bind_some, cond_true, cond_false, if_pos, if_neg, if_true, if_false, eq_self, nI_add, nI_ltI, nI_leI, nI_eq, nI_clamp, pu_in, c_0, c_1, c_2, c_3, c_4, c_5, c_6, c_7, c_8, c_9, c_10, c_11, c_12, c_15, c_16, c_17, c_32, c_35, c_36, c_38, c_40, c_41, c_42, c_43, c_44, c_45, c_48, c_57, c_58, c_59, c_60, c_61, c_62, c_64, c_65, c_69, c_75, c_83, c_91, c_93, c_94, c_97, c_105, c_106, c_110, c_119, c_123, c_124, c_125, c_126, c_240, c_256, c_400, c_m, nI_m1, nM_i, lN_add, lN_mul, lN_i, nI_l, lN_eq, lgN_le, lgN_lt, lgN_ge, lgN_gt, nI_sub, nI_mul, d_0, d_1, c_13, c_14, c_18, c_19, c_20, c_21, c_22, c_23, c_24, c_25, c_26, c_27, c_28, c_29, c_30, c_31, c_33, c_34, c_37, c_39, c_46, c_47, c_49, c_50, c_51, c_52, c_53, c_54, c_55, c_56, c_63, c_66, c_67, c_68, c_70, c_71, c_72, c_73, c_74, c_76, c_77, c_78, c_79, c_80, c_81, c_82, c_84, c_85, c_86, c_87, c_88, c_89, c_90, c_92, c_95, c_96, c_98, c_99, c_100, c_101, c_102, c_103, c_104, c_107, c_108, c_109, c_111, c_112, c_113, c_114, c_115, c_116, c_117, c_118, c_120, c_121, c_122, c_127, c_280, d_2, d_3, d_4, d_8, d_9, d_10, d_15, d_16, d_32, d_48, d_62, d_63, d_64, h7']
/-- a number of a rule: it isn't printed -/
theorem ZE.num5 {v p : Nat} (h : ZE R n f md ts Tot Pr Ops Tms Fs s) (hmd : md = 5 ∨ md = 7) (h14 : s.1 0 38 14 = nI (t + 1)) (ht : t < 2) (hp : pNum ts = some (v, p, r)) : ∃ s2 T2, zgo 0 R F n f ts s r s2 ∧ ZE R n f (md + 1) r T2 Pr Ops Tms Fs s2 ∧ s2.2 0 44 (2 * t + (if md = 7 then 1 else 0)) = lN v ∧ s2.1 0 45 (2 * t + (if md = 7 then 1 else 0)) = nI p ∧ v < 10 ^ 9 ∧ r.length < ts.length ∧ frm (fun g r k => g = 0 ∧ ((r = 38 ∧ (7 ≤ k ∧ k ≤ 10)) ∨ ((r = 44 ∨ r = 45) ∧ k = 2 * t + (if md = 7 then 1 else 0)))) s s2 := by
  have hw : wants md := by unfold wants; omega
  obtain ⟨a1, a2, a3, a4, a5, a6, a7, ⟨a8, a9, a10, a11, a12⟩, a13⟩ := id h
  obtain ⟨q1, q2, q3⟩ := fmt_pn hp
  have hlen := pNum_len hp
  have f0 : frm (fun g r k => g = 0 ∧ r = 38 ∧ (8 ≤ k ∧ k ≤ 10)) s (zN s 0 v p) := by
    unfold zN
    refine ((frm.refl.wI _ _ _ _ ?_).wL _ _ _ _ ?_).wI _ _ _ _ ?_ <;> omega
  have f1 : frm (fun g r k => g = 0 ∧ ((r = 38 ∧ k = 7) ∨ ((r = 44 ∨ r = 45) ∧ k = 2 * t + (if md = 7 then 1 else 0)))) (zN s 0 v p) (ax_wI (ax_wI (ax_wL (zN s 0 v p) 0 44 (2 * t + (if md = 7 then 1 else 0)) (lN v)) 0 45 (2 * t + (if md = 7 then 1 else 0)) (nI p)) 0 38 7 (nI (md + 1))) := by
    refine ((frm.refl.wL _ _ _ _ ?_).wI _ _ _ _ ?_).wI _ _ _ _ ?_ <;> omega
  have ff := (f0.imp (Q := fun g r k => g = 0 ∧ ((r = 38 ∧ (7 ≤ k ∧ k ≤ 10)) ∨ ((r = 44 ∨ r = 45) ∧ k = 2 * t + (if md = 7 then 1 else 0)))) (fun g r k h => by omega)).trans (f1.imp (fun g r k h => by omega))
  have g14 : (zN s 0 v p).1 0 38 14 = nI (t + 1) := (zN_o s 0 v p (by omega)).trans h14
  have h7' : (zN s 0 v p).1 0 38 7 = nI md := (zN_o s 0 v p (by omega)).trans a3
  have h9' := zN_9 s 0 v p
  have h10' := zN_10 s 0 v p
  have h8' := zN_8 s 0 v p
  have e5 : 2 * (t + 1) - 2 + 0 = 2 * t := by omega
  have e7 : 2 * (t + 1) - 2 + 1 = 2 * t + 1 := by omega
  have hE : f_Z_endNumber F (zN s 0 v p) = some (ax_wI (ax_wI (ax_wL (zN s 0 v p) 0 44 (2 * t + (if md = 7 then 1 else 0)) (lN v)) 0 45 (2 * t + (if md = 7 then 1 else 0)) (nI p)) 0 38 7 (nI (md + 1))) := by
    unfold f_Z_endNumber
    rcases hmd with rfl | rfl
    · simp (disch := omega) only [ax_let, Option.bind_some, cond_true, cond_false, if_pos, if_neg, if_true, if_false, eq_self, nI_add, nI_ltI, nI_leI, nI_eq, nI_clamp, pu_in, c_0, c_1, c_2, c_3, c_4, c_5, c_6, c_7, c_8, c_9, c_10, c_11, c_12, c_15, c_16, c_17, c_32, c_35, c_36, c_38, c_40, c_41, c_42, c_43, c_44, c_45, c_48, c_57, c_58, c_59, c_60, c_61, c_62, c_64, c_65, c_69, c_75, c_83, c_91, c_93, c_94, c_97, c_105, c_106, c_110, c_119, c_123, c_124, c_125, c_126, c_240, c_256, c_400, c_m, nI_m1, nM_i, lN_add, lN_mul, lN_i, nI_l, lN_eq, lgN_le, lgN_lt, lgN_ge, lgN_gt, nI_sub, nI_mul, d_0, d_1, c_13, c_14, c_18, c_19, c_20, c_21, c_22, c_23, c_24, c_25, c_26, c_27, c_28, c_29, c_30, c_31, c_33, c_34, c_37, c_39, c_46, c_47, c_49, c_50, c_51, c_52, c_53, c_54, c_55, c_56, c_63, c_66, c_67, c_68, c_70, c_71, c_72, c_73, c_74, c_76, c_77, c_78, c_79, c_80, c_81, c_82, c_84, c_85, c_86, c_87, c_88, c_89, c_90, c_92, c_95, c_96, c_98, c_99, c_100, c_101, c_102, c_103, c_104, c_107, c_108, c_109, c_111, c_112, c_113, c_114, c_115, c_116, c_117, c_118, c_120, c_121, c_122, c_127, c_280, d_2, d_3, d_4, d_8, d_9, d_10, d_15, d_16, d_32, d_48, d_62, d_63, d_64, wI_1, wI_2, wL_1, wL_2, true_and, and_true, and_self, false_and, and_false, if_true, if_false, zN_0, h7', h9', h10', g14, e5]
      rfl
    · simp (disch := omega) only [ax_let, Option.bind_some, cond_true, cond_false, if_pos, if_neg, if_true, if_false, eq_self, nI_add, nI_ltI, nI_leI, nI_eq, nI_clamp, pu_in, c_0, c_1, c_2, c_3, c_4, c_5, c_6, c_7, c_8, c_9, c_10, c_11, c_12, c_15, c_16, c_17, c_32, c_35, c_36, c_38, c_40, c_41, c_42, c_43, c_44, c_45, c_48, c_57, c_58, c_59, c_60, c_61, c_62, c_64, c_65, c_69, c_75, c_83, c_91, c_93, c_94, c_97, c_105, c_106, c_110, c_119, c_123, c_124, c_125, c_126, c_240, c_256, c_400, c_m, nI_m1, nM_i, lN_add, lN_mul, lN_i, nI_l, lN_eq, lgN_le, lgN_lt, lgN_ge, lgN_gt, nI_sub, nI_mul, d_0, d_1, c_13, c_14, c_18, c_19, c_20, c_21, c_22, c_23, c_24, c_25, c_26, c_27, c_28, c_29, c_30, c_31, c_33, c_34, c_37, c_39, c_46, c_47, c_49, c_50, c_51, c_52, c_53, c_54, c_55, c_56, c_63, c_66, c_67, c_68, c_70, c_71, c_72, c_73, c_74, c_76, c_77, c_78, c_79, c_80, c_81, c_82, c_84, c_85, c_86, c_87, c_88, c_89, c_90, c_92, c_95, c_96, c_98, c_99, c_100, c_101, c_102, c_103, c_104, c_107, c_108, c_109, c_111, c_112, c_113, c_114, c_115, c_116, c_117, c_118, c_120, c_121, c_122, c_127, c_280, d_2, d_3, d_4, d_8, d_9, d_10, d_15, d_16, d_32, d_48, d_62, d_63, d_64, wI_1, wI_2, wL_1, wL_2, true_and, and_true, and_self, false_and, and_false, if_true, if_false, zN_0, h7', h9', h10', g14, e7]
  have h7n : (ax_wI (ax_wI (ax_wL (zN s 0 v p) 0 44 (2 * t + (if md = 7 then 1 else 0)) (lN v)) 0 45 (2 * t + (if md = 7 then 1 else 0)) (nI p)) 0 38 7 (nI (md + 1))).1 0 38 7 = nI (md + 1) := by simp (disch := omega) only [wI_1, wI_2, wL_1, wL_2, true_and, and_true, and_self, false_and, and_false, if_true, if_false, if_pos, if_neg]
  have h8n := (f1.1 0 38 8 (by omega)).trans h8'
  have hP2 : ZP Pr _ := a4.keep ff (fun r k h => by omega)
  have hrej := z_rejdH (F := F) (md := md + 1) h7n (by omega) (by unfold wants; omega) hP2 (by omega) (fun c p hc => by
    have hc' := isD_i.mp hc
    exact zx_6 (by omega) h7n (by omega))
  have fz := ff.imp (Q := XZ 0) (fun g r k h => by unfold XZ; omega)
  have hmem : ∀ t ∈ r, t.1 < 128 ∧ t.2 ≤ 240 := by
    have hsuf : ∀ (j q v : Nat) (u : List Tok), ∀ t ∈ (pDig j q v u).2, t ∈ u := by
      intro j
      induction j with
      | zero => intro q v u t ht; rw [pDig] at ht; exact ht
      | succ j ih =>
        intro q v u t ht
        match u, ht with
        | [], ht => rw [pDig_nil] at ht; exact ht
        | (c, p) :: u, ht =>
          rw [pDig] at ht
          by_cases hx : isD c = true ∧ p = q
          · rw [if_pos hx] at ht
            exact List.mem_cons_of_mem _ (ih _ _ _ _ ht)
          · rw [if_neg hx] at ht
            exact ht
    intro t ht
    match ts, hp, a12 with
    | (c, q) :: ts, hp, a12 =>
      rw [pNum] at hp
      by_cases hc : isD c = true
      · rw [if_pos hc] at hp
        injection hp with hp
        injection hp with hp1 hp2
        injection hp2 with hp2 hp3
        rw [← hp3] at ht
        exact a12 t (List.mem_cons_of_mem _ (hsuf _ _ _ _ _ ht))
      · rw [if_neg hc] at hp; cases hp
  refine ⟨_, Pr ++ fmt false (r.map (·.1)), z_num a1 a2 a3 hw hp hE fz h8n hrej, ⟨a1.keep fz, h8n, h7n, hP2, a5.keep ff (fun r k h => by omega), a6.keep ff (fun r k h => by omega), a7.keep ff (fun r k h => by omega), ⟨by omega, by omega, by omega, a11, hmem⟩, fun _ => rfl⟩, by simp (disch := omega) only [wI_1, wI_2, wL_1, wL_2, true_and, and_true, and_self, false_and, and_false, if_true, if_false, if_pos, if_neg], by simp (disch := omega) only [wI_1, wI_2, wL_1, wL_2, true_and, and_true, and_self, false_and, and_false, if_true, if_false, if_pos, if_neg], q3, hlen, ff⟩
/-- ; behind a rule: the table is reckoned and printed -/
theorem ZE.semi8 {fa ad : Nat} (hF : 241 ≤ F) (h : ZE R n f 8 ((59, p) :: ts) Tot Pr Ops Tms Fs s) (h14 : s.1 0 38 14 = nI (t + 1)) (ht : t < 2) (h1 : s.2 0 44 (2 * t) = lN fa) (h2 : s.2 0 44 (2 * t + 1) = lN ad) (hf : fa < 10 ^ 9) (ha : ad < 10 ^ 9) (hb : Pr.length + 17 + ts.length ≤ 264) : ∃ s2 T2, zgo 0 R F n f ((59, p) :: ts) s ts s2 ∧ ZE R n f 2 ts T2 (Pr ++ hxs (fun k => (k * fa + ad) % 16) 0 16 ++ [59]) Ops Tms Fs s2 ∧ (∀ k, k < 16 → s2.1 0 43 (16 * t + k) = nI ((k * fa + ad) % 16)) ∧ frm (fun g r k => g = 0 ∧ (r = 67 ∨ (r = 38 ∧ (k = 7 ∨ k = 51)) ∨ (r = 43 ∧ 16 * t ≤ k ∧ k < 16 * t + 16))) s s2 := by
  obtain ⟨s1, a1, a2, a3, a4⟩ := z_reck (F := F) ht hf ha 16 0 F Pr s (by omega) (by omega) h.2.2.2.1 (by omega) h1 h2
  have hl16 := hxs_len (fun k => (k * fa + ad) % 16) 16 0
  obtain ⟨s3, b1, b2, b3⟩ := zp_1 (c := 59) a2 (by rw [List.length_append, hl16]; omega)
  have f3 : frm (fun g r k => g = 0 ∧ (r = 67 ∨ (r = 38 ∧ (k = 7 ∨ k = 51)) ∨ (r = 43 ∧ 16 * t ≤ k ∧ k < 16 * t + 16))) s (ax_wI s3 0 38 7 (nI 2)) := ((a4.imp (fun g r k h => by omega)).trans (b3.imp (fun g r k h => by unfold XP at h; omega))).wI _ _ _ _ (by omega)
  have e1 : t + 1 - 1 = t := by omega
  have hR : f_Z_reckon F s = some s3 := by
    unfold f_Z_reckon
    simp (disch := omega) only [ax_let, Option.bind_some, cond_true, cond_false, if_pos, if_neg, if_true, if_false, eq_self, nI_add, nI_ltI, nI_leI, nI_eq, nI_clamp, pu_in, c_0, c_1, c_2, c_3, c_4, c_5, c_6, c_7, c_8, c_9, c_10, c_11, c_12, c_15, c_16, c_17, c_32, c_35, c_36, c_38, c_40, c_41, c_42, c_43, c_44, c_45, c_48, c_57, c_58, c_59, c_60, c_61, c_62, c_64, c_65, c_69, c_75, c_83, c_91, c_93, c_94, c_97, c_105, c_106, c_110, c_119, c_123, c_124, c_125, c_126, c_240, c_256, c_400, c_m, nI_m1, nM_i, lN_add, lN_mul, lN_i, nI_l, lN_eq, lgN_le, lgN_lt, lgN_ge, lgN_gt, nI_sub, nI_mul, d_0, d_1, c_13, c_14, c_18, c_19, c_20, c_21, c_22, c_23, c_24, c_25, c_26, c_27, c_28, c_29, c_30, c_31, c_33, c_34, c_37, c_39, c_46, c_47, c_49, c_50, c_51, c_52, c_53, c_54, c_55, c_56, c_63, c_66, c_67, c_68, c_70, c_71, c_72, c_73, c_74, c_76, c_77, c_78, c_79, c_80, c_81, c_82, c_84, c_85, c_86, c_87, c_88, c_89, c_90, c_92, c_95, c_96, c_98, c_99, c_100, c_101, c_102, c_103, c_104, c_107, c_108, c_109, c_111, c_112, c_113, c_114, c_115, c_116, c_117, c_118, c_120, c_121, c_122, c_127, c_280, d_2, d_3, d_4, d_8, d_9, d_10, d_15, d_16, d_32, d_48, d_62, d_63, d_64, h14, e1, a1, b1]
  have hD : zdis F 8 59 p s = some (nI 1, ax_wI s3 0 38 7 (nI 2)) := by
    have h7' := h.2.2.1
    unfold zdis f_Z_acceptsHead
    simp (disch := omega) only [ax_let, Option.bind_some, cond_true, cond_false, if_pos, if_neg, if_true, if_false, eq_self, nI_add, nI_ltI, nI_leI, nI_eq, nI_clamp, pu_in, c_0, c_1, c_2, c_3, c_4, c_5, c_6, c_7, c_8, c_9, c_10, c_11, c_12, c_15, c_16, c_17, c_32, c_35, c_36, c_38, c_40, c_41, c_42, c_43, c_44, c_45, c_48, c_57, c_58, c_59, c_60, c_61, c_62, c_64, c_65, c_69, c_75, c_83, c_91, c_93, c_94, c_97, c_105, c_106, c_110, c_119, c_123, c_124, c_125, c_126, c_240, c_256, c_400, c_m, nI_m1, nM_i, lN_add, lN_mul, lN_i, nI_l, lN_eq, lgN_le, lgN_lt, lgN_ge, lgN_gt, nI_sub, nI_mul, d_0, d_1, c_13, c_14, c_18, c_19, c_20, c_21, c_22, c_23, c_24, c_25, c_26, c_27, c_28, c_29, c_30, c_31, c_33, c_34, c_37, c_39, c_46, c_47, c_49, c_50, c_51, c_52, c_53, c_54, c_55, c_56, c_63, c_66, c_67, c_68, c_70, c_71, c_72, c_73, c_74, c_76, c_77, c_78, c_79, c_80, c_81, c_82, c_84, c_85, c_86, c_87, c_88, c_89, c_90, c_92, c_95, c_96, c_98, c_99, c_100, c_101, c_102, c_103, c_104, c_107, c_108, c_109, c_111, c_112, c_113, c_114, c_115, c_116, c_117, c_118, c_120, c_121, c_122, c_127, c_280, d_2, d_3, d_4, d_8, d_9, d_10, d_15, d_16, d_32, d_48, d_62, d_63, d_64, h7', hR]
  have hsil : zsil 8 59 = true := decide_eq_true (by omega)
  have f7 : frm (fun g r k => g = 0 ∧ r = 38 ∧ k = 7) s3 (ax_wI s3 0 38 7 (nI 2)) := frm.refl.wI _ _ _ _ ⟨rfl, rfl, rfl⟩
  obtain ⟨s2, c1, c2, c3⟩ := h.stepH (md' := 2) (P1 := Pr ++ hxs (fun k => (k * fa + ad) % 16) 0 16 ++ [59]) (by omega) (zw_z (by unfold wants; omega)) hD (f3.imp (fun g r k h => by unfold XHp; omega)) ((f3.1 0 38 8 (by omega)).trans h.2.1) (by simp (disch := omega) only [wI_1, wI_2, wL_1, wL_2, true_and, and_true, and_self, false_and, and_false, if_true, if_false, if_pos, if_neg]) (b2.keep f7 (fun r k h => by omega)) (by rw [List.length_append, List.length_append, hl16, List.length_singleton]; omega) (fun e => by rw [hsil] at e; cases e)
  rw [if_pos hsil] at c2
  refine ⟨s2, _, c1, c2, fun k hk => ?_, f3.trans (c3.imp (fun g r k h => by unfold XP at h; omega))⟩
  rw [c3.1 0 43 _ (by unfold XP; omega), f7.1 0 43 _ (by omega), b3.1 0 43 _ (by unfold XP; omega)]
  exact a3 k (Nat.zero_le _) hk
theorem map_hxs : ∀ (l : List Nat) (E : Nat → Nat) (i : Nat), (∀ k v, l[k]? = some v → E (i + k) = v) → l.map hxC = hxs E i l.length
  | [], E, i, h => rfl
  | v :: l, E, i, h => by
    rw [List.map_cons, List.length_cons, hxs, ← h 0 v rfl, map_hxs l E (i + 1) (fun k x hk => by rw [show i + 1 + k = i + (k + 1) from by omega]; exact h (k + 1) x hk)]
    rfl
/-- a table -/
theorem zTb (hF : 241 ≤ F) (h : ZE R n f 2 ((35, p) :: ts) Tot Pr Ops Tms Fs s) (h14 : s.1 0 38 14 = nI t) (ht : t < 2) (hB : Pr.length + ts.length + 1 ≤ 252) : zq 0 R F n f ((35, p) :: ts) s (pTbT ts) (fun x r s' => ∃ T2, ZE R n f 2 r T2 (Pr ++ tbPr x) Ops Tms Fs s' ∧ s'.1 0 38 14 = nI (t + 1) ∧ ztbA t x s' ∧ frm (XTb t) s s' ∧ (Pr ++ tbPr x).length + r.length ≤ Pr.length + ts.length + 13) := by
  obtain ⟨s2, T2, a1, a2, a3, a4, a5, a6⟩ := h.hash2 (F := F) h14 ht
  refine zq.pre a1 ?_
  unfold pTbT
  match ts, a2, hB with
  | [], a2, hB => exact fun G => a2.nil (by omega)
  | (c, q) :: ts, a2, hB =>
    rw [List.length_cons] at hB
    rw [pTb]
    by_cases hc : c = 42
    · subst hc
      rw [if_pos rfl]
      obtain ⟨s3, T3, b1, b2, b3⟩ := a2.star3 (F := F) (Or.inl ⟨rfl, rfl, rfl⟩)
      refine zq.pre b1 ?_
      match hp : pNumR ts with
      | .error r' =>
        obtain ⟨hp', e1⟩ := pNumR_er hp
        subst e1
        match r', b2, hp' with
        | [], b2, hp' => exact fun G => b2.nil (by omega)
        | (c, p) :: r', b2, hp' =>
          exact fun G => b2.rejT (by omega) (fun e => pNum_none hp' e.2) (zx_0 (b2.tk _ (List.mem_cons_self ..)).1 (Or.inr (Or.inl rfl)) b2.2.2.1)
      | .ok ((v, q1), r1) =>
        obtain ⟨s4, T4, c1, c2, c3, c4, c5, c6, c7⟩ := b2.num5 (F := F) (Or.inl rfl) ((b3.1 0 38 14 (by omega)).trans a3) ht (pNumR_ok hp)
        refine zq.pre c1 ?_
        show zq 0 R F n f r1 s4 (rbind (rbind (pTake 43 r1) (fun _ r' => rbind (pNumR r') (fun n r'' => .ok ((([], [(v, q1), n]) : Tb), r'')))) (fun t r => rbind (pTake 59 r) (fun _ r' => .ok (t, r')))) _
        match r1, c2, c6 with
        | [], c2, c6 => exact fun G => c2.nil (by omega)
        | (d, q2) :: r1, c2, c6 =>
          rw [List.length_cons] at c6
          by_cases hd : d = 43
          · subst hd
            obtain ⟨s5, T5, d1, d2, d3⟩ := c2.star3 (F := F) (md' := 7) (Or.inr ⟨rfl, rfl, rfl⟩)
            refine zq.pre d1 ?_
            show zq 0 R F n f r1 s5 (rbind (rbind (pNumR r1) (fun n r'' => .ok ((([], [(v, q1), n]) : Tb), r''))) (fun t r => rbind (pTake 59 r) (fun _ r' => .ok (t, r')))) _
            match hp2 : pNumR r1 with
            | .error r' =>
              obtain ⟨hp', e1⟩ := pNumR_er hp2
              subst e1
              match r', d2, hp' with
              | [], d2, hp' => exact fun G => d2.nil (by omega)
              | (c, p) :: r', d2, hp' =>
                exact fun G => d2.rejT (by omega) (fun e => pNum_none hp' e.2) (zx_0 (d2.tk _ (List.mem_cons_self ..)).1 (Or.inr (Or.inr rfl)) d2.2.2.1)
            | .ok ((v2, q3), r2) =>
              have g14 : s5.1 0 38 14 = nI (t + 1) := by rw [d3.1 0 38 14 (by omega), c7.1 0 38 14 (by omega), b3.1 0 38 14 (by omega)]; exact a3
              obtain ⟨s6, T6, e1, e2, e3, e4, e5, e6, e7⟩ := d2.num5 (F := F) (Or.inr rfl) g14 ht (pNumR_ok hp2)
              refine zq.pre e1 ?_
              show zq 0 R F n f r2 s6 (rbind (pTake 59 r2) (fun _ r' => .ok ((([], [(v, q1), (v2, q3)]) : Tb), r'))) _
              have k44 : s6.2 0 44 (2 * t) = lN v := by
                rw [e7.2 0 44 _ (by rw [if_pos rfl]; omega), d3.2 0 44 _ (by omega)]
                exact c3
              have k45 : s6.1 0 45 (2 * t) = nI q1 := by
                rw [e7.1 0 45 _ (by rw [if_pos rfl]; omega), d3.1 0 45 _ (by omega)]
                exact c4
              match r2, e2, e6 with
              | [], e2, e6 => exact fun G => e2.nil (by omega)
              | (g, q4) :: r2, e2, e6 =>
                rw [List.length_cons] at e6
                by_cases hg : g = 59
                · subst hg
                  have h14' : s6.1 0 38 14 = nI (t + 1) := (e7.1 0 38 14 (by omega)).trans g14
                  have hPl : (Pr ++ [35]).length = Pr.length + 1 := by rw [List.length_append, List.length_singleton]
                  obtain ⟨s7, T7, f1, f2, f3, f4⟩ := e2.semi8 hF h14' ht k44 e3 c5 e5 (by omega)
                  have hl16 := hxs_len (fun k => (k * v + v2) % 16) 16 0
                  refine zq.pre f1 ⟨s7, ⟨T7, ?_, (f4.1 0 38 14 (by omega)).trans h14', ⟨f3, Or.inr ⟨(v, q1), (v2, q3), rfl, ?_, ?_, ?_, ?_⟩⟩, ?_, ?_⟩, zgo.refl⟩
                  · have e9 : Pr ++ tbPr ([], [(v, q1), (v2, q3)]) = Pr ++ [35] ++ hxs (fun k => (k * v + v2) % 16) 0 16 ++ [59] := by
                      unfold tbPr
                      simp only [List.append_assoc, List.cons_append, List.nil_append]
                      rfl
                    rw [e9]
                    exact f2
                  · rw [f4.2 0 44 _ (by omega)]; exact k44
                  · rw [f4.1 0 45 _ (by omega)]; exact k45
                  · rw [f4.2 0 44 _ (by omega)]; exact e3
                  · rw [f4.1 0 45 _ (by omega)]; exact e4
                  · exact ((((a6.trans (b3.imp (fun g r k h => by unfold XTb; omega))).trans (c7.imp (fun g r k h => by unfold XTb; rw [if_neg (by omega)] at h; omega))).trans (d3.imp (fun g r k h => by unfold XTb; omega))).trans (e7.imp (fun g r k h => by unfold XTb; rw [if_pos rfl] at h; omega))).trans (f4.imp (fun g r k h => by unfold XTb; omega))
                  · have hl : (tbPr ([], [(v, q1), (v2, q3)])).length = 18 := by
                      unfold tbPr
                      rw [List.length_append, List.length_cons, hxs_len, List.length_singleton]
                    rw [List.length_append, hl, List.length_cons]
                    omega
                · have e9 : pTake 59 ((g, q4) :: r2) = .error ((g, q4) :: r2) := by rw [pTake, if_neg hg]
                  rw [e9]
                  exact fun G => e2.rejH (by omega) (zw_z (by unfold wants; omega)) (zx_6 (e2.tk _ (List.mem_cons_self ..)).1 e2.2.2.1 (Or.inr ⟨rfl, hg⟩))
          · have e1 : pTake 43 ((d, q2) :: r1) = .error ((d, q2) :: r1) := by rw [pTake, if_neg hd]
            rw [e1]
            exact fun G => c2.rejH (by omega) (zw_z (by unfold wants; omega)) (zx_6 (c2.tk _ (List.mem_cons_self ..)).1 c2.2.2.1 (Or.inl ⟨rfl, hd⟩))
    · rw [if_neg hc, rbind_a]
      refine (zHex (F := F) ht 16 0 3 ((c, q) :: ts) _ T2 s2 rfl (Or.inl ⟨rfl, rfl, hc⟩) a2 a3 a4).bind (fun l r s3 hl hK => ?_)
      obtain ⟨T3, b1, b2, b3, b4⟩ := hK
      obtain ⟨p1, p2, p3⟩ := pHex_lt 16 _ _ _ hl
      show zq 0 R F n f r s3 (rbind (pTake 59 r) (fun _ r' => .ok (((l, []) : Tb), r'))) _
      match r, b1, p3 with
      | [], b1, p3 => exact fun G => b1.nil (by omega)
      | (d, q2) :: r, b1, p3 =>
        rw [List.length_cons, List.length_cons] at p3
        by_cases hd : d = 59
        · subst hd
          obtain ⟨s4, T4, c1, c2, c3⟩ := b1.semi4 (F := F) b2
          have hE : ∀ k v, l[k]? = some v → tbE (l, []) (0 + k) = v := fun k v hk => by
            show l.getD (0 + k) 0 = v
            rw [Nat.zero_add, List.getD_eq_getElem?_getD, hk]
            rfl
          refine zq.pre c1 ⟨s4, ⟨T4, ?_, ?_, ⟨fun k hk => ?_, Or.inl ⟨rfl, ?_⟩⟩, ?_, ?_⟩, zgo.refl⟩
          · have e9 : Pr ++ tbPr (l, []) = Pr ++ [35] ++ l.map hxC ++ [59] := by
              rw [map_hxs l (tbE (l, [])) 0 hE, p1]
              unfold tbPr
              simp only [List.append_assoc, List.cons_append, List.nil_append]
            rw [e9]
            exact c2
          · rw [c3.1 0 38 14 (by omega), b4.1 0 38 14 (by unfold XDg; omega)]; exact a3
          · have hk' : k < l.length := by omega
            have hx := b3 k l[k] (List.getElem?_eq_getElem hk')
            have hy := hE k l[k] (List.getElem?_eq_getElem hk')
            rw [Nat.zero_add] at hy
            rw [hy, c3.1 0 43 _ (by omega)]
            exact hx
          · rw [c3.1 0 45 _ (by omega), b4.1 0 45 _ (by unfold XDg; omega)]; exact a5
          · exact (a6.trans (b4.imp (fun g r k h => by unfold XDg at h; unfold XTb; omega))).trans (c3.imp (fun g r k h => by unfold XTb; omega))
          · have hl : (tbPr (l, [])).length = 18 := by
              unfold tbPr
              rw [List.length_append, List.length_cons, hxs_len, List.length_singleton]
            rw [List.length_append, hl, List.length_cons]
            omega
        · have e9 : pTake 59 ((d, q2) :: r) = .error ((d, q2) :: r) := by rw [pTake, if_neg hd]
          rw [e9]
          exact fun G => b1.rejH (by omega) (zw_z (by unfold wants; omega)) (zx_4 (b1.tk _ (List.mem_cons_self ..)).1 b1.2.2.1 b2 hd)
end
