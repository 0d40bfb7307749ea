/-! PURE: the reference reads loops and steps -/
section
variable {ph R F n : Nat} {f : Nat → Nat} {ts r r2 : List Tok} {s s' s1 s2 s0 : ax_σ} {md md' c p m sec : Nat} {Tot Pr : List Nat} {Ops Ops' : List Op} {Trs : List (Nat × Nat)} {Ths : List Th} {S : List Nat}
theorem ZS.loop1 (h : ZS R n f ((c, p) :: ts) Tot Pr Ths sec s) (hc : c = 105 ∨ c = 106) (hS : (stk Ths).length < 2) : ∃ s2 Pr', zgo ph R F n f ((c, p) :: ts) s ts s2 ∧ ZV R n f 11 ts Tot Pr' (Ths.flatMap the) (Ths.flatMap thn) Ths (Ths.length :: stk Ths) sec s2 ∧ s2.1 0 47 Ths.length = nI 2 ∧ s2.1 0 48 Ths.length = nI p ∧ s2.1 0 49 Ths.length = nI (c - 105) := by
  obtain ⟨h1, h2, h3, h4, ⟨h5, h6⟩, h7⟩ := h
  rw [List.length_cons] at h5 h6
  have h20 : s.1 0 38 20 = nI (stk Ths).length := h3.2.2.2.1
  have f0 : frm (fun g r k => g = 0 ∧ ((r = 46 ∧ k = (stk Ths).length) ∨ (r = 38 ∧ k = 20))) s (ax_wI (ax_wI s 0 46 (stk Ths).length (nI Ths.length)) 0 38 20 (nI ((stk Ths).length + 1))) := by
    refine (frm.refl.wI _ _ _ _ ?_).wI _ _ _ _ ?_ <;> omega
  obtain ⟨s1, a1, a2, a3, a4, a5, a6⟩ := z_begin (s := ax_wI (ax_wI s 0 46 (stk Ths).length (nI Ths.length)) 0 38 20 (nI ((stk Ths).length + 1))) (m := Ths.length) (c := (Ths.flatMap the).length) (k := 2) (p := p) (by simp (disch := omega) only [wI_1, wI_2, wL_1, wL_2, true_and, and_true, and_self, false_and, and_false, if_true, if_false, if_pos, if_neg]; exact h4) (by omega) (by simp (disch := omega) only [wI_1, wI_2, wL_1, wL_2, true_and, and_true, and_self, false_and, and_false, if_true, if_false, if_pos, if_neg]; exact h1.2.2.2.2.1.1)
  have em : Ths.length + 1 - 1 = Ths.length := by omega
  have f1 : frm (fun g r k => g = 0 ∧ (((r = 47 ∨ r = 48 ∨ r = 54 ∨ r = 49) ∧ k = Ths.length) ∨ (r = 46 ∧ k = (stk Ths).length) ∨ (r = 38 ∧ (k = 20 ∨ k = 22 ∨ k = 7)))) s (ax_wI (ax_wI s1 0 49 Ths.length (nI (c - 105))) 0 38 7 (nI 11)) := (((f0.imp (fun g r k h => by omega)).trans (a6.imp (fun g r k h => by omega))).wI _ _ _ _ (by omega)).wI _ _ _ _ (by omega)
  have hl := zl (c := c) (by omega)
  rw [if_pos hc] at hl
  have hD : zdis F 10 c p s = some (nI 1, ax_wI (ax_wI s1 0 49 Ths.length (nI (c - 105))) 0 38 7 (nI 11)) := by
    have h7' := h1.2.2.1
    unfold zdis f_Z_acceptsThing
    simp (disch := omega) only [ax_let, Option.bind_some, cond_true, cond_false, if_pos, if_neg, if_true, if_false, eq_self, nI_add, nI_ltI, nI_leI, nI_eq, nI_clamp, pu_in, c_0, c_1, c_2, c_3, c_4, c_5, c_6, c_7, c_8, c_9, c_10, c_11, c_12, c_15, c_16, c_17, c_32, c_35, c_36, c_38, c_40, c_41, c_42, c_43, c_44, c_45, c_48, c_57, c_58, c_59, c_60, c_61, c_62, c_64, c_65, c_69, c_75, c_83, c_91, c_93, c_94, c_97, c_105, c_106, c_110, c_119, c_123, c_124, c_125, c_126, c_240, c_256, c_400, c_m, nI_m1, nM_i, lN_add, lN_mul, lN_i, nI_l, lN_eq, lgN_le, lgN_lt, lgN_ge, lgN_gt, nI_sub, nI_mul, d_0, d_1, c_13, c_14, c_18, c_19, c_20, c_21, c_22, c_23, c_24, c_25, c_26, c_27, c_28, c_29, c_30, c_31, c_33, c_34, c_37, c_39, c_46, c_47, c_49, c_50, c_51, c_52, c_53, c_54, c_55, c_56, c_63, c_66, c_67, c_68, c_70, c_71, c_72, c_73, c_74, c_76, c_77, c_78, c_79, c_80, c_81, c_82, c_84, c_85, c_86, c_87, c_88, c_89, c_90, c_92, c_95, c_96, c_98, c_99, c_100, c_101, c_102, c_103, c_104, c_107, c_108, c_109, c_111, c_112, c_113, c_114, c_115, c_116, c_117, c_118, c_120, c_121, c_122, c_127, c_280, d_2, d_3, d_4, d_8, d_9, d_10, d_15, d_16, d_32, d_48, d_62, d_63, d_64, wI_1, wI_2, wL_1, wL_2, true_and, and_true, and_self, false_and, and_false, if_true, if_false, h7', hl, h20, h4, a1, a5, em]
  obtain ⟨s2, b1, b2, b3⟩ := h1.stepT (ph := ph) (md' := 11) (by omega) (by omega) (by rcases hc with rfl | rfl <;> rfl) hD (f1.imp (fun g r k h => by unfold XZt; omega)) (by simp (disch := omega) only [wI_1, wI_2, wL_1, wL_2, true_and, and_true, and_self, false_and, and_false, if_true, if_false, if_pos, if_neg])
  have hG : ZG Ths (Ths.length :: stk Ths) sec (ax_wI (ax_wI s1 0 49 Ths.length (nI (c - 105))) 0 38 7 (nI 11)) := by
    obtain ⟨g1, g2, g3, g4⟩ := h3
    refine ⟨fun i t hi => (g1 i t hi).keep f1 (fun r a b _ => by have := get_lt hi; omega), fun i t k hi hk hh hl => ?_, ⟨(f1.1 0 38 19 (by omega)).trans g3.1, (f1.1 0 38 23 (by omega)).trans g3.2⟩, ?_, ?_, fun j k hj => ?_⟩
    · have hi' := get_lt hi
      obtain ⟨b1, b2⟩ := g2 i t k hi hk hh hl
      exact ⟨(f1.1 0 50 i (by omega)).trans b1, (f1.1 0 50 k (by omega)).trans b2⟩
    · simp (disch := omega) only [wI_1, wI_2, wL_1, wL_2, true_and, and_true, and_self, false_and, and_false, if_true, if_false, if_pos, if_neg]
      rw [a6.1 0 38 20 (by omega)]
      simp (disch := omega) only [wI_1, wI_2, wL_1, wL_2, true_and, and_true, and_self, false_and, and_false, if_true, if_false, if_pos, if_neg, List.length_cons]
    · rw [List.length_cons]; omega
    · rw [List.reverse_cons] at hj
      rcases getc hj with ⟨j1, j2⟩ | ⟨j1, j2⟩
      · rw [List.length_reverse] at j1
        rw [f1.1 0 46 j (by omega)]
        exact g4.2.2 j k j2
      · rw [List.length_reverse] at j1
        subst j1
        subst j2
        refine ⟨?_, by omega⟩
        simp (disch := omega) only [wI_1, wI_2, wL_1, wL_2, true_and, and_true, and_self, false_and, and_false, if_true, if_false, if_pos, if_neg]
        rw [a6.1 0 46 _ (by omega)]
        simp (disch := omega) only [wI_1, wI_2, wL_1, wL_2, true_and, and_true, and_self, false_and, and_false, if_true, if_false, if_pos, if_neg]
  refine ⟨s2, _, b1, ⟨b2, (h2.keep f1 (fun r k h => by omega)).keep b3 (fun r k h => by unfold XP; omega), hG.keep b3 (fun r k h => by unfold XP; omega), ?_, by omega, by omega⟩, ?_, ?_, ?_⟩
  · rw [b3.1 0 38 22 (by unfold XP; omega)]; simp (disch := omega) only [wI_1, wI_2, wL_1, wL_2, true_and, and_true, and_self, false_and, and_false, if_true, if_false, if_pos, if_neg]; exact a5
  · rw [b3.1 0 47 _ (by unfold XP; omega)]; simp (disch := omega) only [wI_1, wI_2, wL_1, wL_2, true_and, and_true, and_self, false_and, and_false, if_true, if_false, if_pos, if_neg]; exact a2
  · rw [b3.1 0 48 _ (by unfold XP; omega)]; simp (disch := omega) only [wI_1, wI_2, wL_1, wL_2, true_and, and_true, and_self, false_and, and_false, if_true, if_false, if_pos, if_neg]; exact a3
  · rw [b3.1 0 49 _ (by unfold XP; omega)]; simp (disch := omega) only [wI_1, wI_2, wL_1, wL_2, true_and, and_true, and_self, false_and, and_false, if_true, if_false, if_pos, if_neg]
theorem zx_11 {c p : Nat} (hc : c < 128) (h7 : s.1 0 38 7 = nI 11) : ∃ s1, zdis F 11 c p s = some (nI 0, s1) ∧ frm XZt s s1 := by
  refine ⟨s, ?_, frm.refl⟩
  unfold zdis f_Z_acceptsThing
  simp (disch := omega) only [ax_let, Option.bind_some, cond_true, cond_false, if_pos, if_neg, if_true, if_false, eq_self, nI_add, nI_ltI, nI_leI, nI_eq, nI_clamp, pu_in, c_0, c_1, c_2, c_3, c_4, c_5, c_6, c_7, c_8, c_9, c_10, c_11, c_12, c_15, c_16, c_17, c_32, c_35, c_36, c_38, c_40, c_41, c_42, c_43, c_44, c_45, c_48, c_57, c_58, c_59, c_60, c_61, c_62, c_64, c_65, c_69, c_75, c_83, c_91, c_93, c_94, c_97, c_105, c_106, c_110, c_119, c_123, c_124, c_125, c_126, c_240, c_256, c_400, c_m, nI_m1, nM_i, lN_add, lN_mul, lN_i, nI_l, lN_eq, lgN_le, lgN_lt, lgN_ge, lgN_gt, nI_sub, nI_mul, d_0, d_1, c_13, c_14, c_18, c_19, c_20, c_21, c_22, c_23, c_24, c_25, c_26, c_27, c_28, c_29, c_30, c_31, c_33, c_34, c_37, c_39, c_46, c_47, c_49, c_50, c_51, c_52, c_53, c_54, c_55, c_56, c_63, c_66, c_67, c_68, c_70, c_71, c_72, c_73, c_74, c_76, c_77, c_78, c_79, c_80, c_81, c_82, c_84, c_85, c_86, c_87, c_88, c_89, c_90, c_92, c_95, c_96, c_98, c_99, c_100, c_101, c_102, c_103, c_104, c_107, c_108, c_109, c_111, c_112, c_113, c_114, c_115, c_116, c_117, c_118, c_120, c_121, c_122, c_127, c_280, d_2, d_3, d_4, d_8, d_9, d_10, d_15, d_16, d_32, d_48, d_62, d_63, d_64, h7]
/-- [ behind a loop's number -/
theorem ZV.brk12 (h : ZV R n f 12 ((91, p) :: ts) Tot Pr Ops Trs Ths S sec s) : ∃ s2 Pr', zgo ph R F n f ((91, p) :: ts) s ts s2 ∧ ZV R n f 10 ts Tot Pr' Ops Trs Ths S sec s2 ∧ frm (fun g r k => g = 0 ∧ (r = 67 ∨ (r = 38 ∧ (k = 7 ∨ k = 51)))) s s2 := by
  obtain ⟨h1, h2, h3, h4, h5, h6⟩ := h
  rw [List.length_cons] at h5 h6
  have f1 : frm (fun g r k => g = 0 ∧ r = 38 ∧ k = 7) s (ax_wI s 0 38 7 (nI 10)) := frm.refl.wI _ _ _ _ ⟨rfl, rfl, rfl⟩
  have hD : zdis F 12 91 p s = some (nI 1, ax_wI s 0 38 7 (nI 10)) := by
    have h7' := h1.2.2.1
    unfold zdis f_Z_acceptsThing
    simp (disch := omega) only [ax_let, Option.bind_some, cond_true, cond_false, if_pos, if_neg, if_true, if_false, eq_self, nI_add, nI_ltI, nI_leI, nI_eq, nI_clamp, pu_in, c_0, c_1, c_2, c_3, c_4, c_5, c_6, c_7, c_8, c_9, c_10, c_11, c_12, c_15, c_16, c_17, c_32, c_35, c_36, c_38, c_40, c_41, c_42, c_43, c_44, c_45, c_48, c_57, c_58, c_59, c_60, c_61, c_62, c_64, c_65, c_69, c_75, c_83, c_91, c_93, c_94, c_97, c_105, c_106, c_110, c_119, c_123, c_124, c_125, c_126, c_240, c_256, c_400, c_m, nI_m1, nM_i, lN_add, lN_mul, lN_i, nI_l, lN_eq, lgN_le, lgN_lt, lgN_ge, lgN_gt, nI_sub, nI_mul, d_0, d_1, c_13, c_14, c_18, c_19, c_20, c_21, c_22, c_23, c_24, c_25, c_26, c_27, c_28, c_29, c_30, c_31, c_33, c_34, c_37, c_39, c_46, c_47, c_49, c_50, c_51, c_52, c_53, c_54, c_55, c_56, c_63, c_66, c_67, c_68, c_70, c_71, c_72, c_73, c_74, c_76, c_77, c_78, c_79, c_80, c_81, c_82, c_84, c_85, c_86, c_87, c_88, c_89, c_90, c_92, c_95, c_96, c_98, c_99, c_100, c_101, c_102, c_103, c_104, c_107, c_108, c_109, c_111, c_112, c_113, c_114, c_115, c_116, c_117, c_118, c_120, c_121, c_122, c_127, c_280, d_2, d_3, d_4, d_8, d_9, d_10, d_15, d_16, d_32, d_48, d_62, d_63, d_64, h7']
  obtain ⟨s2, b1, b2, b3⟩ := h1.stepT (ph := ph) (md' := 10) (by omega) (by omega) rfl hD (f1.imp (fun g r k h => by unfold XZt; omega)) (by simp (disch := omega) only [wI_1, wI_2, wL_1, wL_2, true_and, and_true, and_self, false_and, and_false, if_true, if_false, if_pos, if_neg])
  refine ⟨s2, _, b1, ⟨b2, (h2.keep f1 (fun r k h => by omega)).keep b3 (fun r k h => by unfold XP; omega), (h3.keep f1 (fun r k h => by omega)).keep b3 (fun r k h => by unfold XP; omega), ?_, by omega, by omega⟩, (f1.imp (fun g r k h => by omega)).trans (b3.imp (fun g r k h => by unfold XP at h; omega))⟩
  rw [b3.1 0 38 22 (by unfold XP; omega)]; simp (disch := omega) only [wI_1, wI_2, wL_1, wL_2, true_and, and_true, and_self, false_and, and_false, if_true, if_false, if_pos, if_neg]; exact h4
theorem ZV.ofNum {s' : ax_σ} {Pr' : List Nat} {md' : Nat} (h : ZV R n f md ts Tot Pr Ops Trs Ths S sec s) (hE : ZE R n f md' r Tot Pr' Ops (Ops.flatMap opT) [] s') (hl : r.length ≤ ts.length) (hf : frm (XNt Ths.length) s s') : ZV R n f md' r Tot Pr' Ops Trs Ths S sec s' := by
  obtain ⟨h1, h2, h3, h4, h5, h6⟩ := h
  exact ⟨hE, h2.keep hf (fun r k h => by unfold XNt; omega), h3.keep hf (fun r k h => by unfold XNt; omega), (hf.1 0 38 22 (by unfold XNt; omega)).trans h4, by omega, by omega⟩
/-- a loop's beginning -/
theorem ZS.opn (hF : 241 ≤ F) (h : ZS R n f ((c, p) :: ts) Tot Pr Ths sec s) (hc : c = 105 ∨ c = 106) (hS : (stk Ths).length < 2) : zq ph R F n f ((c, p) :: ts) s (rbind (pNumR ts) (fun vq r => rbind (pTake 91 r) (fun _ r' => .ok (((2, p, c - 105, vq.1, vq.2, [], []) : Th), r')))) (fun t r s' => ∃ Pr', ZS R n f r Tot Pr' (Ths ++ [t]) sec s') := by
  obtain ⟨s2, P2, a1, a2, a3, a4, a5⟩ := h.loop1 (ph := ph) (F := F) hc hS
  refine zq.pre a1 ?_
  have hm : Ths.length < 240 := by have := a2.2.2.2.2.1; omega
  match hp : pNumR ts with
  | .error r' =>
    obtain ⟨hp', e1⟩ := pNumR_er hp
    subst e1
    match r', a2, hp' with
    | [], a2, hp' => exact fun G => a2.1.nil (by omega)
    | (c, p) :: r', a2, hp' =>
      exact fun G => a2.1.rejT (by omega) (fun e => pNum_none hp' e.2) (zx_11 (a2.1.tk _ (List.mem_cons_self ..)).1 a2.1.2.2.1)
  | .ok ((v, q), r') =>
    have hp' := pNumR_ok hp
    obtain ⟨s3, b1, b2, b3, b4, b5, b6⟩ := a2.1.numT (ph := ph) hF (Or.inl rfl) a2.2.2.2.1 hm a3 hp'
    have b7 := a2.ofNum b2 (Nat.le_of_lt (pNum_len hp')) b6
    refine zq.pre b1 ?_
    show zq ph R F n f r' s3 (rbind (pTake 91 r') (fun _ r'' => .ok (((2, p, c - 105, v, q, [], []) : Th), r''))) _
    match r', b7 with
    | [], b7 => exact fun G => b7.1.nil (by show 12 < 60; omega)
    | (d, p2) :: r', b7 =>
      have b7 : ZV R n f 12 ((d, p2) :: r') _ _ _ _ _ _ _ s3 := b7
      by_cases hd : d = 91
      · subst hd
        obtain ⟨s4, P4, c1, c2, c3⟩ := b7.brk12 (ph := ph) (F := F)
        refine zq.pre c1 ⟨s4, ⟨P4, ?_⟩, zgo.refl⟩
        refine ZV.done (t := (2, p, c - 105, v, q, [], [])) (by show ZV R n f 10 r' Tot P4 (Ths.flatMap the ++ []) (Ths.flatMap thn ++ []) Ths (Ths.length :: stk Ths) sec s4; rw [List.append_nil, List.append_nil]; exact c2) h.2.2.2.2.2 (by show (2 : Nat) ≠ 3; omega) ⟨?_, ?_, fun _ => ?_, fun hk => absurd hk (by show ¬ (2 = 9 ∨ 2 = 10); omega), fun _ => ⟨?_, ?_⟩, fun hk => absurd hk (by show ¬ (2 = 1 ∨ 2 = 4 ∨ 2 = 5 ∨ 2 = 6); omega), fun hk => absurd hk (by show ¬ 2 = 12; omega)⟩ rfl
        · rw [c3.1 0 47 _ (by omega)]; exact b5
        · rw [c3.1 0 48 _ (by omega), b6.1 0 48 _ (by unfold XNt; omega)]; exact a4
        · rw [c3.1 0 49 _ (by omega), b6.1 0 49 _ (by unfold XNt; omega)]; exact a5
        · rw [c3.2 0 52 _ (by omega)]; exact b3
        · rw [c3.1 0 53 _ (by omega)]; exact b4
      · have e1 : pTake 91 ((d, p2) :: r') = .error ((d, p2) :: r') := by rw [pTake, if_neg hd]
        rw [e1]
        exact fun G => b7.1.rejT (by omega) (zw_z (by unfold wants; omega)) (zx_12 (b7.1.tk _ (List.mem_cons_self ..)).1 b7.1.2.2.1 hd)
/-- a loop's end -/
theorem ZS.close {k : Nat} {S' : List Nat} (h : ZS R n f ((93, p) :: ts) Tot Pr Ths sec s) (hS : stk Ths = k :: S') : zq ph R F n f ((93, p) :: ts) s (.ok (((3, p, 0, 0, 0, [], []) : Th), ts)) (fun t r s' => ∃ Pr', ZS R n f r Tot Pr' (Ths ++ [t]) sec s') := by
  obtain ⟨h1, h2, h3, h4, ⟨h5, h6⟩, h7⟩ := h
  rw [List.length_cons] at h5 h6
  obtain ⟨g1, g2, g3, ⟨g4, g5, g6⟩⟩ := h3
  rw [hS] at g4 g5 g6
  rw [List.length_cons] at g4 g5
  have hk46 : s.1 0 46 S'.length = nI k ∧ k < 240 := by
    refine g6 S'.length k ?_
    rw [List.reverse_cons, List.getElem?_append_right (by rw [List.length_reverse]; exact Nat.le_refl _), List.length_reverse, Nat.sub_self]
    rfl
  have hkW := h7.1 k (by rw [hS]; exact List.mem_cons_self ..)
  have f0 : frm (fun g r j => g = 0 ∧ ((r = 50 ∧ (j = k ∨ j = Ths.length)) ∨ (r = 38 ∧ j = 20))) s (ax_wI (ax_wI (ax_wI s 0 38 20 (nI S'.length)) 0 50 k (nI Ths.length)) 0 50 Ths.length (nI k)) := by
    refine ((frm.refl.wI _ _ _ _ ?_).wI _ _ _ _ ?_).wI _ _ _ _ ?_ <;> omega
  obtain ⟨s1, a1, a2, a3, a4, a5, a6⟩ := z_begin (s := ax_wI (ax_wI (ax_wI s 0 38 20 (nI S'.length)) 0 50 k (nI Ths.length)) 0 50 Ths.length (nI k)) (m := Ths.length) (c := (Ths.flatMap the).length) (k := 3) (p := p) (by simp (disch := omega) only [wI_1, wI_2, wL_1, wL_2, true_and, and_true, and_self, false_and, and_false, if_true, if_false, if_pos, if_neg]; exact h4) (by omega) (by simp (disch := omega) only [wI_1, wI_2, wL_1, wL_2, true_and, and_true, and_self, false_and, and_false, if_true, if_false, if_pos, if_neg]; exact h1.2.2.2.2.1.1)
  have es : S'.length + 1 - 1 = S'.length := by omega
  have f1 : frm (fun g r j => g = 0 ∧ (((r = 47 ∨ r = 48 ∨ r = 54) ∧ j = Ths.length) ∨ (r = 50 ∧ (j = k ∨ j = Ths.length)) ∨ (r = 38 ∧ (j = 20 ∨ j = 22)))) s s1 := (f0.imp (fun g r k h => by omega)).trans (a6.imp (fun g r k h => by omega))
  have hl : f_Z_isLetter (nI 93) = some (nI 0) := rfl
  have hD : zdis F 10 93 p s = some (nI 1, s1) := by
    have h7' := h1.2.2.1
    have k46 := hk46.1
    have k240 := hk46.2
    unfold zdis f_Z_acceptsThing
    simp (disch := omega) only [ax_let, Option.bind_some, cond_true, cond_false, if_pos, if_neg, if_true, if_false, eq_self, nI_add, nI_ltI, nI_leI, nI_eq, nI_clamp, pu_in, c_0, c_1, c_2, c_3, c_4, c_5, c_6, c_7, c_8, c_9, c_10, c_11, c_12, c_15, c_16, c_17, c_32, c_35, c_36, c_38, c_40, c_41, c_42, c_43, c_44, c_45, c_48, c_57, c_58, c_59, c_60, c_61, c_62, c_64, c_65, c_69, c_75, c_83, c_91, c_93, c_94, c_97, c_105, c_106, c_110, c_119, c_123, c_124, c_125, c_126, c_240, c_256, c_400, c_m, nI_m1, nM_i, lN_add, lN_mul, lN_i, nI_l, lN_eq, lgN_le, lgN_lt, lgN_ge, lgN_gt, nI_sub, nI_mul, d_0, d_1, c_13, c_14, c_18, c_19, c_20, c_21, c_22, c_23, c_24, c_25, c_26, c_27, c_28, c_29, c_30, c_31, c_33, c_34, c_37, c_39, c_46, c_47, c_49, c_50, c_51, c_52, c_53, c_54, c_55, c_56, c_63, c_66, c_67, c_68, c_70, c_71, c_72, c_73, c_74, c_76, c_77, c_78, c_79, c_80, c_81, c_82, c_84, c_85, c_86, c_87, c_88, c_89, c_90, c_92, c_95, c_96, c_98, c_99, c_100, c_101, c_102, c_103, c_104, c_107, c_108, c_109, c_111, c_112, c_113, c_114, c_115, c_116, c_117, c_118, c_120, c_121, c_122, c_127, c_280, d_2, d_3, d_4, d_8, d_9, d_10, d_15, d_16, d_32, d_48, d_62, d_63, d_64, wI_1, wI_2, wL_1, wL_2, true_and, and_true, and_self, false_and, and_false, if_true, if_false, h7', hl, g4, es, k46, h4, a1]
  obtain ⟨s2, b1, b2, b3⟩ := h1.stepT (ph := ph) (md' := 10) (by omega) (by omega) rfl hD (f1.imp (fun g r k h => by unfold XZt; omega)) ((f1.1 0 38 7 (by omega)).trans h1.2.2.1)
  have e1 : (Ths ++ [((3, p, 0, 0, 0, [], []) : Th)]).flatMap the = Ths.flatMap the := by rw [List.flatMap_append, List.flatMap_cons, List.flatMap_nil, List.append_nil]; exact List.append_nil _
  have e2 : (Ths ++ [((3, p, 0, 0, 0, [], []) : Th)]).flatMap thn = Ths.flatMap thn := by rw [List.flatMap_append, List.flatMap_cons, List.flatMap_nil, List.append_nil]; exact List.append_nil _
  have f12 : frm (fun g r j => g = 0 ∧ (((r = 47 ∨ r = 48 ∨ r = 54) ∧ j = Ths.length) ∨ (r = 50 ∧ (j = k ∨ j = Ths.length)) ∨ (r = 38 ∧ (j = 20 ∨ j = 22 ∨ j = 51)) ∨ r = 67)) s s2 := (f1.imp (fun g r k h => by omega)).trans (b3.imp (fun g r k h => by unfold XP at h; omega))
  have fb : frm (fun g r j => g = 0 ∧ (r = 67 ∨ (r = 38 ∧ j = 51))) s1 s2 := b3.imp (fun g r k h => by unfold XP at h; omega)
  have hne : ∀ i t, Ths[i]? = some t → thk t ≠ 2 → i ≠ k := fun i t hi hk e => by
    subst e
    exact hk (hkW.2 t hi)
  have h50m : s2.1 0 50 Ths.length = nI k := by
    rw [fb.1 0 50 _ (by omega), a6.1 0 50 _ (by omega)]; simp (disch := omega) only [wI_1, wI_2, wL_1, wL_2, true_and, and_true, and_self, false_and, and_false, if_true, if_false, if_pos, if_neg]
  have h50k : s2.1 0 50 k = nI Ths.length := by
    have := hkW.1
    rw [fb.1 0 50 _ (by omega), a6.1 0 50 _ (by omega)]; simp (disch := omega) only [wI_1, wI_2, wL_1, wL_2, true_and, and_true, and_self, false_and, and_false, if_true, if_false, if_pos, if_neg]
  refine ⟨s2, ⟨_, ⟨by rw [e1]; exact b2, by rw [e2]; exact h2.keep f12 (fun r k h => by omega), ⟨fun i t hi => ?_, fun i t k' hi hk hh hl => ?_, ⟨(f12.1 0 38 19 (by omega)).trans g3.1, (f12.1 0 38 23 (by omega)).trans g3.2⟩, ?_, ?_, fun j k' hj => ?_⟩, ?_, ⟨by rw [List.length_append, List.length_singleton]; omega, by rw [e2]; omega⟩, h7.add⟩⟩, b1⟩
  · rcases getc hi with ⟨i1, i2⟩ | ⟨i1, i2⟩
    · obtain ⟨o1, o2, o3⟩ := off_app (Ths := Ths) (t := ((3, p, 0, 0, 0, [], []) : Th)) (Nat.le_of_lt i1)
      rw [o1, o2]
      refine (g1 i t i2).keep f12 (fun r a b hc => ?_)
      intro hQ
      have hr : r = 50 ∧ i = k := by omega
      exact hne i t i2 (by have := hc hr.1; omega) hr.2
    · subst i1
      subst i2
      refine ⟨?_, ?_, fun hk => absurd rfl hk.2, fun hk => absurd hk (by show ¬ (3 = 9 ∨ 3 = 10); omega), fun hk => absurd hk (by show ¬ (3 = 2 ∨ 3 = 7 ∨ 3 = 8 ∨ 3 = 11); omega), fun hk => absurd hk (by show ¬ (3 = 1 ∨ 3 = 4 ∨ 3 = 5 ∨ 3 = 6); omega), fun hk => absurd hk (by show ¬ 3 = 12; omega)⟩
      · rw [fb.1 0 47 _ (by omega)]; exact a2
      · rw [fb.1 0 48 _ (by omega)]; exact a3
  · rcases getc hi with ⟨i1, i2⟩ | ⟨i1, i2⟩
    · rw [(off_app (Ths := Ths) (t := ((3, p, 0, 0, 0, [], []) : Th)) (Nat.le_of_lt i1)).2.2] at hh
      obtain ⟨c1, c2⟩ := g2 i t k' i2 hk hh hl
      have n1 := hne i t i2 (by omega)
      have n2 : k' ≠ k := fun e => by
        subst e
        exact h7.2.2 i t k' i2 hk hh (by rw [hS]; exact List.mem_cons_self ..)
      exact ⟨(f12.1 0 50 i (by omega)).trans c1, (f12.1 0 50 k' (by omega)).trans c2⟩
    · subst i1
      rw [(off_app (Ths := Ths) (t := ((3, p, 0, 0, 0, [], []) : Th)) (Nat.le_refl _)).2.2, List.take_length, hS] at hh
      injection hh with hh
      subst hh
      exact ⟨h50m, h50k⟩
  · rw [stk_s, hS]
    show s2.1 0 38 20 = nI S'.length
    rw [fb.1 0 38 20 (by omega), a6.1 0 38 20 (by omega)]; simp (disch := omega) only [wI_1, wI_2, wL_1, wL_2, true_and, and_true, and_self, false_and, and_false, if_true, if_false, if_pos, if_neg]
  · rw [stk_s, hS]
    show S'.length ≤ 2
    omega
  · rw [stk_s, hS] at hj
    have hj : S'.reverse[j]? = some k' := hj
    rw [f12.1 0 46 j (by omega)]
    refine g6 j k' ?_
    rw [List.reverse_cons, List.getElem?_append_left (get_lt hj)]
    exact hj
  · rw [fb.1 0 38 22 (by omega), List.length_append, List.length_singleton]; exact a5
end
