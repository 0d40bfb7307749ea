/-! PURE: the reference reads the terms of an index -/
section
variable {ph R F n : Nat} {f : Nat → Nat} {ts r r2 : List Tok} {s s' s1 s2 : ax_σ} {md md' c p : Nat} {Tot Pr : List Nat} {Ops Ops' : List Op} {Tms Tms' : List Tm} {Fs Fs' : List Nat}
/-- what the terms of an index change -/
def XI (g r k : Nat) : Prop := g = 0 ∧ ((63 ≤ r ∧ r ≤ 65) ∨ (r = 38 ∧ (k = 7 ∨ k = 42)))
def XIp (g r k : Nat) : Prop := g = 0 ∧ ((63 ≤ r ∧ r ≤ 65) ∨ r = 67 ∨ (r = 38 ∧ ((7 ≤ k ∧ k ≤ 10) ∨ k = 42 ∨ k = 51)))
theorem XI.m (h : frm XI s s') : frm XZm s s' := h.imp (fun g r k h => by unfold XI at h; unfold XZm; omega)
theorem XI.pp (h : frm XI s s') : frm XIp s s' := h.imp (fun g r k h => by unfold XI at h; unfold XIp; omega)
theorem XIp.ofP (h : frm XP s s') : frm XIp s s' := h.imp (fun g r k h => by unfold XP at h; unfold XIp; omega)
theorem XIp.e (h : frm XIp s s') : frm XZe s s' := h.imp (fun g r k h => by unfold XIp at h; unfold XZe; omega)
theorem ze_term {v l : Nat} {q : Int32} {p : Nat} (h : ZM Tms s) (hl : Tms.length < 240) (hq : q = if l = 0 then nM else nI (l - 1)) : ∃ s', f_Z_addTerm (lN v) q (nI p) s = some s' ∧ ZM (Tms ++ [(v, l, p)]) s' ∧ frm (fun g r k => g = 0 ∧ ((63 ≤ r ∧ r ≤ 65) ∨ (r = 38 ∧ k = 42))) s s' := by
  obtain ⟨h1, h2⟩ := h
  have ff : frm (fun g r k => g = 0 ∧ ((63 ≤ r ∧ r ≤ 65 ∧ k = Tms.length) ∨ (r = 38 ∧ k = 42))) s (ax_wI (ax_wI (ax_wI (ax_wL s 0 63 Tms.length (lN v)) 0 64 Tms.length q) 0 65 Tms.length (nI p)) 0 38 42 (nI (Tms.length + 1))) := by
    refine (((frm.refl.wL _ _ _ _ ?_).wI _ _ _ _ ?_).wI _ _ _ _ ?_).wI _ _ _ _ ?_ <;> omega
  refine ⟨_, ?_, ⟨?_, fun i o hi => ?_⟩, ff.imp (fun g r k h => by omega)⟩
  · unfold f_Z_addTerm
    simp (disch := omega) only [ax_let, Option.bind_some, cond_true, cond_false, if_pos, if_neg, if_true, if_false, eq_self, nI_add, nI_ltI, nI_leI, nI_eq, nI_clamp, pu_in, c_0, c_1, c_2, c_3, c_4, c_5, c_6, c_7, c_8, c_9, c_10, c_11, c_12, c_15, c_16, c_17, c_32, c_35, c_36, c_38, c_40, c_41, c_42, c_43, c_44, c_45, c_48, c_57, c_58, c_59, c_60, c_61, c_62, c_64, c_65, c_69, c_75, c_83, c_91, c_93, c_94, c_97, c_105, c_106, c_110, c_119, c_123, c_124, c_125, c_126, c_240, c_256, c_400, c_m, nI_m1, nM_i, lN_add, lN_mul, lN_i, nI_l, lN_eq, lgN_le, lgN_lt, lgN_ge, lgN_gt, nI_sub, nI_mul, d_0, d_1, c_13, c_14, c_18, c_19, c_20, c_21, c_22, c_23, c_24, c_25, c_26, c_27, c_28, c_29, c_30, c_31, c_33, c_34, c_37, c_39, c_46, c_47, c_49, c_50, c_51, c_52, c_53, c_54, c_55, c_56, c_63, c_66, c_67, c_68, c_70, c_71, c_72, c_73, c_74, c_76, c_77, c_78, c_79, c_80, c_81, c_82, c_84, c_85, c_86, c_87, c_88, c_89, c_90, c_92, c_95, c_96, c_98, c_99, c_100, c_101, c_102, c_103, c_104, c_107, c_108, c_109, c_111, c_112, c_113, c_114, c_115, c_116, c_117, c_118, c_120, c_121, c_122, c_127, c_280, d_2, d_3, d_4, d_8, d_9, d_10, d_15, d_16, d_32, d_48, d_62, d_63, d_64, wI_1, wI_2, wL_1, wL_2, true_and, and_true, and_self, false_and, and_false, if_true, if_false, h1]
  · simp (disch := omega) only [wI_1, wI_2, wL_1, wL_2, true_and, and_true, and_self, false_and, and_false, if_true, if_false, if_pos, if_neg, List.length_append, List.length_singleton]
  · rcases getc hi with ⟨i1, i2⟩ | ⟨i1, i2⟩
    · obtain ⟨a1, a2, a3⟩ := h2 i o i2
      exact ⟨(ff.2 _ _ _ (by omega)).trans a1, (ff.1 _ _ _ (by omega)).trans a2, (ff.1 _ _ _ (by omega)).trans a3⟩
    · subst i1
      subst i2
      exact ⟨by simp (disch := omega) only [wI_1, wI_2, wL_1, wL_2, true_and, and_true, and_self, false_and, and_false, if_true, if_false, if_pos, if_neg], by simp (disch := omega) only [wI_1, wI_2, wL_1, wL_2, true_and, and_true, and_self, false_and, and_false, if_true, if_false, if_pos, if_neg]; exact hq, by simp (disch := omega) only [wI_1, wI_2, wL_1, wL_2, true_and, and_true, and_self, false_and, and_false, if_true, if_false, if_pos, if_neg]⟩
/-- a letter behind a number -/
theorem ze_lett {v q0 l p : Nat} (h : ZM (Tms ++ [(v, 0, q0)]) s) (hl : 0 < l) : ZM (Tms ++ [(v, l, p)]) (ax_wI (ax_wI s 0 64 Tms.length (nI (l - 1))) 0 65 Tms.length (nI p)) := by
  obtain ⟨h1, h2⟩ := h
  rw [List.length_append, List.length_singleton] at h1
  refine ⟨by simp (disch := omega) only [wI_1, wI_2, wL_1, wL_2, true_and, and_true, and_self, false_and, and_false, if_true, if_false, if_pos, if_neg, List.length_append, List.length_singleton]; exact h1, fun i o hi => ?_⟩
  rcases getc hi with ⟨i1, i2⟩ | ⟨i1, i2⟩
  · obtain ⟨a1, a2, a3⟩ := h2 i o (by rw [List.getElem?_append_left i1]; exact i2)
    refine ⟨by simp (disch := omega) only [wI_1, wI_2, wL_1, wL_2, true_and, and_true, and_self, false_and, and_false, if_true, if_false, if_pos, if_neg]; exact a1, by simp (disch := omega) only [wI_1, wI_2, wL_1, wL_2, true_and, and_true, and_self, false_and, and_false, if_true, if_false, if_pos, if_neg]; exact a2, by simp (disch := omega) only [wI_1, wI_2, wL_1, wL_2, true_and, and_true, and_self, false_and, and_false, if_true, if_false, if_pos, if_neg]; exact a3⟩
  · subst i1
    subst i2
    obtain ⟨a1, a2, a3⟩ := h2 Tms.length (v, 0, q0) (by rw [List.getElem?_append_right (Nat.le_refl _), Nat.sub_self]; rfl)
    refine ⟨by simp (disch := omega) only [wI_1, wI_2, wL_1, wL_2, true_and, and_true, and_self, false_and, and_false, if_true, if_false, if_pos, if_neg]; exact a1, ?_, by simp (disch := omega) only [wI_1, wI_2, wL_1, wL_2, true_and, and_true, and_self, false_and, and_false, if_true, if_false, if_pos, if_neg]⟩
    simp (disch := omega) only [wI_1, wI_2, wL_1, wL_2, true_and, and_true, and_self, false_and, and_false, if_true, if_false, if_pos, if_neg]
/-- a number where mode md wants one: what endNumber does is left open -/
theorem ZE.num {v p : Nat} (hF : 241 ≤ F) (h : ZE R n f md ts Tot Pr Ops Tms Fs s) (hw : wants md) (h5 : md ≠ 5 ∧ md ≠ 7) (hp : pNum ts = some (v, p, r)) : ∃ s7, f_Z_printNumber F (lN v) (zN s 0 v p) = some s7 ∧ ZP (Pr ++ dec v) s7 ∧ ZO Ops s7 ∧ ZM Tms s7 ∧ ZF Fs s7 ∧ s7.1 0 38 7 = nI md ∧ s7.1 0 38 8 = nI 0 ∧ s7.2 0 38 9 = lN v ∧ s7.1 0 38 10 = nI p ∧ v < 10 ^ 9 ∧ p ≤ 240 ∧ (Pr ++ dec v).length + r.length ≤ 264 ∧ r.length < ts.length ∧ (∀ t ∈ r, t.1 < 128 ∧ t.2 ≤ 240) ∧ (∀ md', ¬ wants md' → PQ md' r Tot (Pr ++ dec v)) ∧ frm (fun g r k => g = 0 ∧ (r = 67 ∨ (r = 38 ∧ (k = 8 ∨ k = 9 ∨ k = 10 ∨ k = 51)))) s s7 := by
  obtain ⟨a1, a2, a3, a4, a5, a6, a7, ⟨a8, a9, a10, a11, a12⟩, a13⟩ := h
  obtain ⟨q1, q2, q3⟩ := fmt_pn hp
  have fN : frm (fun g r k => g = 0 ∧ (r = 67 ∨ (r = 38 ∧ (k = 8 ∨ k = 9 ∨ k = 10 ∨ k = 51)))) s (zN s 0 v p) := by
    unfold zN
    refine ((frm.refl.wI _ _ _ _ ?_).wL _ _ _ _ ?_).wI _ _ _ _ ?_ <;> omega
  have hPz : ZP Pr (zN s 0 v p) := a4.keep (Q := fun g r k => r = 38 ∧ (k = 8 ∨ k = 9 ∨ k = 10)) (by unfold zN; refine ((frm.refl.wI _ _ _ _ ?_).wL _ _ _ _ ?_).wI _ _ _ _ ?_ <;> omega) (fun r k h => by omega)
  obtain ⟨s7, e1, e2, e3⟩ := zp_num (F := F) hF q3 hPz (by omega)
  have ff := fN.trans (e3.imp (Q := fun g r k => g = 0 ∧ (r = 67 ∨ (r = 38 ∧ (k = 8 ∨ k = 9 ∨ k = 10 ∨ k = 51)))) (fun g r k h => by unfold XP at h; omega))
  obtain ⟨ds, d1, d2, d3, d4, d5, d6⟩ := pNum_ds hp
  have hmem : ∀ t ∈ r, t ∈ ts := by
    intro t ht
    have hsuf : ∀ (j q v : Nat) (u : List Tok), ∀ t ∈ (pDig j q v u).2, t ∈ u := by
      intro j
      induction j with
      | zero => intro q v u t ht; rw [pDig] at ht; exact ht
      | succ j ih =>
        intro q v u t ht
        match u, ht with
        | [], ht => rw [pDig_nil] at ht; exact ht
        | (c, p) :: u, ht =>
          rw [pDig] at ht
          by_cases hx : isD c = true ∧ p = q
          · rw [if_pos hx] at ht
            exact List.mem_cons_of_mem _ (ih _ _ _ _ ht)
          · rw [if_neg hx] at ht
            exact ht
    match ts, hp with
    | (c, q) :: ts, hp =>
      rw [pNum] at hp
      by_cases hc : isD c = true
      · rw [if_pos hc] at hp
        injection hp with hp
        injection hp with hp1 hp2
        injection hp2 with hp2 hp3
        rw [← hp3] at ht
        exact List.mem_cons_of_mem _ (hsuf _ _ _ _ _ ht)
      · rw [if_neg hc] at hp; cases hp
  have hpp : p ≤ 240 := by
    match ts, hp, a12 with
    | (c, q) :: ts, hp, a12 =>
      have := pNum_pl (n := n) hp
      have h2 := (a12 _ (List.mem_cons_self ..)).2
      have this : q = p := this
      have h2 : q ≤ 240 := h2
      omega
  refine ⟨s7, e1, e2, a5.keep ff (fun r k h => by omega), a6.keep ff (fun r k h => by omega), a7.keep ff (fun r k h => by omega), (ff.1 0 38 7 (by omega)).trans a3, ?_, ?_, ?_, q3, hpp, by rw [List.length_append]; omega, pNum_len hp, fun t ht => a12 t (hmem t ht), fun md' hm => a13.num hw hm hp, ff⟩
  · rw [e3.1 0 38 8 (by unfold XP; omega), zN_8]
  · rw [e3.2 0 38 9 (by unfold XP; omega), zN_9]
  · rw [e3.1 0 38 10 (by unfold XP; omega), zN_10]
/-- digits are refused where no number is wanted -/
theorem z_rejd {P1 : List Nat} (h7 : s.1 0 38 7 = nI md) (hmd : md < 60) (hw : ¬ wants md) (hP : ZP P1 s) (hl : P1.length < 280) (hD : ∀ c p, isD c = true → ∃ s1, zdis F md c p s = some (nI 0, s1) ∧ frm XZm s s1) : ∀ c p, isD c = true → ∃ s2, f_Z_accepts F (nI c) (nI p) s = some (nI 0, s2) := by
  intro c p hc
  obtain ⟨s1, a1, a2⟩ := hD c p hc
  have hc' := isD_i.mp hc
  obtain ⟨s2, b1, b2⟩ := acc_0 (p := p) h7 (by omega) (by omega) (fun e => hw e.1) a1 (hP.keep a2 (fun r k h => by unfold XZm; omega)) hl
  exact ⟨s2, b1⟩
theorem zx_32 {c p : Nat} (hc : c < 128) (hmd : md = 32 ∨ md = 33) (h7 : s.1 0 38 7 = nI md) (h1 : md = 32 → ¬ (c = 105 ∨ c = 106)) (h2 : c ≠ 43) (h3 : c ≠ 41) : ∃ s1, zdis F md c p s = some (nI 0, s1) ∧ frm XZm s s1 := by
  refine ⟨s, ?_, frm.refl⟩
  have hl := zl hc
  unfold zdis f_Z_acceptsExpression f_Z_acceptsIndex
  rcases hmd with rfl | rfl
  · rw [if_neg (h1 rfl)] at hl
    simp (disch := omega) only [ax_let, Option.bind_some, cond_true, cond_false, if_pos, if_neg, if_true, if_false, eq_self, nI_add, nI_ltI, nI_leI, nI_eq, nI_clamp, pu_in, c_0, c_1, c_2, c_3, c_4, c_5, c_6, c_7, c_8, c_9, c_10, c_11, c_12, c_15, c_16, c_17, c_32, c_35, c_36, c_38, c_40, c_41, c_42, c_43, c_44, c_45, c_48, c_57, c_58, c_59, c_60, c_61, c_62, c_64, c_65, c_69, c_75, c_83, c_91, c_93, c_94, c_97, c_105, c_106, c_110, c_119, c_123, c_124, c_125, c_126, c_240, c_256, c_400, c_m, nI_m1, nM_i, lN_add, lN_mul, lN_i, nI_l, lN_eq, lgN_le, lgN_lt, lgN_ge, lgN_gt, nI_sub, nI_mul, d_0, d_1, c_13, c_14, c_18, c_19, c_20, c_21, c_22, c_23, c_24, c_25, c_26, c_27, c_28, c_29, c_30, c_31, c_33, c_34, c_37, c_39, c_46, c_47, c_49, c_50, c_51, c_52, c_53, c_54, c_55, c_56, c_63, c_66, c_67, c_68, c_70, c_71, c_72, c_73, c_74, c_76, c_77, c_78, c_79, c_80, c_81, c_82, c_84, c_85, c_86, c_87, c_88, c_89, c_90, c_92, c_95, c_96, c_98, c_99, c_100, c_101, c_102, c_103, c_104, c_107, c_108, c_109, c_111, c_112, c_113, c_114, c_115, c_116, c_117, c_118, c_120, c_121, c_122, c_127, c_280, d_2, d_3, d_4, d_8, d_9, d_10, d_15, d_16, d_32, d_48, d_62, d_63, d_64, h7, hl, bo_0]
  · by_cases h : c = 105 ∨ c = 106
    · rw [if_pos h] at hl
      simp (disch := omega) only [ax_let, Option.bind_some, cond_true, cond_false, if_pos, if_neg, if_true, if_false, eq_self, nI_add, nI_ltI, nI_leI, nI_eq, nI_clamp, pu_in, c_0, c_1, c_2, c_3, c_4, c_5, c_6, c_7, c_8, c_9, c_10, c_11, c_12, c_15, c_16, c_17, c_32, c_35, c_36, c_38, c_40, c_41, c_42, c_43, c_44, c_45, c_48, c_57, c_58, c_59, c_60, c_61, c_62, c_64, c_65, c_69, c_75, c_83, c_91, c_93, c_94, c_97, c_105, c_106, c_110, c_119, c_123, c_124, c_125, c_126, c_240, c_256, c_400, c_m, nI_m1, nM_i, lN_add, lN_mul, lN_i, nI_l, lN_eq, lgN_le, lgN_lt, lgN_ge, lgN_gt, nI_sub, nI_mul, d_0, d_1, c_13, c_14, c_18, c_19, c_20, c_21, c_22, c_23, c_24, c_25, c_26, c_27, c_28, c_29, c_30, c_31, c_33, c_34, c_37, c_39, c_46, c_47, c_49, c_50, c_51, c_52, c_53, c_54, c_55, c_56, c_63, c_66, c_67, c_68, c_70, c_71, c_72, c_73, c_74, c_76, c_77, c_78, c_79, c_80, c_81, c_82, c_84, c_85, c_86, c_87, c_88, c_89, c_90, c_92, c_95, c_96, c_98, c_99, c_100, c_101, c_102, c_103, c_104, c_107, c_108, c_109, c_111, c_112, c_113, c_114, c_115, c_116, c_117, c_118, c_120, c_121, c_122, c_127, c_280, d_2, d_3, d_4, d_8, d_9, d_10, d_15, d_16, d_32, d_48, d_62, d_63, d_64, h7, hl, bo_0]
    · rw [if_neg h] at hl
      simp (disch := omega) only [ax_let, Option.bind_some, cond_true, cond_false, if_pos, if_neg, if_true, if_false, eq_self, nI_add, nI_ltI, nI_leI, nI_eq, nI_clamp, pu_in, c_0, c_1, c_2, c_3, c_4, c_5, c_6, c_7, c_8, c_9, c_10, c_11, c_12, c_15, c_16, c_17, c_32, c_35, c_36, c_38, c_40, c_41, c_42, c_43, c_44, c_45, c_48, c_57, c_58, c_59, c_60, c_61, c_62, c_64, c_65, c_69, c_75, c_83, c_91, c_93, c_94, c_97, c_105, c_106, c_110, c_119, c_123, c_124, c_125, c_126, c_240, c_256, c_400, c_m, nI_m1, nM_i, lN_add, lN_mul, lN_i, nI_l, lN_eq, lgN_le, lgN_lt, lgN_ge, lgN_gt, nI_sub, nI_mul, d_0, d_1, c_13, c_14, c_18, c_19, c_20, c_21, c_22, c_23, c_24, c_25, c_26, c_27, c_28, c_29, c_30, c_31, c_33, c_34, c_37, c_39, c_46, c_47, c_49, c_50, c_51, c_52, c_53, c_54, c_55, c_56, c_63, c_66, c_67, c_68, c_70, c_71, c_72, c_73, c_74, c_76, c_77, c_78, c_79, c_80, c_81, c_82, c_84, c_85, c_86, c_87, c_88, c_89, c_90, c_92, c_95, c_96, c_98, c_99, c_100, c_101, c_102, c_103, c_104, c_107, c_108, c_109, c_111, c_112, c_113, c_114, c_115, c_116, c_117, c_118, c_120, c_121, c_122, c_127, c_280, d_2, d_3, d_4, d_8, d_9, d_10, d_15, d_16, d_32, d_48, d_62, d_63, d_64, h7, hl, bo_0]
theorem ZE.num31 {v p : Nat} (hF : 241 ≤ F) (h : ZE R n f 31 ts Tot Pr Ops Tms Fs s) (hp : pNum ts = some (v, p, r)) : ∃ s2, zgo ph R F n f ts s r s2 ∧ ZE R n f 32 r Tot (Pr ++ dec v) Ops (Tms ++ [(v, 0, p)]) Fs s2 ∧ frm XIp s s2 := by
  obtain ⟨s7, e1, e2, e3, e4, e5, e6, e7, e8, e9, e10, e11, e12, e13, e14, e15, e16⟩ := h.num hF (Or.inr (Or.inr (Or.inr (Or.inr (Or.inr (Or.inr (Or.inl rfl))))))) (by omega) hp
  obtain ⟨a1, a2, a3, a4, a5, a6, a7, ⟨a8, a9, a10, a11, a12⟩, a13⟩ := h
  obtain ⟨s8, b1, b2, b3⟩ := ze_term (v := v) (l := 0) (q := nM) (p := p) e4 (by omega) rfl
  have f8 : frm (fun g r k => g = 0 ∧ r = 38 ∧ k = 7) s8 (ax_wI s8 0 38 7 (nI 32)) := frm.refl.wI _ _ _ _ ⟨rfl, rfl, rfl⟩
  have f78 : frm XI s7 (ax_wI s8 0 38 7 (nI 32)) := (b3.imp (fun g r k h => by unfold XI; omega)).trans (f8.imp (fun g r k h => by unfold XI; omega))
  have ff : frm XIp s (ax_wI s8 0 38 7 (nI 32)) := (e16.imp (fun g r k h => by unfold XIp; omega)).trans (XI.pp f78)
  have hP2 : ZP (Pr ++ dec v) (ax_wI s8 0 38 7 (nI 32)) := e2.keep f78 (fun r k h => by unfold XI; omega)
  have hE : f_Z_endNumber F (zN s 0 v p) = some (ax_wI s8 0 38 7 (nI 32)) := by
    have h7' : (zN s 0 v p).1 0 38 7 = nI 31 := (zN_o s 0 v p (by omega)).trans a3
    have h9' := zN_9 s 0 v p
    unfold f_Z_endNumber
    simp (disch := omega) only [ax_let, Option.bind_some, cond_true, cond_false, if_pos, if_neg, if_true, if_false, eq_self, nI_add, nI_ltI, nI_leI, nI_eq, nI_clamp, pu_in, c_0, c_1, c_2, c_3, c_4, c_5, c_6, c_7, c_8, c_9, c_10, c_11, c_12, c_15, c_16, c_17, c_32, c_35, c_36, c_38, c_40, c_41, c_42, c_43, c_44, c_45, c_48, c_57, c_58, c_59, c_60, c_61, c_62, c_64, c_65, c_69, c_75, c_83, c_91, c_93, c_94, c_97, c_105, c_106, c_110, c_119, c_123, c_124, c_125, c_126, c_240, c_256, c_400, c_m, nI_m1, nM_i, lN_add, lN_mul, lN_i, nI_l, lN_eq, lgN_le, lgN_lt, lgN_ge, lgN_gt, nI_sub, nI_mul, d_0, d_1, c_13, c_14, c_18, c_19, c_20, c_21, c_22, c_23, c_24, c_25, c_26, c_27, c_28, c_29, c_30, c_31, c_33, c_34, c_37, c_39, c_46, c_47, c_49, c_50, c_51, c_52, c_53, c_54, c_55, c_56, c_63, c_66, c_67, c_68, c_70, c_71, c_72, c_73, c_74, c_76, c_77, c_78, c_79, c_80, c_81, c_82, c_84, c_85, c_86, c_87, c_88, c_89, c_90, c_92, c_95, c_96, c_98, c_99, c_100, c_101, c_102, c_103, c_104, c_107, c_108, c_109, c_111, c_112, c_113, c_114, c_115, c_116, c_117, c_118, c_120, c_121, c_122, c_127, c_280, d_2, d_3, d_4, d_8, d_9, d_10, d_15, d_16, d_32, d_48, d_62, d_63, d_64, zN_0, h7', h9', e1, e6, e8, e9, b1]
  have h732 : (ax_wI s8 0 38 7 (nI 32)).1 0 38 7 = nI 32 := by simp (disch := omega) only [wI_1, wI_2, wL_1, wL_2, true_and, and_true, and_self, false_and, and_false, if_true, if_false, if_pos, if_neg]
  have h8' : (ax_wI s8 0 38 7 (nI 32)).1 0 38 8 = nI 0 := (f78.1 0 38 8 (by unfold XI; omega)).trans e7
  refine ⟨_, z_num a1 a2 a3 (Or.inr (Or.inr (Or.inr (Or.inr (Or.inr (Or.inr (Or.inl rfl))))))) hp hE (XZe.z (XIp.e ff)) h8' (z_rejd h732 (by omega) (by unfold wants; omega) hP2 (by omega) (fun c p hc => zx_32 (by have := isD_i.mp hc; omega) (Or.inl rfl) h732 (fun _ => by have := isD_i.mp hc; omega) (by have := isD_i.mp hc; omega) (by have := isD_i.mp hc; omega))), ⟨a1.keep (XZe.z (XIp.e ff)), h8', h732, hP2, e3.keep f78 (fun r k h => by unfold XI; omega), b2.keep f8 (fun r k h => by omega), e5.keep f78 (fun r k h => by unfold XI; omega), ⟨e12, by omega, by rw [List.length_append, List.length_singleton]; omega, a11, e14⟩, e15 32 (by unfold wants; omega)⟩, ff⟩
/-- a LETTER in an index -/
theorem ZE.let31 (h : ZE R n f 31 ((c, p) :: ts) Tot Pr Ops Tms Fs s) (hc : c = 105 ∨ c = 106) : ∃ s2, zgo ph R F n f ((c, p) :: ts) s ts s2 ∧ ZE R n f 33 ts Tot (Pr ++ [c]) Ops (Tms ++ [(1, c - 104, p)]) Fs s2 ∧ frm XIp s s2 := by
  obtain ⟨a1, a2, a3, a4, a5, a6, a7, ⟨a8, a9, a10, a11, a12⟩, a13⟩ := id h
  rw [List.length_cons] at a9 a10
  obtain ⟨s8, b1, b2, b3⟩ := ze_term (v := 1) (l := c - 104) (q := nI (c - 105)) (p := p) a6 (by omega) (by rw [if_neg (by omega)]; rfl)
  have f8 : frm (fun g r k => g = 0 ∧ r = 38 ∧ k = 7) s8 (ax_wI s8 0 38 7 (nI 33)) := frm.refl.wI _ _ _ _ ⟨rfl, rfl, rfl⟩
  have f78 : frm XI s (ax_wI s8 0 38 7 (nI 33)) := (b3.imp (fun g r k h => by unfold XI; omega)).trans (f8.imp (fun g r k h => by unfold XI; omega))
  have hl := zl (c := c) (by omega)
  rw [if_pos hc] at hl
  have hD : zdis F 31 c p s = some (nI 1, ax_wI s8 0 38 7 (nI 33)) := by
    unfold zdis f_Z_acceptsExpression f_Z_acceptsIndex
    simp (disch := omega) only [ax_let, Option.bind_some, cond_true, cond_false, if_pos, if_neg, if_true, if_false, eq_self, nI_add, nI_ltI, nI_leI, nI_eq, nI_clamp, pu_in, c_0, c_1, c_2, c_3, c_4, c_5, c_6, c_7, c_8, c_9, c_10, c_11, c_12, c_15, c_16, c_17, c_32, c_35, c_36, c_38, c_40, c_41, c_42, c_43, c_44, c_45, c_48, c_57, c_58, c_59, c_60, c_61, c_62, c_64, c_65, c_69, c_75, c_83, c_91, c_93, c_94, c_97, c_105, c_106, c_110, c_119, c_123, c_124, c_125, c_126, c_240, c_256, c_400, c_m, nI_m1, nM_i, lN_add, lN_mul, lN_i, nI_l, lN_eq, lgN_le, lgN_lt, lgN_ge, lgN_gt, nI_sub, nI_mul, d_0, d_1, c_13, c_14, c_18, c_19, c_20, c_21, c_22, c_23, c_24, c_25, c_26, c_27, c_28, c_29, c_30, c_31, c_33, c_34, c_37, c_39, c_46, c_47, c_49, c_50, c_51, c_52, c_53, c_54, c_55, c_56, c_63, c_66, c_67, c_68, c_70, c_71, c_72, c_73, c_74, c_76, c_77, c_78, c_79, c_80, c_81, c_82, c_84, c_85, c_86, c_87, c_88, c_89, c_90, c_92, c_95, c_96, c_98, c_99, c_100, c_101, c_102, c_103, c_104, c_107, c_108, c_109, c_111, c_112, c_113, c_114, c_115, c_116, c_117, c_118, c_120, c_121, c_122, c_127, c_280, d_2, d_3, d_4, d_8, d_9, d_10, d_15, d_16, d_32, d_48, d_62, d_63, d_64, a3, hl, b1, bo_1]
  obtain ⟨s2, c1, c2, c3⟩ := h.step (ph := ph) (md' := 33) (by omega) (by omega) (by rcases hc with rfl | rfl <;> rfl) hD (XI.m f78) (by simp (disch := omega) only [wI_1, wI_2, wL_1, wL_2, true_and, and_true, and_self, false_and, and_false, if_true, if_false, if_pos, if_neg]) (a5.keep f78 (fun r k h => by unfold XI; omega)) (b2.keep f8 (fun r k h => by omega)) (a7.keep f78 (fun r k h => by unfold XI; omega)) (by omega) (by rw [List.length_append, List.length_singleton]; omega) a11
  exact ⟨s2, c1, c2, (XI.pp f78).trans (XIp.ofP c3)⟩
theorem ZE.let32 {v q : Nat} (h : ZE R n f 32 ((c, p) :: ts) Tot Pr Ops (Tms ++ [(v, 0, q)]) Fs s) (hc : c = 105 ∨ c = 106) : ∃ s2, zgo ph R F n f ((c, p) :: ts) s ts s2 ∧ ZE R n f 33 ts Tot (Pr ++ [c]) Ops (Tms ++ [(v, c - 104, p)]) Fs s2 ∧ frm XIp s s2 := by
  obtain ⟨a1, a2, a3, a4, a5, a6, a7, ⟨a8, a9, a10, a11, a12⟩, a13⟩ := id h
  rw [List.length_cons] at a9 a10
  rw [List.length_append, List.length_singleton] at a10
  have h42 : s.1 0 38 42 = nI (Tms.length + 1) := by have := a6.1; rw [List.length_append, List.length_singleton] at this; exact this
  have b2 := ze_lett (l := c - 104) (p := p) a6 (by omega)
  have f8 : frm (fun g r k => g = 0 ∧ r = 38 ∧ k = 7) (ax_wI (ax_wI s 0 64 Tms.length (nI (c - 104 - 1))) 0 65 Tms.length (nI p)) (ax_wI (ax_wI (ax_wI s 0 64 Tms.length (nI (c - 104 - 1))) 0 65 Tms.length (nI p)) 0 38 7 (nI 33)) := frm.refl.wI _ _ _ _ ⟨rfl, rfl, rfl⟩
  have f78 : frm XI s (ax_wI (ax_wI (ax_wI s 0 64 Tms.length (nI (c - 104 - 1))) 0 65 Tms.length (nI p)) 0 38 7 (nI 33)) := by
    refine ((frm.refl.wI _ _ _ _ ?_).wI _ _ _ _ ?_).wI _ _ _ _ ?_ <;> unfold XI <;> omega
  have hl := zl (c := c) (by omega)
  rw [if_pos hc] at hl
  have e1 : Tms.length + 1 - 1 = Tms.length := by omega
  have e2 : c - 104 - 1 = c - 105 := by omega
  have hD : zdis F 32 c p s = some (nI 1, ax_wI (ax_wI (ax_wI s 0 64 Tms.length (nI (c - 104 - 1))) 0 65 Tms.length (nI p)) 0 38 7 (nI 33)) := by
    unfold zdis f_Z_acceptsExpression f_Z_acceptsIndex
    rw [e2]
    simp (disch := omega) only [ax_let, Option.bind_some, cond_true, cond_false, if_pos, if_neg, if_true, if_false, eq_self, nI_add, nI_ltI, nI_leI, nI_eq, nI_clamp, pu_in, c_0, c_1, c_2, c_3, c_4, c_5, c_6, c_7, c_8, c_9, c_10, c_11, c_12, c_15, c_16, c_17, c_32, c_35, c_36, c_38, c_40, c_41, c_42, c_43, c_44, c_45, c_48, c_57, c_58, c_59, c_60, c_61, c_62, c_64, c_65, c_69, c_75, c_83, c_91, c_93, c_94, c_97, c_105, c_106, c_110, c_119, c_123, c_124, c_125, c_126, c_240, c_256, c_400, c_m, nI_m1, nM_i, lN_add, lN_mul, lN_i, nI_l, lN_eq, lgN_le, lgN_lt, lgN_ge, lgN_gt, nI_sub, nI_mul, d_0, d_1, c_13, c_14, c_18, c_19, c_20, c_21, c_22, c_23, c_24, c_25, c_26, c_27, c_28, c_29, c_30, c_31, c_33, c_34, c_37, c_39, c_46, c_47, c_49, c_50, c_51, c_52, c_53, c_54, c_55, c_56, c_63, c_66, c_67, c_68, c_70, c_71, c_72, c_73, c_74, c_76, c_77, c_78, c_79, c_80, c_81, c_82, c_84, c_85, c_86, c_87, c_88, c_89, c_90, c_92, c_95, c_96, c_98, c_99, c_100, c_101, c_102, c_103, c_104, c_107, c_108, c_109, c_111, c_112, c_113, c_114, c_115, c_116, c_117, c_118, c_120, c_121, c_122, c_127, c_280, d_2, d_3, d_4, d_8, d_9, d_10, d_15, d_16, d_32, d_48, d_62, d_63, d_64, wI_1, wI_2, wL_1, wL_2, true_and, and_true, and_self, false_and, and_false, if_true, if_false, a3, hl, h42, e1, bo_1]
  obtain ⟨s2, c1, c2, c3⟩ := h.step (ph := ph) (md' := 33) (by omega) (by omega) (by rcases hc with rfl | rfl <;> rfl) hD (XI.m f78) (by simp (disch := omega) only [wI_1, wI_2, wL_1, wL_2, true_and, and_true, and_self, false_and, and_false, if_true, if_false, if_pos, if_neg]) (a5.keep f78 (fun r k h => by unfold XI; omega)) (b2.keep f8 (fun r k h => by omega)) (a7.keep f78 (fun r k h => by unfold XI; omega)) (by omega) (by rw [List.length_append, List.length_singleton]; omega) a11
  exact ⟨s2, c1, c2, (XI.pp f78).trans (XIp.ofP c3)⟩
theorem ZE.plus32 (h : ZE R n f md ((43, p) :: ts) Tot Pr Ops Tms Fs s) (hmd : md = 32 ∨ md = 33) : ∃ s2, zgo ph R F n f ((43, p) :: ts) s ts s2 ∧ ZE R n f 31 ts Tot (Pr ++ [43]) Ops Tms Fs s2 ∧ frm XIp s s2 := by
  obtain ⟨a1, a2, a3, a4, a5, a6, a7, ⟨a8, a9, a10, a11, a12⟩, a13⟩ := id h
  rw [List.length_cons] at a9 a10
  have f78 : frm XI s (ax_wI s 0 38 7 (nI 31)) := frm.refl.wI _ _ _ _ (by unfold XI; omega)
  have f7 : frm (fun g r k => g = 0 ∧ r = 38 ∧ k = 7) s (ax_wI s 0 38 7 (nI 31)) := frm.refl.wI _ _ _ _ ⟨rfl, rfl, rfl⟩
  have hl : f_Z_isLetter (nI 43) = some (nI 0) := rfl
  have hD : zdis F md 43 p s = some (nI 1, ax_wI s 0 38 7 (nI 31)) := by
    unfold zdis f_Z_acceptsExpression f_Z_acceptsIndex
    rcases hmd with rfl | rfl <;> simp (disch := omega) only [ax_let, Option.bind_some, cond_true, cond_false, if_pos, if_neg, if_true, if_false, eq_self, nI_add, nI_ltI, nI_leI, nI_eq, nI_clamp, pu_in, c_0, c_1, c_2, c_3, c_4, c_5, c_6, c_7, c_8, c_9, c_10, c_11, c_12, c_15, c_16, c_17, c_32, c_35, c_36, c_38, c_40, c_41, c_42, c_43, c_44, c_45, c_48, c_57, c_58, c_59, c_60, c_61, c_62, c_64, c_65, c_69, c_75, c_83, c_91, c_93, c_94, c_97, c_105, c_106, c_110, c_119, c_123, c_124, c_125, c_126, c_240, c_256, c_400, c_m, nI_m1, nM_i, lN_add, lN_mul, lN_i, nI_l, lN_eq, lgN_le, lgN_lt, lgN_ge, lgN_gt, nI_sub, nI_mul, d_0, d_1, c_13, c_14, c_18, c_19, c_20, c_21, c_22, c_23, c_24, c_25, c_26, c_27, c_28, c_29, c_30, c_31, c_33, c_34, c_37, c_39, c_46, c_47, c_49, c_50, c_51, c_52, c_53, c_54, c_55, c_56, c_63, c_66, c_67, c_68, c_70, c_71, c_72, c_73, c_74, c_76, c_77, c_78, c_79, c_80, c_81, c_82, c_84, c_85, c_86, c_87, c_88, c_89, c_90, c_92, c_95, c_96, c_98, c_99, c_100, c_101, c_102, c_103, c_104, c_107, c_108, c_109, c_111, c_112, c_113, c_114, c_115, c_116, c_117, c_118, c_120, c_121, c_122, c_127, c_280, d_2, d_3, d_4, d_8, d_9, d_10, d_15, d_16, d_32, d_48, d_62, d_63, d_64, a3, hl, bo_1]
  obtain ⟨s2, c1, c2, c3⟩ := h.step (ph := ph) (md' := 31) (by omega) (by omega) rfl hD (XI.m f78) (by simp (disch := omega) only [wI_1, wI_2, wL_1, wL_2, true_and, and_true, and_self, false_and, and_false, if_true, if_false, if_pos, if_neg]) (a5.keep f7 (fun r k h => by omega)) (a6.keep f7 (fun r k h => by omega)) (a7.keep f7 (fun r k h => by omega)) (by omega) (by omega) a11
  exact ⟨s2, c1, c2, (XI.pp f78).trans (XIp.ofP c3)⟩
/-- the index is closed -/
theorem ZE.close32 {l : List Tm} {k q : Nat} (hF : 241 ≤ F) (h : ZE R n f md ((41, p) :: ts) Tot Pr Ops (Ops.flatMap (·.2.2.2) ++ l) Fs s) (hmd : md = 32 ∨ md = 33) (hk : k = 2 ∨ k = 3) (h46 : s.1 0 38 46 = nI k) (h47 : s.1 0 38 47 = nI q) (h48 : s.1 0 38 48 = nI (Ops.flatMap (·.2.2.2)).length) : ∃ s2, zgo ph R F n f ((41, p) :: ts) s ts s2 ∧ ZE R n f (cMd Fs) ts Tot (Pr ++ [41]) (Ops ++ [(k, 0, q, l)] ++ List.replicate (cNt Fs) oNot) (Ops.flatMap (·.2.2.2) ++ l) (cFs Fs) s2 ∧ frm XZe s s2 := by
  obtain ⟨a1, a2, a3, a4, a5, a6, a7, ⟨a8, a9, a10, a11, a12⟩, a13⟩ := id h
  rw [List.length_cons] at a9 a10
  have h36 := a5.1
  have h42 := a6.1
  rw [List.length_append] at h42
  have f1 : frm (fun g r k => g = 0 ∧ 61 ≤ r ∧ r ≤ 62 ∧ k = Ops.length) s (ax_wI (ax_wI s 0 61 Ops.length (nI (Ops.flatMap (·.2.2.2)).length)) 0 62 Ops.length (nI ((Ops.flatMap (·.2.2.2)).length + l.length))) := by
    refine (frm.refl.wI _ _ _ _ ?_).wI _ _ _ _ ?_ <;> omega
  obtain ⟨s3, b1, b2, b3⟩ := ze_emit (k := k) (v := 0) (p := q) (l := l) (q := nI q) (a5.keep f1 (fun r k h => by omega)) (by omega) (by rw [if_neg (by omega)]) (fun _ => ⟨by simp (disch := omega) only [wI_1, wI_2, wL_1, wL_2, true_and, and_true, and_self, false_and, and_false, if_true, if_false, if_pos, if_neg], by simp (disch := omega) only [wI_1, wI_2, wL_1, wL_2, true_and, and_true, and_self, false_and, and_false, if_true, if_false, if_pos, if_neg]⟩)
  have f13 : frm XZm s s3 := (f1.imp (fun g r k h => by unfold XZm; omega)).trans (b3.imp (fun g r k h => by unfold XZm; omega))
  obtain ⟨s4, c1, c2, c3, c4, c5⟩ := ze_comp (F := F) hF b2 ((a7.keep f1 (fun r k h => by omega)).keep b3 (fun r k h => by omega)) (by rw [List.length_append, List.length_singleton]; omega) a11
  have f14 : frm XZm s s4 := f13.trans (c5.imp (fun g r k h => by unfold XC1 at h; unfold XZm; omega))
  have hl : f_Z_isLetter (nI 41) = some (nI 0) := rfl
  have hD : zdis F md 41 p s = some (nI 1, s4) := by
    unfold zdis f_Z_acceptsExpression f_Z_acceptsIndex
    have b1' : f_Z_emit (nI k) (lN 0) (nI q) (ax_wI (ax_wI s 0 61 Ops.length (nI (Ops.flatMap (·.2.2.2)).length)) 0 62 Ops.length (nI ((Ops.flatMap (·.2.2.2)).length + l.length))) = some s3 := b1
    rcases hmd with rfl | rfl <;> simp (disch := omega) only [ax_let, Option.bind_some, cond_true, cond_false, if_pos, if_neg, if_true, if_false, eq_self, nI_add, nI_ltI, nI_leI, nI_eq, nI_clamp, pu_in, c_0, c_1, c_2, c_3, c_4, c_5, c_6, c_7, c_8, c_9, c_10, c_11, c_12, c_15, c_16, c_17, c_32, c_35, c_36, c_38, c_40, c_41, c_42, c_43, c_44, c_45, c_48, c_57, c_58, c_59, c_60, c_61, c_62, c_64, c_65, c_69, c_75, c_83, c_91, c_93, c_94, c_97, c_105, c_106, c_110, c_119, c_123, c_124, c_125, c_126, c_240, c_256, c_400, c_m, nI_m1, nM_i, lN_add, lN_mul, lN_i, nI_l, lN_eq, lgN_le, lgN_lt, lgN_ge, lgN_gt, nI_sub, nI_mul, d_0, d_1, c_13, c_14, c_18, c_19, c_20, c_21, c_22, c_23, c_24, c_25, c_26, c_27, c_28, c_29, c_30, c_31, c_33, c_34, c_37, c_39, c_46, c_47, c_49, c_50, c_51, c_52, c_53, c_54, c_55, c_56, c_63, c_66, c_67, c_68, c_70, c_71, c_72, c_73, c_74, c_76, c_77, c_78, c_79, c_80, c_81, c_82, c_84, c_85, c_86, c_87, c_88, c_89, c_90, c_92, c_95, c_96, c_98, c_99, c_100, c_101, c_102, c_103, c_104, c_107, c_108, c_109, c_111, c_112, c_113, c_114, c_115, c_116, c_117, c_118, c_120, c_121, c_122, c_127, c_280, d_2, d_3, d_4, d_8, d_9, d_10, d_15, d_16, d_32, d_48, d_62, d_63, d_64, wI_1, wI_2, wL_1, wL_2, true_and, and_true, and_self, false_and, and_false, if_true, if_false, a3, hl, h36, h48, h42, h46, h47, b1', c1, bo_1]
  have hM : ZM (Ops.flatMap (·.2.2.2) ++ l) s4 := ((a6.keep f1 (fun r k h => by omega)).keep b3 (fun r k h => by omega)).keep c5 (fun r k h => by unfold XC1; omega)
  have hlen := cFs_len Fs
  obtain ⟨s2, d1, d2, d3⟩ := h.step (ph := ph) (by omega) (by omega) rfl hD f14 c4 c2 hM c3 (by simp only [List.length_append, List.length_singleton, List.length_replicate]; omega) (by omega) (by omega)
  exact ⟨s2, d1, d2, (XZm.e f14).trans (XP.e d3)⟩
end
