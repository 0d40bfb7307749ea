/-! PURE: the reference reads an expression: its signs -/
def oT (o : Op) : List Tm := o.2.2.2
def zKs (R n : Nat) (f : Nat → Nat) (Tot : List Nat) (Ops : List Op) (Fs : List Nat) (s : ax_σ) (k q : Nat) (l0 : List Tm) (l : List Tm) (r : List Tok) (s' : ax_σ) : Prop := ∃ Pr', ZE R n f (cMd Fs) r Tot Pr' (Ops ++ [(k, 0, q, l0 ++ l)] ++ List.replicate (cNt Fs) oNot) (Ops.flatMap (·.2.2.2) ++ (l0 ++ l)) (cFs Fs) s' ∧ frm XZe s s'
def trT (j : Nat) (t : Tm) (r : List Tok) : Rd (List Tm) := match r with
    | [] => .error []
    | (c, p) :: r' => if c = 43 then rbind (pTerms j r') (fun l r'' => .ok (t :: l, r'')) else if c = 41 then .ok ([t], r') else .error ((c, p) :: r')
theorem pTerms_s (j : Nat) (ts : List Tok) : pTerms (j + 1) ts = rbind (match pNum ts with
      | some (v, p, r) => pTerm (some (v, p)) r
      | none => pTerm none ts) (fun t r => trT j t r) := rfl
section
variable {ph R F n : Nat} {f : Nat → Nat} {ts r r2 : List Tok} {s s' s1 s2 s0 : ax_σ} {md md' c p : Nat} {Tot Pr : List Nat} {Ops Ops' : List Op} {Tms Tms' : List Tm} {Fs Fs' : List Nat}
def zTp (ph R F n : Nat) (f : Nat → Nat) (Tot : List Nat) (Ops : List Op) (Fs : List Nat) (k q j : Nat) : Prop := ∀ (ts : List Tok) (l0 : List Tm) (Pr : List Nat) (s0 s : ax_σ), ts.length < j → frm XZe s0 s → ZE R n f 31 ts Tot Pr Ops (Ops.flatMap (·.2.2.2) ++ l0) Fs s → s.1 0 38 46 = nI k → s.1 0 38 47 = nI q → s.1 0 38 48 = nI (Ops.flatMap (·.2.2.2)).length → zq ph R F n f ts s (pTerms j ts) (zKs R n f Tot Ops Fs s0 k q l0)
theorem z_tail {j k q : Nat} {t : Tm} {l0 : List Tm} (hF : 241 ≤ F) (ih : zTp ph R F n f Tot Ops Fs k q j) (hk : k = 2 ∨ k = 3) (hj : r.length ≤ j) (hmd : md = 32 ∨ md = 33) (hl : md = 32 → ¬ (sg r = 105 ∨ sg r = 106)) (hf : frm XZe s0 s) (h : ZE R n f md r Tot Pr Ops (Ops.flatMap (·.2.2.2) ++ (l0 ++ [t])) Fs s) (h46 : s.1 0 38 46 = nI k) (h47 : s.1 0 38 47 = nI q) (h48 : s.1 0 38 48 = nI (Ops.flatMap (·.2.2.2)).length) : zq ph R F n f r s (trT j t r) (zKs R n f Tot Ops Fs s0 k q l0) := by
  match r, hj, hl, h with
  | [], hj, hl, h => exact fun G => h.nil (by omega)
  | (c, p) :: r', hj, hl, h =>
    by_cases h43 : c = 43
    · subst h43
      obtain ⟨s2, a1, a2, a3⟩ := h.plus32 (ph := ph) (F := F) hmd
      have key := ih r' (l0 ++ [t]) _ s0 s2 (by rw [List.length_cons] at hj; omega) (hf.trans (XIp.e a3)) a2 ((a3.1 0 38 46 (by unfold XIp; omega)).trans h46) ((a3.1 0 38 47 (by unfold XIp; omega)).trans h47) ((a3.1 0 38 48 (by unfold XIp; omega)).trans h48)
      show zq ph R F n f ((43, p) :: r') s (rbind (pTerms j r') (fun l r'' => .ok (t :: l, r''))) _
      refine zq.pre a1 (key.bind (fun l r2 s3 _ hK => ⟨s3, ?_, zgo.refl⟩))
      obtain ⟨Pr', b1, b2⟩ := hK
      refine ⟨Pr', ?_, b2⟩
      rw [List.append_assoc l0] at b1
      exact b1
    · by_cases h41 : c = 41
      · subst h41
        obtain ⟨s2, a1, a2, a3⟩ := h.close32 (ph := ph) (F := F) hF hmd hk h46 h47 h48
        exact ⟨s2, ⟨_, a2, hf.trans a3⟩, a1⟩
      · rw [trT, if_neg h43, if_neg h41]
        have hc := (h.tk _ (List.mem_cons_self ..)).1
        exact fun G => h.rej (by omega) (fun e => by have := e.1; unfold wants at this; omega) (zx_32 hc hmd h.2.2.1 (fun e => hl e) h43 h41)
theorem zx_31 {c p : Nat} (hc : c < 128) (h7 : s.1 0 38 7 = nI 31) (h1 : ¬ (c = 105 ∨ c = 106)) : ∃ s1, zdis F 31 c p s = some (nI 0, s1) ∧ frm XZm s s1 := by
  refine ⟨s, ?_, frm.refl⟩
  have hl := zl hc
  rw [if_neg h1] at hl
  unfold zdis f_Z_acceptsExpression f_Z_acceptsIndex
  simp (disch := omega) only [ax_let, Option.bind_some, cond_true, cond_false, if_pos, if_neg, if_true, if_false, eq_self, nI_add, nI_ltI, nI_leI, nI_eq, nI_clamp, pu_in, c_0, c_1, c_2, c_3, c_4, c_5, c_6, c_7, c_8, c_9, c_10, c_11, c_12, c_15, c_16, c_17, c_32, c_35, c_36, c_38, c_40, c_41, c_42, c_43, c_44, c_45, c_48, c_57, c_58, c_59, c_60, c_61, c_62, c_64, c_65, c_69, c_75, c_83, c_91, c_93, c_94, c_97, c_105, c_106, c_110, c_119, c_123, c_124, c_125, c_126, c_240, c_256, c_400, c_m, nI_m1, nM_i, lN_add, lN_mul, lN_i, nI_l, lN_eq, lgN_le, lgN_lt, lgN_ge, lgN_gt, nI_sub, nI_mul, d_0, d_1, c_13, c_14, c_18, c_19, c_20, c_21, c_22, c_23, c_24, c_25, c_26, c_27, c_28, c_29, c_30, c_31, c_33, c_34, c_37, c_39, c_46, c_47, c_49, c_50, c_51, c_52, c_53, c_54, c_55, c_56, c_63, c_66, c_67, c_68, c_70, c_71, c_72, c_73, c_74, c_76, c_77, c_78, c_79, c_80, c_81, c_82, c_84, c_85, c_86, c_87, c_88, c_89, c_90, c_92, c_95, c_96, c_98, c_99, c_100, c_101, c_102, c_103, c_104, c_107, c_108, c_109, c_111, c_112, c_113, c_114, c_115, c_116, c_117, c_118, c_120, c_121, c_122, c_127, c_280, d_2, d_3, d_4, d_8, d_9, d_10, d_15, d_16, d_32, d_48, d_62, d_63, d_64, h7, hl, bo_0]
theorem pNum_none {c p : Nat} {ts : List Tok} (h : pNum ((c, p) :: ts) = none) : ¬ isD c = true := by
  intro hc
  rw [pNum] at h
  rw [if_pos hc] at h
  cases h
theorem zTms {k q : Nat} (hF : 241 ≤ F) (hk : k = 2 ∨ k = 3) : ∀ (j : Nat), zTp ph R F n f Tot Ops Fs k q j
  | 0 => fun ts l0 Pr s0 s h => absurd h (Nat.not_lt_zero _)
  | j + 1 => by
    intro ts l0 Pr s0 s hl hf h h46 h47 h48
    have ih := zTms (q := q) hF hk j
    rw [pTerms_s]
    have fr : ∀ {sa sb : ax_σ}, frm XIp sa sb → sb.1 0 38 46 = sa.1 0 38 46 ∧ sb.1 0 38 47 = sa.1 0 38 47 ∧ sb.1 0 38 48 = sa.1 0 38 48 := fun hh => ⟨hh.1 0 38 46 (by unfold XIp; omega), hh.1 0 38 47 (by unfold XIp; omega), hh.1 0 38 48 (by unfold XIp; omega)⟩
    match hp : pNum ts with
    | some (v, p, r) =>
      obtain ⟨s2, a1, a2, a3⟩ := h.num31 (ph := ph) hF hp
      obtain ⟨g1, g2, g3⟩ := fr a3
      have hlen := pNum_len hp
      rw [List.append_assoc] at a2
      refine zq.pre a1 ?_
      by_cases hc : sg r = 105 ∨ sg r = 106
      · match r, hc, a2, hlen with
        | (c, p2) :: r', hc, a2, hlen =>
          have hc : c = 105 ∨ c = 106 := hc
          rw [← List.append_assoc] at a2
          obtain ⟨s3, b1, b2, b3⟩ := a2.let32 (ph := ph) (F := F) hc
          obtain ⟨i1, i2, i3⟩ := fr b3
          rw [List.append_assoc (List.flatMap _ _)] at b2
          have e : pTerm (some (v, p)) ((c, p2) :: r') = .ok ((v, c - 104, p2), r') := by
            rw [pTerm]
            rw [if_pos hc]
            rfl
          show zq ph R F n f ((c, p2) :: r') s2 (rbind (pTerm (some (v, p)) ((c, p2) :: r')) (fun t r => trT j t r)) _
          rw [e]
          rw [List.length_cons] at hlen
          exact zq.pre b1 (z_tail hF ih hk (by omega) (Or.inr rfl) (fun e => by omega) ((hf.trans (XIp.e a3)).trans (XIp.e b3)) b2 (i1.trans (g1.trans h46)) (i2.trans (g2.trans h47)) (i3.trans (g3.trans h48)))
      · have e : pTerm (some (v, p)) r = .ok ((v, 0, p), r) := by
          match r, hc with
          | [], hc => rfl
          | (c, p2) :: r', hc =>
            have hc : ¬ (c = 105 ∨ c = 106) := hc
            rw [pTerm]
            rw [if_neg hc]
        show zq ph R F n f r s2 (rbind (pTerm (some (v, p)) r) (fun t r => trT j t r)) _
        rw [e]
        exact z_tail hF ih hk (by omega) (Or.inl rfl) (fun _ => hc) (hf.trans (XIp.e a3)) a2 (g1.trans h46) (g2.trans h47) (g3.trans h48)
    | none =>
      match ts, h, hp, hl with
      | [], h, hp, hl => exact fun G => h.nil (by omega)
      | (c, p) :: r', h, hp, hl =>
        by_cases hc : c = 105 ∨ c = 106
        · obtain ⟨s3, b1, b2, b3⟩ := h.let31 (ph := ph) (F := F) hc
          obtain ⟨i1, i2, i3⟩ := fr b3
          rw [List.append_assoc] at b2
          have e : pTerm none ((c, p) :: r') = .ok ((1, c - 104, p), r') := by
            rw [pTerm]
            rw [if_pos hc]
            rfl
          show zq ph R F n f ((c, p) :: r') s (rbind (pTerm none ((c, p) :: r')) (fun t r => trT j t r)) _
          rw [e]
          rw [List.length_cons] at hl
          exact zq.pre b1 (z_tail hF ih hk (by omega) (Or.inr rfl) (fun e => by omega) (hf.trans (XIp.e b3)) b2 (i1.trans h46) (i2.trans h47) (i3.trans h48))
        · have e : pTerm none ((c, p) :: r') = .error ((c, p) :: r') := by
            rw [pTerm]
            rw [if_neg hc]
          show zq ph R F n f ((c, p) :: r') s (rbind (pTerm none ((c, p) :: r')) (fun t r => trT j t r)) _
          rw [e]
          have hc' := (h.tk _ (List.mem_cons_self ..)).1
          exact fun G => h.rej (by omega) (fun e => pNum_none hp e.2) (zx_31 hc' h.2.2.1 hc)
/-- a leaf: emit, and what is complete then -/
theorem ze_leaf {k v p : Nat} (hF : 241 ≤ F) (hk : k = 1 ∨ k = 4 ∨ k = 5) (hO : ZO Ops s) (hFs : ZF Fs s) (b : Ops.length + Fs.length + 1 ≤ 240) (b2 : Fs.length ≤ 12) : ∃ s1 s2, f_Z_emit (nI k) (lN v) (nI p) s = some s1 ∧ f_Z_complete F s1 = some s2 ∧ ZO (Ops ++ [(k, v, p, [])] ++ List.replicate (cNt Fs) oNot) s2 ∧ ZF (cFs Fs) s2 ∧ s2.1 0 38 7 = nI (cMd Fs) ∧ frm XC1 s s2 := by
  obtain ⟨s3, b1, b2, b3⟩ := ze_emit (k := k) (v := v) (p := p) (l := []) (q := nI p) hO (by omega) (by rw [if_neg (by omega)]) (fun h => by omega)
  obtain ⟨s4, c1, c2, c3, c4, c5⟩ := ze_comp (F := F) hF b2 (hFs.keep b3 (fun r k h => by omega)) (by rw [List.length_append, List.length_singleton]; omega) (by omega)
  exact ⟨s3, s4, b1, c1, c2, c3, c4, (b3.imp (fun g r k h => by unfold XC1; omega)).trans c5⟩
theorem fm_r (A : List Op) (k : Nat) : (A ++ List.replicate k oNot).flatMap (·.2.2.2) = A.flatMap (·.2.2.2) := by
  rw [List.flatMap_append]
  have : (List.replicate k oNot).flatMap (·.2.2.2) = [] := by
    induction k with
    | zero => rfl
    | succ k ih => rw [List.replicate_succ, List.flatMap_cons, ih]; rfl
  rw [this, List.append_nil]
def zKe (R n : Nat) (f : Nat → Nat) (Tot : List Nat) (Ops : List Op) (Fs : List Nat) (s : ax_σ) (e : List Op) (r : List Tok) (s' : ax_σ) : Prop := ∃ Pr', ZE R n f (cMd Fs) r Tot Pr' (Ops ++ e ++ List.replicate (cNt Fs) oNot) ((Ops ++ e ++ List.replicate (cNt Fs) oNot).flatMap (·.2.2.2)) (cFs Fs) s' ∧ frm XZe s s'
theorem XC1.m (h : frm XC1 s s') : frm XZm s s' := h.imp (fun g r k h => by unfold XC1 at h; unfold XZm; omega)
/-- a STATE or LETTER -/
theorem ZE.leaf20 (hF : 241 ≤ F) (h : ZE R n f 20 ((c, p) :: ts) Tot Pr Ops (Ops.flatMap (·.2.2.2)) Fs s) (hc : (65 ≤ c ∧ c ≤ 68) ∨ c = 105 ∨ c = 106) : zq ph R F n f ((c, p) :: ts) s (.ok ([(if 65 ≤ c ∧ c ≤ 68 then 1 else 5, if 65 ≤ c ∧ c ≤ 68 then c - 65 else c - 105, p, [])], ts)) (zKe R n f Tot Ops Fs s) := by
  obtain ⟨a1, a2, a3, a4, a5, a6, a7, ⟨a8, a9, a10, a11, a12⟩, a13⟩ := id h
  rw [List.length_cons] at a9 a10
  obtain ⟨s1, s2, b1, b2, b3, b4, b5, b6⟩ := ze_leaf (F := F) (k := if 65 ≤ c ∧ c ≤ 68 then 1 else 5) (v := if 65 ≤ c ∧ c ≤ 68 then c - 65 else c - 105) (p := p) hF (by split <;> omega) a5 a7 (by omega) a11
  have hD : zdis F 20 c p s = some (nI 1, s2) := by
    have hs := zs (c := c) (by omega)
    have hl := zl (c := c) (by omega)
    unfold zdis f_Z_acceptsExpression f_Z_acceptsStart
    by_cases hx : 65 ≤ c ∧ c ≤ 68
    · rw [if_pos hx] at hs b1
      rw [if_pos hx] at b1
      simp (disch := omega) only [ax_let, Option.bind_some, cond_true, cond_false, if_pos, if_neg, if_true, if_false, eq_self, nI_add, nI_ltI, nI_leI, nI_eq, nI_clamp, pu_in, c_0, c_1, c_2, c_3, c_4, c_5, c_6, c_7, c_8, c_9, c_10, c_11, c_12, c_15, c_16, c_17, c_32, c_35, c_36, c_38, c_40, c_41, c_42, c_43, c_44, c_45, c_48, c_57, c_58, c_59, c_60, c_61, c_62, c_64, c_65, c_69, c_75, c_83, c_91, c_93, c_94, c_97, c_105, c_106, c_110, c_119, c_123, c_124, c_125, c_126, c_240, c_256, c_400, c_m, nI_m1, nM_i, lN_add, lN_mul, lN_i, nI_l, lN_eq, lgN_le, lgN_lt, lgN_ge, lgN_gt, nI_sub, nI_mul, d_0, d_1, c_13, c_14, c_18, c_19, c_20, c_21, c_22, c_23, c_24, c_25, c_26, c_27, c_28, c_29, c_30, c_31, c_33, c_34, c_37, c_39, c_46, c_47, c_49, c_50, c_51, c_52, c_53, c_54, c_55, c_56, c_63, c_66, c_67, c_68, c_70, c_71, c_72, c_73, c_74, c_76, c_77, c_78, c_79, c_80, c_81, c_82, c_84, c_85, c_86, c_87, c_88, c_89, c_90, c_92, c_95, c_96, c_98, c_99, c_100, c_101, c_102, c_103, c_104, c_107, c_108, c_109, c_111, c_112, c_113, c_114, c_115, c_116, c_117, c_118, c_120, c_121, c_122, c_127, c_280, d_2, d_3, d_4, d_8, d_9, d_10, d_15, d_16, d_32, d_48, d_62, d_63, d_64, a3, hs, b1, b2, bo_1]
    · rw [if_neg hx] at hs b1
      rw [if_neg hx] at b1
      rw [if_pos (hc.resolve_left hx)] at hl
      simp (disch := omega) only [ax_let, Option.bind_some, cond_true, cond_false, if_pos, if_neg, if_true, if_false, eq_self, nI_add, nI_ltI, nI_leI, nI_eq, nI_clamp, pu_in, c_0, c_1, c_2, c_3, c_4, c_5, c_6, c_7, c_8, c_9, c_10, c_11, c_12, c_15, c_16, c_17, c_32, c_35, c_36, c_38, c_40, c_41, c_42, c_43, c_44, c_45, c_48, c_57, c_58, c_59, c_60, c_61, c_62, c_64, c_65, c_69, c_75, c_83, c_91, c_93, c_94, c_97, c_105, c_106, c_110, c_119, c_123, c_124, c_125, c_126, c_240, c_256, c_400, c_m, nI_m1, nM_i, lN_add, lN_mul, lN_i, nI_l, lN_eq, lgN_le, lgN_lt, lgN_ge, lgN_gt, nI_sub, nI_mul, d_0, d_1, c_13, c_14, c_18, c_19, c_20, c_21, c_22, c_23, c_24, c_25, c_26, c_27, c_28, c_29, c_30, c_31, c_33, c_34, c_37, c_39, c_46, c_47, c_49, c_50, c_51, c_52, c_53, c_54, c_55, c_56, c_63, c_66, c_67, c_68, c_70, c_71, c_72, c_73, c_74, c_76, c_77, c_78, c_79, c_80, c_81, c_82, c_84, c_85, c_86, c_87, c_88, c_89, c_90, c_92, c_95, c_96, c_98, c_99, c_100, c_101, c_102, c_103, c_104, c_107, c_108, c_109, c_111, c_112, c_113, c_114, c_115, c_116, c_117, c_118, c_120, c_121, c_122, c_127, c_280, d_2, d_3, d_4, d_8, d_9, d_10, d_15, d_16, d_32, d_48, d_62, d_63, d_64, a3, hs, hl, b1, b2, bo_1]
  have hlen := cFs_len Fs
  have hM : ZM (Ops.flatMap (·.2.2.2)) s2 := a6.keep b6 (fun r k h => by unfold XC1; omega)
  obtain ⟨s3, d1, d2, d3⟩ := h.step (ph := ph) (by omega) (by omega) (by cases hd : isD c with | false => rfl | true => have := isD_i.mp hd; omega) hD (XC1.m b6) b5 b3 hM b4 (by simp only [List.length_append, List.length_singleton, List.length_replicate]; omega) (by omega) (by omega)
  refine ⟨s3, ⟨Pr ++ [c], ?_, (XZm.e (XC1.m b6)).trans (XP.e d3)⟩, d1⟩
  rw [fm_r, List.flatMap_append]
  simp only [List.flatMap_cons, List.flatMap_nil, List.append_nil]
  exact d2
theorem zx_cmd {c p : Nat} (hFs : ZF (cFs Fs) s) (h12 : (cFs Fs).length ≤ 12) (h7 : s.1 0 38 7 = nI (cMd Fs)) (hc : isD c = true) : ∃ s1, zdis F (cMd Fs) c p s = some (nI 0, s1) ∧ frm XZm s s1 := by
  have hc' := isD_i.mp hc
  unfold cMd at h7 ⊢
  match hx : cFs Fs, hFs, h12 with
  | [], hFs, h12 =>
    rw [hx] at h7
    have h7 : s.1 0 38 7 = nI 25 := h7
    refine ⟨s, ?_, frm.refl⟩
    show zdis F 25 c p s = _
    unfold zdis f_Z_acceptsExpression
    simp (disch := omega) only [ax_let, Option.bind_some, cond_true, cond_false, if_pos, if_neg, if_true, if_false, eq_self, nI_add, nI_ltI, nI_leI, nI_eq, nI_clamp, pu_in, c_0, c_1, c_2, c_3, c_4, c_5, c_6, c_7, c_8, c_9, c_10, c_11, c_12, c_15, c_16, c_17, c_32, c_35, c_36, c_38, c_40, c_41, c_42, c_43, c_44, c_45, c_48, c_57, c_58, c_59, c_60, c_61, c_62, c_64, c_65, c_69, c_75, c_83, c_91, c_93, c_94, c_97, c_105, c_106, c_110, c_119, c_123, c_124, c_125, c_126, c_240, c_256, c_400, c_m, nI_m1, nM_i, lN_add, lN_mul, lN_i, nI_l, lN_eq, lgN_le, lgN_lt, lgN_ge, lgN_gt, nI_sub, nI_mul, d_0, d_1, c_13, c_14, c_18, c_19, c_20, c_21, c_22, c_23, c_24, c_25, c_26, c_27, c_28, c_29, c_30, c_31, c_33, c_34, c_37, c_39, c_46, c_47, c_49, c_50, c_51, c_52, c_53, c_54, c_55, c_56, c_63, c_66, c_67, c_68, c_70, c_71, c_72, c_73, c_74, c_76, c_77, c_78, c_79, c_80, c_81, c_82, c_84, c_85, c_86, c_87, c_88, c_89, c_90, c_92, c_95, c_96, c_98, c_99, c_100, c_101, c_102, c_103, c_104, c_107, c_108, c_109, c_111, c_112, c_113, c_114, c_115, c_116, c_117, c_118, c_120, c_121, c_122, c_127, c_280, d_2, d_3, d_4, d_8, d_9, d_10, d_15, d_16, d_32, d_48, d_62, d_63, d_64, h7]
  | x :: Fs', hFs, h12 =>
    rw [hx] at h7
    have h49 : s.1 0 38 49 = nI (Fs'.length + 1) := hFs.1
    rw [List.length_cons] at h12
    have e1 : Fs'.length + 1 - 1 = Fs'.length := by omega
    show ∃ s1, zdis F (if x = 1 then 21 else 24) c p s = _ ∧ _
    have h7 : s.1 0 38 7 = nI (if x = 1 then 21 else 24) := h7
    by_cases h1 : x = 1
    · rw [if_pos h1] at h7 ⊢
      refine ⟨ax_wI (ax_wI s 0 66 Fs'.length (nI 1)) 0 38 7 (nI 22), ?_, by refine (frm.refl.wI _ _ _ _ ?_).wI _ _ _ _ ?_ <;> unfold XZm <;> omega⟩
      unfold zdis f_Z_acceptsExpression
      simp (disch := omega) only [ax_let, Option.bind_some, cond_true, cond_false, if_pos, if_neg, if_true, if_false, eq_self, nI_add, nI_ltI, nI_leI, nI_eq, nI_clamp, pu_in, c_0, c_1, c_2, c_3, c_4, c_5, c_6, c_7, c_8, c_9, c_10, c_11, c_12, c_15, c_16, c_17, c_32, c_35, c_36, c_38, c_40, c_41, c_42, c_43, c_44, c_45, c_48, c_57, c_58, c_59, c_60, c_61, c_62, c_64, c_65, c_69, c_75, c_83, c_91, c_93, c_94, c_97, c_105, c_106, c_110, c_119, c_123, c_124, c_125, c_126, c_240, c_256, c_400, c_m, nI_m1, nM_i, lN_add, lN_mul, lN_i, nI_l, lN_eq, lgN_le, lgN_lt, lgN_ge, lgN_gt, nI_sub, nI_mul, d_0, d_1, c_13, c_14, c_18, c_19, c_20, c_21, c_22, c_23, c_24, c_25, c_26, c_27, c_28, c_29, c_30, c_31, c_33, c_34, c_37, c_39, c_46, c_47, c_49, c_50, c_51, c_52, c_53, c_54, c_55, c_56, c_63, c_66, c_67, c_68, c_70, c_71, c_72, c_73, c_74, c_76, c_77, c_78, c_79, c_80, c_81, c_82, c_84, c_85, c_86, c_87, c_88, c_89, c_90, c_92, c_95, c_96, c_98, c_99, c_100, c_101, c_102, c_103, c_104, c_107, c_108, c_109, c_111, c_112, c_113, c_114, c_115, c_116, c_117, c_118, c_120, c_121, c_122, c_127, c_280, d_2, d_3, d_4, d_8, d_9, d_10, d_15, d_16, d_32, d_48, d_62, d_63, d_64, h7, h49, e1]
    · rw [if_neg h1] at h7 ⊢
      refine ⟨s, ?_, frm.refl⟩
      unfold zdis f_Z_acceptsExpression
      simp (disch := omega) only [ax_let, Option.bind_some, cond_true, cond_false, if_pos, if_neg, if_true, if_false, eq_self, nI_add, nI_ltI, nI_leI, nI_eq, nI_clamp, pu_in, c_0, c_1, c_2, c_3, c_4, c_5, c_6, c_7, c_8, c_9, c_10, c_11, c_12, c_15, c_16, c_17, c_32, c_35, c_36, c_38, c_40, c_41, c_42, c_43, c_44, c_45, c_48, c_57, c_58, c_59, c_60, c_61, c_62, c_64, c_65, c_69, c_75, c_83, c_91, c_93, c_94, c_97, c_105, c_106, c_110, c_119, c_123, c_124, c_125, c_126, c_240, c_256, c_400, c_m, nI_m1, nM_i, lN_add, lN_mul, lN_i, nI_l, lN_eq, lgN_le, lgN_lt, lgN_ge, lgN_gt, nI_sub, nI_mul, d_0, d_1, c_13, c_14, c_18, c_19, c_20, c_21, c_22, c_23, c_24, c_25, c_26, c_27, c_28, c_29, c_30, c_31, c_33, c_34, c_37, c_39, c_46, c_47, c_49, c_50, c_51, c_52, c_53, c_54, c_55, c_56, c_63, c_66, c_67, c_68, c_70, c_71, c_72, c_73, c_74, c_76, c_77, c_78, c_79, c_80, c_81, c_82, c_84, c_85, c_86, c_87, c_88, c_89, c_90, c_92, c_95, c_96, c_98, c_99, c_100, c_101, c_102, c_103, c_104, c_107, c_108, c_109, c_111, c_112, c_113, c_114, c_115, c_116, c_117, c_118, c_120, c_121, c_122, c_127, c_280, d_2, d_3, d_4, d_8, d_9, d_10, d_15, d_16, d_32, d_48, d_62, d_63, d_64, h7]
theorem cMd_w (Fs : List Nat) : ¬ wants (cMd Fs) ∧ (cMd Fs = 21 ∨ cMd Fs = 24 ∨ cMd Fs = 25) := by
  have : cMd Fs = 21 ∨ cMd Fs = 24 ∨ cMd Fs = 25 := by
    unfold cMd
    split
    · omega
    · split <;> omega
  refine ⟨?_, this⟩
  unfold wants
  omega
/-- a number -/
theorem ZE.num20 {v p : Nat} (hF : 241 ≤ F) (h : ZE R n f 20 ts Tot Pr Ops (Ops.flatMap (·.2.2.2)) Fs s) (hp : pNum ts = some (v, p, r)) : zq ph R F n f ts s (.ok ([(4, v, p, [])], r)) (zKe R n f Tot Ops Fs s) := by
  have hw : wants 20 := Or.inr (Or.inr (Or.inr (Or.inr (Or.inl rfl))))
  obtain ⟨s7, e1, e2, e3, e4, e5, e6, e7, e8, e9, e10, e11, e12, e13, e14, e15, e16⟩ := h.num hF hw (by omega) hp
  obtain ⟨a1, a2, a3, a4, a5, a6, a7, ⟨a8, a9, a10, a11, a12⟩, a13⟩ := h
  obtain ⟨s1, s2, b1, b2, b3, b4, b5, b6⟩ := ze_leaf (F := F) (k := 4) (v := v) (p := p) hF (by omega) e3 e5 (by omega) a11
  have hE : f_Z_endNumber F (zN s 0 v p) = some s2 := by
    have h7' : (zN s 0 v p).1 0 38 7 = nI 20 := (zN_o s 0 v p (by omega)).trans a3
    have h9' := zN_9 s 0 v p
    unfold f_Z_endNumber
    simp (disch := omega) only [ax_let, Option.bind_some, cond_true, cond_false, if_pos, if_neg, if_true, if_false, eq_self, nI_add, nI_ltI, nI_leI, nI_eq, nI_clamp, pu_in, c_0, c_1, c_2, c_3, c_4, c_5, c_6, c_7, c_8, c_9, c_10, c_11, c_12, c_15, c_16, c_17, c_32, c_35, c_36, c_38, c_40, c_41, c_42, c_43, c_44, c_45, c_48, c_57, c_58, c_59, c_60, c_61, c_62, c_64, c_65, c_69, c_75, c_83, c_91, c_93, c_94, c_97, c_105, c_106, c_110, c_119, c_123, c_124, c_125, c_126, c_240, c_256, c_400, c_m, nI_m1, nM_i, lN_add, lN_mul, lN_i, nI_l, lN_eq, lgN_le, lgN_lt, lgN_ge, lgN_gt, nI_sub, nI_mul, d_0, d_1, c_13, c_14, c_18, c_19, c_20, c_21, c_22, c_23, c_24, c_25, c_26, c_27, c_28, c_29, c_30, c_31, c_33, c_34, c_37, c_39, c_46, c_47, c_49, c_50, c_51, c_52, c_53, c_54, c_55, c_56, c_63, c_66, c_67, c_68, c_70, c_71, c_72, c_73, c_74, c_76, c_77, c_78, c_79, c_80, c_81, c_82, c_84, c_85, c_86, c_87, c_88, c_89, c_90, c_92, c_95, c_96, c_98, c_99, c_100, c_101, c_102, c_103, c_104, c_107, c_108, c_109, c_111, c_112, c_113, c_114, c_115, c_116, c_117, c_118, c_120, c_121, c_122, c_127, c_280, d_2, d_3, d_4, d_8, d_9, d_10, d_15, d_16, d_32, d_48, d_62, d_63, d_64, zN_0, h7', h9', e1, e6, e8, e9, b1, b2]
  have ff : frm XZe s s2 := (e16.imp (fun g r k h => by unfold XZe; omega)).trans (XZm.e (XC1.m b6))
  have h8' : s2.1 0 38 8 = nI 0 := (b6.1 0 38 8 (by unfold XC1; omega)).trans e7
  have hP2 : ZP (Pr ++ dec v) s2 := e2.keep b6 (fun r k h => by unfold XC1; omega)
  have hlen := cFs_len Fs
  obtain ⟨cw, cw2⟩ := cMd_w Fs
  refine ⟨s2, ⟨Pr ++ dec v, ⟨a1.keep (XZe.z ff), h8', b5, hP2, b3, ?_, b4, ⟨e12, by simp only [List.length_append, List.length_singleton, List.length_replicate]; omega, ?_, by omega, e14⟩, e15 _ cw⟩, ff⟩, z_num a1 a2 a3 hw hp hE (XZe.z ff) h8' (z_rejd b5 (by omega) cw hP2 (by omega) (fun c p hc => zx_cmd b4 (by omega) b5 hc))⟩
  · rw [fm_r, List.flatMap_append]
    simp only [List.flatMap_cons, List.flatMap_nil, List.append_nil]
    exact e4.keep b6 (fun r k h => by unfold XC1; omega)
  · rw [fm_r, List.flatMap_append]
    simp only [List.flatMap_cons, List.flatMap_nil, List.append_nil]
    omega
end
