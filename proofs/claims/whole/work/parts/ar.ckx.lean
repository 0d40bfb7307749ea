/-! PURE: the class checks the indexes -/
abbrev lZ (z : Int) : Int64 := Int64.ofInt z
theorem lN_Z (n : Nat) : lN n = lZ (n : Int) := Int64.ofInt_eq_ofNat.symm
theorem lZ_add (a b : Int) : lZ a + lZ b = lZ (a + b) := (Int64.ofInt_add a b).symm
theorem lZ_sub (a b : Int) : lZ a - lZ b = lZ (a - b) := (Int64.ofInt_sub a b).symm
theorem lZ_mul (a b : Int) : lZ a * lZ b = lZ (a * b) := (Int64.ofInt_mul a b).symm
theorem lZ_lt {a b : Int} (ha : -2 ^ 62 ≤ a ∧ a ≤ 2 ^ 62) (hb : -2 ^ 62 ≤ b ∧ b ≤ 2 ^ 62) : lZ a < lZ b ↔ a < b := by
  rw [Int64.lt_iff_toInt_lt, Int64.toInt_ofInt_of_le (by omega) (by omega), Int64.toInt_ofInt_of_le (by omega) (by omega)]
theorem lgZ_lt {a b : Int} (ha : -2 ^ 62 ≤ a ∧ a ≤ 2 ^ 62) (hb : -2 ^ 62 ≤ b ∧ b ≤ 2 ^ 62) : (lg_cmp (lZ a) (lZ b) < nI 0) ↔ a < b := (lg_cmp_lt _ _).trans (lZ_lt ha hb)
theorem nI_tu : ∀ t, t < 17 → (nI t - nI 1).toInt64 = lZ ((t : Int) - 1) := by decide +kernel
theorem mul_bd {x : Int} {t : Nat} (ht : t < 17) (h1 : -2 ^ 41 ≤ x) (h2 : x ≤ 2 ^ 41) : -2 ^ 50 ≤ x * ((t : Int) - 1) ∧ x * ((t : Int) - 1) ≤ 2 ^ 50 := by
  rcases (show t = 0 ∨ t = 1 ∨ t = 2 ∨ t = 3 ∨ t = 4 ∨ t = 5 ∨ t = 6 ∨ t = 7 ∨ t = 8 ∨ t = 9 ∨ t = 10 ∨ t = 11 ∨ t = 12 ∨ t = 13 ∨ t = 14 ∨ t = 15 ∨ t = 16 by omega) with rfl | rfl | rfl | rfl | rfl | rfl | rfl | rfl | rfl | rfl | rfl | rfl | rfl | rfl | rfl | rfl | rfl <;> omega
theorem mx_0 {a : Int} (h : -2 ^ 60 ≤ a ∧ a ≤ 2 ^ 60) : f_Math_max_JJ (lZ ((0 : Nat) : Int)) (lZ a) = some (lZ (max 0 a)) := by
  unfold f_Math_max_JJ
  by_cases h0 : 0 < a
  · rw [if_pos ((lg_cmp_lt _ _).mpr ((lZ_lt (by omega) (by omega)).mpr (by omega)))]
    rw [show max 0 a = a from by omega]
  · rw [if_neg (fun e => h0 (by have := (lZ_lt (by omega) (by omega)).mp ((lg_cmp_lt _ _).mp e); omega))]
    rw [show max 0 a = ((0 : Nat) : Int) from by omega]
/-- turns and growth by LETTER -/
abbrev TG : Type := Nat × Nat × Nat × Nat
def tgM (q : TG) (s : ax_σ) : Prop := s.1 0 30 0 = nI q.1 ∧ s.1 0 30 1 = nI q.2.1 ∧ s.1 0 31 0 = nI q.2.2.1 ∧ s.1 0 31 1 = nI q.2.2.2 ∧ q.1 < 17 ∧ q.2.1 < 17 ∧ q.2.2.1 < 2 ^ 20 ∧ q.2.2.2 < 2 ^ 20
abbrev cuP (x : C5) (q : TG) (n : Nat) (w : Bool) : Prop := cuT x.2.1 x.2.2.1 x.2.2.2.1 q.1 q.2.1 q.2.2.1 q.2.2.2 n w
theorem rd_cu {g p B I J n : Nat} {w : Bool} {q : TG} {s : ax_σ} (hp : p < 240) (h6 : s.2 g 6 p = lN B) (h7 : s.2 g 7 p = lN I) (h8 : s.2 g 8 p = lN J) (hB : B < 2 ^ 40) (hI : I < 2 ^ 40) (hJ : J < 2 ^ 40) (hn : n < 2 ^ 31) (hq : tgM q s) : f_R_comesUpTo g (nI p) (nI n) (if w = true then nI 1 else nI 0) s = some (if cuT B I J q.1 q.2.1 q.2.2.1 q.2.2.2 n w then nI 1 else nI 0) := by
  obtain ⟨u0, u1, g0, g1⟩ := q
  obtain ⟨q1, q2, q3, q4, b1, b2, b3, b4⟩ := hq
  simp only at q1 q2 q3 q4 b1 b2 b3 b4
  have t0 := nI_tu u0 b1
  have t1 := nI_tu u1 b2
  have key : ∀ a0 a1 : Nat, a0 < 2 ^ 20 → a1 < 2 ^ 20 → Option.bind (f_Math_max_JJ (lN 0) ((lN I - lN a0) * lZ ((u0 : Int) - 1))) (fun r11 => Option.bind (f_Math_max_JJ (lN 0) ((lN J - lN a1) * lZ ((u1 : Int) - 1))) (fun r14 => if lg_cmp ((lN B + r11) + r14) (lN n) < nI 0 then some (nI 0) else some (nI 1))) = some (if (n : Int) ≤ (B : Int) + max 0 (((I : Int) - a0) * ((u0 : Int) - 1)) + max 0 (((J : Int) - a1) * ((u1 : Int) - 1)) then nI 1 else nI 0) := by
    intro a0 a1 h0 h1
    have m0 := mul_bd (x := (I : Int) - a0) b1 (by omega) (by omega)
    have m1 := mul_bd (x := (J : Int) - a1) b2 (by omega) (by omega)
    simp only [lN_Z, lZ_sub, lZ_mul]
    generalize ((I : Int) - a0) * ((u0 : Int) - 1) = y0 at *
    generalize ((J : Int) - a1) * ((u1 : Int) - 1) = y1 at *
    rw [mx_0 (by omega), Option.bind_some, mx_0 (by omega), Option.bind_some, lZ_add, lZ_add]
    by_cases h : (n : Int) ≤ (B : Int) + max 0 y0 + max 0 y1
    · rw [if_pos h, if_neg (by rw [lgZ_lt (by omega) (by omega)]; omega)]
    · rw [if_neg h, if_pos (by rw [lgZ_lt (by omega) (by omega)]; omega)]
  unfold f_R_comesUpTo
  cases w with
  | true =>
    simp (disch := omega) only [ax_let, Option.bind_some, cond_true, cond_false, if_pos, if_neg, if_true, if_false, eq_self, nI_add, nI_ltI, nI_leI, nI_eq, nI_clamp, pu_in, c_0, c_1, c_2, c_3, c_4, c_5, c_6, c_7, c_8, c_9, c_10, c_11, c_12, c_15, c_16, c_17, c_32, c_35, c_36, c_38, c_40, c_41, c_42, c_43, c_44, c_45, c_48, c_57, c_58, c_59, c_60, c_61, c_62, c_64, c_65, c_69, c_75, c_83, c_91, c_93, c_94, c_97, c_105, c_106, c_110, c_119, c_123, c_124, c_125, c_126, c_240, c_256, c_400, c_m, nI_m1, nM_i, lN_add, lN_mul, lN_i, nI_l, lN_eq, lgN_le, lgN_lt, lgN_ge, lgN_gt, nI_sub, nI_mul, d_0, d_1, c_13, c_14, c_18, c_19, c_20, c_21, c_22, c_23, c_24, c_25, c_26, c_27, c_28, c_29, c_30, c_31, c_33, c_34, c_37, c_39, c_46, c_47, c_49, c_50, c_51, c_52, c_53, c_54, c_55, c_56, c_63, c_66, c_67, c_68, c_70, c_71, c_72, c_73, c_74, c_76, c_77, c_78, c_79, c_80, c_81, c_82, c_84, c_85, c_86, c_87, c_88, c_89, c_90, c_92, c_95, c_96, c_98, c_99, c_100, c_101, c_102, c_103, c_104, c_107, c_108, c_109, c_111, c_112, c_113, c_114, c_115, c_116, c_117, c_118, c_120, c_121, c_122, c_127, c_280, d_2, d_3, d_4, d_8, d_9, d_10, d_15, d_16, d_32, d_48, d_62, d_63, d_64, h6, h7, h8, q1, q2, q3, q4, t0, t1]
    exact key g0 g1 b3 b4
  | false =>
    rw [show (if false = true then nI 1 else nI 0) = nI 0 from rfl]
    simp (disch := omega) only [ax_let, Option.bind_some, cond_true, cond_false, if_pos, if_neg, if_true, if_false, eq_self, nI_add, nI_ltI, nI_leI, nI_eq, nI_clamp, pu_in, c_0, c_1, c_2, c_3, c_4, c_5, c_6, c_7, c_8, c_9, c_10, c_11, c_12, c_15, c_16, c_17, c_32, c_35, c_36, c_38, c_40, c_41, c_42, c_43, c_44, c_45, c_48, c_57, c_58, c_59, c_60, c_61, c_62, c_64, c_65, c_69, c_75, c_83, c_91, c_93, c_94, c_97, c_105, c_106, c_110, c_119, c_123, c_124, c_125, c_126, c_240, c_256, c_400, c_m, nI_m1, nM_i, lN_add, lN_mul, lN_i, nI_l, lN_eq, lgN_le, lgN_lt, lgN_ge, lgN_gt, nI_sub, nI_mul, d_0, d_1, c_13, c_14, c_18, c_19, c_20, c_21, c_22, c_23, c_24, c_25, c_26, c_27, c_28, c_29, c_30, c_31, c_33, c_34, c_37, c_39, c_46, c_47, c_49, c_50, c_51, c_52, c_53, c_54, c_55, c_56, c_63, c_66, c_67, c_68, c_70, c_71, c_72, c_73, c_74, c_76, c_77, c_78, c_79, c_80, c_81, c_82, c_84, c_85, c_86, c_87, c_88, c_89, c_90, c_92, c_95, c_96, c_98, c_99, c_100, c_101, c_102, c_103, c_104, c_107, c_108, c_109, c_111, c_112, c_113, c_114, c_115, c_116, c_117, c_118, c_120, c_121, c_122, c_127, c_280, d_2, d_3, d_4, d_8, d_9, d_10, d_15, d_16, d_32, d_48, d_62, d_63, d_64, h6, h7, h8, q1, q2, q3, q4, t0, t1]
    exact key 0 0 (by decide) (by decide)
def PM (g : Nat) (P5 : List C5) (s : ax_σ) : Prop := P5.length ≤ 240 ∧ ∀ i x, P5[i]? = some x → s.1 g 5 i = nI x.1 ∧ s.2 g 6 i = lN x.2.1 ∧ s.2 g 7 i = lN x.2.2.1 ∧ s.2 g 8 i = lN x.2.2.2.1 ∧ s.1 g 9 i = x.2.2.2.2
def PW (x : C5) : Prop := x.1 < 128 ∧ x.2.1 < 2 ^ 40 ∧ x.2.2.1 < 2 ^ 40 ∧ x.2.2.2.1 < 2 ^ 40 ∧ (x.2.2.2.2 = nM ∨ ∃ p, p ≤ 240 ∧ x.2.2.2.2 = nI p)
def ckN (m : Nat) (q : TG) (sk ky : Nat) (w : Bool) (x : C5) : Prop := ∀ p, p ≤ 240 → x.2.2.2.2 = nI p → ((x.1 = 75 ∧ cuP x q ky false) ∨ (x.1 = 83 ∧ cuP x q sk w)) → m ≤ p * 8 + 3
def X7 (g r k : Nat) : Prop := g = 0 ∧ r = 25 ∧ k = 7
theorem PM.keep {g : Nat} {P5 : List C5} {s s' : ax_σ} {Q : Nat → Nat → Nat → Prop} (h : PM g P5 s) (hf : frm Q s s') (hq : ∀ r k, 5 ≤ r → r ≤ 9 → ¬ Q g r k) : PM g P5 s' := by
  refine ⟨h.1, fun i x hi => ?_⟩
  obtain ⟨a, b, c, d, e⟩ := h.2 i x hi
  exact ⟨(hf.1 _ _ _ (hq _ _ (by omega) (by omega))).trans a, (hf.2 _ _ _ (hq _ _ (by omega) (by omega))).trans b, (hf.2 _ _ _ (hq _ _ (by omega) (by omega))).trans c, (hf.2 _ _ _ (hq _ _ (by omega) (by omega))).trans d, (hf.1 _ _ _ (hq _ _ (by omega) (by omega))).trans e⟩
theorem tgM.keep {q : TG} {s s' : ax_σ} {Q : Nat → Nat → Nat → Prop} (h : tgM q s) (hf : frm Q s s') (hq : ∀ r k, r = 30 ∨ r = 31 → ¬ Q 0 r k) : tgM q s' := by
  obtain ⟨a, b, c, d, e⟩ := h
  exact ⟨(hf.1 _ _ _ (hq _ _ (by omega))).trans a, (hf.1 _ _ _ (hq _ _ (by omega))).trans b, (hf.1 _ _ _ (hq _ _ (by omega))).trans c, (hf.1 _ _ _ (hq _ _ (by omega))).trans d, e⟩
theorem ck_step {F g ln e sk ky i M lf : Nat} {w : Bool} {q : TG} {P5 : List C5} {x : C5} {s : ax_σ} (hln : ln < 120) (he : e ≤ 240) (hi : i < e) (h18 : s.1 g 18 ln = nI e) (hky : s.1 g 1 2 = nI ky) (hk1 : ky < 2 ^ 31) (hk2 : sk < 2 ^ 31) (hlf : s.1 0 25 7 = nI lf) (hl2 : lf ≤ 1928) (hq : tgM q s) (hP : PM g P5 s) (hx : P5[i]? = some x) (hw : PW x) : ∃ s' lf', lp_R_checkIndexesOf_57 F g (nI ln) (if w = true then nI 1 else nI 0) (nI sk) (M + 1) (nI i) s = lp_R_checkIndexesOf_57 F g (nI ln) (if w = true then nI 1 else nI 0) (nI sk) M (nI (i + 1)) s' ∧ s'.1 0 25 7 = nI lf' ∧ lf' ≤ 1928 ∧ (∀ m, m ≤ lf' ↔ m ≤ lf ∧ ckN m q sk ky w x) ∧ frm X7 s s' := by
  obtain ⟨m1, m2, m3, m4, m5⟩ := hP.2 i x hx
  obtain ⟨w1, w2, w3, w4, w5⟩ := hw
  have c1 := rd_cu (w := false) (n := ky) (show i < 240 by omega) m2 m3 m4 w2 w3 w4 hk1 hq
  have c2 := rd_cu (w := w) (n := sk) (show i < 240 by omega) m2 m3 m4 w2 w3 w4 hk2 hq
  have c1 : f_R_comesUpTo g (nI i) (nI ky) (nI 0) s = some (if cuP x q ky false then nI 1 else nI 0) := c1
  generalize hww : (if w = true then nI 1 else nI 0) = ww at *
  have hskip : (¬ ((x.1 = 75 ∧ cuP x q ky false) ∨ (x.1 = 83 ∧ cuP x q sk w)) ∨ x.2.2.2.2 = nM) → ∀ m, (m ≤ lf ↔ m ≤ lf ∧ ckN m q sk ky w x) := by
    intro h m
    refine ⟨fun k => ⟨k, fun p hp hpl hb => ?_⟩, fun k => k.1⟩
    rcases h with h | h
    · exact absurd hb h
    · rw [h] at hpl
      exact absurd hpl.symm (by rw [nI_m1 (by omega)]; exact id)
  have hnote : ∀ p, p ≤ 240 → x.2.2.2.2 = nI p → ((x.1 = 75 ∧ cuP x q ky false) ∨ (x.1 = 83 ∧ cuP x q sk w)) → ∀ m, (m ≤ min lf (p * 8 + 3) ↔ m ≤ lf ∧ ckN m q sk ky w x) := by
    intro p hp hpl hb m
    constructor
    · intro k
      refine ⟨by omega, fun p' hp' hpl' _ => ?_⟩
      rw [hpl, nI_eq (by omega) (by omega)] at hpl'
      omega
    · rintro ⟨k1, k2⟩
      have := k2 p hp hpl hb
      omega
  by_cases h75 : x.1 = 75
  · rw [h75] at m1
    by_cases hc : cuP x q ky false
    · rw [if_pos hc] at c1
      rcases w5 with hp | ⟨p, hp, hpl⟩
      · rw [hp] at m5
        refine ⟨s, lf, ?_, hlf, hl2, hskip (Or.inr hp), frm.refl⟩
        rw [lp_R_checkIndexesOf_57]
        simp (disch := omega) only [ax_let, Option.bind_some, cond_true, cond_false, if_pos, if_neg, if_true, if_false, eq_self, nI_add, nI_ltI, nI_leI, nI_eq, nI_clamp, pu_in, c_0, c_1, c_2, c_3, c_4, c_5, c_6, c_7, c_8, c_9, c_10, c_11, c_12, c_15, c_16, c_17, c_32, c_35, c_36, c_38, c_40, c_41, c_42, c_43, c_44, c_45, c_48, c_57, c_58, c_59, c_60, c_61, c_62, c_64, c_65, c_69, c_75, c_83, c_91, c_93, c_94, c_97, c_105, c_106, c_110, c_119, c_123, c_124, c_125, c_126, c_240, c_256, c_400, c_m, nI_m1, nM_i, lN_add, lN_mul, lN_i, nI_l, lN_eq, lgN_le, lgN_lt, lgN_ge, lgN_gt, nI_sub, nI_mul, d_0, d_1, c_13, c_14, c_18, c_19, c_20, c_21, c_22, c_23, c_24, c_25, c_26, c_27, c_28, c_29, c_30, c_31, c_33, c_34, c_37, c_39, c_46, c_47, c_49, c_50, c_51, c_52, c_53, c_54, c_55, c_56, c_63, c_66, c_67, c_68, c_70, c_71, c_72, c_73, c_74, c_76, c_77, c_78, c_79, c_80, c_81, c_82, c_84, c_85, c_86, c_87, c_88, c_89, c_90, c_92, c_95, c_96, c_98, c_99, c_100, c_101, c_102, c_103, c_104, c_107, c_108, c_109, c_111, c_112, c_113, c_114, c_115, c_116, c_117, c_118, c_120, c_121, c_122, c_127, c_280, d_2, d_3, d_4, d_8, d_9, d_10, d_15, d_16, d_32, d_48, d_62, d_63, d_64, h18, hky, m1, m5, c1]
      · rw [hpl] at m5
        have hno := rd_note (g := g) (c := 3) hlf (by omega) (show p * 8 + 3 < 2 ^ 31 by omega)
        refine ⟨ax_wI s 0 25 7 (nI (min lf (p * 8 + 3))), min lf (p * 8 + 3), ?_, by rw [wI_1, if_pos ⟨rfl, rfl, rfl⟩], by omega, hnote p hp hpl (Or.inl ⟨h75, hc⟩), frm.refl.wI _ _ _ _ ⟨rfl, rfl, rfl⟩⟩
        rw [lp_R_checkIndexesOf_57]
        simp (disch := omega) only [ax_let, Option.bind_some, cond_true, cond_false, if_pos, if_neg, if_true, if_false, eq_self, nI_add, nI_ltI, nI_leI, nI_eq, nI_clamp, pu_in, c_0, c_1, c_2, c_3, c_4, c_5, c_6, c_7, c_8, c_9, c_10, c_11, c_12, c_15, c_16, c_17, c_32, c_35, c_36, c_38, c_40, c_41, c_42, c_43, c_44, c_45, c_48, c_57, c_58, c_59, c_60, c_61, c_62, c_64, c_65, c_69, c_75, c_83, c_91, c_93, c_94, c_97, c_105, c_106, c_110, c_119, c_123, c_124, c_125, c_126, c_240, c_256, c_400, c_m, nI_m1, nM_i, lN_add, lN_mul, lN_i, nI_l, lN_eq, lgN_le, lgN_lt, lgN_ge, lgN_gt, nI_sub, nI_mul, d_0, d_1, c_13, c_14, c_18, c_19, c_20, c_21, c_22, c_23, c_24, c_25, c_26, c_27, c_28, c_29, c_30, c_31, c_33, c_34, c_37, c_39, c_46, c_47, c_49, c_50, c_51, c_52, c_53, c_54, c_55, c_56, c_63, c_66, c_67, c_68, c_70, c_71, c_72, c_73, c_74, c_76, c_77, c_78, c_79, c_80, c_81, c_82, c_84, c_85, c_86, c_87, c_88, c_89, c_90, c_92, c_95, c_96, c_98, c_99, c_100, c_101, c_102, c_103, c_104, c_107, c_108, c_109, c_111, c_112, c_113, c_114, c_115, c_116, c_117, c_118, c_120, c_121, c_122, c_127, c_280, d_2, d_3, d_4, d_8, d_9, d_10, d_15, d_16, d_32, d_48, d_62, d_63, d_64, h18, hky, m1, m5, c1, hno]
    · rw [if_neg hc] at c1
      refine ⟨s, lf, ?_, hlf, hl2, hskip (Or.inl (fun e => e.elim (fun e => hc e.2) (fun e => by have := e.1; omega))), frm.refl⟩
      rw [lp_R_checkIndexesOf_57]
      simp (disch := omega) only [ax_let, Option.bind_some, cond_true, cond_false, if_pos, if_neg, if_true, if_false, eq_self, nI_add, nI_ltI, nI_leI, nI_eq, nI_clamp, pu_in, c_0, c_1, c_2, c_3, c_4, c_5, c_6, c_7, c_8, c_9, c_10, c_11, c_12, c_15, c_16, c_17, c_32, c_35, c_36, c_38, c_40, c_41, c_42, c_43, c_44, c_45, c_48, c_57, c_58, c_59, c_60, c_61, c_62, c_64, c_65, c_69, c_75, c_83, c_91, c_93, c_94, c_97, c_105, c_106, c_110, c_119, c_123, c_124, c_125, c_126, c_240, c_256, c_400, c_m, nI_m1, nM_i, lN_add, lN_mul, lN_i, nI_l, lN_eq, lgN_le, lgN_lt, lgN_ge, lgN_gt, nI_sub, nI_mul, d_0, d_1, c_13, c_14, c_18, c_19, c_20, c_21, c_22, c_23, c_24, c_25, c_26, c_27, c_28, c_29, c_30, c_31, c_33, c_34, c_37, c_39, c_46, c_47, c_49, c_50, c_51, c_52, c_53, c_54, c_55, c_56, c_63, c_66, c_67, c_68, c_70, c_71, c_72, c_73, c_74, c_76, c_77, c_78, c_79, c_80, c_81, c_82, c_84, c_85, c_86, c_87, c_88, c_89, c_90, c_92, c_95, c_96, c_98, c_99, c_100, c_101, c_102, c_103, c_104, c_107, c_108, c_109, c_111, c_112, c_113, c_114, c_115, c_116, c_117, c_118, c_120, c_121, c_122, c_127, c_280, d_2, d_3, d_4, d_8, d_9, d_10, d_15, d_16, d_32, d_48, d_62, d_63, d_64, h18, hky, m1, m5, c1]
  · by_cases h83 : x.1 = 83
    · rw [h83] at m1
      by_cases hc : cuP x q sk w
      · rw [if_pos hc] at c2
        rcases w5 with hp | ⟨p, hp, hpl⟩
        · rw [hp] at m5
          refine ⟨s, lf, ?_, hlf, hl2, hskip (Or.inr hp), frm.refl⟩
          rw [lp_R_checkIndexesOf_57]
          simp (disch := omega) only [ax_let, Option.bind_some, cond_true, cond_false, if_pos, if_neg, if_true, if_false, eq_self, nI_add, nI_ltI, nI_leI, nI_eq, nI_clamp, pu_in, c_0, c_1, c_2, c_3, c_4, c_5, c_6, c_7, c_8, c_9, c_10, c_11, c_12, c_15, c_16, c_17, c_32, c_35, c_36, c_38, c_40, c_41, c_42, c_43, c_44, c_45, c_48, c_57, c_58, c_59, c_60, c_61, c_62, c_64, c_65, c_69, c_75, c_83, c_91, c_93, c_94, c_97, c_105, c_106, c_110, c_119, c_123, c_124, c_125, c_126, c_240, c_256, c_400, c_m, nI_m1, nM_i, lN_add, lN_mul, lN_i, nI_l, lN_eq, lgN_le, lgN_lt, lgN_ge, lgN_gt, nI_sub, nI_mul, d_0, d_1, c_13, c_14, c_18, c_19, c_20, c_21, c_22, c_23, c_24, c_25, c_26, c_27, c_28, c_29, c_30, c_31, c_33, c_34, c_37, c_39, c_46, c_47, c_49, c_50, c_51, c_52, c_53, c_54, c_55, c_56, c_63, c_66, c_67, c_68, c_70, c_71, c_72, c_73, c_74, c_76, c_77, c_78, c_79, c_80, c_81, c_82, c_84, c_85, c_86, c_87, c_88, c_89, c_90, c_92, c_95, c_96, c_98, c_99, c_100, c_101, c_102, c_103, c_104, c_107, c_108, c_109, c_111, c_112, c_113, c_114, c_115, c_116, c_117, c_118, c_120, c_121, c_122, c_127, c_280, d_2, d_3, d_4, d_8, d_9, d_10, d_15, d_16, d_32, d_48, d_62, d_63, d_64, h18, hky, m1, m5, c2]
        · rw [hpl] at m5
          have hno := rd_note (g := g) (c := 3) hlf (by omega) (show p * 8 + 3 < 2 ^ 31 by omega)
          refine ⟨ax_wI s 0 25 7 (nI (min lf (p * 8 + 3))), min lf (p * 8 + 3), ?_, by rw [wI_1, if_pos ⟨rfl, rfl, rfl⟩], by omega, hnote p hp hpl (Or.inr ⟨h83, hc⟩), frm.refl.wI _ _ _ _ ⟨rfl, rfl, rfl⟩⟩
          rw [lp_R_checkIndexesOf_57]
          simp (disch := omega) only [ax_let, Option.bind_some, cond_true, cond_false, if_pos, if_neg, if_true, if_false, eq_self, nI_add, nI_ltI, nI_leI, nI_eq, nI_clamp, pu_in, c_0, c_1, c_2, c_3, c_4, c_5, c_6, c_7, c_8, c_9, c_10, c_11, c_12, c_15, c_16, c_17, c_32, c_35, c_36, c_38, c_40, c_41, c_42, c_43, c_44, c_45, c_48, c_57, c_58, c_59, c_60, c_61, c_62, c_64, c_65, c_69, c_75, c_83, c_91, c_93, c_94, c_97, c_105, c_106, c_110, c_119, c_123, c_124, c_125, c_126, c_240, c_256, c_400, c_m, nI_m1, nM_i, lN_add, lN_mul, lN_i, nI_l, lN_eq, lgN_le, lgN_lt, lgN_ge, lgN_gt, nI_sub, nI_mul, d_0, d_1, c_13, c_14, c_18, c_19, c_20, c_21, c_22, c_23, c_24, c_25, c_26, c_27, c_28, c_29, c_30, c_31, c_33, c_34, c_37, c_39, c_46, c_47, c_49, c_50, c_51, c_52, c_53, c_54, c_55, c_56, c_63, c_66, c_67, c_68, c_70, c_71, c_72, c_73, c_74, c_76, c_77, c_78, c_79, c_80, c_81, c_82, c_84, c_85, c_86, c_87, c_88, c_89, c_90, c_92, c_95, c_96, c_98, c_99, c_100, c_101, c_102, c_103, c_104, c_107, c_108, c_109, c_111, c_112, c_113, c_114, c_115, c_116, c_117, c_118, c_120, c_121, c_122, c_127, c_280, d_2, d_3, d_4, d_8, d_9, d_10, d_15, d_16, d_32, d_48, d_62, d_63, d_64, h18, hky, m1, m5, c2, hno]
      · rw [if_neg hc] at c2
        refine ⟨s, lf, ?_, hlf, hl2, hskip (Or.inl (fun e => e.elim (fun e => h75 e.1) (fun e => hc e.2))), frm.refl⟩
        rw [lp_R_checkIndexesOf_57]
        simp (disch := omega) only [ax_let, Option.bind_some, cond_true, cond_false, if_pos, if_neg, if_true, if_false, eq_self, nI_add, nI_ltI, nI_leI, nI_eq, nI_clamp, pu_in, c_0, c_1, c_2, c_3, c_4, c_5, c_6, c_7, c_8, c_9, c_10, c_11, c_12, c_15, c_16, c_17, c_32, c_35, c_36, c_38, c_40, c_41, c_42, c_43, c_44, c_45, c_48, c_57, c_58, c_59, c_60, c_61, c_62, c_64, c_65, c_69, c_75, c_83, c_91, c_93, c_94, c_97, c_105, c_106, c_110, c_119, c_123, c_124, c_125, c_126, c_240, c_256, c_400, c_m, nI_m1, nM_i, lN_add, lN_mul, lN_i, nI_l, lN_eq, lgN_le, lgN_lt, lgN_ge, lgN_gt, nI_sub, nI_mul, d_0, d_1, c_13, c_14, c_18, c_19, c_20, c_21, c_22, c_23, c_24, c_25, c_26, c_27, c_28, c_29, c_30, c_31, c_33, c_34, c_37, c_39, c_46, c_47, c_49, c_50, c_51, c_52, c_53, c_54, c_55, c_56, c_63, c_66, c_67, c_68, c_70, c_71, c_72, c_73, c_74, c_76, c_77, c_78, c_79, c_80, c_81, c_82, c_84, c_85, c_86, c_87, c_88, c_89, c_90, c_92, c_95, c_96, c_98, c_99, c_100, c_101, c_102, c_103, c_104, c_107, c_108, c_109, c_111, c_112, c_113, c_114, c_115, c_116, c_117, c_118, c_120, c_121, c_122, c_127, c_280, d_2, d_3, d_4, d_8, d_9, d_10, d_15, d_16, d_32, d_48, d_62, d_63, d_64, h18, hky, m1, m5, c2]
    · refine ⟨s, lf, ?_, hlf, hl2, hskip (Or.inl (fun e => e.elim (fun e => h75 e.1) (fun e => h83 e.1))), frm.refl⟩
      rw [lp_R_checkIndexesOf_57]
      simp (disch := omega) only [ax_let, Option.bind_some, cond_true, cond_false, if_pos, if_neg, if_true, if_false, eq_self, nI_add, nI_ltI, nI_leI, nI_eq, nI_clamp, pu_in, c_0, c_1, c_2, c_3, c_4, c_5, c_6, c_7, c_8, c_9, c_10, c_11, c_12, c_15, c_16, c_17, c_32, c_35, c_36, c_38, c_40, c_41, c_42, c_43, c_44, c_45, c_48, c_57, c_58, c_59, c_60, c_61, c_62, c_64, c_65, c_69, c_75, c_83, c_91, c_93, c_94, c_97, c_105, c_106, c_110, c_119, c_123, c_124, c_125, c_126, c_240, c_256, c_400, c_m, nI_m1, nM_i, lN_add, lN_mul, lN_i, nI_l, lN_eq, lgN_le, lgN_lt, lgN_ge, lgN_gt, nI_sub, nI_mul, d_0, d_1, c_13, c_14, c_18, c_19, c_20, c_21, c_22, c_23, c_24, c_25, c_26, c_27, c_28, c_29, c_30, c_31, c_33, c_34, c_37, c_39, c_46, c_47, c_49, c_50, c_51, c_52, c_53, c_54, c_55, c_56, c_63, c_66, c_67, c_68, c_70, c_71, c_72, c_73, c_74, c_76, c_77, c_78, c_79, c_80, c_81, c_82, c_84, c_85, c_86, c_87, c_88, c_89, c_90, c_92, c_95, c_96, c_98, c_99, c_100, c_101, c_102, c_103, c_104, c_107, c_108, c_109, c_111, c_112, c_113, c_114, c_115, c_116, c_117, c_118, c_120, c_121, c_122, c_127, c_280, d_2, d_3, d_4, d_8, d_9, d_10, d_15, d_16, d_32, d_48, d_62, d_63, d_64, h18, hky, m1, m5]
theorem ck_57 {F g ln e sk ky : Nat} {w : Bool} {q : TG} {P5 : List C5} (hln : ln < 120) (he : e ≤ 240) (heP : e ≤ P5.length) (hk1 : ky < 2 ^ 31) (hk2 : sk < 2 ^ 31) (hw : ∀ x ∈ P5, PW x) : ∀ (j i M lf : Nat) (s : ax_σ), i + j = e → j < M → s.1 g 18 ln = nI e → s.1 g 1 2 = nI ky → s.1 0 25 7 = nI lf → lf ≤ 1928 → tgM q s → PM g P5 s → ∃ s' lf', lp_R_checkIndexesOf_57 F g (nI ln) (if w = true then nI 1 else nI 0) (nI sk) M (nI i) s = some s' ∧ s'.1 0 25 7 = nI lf' ∧ lf' ≤ 1928 ∧ (∀ m, m ≤ lf' ↔ m ≤ lf ∧ ∀ k x, i ≤ k → k < e → P5[k]? = some x → ckN m q sk ky w x) ∧ frm X7 s s'
  | j, i, 0, lf, s, _, h, _, _, _, _, _, _ => absurd h (Nat.not_lt_zero _)
  | 0, i, M + 1, lf, s, hi, _, h18, hky, hlf, hl2, hq, hP => by
    refine ⟨s, lf, ?_, hlf, hl2, fun m => ⟨fun k => ⟨k, fun k x h1 h2 => by omega⟩, fun k => k.1⟩, frm.refl⟩
    rw [lp_R_checkIndexesOf_57]
    simp (disch := omega) only [ax_let, Option.bind_some, cond_true, cond_false, if_pos, if_neg, if_true, if_false, eq_self, nI_add, nI_ltI, nI_leI, nI_eq, nI_clamp, pu_in, c_0, c_1, c_2, c_3, c_4, c_5, c_6, c_7, c_8, c_9, c_10, c_11, c_12, c_15, c_16, c_17, c_32, c_35, c_36, c_38, c_40, c_41, c_42, c_43, c_44, c_45, c_48, c_57, c_58, c_59, c_60, c_61, c_62, c_64, c_65, c_69, c_75, c_83, c_91, c_93, c_94, c_97, c_105, c_106, c_110, c_119, c_123, c_124, c_125, c_126, c_240, c_256, c_400, c_m, nI_m1, nM_i, lN_add, lN_mul, lN_i, nI_l, lN_eq, lgN_le, lgN_lt, lgN_ge, lgN_gt, nI_sub, nI_mul, d_0, d_1, c_13, c_14, c_18, c_19, c_20, c_21, c_22, c_23, c_24, c_25, c_26, c_27, c_28, c_29, c_30, c_31, c_33, c_34, c_37, c_39, c_46, c_47, c_49, c_50, c_51, c_52, c_53, c_54, c_55, c_56, c_63, c_66, c_67, c_68, c_70, c_71, c_72, c_73, c_74, c_76, c_77, c_78, c_79, c_80, c_81, c_82, c_84, c_85, c_86, c_87, c_88, c_89, c_90, c_92, c_95, c_96, c_98, c_99, c_100, c_101, c_102, c_103, c_104, c_107, c_108, c_109, c_111, c_112, c_113, c_114, c_115, c_116, c_117, c_118, c_120, c_121, c_122, c_127, c_280, d_2, d_3, d_4, d_8, d_9, d_10, d_15, d_16, d_32, d_48, d_62, d_63, d_64, h18]
  | j + 1, i, M + 1, lf, s, hi, hM, h18, hky, hlf, hl2, hq, hP => by
    have hx : P5[i]? = some P5[i] := List.getElem?_eq_getElem (by omega)
    obtain ⟨s1, lf1, a1, a2, a3, a4, a5⟩ := ck_step (F := F) (M := M) (sk := sk) (w := w) hln he (show i < e by omega) h18 hky hk1 hk2 hlf hl2 hq hP hx (hw _ (List.getElem_mem _))
    obtain ⟨s2, lf2, b1, b2, b3, b4, b5⟩ := ck_57 (F := F) hln he heP hk1 hk2 hw j (i + 1) M lf1 s1 (by omega) (by omega) ((a5.1 _ _ _ (by unfold X7; omega)).trans h18) ((a5.1 _ _ _ (by unfold X7; omega)).trans hky) a2 a3 (hq.keep a5 (fun r k h => by unfold X7; omega)) (hP.keep a5 (fun r k h h2 => by unfold X7; omega))
    refine ⟨s2, lf2, a1.trans b1, b2, b3, fun m => ?_, a5.trans b5⟩
    rw [b4, a4]
    constructor
    · rintro ⟨⟨k1, k2⟩, k3⟩
      refine ⟨k1, fun k x h1 h2 h3 => ?_⟩
      by_cases e : k = i
      · subst e
        rw [hx] at h3
        cases h3
        exact k2
      · exact k3 k x (by omega) h2 h3
    · rintro ⟨k1, k2⟩
      exact ⟨⟨k1, k2 i _ (Nat.le_refl _) (by omega) hx⟩, fun k x h1 h2 h3 => k2 k x (by omega) h2 h3⟩
/-- one line's indexes -/
theorem rd_ckOf {F g ln tot ky lf : Nat} {q : TG} {P5 : List C5} {x : Ln} {s : ax_σ} (hF : 241 ≤ F) (hln : ln < 120) (hx : lnA g ln x s) (x1 : x.1 < 128) (x4 : x.2.2.2.1 ≤ x.2.2.2.2.1) (x5 : x.2.2.2.2.1 ≤ P5.length) (x6 : x.2.2.2.2.2 < 2 ^ 31) (ht : s.1 g 1 4 = nI tot) (ht2 : tot < 2 ^ 31) (hky : s.1 g 1 2 = nI ky) (hk1 : ky < 2 ^ 31) (hlf : s.1 0 25 7 = nI lf) (hl2 : lf ≤ 1928) (hq : tgM q s) (hP : PM g P5 s) (hw : ∀ x ∈ P5, PW x) : ∃ s' lf', f_R_checkIndexesOf F g (nI ln) s = some s' ∧ s'.1 0 25 7 = nI lf' ∧ lf' ≤ 1928 ∧ (∀ m, m ≤ lf' ↔ m ≤ lf ∧ ∀ k y, x.2.2.2.1 ≤ k → k < x.2.2.2.2.1 → P5[k]? = some y → ckN m q (if x.1 = 62 then x.2.2.2.2.2 else tot) ky (decide (x.1 = 62)) y) ∧ frm X7 s s' := by
  obtain ⟨l1, l2, l3, l4, l5, l6⟩ := hx
  have hPl := hP.1
  by_cases h : x.1 = 62
  · obtain ⟨s', lf', a1, a2, a3, a4, a5⟩ := ck_57 (F := F) (g := g) (ln := ln) (w := true) (sk := x.2.2.2.2.2) (q := q) hln (show x.2.2.2.2.1 ≤ 240 by omega) x5 hk1 x6 hw (x.2.2.2.2.1 - x.2.2.2.1) x.2.2.2.1 F lf s (by omega) (by omega) l5 hky hlf hl2 hq hP
    refine ⟨s', lf', ?_, a2, a3, ?_, a5⟩
    · rw [h] at l1
      have a1 : lp_R_checkIndexesOf_57 F g (nI ln) (nI 1) (nI x.2.2.2.2.2) F (nI x.2.2.2.1) s = some s' := a1
      unfold f_R_checkIndexesOf
      simp (disch := omega) only [ax_let, Option.bind_some, cond_true, cond_false, if_pos, if_neg, if_true, if_false, eq_self, nI_add, nI_ltI, nI_leI, nI_eq, nI_clamp, pu_in, c_0, c_1, c_2, c_3, c_4, c_5, c_6, c_7, c_8, c_9, c_10, c_11, c_12, c_15, c_16, c_17, c_32, c_35, c_36, c_38, c_40, c_41, c_42, c_43, c_44, c_45, c_48, c_57, c_58, c_59, c_60, c_61, c_62, c_64, c_65, c_69, c_75, c_83, c_91, c_93, c_94, c_97, c_105, c_106, c_110, c_119, c_123, c_124, c_125, c_126, c_240, c_256, c_400, c_m, nI_m1, nM_i, lN_add, lN_mul, lN_i, nI_l, lN_eq, lgN_le, lgN_lt, lgN_ge, lgN_gt, nI_sub, nI_mul, d_0, d_1, c_13, c_14, c_18, c_19, c_20, c_21, c_22, c_23, c_24, c_25, c_26, c_27, c_28, c_29, c_30, c_31, c_33, c_34, c_37, c_39, c_46, c_47, c_49, c_50, c_51, c_52, c_53, c_54, c_55, c_56, c_63, c_66, c_67, c_68, c_70, c_71, c_72, c_73, c_74, c_76, c_77, c_78, c_79, c_80, c_81, c_82, c_84, c_85, c_86, c_87, c_88, c_89, c_90, c_92, c_95, c_96, c_98, c_99, c_100, c_101, c_102, c_103, c_104, c_107, c_108, c_109, c_111, c_112, c_113, c_114, c_115, c_116, c_117, c_118, c_120, c_121, c_122, c_127, c_280, d_2, d_3, d_4, d_8, d_9, d_10, d_15, d_16, d_32, d_48, d_62, d_63, d_64, l1, l4, l6, a1]
    · intro m
      rw [a4, if_pos h, decide_eq_true h]
  · obtain ⟨s', lf', a1, a2, a3, a4, a5⟩ := ck_57 (F := F) (g := g) (ln := ln) (w := false) (sk := tot) (q := q) hln (show x.2.2.2.2.1 ≤ 240 by omega) x5 hk1 ht2 hw (x.2.2.2.2.1 - x.2.2.2.1) x.2.2.2.1 F lf s (by omega) (by omega) l5 hky hlf hl2 hq hP
    refine ⟨s', lf', ?_, a2, a3, ?_, a5⟩
    · have a1 : lp_R_checkIndexesOf_57 F g (nI ln) (nI 0) (nI tot) F (nI x.2.2.2.1) s = some s' := a1
      unfold f_R_checkIndexesOf
      simp (disch := omega) only [ax_let, Option.bind_some, cond_true, cond_false, if_pos, if_neg, if_true, if_false, eq_self, nI_add, nI_ltI, nI_leI, nI_eq, nI_clamp, pu_in, c_0, c_1, c_2, c_3, c_4, c_5, c_6, c_7, c_8, c_9, c_10, c_11, c_12, c_15, c_16, c_17, c_32, c_35, c_36, c_38, c_40, c_41, c_42, c_43, c_44, c_45, c_48, c_57, c_58, c_59, c_60, c_61, c_62, c_64, c_65, c_69, c_75, c_83, c_91, c_93, c_94, c_97, c_105, c_106, c_110, c_119, c_123, c_124, c_125, c_126, c_240, c_256, c_400, c_m, nI_m1, nM_i, lN_add, lN_mul, lN_i, nI_l, lN_eq, lgN_le, lgN_lt, lgN_ge, lgN_gt, nI_sub, nI_mul, d_0, d_1, c_13, c_14, c_18, c_19, c_20, c_21, c_22, c_23, c_24, c_25, c_26, c_27, c_28, c_29, c_30, c_31, c_33, c_34, c_37, c_39, c_46, c_47, c_49, c_50, c_51, c_52, c_53, c_54, c_55, c_56, c_63, c_66, c_67, c_68, c_70, c_71, c_72, c_73, c_74, c_76, c_77, c_78, c_79, c_80, c_81, c_82, c_84, c_85, c_86, c_87, c_88, c_89, c_90, c_92, c_95, c_96, c_98, c_99, c_100, c_101, c_102, c_103, c_104, c_107, c_108, c_109, c_111, c_112, c_113, c_114, c_115, c_116, c_117, c_118, c_120, c_121, c_122, c_127, c_280, d_2, d_3, d_4, d_8, d_9, d_10, d_15, d_16, d_32, d_48, d_62, d_63, d_64, l1, h, l4, ht, a1]
    · intro m
      rw [a4, if_neg h, decide_eq_false h]
