/-! PURE: the reference checks a step, by its kind -/
def csB (F : Nat) (a1 : Int32) (s6 : ax_σ) : Option (ax_σ) :=
      if (s6.1 0 47 (a1).toNatClampNeg) = (7 : Int32) then
        bif ax_in a1 240 then
        Option.bind (f_Z_isWide (s6.2 0 52 (a1).toNatClampNeg) s6) (fun r10 =>
          bif ax_in a1 240 then
          Option.bind (f_Z_consider r10 (3 : Int32) (s6.1 0 53 (a1).toNatClampNeg) s6) (fun s13 =>
            bif ax_in a1 240 then
            Option.bind (
              if (lg_cmp ((s13.2 0 52 (a1).toNatClampNeg) - (s13.2 0 52 (a1).toNatClampNeg) / (2 : Int64) * (2 : Int64)) (0 : Int64)) = (0 : Int32) then
                some (1 : Int32)
              else
                some (0 : Int32)) (fun v17 =>
              bif ax_in a1 240 then
              Option.bind (f_Z_consider v17 (5 : Int32) (s13.1 0 48 (a1).toNatClampNeg) s13) (fun s19 =>
                some (s19))
              else none)
            else none)
          else none)
        else none
      else
      if (s6.1 0 47 (a1).toNatClampNeg) = (8 : Int32) then
        bif ax_in a1 240 then
        bif ax_in (0 : Int32) 3 then
        Option.bind (
          if (lg_cmp (s6.2 0 52 (a1).toNatClampNeg) (s6.2 0 41 ((0 : Int32)).toNatClampNeg)) < (0 : Int32) then
            some (0 : Int32)
          else
            some (1 : Int32)) (fun v24 =>
          bif ax_in a1 240 then
          Option.bind (f_Z_consider v24 (3 : Int32) (s6.1 0 53 (a1).toNatClampNeg) s6) (fun s26 =>
            some (s26))
          else none)
        else none
        else none
      else
      if (s6.1 0 47 (a1).toNatClampNeg) = (9 : Int32) then
        bif ax_in a1 240 then
        bif ax_in (1 : Int32) 3 then
        Option.bind (
          if (lg_cmp ((s6.1 0 50 (a1).toNatClampNeg)).toInt64 (s6.2 0 41 ((1 : Int32)).toNatClampNeg)) < (0 : Int32) then
            some (0 : Int32)
          else
            some (1 : Int32)) (fun v31 =>
          bif ax_in a1 240 then
          Option.bind (f_Z_consider v31 (4 : Int32) (s6.1 0 51 (a1).toNatClampNeg) s6) (fun s33 =>
            bif ax_in a1 240 then
            Option.bind (
              Option.bind (
                if (s33.1 0 47 (a1).toNatClampNeg) = (9 : Int32) then
                  bif ax_in a1 240 then
                  bif ax_in a1 240 then
                  if (s33.1 0 50 (a1).toNatClampNeg) = (s33.1 0 49 (a1).toNatClampNeg) then
                    some false
                  else
                    some true
                  else none
                  else none
                else
                  some true) (fun w40 => bif w40 then
                some (0 : Int32)
              else
                some (1 : Int32))) (fun v41 =>
              bif ax_in a1 240 then
              Option.bind (f_Z_consider v41 (5 : Int32) (s33.1 0 48 (a1).toNatClampNeg) s33) (fun s43 =>
                some (s43))
              else none)
            else none)
          else none)
        else none
        else none
      else
      if (s6.1 0 47 (a1).toNatClampNeg) = (10 : Int32) then
        bif ax_in a1 240 then
        bif ax_in (1 : Int32) 3 then
        Option.bind (
          if (lg_cmp ((s6.1 0 50 (a1).toNatClampNeg)).toInt64 (s6.2 0 41 ((1 : Int32)).toNatClampNeg)) < (0 : Int32) then
            some (0 : Int32)
          else
            some (1 : Int32)) (fun v48 =>
          bif ax_in a1 240 then
          Option.bind (f_Z_consider v48 (4 : Int32) (s6.1 0 51 (a1).toNatClampNeg) s6) (fun s50 =>
            bif ax_in a1 240 then
            Option.bind (
              Option.bind (
                if (s50.1 0 47 (a1).toNatClampNeg) = (9 : Int32) then
                  bif ax_in a1 240 then
                  bif ax_in a1 240 then
                  if (s50.1 0 50 (a1).toNatClampNeg) = (s50.1 0 49 (a1).toNatClampNeg) then
                    some false
                  else
                    some true
                  else none
                  else none
                else
                  some true) (fun w57 => bif w57 then
                some (0 : Int32)
              else
                some (1 : Int32))) (fun v58 =>
              bif ax_in a1 240 then
              Option.bind (f_Z_consider v58 (5 : Int32) (s50.1 0 48 (a1).toNatClampNeg) s50) (fun s60 =>
                some (s60))
              else none)
            else none)
          else none)
        else none
        else none
      else
      if (s6.1 0 47 (a1).toNatClampNeg) = (11 : Int32) then
        bif ax_in a1 240 then
        Option.bind (
          if (lg_cmp (s6.2 0 52 (a1).toNatClampNeg) ((s6.1 0 38 14)).toInt64) < (0 : Int32) then
            some (0 : Int32)
          else
            some (1 : Int32)) (fun v64 =>
          bif ax_in a1 240 then
          Option.bind (f_Z_consider v64 (4 : Int32) (s6.1 0 53 (a1).toNatClampNeg) s6) (fun s66 =>
            bif ax_in a1 240 then
            Option.bind (
              Option.bind (
                if (0 : Int32) ≤ (lg_cmp (s66.2 0 52 (a1).toNatClampNeg) ((s66.1 0 38 14)).toInt64) then
                  some true
                else
                  bif ax_in a1 240 then
                  Option.bind (f_Z_repeats F ((((s66.2 0 52 (a1).toNatClampNeg) &&& (1 : Int64))).toInt32) s66) (fun r70 =>
                    if r70 = (0 : Int32) then
                      some true
                    else
                      some false)
                  else none) (fun w74 => bif w74 then
                some (0 : Int32)
              else
                some (1 : Int32))) (fun v75 =>
              bif ax_in a1 240 then
              Option.bind (f_Z_consider v75 (5 : Int32) (s66.1 0 48 (a1).toNatClampNeg) s66) (fun s77 =>
                some (s77))
              else none)
            else none)
          else none)
        else none
      else
      if (s6.1 0 47 (a1).toNatClampNeg) = (12 : Int32) then
        bif ax_in a1 240 then
        Option.bind (lp_Z_checkStep_332 F a1 F (s6.1 0 54 (a1).toNatClampNeg) s6) (fun s89 =>
          bif ax_in a1 240 then
          bif ax_in a1 240 then
          Option.bind (
            if (((s89.1 0 55 (a1).toNatClampNeg) - (s89.1 0 54 (a1).toNatClampNeg)) - ((s89.1 0 55 (a1).toNatClampNeg) - (s89.1 0 54 (a1).toNatClampNeg)) / (2 : Int32) * (2 : Int32)) = (0 : Int32) then
              some (1 : Int32)
            else
              some (0 : Int32)) (fun v93 =>
            bif ax_in a1 240 then
            Option.bind (f_Z_consider v93 (5 : Int32) (s89.1 0 48 (a1).toNatClampNeg) s89) (fun s95 =>
              some (s95))
            else none)
          else none
          else none)
        else none
      else
        Option.bind (f_Z_checkExpression F a1 s6) (fun s97 =>
          some (s97))
theorem csB_eq (F : Nat) (a1 : Int32) (s : ax_σ) : f_Z_checkStep F a1 s = (bif ax_in a1 240 then bif ax_in (1 : Int32) 3 then Option.bind (if (lg_cmp ((s.1 0 49 (a1).toNatClampNeg)).toInt64 (s.2 0 41 ((1 : Int32)).toNatClampNeg)) < (0 : Int32) then some (0 : Int32) else some (1 : Int32)) (fun v4 => bif ax_in a1 240 then Option.bind (f_Z_consider v4 (4 : Int32) (s.1 0 48 (a1).toNatClampNeg) s) (fun s6 => bif ax_in a1 240 then csB F a1 s6 else none) else none) else none else none) := rfl
section
variable {F n sk rf k : Nat} {D : Ds} {t : Th} {s : ax_σ}
theorem cs_head (hn : n ≤ 240) (hk : (dH D)[k]? = some t) (hB : DB D) (hst : D.2.1.1 ≤ 4) (h1 : thk t ≠ 1) (h3 : thk t ≠ 3) (hw : thw t < 4) (hp : thp t < n) (hZ : ZX D s) (hf : ZFa rf s) : ∃ s1 rf1, f_Z_checkStep F (nI k) s = csB F (nI k) s1 ∧ ZFa rf1 s1 ∧ (∀ m, m ≤ rf1 ↔ m ≤ rf ∧ (¬ thw t < D.2.1.1 → m ≤ thp t * 8 + 4)) ∧ frm X53 s s1 := by
  obtain ⟨y1, y2, y3, -⟩ := hZ.2.2.1 _ _ hk
  have y3 := y3 ⟨h1, h3⟩
  have hkl := get_lt hk
  have hlen := hB.1
  have g1 : s.2 0 41 1 = lN D.2.1.1 := (hZ.1.1.2 1 _ rfl).1
  obtain ⟨s1, rf1, c1, c0, c2, c3, c4⟩ := z_conD (c := 4) (¬ thw t < D.2.1.1) (by omega) (show thp t ≤ 240 by omega) hf
  refine ⟨s1, rf1, ?_, c2, c3, c4⟩
  rw [csB_eq]
  by_cases hP : thw t < D.2.1.1
  · have c0' := c0 (fun e => e hP)
    simp (disch := omega) only [ax_let, Option.bind_some, cond_true, cond_false, if_pos, if_neg, if_true, if_false, eq_self, nI_add, nI_ltI, nI_leI, nI_eq, nI_clamp, pu_in, c_0, c_1, c_2, c_3, c_4, c_5, c_6, c_7, c_8, c_9, c_10, c_11, c_12, c_15, c_16, c_17, c_32, c_35, c_36, c_38, c_40, c_41, c_42, c_43, c_44, c_45, c_48, c_57, c_58, c_59, c_60, c_61, c_62, c_64, c_65, c_69, c_75, c_83, c_91, c_93, c_94, c_97, c_105, c_106, c_110, c_119, c_123, c_124, c_125, c_126, c_240, c_256, c_400, c_m, nI_m1, nM_i, lN_add, lN_mul, lN_i, nI_l, lN_eq, lgN_le, lgN_lt, lgN_ge, lgN_gt, nI_sub, nI_mul, d_0, d_1, c_13, c_14, c_18, c_19, c_20, c_21, c_22, c_23, c_24, c_25, c_26, c_27, c_28, c_29, c_30, c_31, c_33, c_34, c_37, c_39, c_46, c_47, c_49, c_50, c_51, c_52, c_53, c_54, c_55, c_56, c_63, c_66, c_67, c_68, c_70, c_71, c_72, c_73, c_74, c_76, c_77, c_78, c_79, c_80, c_81, c_82, c_84, c_85, c_86, c_87, c_88, c_89, c_90, c_92, c_95, c_96, c_98, c_99, c_100, c_101, c_102, c_103, c_104, c_107, c_108, c_109, c_111, c_112, c_113, c_114, c_115, c_116, c_117, c_118, c_120, c_121, c_122, c_127, c_280, d_2, d_3, d_4, d_8, d_9, d_10, d_15, d_16, d_32, d_48, d_62, d_63, d_64, y2, y3, g1, c0']
  · have c1' := c1 hP
    simp (disch := omega) only [ax_let, Option.bind_some, cond_true, cond_false, if_pos, if_neg, if_true, if_false, eq_self, nI_add, nI_ltI, nI_leI, nI_eq, nI_clamp, pu_in, c_0, c_1, c_2, c_3, c_4, c_5, c_6, c_7, c_8, c_9, c_10, c_11, c_12, c_15, c_16, c_17, c_32, c_35, c_36, c_38, c_40, c_41, c_42, c_43, c_44, c_45, c_48, c_57, c_58, c_59, c_60, c_61, c_62, c_64, c_65, c_69, c_75, c_83, c_91, c_93, c_94, c_97, c_105, c_106, c_110, c_119, c_123, c_124, c_125, c_126, c_240, c_256, c_400, c_m, nI_m1, nM_i, lN_add, lN_mul, lN_i, nI_l, lN_eq, lgN_le, lgN_lt, lgN_ge, lgN_gt, nI_sub, nI_mul, d_0, d_1, c_13, c_14, c_18, c_19, c_20, c_21, c_22, c_23, c_24, c_25, c_26, c_27, c_28, c_29, c_30, c_31, c_33, c_34, c_37, c_39, c_46, c_47, c_49, c_50, c_51, c_52, c_53, c_54, c_55, c_56, c_63, c_66, c_67, c_68, c_70, c_71, c_72, c_73, c_74, c_76, c_77, c_78, c_79, c_80, c_81, c_82, c_84, c_85, c_86, c_87, c_88, c_89, c_90, c_92, c_95, c_96, c_98, c_99, c_100, c_101, c_102, c_103, c_104, c_107, c_108, c_109, c_111, c_112, c_113, c_114, c_115, c_116, c_117, c_118, c_120, c_121, c_122, c_127, c_280, d_2, d_3, d_4, d_8, d_9, d_10, d_15, d_16, d_32, d_48, d_62, d_63, d_64, y2, y3, g1, c1']
/-- what the class keeps of the sizes and tables -/
def okK (K : KS) (D : Ds) : Prop := ksn K = D.2.1.1 ∧ kw K = D.1.1 ∧ ktb K = (dT D).length ∧ ∀ (u : Nat) (x : Tb), (dT D)[u]? = some x → ∀ j, j < 16 → tbE x j < 16 ∧ kB K (u * 16 + j) = bkL (fun y => nI (tbE x y)) (nI j) 16 nM
def csP (F : Nat) (D : Ds) (K : KS) (C : List (Nat × Cx)) (k sk rf : Nat) (t : Th) (s : ax_σ) : Prop := ∃ s' rf', csB F (nI k) s = some s' ∧ ZFa rf' s' ∧ (∀ m, m ≤ rf' ↔ m ≤ rf ∧ wkN K m (ltC C) (wkOf t) ∧ (¬ undo K (thw t) (wkOf t) = true → m ≤ thp t * 8 + 5) ∧ gxL m (wt skW (dW D)) D.2.2.1.1 (C.map (·.2)) sk t) ∧ frm XG s s'
theorem gxL_nil {m tot ky sk : Nat} {C : List Cx} {t : Th} (h : the t = []) : gxL m tot ky C sk t := by
  intro o ho
  rw [h] at ho
  cases ho
theorem wk_7 {K : KS} {m : Nat} {L : List Nat} {k : Wk} (h : k.1 = 7) : wkN K m L k = (¬ k.2.1 < wb (kw K) → m ≤ k.2.2.1 * 8 + 3) := by unfold wkN; rw [if_neg (by omega), if_pos h]
theorem wk_8 {K : KS} {m : Nat} {L : List Nat} {k : Wk} (h : k.1 = 8) : wkN K m L k = (¬ k.2.1 < kw K → m ≤ k.2.2.1 * 8 + 3) := by unfold wkN; rw [if_neg (by omega), if_neg (by omega), if_pos h]
theorem wk_9 {K : KS} {m : Nat} {L : List Nat} {k : Wk} (h : k.1 = 9 ∨ k.1 = 10) : wkN K m L k = (¬ k.2.1 < ksn K → m ≤ k.2.2.1 * 8 + 4) := by unfold wkN; rw [if_neg (by omega), if_neg (by omega), if_neg (by omega), if_pos h]
theorem wk_11 {K : KS} {m : Nat} {L : List Nat} {k : Wk} (h : k.1 = 11) : wkN K m L k = (¬ k.2.1 < ktb K → m ≤ k.2.2.1 * 8 + 4) := by unfold wkN; rw [if_neg (by omega), if_neg (by omega), if_neg (by omega), if_neg (by omega), if_pos h]
theorem wk_12 {K : KS} {m : Nat} {L : List Nat} {k : Wk} (h : k.1 = 12) : wkN K m L k = ∀ x ∈ k.2.2.2.2, ¬ x.1 < kw K → m ≤ x.2 * 8 + 3 := by unfold wkN; rw [if_neg (by omega), if_neg (by omega), if_neg (by omega), if_neg (by omega), if_neg (by omega)]
theorem lN_odd {v : Nat} (h : v < 2 ^ 31) : lN v - lN v / lN 2 * lN 2 = lN (v % 2) := by
  rw [lN_div h (by decide), lN_mul, lN_Z, lN_Z, lZ_sub, lN_Z]
  congr 1
  omega
theorem cs_7 {K : KS} {C : List (Nat × Cx)} (hn : n ≤ 240) (hk : (dH D)[k]? = some t) (hB : DB D) (hv : vD D) (hK : okK K D) (e : thk t = 7) (h1 : thv t < 10 ^ 9) (h2 : thq t < n) (h3 : the t = []) (hp : thp t < n) (hZ : ZX D s) (hf : ZFa rf s) : csP F D K C k sk rf t s := by
  obtain ⟨y1, y2, -, -, y5, -⟩ := hZ.2.2.1 _ _ hk
  obtain ⟨y5, y6⟩ := y5 (by omega)
  rw [e] at y1
  have hkl := get_lt hk
  have hlen := hB.1
  have g0 : s.2 0 41 0 = lN D.1.1 := (hZ.1.1.2 0 _ rfl).1
  have hwd := z_wide (s := s) (v := thv t) (by omega) hv.1 g0
  obtain ⟨s1, rf1, c1, c0, c2, c3, c4⟩ := z_conD (c := 3) (¬ thv t < wb D.1.1) (by omega) (show thq t ≤ 240 by omega) hf
  obtain ⟨s2, rf2, d1, d0, d2, d3, d4⟩ := z_conD (c := 5) (thv t % 2 = 0) (by omega) (show thp t ≤ 240 by omega) c2
  have w52 : s1.2 0 52 k = lN (thv t) := (c4.2 _ _ _ (by unfold X53; omega)).trans y5
  have w48 : s1.1 0 48 k = nI (thp t) := (c4.1 _ _ _ (by unfold X53; omega)).trans y2
  have em := lN_odd (v := thv t) (by omega)
  refine ⟨s2, rf2, ?_, d2, fun m => ?_, (XG.ofC c4).trans (XG.ofC d4)⟩
  · unfold csB
    rw [nI_clamp (show k < 2 ^ 31 by omega), y1, if_pos (show nI 7 = (7 : Int32) from rfl)]
    have e5 : (lg_cmp (lN (thv t % 2)) (lN 0) = nI 0) ↔ thv t % 2 = 0 := (lg_cmp_eq _ _).trans (lN_eq (by omega) (by omega))
    clear hv
    by_cases hP : ¬ thv t < wb D.1.1
    · rw [decide_eq_true hP, if_pos rfl] at hwd
      have c1' := c1 hP
      by_cases hQ : thv t % 2 = 0
      · have d1' := d1 hQ
        have e6 := eq_true (e5.mpr hQ)
        simp (disch := omega) only [ax_let, Option.bind_some, cond_true, cond_false, if_pos, if_neg, if_true, if_false, eq_self, nI_add, nI_ltI, nI_leI, nI_eq, nI_clamp, pu_in, c_0, c_1, c_2, c_3, c_4, c_5, c_6, c_7, c_8, c_9, c_10, c_11, c_12, c_15, c_16, c_17, c_32, c_35, c_36, c_38, c_40, c_41, c_42, c_43, c_44, c_45, c_48, c_57, c_58, c_59, c_60, c_61, c_62, c_64, c_65, c_69, c_75, c_83, c_91, c_93, c_94, c_97, c_105, c_106, c_110, c_119, c_123, c_124, c_125, c_126, c_240, c_256, c_400, c_m, nI_m1, nM_i, lN_add, lN_mul, lN_i, nI_l, lN_eq, lgN_le, lgN_lt, lgN_ge, lgN_gt, nI_sub, nI_mul, d_0, d_1, c_13, c_14, c_18, c_19, c_20, c_21, c_22, c_23, c_24, c_25, c_26, c_27, c_28, c_29, c_30, c_31, c_33, c_34, c_37, c_39, c_46, c_47, c_49, c_50, c_51, c_52, c_53, c_54, c_55, c_56, c_63, c_66, c_67, c_68, c_70, c_71, c_72, c_73, c_74, c_76, c_77, c_78, c_79, c_80, c_81, c_82, c_84, c_85, c_86, c_87, c_88, c_89, c_90, c_92, c_95, c_96, c_98, c_99, c_100, c_101, c_102, c_103, c_104, c_107, c_108, c_109, c_111, c_112, c_113, c_114, c_115, c_116, c_117, c_118, c_120, c_121, c_122, c_127, c_280, d_2, d_3, d_4, d_8, d_9, d_10, d_15, d_16, d_32, d_48, d_62, d_63, d_64, y5, y6, hwd, c1', w52, w48, em, e6, d1']
      · have d0' := d0 hQ
        have e6 := eq_false (fun z => hQ (e5.mp z))
        simp (disch := omega) only [ax_let, Option.bind_some, cond_true, cond_false, if_pos, if_neg, if_true, if_false, eq_self, nI_add, nI_ltI, nI_leI, nI_eq, nI_clamp, pu_in, c_0, c_1, c_2, c_3, c_4, c_5, c_6, c_7, c_8, c_9, c_10, c_11, c_12, c_15, c_16, c_17, c_32, c_35, c_36, c_38, c_40, c_41, c_42, c_43, c_44, c_45, c_48, c_57, c_58, c_59, c_60, c_61, c_62, c_64, c_65, c_69, c_75, c_83, c_91, c_93, c_94, c_97, c_105, c_106, c_110, c_119, c_123, c_124, c_125, c_126, c_240, c_256, c_400, c_m, nI_m1, nM_i, lN_add, lN_mul, lN_i, nI_l, lN_eq, lgN_le, lgN_lt, lgN_ge, lgN_gt, nI_sub, nI_mul, d_0, d_1, c_13, c_14, c_18, c_19, c_20, c_21, c_22, c_23, c_24, c_25, c_26, c_27, c_28, c_29, c_30, c_31, c_33, c_34, c_37, c_39, c_46, c_47, c_49, c_50, c_51, c_52, c_53, c_54, c_55, c_56, c_63, c_66, c_67, c_68, c_70, c_71, c_72, c_73, c_74, c_76, c_77, c_78, c_79, c_80, c_81, c_82, c_84, c_85, c_86, c_87, c_88, c_89, c_90, c_92, c_95, c_96, c_98, c_99, c_100, c_101, c_102, c_103, c_104, c_107, c_108, c_109, c_111, c_112, c_113, c_114, c_115, c_116, c_117, c_118, c_120, c_121, c_122, c_127, c_280, d_2, d_3, d_4, d_8, d_9, d_10, d_15, d_16, d_32, d_48, d_62, d_63, d_64, y5, y6, hwd, c1', w52, w48, em, e6, d0']
    · rw [decide_eq_false hP] at hwd
      have hwd : f_Z_isWide (lN (thv t)) s = some (nI 0) := hwd
      have c0' := c0 hP
      by_cases hQ : thv t % 2 = 0
      · have d1' := d1 hQ
        have e6 := eq_true (e5.mpr hQ)
        simp (disch := omega) only [ax_let, Option.bind_some, cond_true, cond_false, if_pos, if_neg, if_true, if_false, eq_self, nI_add, nI_ltI, nI_leI, nI_eq, nI_clamp, pu_in, c_0, c_1, c_2, c_3, c_4, c_5, c_6, c_7, c_8, c_9, c_10, c_11, c_12, c_15, c_16, c_17, c_32, c_35, c_36, c_38, c_40, c_41, c_42, c_43, c_44, c_45, c_48, c_57, c_58, c_59, c_60, c_61, c_62, c_64, c_65, c_69, c_75, c_83, c_91, c_93, c_94, c_97, c_105, c_106, c_110, c_119, c_123, c_124, c_125, c_126, c_240, c_256, c_400, c_m, nI_m1, nM_i, lN_add, lN_mul, lN_i, nI_l, lN_eq, lgN_le, lgN_lt, lgN_ge, lgN_gt, nI_sub, nI_mul, d_0, d_1, c_13, c_14, c_18, c_19, c_20, c_21, c_22, c_23, c_24, c_25, c_26, c_27, c_28, c_29, c_30, c_31, c_33, c_34, c_37, c_39, c_46, c_47, c_49, c_50, c_51, c_52, c_53, c_54, c_55, c_56, c_63, c_66, c_67, c_68, c_70, c_71, c_72, c_73, c_74, c_76, c_77, c_78, c_79, c_80, c_81, c_82, c_84, c_85, c_86, c_87, c_88, c_89, c_90, c_92, c_95, c_96, c_98, c_99, c_100, c_101, c_102, c_103, c_104, c_107, c_108, c_109, c_111, c_112, c_113, c_114, c_115, c_116, c_117, c_118, c_120, c_121, c_122, c_127, c_280, d_2, d_3, d_4, d_8, d_9, d_10, d_15, d_16, d_32, d_48, d_62, d_63, d_64, y5, y6, hwd, c0', w52, w48, em, e6, d1']
      · have d0' := d0 hQ
        have e6 := eq_false (fun z => hQ (e5.mp z))
        simp (disch := omega) only [ax_let, Option.bind_some, cond_true, cond_false, if_pos, if_neg, if_true, if_false, eq_self, nI_add, nI_ltI, nI_leI, nI_eq, nI_clamp, pu_in, c_0, c_1, c_2, c_3, c_4, c_5, c_6, c_7, c_8, c_9, c_10, c_11, c_12, c_15, c_16, c_17, c_32, c_35, c_36, c_38, c_40, c_41, c_42, c_43, c_44, c_45, c_48, c_57, c_58, c_59, c_60, c_61, c_62, c_64, c_65, c_69, c_75, c_83, c_91, c_93, c_94, c_97, c_105, c_106, c_110, c_119, c_123, c_124, c_125, c_126, c_240, c_256, c_400, c_m, nI_m1, nM_i, lN_add, lN_mul, lN_i, nI_l, lN_eq, lgN_le, lgN_lt, lgN_ge, lgN_gt, nI_sub, nI_mul, d_0, d_1, c_13, c_14, c_18, c_19, c_20, c_21, c_22, c_23, c_24, c_25, c_26, c_27, c_28, c_29, c_30, c_31, c_33, c_34, c_37, c_39, c_46, c_47, c_49, c_50, c_51, c_52, c_53, c_54, c_55, c_56, c_63, c_66, c_67, c_68, c_70, c_71, c_72, c_73, c_74, c_76, c_77, c_78, c_79, c_80, c_81, c_82, c_84, c_85, c_86, c_87, c_88, c_89, c_90, c_92, c_95, c_96, c_98, c_99, c_100, c_101, c_102, c_103, c_104, c_107, c_108, c_109, c_111, c_112, c_113, c_114, c_115, c_116, c_117, c_118, c_120, c_121, c_122, c_127, c_280, d_2, d_3, d_4, d_8, d_9, d_10, d_15, d_16, d_32, d_48, d_62, d_63, d_64, y5, y6, hwd, c0', w52, w48, em, e6, d0']
  · rw [d3, c3, wk_7 (k := wkOf t) e, hK.2.1, and_assoc]
    have hu : (¬ undo K (thw t) (wkOf t) = true) ↔ thv t % 2 = 0 := by
      unfold undo
      rw [if_neg (by show ¬ thk t ≤ 6; omega), if_pos (show (wkOf t).1 = 7 from e), decide_eq_true_eq]
      show ¬ thv t % 2 = 1 ↔ _
      omega
    rw [hu]
    exact ⟨fun k => ⟨k.1, k.2.1, k.2.2, gxL_nil h3⟩, fun k => ⟨k.1, k.2.1, k.2.2.1⟩⟩
theorem cs_8 {K : KS} {C : List (Nat × Cx)} (hn : n ≤ 240) (hk : (dH D)[k]? = some t) (hB : DB D) (hv : vD D) (hK : okK K D) (e : thk t = 8) (h1 : thv t < 10 ^ 9) (h2 : thq t < n) (h3 : the t = []) (hp : thp t < n) (hZ : ZX D s) (hf : ZFa rf s) : csP F D K C k sk rf t s := by
  obtain ⟨y1, y2, -, -, y5, -⟩ := hZ.2.2.1 _ _ hk
  obtain ⟨y5, y6⟩ := y5 (by omega)
  rw [e] at y1
  have hkl := get_lt hk
  have hlen := hB.1
  have hw64 : D.1.1 ≤ 64 := by have := hv.1; omega
  have g0 : s.2 0 41 0 = lN D.1.1 := (hZ.1.1.2 0 _ rfl).1
  obtain ⟨s1, rf1, c1, c0, c2, c3, c4⟩ := z_conD (c := 3) (¬ thv t < D.1.1) (by omega) (show thq t ≤ 240 by omega) hf
  refine ⟨s1, rf1, ?_, c2, fun m => ?_, XG.ofC c4⟩
  · unfold csB
    rw [nI_clamp (show k < 2 ^ 31 by omega), y1, if_neg (show ¬ nI 8 = (7 : Int32) by decide), if_pos (show nI 8 = (8 : Int32) from rfl)]
    clear hv
    by_cases hP : thv t < D.1.1
    · have c0' := c0 (fun e => e hP)
      simp (disch := omega) only [ax_let, Option.bind_some, cond_true, cond_false, if_pos, if_neg, if_true, if_false, eq_self, nI_add, nI_ltI, nI_leI, nI_eq, nI_clamp, pu_in, c_0, c_1, c_2, c_3, c_4, c_5, c_6, c_7, c_8, c_9, c_10, c_11, c_12, c_15, c_16, c_17, c_32, c_35, c_36, c_38, c_40, c_41, c_42, c_43, c_44, c_45, c_48, c_57, c_58, c_59, c_60, c_61, c_62, c_64, c_65, c_69, c_75, c_83, c_91, c_93, c_94, c_97, c_105, c_106, c_110, c_119, c_123, c_124, c_125, c_126, c_240, c_256, c_400, c_m, nI_m1, nM_i, lN_add, lN_mul, lN_i, nI_l, lN_eq, lgN_le, lgN_lt, lgN_ge, lgN_gt, nI_sub, nI_mul, d_0, d_1, c_13, c_14, c_18, c_19, c_20, c_21, c_22, c_23, c_24, c_25, c_26, c_27, c_28, c_29, c_30, c_31, c_33, c_34, c_37, c_39, c_46, c_47, c_49, c_50, c_51, c_52, c_53, c_54, c_55, c_56, c_63, c_66, c_67, c_68, c_70, c_71, c_72, c_73, c_74, c_76, c_77, c_78, c_79, c_80, c_81, c_82, c_84, c_85, c_86, c_87, c_88, c_89, c_90, c_92, c_95, c_96, c_98, c_99, c_100, c_101, c_102, c_103, c_104, c_107, c_108, c_109, c_111, c_112, c_113, c_114, c_115, c_116, c_117, c_118, c_120, c_121, c_122, c_127, c_280, d_2, d_3, d_4, d_8, d_9, d_10, d_15, d_16, d_32, d_48, d_62, d_63, d_64, y5, y6, g0, c0']
    · have c1' := c1 hP
      simp (disch := omega) only [ax_let, Option.bind_some, cond_true, cond_false, if_pos, if_neg, if_true, if_false, eq_self, nI_add, nI_ltI, nI_leI, nI_eq, nI_clamp, pu_in, c_0, c_1, c_2, c_3, c_4, c_5, c_6, c_7, c_8, c_9, c_10, c_11, c_12, c_15, c_16, c_17, c_32, c_35, c_36, c_38, c_40, c_41, c_42, c_43, c_44, c_45, c_48, c_57, c_58, c_59, c_60, c_61, c_62, c_64, c_65, c_69, c_75, c_83, c_91, c_93, c_94, c_97, c_105, c_106, c_110, c_119, c_123, c_124, c_125, c_126, c_240, c_256, c_400, c_m, nI_m1, nM_i, lN_add, lN_mul, lN_i, nI_l, lN_eq, lgN_le, lgN_lt, lgN_ge, lgN_gt, nI_sub, nI_mul, d_0, d_1, c_13, c_14, c_18, c_19, c_20, c_21, c_22, c_23, c_24, c_25, c_26, c_27, c_28, c_29, c_30, c_31, c_33, c_34, c_37, c_39, c_46, c_47, c_49, c_50, c_51, c_52, c_53, c_54, c_55, c_56, c_63, c_66, c_67, c_68, c_70, c_71, c_72, c_73, c_74, c_76, c_77, c_78, c_79, c_80, c_81, c_82, c_84, c_85, c_86, c_87, c_88, c_89, c_90, c_92, c_95, c_96, c_98, c_99, c_100, c_101, c_102, c_103, c_104, c_107, c_108, c_109, c_111, c_112, c_113, c_114, c_115, c_116, c_117, c_118, c_120, c_121, c_122, c_127, c_280, d_2, d_3, d_4, d_8, d_9, d_10, d_15, d_16, d_32, d_48, d_62, d_63, d_64, y5, y6, g0, c1']
  · rw [c3, wk_8 (k := wkOf t) e, hK.2.1]
    have hu : undo K (thw t) (wkOf t) = true := by
      unfold undo
      rw [if_neg (by show ¬ thk t ≤ 6; omega), if_neg (by show ¬ thk t = 7; omega), if_neg (by show ¬ thk t = 12; omega), if_neg (by show ¬ thk t = 9; omega), if_neg (by show ¬ thk t = 11; omega)]
    exact ⟨fun k => ⟨k.1, k.2, fun z => absurd hu z, gxL_nil h3⟩, fun k => ⟨k.1, k.2.1⟩⟩
theorem cs_9 {K : KS} {C : List (Nat × Cx)} (hn : n ≤ 240) (hk : (dH D)[k]? = some t) (hB : DB D) (hv : vD D) (hK : okK K D) (e : thk t = 9) (h1 : thv t < 4) (h2 : thq t < n) (h3 : the t = []) (hw : thw t < 4) (hp : thp t < n) (hZ : ZX D s) (hf : ZFa rf s) : csP F D K C k sk rf t s := by
  obtain ⟨y1, y2, y3, y4, -⟩ := hZ.2.2.1 _ _ hk
  obtain ⟨y4, y5⟩ := y4 (by omega)
  have y3 := y3 (by omega)
  rw [e] at y1
  have hkl := get_lt hk
  have hlen := hB.1
  have hst := hv.2.1.2
  have g1 : s.2 0 41 1 = lN D.2.1.1 := (hZ.1.1.2 1 _ rfl).1
  obtain ⟨s1, rf1, c1, c0, c2, c3, c4⟩ := z_conD (c := 4) (¬ thv t < D.2.1.1) (by omega) (show thq t ≤ 240 by omega) hf
  obtain ⟨s2, rf2, d1, d0, d2, d3, d4⟩ := z_conD (c := 5) (thv t = thw t) (by omega) (show thp t ≤ 240 by omega) c2
  have w47 : s1.1 0 47 k = nI 9 := (c4.1 _ _ _ (by unfold X53; omega)).trans y1
  have w50 : s1.1 0 50 k = nI (thv t) := (c4.1 _ _ _ (by unfold X53; omega)).trans y4
  have w49 : s1.1 0 49 k = nI (thw t) := (c4.1 _ _ _ (by unfold X53; omega)).trans y3
  have w48 : s1.1 0 48 k = nI (thp t) := (c4.1 _ _ _ (by unfold X53; omega)).trans y2
  refine ⟨s2, rf2, ?_, d2, fun m => ?_, (XG.ofC c4).trans (XG.ofC d4)⟩
  · unfold csB
    rw [nI_clamp (show k < 2 ^ 31 by omega), y1, if_neg (show ¬ nI 9 = (7 : Int32) by decide), if_neg (show ¬ nI 9 = (8 : Int32) by decide), if_pos (show nI 9 = (9 : Int32) from rfl)]
    clear hv
    by_cases hP : thv t < D.2.1.1
    · have c0' := c0 (fun e => e hP)
      by_cases hQ : thv t = thw t
      · have d1' := d1 hQ
        simp (disch := omega) only [ax_let, Option.bind_some, cond_true, cond_false, if_pos, if_neg, if_true, if_false, eq_self, nI_add, nI_ltI, nI_leI, nI_eq, nI_clamp, pu_in, c_0, c_1, c_2, c_3, c_4, c_5, c_6, c_7, c_8, c_9, c_10, c_11, c_12, c_15, c_16, c_17, c_32, c_35, c_36, c_38, c_40, c_41, c_42, c_43, c_44, c_45, c_48, c_57, c_58, c_59, c_60, c_61, c_62, c_64, c_65, c_69, c_75, c_83, c_91, c_93, c_94, c_97, c_105, c_106, c_110, c_119, c_123, c_124, c_125, c_126, c_240, c_256, c_400, c_m, nI_m1, nM_i, lN_add, lN_mul, lN_i, nI_l, lN_eq, lgN_le, lgN_lt, lgN_ge, lgN_gt, nI_sub, nI_mul, d_0, d_1, c_13, c_14, c_18, c_19, c_20, c_21, c_22, c_23, c_24, c_25, c_26, c_27, c_28, c_29, c_30, c_31, c_33, c_34, c_37, c_39, c_46, c_47, c_49, c_50, c_51, c_52, c_53, c_54, c_55, c_56, c_63, c_66, c_67, c_68, c_70, c_71, c_72, c_73, c_74, c_76, c_77, c_78, c_79, c_80, c_81, c_82, c_84, c_85, c_86, c_87, c_88, c_89, c_90, c_92, c_95, c_96, c_98, c_99, c_100, c_101, c_102, c_103, c_104, c_107, c_108, c_109, c_111, c_112, c_113, c_114, c_115, c_116, c_117, c_118, c_120, c_121, c_122, c_127, c_280, d_2, d_3, d_4, d_8, d_9, d_10, d_15, d_16, d_32, d_48, d_62, d_63, d_64, y4, y5, g1, c0', w47, w48, w49, w50, d1']
      · have d0' := d0 hQ
        simp (disch := omega) only [ax_let, Option.bind_some, cond_true, cond_false, if_pos, if_neg, if_true, if_false, eq_self, nI_add, nI_ltI, nI_leI, nI_eq, nI_clamp, pu_in, c_0, c_1, c_2, c_3, c_4, c_5, c_6, c_7, c_8, c_9, c_10, c_11, c_12, c_15, c_16, c_17, c_32, c_35, c_36, c_38, c_40, c_41, c_42, c_43, c_44, c_45, c_48, c_57, c_58, c_59, c_60, c_61, c_62, c_64, c_65, c_69, c_75, c_83, c_91, c_93, c_94, c_97, c_105, c_106, c_110, c_119, c_123, c_124, c_125, c_126, c_240, c_256, c_400, c_m, nI_m1, nM_i, lN_add, lN_mul, lN_i, nI_l, lN_eq, lgN_le, lgN_lt, lgN_ge, lgN_gt, nI_sub, nI_mul, d_0, d_1, c_13, c_14, c_18, c_19, c_20, c_21, c_22, c_23, c_24, c_25, c_26, c_27, c_28, c_29, c_30, c_31, c_33, c_34, c_37, c_39, c_46, c_47, c_49, c_50, c_51, c_52, c_53, c_54, c_55, c_56, c_63, c_66, c_67, c_68, c_70, c_71, c_72, c_73, c_74, c_76, c_77, c_78, c_79, c_80, c_81, c_82, c_84, c_85, c_86, c_87, c_88, c_89, c_90, c_92, c_95, c_96, c_98, c_99, c_100, c_101, c_102, c_103, c_104, c_107, c_108, c_109, c_111, c_112, c_113, c_114, c_115, c_116, c_117, c_118, c_120, c_121, c_122, c_127, c_280, d_2, d_3, d_4, d_8, d_9, d_10, d_15, d_16, d_32, d_48, d_62, d_63, d_64, y4, y5, g1, c0', w47, w48, w49, w50, d0']
    · have c1' := c1 hP
      by_cases hQ : thv t = thw t
      · have d1' := d1 hQ
        simp (disch := omega) only [ax_let, Option.bind_some, cond_true, cond_false, if_pos, if_neg, if_true, if_false, eq_self, nI_add, nI_ltI, nI_leI, nI_eq, nI_clamp, pu_in, c_0, c_1, c_2, c_3, c_4, c_5, c_6, c_7, c_8, c_9, c_10, c_11, c_12, c_15, c_16, c_17, c_32, c_35, c_36, c_38, c_40, c_41, c_42, c_43, c_44, c_45, c_48, c_57, c_58, c_59, c_60, c_61, c_62, c_64, c_65, c_69, c_75, c_83, c_91, c_93, c_94, c_97, c_105, c_106, c_110, c_119, c_123, c_124, c_125, c_126, c_240, c_256, c_400, c_m, nI_m1, nM_i, lN_add, lN_mul, lN_i, nI_l, lN_eq, lgN_le, lgN_lt, lgN_ge, lgN_gt, nI_sub, nI_mul, d_0, d_1, c_13, c_14, c_18, c_19, c_20, c_21, c_22, c_23, c_24, c_25, c_26, c_27, c_28, c_29, c_30, c_31, c_33, c_34, c_37, c_39, c_46, c_47, c_49, c_50, c_51, c_52, c_53, c_54, c_55, c_56, c_63, c_66, c_67, c_68, c_70, c_71, c_72, c_73, c_74, c_76, c_77, c_78, c_79, c_80, c_81, c_82, c_84, c_85, c_86, c_87, c_88, c_89, c_90, c_92, c_95, c_96, c_98, c_99, c_100, c_101, c_102, c_103, c_104, c_107, c_108, c_109, c_111, c_112, c_113, c_114, c_115, c_116, c_117, c_118, c_120, c_121, c_122, c_127, c_280, d_2, d_3, d_4, d_8, d_9, d_10, d_15, d_16, d_32, d_48, d_62, d_63, d_64, y4, y5, g1, c1', w47, w48, w49, w50, d1']
      · have d0' := d0 hQ
        simp (disch := omega) only [ax_let, Option.bind_some, cond_true, cond_false, if_pos, if_neg, if_true, if_false, eq_self, nI_add, nI_ltI, nI_leI, nI_eq, nI_clamp, pu_in, c_0, c_1, c_2, c_3, c_4, c_5, c_6, c_7, c_8, c_9, c_10, c_11, c_12, c_15, c_16, c_17, c_32, c_35, c_36, c_38, c_40, c_41, c_42, c_43, c_44, c_45, c_48, c_57, c_58, c_59, c_60, c_61, c_62, c_64, c_65, c_69, c_75, c_83, c_91, c_93, c_94, c_97, c_105, c_106, c_110, c_119, c_123, c_124, c_125, c_126, c_240, c_256, c_400, c_m, nI_m1, nM_i, lN_add, lN_mul, lN_i, nI_l, lN_eq, lgN_le, lgN_lt, lgN_ge, lgN_gt, nI_sub, nI_mul, d_0, d_1, c_13, c_14, c_18, c_19, c_20, c_21, c_22, c_23, c_24, c_25, c_26, c_27, c_28, c_29, c_30, c_31, c_33, c_34, c_37, c_39, c_46, c_47, c_49, c_50, c_51, c_52, c_53, c_54, c_55, c_56, c_63, c_66, c_67, c_68, c_70, c_71, c_72, c_73, c_74, c_76, c_77, c_78, c_79, c_80, c_81, c_82, c_84, c_85, c_86, c_87, c_88, c_89, c_90, c_92, c_95, c_96, c_98, c_99, c_100, c_101, c_102, c_103, c_104, c_107, c_108, c_109, c_111, c_112, c_113, c_114, c_115, c_116, c_117, c_118, c_120, c_121, c_122, c_127, c_280, d_2, d_3, d_4, d_8, d_9, d_10, d_15, d_16, d_32, d_48, d_62, d_63, d_64, y4, y5, g1, c1', w47, w48, w49, w50, d0']
  · rw [d3, c3, wk_9 (k := wkOf t) (Or.inl e), hK.1, and_assoc]
    have hu : (¬ undo K (thw t) (wkOf t) = true) ↔ thv t = thw t := by
      unfold undo
      rw [if_neg (by show ¬ thk t ≤ 6; omega), if_neg (by show ¬ thk t = 7; omega), if_neg (by show ¬ thk t = 12; omega), if_pos (show (wkOf t).1 = 9 from e), decide_eq_true_eq]
      show ¬ (thv t ≠ thw t) ↔ _
      omega
    rw [hu]
    exact ⟨fun k => ⟨k.1, k.2.1, k.2.2, gxL_nil h3⟩, fun k => ⟨k.1, k.2.1, k.2.2.1⟩⟩
theorem cs_10 {K : KS} {C : List (Nat × Cx)} (hn : n ≤ 240) (hk : (dH D)[k]? = some t) (hB : DB D) (hv : vD D) (hK : okK K D) (e : thk t = 10) (h1 : thv t < 4) (h2 : thq t < n) (h3 : the t = []) (hw : thw t < 4) (hp : thp t < n) (hZ : ZX D s) (hf : ZFa rf s) : csP F D K C k sk rf t s := by
  obtain ⟨y1, y2, y3, y4, -⟩ := hZ.2.2.1 _ _ hk
  obtain ⟨y4, y5⟩ := y4 (by omega)
  rw [e] at y1
  have hkl := get_lt hk
  have hlen := hB.1
  have hst := hv.2.1.2
  have g1 : s.2 0 41 1 = lN D.2.1.1 := (hZ.1.1.2 1 _ rfl).1
  obtain ⟨s1, rf1, c1, c0, c2, c3, c4⟩ := z_conD (c := 4) (¬ thv t < D.2.1.1) (by omega) (show thq t ≤ 240 by omega) hf
  have w47 : s1.1 0 47 k = nI 10 := (c4.1 _ _ _ (by unfold X53; omega)).trans y1
  have w48 : s1.1 0 48 k = nI (thp t) := (c4.1 _ _ _ (by unfold X53; omega)).trans y2
  have d0' : f_Z_consider (nI 0) (nI 5) (nI (thp t)) s1 = some s1 := rfl
  refine ⟨s1, rf1, ?_, c2, fun m => ?_, XG.ofC c4⟩
  · unfold csB
    rw [nI_clamp (show k < 2 ^ 31 by omega), y1, if_neg (show ¬ nI 10 = (7 : Int32) by decide), if_neg (show ¬ nI 10 = (8 : Int32) by decide), if_neg (show ¬ nI 10 = (9 : Int32) by decide), if_pos (show nI 10 = (10 : Int32) from rfl)]
    clear hv
    by_cases hP : thv t < D.2.1.1
    · have c0' := c0 (fun e => e hP)
      simp (disch := omega) only [ax_let, Option.bind_some, cond_true, cond_false, if_pos, if_neg, if_true, if_false, eq_self, nI_add, nI_ltI, nI_leI, nI_eq, nI_clamp, pu_in, c_0, c_1, c_2, c_3, c_4, c_5, c_6, c_7, c_8, c_9, c_10, c_11, c_12, c_15, c_16, c_17, c_32, c_35, c_36, c_38, c_40, c_41, c_42, c_43, c_44, c_45, c_48, c_57, c_58, c_59, c_60, c_61, c_62, c_64, c_65, c_69, c_75, c_83, c_91, c_93, c_94, c_97, c_105, c_106, c_110, c_119, c_123, c_124, c_125, c_126, c_240, c_256, c_400, c_m, nI_m1, nM_i, lN_add, lN_mul, lN_i, nI_l, lN_eq, lgN_le, lgN_lt, lgN_ge, lgN_gt, nI_sub, nI_mul, d_0, d_1, c_13, c_14, c_18, c_19, c_20, c_21, c_22, c_23, c_24, c_25, c_26, c_27, c_28, c_29, c_30, c_31, c_33, c_34, c_37, c_39, c_46, c_47, c_49, c_50, c_51, c_52, c_53, c_54, c_55, c_56, c_63, c_66, c_67, c_68, c_70, c_71, c_72, c_73, c_74, c_76, c_77, c_78, c_79, c_80, c_81, c_82, c_84, c_85, c_86, c_87, c_88, c_89, c_90, c_92, c_95, c_96, c_98, c_99, c_100, c_101, c_102, c_103, c_104, c_107, c_108, c_109, c_111, c_112, c_113, c_114, c_115, c_116, c_117, c_118, c_120, c_121, c_122, c_127, c_280, d_2, d_3, d_4, d_8, d_9, d_10, d_15, d_16, d_32, d_48, d_62, d_63, d_64, y4, y5, g1, c0', w47, w48, d0']
    · have c1' := c1 hP
      simp (disch := omega) only [ax_let, Option.bind_some, cond_true, cond_false, if_pos, if_neg, if_true, if_false, eq_self, nI_add, nI_ltI, nI_leI, nI_eq, nI_clamp, pu_in, c_0, c_1, c_2, c_3, c_4, c_5, c_6, c_7, c_8, c_9, c_10, c_11, c_12, c_15, c_16, c_17, c_32, c_35, c_36, c_38, c_40, c_41, c_42, c_43, c_44, c_45, c_48, c_57, c_58, c_59, c_60, c_61, c_62, c_64, c_65, c_69, c_75, c_83, c_91, c_93, c_94, c_97, c_105, c_106, c_110, c_119, c_123, c_124, c_125, c_126, c_240, c_256, c_400, c_m, nI_m1, nM_i, lN_add, lN_mul, lN_i, nI_l, lN_eq, lgN_le, lgN_lt, lgN_ge, lgN_gt, nI_sub, nI_mul, d_0, d_1, c_13, c_14, c_18, c_19, c_20, c_21, c_22, c_23, c_24, c_25, c_26, c_27, c_28, c_29, c_30, c_31, c_33, c_34, c_37, c_39, c_46, c_47, c_49, c_50, c_51, c_52, c_53, c_54, c_55, c_56, c_63, c_66, c_67, c_68, c_70, c_71, c_72, c_73, c_74, c_76, c_77, c_78, c_79, c_80, c_81, c_82, c_84, c_85, c_86, c_87, c_88, c_89, c_90, c_92, c_95, c_96, c_98, c_99, c_100, c_101, c_102, c_103, c_104, c_107, c_108, c_109, c_111, c_112, c_113, c_114, c_115, c_116, c_117, c_118, c_120, c_121, c_122, c_127, c_280, d_2, d_3, d_4, d_8, d_9, d_10, d_15, d_16, d_32, d_48, d_62, d_63, d_64, y4, y5, g1, c1', w47, w48, d0']
  · rw [c3, wk_9 (k := wkOf t) (Or.inr e), hK.1]
    have hu : undo K (thw t) (wkOf t) = true := by
      unfold undo
      rw [if_neg (by show ¬ thk t ≤ 6; omega), if_neg (by show ¬ thk t = 7; omega), if_neg (by show ¬ thk t = 12; omega), if_neg (by show ¬ thk t = 9; omega), if_neg (by show ¬ thk t = 11; omega)]
    exact ⟨fun k => ⟨k.1, k.2, fun z => absurd hu z, gxL_nil h3⟩, fun k => ⟨k.1, k.2.1⟩⟩
theorem cs_11 {K : KS} {C : List (Nat × Cx)} (hF : 241 ≤ F) (hn : n ≤ 240) (hk : (dH D)[k]? = some t) (hB : DB D) (htb : (dT D).length ≤ 2) (hK : okK K D) (e : thk t = 11) (h1 : thv t < 10 ^ 9) (h2 : thq t < n) (h3 : the t = []) (hp : thp t < n) (hZ : ZX D s) (hf : ZFa rf s) : csP F D K C k sk rf t s := by
  obtain ⟨y1, y2, -, -, y5, -⟩ := hZ.2.2.1 _ _ hk
  obtain ⟨y5, y6⟩ := y5 (by omega)
  rw [e] at y1
  have hkl := get_lt hk
  have hlen := hB.1
  have g14 : s.1 0 38 14 = nI (dT D).length := hZ.1.2.1
  obtain ⟨s1, rf1, c1, c0, c2, c3, c4⟩ := z_conD (c := 4) (¬ thv t < (dT D).length) (by omega) (show thq t ≤ 240 by omega) hf
  have w52 : s1.2 0 52 k = lN (thv t) := (c4.2 _ _ _ (by unfold X53; omega)).trans y5
  have w48 : s1.1 0 48 k = nI (thp t) := (c4.1 _ _ _ (by unfold X53; omega)).trans y2
  have w14 : s1.1 0 38 14 = nI (dT D).length := (c4.1 _ _ _ (by unfold X53; omega)).trans g14
  by_cases hP : thv t < (dT D).length
  · have c0' := c0 (fun e => e hP)
    have hx : (dT D)[thv t]? = some (dT D)[thv t] := List.getElem?_eq_getElem hP
    generalize hxx : (dT D)[thv t] = x at hx
    have hE : ∀ j, j < 16 → s1.1 0 43 (16 * thv t + j) = nI (tbE x j) ∧ tbE x j < 16 := fun j hj => ⟨(c4.1 _ _ _ (by unfold X53; omega)).trans ((hZ.1.2.2 _ _ hx).1 j hj), (hK.2.2.2 _ _ hx j hj).1⟩
    obtain ⟨fl, r1, r2⟩ := z_rep (F := F) hF (show thv t < 2 by omega) hE
    obtain ⟨s2, rf2, d1, d0, d2, d3, d4⟩ := z_conD (c := 5) (fl = true) (by omega) (show thp t ≤ 240 by omega) c2
    have ea : ∀ v, v < 2 → ((lN v &&& (1 : Int64))).toInt32 = nI v := by decide +kernel
    have ea := ea (thv t) (by omega)
    have ea : ((lN (thv t) &&& lN 1)).toInt32 = nI (thv t) := ea
    refine ⟨s2, rf2, ?_, d2, fun m => ?_, (XG.ofC c4).trans (XG.ofC d4)⟩
    · unfold csB
      rw [nI_clamp (show k < 2 ^ 31 by omega), y1, if_neg (show ¬ nI 11 = (7 : Int32) by decide), if_neg (show ¬ nI 11 = (8 : Int32) by decide), if_neg (show ¬ nI 11 = (9 : Int32) by decide), if_neg (show ¬ nI 11 = (10 : Int32) by decide), if_pos (show nI 11 = (11 : Int32) from rfl)]
      cases hfl : fl with
      | true =>
        rw [hfl, if_pos rfl] at r1
        have d1' := d1 hfl
        simp (disch := omega) only [ax_let, Option.bind_some, cond_true, cond_false, if_pos, if_neg, if_true, if_false, eq_self, nI_add, nI_ltI, nI_leI, nI_eq, nI_clamp, pu_in, c_0, c_1, c_2, c_3, c_4, c_5, c_6, c_7, c_8, c_9, c_10, c_11, c_12, c_15, c_16, c_17, c_32, c_35, c_36, c_38, c_40, c_41, c_42, c_43, c_44, c_45, c_48, c_57, c_58, c_59, c_60, c_61, c_62, c_64, c_65, c_69, c_75, c_83, c_91, c_93, c_94, c_97, c_105, c_106, c_110, c_119, c_123, c_124, c_125, c_126, c_240, c_256, c_400, c_m, nI_m1, nM_i, lN_add, lN_mul, lN_i, nI_l, lN_eq, lgN_le, lgN_lt, lgN_ge, lgN_gt, nI_sub, nI_mul, d_0, d_1, c_13, c_14, c_18, c_19, c_20, c_21, c_22, c_23, c_24, c_25, c_26, c_27, c_28, c_29, c_30, c_31, c_33, c_34, c_37, c_39, c_46, c_47, c_49, c_50, c_51, c_52, c_53, c_54, c_55, c_56, c_63, c_66, c_67, c_68, c_70, c_71, c_72, c_73, c_74, c_76, c_77, c_78, c_79, c_80, c_81, c_82, c_84, c_85, c_86, c_87, c_88, c_89, c_90, c_92, c_95, c_96, c_98, c_99, c_100, c_101, c_102, c_103, c_104, c_107, c_108, c_109, c_111, c_112, c_113, c_114, c_115, c_116, c_117, c_118, c_120, c_121, c_122, c_127, c_280, d_2, d_3, d_4, d_8, d_9, d_10, d_15, d_16, d_32, d_48, d_62, d_63, d_64, y5, y6, g14, c0', w14, w52, w48, ea, r1, d1']
      | false =>
        rw [hfl] at r1
        have r1 : f_Z_repeats F (nI (thv t)) s1 = some (nI 0) := r1
        have d0' := d0 (by rw [hfl]; decide)
        simp (disch := omega) only [ax_let, Option.bind_some, cond_true, cond_false, if_pos, if_neg, if_true, if_false, eq_self, nI_add, nI_ltI, nI_leI, nI_eq, nI_clamp, pu_in, c_0, c_1, c_2, c_3, c_4, c_5, c_6, c_7, c_8, c_9, c_10, c_11, c_12, c_15, c_16, c_17, c_32, c_35, c_36, c_38, c_40, c_41, c_42, c_43, c_44, c_45, c_48, c_57, c_58, c_59, c_60, c_61, c_62, c_64, c_65, c_69, c_75, c_83, c_91, c_93, c_94, c_97, c_105, c_106, c_110, c_119, c_123, c_124, c_125, c_126, c_240, c_256, c_400, c_m, nI_m1, nM_i, lN_add, lN_mul, lN_i, nI_l, lN_eq, lgN_le, lgN_lt, lgN_ge, lgN_gt, nI_sub, nI_mul, d_0, d_1, c_13, c_14, c_18, c_19, c_20, c_21, c_22, c_23, c_24, c_25, c_26, c_27, c_28, c_29, c_30, c_31, c_33, c_34, c_37, c_39, c_46, c_47, c_49, c_50, c_51, c_52, c_53, c_54, c_55, c_56, c_63, c_66, c_67, c_68, c_70, c_71, c_72, c_73, c_74, c_76, c_77, c_78, c_79, c_80, c_81, c_82, c_84, c_85, c_86, c_87, c_88, c_89, c_90, c_92, c_95, c_96, c_98, c_99, c_100, c_101, c_102, c_103, c_104, c_107, c_108, c_109, c_111, c_112, c_113, c_114, c_115, c_116, c_117, c_118, c_120, c_121, c_122, c_127, c_280, d_2, d_3, d_4, d_8, d_9, d_10, d_15, d_16, d_32, d_48, d_62, d_63, d_64, y5, y6, g14, c0', w14, w52, w48, ea, r1, d0']
    · rw [d3, c3, wk_11 (k := wkOf t) e, hK.2.2.1, and_assoc]
      have hu : (¬ undo K (thw t) (wkOf t) = true) ↔ fl = true := by
        unfold undo
        rw [if_neg (by show ¬ thk t ≤ 6; omega), if_neg (by show ¬ thk t = 7; omega), if_neg (by show ¬ thk t = 12; omega), if_neg (by show ¬ thk t = 9; omega), if_pos (show (wkOf t).1 = 11 from e), hK.2.2.1]
        show ¬ (decide ((dT D).length ≤ thv t) || tbF (kB K) (thv t) 16 0) = true ↔ _
        rw [decide_eq_false (by omega), Bool.false_or, tb_rep (E := tbE x) (fun j hj => (hE j hj).2) (fun j hj => (hK.2.2.2 _ _ hx j hj).2), r2]
        exact Classical.not_not
      rw [hu]
      exact ⟨fun k => ⟨k.1, k.2.1, k.2.2, gxL_nil h3⟩, fun k => ⟨k.1, k.2.1, k.2.2.1⟩⟩
  · have c1' := c1 hP
    have d0' : f_Z_consider (nI 0) (nI 5) (nI (thp t)) s1 = some s1 := rfl
    refine ⟨s1, rf1, ?_, c2, fun m => ?_, XG.ofC c4⟩
    · unfold csB
      rw [nI_clamp (show k < 2 ^ 31 by omega), y1, if_neg (show ¬ nI 11 = (7 : Int32) by decide), if_neg (show ¬ nI 11 = (8 : Int32) by decide), if_neg (show ¬ nI 11 = (9 : Int32) by decide), if_neg (show ¬ nI 11 = (10 : Int32) by decide), if_pos (show nI 11 = (11 : Int32) from rfl)]
      simp (disch := omega) only [ax_let, Option.bind_some, cond_true, cond_false, if_pos, if_neg, if_true, if_false, eq_self, nI_add, nI_ltI, nI_leI, nI_eq, nI_clamp, pu_in, c_0, c_1, c_2, c_3, c_4, c_5, c_6, c_7, c_8, c_9, c_10, c_11, c_12, c_15, c_16, c_17, c_32, c_35, c_36, c_38, c_40, c_41, c_42, c_43, c_44, c_45, c_48, c_57, c_58, c_59, c_60, c_61, c_62, c_64, c_65, c_69, c_75, c_83, c_91, c_93, c_94, c_97, c_105, c_106, c_110, c_119, c_123, c_124, c_125, c_126, c_240, c_256, c_400, c_m, nI_m1, nM_i, lN_add, lN_mul, lN_i, nI_l, lN_eq, lgN_le, lgN_lt, lgN_ge, lgN_gt, nI_sub, nI_mul, d_0, d_1, c_13, c_14, c_18, c_19, c_20, c_21, c_22, c_23, c_24, c_25, c_26, c_27, c_28, c_29, c_30, c_31, c_33, c_34, c_37, c_39, c_46, c_47, c_49, c_50, c_51, c_52, c_53, c_54, c_55, c_56, c_63, c_66, c_67, c_68, c_70, c_71, c_72, c_73, c_74, c_76, c_77, c_78, c_79, c_80, c_81, c_82, c_84, c_85, c_86, c_87, c_88, c_89, c_90, c_92, c_95, c_96, c_98, c_99, c_100, c_101, c_102, c_103, c_104, c_107, c_108, c_109, c_111, c_112, c_113, c_114, c_115, c_116, c_117, c_118, c_120, c_121, c_122, c_127, c_280, d_2, d_3, d_4, d_8, d_9, d_10, d_15, d_16, d_32, d_48, d_62, d_63, d_64, y5, y6, g14, c1', w14, w52, w48, d0']
    · rw [c3, wk_11 (k := wkOf t) e, hK.2.2.1]
      have hu : undo K (thw t) (wkOf t) = true := by
        unfold undo
        rw [if_neg (by show ¬ thk t ≤ 6; omega), if_neg (by show ¬ thk t = 7; omega), if_neg (by show ¬ thk t = 12; omega), if_neg (by show ¬ thk t = 9; omega), if_pos (show (wkOf t).1 = 11 from e), hK.2.2.1]
        show (decide ((dT D).length ≤ thv t) || _) = true
        rw [decide_eq_true (by omega)]
        rfl
      exact ⟨fun k => ⟨k.1, k.2, fun z => absurd hu z, gxL_nil h3⟩, fun k => ⟨k.1, k.2.1⟩⟩
theorem cs_12 {K : KS} {C : List (Nat × Cx)} (hF : 241 ≤ F) (hn : n ≤ 240) (hk : (dH D)[k]? = some t) (hB : DB D) (hv : vD D) (hK : okK K D) (e : thk t = 12) (h1 : ∀ x ∈ thn t, x.1 < 10 ^ 9 ∧ x.2 < n) (h3 : the t = []) (hp : thp t < n) (hZ : ZX D s) (hf : ZFa rf s) : csP F D K C k sk rf t s := by
  obtain ⟨y1, y2, -, -, -, -, y7⟩ := hZ.2.2.1 _ _ hk
  obtain ⟨y7, y8⟩ := y7 e
  rw [e] at y1
  have hkl := get_lt hk
  have hlen := hB.1
  have hB4 := hB.2.2.2
  have hends := fm_len2 (f := thn) hk
  have hend : rOff (dH D) k + (thn t).length ≤ 240 := by unfold rOff; omega
  have hw64 : D.1.1 ≤ 64 := by have := hv.1; omega
  have g0 : s.2 0 41 0 = lN D.1.1 := (hZ.1.1.2 0 _ rfl).1
  obtain ⟨s1, rf1, c1, c2, c3, c4⟩ := cs_332 (F := F) (k := k) (D := D) (by omega) hend hw64 (thn t) (rOff (dH D) k) F rf s rfl (by omega) y8 g0 (fun j x hj => by
    have := fm_get (f := thn) hk (get_lt hj)
    rw [hj] at this
    exact hZ.2.1.2.2.2 _ _ this) (fun x hx => ⟨(h1 x hx).1, by have := (h1 x hx).2; omega⟩) hf
  obtain ⟨s2, rf2, d1, d0, d2, d3, d4⟩ := z_conD (c := 5) ((thn t).length % 2 = 0) (by omega) (show thp t ≤ 240 by omega) c2
  have w54 : s1.1 0 54 k = nI (rOff (dH D) k) := (c4.1 _ _ _ (by unfold X53; omega)).trans y7
  have w55 : s1.1 0 55 k = nI (rOff (dH D) k + (thn t).length) := (c4.1 _ _ _ (by unfold X53; omega)).trans y8
  have w48 : s1.1 0 48 k = nI (thp t) := (c4.1 _ _ _ (by unfold X53; omega)).trans y2
  have em := nI_odd (v := (thn t).length) (by omega)
  refine ⟨s2, rf2, ?_, d2, fun m => ?_, (XG.ofC c4).trans (XG.ofC d4)⟩
  · unfold csB
    rw [nI_clamp (show k < 2 ^ 31 by omega), y1, if_neg (show ¬ nI 12 = (7 : Int32) by decide), if_neg (show ¬ nI 12 = (8 : Int32) by decide), if_neg (show ¬ nI 12 = (9 : Int32) by decide), if_neg (show ¬ nI 12 = (10 : Int32) by decide), if_neg (show ¬ nI 12 = (11 : Int32) by decide), if_pos (show nI 12 = (12 : Int32) from rfl)]
    have es : nI (rOff (dH D) k + (thn t).length) - nI (rOff (dH D) k) = nI (thn t).length := by
      rw [nI_sub (by omega), Nat.add_sub_cancel_left]
    clear hv
    by_cases hQ : (thn t).length % 2 = 0
    · have d1' := d1 hQ
      simp (disch := omega) only [ax_let, Option.bind_some, cond_true, cond_false, if_pos, if_neg, if_true, if_false, eq_self, nI_add, nI_ltI, nI_leI, nI_eq, nI_clamp, pu_in, c_0, c_1, c_2, c_3, c_4, c_5, c_6, c_7, c_8, c_9, c_10, c_11, c_12, c_15, c_16, c_17, c_32, c_35, c_36, c_38, c_40, c_41, c_42, c_43, c_44, c_45, c_48, c_57, c_58, c_59, c_60, c_61, c_62, c_64, c_65, c_69, c_75, c_83, c_91, c_93, c_94, c_97, c_105, c_106, c_110, c_119, c_123, c_124, c_125, c_126, c_240, c_256, c_400, c_m, nI_m1, nM_i, lN_add, lN_mul, lN_i, nI_l, lN_eq, lgN_le, lgN_lt, lgN_ge, lgN_gt, nI_sub, nI_mul, d_0, d_1, c_13, c_14, c_18, c_19, c_20, c_21, c_22, c_23, c_24, c_25, c_26, c_27, c_28, c_29, c_30, c_31, c_33, c_34, c_37, c_39, c_46, c_47, c_49, c_50, c_51, c_52, c_53, c_54, c_55, c_56, c_63, c_66, c_67, c_68, c_70, c_71, c_72, c_73, c_74, c_76, c_77, c_78, c_79, c_80, c_81, c_82, c_84, c_85, c_86, c_87, c_88, c_89, c_90, c_92, c_95, c_96, c_98, c_99, c_100, c_101, c_102, c_103, c_104, c_107, c_108, c_109, c_111, c_112, c_113, c_114, c_115, c_116, c_117, c_118, c_120, c_121, c_122, c_127, c_280, d_2, d_3, d_4, d_8, d_9, d_10, d_15, d_16, d_32, d_48, d_62, d_63, d_64, y7, c1, w54, w55, w48, es, em, d1']
    · have d0' := d0 hQ
      simp (disch := omega) only [ax_let, Option.bind_some, cond_true, cond_false, if_pos, if_neg, if_true, if_false, eq_self, nI_add, nI_ltI, nI_leI, nI_eq, nI_clamp, pu_in, c_0, c_1, c_2, c_3, c_4, c_5, c_6, c_7, c_8, c_9, c_10, c_11, c_12, c_15, c_16, c_17, c_32, c_35, c_36, c_38, c_40, c_41, c_42, c_43, c_44, c_45, c_48, c_57, c_58, c_59, c_60, c_61, c_62, c_64, c_65, c_69, c_75, c_83, c_91, c_93, c_94, c_97, c_105, c_106, c_110, c_119, c_123, c_124, c_125, c_126, c_240, c_256, c_400, c_m, nI_m1, nM_i, lN_add, lN_mul, lN_i, nI_l, lN_eq, lgN_le, lgN_lt, lgN_ge, lgN_gt, nI_sub, nI_mul, d_0, d_1, c_13, c_14, c_18, c_19, c_20, c_21, c_22, c_23, c_24, c_25, c_26, c_27, c_28, c_29, c_30, c_31, c_33, c_34, c_37, c_39, c_46, c_47, c_49, c_50, c_51, c_52, c_53, c_54, c_55, c_56, c_63, c_66, c_67, c_68, c_70, c_71, c_72, c_73, c_74, c_76, c_77, c_78, c_79, c_80, c_81, c_82, c_84, c_85, c_86, c_87, c_88, c_89, c_90, c_92, c_95, c_96, c_98, c_99, c_100, c_101, c_102, c_103, c_104, c_107, c_108, c_109, c_111, c_112, c_113, c_114, c_115, c_116, c_117, c_118, c_120, c_121, c_122, c_127, c_280, d_2, d_3, d_4, d_8, d_9, d_10, d_15, d_16, d_32, d_48, d_62, d_63, d_64, y7, c1, w54, w55, w48, es, em, d0']
  · rw [d3, c3, wk_12 (k := wkOf t) e, hK.2.1, and_assoc]
    have hu : (¬ undo K (thw t) (wkOf t) = true) ↔ (thn t).length % 2 = 0 := by
      unfold undo
      rw [if_neg (by show ¬ thk t ≤ 6; omega), if_neg (by show ¬ thk t = 7; omega), if_pos (show (wkOf t).1 = 12 from e), decide_eq_true_eq]
      show ¬ (thn t).length % 2 = 1 ↔ _
      omega
    rw [hu]
    exact ⟨fun k => ⟨k.1, k.2.1, k.2.2, gxL_nil h3⟩, fun k => ⟨k.1, k.2.1, k.2.2.1⟩⟩
theorem cs_4 {K : KS} {C : List (Nat × Cx)} {pre rest : List Th} {w : List Nat} (hF : 241 ≤ F) (hn : n ≤ 240) (hE : ExS D C n pre sk t) (hT : ThB D) (hK : okK K D) (e : 4 ≤ thk t ∧ thk t ≤ 6) (h3 : okE w (the t)) (hR : CxR C 2 (dH D) 0 pre sk rest) (hZ : ZX D s) (hKd : ZKd (dH D) s) (hf : ZFa rf s) : csP F D K C pre.length sk rf t s := by
  obtain ⟨e1, e2, e3, e4, e5, e6, e7, e8, e9, e10⟩ := id hE
  obtain ⟨y1, -⟩ := hZ.2.2.1 _ _ e6
  have hkl := get_lt e6
  have hlen := e2.1
  obtain ⟨s1, rf1, a1, a2, a3, a4⟩ := z_ce hF hn hE (by omega) hT hR hZ hKd hf
  refine ⟨s1, rf1, ?_, a2, fun m => ?_, a4⟩
  · unfold csB
    rw [nI_clamp (show pre.length < 2 ^ 31 by omega), y1]
    have hne : ∀ x : Nat, 7 ≤ x → x < 13 → ¬ nI (thk t) = nI x := fun x h1 h2 h => by rw [nI_eq (by omega) (by omega)] at h; omega
    rw [if_neg (show ¬ nI (thk t) = (7 : Int32) from hne 7 (by omega) (by omega)), if_neg (show ¬ nI (thk t) = (8 : Int32) from hne 8 (by omega) (by omega)), if_neg (show ¬ nI (thk t) = (9 : Int32) from hne 9 (by omega) (by omega)), if_neg (show ¬ nI (thk t) = (10 : Int32) from hne 10 (by omega) (by omega)), if_neg (show ¬ nI (thk t) = (11 : Int32) from hne 11 (by omega) (by omega)), if_neg (show ¬ nI (thk t) = (12 : Int32) from hne 12 (by omega) (by omega)), a1]
    rfl
  · rw [a3]
    have hw0 : wkN K m (ltC C) (wkOf t) = exN (ksn K) (kw K) m (ltC C) (the t) := by
      unfold wkN
      rw [if_pos (show (wkOf t).1 ≤ 6 from by show thk t ≤ 6; omega)]
      rfl
    have hu : (¬ undo K (thw t) (wkOf t) = true) ↔ ¬ ∀ o ∈ the t, o.1 = 1 → o.2.1 ≠ thw t := by
      unfold undo
      rw [if_pos (show (wkOf t).1 ≤ 6 from by show thk t ≤ 6; omega), decide_eq_true_eq]
      show ¬ ((aOf (the t)).1 &&& 2 ^ thw t = 0) ↔ _
      rw [uses_iff e9 h3]
    have hlt : ¬ pre.length < (dW D).length := fun h => by have := e8.mp h; omega
    have hd : decide (thk t = 1) = decide (pre.length < (dW D).length) := decide_eq_decide.mpr e8.symm
    rw [hw0, hu, hK.1, hK.2.1]
    unfold gxL ceO exN
    rw [if_neg hlt, hd]
    constructor
    · rintro ⟨k1, k2⟩
      refine ⟨k1, fun o ho => (k2 o ho).1, fun hn => ?_, fun o ho => (k2 o ho).2.2⟩
      refine Classical.byContradiction (fun hc => hn (fun o ho h1 h2 => hc ((k2 o ho).2.1 hlt h1 h2)))
    · rintro ⟨k1, k2, k3, k4⟩
      exact ⟨k1, fun o ho => ⟨k2 o ho, fun _ h1 h2 => k3 (fun hn => hn o ho h1 h2), k4 o ho⟩⟩
end
