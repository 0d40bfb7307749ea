/-! PURE: the reference reads the tables -/
theorem lN_toInt6 {n : Nat} (h : n < 2 ^ 63) : (lN n).toInt = (n : Int) := Int64.toInt_ofNat_of_lt h
theorem lN_div6 {a b : Nat} (ha : a < 2 ^ 63) (hb : b < 2 ^ 31) : lN a / lN b = lN (a / b) := by
  apply Int64.toInt_inj.mp
  have hm : lN b ≠ -1 := fun e => by
    have h1 := lN_toInt hb
    rw [e] at h1
    have h2 : ((-1 : Int64)).toInt = -1 := by decide
    rw [h2] at h1
    omega
  rw [Int64.toInt_div_of_ne_right _ _ hm, lN_toInt6 ha, lN_toInt hb, lN_toInt6 (Nat.lt_of_le_of_lt (Nat.div_le_self _ _) ha)]
  rfl
def hxC (v : Nat) : Nat := if v < 10 then 48 + v else 87 + v
def hxs (E : Nat → Nat) : Nat → Nat → List Nat
  | _, 0 => []
  | i, j + 1 => hxC (E i) :: hxs E (i + 1) j
theorem hxs_len (E : Nat → Nat) : ∀ (j i : Nat), (hxs E i j).length = j
  | 0, i => rfl
  | j + 1, i => by rw [hxs, List.length_cons, hxs_len E j]
/-- a table as it is printed -/
def tbPr (t : Tb) : List Nat := 35 :: hxs (tbE t) 0 16 ++ [59]
theorem zhx {c : Nat} (hc : c < 128) : f_Z_hex (nI c) = some (match hexv c with
    | some v => nI v
    | none => nM) := by
  have h : ∀ c, c < 128 → f_Z_hex (nI c) = some (match hexv c with
    | some v => nI v
    | none => nM) := by decide +kernel
  exact h c hc
theorem hx_c {c v : Nat} (h : hexv c = some v) : hxC v = c := by
  unfold hexv at h
  unfold hxC
  by_cases h1 : isD c = true
  · rw [if_pos h1] at h
    injection h with h
    have := isD_i.mp h1
    rw [if_pos (by omega)]
    omega
  · rw [if_neg h1] at h
    by_cases h2 : 97 ≤ c ∧ c ≤ 102
    · rw [if_pos h2] at h
      injection h with h
      rw [if_neg (by omega)]
      omega
    · rw [if_neg h2] at h; cases h
section
variable {R F n : Nat} {f : Nat → Nat} {ts r r2 : List Tok} {s s' s1 s2 s0 : ax_σ} {md md' c p m sec t : Nat} {Tot Pr P1 : List Nat} {Ops Ops' : List Op} {Tms Tms' : List Tm} {Fs Fs' : List Nat}
theorem z_reck {F fa ad : Nat} (ht : t < 2) (hf : fa < 10 ^ 9) (ha : ad < 10 ^ 9) : ∀ (j i M : Nat) (Pr : List Nat) (s : ax_σ), i + j = 16 → j < M → ZP Pr s → Pr.length + j ≤ 280 → s.2 0 44 (2 * t) = lN fa → s.2 0 44 (2 * t + 1) = lN ad → ∃ s', lp_Z_reckon_9 F (nI t) M (nI i) s = some s' ∧ ZP (Pr ++ hxs (fun k => (k * fa + ad) % 16) i j) s' ∧ (∀ k, i ≤ k → k < 16 → s'.1 0 43 (16 * t + k) = nI ((k * fa + ad) % 16)) ∧ frm (fun g r k => g = 0 ∧ (r = 67 ∨ (r = 38 ∧ k = 51) ∨ (r = 43 ∧ 16 * t + i ≤ k ∧ k < 16 * t + 16))) s s'
  | j, i, 0, Pr, s, _, hm, _, _, _, _ => absurd hm (Nat.not_lt_zero _)
  | 0, i, M + 1, Pr, s, hi, hm, hP, hl, h1, h2 => by
    refine ⟨s, ?_, by rw [hxs, List.append_nil]; exact hP, fun k a b => by omega, frm.refl⟩
    rw [lp_Z_reckon_9]
    simp (disch := omega) only [ax_let, Option.bind_some, cond_true, cond_false, if_pos, if_neg, if_true, if_false, eq_self, nI_add, nI_ltI, nI_leI, nI_eq, nI_clamp, pu_in, c_0, c_1, c_2, c_3, c_4, c_5, c_6, c_7, c_8, c_9, c_10, c_11, c_12, c_15, c_16, c_17, c_32, c_35, c_36, c_38, c_40, c_41, c_42, c_43, c_44, c_45, c_48, c_57, c_58, c_59, c_60, c_61, c_62, c_64, c_65, c_69, c_75, c_83, c_91, c_93, c_94, c_97, c_105, c_106, c_110, c_119, c_123, c_124, c_125, c_126, c_240, c_256, c_400, c_m, nI_m1, nM_i, lN_add, lN_mul, lN_i, nI_l, lN_eq, lgN_le, lgN_lt, lgN_ge, lgN_gt, nI_sub, nI_mul, d_0, d_1, c_13, c_14, c_18, c_19, c_20, c_21, c_22, c_23, c_24, c_25, c_26, c_27, c_28, c_29, c_30, c_31, c_33, c_34, c_37, c_39, c_46, c_47, c_49, c_50, c_51, c_52, c_53, c_54, c_55, c_56, c_63, c_66, c_67, c_68, c_70, c_71, c_72, c_73, c_74, c_76, c_77, c_78, c_79, c_80, c_81, c_82, c_84, c_85, c_86, c_87, c_88, c_89, c_90, c_92, c_95, c_96, c_98, c_99, c_100, c_101, c_102, c_103, c_104, c_107, c_108, c_109, c_111, c_112, c_113, c_114, c_115, c_116, c_117, c_118, c_120, c_121, c_122, c_127, c_280, d_2, d_3, d_4, d_8, d_9, d_10, d_15, d_16, d_32, d_48, d_62, d_63, d_64]
  | j + 1, i, M + 1, Pr, s, hi, hm, hP, hl, h1, h2 => by
    have hb : i * fa + ad < 2 ^ 63 := by
      have : i * fa ≤ 16 * fa := Nat.mul_le_mul_right _ (by omega)
      omega
    have e1 : lN (i * fa + ad) - lN ((i * fa + ad) / 16 * 16) = lN ((i * fa + ad) % 16) := by
      rw [lN_sub (by omega)]
      congr 1
      omega
    have hd := lN_div6 (a := i * fa + ad) (b := 16) hb (by omega)
    have hP1 : ZP Pr (ax_wI s 0 43 (16 * t + i) (nI ((i * fa + ad) % 16))) := hP.keep (Q := fun g r k => r = 43) (frm.refl.wI _ _ _ _ rfl) (fun r k h => by omega)
    have hlt : (i * fa + ad) % 16 < 16 := by omega
    obtain ⟨s1, a1, a2, a3⟩ := zp_1 (c := hxC ((i * fa + ad) % 16)) hP1 (by omega)
    have f1 : frm (fun g r k => g = 0 ∧ (r = 67 ∨ (r = 38 ∧ k = 51) ∨ (r = 43 ∧ 16 * t + i ≤ k ∧ k < 16 * t + 16))) s s1 := (frm.refl.wI 0 43 (16 * t + i) _ (by omega)).trans (a3.imp (fun g r k h => by unfold XP at h; omega))
    obtain ⟨s2, b1, b2, b3, b4⟩ := z_reck (F := F) ht hf ha j (i + 1) M _ s1 (by omega) (by omega) a2 (by rw [List.length_append, List.length_singleton]; omega) ((f1.2 0 44 _ (by omega)).trans h1) ((f1.2 0 44 _ (by omega)).trans h2)
    refine ⟨s2, ?_, ?_, fun k k1 k2 => ?_, f1.trans (b4.imp (fun g r k h => by omega))⟩
    · rw [lp_Z_reckon_9]
      unfold hxC at a1
      by_cases h10 : (i * fa + ad) % 16 < 10
      · rw [if_pos h10] at a1
        simp (disch := omega) only [ax_let, Option.bind_some, cond_true, cond_false, if_pos, if_neg, if_true, if_false, eq_self, nI_add, nI_ltI, nI_leI, nI_eq, nI_clamp, pu_in, c_0, c_1, c_2, c_3, c_4, c_5, c_6, c_7, c_8, c_9, c_10, c_11, c_12, c_15, c_16, c_17, c_32, c_35, c_36, c_38, c_40, c_41, c_42, c_43, c_44, c_45, c_48, c_57, c_58, c_59, c_60, c_61, c_62, c_64, c_65, c_69, c_75, c_83, c_91, c_93, c_94, c_97, c_105, c_106, c_110, c_119, c_123, c_124, c_125, c_126, c_240, c_256, c_400, c_m, nI_m1, nM_i, lN_add, lN_mul, lN_i, nI_l, lN_eq, lgN_le, lgN_lt, lgN_ge, lgN_gt, nI_sub, nI_mul, d_0, d_1, c_13, c_14, c_18, c_19, c_20, c_21, c_22, c_23, c_24, c_25, c_26, c_27, c_28, c_29, c_30, c_31, c_33, c_34, c_37, c_39, c_46, c_47, c_49, c_50, c_51, c_52, c_53, c_54, c_55, c_56, c_63, c_66, c_67, c_68, c_70, c_71, c_72, c_73, c_74, c_76, c_77, c_78, c_79, c_80, c_81, c_82, c_84, c_85, c_86, c_87, c_88, c_89, c_90, c_92, c_95, c_96, c_98, c_99, c_100, c_101, c_102, c_103, c_104, c_107, c_108, c_109, c_111, c_112, c_113, c_114, c_115, c_116, c_117, c_118, c_120, c_121, c_122, c_127, c_280, d_2, d_3, d_4, d_8, d_9, d_10, d_15, d_16, d_32, d_48, d_62, d_63, d_64, h1, h2, hd, e1, a1]
        exact b1
      · rw [if_neg h10] at a1
        have e2 : 97 + (i * fa + ad) % 16 - 10 = 87 + (i * fa + ad) % 16 := by omega
        simp (disch := omega) only [ax_let, Option.bind_some, cond_true, cond_false, if_pos, if_neg, if_true, if_false, eq_self, nI_add, nI_ltI, nI_leI, nI_eq, nI_clamp, pu_in, c_0, c_1, c_2, c_3, c_4, c_5, c_6, c_7, c_8, c_9, c_10, c_11, c_12, c_15, c_16, c_17, c_32, c_35, c_36, c_38, c_40, c_41, c_42, c_43, c_44, c_45, c_48, c_57, c_58, c_59, c_60, c_61, c_62, c_64, c_65, c_69, c_75, c_83, c_91, c_93, c_94, c_97, c_105, c_106, c_110, c_119, c_123, c_124, c_125, c_126, c_240, c_256, c_400, c_m, nI_m1, nM_i, lN_add, lN_mul, lN_i, nI_l, lN_eq, lgN_le, lgN_lt, lgN_ge, lgN_gt, nI_sub, nI_mul, d_0, d_1, c_13, c_14, c_18, c_19, c_20, c_21, c_22, c_23, c_24, c_25, c_26, c_27, c_28, c_29, c_30, c_31, c_33, c_34, c_37, c_39, c_46, c_47, c_49, c_50, c_51, c_52, c_53, c_54, c_55, c_56, c_63, c_66, c_67, c_68, c_70, c_71, c_72, c_73, c_74, c_76, c_77, c_78, c_79, c_80, c_81, c_82, c_84, c_85, c_86, c_87, c_88, c_89, c_90, c_92, c_95, c_96, c_98, c_99, c_100, c_101, c_102, c_103, c_104, c_107, c_108, c_109, c_111, c_112, c_113, c_114, c_115, c_116, c_117, c_118, c_120, c_121, c_122, c_127, c_280, d_2, d_3, d_4, d_8, d_9, d_10, d_15, d_16, d_32, d_48, d_62, d_63, d_64, h1, h2, hd, e1, e2, a1]
        exact b1
    · rw [List.append_assoc] at b2
      exact b2
    · by_cases hk : k = i
      · subst hk
        rw [b4.1 0 43 _ (by omega), a3.1 0 43 _ (by unfold XP; omega)]
        simp (disch := omega) only [wI_1, wI_2, wL_1, wL_2, true_and, and_true, and_self, false_and, and_false, if_true, if_false, if_pos, if_neg]
      · exact b3 k (by omega) k2
/-- the tables read so far -/
def ztbA (u : Nat) (x : Tb) (s : ax_σ) : Prop := (∀ k, k < 16 → s.1 0 43 (16 * u + k) = nI (tbE x k)) ∧ (x.2 = [] ∧ s.1 0 45 (2 * u) = nM ∨ ∃ m a, x.2 = [m, a] ∧ s.2 0 44 (2 * u) = lN m.1 ∧ s.1 0 45 (2 * u) = nI m.2 ∧ s.2 0 44 (2 * u + 1) = lN a.1 ∧ s.1 0 45 (2 * u + 1) = nI a.2)
def ZTb (l : List Tb) (s : ax_σ) : Prop := ∀ u x, l[u]? = some x → ztbA u x s
theorem ZTb.keep {l : List Tb} {Q : Nat → Nat → Nat → Prop} (h : ZTb l s) (hf : frm Q s s') (hq : ∀ r k, (r = 43 ∧ k < 16 * l.length) ∨ ((r = 44 ∨ r = 45) ∧ k < 2 * l.length) → ¬ Q 0 r k) : ZTb l s' := by
  intro u x hu
  have hl := get_lt hu
  obtain ⟨h1, h2⟩ := h u x hu
  refine ⟨fun k hk => (hf.1 _ _ _ (hq 43 _ (by omega))).trans (h1 k hk), ?_⟩
  rcases h2 with ⟨a, b⟩ | ⟨m, a, b, c1, c2, c3, c4⟩
  · exact Or.inl ⟨a, (hf.1 _ _ _ (hq 45 _ (by omega))).trans b⟩
  · exact Or.inr ⟨m, a, b, (hf.2 _ _ _ (hq 44 _ (by omega))).trans c1, (hf.1 _ _ _ (hq 45 _ (by omega))).trans c2, (hf.2 _ _ _ (hq 44 _ (by omega))).trans c3, (hf.1 _ _ _ (hq 45 _ (by omega))).trans c4⟩
theorem ZTb.add {l : List Tb} {x : Tb} (h : ZTb l s) (hx : ztbA l.length x s) : ZTb (l ++ [x]) s := by
  intro u y hu
  rcases getc hu with ⟨i1, i2⟩ | ⟨i1, i2⟩
  · exact h u y i2
  · subst i1
    subst i2
    exact hx
/-- what a table changes -/
def XTb (t g r k : Nat) : Prop := g = 0 ∧ (r = 67 ∨ (r = 38 ∧ ((7 ≤ k ∧ k ≤ 10) ∨ k = 14 ∨ k = 15 ∨ k = 51)) ∨ (r = 43 ∧ 16 * t ≤ k ∧ k < 16 * t + 16) ∨ ((r = 44 ∨ r = 45) ∧ 2 * t ≤ k ∧ k < 2 * t + 2))
theorem XTb.h (h : frm (XTb t) s s') (ht : t < 2) : frm XHp s s' := h.imp (fun g r k h => by unfold XTb at h; unfold XHp; omega)
theorem XTb.ofP (h : frm XP s s') : frm (XTb t) s s' := h.imp (fun g r k h => by unfold XP at h; unfold XTb; omega)
theorem ZE.hash2 (h : ZE R n f 2 ((35, p) :: ts) Tot Pr Ops Tms Fs s) (h14 : s.1 0 38 14 = nI t) (ht : t < 2) : ∃ s2 T2, zgo 0 R F n f ((35, p) :: ts) s ts s2 ∧ ZE R n f 3 ts T2 (Pr ++ [35]) Ops Tms Fs s2 ∧ s2.1 0 38 14 = nI (t + 1) ∧ s2.1 0 38 15 = nI 0 ∧ s2.1 0 45 (2 * t) = nM ∧ frm (XTb t) s s2 := by
  have e2 : 2 * (t + 1) - 2 = 2 * t := by omega
  have f1 : frm (XTb t) s (ax_wI (ax_wI (ax_wI (ax_wI s 0 38 14 (nI (t + 1))) 0 38 15 (nI 0)) 0 45 (2 * t) nM) 0 38 7 (nI 3)) := by
    refine (((frm.refl.wI _ _ _ _ ?_).wI _ _ _ _ ?_).wI _ _ _ _ ?_).wI _ _ _ _ ?_ <;> unfold XTb <;> omega
  have hD : zdis F 2 35 p s = some (nI 1, ax_wI (ax_wI (ax_wI (ax_wI s 0 38 14 (nI (t + 1))) 0 38 15 (nI 0)) 0 45 (2 * t) nM) 0 38 7 (nI 3)) := by
    have h7' := h.2.2.1
    unfold zdis f_Z_acceptsHead
    simp (disch := omega) only [ax_let, Option.bind_some, cond_true, cond_false, if_pos, if_neg, if_true, if_false, eq_self, nI_add, nI_ltI, nI_leI, nI_eq, nI_clamp, pu_in, c_0, c_1, c_2, c_3, c_4, c_5, c_6, c_7, c_8, c_9, c_10, c_11, c_12, c_15, c_16, c_17, c_32, c_35, c_36, c_38, c_40, c_41, c_42, c_43, c_44, c_45, c_48, c_57, c_58, c_59, c_60, c_61, c_62, c_64, c_65, c_69, c_75, c_83, c_91, c_93, c_94, c_97, c_105, c_106, c_110, c_119, c_123, c_124, c_125, c_126, c_240, c_256, c_400, c_m, nI_m1, nM_i, lN_add, lN_mul, lN_i, nI_l, lN_eq, lgN_le, lgN_lt, lgN_ge, lgN_gt, nI_sub, nI_mul, d_0, d_1, c_13, c_14, c_18, c_19, c_20, c_21, c_22, c_23, c_24, c_25, c_26, c_27, c_28, c_29, c_30, c_31, c_33, c_34, c_37, c_39, c_46, c_47, c_49, c_50, c_51, c_52, c_53, c_54, c_55, c_56, c_63, c_66, c_67, c_68, c_70, c_71, c_72, c_73, c_74, c_76, c_77, c_78, c_79, c_80, c_81, c_82, c_84, c_85, c_86, c_87, c_88, c_89, c_90, c_92, c_95, c_96, c_98, c_99, c_100, c_101, c_102, c_103, c_104, c_107, c_108, c_109, c_111, c_112, c_113, c_114, c_115, c_116, c_117, c_118, c_120, c_121, c_122, c_127, c_280, d_2, d_3, d_4, d_8, d_9, d_10, d_15, d_16, d_32, d_48, d_62, d_63, d_64, wI_1, wI_2, wL_1, wL_2, true_and, and_true, and_self, false_and, and_false, if_true, if_false, h7', h14, e2]
  have hb := h.2.2.2.2.2.2.2.1.1
  rw [List.length_cons] at hb
  obtain ⟨s2, b1, b2, b3⟩ := h.stepH (md' := 3) (P1 := Pr) (by omega) (zw_z (by unfold wants; omega)) hD (XTb.h f1 ht) (by simp (disch := omega) only [wI_1, wI_2, wL_1, wL_2, true_and, and_true, and_self, false_and, and_false, if_true, if_false, if_pos, if_neg]; exact h.2.1) (by simp (disch := omega) only [wI_1, wI_2, wL_1, wL_2, true_and, and_true, and_self, false_and, and_false, if_true, if_false, if_pos, if_neg]) (h.2.2.2.1.keep (Q := fun g r k => (r = 38 ∧ (k = 14 ∨ k = 15 ∨ k = 7)) ∨ r = 45) (by refine (((frm.refl.wI _ _ _ _ ?_).wI _ _ _ _ ?_).wI _ _ _ _ ?_).wI _ _ _ _ ?_ <;> omega) (fun r k h => by omega)) (by omega) (fun _ => by omega)
  refine ⟨s2, _, b1, b2, ?_, ?_, ?_, f1.trans (XTb.ofP b3)⟩
  · rw [b3.1 0 38 14 (by unfold XP; omega)]; simp (disch := omega) only [wI_1, wI_2, wL_1, wL_2, true_and, and_true, and_self, false_and, and_false, if_true, if_false, if_pos, if_neg]
  · rw [b3.1 0 38 15 (by unfold XP; omega)]; simp (disch := omega) only [wI_1, wI_2, wL_1, wL_2, true_and, and_true, and_self, false_and, and_false, if_true, if_false, if_pos, if_neg]
  · rw [b3.1 0 45 _ (by unfold XP; omega)]; simp (disch := omega) only [wI_1, wI_2, wL_1, wL_2, true_and, and_true, and_self, false_and, and_false, if_true, if_false, if_pos, if_neg]
/-- one hex digit -/
theorem ZE.hex3 {i v : Nat} (h : ZE R n f md ((c, p) :: ts) Tot Pr Ops Tms Fs s) (hmd : (md = 3 ∧ c ≠ 42) ∨ md = 4) (h14 : s.1 0 38 14 = nI (t + 1)) (h15 : s.1 0 38 15 = nI i) (ht : t < 2) (hi : i < 16) (hv : hexv c = some v) : ∃ s2 T2, zgo 0 R F n f ((c, p) :: ts) s ts s2 ∧ ZE R n f 4 ts T2 (Pr ++ [hxC v]) Ops Tms Fs s2 ∧ s2.1 0 38 15 = nI (i + 1) ∧ s2.1 0 43 (16 * t + i) = nI v ∧ frm (fun g r k => g = 0 ∧ (r = 67 ∨ (r = 38 ∧ (k = 7 ∨ k = 15 ∨ k = 51)) ∨ (r = 43 ∧ k = 16 * t + i))) s s2 := by
  have hc' := (h.tk _ (List.mem_cons_self ..)).1
  have e2 : 16 * (t + 1) - 16 + i - (16 * (t + 1) - 16 + i) / 32 * 32 = 16 * t + i := by omega
  have e3 : (16 * (t + 1) - 16 + i) / 32 * 32 ≤ 16 * (t + 1) - 16 + i := by omega
  have hx := zhx hc'
  rw [hv] at hx
  have hx : f_Z_hex (nI c) = some (nI v) := hx
  have hv16 := hexv_lt hv
  have f1 : frm (fun g r k => g = 0 ∧ ((r = 38 ∧ (k = 7 ∨ k = 15)) ∨ (r = 43 ∧ k = 16 * t + i))) s (ax_wI (ax_wI (ax_wI s 0 43 (16 * t + i) (nI v)) 0 38 15 (nI (i + 1))) 0 38 7 (nI 4)) := by
    refine ((frm.refl.wI _ _ _ _ ?_).wI _ _ _ _ ?_).wI _ _ _ _ ?_ <;> omega
  have hD : zdis F md c p s = some (nI 1, ax_wI (ax_wI (ax_wI s 0 43 (16 * t + i) (nI v)) 0 38 15 (nI (i + 1))) 0 38 7 (nI 4)) := by
    have h7' := h.2.2.1
    unfold zdis f_Z_acceptsHead
    rcases hmd with ⟨rfl, h42⟩ | rfl
    · simp (disch := omega) only [ax_let, Option.bind_some, cond_true, cond_false, if_pos, if_neg, if_true, if_false, eq_self, nI_add, nI_ltI, nI_leI, nI_eq, nI_clamp, pu_in, c_0, c_1, c_2, c_3, c_4, c_5, c_6, c_7, c_8, c_9, c_10, c_11, c_12, c_15, c_16, c_17, c_32, c_35, c_36, c_38, c_40, c_41, c_42, c_43, c_44, c_45, c_48, c_57, c_58, c_59, c_60, c_61, c_62, c_64, c_65, c_69, c_75, c_83, c_91, c_93, c_94, c_97, c_105, c_106, c_110, c_119, c_123, c_124, c_125, c_126, c_240, c_256, c_400, c_m, nI_m1, nM_i, lN_add, lN_mul, lN_i, nI_l, lN_eq, lgN_le, lgN_lt, lgN_ge, lgN_gt, nI_sub, nI_mul, d_0, d_1, c_13, c_14, c_18, c_19, c_20, c_21, c_22, c_23, c_24, c_25, c_26, c_27, c_28, c_29, c_30, c_31, c_33, c_34, c_37, c_39, c_46, c_47, c_49, c_50, c_51, c_52, c_53, c_54, c_55, c_56, c_63, c_66, c_67, c_68, c_70, c_71, c_72, c_73, c_74, c_76, c_77, c_78, c_79, c_80, c_81, c_82, c_84, c_85, c_86, c_87, c_88, c_89, c_90, c_92, c_95, c_96, c_98, c_99, c_100, c_101, c_102, c_103, c_104, c_107, c_108, c_109, c_111, c_112, c_113, c_114, c_115, c_116, c_117, c_118, c_120, c_121, c_122, c_127, c_280, d_2, d_3, d_4, d_8, d_9, d_10, d_15, d_16, d_32, d_48, d_62, d_63, d_64, wI_1, wI_2, wL_1, wL_2, true_and, and_true, and_self, false_and, and_false, if_true, if_false, h7', h14, h15, hx, nI_div, e2]
    · simp (disch := omega) only [ax_let, Option.bind_some, cond_true, cond_false, if_pos, if_neg, if_true, if_false, eq_self, nI_add, nI_ltI, nI_leI, nI_eq, nI_clamp, pu_in, c_0, c_1, c_2, c_3, c_4, c_5, c_6, c_7, c_8, c_9, c_10, c_11, c_12, c_15, c_16, c_17, c_32, c_35, c_36, c_38, c_40, c_41, c_42, c_43, c_44, c_45, c_48, c_57, c_58, c_59, c_60, c_61, c_62, c_64, c_65, c_69, c_75, c_83, c_91, c_93, c_94, c_97, c_105, c_106, c_110, c_119, c_123, c_124, c_125, c_126, c_240, c_256, c_400, c_m, nI_m1, nM_i, lN_add, lN_mul, lN_i, nI_l, lN_eq, lgN_le, lgN_lt, lgN_ge, lgN_gt, nI_sub, nI_mul, d_0, d_1, c_13, c_14, c_18, c_19, c_20, c_21, c_22, c_23, c_24, c_25, c_26, c_27, c_28, c_29, c_30, c_31, c_33, c_34, c_37, c_39, c_46, c_47, c_49, c_50, c_51, c_52, c_53, c_54, c_55, c_56, c_63, c_66, c_67, c_68, c_70, c_71, c_72, c_73, c_74, c_76, c_77, c_78, c_79, c_80, c_81, c_82, c_84, c_85, c_86, c_87, c_88, c_89, c_90, c_92, c_95, c_96, c_98, c_99, c_100, c_101, c_102, c_103, c_104, c_107, c_108, c_109, c_111, c_112, c_113, c_114, c_115, c_116, c_117, c_118, c_120, c_121, c_122, c_127, c_280, d_2, d_3, d_4, d_8, d_9, d_10, d_15, d_16, d_32, d_48, d_62, d_63, d_64, wI_1, wI_2, wL_1, wL_2, true_and, and_true, and_self, false_and, and_false, if_true, if_false, h7', h14, h15, hx, nI_div, e2]
  have hb := h.2.2.2.2.2.2.2.1.1
  rw [List.length_cons] at hb
  obtain ⟨s2, b1, b2, b3⟩ := h.stepH (md' := 4) (P1 := Pr) (by omega) (zw_z (by unfold wants; omega)) hD (f1.imp (fun g r k h => by unfold XHp; omega)) (by simp (disch := omega) only [wI_1, wI_2, wL_1, wL_2, true_and, and_true, and_self, false_and, and_false, if_true, if_false, if_pos, if_neg]; exact h.2.1) (by simp (disch := omega) only [wI_1, wI_2, wL_1, wL_2, true_and, and_true, and_self, false_and, and_false, if_true, if_false, if_pos, if_neg]) (h.2.2.2.1.keep f1 (fun r k h => by omega)) (by omega) (fun _ => by omega)
  have hsil : zsil md c = false := decide_eq_false (by omega)
  rw [hsil] at b2
  rw [hx_c hv]
  refine ⟨s2, _, b1, b2, ?_, ?_, (f1.imp (fun g r k h => by omega)).trans (b3.imp (fun g r k h => by unfold XP at h; omega))⟩
  · rw [b3.1 0 38 15 (by unfold XP; omega)]; simp (disch := omega) only [wI_1, wI_2, wL_1, wL_2, true_and, and_true, and_self, false_and, and_false, if_true, if_false, if_pos, if_neg]
  · rw [b3.1 0 43 _ (by unfold XP; omega)]; simp (disch := omega) only [wI_1, wI_2, wL_1, wL_2, true_and, and_true, and_self, false_and, and_false, if_true, if_false, if_pos, if_neg]
theorem zx_3 {i c p : Nat} (hc' : c < 128) (h7' : s.1 0 38 7 = nI md) (hmd : (md = 3 ∧ c ≠ 42) ∨ md = 4) (h14 : s.1 0 38 14 = nI (t + 1)) (h15 : s.1 0 38 15 = nI i) (ht : t < 2) (hi : i < 16) (hv : hexv c = none) : ∃ s1, zdis F md c p s = some (nI 0, s1) ∧ frm XH s s1 := by
  have e2 : 16 * (t + 1) - 16 + i - (16 * (t + 1) - 16 + i) / 32 * 32 = 16 * t + i := by omega
  have hx := zhx hc'
  rw [hv] at hx
  have hx : f_Z_hex (nI c) = some nM := hx
  have hneg : nM < nI 0 := by decide
  refine ⟨ax_wI (ax_wI (ax_wI s 0 43 (16 * t + i) nM) 0 38 15 (nI (i + 1))) 0 38 7 (nI 4), ?_, by refine ((frm.refl.wI _ _ _ _ ?_).wI _ _ _ _ ?_).wI _ _ _ _ ?_ <;> unfold XH <;> omega⟩
  unfold zdis f_Z_acceptsHead
  rcases hmd with ⟨rfl, h42⟩ | rfl
  · simp (disch := omega) only [ax_let, Option.bind_some, cond_true, cond_false, if_pos, if_neg, if_true, if_false, eq_self, nI_add, nI_ltI, nI_leI, nI_eq, nI_clamp, pu_in, c_0, c_1, c_2, c_3, c_4, c_5, c_6, c_7, c_8, c_9, c_10, c_11, c_12, c_15, c_16, c_17, c_32, c_35, c_36, c_38, c_40, c_41, c_42, c_43, c_44, c_45, c_48, c_57, c_58, c_59, c_60, c_61, c_62, c_64, c_65, c_69, c_75, c_83, c_91, c_93, c_94, c_97, c_105, c_106, c_110, c_119, c_123, c_124, c_125, c_126, c_240, c_256, c_400, c_m, nI_m1, nM_i, lN_add, lN_mul, lN_i, nI_l, lN_eq, lgN_le, lgN_lt, lgN_ge, lgN_gt, nI_sub, nI_mul, d_0, d_1, c_13, c_14, c_18, c_19, c_20, c_21, c_22, c_23, c_24, c_25, c_26, c_27, c_28, c_29, c_30, c_31, c_33, c_34, c_37, c_39, c_46, c_47, c_49, c_50, c_51, c_52, c_53, c_54, c_55, c_56, c_63, c_66, c_67, c_68, c_70, c_71, c_72, c_73, c_74, c_76, c_77, c_78, c_79, c_80, c_81, c_82, c_84, c_85, c_86, c_87, c_88, c_89, c_90, c_92, c_95, c_96, c_98, c_99, c_100, c_101, c_102, c_103, c_104, c_107, c_108, c_109, c_111, c_112, c_113, c_114, c_115, c_116, c_117, c_118, c_120, c_121, c_122, c_127, c_280, d_2, d_3, d_4, d_8, d_9, d_10, d_15, d_16, d_32, d_48, d_62, d_63, d_64, wI_1, wI_2, wL_1, wL_2, true_and, and_true, and_self, false_and, and_false, if_true, if_false, h7', h14, h15, hx, nI_div, e2]
  · simp (disch := omega) only [ax_let, Option.bind_some, cond_true, cond_false, if_pos, if_neg, if_true, if_false, eq_self, nI_add, nI_ltI, nI_leI, nI_eq, nI_clamp, pu_in, c_0, c_1, c_2, c_3, c_4, c_5, c_6, c_7, c_8, c_9, c_10, c_11, c_12, c_15, c_16, c_17, c_32, c_35, c_36, c_38, c_40, c_41, c_42, c_43, c_44, c_45, c_48, c_57, c_58, c_59, c_60, c_61, c_62, c_64, c_65, c_69, c_75, c_83, c_91, c_93, c_94, c_97, c_105, c_106, c_110, c_119, c_123, c_124, c_125, c_126, c_240, c_256, c_400, c_m, nI_m1, nM_i, lN_add, lN_mul, lN_i, nI_l, lN_eq, lgN_le, lgN_lt, lgN_ge, lgN_gt, nI_sub, nI_mul, d_0, d_1, c_13, c_14, c_18, c_19, c_20, c_21, c_22, c_23, c_24, c_25, c_26, c_27, c_28, c_29, c_30, c_31, c_33, c_34, c_37, c_39, c_46, c_47, c_49, c_50, c_51, c_52, c_53, c_54, c_55, c_56, c_63, c_66, c_67, c_68, c_70, c_71, c_72, c_73, c_74, c_76, c_77, c_78, c_79, c_80, c_81, c_82, c_84, c_85, c_86, c_87, c_88, c_89, c_90, c_92, c_95, c_96, c_98, c_99, c_100, c_101, c_102, c_103, c_104, c_107, c_108, c_109, c_111, c_112, c_113, c_114, c_115, c_116, c_117, c_118, c_120, c_121, c_122, c_127, c_280, d_2, d_3, d_4, d_8, d_9, d_10, d_15, d_16, d_32, d_48, d_62, d_63, d_64, wI_1, wI_2, wL_1, wL_2, true_and, and_true, and_self, false_and, and_false, if_true, if_false, h7', h14, h15, hx, nI_div, e2]
end
