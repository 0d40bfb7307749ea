/-! PURE: the reference's faults: considering, what is around, what is written -/
def X53 (g r k : Nat) : Prop := g = 0 ∧ r = 38 ∧ (k = 53 ∨ k = 54)
/-- the fault told so far, as a number -/
def ZFa (rf : Nat) (s : ax_σ) : Prop := (rf = 1928 ∧ s.1 0 38 53 = nI 0) ∨ ∃ p c, rf = p * 8 + c ∧ (1 ≤ c ∧ c < 6) ∧ p ≤ 240 ∧ s.1 0 38 53 = nI c ∧ s.1 0 38 54 = nI p
theorem ZFa.keep {rf : Nat} {s s' : ax_σ} {Q : Nat → Nat → Nat → Prop} (h : ZFa rf s) (hf : frm Q s s') (hq : ∀ k, k = 53 ∨ k = 54 → ¬ Q 0 38 k) : ZFa rf s' := by
  rcases h with ⟨a, b⟩ | ⟨p, c, a, b, d, e, f⟩
  · exact Or.inl ⟨a, (hf.1 _ _ _ (hq _ (by omega))).trans b⟩
  · exact Or.inr ⟨p, c, a, b, d, (hf.1 _ _ _ (hq _ (by omega))).trans e, (hf.1 _ _ _ (hq _ (by omega))).trans f⟩
theorem z_cons {b : Bool} {c p rf : Nat} {s : ax_σ} (hc : 1 ≤ c ∧ c < 6) (hp : p ≤ 240) (h : ZFa rf s) : ∃ s' rf', f_Z_consider (if b = true then nI 1 else nI 0) (nI c) (nI p) s = some s' ∧ ZFa rf' s' ∧ (∀ m, m ≤ rf' ↔ m ≤ rf ∧ (b = true → m ≤ p * 8 + c)) ∧ frm X53 s s' := by
  cases b with
  | false => exact ⟨s, rf, rfl, h, fun m => ⟨fun k => ⟨k, fun e => by cases e⟩, fun k => k.1⟩, frm.refl⟩
  | true =>
    rw [if_pos rfl]
    have hw : ∀ x y : Int32, x = nI c → y = nI p → ZFa (p * 8 + c) (ax_wI (ax_wI s 0 38 53 x) 0 38 54 y) ∧ frm X53 s (ax_wI (ax_wI s 0 38 53 x) 0 38 54 y) := by
      rintro x y rfl rfl
      refine ⟨Or.inr ⟨p, c, rfl, hc, hp, by simp (disch := omega) only [wI_1, wI_2, wL_1, wL_2, true_and, and_true, and_self, false_and, and_false, if_true, if_false, if_pos, if_neg], by simp (disch := omega) only [wI_1, wI_2, wL_1, wL_2, true_and, and_true, and_self, false_and, and_false, if_true, if_false, if_pos, if_neg]⟩, ?_⟩
      refine (frm.refl.wI _ _ _ _ ?_).wI _ _ _ _ ?_ <;> unfold X53 <;> omega
    obtain ⟨w1, w2⟩ := hw _ _ rfl rfl
    rcases h with ⟨rfl, h2⟩ | ⟨p0, c0, rfl, h2, h3, h4, h5⟩
    · refine ⟨_, p * 8 + c, ?_, w1, fun m => ⟨fun k => ⟨by omega, fun _ => k⟩, fun k => k.2 rfl⟩, w2⟩
      unfold f_Z_consider
      simp (disch := omega) only [ax_let, Option.bind_some, cond_true, cond_false, if_pos, if_neg, if_true, if_false, eq_self, nI_add, nI_ltI, nI_leI, nI_eq, nI_clamp, pu_in, c_0, c_1, c_2, c_3, c_4, c_5, c_6, c_7, c_8, c_9, c_10, c_11, c_12, c_15, c_16, c_17, c_32, c_35, c_36, c_38, c_40, c_41, c_42, c_43, c_44, c_45, c_48, c_57, c_58, c_59, c_60, c_61, c_62, c_64, c_65, c_69, c_75, c_83, c_91, c_93, c_94, c_97, c_105, c_106, c_110, c_119, c_123, c_124, c_125, c_126, c_240, c_256, c_400, c_m, nI_m1, nM_i, lN_add, lN_mul, lN_i, nI_l, lN_eq, lgN_le, lgN_lt, lgN_ge, lgN_gt, nI_sub, nI_mul, d_0, d_1, c_13, c_14, c_18, c_19, c_20, c_21, c_22, c_23, c_24, c_25, c_26, c_27, c_28, c_29, c_30, c_31, c_33, c_34, c_37, c_39, c_46, c_47, c_49, c_50, c_51, c_52, c_53, c_54, c_55, c_56, c_63, c_66, c_67, c_68, c_70, c_71, c_72, c_73, c_74, c_76, c_77, c_78, c_79, c_80, c_81, c_82, c_84, c_85, c_86, c_87, c_88, c_89, c_90, c_92, c_95, c_96, c_98, c_99, c_100, c_101, c_102, c_103, c_104, c_107, c_108, c_109, c_111, c_112, c_113, c_114, c_115, c_116, c_117, c_118, c_120, c_121, c_122, c_127, c_280, d_2, d_3, d_4, d_8, d_9, d_10, d_15, d_16, d_32, d_48, d_62, d_63, d_64, h2]
    · by_cases e1 : p < p0
      · refine ⟨_, p * 8 + c, ?_, w1, fun m => ⟨fun k => ⟨by omega, fun _ => k⟩, fun k => k.2 rfl⟩, w2⟩
        unfold f_Z_consider
        simp (disch := omega) only [ax_let, Option.bind_some, cond_true, cond_false, if_pos, if_neg, if_true, if_false, eq_self, nI_add, nI_ltI, nI_leI, nI_eq, nI_clamp, pu_in, c_0, c_1, c_2, c_3, c_4, c_5, c_6, c_7, c_8, c_9, c_10, c_11, c_12, c_15, c_16, c_17, c_32, c_35, c_36, c_38, c_40, c_41, c_42, c_43, c_44, c_45, c_48, c_57, c_58, c_59, c_60, c_61, c_62, c_64, c_65, c_69, c_75, c_83, c_91, c_93, c_94, c_97, c_105, c_106, c_110, c_119, c_123, c_124, c_125, c_126, c_240, c_256, c_400, c_m, nI_m1, nM_i, lN_add, lN_mul, lN_i, nI_l, lN_eq, lgN_le, lgN_lt, lgN_ge, lgN_gt, nI_sub, nI_mul, d_0, d_1, c_13, c_14, c_18, c_19, c_20, c_21, c_22, c_23, c_24, c_25, c_26, c_27, c_28, c_29, c_30, c_31, c_33, c_34, c_37, c_39, c_46, c_47, c_49, c_50, c_51, c_52, c_53, c_54, c_55, c_56, c_63, c_66, c_67, c_68, c_70, c_71, c_72, c_73, c_74, c_76, c_77, c_78, c_79, c_80, c_81, c_82, c_84, c_85, c_86, c_87, c_88, c_89, c_90, c_92, c_95, c_96, c_98, c_99, c_100, c_101, c_102, c_103, c_104, c_107, c_108, c_109, c_111, c_112, c_113, c_114, c_115, c_116, c_117, c_118, c_120, c_121, c_122, c_127, c_280, d_2, d_3, d_4, d_8, d_9, d_10, d_15, d_16, d_32, d_48, d_62, d_63, d_64, h4, h5]
      · by_cases e2 : p = p0
        · subst e2
          by_cases e3 : c0 ≤ c
          · refine ⟨s, p * 8 + c0, ?_, Or.inr ⟨p, c0, rfl, h2, h3, h4, h5⟩, fun m => ⟨fun k => ⟨k, fun _ => by omega⟩, fun k => k.1⟩, frm.refl⟩
            unfold f_Z_consider
            simp (disch := omega) only [ax_let, Option.bind_some, cond_true, cond_false, if_pos, if_neg, if_true, if_false, eq_self, nI_add, nI_ltI, nI_leI, nI_eq, nI_clamp, pu_in, c_0, c_1, c_2, c_3, c_4, c_5, c_6, c_7, c_8, c_9, c_10, c_11, c_12, c_15, c_16, c_17, c_32, c_35, c_36, c_38, c_40, c_41, c_42, c_43, c_44, c_45, c_48, c_57, c_58, c_59, c_60, c_61, c_62, c_64, c_65, c_69, c_75, c_83, c_91, c_93, c_94, c_97, c_105, c_106, c_110, c_119, c_123, c_124, c_125, c_126, c_240, c_256, c_400, c_m, nI_m1, nM_i, lN_add, lN_mul, lN_i, nI_l, lN_eq, lgN_le, lgN_lt, lgN_ge, lgN_gt, nI_sub, nI_mul, d_0, d_1, c_13, c_14, c_18, c_19, c_20, c_21, c_22, c_23, c_24, c_25, c_26, c_27, c_28, c_29, c_30, c_31, c_33, c_34, c_37, c_39, c_46, c_47, c_49, c_50, c_51, c_52, c_53, c_54, c_55, c_56, c_63, c_66, c_67, c_68, c_70, c_71, c_72, c_73, c_74, c_76, c_77, c_78, c_79, c_80, c_81, c_82, c_84, c_85, c_86, c_87, c_88, c_89, c_90, c_92, c_95, c_96, c_98, c_99, c_100, c_101, c_102, c_103, c_104, c_107, c_108, c_109, c_111, c_112, c_113, c_114, c_115, c_116, c_117, c_118, c_120, c_121, c_122, c_127, c_280, d_2, d_3, d_4, d_8, d_9, d_10, d_15, d_16, d_32, d_48, d_62, d_63, d_64, h4, h5]
          · refine ⟨_, p * 8 + c, ?_, w1, fun m => ⟨fun k => ⟨by omega, fun _ => k⟩, fun k => k.2 rfl⟩, w2⟩
            unfold f_Z_consider
            simp (disch := omega) only [ax_let, Option.bind_some, cond_true, cond_false, if_pos, if_neg, if_true, if_false, eq_self, nI_add, nI_ltI, nI_leI, nI_eq, nI_clamp, pu_in, c_0, c_1, c_2, c_3, c_4, c_5, c_6, c_7, c_8, c_9, c_10, c_11, c_12, c_15, c_16, c_17, c_32, c_35, c_36, c_38, c_40, c_41, c_42, c_43, c_44, c_45, c_48, c_57, c_58, c_59, c_60, c_61, c_62, c_64, c_65, c_69, c_75, c_83, c_91, c_93, c_94, c_97, c_105, c_106, c_110, c_119, c_123, c_124, c_125, c_126, c_240, c_256, c_400, c_m, nI_m1, nM_i, lN_add, lN_mul, lN_i, nI_l, lN_eq, lgN_le, lgN_lt, lgN_ge, lgN_gt, nI_sub, nI_mul, d_0, d_1, c_13, c_14, c_18, c_19, c_20, c_21, c_22, c_23, c_24, c_25, c_26, c_27, c_28, c_29, c_30, c_31, c_33, c_34, c_37, c_39, c_46, c_47, c_49, c_50, c_51, c_52, c_53, c_54, c_55, c_56, c_63, c_66, c_67, c_68, c_70, c_71, c_72, c_73, c_74, c_76, c_77, c_78, c_79, c_80, c_81, c_82, c_84, c_85, c_86, c_87, c_88, c_89, c_90, c_92, c_95, c_96, c_98, c_99, c_100, c_101, c_102, c_103, c_104, c_107, c_108, c_109, c_111, c_112, c_113, c_114, c_115, c_116, c_117, c_118, c_120, c_121, c_122, c_127, c_280, d_2, d_3, d_4, d_8, d_9, d_10, d_15, d_16, d_32, d_48, d_62, d_63, d_64, h4, h5]
        · refine ⟨s, p0 * 8 + c0, ?_, Or.inr ⟨p0, c0, rfl, h2, h3, h4, h5⟩, fun m => ⟨fun k => ⟨k, fun _ => by omega⟩, fun k => k.1⟩, frm.refl⟩
          unfold f_Z_consider
          simp (disch := omega) only [ax_let, Option.bind_some, cond_true, cond_false, if_pos, if_neg, if_true, if_false, eq_self, nI_add, nI_ltI, nI_leI, nI_eq, nI_clamp, pu_in, c_0, c_1, c_2, c_3, c_4, c_5, c_6, c_7, c_8, c_9, c_10, c_11, c_12, c_15, c_16, c_17, c_32, c_35, c_36, c_38, c_40, c_41, c_42, c_43, c_44, c_45, c_48, c_57, c_58, c_59, c_60, c_61, c_62, c_64, c_65, c_69, c_75, c_83, c_91, c_93, c_94, c_97, c_105, c_106, c_110, c_119, c_123, c_124, c_125, c_126, c_240, c_256, c_400, c_m, nI_m1, nM_i, lN_add, lN_mul, lN_i, nI_l, lN_eq, lgN_le, lgN_lt, lgN_ge, lgN_gt, nI_sub, nI_mul, d_0, d_1, c_13, c_14, c_18, c_19, c_20, c_21, c_22, c_23, c_24, c_25, c_26, c_27, c_28, c_29, c_30, c_31, c_33, c_34, c_37, c_39, c_46, c_47, c_49, c_50, c_51, c_52, c_53, c_54, c_55, c_56, c_63, c_66, c_67, c_68, c_70, c_71, c_72, c_73, c_74, c_76, c_77, c_78, c_79, c_80, c_81, c_82, c_84, c_85, c_86, c_87, c_88, c_89, c_90, c_92, c_95, c_96, c_98, c_99, c_100, c_101, c_102, c_103, c_104, c_107, c_108, c_109, c_111, c_112, c_113, c_114, c_115, c_116, c_117, c_118, c_120, c_121, c_122, c_127, c_280, d_2, d_3, d_4, d_8, d_9, d_10, d_15, d_16, d_32, d_48, d_62, d_63, d_64, h4, h5]
theorem z_wide {v w : Nat} {s : ax_σ} (hv : v < 10 ^ 9) (hw : w = 8 ∨ w = 16 ∨ w = 32 ∨ w = 64) (hs : s.2 0 41 0 = lN w) : f_Z_isWide (lN v) s = some (if decide (¬ v < wb w) = true then nI 1 else nI 0) := by
  have h0 : (nI 0).toNatClampNeg = 0 := rfl
  unfold f_Z_isWide
  have h41 : s.2 0 41 ((0 : Int32)).toNatClampNeg = lN w := hs
  rw [h41]
  by_cases h64 : w = 64
  · subst h64
    rw [if_pos (by decide +kernel), decide_eq_false (by unfold wb; rw [if_neg (by decide)]; omega)]
    rfl
  · have hlt : w ≤ 32 := by omega
    have h63 : ∀ w, w ≤ 32 → ¬ (0 ≤ lg_cmp (lN w) 63) := by decide +kernel
    have hD : ∀ w, w ≤ 32 → ((((lN w).toInt32).toInt64 &&& 63).toBitVec.smod 64).toNat = w := by decide +kernel
    have hsh : (lN v >>> (((lN w).toInt32).toInt64 &&& 63)).toInt = ((v / 2 ^ w : Nat) : Int) := by
      have e : (lN v >>> (((lN w).toInt32).toInt64 &&& 63)).toInt = (lN v).toInt >>> w := by
        conv => rhs; rw [← hD w hlt]
        exact BitVec.toInt_sshiftRight ..
      rw [e, Int.shiftRight_eq_div_pow, lN_toInt6 (by omega)]
      norm_cast
    rw [if_neg (h63 w hlt)]
    have hiff : v / 2 ^ w ≤ 0 ↔ v < wb w := by
      rcases (show w = 8 ∨ w = 16 ∨ w = 32 by omega) with rfl | rfl | rfl
      · show v / 256 ≤ 0 ↔ v < 256; omega
      · show v / 65536 ≤ 0 ↔ v < 65536; omega
      · show v / 4294967296 ≤ 0 ↔ v < 1000000000; omega
    by_cases hin : v < wb w
    · rw [if_pos (by
        rw [lg_cmp_le, Int64.le_iff_toInt_le, hsh]
        show ((v / 2 ^ w : Nat) : Int) ≤ 0
        have := hiff.mpr hin
        omega), decide_eq_false (fun e => e hin)]
      rfl
    · rw [if_neg (by
        rw [lg_cmp_le, Int64.le_iff_toInt_le, hsh]
        show ¬ (((v / 2 ^ w : Nat) : Int) ≤ 0)
        have : ¬ (v / 2 ^ w ≤ 0) := fun e => hin (hiff.mp e)
        omega), decide_eq_true hin]
      rfl
/-- the kinds of things as the reference holds them -/
def ZKd (H : List Th) (s : ax_σ) : Prop := H.length ≤ 240 ∧ ∀ (i : Nat) (t : Th), H[i]? = some t → s.1 0 47 i = nI (thk t) ∧ thk t < 13 ∧ (thk t = 2 → s.2 0 52 i = lN (thv t) ∧ thv t < 10 ^ 9)
theorem ZKd.keep {H : List Th} {s s' : ax_σ} {Q : Nat → Nat → Nat → Prop} (h : ZKd H s) (hf : frm Q s s') (hq : ∀ r k, r = 47 ∨ r = 52 → ¬ Q 0 r k) : ZKd H s' :=
  ⟨h.1, fun i t hi => ⟨(hf.1 _ _ _ (hq _ _ (by omega))).trans (h.2 i t hi).1, (h.2 i t hi).2.1, fun e => ⟨(hf.2 _ _ _ (hq _ _ (by omega))).trans ((h.2 i t hi).2.2 e).1, ((h.2 i t hi).2.2 e).2⟩⟩⟩
theorem mid_get {α : Type} {A B : List α} {x : α} : (A ++ x :: B)[A.length]? = some x := by
  rw [List.getElem?_append_right (Nat.le_refl _), Nat.sub_self]; rfl
def X46 (d g r k : Nat) : Prop := g = 0 ∧ r = 46 ∧ d ≤ k
section
variable {F K : Nat} {H : List Th}
theorem ar_o {pre post : List Th} {o : Th} {d M : Nat} {s : ax_σ} (hH : H = pre ++ o :: post) (hk : ZKd H s) (e : thk o = 2) (hK : pre.length < K) (hK2 : K ≤ 240) (hd : d < 2) : lp_Z_around_4 F (nI K) (M + 1) (nI d) (nI pre.length) s = lp_Z_around_4 F (nI K) M (nI (d + 1)) (nI (pre.length + 1)) (ax_wI s 0 46 d (nI pre.length)) := by
  obtain ⟨a, -⟩ := hk.2 pre.length o (by rw [hH]; exact mid_get)
  rw [e] at a
  rw [lp_Z_around_4]
  simp (disch := omega) only [ax_let, Option.bind_some, cond_true, cond_false, if_pos, if_neg, if_true, if_false, eq_self, nI_add, nI_ltI, nI_leI, nI_eq, nI_clamp, pu_in, c_0, c_1, c_2, c_3, c_4, c_5, c_6, c_7, c_8, c_9, c_10, c_11, c_12, c_15, c_16, c_17, c_32, c_35, c_36, c_38, c_40, c_41, c_42, c_43, c_44, c_45, c_48, c_57, c_58, c_59, c_60, c_61, c_62, c_64, c_65, c_69, c_75, c_83, c_91, c_93, c_94, c_97, c_105, c_106, c_110, c_119, c_123, c_124, c_125, c_126, c_240, c_256, c_400, c_m, nI_m1, nM_i, lN_add, lN_mul, lN_i, nI_l, lN_eq, lgN_le, lgN_lt, lgN_ge, lgN_gt, nI_sub, nI_mul, d_0, d_1, c_13, c_14, c_18, c_19, c_20, c_21, c_22, c_23, c_24, c_25, c_26, c_27, c_28, c_29, c_30, c_31, c_33, c_34, c_37, c_39, c_46, c_47, c_49, c_50, c_51, c_52, c_53, c_54, c_55, c_56, c_63, c_66, c_67, c_68, c_70, c_71, c_72, c_73, c_74, c_76, c_77, c_78, c_79, c_80, c_81, c_82, c_84, c_85, c_86, c_87, c_88, c_89, c_90, c_92, c_95, c_96, c_98, c_99, c_100, c_101, c_102, c_103, c_104, c_107, c_108, c_109, c_111, c_112, c_113, c_114, c_115, c_116, c_117, c_118, c_120, c_121, c_122, c_127, c_280, d_2, d_3, d_4, d_8, d_9, d_10, d_15, d_16, d_32, d_48, d_62, d_63, d_64, a]
theorem ar_c {pre post : List Th} {o : Th} {d M : Nat} {s : ax_σ} (hH : H = pre ++ o :: post) (hk : ZKd H s) (e : thk o = 3) (hK : pre.length < K) (hK2 : K ≤ 240) : lp_Z_around_4 F (nI K) (M + 1) (nI (d + 1)) (nI pre.length) s = lp_Z_around_4 F (nI K) M (nI d) (nI (pre.length + 1)) s := by
  obtain ⟨a, -⟩ := hk.2 pre.length o (by rw [hH]; exact mid_get)
  rw [e] at a
  have e2 : nI (d + 1) + nM = nI d := (Int32.sub_eq_add_neg _ _).symm.trans (nI_pred d)
  rw [lp_Z_around_4]
  simp (disch := omega) only [ax_let, Option.bind_some, cond_true, cond_false, if_pos, if_neg, if_true, if_false, eq_self, nI_add, nI_ltI, nI_leI, nI_eq, nI_clamp, pu_in, c_0, c_1, c_2, c_3, c_4, c_5, c_6, c_7, c_8, c_9, c_10, c_11, c_12, c_15, c_16, c_17, c_32, c_35, c_36, c_38, c_40, c_41, c_42, c_43, c_44, c_45, c_48, c_57, c_58, c_59, c_60, c_61, c_62, c_64, c_65, c_69, c_75, c_83, c_91, c_93, c_94, c_97, c_105, c_106, c_110, c_119, c_123, c_124, c_125, c_126, c_240, c_256, c_400, c_m, nI_m1, nM_i, lN_add, lN_mul, lN_i, nI_l, lN_eq, lgN_le, lgN_lt, lgN_ge, lgN_gt, nI_sub, nI_mul, d_0, d_1, c_13, c_14, c_18, c_19, c_20, c_21, c_22, c_23, c_24, c_25, c_26, c_27, c_28, c_29, c_30, c_31, c_33, c_34, c_37, c_39, c_46, c_47, c_49, c_50, c_51, c_52, c_53, c_54, c_55, c_56, c_63, c_66, c_67, c_68, c_70, c_71, c_72, c_73, c_74, c_76, c_77, c_78, c_79, c_80, c_81, c_82, c_84, c_85, c_86, c_87, c_88, c_89, c_90, c_92, c_95, c_96, c_98, c_99, c_100, c_101, c_102, c_103, c_104, c_107, c_108, c_109, c_111, c_112, c_113, c_114, c_115, c_116, c_117, c_118, c_120, c_121, c_122, c_127, c_280, d_2, d_3, d_4, d_8, d_9, d_10, d_15, d_16, d_32, d_48, d_62, d_63, d_64, a, e2]
theorem ar_l {pre post : List Th} {o : Th} {d M : Nat} {s : ax_σ} (hH : H = pre ++ o :: post) (hk : ZKd H s) (e2 : thk o ≠ 2) (e3 : thk o ≠ 3) (hK : pre.length < K) (hK2 : K ≤ 240) : lp_Z_around_4 F (nI K) (M + 1) (nI d) (nI pre.length) s = lp_Z_around_4 F (nI K) M (nI d) (nI (pre.length + 1)) s := by
  obtain ⟨a, b, -⟩ := hk.2 pre.length o (by rw [hH]; exact mid_get)
  rw [lp_Z_around_4]
  simp (disch := omega) only [ax_let, Option.bind_some, cond_true, cond_false, if_pos, if_neg, if_true, if_false, eq_self, nI_add, nI_ltI, nI_leI, nI_eq, nI_clamp, pu_in, c_0, c_1, c_2, c_3, c_4, c_5, c_6, c_7, c_8, c_9, c_10, c_11, c_12, c_15, c_16, c_17, c_32, c_35, c_36, c_38, c_40, c_41, c_42, c_43, c_44, c_45, c_48, c_57, c_58, c_59, c_60, c_61, c_62, c_64, c_65, c_69, c_75, c_83, c_91, c_93, c_94, c_97, c_105, c_106, c_110, c_119, c_123, c_124, c_125, c_126, c_240, c_256, c_400, c_m, nI_m1, nM_i, lN_add, lN_mul, lN_i, nI_l, lN_eq, lgN_le, lgN_lt, lgN_ge, lgN_gt, nI_sub, nI_mul, d_0, d_1, c_13, c_14, c_18, c_19, c_20, c_21, c_22, c_23, c_24, c_25, c_26, c_27, c_28, c_29, c_30, c_31, c_33, c_34, c_37, c_39, c_46, c_47, c_49, c_50, c_51, c_52, c_53, c_54, c_55, c_56, c_63, c_66, c_67, c_68, c_70, c_71, c_72, c_73, c_74, c_76, c_77, c_78, c_79, c_80, c_81, c_82, c_84, c_85, c_86, c_87, c_88, c_89, c_90, c_92, c_95, c_96, c_98, c_99, c_100, c_101, c_102, c_103, c_104, c_107, c_108, c_109, c_111, c_112, c_113, c_114, c_115, c_116, c_117, c_118, c_120, c_121, c_122, c_127, c_280, d_2, d_3, d_4, d_8, d_9, d_10, d_15, d_16, d_32, d_48, d_62, d_63, d_64, a, e2, e3]
theorem ar_bal {lim : Nat} {l : List Th} (h : lv lim 0 l = some 0) (hK2 : K ≤ 240) : ∀ (pre post : List Th) (d : Nat) (s : ax_σ), H = pre ++ (l ++ post) → pre.length + l.length ≤ K → d + lim ≤ 2 → ZKd H s → ∃ s', (∀ M, lp_Z_around_4 F (nI K) (M + l.length) (nI d) (nI pre.length) s = lp_Z_around_4 F (nI K) M (nI d) (nI (pre.length + l.length)) s') ∧ frm (X46 d) s s' := by
  refine dyck (P := fun lim l => ∀ (pre post : List Th) (d : Nat) (s : ax_σ), H = pre ++ (l ++ post) → pre.length + l.length ≤ K → d + lim ≤ 2 → ZKd H s → ∃ s', (∀ M, lp_Z_around_4 F (nI K) (M + l.length) (nI d) (nI pre.length) s = lp_Z_around_4 F (nI K) M (nI d) (nI (pre.length + l.length)) s') ∧ frm (X46 d) s s') h (fun _ pre post d s _ _ _ _ => ⟨s, fun M => rfl, frm.refl⟩) ?_ ?_
  · intro lim t r e2 e3 hr ih pre post d s hH hK hd hk
    rw [List.length_cons] at hK
    obtain ⟨s1, a1, a2⟩ := ih (pre ++ [t]) post d s (by rw [hH, List.append_assoc]; rfl) (by rw [List.length_append, List.length_singleton]; omega) hd hk
    rw [List.length_append, List.length_singleton] at a1
    refine ⟨s1, fun M => ?_, a2⟩
    rw [List.length_cons, ← Nat.add_assoc, ar_l (by rw [hH]; rfl) hk e2 e3 (by omega) hK2, a1]
    congr 2
    omega
  · intro lim o b c r e2 e3 hm hr i1 i2 pre post d s hH hK hd hk
    rw [List.length_cons, List.length_append, List.length_cons] at hK
    have f1 : frm (X46 d) s (ax_wI s 0 46 d (nI pre.length)) := frm.refl.wI _ _ _ _ ⟨rfl, rfl, Nat.le_refl _⟩
    have k1 := hk.keep f1 (fun r k h => by unfold X46; omega)
    obtain ⟨s1, a1, a2⟩ := i1 (pre ++ [o]) (c :: (r ++ post)) (d + 1) _ (by rw [hH]; simp only [List.append_assoc, List.cons_append, List.nil_append]) (by rw [List.length_append, List.length_singleton]; omega) (by omega) k1
    rw [List.length_append, List.length_singleton] at a1
    have k2 := k1.keep a2 (fun r k h => by unfold X46; omega)
    obtain ⟨s2, b1, b2⟩ := i2 (pre ++ o :: (b ++ [c])) post d s1 (by rw [hH]; simp only [List.append_assoc, List.cons_append, List.nil_append]) (by simp only [List.length_append, List.length_cons, List.length_nil]; omega) hd k2
    have hl : (pre ++ o :: (b ++ [c])).length = pre.length + 1 + b.length + 1 := by simp only [List.length_append, List.length_cons, List.length_nil]; omega
    rw [hl] at b1
    refine ⟨s2, fun M => ?_, (f1.trans (a2.imp (fun g r k h => by unfold X46 at h ⊢; omega))).trans b2⟩
    have hc := ar_c (F := F) (K := K) (pre := pre ++ o :: b) (post := r ++ post) (o := c) (d := d) (M := M + r.length) (s := s1) (by rw [hH]; simp only [List.append_assoc, List.cons_append, List.nil_append]) k2 e3 (by simp only [List.length_append, List.length_cons]; omega) hK2
    have hl2 : (pre ++ o :: b).length = pre.length + 1 + b.length := by simp only [List.length_append, List.length_cons]; omega
    rw [hl2] at hc
    have hle : (o :: (b ++ c :: r)).length = r.length + 1 + b.length + 1 := by simp only [List.length_append, List.length_cons]; omega
    rw [hle, show M + (r.length + 1 + b.length + 1) = (M + r.length + 1) + b.length + 1 from by omega, ar_o (by rw [hH]; rfl) hk e2 (by omega) hK2 (by omega), a1, hc, b1]
    congr 2
    omega
/-- what is written in a list whose loops are closed -/
theorem wr_bal {lim : Nat} {l : List Th} (h : lv lim 0 l = some 0) (hK2 : K ≤ 240) : ∀ (pre post : List Th) (sum by' outer d : Nat) (s : ax_σ), H = pre ++ (l ++ post) → pre.length + l.length ≤ K → d + lim ≤ 2 → (d = 0 → by' = 1) → (d = 1 → by' = outer) → ZKd H s → ∃ outer', (0 < d → outer' = outer) ∧ ∀ M, lp_Z_written_14 F (nI K) s (M + l.length) (lN sum) (lN by') (lN outer) (nI d) (nI pre.length) = lp_Z_written_14 F (nI K) s M (lN (sum + by' * wt skW l)) (lN by') (lN outer') (nI d) (nI (pre.length + l.length)) := by
  refine dyck (P := fun lim l => ∀ (pre post : List Th) (sum by' outer d : Nat) (s : ax_σ), H = pre ++ (l ++ post) → pre.length + l.length ≤ K → d + lim ≤ 2 → (d = 0 → by' = 1) → (d = 1 → by' = outer) → ZKd H s → ∃ outer', (0 < d → outer' = outer) ∧ ∀ M, lp_Z_written_14 F (nI K) s (M + l.length) (lN sum) (lN by') (lN outer) (nI d) (nI pre.length) = lp_Z_written_14 F (nI K) s M (lN (sum + by' * wt skW l)) (lN by') (lN outer') (nI d) (nI (pre.length + l.length))) h (fun _ pre post sum by' outer d s _ _ _ _ _ _ => ⟨outer, fun _ => rfl, fun M => by rw [wt_nil, Nat.mul_zero]; rfl⟩) ?_ ?_
  · intro lim t r e2 e3 hr ih pre post sum by' outer d s hH hK hd h0 h1 hk
    rw [List.length_cons] at hK
    obtain ⟨outer', a1, a2⟩ := ih (pre ++ [t]) post (sum + by' * skW t) by' outer d s (by rw [hH, List.append_assoc]; rfl) (by rw [List.length_append, List.length_singleton]; omega) hd h0 h1 hk
    rw [List.length_append, List.length_singleton] at a2
    refine ⟨outer', a1, fun M => ?_⟩
    obtain ⟨a, b, -⟩ := hk.2 pre.length t (by rw [hH]; exact mid_get)
    rw [wt_leaf e2 e3 hr, Nat.mul_add, ← Nat.add_assoc, List.length_cons, show M + (r.length + 1) = M + r.length + 1 from rfl, show pre.length + (r.length + 1) = pre.length + 1 + r.length from by omega, ← a2 M, lp_Z_written_14]
    unfold skW
    by_cases e1 : thk t = 1
    · rw [e1] at a
      rw [if_pos e1, Nat.mul_one]
      simp (disch := omega) only [ax_let, Option.bind_some, cond_true, cond_false, if_pos, if_neg, if_true, if_false, eq_self, nI_add, nI_ltI, nI_leI, nI_eq, nI_clamp, pu_in, c_0, c_1, c_2, c_3, c_4, c_5, c_6, c_7, c_8, c_9, c_10, c_11, c_12, c_15, c_16, c_17, c_32, c_35, c_36, c_38, c_40, c_41, c_42, c_43, c_44, c_45, c_48, c_57, c_58, c_59, c_60, c_61, c_62, c_64, c_65, c_69, c_75, c_83, c_91, c_93, c_94, c_97, c_105, c_106, c_110, c_119, c_123, c_124, c_125, c_126, c_240, c_256, c_400, c_m, nI_m1, nM_i, lN_add, lN_mul, lN_i, nI_l, lN_eq, lgN_le, lgN_lt, lgN_ge, lgN_gt, nI_sub, nI_mul, d_0, d_1, c_13, c_14, c_18, c_19, c_20, c_21, c_22, c_23, c_24, c_25, c_26, c_27, c_28, c_29, c_30, c_31, c_33, c_34, c_37, c_39, c_46, c_47, c_49, c_50, c_51, c_52, c_53, c_54, c_55, c_56, c_63, c_66, c_67, c_68, c_70, c_71, c_72, c_73, c_74, c_76, c_77, c_78, c_79, c_80, c_81, c_82, c_84, c_85, c_86, c_87, c_88, c_89, c_90, c_92, c_95, c_96, c_98, c_99, c_100, c_101, c_102, c_103, c_104, c_107, c_108, c_109, c_111, c_112, c_113, c_114, c_115, c_116, c_117, c_118, c_120, c_121, c_122, c_127, c_280, d_2, d_3, d_4, d_8, d_9, d_10, d_15, d_16, d_32, d_48, d_62, d_63, d_64, a]
    · rw [if_neg e1, Nat.mul_zero, Nat.add_zero]
      simp (disch := omega) only [ax_let, Option.bind_some, cond_true, cond_false, if_pos, if_neg, if_true, if_false, eq_self, nI_add, nI_ltI, nI_leI, nI_eq, nI_clamp, pu_in, c_0, c_1, c_2, c_3, c_4, c_5, c_6, c_7, c_8, c_9, c_10, c_11, c_12, c_15, c_16, c_17, c_32, c_35, c_36, c_38, c_40, c_41, c_42, c_43, c_44, c_45, c_48, c_57, c_58, c_59, c_60, c_61, c_62, c_64, c_65, c_69, c_75, c_83, c_91, c_93, c_94, c_97, c_105, c_106, c_110, c_119, c_123, c_124, c_125, c_126, c_240, c_256, c_400, c_m, nI_m1, nM_i, lN_add, lN_mul, lN_i, nI_l, lN_eq, lgN_le, lgN_lt, lgN_ge, lgN_gt, nI_sub, nI_mul, d_0, d_1, c_13, c_14, c_18, c_19, c_20, c_21, c_22, c_23, c_24, c_25, c_26, c_27, c_28, c_29, c_30, c_31, c_33, c_34, c_37, c_39, c_46, c_47, c_49, c_50, c_51, c_52, c_53, c_54, c_55, c_56, c_63, c_66, c_67, c_68, c_70, c_71, c_72, c_73, c_74, c_76, c_77, c_78, c_79, c_80, c_81, c_82, c_84, c_85, c_86, c_87, c_88, c_89, c_90, c_92, c_95, c_96, c_98, c_99, c_100, c_101, c_102, c_103, c_104, c_107, c_108, c_109, c_111, c_112, c_113, c_114, c_115, c_116, c_117, c_118, c_120, c_121, c_122, c_127, c_280, d_2, d_3, d_4, d_8, d_9, d_10, d_15, d_16, d_32, d_48, d_62, d_63, d_64, a, e1, e2, e3]
  · intro lim o b c r e2 e3 hm hr i1 i2 pre post sum by' outer d s hH hK hd h0 h1 hk
    rw [List.length_cons, List.length_append, List.length_cons] at hK
    obtain ⟨ao, -, av⟩ := hk.2 pre.length o (by rw [hH]; exact mid_get)
    obtain ⟨av, av2⟩ := av e2
    rw [e2] at ao
    obtain ⟨ac, -⟩ := hk.2 (pre.length + 1 + b.length) c (by
      have := mid_get (A := pre ++ o :: b) (B := r ++ post) (x := c)
      rw [show (pre ++ o :: b).length = pre.length + 1 + b.length from by simp only [List.length_append, List.length_cons]; omega] at this
      rw [← this, hH]
      simp only [List.append_assoc, List.cons_append, List.nil_append])
    rw [e3] at ac
    obtain ⟨u1, p1, p2⟩ := i1 (pre ++ [o]) (c :: (r ++ post)) sum (by' * tn o) (if d = 0 then tn o else outer) (d + 1) s (by rw [hH]; simp only [List.append_assoc, List.cons_append, List.nil_append]) (by rw [List.length_append, List.length_singleton]; omega) (by omega) (fun e => by omega) (fun e => by
      have : d = 0 := by omega
      rw [h0 this, if_pos this, Nat.one_mul]) hk
    have hu1 := p1 (by omega)
    subst hu1
    obtain ⟨u2, q1, q2⟩ := i2 (pre ++ o :: (b ++ [c])) post (sum + by' * tn o * wt skW b) by' (if d = 0 then tn o else outer) d s (by rw [hH]; simp only [List.append_assoc, List.cons_append, List.nil_append]) (by simp only [List.length_append, List.length_cons, List.length_nil]; omega) hd h0 (fun e => by rw [if_neg (by omega)]; exact h1 e) hk
    have hl : (pre ++ o :: (b ++ [c])).length = pre.length + 1 + b.length + 1 := by simp only [List.length_append, List.length_cons, List.length_nil]; omega
    rw [hl] at q2
    rw [List.length_append, List.length_singleton] at p2
    refine ⟨u2, fun e => by rw [q1 e, if_neg (by omega)], fun M => ?_⟩
    have hle : (o :: (b ++ c :: r)).length = r.length + 1 + b.length + 1 := by simp only [List.length_append, List.length_cons]; omega
    rw [hle, show M + (r.length + 1 + b.length + 1) = (M + r.length + 1) + b.length + 1 from by omega, wt_loop e2 e3 hm hr, Nat.mul_add, ← Nat.add_assoc sum, ← Nat.mul_assoc, show pre.length + (r.length + 1 + b.length + 1) = pre.length + 1 + b.length + 1 + r.length from by omega, ← q2 M]
    have s1 : lp_Z_written_14 F (nI K) s ((M + r.length + 1) + b.length + 1) (lN sum) (lN by') (lN outer) (nI d) (nI pre.length) = lp_Z_written_14 F (nI K) s ((M + r.length + 1) + b.length) (lN sum) (lN (by' * tn o)) (lN (if d = 0 then tn o else outer)) (nI (d + 1)) (nI (pre.length + 1)) := by
      rw [lp_Z_written_14]
      unfold tn
      by_cases hd0 : d = 0
      · rw [if_pos hd0]
        by_cases hv : thv o ≤ 16
        · rw [Nat.min_eq_left hv]
          simp (disch := omega) only [ax_let, Option.bind_some, cond_true, cond_false, if_pos, if_neg, if_true, if_false, eq_self, nI_add, nI_ltI, nI_leI, nI_eq, nI_clamp, pu_in, c_0, c_1, c_2, c_3, c_4, c_5, c_6, c_7, c_8, c_9, c_10, c_11, c_12, c_15, c_16, c_17, c_32, c_35, c_36, c_38, c_40, c_41, c_42, c_43, c_44, c_45, c_48, c_57, c_58, c_59, c_60, c_61, c_62, c_64, c_65, c_69, c_75, c_83, c_91, c_93, c_94, c_97, c_105, c_106, c_110, c_119, c_123, c_124, c_125, c_126, c_240, c_256, c_400, c_m, nI_m1, nM_i, lN_add, lN_mul, lN_i, nI_l, lN_eq, lgN_le, lgN_lt, lgN_ge, lgN_gt, nI_sub, nI_mul, d_0, d_1, c_13, c_14, c_18, c_19, c_20, c_21, c_22, c_23, c_24, c_25, c_26, c_27, c_28, c_29, c_30, c_31, c_33, c_34, c_37, c_39, c_46, c_47, c_49, c_50, c_51, c_52, c_53, c_54, c_55, c_56, c_63, c_66, c_67, c_68, c_70, c_71, c_72, c_73, c_74, c_76, c_77, c_78, c_79, c_80, c_81, c_82, c_84, c_85, c_86, c_87, c_88, c_89, c_90, c_92, c_95, c_96, c_98, c_99, c_100, c_101, c_102, c_103, c_104, c_107, c_108, c_109, c_111, c_112, c_113, c_114, c_115, c_116, c_117, c_118, c_120, c_121, c_122, c_127, c_280, d_2, d_3, d_4, d_8, d_9, d_10, d_15, d_16, d_32, d_48, d_62, d_63, d_64, ao, av]
        · rw [Nat.min_eq_right (by omega)]
          simp (disch := omega) only [ax_let, Option.bind_some, cond_true, cond_false, if_pos, if_neg, if_true, if_false, eq_self, nI_add, nI_ltI, nI_leI, nI_eq, nI_clamp, pu_in, c_0, c_1, c_2, c_3, c_4, c_5, c_6, c_7, c_8, c_9, c_10, c_11, c_12, c_15, c_16, c_17, c_32, c_35, c_36, c_38, c_40, c_41, c_42, c_43, c_44, c_45, c_48, c_57, c_58, c_59, c_60, c_61, c_62, c_64, c_65, c_69, c_75, c_83, c_91, c_93, c_94, c_97, c_105, c_106, c_110, c_119, c_123, c_124, c_125, c_126, c_240, c_256, c_400, c_m, nI_m1, nM_i, lN_add, lN_mul, lN_i, nI_l, lN_eq, lgN_le, lgN_lt, lgN_ge, lgN_gt, nI_sub, nI_mul, d_0, d_1, c_13, c_14, c_18, c_19, c_20, c_21, c_22, c_23, c_24, c_25, c_26, c_27, c_28, c_29, c_30, c_31, c_33, c_34, c_37, c_39, c_46, c_47, c_49, c_50, c_51, c_52, c_53, c_54, c_55, c_56, c_63, c_66, c_67, c_68, c_70, c_71, c_72, c_73, c_74, c_76, c_77, c_78, c_79, c_80, c_81, c_82, c_84, c_85, c_86, c_87, c_88, c_89, c_90, c_92, c_95, c_96, c_98, c_99, c_100, c_101, c_102, c_103, c_104, c_107, c_108, c_109, c_111, c_112, c_113, c_114, c_115, c_116, c_117, c_118, c_120, c_121, c_122, c_127, c_280, d_2, d_3, d_4, d_8, d_9, d_10, d_15, d_16, d_32, d_48, d_62, d_63, d_64, ao, av]
      · rw [if_neg hd0]
        by_cases hv : thv o ≤ 16
        · rw [Nat.min_eq_left hv]
          simp (disch := omega) only [ax_let, Option.bind_some, cond_true, cond_false, if_pos, if_neg, if_true, if_false, eq_self, nI_add, nI_ltI, nI_leI, nI_eq, nI_clamp, pu_in, c_0, c_1, c_2, c_3, c_4, c_5, c_6, c_7, c_8, c_9, c_10, c_11, c_12, c_15, c_16, c_17, c_32, c_35, c_36, c_38, c_40, c_41, c_42, c_43, c_44, c_45, c_48, c_57, c_58, c_59, c_60, c_61, c_62, c_64, c_65, c_69, c_75, c_83, c_91, c_93, c_94, c_97, c_105, c_106, c_110, c_119, c_123, c_124, c_125, c_126, c_240, c_256, c_400, c_m, nI_m1, nM_i, lN_add, lN_mul, lN_i, nI_l, lN_eq, lgN_le, lgN_lt, lgN_ge, lgN_gt, nI_sub, nI_mul, d_0, d_1, c_13, c_14, c_18, c_19, c_20, c_21, c_22, c_23, c_24, c_25, c_26, c_27, c_28, c_29, c_30, c_31, c_33, c_34, c_37, c_39, c_46, c_47, c_49, c_50, c_51, c_52, c_53, c_54, c_55, c_56, c_63, c_66, c_67, c_68, c_70, c_71, c_72, c_73, c_74, c_76, c_77, c_78, c_79, c_80, c_81, c_82, c_84, c_85, c_86, c_87, c_88, c_89, c_90, c_92, c_95, c_96, c_98, c_99, c_100, c_101, c_102, c_103, c_104, c_107, c_108, c_109, c_111, c_112, c_113, c_114, c_115, c_116, c_117, c_118, c_120, c_121, c_122, c_127, c_280, d_2, d_3, d_4, d_8, d_9, d_10, d_15, d_16, d_32, d_48, d_62, d_63, d_64, ao, av]
        · rw [Nat.min_eq_right (by omega)]
          simp (disch := omega) only [ax_let, Option.bind_some, cond_true, cond_false, if_pos, if_neg, if_true, if_false, eq_self, nI_add, nI_ltI, nI_leI, nI_eq, nI_clamp, pu_in, c_0, c_1, c_2, c_3, c_4, c_5, c_6, c_7, c_8, c_9, c_10, c_11, c_12, c_15, c_16, c_17, c_32, c_35, c_36, c_38, c_40, c_41, c_42, c_43, c_44, c_45, c_48, c_57, c_58, c_59, c_60, c_61, c_62, c_64, c_65, c_69, c_75, c_83, c_91, c_93, c_94, c_97, c_105, c_106, c_110, c_119, c_123, c_124, c_125, c_126, c_240, c_256, c_400, c_m, nI_m1, nM_i, lN_add, lN_mul, lN_i, nI_l, lN_eq, lgN_le, lgN_lt, lgN_ge, lgN_gt, nI_sub, nI_mul, d_0, d_1, c_13, c_14, c_18, c_19, c_20, c_21, c_22, c_23, c_24, c_25, c_26, c_27, c_28, c_29, c_30, c_31, c_33, c_34, c_37, c_39, c_46, c_47, c_49, c_50, c_51, c_52, c_53, c_54, c_55, c_56, c_63, c_66, c_67, c_68, c_70, c_71, c_72, c_73, c_74, c_76, c_77, c_78, c_79, c_80, c_81, c_82, c_84, c_85, c_86, c_87, c_88, c_89, c_90, c_92, c_95, c_96, c_98, c_99, c_100, c_101, c_102, c_103, c_104, c_107, c_108, c_109, c_111, c_112, c_113, c_114, c_115, c_116, c_117, c_118, c_120, c_121, c_122, c_127, c_280, d_2, d_3, d_4, d_8, d_9, d_10, d_15, d_16, d_32, d_48, d_62, d_63, d_64, ao, av]
    have s2 : lp_Z_written_14 F (nI K) s (M + r.length + 1) (lN (sum + by' * tn o * wt skW b)) (lN (by' * tn o)) (lN (if d = 0 then tn o else outer)) (nI (d + 1)) (nI (pre.length + 1 + b.length)) = lp_Z_written_14 F (nI K) s (M + r.length) (lN (sum + by' * tn o * wt skW b)) (lN by') (lN (if d = 0 then tn o else outer)) (nI d) (nI (pre.length + 1 + b.length + 1)) := by
      have e9 : nI (d + 1) + nM = nI d := (Int32.sub_eq_add_neg _ _).symm.trans (nI_pred d)
      rw [lp_Z_written_14]
      by_cases hd0 : d = 0
      · have := h0 hd0
        subst this
        subst hd0
        simp (disch := omega) only [ax_let, Option.bind_some, cond_true, cond_false, if_pos, if_neg, if_true, if_false, eq_self, nI_add, nI_ltI, nI_leI, nI_eq, nI_clamp, pu_in, c_0, c_1, c_2, c_3, c_4, c_5, c_6, c_7, c_8, c_9, c_10, c_11, c_12, c_15, c_16, c_17, c_32, c_35, c_36, c_38, c_40, c_41, c_42, c_43, c_44, c_45, c_48, c_57, c_58, c_59, c_60, c_61, c_62, c_64, c_65, c_69, c_75, c_83, c_91, c_93, c_94, c_97, c_105, c_106, c_110, c_119, c_123, c_124, c_125, c_126, c_240, c_256, c_400, c_m, nI_m1, nM_i, lN_add, lN_mul, lN_i, nI_l, lN_eq, lgN_le, lgN_lt, lgN_ge, lgN_gt, nI_sub, nI_mul, d_0, d_1, c_13, c_14, c_18, c_19, c_20, c_21, c_22, c_23, c_24, c_25, c_26, c_27, c_28, c_29, c_30, c_31, c_33, c_34, c_37, c_39, c_46, c_47, c_49, c_50, c_51, c_52, c_53, c_54, c_55, c_56, c_63, c_66, c_67, c_68, c_70, c_71, c_72, c_73, c_74, c_76, c_77, c_78, c_79, c_80, c_81, c_82, c_84, c_85, c_86, c_87, c_88, c_89, c_90, c_92, c_95, c_96, c_98, c_99, c_100, c_101, c_102, c_103, c_104, c_107, c_108, c_109, c_111, c_112, c_113, c_114, c_115, c_116, c_117, c_118, c_120, c_121, c_122, c_127, c_280, d_2, d_3, d_4, d_8, d_9, d_10, d_15, d_16, d_32, d_48, d_62, d_63, d_64, ac, e9]
      · have := h1 (by omega)
        subst this
        rw [if_neg hd0]
        simp (disch := omega) only [ax_let, Option.bind_some, cond_true, cond_false, if_pos, if_neg, if_true, if_false, eq_self, nI_add, nI_ltI, nI_leI, nI_eq, nI_clamp, pu_in, c_0, c_1, c_2, c_3, c_4, c_5, c_6, c_7, c_8, c_9, c_10, c_11, c_12, c_15, c_16, c_17, c_32, c_35, c_36, c_38, c_40, c_41, c_42, c_43, c_44, c_45, c_48, c_57, c_58, c_59, c_60, c_61, c_62, c_64, c_65, c_69, c_75, c_83, c_91, c_93, c_94, c_97, c_105, c_106, c_110, c_119, c_123, c_124, c_125, c_126, c_240, c_256, c_400, c_m, nI_m1, nM_i, lN_add, lN_mul, lN_i, nI_l, lN_eq, lgN_le, lgN_lt, lgN_ge, lgN_gt, nI_sub, nI_mul, d_0, d_1, c_13, c_14, c_18, c_19, c_20, c_21, c_22, c_23, c_24, c_25, c_26, c_27, c_28, c_29, c_30, c_31, c_33, c_34, c_37, c_39, c_46, c_47, c_49, c_50, c_51, c_52, c_53, c_54, c_55, c_56, c_63, c_66, c_67, c_68, c_70, c_71, c_72, c_73, c_74, c_76, c_77, c_78, c_79, c_80, c_81, c_82, c_84, c_85, c_86, c_87, c_88, c_89, c_90, c_92, c_95, c_96, c_98, c_99, c_100, c_101, c_102, c_103, c_104, c_107, c_108, c_109, c_111, c_112, c_113, c_114, c_115, c_116, c_117, c_118, c_120, c_121, c_122, c_127, c_280, d_2, d_3, d_4, d_8, d_9, d_10, d_15, d_16, d_32, d_48, d_62, d_63, d_64, ac, e9]
    rw [s1, p2, s2]
theorem z_wrt {lim : Nat} {pre l post : List Th} {s : ax_σ} (hF : 241 ≤ F) (hH : H = pre ++ (l ++ post)) (h : lv lim 0 l = some 0) (hl : lim ≤ 2) (hk : ZKd H s) : f_Z_written F (nI pre.length) (nI (pre.length + l.length)) s = some (lN (wt skW l)) := by
  have h1 := hk.1
  rw [hH, List.length_append, List.length_append] at h1
  obtain ⟨u, -, e⟩ := wr_bal (F := F) (K := pre.length + l.length) h (by omega) pre post 0 1 1 0 s hH (Nat.le_refl _) (by omega) (fun _ => rfl) (fun e => by omega) hk
  have e := e (F - l.length - 1 + 1)
  rw [show F - l.length - 1 + 1 + l.length = F from by omega, Nat.zero_add, Nat.one_mul] at e
  show Option.bind (lp_Z_written_14 F (nI (pre.length + l.length)) s F (lN 0) (lN 1) (lN 1) (nI 0) (nI pre.length)) (fun v16 => some v16) = _
  rw [e, lp_Z_written_14, if_pos (Int32.le_refl _)]
  rfl
end
