/-! PURE: the least fault that the reference finds; class and reference tell the same -/
def CAQ (F n : Nat) (D : Ds) (K : KS) (wr : Bool) (lim : Nat) (l : List Th) : Prop := ∀ (C : List (Nat × Cx)) (pre post : List Th) (sk rf : Nat) (s : ax_σ), CxR C 2 (dH D) 0 pre sk (l ++ post) → C.length + lim = 2 → (wr = true → pre.length + l.length ≤ (dW D).length) → (wr = false → (dW D).length ≤ pre.length) → sk + l.length * 16 ^ lim ≤ 2 ^ 29 → (∀ c ∈ C.map (·.2), c.2.2 < 2 ^ 20) → ZX D s → ZKd (dH D) s → ZFa rf s → ∃ s' rf', (∀ M, lp_Z_checkAll_240 F (M + l.length) (nI pre.length) s = lp_Z_checkAll_240 F M (nI (pre.length + l.length)) s') ∧ ZFa rf' s' ∧ (∀ m, m ≤ rf' ↔ m ≤ rf ∧ NX K m l (ltC C) ∧ GX m (wt skW (dW D)) D.2.2.1.1 l (C.map (·.2)) sk) ∧ frm XG s s'
theorem ca_all {F n lim : Nat} {D : Ds} {K : KS} {wr : Bool} {l : List Th} (hF : 241 ≤ F) (hO : ThO n D) (hv : vD D) (hK : kw K = D.1.1 ∧ ktb K = (dT D).length ∧ (ksn K = if wr = true then 0 else D.2.1.1) ∧ ∀ (u : Nat) (x : Tb), (dT D)[u]? = some x → ∀ j, j < 16 → tbE x j < 16 ∧ kB K (u * 16 + j) = bkL (fun y => nI (tbE x y)) (nI j) 16 nM) (h : lv lim 0 l = some 0) : CAQ F n D K wr lim l := by
  refine dyck (P := CAQ F n D K wr) h ?_ ?_ ?_
  · intro lim C pre post sk rf s _ _ _ _ _ _ _ _ hf
    exact ⟨s, rf, fun M => rfl, hf, fun m => ⟨fun k => ⟨k, trivial, trivial⟩, fun k => k.1⟩, frm.refl⟩
  · intro lim t r e2 e3 hr ih C pre post sk rf s hR hC h1 h2 hb hg hZ hKd hf
    rw [List.length_cons] at h1 hb
    rw [Nat.succ_mul] at hb
    have hp16 : 1 ≤ 16 ^ lim := Nat.pow_pos (by decide)
    have hsk : skW t ≤ 1 := by unfold skW; split <;> omega
    have hsn : (if wr = true then 0 else D.2.1.1) = (if pre.length < (dW D).length then 0 else D.2.1.1) := by
      cases wr with
      | true => rw [if_pos rfl, if_pos (by have := h1 rfl; omega)]
      | false => rw [if_neg (by decide), if_neg (by have := h2 rfl; omega)]
    obtain ⟨s1, rf1, a1, a2, a3, a4⟩ := ca_leaf (K := K) hF hO hv ⟨hK.1, hK.2.1, by rw [← hsn]; exact hK.2.2.1, hK.2.2.2⟩ e2 e3 hR (by omega) hg hZ hKd hf
    obtain ⟨s2, rf2, b1, b2, b3, b4⟩ := ih C (pre ++ [t]) post (sk + skW t) rf1 s1 (hR.leaf e2 e3) hC (fun e => by have := h1 e; rw [List.length_append, List.length_singleton]; omega) (fun e => by have := h2 e; rw [List.length_append, List.length_singleton]; omega) (by omega) hg (hZ.keep a4 (fun r k h => XG.q h)) (hKd.keep a4 (fun r k h => XG.q (by unfold XX; omega))) a2
    rw [List.length_append, List.length_singleton] at b1
    refine ⟨s2, rf2, fun M => ?_, b2, fun m => ?_, a4.trans b4⟩
    · rw [List.length_cons, ← Nat.add_assoc, a1, b1]
      congr 2
      omega
    · rw [b3, a3, NX_leaf e2 e3 hr, GX_leaf e2 e3 hr]
      exact ⟨fun k => ⟨k.1.1, ⟨k.1.2.1, k.2.1⟩, k.1.2.2, k.2.2⟩, fun k => ⟨⟨k.1, k.2.1.1, k.2.2.1⟩, k.2.1.2, k.2.2.2⟩⟩
  · intro lim o b c r e2 e3 hm hr i1 i2 C pre post sk rf s hR hC h1 h2 hb hg hZ hKd hf
    have hB := hO.2.2.1
    have hR' : CxR C 2 (dH D) 0 pre sk (o :: (b ++ c :: (r ++ post))) := by
      have e : o :: (b ++ c :: r) ++ post = o :: (b ++ c :: (r ++ post)) := by simp only [List.cons_append, List.append_assoc]
      rw [← e]
      exact hR
    rw [List.length_cons, List.length_append, List.length_cons] at h1
    have hwb := wt_le (f := skW) (fun t => by unfold skW; split <;> omega) hm
    have hb2 : sk + b.length * 16 ^ (lim + 1) + r.length * 16 ^ (lim + 1) + 2 * 16 ^ (lim + 1) ≤ 2 ^ 29 := by
      rw [List.length_cons, List.length_append, List.length_cons, show b.length + (r.length + 1) + 1 = b.length + r.length + 2 from by omega, Nat.add_mul, Nat.add_mul] at hb
      omega
    have h16 : b.length * 16 ^ (lim + 1) = 16 * (b.length * 16 ^ lim) := by rw [Nat.pow_succ, ← Nat.mul_assoc, Nat.mul_comm]
    have htn : tn o ≤ 16 := Nat.min_le_right _ _
    have htw : tn o * wt skW b ≤ 16 * (b.length * 16 ^ lim) := Nat.mul_le_mul htn hwb
    obtain ⟨-, post', hpre⟩ := hR'.pre
    have hlen := hB.1
    have hbl : b.length ≤ 240 := by
      rw [hpre] at hlen
      simp only [List.length_append, List.length_cons] at hlen
      omega
    have hpow : 16 ^ lim ≤ 16 ^ 2 := Nat.pow_le_pow_right (by decide) (by omega)
    have hwb2 : wt skW b < 2 ^ 20 := by
      have : b.length * 16 ^ lim ≤ 240 * 16 ^ 2 := Nat.mul_le_mul hbl hpow
      omega
    obtain ⟨s0, rf0, o1, o2, o3, o4⟩ := ca_open hF hO e2 hR' hZ hKd hf
    have hZ0 := hZ.keep o4 (fun r k h => XG.q h)
    have hKd0 := hKd.keep o4 (fun r k h => XG.q (by unfold XX; omega))
    have hRb := hR'.opn e2 e3 (l := lim) (by omega) hm
    rw [Nat.zero_add] at hRb
    obtain ⟨s1, rf1, a1, a2, a3, a4⟩ := i1 (C ++ [(pre.length, (thw o, thv o, wt skW b))]) (pre ++ [o]) [] sk rf0 s0 (by rw [List.append_nil]; exact hRb) (by rw [List.length_append, List.length_singleton]; omega) (fun e => by have := h1 e; rw [List.length_append, List.length_singleton]; omega) (fun e => by have := h2 e; rw [List.length_append, List.length_singleton]; omega) (by omega) (fun c hc => by
      rw [List.map_append] at hc
      rcases List.mem_append.mp hc with hc | hc
      · exact hg c hc
      · cases hc with
        | head => exact hwb2
        | tail _ hc => cases hc) hZ0 hKd0 o2
    rw [List.length_append, List.length_singleton] at a1
    have hZ1 := hZ0.keep a4 (fun r k h => XG.q h)
    have hKd1 := hKd0.keep a4 (fun r k h => XG.q (by unfold XX; omega))
    obtain ⟨s2, rf2, b1, b2, b3, b4⟩ := i2 C (pre ++ o :: (b ++ [c])) post (sk + tn o * wt skW b) rf1 s1 (hR'.cls e2 e3 (l := lim) (by omega) hm) hC (fun e => by have := h1 e; simp only [List.length_append, List.length_cons, List.length_nil]; omega) (fun e => by have := h2 e; simp only [List.length_append, List.length_cons, List.length_nil]; omega) (by omega) hg hZ1 hKd1 a2
    have hl : (pre ++ o :: (b ++ [c])).length = pre.length + 1 + b.length + 1 := by simp only [List.length_append, List.length_cons, List.length_nil]; omega
    rw [hl] at b1
    have hcl := fun M => ca_close (F := F) (M := M) (G0 := pre ++ o :: b) (G1 := r ++ post ++ post') (t := c) hB e3 (by rw [hpre]; simp only [List.append_assoc, List.cons_append]) hZ1
    rw [show (pre ++ o :: b).length = pre.length + 1 + b.length from by simp only [List.length_append, List.length_cons]; omega] at hcl
    refine ⟨s2, rf2, fun M => ?_, b2, fun m => ?_, (o4.trans a4).trans b4⟩
    · have hle : (o :: (b ++ c :: r)).length = r.length + 1 + b.length + 1 := by simp only [List.length_append, List.length_cons]; omega
      rw [hle, show M + (r.length + 1 + b.length + 1) = (M + r.length + 1) + b.length + 1 from by omega, o1, a1, hcl, b1]
      congr 2
      omega
    · have hLc : ltC (C ++ [(pre.length, (thw o, thv o, wt skW b))]) = ltC C ++ [thw o] := by unfold ltC; rw [List.map_append, List.map_append]; rfl
      have hCm : (C ++ [(pre.length, (thw o, thv o, wt skW b))]).map (·.2) = C.map (·.2) ++ [(thw o, thv o, wt skW b)] := by rw [List.map_append]; rfl
      rw [hLc, hCm] at a3
      rw [b3, a3, o3, NX_loop e2 e3 hm hr, GX_loop e2 e3 hm hr]
      exact ⟨fun k => ⟨k.1.1.1, ⟨k.1.1.2, k.1.2.1, k.2.1⟩, k.1.2.2, k.2.2⟩, fun k => ⟨⟨⟨k.1, k.2.1.1⟩, k.2.1.2.1, k.2.2.1⟩, k.2.1.2.2, k.2.2.2⟩⟩
/-- the tables' rules -/
theorem ct_177 {F u rf n : Nat} {D : Ds} {x : Tb} {s : ax_σ} (hF : 241 ≤ F) (hn : n ≤ 240) (hu : u < 2) (hx : ztbA u x s) (ho : ∀ m a : Nat × Nat, x.2 = [m, a] → m.1 < 10 ^ 9 ∧ a.1 < 10 ^ 9 ∧ m.2 < n ∧ a.2 < n) (hf : ZFa rf s) : ∃ s' rf', lp_Z_checkAll_177 F (nI u) F (nI (2 * u)) s = some s' ∧ ZFa rf' s' ∧ (∀ m, m ≤ rf' ↔ m ≤ rf ∧ tbN m x) ∧ frm X53 s s' := by
  obtain ⟨F', rfl⟩ : ∃ F', F = F' + 3 := ⟨F - 3, by omega⟩
  rcases hx.2 with ⟨h1, h2⟩ | ⟨m0, a0, h1, h2, h3, h4, h5⟩
  · refine ⟨s, rf, ?_, hf, fun m => ⟨fun k => ⟨k, by unfold tbN; rw [h1]; trivial⟩, fun k => k.1⟩, frm.refl⟩
    have e1 : (nM < nI 0) = True := eq_true (by decide)
    rw [show F' + 3 = F' + 2 + 1 from rfl, lp_Z_checkAll_177]
    simp (disch := omega) only [ax_let, Option.bind_some, cond_true, cond_false, if_pos, if_neg, if_true, if_false, eq_self, nI_add, nI_ltI, nI_leI, nI_eq, nI_clamp, pu_in, c_0, c_1, c_2, c_3, c_4, c_5, c_6, c_7, c_8, c_9, c_10, c_11, c_12, c_15, c_16, c_17, c_32, c_35, c_36, c_38, c_40, c_41, c_42, c_43, c_44, c_45, c_48, c_57, c_58, c_59, c_60, c_61, c_62, c_64, c_65, c_69, c_75, c_83, c_91, c_93, c_94, c_97, c_105, c_106, c_110, c_119, c_123, c_124, c_125, c_126, c_240, c_256, c_400, c_m, nI_m1, nM_i, lN_add, lN_mul, lN_i, nI_l, lN_eq, lgN_le, lgN_lt, lgN_ge, lgN_gt, nI_sub, nI_mul, d_0, d_1, c_13, c_14, c_18, c_19, c_20, c_21, c_22, c_23, c_24, c_25, c_26, c_27, c_28, c_29, c_30, c_31, c_33, c_34, c_37, c_39, c_46, c_47, c_49, c_50, c_51, c_52, c_53, c_54, c_55, c_56, c_63, c_66, c_67, c_68, c_70, c_71, c_72, c_73, c_74, c_76, c_77, c_78, c_79, c_80, c_81, c_82, c_84, c_85, c_86, c_87, c_88, c_89, c_90, c_92, c_95, c_96, c_98, c_99, c_100, c_101, c_102, c_103, c_104, c_107, c_108, c_109, c_111, c_112, c_113, c_114, c_115, c_116, c_117, c_118, c_120, c_121, c_122, c_127, c_280, d_2, d_3, d_4, d_8, d_9, d_10, d_15, d_16, d_32, d_48, d_62, d_63, d_64, h2, e1]
  · obtain ⟨o1, o2, o3, o4⟩ := ho m0 a0 h1
    obtain ⟨s1, rf1, c1, c0, c2, c3, c4⟩ := z_conD (c := 3) (¬ m0.1 < 16) (by omega) (show m0.2 ≤ 240 by omega) hf
    obtain ⟨s2, rf2, d1, d0, d2, d3, d4⟩ := z_conD (c := 3) (¬ a0.1 < 16) (by omega) (show a0.2 ≤ 240 by omega) c2
    have w44 : s1.2 0 44 (2 * u + 1) = lN a0.1 := (c4.2 _ _ _ (by unfold X53; omega)).trans h4
    have w45 : s1.1 0 45 (2 * u + 1) = nI a0.2 := (c4.1 _ _ _ (by unfold X53; omega)).trans h5
    have w45' : s1.1 0 45 (2 * u) = nI m0.2 := (c4.1 _ _ _ (by unfold X53; omega)).trans h3
    refine ⟨s2, rf2, ?_, d2, fun m => ?_, c4.trans d4⟩
    · have e1 : ∀ M, lp_Z_checkAll_177 (F' + 3) (nI u) (M + 1) (nI (2 * u)) s = lp_Z_checkAll_177 (F' + 3) (nI u) M (nI (2 * u + 1)) s1 := by
        intro M
        rw [lp_Z_checkAll_177]
        by_cases hP : m0.1 < 16
        · have c0' := c0 (fun e => e hP)
          simp (disch := omega) only [ax_let, Option.bind_some, cond_true, cond_false, if_pos, if_neg, if_true, if_false, eq_self, nI_add, nI_ltI, nI_leI, nI_eq, nI_clamp, pu_in, c_0, c_1, c_2, c_3, c_4, c_5, c_6, c_7, c_8, c_9, c_10, c_11, c_12, c_15, c_16, c_17, c_32, c_35, c_36, c_38, c_40, c_41, c_42, c_43, c_44, c_45, c_48, c_57, c_58, c_59, c_60, c_61, c_62, c_64, c_65, c_69, c_75, c_83, c_91, c_93, c_94, c_97, c_105, c_106, c_110, c_119, c_123, c_124, c_125, c_126, c_240, c_256, c_400, c_m, nI_m1, nM_i, lN_add, lN_mul, lN_i, nI_l, lN_eq, lgN_le, lgN_lt, lgN_ge, lgN_gt, nI_sub, nI_mul, d_0, d_1, c_13, c_14, c_18, c_19, c_20, c_21, c_22, c_23, c_24, c_25, c_26, c_27, c_28, c_29, c_30, c_31, c_33, c_34, c_37, c_39, c_46, c_47, c_49, c_50, c_51, c_52, c_53, c_54, c_55, c_56, c_63, c_66, c_67, c_68, c_70, c_71, c_72, c_73, c_74, c_76, c_77, c_78, c_79, c_80, c_81, c_82, c_84, c_85, c_86, c_87, c_88, c_89, c_90, c_92, c_95, c_96, c_98, c_99, c_100, c_101, c_102, c_103, c_104, c_107, c_108, c_109, c_111, c_112, c_113, c_114, c_115, c_116, c_117, c_118, c_120, c_121, c_122, c_127, c_280, d_2, d_3, d_4, d_8, d_9, d_10, d_15, d_16, d_32, d_48, d_62, d_63, d_64, h2, h3, c0']
        · have c1' := c1 hP
          simp (disch := omega) only [ax_let, Option.bind_some, cond_true, cond_false, if_pos, if_neg, if_true, if_false, eq_self, nI_add, nI_ltI, nI_leI, nI_eq, nI_clamp, pu_in, c_0, c_1, c_2, c_3, c_4, c_5, c_6, c_7, c_8, c_9, c_10, c_11, c_12, c_15, c_16, c_17, c_32, c_35, c_36, c_38, c_40, c_41, c_42, c_43, c_44, c_45, c_48, c_57, c_58, c_59, c_60, c_61, c_62, c_64, c_65, c_69, c_75, c_83, c_91, c_93, c_94, c_97, c_105, c_106, c_110, c_119, c_123, c_124, c_125, c_126, c_240, c_256, c_400, c_m, nI_m1, nM_i, lN_add, lN_mul, lN_i, nI_l, lN_eq, lgN_le, lgN_lt, lgN_ge, lgN_gt, nI_sub, nI_mul, d_0, d_1, c_13, c_14, c_18, c_19, c_20, c_21, c_22, c_23, c_24, c_25, c_26, c_27, c_28, c_29, c_30, c_31, c_33, c_34, c_37, c_39, c_46, c_47, c_49, c_50, c_51, c_52, c_53, c_54, c_55, c_56, c_63, c_66, c_67, c_68, c_70, c_71, c_72, c_73, c_74, c_76, c_77, c_78, c_79, c_80, c_81, c_82, c_84, c_85, c_86, c_87, c_88, c_89, c_90, c_92, c_95, c_96, c_98, c_99, c_100, c_101, c_102, c_103, c_104, c_107, c_108, c_109, c_111, c_112, c_113, c_114, c_115, c_116, c_117, c_118, c_120, c_121, c_122, c_127, c_280, d_2, d_3, d_4, d_8, d_9, d_10, d_15, d_16, d_32, d_48, d_62, d_63, d_64, h2, h3, c1']
      have e2 : ∀ M, lp_Z_checkAll_177 (F' + 3) (nI u) (M + 1) (nI (2 * u + 1)) s1 = lp_Z_checkAll_177 (F' + 3) (nI u) M (nI (2 * u + 2)) s2 := by
        intro M
        rw [lp_Z_checkAll_177]
        by_cases hP : a0.1 < 16
        · have d0' := d0 (fun e => e hP)
          simp (disch := omega) only [ax_let, Option.bind_some, cond_true, cond_false, if_pos, if_neg, if_true, if_false, eq_self, nI_add, nI_ltI, nI_leI, nI_eq, nI_clamp, pu_in, c_0, c_1, c_2, c_3, c_4, c_5, c_6, c_7, c_8, c_9, c_10, c_11, c_12, c_15, c_16, c_17, c_32, c_35, c_36, c_38, c_40, c_41, c_42, c_43, c_44, c_45, c_48, c_57, c_58, c_59, c_60, c_61, c_62, c_64, c_65, c_69, c_75, c_83, c_91, c_93, c_94, c_97, c_105, c_106, c_110, c_119, c_123, c_124, c_125, c_126, c_240, c_256, c_400, c_m, nI_m1, nM_i, lN_add, lN_mul, lN_i, nI_l, lN_eq, lgN_le, lgN_lt, lgN_ge, lgN_gt, nI_sub, nI_mul, d_0, d_1, c_13, c_14, c_18, c_19, c_20, c_21, c_22, c_23, c_24, c_25, c_26, c_27, c_28, c_29, c_30, c_31, c_33, c_34, c_37, c_39, c_46, c_47, c_49, c_50, c_51, c_52, c_53, c_54, c_55, c_56, c_63, c_66, c_67, c_68, c_70, c_71, c_72, c_73, c_74, c_76, c_77, c_78, c_79, c_80, c_81, c_82, c_84, c_85, c_86, c_87, c_88, c_89, c_90, c_92, c_95, c_96, c_98, c_99, c_100, c_101, c_102, c_103, c_104, c_107, c_108, c_109, c_111, c_112, c_113, c_114, c_115, c_116, c_117, c_118, c_120, c_121, c_122, c_127, c_280, d_2, d_3, d_4, d_8, d_9, d_10, d_15, d_16, d_32, d_48, d_62, d_63, d_64, w44, w45, w45', d0']
        · have d1' := d1 hP
          simp (disch := omega) only [ax_let, Option.bind_some, cond_true, cond_false, if_pos, if_neg, if_true, if_false, eq_self, nI_add, nI_ltI, nI_leI, nI_eq, nI_clamp, pu_in, c_0, c_1, c_2, c_3, c_4, c_5, c_6, c_7, c_8, c_9, c_10, c_11, c_12, c_15, c_16, c_17, c_32, c_35, c_36, c_38, c_40, c_41, c_42, c_43, c_44, c_45, c_48, c_57, c_58, c_59, c_60, c_61, c_62, c_64, c_65, c_69, c_75, c_83, c_91, c_93, c_94, c_97, c_105, c_106, c_110, c_119, c_123, c_124, c_125, c_126, c_240, c_256, c_400, c_m, nI_m1, nM_i, lN_add, lN_mul, lN_i, nI_l, lN_eq, lgN_le, lgN_lt, lgN_ge, lgN_gt, nI_sub, nI_mul, d_0, d_1, c_13, c_14, c_18, c_19, c_20, c_21, c_22, c_23, c_24, c_25, c_26, c_27, c_28, c_29, c_30, c_31, c_33, c_34, c_37, c_39, c_46, c_47, c_49, c_50, c_51, c_52, c_53, c_54, c_55, c_56, c_63, c_66, c_67, c_68, c_70, c_71, c_72, c_73, c_74, c_76, c_77, c_78, c_79, c_80, c_81, c_82, c_84, c_85, c_86, c_87, c_88, c_89, c_90, c_92, c_95, c_96, c_98, c_99, c_100, c_101, c_102, c_103, c_104, c_107, c_108, c_109, c_111, c_112, c_113, c_114, c_115, c_116, c_117, c_118, c_120, c_121, c_122, c_127, c_280, d_2, d_3, d_4, d_8, d_9, d_10, d_15, d_16, d_32, d_48, d_62, d_63, d_64, w44, w45, w45', d1']
      rw [show F' + 3 = F' + 2 + 1 from rfl] at e1 e2 ⊢
      rw [e1, show F' + 2 = F' + 1 + 1 from rfl, e2, lp_Z_checkAll_177]
      simp (disch := omega) only [ax_let, Option.bind_some, cond_true, cond_false, if_pos, if_neg, if_true, if_false, eq_self, nI_add, nI_ltI, nI_leI, nI_eq, nI_clamp, pu_in, c_0, c_1, c_2, c_3, c_4, c_5, c_6, c_7, c_8, c_9, c_10, c_11, c_12, c_15, c_16, c_17, c_32, c_35, c_36, c_38, c_40, c_41, c_42, c_43, c_44, c_45, c_48, c_57, c_58, c_59, c_60, c_61, c_62, c_64, c_65, c_69, c_75, c_83, c_91, c_93, c_94, c_97, c_105, c_106, c_110, c_119, c_123, c_124, c_125, c_126, c_240, c_256, c_400, c_m, nI_m1, nM_i, lN_add, lN_mul, lN_i, nI_l, lN_eq, lgN_le, lgN_lt, lgN_ge, lgN_gt, nI_sub, nI_mul, d_0, d_1, c_13, c_14, c_18, c_19, c_20, c_21, c_22, c_23, c_24, c_25, c_26, c_27, c_28, c_29, c_30, c_31, c_33, c_34, c_37, c_39, c_46, c_47, c_49, c_50, c_51, c_52, c_53, c_54, c_55, c_56, c_63, c_66, c_67, c_68, c_70, c_71, c_72, c_73, c_74, c_76, c_77, c_78, c_79, c_80, c_81, c_82, c_84, c_85, c_86, c_87, c_88, c_89, c_90, c_92, c_95, c_96, c_98, c_99, c_100, c_101, c_102, c_103, c_104, c_107, c_108, c_109, c_111, c_112, c_113, c_114, c_115, c_116, c_117, c_118, c_120, c_121, c_122, c_127, c_280, d_2, d_3, d_4, d_8, d_9, d_10, d_15, d_16, d_32, d_48, d_62, d_63, d_64]
    · rw [d3, c3, and_assoc]
      unfold tbN
      rw [h1]
theorem ct_165 {F n : Nat} {D : Ds} (hF : 241 ≤ F) (hn : n ≤ 240) (htb : (dT D).length ≤ 2) (ho : ∀ x ∈ dT D, ∀ m a : Nat × Nat, x.2 = [m, a] → m.1 < 10 ^ 9 ∧ a.1 < 10 ^ 9 ∧ m.2 < n ∧ a.2 < n) : ∀ (j u M rf : Nat) (s : ax_σ), u + j = (dT D).length → j < M → ZX D s → ZFa rf s → ∃ s' rf', lp_Z_checkAll_165 F M (nI u) s = some s' ∧ ZFa rf' s' ∧ (∀ m, m ≤ rf' ↔ m ≤ rf ∧ ∀ i x, u ≤ i → (dT D)[i]? = some x → tbN m x) ∧ frm X53 s s'
  | j, u, 0, rf, s, _, h, _, _ => absurd h (Nat.not_lt_zero _)
  | 0, u, M + 1, rf, s, hu, _, hZ, hf => by
    have g14 : s.1 0 38 14 = nI (dT D).length := hZ.1.2.1
    refine ⟨s, rf, ?_, hf, fun m => ⟨fun k => ⟨k, fun i x h1 h2 => by have := get_lt h2; omega⟩, fun k => k.1⟩, frm.refl⟩
    rw [lp_Z_checkAll_165]
    simp (disch := omega) only [ax_let, Option.bind_some, cond_true, cond_false, if_pos, if_neg, if_true, if_false, eq_self, nI_add, nI_ltI, nI_leI, nI_eq, nI_clamp, pu_in, c_0, c_1, c_2, c_3, c_4, c_5, c_6, c_7, c_8, c_9, c_10, c_11, c_12, c_15, c_16, c_17, c_32, c_35, c_36, c_38, c_40, c_41, c_42, c_43, c_44, c_45, c_48, c_57, c_58, c_59, c_60, c_61, c_62, c_64, c_65, c_69, c_75, c_83, c_91, c_93, c_94, c_97, c_105, c_106, c_110, c_119, c_123, c_124, c_125, c_126, c_240, c_256, c_400, c_m, nI_m1, nM_i, lN_add, lN_mul, lN_i, nI_l, lN_eq, lgN_le, lgN_lt, lgN_ge, lgN_gt, nI_sub, nI_mul, d_0, d_1, c_13, c_14, c_18, c_19, c_20, c_21, c_22, c_23, c_24, c_25, c_26, c_27, c_28, c_29, c_30, c_31, c_33, c_34, c_37, c_39, c_46, c_47, c_49, c_50, c_51, c_52, c_53, c_54, c_55, c_56, c_63, c_66, c_67, c_68, c_70, c_71, c_72, c_73, c_74, c_76, c_77, c_78, c_79, c_80, c_81, c_82, c_84, c_85, c_86, c_87, c_88, c_89, c_90, c_92, c_95, c_96, c_98, c_99, c_100, c_101, c_102, c_103, c_104, c_107, c_108, c_109, c_111, c_112, c_113, c_114, c_115, c_116, c_117, c_118, c_120, c_121, c_122, c_127, c_280, d_2, d_3, d_4, d_8, d_9, d_10, d_15, d_16, d_32, d_48, d_62, d_63, d_64, g14]
  | j + 1, u, M + 1, rf, s, hu, hM, hZ, hf => by
    have g14 : s.1 0 38 14 = nI (dT D).length := hZ.1.2.1
    have hx : (dT D)[u]? = some (dT D)[u] := List.getElem?_eq_getElem (by omega)
    obtain ⟨s1, rf1, a1, a2, a3, a4⟩ := ct_177 (F := F) (D := D) hF hn (show u < 2 by omega) (hZ.1.2.2 u _ hx) (ho _ (List.getElem_mem _)) hf
    obtain ⟨s2, rf2, b1, b2, b3, b4⟩ := ct_165 (F := F) hF hn htb ho j (u + 1) M rf1 s1 (by omega) (by omega) (hZ.keep a4 (fun r k h => by unfold X53; unfold XX at h; omega)) a2
    refine ⟨s2, rf2, ?_, b2, fun m => ?_, a4.trans b4⟩
    · rw [← b1, lp_Z_checkAll_165]
      simp (disch := omega) only [ax_let, Option.bind_some, cond_true, cond_false, if_pos, if_neg, if_true, if_false, eq_self, nI_add, nI_ltI, nI_leI, nI_eq, nI_clamp, pu_in, c_0, c_1, c_2, c_3, c_4, c_5, c_6, c_7, c_8, c_9, c_10, c_11, c_12, c_15, c_16, c_17, c_32, c_35, c_36, c_38, c_40, c_41, c_42, c_43, c_44, c_45, c_48, c_57, c_58, c_59, c_60, c_61, c_62, c_64, c_65, c_69, c_75, c_83, c_91, c_93, c_94, c_97, c_105, c_106, c_110, c_119, c_123, c_124, c_125, c_126, c_240, c_256, c_400, c_m, nI_m1, nM_i, lN_add, lN_mul, lN_i, nI_l, lN_eq, lgN_le, lgN_lt, lgN_ge, lgN_gt, nI_sub, nI_mul, d_0, d_1, c_13, c_14, c_18, c_19, c_20, c_21, c_22, c_23, c_24, c_25, c_26, c_27, c_28, c_29, c_30, c_31, c_33, c_34, c_37, c_39, c_46, c_47, c_49, c_50, c_51, c_52, c_53, c_54, c_55, c_56, c_63, c_66, c_67, c_68, c_70, c_71, c_72, c_73, c_74, c_76, c_77, c_78, c_79, c_80, c_81, c_82, c_84, c_85, c_86, c_87, c_88, c_89, c_90, c_92, c_95, c_96, c_98, c_99, c_100, c_101, c_102, c_103, c_104, c_107, c_108, c_109, c_111, c_112, c_113, c_114, c_115, c_116, c_117, c_118, c_120, c_121, c_122, c_127, c_280, d_2, d_3, d_4, d_8, d_9, d_10, d_15, d_16, d_32, d_48, d_62, d_63, d_64, g14, a1]
    · rw [b3, a3]
      constructor
      · rintro ⟨⟨k1, k2⟩, k3⟩
        refine ⟨k1, fun i x h1 h2 => ?_⟩
        by_cases e : i = u
        · subst e
          rw [hx] at h2
          cases h2
          exact k2
        · exact k3 i x (by omega) h2
      · rintro ⟨k1, k2⟩
        exact ⟨⟨k1, k2 u _ (Nat.le_refl _) hx⟩, fun i x h1 h2 => k2 i x (by omega) h2⟩
