/-! PURE: the reference's indexes that are too great -/
theorem CxR.mem {G : List Th} : ∀ {C : List (Nat × Cx)} {lim : Nat} {H : List Th} {off : Nat} {pre : List Th} {sk : Nat} {rest G0 G1 : List Th}, CxR C lim H off pre sk rest → G = G0 ++ (H ++ G1) → G0.length = off → ∀ (i : Nat) (c : Nat × Cx), C[i]? = some c → ∃ o, G[c.1]? = some o ∧ thk o = 2 ∧ c.2.1 = thw o ∧ c.2.2.1 = thv o
  | [], lim, H, off, pre, sk, rest, G0, G1, h, hG, hl => fun i c hi => by cases hi
  | _ :: _, 0, H, off, pre, sk, rest, G0, G1, h, _, _ => h.elim
  | (k0, c) :: C, lim + 1, H, off, pre, sk, rest, G0, G1, h, hG, hl => by
    obtain ⟨A, o, M, e, R, p', sk', h1, h2, h3, h4, h5, h6, h7, h8, h9, h10⟩ := h
    intro i c' hi
    match i, hi with
    | 0, hi =>
      cases hi
      refine ⟨o, ?_, h5, by rw [h8], by rw [h8]⟩
      have := mid_get (A := G0 ++ A) (B := M ++ e :: (R ++ G1)) (x := o)
      rw [List.length_append, hl, ← h7] at this
      rw [← this, hG, h1]
      simp only [List.append_assoc, List.cons_append, List.nil_append]
    | i + 1, hi => exact h10.mem (G0 := G0 ++ (A ++ [o])) (G1 := e :: (R ++ G1)) (by rw [hG, h1]; simp only [List.append_assoc, List.cons_append, List.nil_append]) (by simp only [List.length_append, List.length_cons, List.length_nil]; omega) i c' hi
/-- the loops around, in the reference's memory -/
def CxM (C : List (Nat × Cx)) (s : ax_σ) : Prop := C.length ≤ 2 ∧ ∀ (i : Nat) (c : Nat × Cx), C[i]? = some c → s.1 0 46 i = nI c.1 ∧ c.1 < 240 ∧ s.1 0 49 c.1 = nI c.2.1 ∧ c.2.1 < 2 ∧ s.2 0 52 c.1 = lN c.2.2.1 ∧ c.2.2.1 < 10 ^ 9
theorem CxM.keep {C : List (Nat × Cx)} {s s' : ax_σ} {Q : Nat → Nat → Nat → Prop} (h : CxM C s) (hf : frm Q s s') (hq : ∀ r k, r = 46 ∨ r = 49 ∨ r = 52 → ¬ Q 0 r k) : CxM C s' :=
  ⟨h.1, fun i c hi => by
    obtain ⟨a, b, c, d, e, f⟩ := h.2 i c hi
    exact ⟨(hf.1 _ _ _ (hq _ _ (by omega))).trans a, b, (hf.1 _ _ _ (hq _ _ (by omega))).trans c, d, (hf.2 _ _ _ (hq _ _ (by omega))).trans e, f⟩⟩
/-- what is known of the things of a description -/
def ThB (D : Ds) : Prop := ∀ t ∈ dH D, thk t < 13 ∧ (thk t = 2 → thv t < 10 ^ 9 ∧ thw t < 2)
theorem CxR.cxm {D : Ds} {C : List (Nat × Cx)} {pre rest : List Th} {sk : Nat} {s : ax_σ} (h : CxR C 2 (dH D) 0 pre sk rest) (hZ : ZX D s) (hB : DB D) (hT : ThB D) (ho : ∀ (i : Nat) (c : Nat × Cx), C[i]? = some c → s.1 0 46 i = nI c.1) : CxM C s := by
  refine ⟨h.pre.1, fun i c hi => ?_⟩
  obtain ⟨o, a, b, c1, c2⟩ := h.mem (G := dH D) (G0 := []) (G1 := []) (by rw [List.append_nil]; rfl) rfl i c hi
  obtain ⟨-, -, z1, -, z2, -⟩ := hZ.2.2.1 _ _ a
  obtain ⟨t1, t2⟩ := (hT o (List.mem_of_getElem? a)).2 b
  have hb := hB.1
  have hlt := get_lt a
  exact ⟨ho i c hi, by omega, by rw [c1]; exact z1 (by omega), by rw [c1]; exact t2, by rw [c2]; exact (z2 (Or.inl b)).1, by rw [c2]; exact t1⟩
theorem z_before {F a b : Nat} {D : Ds} {C : List (Nat × Cx)} {pre rest : List Th} {sk : Nat} {s : ax_σ} (hF : 241 ≤ F) (ha : a < 2 ^ 31) (hb : b < 2 ^ 31) (h : CxR C 2 (dH D) 0 pre sk rest) (hZ : ZX D s) (hk : ZKd (dH D) s) (hC : CxM C s) : f_Z_before F (nI pre.length) (nI C.length) (nI a) (nI b) s = some (lN (bf (C.map (·.2)) sk a b)) := by
  have hlen := hk.1
  match C, h, hC with
  | [], h, hC =>
    obtain ⟨h1, h2, h3⟩ := h
    have w := z_wrt (F := F) (pre := []) (l := pre) (post := rest) hF h1 h2 (Nat.le_of_ble_eq_true rfl) hk
    rw [List.length_nil, Nat.zero_add] at w
    unfold f_Z_before
    simp (disch := omega) only [ax_let, Option.bind_some, cond_true, cond_false, if_pos, if_neg, if_true, if_false, eq_self, nI_add, nI_ltI, nI_leI, nI_eq, nI_clamp, pu_in, c_0, c_1, c_2, c_3, c_4, c_5, c_6, c_7, c_8, c_9, c_10, c_11, c_12, c_15, c_16, c_17, c_32, c_35, c_36, c_38, c_40, c_41, c_42, c_43, c_44, c_45, c_48, c_57, c_58, c_59, c_60, c_61, c_62, c_64, c_65, c_69, c_75, c_83, c_91, c_93, c_94, c_97, c_105, c_106, c_110, c_119, c_123, c_124, c_125, c_126, c_240, c_256, c_400, c_m, nI_m1, nM_i, lN_add, lN_mul, lN_i, nI_l, lN_eq, lgN_le, lgN_lt, lgN_ge, lgN_gt, nI_sub, nI_mul, d_0, d_1, c_13, c_14, c_18, c_19, c_20, c_21, c_22, c_23, c_24, c_25, c_26, c_27, c_28, c_29, c_30, c_31, c_33, c_34, c_37, c_39, c_46, c_47, c_49, c_50, c_51, c_52, c_53, c_54, c_55, c_56, c_63, c_66, c_67, c_68, c_70, c_71, c_72, c_73, c_74, c_76, c_77, c_78, c_79, c_80, c_81, c_82, c_84, c_85, c_86, c_87, c_88, c_89, c_90, c_92, c_95, c_96, c_98, c_99, c_100, c_101, c_102, c_103, c_104, c_107, c_108, c_109, c_111, c_112, c_113, c_114, c_115, c_116, c_117, c_118, c_120, c_121, c_122, c_127, c_280, d_2, d_3, d_4, d_8, d_9, d_10, d_15, d_16, d_32, d_48, d_62, d_63, d_64, w, List.length_nil]
    rw [h3]
    rfl
  | [(k0, c)], h, hC =>
    obtain ⟨A, o, M, e, R, p', sk', h1, h2, h3, h4, h5, h6, h7, h8, h9, h10, h11, h12⟩ := h
    rw [Nat.zero_add] at h7
    obtain ⟨m1, m2, -⟩ := hC.2 0 _ rfl
    simp only at m1 m2
    have w1 := z_wrt (F := F) (pre := []) (l := A) (post := o :: (M ++ e :: R)) hF h1 h3 (Nat.le_of_ble_eq_true rfl) hk
    have w2 := z_wrt (F := F) (pre := A ++ [o]) (l := M) (post := e :: R) hF (by rw [h1]; simp only [List.append_assoc, List.cons_append, List.nil_append]) h4 (Nat.le_of_ble_eq_true rfl) hk
    have w3 := z_wrt (F := F) (pre := A ++ [o]) (l := p') (post := rest ++ e :: R) hF (by rw [h1, h10]; simp only [List.append_assoc, List.cons_append, List.nil_append]) h11 (Nat.le_of_ble_eq_true rfl) hk
    obtain ⟨o1, -⟩ := hZ.oth h1 h5 h6 h4
    have hpl : pre.length = A.length + 1 + p'.length := by rw [h2, List.length_append, List.length_cons]; omega
    rw [List.length_nil, Nat.zero_add] at w1
    rw [List.length_append, List.length_singleton] at w2 w3
    rw [← h7] at w1 w2 w3 o1
    have hlH : (dH D).length = A.length + 1 + M.length + 1 + R.length := by rw [h1]; simp only [List.length_append, List.length_cons]; omega
    unfold f_Z_before
    rw [hpl, ← h7]
    simp (disch := omega) only [ax_let, Option.bind_some, cond_true, cond_false, if_pos, if_neg, if_true, if_false, eq_self, nI_add, nI_ltI, nI_leI, nI_eq, nI_clamp, pu_in, c_0, c_1, c_2, c_3, c_4, c_5, c_6, c_7, c_8, c_9, c_10, c_11, c_12, c_15, c_16, c_17, c_32, c_35, c_36, c_38, c_40, c_41, c_42, c_43, c_44, c_45, c_48, c_57, c_58, c_59, c_60, c_61, c_62, c_64, c_65, c_69, c_75, c_83, c_91, c_93, c_94, c_97, c_105, c_106, c_110, c_119, c_123, c_124, c_125, c_126, c_240, c_256, c_400, c_m, nI_m1, nM_i, lN_add, lN_mul, lN_i, nI_l, lN_eq, lgN_le, lgN_lt, lgN_ge, lgN_gt, nI_sub, nI_mul, d_0, d_1, c_13, c_14, c_18, c_19, c_20, c_21, c_22, c_23, c_24, c_25, c_26, c_27, c_28, c_29, c_30, c_31, c_33, c_34, c_37, c_39, c_46, c_47, c_49, c_50, c_51, c_52, c_53, c_54, c_55, c_56, c_63, c_66, c_67, c_68, c_70, c_71, c_72, c_73, c_74, c_76, c_77, c_78, c_79, c_80, c_81, c_82, c_84, c_85, c_86, c_87, c_88, c_89, c_90, c_92, c_95, c_96, c_98, c_99, c_100, c_101, c_102, c_103, c_104, c_107, c_108, c_109, c_111, c_112, c_113, c_114, c_115, c_116, c_117, c_118, c_120, c_121, c_122, c_127, c_280, d_2, d_3, d_4, d_8, d_9, d_10, d_15, d_16, d_32, d_48, d_62, d_63, d_64, m1, w1, w2, w3, o1, List.length_cons, List.length_nil]
    rw [h9, h12]
    show some (lN (wt skW A + a * wt skW M + wt skW p')) = some (lN (wt skW A + wt skW p' + a * c.2.2))
    rw [h8]
    congr 2
    show wt skW A + a * wt skW M + wt skW p' = wt skW A + wt skW p' + a * wt skW M
    omega
  | [(k0, c), (k1, c')], h, hC =>
    obtain ⟨A, o, M, e, R, p', sk', h1, h2, h3, h4, h5, h6, h7, h8, h9, A', o', M', e', R', p'', sk'', g1, g2, g3, g4, g5, g6, g7, g8, g9, g10, g11, g12⟩ := h
    rw [Nat.zero_add] at h7
    obtain ⟨m1, m2, -⟩ := hC.2 0 _ rfl
    obtain ⟨n1, n2, -⟩ := hC.2 1 _ rfl
    simp only at m1 m2 n1 n2
    have w1 := z_wrt (F := F) (pre := []) (l := A) (post := o :: (M ++ e :: R)) hF h1 h3 (Nat.le_of_ble_eq_true rfl) hk
    have w2 := z_wrt (F := F) (pre := A ++ [o]) (l := M) (post := e :: R) hF (by rw [h1]; simp only [List.append_assoc, List.cons_append, List.nil_append]) h4 (Nat.le_of_ble_eq_true rfl) hk
    have w3 := z_wrt (F := F) (pre := A ++ [o]) (l := A') (post := o' :: (M' ++ e' :: R') ++ e :: R) hF (by rw [h1, g1]; simp only [List.append_assoc, List.cons_append, List.nil_append]) g3 (Nat.le_of_ble_eq_true rfl) hk
    have w4 := z_wrt (F := F) (pre := A ++ o :: (A' ++ [o'])) (l := M') (post := e' :: R' ++ e :: R) hF (by rw [h1, g1]; simp only [List.append_assoc, List.cons_append, List.nil_append]) g4 (Nat.le_of_ble_eq_true rfl) hk
    have w5 := z_wrt (F := F) (pre := A ++ o :: (A' ++ [o'])) (l := p'') (post := rest ++ (e' :: R' ++ e :: R)) hF (by rw [h1, g1, g10]; simp only [List.append_assoc, List.cons_append, List.nil_append]) g11 (Nat.le_of_ble_eq_true rfl) hk
    obtain ⟨o1, -⟩ := hZ.oth h1 h5 h6 h4
    obtain ⟨o2, -⟩ := hZ.oth (X := A ++ o :: A') (M := M') (R := R' ++ e :: R) (o := o') (e := e') (by rw [h1, g1]; simp only [List.append_assoc, List.cons_append, List.nil_append]) g5 g6 g4
    have hpl : pre.length = A.length + 1 + A'.length + 1 + p''.length := by rw [h2, g2]; simp only [List.length_append, List.length_cons]; omega
    have hk1 : (A ++ o :: A').length = k1 := by rw [g7, h7]; simp only [List.length_append, List.length_cons]; omega
    have hk2 : (A ++ o :: (A' ++ [o'])).length = k1 + 1 := by rw [g7, h7]; simp only [List.length_append, List.length_cons, List.length_nil]; omega
    rw [hk1] at o2
    rw [hk2] at w4 w5
    rw [List.length_nil, Nat.zero_add] at w1
    rw [List.length_append, List.length_singleton] at w2 w3
    rw [← h7] at w1 w2 w3 o1
    have hlH : (dH D).length = A.length + 1 + M.length + 1 + R.length := by rw [h1]; simp only [List.length_append, List.length_cons]; omega
    have hlM : M.length = A'.length + 1 + M'.length + 1 + R'.length := by rw [g1]; simp only [List.length_append, List.length_cons]; omega
    rw [← g7] at w3
    unfold f_Z_before
    rw [hpl, show A.length + 1 + A'.length + 1 + p''.length = k1 + 1 + p''.length from by omega]
    simp (disch := omega) only [ax_let, Option.bind_some, cond_true, cond_false, if_pos, if_neg, if_true, if_false, eq_self, nI_add, nI_ltI, nI_leI, nI_eq, nI_clamp, pu_in, c_0, c_1, c_2, c_3, c_4, c_5, c_6, c_7, c_8, c_9, c_10, c_11, c_12, c_15, c_16, c_17, c_32, c_35, c_36, c_38, c_40, c_41, c_42, c_43, c_44, c_45, c_48, c_57, c_58, c_59, c_60, c_61, c_62, c_64, c_65, c_69, c_75, c_83, c_91, c_93, c_94, c_97, c_105, c_106, c_110, c_119, c_123, c_124, c_125, c_126, c_240, c_256, c_400, c_m, nI_m1, nM_i, lN_add, lN_mul, lN_i, nI_l, lN_eq, lgN_le, lgN_lt, lgN_ge, lgN_gt, nI_sub, nI_mul, d_0, d_1, c_13, c_14, c_18, c_19, c_20, c_21, c_22, c_23, c_24, c_25, c_26, c_27, c_28, c_29, c_30, c_31, c_33, c_34, c_37, c_39, c_46, c_47, c_49, c_50, c_51, c_52, c_53, c_54, c_55, c_56, c_63, c_66, c_67, c_68, c_70, c_71, c_72, c_73, c_74, c_76, c_77, c_78, c_79, c_80, c_81, c_82, c_84, c_85, c_86, c_87, c_88, c_89, c_90, c_92, c_95, c_96, c_98, c_99, c_100, c_101, c_102, c_103, c_104, c_107, c_108, c_109, c_111, c_112, c_113, c_114, c_115, c_116, c_117, c_118, c_120, c_121, c_122, c_127, c_280, d_2, d_3, d_4, d_8, d_9, d_10, d_15, d_16, d_32, d_48, d_62, d_63, d_64, m1, n1, w1, w2, w3, w4, w5, o1, o2, List.length_cons, List.length_nil]
    rw [h9, g9, g12]
    show some (lN (wt skW A + a * wt skW M + wt skW A' + b * wt skW M' + wt skW p'')) = some (lN (wt skW A + (wt skW A' + wt skW p'') + a * c.2.2 + b * c'.2.2))
    rw [h8, g8]
    congr 2
    show wt skW A + a * wt skW M + wt skW A' + b * wt skW M' + wt skW p'' = wt skW A + (wt skW A' + wt skW p'') + a * wt skW M + b * wt skW M'
    omega
  | _ :: _ :: _ :: _, h, hC =>
    have := hC.1
    simp only [List.length_cons] at this
    omega
theorem ixV_c (t : Tm) (l : List Tm) (i j : Nat) : ixV (t :: l) i j = t.1 * (if t.2.1 = 0 then 1 else if t.2.1 = 1 then i else j) + ixV l i j := by
  simp only [ixV, ixB, ixI, ixJ]
  by_cases h0 : t.2.1 = 0
  · simp only [h0, if_true, true_or, if_false, Nat.zero_add, show ¬ (0 : Nat) = 1 from by omega, Nat.mul_one]
    omega
  · by_cases h1 : t.2.1 = 1
    · simp only [h1, if_true, if_false, Nat.zero_add, show ¬ (1 : Nat) = 0 from by omega, or_true, Nat.add_mul]
      omega
    · simp only [h0, h1, if_false, Nat.zero_add, or_false, Nat.add_mul]
      omega
theorem zi_10 {F oi e : Nat} {v : Nat → Nat} {s : ax_σ} (h62 : s.1 0 62 oi = nI e) (hb : e ≤ 240) (hoi : oi < 240) (hv2 : ∀ x, v x < 2 ^ 31) : ∀ (l : List Tm) (t0 M sum : Nat), t0 + l.length = e → l.length < M → (∀ j t, l[j]? = some t → ztA (t0 + j) t s) → (∀ t ∈ l, t.2.1 ≤ 2) → (∀ t ∈ l, t.2.1 ≠ 0 → s.1 0 74 (t.2.1 - 1) = nI (v (t.2.1 - 1))) → lp_Z_index_10 F (nI oi) s M (lN sum) (nI t0) = some (lN (sum + ixV l (v 0) (v 1)))
  | l, t0, 0, sum, _, h, _, _, _ => absurd h (Nat.not_lt_zero _)
  | [], t0, M + 1, sum, he, _, _, _, _ => by
    rw [List.length_nil, Nat.add_zero] at he
    rw [lp_Z_index_10]
    simp (disch := omega) only [ax_let, Option.bind_some, cond_true, cond_false, if_pos, if_neg, if_true, if_false, eq_self, nI_add, nI_ltI, nI_leI, nI_eq, nI_clamp, pu_in, c_0, c_1, c_2, c_3, c_4, c_5, c_6, c_7, c_8, c_9, c_10, c_11, c_12, c_15, c_16, c_17, c_32, c_35, c_36, c_38, c_40, c_41, c_42, c_43, c_44, c_45, c_48, c_57, c_58, c_59, c_60, c_61, c_62, c_64, c_65, c_69, c_75, c_83, c_91, c_93, c_94, c_97, c_105, c_106, c_110, c_119, c_123, c_124, c_125, c_126, c_240, c_256, c_400, c_m, nI_m1, nM_i, lN_add, lN_mul, lN_i, nI_l, lN_eq, lgN_le, lgN_lt, lgN_ge, lgN_gt, nI_sub, nI_mul, d_0, d_1, c_13, c_14, c_18, c_19, c_20, c_21, c_22, c_23, c_24, c_25, c_26, c_27, c_28, c_29, c_30, c_31, c_33, c_34, c_37, c_39, c_46, c_47, c_49, c_50, c_51, c_52, c_53, c_54, c_55, c_56, c_63, c_66, c_67, c_68, c_70, c_71, c_72, c_73, c_74, c_76, c_77, c_78, c_79, c_80, c_81, c_82, c_84, c_85, c_86, c_87, c_88, c_89, c_90, c_92, c_95, c_96, c_98, c_99, c_100, c_101, c_102, c_103, c_104, c_107, c_108, c_109, c_111, c_112, c_113, c_114, c_115, c_116, c_117, c_118, c_120, c_121, c_122, c_127, c_280, d_2, d_3, d_4, d_8, d_9, d_10, d_15, d_16, d_32, d_48, d_62, d_63, d_64, h62]
    simp only [ixV, ixB, ixI, ixJ, Nat.zero_mul, Nat.add_zero]
  | t :: l, t0, M + 1, sum, he, hM, hT, h2, hr => by
    rw [List.length_cons] at he hM
    obtain ⟨z1, z2, z3⟩ := hT 0 t rfl
    rw [Nat.add_zero] at z1 z2 z3
    have ih := fun sum => zi_10 (F := F) (v := v) h62 hb hoi hv2 l (t0 + 1) M sum (by omega) (by omega) (fun j t hj => by rw [show t0 + 1 + j = t0 + (j + 1) from by omega]; exact hT (j + 1) t hj) (fun t ht => h2 t (List.mem_cons_of_mem _ ht)) (fun t ht => hr t (List.mem_cons_of_mem _ ht))
    rw [ixV_c, ← Nat.add_assoc, ← ih]
    rw [lp_Z_index_10]
    by_cases h0 : t.2.1 = 0
    · rw [if_pos h0] at z2 ⊢
      have e1 : ¬ (nI 0 ≤ nM) := by decide
      simp (disch := omega) only [ax_let, Option.bind_some, cond_true, cond_false, if_pos, if_neg, if_true, if_false, eq_self, nI_add, nI_ltI, nI_leI, nI_eq, nI_clamp, pu_in, c_0, c_1, c_2, c_3, c_4, c_5, c_6, c_7, c_8, c_9, c_10, c_11, c_12, c_15, c_16, c_17, c_32, c_35, c_36, c_38, c_40, c_41, c_42, c_43, c_44, c_45, c_48, c_57, c_58, c_59, c_60, c_61, c_62, c_64, c_65, c_69, c_75, c_83, c_91, c_93, c_94, c_97, c_105, c_106, c_110, c_119, c_123, c_124, c_125, c_126, c_240, c_256, c_400, c_m, nI_m1, nM_i, lN_add, lN_mul, lN_i, nI_l, lN_eq, lgN_le, lgN_lt, lgN_ge, lgN_gt, nI_sub, nI_mul, d_0, d_1, c_13, c_14, c_18, c_19, c_20, c_21, c_22, c_23, c_24, c_25, c_26, c_27, c_28, c_29, c_30, c_31, c_33, c_34, c_37, c_39, c_46, c_47, c_49, c_50, c_51, c_52, c_53, c_54, c_55, c_56, c_63, c_66, c_67, c_68, c_70, c_71, c_72, c_73, c_74, c_76, c_77, c_78, c_79, c_80, c_81, c_82, c_84, c_85, c_86, c_87, c_88, c_89, c_90, c_92, c_95, c_96, c_98, c_99, c_100, c_101, c_102, c_103, c_104, c_107, c_108, c_109, c_111, c_112, c_113, c_114, c_115, c_116, c_117, c_118, c_120, c_121, c_122, c_127, c_280, d_2, d_3, d_4, d_8, d_9, d_10, d_15, d_16, d_32, d_48, d_62, d_63, d_64, h62, z1, z2, e1]
    · rw [if_neg h0] at z2 ⊢
      have h3 := h2 t (List.mem_cons_self ..)
      have h4 := hr t (List.mem_cons_self ..) h0
      have h5 := hv2 (t.2.1 - 1)
      have e2 : (if t.2.1 = 1 then v 0 else v 1) = v (t.2.1 - 1) := by
        by_cases h1 : t.2.1 = 1
        · rw [if_pos h1, h1]
        · rw [if_neg h1, show t.2.1 - 1 = 1 from by omega]
      rw [e2]
      simp (disch := omega) only [ax_let, Option.bind_some, cond_true, cond_false, if_pos, if_neg, if_true, if_false, eq_self, nI_add, nI_ltI, nI_leI, nI_eq, nI_clamp, pu_in, c_0, c_1, c_2, c_3, c_4, c_5, c_6, c_7, c_8, c_9, c_10, c_11, c_12, c_15, c_16, c_17, c_32, c_35, c_36, c_38, c_40, c_41, c_42, c_43, c_44, c_45, c_48, c_57, c_58, c_59, c_60, c_61, c_62, c_64, c_65, c_69, c_75, c_83, c_91, c_93, c_94, c_97, c_105, c_106, c_110, c_119, c_123, c_124, c_125, c_126, c_240, c_256, c_400, c_m, nI_m1, nM_i, lN_add, lN_mul, lN_i, nI_l, lN_eq, lgN_le, lgN_lt, lgN_ge, lgN_gt, nI_sub, nI_mul, d_0, d_1, c_13, c_14, c_18, c_19, c_20, c_21, c_22, c_23, c_24, c_25, c_26, c_27, c_28, c_29, c_30, c_31, c_33, c_34, c_37, c_39, c_46, c_47, c_49, c_50, c_51, c_52, c_53, c_54, c_55, c_56, c_63, c_66, c_67, c_68, c_70, c_71, c_72, c_73, c_74, c_76, c_77, c_78, c_79, c_80, c_81, c_82, c_84, c_85, c_86, c_87, c_88, c_89, c_90, c_92, c_95, c_96, c_98, c_99, c_100, c_101, c_102, c_103, c_104, c_107, c_108, c_109, c_111, c_112, c_113, c_114, c_115, c_116, c_117, c_118, c_120, c_121, c_122, c_127, c_280, d_2, d_3, d_4, d_8, d_9, d_10, d_15, d_16, d_32, d_48, d_62, d_63, d_64, h62, z1, z2, h4]
theorem z_index {F oi t0 : Nat} {l : List Tm} {v : Nat → Nat} {s : ax_σ} (hF : 241 ≤ F) (h61 : s.1 0 61 oi = nI t0) (h62 : s.1 0 62 oi = nI (t0 + l.length)) (hb : t0 + l.length ≤ 240) (hoi : oi < 240) (hv2 : ∀ x, v x < 2 ^ 31) (hT : ∀ j t, l[j]? = some t → ztA (t0 + j) t s) (h2 : ∀ t ∈ l, t.2.1 ≤ 2) (hr : ∀ t ∈ l, t.2.1 ≠ 0 → s.1 0 74 (t.2.1 - 1) = nI (v (t.2.1 - 1))) : f_Z_index F (nI oi) s = some (lN (ixV l (v 0) (v 1))) := by
  have e := zi_10 (F := F) h62 hb hoi hv2 l t0 F 0 rfl (by omega) hT h2 hr
  rw [Nat.zero_add] at e
  unfold f_Z_index
  simp (disch := omega) only [ax_let, Option.bind_some, cond_true, cond_false, if_pos, if_neg, if_true, if_false, eq_self, nI_add, nI_ltI, nI_leI, nI_eq, nI_clamp, pu_in, c_0, c_1, c_2, c_3, c_4, c_5, c_6, c_7, c_8, c_9, c_10, c_11, c_12, c_15, c_16, c_17, c_32, c_35, c_36, c_38, c_40, c_41, c_42, c_43, c_44, c_45, c_48, c_57, c_58, c_59, c_60, c_61, c_62, c_64, c_65, c_69, c_75, c_83, c_91, c_93, c_94, c_97, c_105, c_106, c_110, c_119, c_123, c_124, c_125, c_126, c_240, c_256, c_400, c_m, nI_m1, nM_i, lN_add, lN_mul, lN_i, nI_l, lN_eq, lgN_le, lgN_lt, lgN_ge, lgN_gt, nI_sub, nI_mul, d_0, d_1, c_13, c_14, c_18, c_19, c_20, c_21, c_22, c_23, c_24, c_25, c_26, c_27, c_28, c_29, c_30, c_31, c_33, c_34, c_37, c_39, c_46, c_47, c_49, c_50, c_51, c_52, c_53, c_54, c_55, c_56, c_63, c_66, c_67, c_68, c_70, c_71, c_72, c_73, c_74, c_76, c_77, c_78, c_79, c_80, c_81, c_82, c_84, c_85, c_86, c_87, c_88, c_89, c_90, c_92, c_95, c_96, c_98, c_99, c_100, c_101, c_102, c_103, c_104, c_107, c_108, c_109, c_111, c_112, c_113, c_114, c_115, c_116, c_117, c_118, c_120, c_121, c_122, c_127, c_280, d_2, d_3, d_4, d_8, d_9, d_10, d_15, d_16, d_32, d_48, d_62, d_63, d_64, h61, e]
theorem knw_m {L : List Nat} : ∀ {l : List Tm}, knw L l = true → ∀ t ∈ l, t.2.1 ≠ 0 → t.2.1 - 1 ∈ L
  | t :: l, h, x, hx, h0 => by
    unfold knw at h
    rw [Bool.and_eq_true, decide_eq_true_eq] at h
    cases hx with
    | head => exact h.1.resolve_left h0
    | tail _ hx => exact knw_m h.2 x hx h0
theorem lg6_lt {a b : Nat} (ha : a < 2 ^ 62) (hb : b < 2 ^ 62) : (lg_cmp (lN a) (lN b) < nI 0) ↔ a < b := by
  rw [lN_Z, lN_Z, lgZ_lt (by omega) (by omega)]
  omega
