/-! PURE: what the reference has behind laying out -/
theorem fl_len {α : Type} {f : Nat → List α} {c : Nat} (h : ∀ q, (f q).length = c) : ∀ (d q : Nat), ((List.range' q d).flatMap f).length = d * c
  | 0, q => by rw [Nat.zero_mul]; rfl
  | d + 1, q => by rw [List.range'_succ, List.flatMap_cons, List.length_append, h, fl_len h d (q + 1), Nat.succ_mul]; omega
theorem TR_len {f : Th → Nat} {lim : Nat} {l : List Th} (h : lv lim 0 l = some 0) : (∀ t ∈ l, thk t ≠ 2 → thk t ≠ 3 → f t = 1) → ∀ kb lb L i j, (TR l kb lb L i j).length = wt f l := by
  refine dyck (P := fun _ l => (∀ t ∈ l, thk t ≠ 2 → thk t ≠ 3 → f t = 1) → ∀ kb lb L i j, (TR l kb lb L i j).length = wt f l) h (fun _ _ _ _ _ _ _ => rfl) ?_ ?_
  · intro lim t r e2 e3 hr ih hf kb lb L i j
    rw [TR_leaf e2 e3 hr, wt_leaf e2 e3 hr, List.length_cons, ih (fun t ht => hf t (List.mem_cons_of_mem _ ht)), hf t (List.mem_cons_self ..) e2 e3, Nat.add_comm]
  · intro lim o b c r e2 e3 hm hr i1 i2 hf kb lb L i j
    rw [TR_loop e2 e3 hm hr, wt_loop e2 e3 hm hr, List.length_append, i2 (fun t ht => hf t (List.mem_cons_of_mem _ (List.mem_append_right _ (List.mem_cons_of_mem _ ht))))]
    unfold TQ
    rw [fl_len (fun q => i1 (fun t ht => hf t (List.mem_cons_of_mem _ (List.mem_append_left _ ht))) _ _ _ _ _)]
theorem RcM.keep {wr : Bool} {R : List R3} {s s' : ax_σ} {Q : Nat → Nat → Nat → Prop} (h : RcM wr R s) (hf : frm Q s s') (hq : ∀ r k, (r = 38 ∧ k = cRc wr) ∨ (aRc wr ≤ r ∧ r ≤ aRc wr + 2) → ¬ Q 0 r k) : RcM wr R s' := by
  refine ⟨(hf.1 _ _ _ (hq _ _ (Or.inl ⟨rfl, rfl⟩))).trans h.1, fun p x hp hp2 => ?_⟩
  obtain ⟨a, b, c⟩ := h.2 p x hp hp2
  exact ⟨(hf.1 _ _ _ (hq _ _ (Or.inr (by omega)))).trans a, (hf.1 _ _ _ (hq _ _ (Or.inr (by omega)))).trans b, (hf.1 _ _ _ (hq _ _ (Or.inr (by omega)))).trans c⟩
/-- all that it changes -/
def XA (g r k : Nat) : Prop := g = 0 ∧ ((68 ≤ r ∧ r ≤ 74) ∨ (76 ≤ r ∧ r ≤ 78) ∨ (r = 38 ∧ (k = 53 ∨ k = 54 ∨ k = 55 ∨ k = 59 ∨ k = 63 ∨ k = 64)))
theorem XA.ofY {wr : Bool} {s s' : ax_σ} (h : frm (XY wr) s s') : frm XA s s' := h.imp (fun g r k h => by
  unfold XY cRc aRc at h
  unfold XA
  cases wr <;> simp at h <;> omega)
theorem XA.q {r k : Nat} (h : XX r k) : ¬ XA 0 r k := by
  unfold XA
  unfold XX at h
  omega
/-- it is too large -/
def big (D : Ds) : Prop := 32 < wt skW (dW D) ∨ 400 < wt icW (dW D) + wt icW (dSt D) ∨ 8 < max (mx (dW D)) (mx (dSt D)) + D.2.1.1
/-- what it has laid out -/
def ZLy (D : Ds) (s : ax_σ) : Prop := ∃ RW RS : List R3, RcM true RW s ∧ RcM false RS s ∧ relT RW (TR (dW D) 0 0 [] 0 0) ∧ relT RS (TR (dSt D) (dW D).length (nl (dW D)) [] 0 0) ∧ s.1 0 38 63 = nI (wt icW (dW D) + wt icW (dSt D)) ∧ s.1 0 38 64 = nI (max (mx (dW D)) (mx (dSt D)) + D.2.1.1)
theorem wt_leC {f : Th → Nat} {c lim : Nat} {l : List Th} (h : lv lim 0 l = some 0) : (∀ t ∈ l, thk t ≠ 2 → thk t ≠ 3 → f t ≤ c) → wt f l ≤ c * (l.length * 16 ^ lim) := by
  refine dyck (P := fun lim l => (∀ t ∈ l, thk t ≠ 2 → thk t ≠ 3 → f t ≤ c) → wt f l ≤ c * (l.length * 16 ^ lim)) h (fun _ _ => Nat.zero_le _) ?_ ?_
  · intro lim t r e2 e3 hr ih hf
    have h1 := ih (fun t ht => hf t (List.mem_cons_of_mem _ ht))
    have h2 := hf t (List.mem_cons_self ..) e2 e3
    rw [wt_leaf e2 e3 hr, List.length_cons, Nat.succ_mul, Nat.mul_add]
    have h3 : c * 1 ≤ c * 16 ^ lim := Nat.mul_le_mul_left _ (Nat.pow_pos (by decide))
    omega
  · intro lim o b d r e2 e3 hm hr i1 i2 hf
    have h1 := i1 (fun t ht => hf t (List.mem_cons_of_mem _ (List.mem_append_left _ ht)))
    have h2 := i2 (fun t ht => hf t (List.mem_cons_of_mem _ (List.mem_append_right _ (List.mem_cons_of_mem _ ht))))
    rw [wt_loop e2 e3 hm hr, List.length_cons, List.length_append, List.length_cons]
    have e : tn o * wt f b ≤ 16 * (c * (b.length * 16 ^ lim)) := Nat.mul_le_mul (Nat.min_le_right _ _) h1
    have e5 : 16 * (c * (b.length * 16 ^ lim)) = c * (b.length * 16 ^ (lim + 1)) := by
      rw [Nat.pow_succ, ← Nat.mul_assoc b.length, Nat.mul_comm _ 16, Nat.mul_left_comm]
    have e6 : c * ((b.length + (r.length + 1) + 1) * 16 ^ (lim + 1)) = c * (b.length * 16 ^ (lim + 1)) + c * (r.length * 16 ^ (lim + 1)) + c * (2 * 16 ^ (lim + 1)) := by
      rw [show b.length + (r.length + 1) + 1 = b.length + r.length + 2 from by omega, Nat.add_mul, Nat.add_mul, Nat.mul_add, Nat.mul_add]
    omega
theorem z_layOut {F n : Nat} {D : Ds} {s : ax_σ} (hF : 100000 ≤ F) (hO : ThO n D) (hst : D.2.1.1 ≤ 4) (hs1 : ∀ t ∈ dSt D, thk t ≠ 1) (hw1 : ∀ t ∈ dW D, thk t ≠ 2 → thk t ≠ 3 → thk t = 1) (hGw : GL (dW D) []) (hGs : GL (dSt D) []) (hZ : ZX D s) (h53 : s.1 0 38 53 = nI 0) : ∃ s', f_Z_layOut F s = some s' ∧ ZX D s' ∧ ZLy D s' ∧ (big D → s'.1 0 38 53 = nI 6) ∧ (¬ big D → s'.1 0 38 53 = nI 0) ∧ frm XA s s' ∧ (wt skW (dW D) < 2 ^ 30 ∧ wt icW (dW D) + wt icW (dSt D) < 2 ^ 30 ∧ max (mx (dW D)) (mx (dSt D)) ≤ 240) := by
  obtain ⟨h0, hn, hB, hT, l1, l2, htb, hok⟩ := id hO
  have hlen := hB.1
  have hdl : (dH D).length = (dW D).length + (dSt D).length := List.length_append
  have hbb : (dW D).length * 16 ^ 2 ≤ 240 * 16 ^ 2 := Nat.mul_le_mul_right _ (by omega)
  have hbc : (dSt D).length * 16 ^ 2 ≤ 240 * 16 ^ 2 := Nat.mul_le_mul_right _ (by omega)
  have hic : ∀ t ∈ dH D, thk t ≠ 2 → thk t ≠ 3 → icW t ≤ 241 := by
    intro t ht e2 e3
    obtain ⟨k, hk⟩ := List.getElem?_of_mem ht
    have f1 : frm (fun g r k => g = 0 ∧ r = 38 ∧ k = 64) s (ax_wI s 0 38 64 (nI 0)) := frm.refl.wI _ _ _ _ ⟨rfl, rfl, rfl⟩
    obtain ⟨s', -, -, -, -, a⟩ := z_cost (F := F) (by omega) hO hk e2 e3 (hZ.keep f1 (fun r k h => by unfold XX at h; omega)) (rg := 0) (by simp (disch := omega) only [wI_1, wI_2, wL_1, wL_2, true_and, and_true, and_self, false_and, and_false, if_true, if_false, if_pos, if_neg]) (by omega)
    exact a
  have hiw := wt_leC (f := icW) (c := 241) l1 (fun t ht => hic t (List.mem_append_left _ ht))
  have his := wt_leC (f := icW) (c := 241) l2 (fun t ht => hic t (List.mem_append_right _ ht))
  have hskb := wt_le (f := skW) (fun t => by unfold skW; split <;> omega) l1
  have hm1 : 241 * ((dW D).length * 16 ^ 2) ≤ 241 * (240 * 16 ^ 2) := Nat.mul_le_mul_left _ hbb
  have hm2 : 241 * ((dSt D).length * 16 ^ 2) ≤ 241 * (240 * 16 ^ 2) := Nat.mul_le_mul_left _ hbc
  have f0 : frm XA s (ax_wI (ax_wI (ax_wI (ax_wI (ax_wI (ax_wI s 0 38 55 (nI 0)) 0 38 59 (nI 0)) 0 38 63 (nI 0)) 0 38 64 (nI 0)) 0 74 0 (nI 0)) 0 74 1 (nI 0)) := by
    refine (((((frm.refl.wI _ _ _ _ ?_).wI _ _ _ _ ?_).wI _ _ _ _ ?_).wI _ _ _ _ ?_).wI _ _ _ _ ?_).wI _ _ _ _ ?_ <;> unfold XA <;> omega
  generalize hs0 : (ax_wI (ax_wI (ax_wI (ax_wI (ax_wI (ax_wI s 0 38 55 (nI 0)) 0 38 59 (nI 0)) 0 38 63 (nI 0)) 0 38 64 (nI 0)) 0 74 0 (nI 0)) 0 74 1 (nI 0)) = s0 at f0
  have c55 : s0.1 0 38 55 = nI 0 := by rw [← hs0]; simp (disch := omega) only [wI_1, wI_2, wL_1, wL_2, true_and, and_true, and_self, false_and, and_false, if_true, if_false, if_pos, if_neg]
  have c59 : s0.1 0 38 59 = nI 0 := by rw [← hs0]; simp (disch := omega) only [wI_1, wI_2, wL_1, wL_2, true_and, and_true, and_self, false_and, and_false, if_true, if_false, if_pos, if_neg]
  have c63 : s0.1 0 38 63 = nI 0 := by rw [← hs0]; simp (disch := omega) only [wI_1, wI_2, wL_1, wL_2, true_and, and_true, and_self, false_and, and_false, if_true, if_false, if_pos, if_neg]
  have c64 : s0.1 0 38 64 = nI 0 := by rw [← hs0]; simp (disch := omega) only [wI_1, wI_2, wL_1, wL_2, true_and, and_true, and_self, false_and, and_false, if_true, if_false, if_pos, if_neg]
  have c740 : s0.1 0 74 0 = nI 0 := by rw [← hs0]; simp (disch := omega) only [wI_1, wI_2, wL_1, wL_2, true_and, and_true, and_self, false_and, and_false, if_true, if_false, if_pos, if_neg]
  have c741 : s0.1 0 74 1 = nI 0 := by rw [← hs0]; simp (disch := omega) only [wI_1, wI_2, wL_1, wL_2, true_and, and_true, and_self, false_and, and_false, if_true, if_false, if_pos, if_neg]
  have c53 : s0.1 0 38 53 = nI 0 := by rw [← hs0]; simp (disch := omega) only [wI_1, wI_2, wL_1, wL_2, true_and, and_true, and_self, false_and, and_false, if_true, if_false, if_pos, if_neg]; exact h53
  have hZ0 := hZ.keep f0 (fun r k h => XA.q h)
  have hKd0 := hZ0.kd hB (fun t ht => ⟨(hT t ht).1, fun e => ((hT t ht).2 e).1⟩)
  have hY0 : ZY D true [] 0 0 0 0 s0 := ⟨hZ0, hKd0, ⟨c55, fun p x hp => by cases hp⟩, c63, ⟨c64, by omega⟩, c740, c741, ⟨by omega, by omega⟩⟩
  obtain ⟨N1, s1, R1, a1, b1, n1, n2, n3, n4, n5, n6, n7, n8⟩ := zl_all (F := F) (wr := true) (by omega) hO l1 [] (dSt D) [] 0 0 0 0 0 [] 0 0 s0 rfl (fun h => by cases h) (fun h => by cases h) hGw (fun _ => by rw [List.length_nil]; omega) (fun h => by cases h) (by rw [List.length_nil]; omega) hY0
  rw [List.nil_append, Nat.zero_add, Nat.zero_max] at n3
  obtain ⟨z1, z2, z3, z4, z5, z6, z7, z8⟩ := n3
  have hY1 : ZY D false [] (wt icW (dW D)) (mx (dW D)) a1 b1 s1 := ⟨z1, z2, ⟨(n8.1 _ _ _ (by show ¬ XY true 0 38 59; unfold XY cRc aRc; simp)).trans c59, fun p x hp => by cases hp⟩, z4, z5, z6, z7, z8⟩
  obtain ⟨N2, s2, R2, a2, b2, m1, m2, m3, m4, m5, m6, m7, m8⟩ := zl_all (F := F) (wr := false) (by omega) hO l2 (dW D) [] [] 0 0 a1 b1 (nl (dW D)) [] (wt icW (dW D)) (mx (dW D)) s1 (by rw [List.append_nil]; rfl) (fun h => by cases h) (fun h => by cases h) hGs (fun h => by cases h) (fun _ => Nat.le_refl _) (by rw [List.length_nil]; omega) hY1
  rw [List.nil_append] at m3
  obtain ⟨y1, y2, y3, y4, ⟨y5, y5'⟩, y6, y7, y8⟩ := m3
  have z3' : RcM true R1 s2 := z3.keep m8 (fun r k h => by
    unfold cRc aRc at h
    unfold XY cRc aRc
    simp at h ⊢
    omega)
  have hw17 : (dW D).length * 17 ^ 2 ≤ 240 * 17 ^ 2 := Nat.mul_le_mul_right _ (by omega)
  have hs17 : (dSt D).length * 17 ^ 2 + (dW D).length * 17 ^ 2 ≤ 240 * 17 ^ 2 := by rw [← Nat.add_mul]; exact Nat.mul_le_mul_right _ (by omega)
  have hrun : lp_Z_layOut_38 F F (nI 0) s0 = some s2 := by
    have n2' := n2 (F - N1 - N2 - 1 + 1 + N2)
    have m2' := m2 (F - N1 - N2 - 1 + 1)
    rw [List.length_nil, Nat.zero_add, show F - N1 - N2 - 1 + 1 + N2 + N1 = F from by omega] at n2'
    rw [n2', m2', lp_Z_layOut_38]
    have h22 : s2.1 0 38 22 = nI ((dW D).length + (dSt D).length) := by rw [← hdl]; exact y1.2.2.2.2.2
    rw [h22, if_pos (Int32.le_refl _)]
  have g1 : s2.2 0 41 1 = lN D.2.1.1 := (y1.1.1.2 1 _ rfl).1
  have fall : frm XA s s2 := (f0.trans (XA.ofY n8)).trans (XA.ofY m8)
  have k53 : s2.1 0 38 53 = nI 0 := by
    rw [m8.1 _ _ _ (by unfold XY cRc aRc; simp), n8.1 _ _ _ (by unfold XY cRc aRc; simp)]
    exact c53
  have hl1 : R1.length = wt skW (dW D) := by
    rw [n6.1, TR_len (f := skW) l1 (fun t ht a b => by unfold skW; rw [if_pos (hw1 t ht a b)])]
  have k55 : s2.1 0 38 55 = nI (wt skW (dW D)) := by rw [← hl1]; exact z3'.1
  have i0 : ax_in (0 : Int32) 2 = true := by decide
  have i1 : ax_in (1 : Int32) 2 = true := by decide
  have i3 : ax_in (1 : Int32) 3 = true := by decide
  have hmx : max (mx (dW D)) (mx (dSt D)) ≤ 240 := y5'
  have hpre : ∀ (c : Int32) (s5 : ax_σ), (Option.bind (if (32 : Int32) < (ax_wI s2 0 38 64 (nI (max (mx (dW D)) (mx (dSt D)) + D.2.1.1))).1 0 38 55 then some true else if (400 : Int32) < (ax_wI s2 0 38 64 (nI (max (mx (dW D)) (mx (dSt D)) + D.2.1.1))).1 0 38 63 then some true else if (ax_wI s2 0 38 64 (nI (max (mx (dW D)) (mx (dSt D)) + D.2.1.1))).1 0 38 64 ≤ (8 : Int32) then some false else some true) (fun w39 => bif w39 then some (1 : Int32) else some (0 : Int32))) = some c → f_Z_consider c (6 : Int32) (-1 : Int32) (ax_wI s2 0 38 64 (nI (max (mx (dW D)) (mx (dSt D)) + D.2.1.1))) = some s5 → f_Z_layOut F s = some s5 := by
    intro c s5 e1 e2
    have hs0' : (ax_wI (ax_wI (ax_wI (ax_wI (ax_wI (ax_wI s 0 38 55 (0 : Int32)) 0 38 59 (0 : Int32)) 0 38 63 (0 : Int32)) 0 38 64 (0 : Int32)) 0 74 ((0 : Int32)).toNatClampNeg (0 : Int32)) 0 74 ((1 : Int32)).toNatClampNeg (0 : Int32)) = s0 := hs0
    have hrun' : lp_Z_layOut_38 F F (0 : Int32) s0 = some s2 := hrun
    have g1' : s2.2 0 41 ((1 : Int32)).toNatClampNeg = lN D.2.1.1 := g1
    unfold f_Z_layOut
    simp only [ax_let]
    rw [i0, cond_true, i1, cond_true, hs0', hrun', Option.bind_some, i3, cond_true, y5, g1', lN_i, nI_add, e1, Option.bind_some, e2]
    rfl
  by_cases hb : big D
  · refine ⟨ax_wI (ax_wI (ax_wI s2 0 38 64 (nI (max (mx (dW D)) (mx (dSt D)) + D.2.1.1))) 0 38 53 (nI 6)) 0 38 54 nM, hpre (nI 1) _ ?_ ?_, ?_, ⟨R1, R2, ?_, ?_, n6, m6, ?_, ?_⟩, fun _ => by simp (disch := omega) only [wI_1, wI_2, wL_1, wL_2, true_and, and_true, and_self, false_and, and_false, if_true, if_false, if_pos, if_neg], fun h => absurd hb h, ?_, by omega, by omega, hmx⟩
    · unfold big at hb
      by_cases q1 : 32 < wt skW (dW D)
      · simp (disch := omega) only [ax_let, Option.bind_some, cond_true, cond_false, if_pos, if_neg, if_true, if_false, eq_self, nI_add, nI_ltI, nI_leI, nI_eq, nI_clamp, pu_in, c_0, c_1, c_2, c_3, c_4, c_5, c_6, c_7, c_8, c_9, c_10, c_11, c_12, c_15, c_16, c_17, c_32, c_35, c_36, c_38, c_40, c_41, c_42, c_43, c_44, c_45, c_48, c_57, c_58, c_59, c_60, c_61, c_62, c_64, c_65, c_69, c_75, c_83, c_91, c_93, c_94, c_97, c_105, c_106, c_110, c_119, c_123, c_124, c_125, c_126, c_240, c_256, c_400, c_m, nI_m1, nM_i, lN_add, lN_mul, lN_i, nI_l, lN_eq, lgN_le, lgN_lt, lgN_ge, lgN_gt, nI_sub, nI_mul, d_0, d_1, c_13, c_14, c_18, c_19, c_20, c_21, c_22, c_23, c_24, c_25, c_26, c_27, c_28, c_29, c_30, c_31, c_33, c_34, c_37, c_39, c_46, c_47, c_49, c_50, c_51, c_52, c_53, c_54, c_55, c_56, c_63, c_66, c_67, c_68, c_70, c_71, c_72, c_73, c_74, c_76, c_77, c_78, c_79, c_80, c_81, c_82, c_84, c_85, c_86, c_87, c_88, c_89, c_90, c_92, c_95, c_96, c_98, c_99, c_100, c_101, c_102, c_103, c_104, c_107, c_108, c_109, c_111, c_112, c_113, c_114, c_115, c_116, c_117, c_118, c_120, c_121, c_122, c_127, c_280, d_2, d_3, d_4, d_8, d_9, d_10, d_15, d_16, d_32, d_48, d_62, d_63, d_64, wI_1, wI_2, wL_1, wL_2, true_and, and_true, and_self, false_and, and_false, if_true, if_false, k55]
      · by_cases q2 : 400 < wt icW (dW D) + wt icW (dSt D)
        · simp (disch := omega) only [ax_let, Option.bind_some, cond_true, cond_false, if_pos, if_neg, if_true, if_false, eq_self, nI_add, nI_ltI, nI_leI, nI_eq, nI_clamp, pu_in, c_0, c_1, c_2, c_3, c_4, c_5, c_6, c_7, c_8, c_9, c_10, c_11, c_12, c_15, c_16, c_17, c_32, c_35, c_36, c_38, c_40, c_41, c_42, c_43, c_44, c_45, c_48, c_57, c_58, c_59, c_60, c_61, c_62, c_64, c_65, c_69, c_75, c_83, c_91, c_93, c_94, c_97, c_105, c_106, c_110, c_119, c_123, c_124, c_125, c_126, c_240, c_256, c_400, c_m, nI_m1, nM_i, lN_add, lN_mul, lN_i, nI_l, lN_eq, lgN_le, lgN_lt, lgN_ge, lgN_gt, nI_sub, nI_mul, d_0, d_1, c_13, c_14, c_18, c_19, c_20, c_21, c_22, c_23, c_24, c_25, c_26, c_27, c_28, c_29, c_30, c_31, c_33, c_34, c_37, c_39, c_46, c_47, c_49, c_50, c_51, c_52, c_53, c_54, c_55, c_56, c_63, c_66, c_67, c_68, c_70, c_71, c_72, c_73, c_74, c_76, c_77, c_78, c_79, c_80, c_81, c_82, c_84, c_85, c_86, c_87, c_88, c_89, c_90, c_92, c_95, c_96, c_98, c_99, c_100, c_101, c_102, c_103, c_104, c_107, c_108, c_109, c_111, c_112, c_113, c_114, c_115, c_116, c_117, c_118, c_120, c_121, c_122, c_127, c_280, d_2, d_3, d_4, d_8, d_9, d_10, d_15, d_16, d_32, d_48, d_62, d_63, d_64, wI_1, wI_2, wL_1, wL_2, true_and, and_true, and_self, false_and, and_false, if_true, if_false, k55, y4]
        · have q3 : 8 < max (mx (dW D)) (mx (dSt D)) + D.2.1.1 := by omega
          clear hb
          simp (disch := omega) only [ax_let, Option.bind_some, cond_true, cond_false, if_pos, if_neg, if_true, if_false, eq_self, nI_add, nI_ltI, nI_leI, nI_eq, nI_clamp, pu_in, c_0, c_1, c_2, c_3, c_4, c_5, c_6, c_7, c_8, c_9, c_10, c_11, c_12, c_15, c_16, c_17, c_32, c_35, c_36, c_38, c_40, c_41, c_42, c_43, c_44, c_45, c_48, c_57, c_58, c_59, c_60, c_61, c_62, c_64, c_65, c_69, c_75, c_83, c_91, c_93, c_94, c_97, c_105, c_106, c_110, c_119, c_123, c_124, c_125, c_126, c_240, c_256, c_400, c_m, nI_m1, nM_i, lN_add, lN_mul, lN_i, nI_l, lN_eq, lgN_le, lgN_lt, lgN_ge, lgN_gt, nI_sub, nI_mul, d_0, d_1, c_13, c_14, c_18, c_19, c_20, c_21, c_22, c_23, c_24, c_25, c_26, c_27, c_28, c_29, c_30, c_31, c_33, c_34, c_37, c_39, c_46, c_47, c_49, c_50, c_51, c_52, c_53, c_54, c_55, c_56, c_63, c_66, c_67, c_68, c_70, c_71, c_72, c_73, c_74, c_76, c_77, c_78, c_79, c_80, c_81, c_82, c_84, c_85, c_86, c_87, c_88, c_89, c_90, c_92, c_95, c_96, c_98, c_99, c_100, c_101, c_102, c_103, c_104, c_107, c_108, c_109, c_111, c_112, c_113, c_114, c_115, c_116, c_117, c_118, c_120, c_121, c_122, c_127, c_280, d_2, d_3, d_4, d_8, d_9, d_10, d_15, d_16, d_32, d_48, d_62, d_63, d_64, wI_1, wI_2, wL_1, wL_2, true_and, and_true, and_self, false_and, and_false, if_true, if_false, k55, y4]
    · unfold f_Z_consider
      simp (disch := omega) only [ax_let, Option.bind_some, cond_true, cond_false, if_pos, if_neg, if_true, if_false, eq_self, nI_add, nI_ltI, nI_leI, nI_eq, nI_clamp, pu_in, c_0, c_1, c_2, c_3, c_4, c_5, c_6, c_7, c_8, c_9, c_10, c_11, c_12, c_15, c_16, c_17, c_32, c_35, c_36, c_38, c_40, c_41, c_42, c_43, c_44, c_45, c_48, c_57, c_58, c_59, c_60, c_61, c_62, c_64, c_65, c_69, c_75, c_83, c_91, c_93, c_94, c_97, c_105, c_106, c_110, c_119, c_123, c_124, c_125, c_126, c_240, c_256, c_400, c_m, nI_m1, nM_i, lN_add, lN_mul, lN_i, nI_l, lN_eq, lgN_le, lgN_lt, lgN_ge, lgN_gt, nI_sub, nI_mul, d_0, d_1, c_13, c_14, c_18, c_19, c_20, c_21, c_22, c_23, c_24, c_25, c_26, c_27, c_28, c_29, c_30, c_31, c_33, c_34, c_37, c_39, c_46, c_47, c_49, c_50, c_51, c_52, c_53, c_54, c_55, c_56, c_63, c_66, c_67, c_68, c_70, c_71, c_72, c_73, c_74, c_76, c_77, c_78, c_79, c_80, c_81, c_82, c_84, c_85, c_86, c_87, c_88, c_89, c_90, c_92, c_95, c_96, c_98, c_99, c_100, c_101, c_102, c_103, c_104, c_107, c_108, c_109, c_111, c_112, c_113, c_114, c_115, c_116, c_117, c_118, c_120, c_121, c_122, c_127, c_280, d_2, d_3, d_4, d_8, d_9, d_10, d_15, d_16, d_32, d_48, d_62, d_63, d_64, wI_1, wI_2, wL_1, wL_2, true_and, and_true, and_self, false_and, and_false, if_true, if_false, k53]
    · exact hZ.keep (((fall.wI _ _ _ _ (by unfold XA; omega)).wI _ _ _ _ (by unfold XA; omega)).wI _ _ _ _ (by unfold XA; omega)) (fun r k h => XA.q h)
    · exact z3'.keep (((frm.refl (P := fun g r k => g = 0 ∧ r = 38 ∧ (k = 64 ∨ k = 53 ∨ k = 54))).wI _ _ _ _ (by omega)).wI _ _ _ _ (by omega) |>.wI _ _ _ _ (by omega)) (fun r k h => by unfold cRc aRc at h; simp at h; omega)
    · exact y3.keep (((frm.refl (P := fun g r k => g = 0 ∧ r = 38 ∧ (k = 64 ∨ k = 53 ∨ k = 54))).wI _ _ _ _ (by omega)).wI _ _ _ _ (by omega) |>.wI _ _ _ _ (by omega)) (fun r k h => by unfold cRc aRc at h; simp at h; omega)
    · simp (disch := omega) only [wI_1, wI_2, wL_1, wL_2, true_and, and_true, and_self, false_and, and_false, if_true, if_false, if_pos, if_neg]; exact y4
    · simp (disch := omega) only [wI_1, wI_2, wL_1, wL_2, true_and, and_true, and_self, false_and, and_false, if_true, if_false, if_pos, if_neg]
    · exact ((fall.wI _ _ _ _ (by unfold XA; omega)).wI _ _ _ _ (by unfold XA; omega)).wI _ _ _ _ (by unfold XA; omega)
  · refine ⟨ax_wI s2 0 38 64 (nI (max (mx (dW D)) (mx (dSt D)) + D.2.1.1)), hpre (nI 0) _ ?_ rfl, ?_, ⟨R1, R2, ?_, ?_, n6, m6, ?_, ?_⟩, fun h => absurd h hb, fun _ => by simp (disch := omega) only [wI_1, wI_2, wL_1, wL_2, true_and, and_true, and_self, false_and, and_false, if_true, if_false, if_pos, if_neg]; exact k53, ?_, by omega, by omega, hmx⟩
    · have hb' : ¬ 32 < wt skW (dW D) ∧ ¬ 400 < wt icW (dW D) + wt icW (dSt D) ∧ ¬ 8 < max (mx (dW D)) (mx (dSt D)) + D.2.1.1 := by unfold big at hb; omega
      obtain ⟨q1, q2, q3⟩ := hb'
      clear hb
      simp (disch := omega) only [ax_let, Option.bind_some, cond_true, cond_false, if_pos, if_neg, if_true, if_false, eq_self, nI_add, nI_ltI, nI_leI, nI_eq, nI_clamp, pu_in, c_0, c_1, c_2, c_3, c_4, c_5, c_6, c_7, c_8, c_9, c_10, c_11, c_12, c_15, c_16, c_17, c_32, c_35, c_36, c_38, c_40, c_41, c_42, c_43, c_44, c_45, c_48, c_57, c_58, c_59, c_60, c_61, c_62, c_64, c_65, c_69, c_75, c_83, c_91, c_93, c_94, c_97, c_105, c_106, c_110, c_119, c_123, c_124, c_125, c_126, c_240, c_256, c_400, c_m, nI_m1, nM_i, lN_add, lN_mul, lN_i, nI_l, lN_eq, lgN_le, lgN_lt, lgN_ge, lgN_gt, nI_sub, nI_mul, d_0, d_1, c_13, c_14, c_18, c_19, c_20, c_21, c_22, c_23, c_24, c_25, c_26, c_27, c_28, c_29, c_30, c_31, c_33, c_34, c_37, c_39, c_46, c_47, c_49, c_50, c_51, c_52, c_53, c_54, c_55, c_56, c_63, c_66, c_67, c_68, c_70, c_71, c_72, c_73, c_74, c_76, c_77, c_78, c_79, c_80, c_81, c_82, c_84, c_85, c_86, c_87, c_88, c_89, c_90, c_92, c_95, c_96, c_98, c_99, c_100, c_101, c_102, c_103, c_104, c_107, c_108, c_109, c_111, c_112, c_113, c_114, c_115, c_116, c_117, c_118, c_120, c_121, c_122, c_127, c_280, d_2, d_3, d_4, d_8, d_9, d_10, d_15, d_16, d_32, d_48, d_62, d_63, d_64, wI_1, wI_2, wL_1, wL_2, true_and, and_true, and_self, false_and, and_false, if_true, if_false, k55, y4]
    · exact hZ.keep (fall.wI _ _ _ _ (by unfold XA; omega)) (fun r k h => XA.q h)
    · exact z3'.keep ((frm.refl (P := fun g r k => g = 0 ∧ r = 38 ∧ (k = 64 ∨ k = 53 ∨ k = 54))).wI _ _ _ _ (by omega)) (fun r k h => by unfold cRc aRc at h; simp at h; omega)
    · exact y3.keep ((frm.refl (P := fun g r k => g = 0 ∧ r = 38 ∧ (k = 64 ∨ k = 53 ∨ k = 54))).wI _ _ _ _ (by omega)) (fun r k h => by unfold cRc aRc at h; simp at h; omega)
    · simp (disch := omega) only [wI_1, wI_2, wL_1, wL_2, true_and, and_true, and_self, false_and, and_false, if_true, if_false, if_pos, if_neg]; exact y4
    · simp (disch := omega) only [wI_1, wI_2, wL_1, wL_2, true_and, and_true, and_self, false_and, and_false, if_true, if_false, if_pos, if_neg]
    · exact fall.wI _ _ _ _ (by unfold XA; omega)
