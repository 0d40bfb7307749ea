/-! PURE: the reference lays out what is done, thing by thing -/
theorem okTh_e {wr : Bool} {w : List Nat} {t : Th} (h : okTh wr w t) (e : thk t = 1 ∨ (4 ≤ thk t ∧ thk t ≤ 6)) : okE w (the t) := by
  obtain ⟨-, h⟩ := h
  rcases h with ⟨a, -⟩ | ⟨a, -⟩ | ⟨-, -, c, -⟩ | ⟨-, -, c⟩
  · omega
  · omega
  · exact c
  · rcases c with ⟨-, -, x, -⟩ | ⟨x, -⟩ | ⟨x, -⟩ | ⟨x, -⟩
    · exact x
    · simp only [wkOf] at x; omega
    · simp only [wkOf] at x; omega
    · simp only [wkOf] at x; omega
section
variable {F n : Nat} {D : Ds} {s : ax_σ} {wr : Bool}
theorem z_cost {k rg : Nat} {t : Th} (hF : 300 ≤ F) (hO : ThO n D) (hk : (dH D)[k]? = some t) (e2 : thk t ≠ 2) (e3 : thk t ≠ 3) (hZ : ZX D s) (hr : s.1 0 38 64 = nI rg) (hr2 : rg ≤ 240) : ∃ s', f_Z_costOf F (nI k) s = some (nI (icW t), s') ∧ s'.1 0 38 64 = nI (max rg (ndT t)) ∧ frm X7r s s' ∧ max rg (ndT t) ≤ 240 ∧ icW t ≤ 241 := by
  obtain ⟨h0, hn, hB, hT, h5, h6, htb, hok⟩ := hO
  obtain ⟨w, hw, hwn⟩ := hok _ _ hk
  have hkl := get_lt hk
  have hlen := hB.1
  obtain ⟨z1, -⟩ := hZ.2.2.1 _ _ hk
  have hk13 := (hT t (List.mem_of_getElem? hk)).1
  have hkk : thk t = 1 ∨ (4 ≤ thk t ∧ thk t ≤ 12) := by
    obtain ⟨-, hw⟩ := hw
    rcases hw with ⟨a, -⟩ | ⟨a, -⟩ | ⟨-, a, -⟩ | ⟨-, -, a⟩
    · exact absurd a e2
    · exact absurd a e3
    · exact Or.inl a
    · rcases a with ⟨x, -⟩ | ⟨x, -⟩ | ⟨x, -⟩ | ⟨x, -⟩ <;> simp only [wkOf] at x <;> omega
  by_cases hex : thk t = 1 ∨ (4 ≤ thk t ∧ thk t ≤ 6)
  · obtain ⟨s1, a1, a2, a3, a4, a5⟩ := z_gauge (F := F) hF hB hk (by omega) (okTh_e hw hex) hZ hr (by omega)
    have hic : icW t = 1 + (aOf (the t)).2.1 := by
      unfold icW insK
      by_cases h1 : thk t = 1
      · rw [if_pos h1, Nat.add_comm]
      · rw [if_neg h1, if_pos (show (wkOf t).1 ≤ 6 from by show thk t ≤ 6; omega), Nat.add_comm]
        rfl
    have hnd : ndT t = (aOf (the t)).2.2 := by unfold ndT; rw [if_pos hex]
    rw [hic, hnd]
    refine ⟨s1, ?_, a2, a3, by omega, by omega⟩
    have h7 : thk t < 7 := by omega
    clear hex hkk
    unfold f_Z_costOf
    simp (disch := omega) only [ax_let, Option.bind_some, cond_true, cond_false, if_pos, if_neg, if_true, if_false, eq_self, nI_add, nI_ltI, nI_leI, nI_eq, nI_clamp, pu_in, c_0, c_1, c_2, c_3, c_4, c_5, c_6, c_7, c_8, c_9, c_10, c_11, c_12, c_15, c_16, c_17, c_32, c_35, c_36, c_38, c_40, c_41, c_42, c_43, c_44, c_45, c_48, c_57, c_58, c_59, c_60, c_61, c_62, c_64, c_65, c_69, c_75, c_83, c_91, c_93, c_94, c_97, c_105, c_106, c_110, c_119, c_123, c_124, c_125, c_126, c_240, c_256, c_400, c_m, nI_m1, nM_i, lN_add, lN_mul, lN_i, nI_l, lN_eq, lgN_le, lgN_lt, lgN_ge, lgN_gt, nI_sub, nI_mul, d_0, d_1, c_13, c_14, c_18, c_19, c_20, c_21, c_22, c_23, c_24, c_25, c_26, c_27, c_28, c_29, c_30, c_31, c_33, c_34, c_37, c_39, c_46, c_47, c_49, c_50, c_51, c_52, c_53, c_54, c_55, c_56, c_63, c_66, c_67, c_68, c_70, c_71, c_72, c_73, c_74, c_76, c_77, c_78, c_79, c_80, c_81, c_82, c_84, c_85, c_86, c_87, c_88, c_89, c_90, c_92, c_95, c_96, c_98, c_99, c_100, c_101, c_102, c_103, c_104, c_107, c_108, c_109, c_111, c_112, c_113, c_114, c_115, c_116, c_117, c_118, c_120, c_121, c_122, c_127, c_280, d_2, d_3, d_4, d_8, d_9, d_10, d_15, d_16, d_32, d_48, d_62, d_63, d_64, z1, a1]
  · have h7 : 7 ≤ thk t := by omega
    have hic : icW t = 1 := by
      unfold icW insK
      rw [if_neg (by omega), if_neg (show ¬ (wkOf t).1 ≤ 6 from by show ¬ thk t ≤ 6; omega)]
    have hnd : ndT t = 0 := by unfold ndT; rw [if_neg hex]
    rw [hic, hnd, Nat.max_zero]
    refine ⟨s, ?_, hr, frm.refl, hr2, by omega⟩
    clear hex hkk
    unfold f_Z_costOf
    simp (disch := omega) only [ax_let, Option.bind_some, cond_true, cond_false, if_pos, if_neg, if_true, if_false, eq_self, nI_add, nI_ltI, nI_leI, nI_eq, nI_clamp, pu_in, c_0, c_1, c_2, c_3, c_4, c_5, c_6, c_7, c_8, c_9, c_10, c_11, c_12, c_15, c_16, c_17, c_32, c_35, c_36, c_38, c_40, c_41, c_42, c_43, c_44, c_45, c_48, c_57, c_58, c_59, c_60, c_61, c_62, c_64, c_65, c_69, c_75, c_83, c_91, c_93, c_94, c_97, c_105, c_106, c_110, c_119, c_123, c_124, c_125, c_126, c_240, c_256, c_400, c_m, nI_m1, nM_i, lN_add, lN_mul, lN_i, nI_l, lN_eq, lgN_le, lgN_lt, lgN_ge, lgN_gt, nI_sub, nI_mul, d_0, d_1, c_13, c_14, c_18, c_19, c_20, c_21, c_22, c_23, c_24, c_25, c_26, c_27, c_28, c_29, c_30, c_31, c_33, c_34, c_37, c_39, c_46, c_47, c_49, c_50, c_51, c_52, c_53, c_54, c_55, c_56, c_63, c_66, c_67, c_68, c_70, c_71, c_72, c_73, c_74, c_76, c_77, c_78, c_79, c_80, c_81, c_82, c_84, c_85, c_86, c_87, c_88, c_89, c_90, c_92, c_95, c_96, c_98, c_99, c_100, c_101, c_102, c_103, c_104, c_107, c_108, c_109, c_111, c_112, c_113, c_114, c_115, c_116, c_117, c_118, c_120, c_121, c_122, c_127, c_280, d_2, d_3, d_4, d_8, d_9, d_10, d_15, d_16, d_32, d_48, d_62, d_63, d_64, z1]
theorem zl_leaf {ins rg a b : Nat} {R : List R3} {pre post : List Th} {t : Th} (hF : 300 ≤ F) (hO : ThO n D) (hH : dH D = pre ++ t :: post) (e2 : thk t ≠ 2) (e3 : thk t ≠ 3) (hw1 : wr = true → pre.length < (dW D).length) (hw2 : wr = false → ¬ pre.length < (dW D).length) (hR : R.length < 2 ^ 30) (h : ZY D wr R ins rg a b s) : ∃ s', (∀ M, lp_Z_layOut_38 F (M + 1) (nI pre.length) s = lp_Z_layOut_38 F M (nI (pre.length + 1)) s') ∧ ZY D wr (R ++ [(pre.length, a, b)]) (ins + icW t) (max rg (ndT t)) a b s' ∧ frm (XY wr) s s' := by
  have hk : (dH D)[pre.length]? = some t := by rw [hH]; exact mid_get
  have hB := hO.2.2.1
  have hkl := get_lt hk
  have hlen := hB.1
  have hfs : (dW D).length ≤ 240 := by unfold dH at hlen; rw [List.length_append] at hlen; omega
  obtain ⟨hZ, hKd, hRc, h63, ⟨h64, hrg⟩, ha, hb, hab⟩ := h
  obtain ⟨s1, a1, a2, a3, a4, a5⟩ := z_cost (F := F) hF hO hk e2 e3 hZ h64 hrg
  have f1 : frm (XY wr) s s1 := a3.imp (fun g r k h => by unfold X7r X76 at h; unfold XY; omega)
  have f2 : frm (XY wr) s1 (ax_wI s1 0 38 63 (nI (ins + icW t))) := frm.refl.wI _ _ _ _ (by unfold XY; omega)
  have hY : ZY D wr R (ins + icW t) (max rg (ndT t)) a b (ax_wI s1 0 38 63 (nI (ins + icW t))) := by
    have fa := f1.trans f2
    refine ⟨hZ.keep fa (fun r k h => XY.q h), hKd.keep fa (fun r k h => XY.q (by unfold XX; omega)), ⟨?_, fun p x hp hp2 => ?_⟩, by simp (disch := omega) only [wI_1, wI_2, wL_1, wL_2, true_and, and_true, and_self, false_and, and_false, if_true, if_false, if_pos, if_neg], ⟨by simp (disch := omega) only [wI_1, wI_2, wL_1, wL_2, true_and, and_true, and_self, false_and, and_false, if_true, if_false, if_pos, if_neg]; exact a2, a4⟩, ?_, ?_, hab⟩
    · rw [wI_1, if_neg (by unfold cRc; cases wr <;> simp), a3.1 _ _ _ (by unfold X7r X76 cRc; cases wr <;> simp)]
      exact hRc.1
    · obtain ⟨y1, y2, y3⟩ := hRc.2 p x hp hp2
      have key : ∀ d, d ≤ 2 → (ax_wI s1 0 38 63 (nI (ins + icW t))).1 0 (aRc wr + d) p = s.1 0 (aRc wr + d) p := by
        intro d hd
        rw [wI_1, if_neg (by unfold aRc; cases wr <;> simp <;> omega), a3.1 _ _ _ (by unfold X7r X76 aRc; cases wr <;> simp <;> omega)]
      exact ⟨(key 0 (by omega)).trans y1, (key 1 (by omega)).trans y2, (key 2 (by omega)).trans y3⟩
    · simp (disch := omega) only [wI_1, wI_2, wL_1, wL_2, true_and, and_true, and_self, false_and, and_false, if_true, if_false, if_pos, if_neg]; exact (a3.1 _ _ _ (by unfold X7r X76; omega)).trans ha
    · simp (disch := omega) only [wI_1, wI_2, wL_1, wL_2, true_and, and_true, and_self, false_and, and_false, if_true, if_false, if_pos, if_neg]; exact (a3.1 _ _ _ (by unfold X7r X76; omega)).trans hb
  obtain ⟨s2, b1, b2, b3⟩ := z_note (D := D) (k := pre.length) (by omega) hfs hw1 hw2 hR hY
  refine ⟨s2, fun M => ?_, b2, (f1.trans f2).trans b3⟩
  obtain ⟨z1, -⟩ := hZ.2.2.1 _ _ hk
  have h22 : s.1 0 38 22 = nI (dH D).length := hZ.2.2.2.2.2
  have hk13 := (hO.2.2.2.1 t (List.mem_of_getElem? hk)).1
  have n2 : ¬ nI (thk t) = (2 : Int32) := fun h => e2 ((nI_eq (by omega) (by decide)).mp h)
  have n3 : ¬ nI (thk t) = (3 : Int32) := fun h => e3 ((nI_eq (by omega) (by decide)).mp h)
  rw [lp_Z_layOut_38, h22, if_neg (by rw [nI_leI (by omega) (by omega)]; omega), pu_in (show pre.length < 240 by omega) (by decide), cond_true, nI_clamp (show pre.length < 2 ^ 31 by omega), z1, if_neg n2, cond_true, if_neg n3, a1, Option.bind_some]
  simp only [ax_let]
  rw [h63, nI_add, b1, Option.bind_some, show (1 : Int32) = nI 1 from rfl, nI_add]
/-- a LETTER's round is set -/
def rA (x q a : Nat) : Nat := if x = 0 then q else a
def rB (x q b : Nat) : Nat := if x = 0 then b else q
theorem ZY.rnd {ins rg a b x q : Nat} {R : List R3} (h : ZY D wr R ins rg a b s) (hx : x < 2) (hq : q ≤ 16) : ZY D wr R ins rg (rA x q a) (rB x q b) (ax_wI s 0 74 x (nI q)) ∧ frm (XY wr) s (ax_wI s 0 74 x (nI q)) := by
  have f1 : frm (XY wr) s (ax_wI s 0 74 x (nI q)) := frm.refl.wI _ _ _ _ (by unfold XY; omega)
  obtain ⟨hZ, hKd, hRc, h63, ⟨h64, hrg⟩, ha, hb, hab⟩ := h
  refine ⟨⟨hZ.keep f1 (fun r k h => XY.q h), hKd.keep f1 (fun r k h => XY.q (by unfold XX; omega)), ⟨?_, fun p y hp hp2 => ?_⟩, by simp (disch := omega) only [wI_1, wI_2, wL_1, wL_2, true_and, and_true, and_self, false_and, and_false, if_true, if_false, if_pos, if_neg]; exact h63, ⟨by simp (disch := omega) only [wI_1, wI_2, wL_1, wL_2, true_and, and_true, and_self, false_and, and_false, if_true, if_false, if_pos, if_neg]; exact h64, hrg⟩, ?_, ?_, ?_⟩, f1⟩
  · rw [wI_1, if_neg (by omega)]; exact hRc.1
  · obtain ⟨y1, y2, y3⟩ := hRc.2 p y hp hp2
    have key : ∀ d, d ≤ 2 → (ax_wI s 0 74 x (nI q)).1 0 (aRc wr + d) p = s.1 0 (aRc wr + d) p := by
      intro d hd
      rw [wI_1, if_neg (by unfold aRc; cases wr <;> simp <;> omega)]
    exact ⟨(key 0 (by omega)).trans y1, (key 1 (by omega)).trans y2, (key 2 (by omega)).trans y3⟩
  · unfold rA
    rcases (show x = 0 ∨ x = 1 by omega) with rfl | rfl
    · simp (disch := omega) only [wI_1, wI_2, wL_1, wL_2, true_and, and_true, and_self, false_and, and_false, if_true, if_false, if_pos, if_neg]
    · simp (disch := omega) only [wI_1, wI_2, wL_1, wL_2, true_and, and_true, and_self, false_and, and_false, if_true, if_false, if_pos, if_neg]; exact ha
  · unfold rB
    rcases (show x = 0 ∨ x = 1 by omega) with rfl | rfl
    · simp (disch := omega) only [wI_1, wI_2, wL_1, wL_2, true_and, and_true, and_self, false_and, and_false, if_true, if_false, if_pos, if_neg]; exact hb
    · simp (disch := omega) only [wI_1, wI_2, wL_1, wL_2, true_and, and_true, and_self, false_and, and_false, if_true, if_false, if_pos, if_neg]
  · unfold rA rB
    split <;> omega
theorem zl_open {M ins rg a b : Nat} {R : List R3} {pre post : List Th} {t : Th} (hB : DB D) (hH : dH D = pre ++ t :: post) (e2 : thk t = 2) (hx : thw t < 2) (h : ZY D wr R ins rg a b s) : lp_Z_layOut_38 F (M + 1) (nI pre.length) s = lp_Z_layOut_38 F M (nI (pre.length + 1)) (ax_wI s 0 74 (thw t) (nI 0)) := by
  have hk : (dH D)[pre.length]? = some t := by rw [hH]; exact mid_get
  have hkl := get_lt hk
  have hlen := hB.1
  obtain ⟨z1, -, z3, -⟩ := h.1.2.2.1 _ _ hk
  have z3 := z3 (by omega)
  rw [e2] at z1
  have h22 : s.1 0 38 22 = nI (dH D).length := h.1.2.2.2.2.2
  rw [lp_Z_layOut_38, h22, if_neg (by rw [nI_leI (by omega) (by omega)]; omega), pu_in (show pre.length < 240 by omega) (by decide), cond_true, nI_clamp (show pre.length < 2 ^ 31 by omega), z1, if_pos (show nI 2 = (2 : Int32) from rfl), cond_true]
  simp (disch := omega) only [ax_let, Option.bind_some, cond_true, cond_false, if_pos, if_neg, if_true, if_false, eq_self, nI_add, nI_ltI, nI_leI, nI_eq, nI_clamp, pu_in, c_0, c_1, c_2, c_3, c_4, c_5, c_6, c_7, c_8, c_9, c_10, c_11, c_12, c_15, c_16, c_17, c_32, c_35, c_36, c_38, c_40, c_41, c_42, c_43, c_44, c_45, c_48, c_57, c_58, c_59, c_60, c_61, c_62, c_64, c_65, c_69, c_75, c_83, c_91, c_93, c_94, c_97, c_105, c_106, c_110, c_119, c_123, c_124, c_125, c_126, c_240, c_256, c_400, c_m, nI_m1, nM_i, lN_add, lN_mul, lN_i, nI_l, lN_eq, lgN_le, lgN_lt, lgN_ge, lgN_gt, nI_sub, nI_mul, d_0, d_1, c_13, c_14, c_18, c_19, c_20, c_21, c_22, c_23, c_24, c_25, c_26, c_27, c_28, c_29, c_30, c_31, c_33, c_34, c_37, c_39, c_46, c_47, c_49, c_50, c_51, c_52, c_53, c_54, c_55, c_56, c_63, c_66, c_67, c_68, c_70, c_71, c_72, c_73, c_74, c_76, c_77, c_78, c_79, c_80, c_81, c_82, c_84, c_85, c_86, c_87, c_88, c_89, c_90, c_92, c_95, c_96, c_98, c_99, c_100, c_101, c_102, c_103, c_104, c_107, c_108, c_109, c_111, c_112, c_113, c_114, c_115, c_116, c_117, c_118, c_120, c_121, c_122, c_127, c_280, d_2, d_3, d_4, d_8, d_9, d_10, d_15, d_16, d_32, d_48, d_62, d_63, d_64, z3]
theorem zl_close {M ins rg a b q lim : Nat} {R : List R3} {X Mb Rr : List Th} {o e : Th} (hB : DB D) (hH : dH D = X ++ o :: (Mb ++ e :: Rr)) (e2 : thk o = 2) (e3 : thk e = 3) (hM : lv lim 0 Mb = some 0) (hx : thw o < 2) (hv : thv o ≤ 16) (hq : q < 16) (hr : s.1 0 74 (thw o) = nI q) (h : ZY D wr R ins rg a b s) : lp_Z_layOut_38 F (M + 1) (nI (X.length + 1 + Mb.length)) s = lp_Z_layOut_38 F M (if q + 1 < thv o then nI (X.length + 1) else nI (X.length + 1 + Mb.length + 1)) (ax_wI s 0 74 (thw o) (nI (q + 1))) := by
  obtain ⟨o1, o2⟩ := h.1.oth hH e2 e3 hM
  have hko : (dH D)[X.length]? = some o := by rw [hH]; exact mid_get
  have hke : (dH D)[X.length + 1 + Mb.length]? = some e := by
    have := mid_get (A := X ++ o :: Mb) (B := Rr) (x := e)
    rw [show (X ++ o :: Mb).length = X.length + 1 + Mb.length from by simp only [List.length_append, List.length_cons]; omega] at this
    rw [← this, hH]
    simp only [List.append_assoc, List.cons_append]
  have hkl := get_lt hke
  have hlen := hB.1
  obtain ⟨z1, -⟩ := h.1.2.2.1 _ _ hke
  obtain ⟨-, -, y3, -, y5, -⟩ := h.1.2.2.1 _ _ hko
  have y3 := y3 (by omega)
  have y5 := (y5 (Or.inl e2)).1
  rw [e3] at z1
  have h22 : s.1 0 38 22 = nI (dH D).length := h.1.2.2.2.2.2
  rw [lp_Z_layOut_38, h22, if_neg (by rw [nI_leI (by omega) (by omega)]; omega), pu_in (show X.length + 1 + Mb.length < 240 by omega) (by decide), cond_true, nI_clamp (show X.length + 1 + Mb.length < 2 ^ 31 by omega), z1, if_neg (show ¬ nI 3 = (2 : Int32) by decide), cond_true, if_pos (show nI 3 = (3 : Int32) from rfl), o2]
  by_cases hc : q + 1 < thv o
  · rw [if_pos hc]
    simp (disch := omega) only [ax_let, Option.bind_some, cond_true, cond_false, if_pos, if_neg, if_true, if_false, eq_self, nI_add, nI_ltI, nI_leI, nI_eq, nI_clamp, pu_in, c_0, c_1, c_2, c_3, c_4, c_5, c_6, c_7, c_8, c_9, c_10, c_11, c_12, c_15, c_16, c_17, c_32, c_35, c_36, c_38, c_40, c_41, c_42, c_43, c_44, c_45, c_48, c_57, c_58, c_59, c_60, c_61, c_62, c_64, c_65, c_69, c_75, c_83, c_91, c_93, c_94, c_97, c_105, c_106, c_110, c_119, c_123, c_124, c_125, c_126, c_240, c_256, c_400, c_m, nI_m1, nM_i, lN_add, lN_mul, lN_i, nI_l, lN_eq, lgN_le, lgN_lt, lgN_ge, lgN_gt, nI_sub, nI_mul, d_0, d_1, c_13, c_14, c_18, c_19, c_20, c_21, c_22, c_23, c_24, c_25, c_26, c_27, c_28, c_29, c_30, c_31, c_33, c_34, c_37, c_39, c_46, c_47, c_49, c_50, c_51, c_52, c_53, c_54, c_55, c_56, c_63, c_66, c_67, c_68, c_70, c_71, c_72, c_73, c_74, c_76, c_77, c_78, c_79, c_80, c_81, c_82, c_84, c_85, c_86, c_87, c_88, c_89, c_90, c_92, c_95, c_96, c_98, c_99, c_100, c_101, c_102, c_103, c_104, c_107, c_108, c_109, c_111, c_112, c_113, c_114, c_115, c_116, c_117, c_118, c_120, c_121, c_122, c_127, c_280, d_2, d_3, d_4, d_8, d_9, d_10, d_15, d_16, d_32, d_48, d_62, d_63, d_64, wI_1, wI_2, wL_1, wL_2, true_and, and_true, and_self, false_and, and_false, if_true, if_false, y3, y5, hr]
  · rw [if_neg hc]
    simp (disch := omega) only [ax_let, Option.bind_some, cond_true, cond_false, if_pos, if_neg, if_true, if_false, eq_self, nI_add, nI_ltI, nI_leI, nI_eq, nI_clamp, pu_in, c_0, c_1, c_2, c_3, c_4, c_5, c_6, c_7, c_8, c_9, c_10, c_11, c_12, c_15, c_16, c_17, c_32, c_35, c_36, c_38, c_40, c_41, c_42, c_43, c_44, c_45, c_48, c_57, c_58, c_59, c_60, c_61, c_62, c_64, c_65, c_69, c_75, c_83, c_91, c_93, c_94, c_97, c_105, c_106, c_110, c_119, c_123, c_124, c_125, c_126, c_240, c_256, c_400, c_m, nI_m1, nM_i, lN_add, lN_mul, lN_i, nI_l, lN_eq, lgN_le, lgN_lt, lgN_ge, lgN_gt, nI_sub, nI_mul, d_0, d_1, c_13, c_14, c_18, c_19, c_20, c_21, c_22, c_23, c_24, c_25, c_26, c_27, c_28, c_29, c_30, c_31, c_33, c_34, c_37, c_39, c_46, c_47, c_49, c_50, c_51, c_52, c_53, c_54, c_55, c_56, c_63, c_66, c_67, c_68, c_70, c_71, c_72, c_73, c_74, c_76, c_77, c_78, c_79, c_80, c_81, c_82, c_84, c_85, c_86, c_87, c_88, c_89, c_90, c_92, c_95, c_96, c_98, c_99, c_100, c_101, c_102, c_103, c_104, c_107, c_108, c_109, c_111, c_112, c_113, c_114, c_115, c_116, c_117, c_118, c_120, c_121, c_122, c_127, c_280, d_2, d_3, d_4, d_8, d_9, d_10, d_15, d_16, d_32, d_48, d_62, d_63, d_64, wI_1, wI_2, wL_1, wL_2, true_and, and_true, and_self, false_and, and_false, if_true, if_false, y3, y5, hr]
end
