/-! PURE: the reference checks all things -/
theorem okTh_Y {n : Nat} {wr : Bool} {w : List Nat} {t : Th} (hn : 0 < n) (hw : ∀ q ∈ w, q < n) (hl : ∀ o ∈ the t, o.2.2.2.length ≤ 240) (h : okTh wr w t) (e2 : thk t ≠ 2) (e3 : thk t ≠ 3) : (∀ o ∈ the t, opY n o) ∧ thw t < 4 ∧ thp t < n ∧ (wr = true ↔ thk t = 1) := by
  have hX := ((okTh_X hn hw hl h).2 e2 e3).2
  have key : okE w (the t) → ∀ o ∈ the t, opY n o := by
    intro hE o ho
    refine ⟨hX o ho, fun h5 => ?_, fun x hx => ?_⟩
    · rcases hE.1 o ho with ⟨a, -⟩ | ⟨a, -⟩ | ⟨a, -⟩ | ⟨_, b, -⟩ | ⟨a, -⟩ | ⟨a, -⟩ | ⟨a, -⟩
      all_goals first | exact b | omega
    · rcases hE.1 o ho with ⟨-, -, -, d⟩ | ⟨-, -, -, d⟩ | ⟨-, -, -, d⟩ | ⟨-, -, -, d⟩ | ⟨-, -, -, d⟩ | ⟨-, -, -, d⟩ | ⟨-, -, -, d⟩
      · rw [d] at hx; cases hx
      · exact hw _ (d x hx).2.2
      all_goals (rw [d] at hx; cases hx)
  obtain ⟨h1, h⟩ := h
  rcases h with ⟨a, -⟩ | ⟨a, -⟩ | ⟨a, b, c, -, d⟩ | ⟨a, b, c⟩
  · exact absurd a e2
  · exact absurd a e3
  · exact ⟨key c, by omega, hw _ h1, ⟨fun _ => b, fun _ => a⟩⟩
  · have hk : 4 ≤ thk t ∧ thk t ≤ 12 := by
      rcases c with ⟨x, -⟩ | ⟨x, -⟩ | ⟨x, -⟩ | ⟨x, -⟩ <;> simp only [wkOf] at x <;> omega
    refine ⟨?_, b, hw _ h1, ⟨fun z => absurd (a.symm.trans z) (by decide), fun z => by omega⟩⟩
    rcases c with ⟨-, -, x, -⟩ | ⟨-, -, -, x, -⟩ | ⟨-, -, -, x, -⟩ | ⟨-, x, -⟩
    · exact key x
    · have : the t = [] := x
      rw [this]; exact fun o ho => by cases ho
    · have : the t = [] := x
      rw [this]; exact fun o ho => by cases ho
    · have : the t = [] := x
      rw [this]; exact fun o ho => by cases ho
/-- what is known of the things of a description, for the reference -/
def ThO (n : Nat) (D : Ds) : Prop := 0 < n ∧ n ≤ 240 ∧ DB D ∧ ThB D ∧ lv 2 0 (dW D) = some 0 ∧ lv 2 0 (dSt D) = some 0 ∧ (dT D).length ≤ 2 ∧ ∀ (k : Nat) (t : Th), (dH D)[k]? = some t → ∃ w, okTh (decide (k < (dW D).length)) w t ∧ ∀ q ∈ w, q < n
theorem PF.tho {n : Nat} {D : Ds} (hn : n ≤ 240) (h : PF n D) (hB : DB D) : ThO n D := by
  have hall := h.all hB
  obtain ⟨w0, w1, W, ⟨h1, h2⟩, h3, ⟨-, h5⟩, h6, h7, h8, h9, h10⟩ := h
  have ok := PF.okH (n := n) h6 h7 h8
  have hw : ∀ {k : Nat} {w : List Nat}, W[k]? = some w → ∀ q ∈ w, q < n := fun hk q hq => h2 q (List.mem_append_right _ (List.mem_flatten.mpr ⟨_, List.mem_of_getElem? hk, hq⟩))
  refine ⟨hall.1, hn, hB, fun t ht => ?_, h9, h10, h5, fun k t hk => ?_⟩
  · obtain ⟨k, hk⟩ := List.getElem?_of_mem ht
    obtain ⟨w, e1, -, e2⟩ := ok k t hk
    rcases e2 with ⟨a, b, c, -⟩ | ⟨a, -⟩ | ⟨-, a, -⟩ | ⟨-, -, a⟩
    · exact ⟨by omega, fun _ => ⟨c, b⟩⟩
    · exact ⟨by omega, fun e => by omega⟩
    · exact ⟨by omega, fun e => by omega⟩
    · have hk : 4 ≤ thk t ∧ thk t ≤ 12 := by
        rcases a with ⟨x, -⟩ | ⟨x, -⟩ | ⟨x, -⟩ | ⟨x, -⟩ <;> simp only [wkOf] at x <;> omega
      exact ⟨by omega, fun e => by omega⟩
  · obtain ⟨w, e1, e2⟩ := ok k t hk
    exact ⟨w, e2, hw e1⟩
section
variable {F n sk rf : Nat} {D : Ds} {K : KS} {C : List (Nat × Cx)} {pre rest : List Th} {t : Th} {s : ax_σ}
theorem ca_leaf (hF : 241 ≤ F) (hO : ThO n D) (hv : vD D) (hK : kw K = D.1.1 ∧ ktb K = (dT D).length ∧ (ksn K = if pre.length < (dW D).length then 0 else D.2.1.1) ∧ ∀ (u : Nat) (x : Tb), (dT D)[u]? = some x → ∀ j, j < 16 → tbE x j < 16 ∧ kB K (u * 16 + j) = bkL (fun y => nI (tbE x y)) (nI j) 16 nM) (e2 : thk t ≠ 2) (e3 : thk t ≠ 3) (hR : CxR C 2 (dH D) 0 pre sk (t :: rest)) (hsk : sk < 2 ^ 30) (hg : ∀ c ∈ C.map (·.2), c.2.2 < 2 ^ 20) (hZ : ZX D s) (hKd : ZKd (dH D) s) (hf : ZFa rf s) : ∃ s' rf', (∀ M, lp_Z_checkAll_240 F (M + 1) (nI pre.length) s = lp_Z_checkAll_240 F M (nI (pre.length + 1)) s') ∧ ZFa rf' s' ∧ (∀ m, m ≤ rf' ↔ m ≤ rf ∧ leafN K m (ltC C) t ∧ gxL m (wt skW (dW D)) D.2.2.1.1 (C.map (·.2)) sk t) ∧ frm XG s s' := by
  obtain ⟨h0, hn, hB, hT, h5, h6, htb, hok⟩ := hO
  obtain ⟨-, post, hpre⟩ := hR.pre
  have hk : (dH D)[pre.length]? = some t := by rw [hpre]; exact mid_get
  obtain ⟨w, hw, hwn⟩ := hok _ _ hk
  have hkl := get_lt hk
  have hlen := hB.1
  obtain ⟨y1, y2, y3, y4⟩ := okTh_Y h0 hwn (fun o ho => by
    have a1 : o ∈ (dH D).flatMap the := List.mem_flatMap.mpr ⟨t, List.mem_of_getElem? hk, ho⟩
    have a2 : (opT o).length ≤ _ := fm_len (f := opT) a1
    exact Nat.le_trans a2 hB.2.2.1) hw e2 e3
  rw [decide_eq_true_eq] at y4
  have hE : ExS D C n pre sk t := ⟨hv, hB, h5, hsk, hg, hk, y1, y4, y2, y3⟩
  obtain ⟨z1, -⟩ := hZ.2.2.1 _ _ hk
  have h22 : s.1 0 38 22 = nI (dH D).length := hZ.2.2.2.2.2
  have hnle : ¬ (nI (dH D).length ≤ nI pre.length) := by rw [nI_leI (by omega) (by omega)]; omega
  by_cases e1 : thk t = 1
  · obtain ⟨s1, rf1, a1, a2, a3, a4⟩ := z_ce hF hn hE (Or.inl e1) hT hR hZ hKd hf
    refine ⟨s1, rf1, fun M => ?_, a2, fun m => ?_, a4⟩
    · rw [e1] at z1
      rw [lp_Z_checkAll_240, h22, if_neg hnle, pu_in (show pre.length < 240 by omega) (by decide), cond_true, nI_clamp (show pre.length < 2 ^ 31 by omega), z1, if_neg (show ¬ nI 1 = (2 : Int32) by decide), cond_true, if_pos (show nI 1 = (1 : Int32) from rfl), a1, Option.bind_some, show (1 : Int32) = nI 1 from rfl, nI_add]
    · rw [a3]
      unfold leafN gxL ceO exN
      rw [if_pos e1, hK.1, hK.2.2.1, decide_eq_true e1, decide_eq_true (y4.mpr e1), if_pos (y4.mpr e1)]
      exact ⟨fun k => ⟨k.1, fun o ho => (k.2 o ho).1, fun o ho => (k.2 o ho).2.2⟩, fun k => ⟨k.1, fun o ho => ⟨k.2.1 o ho, fun h => absurd (y4.mpr e1) h, k.2.2 o ho⟩⟩⟩
  · have hnlt : ¬ pre.length < (dW D).length := fun h => e1 (y4.mp h)
    rw [if_neg hnlt] at hK
    have hK' : okK K D := ⟨hK.2.2.1, hK.1, hK.2.1, hK.2.2.2⟩
    obtain ⟨s1, rf1, a1, a2, a3, a4⟩ := cs_head (F := F) hn hk hB hv.2.1.2 e1 e3 y2 y3 hZ hf
    have hZ1 := hZ.keep a4 (fun r k h => by unfold X53; unfold XX at h; omega)
    have hKd1 := hKd.keep a4 (fun r k h => by unfold X53; omega)
    have hcs : csP F D K C pre.length sk rf1 t s1 := by
      obtain ⟨-, hw⟩ := hw
      rcases hw with ⟨a, -⟩ | ⟨a, -⟩ | ⟨-, a, -⟩ | ⟨-, -, c⟩
      · exact absurd a e2
      · exact absurd a e3
      · exact absurd a e1
      · rcases c with ⟨x1, x2, x3, x4⟩ | ⟨x1, x2, x3, x4, x5⟩ | ⟨x1, x2, x3, x4, x5⟩ | ⟨x1, x2, x3, x4⟩
        · exact cs_4 hF hn hE hT hK' x1 x3 hR hZ1 hKd1 a2
        · rcases x1 with x1 | x1 | x1
          · exact cs_7 hn hk hB hv hK' x1 x2 (hwn _ x3) x4 y3 hZ1 a2
          · exact cs_8 hn hk hB hv hK' x1 x2 (hwn _ x3) x4 y3 hZ1 a2
          · exact cs_11 hF hn hk hB htb hK' x1 x2 (hwn _ x3) x4 y3 hZ1 a2
        · rcases x1 with x1 | x1
          · exact cs_9 hn hk hB hv hK' x1 x2 (hwn _ x3) x4 y2 y3 hZ1 a2
          · exact cs_10 hn hk hB hv hK' x1 x2 (hwn _ x3) x4 y2 y3 hZ1 a2
        · exact cs_12 hF hn hk hB hv hK' x1 (fun x hx => ⟨(x4 x hx).1, hwn _ (x4 x hx).2⟩) x2 y3 hZ1 a2
    obtain ⟨s2, rf2, b1, b2, b3, b4⟩ := hcs
    refine ⟨s2, rf2, fun M => ?_, b2, fun m => ?_, (XG.ofC a4).trans b4⟩
    · have hne : ∀ x : Nat, x < 4 → 0 < x → ¬ nI (thk t) = nI x := fun x h1 h2 h => by
        have := (hT t (List.mem_of_getElem? hk)).1
        rw [nI_eq (by omega) (by omega)] at h
        rcases (show x = 1 ∨ x = 2 ∨ x = 3 by omega) with rfl | rfl | rfl
        · exact e1 h
        · exact e2 h
        · exact e3 h
      rw [lp_Z_checkAll_240, h22, if_neg hnle, pu_in (show pre.length < 240 by omega) (by decide), cond_true, nI_clamp (show pre.length < 2 ^ 31 by omega), z1, if_neg (show ¬ nI (thk t) = (2 : Int32) from hne 2 (by omega) (by omega)), cond_true, if_neg (show ¬ nI (thk t) = (1 : Int32) from hne 1 (by omega) (by omega)), cond_true, if_neg (show ¬ nI (thk t) = (3 : Int32) from hne 3 (by omega) (by omega)), a1, b1, Option.bind_some, show (1 : Int32) = nI 1 from rfl, nI_add]
    · rw [b3, a3]
      unfold leafN
      rw [if_neg e1, hK.2.2.1]
      exact ⟨fun k => ⟨k.1.1, ⟨k.1.2, k.2.1, k.2.2.1⟩, k.2.2.2⟩, fun k => ⟨⟨k.1, k.2.1.1⟩, k.2.1.2.1, k.2.1.2.2, k.2.2⟩⟩
theorem ca_open (hF : 241 ≤ F) (hO : ThO n D) (e2 : thk t = 2) (hR : CxR C 2 (dH D) 0 pre sk (t :: rest)) (hZ : ZX D s) (hKd : ZKd (dH D) s) (hf : ZFa rf s) : ∃ s' rf', (∀ M, lp_Z_checkAll_240 F (M + 1) (nI pre.length) s = lp_Z_checkAll_240 F M (nI (pre.length + 1)) s') ∧ ZFa rf' s' ∧ (∀ m, m ≤ rf' ↔ m ≤ rf ∧ oN m (ltC C) t) ∧ frm XG s s' := by
  obtain ⟨h0, hn, hB, hT, h5, h6, htb, hok⟩ := hO
  obtain ⟨-, post, hpre⟩ := hR.pre
  have hk : (dH D)[pre.length]? = some t := by rw [hpre]; exact mid_get
  obtain ⟨w, ⟨w1, hw⟩, hwn⟩ := hok _ _ hk
  have hkl := get_lt hk
  have hlen := hB.1
  have hp := hwn _ w1
  have hq : thq t < n ∧ thv t < 10 ^ 9 ∧ thw t < 2 := by
    rcases hw with ⟨a, b, c, d, -⟩ | ⟨a, -⟩ | ⟨-, a, -⟩ | ⟨-, -, a⟩
    · exact ⟨hwn _ d, c, b⟩
    · omega
    · omega
    · exfalso
      rcases a with ⟨x, -⟩ | ⟨x, -⟩ | ⟨x, -⟩ | ⟨x, -⟩ <;> simp only [wkOf] at x <;> omega
  clear hw
  obtain ⟨z1, z2, z3, -, z5, -⟩ := hZ.2.2.1 _ _ hk
  have z3 := z3 (by omega)
  obtain ⟨z5, z6⟩ := z5 (Or.inl e2)
  have h22 : s.1 0 38 22 = nI (dH D).length := hZ.2.2.2.2.2
  have hnle : ¬ (nI (dH D).length ≤ nI pre.length) := by rw [nI_leI (by omega) (by omega)]; omega
  obtain ⟨s1, a1, a2, a3⟩ := z_around hF hR hKd
  have hZ1 := hZ.keep a2 (fun r k h => by unfold X46; unfold XX at h; omega)
  have hC := hR.cxm hZ1 hB hT a3
  have hio := z_isOpen (F := F) (x := thw t) hF hq.2.2 hC
  obtain ⟨s2, rf2, c1, c0, c2, c3, c4⟩ := z_conD (c := 4) (thw t ∈ ltC C) (by omega) (show thp t ≤ 240 by omega) (hf.keep a2 (fun k h => by unfold X46; omega))
  obtain ⟨s3, rf3, d1, d0, d2, d3, d4⟩ := z_conD (c := 3) (thv t < 1 ∨ ¬ thv t < 17) (by omega) (show thq t ≤ 240 by omega) c2
  have w48 : s1.1 0 48 pre.length = nI (thp t) := (a2.1 _ _ _ (by unfold X46; omega)).trans z2
  have w52 : s2.2 0 52 pre.length = lN (thv t) := (c4.2 _ _ _ (by unfold X53; omega)).trans ((a2.2 _ _ _ (by unfold X46; omega)).trans z5)
  have w53 : s2.1 0 53 pre.length = nI (thq t) := (c4.1 _ _ _ (by unfold X53; omega)).trans ((a2.1 _ _ _ (by unfold X46; omega)).trans z6)
  refine ⟨s3, rf3, fun M => ?_, d2, fun m => ?_, ((a2.imp (fun g r k h => by unfold X46 at h; unfold XG; omega)).trans (XG.ofC c4)).trans (XG.ofC d4)⟩
  · rw [e2] at z1
    rw [lp_Z_checkAll_240, h22, if_neg hnle, pu_in (show pre.length < 240 by omega) (by decide), cond_true, nI_clamp (show pre.length < 2 ^ 31 by omega), z1, if_pos (show nI 2 = (2 : Int32) from rfl), cond_true, a1, Option.bind_some]
    simp only
    rw [z3, hio]
    by_cases hP : thw t ∈ ltC C
    · rw [if_pos hP]
      have c1' := c1 hP
      by_cases hQ1 : thv t < 1
      · have d1' := d1 (Or.inl hQ1)
        simp (disch := omega) only [ax_let, Option.bind_some, cond_true, cond_false, if_pos, if_neg, if_true, if_false, eq_self, nI_add, nI_ltI, nI_leI, nI_eq, nI_clamp, pu_in, c_0, c_1, c_2, c_3, c_4, c_5, c_6, c_7, c_8, c_9, c_10, c_11, c_12, c_15, c_16, c_17, c_32, c_35, c_36, c_38, c_40, c_41, c_42, c_43, c_44, c_45, c_48, c_57, c_58, c_59, c_60, c_61, c_62, c_64, c_65, c_69, c_75, c_83, c_91, c_93, c_94, c_97, c_105, c_106, c_110, c_119, c_123, c_124, c_125, c_126, c_240, c_256, c_400, c_m, nI_m1, nM_i, lN_add, lN_mul, lN_i, nI_l, lN_eq, lgN_le, lgN_lt, lgN_ge, lgN_gt, nI_sub, nI_mul, d_0, d_1, c_13, c_14, c_18, c_19, c_20, c_21, c_22, c_23, c_24, c_25, c_26, c_27, c_28, c_29, c_30, c_31, c_33, c_34, c_37, c_39, c_46, c_47, c_49, c_50, c_51, c_52, c_53, c_54, c_55, c_56, c_63, c_66, c_67, c_68, c_70, c_71, c_72, c_73, c_74, c_76, c_77, c_78, c_79, c_80, c_81, c_82, c_84, c_85, c_86, c_87, c_88, c_89, c_90, c_92, c_95, c_96, c_98, c_99, c_100, c_101, c_102, c_103, c_104, c_107, c_108, c_109, c_111, c_112, c_113, c_114, c_115, c_116, c_117, c_118, c_120, c_121, c_122, c_127, c_280, d_2, d_3, d_4, d_8, d_9, d_10, d_15, d_16, d_32, d_48, d_62, d_63, d_64, w48, c1', w52, w53, d1']
      · by_cases hQ2 : thv t < 17
        · have d0' := d0 (fun e => e.elim hQ1 (fun e => e hQ2))
          simp (disch := omega) only [ax_let, Option.bind_some, cond_true, cond_false, if_pos, if_neg, if_true, if_false, eq_self, nI_add, nI_ltI, nI_leI, nI_eq, nI_clamp, pu_in, c_0, c_1, c_2, c_3, c_4, c_5, c_6, c_7, c_8, c_9, c_10, c_11, c_12, c_15, c_16, c_17, c_32, c_35, c_36, c_38, c_40, c_41, c_42, c_43, c_44, c_45, c_48, c_57, c_58, c_59, c_60, c_61, c_62, c_64, c_65, c_69, c_75, c_83, c_91, c_93, c_94, c_97, c_105, c_106, c_110, c_119, c_123, c_124, c_125, c_126, c_240, c_256, c_400, c_m, nI_m1, nM_i, lN_add, lN_mul, lN_i, nI_l, lN_eq, lgN_le, lgN_lt, lgN_ge, lgN_gt, nI_sub, nI_mul, d_0, d_1, c_13, c_14, c_18, c_19, c_20, c_21, c_22, c_23, c_24, c_25, c_26, c_27, c_28, c_29, c_30, c_31, c_33, c_34, c_37, c_39, c_46, c_47, c_49, c_50, c_51, c_52, c_53, c_54, c_55, c_56, c_63, c_66, c_67, c_68, c_70, c_71, c_72, c_73, c_74, c_76, c_77, c_78, c_79, c_80, c_81, c_82, c_84, c_85, c_86, c_87, c_88, c_89, c_90, c_92, c_95, c_96, c_98, c_99, c_100, c_101, c_102, c_103, c_104, c_107, c_108, c_109, c_111, c_112, c_113, c_114, c_115, c_116, c_117, c_118, c_120, c_121, c_122, c_127, c_280, d_2, d_3, d_4, d_8, d_9, d_10, d_15, d_16, d_32, d_48, d_62, d_63, d_64, w48, c1', w52, w53, d0']
        · have d1' := d1 (Or.inr hQ2)
          simp (disch := omega) only [ax_let, Option.bind_some, cond_true, cond_false, if_pos, if_neg, if_true, if_false, eq_self, nI_add, nI_ltI, nI_leI, nI_eq, nI_clamp, pu_in, c_0, c_1, c_2, c_3, c_4, c_5, c_6, c_7, c_8, c_9, c_10, c_11, c_12, c_15, c_16, c_17, c_32, c_35, c_36, c_38, c_40, c_41, c_42, c_43, c_44, c_45, c_48, c_57, c_58, c_59, c_60, c_61, c_62, c_64, c_65, c_69, c_75, c_83, c_91, c_93, c_94, c_97, c_105, c_106, c_110, c_119, c_123, c_124, c_125, c_126, c_240, c_256, c_400, c_m, nI_m1, nM_i, lN_add, lN_mul, lN_i, nI_l, lN_eq, lgN_le, lgN_lt, lgN_ge, lgN_gt, nI_sub, nI_mul, d_0, d_1, c_13, c_14, c_18, c_19, c_20, c_21, c_22, c_23, c_24, c_25, c_26, c_27, c_28, c_29, c_30, c_31, c_33, c_34, c_37, c_39, c_46, c_47, c_49, c_50, c_51, c_52, c_53, c_54, c_55, c_56, c_63, c_66, c_67, c_68, c_70, c_71, c_72, c_73, c_74, c_76, c_77, c_78, c_79, c_80, c_81, c_82, c_84, c_85, c_86, c_87, c_88, c_89, c_90, c_92, c_95, c_96, c_98, c_99, c_100, c_101, c_102, c_103, c_104, c_107, c_108, c_109, c_111, c_112, c_113, c_114, c_115, c_116, c_117, c_118, c_120, c_121, c_122, c_127, c_280, d_2, d_3, d_4, d_8, d_9, d_10, d_15, d_16, d_32, d_48, d_62, d_63, d_64, w48, c1', w52, w53, d1']
    · rw [if_neg hP]
      have c0' := c0 hP
      by_cases hQ1 : thv t < 1
      · have d1' := d1 (Or.inl hQ1)
        simp (disch := omega) only [ax_let, Option.bind_some, cond_true, cond_false, if_pos, if_neg, if_true, if_false, eq_self, nI_add, nI_ltI, nI_leI, nI_eq, nI_clamp, pu_in, c_0, c_1, c_2, c_3, c_4, c_5, c_6, c_7, c_8, c_9, c_10, c_11, c_12, c_15, c_16, c_17, c_32, c_35, c_36, c_38, c_40, c_41, c_42, c_43, c_44, c_45, c_48, c_57, c_58, c_59, c_60, c_61, c_62, c_64, c_65, c_69, c_75, c_83, c_91, c_93, c_94, c_97, c_105, c_106, c_110, c_119, c_123, c_124, c_125, c_126, c_240, c_256, c_400, c_m, nI_m1, nM_i, lN_add, lN_mul, lN_i, nI_l, lN_eq, lgN_le, lgN_lt, lgN_ge, lgN_gt, nI_sub, nI_mul, d_0, d_1, c_13, c_14, c_18, c_19, c_20, c_21, c_22, c_23, c_24, c_25, c_26, c_27, c_28, c_29, c_30, c_31, c_33, c_34, c_37, c_39, c_46, c_47, c_49, c_50, c_51, c_52, c_53, c_54, c_55, c_56, c_63, c_66, c_67, c_68, c_70, c_71, c_72, c_73, c_74, c_76, c_77, c_78, c_79, c_80, c_81, c_82, c_84, c_85, c_86, c_87, c_88, c_89, c_90, c_92, c_95, c_96, c_98, c_99, c_100, c_101, c_102, c_103, c_104, c_107, c_108, c_109, c_111, c_112, c_113, c_114, c_115, c_116, c_117, c_118, c_120, c_121, c_122, c_127, c_280, d_2, d_3, d_4, d_8, d_9, d_10, d_15, d_16, d_32, d_48, d_62, d_63, d_64, w48, c0', w52, w53, d1']
      · by_cases hQ2 : thv t < 17
        · have d0' := d0 (fun e => e.elim hQ1 (fun e => e hQ2))
          simp (disch := omega) only [ax_let, Option.bind_some, cond_true, cond_false, if_pos, if_neg, if_true, if_false, eq_self, nI_add, nI_ltI, nI_leI, nI_eq, nI_clamp, pu_in, c_0, c_1, c_2, c_3, c_4, c_5, c_6, c_7, c_8, c_9, c_10, c_11, c_12, c_15, c_16, c_17, c_32, c_35, c_36, c_38, c_40, c_41, c_42, c_43, c_44, c_45, c_48, c_57, c_58, c_59, c_60, c_61, c_62, c_64, c_65, c_69, c_75, c_83, c_91, c_93, c_94, c_97, c_105, c_106, c_110, c_119, c_123, c_124, c_125, c_126, c_240, c_256, c_400, c_m, nI_m1, nM_i, lN_add, lN_mul, lN_i, nI_l, lN_eq, lgN_le, lgN_lt, lgN_ge, lgN_gt, nI_sub, nI_mul, d_0, d_1, c_13, c_14, c_18, c_19, c_20, c_21, c_22, c_23, c_24, c_25, c_26, c_27, c_28, c_29, c_30, c_31, c_33, c_34, c_37, c_39, c_46, c_47, c_49, c_50, c_51, c_52, c_53, c_54, c_55, c_56, c_63, c_66, c_67, c_68, c_70, c_71, c_72, c_73, c_74, c_76, c_77, c_78, c_79, c_80, c_81, c_82, c_84, c_85, c_86, c_87, c_88, c_89, c_90, c_92, c_95, c_96, c_98, c_99, c_100, c_101, c_102, c_103, c_104, c_107, c_108, c_109, c_111, c_112, c_113, c_114, c_115, c_116, c_117, c_118, c_120, c_121, c_122, c_127, c_280, d_2, d_3, d_4, d_8, d_9, d_10, d_15, d_16, d_32, d_48, d_62, d_63, d_64, w48, c0', w52, w53, d0']
        · have d1' := d1 (Or.inr hQ2)
          simp (disch := omega) only [ax_let, Option.bind_some, cond_true, cond_false, if_pos, if_neg, if_true, if_false, eq_self, nI_add, nI_ltI, nI_leI, nI_eq, nI_clamp, pu_in, c_0, c_1, c_2, c_3, c_4, c_5, c_6, c_7, c_8, c_9, c_10, c_11, c_12, c_15, c_16, c_17, c_32, c_35, c_36, c_38, c_40, c_41, c_42, c_43, c_44, c_45, c_48, c_57, c_58, c_59, c_60, c_61, c_62, c_64, c_65, c_69, c_75, c_83, c_91, c_93, c_94, c_97, c_105, c_106, c_110, c_119, c_123, c_124, c_125, c_126, c_240, c_256, c_400, c_m, nI_m1, nM_i, lN_add, lN_mul, lN_i, nI_l, lN_eq, lgN_le, lgN_lt, lgN_ge, lgN_gt, nI_sub, nI_mul, d_0, d_1, c_13, c_14, c_18, c_19, c_20, c_21, c_22, c_23, c_24, c_25, c_26, c_27, c_28, c_29, c_30, c_31, c_33, c_34, c_37, c_39, c_46, c_47, c_49, c_50, c_51, c_52, c_53, c_54, c_55, c_56, c_63, c_66, c_67, c_68, c_70, c_71, c_72, c_73, c_74, c_76, c_77, c_78, c_79, c_80, c_81, c_82, c_84, c_85, c_86, c_87, c_88, c_89, c_90, c_92, c_95, c_96, c_98, c_99, c_100, c_101, c_102, c_103, c_104, c_107, c_108, c_109, c_111, c_112, c_113, c_114, c_115, c_116, c_117, c_118, c_120, c_121, c_122, c_127, c_280, d_2, d_3, d_4, d_8, d_9, d_10, d_15, d_16, d_32, d_48, d_62, d_63, d_64, w48, c0', w52, w53, d1']
  · rw [d3, c3]
    unfold oN
    exact ⟨fun k => ⟨k.1.1, k.1.2, fun h => k.2 (Or.inr h), fun h => k.2 (Or.inl h)⟩, fun k => ⟨⟨k.1, k.2.1⟩, fun h => h.elim k.2.2.2 k.2.2.1⟩⟩
theorem ca_close {M : Nat} {G0 G1 : List Th} (hB : DB D) (e3 : thk t = 3) (hH : dH D = G0 ++ t :: G1) (hZ : ZX D s) : lp_Z_checkAll_240 F (M + 1) (nI G0.length) s = lp_Z_checkAll_240 F M (nI (G0.length + 1)) s := by
  have hk : (dH D)[G0.length]? = some t := by rw [hH]; exact mid_get
  have hkl := get_lt hk
  have hlen := hB.1
  obtain ⟨z1, -⟩ := hZ.2.2.1 _ _ hk
  rw [e3] at z1
  have h22 : s.1 0 38 22 = nI (dH D).length := hZ.2.2.2.2.2
  rw [lp_Z_checkAll_240, h22, if_neg (by rw [nI_leI (by omega) (by omega)]; omega), pu_in (show G0.length < 240 by omega) (by decide), cond_true, nI_clamp (show G0.length < 2 ^ 31 by omega), z1, if_neg (show ¬ nI 3 = (2 : Int32) by decide), cond_true, if_neg (show ¬ nI 3 = (1 : Int32) by decide), cond_true, if_pos (show nI 3 = (3 : Int32) from rfl), show (1 : Int32) = nI 1 from rfl, nI_add]
end
