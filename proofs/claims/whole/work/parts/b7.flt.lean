/-! PURE: class and reference find the same fault -/
theorem lgN_eq {a b : Nat} (ha : a < 2 ^ 31) (hb : b < 2 ^ 31) : (lg_cmp (lN a) (lN b) = nI 0) ↔ a = b := (lg_cmp_eq _ _).trans (lN_eq ha hb)
theorem exN_tr {sn w0 m p : Nat} {L : List Nat} {w : List Nat} {e : List Op} (hm : m ≤ p * 8 + 2) (hw : ∀ q ∈ w, p < q) (h : okE w e) : exN sn w0 m L e := by
  intro o ho
  have key : ∀ q c, q ∈ w → m ≤ q * 8 + c := fun q c hq => by have := hw q hq; omega
  unfold opN
  rcases h.1 o ho with ⟨a, b, c, d⟩ | ⟨a, b, c, d⟩ | ⟨a, b, c, d⟩ | ⟨a, b, c, d⟩ | ⟨a, -⟩ | ⟨a, b, c, d⟩ | ⟨a, -⟩
  · exact ⟨fun _ _ => key _ _ c, fun h => by omega, fun h => by omega, fun h => by omega, fun h => by omega⟩
  · exact ⟨fun h => by omega, fun _ t ht _ _ => key _ _ (d t ht).2.2, fun h => by omega, fun h => by omega, fun h => by omega⟩
  · exact ⟨fun h => by omega, fun h => by omega, fun _ _ => key _ _ c, fun h => by omega, fun h => by omega⟩
  · exact ⟨fun h => by omega, fun h => by omega, fun h => by omega, fun _ _ => key _ _ c, fun h => by omega⟩
  · exact ⟨fun h => by omega, fun h => by omega, fun h => by omega, fun h => by omega, fun h => by omega⟩
  · exact ⟨fun h => by omega, fun h => by omega, fun h => by omega, fun h => by omega, fun _ _ => key _ _ c⟩
  · exact ⟨fun h => by omega, fun h => by omega, fun h => by omega, fun h => by omega, fun h => by omega⟩
theorem leafN_tr {K : KS} {m p : Nat} {L : List Nat} {wr : Bool} {w : List Nat} {t : Th} (hm : m ≤ p * 8 + 2) (hw : ∀ q ∈ w, p < q) (h : okTh wr w t) (e2 : thk t ≠ 2) (e3 : thk t ≠ 3) : leafN K m L t := by
  have key : ∀ q c, q ∈ w → m ≤ q * 8 + c := fun q c hq => by have := hw q hq; omega
  obtain ⟨h1, h⟩ := h
  unfold leafN
  rcases h with ⟨a, -⟩ | ⟨a, -⟩ | ⟨a, b, c, -⟩ | ⟨a, b, c⟩
  · exact absurd a e2
  · exact absurd a e3
  · rw [if_pos b]; exact exN_tr hm hw c
  · have hk : 4 ≤ thk t ∧ thk t ≤ 12 := by
      rcases c with ⟨x, -⟩ | ⟨x, -⟩ | ⟨x, -⟩ | ⟨x, -⟩ <;> simp only [wkOf] at x <;> omega
    rw [if_neg (by omega)]
    refine ⟨fun _ => key _ _ h1, ?_, fun _ => key _ _ h1⟩
    unfold wkN
    rcases c with ⟨x, -, y, -⟩ | ⟨x, -, y, -⟩ | ⟨x, -, y, -⟩ | ⟨x, -, -, y⟩
    · rw [if_pos x.2]; exact exN_tr hm hw y
    · rcases x with x | x | x
      · rw [if_neg (by omega), if_pos x]; exact fun _ => key _ _ y
      · rw [if_neg (by omega), if_neg (by omega), if_pos x]; exact fun _ => key _ _ y
      · rw [if_neg (by omega), if_neg (by omega), if_neg (by omega), if_neg (by omega), if_pos x]; exact fun _ => key _ _ y
    · rw [if_neg (by omega), if_neg (by omega), if_neg (by omega), if_pos x]; exact fun _ => key _ _ y
    · rw [if_neg (by omega), if_neg (by omega), if_neg (by omega), if_neg (by omega), if_neg (by omega)]; exact fun z hz _ => key _ _ (y z hz).2
theorem NX_tr {K : KS} {m p lim : Nat} {l : List Th} (hm : m ≤ p * 8 + 2) (h : lv lim 0 l = some 0) : (∀ t ∈ l, ∃ wr w, okTh wr w t ∧ ∀ q ∈ w, p < q) → ∀ L, NX K m l L := by
  refine dyck (P := fun _ l => (∀ t ∈ l, ∃ wr w, okTh wr w t ∧ ∀ q ∈ w, p < q) → ∀ L, NX K m l L) h (fun _ _ _ => trivial) ?_ ?_
  · intro lim t r e2 e3 hr ih ho L
    rw [NX_leaf e2 e3 hr]
    obtain ⟨wr, w, a, b⟩ := ho t (List.mem_cons_self ..)
    exact ⟨leafN_tr hm b a e2 e3, ih (fun t ht => ho t (List.mem_cons_of_mem _ ht)) L⟩
  · intro lim o b c r e2 e3 hb hr i1 i2 ho L
    rw [NX_loop e2 e3 hb hr]
    obtain ⟨wr, w, ⟨a1, a2⟩, a3⟩ := ho o (List.mem_cons_self ..)
    have hq : thq o ∈ w := by
      rcases a2 with ⟨-, -, -, d, -⟩ | ⟨a, -⟩ | ⟨-, a, -⟩ | ⟨-, -, a⟩
      · exact d
      · omega
      · omega
      · exfalso
        rcases a with ⟨x, -⟩ | ⟨x, -⟩ | ⟨x, -⟩ | ⟨x, -⟩ <;> simp only [wkOf] at x <;> omega
    have h1 := a3 _ a1
    have h2 := a3 _ hq
    exact ⟨⟨fun _ => by omega, fun _ => by omega, fun _ => by omega⟩, i1 (fun t ht => ho t (List.mem_cons_of_mem _ (List.mem_append_left _ ht))) _, i2 (fun t ht => ho t (List.mem_cons_of_mem _ (List.mem_append_right _ (List.mem_cons_of_mem _ ht)))) _⟩
theorem FN_tr {n m p : Nat} {D : Ds} {K : KS} (hPF : PF n D) (hm : m ≤ p * 8 + 2) (hp : p = D.1.2 ∨ p = D.2.1.2 ∨ p = D.2.2.1.2) : (∀ x ∈ dT D, tbN m x) ∧ NX K m (dW D) [] ∧ NX (kSn K (kst K)) m (dSt D) [] ∧ GX m (wt skW (dW D)) (kky K) (dW D) [] 0 ∧ GX m (wt skW (dW D)) (kky K) (dSt D) [] (wt skW (dW D)) := by
  obtain ⟨w0, w1, W, ⟨h1, h2⟩, ⟨⟨a1, -⟩, ⟨a2, -⟩, ⟨a3, -⟩⟩, ⟨h4, -⟩, h6, h7, h8, h9, h10⟩ := hPF
  have hp0 : p ∈ w0 := by
    rcases hp with rfl | rfl | rfl
    · exact a1
    · exact a2
    · exact a3
  have ok := PF.okH (n := n) h6 h7 h8
  rw [List.append_assoc, List.pairwise_append] at h1
  have hlt := fun q (hq : q ∈ w1 ++ W.flatten) => h1.2.2 p hp0 q hq
  have hall : ∀ t ∈ dH D, ∃ wr w, okTh wr w t ∧ ∀ q ∈ w, p < q := by
    intro t ht
    obtain ⟨k, hk⟩ := List.getElem?_of_mem ht
    obtain ⟨w, e1, e2⟩ := ok k t hk
    exact ⟨_, w, e2, fun q hq => hlt q (List.mem_append_right _ (List.mem_flatten.mpr ⟨w, List.mem_of_getElem? e1, hq⟩))⟩
  have habs : ∀ l : List Th, (∀ t ∈ l, t ∈ dH D) → ab p l := by
    intro l hl t ht o ho hi
    obtain ⟨wr, w, e1, e2⟩ := hall t (hl t ht)
    exact e2 _ (okTh_idx e1 o ho hi)
  refine ⟨fun x hx => ?_, NX_tr hm h9 (fun t ht => hall t (List.mem_append_left _ ht)) _, NX_tr hm h10 (fun t ht => hall t (List.mem_append_right _ ht)) _, gx_ab h9 (q := p) (by omega) (habs _ (fun t ht => List.mem_append_left _ ht)) _ _, gx_ab h10 (q := p) (by omega) (habs _ (fun t ht => List.mem_append_right _ ht)) _ _⟩
  rcases h4 x hx with ⟨e, -⟩ | ⟨a, b, e, -, -, c, d⟩
  · unfold tbN; rw [e]; trivial
  · rw [e]
    have := hlt _ (List.mem_append_left _ c)
    have := hlt _ (List.mem_append_left _ d)
    exact ⟨fun _ => by omega, fun _ => by omega⟩
theorem vD_iff {D : Ds} : vD D ↔ (isSz 0 D.1.1 = true ∧ isSz 1 D.2.1.1 = true ∧ isSz 2 D.2.2.1.1 = true) := by
  unfold vD isSz
  simp
def okB (D : Ds) (B : Nat → Int32) : Prop := ∀ (u : Nat) (x : Tb), (dT D)[u]? = some x → ∀ j, j < 16 → tbE x j < 16 ∧ B (u * 16 + j) = bkL (fun y => nI (tbE x y)) (nI j) 16 nM
set_option maxHeartbeats 4000000 in
theorem z_checkAll {F n g : Nat} {T : List Tok} {D : Ds} {B : Nat → Int32} {s : ax_σ} (hF : 241 ≤ F) (hn : n ≤ 240) (hPF : PF n D) (hDB : DB D) (hB : okB D B) (hZ : ZX D s) : ∃ s' rf', f_Z_checkAll F s = some s' ∧ ZFa rf' s' ∧ frm XG s s' ∧ ∀ m, m ≤ rf' ↔ m ≤ 1928 ∧ FN (kD n T g D B) m D := by
  have hO := hPF.tho hn hDB
  obtain ⟨w0, w1, W, ⟨h1, h2⟩, ⟨⟨a1, b1⟩, ⟨a2, b2⟩, ⟨a3, b3⟩⟩, ⟨h4, htb⟩, -⟩ := id hPF
  have hw0 : ∀ q ∈ w0, q < n := fun q hq => h2 q (List.mem_append_left _ (List.mem_append_left _ hq))
  have p1 := hw0 _ a1
  have p2 := hw0 _ a2
  have p3 := hw0 _ a3
  have f0 : frm X53 s (ax_wI s 0 38 53 (nI 0)) := frm.refl.wI _ _ _ _ ⟨rfl, rfl, Or.inl rfl⟩
  have hf0 : ZFa 1928 (ax_wI s 0 38 53 (nI 0)) := Or.inl ⟨rfl, by simp (disch := omega) only [wI_1, wI_2, wL_1, wL_2, true_and, and_true, and_self, false_and, and_false, if_true, if_false, if_pos, if_neg]⟩
  obtain ⟨s1, rf1, c1, c0, c2, c3, c4⟩ := z_conD (c := 2) (¬ isSz 0 D.1.1 = true) (by omega) (show D.1.2 ≤ 240 by omega) hf0
  obtain ⟨s2, rf2, d1, d0, d2, d3, d4⟩ := z_conD (c := 2) (¬ isSz 1 D.2.1.1 = true) (by omega) (show D.2.1.2 ≤ 240 by omega) c2
  obtain ⟨s3, rf3, e1, e0, e2, e3, e4⟩ := z_conD (c := 2) (¬ isSz 2 D.2.2.1.1 = true) (by omega) (show D.2.2.1.2 ≤ 240 by omega) d2
  have fa := f0.trans c4
  have fb := fa.trans d4
  have fc := fb.trans e4
  have h41 := hZ.1.1.2
  have g0 : (ax_wI s 0 38 53 (nI 0)).2 0 41 0 = lN D.1.1 := (f0.2 _ _ _ (by unfold X53; omega)).trans (h41 0 _ rfl).1
  have q0 : (ax_wI s 0 38 53 (nI 0)).1 0 42 0 = nI D.1.2 := (f0.1 _ _ _ (by unfold X53; omega)).trans (h41 0 _ rfl).2
  have g1 : s1.2 0 41 1 = lN D.2.1.1 := (fa.2 _ _ _ (by unfold X53; omega)).trans (h41 1 _ rfl).1
  have q1 : s1.1 0 42 1 = nI D.2.1.2 := (fa.1 _ _ _ (by unfold X53; omega)).trans (h41 1 _ rfl).2
  have g2 : s2.2 0 41 2 = lN D.2.2.1.1 := (fb.2 _ _ _ (by unfold X53; omega)).trans (h41 2 _ rfl).1
  have q2 : s2.1 0 42 2 = nI D.2.2.1.2 := (fb.1 _ _ _ (by unfold X53; omega)).trans (h41 2 _ rfl).2
  have hhd : ∀ m, m ≤ rf3 ↔ m ≤ 1928 ∧ hdN m D := by
    intro m
    rw [e3, d3, c3]
    unfold hdN
    exact ⟨fun k => ⟨k.1.1.1, k.1.1.2, k.1.2, k.2⟩, fun k => ⟨⟨⟨k.1, k.2.1⟩, k.2.2.1⟩, k.2.2.2⟩⟩
  have hstart : f_Z_checkAll F s = (if (s3.1 0 38 53) = (0 : Int32) then Option.bind (lp_Z_checkAll_165 F F (0 : Int32) s3) (fun s45 => Option.bind (lp_Z_checkAll_240 F F (0 : Int32) s45) (fun s75 => some (s75))) else some (s3)) := by
    have hc1 : isSz 0 D.1.1 = true → f_Z_consider (nI 0) (nI 2) (nI D.1.2) (ax_wI s 0 38 53 (nI 0)) = some s1 := fun h => c0 (fun e => e h) _
    have hd1 : isSz 1 D.2.1.1 = true → f_Z_consider (nI 0) (nI 2) (nI D.2.1.2) s1 = some s2 := fun h => d0 (fun e => e h) _
    have he1 : isSz 2 D.2.2.1.1 = true → f_Z_consider (nI 0) (nI 2) (nI D.2.2.1.2) s2 = some s3 := fun h => e0 (fun e => e h) _
    have x0 : Option.bind (if (lg_cmp (lN D.1.1) (8 : Int64)) = (0 : Int32) then some true else bif ax_in (0 : Int32) 3 then if (lg_cmp (lN D.1.1) (16 : Int64)) = (0 : Int32) then some true else bif ax_in (0 : Int32) 3 then if (lg_cmp (lN D.1.1) (32 : Int64)) = (0 : Int32) then some true else bif ax_in (0 : Int32) 3 then if (lg_cmp (lN D.1.1) (64 : Int64)) = (0 : Int32) then some true else some false else none else none else none) (fun w10 => bif w10 then some (0 : Int32) else some (1 : Int32)) = some (if isSz 0 D.1.1 = true then nI 0 else nI 1) := by
      unfold isSz
      simp only [if_true, decide_eq_true_eq]
      by_cases k1 : D.1.1 = 8
      · rw [if_pos (show D.1.1 = 8 ∨ D.1.1 = 16 ∨ D.1.1 = 32 ∨ D.1.1 = 64 by omega)]
        simp (disch := omega) only [ax_let, Option.bind_some, cond_true, cond_false, if_pos, if_neg, if_true, if_false, eq_self, nI_add, nI_ltI, nI_leI, nI_eq, nI_clamp, pu_in, c_0, c_1, c_2, c_3, c_4, c_5, c_6, c_7, c_8, c_9, c_10, c_11, c_12, c_15, c_16, c_17, c_32, c_35, c_36, c_38, c_40, c_41, c_42, c_43, c_44, c_45, c_48, c_57, c_58, c_59, c_60, c_61, c_62, c_64, c_65, c_69, c_75, c_83, c_91, c_93, c_94, c_97, c_105, c_106, c_110, c_119, c_123, c_124, c_125, c_126, c_240, c_256, c_400, c_m, nI_m1, nM_i, lN_add, lN_mul, lN_i, nI_l, lN_eq, lgN_le, lgN_lt, lgN_ge, lgN_gt, nI_sub, nI_mul, d_0, d_1, c_13, c_14, c_18, c_19, c_20, c_21, c_22, c_23, c_24, c_25, c_26, c_27, c_28, c_29, c_30, c_31, c_33, c_34, c_37, c_39, c_46, c_47, c_49, c_50, c_51, c_52, c_53, c_54, c_55, c_56, c_63, c_66, c_67, c_68, c_70, c_71, c_72, c_73, c_74, c_76, c_77, c_78, c_79, c_80, c_81, c_82, c_84, c_85, c_86, c_87, c_88, c_89, c_90, c_92, c_95, c_96, c_98, c_99, c_100, c_101, c_102, c_103, c_104, c_107, c_108, c_109, c_111, c_112, c_113, c_114, c_115, c_116, c_117, c_118, c_120, c_121, c_122, c_127, c_280, d_2, d_3, d_4, d_8, d_9, d_10, d_15, d_16, d_32, d_48, d_62, d_63, d_64, lgN_eq]
      by_cases k2 : D.1.1 = 16
      · rw [if_pos (show D.1.1 = 8 ∨ D.1.1 = 16 ∨ D.1.1 = 32 ∨ D.1.1 = 64 by omega)]
        simp (disch := omega) only [ax_let, Option.bind_some, cond_true, cond_false, if_pos, if_neg, if_true, if_false, eq_self, nI_add, nI_ltI, nI_leI, nI_eq, nI_clamp, pu_in, c_0, c_1, c_2, c_3, c_4, c_5, c_6, c_7, c_8, c_9, c_10, c_11, c_12, c_15, c_16, c_17, c_32, c_35, c_36, c_38, c_40, c_41, c_42, c_43, c_44, c_45, c_48, c_57, c_58, c_59, c_60, c_61, c_62, c_64, c_65, c_69, c_75, c_83, c_91, c_93, c_94, c_97, c_105, c_106, c_110, c_119, c_123, c_124, c_125, c_126, c_240, c_256, c_400, c_m, nI_m1, nM_i, lN_add, lN_mul, lN_i, nI_l, lN_eq, lgN_le, lgN_lt, lgN_ge, lgN_gt, nI_sub, nI_mul, d_0, d_1, c_13, c_14, c_18, c_19, c_20, c_21, c_22, c_23, c_24, c_25, c_26, c_27, c_28, c_29, c_30, c_31, c_33, c_34, c_37, c_39, c_46, c_47, c_49, c_50, c_51, c_52, c_53, c_54, c_55, c_56, c_63, c_66, c_67, c_68, c_70, c_71, c_72, c_73, c_74, c_76, c_77, c_78, c_79, c_80, c_81, c_82, c_84, c_85, c_86, c_87, c_88, c_89, c_90, c_92, c_95, c_96, c_98, c_99, c_100, c_101, c_102, c_103, c_104, c_107, c_108, c_109, c_111, c_112, c_113, c_114, c_115, c_116, c_117, c_118, c_120, c_121, c_122, c_127, c_280, d_2, d_3, d_4, d_8, d_9, d_10, d_15, d_16, d_32, d_48, d_62, d_63, d_64, lgN_eq]
      by_cases k3 : D.1.1 = 32
      · rw [if_pos (show D.1.1 = 8 ∨ D.1.1 = 16 ∨ D.1.1 = 32 ∨ D.1.1 = 64 by omega)]
        simp (disch := omega) only [ax_let, Option.bind_some, cond_true, cond_false, if_pos, if_neg, if_true, if_false, eq_self, nI_add, nI_ltI, nI_leI, nI_eq, nI_clamp, pu_in, c_0, c_1, c_2, c_3, c_4, c_5, c_6, c_7, c_8, c_9, c_10, c_11, c_12, c_15, c_16, c_17, c_32, c_35, c_36, c_38, c_40, c_41, c_42, c_43, c_44, c_45, c_48, c_57, c_58, c_59, c_60, c_61, c_62, c_64, c_65, c_69, c_75, c_83, c_91, c_93, c_94, c_97, c_105, c_106, c_110, c_119, c_123, c_124, c_125, c_126, c_240, c_256, c_400, c_m, nI_m1, nM_i, lN_add, lN_mul, lN_i, nI_l, lN_eq, lgN_le, lgN_lt, lgN_ge, lgN_gt, nI_sub, nI_mul, d_0, d_1, c_13, c_14, c_18, c_19, c_20, c_21, c_22, c_23, c_24, c_25, c_26, c_27, c_28, c_29, c_30, c_31, c_33, c_34, c_37, c_39, c_46, c_47, c_49, c_50, c_51, c_52, c_53, c_54, c_55, c_56, c_63, c_66, c_67, c_68, c_70, c_71, c_72, c_73, c_74, c_76, c_77, c_78, c_79, c_80, c_81, c_82, c_84, c_85, c_86, c_87, c_88, c_89, c_90, c_92, c_95, c_96, c_98, c_99, c_100, c_101, c_102, c_103, c_104, c_107, c_108, c_109, c_111, c_112, c_113, c_114, c_115, c_116, c_117, c_118, c_120, c_121, c_122, c_127, c_280, d_2, d_3, d_4, d_8, d_9, d_10, d_15, d_16, d_32, d_48, d_62, d_63, d_64, lgN_eq]
      by_cases k4 : D.1.1 = 64
      · rw [if_pos (show D.1.1 = 8 ∨ D.1.1 = 16 ∨ D.1.1 = 32 ∨ D.1.1 = 64 by omega)]
        simp (disch := omega) only [ax_let, Option.bind_some, cond_true, cond_false, if_pos, if_neg, if_true, if_false, eq_self, nI_add, nI_ltI, nI_leI, nI_eq, nI_clamp, pu_in, c_0, c_1, c_2, c_3, c_4, c_5, c_6, c_7, c_8, c_9, c_10, c_11, c_12, c_15, c_16, c_17, c_32, c_35, c_36, c_38, c_40, c_41, c_42, c_43, c_44, c_45, c_48, c_57, c_58, c_59, c_60, c_61, c_62, c_64, c_65, c_69, c_75, c_83, c_91, c_93, c_94, c_97, c_105, c_106, c_110, c_119, c_123, c_124, c_125, c_126, c_240, c_256, c_400, c_m, nI_m1, nM_i, lN_add, lN_mul, lN_i, nI_l, lN_eq, lgN_le, lgN_lt, lgN_ge, lgN_gt, nI_sub, nI_mul, d_0, d_1, c_13, c_14, c_18, c_19, c_20, c_21, c_22, c_23, c_24, c_25, c_26, c_27, c_28, c_29, c_30, c_31, c_33, c_34, c_37, c_39, c_46, c_47, c_49, c_50, c_51, c_52, c_53, c_54, c_55, c_56, c_63, c_66, c_67, c_68, c_70, c_71, c_72, c_73, c_74, c_76, c_77, c_78, c_79, c_80, c_81, c_82, c_84, c_85, c_86, c_87, c_88, c_89, c_90, c_92, c_95, c_96, c_98, c_99, c_100, c_101, c_102, c_103, c_104, c_107, c_108, c_109, c_111, c_112, c_113, c_114, c_115, c_116, c_117, c_118, c_120, c_121, c_122, c_127, c_280, d_2, d_3, d_4, d_8, d_9, d_10, d_15, d_16, d_32, d_48, d_62, d_63, d_64, lgN_eq]
      rw [if_neg (show ¬ (D.1.1 = 8 ∨ D.1.1 = 16 ∨ D.1.1 = 32 ∨ D.1.1 = 64) by omega)]
      simp (disch := omega) only [ax_let, Option.bind_some, cond_true, cond_false, if_pos, if_neg, if_true, if_false, eq_self, nI_add, nI_ltI, nI_leI, nI_eq, nI_clamp, pu_in, c_0, c_1, c_2, c_3, c_4, c_5, c_6, c_7, c_8, c_9, c_10, c_11, c_12, c_15, c_16, c_17, c_32, c_35, c_36, c_38, c_40, c_41, c_42, c_43, c_44, c_45, c_48, c_57, c_58, c_59, c_60, c_61, c_62, c_64, c_65, c_69, c_75, c_83, c_91, c_93, c_94, c_97, c_105, c_106, c_110, c_119, c_123, c_124, c_125, c_126, c_240, c_256, c_400, c_m, nI_m1, nM_i, lN_add, lN_mul, lN_i, nI_l, lN_eq, lgN_le, lgN_lt, lgN_ge, lgN_gt, nI_sub, nI_mul, d_0, d_1, c_13, c_14, c_18, c_19, c_20, c_21, c_22, c_23, c_24, c_25, c_26, c_27, c_28, c_29, c_30, c_31, c_33, c_34, c_37, c_39, c_46, c_47, c_49, c_50, c_51, c_52, c_53, c_54, c_55, c_56, c_63, c_66, c_67, c_68, c_70, c_71, c_72, c_73, c_74, c_76, c_77, c_78, c_79, c_80, c_81, c_82, c_84, c_85, c_86, c_87, c_88, c_89, c_90, c_92, c_95, c_96, c_98, c_99, c_100, c_101, c_102, c_103, c_104, c_107, c_108, c_109, c_111, c_112, c_113, c_114, c_115, c_116, c_117, c_118, c_120, c_121, c_122, c_127, c_280, d_2, d_3, d_4, d_8, d_9, d_10, d_15, d_16, d_32, d_48, d_62, d_63, d_64, lgN_eq]
    have x1 : Option.bind (if (lg_cmp (lN D.2.1.1) (2 : Int64)) < (0 : Int32) then some true else bif ax_in (1 : Int32) 3 then if (lg_cmp (lN D.2.1.1) (4 : Int64)) ≤ (0 : Int32) then some false else some true else none) (fun w10 => bif w10 then some (1 : Int32) else some (0 : Int32)) = some (if isSz 1 D.2.1.1 = true then nI 0 else nI 1) := by
      unfold isSz
      simp only [if_true, if_false, decide_eq_true_eq, show ¬ (1 : Nat) = 0 from by omega]
      by_cases k1 : D.2.1.1 < 2
      · rw [if_neg (show ¬ (2 ≤ D.2.1.1 ∧ D.2.1.1 ≤ 4) by omega)]
        simp (disch := omega) only [ax_let, Option.bind_some, cond_true, cond_false, if_pos, if_neg, if_true, if_false, eq_self, nI_add, nI_ltI, nI_leI, nI_eq, nI_clamp, pu_in, c_0, c_1, c_2, c_3, c_4, c_5, c_6, c_7, c_8, c_9, c_10, c_11, c_12, c_15, c_16, c_17, c_32, c_35, c_36, c_38, c_40, c_41, c_42, c_43, c_44, c_45, c_48, c_57, c_58, c_59, c_60, c_61, c_62, c_64, c_65, c_69, c_75, c_83, c_91, c_93, c_94, c_97, c_105, c_106, c_110, c_119, c_123, c_124, c_125, c_126, c_240, c_256, c_400, c_m, nI_m1, nM_i, lN_add, lN_mul, lN_i, nI_l, lN_eq, lgN_le, lgN_lt, lgN_ge, lgN_gt, nI_sub, nI_mul, d_0, d_1, c_13, c_14, c_18, c_19, c_20, c_21, c_22, c_23, c_24, c_25, c_26, c_27, c_28, c_29, c_30, c_31, c_33, c_34, c_37, c_39, c_46, c_47, c_49, c_50, c_51, c_52, c_53, c_54, c_55, c_56, c_63, c_66, c_67, c_68, c_70, c_71, c_72, c_73, c_74, c_76, c_77, c_78, c_79, c_80, c_81, c_82, c_84, c_85, c_86, c_87, c_88, c_89, c_90, c_92, c_95, c_96, c_98, c_99, c_100, c_101, c_102, c_103, c_104, c_107, c_108, c_109, c_111, c_112, c_113, c_114, c_115, c_116, c_117, c_118, c_120, c_121, c_122, c_127, c_280, d_2, d_3, d_4, d_8, d_9, d_10, d_15, d_16, d_32, d_48, d_62, d_63, d_64]
      by_cases k2 : D.2.1.1 ≤ 4
      · rw [if_pos (show 2 ≤ D.2.1.1 ∧ D.2.1.1 ≤ 4 by omega)]
        simp (disch := omega) only [ax_let, Option.bind_some, cond_true, cond_false, if_pos, if_neg, if_true, if_false, eq_self, nI_add, nI_ltI, nI_leI, nI_eq, nI_clamp, pu_in, c_0, c_1, c_2, c_3, c_4, c_5, c_6, c_7, c_8, c_9, c_10, c_11, c_12, c_15, c_16, c_17, c_32, c_35, c_36, c_38, c_40, c_41, c_42, c_43, c_44, c_45, c_48, c_57, c_58, c_59, c_60, c_61, c_62, c_64, c_65, c_69, c_75, c_83, c_91, c_93, c_94, c_97, c_105, c_106, c_110, c_119, c_123, c_124, c_125, c_126, c_240, c_256, c_400, c_m, nI_m1, nM_i, lN_add, lN_mul, lN_i, nI_l, lN_eq, lgN_le, lgN_lt, lgN_ge, lgN_gt, nI_sub, nI_mul, d_0, d_1, c_13, c_14, c_18, c_19, c_20, c_21, c_22, c_23, c_24, c_25, c_26, c_27, c_28, c_29, c_30, c_31, c_33, c_34, c_37, c_39, c_46, c_47, c_49, c_50, c_51, c_52, c_53, c_54, c_55, c_56, c_63, c_66, c_67, c_68, c_70, c_71, c_72, c_73, c_74, c_76, c_77, c_78, c_79, c_80, c_81, c_82, c_84, c_85, c_86, c_87, c_88, c_89, c_90, c_92, c_95, c_96, c_98, c_99, c_100, c_101, c_102, c_103, c_104, c_107, c_108, c_109, c_111, c_112, c_113, c_114, c_115, c_116, c_117, c_118, c_120, c_121, c_122, c_127, c_280, d_2, d_3, d_4, d_8, d_9, d_10, d_15, d_16, d_32, d_48, d_62, d_63, d_64]
      rw [if_neg (show ¬ (2 ≤ D.2.1.1 ∧ D.2.1.1 ≤ 4) by omega)]
      simp (disch := omega) only [ax_let, Option.bind_some, cond_true, cond_false, if_pos, if_neg, if_true, if_false, eq_self, nI_add, nI_ltI, nI_leI, nI_eq, nI_clamp, pu_in, c_0, c_1, c_2, c_3, c_4, c_5, c_6, c_7, c_8, c_9, c_10, c_11, c_12, c_15, c_16, c_17, c_32, c_35, c_36, c_38, c_40, c_41, c_42, c_43, c_44, c_45, c_48, c_57, c_58, c_59, c_60, c_61, c_62, c_64, c_65, c_69, c_75, c_83, c_91, c_93, c_94, c_97, c_105, c_106, c_110, c_119, c_123, c_124, c_125, c_126, c_240, c_256, c_400, c_m, nI_m1, nM_i, lN_add, lN_mul, lN_i, nI_l, lN_eq, lgN_le, lgN_lt, lgN_ge, lgN_gt, nI_sub, nI_mul, d_0, d_1, c_13, c_14, c_18, c_19, c_20, c_21, c_22, c_23, c_24, c_25, c_26, c_27, c_28, c_29, c_30, c_31, c_33, c_34, c_37, c_39, c_46, c_47, c_49, c_50, c_51, c_52, c_53, c_54, c_55, c_56, c_63, c_66, c_67, c_68, c_70, c_71, c_72, c_73, c_74, c_76, c_77, c_78, c_79, c_80, c_81, c_82, c_84, c_85, c_86, c_87, c_88, c_89, c_90, c_92, c_95, c_96, c_98, c_99, c_100, c_101, c_102, c_103, c_104, c_107, c_108, c_109, c_111, c_112, c_113, c_114, c_115, c_116, c_117, c_118, c_120, c_121, c_122, c_127, c_280, d_2, d_3, d_4, d_8, d_9, d_10, d_15, d_16, d_32, d_48, d_62, d_63, d_64]
    have x2 : Option.bind (if (lg_cmp (lN D.2.2.1.1) (1 : Int64)) < (0 : Int32) then some true else bif ax_in (2 : Int32) 3 then if (lg_cmp (lN D.2.2.1.1) (4 : Int64)) ≤ (0 : Int32) then some false else some true else none) (fun w10 => bif w10 then some (1 : Int32) else some (0 : Int32)) = some (if isSz 2 D.2.2.1.1 = true then nI 0 else nI 1) := by
      unfold isSz
      simp only [if_false, decide_eq_true_eq, show ¬ (2 : Nat) = 0 from by omega, show ¬ (2 : Nat) = 1 from by omega]
      by_cases k1 : D.2.2.1.1 < 1
      · rw [if_neg (show ¬ (1 ≤ D.2.2.1.1 ∧ D.2.2.1.1 ≤ 4) by omega)]
        simp (disch := omega) only [ax_let, Option.bind_some, cond_true, cond_false, if_pos, if_neg, if_true, if_false, eq_self, nI_add, nI_ltI, nI_leI, nI_eq, nI_clamp, pu_in, c_0, c_1, c_2, c_3, c_4, c_5, c_6, c_7, c_8, c_9, c_10, c_11, c_12, c_15, c_16, c_17, c_32, c_35, c_36, c_38, c_40, c_41, c_42, c_43, c_44, c_45, c_48, c_57, c_58, c_59, c_60, c_61, c_62, c_64, c_65, c_69, c_75, c_83, c_91, c_93, c_94, c_97, c_105, c_106, c_110, c_119, c_123, c_124, c_125, c_126, c_240, c_256, c_400, c_m, nI_m1, nM_i, lN_add, lN_mul, lN_i, nI_l, lN_eq, lgN_le, lgN_lt, lgN_ge, lgN_gt, nI_sub, nI_mul, d_0, d_1, c_13, c_14, c_18, c_19, c_20, c_21, c_22, c_23, c_24, c_25, c_26, c_27, c_28, c_29, c_30, c_31, c_33, c_34, c_37, c_39, c_46, c_47, c_49, c_50, c_51, c_52, c_53, c_54, c_55, c_56, c_63, c_66, c_67, c_68, c_70, c_71, c_72, c_73, c_74, c_76, c_77, c_78, c_79, c_80, c_81, c_82, c_84, c_85, c_86, c_87, c_88, c_89, c_90, c_92, c_95, c_96, c_98, c_99, c_100, c_101, c_102, c_103, c_104, c_107, c_108, c_109, c_111, c_112, c_113, c_114, c_115, c_116, c_117, c_118, c_120, c_121, c_122, c_127, c_280, d_2, d_3, d_4, d_8, d_9, d_10, d_15, d_16, d_32, d_48, d_62, d_63, d_64]
      by_cases k2 : D.2.2.1.1 ≤ 4
      · rw [if_pos (show 1 ≤ D.2.2.1.1 ∧ D.2.2.1.1 ≤ 4 by omega)]
        simp (disch := omega) only [ax_let, Option.bind_some, cond_true, cond_false, if_pos, if_neg, if_true, if_false, eq_self, nI_add, nI_ltI, nI_leI, nI_eq, nI_clamp, pu_in, c_0, c_1, c_2, c_3, c_4, c_5, c_6, c_7, c_8, c_9, c_10, c_11, c_12, c_15, c_16, c_17, c_32, c_35, c_36, c_38, c_40, c_41, c_42, c_43, c_44, c_45, c_48, c_57, c_58, c_59, c_60, c_61, c_62, c_64, c_65, c_69, c_75, c_83, c_91, c_93, c_94, c_97, c_105, c_106, c_110, c_119, c_123, c_124, c_125, c_126, c_240, c_256, c_400, c_m, nI_m1, nM_i, lN_add, lN_mul, lN_i, nI_l, lN_eq, lgN_le, lgN_lt, lgN_ge, lgN_gt, nI_sub, nI_mul, d_0, d_1, c_13, c_14, c_18, c_19, c_20, c_21, c_22, c_23, c_24, c_25, c_26, c_27, c_28, c_29, c_30, c_31, c_33, c_34, c_37, c_39, c_46, c_47, c_49, c_50, c_51, c_52, c_53, c_54, c_55, c_56, c_63, c_66, c_67, c_68, c_70, c_71, c_72, c_73, c_74, c_76, c_77, c_78, c_79, c_80, c_81, c_82, c_84, c_85, c_86, c_87, c_88, c_89, c_90, c_92, c_95, c_96, c_98, c_99, c_100, c_101, c_102, c_103, c_104, c_107, c_108, c_109, c_111, c_112, c_113, c_114, c_115, c_116, c_117, c_118, c_120, c_121, c_122, c_127, c_280, d_2, d_3, d_4, d_8, d_9, d_10, d_15, d_16, d_32, d_48, d_62, d_63, d_64]
      rw [if_neg (show ¬ (1 ≤ D.2.2.1.1 ∧ D.2.2.1.1 ≤ 4) by omega)]
      simp (disch := omega) only [ax_let, Option.bind_some, cond_true, cond_false, if_pos, if_neg, if_true, if_false, eq_self, nI_add, nI_ltI, nI_leI, nI_eq, nI_clamp, pu_in, c_0, c_1, c_2, c_3, c_4, c_5, c_6, c_7, c_8, c_9, c_10, c_11, c_12, c_15, c_16, c_17, c_32, c_35, c_36, c_38, c_40, c_41, c_42, c_43, c_44, c_45, c_48, c_57, c_58, c_59, c_60, c_61, c_62, c_64, c_65, c_69, c_75, c_83, c_91, c_93, c_94, c_97, c_105, c_106, c_110, c_119, c_123, c_124, c_125, c_126, c_240, c_256, c_400, c_m, nI_m1, nM_i, lN_add, lN_mul, lN_i, nI_l, lN_eq, lgN_le, lgN_lt, lgN_ge, lgN_gt, nI_sub, nI_mul, d_0, d_1, c_13, c_14, c_18, c_19, c_20, c_21, c_22, c_23, c_24, c_25, c_26, c_27, c_28, c_29, c_30, c_31, c_33, c_34, c_37, c_39, c_46, c_47, c_49, c_50, c_51, c_52, c_53, c_54, c_55, c_56, c_63, c_66, c_67, c_68, c_70, c_71, c_72, c_73, c_74, c_76, c_77, c_78, c_79, c_80, c_81, c_82, c_84, c_85, c_86, c_87, c_88, c_89, c_90, c_92, c_95, c_96, c_98, c_99, c_100, c_101, c_102, c_103, c_104, c_107, c_108, c_109, c_111, c_112, c_113, c_114, c_115, c_116, c_117, c_118, c_120, c_121, c_122, c_127, c_280, d_2, d_3, d_4, d_8, d_9, d_10, d_15, d_16, d_32, d_48, d_62, d_63, d_64]
    have y0 : f_Z_consider (if isSz 0 D.1.1 = true then nI 0 else nI 1) (2 : Int32) (nI D.1.2) (ax_wI s 0 38 53 (nI 0)) = some s1 := by
      by_cases h : isSz 0 D.1.1 = true
      · rw [if_pos h]; exact hc1 h
      · rw [if_neg h]; exact c1 h
    have y1 : f_Z_consider (if isSz 1 D.2.1.1 = true then nI 0 else nI 1) (2 : Int32) (nI D.2.1.2) s1 = some s2 := by
      by_cases h : isSz 1 D.2.1.1 = true
      · rw [if_pos h]; exact hd1 h
      · rw [if_neg h]; exact d1 h
    have y2 : f_Z_consider (if isSz 2 D.2.2.1.1 = true then nI 0 else nI 1) (2 : Int32) (nI D.2.2.1.2) s2 = some s3 := by
      by_cases h : isSz 2 D.2.2.1.1 = true
      · rw [if_pos h]; exact he1 h
      · rw [if_neg h]; exact e1 h
    have i0 : ax_in (0 : Int32) 3 = true := by decide
    have i1 : ax_in (1 : Int32) 3 = true := by decide
    have i2 : ax_in (2 : Int32) 3 = true := by decide
    have n0 : ((0 : Int32)).toNatClampNeg = 0 := by decide
    have n1 : ((1 : Int32)).toNatClampNeg = 1 := by decide
    have n2 : ((2 : Int32)).toNatClampNeg = 2 := by decide
    rw [i0] at x0
    rw [i1, cond_true] at x1
    rw [i2, cond_true] at x2
    have g0' : (ax_wI s 0 38 53 (0 : Int32)).2 0 41 0 = lN D.1.1 := g0
    have q0' : (ax_wI s 0 38 53 (0 : Int32)).1 0 42 0 = nI D.1.2 := q0
    have y0' : f_Z_consider (if isSz 0 D.1.1 = true then nI 0 else nI 1) (2 : Int32) (nI D.1.2) (ax_wI s 0 38 53 (0 : Int32)) = some s1 := y0
    unfold f_Z_checkAll
    simp only [ax_let]
    rw [i0, n0, g0', x0, i1, n1, i2, n2]
    simp only [cond_true, Option.bind_some]
    rw [q0', y0', Option.bind_some, g1, x1, Option.bind_some, q1, y1, Option.bind_some, g2, x2, Option.bind_some, q2, y2, Option.bind_some]
  have hnz : rf3 ≠ 1928 → ¬ s3.1 0 38 53 = (0 : Int32) := by
    intro h
    rcases e2 with ⟨a, -⟩ | ⟨p, c, a, b, -, d, -⟩
    · exact absurd a h
    · rw [d, show (0 : Int32) = nI 0 from rfl, nI_eq (by omega) (by omega)]
      omega
  by_cases hv : vD D
  · have hr3 : rf3 = 1928 := by
      have hh : 1928 ≤ rf3 := by
        rw [hhd]
        obtain ⟨v1, v2, v3⟩ := vD_iff.mp hv
        exact ⟨Nat.le_refl _, fun e => absurd v1 e, fun e => absurd v2 e, fun e => absurd v3 e⟩
      have := ((hhd rf3).mp (Nat.le_refl _)).1
      omega
    have h53 : s3.1 0 38 53 = (0 : Int32) := by
      rcases e2 with ⟨-, a⟩ | ⟨p, c, a, b, d, -⟩
      · exact a
      · omega
    have hZ3 := hZ.keep fc (fun r k h => by unfold X53; unfold XX at h; omega)
    have hto : ∀ x ∈ dT D, ∀ m a : Nat × Nat, x.2 = [m, a] → m.1 < 10 ^ 9 ∧ a.1 < 10 ^ 9 ∧ m.2 < n ∧ a.2 < n := by
      intro x hx m a e
      rcases h4 x hx with ⟨e', -⟩ | ⟨m', a', e', x1, x2, x3, x4⟩
      · rw [e'] at e; cases e
      · rw [e'] at e
        cases e
        exact ⟨x1, x2, h2 _ (List.mem_append_left _ (List.mem_append_right _ x3)), h2 _ (List.mem_append_left _ (List.mem_append_right _ x4))⟩
    obtain ⟨s4, rf4, t1, t2, t3, t4⟩ := ct_165 (F := F) hF hn htb hto (dT D).length 0 F rf3 s3 (by omega) (by omega) hZ3 e2
    have hZ4 := hZ3.keep t4 (fun r k h => by unfold X53; unfold XX at h; omega)
    obtain ⟨-, -, -, hTB, l1, l2, -⟩ := id hO
    have hKd := hZ4.kd hDB (fun t ht => ⟨(hTB t ht).1, fun e => ((hTB t ht).2 e).1⟩)
    have hlen := hDB.1
    have hlen2 : (dW D).length + (dSt D).length ≤ 240 := by unfold dH at hlen; rw [List.length_append] at hlen; exact hlen
    have hbb : (dW D).length * 16 ^ 2 ≤ 240 * 16 ^ 2 := Nat.mul_le_mul_right _ (by omega)
    have hbc : (dSt D).length * 16 ^ 2 ≤ 240 * 16 ^ 2 := Nat.mul_le_mul_right _ (by omega)
    have hwtb := wt_le (f := skW) (fun t => by unfold skW; split <;> omega) l1
    obtain ⟨s5, rf5, u1, u2, u3, u4⟩ := ca_all (wr := true) (K := kD n T g D B) hF hO hv ⟨rfl, rfl, rfl, hB⟩ l1 [] [] (dSt D) 0 rf4 s4 ⟨rfl, rfl, rfl⟩ rfl (fun _ => by rw [List.length_nil]; omega) (fun e => by cases e) (by omega) (fun c hc => by cases hc) hZ4 hKd t2
    have hZ5 := hZ4.keep u4 (fun r k h => XG.q h)
    have hKd5 := hKd.keep u4 (fun r k h => XG.q (by unfold XX; omega))
    obtain ⟨s6, rf6, r1, r2, r3, r4⟩ := ca_all (wr := false) (K := kSn (kD n T g D B) (kst (kD n T g D B))) hF hO hv ⟨rfl, rfl, rfl, hB⟩ l2 [] (dW D) [] (wt skW (dW D)) rf5 s5 ⟨by rw [List.append_nil]; rfl, l1, rfl⟩ rfl (fun e => by cases e) (fun _ => Nat.le_refl _) (by omega) (fun c hc => by cases hc) hZ5 hKd5 u2
    refine ⟨s6, rf6, ?_, r2, ((XG.ofC fc).trans (XG.ofC t4)).trans (u4.trans r4), fun m => ?_⟩
    · have t1 : lp_Z_checkAll_165 F F (0 : Int32) s3 = some s4 := t1
      have hdl : (dH D).length = (dW D).length + (dSt D).length := List.length_append
      have hend : lp_Z_checkAll_240 F F (0 : Int32) s4 = some s6 := by
        have u1' := u1 (F - (dH D).length - 1 + 1 + (dSt D).length)
        have r1' := r1 (F - (dH D).length - 1 + 1)
        rw [List.length_nil, Nat.zero_add, show F - (dH D).length - 1 + 1 + (dSt D).length + (dW D).length = F from by omega] at u1'
        rw [← hdl] at r1'
        have h22 : s6.1 0 38 22 = nI (dH D).length := (hZ5.keep r4 (fun r k h => XG.q h)).2.2.2.2.2
        show lp_Z_checkAll_240 F F (nI 0) s4 = some s6
        rw [u1', r1', lp_Z_checkAll_240, h22, if_pos (Int32.le_refl _)]
      rw [hstart, if_pos h53, t1, Option.bind_some, hend]
      rfl
    · rw [r3, u3, t3, hhd]
      unfold FN
      have ht : (∀ i x, 0 ≤ i → (dT D)[i]? = some x → tbN m x) ↔ ∀ x ∈ dT D, tbN m x := by
        constructor
        · intro h x hx
          obtain ⟨i, hi⟩ := List.getElem?_of_mem hx
          exact h i x (Nat.zero_le _) hi
        · intro h i x _ hi
          exact h x (List.mem_of_getElem? hi)
      rw [ht]
      exact ⟨fun k => ⟨k.1.1.1.1, k.1.1.1.2, k.1.1.2, k.1.2.1, k.2.1, k.1.2.2, k.2.2⟩, fun k => ⟨⟨⟨⟨k.1, k.2.1⟩, k.2.2.1⟩, k.2.2.2.1, k.2.2.2.2.2.1⟩, k.2.2.2.2.1, k.2.2.2.2.2.2⟩⟩
  · have hne : rf3 ≠ 1928 := by
      intro e
      have hh := ((hhd 1928).mp (by omega)).2
      have : ¬ (isSz 0 D.1.1 = true ∧ isSz 1 D.2.1.1 = true ∧ isSz 2 D.2.2.1.1 = true) := fun k => hv (vD_iff.mpr k)
      by_cases v1 : isSz 0 D.1.1 = true
      · by_cases v2 : isSz 1 D.2.1.1 = true
        · by_cases v3 : isSz 2 D.2.2.1.1 = true
          · exact this ⟨v1, v2, v3⟩
          · have := hh.2.2 v3; omega
        · have := hh.2.1 v2; omega
      · have := hh.1 v1; omega
    refine ⟨s3, rf3, by rw [hstart, if_neg (hnz hne)], e2, XG.ofC fc, fun m => ?_⟩
    rw [hhd]
    unfold FN
    refine ⟨fun k => ⟨k.1, k.2, ?_⟩, fun k => ⟨k.1, k.2.1⟩⟩
    have : ¬ (isSz 0 D.1.1 = true ∧ isSz 1 D.2.1.1 = true ∧ isSz 2 D.2.2.1.1 = true) := fun k => hv (vD_iff.mpr k)
    by_cases v1 : isSz 0 D.1.1 = true
    · by_cases v2 : isSz 1 D.2.1.1 = true
      · by_cases v3 : isSz 2 D.2.2.1.1 = true
        · exact absurd ⟨v1, v2, v3⟩ this
        · exact FN_tr hPF (k.2.2.2 v3) (Or.inr (Or.inr rfl))
      · exact FN_tr hPF (k.2.2.1 v2) (Or.inr (Or.inl rfl))
    · exact FN_tr hPF (k.2.1 v1) (Or.inl rfl)
