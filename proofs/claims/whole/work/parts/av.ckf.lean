/-! PURE: the least fault that the class finds, by what it is not above -/
theorem PX_mem {lim : Nat} {l : List Th} {x : C5} (h : lv lim 0 l = some 0) : ∀ L, x ∈ PX l L → ∃ t ∈ l, thk t ≠ 2 ∧ thk t ≠ 3 ∧ ∃ L', x ∈ p5L L' t := by
  refine dyck (P := fun _ l => ∀ L, x ∈ PX l L → ∃ t ∈ l, thk t ≠ 2 ∧ thk t ≠ 3 ∧ ∃ L', x ∈ p5L L' t) h (fun _ _ hx => by cases hx) ?_ ?_
  · intro lim t r e2 e3 hr ih L hx
    rw [PX_leaf e2 e3 hr] at hx
    rcases List.mem_append.mp hx with hx | hx
    · exact ⟨t, List.mem_cons_self .., e2, e3, L, hx⟩
    · obtain ⟨t', h1, h2⟩ := ih L hx
      exact ⟨t', List.mem_cons_of_mem _ h1, h2⟩
  · intro lim o b c r e2 e3 hm hr i1 i2 L hx
    rw [PX_loop e2 e3 hm hr] at hx
    rcases List.mem_append.mp hx with hx | hx
    · obtain ⟨t', h1, h2⟩ := i1 _ hx
      exact ⟨t', List.mem_cons_of_mem _ (List.mem_append_left _ h1), h2⟩
    · obtain ⟨t', h1, h2⟩ := i2 _ hx
      exact ⟨t', List.mem_cons_of_mem _ (List.mem_append_right _ (List.mem_cons_of_mem _ h1)), h2⟩
theorem okTh_n {wr : Bool} {w : List Nat} {t : Th} (h : okTh wr w t) : ∀ x ∈ thn t, x.1 < 10 ^ 9 ∧ x.2 ∈ w := by
  obtain ⟨-, h⟩ := h
  rcases h with ⟨-, -, -, -, -, d⟩ | ⟨-, -, d⟩ | ⟨-, -, -, d, -⟩ | ⟨-, -, c⟩
  · rw [d]; exact fun o ho => by cases ho
  · rw [d]; exact fun o ho => by cases ho
  · rw [d]; exact fun o ho => by cases ho
  · rcases c with ⟨-, -, -, x⟩ | ⟨-, -, -, -, x⟩ | ⟨-, -, -, -, x⟩ | ⟨-, -, -, x⟩
    · have : thn t = [] := x
      rw [this]; exact fun o ho => by cases ho
    · have : thn t = [] := x
      rw [this]; exact fun o ho => by cases ho
    · have : thn t = [] := x
      rw [this]; exact fun o ho => by cases ho
    · exact x
theorem PX_w {n lim : Nat} {l : List Th} {L : List Nat} (hn : n ≤ 240) (h : lv lim 0 l = some 0) (hX : ∀ t ∈ l, thX n t) (hN : ∀ t ∈ l, ∀ x ∈ thn t, x.1 < 10 ^ 9) : ∀ x ∈ PX l L, PW x := by
  intro x hx
  obtain ⟨t, ht, e2, e3, L', hx'⟩ := PX_mem h L hx
  unfold p5L at hx'
  have ho := ((hX t ht).2 e2 e3).2
  have k1 : ∀ y ∈ (the t).map (cO L'), PW y := by
    intro y hy
    obtain ⟨o, h1, rfl⟩ := List.mem_map.mp hy
    exact (cO_w hn (ho o h1).1 (ho o h1).2).1
  split at hx'
  · exact k1 x hx'
  · rcases List.mem_append.mp hx' with hx' | hx'
    · exact k1 x hx'
    · obtain ⟨y, h1, rfl⟩ := List.mem_map.mp hx'
      have := hN t ht y h1
      exact pw_mk (by omega) (by omega) (by omega) (by omega) (Or.inl rfl)
theorem RC.pm {g : Nat} {P : List CP} {P5 : List C5} {s : ax_σ} (h : RC g P s) (e : P.map cp5 = P5) : PM g P5 s := by
  refine ⟨by rw [← e, List.length_map]; exact h.1, fun i x hi => ?_⟩
  rw [← e, List.getElem?_map] at hi
  match hp : P[i]?, hi with
  | some y, hi =>
    cases hi
    obtain ⟨a, b, c, d, e, -⟩ := h.2.2 i y hp
    exact ⟨a, b, c, d, e⟩
/-- what follows of the things of a description -/
theorem PF.all {n : Nat} {D : Ds} (h : PF n D) (hB : DB D) : 0 < n ∧ (∀ t ∈ dH D, thX n t) ∧ (∀ t ∈ dH D, ∀ x ∈ thn t, x.1 < 10 ^ 9 ∧ x.2 < n) ∧ (dH D).Pairwise sqT ∧ lv 2 0 (dW D) = some 0 ∧ lv 2 0 (dSt D) = some 0 ∧ (∀ t ∈ dSt D, thk t ≠ 1) ∧ (∀ t ∈ dW D, thk t ≠ 2 → thk t ≠ 3 → thk t = 1) ∧ ((dW D).length ≤ 240 ∧ (dSt D).length ≤ 240) := by
  obtain ⟨w0, w1, W, ⟨h1, h2⟩, ⟨⟨h3, -⟩, -⟩, -, h6, h7, h8, h9, h10⟩ := h
  have hn : 0 < n := by
    have := h2 _ (List.mem_append_left _ (List.mem_append_left _ h3))
    omega
  have ok := PF.okH (n := n) h6 h7 h8
  have hw : ∀ {k : Nat} {w : List Nat}, W[k]? = some w → ∀ q ∈ w, q < n := fun hk q hq => h2 q (List.mem_append_right _ (List.mem_flatten.mpr ⟨_, List.mem_of_getElem? hk, hq⟩))
  have hX : ∀ t ∈ dH D, thX n t := by
    intro t ht
    obtain ⟨k, hk⟩ := List.getElem?_of_mem ht
    obtain ⟨w, e1, e2⟩ := ok k t hk
    refine okTh_X hn (hw e1) (fun o ho => ?_) e2
    have a1 : o ∈ (dH D).flatMap the := List.mem_flatMap.mpr ⟨t, ht, ho⟩
    have a2 : (opT o).length ≤ _ := fm_len (f := opT) a1
    have a3 := hB.2.2.1
    have a4 : (opT o).length ≤ 240 := Nat.le_trans a2 a3
    exact a4
  have hs : ∀ (wr : Bool) (w : List Nat) (t : Th), okTh wr w t → (wr = false → thk t ≠ 1) ∧ (wr = true → thk t ≠ 2 → thk t ≠ 3 → thk t = 1) := by
    intro wr w t ⟨_, h⟩
    rcases h with ⟨a, -⟩ | ⟨a, -⟩ | ⟨a, b, -⟩ | ⟨a, -, c⟩
    · exact ⟨fun _ => by omega, fun _ e => absurd a e⟩
    · exact ⟨fun _ => by omega, fun _ _ e => absurd a e⟩
    · exact ⟨fun e => absurd (a.symm.trans e) (by decide), fun _ _ _ => b⟩
    · refine ⟨fun _ => ?_, fun e => absurd (a.symm.trans e) (by decide)⟩
      rcases c with ⟨x, -⟩ | ⟨x, -⟩ | ⟨x, -⟩ | ⟨x, -⟩ <;> simp only [wkOf] at x <;> omega
  refine ⟨hn, hX, fun t ht x hx => ?_, okH_pw ok ((List.pairwise_append.mp h1).2.1), h9, h10, fun t ht => ?_, fun t ht => ?_, ?_⟩
  · obtain ⟨k, hk⟩ := List.getElem?_of_mem ht
    obtain ⟨w, e1, e2⟩ := ok k t hk
    obtain ⟨a, b⟩ := okTh_n e2 x hx
    exact ⟨a, hw e1 _ b⟩
  · obtain ⟨k, hk⟩ := List.getElem?_of_mem ht
    have hlt := get_lt hk
    have hlen : W.length = (dW D).length + (dSt D).length := by rw [h6]; exact List.length_append
    exact (hs _ _ _ (h8 k t _ hk (List.getElem?_eq_getElem (by omega)))).1 rfl
  · obtain ⟨k, hk⟩ := List.getElem?_of_mem ht
    have hlt := get_lt hk
    have hlen : W.length = (dW D).length + (dSt D).length := by rw [h6]; exact List.length_append
    exact (hs _ _ _ (h7 k t _ hk (List.getElem?_eq_getElem (by omega)))).2 rfl
  · have a := hB.1
    unfold dH at a
    rw [List.length_append] at a
    omega
theorem rd_checkAll {F n g : Nat} {T : List Tok} {D : Ds} {B : Nat → Int32} {s : ax_σ} (hF : 241 ≤ F) (hn : n ≤ 240) (hPF : PF n D) (hDB : DB D) (h : RBc (kSn (kD n T g D B) (kst (kD n T g D B))) [] (cD (kD n T g D B) D) s) : ∃ s' lf', f_R_checkIndexes F g s = some s' ∧ s'.1 0 25 7 = nI lf' ∧ lf' ≤ 1928 ∧ frm XQ s s' ∧ ∀ m, m ≤ lf' ↔ m ≤ 1928 ∧ FN (kD n T g D B) m D := by
  obtain ⟨p1, p2, p3, p4, p5, p6, p7, p8, p9, p10⟩ := hPF.all hDB
  have hcD := cD_eq p5 p6 p7 p8 (kD n T g D B) rfl
  generalize hK : kD n T g D B = K at *
  rw [hcD] at h
  unfold RBc at h
  simp only [cLs, cP, cLf, cSk, cSp, cIn, cRg, cOq] at h
  obtain ⟨⟨P, ⟨hA, hlf, hl2, hRC, hPl⟩, hmap⟩, hRL, hNM, -, -, -, ⟨hk1, hk2, hk3, hk4, hk5⟩, -⟩ := h
  have hg : kg (kSn K (kst K)) = g := by rw [← hK]; rfl
  rw [hg] at hRC hRL hNM
  have hky : kky (kSn K (kst K)) = kky K := rfl
  have htot : wt skW (dW D) ≤ (dW D).length * 16 ^ 2 := wt_le (fun t => by unfold skW; split <;> omega) p5
  have hb16 : (dW D).length * 16 ^ 2 ≤ 240 * 16 ^ 2 := Nat.mul_le_mul_right _ p9
  have hb17 : (dSt D).length * 16 ^ 2 ≤ 240 * 16 ^ 2 := Nat.mul_le_mul_right _ p10
  have hM0 : CKM g ((lx (dW D)).2.2 0 0 0 ++ (lx (dSt D)).2.2 ((lx (dW D)).2.2 0 0 0).length (PX (dW D) []).length (wt skW (dW D))) (PX (dW D) [] ++ PX (dSt D) []) (wt skW (dW D)) (kky K) s := ⟨hRL, hRC.pm hmap, hNM.2 4 _ rfl, hNM.2 2 _ rfl, by omega, by rw [← hky]; omega⟩
  generalize hLs : (lx (dW D)).2.2 0 0 0 ++ (lx (dSt D)).2.2 ((lx (dW D)).2.2 0 0 0).length (PX (dW D) []).length (wt skW (dW D)) = LsF at *
  generalize hP5 : PX (dW D) [] ++ PX (dSt D) [] = P5F at *
  have hXw : ∀ t ∈ dW D, thX n t := fun t ht => p2 t (List.mem_append_left _ ht)
  have hXs : ∀ t ∈ dSt D, thX n t := fun t ht => p2 t (List.mem_append_right _ ht)
  have hW : ∀ x ∈ P5F, PW x := by
    intro x hx
    rw [← hP5] at hx
    rcases List.mem_append.mp hx with hx | hx
    · exact PX_w hn p5 hXw (fun t ht x hx => (p3 t (List.mem_append_left _ ht) x hx).1) x hx
    · exact PX_w hn p6 hXs (fun t ht x hx => (p3 t (List.mem_append_right _ ht) x hx).1) x hx
  obtain ⟨s1, a1, a2, a3⟩ := ck_2 (F := F) (g := g) (s := s) hF
  have a4 : frm XQ s s1 := a3.imp (fun g r k h => by unfold XQ; omega)
  obtain ⟨s2, lf2, q2, S2, b1, b2, b3, b4, b5, b6, b7, b8⟩ := ck_all (F := F) (g := g) (tot := wt skW (dW D)) (ky := kky K) hF hn hW p5 [] ((lx (dSt D)).2.2 ((lx (dW D)).2.2 0 0 0).length (PX (dW D) []).length (wt skW (dW D))) [] (PX (dSt D) []) [] (1, 1, 0, 0) 0 _ s1 hLs.symm hP5.symm (hM0.keep a4) a2 ((a3.1 0 25 7 (by omega)).trans hlf) hl2 (by omega) hXw p9 (by omega)
  obtain ⟨s3, lf3, q3, S3, c1, c2, c3, c4, c5, c6, c7, c8⟩ := ck_all (F := F) (g := g) (tot := wt skW (dW D)) (ky := kky K) hF hn hW p6 ((lx (dW D)).2.2 0 0 0) [] (PX (dW D) []) [] [] q2 (wt skW (dW D)) lf2 s2 (by rw [List.append_nil]; exact hLs.symm) (by rw [List.append_nil]; exact hP5.symm) ((hM0.keep a4).keep b5) b4 b2 b3 (by omega) hXs p10 (by omega)
  have hM3 := ((hM0.keep a4).keep b5).keep c5
  have hlen : LsF.length = ((lx (dW D)).2.2 0 0 0).length + ((lx (dSt D)).2.2 ((lx (dW D)).2.2 0 0 0).length (PX (dW D) []).length (wt skW (dW D))).length := by rw [← hLs, List.length_append]
  have hl120 := hM3.1.1
  refine ⟨s3, lf3, ?_, c2, c3, (a4.trans b5).trans c5, fun m => ?_⟩
  · have e1 : lp_R_checkIndexes_29 F g F (nI 0) s1 = some s3 := by
      have b1' := b1 (F - LsF.length - 1 + 1 + ((lx (dSt D)).2.2 ((lx (dW D)).2.2 0 0 0).length (PX (dW D) []).length (wt skW (dW D))).length)
      have c1' := c1 (F - LsF.length - 1 + 1)
      simp only [List.length_nil, Nat.zero_add] at b1'
      rw [← hlen] at c1'
      rw [show F - LsF.length - 1 + 1 + ((lx (dSt D)).2.2 ((lx (dW D)).2.2 0 0 0).length (PX (dW D) []).length (wt skW (dW D))).length + ((lx (dW D)).2.2 0 0 0).length = F from by omega] at b1'
      rw [b1', c1', lp_R_checkIndexes_29]
      have h13 := hM3.1.2.1
      simp (disch := omega) only [ax_let, Option.bind_some, cond_true, cond_false, if_pos, if_neg, if_true, if_false, eq_self, nI_add, nI_ltI, nI_leI, nI_eq, nI_clamp, pu_in, c_0, c_1, c_2, c_3, c_4, c_5, c_6, c_7, c_8, c_9, c_10, c_11, c_12, c_15, c_16, c_17, c_32, c_35, c_36, c_38, c_40, c_41, c_42, c_43, c_44, c_45, c_48, c_57, c_58, c_59, c_60, c_61, c_62, c_64, c_65, c_69, c_75, c_83, c_91, c_93, c_94, c_97, c_105, c_106, c_110, c_119, c_123, c_124, c_125, c_126, c_240, c_256, c_400, c_m, nI_m1, nM_i, lN_add, lN_mul, lN_i, nI_l, lN_eq, lgN_le, lgN_lt, lgN_ge, lgN_gt, nI_sub, nI_mul, d_0, d_1, c_13, c_14, c_18, c_19, c_20, c_21, c_22, c_23, c_24, c_25, c_26, c_27, c_28, c_29, c_30, c_31, c_33, c_34, c_37, c_39, c_46, c_47, c_49, c_50, c_51, c_52, c_53, c_54, c_55, c_56, c_63, c_66, c_67, c_68, c_70, c_71, c_72, c_73, c_74, c_76, c_77, c_78, c_79, c_80, c_81, c_82, c_84, c_85, c_86, c_87, c_88, c_89, c_90, c_92, c_95, c_96, c_98, c_99, c_100, c_101, c_102, c_103, c_104, c_107, c_108, c_109, c_111, c_112, c_113, c_114, c_115, c_116, c_117, c_118, c_120, c_121, c_122, c_127, c_280, d_2, d_3, d_4, d_8, d_9, d_10, d_15, d_16, d_32, d_48, d_62, d_63, d_64, h13]
    unfold f_R_checkIndexes
    simp (disch := omega) only [ax_let, Option.bind_some, cond_true, cond_false, if_pos, if_neg, if_true, if_false, eq_self, nI_add, nI_ltI, nI_leI, nI_eq, nI_clamp, pu_in, c_0, c_1, c_2, c_3, c_4, c_5, c_6, c_7, c_8, c_9, c_10, c_11, c_12, c_15, c_16, c_17, c_32, c_35, c_36, c_38, c_40, c_41, c_42, c_43, c_44, c_45, c_48, c_57, c_58, c_59, c_60, c_61, c_62, c_64, c_65, c_69, c_75, c_83, c_91, c_93, c_94, c_97, c_105, c_106, c_110, c_119, c_123, c_124, c_125, c_126, c_240, c_256, c_400, c_m, nI_m1, nM_i, lN_add, lN_mul, lN_i, nI_l, lN_eq, lgN_le, lgN_lt, lgN_ge, lgN_gt, nI_sub, nI_mul, d_0, d_1, c_13, c_14, c_18, c_19, c_20, c_21, c_22, c_23, c_24, c_25, c_26, c_27, c_28, c_29, c_30, c_31, c_33, c_34, c_37, c_39, c_46, c_47, c_49, c_50, c_51, c_52, c_53, c_54, c_55, c_56, c_63, c_66, c_67, c_68, c_70, c_71, c_72, c_73, c_74, c_76, c_77, c_78, c_79, c_80, c_81, c_82, c_84, c_85, c_86, c_87, c_88, c_89, c_90, c_92, c_95, c_96, c_98, c_99, c_100, c_101, c_102, c_103, c_104, c_107, c_108, c_109, c_111, c_112, c_113, c_114, c_115, c_116, c_117, c_118, c_120, c_121, c_122, c_127, c_280, d_2, d_3, d_4, d_8, d_9, d_10, d_15, d_16, d_32, d_48, d_62, d_63, d_64, a1, e1]
  · rw [c6, b6, le_LFX p6, le_LFX p5, le_lfD]
    unfold FN
    have key : NX K m (dW D) [] → NX (kSn K (kst K)) m (dSt D) [] → (S2 m ∧ S3 m ↔ GX m (wt skW (dW D)) (kky K) (dW D) [] 0 ∧ GX m (wt skW (dW D)) (kky K) (dSt D) [] (wt skW (dW D))) := by
      intro n1 n2
      have hpw := List.pairwise_append.mp p4
      obtain ⟨d1, d2⟩ := b8 m [] K trivial (by simp) rfl rfl n1 hpw.1
      rcases d2 with d2 | ⟨o, h1, h2, p, h3, h4⟩
      · obtain ⟨x1, -⟩ := c8 m [] (kSn K (kst K)) trivial (by simp) rfl d2 n2 hpw.2.1
        exact and_congr d1 x1
      · have hab : ab p (dSt D) := by
          intro t ht x hx hi
          have := hpw.2.2 o h1 t ht h2 x hx hi
          rcases h3 with rfl | rfl
          · exact this.1
          · exact this.2
        exact and_congr d1 ⟨fun _ => gx_ab p6 h4 hab _ _, fun _ => c7 m p h4 hab⟩
    constructor
    · rintro ⟨⟨⟨⟨⟨x1, x2, x3⟩, x4⟩, x5⟩, x6⟩, x7⟩
      have := (key x4 x5).mp ⟨x6, x7⟩
      exact ⟨x1, x2, x3, x4, x5, this.1, this.2⟩
    · rintro ⟨x1, x2, x3, x4, x5, x6, x7⟩
      have := (key x4 x5).mpr ⟨x6, x7⟩
      exact ⟨⟨⟨⟨⟨x1, x2, x3⟩, x4⟩, x5⟩, this.1⟩, this.2⟩
