/-! PURE: the class's check of the indexes, line by line -/
def XQ (g r k : Nat) : Prop := g = 0 ∧ ((r = 25 ∧ k = 7) ∨ r = 30 ∨ r = 31)
def CKM (g : Nat) (LsF : List Ln) (P5F : List C5) (tot ky : Nat) (s : ax_σ) : Prop := RL g LsF s ∧ PM g P5F s ∧ s.1 g 1 4 = nI tot ∧ s.1 g 1 2 = nI ky ∧ tot < 2 ^ 31 ∧ ky < 2 ^ 31
section
variable {F g tot ky M ln : Nat} {LsF : List Ln} {P5F : List C5} {s s' : ax_σ}
theorem CKM.keep (h : CKM g LsF P5F tot ky s) (hf : frm XQ s s') : CKM g LsF P5F tot ky s' := by
  obtain ⟨a, b, c, d, e⟩ := h
  exact ⟨a.keep hf (fun g' r k hx => by unfold XN at hx; unfold XQ; omega), b.keep hf (fun r k h1 h2 => by unfold XQ; omega), (hf.1 _ _ _ (by unfold XQ; omega)).trans c, (hf.1 _ _ _ (by unfold XQ; omega)).trans d, e⟩
theorem CKM.row (h : CKM g LsF P5F tot ky s) {x : Ln} (hx : LsF[ln]? = some x) : lnA g ln x s ∧ ln < 120 ∧ s.1 g 13 6 = nI LsF.length ∧ ln < LsF.length ∧ LsF.length ≤ 120 := by
  have := get_lt hx
  have h2 := h.1.1
  exact ⟨h.1.2.2 ln x hx, by omega, h.1.2.1, this, h2⟩
theorem ck_open {x a f e W : Nat} (h : CKM g LsF P5F tot ky s) (hx : LsF[ln]? = some (91, x, a, f, e, W)) (x2 : x < 2) : lp_R_checkIndexes_29 F g (M + 1) (nI ln) s = lp_R_checkIndexes_29 F g M (nI (ln + 1)) (ax_wI (ax_wI s 0 30 x (nI a)) 0 31 x (nI W)) := by
  obtain ⟨⟨l1, l2, l3, l4, l5, l6⟩, b1, b2, b3, b4⟩ := h.row hx
  simp only at l1 l2 l3 l4 l5 l6
  rw [lp_R_checkIndexes_29]
  simp (disch := omega) only [ax_let, Option.bind_some, cond_true, cond_false, if_pos, if_neg, if_true, if_false, eq_self, nI_add, nI_ltI, nI_leI, nI_eq, nI_clamp, pu_in, c_0, c_1, c_2, c_3, c_4, c_5, c_6, c_7, c_8, c_9, c_10, c_11, c_12, c_15, c_16, c_17, c_32, c_35, c_36, c_38, c_40, c_41, c_42, c_43, c_44, c_45, c_48, c_57, c_58, c_59, c_60, c_61, c_62, c_64, c_65, c_69, c_75, c_83, c_91, c_93, c_94, c_97, c_105, c_106, c_110, c_119, c_123, c_124, c_125, c_126, c_240, c_256, c_400, c_m, nI_m1, nM_i, lN_add, lN_mul, lN_i, nI_l, lN_eq, lgN_le, lgN_lt, lgN_ge, lgN_gt, nI_sub, nI_mul, d_0, d_1, c_13, c_14, c_18, c_19, c_20, c_21, c_22, c_23, c_24, c_25, c_26, c_27, c_28, c_29, c_30, c_31, c_33, c_34, c_37, c_39, c_46, c_47, c_49, c_50, c_51, c_52, c_53, c_54, c_55, c_56, c_63, c_66, c_67, c_68, c_70, c_71, c_72, c_73, c_74, c_76, c_77, c_78, c_79, c_80, c_81, c_82, c_84, c_85, c_86, c_87, c_88, c_89, c_90, c_92, c_95, c_96, c_98, c_99, c_100, c_101, c_102, c_103, c_104, c_107, c_108, c_109, c_111, c_112, c_113, c_114, c_115, c_116, c_117, c_118, c_120, c_121, c_122, c_127, c_280, d_2, d_3, d_4, d_8, d_9, d_10, d_15, d_16, d_32, d_48, d_62, d_63, d_64, wI_1, wI_2, wL_1, wL_2, true_and, and_true, and_self, false_and, and_false, if_true, if_false, b2, l1, l2, l3, l6]
theorem ck_close {x a f e W : Nat} (h : CKM g LsF P5F tot ky s) (hx : LsF[ln]? = some (93, x, a, f, e, W)) (x2 : x < 2) : lp_R_checkIndexes_29 F g (M + 1) (nI ln) s = lp_R_checkIndexes_29 F g M (nI (ln + 1)) (ax_wI (ax_wI s 0 30 x (nI 1)) 0 31 x (nI 0)) := by
  obtain ⟨⟨l1, l2, l3, l4, l5, l6⟩, b1, b2, b3, b4⟩ := h.row hx
  simp only at l1 l2 l3 l4 l5 l6
  rw [lp_R_checkIndexes_29]
  simp (disch := omega) only [ax_let, Option.bind_some, cond_true, cond_false, if_pos, if_neg, if_true, if_false, eq_self, nI_add, nI_ltI, nI_leI, nI_eq, nI_clamp, pu_in, c_0, c_1, c_2, c_3, c_4, c_5, c_6, c_7, c_8, c_9, c_10, c_11, c_12, c_15, c_16, c_17, c_32, c_35, c_36, c_38, c_40, c_41, c_42, c_43, c_44, c_45, c_48, c_57, c_58, c_59, c_60, c_61, c_62, c_64, c_65, c_69, c_75, c_83, c_91, c_93, c_94, c_97, c_105, c_106, c_110, c_119, c_123, c_124, c_125, c_126, c_240, c_256, c_400, c_m, nI_m1, nM_i, lN_add, lN_mul, lN_i, nI_l, lN_eq, lgN_le, lgN_lt, lgN_ge, lgN_gt, nI_sub, nI_mul, d_0, d_1, c_13, c_14, c_18, c_19, c_20, c_21, c_22, c_23, c_24, c_25, c_26, c_27, c_28, c_29, c_30, c_31, c_33, c_34, c_37, c_39, c_46, c_47, c_49, c_50, c_51, c_52, c_53, c_54, c_55, c_56, c_63, c_66, c_67, c_68, c_70, c_71, c_72, c_73, c_74, c_76, c_77, c_78, c_79, c_80, c_81, c_82, c_84, c_85, c_86, c_87, c_88, c_89, c_90, c_92, c_95, c_96, c_98, c_99, c_100, c_101, c_102, c_103, c_104, c_107, c_108, c_109, c_111, c_112, c_113, c_114, c_115, c_116, c_117, c_118, c_120, c_121, c_122, c_127, c_280, d_2, d_3, d_4, d_8, d_9, d_10, d_15, d_16, d_32, d_48, d_62, d_63, d_64, wI_1, wI_2, wL_1, wL_2, true_and, and_true, and_self, false_and, and_false, if_true, if_false, b2, l1, l2, l3, l6]
theorem ck_leaf {x : Ln} (h : CKM g LsF P5F tot ky s) (hx : LsF[ln]? = some x) (h1 : x.1 < 128) (h91 : x.1 ≠ 91) (h93 : x.1 ≠ 93) (hc : f_R_checkIndexesOf F g (nI ln) s = some s') : lp_R_checkIndexes_29 F g (M + 1) (nI ln) s = lp_R_checkIndexes_29 F g M (nI (ln + 1)) s' := by
  obtain ⟨⟨l1, l2, l3, l4, l5, l6⟩, b1, b2, b3, b4⟩ := h.row hx
  rw [lp_R_checkIndexes_29]
  simp (disch := omega) only [ax_let, Option.bind_some, cond_true, cond_false, if_pos, if_neg, if_true, if_false, eq_self, nI_add, nI_ltI, nI_leI, nI_eq, nI_clamp, pu_in, c_0, c_1, c_2, c_3, c_4, c_5, c_6, c_7, c_8, c_9, c_10, c_11, c_12, c_15, c_16, c_17, c_32, c_35, c_36, c_38, c_40, c_41, c_42, c_43, c_44, c_45, c_48, c_57, c_58, c_59, c_60, c_61, c_62, c_64, c_65, c_69, c_75, c_83, c_91, c_93, c_94, c_97, c_105, c_106, c_110, c_119, c_123, c_124, c_125, c_126, c_240, c_256, c_400, c_m, nI_m1, nM_i, lN_add, lN_mul, lN_i, nI_l, lN_eq, lgN_le, lgN_lt, lgN_ge, lgN_gt, nI_sub, nI_mul, d_0, d_1, c_13, c_14, c_18, c_19, c_20, c_21, c_22, c_23, c_24, c_25, c_26, c_27, c_28, c_29, c_30, c_31, c_33, c_34, c_37, c_39, c_46, c_47, c_49, c_50, c_51, c_52, c_53, c_54, c_55, c_56, c_63, c_66, c_67, c_68, c_70, c_71, c_72, c_73, c_74, c_76, c_77, c_78, c_79, c_80, c_81, c_82, c_84, c_85, c_86, c_87, c_88, c_89, c_90, c_92, c_95, c_96, c_98, c_99, c_100, c_101, c_102, c_103, c_104, c_107, c_108, c_109, c_111, c_112, c_113, c_114, c_115, c_116, c_117, c_118, c_120, c_121, c_122, c_127, c_280, d_2, d_3, d_4, d_8, d_9, d_10, d_15, d_16, d_32, d_48, d_62, d_63, d_64, wI_1, wI_2, wL_1, wL_2, true_and, and_true, and_self, false_and, and_false, if_true, if_false, b2, l1, h91, h93, hc]
end
def opX (n : Nat) (o : Op) : Prop := (o.1 ≤ 8 ∧ o.2.1 < 10 ^ 9 ∧ o.2.2.1 < n ∧ o.2.2.2.length ≤ 240 ∧ (∀ x ∈ o.2.2.2, x.1 < 10 ^ 9 ∧ x.2.1 ≤ 2) ∧ (o.1 = 8 → isOp o.2.1)) ∧ 1 ≤ o.1
theorem ckN_gx {n m tot ky sk : Nat} {w : Bool} {C : List Cx} {L : List Nat} {o : Op} (hn : n ≤ 240) (hC : gdC C) (hL : L = C.map (·.1)) (ho : opX n o) : ckN m (tgC C) (if w = true then sk else tot) ky w (cO L o) ↔ gxO m tot ky C sk w o := by
  obtain ⟨k1, k2, k3⟩ := cO_w (L := L) hn ho.1 ho.2
  obtain ⟨⟨h1, h2, h3, h4, h5, h6⟩, h0⟩ := ho
  by_cases hi : o.1 = 2 ∨ o.1 = 3
  · rw [k3 hi]
    unfold ckN gxO cuP
    simp only
    rw [← hL]
    by_cases hk : knw L o.2.2.2 = true
    · rw [if_pos hk]
      have cu := fun (n : Nat) (w : Bool) => cu_C (n := n) (w := w) hC (fun t ht => (h5 t ht).2) (by rw [← hL]; exact hk)
      unfold tgr
      rcases hi with e | e
      · rw [if_pos e]
        have c1 := cu ky false
        simp only [Bool.false_eq_true, if_false] at c1
        constructor
        · intro h _ _ ht
          refine h o.2.2.1 (by omega) rfl (Or.inl ⟨rfl, ?_⟩)
          exact c1.mpr (by obtain ⟨a, b, p, q, r⟩ := ht; rw [if_pos e] at r; exact ⟨a, b, p, q, r⟩)
        · intro h p hp hpl hb
          rw [nI_eq (by omega) (by omega)] at hpl
          rw [← hpl]
          refine h (Or.inl e) hk ?_
          rcases hb with ⟨-, hb⟩ | ⟨hb, -⟩
          · obtain ⟨a, b, p, q, r⟩ := c1.mp hb
            exact ⟨a, b, p, q, by rw [if_pos e]; exact r⟩
          · omega
      · have e' : ¬ o.1 = 2 := by omega
        rw [if_neg e']
        have c1 := cu (if w = true then sk else tot) w
        have e9 : ∀ a b, (if w = true then bf C (if w = true then sk else tot) a b else if w = true then sk else tot) = (if o.1 = 2 then ky else if w = true then bf C sk a b else tot) := by
          intro a b
          rw [if_neg e']
          cases w <;> rfl
        constructor
        · intro h _ _ ht
          refine h o.2.2.1 (by omega) rfl (Or.inr ⟨rfl, ?_⟩)
          exact c1.mpr (by obtain ⟨a, b, p, q, r⟩ := ht; exact ⟨a, b, p, q, by rw [e9]; exact r⟩)
        · intro h p hp hpl hb
          rw [nI_eq (by omega) (by omega)] at hpl
          rw [← hpl]
          refine h (Or.inr e) hk ?_
          rcases hb with ⟨hb, -⟩ | ⟨-, hb⟩
          · omega
          · obtain ⟨a, b, p, q, r⟩ := c1.mp hb
            exact ⟨a, b, p, q, by rw [← e9]; exact r⟩
    · rw [if_neg hk]
      exact ⟨fun _ _ h => absurd h hk, fun _ p hp hpl => absurd hpl.symm (by rw [nI_m1 (by omega)]; exact id)⟩
  · obtain ⟨a, b⟩ := k2 ⟨fun e => hi (Or.inl e), fun e => hi (Or.inr e)⟩
    refine ⟨fun _ h => absurd h hi, fun _ p _ _ h => ?_⟩
    rcases h with h | h
    · exact absurd h.1 a
    · exact absurd h.1 b
theorem ckN_ab {n m p sk ky : Nat} {w : Bool} {q : TG} {L : List Nat} {o : Op} (hn : n ≤ 240) (ho : opX n o) (hm : m ≤ p * 8 + 4) (ha : (o.1 = 2 ∨ o.1 = 3) → p < o.2.2.1) : ckN m q sk ky w (cO L o) := by
  obtain ⟨k1, k2, k3⟩ := cO_w (L := L) hn ho.1 ho.2
  have h3 := ho.1.2.2.1
  by_cases hi : o.1 = 2 ∨ o.1 = 3
  · have := ha hi
    rw [k3 hi]
    intro p' hp' hpl _
    simp only at hpl
    by_cases hk : knw L o.2.2.2 = true
    · rw [if_pos hk, nI_eq (by omega) (by omega)] at hpl
      omega
    · rw [if_neg hk] at hpl
      exact absurd hpl.symm (by rw [nI_m1 (by omega)]; exact id)
  · obtain ⟨a, b⟩ := k2 ⟨fun e => hi (Or.inl e), fun e => hi (Or.inr e)⟩
    intro p' _ _ h
    rcases h with h | h
    · exact absurd h.1 a
    · exact absurd h.1 b
theorem ckN_n {m sk ky : Nat} {w : Bool} {q : TG} {x : Nat × Nat} : ckN m q sk ky w (cN x) := by
  intro p _ _ h
  rcases h with h | h
  · exact absurd h.1 (by show (110 : Nat) ≠ 75; omega)
  · exact absurd h.1 (by show (110 : Nat) ≠ 83; omega)
theorem kc_w {k : Nat} (h : 4 ≤ k ∧ k ≤ 12) : kc k < 128 ∧ kc k ≠ 91 ∧ kc k ≠ 93 ∧ kc k ≠ 62 := by
  have : ∀ k, k < 13 → 4 ≤ k → kc k < 128 ∧ kc k ≠ 91 ∧ kc k ≠ 93 ∧ kc k ≠ 62 := by decide
  exact this k (by omega) h.1
def thX (n : Nat) (t : Th) : Prop := (thk t = 2 → thw t < 2) ∧ (thk t ≠ 2 → thk t ≠ 3 → (thk t = 1 ∨ (4 ≤ thk t ∧ thk t ≤ 12)) ∧ ∀ o ∈ the t, opX n o)
theorem p5L_mem {L : List Nat} {t : Th} {y : C5} (h : y ∈ p5L L t) : (∃ o ∈ the t, y = cO L o) ∨ ∃ x, y = cN x := by
  unfold p5L at h
  split at h
  · obtain ⟨o, ho, e⟩ := List.mem_map.mp h
    exact Or.inl ⟨o, ho, e.symm⟩
  · rcases List.mem_append.mp h with h | h
    · obtain ⟨o, ho, e⟩ := List.mem_map.mp h
      exact Or.inl ⟨o, ho, e.symm⟩
    · obtain ⟨o, ho, e⟩ := List.mem_map.mp h
      exact Or.inr ⟨o, e.symm⟩
theorem p5L_mem' {L : List Nat} {t : Th} {o : Op} (h : o ∈ the t) : cO L o ∈ p5L L t := by
  unfold p5L
  split
  · exact List.mem_map.mpr ⟨o, h, rfl⟩
  · exact List.mem_append_left _ (List.mem_map.mpr ⟨o, h, rfl⟩)
/-- a segment of a list -/
theorem seg_iff {α : Type} {A X B : List α} {Q : α → Prop} : (∀ k y, A.length ≤ k → k < A.length + X.length → (A ++ (X ++ B))[k]? = some y → Q y) ↔ ∀ y ∈ X, Q y := by
  constructor
  · intro h y hy
    obtain ⟨i, hi, e⟩ := List.getElem_of_mem hy
    refine h (A.length + i) y (by omega) (by omega) ?_
    rw [List.getElem?_append_right (by omega), Nat.add_sub_cancel_left, List.getElem?_append_left hi, List.getElem?_eq_getElem hi, e]
  · intro h k y h1 h2 h3
    rw [List.getElem?_append_right h1, List.getElem?_append_left (by omega)] at h3
    exact h y (List.mem_of_getElem? h3)
theorem lnT_w {n : Nat} {t : Th} {pb sk : Nat} (e2 : thk t ≠ 2) (e3 : thk t ≠ 3) (h : thX n t) : (lnT t pb sk).1 < 128 ∧ (lnT t pb sk).1 ≠ 91 ∧ (lnT t pb sk).1 ≠ 93 ∧ ((lnT t pb sk).1 = 62 ↔ thk t = 1) ∧ (lnT t pb sk).2.2.2.1 = pb ∧ (lnT t pb sk).2.2.2.2.1 = pb + npT t ∧ (lnT t pb sk).2.2.2.2.2 ≤ sk ∧ (thk t = 1 → (lnT t pb sk).2.2.2.2.2 = sk) := by
  have hk := (h.2 e2 e3).1
  unfold lnT
  by_cases e1 : thk t = 1
  · rw [if_pos e1]
    exact ⟨by show (62 : Nat) < 128; omega, by show (62 : Nat) ≠ 91; omega, by show (62 : Nat) ≠ 93; omega, ⟨fun _ => e1, fun _ => rfl⟩, rfl, by show pb + (the t).length = _; unfold npT; rw [if_pos e1], Nat.le_refl _, fun _ => rfl⟩
  · rw [if_neg e1]
    obtain ⟨a, b, c, d⟩ := kc_w (show 4 ≤ thk t ∧ thk t ≤ 12 by omega)
    exact ⟨a, b, c, ⟨fun e => absurd e d, fun e => absurd e e1⟩, rfl, rfl, Nat.zero_le _, fun e => absurd e e1⟩
def CKQ (F g tot ky n : Nat) (LsF : List Ln) (P5F : List C5) (lim : Nat) (l : List Th) : Prop := ∀ (A B : List Ln) (PA PB : List C5) (L : List Nat) (q : TG) (sk lf : Nat) (s : ax_σ),
  LsF = A ++ ((lx l).2.2 A.length PA.length sk ++ B) → P5F = PA ++ (PX l L ++ PB) → CKM g LsF P5F tot ky s → tgM q s → s.1 0 25 7 = nI lf → lf ≤ 1928 → sk + l.length * 16 ^ lim ≤ 2 ^ 30 → (∀ t ∈ l, thX n t) → l.length ≤ 240 → lim ≤ 2 →
  ∃ (s' : ax_σ) (lf' : Nat) (q' : TG) (S : Nat → Prop), (∀ M, lp_R_checkIndexes_29 F g (M + ((lx l).2.2 A.length PA.length sk).length) (nI A.length) s = lp_R_checkIndexes_29 F g M (nI (A.length + ((lx l).2.2 A.length PA.length sk).length)) s') ∧ s'.1 0 25 7 = nI lf' ∧ lf' ≤ 1928 ∧ tgM q' s' ∧ frm XQ s s' ∧ (∀ m, m ≤ lf' ↔ m ≤ lf ∧ S m) ∧ (∀ m p, m ≤ p * 8 + 4 → ab p l → S m) ∧ (∀ (m : Nat) (C : List Cx) (K : KS), gdC C → C.length + lim ≤ 2 → L = C.map (·.1) → q = tgC C → NX K m l L → l.Pairwise sqT → ((S m ↔ GX m tot ky l C sk) ∧ (q' = q ∨ bdL m l)))
theorem ck_all {F g tot ky n lim : Nat} {LsF : List Ln} {P5F : List C5} {l : List Th} (hF : 241 ≤ F) (hn : n ≤ 240) (hW : ∀ x ∈ P5F, PW x) (h : lv lim 0 l = some 0) : CKQ F g tot ky n LsF P5F lim l := by
  refine dyck (P := CKQ F g tot ky n LsF P5F) h ?_ ?_ ?_
  · intro lim A B PA PB L q sk lf s _ _ hM hq hlf hl2 _ _ _ _
    refine ⟨s, lf, q, fun _ => True, fun M => rfl, hlf, hl2, hq, frm.refl, fun m => ⟨fun k => ⟨k, trivial⟩, fun k => k.1⟩, fun _ _ _ _ => trivial, fun m C K _ _ _ _ _ _ => ⟨⟨fun _ => trivial, fun _ => trivial⟩, Or.inl rfl⟩⟩
  · intro lim t r e2 e3 hr ih A B PA PB L q sk lf s hLs hP5 hM hq hlf hl2 hb hok hlen hlim
    have hX := lx_leaf e2 e3 hr
    have ht := hok t (List.mem_cons_self ..)
    obtain ⟨w1, w2, w3, w4, w5, w6, w7, w8⟩ := lnT_w (pb := PA.length) (sk := sk) e2 e3 ht
    rw [List.length_cons] at hlen
    rw [List.length_cons, Nat.succ_mul] at hb
    have hp16 : 1 ≤ 16 ^ lim := Nat.pow_pos (by decide)
    rw [hX] at hLs ⊢
    simp only [lxf] at hLs ⊢
    rw [PX_leaf e2 e3 hr, List.append_assoc] at hP5
    have hline : LsF[A.length]? = some (lnT t PA.length sk) := by
      rw [hLs, List.getElem?_append_right (Nat.le_refl _), Nat.sub_self]; rfl
    obtain ⟨hla, b1, b2, b3, b4⟩ := hM.row hline
    have hPl : PA.length + npT t ≤ P5F.length := by
      rw [hP5, List.length_append, List.length_append, p5L_len]; omega
    obtain ⟨s1, lf1, a1, a2, a3, a4, a5⟩ := rd_ckOf (F := F) (P5 := P5F) (tot := tot) (ky := ky) hF b1 hla w1 (by rw [w5, w6]; omega) (by rw [w6]; exact hPl) (by omega) hM.2.2.1 hM.2.2.2.2.1 hM.2.2.2.1 hM.2.2.2.2.2 hlf hl2 hq hM.2.1 hW
    have f1 : frm XQ s s1 := a5.imp (fun g r k h => by unfold X7 at h; unfold XQ; omega)
    have hsk : skW t ≤ 1 := by unfold skW; split <;> omega
    obtain ⟨s2, lf2, q2, S2, c1, c2, c3, c4, c5, c6, c7, c8⟩ := ih (A ++ [lnT t PA.length sk]) B (PA ++ p5L L t) PB L q (sk + skW t) lf1 s1 (by rw [hLs]; simp only [List.length_append, List.length_singleton, p5L_len, List.append_assoc, List.cons_append, List.nil_append]) (by rw [hP5, List.append_assoc]) (hM.keep f1) (hq.keep a5 (fun r k h => by unfold X7; omega)) a2 a3 (by omega) (fun t ht => hok t (List.mem_cons_of_mem _ ht)) (by omega) hlim
    simp only [List.length_append, List.length_singleton, p5L_len] at c1
    rw [w5, w6] at a4
    have hseg : ∀ m, (∀ k y, PA.length ≤ k → k < PA.length + npT t → P5F[k]? = some y → ckN m q (if (lnT t PA.length sk).1 = 62 then (lnT t PA.length sk).2.2.2.2.2 else tot) ky (decide ((lnT t PA.length sk).1 = 62)) y) ↔ ∀ y ∈ p5L L t, ckN m q (if decide (thk t = 1) = true then sk else tot) ky (decide (thk t = 1)) y := by
      intro m
      have e1 : (if (lnT t PA.length sk).1 = 62 then (lnT t PA.length sk).2.2.2.2.2 else tot) = (if decide (thk t = 1) = true then sk else tot) := by
        by_cases h1 : thk t = 1
        · rw [if_pos (w4.mpr h1), w8 h1, decide_eq_true h1, if_pos rfl]
        · rw [if_neg (fun e => h1 (w4.mp e)), decide_eq_false h1]; rfl
      have e2 : decide ((lnT t PA.length sk).1 = 62) = decide (thk t = 1) := decide_eq_decide.mpr w4
      rw [e1, e2, hP5, ← p5L_len L t]
      exact seg_iff
    refine ⟨s2, lf2, q2, fun m => (∀ y ∈ p5L L t, ckN m q (if decide (thk t = 1) = true then sk else tot) ky (decide (thk t = 1)) y) ∧ S2 m, fun M => ?_, c2, c3, c4, f1.trans c5, fun m => ?_, fun m p hm ha => ⟨fun y hy => ?_, c7 m p hm (fun t ht => ha t (List.mem_cons_of_mem _ ht))⟩, fun m C K hC hCl hL hqC hN hS => ?_⟩
    · rw [List.length_cons, ← Nat.add_assoc, ck_leaf hM hline w1 w2 w3 a1, c1 M]
      congr 2
      omega
    · rw [c6, a4, hseg, and_assoc]
    · rcases p5L_mem hy with ⟨o, ho, rfl⟩ | ⟨x, rfl⟩
      · exact ckN_ab hn ((ht.2 e2 e3).2 o ho) hm (fun hi => ha t (List.mem_cons_self ..) o ho hi)
      · exact ckN_n
    · rw [NX_leaf e2 e3 hr] at hN
      rw [List.pairwise_cons] at hS
      obtain ⟨d1, d2⟩ := c8 m C K hC hCl hL hqC hN.2 hS.2
      rw [GX_leaf e2 e3 hr]
      refine ⟨and_congr ⟨fun k o ho => ?_, fun k y hy => ?_⟩ d1, d2.imp id (fun ⟨o, ho, x⟩ => ⟨o, List.mem_cons_of_mem _ ho, x⟩)⟩
      · have := k _ (p5L_mem' ho)
        rw [hqC] at this
        exact (ckN_gx hn hC hL ((ht.2 e2 e3).2 o ho)).mp this
      · rcases p5L_mem hy with ⟨o, ho, rfl⟩ | ⟨x, rfl⟩
        · rw [hqC]
          exact (ckN_gx hn hC hL ((ht.2 e2 e3).2 o ho)).mpr (k o ho)
        · exact ckN_n
  · intro lim o b c r e2 e3 hm hr i1 i2 A B PA PB L q sk lf s hLs hP5 hM hq hlf hl2 hb hok hlen hlim
    have hX := lx_loop e2 e3 hm hr
    obtain ⟨p1, p2⟩ := lx_wt hm
    have hwb := wt_le (f := skW) (fun t => by unfold skW; split <;> omega) hm
    rw [List.length_cons, List.length_append, List.length_cons] at hlen
    have hb2 : sk + b.length * 16 ^ (lim + 1) + r.length * 16 ^ (lim + 1) + 2 * 16 ^ (lim + 1) ≤ 2 ^ 30 := by
      rw [List.length_cons, List.length_append, List.length_cons, show b.length + (r.length + 1) + 1 = b.length + r.length + 2 from by omega, Nat.add_mul, Nat.add_mul] at hb
      omega
    have h16 : b.length * 16 ^ (lim + 1) = 16 * (b.length * 16 ^ lim) := by rw [Nat.pow_succ, ← Nat.mul_assoc, Nat.mul_comm]
    have htn : tn o ≤ 16 := Nat.min_le_right _ _
    have htw : tn o * wt skW b ≤ 16 * (b.length * 16 ^ lim) := Nat.mul_le_mul htn hwb
    have ho2 := (hok o (List.mem_cons_self ..)).1 e2
    have hokb : ∀ t ∈ b, thX n t := fun t ht => hok t (List.mem_cons_of_mem _ (List.mem_append_left _ ht))
    have hokr : ∀ t ∈ r, thX n t := fun t ht => hok t (List.mem_cons_of_mem _ (List.mem_append_right _ (List.mem_cons_of_mem _ ht)))
    have hmono : ∀ {m}, bdL m r → bdL m (o :: (b ++ c :: r)) := fun ⟨x, hx, y⟩ => ⟨x, List.mem_cons_of_mem _ (List.mem_append_right _ (List.mem_cons_of_mem _ hx)), y⟩
    have habr : ∀ {p}, ab p (o :: (b ++ c :: r)) → ab p r := fun ha t ht => ha t (List.mem_cons_of_mem _ (List.mem_append_right _ (List.mem_cons_of_mem _ ht)))
    have habb : ∀ {p}, ab p (o :: (b ++ c :: r)) → ab p b := fun ha t ht => ha t (List.mem_cons_of_mem _ (List.mem_append_left _ ht))
    rw [hX] at hLs ⊢
    simp only [lxp, p1] at hLs ⊢
    rw [PX_loop e2 e3 hm hr, List.append_assoc] at hP5
    generalize hXb : (lx b).2.2 (A.length + 1) PA.length sk = Xb at *
    by_cases hE : Xb = []
    · obtain ⟨z1, z2⟩ := lx_emp hm _ _ _ (hXb.trans hE)
      have hPb : PX b (L ++ [thw o]) = [] := List.eq_nil_of_length_eq_zero (by rw [p2]; exact z1)
      rw [if_pos hE] at hLs ⊢
      rw [z1, z2] at hLs ⊢
      rw [hPb, List.nil_append] at hP5
      simp only [Nat.mul_zero, Nat.add_zero] at hLs ⊢
      obtain ⟨s2, lf2, q2, S2, c1, c2, c3, c4, c5, c6, c7, c8⟩ := i2 A B PA PB L q sk lf s hLs hP5 hM hq hlf hl2 (by omega) hokr (by omega) hlim
      refine ⟨s2, lf2, q2, S2, c1, c2, c3, c4, c5, c6, fun m p h1 h2 => c7 m p h1 (habr h2), fun m C K hC hCl hL hqC hN hS => ?_⟩
      rw [NX_loop e2 e3 hm hr] at hN
      rw [List.pairwise_cons, List.pairwise_append, List.pairwise_cons] at hS
      obtain ⟨d1, d2⟩ := c8 m C K hC hCl hL hqC hN.2.2 hS.2.2.1.2
      rw [GX_loop e2 e3 hm hr, d1, z2, Nat.mul_zero, Nat.add_zero]
      exact ⟨⟨fun k => ⟨gx_emp hm _ _ _ (hXb.trans hE) _ _, k⟩, fun k => k.2⟩, d2.imp id hmono⟩
    · rw [if_neg hE] at hLs ⊢
      have hline : LsF[A.length]? = some (91, thw o, tn o, PA.length, PA.length, wt skW b) := by
        rw [hLs, List.getElem?_append_right (Nat.le_refl _), Nat.sub_self]; rfl
      have hline2 : LsF[A.length + 1 + Xb.length]? = some (93, thw o, A.length, PA.length + (lx b).1, PA.length + (lx b).1, 0) := by
        rw [hLs, List.getElem?_append_right (by omega), List.cons_append, show A.length + 1 + Xb.length - A.length = Xb.length + 1 from by omega, List.getElem?_cons_succ, List.append_assoc, List.getElem?_append_right (Nat.le_refl _), Nat.sub_self]
        rfl
      have f1 : frm XQ s (ax_wI (ax_wI s 0 30 (thw o) (nI (tn o))) 0 31 (thw o) (nI (wt skW b))) := by
        refine (frm.refl.wI _ _ _ _ ?_).wI _ _ _ _ ?_ <;> unfold XQ <;> omega
      have hpow : 16 ^ lim ≤ 16 ^ 2 := Nat.pow_le_pow_right (by decide) (by omega)
      have hwb2 : wt skW b < 2 ^ 20 := by
        have : b.length * 16 ^ lim ≤ 240 * 16 ^ 2 := Nat.mul_le_mul (by omega) hpow
        omega
      obtain ⟨s1, lf1, q1, S1, a1, a2, a3, a4, a5, a6, a7, a8⟩ := i1 (A ++ [(91, thw o, tn o, PA.length, PA.length, wt skW b)]) ((93, thw o, A.length, PA.length + (lx b).1, PA.length + (lx b).1, 0) :: ((lx r).2.2 (A.length + Xb.length + 2) (PA.length + (lx b).1) (sk + tn o * wt skW b) ++ B)) PA (PX r L ++ PB) (L ++ [thw o]) (sgq q (thw o) (tn o) (wt skW b)) sk lf _ (by rw [List.length_append, List.length_singleton, hXb, hLs]; simp only [List.append_assoc, List.cons_append, List.nil_append]) hP5 (hM.keep f1) (hq.set ho2 (by omega) hwb2) (by simp (disch := omega) only [wI_1, wI_2, wL_1, wL_2, true_and, and_true, and_self, false_and, and_false, if_true, if_false, if_pos, if_neg]; exact hlf) hl2 (by omega) hokb (by omega) (by omega)
      rw [List.length_append, List.length_singleton, hXb] at a1
      have hM1 := (hM.keep f1).keep a5
      have f2 : frm XQ s1 (ax_wI (ax_wI s1 0 30 (thw o) (nI 1)) 0 31 (thw o) (nI 0)) := by
        refine (frm.refl.wI _ _ _ _ ?_).wI _ _ _ _ ?_ <;> unfold XQ <;> omega
      obtain ⟨s2, lf2, q2, S2, c1, c2, c3, c4, c5, c6, c7, c8⟩ := i2 (A ++ (91, thw o, tn o, PA.length, PA.length, wt skW b) :: (Xb ++ [(93, thw o, A.length, PA.length + (lx b).1, PA.length + (lx b).1, 0)])) B (PA ++ PX b (L ++ [thw o])) PB L (sgq q1 (thw o) 1 0) (sk + tn o * wt skW b) lf1 _ (by rw [hLs]; simp only [List.length_append, List.length_cons, List.length_nil, p2, List.append_assoc, List.cons_append, List.nil_append, Nat.add_assoc]) (by rw [hP5, List.append_assoc]) (hM1.keep f2) (a4.set ho2 (by omega) (by decide)) (by simp (disch := omega) only [wI_1, wI_2, wL_1, wL_2, true_and, and_true, and_self, false_and, and_false, if_true, if_false, if_pos, if_neg]; exact a2) a3 (by omega) hokr (by omega) hlim
      have hAl : (A ++ (91, thw o, tn o, PA.length, PA.length, wt skW b) :: (Xb ++ [((93, thw o, A.length, PA.length + (lx b).1, PA.length + (lx b).1, 0) : Ln)])).length = A.length + Xb.length + 2 := by
        simp only [List.length_append, List.length_cons, List.length_nil]; omega
      have hPl : (PA ++ PX b (L ++ [thw o])).length = PA.length + (lx b).1 := by rw [List.length_append, p2]
      rw [hAl, hPl] at c1
      refine ⟨s2, lf2, q2, fun m => S1 m ∧ S2 m, fun M => ?_, c2, c3, c4, ((f1.trans a5).trans f2).trans c5, fun m => by rw [c6, a6, and_assoc], fun m p h1 h2 => ⟨a7 m p h1 (habb h2), c7 m p h1 (habr h2)⟩, fun m C K hC hCl hL hqC hN hS => ?_⟩
      · generalize hXr : (lx r).2.2 (A.length + Xb.length + 2) (PA.length + (lx b).1) (sk + tn o * wt skW b) = Xr at *
        have e1 : ((91, thw o, tn o, PA.length, PA.length, wt skW b) :: (Xb ++ ((93, thw o, A.length, PA.length + (lx b).1, PA.length + (lx b).1, 0) : Ln) :: Xr)).length = Xr.length + 1 + Xb.length + 1 := by
          simp only [List.length_append, List.length_cons]; omega
        rw [e1, show M + (Xr.length + 1 + Xb.length + 1) = (M + Xr.length + 1) + Xb.length + 1 from by omega, ck_open hM hline ho2, a1, ck_close hM1 hline2 ho2, show A.length + 1 + Xb.length + 1 = A.length + Xb.length + 2 from by omega, c1]
        congr 2
        omega
      · rw [NX_loop e2 e3 hm hr] at hN
        obtain ⟨n1, n2, n3⟩ := hN
        rw [List.pairwise_cons, List.pairwise_append, List.pairwise_cons] at hS
        obtain ⟨g1, g2, ⟨g3, g4⟩, g5⟩ := hS
        rw [GX_loop e2 e3 hm hr]
        have hbad : ∀ p, (p = thp o ∨ p = thq o) → m ≤ p * 8 + 4 → ((S1 m ∧ S2 m ↔ GX m tot ky b (C ++ [(thw o, thv o, wt skW b)]) sk ∧ GX m tot ky r C (sk + tn o * wt skW b)) ∧ (q2 = q ∨ bdL m (o :: (b ++ c :: r)))) := by
          intro p hp hmp
          have hab : ∀ t ∈ b ++ c :: r, ∀ x ∈ the t, (x.1 = 2 ∨ x.1 = 3) → p < x.2.2.1 := by
            intro t ht x hx hi
            have := g1 t ht e2 x hx hi
            rcases hp with rfl | rfl
            · exact this.1
            · exact this.2
          have hb' : ab p b := fun t ht => hab t (List.mem_append_left _ ht)
          have hr' : ab p r := fun t ht => hab t (List.mem_append_right _ (List.mem_cons_of_mem _ ht))
          exact ⟨⟨fun _ => ⟨gx_ab hm hmp hb' _ _, gx_ab hr hmp hr' _ _⟩, fun _ => ⟨a7 m p hmp hb', c7 m p hmp hr'⟩⟩, Or.inr ⟨o, List.mem_cons_self .., e2, p, hp, hmp⟩⟩
        by_cases hl : thw o ∈ L
        · exact hbad _ (Or.inl rfl) (n1.1 hl)
        by_cases hv : thv o < 17
        · by_cases hv1 : thv o < 1
          · exact hbad _ (Or.inr rfl) (by have := n1.2.2 hv1; omega)
          · have htnv : tn o = thv o := by unfold tn; omega
            obtain ⟨k1, k2, k3⟩ := gd_add (c := (thw o, thv o, wt skW b)) hC (by omega) ⟨by show 1 ≤ thv o; omega, by show thv o ≤ 16; omega, ho2⟩ (by rw [← hL]; exact hl)
            simp only at k2 k3
            obtain ⟨d1, d2⟩ := a8 m (C ++ [(thw o, thv o, wt skW b)]) K k1 (by rw [List.length_append, List.length_singleton]; omega) (by rw [List.map_append, ← hL]; rfl) (by rw [k2, hqC, htnv]) n2 g2
            rcases d2 with d2 | ⟨o', h1, h2, p, h3, h4⟩
            · have hq2 : sgq q1 (thw o) 1 0 = tgC C := by rw [d2, hqC, htnv, ← k2, k3]
              obtain ⟨x1, x2⟩ := c8 m C K hC hCl hL hq2 n3 g4
              refine ⟨and_congr d1 x1, ?_⟩
              rcases x2 with x2 | x2
              · exact Or.inl (by rw [x2, hq2, hqC])
              · exact Or.inr (hmono x2)
            · have hr' : ab p r := by
                intro t ht x hx hi
                have := g5 o' h1 t (List.mem_cons_of_mem _ ht) h2 x hx hi
                rcases h3 with rfl | rfl
                · exact this.1
                · exact this.2
              exact ⟨and_congr d1 ⟨fun _ => gx_ab hr h4 hr' _ _, fun _ => c7 m p h4 hr'⟩, Or.inr ⟨o', List.mem_cons_of_mem _ (List.mem_append_left _ h1), h2, p, h3, h4⟩⟩
        · exact hbad _ (Or.inr rfl) (by have := n1.2.1 hv; omega)
