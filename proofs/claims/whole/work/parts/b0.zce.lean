/-! PURE: the reference checks an expression -/
theorem z_conD {c p rf : Nat} {s : ax_σ} (P : Prop) (hc : 1 ≤ c ∧ c < 6) (hp : p ≤ 240) (h : ZFa rf s) : ∃ s' rf', (P → f_Z_consider (nI 1) (nI c) (nI p) s = some s') ∧ (¬ P → ∀ q, f_Z_consider (nI 0) (nI c) q s = some s') ∧ ZFa rf' s' ∧ (∀ m, m ≤ rf' ↔ m ≤ rf ∧ (P → m ≤ p * 8 + c)) ∧ frm X53 s s' := by
  by_cases hP : P
  · obtain ⟨s', rf', a1, a2, a3, a4⟩ := z_cons (b := true) hc hp h
    exact ⟨s', rf', fun _ => a1, fun e => absurd hP e, a2, fun m => by rw [a3]; exact ⟨fun k => ⟨k.1, fun _ => k.2 rfl⟩, fun k => ⟨k.1, fun _ => k.2 hP⟩⟩, a4⟩
  · exact ⟨s, rf, fun e => absurd e hP, fun _ _ => rfl, h, fun m => ⟨fun k => ⟨k, fun e => absurd e hP⟩, fun k => k.1⟩, frm.refl⟩
theorem io_5 {F x : Nat} {C : List (Nat × Cx)} {s : ax_σ} (hx : x < 2) (hC : CxM C s) : ∀ (j i M : Nat) (fl : Bool), i + j = C.length → j < M → ∃ fl' : Bool, lp_Z_isOpen_5 F (nI x) (nI C.length) s M (if fl = true then nI 1 else nI 0) (nI i) = some (if fl' = true then nI 1 else nI 0) ∧ (fl' = true ↔ fl = true ∨ ∃ i' c, i ≤ i' ∧ C[i']? = some c ∧ c.2.1 = x)
  | j, i, 0, fl, _, h => absurd h (Nat.not_lt_zero _)
  | 0, i, M + 1, fl, hi, _ => by
    have hl := hC.1
    refine ⟨fl, ?_, ⟨fun k => Or.inl k, fun k => k.elim id (fun ⟨i', c, h1, h2, _⟩ => by have := get_lt h2; omega)⟩⟩
    rw [lp_Z_isOpen_5]
    simp (disch := omega) only [ax_let, Option.bind_some, cond_true, cond_false, if_pos, if_neg, if_true, if_false, eq_self, nI_add, nI_ltI, nI_leI, nI_eq, nI_clamp, pu_in, c_0, c_1, c_2, c_3, c_4, c_5, c_6, c_7, c_8, c_9, c_10, c_11, c_12, c_15, c_16, c_17, c_32, c_35, c_36, c_38, c_40, c_41, c_42, c_43, c_44, c_45, c_48, c_57, c_58, c_59, c_60, c_61, c_62, c_64, c_65, c_69, c_75, c_83, c_91, c_93, c_94, c_97, c_105, c_106, c_110, c_119, c_123, c_124, c_125, c_126, c_240, c_256, c_400, c_m, nI_m1, nM_i, lN_add, lN_mul, lN_i, nI_l, lN_eq, lgN_le, lgN_lt, lgN_ge, lgN_gt, nI_sub, nI_mul, d_0, d_1, c_13, c_14, c_18, c_19, c_20, c_21, c_22, c_23, c_24, c_25, c_26, c_27, c_28, c_29, c_30, c_31, c_33, c_34, c_37, c_39, c_46, c_47, c_49, c_50, c_51, c_52, c_53, c_54, c_55, c_56, c_63, c_66, c_67, c_68, c_70, c_71, c_72, c_73, c_74, c_76, c_77, c_78, c_79, c_80, c_81, c_82, c_84, c_85, c_86, c_87, c_88, c_89, c_90, c_92, c_95, c_96, c_98, c_99, c_100, c_101, c_102, c_103, c_104, c_107, c_108, c_109, c_111, c_112, c_113, c_114, c_115, c_116, c_117, c_118, c_120, c_121, c_122, c_127, c_280, d_2, d_3, d_4, d_8, d_9, d_10, d_15, d_16, d_32, d_48, d_62, d_63, d_64]
  | j + 1, i, M + 1, fl, hi, hM => by
    have hl := hC.1
    have hg : C[i]? = some C[i] := List.getElem?_eq_getElem (by omega)
    obtain ⟨m1, m2, m3, m4, -⟩ := hC.2 i _ hg
    obtain ⟨fl', a1, a2⟩ := io_5 (F := F) hx hC j (i + 1) M (fl || decide ((C[i]'(by omega)).2.1 = x)) (by omega) (by omega)
    refine ⟨fl', ?_, ?_⟩
    · rw [← a1, lp_Z_isOpen_5]
      cases fl with
      | true =>
        rw [Bool.true_or, if_pos rfl]
        simp (disch := omega) only [ax_let, Option.bind_some, cond_true, cond_false, if_pos, if_neg, if_true, if_false, eq_self, nI_add, nI_ltI, nI_leI, nI_eq, nI_clamp, pu_in, c_0, c_1, c_2, c_3, c_4, c_5, c_6, c_7, c_8, c_9, c_10, c_11, c_12, c_15, c_16, c_17, c_32, c_35, c_36, c_38, c_40, c_41, c_42, c_43, c_44, c_45, c_48, c_57, c_58, c_59, c_60, c_61, c_62, c_64, c_65, c_69, c_75, c_83, c_91, c_93, c_94, c_97, c_105, c_106, c_110, c_119, c_123, c_124, c_125, c_126, c_240, c_256, c_400, c_m, nI_m1, nM_i, lN_add, lN_mul, lN_i, nI_l, lN_eq, lgN_le, lgN_lt, lgN_ge, lgN_gt, nI_sub, nI_mul, d_0, d_1, c_13, c_14, c_18, c_19, c_20, c_21, c_22, c_23, c_24, c_25, c_26, c_27, c_28, c_29, c_30, c_31, c_33, c_34, c_37, c_39, c_46, c_47, c_49, c_50, c_51, c_52, c_53, c_54, c_55, c_56, c_63, c_66, c_67, c_68, c_70, c_71, c_72, c_73, c_74, c_76, c_77, c_78, c_79, c_80, c_81, c_82, c_84, c_85, c_86, c_87, c_88, c_89, c_90, c_92, c_95, c_96, c_98, c_99, c_100, c_101, c_102, c_103, c_104, c_107, c_108, c_109, c_111, c_112, c_113, c_114, c_115, c_116, c_117, c_118, c_120, c_121, c_122, c_127, c_280, d_2, d_3, d_4, d_8, d_9, d_10, d_15, d_16, d_32, d_48, d_62, d_63, d_64]
      | false =>
        rw [Bool.false_or, show (if false = true then nI 1 else nI 0) = nI 0 from rfl]
        by_cases e : (C[i]'(by omega)).2.1 = x
        · rw [decide_eq_true e, if_pos rfl]
          simp (disch := omega) only [ax_let, Option.bind_some, cond_true, cond_false, if_pos, if_neg, if_true, if_false, eq_self, nI_add, nI_ltI, nI_leI, nI_eq, nI_clamp, pu_in, c_0, c_1, c_2, c_3, c_4, c_5, c_6, c_7, c_8, c_9, c_10, c_11, c_12, c_15, c_16, c_17, c_32, c_35, c_36, c_38, c_40, c_41, c_42, c_43, c_44, c_45, c_48, c_57, c_58, c_59, c_60, c_61, c_62, c_64, c_65, c_69, c_75, c_83, c_91, c_93, c_94, c_97, c_105, c_106, c_110, c_119, c_123, c_124, c_125, c_126, c_240, c_256, c_400, c_m, nI_m1, nM_i, lN_add, lN_mul, lN_i, nI_l, lN_eq, lgN_le, lgN_lt, lgN_ge, lgN_gt, nI_sub, nI_mul, d_0, d_1, c_13, c_14, c_18, c_19, c_20, c_21, c_22, c_23, c_24, c_25, c_26, c_27, c_28, c_29, c_30, c_31, c_33, c_34, c_37, c_39, c_46, c_47, c_49, c_50, c_51, c_52, c_53, c_54, c_55, c_56, c_63, c_66, c_67, c_68, c_70, c_71, c_72, c_73, c_74, c_76, c_77, c_78, c_79, c_80, c_81, c_82, c_84, c_85, c_86, c_87, c_88, c_89, c_90, c_92, c_95, c_96, c_98, c_99, c_100, c_101, c_102, c_103, c_104, c_107, c_108, c_109, c_111, c_112, c_113, c_114, c_115, c_116, c_117, c_118, c_120, c_121, c_122, c_127, c_280, d_2, d_3, d_4, d_8, d_9, d_10, d_15, d_16, d_32, d_48, d_62, d_63, d_64, m1, m3]
        · rw [decide_eq_false e, show (if false = true then nI 1 else nI 0) = nI 0 from rfl]
          simp (disch := omega) only [ax_let, Option.bind_some, cond_true, cond_false, if_pos, if_neg, if_true, if_false, eq_self, nI_add, nI_ltI, nI_leI, nI_eq, nI_clamp, pu_in, c_0, c_1, c_2, c_3, c_4, c_5, c_6, c_7, c_8, c_9, c_10, c_11, c_12, c_15, c_16, c_17, c_32, c_35, c_36, c_38, c_40, c_41, c_42, c_43, c_44, c_45, c_48, c_57, c_58, c_59, c_60, c_61, c_62, c_64, c_65, c_69, c_75, c_83, c_91, c_93, c_94, c_97, c_105, c_106, c_110, c_119, c_123, c_124, c_125, c_126, c_240, c_256, c_400, c_m, nI_m1, nM_i, lN_add, lN_mul, lN_i, nI_l, lN_eq, lgN_le, lgN_lt, lgN_ge, lgN_gt, nI_sub, nI_mul, d_0, d_1, c_13, c_14, c_18, c_19, c_20, c_21, c_22, c_23, c_24, c_25, c_26, c_27, c_28, c_29, c_30, c_31, c_33, c_34, c_37, c_39, c_46, c_47, c_49, c_50, c_51, c_52, c_53, c_54, c_55, c_56, c_63, c_66, c_67, c_68, c_70, c_71, c_72, c_73, c_74, c_76, c_77, c_78, c_79, c_80, c_81, c_82, c_84, c_85, c_86, c_87, c_88, c_89, c_90, c_92, c_95, c_96, c_98, c_99, c_100, c_101, c_102, c_103, c_104, c_107, c_108, c_109, c_111, c_112, c_113, c_114, c_115, c_116, c_117, c_118, c_120, c_121, c_122, c_127, c_280, d_2, d_3, d_4, d_8, d_9, d_10, d_15, d_16, d_32, d_48, d_62, d_63, d_64, m1, m3]
    · rw [a2, Bool.or_eq_true, decide_eq_true_eq, or_assoc]
      refine or_congr Iff.rfl ⟨fun h => ?_, fun ⟨i', c, h1, h2, h3⟩ => ?_⟩
      · rcases h with h | ⟨i', c, h1, h2, h3⟩
        · exact ⟨i, _, Nat.le_refl _, hg, h⟩
        · exact ⟨i', c, by omega, h2, h3⟩
      · by_cases e : i' = i
        · subst e
          rw [hg] at h2
          cases h2
          exact Or.inl h3
        · exact Or.inr ⟨i', c, by omega, h2, h3⟩
def ltC (C : List (Nat × Cx)) : List Nat := (C.map (·.2)).map (·.1)
theorem z_isOpen {F x : Nat} {C : List (Nat × Cx)} {s : ax_σ} (hF : 241 ≤ F) (hx : x < 2) (hC : CxM C s) : f_Z_isOpen F (nI x) (nI C.length) s = some (if x ∈ ltC C then nI 1 else nI 0) := by
  have hl := hC.1
  obtain ⟨fl, a1, a2⟩ := io_5 (F := F) hx hC C.length 0 F false (by omega) (by omega)
  have hm : (fl = true) ↔ x ∈ ltC C := by
    rw [a2]
    unfold ltC
    rw [List.map_map, List.mem_map]
    constructor
    · rintro (h | ⟨i, c, -, h2, h3⟩)
      · cases h
      · exact ⟨c, List.mem_of_getElem? h2, h3⟩
    · rintro ⟨c, h1, h2⟩
      obtain ⟨i, hi⟩ := List.getElem?_of_mem h1
      exact Or.inr ⟨i, c, Nat.zero_le _, hi, h2⟩
  have a1 : lp_Z_isOpen_5 F (nI x) (nI C.length) s F (nI 0) (nI 0) = some (if fl = true then nI 1 else nI 0) := a1
  unfold f_Z_isOpen
  simp (disch := omega) only [ax_let, Option.bind_some, cond_true, cond_false, if_pos, if_neg, if_true, if_false, eq_self, nI_add, nI_ltI, nI_leI, nI_eq, nI_clamp, pu_in, c_0, c_1, c_2, c_3, c_4, c_5, c_6, c_7, c_8, c_9, c_10, c_11, c_12, c_15, c_16, c_17, c_32, c_35, c_36, c_38, c_40, c_41, c_42, c_43, c_44, c_45, c_48, c_57, c_58, c_59, c_60, c_61, c_62, c_64, c_65, c_69, c_75, c_83, c_91, c_93, c_94, c_97, c_105, c_106, c_110, c_119, c_123, c_124, c_125, c_126, c_240, c_256, c_400, c_m, nI_m1, nM_i, lN_add, lN_mul, lN_i, nI_l, lN_eq, lgN_le, lgN_lt, lgN_ge, lgN_gt, nI_sub, nI_mul, d_0, d_1, c_13, c_14, c_18, c_19, c_20, c_21, c_22, c_23, c_24, c_25, c_26, c_27, c_28, c_29, c_30, c_31, c_33, c_34, c_37, c_39, c_46, c_47, c_49, c_50, c_51, c_52, c_53, c_54, c_55, c_56, c_63, c_66, c_67, c_68, c_70, c_71, c_72, c_73, c_74, c_76, c_77, c_78, c_79, c_80, c_81, c_82, c_84, c_85, c_86, c_87, c_88, c_89, c_90, c_92, c_95, c_96, c_98, c_99, c_100, c_101, c_102, c_103, c_104, c_107, c_108, c_109, c_111, c_112, c_113, c_114, c_115, c_116, c_117, c_118, c_120, c_121, c_122, c_127, c_280, d_2, d_3, d_4, d_8, d_9, d_10, d_15, d_16, d_32, d_48, d_62, d_63, d_64, a1]
  cases fl with
  | true => rw [if_pos (hm.mp rfl)]; rfl
  | false => rw [if_neg (fun e => absurd (hm.mpr e) (by decide))]; rfl
/-- a thing in its place, with the loops around it -/
def CeS (D : Ds) (C : List (Nat × Cx)) (pre : List Th) (sk : Nat) (rest : List Th) (s : ax_σ) : Prop := CxR C 2 (dH D) 0 pre sk rest ∧ ZX D s ∧ ZKd (dH D) s ∧ CxM C s
theorem CeS.keep {D : Ds} {C : List (Nat × Cx)} {pre rest : List Th} {sk : Nat} {s s' : ax_σ} {Q : Nat → Nat → Nat → Prop} (h : CeS D C pre sk rest s) (hf : frm Q s s') (hq : ∀ r k, XX r k ∨ r = 46 → ¬ Q 0 r k) : CeS D C pre sk rest s' := by
  obtain ⟨a, b, c, d⟩ := h
  exact ⟨a, b.keep hf (fun r k h => hq r k (Or.inl h)), c.keep hf (fun r k h => hq r k (Or.inl (by unfold XX; omega))), d.keep hf (fun r k h => hq r k (by unfold XX; omega))⟩
def XF (g r k : Nat) : Prop := X53 g r k ∨ X74 g r k
theorem XF.q {r k : Nat} (h : XX r k ∨ r = 46) : ¬ XF 0 r k := by
  unfold XF X53 X74
  unfold XX at h
  omega
theorem XF.ofC {s s' : ax_σ} (h : frm X53 s s') : frm XF s s' := h.imp (fun _ _ _ h => Or.inl h)
theorem XF.ofR {s s' : ax_σ} (h : frm X74 s s') : frm XF s s' := h.imp (fun _ _ _ h => Or.inr h)
/-- the letters of an index -/
theorem ce_260 {F oi e : Nat} {x1 : Int32} {C : List (Nat × Cx)} (hF : 241 ≤ F) (hoi : oi < 240) (he : e ≤ 240) : ∀ (l : List Tm) (t0 M rf : Nat) (fl : Bool) (s : ax_σ), t0 + l.length = e → l.length < M → s.1 0 62 oi = nI e → (∀ j t, l[j]? = some t → ztA (t0 + j) t s) → (∀ t ∈ l, t.2.1 ≤ 2 ∧ t.2.2 ≤ 240) → CxM C s → ZFa rf s → ∃ s' rf', lp_Z_checkExpression_260 F x1 (nI C.length) (nI oi) M (if fl = true then nI 1 else nI 0) (nI t0) s = some (if (fl && knw (ltC C) l) = true then nI 1 else nI 0, s') ∧ ZFa rf' s' ∧ (∀ m, m ≤ rf' ↔ m ≤ rf ∧ ∀ t ∈ l, tmN m (ltC C) t) ∧ frm X53 s s'
  | l, t0, 0, rf, fl, s, _, h, _, _, _, _, _ => absurd h (Nat.not_lt_zero _)
  | [], t0, M + 1, rf, fl, s, h1, _, h62, hT, h2, hC, hf => by
    rw [List.length_nil] at h1
    refine ⟨s, rf, ?_, hf, fun m => ⟨fun k => ⟨k, fun t ht => by cases ht⟩, fun k => k.1⟩, frm.refl⟩
    rw [lp_Z_checkExpression_260]
    unfold knw
    rw [Bool.and_true]
    simp (disch := omega) only [ax_let, Option.bind_some, cond_true, cond_false, if_pos, if_neg, if_true, if_false, eq_self, nI_add, nI_ltI, nI_leI, nI_eq, nI_clamp, pu_in, c_0, c_1, c_2, c_3, c_4, c_5, c_6, c_7, c_8, c_9, c_10, c_11, c_12, c_15, c_16, c_17, c_32, c_35, c_36, c_38, c_40, c_41, c_42, c_43, c_44, c_45, c_48, c_57, c_58, c_59, c_60, c_61, c_62, c_64, c_65, c_69, c_75, c_83, c_91, c_93, c_94, c_97, c_105, c_106, c_110, c_119, c_123, c_124, c_125, c_126, c_240, c_256, c_400, c_m, nI_m1, nM_i, lN_add, lN_mul, lN_i, nI_l, lN_eq, lgN_le, lgN_lt, lgN_ge, lgN_gt, nI_sub, nI_mul, d_0, d_1, c_13, c_14, c_18, c_19, c_20, c_21, c_22, c_23, c_24, c_25, c_26, c_27, c_28, c_29, c_30, c_31, c_33, c_34, c_37, c_39, c_46, c_47, c_49, c_50, c_51, c_52, c_53, c_54, c_55, c_56, c_63, c_66, c_67, c_68, c_70, c_71, c_72, c_73, c_74, c_76, c_77, c_78, c_79, c_80, c_81, c_82, c_84, c_85, c_86, c_87, c_88, c_89, c_90, c_92, c_95, c_96, c_98, c_99, c_100, c_101, c_102, c_103, c_104, c_107, c_108, c_109, c_111, c_112, c_113, c_114, c_115, c_116, c_117, c_118, c_120, c_121, c_122, c_127, c_280, d_2, d_3, d_4, d_8, d_9, d_10, d_15, d_16, d_32, d_48, d_62, d_63, d_64, h62]
  | t :: l, t0, M + 1, rf, fl, s, h1, hM, h62, hT, h2, hC, hf => by
    rw [List.length_cons] at h1 hM
    obtain ⟨z1, z2, z3⟩ := hT 0 t rfl
    rw [Nat.add_zero] at z1 z2 z3
    obtain ⟨b1, b2⟩ := h2 t (List.mem_cons_self ..)
    obtain ⟨s1, rf1, c1, c0, c2, c3, c4⟩ := z_conD (c := 4) (¬ (t.2.1 = 0 ∨ t.2.1 - 1 ∈ ltC C)) (by omega) b2 hf
    obtain ⟨s2, rf2, d1, d2, d3, d4⟩ := ce_260 (F := F) (x1 := x1) hF hoi he l (t0 + 1) M rf1 (fl && decide (t.2.1 = 0 ∨ t.2.1 - 1 ∈ ltC C)) s1 (by omega) (by omega) ((c4.1 _ _ _ (by unfold X53; omega)).trans h62) (fun j x hj => by
      obtain ⟨y1, y2, y3⟩ := hT (j + 1) x hj
      rw [show t0 + (j + 1) = t0 + 1 + j from by omega] at y1 y2 y3
      exact ⟨(c4.2 _ _ _ (by unfold X53; omega)).trans y1, (c4.1 _ _ _ (by unfold X53; omega)).trans y2, (c4.1 _ _ _ (by unfold X53; omega)).trans y3⟩) (fun t ht => h2 t (List.mem_cons_of_mem _ ht)) (hC.keep c4 (fun r k h => by unfold X53; omega)) c2
    refine ⟨s2, rf2, ?_, d2, fun m => ?_, c4.trans d4⟩
    · unfold knw
      rw [← Bool.and_assoc, ← d1, lp_Z_checkExpression_260]
      by_cases h0 : t.2.1 = 0
      · have hP : t.2.1 = 0 ∨ t.2.1 - 1 ∈ ltC C := Or.inl h0
        rw [if_pos h0] at z2
        have e1 : (nM < nI 0) = True := eq_true (by decide)
        have c0' := c0 (fun e => e hP)
        rw [decide_eq_true hP, Bool.and_true]
        cases fl with
        | true =>
          rw [if_pos rfl]
          simp (disch := omega) only [ax_let, Option.bind_some, cond_true, cond_false, if_pos, if_neg, if_true, if_false, eq_self, nI_add, nI_ltI, nI_leI, nI_eq, nI_clamp, pu_in, c_0, c_1, c_2, c_3, c_4, c_5, c_6, c_7, c_8, c_9, c_10, c_11, c_12, c_15, c_16, c_17, c_32, c_35, c_36, c_38, c_40, c_41, c_42, c_43, c_44, c_45, c_48, c_57, c_58, c_59, c_60, c_61, c_62, c_64, c_65, c_69, c_75, c_83, c_91, c_93, c_94, c_97, c_105, c_106, c_110, c_119, c_123, c_124, c_125, c_126, c_240, c_256, c_400, c_m, nI_m1, nM_i, lN_add, lN_mul, lN_i, nI_l, lN_eq, lgN_le, lgN_lt, lgN_ge, lgN_gt, nI_sub, nI_mul, d_0, d_1, c_13, c_14, c_18, c_19, c_20, c_21, c_22, c_23, c_24, c_25, c_26, c_27, c_28, c_29, c_30, c_31, c_33, c_34, c_37, c_39, c_46, c_47, c_49, c_50, c_51, c_52, c_53, c_54, c_55, c_56, c_63, c_66, c_67, c_68, c_70, c_71, c_72, c_73, c_74, c_76, c_77, c_78, c_79, c_80, c_81, c_82, c_84, c_85, c_86, c_87, c_88, c_89, c_90, c_92, c_95, c_96, c_98, c_99, c_100, c_101, c_102, c_103, c_104, c_107, c_108, c_109, c_111, c_112, c_113, c_114, c_115, c_116, c_117, c_118, c_120, c_121, c_122, c_127, c_280, d_2, d_3, d_4, d_8, d_9, d_10, d_15, d_16, d_32, d_48, d_62, d_63, d_64, h62, z2, z3, e1, c0']
        | false =>
          rw [show (if false = true then nI 1 else nI 0) = nI 0 from rfl]
          simp (disch := omega) only [ax_let, Option.bind_some, cond_true, cond_false, if_pos, if_neg, if_true, if_false, eq_self, nI_add, nI_ltI, nI_leI, nI_eq, nI_clamp, pu_in, c_0, c_1, c_2, c_3, c_4, c_5, c_6, c_7, c_8, c_9, c_10, c_11, c_12, c_15, c_16, c_17, c_32, c_35, c_36, c_38, c_40, c_41, c_42, c_43, c_44, c_45, c_48, c_57, c_58, c_59, c_60, c_61, c_62, c_64, c_65, c_69, c_75, c_83, c_91, c_93, c_94, c_97, c_105, c_106, c_110, c_119, c_123, c_124, c_125, c_126, c_240, c_256, c_400, c_m, nI_m1, nM_i, lN_add, lN_mul, lN_i, nI_l, lN_eq, lgN_le, lgN_lt, lgN_ge, lgN_gt, nI_sub, nI_mul, d_0, d_1, c_13, c_14, c_18, c_19, c_20, c_21, c_22, c_23, c_24, c_25, c_26, c_27, c_28, c_29, c_30, c_31, c_33, c_34, c_37, c_39, c_46, c_47, c_49, c_50, c_51, c_52, c_53, c_54, c_55, c_56, c_63, c_66, c_67, c_68, c_70, c_71, c_72, c_73, c_74, c_76, c_77, c_78, c_79, c_80, c_81, c_82, c_84, c_85, c_86, c_87, c_88, c_89, c_90, c_92, c_95, c_96, c_98, c_99, c_100, c_101, c_102, c_103, c_104, c_107, c_108, c_109, c_111, c_112, c_113, c_114, c_115, c_116, c_117, c_118, c_120, c_121, c_122, c_127, c_280, d_2, d_3, d_4, d_8, d_9, d_10, d_15, d_16, d_32, d_48, d_62, d_63, d_64, h62, z2, z3, e1, c0']
      · rw [if_neg h0] at z2
        have hio := z_isOpen (F := F) (x := t.2.1 - 1) hF (by omega) hC
        by_cases hm : t.2.1 - 1 ∈ ltC C
        · have hP : t.2.1 = 0 ∨ t.2.1 - 1 ∈ ltC C := Or.inr hm
          rw [if_pos hm] at hio
          have c0' := c0 (fun e => e hP)
          rw [decide_eq_true hP, Bool.and_true]
          cases fl with
          | true =>
            rw [if_pos rfl]
            simp (disch := omega) only [ax_let, Option.bind_some, cond_true, cond_false, if_pos, if_neg, if_true, if_false, eq_self, nI_add, nI_ltI, nI_leI, nI_eq, nI_clamp, pu_in, c_0, c_1, c_2, c_3, c_4, c_5, c_6, c_7, c_8, c_9, c_10, c_11, c_12, c_15, c_16, c_17, c_32, c_35, c_36, c_38, c_40, c_41, c_42, c_43, c_44, c_45, c_48, c_57, c_58, c_59, c_60, c_61, c_62, c_64, c_65, c_69, c_75, c_83, c_91, c_93, c_94, c_97, c_105, c_106, c_110, c_119, c_123, c_124, c_125, c_126, c_240, c_256, c_400, c_m, nI_m1, nM_i, lN_add, lN_mul, lN_i, nI_l, lN_eq, lgN_le, lgN_lt, lgN_ge, lgN_gt, nI_sub, nI_mul, d_0, d_1, c_13, c_14, c_18, c_19, c_20, c_21, c_22, c_23, c_24, c_25, c_26, c_27, c_28, c_29, c_30, c_31, c_33, c_34, c_37, c_39, c_46, c_47, c_49, c_50, c_51, c_52, c_53, c_54, c_55, c_56, c_63, c_66, c_67, c_68, c_70, c_71, c_72, c_73, c_74, c_76, c_77, c_78, c_79, c_80, c_81, c_82, c_84, c_85, c_86, c_87, c_88, c_89, c_90, c_92, c_95, c_96, c_98, c_99, c_100, c_101, c_102, c_103, c_104, c_107, c_108, c_109, c_111, c_112, c_113, c_114, c_115, c_116, c_117, c_118, c_120, c_121, c_122, c_127, c_280, d_2, d_3, d_4, d_8, d_9, d_10, d_15, d_16, d_32, d_48, d_62, d_63, d_64, h62, z2, z3, hio, c0']
          | false =>
            rw [show (if false = true then nI 1 else nI 0) = nI 0 from rfl]
            simp (disch := omega) only [ax_let, Option.bind_some, cond_true, cond_false, if_pos, if_neg, if_true, if_false, eq_self, nI_add, nI_ltI, nI_leI, nI_eq, nI_clamp, pu_in, c_0, c_1, c_2, c_3, c_4, c_5, c_6, c_7, c_8, c_9, c_10, c_11, c_12, c_15, c_16, c_17, c_32, c_35, c_36, c_38, c_40, c_41, c_42, c_43, c_44, c_45, c_48, c_57, c_58, c_59, c_60, c_61, c_62, c_64, c_65, c_69, c_75, c_83, c_91, c_93, c_94, c_97, c_105, c_106, c_110, c_119, c_123, c_124, c_125, c_126, c_240, c_256, c_400, c_m, nI_m1, nM_i, lN_add, lN_mul, lN_i, nI_l, lN_eq, lgN_le, lgN_lt, lgN_ge, lgN_gt, nI_sub, nI_mul, d_0, d_1, c_13, c_14, c_18, c_19, c_20, c_21, c_22, c_23, c_24, c_25, c_26, c_27, c_28, c_29, c_30, c_31, c_33, c_34, c_37, c_39, c_46, c_47, c_49, c_50, c_51, c_52, c_53, c_54, c_55, c_56, c_63, c_66, c_67, c_68, c_70, c_71, c_72, c_73, c_74, c_76, c_77, c_78, c_79, c_80, c_81, c_82, c_84, c_85, c_86, c_87, c_88, c_89, c_90, c_92, c_95, c_96, c_98, c_99, c_100, c_101, c_102, c_103, c_104, c_107, c_108, c_109, c_111, c_112, c_113, c_114, c_115, c_116, c_117, c_118, c_120, c_121, c_122, c_127, c_280, d_2, d_3, d_4, d_8, d_9, d_10, d_15, d_16, d_32, d_48, d_62, d_63, d_64, h62, z2, z3, hio, c0']
        · have hP : ¬ (t.2.1 = 0 ∨ t.2.1 - 1 ∈ ltC C) := fun e => e.elim h0 hm
          rw [if_neg hm] at hio
          have c1' := c1 hP
          rw [decide_eq_false hP, Bool.and_false, show (if false = true then nI 1 else nI 0) = nI 0 from rfl]
          cases fl with
          | true =>
            rw [if_pos rfl]
            simp (disch := omega) only [ax_let, Option.bind_some, cond_true, cond_false, if_pos, if_neg, if_true, if_false, eq_self, nI_add, nI_ltI, nI_leI, nI_eq, nI_clamp, pu_in, c_0, c_1, c_2, c_3, c_4, c_5, c_6, c_7, c_8, c_9, c_10, c_11, c_12, c_15, c_16, c_17, c_32, c_35, c_36, c_38, c_40, c_41, c_42, c_43, c_44, c_45, c_48, c_57, c_58, c_59, c_60, c_61, c_62, c_64, c_65, c_69, c_75, c_83, c_91, c_93, c_94, c_97, c_105, c_106, c_110, c_119, c_123, c_124, c_125, c_126, c_240, c_256, c_400, c_m, nI_m1, nM_i, lN_add, lN_mul, lN_i, nI_l, lN_eq, lgN_le, lgN_lt, lgN_ge, lgN_gt, nI_sub, nI_mul, d_0, d_1, c_13, c_14, c_18, c_19, c_20, c_21, c_22, c_23, c_24, c_25, c_26, c_27, c_28, c_29, c_30, c_31, c_33, c_34, c_37, c_39, c_46, c_47, c_49, c_50, c_51, c_52, c_53, c_54, c_55, c_56, c_63, c_66, c_67, c_68, c_70, c_71, c_72, c_73, c_74, c_76, c_77, c_78, c_79, c_80, c_81, c_82, c_84, c_85, c_86, c_87, c_88, c_89, c_90, c_92, c_95, c_96, c_98, c_99, c_100, c_101, c_102, c_103, c_104, c_107, c_108, c_109, c_111, c_112, c_113, c_114, c_115, c_116, c_117, c_118, c_120, c_121, c_122, c_127, c_280, d_2, d_3, d_4, d_8, d_9, d_10, d_15, d_16, d_32, d_48, d_62, d_63, d_64, h62, z2, z3, hio, c1']
          | false =>
            rw [show (if false = true then nI 1 else nI 0) = nI 0 from rfl]
            simp (disch := omega) only [ax_let, Option.bind_some, cond_true, cond_false, if_pos, if_neg, if_true, if_false, eq_self, nI_add, nI_ltI, nI_leI, nI_eq, nI_clamp, pu_in, c_0, c_1, c_2, c_3, c_4, c_5, c_6, c_7, c_8, c_9, c_10, c_11, c_12, c_15, c_16, c_17, c_32, c_35, c_36, c_38, c_40, c_41, c_42, c_43, c_44, c_45, c_48, c_57, c_58, c_59, c_60, c_61, c_62, c_64, c_65, c_69, c_75, c_83, c_91, c_93, c_94, c_97, c_105, c_106, c_110, c_119, c_123, c_124, c_125, c_126, c_240, c_256, c_400, c_m, nI_m1, nM_i, lN_add, lN_mul, lN_i, nI_l, lN_eq, lgN_le, lgN_lt, lgN_ge, lgN_gt, nI_sub, nI_mul, d_0, d_1, c_13, c_14, c_18, c_19, c_20, c_21, c_22, c_23, c_24, c_25, c_26, c_27, c_28, c_29, c_30, c_31, c_33, c_34, c_37, c_39, c_46, c_47, c_49, c_50, c_51, c_52, c_53, c_54, c_55, c_56, c_63, c_66, c_67, c_68, c_70, c_71, c_72, c_73, c_74, c_76, c_77, c_78, c_79, c_80, c_81, c_82, c_84, c_85, c_86, c_87, c_88, c_89, c_90, c_92, c_95, c_96, c_98, c_99, c_100, c_101, c_102, c_103, c_104, c_107, c_108, c_109, c_111, c_112, c_113, c_114, c_115, c_116, c_117, c_118, c_120, c_121, c_122, c_127, c_280, d_2, d_3, d_4, d_8, d_9, d_10, d_15, d_16, d_32, d_48, d_62, d_63, d_64, h62, z2, z3, hio, c1']
    · rw [d3, c3]
      constructor
      · rintro ⟨⟨k1, k2⟩, k3⟩
        refine ⟨k1, fun x hx => ?_⟩
        cases hx with
        | head => exact fun y1 y2 => k2 (fun e => e.elim y1 y2)
        | tail _ hx => exact k3 x hx
      · rintro ⟨k1, k2⟩
        exact ⟨⟨k1, fun e => k2 t (List.mem_cons_self ..) (fun y => e (Or.inl y)) (fun y => e (Or.inr y))⟩, fun x hx => k2 x (List.mem_cons_of_mem _ hx)⟩
