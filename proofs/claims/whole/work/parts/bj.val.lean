/-! PURE: the value of an expression -/
def jn (c : Nat) (x y : Int64) : Int64 := if c = 38 then x &&& y else if c = 43 then x + y else if c = 45 then x - y else if c = 94 then x ^^^ y else if c = 124 then x ||| y else x * y
/-- what values are taken from: width, state, key, subkeys, i, j -/
abbrev Ev : Type := Nat × (Nat → Int64) × (Nat → Int64) × (Nat → Int64) × Nat × Nat
def evW (E : Ev) : Nat := E.1
def evA (E : Ev) : Nat → Int64 := E.2.1
def evK (E : Ev) : Nat → Int64 := E.2.2.1
def evS (E : Ev) : Nat → Int64 := E.2.2.2.1
def evI (E : Ev) : Nat := E.2.2.2.2.1
def evJ (E : Ev) : Nat := E.2.2.2.2.2
def lfV (E : Ev) (o : Op) : Int64 := if o.1 = 1 then evA E o.2.1 else if o.1 = 2 then evK E (ixV o.2.2.2 (evI E) (evJ E)) else if o.1 = 3 then evS E (ixV o.2.2.2 (evI E) (evJ E)) else if o.1 = 4 then lN o.2.1 else lN (if o.2.1 = 0 then evI E else evJ E)
def evO (E : Ev) (st : List Int64) (o : Op) : List Int64 :=
  if o.1 ≤ 5 then lfV E o :: st
  else if o.1 ≤ 7 then match st with
    | x :: r => (if o.1 = 6 then (x ^^^ (-1 : Int64)) &&& mkW (evW E) else rtw (evW E) x (amt (evW E) (lN o.2.1))) :: r
    | [] => []
  else match st with
    | y :: x :: r => (jn o.2.1 x y &&& mkW (evW E)) :: r
    | _ => []
/-- an operation that can be done -/
def gdO (E : Ev) (o : Op) : Prop := (o.1 = 1 ∧ o.2.1 < 4) ∨ (o.1 = 2 ∧ ixV o.2.2.2 (evI E) (evJ E) < 4) ∨ (o.1 = 3 ∧ ixV o.2.2.2 (evI E) (evJ E) < 32) ∨ (o.1 = 4 ∧ o.2.1 < 10 ^ 9) ∨ (o.1 = 5 ∧ o.2.1 < 2) ∨ (o.1 = 6 ∧ o.2.1 = 0) ∨ (o.1 = 7 ∧ o.2.1 < 10 ^ 9) ∨ (o.1 = 8 ∧ isOp o.2.1)
/-- a part of the class that stands for an operation -/
def CV (g p : Nat) (L : List Nat) (o : Op) (s : ax_σ) : Prop := s.1 g 5 p = nI (cO L o).1 ∧ s.2 g 6 p = lN (cO L o).2.1 ∧ s.2 g 7 p = lN (cO L o).2.2.1 ∧ s.2 g 8 p = lN (cO L o).2.2.2.1
def STm (st : List Int64) (s : ax_σ) : Prop := ∀ (k : Nat) (v : Int64), st.reverse[k]? = some v → s.2 0 36 k = v
def X36 (g r k : Nat) : Prop := g = 0 ∧ r = 36
theorem STm.push {st : List Int64} {s : ax_σ} (h : STm st s) (x : Int64) : STm (x :: st) (ax_wL s 0 36 st.length x) := by
  intro k v hk
  rw [List.reverse_cons] at hk
  rw [wL_2]
  by_cases hl : k < st.length
  · rw [List.getElem?_append_left (by rw [List.length_reverse]; exact hl)] at hk
    rw [if_neg (by omega)]
    exact h k v hk
  · rw [List.getElem?_append_right (by rw [List.length_reverse]; omega), List.length_reverse] at hk
    obtain ⟨h1, h2⟩ := List.getElem?_eq_some_iff.mp hk
    rw [List.length_singleton] at h1
    have : k = st.length := by omega
    subst this
    rw [if_pos ⟨rfl, rfl, rfl⟩, ← h2]
    simp
theorem STm.pop {st : List Int64} {x : Int64} {s : ax_σ} (h : STm (x :: st) s) : STm st s ∧ s.2 0 36 st.length = x := by
  refine ⟨fun k v hk => h k v ?_, h st.length x ?_⟩
  · rw [List.reverse_cons, List.getElem?_append_left (get_lt hk)]
    exact hk
  · rw [List.reverse_cons, List.getElem?_append_right (by rw [List.length_reverse]; omega), List.length_reverse, Nat.sub_self]
    rfl
theorem cod_b : ∀ c, c < 128 → (((nI c).toUInt32 % 65536).toInt32) = nI c := by decide +kernel
theorem m_exact {g p b c d i j : Nat} {s : ax_σ} (hp : p < 240) (h6 : s.2 g 6 p = lN b) (h7 : s.2 g 7 p = lN c) (h8 : s.2 g 8 p = lN d) (hi : i < 16) (hj : j < 16) : f_C_exact g (nI p) (nI i) (nI j) s = some (lN (b + c * i + d * j)) := by
  unfold f_C_exact
  simp (disch := omega) only [ax_let, Option.bind_some, cond_true, cond_false, if_pos, if_neg, if_true, if_false, eq_self, nI_add, nI_ltI, nI_leI, nI_eq, nI_clamp, pu_in, c_0, c_1, c_2, c_3, c_4, c_5, c_6, c_7, c_8, c_9, c_10, c_11, c_12, c_15, c_16, c_17, c_32, c_35, c_36, c_38, c_40, c_41, c_42, c_43, c_44, c_45, c_48, c_57, c_58, c_59, c_60, c_61, c_62, c_64, c_65, c_69, c_75, c_83, c_91, c_93, c_94, c_97, c_105, c_106, c_110, c_119, c_123, c_124, c_125, c_126, c_240, c_256, c_400, c_m, nI_m1, nM_i, lN_add, lN_mul, lN_i, nI_l, lN_eq, lgN_le, lgN_lt, lgN_ge, lgN_gt, nI_sub, nI_mul, d_0, d_1, c_13, c_14, c_18, c_19, c_20, c_21, c_22, c_23, c_24, c_25, c_26, c_27, c_28, c_29, c_30, c_31, c_33, c_34, c_37, c_39, c_46, c_47, c_49, c_50, c_51, c_52, c_53, c_54, c_55, c_56, c_63, c_66, c_67, c_68, c_70, c_71, c_72, c_73, c_74, c_76, c_77, c_78, c_79, c_80, c_81, c_82, c_84, c_85, c_86, c_87, c_88, c_89, c_90, c_92, c_95, c_96, c_98, c_99, c_100, c_101, c_102, c_103, c_104, c_107, c_108, c_109, c_111, c_112, c_113, c_114, c_115, c_116, c_117, c_118, c_120, c_121, c_122, c_127, c_280, d_2, d_3, d_4, d_8, d_9, d_10, d_15, d_16, d_32, d_48, d_62, d_63, d_64, h6, h7, h8]
theorem isOp_lt {c : Nat} (h : isOp c) : c < 128 ∧ c ≠ 126 ∧ c ≠ 60 ∧ (c = 60 ∨ c = 94 ∨ c = 38 ∨ c = 124 ∨ c = 43 ∨ c = 45 ∨ c = 42) := by
  rcases h with h | h | h | h | h | h <;> subst h <;> decide
theorem m_joined {c : Nat} (h : isOp c) (x y : Int64) : f_M_joined (nI c) x y = some (jn c x y) := by
  rcases h with h | h | h | h | h | h <;> subst h <;> rfl
section
variable {F g i j ln : Nat} {L : List Nat} {E : Ev} {s : ax_σ}
/-- a leaf -/
theorem mv_leaf {n p d : Nat} {o : Op} (hF : 8 ≤ F) (hi : evI E < 16) (hj : evJ E < 16) (h1 : o.1 ≤ 5) (hg : gdO E o) (hL : ∀ t ∈ o.2.2.2, t.2.1 ≤ 2) (hp : p < 240) (hln : ln < 120) (hto : ∃ e, s.1 g 18 ln = nI e ∧ p < e ∧ e ≤ 240) (hd : d < 13) (hC : CV g p L o s) (hA : ∀ k, k < 4 → s.2 0 34 k = evA E k) (hK : ∀ k, k < 4 → s.2 0 33 k = evK E k) (hS : ∀ k, k < 32 → s.2 0 35 k = evS E k) : lp_M_value_34 F g (nI ln) (nI (evI E)) (nI (evJ E)) (n + 1) (nI d) (nI p) s = lp_M_value_34 F g (nI ln) (nI (evI E)) (nI (evJ E)) n (nI (d + 1)) (nI (p + 1)) (ax_wL s 0 36 d (lfV E o)) := by
  obtain ⟨c1, c2, c3, c4⟩ := hC
  obtain ⟨e, e1, e2, e3⟩ := hto
  have key : ∀ (c b x y : Nat) (v : Int64), (c = 65 ∨ c = 75 ∨ c = 83 ∨ c = 110) → s.1 g 5 p = nI c → s.2 g 6 p = lN b → s.2 g 7 p = lN x → s.2 g 8 p = lN y → b + x * evI E + y * evJ E < 10 ^ 9 → f_M_wordOf g (nI c) (nI (b + x * evI E + y * evJ E)) s = some v → lp_M_value_34 F g (nI ln) (nI (evI E)) (nI (evJ E)) (n + 1) (nI d) (nI p) s = lp_M_value_34 F g (nI ln) (nI (evI E)) (nI (evJ E)) n (nI (d + 1)) (nI (p + 1)) (ax_wL s 0 36 d v) := by
    intro c b x y v hc k1 k2 k3 k4 hb hv
    have hc2 : c < 128 ∧ c ≠ 126 ∧ c ≠ 60 ∧ ¬ (c = 60 ∨ c = 94 ∨ c = 38 ∨ c = 124 ∨ c = 43 ∨ c = 45 ∨ c = 42) := by omega
    obtain ⟨q1, q2, q3, q4⟩ := hc2
    have hx := m_exact (g := g) (s := s) hp k2 k3 k4 hi hj
    have hix := ix_sgN (s := s) hF q1 q4
    have hcb := cod_b c q1
    clear hc q4
    rw [lp_M_value_34, pu_in (by omega : ln < 120) (by omega), cond_true, nI_clamp (by omega), e1, if_neg (by rw [nI_leI (by omega) (by omega)]; omega), pu_in hp (by omega), cond_true, nI_clamp (by omega), k1]
    simp (disch := omega) only [ax_let, Option.bind_some, cond_true, cond_false, if_pos, if_neg, if_true, if_false, eq_self, nI_add, nI_ltI, nI_leI, nI_eq, nI_clamp, pu_in, c_0, c_1, c_2, c_3, c_4, c_5, c_6, c_7, c_8, c_9, c_10, c_11, c_12, c_15, c_16, c_17, c_32, c_35, c_36, c_38, c_40, c_41, c_42, c_43, c_44, c_45, c_48, c_57, c_58, c_59, c_60, c_61, c_62, c_64, c_65, c_69, c_75, c_83, c_91, c_93, c_94, c_97, c_105, c_106, c_110, c_119, c_123, c_124, c_125, c_126, c_240, c_256, c_400, c_m, nI_m1, nM_i, lN_add, lN_mul, lN_i, nI_l, lN_eq, lgN_le, lgN_lt, lgN_ge, lgN_gt, nI_sub, nI_mul, d_0, d_1, c_13, c_14, c_18, c_19, c_20, c_21, c_22, c_23, c_24, c_25, c_26, c_27, c_28, c_29, c_30, c_31, c_33, c_34, c_37, c_39, c_46, c_47, c_49, c_50, c_51, c_52, c_53, c_54, c_55, c_56, c_63, c_66, c_67, c_68, c_70, c_71, c_72, c_73, c_74, c_76, c_77, c_78, c_79, c_80, c_81, c_82, c_84, c_85, c_86, c_87, c_88, c_89, c_90, c_92, c_95, c_96, c_98, c_99, c_100, c_101, c_102, c_103, c_104, c_107, c_108, c_109, c_111, c_112, c_113, c_114, c_115, c_116, c_117, c_118, c_120, c_121, c_122, c_127, c_280, d_2, d_3, d_4, d_8, d_9, d_10, d_15, d_16, d_32, d_48, d_62, d_63, d_64, hcb, hix, hx, hv]
    rfl
  have cO1 : cO L o = cp5 (cX L o (0, 0, 0)) := rfl
  rcases hg with ⟨h, hv⟩ | ⟨h, hv⟩ | ⟨h, hv⟩ | ⟨h, hv⟩ | ⟨h, hv⟩ | ⟨h, -⟩ | ⟨h, -⟩ | ⟨h, -⟩
  · rw [cO1, cX, if_pos h] at c1 c2 c3 c4
    refine (key 65 o.2.1 0 0 (evA E o.2.1) (by omega) c1 c2 c3 c4 (by omega) ?_).trans (by unfold lfV; rw [if_pos h])
    rw [show o.2.1 + 0 * evI E + 0 * evJ E = o.2.1 by omega]
    unfold f_M_wordOf
    simp (disch := omega) only [ax_let, Option.bind_some, cond_true, cond_false, if_pos, if_neg, if_true, if_false, eq_self, nI_add, nI_ltI, nI_leI, nI_eq, nI_clamp, pu_in, c_0, c_1, c_2, c_3, c_4, c_5, c_6, c_7, c_8, c_9, c_10, c_11, c_12, c_15, c_16, c_17, c_32, c_35, c_36, c_38, c_40, c_41, c_42, c_43, c_44, c_45, c_48, c_57, c_58, c_59, c_60, c_61, c_62, c_64, c_65, c_69, c_75, c_83, c_91, c_93, c_94, c_97, c_105, c_106, c_110, c_119, c_123, c_124, c_125, c_126, c_240, c_256, c_400, c_m, nI_m1, nM_i, lN_add, lN_mul, lN_i, nI_l, lN_eq, lgN_le, lgN_lt, lgN_ge, lgN_gt, nI_sub, nI_mul, d_0, d_1, c_13, c_14, c_18, c_19, c_20, c_21, c_22, c_23, c_24, c_25, c_26, c_27, c_28, c_29, c_30, c_31, c_33, c_34, c_37, c_39, c_46, c_47, c_49, c_50, c_51, c_52, c_53, c_54, c_55, c_56, c_63, c_66, c_67, c_68, c_70, c_71, c_72, c_73, c_74, c_76, c_77, c_78, c_79, c_80, c_81, c_82, c_84, c_85, c_86, c_87, c_88, c_89, c_90, c_92, c_95, c_96, c_98, c_99, c_100, c_101, c_102, c_103, c_104, c_107, c_108, c_109, c_111, c_112, c_113, c_114, c_115, c_116, c_117, c_118, c_120, c_121, c_122, c_127, c_280, d_2, d_3, d_4, d_8, d_9, d_10, d_15, d_16, d_32, d_48, d_62, d_63, d_64, hA o.2.1 hv]
  · rw [cO1, cX, if_neg (by omega), if_pos h, xT_eq] at c1 c2 c3 c4
    have hx : 0 + ixB o.2.2.2 + (0 + ixI o.2.2.2) * evI E + (0 + ixJ o.2.2.2) * evJ E = ixV o.2.2.2 (evI E) (evJ E) := by unfold ixV; rw [Nat.zero_add, Nat.zero_add, Nat.zero_add]
    refine (key 75 (0 + ixB o.2.2.2) (0 + ixI o.2.2.2) (0 + ixJ o.2.2.2) (evK E (ixV o.2.2.2 (evI E) (evJ E))) (by omega) c1 c2 c3 c4 (by rw [hx]; omega) ?_).trans (by unfold lfV; rw [if_neg (by omega), if_pos h])
    rw [hx]
    have hq := hK _ hv
    generalize ixV o.2.2.2 (evI E) (evJ E) = x at hv hq
    unfold f_M_wordOf
    simp (disch := omega) only [ax_let, Option.bind_some, cond_true, cond_false, if_pos, if_neg, if_true, if_false, eq_self, nI_add, nI_ltI, nI_leI, nI_eq, nI_clamp, pu_in, c_0, c_1, c_2, c_3, c_4, c_5, c_6, c_7, c_8, c_9, c_10, c_11, c_12, c_15, c_16, c_17, c_32, c_35, c_36, c_38, c_40, c_41, c_42, c_43, c_44, c_45, c_48, c_57, c_58, c_59, c_60, c_61, c_62, c_64, c_65, c_69, c_75, c_83, c_91, c_93, c_94, c_97, c_105, c_106, c_110, c_119, c_123, c_124, c_125, c_126, c_240, c_256, c_400, c_m, nI_m1, nM_i, lN_add, lN_mul, lN_i, nI_l, lN_eq, lgN_le, lgN_lt, lgN_ge, lgN_gt, nI_sub, nI_mul, d_0, d_1, c_13, c_14, c_18, c_19, c_20, c_21, c_22, c_23, c_24, c_25, c_26, c_27, c_28, c_29, c_30, c_31, c_33, c_34, c_37, c_39, c_46, c_47, c_49, c_50, c_51, c_52, c_53, c_54, c_55, c_56, c_63, c_66, c_67, c_68, c_70, c_71, c_72, c_73, c_74, c_76, c_77, c_78, c_79, c_80, c_81, c_82, c_84, c_85, c_86, c_87, c_88, c_89, c_90, c_92, c_95, c_96, c_98, c_99, c_100, c_101, c_102, c_103, c_104, c_107, c_108, c_109, c_111, c_112, c_113, c_114, c_115, c_116, c_117, c_118, c_120, c_121, c_122, c_127, c_280, d_2, d_3, d_4, d_8, d_9, d_10, d_15, d_16, d_32, d_48, d_62, d_63, d_64, hq]
  · rw [cO1, cX, if_neg (by omega), if_neg (by omega), if_pos h, xT_eq] at c1 c2 c3 c4
    have hx : 0 + ixB o.2.2.2 + (0 + ixI o.2.2.2) * evI E + (0 + ixJ o.2.2.2) * evJ E = ixV o.2.2.2 (evI E) (evJ E) := by unfold ixV; rw [Nat.zero_add, Nat.zero_add, Nat.zero_add]
    refine (key 83 (0 + ixB o.2.2.2) (0 + ixI o.2.2.2) (0 + ixJ o.2.2.2) (evS E (ixV o.2.2.2 (evI E) (evJ E))) (by omega) c1 c2 c3 c4 (by rw [hx]; omega) ?_).trans (by unfold lfV; rw [if_neg (by omega), if_neg (by omega), if_pos h])
    rw [hx]
    have hq := hS _ hv
    generalize ixV o.2.2.2 (evI E) (evJ E) = x at hv hq
    unfold f_M_wordOf
    simp (disch := omega) only [ax_let, Option.bind_some, cond_true, cond_false, if_pos, if_neg, if_true, if_false, eq_self, nI_add, nI_ltI, nI_leI, nI_eq, nI_clamp, pu_in, c_0, c_1, c_2, c_3, c_4, c_5, c_6, c_7, c_8, c_9, c_10, c_11, c_12, c_15, c_16, c_17, c_32, c_35, c_36, c_38, c_40, c_41, c_42, c_43, c_44, c_45, c_48, c_57, c_58, c_59, c_60, c_61, c_62, c_64, c_65, c_69, c_75, c_83, c_91, c_93, c_94, c_97, c_105, c_106, c_110, c_119, c_123, c_124, c_125, c_126, c_240, c_256, c_400, c_m, nI_m1, nM_i, lN_add, lN_mul, lN_i, nI_l, lN_eq, lgN_le, lgN_lt, lgN_ge, lgN_gt, nI_sub, nI_mul, d_0, d_1, c_13, c_14, c_18, c_19, c_20, c_21, c_22, c_23, c_24, c_25, c_26, c_27, c_28, c_29, c_30, c_31, c_33, c_34, c_37, c_39, c_46, c_47, c_49, c_50, c_51, c_52, c_53, c_54, c_55, c_56, c_63, c_66, c_67, c_68, c_70, c_71, c_72, c_73, c_74, c_76, c_77, c_78, c_79, c_80, c_81, c_82, c_84, c_85, c_86, c_87, c_88, c_89, c_90, c_92, c_95, c_96, c_98, c_99, c_100, c_101, c_102, c_103, c_104, c_107, c_108, c_109, c_111, c_112, c_113, c_114, c_115, c_116, c_117, c_118, c_120, c_121, c_122, c_127, c_280, d_2, d_3, d_4, d_8, d_9, d_10, d_15, d_16, d_32, d_48, d_62, d_63, d_64, hq]
  · rw [cO1, cX, if_neg (by omega), if_neg (by omega), if_neg (by omega), if_pos h] at c1 c2 c3 c4
    refine (key 110 o.2.1 0 0 (lN o.2.1) (by omega) c1 c2 c3 c4 (by omega) ?_).trans (by unfold lfV; rw [if_neg (by omega), if_neg (by omega), if_neg (by omega), if_pos h])
    rw [show o.2.1 + 0 * evI E + 0 * evJ E = o.2.1 by omega]
    unfold f_M_wordOf
    simp (disch := omega) only [ax_let, Option.bind_some, cond_true, cond_false, if_pos, if_neg, if_true, if_false, eq_self, nI_add, nI_ltI, nI_leI, nI_eq, nI_clamp, pu_in, c_0, c_1, c_2, c_3, c_4, c_5, c_6, c_7, c_8, c_9, c_10, c_11, c_12, c_15, c_16, c_17, c_32, c_35, c_36, c_38, c_40, c_41, c_42, c_43, c_44, c_45, c_48, c_57, c_58, c_59, c_60, c_61, c_62, c_64, c_65, c_69, c_75, c_83, c_91, c_93, c_94, c_97, c_105, c_106, c_110, c_119, c_123, c_124, c_125, c_126, c_240, c_256, c_400, c_m, nI_m1, nM_i, lN_add, lN_mul, lN_i, nI_l, lN_eq, lgN_le, lgN_lt, lgN_ge, lgN_gt, nI_sub, nI_mul, d_0, d_1, c_13, c_14, c_18, c_19, c_20, c_21, c_22, c_23, c_24, c_25, c_26, c_27, c_28, c_29, c_30, c_31, c_33, c_34, c_37, c_39, c_46, c_47, c_49, c_50, c_51, c_52, c_53, c_54, c_55, c_56, c_63, c_66, c_67, c_68, c_70, c_71, c_72, c_73, c_74, c_76, c_77, c_78, c_79, c_80, c_81, c_82, c_84, c_85, c_86, c_87, c_88, c_89, c_90, c_92, c_95, c_96, c_98, c_99, c_100, c_101, c_102, c_103, c_104, c_107, c_108, c_109, c_111, c_112, c_113, c_114, c_115, c_116, c_117, c_118, c_120, c_121, c_122, c_127, c_280, d_2, d_3, d_4, d_8, d_9, d_10, d_15, d_16, d_32, d_48, d_62, d_63, d_64]
  · rw [cO1, cX, if_neg (by omega), if_neg (by omega), if_neg (by omega), if_neg (by omega), if_pos h, xL] at c1 c2 c3 c4
    have hlf : lfV E o = lN (if o.2.1 = 0 then evI E else evJ E) := by unfold lfV; rw [if_neg (by omega), if_neg (by omega), if_neg (by omega), if_neg (by omega)]
    rw [hlf]
    by_cases h0 : o.2.1 = 0
    · rw [if_pos h0, if_pos h0] at c2 c3 c4
      rw [if_pos h0]
      refine key 110 0 1 0 _ (by omega) c1 c2 c3 c4 (by omega) ?_
      rw [show 0 + 1 * evI E + 0 * evJ E = evI E by omega]
      unfold f_M_wordOf
      simp (disch := omega) only [ax_let, Option.bind_some, cond_true, cond_false, if_pos, if_neg, if_true, if_false, eq_self, nI_add, nI_ltI, nI_leI, nI_eq, nI_clamp, pu_in, c_0, c_1, c_2, c_3, c_4, c_5, c_6, c_7, c_8, c_9, c_10, c_11, c_12, c_15, c_16, c_17, c_32, c_35, c_36, c_38, c_40, c_41, c_42, c_43, c_44, c_45, c_48, c_57, c_58, c_59, c_60, c_61, c_62, c_64, c_65, c_69, c_75, c_83, c_91, c_93, c_94, c_97, c_105, c_106, c_110, c_119, c_123, c_124, c_125, c_126, c_240, c_256, c_400, c_m, nI_m1, nM_i, lN_add, lN_mul, lN_i, nI_l, lN_eq, lgN_le, lgN_lt, lgN_ge, lgN_gt, nI_sub, nI_mul, d_0, d_1, c_13, c_14, c_18, c_19, c_20, c_21, c_22, c_23, c_24, c_25, c_26, c_27, c_28, c_29, c_30, c_31, c_33, c_34, c_37, c_39, c_46, c_47, c_49, c_50, c_51, c_52, c_53, c_54, c_55, c_56, c_63, c_66, c_67, c_68, c_70, c_71, c_72, c_73, c_74, c_76, c_77, c_78, c_79, c_80, c_81, c_82, c_84, c_85, c_86, c_87, c_88, c_89, c_90, c_92, c_95, c_96, c_98, c_99, c_100, c_101, c_102, c_103, c_104, c_107, c_108, c_109, c_111, c_112, c_113, c_114, c_115, c_116, c_117, c_118, c_120, c_121, c_122, c_127, c_280, d_2, d_3, d_4, d_8, d_9, d_10, d_15, d_16, d_32, d_48, d_62, d_63, d_64]
    · rw [if_neg h0, if_neg h0] at c2 c3 c4
      rw [if_neg h0]
      refine key 110 0 0 1 _ (by omega) c1 c2 c3 c4 (by omega) ?_
      rw [show 0 + 0 * evI E + 1 * evJ E = evJ E by omega]
      unfold f_M_wordOf
      simp (disch := omega) only [ax_let, Option.bind_some, cond_true, cond_false, if_pos, if_neg, if_true, if_false, eq_self, nI_add, nI_ltI, nI_leI, nI_eq, nI_clamp, pu_in, c_0, c_1, c_2, c_3, c_4, c_5, c_6, c_7, c_8, c_9, c_10, c_11, c_12, c_15, c_16, c_17, c_32, c_35, c_36, c_38, c_40, c_41, c_42, c_43, c_44, c_45, c_48, c_57, c_58, c_59, c_60, c_61, c_62, c_64, c_65, c_69, c_75, c_83, c_91, c_93, c_94, c_97, c_105, c_106, c_110, c_119, c_123, c_124, c_125, c_126, c_240, c_256, c_400, c_m, nI_m1, nM_i, lN_add, lN_mul, lN_i, nI_l, lN_eq, lgN_le, lgN_lt, lgN_ge, lgN_gt, nI_sub, nI_mul, d_0, d_1, c_13, c_14, c_18, c_19, c_20, c_21, c_22, c_23, c_24, c_25, c_26, c_27, c_28, c_29, c_30, c_31, c_33, c_34, c_37, c_39, c_46, c_47, c_49, c_50, c_51, c_52, c_53, c_54, c_55, c_56, c_63, c_66, c_67, c_68, c_70, c_71, c_72, c_73, c_74, c_76, c_77, c_78, c_79, c_80, c_81, c_82, c_84, c_85, c_86, c_87, c_88, c_89, c_90, c_92, c_95, c_96, c_98, c_99, c_100, c_101, c_102, c_103, c_104, c_107, c_108, c_109, c_111, c_112, c_113, c_114, c_115, c_116, c_117, c_118, c_120, c_121, c_122, c_127, c_280, d_2, d_3, d_4, d_8, d_9, d_10, d_15, d_16, d_32, d_48, d_62, d_63, d_64]
  · omega
  · omega
  · omega
/-- an operation of one word, of two -/
theorem mv_one {n p d : Nat} {o : Op} {x : Int64} (hw : okW (evW E)) (hM : MW (evW E) s) (h1 : o.1 = 6 ∨ o.1 = 7) (hg : gdO E o) (hp : p < 240) (hln : ln < 120) (hto : ∃ e, s.1 g 18 ln = nI e ∧ p < e ∧ e ≤ 240) (hd : d < 13) (hC : CV g p L o s) (hx : s.2 0 36 d = x) : lp_M_value_34 F g (nI ln) (nI i) (nI j) (n + 1) (nI (d + 1)) (nI p) s = lp_M_value_34 F g (nI ln) (nI i) (nI j) n (nI (d + 1)) (nI (p + 1)) (ax_wL s 0 36 d (if o.1 = 6 then (x ^^^ (-1 : Int64)) &&& mkW (evW E) else rtw (evW E) x (amt (evW E) (lN o.2.1)))) := by
  obtain ⟨c1, c2, -, -⟩ := hC
  obtain ⟨e, e1, e2, e3⟩ := hto
  have cO1 : cO L o = cp5 (cX L o (0, 0, 0)) := rfl
  have hm := hM.2
  rcases h1 with h | h
  · rw [cO1, cX, if_neg (by omega), if_neg (by omega), if_neg (by omega), if_neg (by omega), if_neg (by omega), if_pos h] at c1
    have c1 : s.1 g 5 p = nI 126 := c1
    rw [if_pos h, lp_M_value_34, pu_in (by omega : ln < 120) (by omega), cond_true, nI_clamp (by omega), e1, if_neg (by rw [nI_leI (by omega) (by omega)]; omega), pu_in hp (by omega), cond_true, nI_clamp (by omega), c1, if_pos (show nI 126 = (126 : Int32) from rfl), c_1, nI_sub (by omega), Nat.add_sub_cancel]
    simp (disch := omega) only [ax_let, Option.bind_some, cond_true, cond_false, if_pos, if_neg, if_true, if_false, eq_self, nI_add, nI_ltI, nI_leI, nI_eq, nI_clamp, pu_in, c_0, c_1, c_2, c_3, c_4, c_5, c_6, c_7, c_8, c_9, c_10, c_11, c_12, c_15, c_16, c_17, c_32, c_35, c_36, c_38, c_40, c_41, c_42, c_43, c_44, c_45, c_48, c_57, c_58, c_59, c_60, c_61, c_62, c_64, c_65, c_69, c_75, c_83, c_91, c_93, c_94, c_97, c_105, c_106, c_110, c_119, c_123, c_124, c_125, c_126, c_240, c_256, c_400, c_m, nI_m1, nM_i, lN_add, lN_mul, lN_i, nI_l, lN_eq, lgN_le, lgN_lt, lgN_ge, lgN_gt, nI_sub, nI_mul, d_0, d_1, c_13, c_14, c_18, c_19, c_20, c_21, c_22, c_23, c_24, c_25, c_26, c_27, c_28, c_29, c_30, c_31, c_33, c_34, c_37, c_39, c_46, c_47, c_49, c_50, c_51, c_52, c_53, c_54, c_55, c_56, c_63, c_66, c_67, c_68, c_70, c_71, c_72, c_73, c_74, c_76, c_77, c_78, c_79, c_80, c_81, c_82, c_84, c_85, c_86, c_87, c_88, c_89, c_90, c_92, c_95, c_96, c_98, c_99, c_100, c_101, c_102, c_103, c_104, c_107, c_108, c_109, c_111, c_112, c_113, c_114, c_115, c_116, c_117, c_118, c_120, c_121, c_122, c_127, c_280, d_2, d_3, d_4, d_8, d_9, d_10, d_15, d_16, d_32, d_48, d_62, d_63, d_64, hx, hm]
  · rw [cO1, cX, if_neg (by omega), if_neg (by omega), if_neg (by omega), if_neg (by omega), if_neg (by omega), if_neg (by omega), if_pos h] at c1 c2
    have c1 : s.1 g 5 p = nI 60 := c1
    have c2 : s.2 g 6 p = lN o.2.1 := c2
    rw [if_neg (by omega), lp_M_value_34, pu_in (by omega : ln < 120) (by omega), cond_true, nI_clamp (by omega), e1, if_neg (by rw [nI_leI (by omega) (by omega)]; omega), pu_in hp (by omega), cond_true, nI_clamp (by omega), c1, if_neg (show ¬ nI 60 = (126 : Int32) by decide), if_pos (show nI 60 = (60 : Int32) from rfl), c_1, nI_sub (by omega), Nat.add_sub_cancel, c2, m_rot hw hM]
    simp (disch := omega) only [ax_let, Option.bind_some, cond_true, cond_false, if_pos, if_neg, if_true, if_false, eq_self, nI_add, nI_ltI, nI_leI, nI_eq, nI_clamp, pu_in, c_0, c_1, c_2, c_3, c_4, c_5, c_6, c_7, c_8, c_9, c_10, c_11, c_12, c_15, c_16, c_17, c_32, c_35, c_36, c_38, c_40, c_41, c_42, c_43, c_44, c_45, c_48, c_57, c_58, c_59, c_60, c_61, c_62, c_64, c_65, c_69, c_75, c_83, c_91, c_93, c_94, c_97, c_105, c_106, c_110, c_119, c_123, c_124, c_125, c_126, c_240, c_256, c_400, c_m, nI_m1, nM_i, lN_add, lN_mul, lN_i, nI_l, lN_eq, lgN_le, lgN_lt, lgN_ge, lgN_gt, nI_sub, nI_mul, d_0, d_1, c_13, c_14, c_18, c_19, c_20, c_21, c_22, c_23, c_24, c_25, c_26, c_27, c_28, c_29, c_30, c_31, c_33, c_34, c_37, c_39, c_46, c_47, c_49, c_50, c_51, c_52, c_53, c_54, c_55, c_56, c_63, c_66, c_67, c_68, c_70, c_71, c_72, c_73, c_74, c_76, c_77, c_78, c_79, c_80, c_81, c_82, c_84, c_85, c_86, c_87, c_88, c_89, c_90, c_92, c_95, c_96, c_98, c_99, c_100, c_101, c_102, c_103, c_104, c_107, c_108, c_109, c_111, c_112, c_113, c_114, c_115, c_116, c_117, c_118, c_120, c_121, c_122, c_127, c_280, d_2, d_3, d_4, d_8, d_9, d_10, d_15, d_16, d_32, d_48, d_62, d_63, d_64, hx]
theorem mv_two {n p d : Nat} {o : Op} {x y : Int64} (hF : 8 ≤ F) (hM : MW (evW E) s) (h1 : o.1 = 8) (hg : isOp o.2.1) (hp : p < 240) (hln : ln < 120) (hto : ∃ e, s.1 g 18 ln = nI e ∧ p < e ∧ e ≤ 240) (hd : d + 1 < 13) (hC : CV g p L o s) (hx : s.2 0 36 d = x) (hy : s.2 0 36 (d + 1) = y) : lp_M_value_34 F g (nI ln) (nI i) (nI j) (n + 1) (nI (d + 2)) (nI p) s = lp_M_value_34 F g (nI ln) (nI i) (nI j) n (nI (d + 1)) (nI (p + 1)) (ax_wL s 0 36 d (jn o.2.1 x y &&& mkW (evW E))) := by
  obtain ⟨c1, c2, -, -⟩ := hC
  obtain ⟨e, e1, e2, e3⟩ := hto
  have cO1 : cO L o = cp5 (cX L o (0, 0, 0)) := rfl
  have hm := hM.2
  rw [cO1, cX, if_neg (by omega), if_neg (by omega), if_neg (by omega), if_neg (by omega), if_neg (by omega), if_neg (by omega), if_neg (by omega)] at c1
  have c1 : s.1 g 5 p = nI o.2.1 := c1
  obtain ⟨q1, q2, q3, q4⟩ := isOp_lt hg
  obtain ⟨jx, hj1, hj2⟩ := ix_sgI (F := F) (s := s) hF q4
  have hjo := m_joined hg x y
  have hcb := cod_b _ q1
  have hmm : nI (d + 2) + (-1 : Int32) = nI (d + 1) := by
    rw [show (-1 : Int32) = - nI 1 from rfl, ← Int32.sub_eq_add_neg, nI_sub (by omega)]
    rfl
  clear q4 hg
  generalize o.2.1 = c at *
  rw [lp_M_value_34, pu_in (by omega : ln < 120) (by omega), cond_true, nI_clamp (by omega), e1, if_neg (by rw [nI_leI (by omega) (by omega)]; omega), pu_in hp (by omega), cond_true, nI_clamp (by omega), c1, hmm]
  simp (disch := omega) only [ax_let, Option.bind_some, cond_true, cond_false, if_pos, if_neg, if_true, if_false, eq_self, nI_add, nI_ltI, nI_leI, nI_eq, nI_clamp, pu_in, c_0, c_1, c_2, c_3, c_4, c_5, c_6, c_7, c_8, c_9, c_10, c_11, c_12, c_15, c_16, c_17, c_32, c_35, c_36, c_38, c_40, c_41, c_42, c_43, c_44, c_45, c_48, c_57, c_58, c_59, c_60, c_61, c_62, c_64, c_65, c_69, c_75, c_83, c_91, c_93, c_94, c_97, c_105, c_106, c_110, c_119, c_123, c_124, c_125, c_126, c_240, c_256, c_400, c_m, nI_m1, nM_i, lN_add, lN_mul, lN_i, nI_l, lN_eq, lgN_le, lgN_lt, lgN_ge, lgN_gt, nI_sub, nI_mul, d_0, d_1, c_13, c_14, c_18, c_19, c_20, c_21, c_22, c_23, c_24, c_25, c_26, c_27, c_28, c_29, c_30, c_31, c_33, c_34, c_37, c_39, c_46, c_47, c_49, c_50, c_51, c_52, c_53, c_54, c_55, c_56, c_63, c_66, c_67, c_68, c_70, c_71, c_72, c_73, c_74, c_76, c_77, c_78, c_79, c_80, c_81, c_82, c_84, c_85, c_86, c_87, c_88, c_89, c_90, c_92, c_95, c_96, c_98, c_99, c_100, c_101, c_102, c_103, c_104, c_107, c_108, c_109, c_111, c_112, c_113, c_114, c_115, c_116, c_117, c_118, c_120, c_121, c_122, c_127, c_280, d_2, d_3, d_4, d_8, d_9, d_10, d_15, d_16, d_32, d_48, d_62, d_63, d_64, hcb, hj2, hx, hy, hjo, hm, Nat.add_sub_cancel]
/-- an expression from a place on -/
theorem mv_run (hF : 8 ≤ F) (hW : okW (evW E)) (hi : evI E < 16) (hj : evJ E < 16) (hln : ln < 120) : ∀ (e : List Op) (n p : Nat) (st : List Int64) (s : ax_σ) (k : Nat), hw 13 st.length e = some k → (∀ o ∈ e, gdO E o ∧ ∀ t ∈ o.2.2.2, t.2.1 ≤ 2) → e.length < n → p + e.length ≤ 240 → s.1 g 18 ln = nI (p + e.length) → st.length ≤ 13 → (∀ (q : Nat) (o : Op), e[q]? = some o → CV g (p + q) L o s) → MW (evW E) s → (∀ k, k < 4 → s.2 0 34 k = evA E k) → (∀ k, k < 4 → s.2 0 33 k = evK E k) → (∀ k, k < 32 → s.2 0 35 k = evS E k) → STm st s → ∃ s', lp_M_value_34 F g (nI ln) (nI (evI E)) (nI (evJ E)) n (nI st.length) (nI p) s = some s' ∧ STm (e.foldl (evO E) st) s' ∧ frm X36 s s' ∧ (e.foldl (evO E) st).length = k
  | [], 0, _, _, _, _, _, _, h, _, _, _, _, _, _, _, _, _ => absurd h (Nat.not_lt_zero _)
  | _ :: _, 0, _, _, _, _, _, _, h, _, _, _, _, _, _, _, _, _ => absurd h (Nat.not_lt_zero _)
  | [], n + 1, p, st, s, k, hh, _, _, hp, hto, _, _, _, _, _, _, hst => by
    refine ⟨s, ?_, hst, frm.refl, ?_⟩
    · rw [List.length_nil, Nat.add_zero] at hto hp
      rw [lp_M_value_34, pu_in hln (by omega), cond_true, nI_clamp (by omega), hto, if_pos (by rw [nI_leI (by omega) (by omega)]; omega)]
    · rw [hw] at hh
      cases hh
      rfl
  | o :: e, n + 1, p, st, s, k, hh, hg, hn, hp, hto, hb, hC, hM, hA, hK, hS, hst => by
    rw [List.length_cons] at hn hp hto
    have hg0 := hg o (List.mem_cons_self ..)
    have hC0 : CV g p L o s := hC 0 o rfl
    have hto' : ∃ e, s.1 g 18 ln = nI e ∧ p < e ∧ e ≤ 240 := ⟨_, hto, by omega, by omega⟩
    have go : ∀ (st' : List Int64) (d : Nat) (v : Int64), lp_M_value_34 F g (nI ln) (nI (evI E)) (nI (evJ E)) (n + 1) (nI st.length) (nI p) s = lp_M_value_34 F g (nI ln) (nI (evI E)) (nI (evJ E)) n (nI st'.length) (nI (p + 1)) (ax_wL s 0 36 d v) → evO E st o = st' → STm st' (ax_wL s 0 36 d v) → st'.length ≤ 13 → hw 13 st'.length e = some k → ∃ s', lp_M_value_34 F g (nI ln) (nI (evI E)) (nI (evJ E)) (n + 1) (nI st.length) (nI p) s = some s' ∧ STm ((o :: e).foldl (evO E) st) s' ∧ frm X36 s s' ∧ ((o :: e).foldl (evO E) st).length = k := by
      intro st' d v h1 h2 h3 hb4 h4
      have f0 : frm X36 s (ax_wL s 0 36 d v) := frm.refl.wL 0 36 d v ⟨rfl, rfl⟩
      have q : ∀ (r k : Nat), r ≠ 36 → (ax_wL s 0 36 d v).2 0 r k = s.2 0 r k := fun r k hr => f0.2 _ _ _ (by unfold X36; omega)
      obtain ⟨s', a1, a2, a3, a4⟩ := mv_run hF hW hi hj hln e n (p + 1) st' (ax_wL s 0 36 d v) k h4 (fun o ho => hg o (List.mem_cons_of_mem _ ho)) (by omega) (by omega) (hto.trans (by congr 1; omega)) hb4 (fun q o hq => by
        have := hC (q + 1) o hq
        rw [show p + 1 + q = p + (q + 1) by omega]
        obtain ⟨z1, z2, z3, z4⟩ := this
        exact ⟨z1, (f0.2 _ _ _ (by unfold X36; omega)).trans z2, (f0.2 _ _ _ (by unfold X36; omega)).trans z3, (f0.2 _ _ _ (by unfold X36; omega)).trans z4⟩) ⟨hM.1, (q _ _ (by omega)).trans hM.2⟩ (fun k hk => (q _ _ (by omega)).trans (hA k hk)) (fun k hk => (q _ _ (by omega)).trans (hK k hk)) (fun k hk => (q _ _ (by omega)).trans (hS k hk)) h3
      rw [List.foldl_cons, h2]
      exact ⟨s', h1.trans a1, a2, f0.trans a3, a4⟩
    rw [hw] at hh
    by_cases h5 : o.1 ≤ 5
    · rw [if_pos h5] at hh
      by_cases h13 : st.length < 13
      · rw [if_pos h13] at hh
        exact go (lfV E o :: st) st.length (lfV E o) (mv_leaf hF hi hj h5 hg0.1 hg0.2 (by omega) hln hto' h13 hC0 hA hK hS) (by unfold evO; rw [if_pos h5]) (hst.push _) (by rw [List.length_cons]; omega) hh
      · rw [if_neg h13] at hh; cases hh
    · rw [if_neg h5] at hh
      by_cases h7 : o.1 ≤ 7
      · rw [if_pos h7] at hh
        cases st with
        | nil => rw [if_neg (by rw [List.length_nil]; omega)] at hh; cases hh
        | cons x st =>
          rw [if_pos (by rw [List.length_cons]; omega)] at hh
          obtain ⟨y1, y2⟩ := hst.pop
          rw [List.length_cons] at hh hb
          have h12 : st.length < 13 := by omega
          have e1 : evO E (x :: st) o = (if o.1 = 6 then (x ^^^ (-1 : Int64)) &&& mkW (evW E) else rtw (evW E) x (amt (evW E) (lN o.2.1))) :: st := by
            unfold evO
            rw [if_neg h5, if_pos h7]
          exact go _ st.length _ (mv_one hW hM (by omega) hg0.1 (by omega) hln hto' h12 hC0 y2) e1 (y1.push _) (by rw [List.length_cons]; omega) hh
      · rw [if_neg h7] at hh
        cases st with
        | nil => rw [if_neg (by rw [List.length_nil]; omega)] at hh; cases hh
        | cons y st => cases st with
         | nil => rw [if_neg (by rw [List.length_singleton]; omega)] at hh; cases hh
         | cons x st =>
          rw [if_pos (by rw [List.length_cons, List.length_cons]; omega)] at hh
          obtain ⟨y1, y2⟩ := hst.pop
          obtain ⟨y3, y4⟩ := y1.pop
          rw [List.length_cons] at y2
          rw [List.length_cons, List.length_cons] at hh hb
          have e1 : evO E (y :: x :: st) o = (jn o.2.1 x y &&& mkW (evW E)) :: st := by
            unfold evO
            rw [if_neg h5, if_neg h7]
          have h8 : o.1 = 8 ∧ isOp o.2.1 := by
            rcases hg0.1 with ⟨h, -⟩ | ⟨h, -⟩ | ⟨h, -⟩ | ⟨h, -⟩ | ⟨h, -⟩ | ⟨h, -⟩ | ⟨h, -⟩ | h
            · omega
            · omega
            · omega
            · omega
            · omega
            · omega
            · omega
            · exact h
          exact go _ st.length _ (mv_two hF hM h8.1 h8.2 (by omega) hln hto' (by omega) hC0 y4 y2) e1 (y3.push _) (by rw [List.length_cons]; omega) (by rw [List.length_cons]; exact hh)
end
