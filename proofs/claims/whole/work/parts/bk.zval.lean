/-! PURE: the value of an expression, the reference's -/
def ZVo (p : Nat) (o : Op) (s : ax_σ) : Prop := ∃ t0, zoA p o t0 s ∧ t0 + o.2.2.2.length ≤ 240 ∧ ∀ i x, o.2.2.2[i]? = some x → ztA (t0 + i) x s
def STz (st : List Int64) (s : ax_σ) : Prop := ∀ (k : Nat) (v : Int64), st.reverse[k]? = some v → s.2 0 75 k = v
def X75 (g r k : Nat) : Prop := g = 0 ∧ r = 75
theorem STz.push {st : List Int64} {s : ax_σ} (h : STz st s) (x : Int64) : STz (x :: st) (ax_wL s 0 75 st.length x) := by
  intro k v hk
  rw [List.reverse_cons] at hk
  rw [wL_2]
  by_cases hl : k < st.length
  · rw [List.getElem?_append_left (by rw [List.length_reverse]; exact hl)] at hk
    rw [if_neg (by omega)]
    exact h k v hk
  · rw [List.getElem?_append_right (by rw [List.length_reverse]; omega), List.length_reverse] at hk
    obtain ⟨h1, h2⟩ := List.getElem?_eq_some_iff.mp hk
    rw [List.length_singleton] at h1
    have : k = st.length := by omega
    subst this
    rw [if_pos ⟨rfl, rfl, rfl⟩, ← h2]
    simp
theorem STz.pop {st : List Int64} {x : Int64} {s : ax_σ} (h : STz (x :: st) s) : STz st s ∧ s.2 0 75 st.length = x := by
  refine ⟨fun k v hk => h k v ?_, h st.length x ?_⟩
  · rw [List.reverse_cons, List.getElem?_append_left (get_lt hk)]
    exact hk
  · rw [List.reverse_cons, List.getElem?_append_right (by rw [List.length_reverse]; omega), List.length_reverse, Nat.sub_self]
    rfl
theorem z_paired {c : Nat} {w : Nat} {s : ax_σ} (hw : okW w) (hZ : ZWd w s) (h : isOp c) (x y : Int64) : f_Z_paired x y (lN c) s = some (jn c x y &&& mkW w) := by
  unfold f_Z_paired
  rcases h with h | h | h | h | h | h <;> subst h
  · rw [if_pos (by decide), Option.bind_some, z_cut hw hZ]; rfl
  · rw [if_neg (by decide), if_pos (by decide), Option.bind_some, z_cut hw hZ]; rfl
  · rw [if_neg (by decide), if_neg (by decide), if_pos (by decide), Option.bind_some, z_cut hw hZ]; rfl
  · rw [if_neg (by decide), if_neg (by decide), if_neg (by decide), if_pos (by decide), Option.bind_some, z_cut hw hZ]; rfl
  · rw [if_neg (by decide), if_neg (by decide), if_neg (by decide), if_neg (by decide), if_pos (by decide), Option.bind_some, z_cut hw hZ]; rfl
  · rw [if_neg (by decide), if_neg (by decide), if_neg (by decide), if_neg (by decide), if_neg (by decide), Option.bind_some, z_cut hw hZ]; rfl
section
variable {F th : Nat} {E : Ev} {s : ax_σ}
/-- a leaf -/
theorem zv_leaf {n p d : Nat} {o : Op} (hF : 241 ≤ F) (hi : evI E ≤ 16) (hj : evJ E ≤ 16) (h1 : o.1 ≤ 5) (hg : gdO E o) (hL : ∀ t ∈ o.2.2.2, t.2.1 ≤ 2) (hp : p < 240) (hth : th < 240) (hto : ∃ e, s.1 0 55 th = nI e ∧ p < e ∧ e ≤ 240) (hd : d < 13) (hC : ZVo p o s) (hA : ∀ k, k < 4 → s.2 0 80 k = evA E k) (hK : ∀ k, k < 4 → s.2 0 79 k = evK E k) (hS : ∀ k, k < 32 → s.2 0 81 k = evS E k) (h0 : s.1 0 74 0 = nI (evI E)) (h1' : s.1 0 74 1 = nI (evJ E)) : lp_Z_valueOf_25 F (nI th) (n + 1) (nI d) (nI p) s = lp_Z_valueOf_25 F (nI th) n (nI (d + 1)) (nI (p + 1)) (ax_wL s 0 75 d (lfV E o)) := by
  obtain ⟨t0, ⟨c1, c2, -, c3⟩, c4, c5⟩ := hC
  obtain ⟨e, e1, e2, e3⟩ := hto
  have hix : (o.1 = 2 ∨ o.1 = 3) → f_Z_index F (nI p) s = some (lN (ixV o.2.2.2 (evI E) (evJ E))) := by
    intro h
    obtain ⟨y1, y2⟩ := c3 h
    have := z_index (v := fun x => if x = 0 then evI E else evJ E) hF y1 y2 c4 hp (fun x => by show (if x = 0 then evI E else evJ E) < _; split <;> omega) c5 hL (fun t ht hn => by
      have := hL t ht
      by_cases h : t.2.1 = 1
      · rw [h]; exact h0
      · rw [show t.2.1 = 2 by omega]; exact h1')
    exact this
  clear c3 c5
  rw [lp_Z_valueOf_25, pu_in hth (by omega), cond_true, nI_clamp (by omega), e1, if_neg (by rw [nI_leI (by omega) (by omega)]; omega), pu_in hp (by omega), cond_true, nI_clamp (by omega), c1]
  rcases hg with ⟨h, hv⟩ | ⟨h, hv⟩ | ⟨h, hv⟩ | ⟨h, hv⟩ | ⟨h, hv⟩ | ⟨h, -⟩ | ⟨h, -⟩ | ⟨h, -⟩
  · have hlf : lfV E o = evA E o.2.1 := by unfold lfV; rw [if_pos h]
    rw [hlf, h]
    simp (disch := omega) only [ax_let, Option.bind_some, cond_true, cond_false, if_pos, if_neg, if_true, if_false, eq_self, nI_add, nI_ltI, nI_leI, nI_eq, nI_clamp, pu_in, c_0, c_1, c_2, c_3, c_4, c_5, c_6, c_7, c_8, c_9, c_10, c_11, c_12, c_15, c_16, c_17, c_32, c_35, c_36, c_38, c_40, c_41, c_42, c_43, c_44, c_45, c_48, c_57, c_58, c_59, c_60, c_61, c_62, c_64, c_65, c_69, c_75, c_83, c_91, c_93, c_94, c_97, c_105, c_106, c_110, c_119, c_123, c_124, c_125, c_126, c_240, c_256, c_400, c_m, nI_m1, nM_i, lN_add, lN_mul, lN_i, nI_l, lN_eq, lgN_le, lgN_lt, lgN_ge, lgN_gt, nI_sub, nI_mul, d_0, d_1, c_13, c_14, c_18, c_19, c_20, c_21, c_22, c_23, c_24, c_25, c_26, c_27, c_28, c_29, c_30, c_31, c_33, c_34, c_37, c_39, c_46, c_47, c_49, c_50, c_51, c_52, c_53, c_54, c_55, c_56, c_63, c_66, c_67, c_68, c_70, c_71, c_72, c_73, c_74, c_76, c_77, c_78, c_79, c_80, c_81, c_82, c_84, c_85, c_86, c_87, c_88, c_89, c_90, c_92, c_95, c_96, c_98, c_99, c_100, c_101, c_102, c_103, c_104, c_107, c_108, c_109, c_111, c_112, c_113, c_114, c_115, c_116, c_117, c_118, c_120, c_121, c_122, c_127, c_280, d_2, d_3, d_4, d_8, d_9, d_10, d_15, d_16, d_32, d_48, d_62, d_63, d_64, c2, hA o.2.1 hv]
  · have hlf : lfV E o = evK E (ixV o.2.2.2 (evI E) (evJ E)) := by unfold lfV; rw [if_neg (by omega), if_pos h]
    have hx := hix (Or.inl h)
    have hq := hK _ hv
    rw [hlf, h]
    generalize ixV o.2.2.2 (evI E) (evJ E) = x at hv hq hx
    simp (disch := omega) only [ax_let, Option.bind_some, cond_true, cond_false, if_pos, if_neg, if_true, if_false, eq_self, nI_add, nI_ltI, nI_leI, nI_eq, nI_clamp, pu_in, c_0, c_1, c_2, c_3, c_4, c_5, c_6, c_7, c_8, c_9, c_10, c_11, c_12, c_15, c_16, c_17, c_32, c_35, c_36, c_38, c_40, c_41, c_42, c_43, c_44, c_45, c_48, c_57, c_58, c_59, c_60, c_61, c_62, c_64, c_65, c_69, c_75, c_83, c_91, c_93, c_94, c_97, c_105, c_106, c_110, c_119, c_123, c_124, c_125, c_126, c_240, c_256, c_400, c_m, nI_m1, nM_i, lN_add, lN_mul, lN_i, nI_l, lN_eq, lgN_le, lgN_lt, lgN_ge, lgN_gt, nI_sub, nI_mul, d_0, d_1, c_13, c_14, c_18, c_19, c_20, c_21, c_22, c_23, c_24, c_25, c_26, c_27, c_28, c_29, c_30, c_31, c_33, c_34, c_37, c_39, c_46, c_47, c_49, c_50, c_51, c_52, c_53, c_54, c_55, c_56, c_63, c_66, c_67, c_68, c_70, c_71, c_72, c_73, c_74, c_76, c_77, c_78, c_79, c_80, c_81, c_82, c_84, c_85, c_86, c_87, c_88, c_89, c_90, c_92, c_95, c_96, c_98, c_99, c_100, c_101, c_102, c_103, c_104, c_107, c_108, c_109, c_111, c_112, c_113, c_114, c_115, c_116, c_117, c_118, c_120, c_121, c_122, c_127, c_280, d_2, d_3, d_4, d_8, d_9, d_10, d_15, d_16, d_32, d_48, d_62, d_63, d_64, hx, hq]
  · have hlf : lfV E o = evS E (ixV o.2.2.2 (evI E) (evJ E)) := by unfold lfV; rw [if_neg (by omega), if_neg (by omega), if_pos h]
    have hx := hix (Or.inr h)
    have hq := hS _ hv
    rw [hlf, h]
    generalize ixV o.2.2.2 (evI E) (evJ E) = x at hv hq hx
    simp (disch := omega) only [ax_let, Option.bind_some, cond_true, cond_false, if_pos, if_neg, if_true, if_false, eq_self, nI_add, nI_ltI, nI_leI, nI_eq, nI_clamp, pu_in, c_0, c_1, c_2, c_3, c_4, c_5, c_6, c_7, c_8, c_9, c_10, c_11, c_12, c_15, c_16, c_17, c_32, c_35, c_36, c_38, c_40, c_41, c_42, c_43, c_44, c_45, c_48, c_57, c_58, c_59, c_60, c_61, c_62, c_64, c_65, c_69, c_75, c_83, c_91, c_93, c_94, c_97, c_105, c_106, c_110, c_119, c_123, c_124, c_125, c_126, c_240, c_256, c_400, c_m, nI_m1, nM_i, lN_add, lN_mul, lN_i, nI_l, lN_eq, lgN_le, lgN_lt, lgN_ge, lgN_gt, nI_sub, nI_mul, d_0, d_1, c_13, c_14, c_18, c_19, c_20, c_21, c_22, c_23, c_24, c_25, c_26, c_27, c_28, c_29, c_30, c_31, c_33, c_34, c_37, c_39, c_46, c_47, c_49, c_50, c_51, c_52, c_53, c_54, c_55, c_56, c_63, c_66, c_67, c_68, c_70, c_71, c_72, c_73, c_74, c_76, c_77, c_78, c_79, c_80, c_81, c_82, c_84, c_85, c_86, c_87, c_88, c_89, c_90, c_92, c_95, c_96, c_98, c_99, c_100, c_101, c_102, c_103, c_104, c_107, c_108, c_109, c_111, c_112, c_113, c_114, c_115, c_116, c_117, c_118, c_120, c_121, c_122, c_127, c_280, d_2, d_3, d_4, d_8, d_9, d_10, d_15, d_16, d_32, d_48, d_62, d_63, d_64, hx, hq]
  · have hlf : lfV E o = lN o.2.1 := by unfold lfV; rw [if_neg (by omega), if_neg (by omega), if_neg (by omega), if_pos h]
    rw [hlf, h]
    simp (disch := omega) only [ax_let, Option.bind_some, cond_true, cond_false, if_pos, if_neg, if_true, if_false, eq_self, nI_add, nI_ltI, nI_leI, nI_eq, nI_clamp, pu_in, c_0, c_1, c_2, c_3, c_4, c_5, c_6, c_7, c_8, c_9, c_10, c_11, c_12, c_15, c_16, c_17, c_32, c_35, c_36, c_38, c_40, c_41, c_42, c_43, c_44, c_45, c_48, c_57, c_58, c_59, c_60, c_61, c_62, c_64, c_65, c_69, c_75, c_83, c_91, c_93, c_94, c_97, c_105, c_106, c_110, c_119, c_123, c_124, c_125, c_126, c_240, c_256, c_400, c_m, nI_m1, nM_i, lN_add, lN_mul, lN_i, nI_l, lN_eq, lgN_le, lgN_lt, lgN_ge, lgN_gt, nI_sub, nI_mul, d_0, d_1, c_13, c_14, c_18, c_19, c_20, c_21, c_22, c_23, c_24, c_25, c_26, c_27, c_28, c_29, c_30, c_31, c_33, c_34, c_37, c_39, c_46, c_47, c_49, c_50, c_51, c_52, c_53, c_54, c_55, c_56, c_63, c_66, c_67, c_68, c_70, c_71, c_72, c_73, c_74, c_76, c_77, c_78, c_79, c_80, c_81, c_82, c_84, c_85, c_86, c_87, c_88, c_89, c_90, c_92, c_95, c_96, c_98, c_99, c_100, c_101, c_102, c_103, c_104, c_107, c_108, c_109, c_111, c_112, c_113, c_114, c_115, c_116, c_117, c_118, c_120, c_121, c_122, c_127, c_280, d_2, d_3, d_4, d_8, d_9, d_10, d_15, d_16, d_32, d_48, d_62, d_63, d_64, c2]
  · have hlf : lfV E o = lN (if o.2.1 = 0 then evI E else evJ E) := by unfold lfV; rw [if_neg (by omega), if_neg (by omega), if_neg (by omega), if_neg (by omega)]
    rw [hlf, h]
    have h74 : s.1 0 74 o.2.1 = nI (if o.2.1 = 0 then evI E else evJ E) := by
      by_cases hh : o.2.1 = 0
      · rw [if_pos hh, hh]; exact h0
      · rw [if_neg hh, show o.2.1 = 1 by omega]; exact h1'
    have hb : (if o.2.1 = 0 then evI E else evJ E) < 2 ^ 31 := by split <;> omega
    generalize (if o.2.1 = 0 then evI E else evJ E) = x at h74 hb
    simp (disch := omega) only [ax_let, Option.bind_some, cond_true, cond_false, if_pos, if_neg, if_true, if_false, eq_self, nI_add, nI_ltI, nI_leI, nI_eq, nI_clamp, pu_in, c_0, c_1, c_2, c_3, c_4, c_5, c_6, c_7, c_8, c_9, c_10, c_11, c_12, c_15, c_16, c_17, c_32, c_35, c_36, c_38, c_40, c_41, c_42, c_43, c_44, c_45, c_48, c_57, c_58, c_59, c_60, c_61, c_62, c_64, c_65, c_69, c_75, c_83, c_91, c_93, c_94, c_97, c_105, c_106, c_110, c_119, c_123, c_124, c_125, c_126, c_240, c_256, c_400, c_m, nI_m1, nM_i, lN_add, lN_mul, lN_i, nI_l, lN_eq, lgN_le, lgN_lt, lgN_ge, lgN_gt, nI_sub, nI_mul, d_0, d_1, c_13, c_14, c_18, c_19, c_20, c_21, c_22, c_23, c_24, c_25, c_26, c_27, c_28, c_29, c_30, c_31, c_33, c_34, c_37, c_39, c_46, c_47, c_49, c_50, c_51, c_52, c_53, c_54, c_55, c_56, c_63, c_66, c_67, c_68, c_70, c_71, c_72, c_73, c_74, c_76, c_77, c_78, c_79, c_80, c_81, c_82, c_84, c_85, c_86, c_87, c_88, c_89, c_90, c_92, c_95, c_96, c_98, c_99, c_100, c_101, c_102, c_103, c_104, c_107, c_108, c_109, c_111, c_112, c_113, c_114, c_115, c_116, c_117, c_118, c_120, c_121, c_122, c_127, c_280, d_2, d_3, d_4, d_8, d_9, d_10, d_15, d_16, d_32, d_48, d_62, d_63, d_64, c2, h74]
  · omega
  · omega
  · omega
theorem zv_one {n p d : Nat} {o : Op} {x : Int64} (hw : okW (evW E)) (hM : ZWd (evW E) s) (h1 : o.1 = 6 ∨ o.1 = 7) (hx0 : bW (evW E) x) (hp : p < 240) (hth : th < 240) (hto : ∃ e, s.1 0 55 th = nI e ∧ p < e ∧ e ≤ 240) (hd : d < 13) (hC : ZVo p o s) (hx : s.2 0 75 d = x) : lp_Z_valueOf_25 F (nI th) (n + 1) (nI (d + 1)) (nI p) s = lp_Z_valueOf_25 F (nI th) n (nI (d + 1)) (nI (p + 1)) (ax_wL s 0 75 d (if o.1 = 6 then (x ^^^ (-1 : Int64)) &&& mkW (evW E) else rtw (evW E) x (amt (evW E) (lN o.2.1)))) := by
  obtain ⟨t0, ⟨c1, c2, -, -⟩, -, -⟩ := hC
  obtain ⟨e, e1, e2, e3⟩ := hto
  rw [lp_Z_valueOf_25, pu_in hth (by omega), cond_true, nI_clamp (by omega), e1, if_neg (by rw [nI_leI (by omega) (by omega)]; omega), pu_in hp (by omega), cond_true, nI_clamp (by omega), c1]
  have hcut := fun a => z_cut (s := s) hw hM a
  have htu := z_turned hw hM hx0 (lN o.2.1)
  rcases h1 with h | h
  · rw [if_pos h, h]
    simp (disch := omega) only [ax_let, Option.bind_some, cond_true, cond_false, if_pos, if_neg, if_true, if_false, eq_self, nI_add, nI_ltI, nI_leI, nI_eq, nI_clamp, pu_in, c_0, c_1, c_2, c_3, c_4, c_5, c_6, c_7, c_8, c_9, c_10, c_11, c_12, c_15, c_16, c_17, c_32, c_35, c_36, c_38, c_40, c_41, c_42, c_43, c_44, c_45, c_48, c_57, c_58, c_59, c_60, c_61, c_62, c_64, c_65, c_69, c_75, c_83, c_91, c_93, c_94, c_97, c_105, c_106, c_110, c_119, c_123, c_124, c_125, c_126, c_240, c_256, c_400, c_m, nI_m1, nM_i, lN_add, lN_mul, lN_i, nI_l, lN_eq, lgN_le, lgN_lt, lgN_ge, lgN_gt, nI_sub, nI_mul, d_0, d_1, c_13, c_14, c_18, c_19, c_20, c_21, c_22, c_23, c_24, c_25, c_26, c_27, c_28, c_29, c_30, c_31, c_33, c_34, c_37, c_39, c_46, c_47, c_49, c_50, c_51, c_52, c_53, c_54, c_55, c_56, c_63, c_66, c_67, c_68, c_70, c_71, c_72, c_73, c_74, c_76, c_77, c_78, c_79, c_80, c_81, c_82, c_84, c_85, c_86, c_87, c_88, c_89, c_90, c_92, c_95, c_96, c_98, c_99, c_100, c_101, c_102, c_103, c_104, c_107, c_108, c_109, c_111, c_112, c_113, c_114, c_115, c_116, c_117, c_118, c_120, c_121, c_122, c_127, c_280, d_2, d_3, d_4, d_8, d_9, d_10, d_15, d_16, d_32, d_48, d_62, d_63, d_64, hx, hcut, Nat.add_sub_cancel]
  · rw [if_neg (show ¬ o.1 = 6 by omega), h]
    simp (disch := omega) only [ax_let, Option.bind_some, cond_true, cond_false, if_pos, if_neg, if_true, if_false, eq_self, nI_add, nI_ltI, nI_leI, nI_eq, nI_clamp, pu_in, c_0, c_1, c_2, c_3, c_4, c_5, c_6, c_7, c_8, c_9, c_10, c_11, c_12, c_15, c_16, c_17, c_32, c_35, c_36, c_38, c_40, c_41, c_42, c_43, c_44, c_45, c_48, c_57, c_58, c_59, c_60, c_61, c_62, c_64, c_65, c_69, c_75, c_83, c_91, c_93, c_94, c_97, c_105, c_106, c_110, c_119, c_123, c_124, c_125, c_126, c_240, c_256, c_400, c_m, nI_m1, nM_i, lN_add, lN_mul, lN_i, nI_l, lN_eq, lgN_le, lgN_lt, lgN_ge, lgN_gt, nI_sub, nI_mul, d_0, d_1, c_13, c_14, c_18, c_19, c_20, c_21, c_22, c_23, c_24, c_25, c_26, c_27, c_28, c_29, c_30, c_31, c_33, c_34, c_37, c_39, c_46, c_47, c_49, c_50, c_51, c_52, c_53, c_54, c_55, c_56, c_63, c_66, c_67, c_68, c_70, c_71, c_72, c_73, c_74, c_76, c_77, c_78, c_79, c_80, c_81, c_82, c_84, c_85, c_86, c_87, c_88, c_89, c_90, c_92, c_95, c_96, c_98, c_99, c_100, c_101, c_102, c_103, c_104, c_107, c_108, c_109, c_111, c_112, c_113, c_114, c_115, c_116, c_117, c_118, c_120, c_121, c_122, c_127, c_280, d_2, d_3, d_4, d_8, d_9, d_10, d_15, d_16, d_32, d_48, d_62, d_63, d_64, hx, c2, htu, Nat.add_sub_cancel]
theorem zv_two {n p d : Nat} {o : Op} {x y : Int64} (hw : okW (evW E)) (hM : ZWd (evW E) s) (h1 : o.1 = 8) (hg : isOp o.2.1) (hp : p < 240) (hth : th < 240) (hto : ∃ e, s.1 0 55 th = nI e ∧ p < e ∧ e ≤ 240) (hd : d + 1 < 13) (hC : ZVo p o s) (hx : s.2 0 75 d = x) (hy : s.2 0 75 (d + 1) = y) : lp_Z_valueOf_25 F (nI th) (n + 1) (nI (d + 2)) (nI p) s = lp_Z_valueOf_25 F (nI th) n (nI (d + 1)) (nI (p + 1)) (ax_wL s 0 75 d (jn o.2.1 x y &&& mkW (evW E))) := by
  obtain ⟨t0, ⟨c1, c2, -, -⟩, -, -⟩ := hC
  obtain ⟨e, e1, e2, e3⟩ := hto
  have hpa := z_paired hw hM hg x y
  clear hg
  rw [lp_Z_valueOf_25, pu_in hth (by omega), cond_true, nI_clamp (by omega), e1, if_neg (by rw [nI_leI (by omega) (by omega)]; omega), pu_in hp (by omega), cond_true, nI_clamp (by omega), c1, h1]
  simp (disch := omega) only [ax_let, Option.bind_some, cond_true, cond_false, if_pos, if_neg, if_true, if_false, eq_self, nI_add, nI_ltI, nI_leI, nI_eq, nI_clamp, pu_in, c_0, c_1, c_2, c_3, c_4, c_5, c_6, c_7, c_8, c_9, c_10, c_11, c_12, c_15, c_16, c_17, c_32, c_35, c_36, c_38, c_40, c_41, c_42, c_43, c_44, c_45, c_48, c_57, c_58, c_59, c_60, c_61, c_62, c_64, c_65, c_69, c_75, c_83, c_91, c_93, c_94, c_97, c_105, c_106, c_110, c_119, c_123, c_124, c_125, c_126, c_240, c_256, c_400, c_m, nI_m1, nM_i, lN_add, lN_mul, lN_i, nI_l, lN_eq, lgN_le, lgN_lt, lgN_ge, lgN_gt, nI_sub, nI_mul, d_0, d_1, c_13, c_14, c_18, c_19, c_20, c_21, c_22, c_23, c_24, c_25, c_26, c_27, c_28, c_29, c_30, c_31, c_33, c_34, c_37, c_39, c_46, c_47, c_49, c_50, c_51, c_52, c_53, c_54, c_55, c_56, c_63, c_66, c_67, c_68, c_70, c_71, c_72, c_73, c_74, c_76, c_77, c_78, c_79, c_80, c_81, c_82, c_84, c_85, c_86, c_87, c_88, c_89, c_90, c_92, c_95, c_96, c_98, c_99, c_100, c_101, c_102, c_103, c_104, c_107, c_108, c_109, c_111, c_112, c_113, c_114, c_115, c_116, c_117, c_118, c_120, c_121, c_122, c_127, c_280, d_2, d_3, d_4, d_8, d_9, d_10, d_15, d_16, d_32, d_48, d_62, d_63, d_64, hx, hy, c2, hpa, Nat.add_sub_cancel]
/-- the stack's words keep their width -/
theorem evO_bW (hW : okW (evW E)) {st : List Int64} {o : Op} (hs : ∀ x ∈ st, bW (evW E) x) (h : o.1 ≤ 5 → bW (evW E) (lfV E o)) : ∀ x ∈ evO E st o, bW (evW E) x := by
  intro x hx
  unfold evO at hx
  by_cases h5 : o.1 ≤ 5
  · rw [if_pos h5] at hx
    rcases List.mem_cons.mp hx with e | e
    · rw [e]; exact h h5
    · exact hs x e
  · rw [if_neg h5] at hx
    by_cases h7 : o.1 ≤ 7
    · rw [if_pos h7] at hx
      cases st with
      | nil => cases hx
      | cons y st =>
        rcases List.mem_cons.mp hx with e | e
        · rw [e]
          split
          · exact bW_mk hW _
          · exact bW_rtw hW
        · exact hs x (List.mem_cons_of_mem _ e)
    · rw [if_neg h7] at hx
      cases st with
      | nil => cases hx
      | cons y st => cases st with
        | nil => cases hx
        | cons z st =>
          rcases List.mem_cons.mp hx with e | e
          · rw [e]; exact bW_mk hW _
          · exact hs x (List.mem_cons_of_mem _ (List.mem_cons_of_mem _ e))
theorem evR_bW (hW : okW (evW E)) : ∀ (e : List Op) (st : List Int64), (∀ x ∈ st, bW (evW E) x) → (∀ o ∈ e, o.1 ≤ 5 → bW (evW E) (lfV E o)) → ∀ x ∈ e.foldl (evO E) st, bW (evW E) x
  | [], _, hs, _ => hs
  | o :: e, _, hs, h => evR_bW hW e _ (evO_bW hW hs (h o (List.mem_cons_self ..))) (fun o ho => h o (List.mem_cons_of_mem _ ho))
theorem zv_run (hF : 241 ≤ F) (hW : okW (evW E)) (hi : evI E ≤ 16) (hj : evJ E ≤ 16) (hth : th < 240) : ∀ (e : List Op) (n p : Nat) (st : List Int64) (s : ax_σ) (k : Nat), hw 13 st.length e = some k → (∀ o ∈ e, gdO E o ∧ (∀ t ∈ o.2.2.2, t.2.1 ≤ 2) ∧ (o.1 ≤ 5 → bW (evW E) (lfV E o))) → e.length < n → p + e.length ≤ 240 → s.1 0 55 th = nI (p + e.length) → st.length ≤ 13 → (∀ (q : Nat) (o : Op), e[q]? = some o → ZVo (p + q) o s) → ZWd (evW E) s → (∀ k, k < 4 → s.2 0 80 k = evA E k) → (∀ k, k < 4 → s.2 0 79 k = evK E k) → (∀ k, k < 32 → s.2 0 81 k = evS E k) → (s.1 0 74 0 = nI (evI E) ∧ s.1 0 74 1 = nI (evJ E)) → STz st s → (∀ x ∈ st, bW (evW E) x) → ∃ s', lp_Z_valueOf_25 F (nI th) n (nI st.length) (nI p) s = some s' ∧ STz (e.foldl (evO E) st) s' ∧ frm X75 s s' ∧ (e.foldl (evO E) st).length = k
  | [], 0, _, _, _, _, _, _, h, _, _, _, _, _, _, _, _, _, _, _ => absurd h (Nat.not_lt_zero _)
  | _ :: _, 0, _, _, _, _, _, _, h, _, _, _, _, _, _, _, _, _, _, _ => absurd h (Nat.not_lt_zero _)
  | [], n + 1, p, st, s, k, hh, _, _, hp, hto, _, _, _, _, _, _, _, hst, _ => by
    refine ⟨s, ?_, hst, frm.refl, ?_⟩
    · rw [List.length_nil, Nat.add_zero] at hto hp
      rw [lp_Z_valueOf_25, pu_in hth (by omega), cond_true, nI_clamp (by omega), hto, if_pos (by rw [nI_leI (by omega) (by omega)]; omega)]
    · rw [hw] at hh
      cases hh
      rfl
  | o :: e, n + 1, p, st, s, k, hh, hg, hn, hp, hto, hb, hC, hM, hA, hK, hS, hV, hst, hbw => by
    rw [List.length_cons] at hn hp hto
    obtain ⟨hg0, hg1, hg2⟩ := hg o (List.mem_cons_self ..)
    have hC0 : ZVo p o s := hC 0 o rfl
    have hto' : ∃ e, s.1 0 55 th = nI e ∧ p < e ∧ e ≤ 240 := ⟨_, hto, by omega, by omega⟩
    have go : ∀ (st' : List Int64) (d : Nat) (v : Int64), lp_Z_valueOf_25 F (nI th) (n + 1) (nI st.length) (nI p) s = lp_Z_valueOf_25 F (nI th) n (nI st'.length) (nI (p + 1)) (ax_wL s 0 75 d v) → evO E st o = st' → STz st' (ax_wL s 0 75 d v) → st'.length ≤ 13 → hw 13 st'.length e = some k → ∃ s', lp_Z_valueOf_25 F (nI th) (n + 1) (nI st.length) (nI p) s = some s' ∧ STz ((o :: e).foldl (evO E) st) s' ∧ frm X75 s s' ∧ ((o :: e).foldl (evO E) st).length = k := by
      intro st' d v h1 h2 h3 hb4 h4
      have f0 : frm X75 s (ax_wL s 0 75 d v) := frm.refl.wL 0 75 d v ⟨rfl, rfl⟩
      have q : ∀ (r k : Nat), r ≠ 75 → (ax_wL s 0 75 d v).2 0 r k = s.2 0 r k := fun r k hr => f0.2 _ _ _ (by unfold X75; omega)
      obtain ⟨s', a1, a2, a3, a4⟩ := zv_run hF hW hi hj hth e n (p + 1) st' (ax_wL s 0 75 d v) k h4 (fun o ho => hg o (List.mem_cons_of_mem _ ho)) (by omega) (by omega) (hto.trans (by congr 1; omega)) hb4 (fun i o hq => by
        have := hC (i + 1) o hq
        rw [show p + 1 + i = p + (i + 1) by omega]
        obtain ⟨t0, ⟨z1, z2, z3, z4⟩, z5, z6⟩ := this
        exact ⟨t0, ⟨z1, (q _ _ (by omega)).trans z2, z3, z4⟩, z5, fun i x hx => ⟨(q _ _ (by omega)).trans (z6 i x hx).1, (z6 i x hx).2⟩⟩) ((q _ _ (by omega)).trans hM) (fun k hk => (q _ _ (by omega)).trans (hA k hk)) (fun k hk => (q _ _ (by omega)).trans (hK k hk)) (fun k hk => (q _ _ (by omega)).trans (hS k hk)) hV h3 (by rw [← h2]; exact evO_bW hW hbw hg2)
      rw [List.foldl_cons, h2]
      exact ⟨s', h1.trans a1, a2, f0.trans a3, a4⟩
    rw [hw] at hh
    by_cases h5 : o.1 ≤ 5
    · rw [if_pos h5] at hh
      by_cases h13 : st.length < 13
      · rw [if_pos h13] at hh
        exact go (lfV E o :: st) st.length (lfV E o) (zv_leaf hF hi hj h5 hg0 hg1 (by omega) hth hto' h13 hC0 hA hK hS hV.1 hV.2) (by unfold evO; rw [if_pos h5]) (hst.push _) (by rw [List.length_cons]; omega) hh
      · rw [if_neg h13] at hh; cases hh
    · rw [if_neg h5] at hh
      by_cases h7 : o.1 ≤ 7
      · rw [if_pos h7] at hh
        cases st with
        | nil => rw [if_neg (by rw [List.length_nil]; omega)] at hh; cases hh
        | cons x st =>
          rw [if_pos (by rw [List.length_cons]; omega)] at hh
          obtain ⟨y1, y2⟩ := hst.pop
          rw [List.length_cons] at hh hb
          have h12 : st.length < 13 := by omega
          have e1 : evO E (x :: st) o = (if o.1 = 6 then (x ^^^ (-1 : Int64)) &&& mkW (evW E) else rtw (evW E) x (amt (evW E) (lN o.2.1))) :: st := by
            unfold evO
            rw [if_neg h5, if_pos h7]
          exact go _ st.length _ (zv_one hW hM (by omega) (hbw x (List.mem_cons_self ..)) (by omega) hth hto' h12 hC0 y2) e1 (y1.push _) (by rw [List.length_cons]; omega) hh
      · rw [if_neg h7] at hh
        cases st with
        | nil => rw [if_neg (by rw [List.length_nil]; omega)] at hh; cases hh
        | cons y st => cases st with
         | nil => rw [if_neg (by rw [List.length_singleton]; omega)] at hh; cases hh
         | cons x st =>
          rw [if_pos (by rw [List.length_cons, List.length_cons]; omega)] at hh
          obtain ⟨y1, y2⟩ := hst.pop
          obtain ⟨y3, y4⟩ := y1.pop
          rw [List.length_cons] at y2
          rw [List.length_cons, List.length_cons] at hh hb
          have e1 : evO E (y :: x :: st) o = (jn o.2.1 x y &&& mkW (evW E)) :: st := by
            unfold evO
            rw [if_neg h5, if_neg h7]
          have h8 : o.1 = 8 ∧ isOp o.2.1 := by
            rcases hg0 with ⟨h, -⟩ | ⟨h, -⟩ | ⟨h, -⟩ | ⟨h, -⟩ | ⟨h, -⟩ | ⟨h, -⟩ | ⟨h, -⟩ | h
            · omega
            · omega
            · omega
            · omega
            · omega
            · omega
            · omega
            · exact h
          exact go _ st.length _ (zv_two hW hM h8.1 h8.2 (by omega) hth hto' (by omega) hC0 y4 y2) e1 (y3.push _) (by rw [List.length_cons]; omega) (by rw [List.length_cons]; exact hh)
end
/-- the value -/
def exV (E : Ev) (e : List Op) : Int64 := (e.foldl (evO E) []).headD 0
theorem exV_1 {E : Ev} {e : List Op} (h : (e.foldl (evO E) []).length = 1) : e.foldl (evO E) [] = [exV E e] := by
  unfold exV
  match e.foldl (evO E) [], h with
  | [x], _ => rfl
theorem m_value {F g ln p : Nat} {L : List Nat} {E : Ev} {e : List Op} {s : ax_σ} (hF : 241 ≤ F) (hW : okW (evW E)) (hi : evI E < 16) (hj : evJ E < 16) (hln : ln < 120) (hh : hw 13 0 e = some 1) (hg : ∀ o ∈ e, gdO E o ∧ ∀ t ∈ o.2.2.2, t.2.1 ≤ 2) (hp : p + e.length ≤ 240) (h17 : s.1 g 17 ln = nI p) (h18 : s.1 g 18 ln = nI (p + e.length)) (hC : ∀ (q : Nat) (o : Op), e[q]? = some o → CV g (p + q) L o s) (hM : MW (evW E) s) (hA : ∀ k, k < 4 → s.2 0 34 k = evA E k) (hK : ∀ k, k < 4 → s.2 0 33 k = evK E k) (hS : ∀ k, k < 32 → s.2 0 35 k = evS E k) : ∃ s', f_M_value F g (nI ((ln * 16 + evI E) * 16 + evJ E)) s = some (exV E e, s') ∧ frm X36 s s' := by
  obtain ⟨s', a1, a2, a3, a4⟩ := mv_run (F := F) (g := g) (L := L) (by omega) hW hi hj hln e F p [] s 1 hh hg (by omega) hp h18 (by rw [List.length_nil]; omega) hC hM hA hK hS (fun k v hk => by cases hk)
  rw [exV_1 a4] at a2
  have a5 : s'.2 0 36 0 = exV E e := a2 0 _ rfl
  refine ⟨s', ?_, a3⟩
  have d1 : ((ln * 16 + evI E) * 16 + evJ E) / 256 = ln := by omega
  have d2 : ((ln * 16 + evI E) * 16 + evJ E) / 16 = ln * 16 + evI E := by omega
  have d3 : (ln * 16 + evI E) / 16 = ln := by omega
  have q1 : nI ((ln * 16 + evI E) * 16 + evJ E) / (256 : Int32) = nI ln := by rw [c_256, nI_div (by omega) (by omega), d1]
  have q2 : nI ((ln * 16 + evI E) * 16 + evJ E) / (16 : Int32) = nI (ln * 16 + evI E) := by rw [c_16, nI_div (by omega) (by omega), d2]
  have q3 : nI (ln * 16 + evI E) - nI (ln * 16 + evI E) / (16 : Int32) * (16 : Int32) = nI (evI E) := by rw [c_16, nI_div (by omega) (by omega), d3, nI_mul, nI_sub (by omega)]; congr 1; omega
  have q4 : nI ((ln * 16 + evI E) * 16 + evJ E) - nI (ln * 16 + evI E) * (16 : Int32) = nI (evJ E) := by rw [c_16, nI_mul, nI_sub (by omega)]; congr 1; omega
  unfold f_M_value
  rw [q1, q2, q3, q4, pu_in hln (by omega), cond_true, nI_clamp (by omega), h17]
  have a1 : lp_M_value_34 F g (nI ln) (nI (evI E)) (nI (evJ E)) F (0 : Int32) (nI p) s = some s' := a1
  rw [a1, Option.bind_some]
  have a6 : s'.2 0 36 ((0 : Int32)).toNatClampNeg = exV E e := a5
  rw [a6]
  rfl
theorem z_value {F th p : Nat} {E : Ev} {e : List Op} {s : ax_σ} (hF : 241 ≤ F) (hW : okW (evW E)) (hi : evI E ≤ 16) (hj : evJ E ≤ 16) (hth : th < 240) (hh : hw 13 0 e = some 1) (hg : ∀ o ∈ e, gdO E o ∧ (∀ t ∈ o.2.2.2, t.2.1 ≤ 2) ∧ (o.1 ≤ 5 → bW (evW E) (lfV E o))) (hp : p + e.length ≤ 240) (h54 : s.1 0 54 th = nI p) (h55 : s.1 0 55 th = nI (p + e.length)) (hC : ∀ (q : Nat) (o : Op), e[q]? = some o → ZVo (p + q) o s) (hM : ZWd (evW E) s) (hA : ∀ k, k < 4 → s.2 0 80 k = evA E k) (hK : ∀ k, k < 4 → s.2 0 79 k = evK E k) (hS : ∀ k, k < 32 → s.2 0 81 k = evS E k) : ∃ s', f_Z_valueOf F (nI th) (nI (evI E)) (nI (evJ E)) s = some (exV E e, s') ∧ frm (fun g r k => g = 0 ∧ (r = 74 ∨ r = 75)) s s' := by
  have f0 : frm (fun g r k => g = 0 ∧ (r = 74 ∨ r = 75)) s (ax_wI (ax_wI s 0 74 0 (nI (evI E))) 0 74 1 (nI (evJ E))) := (frm.refl.wI 0 74 0 _ ⟨rfl, Or.inl rfl⟩).wI 0 74 1 _ ⟨rfl, Or.inl rfl⟩
  obtain ⟨s', a1, a2, a3, a4⟩ := zv_run (F := F) hF hW hi hj hth e F p [] (ax_wI (ax_wI s 0 74 0 (nI (evI E))) 0 74 1 (nI (evJ E))) 1 hh hg (by omega) hp ((f0.1 _ _ _ (by omega)).trans h55) (by rw [List.length_nil]; omega) (fun q o hq => by
    obtain ⟨t0, ⟨z1, z2, z3, z4⟩, z5, z6⟩ := hC q o hq
    exact ⟨t0, ⟨(f0.1 _ _ _ (by omega)).trans z1, z2, (f0.1 _ _ _ (by omega)).trans z3, fun h => ⟨(f0.1 _ _ _ (by omega)).trans (z4 h).1, (f0.1 _ _ _ (by omega)).trans (z4 h).2⟩⟩, z5, fun i x hx => ⟨(z6 i x hx).1, (f0.1 _ _ _ (by omega)).trans (z6 i x hx).2.1, (f0.1 _ _ _ (by omega)).trans (z6 i x hx).2.2⟩⟩) hM hA hK hS ⟨by simp (disch := omega) only [wI_1, wI_2, wL_1, wL_2, true_and, and_true, and_self, false_and, and_false, if_true, if_false, if_pos, if_neg], by simp (disch := omega) only [wI_1, wI_2, wL_1, wL_2, true_and, and_true, and_self, false_and, and_false, if_true, if_false, if_pos, if_neg]⟩ (fun k v hk => by cases hk) (fun x hx => by cases hx)
  rw [exV_1 a4] at a2
  have a5 : s'.2 0 75 0 = exV E e := a2 0 _ rfl
  refine ⟨s', ?_, f0.trans (a3.imp (fun g r k h => ⟨h.1, Or.inr h.2⟩))⟩
  have h54' : (ax_wI (ax_wI s 0 74 0 (nI (evI E))) 0 74 1 (nI (evJ E))).1 0 54 th = nI p := (f0.1 _ _ _ (by omega)).trans h54
  have a1 : lp_Z_valueOf_25 F (nI th) F (0 : Int32) (nI p) (ax_wI (ax_wI s 0 74 0 (nI (evI E))) 0 74 1 (nI (evJ E))) = some s' := a1
  unfold f_Z_valueOf
  simp only [ax_let]
  rw [pu_in hth (by omega), nI_clamp (by omega)]
  show Option.bind (lp_Z_valueOf_25 F (nI th) F (0 : Int32) ((ax_wI (ax_wI s 0 74 0 (nI (evI E))) 0 74 1 (nI (evJ E))).1 0 54 th) (ax_wI (ax_wI s 0 74 0 (nI (evI E))) 0 74 1 (nI (evJ E)))) _ = _
  rw [h54', a1, Option.bind_some]
  have a6 : s'.2 0 75 ((0 : Int32)).toNatClampNeg = exV E e := a5
  rw [a6]
  rfl
