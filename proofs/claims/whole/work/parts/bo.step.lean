/-! PURE: a step, the class's -/
def upL (A : Nat → Int64) (x : Nat) (v : Int64) (k : Nat) : Int64 := if k = x then v else A k
def inv64 (v : Nat) : Int64 := nwt (lN v) (nwt (lN v) (nwt (lN v) (nwt (lN v) (nwt (lN v) (lN v)))))
theorem m_inv {F v : Nat} {s : ax_σ} (hF : 7 ≤ F) : f_M_inverse F (lN v) s = some (inv64 v) := by
  obtain ⟨F, rfl⟩ : ∃ F', F = F' + 7 := ⟨F - 7, by omega⟩
  unfold f_M_inverse inv64 nwt
  rw [lp_M_inverse_5, if_neg (by decide), lp_M_inverse_5, if_neg (by decide), lp_M_inverse_5, if_neg (by decide), lp_M_inverse_5, if_neg (by decide), lp_M_inverse_5, if_neg (by decide), lp_M_inverse_5, if_pos (by decide), Option.bind_some]
theorem z_inv {F v : Nat} {s : ax_σ} (hF : 7 ≤ F) (h : v % 2 = 1) : f_Z_inverse F (lN v) s = some (inv64 v) := by
  obtain ⟨r, h1, h2⟩ := m_inverse (s := s) hF h
  rw [m_inv hF] at h1
  rw [Option.some.inj h1]
  exact h2
/-- the state behind a step -/
def stA (E : Ev) (en : Nat → Nat → Nat → Int32) (d : Nat) (t : Th) : Nat → Int64 :=
  if thk t = 4 then upL (evA E) (thw t) (evA E (thw t) ^^^ exV E (the t))
  else if thk t = 5 then upL (evA E) (thw t) ((if d = 0 then evA E (thw t) + exV E (the t) else evA E (thw t) - exV E (the t)) &&& mkW (evW E))
  else if thk t = 6 then upL (evA E) (thw t) ((if d = 0 then evA E (thw t) - exV E (the t) else evA E (thw t) + exV E (the t)) &&& mkW (evW E))
  else if thk t = 7 then upL (evA E) (thw t) ((evA E (thw t) * (if d = 0 then lN (thv t) else inv64 (thv t))) &&& mkW (evW E))
  else if thk t = 8 then upL (evA E) (thw t) (rtw (evW E) (evA E (thw t)) (amt (evW E) (if d = 0 then lN (thv t) else - lN (thv t))))
  else if thk t = 9 then upL (evA E) (thw t) (rtw (evW E) (evA E (thw t)) (amt (evW E) (if d = 0 then evA E (thv t) else - evA E (thv t))))
  else if thk t = 10 then upL (upL (evA E) (thv t) (evA E (thw t))) (thw t) (evA E (thv t))
  else if thk t = 11 then upL (evA E) (thw t) (rp (en (thv t) d) (evA E (thw t)) (evW E / 4) 0 0)
  else upL (evA E) (thw t) (spN (evW E) ((thn t).map (·.1)) (if d = 0 then 1 else evW E - 1) (evA E (thw t)))
/-- a step that can be done -/
def gdT (E : Ev) (en : Nat → Nat → Nat → Int32) (t : Th) : Prop := thw t < 4 ∧ (((4 ≤ thk t ∧ thk t ≤ 6) ∧ hw 13 0 (the t) = some 1 ∧ thn t = [] ∧ ∀ o ∈ the t, gdO E o ∧ (∀ x ∈ o.2.2.2, x.2.1 ≤ 2) ∧ (o.1 ≤ 5 → bW (evW E) (lfV E o))) ∨ (thk t = 7 ∧ thv t < 10 ^ 9 ∧ thv t % 2 = 1) ∨ (thk t = 8 ∧ thv t < 64) ∨ ((thk t = 9 ∨ thk t = 10) ∧ thv t < 4) ∨ (thk t = 11 ∧ thv t < 2 ∧ ∀ d, d < 2 → ∀ k, k < 16 → ∃ v, en (thv t) d k = nI v ∧ v < 16) ∨ (thk t = 12 ∧ the t = [] ∧ (thn t).length ≤ 5))
/-- a step's line and parts -/
def StC (g ln pb : Nat) (L : List Nat) (t : Th) (s : ax_σ) : Prop := ln < 120 ∧ (s.1 g 14 ln = nI (kc (thk t)) ∧ s.1 g 15 ln = nI (thw t) ∧ s.1 g 16 ln = nI (opd pb (wkOf t)) ∧ s.1 g 17 ln = nI pb ∧ s.1 g 18 ln = nI (pb + npT t)) ∧ (thk t ≤ 6 ∨ thk t = 12 → pb + npT t ≤ 240) ∧ ∀ (q : Nat) (x : C5), (p5L L t)[q]? = some x → s.1 g 5 (pb + q) = nI x.1 ∧ s.2 g 6 (pb + q) = lN x.2.1 ∧ s.2 g 7 (pb + q) = lN x.2.2.1 ∧ s.2 g 8 (pb + q) = lN x.2.2.2.1
/-- the class's words -/
def MA (E : Ev) (s : ax_σ) : Prop := MW (evW E) s ∧ (∀ k, k < 4 → s.2 0 34 k = evA E k) ∧ (∀ k, k < 4 → s.2 0 33 k = evK E k) ∧ (∀ k, k < 32 → s.2 0 35 k = evS E k)
def XMs (g r k : Nat) : Prop := g = 0 ∧ (r = 34 ∨ r = 36)
theorem neg_l : ∀ v, v < 64 → (-(nI v)).toInt64 = - lN v := by decide +kernel
theorem bW_64 {E : Ev} {st : List Int64} (h : ∀ x ∈ st, bW (evW E) x) : bW (evW E) (st.headD 0) := by
  cases st with
  | nil => exact bW_0 _
  | cons x st => exact h x (List.mem_cons_self ..)
theorem exV_bW {E : Ev} {e : List Op} (hW : okW (evW E)) (h : ∀ o ∈ e, o.1 ≤ 5 → bW (evW E) (lfV E o)) : bW (evW E) (exV E e) := bW_64 (evR_bW hW e [] (fun x hx => by cases hx) h)
section
variable {F g ln pb d : Nat} {L : List Nat} {E : Ev} {t : Th} {en : Nat → Nat → Nat → Int32} {s : ax_σ}
theorem m_step (hF : 241 ≤ F) (hW : okW (evW E)) (hi : evI E < 16) (hj : evJ E < 16) (hd : d < 2) (hA0 : ∀ k, k < 4 → bW (evW E) (evA E k)) (hg : gdT E en t) (hC : StC g ln pb L t s) (hM : MA E s) (hen : thk t = 11 → ∀ k, k < 16 → (d = 0 → s.1 g 2 (thv t * 16 + k) = en (thv t) 0 k) ∧ (d = 1 → s.1 g 3 (thv t * 16 + k) = en (thv t) 1 k)) : ∃ s', f_M_change F g (nI ((ln * 16 + evI E) * 16 + evJ E)) (nI d) s = some s' ∧ (∀ k, k < 4 → s'.2 0 34 k = stA E en d t k) ∧ frm XMs s s' := by
  obtain ⟨hM1, hMA, hMK, hMS⟩ := hM
  obtain ⟨hln, ⟨h14, h15, h16, h17, h18⟩, hpb, hP⟩ := hC
  obtain ⟨hwt, hg⟩ := hg
  have hax := hMA _ hwt
  have hb := hA0 _ hwt
  have d1 : ((ln * 16 + evI E) * 16 + evJ E) / 256 = ln := by omega
  have q1 : nI ((ln * 16 + evI E) * 16 + evJ E) / (256 : Int32) = nI ln := by rw [c_256, nI_div (by omega) (by omega), d1]
  have fin : ∀ {s51 : ax_σ} {v : Int64} {A' : Nat → Int64}, frm XMs s s51 → (∀ k, k < 4 → s51.2 0 34 k = A' k) → ∃ s', some (ax_wL s51 0 34 (thw t) (v &&& (s51.2 0 32 8))) = some s' ∧ (∀ k, k < 4 → s'.2 0 34 k = upL A' (thw t) (v &&& mkW (evW E)) k) ∧ frm XMs s s' := by
    intro s51 v A' h1 h3
    have h2 : s51.2 0 32 8 = mkW (evW E) := (h1.2 _ _ _ (by unfold XMs; omega)).trans hM1.2
    refine ⟨_, rfl, fun k hk => ?_, h1.wL 0 34 _ _ ⟨rfl, Or.inl rfl⟩⟩
    rw [wL_2, h2]
    unfold upL
    by_cases h : k = thw t
    · rw [if_pos ⟨rfl, rfl, h⟩, if_pos h]
    · rw [if_neg (fun e => h e.2.2), if_neg h]
      exact h3 k hk
  have opd1 : 6 < thk t → thk t ≠ 12 → opd pb (wkOf t) = thv t := by
    intro h1 h2
    unfold opd
    rw [if_neg (by show ¬ thk t ≤ 6; omega), if_neg (show ¬ (wkOf t).1 = 12 from h2)]
    rfl
  have p5 : thk t ≠ 1 → p5L L t = (the t).map (cO L) ++ (thn t).map cN := fun h => by unfold p5L; rw [if_neg h]
  have np5 : thk t ≠ 1 → npT t = (the t).length + (thn t).length := fun h => by unfold npT; rw [if_neg h]
  rcases hg with ⟨hk, hh, hn, ho⟩ | ⟨hk, hv, ho⟩ | ⟨hk, hv⟩ | ⟨hk, hv⟩ | ⟨hk, hv, hen2⟩ | ⟨hk, hte, hl⟩
  · have hpb := hpb (Or.inl (by omega))
    have hp5 := p5 (by omega)
    have hnp := np5 (by omega)
    rw [hn, List.length_nil, Nat.add_zero] at hnp
    rw [hn, List.map_nil, List.append_nil] at hp5
    rw [hp5] at hP
    rw [hnp] at h18 hpb
    obtain ⟨s14, v1, v2⟩ := m_value (F := F) (L := L) hF hW hi hj hln hh (fun o h => ⟨(ho o h).1, (ho o h).2.1⟩) hpb h17 h18 (fun q o hq => hP q (cO L o) (by rw [List.getElem?_map, hq]; rfl)) hM1 hMA hMK hMS
    have hv := exV_bW hW (fun o h => (ho o h).2.2)
    have f14 : frm XMs s s14 := v2.imp (fun g r k h => ⟨h.1, Or.inr h.2⟩)
    have hA14 : ∀ k, k < 4 → s14.2 0 34 k = evA E k := fun k hk => (v2.2 _ _ _ (by unfold X36; omega)).trans (hMA k hk)
    clear hP ho hh
    have e4 : thk t = 4 → stA E en d t = upL (evA E) (thw t) (evA E (thw t) ^^^ exV E (the t)) := fun h => by
      unfold stA; rw [if_pos h]
    have e5 : thk t = 5 → stA E en d t = upL (evA E) (thw t) ((if d = 0 then evA E (thw t) + exV E (the t) else evA E (thw t) - exV E (the t)) &&& mkW (evW E)) := fun h => by
      unfold stA; rw [if_neg (by omega), if_pos h]
    have e6 : thk t = 6 → stA E en d t = upL (evA E) (thw t) ((if d = 0 then evA E (thw t) - exV E (the t) else evA E (thw t) + exV E (the t)) &&& mkW (evW E)) := fun h => by
      unfold stA; rw [if_neg (by omega), if_neg (by omega), if_pos h]
    unfold f_M_change
    rw [q1, pu_in hln (by omega), cond_true, cond_true, nI_clamp (by omega), h15, pu_in hwt (by omega), cond_true, cond_true, h14, nI_clamp (by omega), hax]
    rcases (by omega : thk t = 4 ∨ thk t = 5 ∨ thk t = 6) with h | h | h
    · rw [e4 h, h, show kc 4 = 94 from rfl]
      clear e4 e5 e6
      simp (disch := omega) only [ax_let, Option.bind_some, cond_true, cond_false, if_pos, if_neg, if_true, if_false, eq_self, nI_add, nI_ltI, nI_leI, nI_eq, nI_clamp, pu_in, c_0, c_1, c_2, c_3, c_4, c_5, c_6, c_7, c_8, c_9, c_10, c_11, c_12, c_15, c_16, c_17, c_32, c_35, c_36, c_38, c_40, c_41, c_42, c_43, c_44, c_45, c_48, c_57, c_58, c_59, c_60, c_61, c_62, c_64, c_65, c_69, c_75, c_83, c_91, c_93, c_94, c_97, c_105, c_106, c_110, c_119, c_123, c_124, c_125, c_126, c_240, c_256, c_400, c_m, nI_m1, nM_i, lN_add, lN_mul, lN_i, nI_l, lN_eq, lgN_le, lgN_lt, lgN_ge, lgN_gt, nI_sub, nI_mul, d_0, d_1, c_13, c_14, c_18, c_19, c_20, c_21, c_22, c_23, c_24, c_25, c_26, c_27, c_28, c_29, c_30, c_31, c_33, c_34, c_37, c_39, c_46, c_47, c_49, c_50, c_51, c_52, c_53, c_54, c_55, c_56, c_63, c_66, c_67, c_68, c_70, c_71, c_72, c_73, c_74, c_76, c_77, c_78, c_79, c_80, c_81, c_82, c_84, c_85, c_86, c_87, c_88, c_89, c_90, c_92, c_95, c_96, c_98, c_99, c_100, c_101, c_102, c_103, c_104, c_107, c_108, c_109, c_111, c_112, c_113, c_114, c_115, c_116, c_117, c_118, c_120, c_121, c_122, c_127, c_280, d_2, d_3, d_4, d_8, d_9, d_10, d_15, d_16, d_32, d_48, d_62, d_63, d_64, v1]
      have := fin (v := evA E (thw t) ^^^ exV E (the t)) f14 hA14
      rw [mk_id hW (bW_xor hb hv)] at this
      exact this
    · rw [e5 h, h, show kc 5 = 43 from rfl]
      clear e4 e5 e6
      rcases (by omega : d = 0 ∨ d = 1) with h0 | h0
      · rw [h0, if_pos (rfl : (0 : Nat) = 0)]
        simp (disch := omega) only [ax_let, Option.bind_some, cond_true, cond_false, if_pos, if_neg, if_true, if_false, eq_self, nI_add, nI_ltI, nI_leI, nI_eq, nI_clamp, pu_in, c_0, c_1, c_2, c_3, c_4, c_5, c_6, c_7, c_8, c_9, c_10, c_11, c_12, c_15, c_16, c_17, c_32, c_35, c_36, c_38, c_40, c_41, c_42, c_43, c_44, c_45, c_48, c_57, c_58, c_59, c_60, c_61, c_62, c_64, c_65, c_69, c_75, c_83, c_91, c_93, c_94, c_97, c_105, c_106, c_110, c_119, c_123, c_124, c_125, c_126, c_240, c_256, c_400, c_m, nI_m1, nM_i, lN_add, lN_mul, lN_i, nI_l, lN_eq, lgN_le, lgN_lt, lgN_ge, lgN_gt, nI_sub, nI_mul, d_0, d_1, c_13, c_14, c_18, c_19, c_20, c_21, c_22, c_23, c_24, c_25, c_26, c_27, c_28, c_29, c_30, c_31, c_33, c_34, c_37, c_39, c_46, c_47, c_49, c_50, c_51, c_52, c_53, c_54, c_55, c_56, c_63, c_66, c_67, c_68, c_70, c_71, c_72, c_73, c_74, c_76, c_77, c_78, c_79, c_80, c_81, c_82, c_84, c_85, c_86, c_87, c_88, c_89, c_90, c_92, c_95, c_96, c_98, c_99, c_100, c_101, c_102, c_103, c_104, c_107, c_108, c_109, c_111, c_112, c_113, c_114, c_115, c_116, c_117, c_118, c_120, c_121, c_122, c_127, c_280, d_2, d_3, d_4, d_8, d_9, d_10, d_15, d_16, d_32, d_48, d_62, d_63, d_64, v1]
        exact fin f14 hA14
      · rw [h0, if_neg (show ¬ (1 : Nat) = 0 by omega)]
        simp (disch := omega) only [ax_let, Option.bind_some, cond_true, cond_false, if_pos, if_neg, if_true, if_false, eq_self, nI_add, nI_ltI, nI_leI, nI_eq, nI_clamp, pu_in, c_0, c_1, c_2, c_3, c_4, c_5, c_6, c_7, c_8, c_9, c_10, c_11, c_12, c_15, c_16, c_17, c_32, c_35, c_36, c_38, c_40, c_41, c_42, c_43, c_44, c_45, c_48, c_57, c_58, c_59, c_60, c_61, c_62, c_64, c_65, c_69, c_75, c_83, c_91, c_93, c_94, c_97, c_105, c_106, c_110, c_119, c_123, c_124, c_125, c_126, c_240, c_256, c_400, c_m, nI_m1, nM_i, lN_add, lN_mul, lN_i, nI_l, lN_eq, lgN_le, lgN_lt, lgN_ge, lgN_gt, nI_sub, nI_mul, d_0, d_1, c_13, c_14, c_18, c_19, c_20, c_21, c_22, c_23, c_24, c_25, c_26, c_27, c_28, c_29, c_30, c_31, c_33, c_34, c_37, c_39, c_46, c_47, c_49, c_50, c_51, c_52, c_53, c_54, c_55, c_56, c_63, c_66, c_67, c_68, c_70, c_71, c_72, c_73, c_74, c_76, c_77, c_78, c_79, c_80, c_81, c_82, c_84, c_85, c_86, c_87, c_88, c_89, c_90, c_92, c_95, c_96, c_98, c_99, c_100, c_101, c_102, c_103, c_104, c_107, c_108, c_109, c_111, c_112, c_113, c_114, c_115, c_116, c_117, c_118, c_120, c_121, c_122, c_127, c_280, d_2, d_3, d_4, d_8, d_9, d_10, d_15, d_16, d_32, d_48, d_62, d_63, d_64, v1]
        rw [Int64.sub_eq_add_neg]
        exact fin f14 hA14
    · rw [e6 h, h, show kc 6 = 45 from rfl]
      clear e4 e5 e6
      rcases (by omega : d = 0 ∨ d = 1) with h0 | h0
      · rw [h0, if_pos (rfl : (0 : Nat) = 0)]
        simp (disch := omega) only [ax_let, Option.bind_some, cond_true, cond_false, if_pos, if_neg, if_true, if_false, eq_self, nI_add, nI_ltI, nI_leI, nI_eq, nI_clamp, pu_in, c_0, c_1, c_2, c_3, c_4, c_5, c_6, c_7, c_8, c_9, c_10, c_11, c_12, c_15, c_16, c_17, c_32, c_35, c_36, c_38, c_40, c_41, c_42, c_43, c_44, c_45, c_48, c_57, c_58, c_59, c_60, c_61, c_62, c_64, c_65, c_69, c_75, c_83, c_91, c_93, c_94, c_97, c_105, c_106, c_110, c_119, c_123, c_124, c_125, c_126, c_240, c_256, c_400, c_m, nI_m1, nM_i, lN_add, lN_mul, lN_i, nI_l, lN_eq, lgN_le, lgN_lt, lgN_ge, lgN_gt, nI_sub, nI_mul, d_0, d_1, c_13, c_14, c_18, c_19, c_20, c_21, c_22, c_23, c_24, c_25, c_26, c_27, c_28, c_29, c_30, c_31, c_33, c_34, c_37, c_39, c_46, c_47, c_49, c_50, c_51, c_52, c_53, c_54, c_55, c_56, c_63, c_66, c_67, c_68, c_70, c_71, c_72, c_73, c_74, c_76, c_77, c_78, c_79, c_80, c_81, c_82, c_84, c_85, c_86, c_87, c_88, c_89, c_90, c_92, c_95, c_96, c_98, c_99, c_100, c_101, c_102, c_103, c_104, c_107, c_108, c_109, c_111, c_112, c_113, c_114, c_115, c_116, c_117, c_118, c_120, c_121, c_122, c_127, c_280, d_2, d_3, d_4, d_8, d_9, d_10, d_15, d_16, d_32, d_48, d_62, d_63, d_64, v1]
        exact fin f14 hA14
      · rw [h0, if_neg (show ¬ (1 : Nat) = 0 by omega)]
        simp (disch := omega) only [ax_let, Option.bind_some, cond_true, cond_false, if_pos, if_neg, if_true, if_false, eq_self, nI_add, nI_ltI, nI_leI, nI_eq, nI_clamp, pu_in, c_0, c_1, c_2, c_3, c_4, c_5, c_6, c_7, c_8, c_9, c_10, c_11, c_12, c_15, c_16, c_17, c_32, c_35, c_36, c_38, c_40, c_41, c_42, c_43, c_44, c_45, c_48, c_57, c_58, c_59, c_60, c_61, c_62, c_64, c_65, c_69, c_75, c_83, c_91, c_93, c_94, c_97, c_105, c_106, c_110, c_119, c_123, c_124, c_125, c_126, c_240, c_256, c_400, c_m, nI_m1, nM_i, lN_add, lN_mul, lN_i, nI_l, lN_eq, lgN_le, lgN_lt, lgN_ge, lgN_gt, nI_sub, nI_mul, d_0, d_1, c_13, c_14, c_18, c_19, c_20, c_21, c_22, c_23, c_24, c_25, c_26, c_27, c_28, c_29, c_30, c_31, c_33, c_34, c_37, c_39, c_46, c_47, c_49, c_50, c_51, c_52, c_53, c_54, c_55, c_56, c_63, c_66, c_67, c_68, c_70, c_71, c_72, c_73, c_74, c_76, c_77, c_78, c_79, c_80, c_81, c_82, c_84, c_85, c_86, c_87, c_88, c_89, c_90, c_92, c_95, c_96, c_98, c_99, c_100, c_101, c_102, c_103, c_104, c_107, c_108, c_109, c_111, c_112, c_113, c_114, c_115, c_116, c_117, c_118, c_120, c_121, c_122, c_127, c_280, d_2, d_3, d_4, d_8, d_9, d_10, d_15, d_16, d_32, d_48, d_62, d_63, d_64, v1]
        rw [show evA E (thw t) + exV E (the t) = evA E (thw t) - (- exV E (the t)) by rw [Int64.sub_eq_add_neg, Int64.neg_neg]]
        exact fin f14 hA14
  · have e : stA E en d t = upL (evA E) (thw t) ((evA E (thw t) * (if d = 0 then lN (thv t) else inv64 (thv t))) &&& mkW (evW E)) := by
      unfold stA
      rw [if_neg (by omega), if_neg (by omega), if_neg (by omega), if_pos hk]
    have h14 : s.1 g 14 ln = nI 42 := by rw [h14, hk]; rfl
    have h16 : s.1 g 16 ln = nI (thv t) := by rw [h16, opd1 (by omega) (by omega)]
    rw [e]
    unfold f_M_change
    rw [q1, pu_in hln (by omega), cond_true, cond_true, nI_clamp (by omega), h15, pu_in hwt (by omega), cond_true, cond_true, h14, h16, nI_clamp (by omega), hax]
    rcases (by omega : d = 0 ∨ d = 1) with h0 | h0
    · rw [h0, if_pos (rfl : (0 : Nat) = 0)]
      simp (disch := omega) only [ax_let, Option.bind_some, cond_true, cond_false, if_pos, if_neg, if_true, if_false, eq_self, nI_add, nI_ltI, nI_leI, nI_eq, nI_clamp, pu_in, c_0, c_1, c_2, c_3, c_4, c_5, c_6, c_7, c_8, c_9, c_10, c_11, c_12, c_15, c_16, c_17, c_32, c_35, c_36, c_38, c_40, c_41, c_42, c_43, c_44, c_45, c_48, c_57, c_58, c_59, c_60, c_61, c_62, c_64, c_65, c_69, c_75, c_83, c_91, c_93, c_94, c_97, c_105, c_106, c_110, c_119, c_123, c_124, c_125, c_126, c_240, c_256, c_400, c_m, nI_m1, nM_i, lN_add, lN_mul, lN_i, nI_l, lN_eq, lgN_le, lgN_lt, lgN_ge, lgN_gt, nI_sub, nI_mul, d_0, d_1, c_13, c_14, c_18, c_19, c_20, c_21, c_22, c_23, c_24, c_25, c_26, c_27, c_28, c_29, c_30, c_31, c_33, c_34, c_37, c_39, c_46, c_47, c_49, c_50, c_51, c_52, c_53, c_54, c_55, c_56, c_63, c_66, c_67, c_68, c_70, c_71, c_72, c_73, c_74, c_76, c_77, c_78, c_79, c_80, c_81, c_82, c_84, c_85, c_86, c_87, c_88, c_89, c_90, c_92, c_95, c_96, c_98, c_99, c_100, c_101, c_102, c_103, c_104, c_107, c_108, c_109, c_111, c_112, c_113, c_114, c_115, c_116, c_117, c_118, c_120, c_121, c_122, c_127, c_280, d_2, d_3, d_4, d_8, d_9, d_10, d_15, d_16, d_32, d_48, d_62, d_63, d_64]
      exact fin frm.refl hMA
    · rw [h0, if_neg (show ¬ (1 : Nat) = 0 by omega)]
      simp (disch := omega) only [ax_let, Option.bind_some, cond_true, cond_false, if_pos, if_neg, if_true, if_false, eq_self, nI_add, nI_ltI, nI_leI, nI_eq, nI_clamp, pu_in, c_0, c_1, c_2, c_3, c_4, c_5, c_6, c_7, c_8, c_9, c_10, c_11, c_12, c_15, c_16, c_17, c_32, c_35, c_36, c_38, c_40, c_41, c_42, c_43, c_44, c_45, c_48, c_57, c_58, c_59, c_60, c_61, c_62, c_64, c_65, c_69, c_75, c_83, c_91, c_93, c_94, c_97, c_105, c_106, c_110, c_119, c_123, c_124, c_125, c_126, c_240, c_256, c_400, c_m, nI_m1, nM_i, lN_add, lN_mul, lN_i, nI_l, lN_eq, lgN_le, lgN_lt, lgN_ge, lgN_gt, nI_sub, nI_mul, d_0, d_1, c_13, c_14, c_18, c_19, c_20, c_21, c_22, c_23, c_24, c_25, c_26, c_27, c_28, c_29, c_30, c_31, c_33, c_34, c_37, c_39, c_46, c_47, c_49, c_50, c_51, c_52, c_53, c_54, c_55, c_56, c_63, c_66, c_67, c_68, c_70, c_71, c_72, c_73, c_74, c_76, c_77, c_78, c_79, c_80, c_81, c_82, c_84, c_85, c_86, c_87, c_88, c_89, c_90, c_92, c_95, c_96, c_98, c_99, c_100, c_101, c_102, c_103, c_104, c_107, c_108, c_109, c_111, c_112, c_113, c_114, c_115, c_116, c_117, c_118, c_120, c_121, c_122, c_127, c_280, d_2, d_3, d_4, d_8, d_9, d_10, d_15, d_16, d_32, d_48, d_62, d_63, d_64, m_inv (show 7 ≤ F by omega)]
      exact fin frm.refl hMA
  · have e : stA E en d t = upL (evA E) (thw t) (rtw (evW E) (evA E (thw t)) (amt (evW E) (if d = 0 then lN (thv t) else - lN (thv t))) &&& mkW (evW E)) := by
      rw [mk_id hW (bW_rtw hW)]
      unfold stA
      rw [if_neg (by omega), if_neg (by omega), if_neg (by omega), if_neg (by omega), if_pos hk]
    have h14 : s.1 g 14 ln = nI 60 := by rw [h14, hk]; rfl
    have h16 : s.1 g 16 ln = nI (thv t) := by rw [h16, opd1 (by omega) (by omega)]
    have hneg := neg_l (thv t) hv
    have hro := fun a c => m_rot hW hM1 g a c
    rw [e]
    unfold f_M_change
    rw [q1, pu_in hln (by omega), cond_true, cond_true, nI_clamp (by omega), h15, pu_in hwt (by omega), cond_true, cond_true, h14, h16, nI_clamp (by omega), hax]
    rcases (by omega : d = 0 ∨ d = 1) with h0 | h0
    · rw [h0, if_pos (rfl : (0 : Nat) = 0)]
      simp (disch := omega) only [ax_let, Option.bind_some, cond_true, cond_false, if_pos, if_neg, if_true, if_false, eq_self, nI_add, nI_ltI, nI_leI, nI_eq, nI_clamp, pu_in, c_0, c_1, c_2, c_3, c_4, c_5, c_6, c_7, c_8, c_9, c_10, c_11, c_12, c_15, c_16, c_17, c_32, c_35, c_36, c_38, c_40, c_41, c_42, c_43, c_44, c_45, c_48, c_57, c_58, c_59, c_60, c_61, c_62, c_64, c_65, c_69, c_75, c_83, c_91, c_93, c_94, c_97, c_105, c_106, c_110, c_119, c_123, c_124, c_125, c_126, c_240, c_256, c_400, c_m, nI_m1, nM_i, lN_add, lN_mul, lN_i, nI_l, lN_eq, lgN_le, lgN_lt, lgN_ge, lgN_gt, nI_sub, nI_mul, d_0, d_1, c_13, c_14, c_18, c_19, c_20, c_21, c_22, c_23, c_24, c_25, c_26, c_27, c_28, c_29, c_30, c_31, c_33, c_34, c_37, c_39, c_46, c_47, c_49, c_50, c_51, c_52, c_53, c_54, c_55, c_56, c_63, c_66, c_67, c_68, c_70, c_71, c_72, c_73, c_74, c_76, c_77, c_78, c_79, c_80, c_81, c_82, c_84, c_85, c_86, c_87, c_88, c_89, c_90, c_92, c_95, c_96, c_98, c_99, c_100, c_101, c_102, c_103, c_104, c_107, c_108, c_109, c_111, c_112, c_113, c_114, c_115, c_116, c_117, c_118, c_120, c_121, c_122, c_127, c_280, d_2, d_3, d_4, d_8, d_9, d_10, d_15, d_16, d_32, d_48, d_62, d_63, d_64, hro]
      exact fin frm.refl hMA
    · rw [h0, if_neg (show ¬ (1 : Nat) = 0 by omega)]
      simp (disch := omega) only [ax_let, Option.bind_some, cond_true, cond_false, if_pos, if_neg, if_true, if_false, eq_self, nI_add, nI_ltI, nI_leI, nI_eq, nI_clamp, pu_in, c_0, c_1, c_2, c_3, c_4, c_5, c_6, c_7, c_8, c_9, c_10, c_11, c_12, c_15, c_16, c_17, c_32, c_35, c_36, c_38, c_40, c_41, c_42, c_43, c_44, c_45, c_48, c_57, c_58, c_59, c_60, c_61, c_62, c_64, c_65, c_69, c_75, c_83, c_91, c_93, c_94, c_97, c_105, c_106, c_110, c_119, c_123, c_124, c_125, c_126, c_240, c_256, c_400, c_m, nI_m1, nM_i, lN_add, lN_mul, lN_i, nI_l, lN_eq, lgN_le, lgN_lt, lgN_ge, lgN_gt, nI_sub, nI_mul, d_0, d_1, c_13, c_14, c_18, c_19, c_20, c_21, c_22, c_23, c_24, c_25, c_26, c_27, c_28, c_29, c_30, c_31, c_33, c_34, c_37, c_39, c_46, c_47, c_49, c_50, c_51, c_52, c_53, c_54, c_55, c_56, c_63, c_66, c_67, c_68, c_70, c_71, c_72, c_73, c_74, c_76, c_77, c_78, c_79, c_80, c_81, c_82, c_84, c_85, c_86, c_87, c_88, c_89, c_90, c_92, c_95, c_96, c_98, c_99, c_100, c_101, c_102, c_103, c_104, c_107, c_108, c_109, c_111, c_112, c_113, c_114, c_115, c_116, c_117, c_118, c_120, c_121, c_122, c_127, c_280, d_2, d_3, d_4, d_8, d_9, d_10, d_15, d_16, d_32, d_48, d_62, d_63, d_64, hneg, hro]
      exact fin frm.refl hMA
  · have h16 : s.1 g 16 ln = nI (thv t) := by rw [h16, opd1 (by omega) (by omega)]
    have hav := hMA _ hv
    have hbv := hA0 _ hv
    have hro := fun a c => m_rot hW hM1 g a c
    rcases hk with hk | hk
    · have e : stA E en d t = upL (evA E) (thw t) (rtw (evW E) (evA E (thw t)) (amt (evW E) (if d = 0 then evA E (thv t) else - evA E (thv t))) &&& mkW (evW E)) := by
        rw [mk_id hW (bW_rtw hW)]
        unfold stA
        rw [if_neg (by omega), if_neg (by omega), if_neg (by omega), if_neg (by omega), if_neg (by omega), if_pos hk]
      have h14 : s.1 g 14 ln = nI 119 := by rw [h14, hk]; rfl
      rw [e]
      unfold f_M_change
      rw [q1, pu_in hln (by omega), cond_true, cond_true, nI_clamp (by omega), h15, pu_in hwt (by omega), cond_true, cond_true, h14, h16, nI_clamp (by omega), nI_clamp (by omega), hax]
      rcases (by omega : d = 0 ∨ d = 1) with h0 | h0
      · rw [h0, if_pos (rfl : (0 : Nat) = 0)]
        simp (disch := omega) only [ax_let, Option.bind_some, cond_true, cond_false, if_pos, if_neg, if_true, if_false, eq_self, nI_add, nI_ltI, nI_leI, nI_eq, nI_clamp, pu_in, c_0, c_1, c_2, c_3, c_4, c_5, c_6, c_7, c_8, c_9, c_10, c_11, c_12, c_15, c_16, c_17, c_32, c_35, c_36, c_38, c_40, c_41, c_42, c_43, c_44, c_45, c_48, c_57, c_58, c_59, c_60, c_61, c_62, c_64, c_65, c_69, c_75, c_83, c_91, c_93, c_94, c_97, c_105, c_106, c_110, c_119, c_123, c_124, c_125, c_126, c_240, c_256, c_400, c_m, nI_m1, nM_i, lN_add, lN_mul, lN_i, nI_l, lN_eq, lgN_le, lgN_lt, lgN_ge, lgN_gt, nI_sub, nI_mul, d_0, d_1, c_13, c_14, c_18, c_19, c_20, c_21, c_22, c_23, c_24, c_25, c_26, c_27, c_28, c_29, c_30, c_31, c_33, c_34, c_37, c_39, c_46, c_47, c_49, c_50, c_51, c_52, c_53, c_54, c_55, c_56, c_63, c_66, c_67, c_68, c_70, c_71, c_72, c_73, c_74, c_76, c_77, c_78, c_79, c_80, c_81, c_82, c_84, c_85, c_86, c_87, c_88, c_89, c_90, c_92, c_95, c_96, c_98, c_99, c_100, c_101, c_102, c_103, c_104, c_107, c_108, c_109, c_111, c_112, c_113, c_114, c_115, c_116, c_117, c_118, c_120, c_121, c_122, c_127, c_280, d_2, d_3, d_4, d_8, d_9, d_10, d_15, d_16, d_32, d_48, d_62, d_63, d_64, hav, hro]
        exact fin frm.refl hMA
      · rw [h0, if_neg (show ¬ (1 : Nat) = 0 by omega)]
        simp (disch := omega) only [ax_let, Option.bind_some, cond_true, cond_false, if_pos, if_neg, if_true, if_false, eq_self, nI_add, nI_ltI, nI_leI, nI_eq, nI_clamp, pu_in, c_0, c_1, c_2, c_3, c_4, c_5, c_6, c_7, c_8, c_9, c_10, c_11, c_12, c_15, c_16, c_17, c_32, c_35, c_36, c_38, c_40, c_41, c_42, c_43, c_44, c_45, c_48, c_57, c_58, c_59, c_60, c_61, c_62, c_64, c_65, c_69, c_75, c_83, c_91, c_93, c_94, c_97, c_105, c_106, c_110, c_119, c_123, c_124, c_125, c_126, c_240, c_256, c_400, c_m, nI_m1, nM_i, lN_add, lN_mul, lN_i, nI_l, lN_eq, lgN_le, lgN_lt, lgN_ge, lgN_gt, nI_sub, nI_mul, d_0, d_1, c_13, c_14, c_18, c_19, c_20, c_21, c_22, c_23, c_24, c_25, c_26, c_27, c_28, c_29, c_30, c_31, c_33, c_34, c_37, c_39, c_46, c_47, c_49, c_50, c_51, c_52, c_53, c_54, c_55, c_56, c_63, c_66, c_67, c_68, c_70, c_71, c_72, c_73, c_74, c_76, c_77, c_78, c_79, c_80, c_81, c_82, c_84, c_85, c_86, c_87, c_88, c_89, c_90, c_92, c_95, c_96, c_98, c_99, c_100, c_101, c_102, c_103, c_104, c_107, c_108, c_109, c_111, c_112, c_113, c_114, c_115, c_116, c_117, c_118, c_120, c_121, c_122, c_127, c_280, d_2, d_3, d_4, d_8, d_9, d_10, d_15, d_16, d_32, d_48, d_62, d_63, d_64, hav, hro]
        exact fin frm.refl hMA
    · have e : stA E en d t = upL (upL (evA E) (thv t) (evA E (thw t))) (thw t) (evA E (thv t) &&& mkW (evW E)) := by
        rw [mk_id hW hbv]
        unfold stA
        rw [if_neg (by omega), if_neg (by omega), if_neg (by omega), if_neg (by omega), if_neg (by omega), if_neg (by omega), if_pos hk]
      have h14 : s.1 g 14 ln = nI 58 := by rw [h14, hk]; rfl
      rw [e]
      unfold f_M_change
      rw [q1, pu_in hln (by omega), cond_true, cond_true, nI_clamp (by omega), h15, pu_in hwt (by omega), cond_true, cond_true, h14, h16, nI_clamp (by omega), nI_clamp (by omega), hax]
      simp (disch := omega) only [ax_let, Option.bind_some, cond_true, cond_false, if_pos, if_neg, if_true, if_false, eq_self, nI_add, nI_ltI, nI_leI, nI_eq, nI_clamp, pu_in, c_0, c_1, c_2, c_3, c_4, c_5, c_6, c_7, c_8, c_9, c_10, c_11, c_12, c_15, c_16, c_17, c_32, c_35, c_36, c_38, c_40, c_41, c_42, c_43, c_44, c_45, c_48, c_57, c_58, c_59, c_60, c_61, c_62, c_64, c_65, c_69, c_75, c_83, c_91, c_93, c_94, c_97, c_105, c_106, c_110, c_119, c_123, c_124, c_125, c_126, c_240, c_256, c_400, c_m, nI_m1, nM_i, lN_add, lN_mul, lN_i, nI_l, lN_eq, lgN_le, lgN_lt, lgN_ge, lgN_gt, nI_sub, nI_mul, d_0, d_1, c_13, c_14, c_18, c_19, c_20, c_21, c_22, c_23, c_24, c_25, c_26, c_27, c_28, c_29, c_30, c_31, c_33, c_34, c_37, c_39, c_46, c_47, c_49, c_50, c_51, c_52, c_53, c_54, c_55, c_56, c_63, c_66, c_67, c_68, c_70, c_71, c_72, c_73, c_74, c_76, c_77, c_78, c_79, c_80, c_81, c_82, c_84, c_85, c_86, c_87, c_88, c_89, c_90, c_92, c_95, c_96, c_98, c_99, c_100, c_101, c_102, c_103, c_104, c_107, c_108, c_109, c_111, c_112, c_113, c_114, c_115, c_116, c_117, c_118, c_120, c_121, c_122, c_127, c_280, d_2, d_3, d_4, d_8, d_9, d_10, d_15, d_16, d_32, d_48, d_62, d_63, d_64, hav]
      refine fin (frm.refl.wL 0 34 _ _ ⟨rfl, Or.inl rfl⟩) (fun k hk => ?_)
      rw [wL_2]
      unfold upL
      by_cases h : k = thv t
      · rw [if_pos ⟨rfl, rfl, h⟩, if_pos h]
      · rw [if_neg (fun e => h e.2.2), if_neg h]
        exact hMA k hk
  · have h16 : s.1 g 16 ln = nI (thv t) := by rw [h16, opd1 (by omega) (by omega)]
    have e : stA E en d t = upL (evA E) (thw t) (rp (en (thv t) d) (evA E (thw t)) (evW E / 4) 0 0 &&& mkW (evW E)) := by
      rw [mk_id hW (rp_bW hW (hen2 d hd) _ _ _ (by rcases hW with h | h | h | h <;> omega) (bW_0 _))]
      unfold stA
      rw [if_neg (by omega), if_neg (by omega), if_neg (by omega), if_neg (by omega), if_neg (by omega), if_neg (by omega), if_neg (by omega), if_pos hk]
    have h14 : s.1 g 14 ln = nI 35 := by rw [h14, hk]; rfl
    have hen := hen hk
    have r1 := m_repl_e (F := F) (g := g) (s := s) (a := evA E (thw t)) (by omega) hW hM1 hv
    have r2 := m_repl_b (F := F) (g := g) (s := s) (a := evA E (thw t)) (by omega) hW hM1 hv
    clear hen2
    rw [e]
    unfold f_M_change
    rw [q1, pu_in hln (by omega), cond_true, cond_true, nI_clamp (by omega), h15, pu_in hwt (by omega), cond_true, cond_true, h14, h16, nI_clamp (by omega), hax]
    rcases (by omega : d = 0 ∨ d = 1) with h0 | h0
    · rw [h0, ← rp_cg (fun k hk => (hen k hk).1 h0)]
      clear hen
      simp (disch := omega) only [ax_let, Option.bind_some, cond_true, cond_false, if_pos, if_neg, if_true, if_false, eq_self, nI_add, nI_ltI, nI_leI, nI_eq, nI_clamp, pu_in, c_0, c_1, c_2, c_3, c_4, c_5, c_6, c_7, c_8, c_9, c_10, c_11, c_12, c_15, c_16, c_17, c_32, c_35, c_36, c_38, c_40, c_41, c_42, c_43, c_44, c_45, c_48, c_57, c_58, c_59, c_60, c_61, c_62, c_64, c_65, c_69, c_75, c_83, c_91, c_93, c_94, c_97, c_105, c_106, c_110, c_119, c_123, c_124, c_125, c_126, c_240, c_256, c_400, c_m, nI_m1, nM_i, lN_add, lN_mul, lN_i, nI_l, lN_eq, lgN_le, lgN_lt, lgN_ge, lgN_gt, nI_sub, nI_mul, d_0, d_1, c_13, c_14, c_18, c_19, c_20, c_21, c_22, c_23, c_24, c_25, c_26, c_27, c_28, c_29, c_30, c_31, c_33, c_34, c_37, c_39, c_46, c_47, c_49, c_50, c_51, c_52, c_53, c_54, c_55, c_56, c_63, c_66, c_67, c_68, c_70, c_71, c_72, c_73, c_74, c_76, c_77, c_78, c_79, c_80, c_81, c_82, c_84, c_85, c_86, c_87, c_88, c_89, c_90, c_92, c_95, c_96, c_98, c_99, c_100, c_101, c_102, c_103, c_104, c_107, c_108, c_109, c_111, c_112, c_113, c_114, c_115, c_116, c_117, c_118, c_120, c_121, c_122, c_127, c_280, d_2, d_3, d_4, d_8, d_9, d_10, d_15, d_16, d_32, d_48, d_62, d_63, d_64, r1]
      exact fin frm.refl hMA
    · rw [h0, ← rp_cg (fun k hk => (hen k hk).2 h0)]
      clear hen
      simp (disch := omega) only [ax_let, Option.bind_some, cond_true, cond_false, if_pos, if_neg, if_true, if_false, eq_self, nI_add, nI_ltI, nI_leI, nI_eq, nI_clamp, pu_in, c_0, c_1, c_2, c_3, c_4, c_5, c_6, c_7, c_8, c_9, c_10, c_11, c_12, c_15, c_16, c_17, c_32, c_35, c_36, c_38, c_40, c_41, c_42, c_43, c_44, c_45, c_48, c_57, c_58, c_59, c_60, c_61, c_62, c_64, c_65, c_69, c_75, c_83, c_91, c_93, c_94, c_97, c_105, c_106, c_110, c_119, c_123, c_124, c_125, c_126, c_240, c_256, c_400, c_m, nI_m1, nM_i, lN_add, lN_mul, lN_i, nI_l, lN_eq, lgN_le, lgN_lt, lgN_ge, lgN_gt, nI_sub, nI_mul, d_0, d_1, c_13, c_14, c_18, c_19, c_20, c_21, c_22, c_23, c_24, c_25, c_26, c_27, c_28, c_29, c_30, c_31, c_33, c_34, c_37, c_39, c_46, c_47, c_49, c_50, c_51, c_52, c_53, c_54, c_55, c_56, c_63, c_66, c_67, c_68, c_70, c_71, c_72, c_73, c_74, c_76, c_77, c_78, c_79, c_80, c_81, c_82, c_84, c_85, c_86, c_87, c_88, c_89, c_90, c_92, c_95, c_96, c_98, c_99, c_100, c_101, c_102, c_103, c_104, c_107, c_108, c_109, c_111, c_112, c_113, c_114, c_115, c_116, c_117, c_118, c_120, c_121, c_122, c_127, c_280, d_2, d_3, d_4, d_8, d_9, d_10, d_15, d_16, d_32, d_48, d_62, d_63, d_64, r2]
      exact fin frm.refl hMA
  · have hpb := hpb (Or.inr hk)
    have hp5 := p5 (by omega)
    have hnp := np5 (by omega)
    rw [hte, List.length_nil, Nat.zero_add] at hnp
    rw [hte, List.map_nil, List.nil_append] at hp5
    rw [hp5] at hP
    have hcs : ((thn t).map (·.1)).length = (thn t).length := List.length_map ..
    rw [hnp, ← hcs] at h18 hpb
    have e : stA E en d t = upL (evA E) (thw t) (spN (evW E) ((thn t).map (·.1)) (if d = 0 then 1 else evW E - 1) (evA E (thw t)) &&& mkW (evW E)) := by
      rw [mk_id hW (bW_spN hW _ _ hb)]
      unfold stA
      rw [if_neg (by omega), if_neg (by omega), if_neg (by omega), if_neg (by omega), if_neg (by omega), if_neg (by omega), if_neg (by omega), if_neg (by omega)]
    have h14 : s.1 g 14 ln = nI 64 := by rw [h14, hk]; rfl
    have hc : ∀ (q c : Nat), ((thn t).map (·.1))[q]? = some c → s.2 g 6 (pb + q) = lN c := by
      intro q c hq
      rw [List.getElem?_map] at hq
      match hx : (thn t)[q]?, hq with
      | some x, hq =>
        cases hq
        exact (hP q (cN x) (by rw [List.getElem?_map, hx]; rfl)).2.1
    have r1 := m_spread (F := F) (x := 1) (a := evA E (thw t)) hF hW hM1 hln (by omega) hpb h17 h18 hc
    have r2 := m_gath (F := F) (a := evA E (thw t)) hF hW hM1 hln hpb h17 h18 hc hb
    rw [e]
    clear hP hc
    unfold f_M_change
    rw [q1, pu_in hln (by omega), cond_true, cond_true, nI_clamp (by omega), h15, pu_in hwt (by omega), cond_true, cond_true, h14, nI_clamp (by omega), hax]
    rcases (by omega : d = 0 ∨ d = 1) with h0 | h0
    · rw [h0, if_pos (rfl : (0 : Nat) = 0)]
      simp (disch := omega) only [ax_let, Option.bind_some, cond_true, cond_false, if_pos, if_neg, if_true, if_false, eq_self, nI_add, nI_ltI, nI_leI, nI_eq, nI_clamp, pu_in, c_0, c_1, c_2, c_3, c_4, c_5, c_6, c_7, c_8, c_9, c_10, c_11, c_12, c_15, c_16, c_17, c_32, c_35, c_36, c_38, c_40, c_41, c_42, c_43, c_44, c_45, c_48, c_57, c_58, c_59, c_60, c_61, c_62, c_64, c_65, c_69, c_75, c_83, c_91, c_93, c_94, c_97, c_105, c_106, c_110, c_119, c_123, c_124, c_125, c_126, c_240, c_256, c_400, c_m, nI_m1, nM_i, lN_add, lN_mul, lN_i, nI_l, lN_eq, lgN_le, lgN_lt, lgN_ge, lgN_gt, nI_sub, nI_mul, d_0, d_1, c_13, c_14, c_18, c_19, c_20, c_21, c_22, c_23, c_24, c_25, c_26, c_27, c_28, c_29, c_30, c_31, c_33, c_34, c_37, c_39, c_46, c_47, c_49, c_50, c_51, c_52, c_53, c_54, c_55, c_56, c_63, c_66, c_67, c_68, c_70, c_71, c_72, c_73, c_74, c_76, c_77, c_78, c_79, c_80, c_81, c_82, c_84, c_85, c_86, c_87, c_88, c_89, c_90, c_92, c_95, c_96, c_98, c_99, c_100, c_101, c_102, c_103, c_104, c_107, c_108, c_109, c_111, c_112, c_113, c_114, c_115, c_116, c_117, c_118, c_120, c_121, c_122, c_127, c_280, d_2, d_3, d_4, d_8, d_9, d_10, d_15, d_16, d_32, d_48, d_62, d_63, d_64, r1]
      exact fin frm.refl hMA
    · rw [h0, if_neg (show ¬ (1 : Nat) = 0 by omega)]
      simp (disch := omega) only [ax_let, Option.bind_some, cond_true, cond_false, if_pos, if_neg, if_true, if_false, eq_self, nI_add, nI_ltI, nI_leI, nI_eq, nI_clamp, pu_in, c_0, c_1, c_2, c_3, c_4, c_5, c_6, c_7, c_8, c_9, c_10, c_11, c_12, c_15, c_16, c_17, c_32, c_35, c_36, c_38, c_40, c_41, c_42, c_43, c_44, c_45, c_48, c_57, c_58, c_59, c_60, c_61, c_62, c_64, c_65, c_69, c_75, c_83, c_91, c_93, c_94, c_97, c_105, c_106, c_110, c_119, c_123, c_124, c_125, c_126, c_240, c_256, c_400, c_m, nI_m1, nM_i, lN_add, lN_mul, lN_i, nI_l, lN_eq, lgN_le, lgN_lt, lgN_ge, lgN_gt, nI_sub, nI_mul, d_0, d_1, c_13, c_14, c_18, c_19, c_20, c_21, c_22, c_23, c_24, c_25, c_26, c_27, c_28, c_29, c_30, c_31, c_33, c_34, c_37, c_39, c_46, c_47, c_49, c_50, c_51, c_52, c_53, c_54, c_55, c_56, c_63, c_66, c_67, c_68, c_70, c_71, c_72, c_73, c_74, c_76, c_77, c_78, c_79, c_80, c_81, c_82, c_84, c_85, c_86, c_87, c_88, c_89, c_90, c_92, c_95, c_96, c_98, c_99, c_100, c_101, c_102, c_103, c_104, c_107, c_108, c_109, c_111, c_112, c_113, c_114, c_115, c_116, c_117, c_118, c_120, c_121, c_122, c_127, c_280, d_2, d_3, d_4, d_8, d_9, d_10, d_15, d_16, d_32, d_48, d_62, d_63, d_64, r2]
      exact fin frm.refl hMA
end
