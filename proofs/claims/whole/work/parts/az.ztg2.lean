/-! PURE: the reference's indexes that are too great, in all turns -/
def X74 (g r k : Nat) : Prop := g = 0 ∧ r = 74
/-- rounds a, b are set -/
def sR (C : List (Nat × Cx)) (a b : Nat) (s : ax_σ) : ax_σ := match C with
  | [] => s
  | [c] => ax_wI s 0 74 c.2.1 (nI a)
  | c :: d :: _ => ax_wI (ax_wI s 0 74 c.2.1 (nI a)) 0 74 d.2.1 (nI b)
theorem sR_f {C : List (Nat × Cx)} {a b : Nat} {s : ax_σ} : frm X74 s (sR C a b s) := by
  match C with
  | [] => exact frm.refl
  | [c] => exact frm.refl.wI _ _ _ _ ⟨rfl, rfl⟩
  | c :: d :: _ => exact (frm.refl.wI _ _ _ _ ⟨rfl, rfl⟩).wI _ _ _ _ ⟨rfl, rfl⟩
theorem sR_r {C : List (Nat × Cx)} {a b x : Nat} {s : ax_σ} (h : C.length ≤ 2) (hx : x ∈ (C.map (·.2)).map (·.1)) : (sR C a b s).1 0 74 x = nI (rv (C.map (·.2)) a b x) := by
  match C, h, hx with
  | [], h, hx => cases hx
  | [c], h, hx =>
    cases hx with
    | head => show (ax_wI s 0 74 c.2.1 (nI a)).1 0 74 c.2.1 = nI a; rw [wI_1, if_pos ⟨rfl, rfl, rfl⟩]
    | tail _ hx => cases hx
  | [c, d], h, hx =>
    show (ax_wI (ax_wI s 0 74 c.2.1 (nI a)) 0 74 d.2.1 (nI b)).1 0 74 x = nI (if d.2.1 = x then b else a)
    by_cases e : d.2.1 = x
    · rw [if_pos e, wI_1, if_pos ⟨rfl, rfl, e.symm⟩]
    · rw [if_neg e, wI_1, if_neg (fun z => e z.2.2.symm)]
      cases hx with
      | head => rw [wI_1, if_pos ⟨rfl, rfl, rfl⟩]
      | tail _ hx =>
        cases hx with
        | head => exact absurd rfl e
        | tail _ hx => cases hx
  | _ :: _ :: _ :: _, h, hx => simp only [List.length_cons] at h; omega
theorem rv_lt {C : List Cx} {a b x B : Nat} (ha : a < B) (hb : b < B) : rv C a b x < B := by
  unfold rv
  split
  · split
    · exact hb
    · exact ha
  · exact ha
/-- an index of a thing, in its place -/
def TgS (D : Ds) (C : List (Nat × Cx)) (pre : List Th) (sk : Nat) (rest : List Th) (t : Th) (o : Op) (oi : Nat) (s : ax_σ) : Prop := CxR C 2 (dH D) 0 pre sk rest ∧ ZX D s ∧ ZKd (dH D) s ∧ CxM C s ∧ (oi < 240 ∧ s.1 0 58 oi = nI o.1 ∧ ∃ t0, s.1 0 61 oi = nI t0 ∧ s.1 0 62 oi = nI (t0 + o.2.2.2.length) ∧ t0 + o.2.2.2.length ≤ 240 ∧ ∀ i x, o.2.2.2[i]? = some x → ztA (t0 + i) x s)
theorem TgS.keep {D : Ds} {C : List (Nat × Cx)} {pre rest : List Th} {sk oi : Nat} {t : Th} {o : Op} {s s' : ax_σ} {Q : Nat → Nat → Nat → Prop} (h : TgS D C pre sk rest t o oi s) (hf : frm Q s s') (hq : ∀ r k, XX r k ∨ r = 46 → ¬ Q 0 r k) : TgS D C pre sk rest t o oi s' := by
  obtain ⟨a, b, c, d, e1, e2, t0, f1, f2, f3, f4⟩ := h
  refine ⟨a, b.keep hf (fun r k h => hq r k (Or.inl h)), c.keep hf (fun r k h => hq r k (Or.inl (by unfold XX; omega))), d.keep hf (fun r k h => hq r k (by unfold XX; omega)), e1, (hf.1 _ _ _ (hq _ _ (Or.inl (by unfold XX; omega)))).trans e2, t0, (hf.1 _ _ _ (hq _ _ (Or.inl (by unfold XX; omega)))).trans f1, (hf.1 _ _ _ (hq _ _ (Or.inl (by unfold XX; omega)))).trans f2, f3, fun i x hi => ?_⟩
  obtain ⟨x1, x2, x3⟩ := f4 i x hi
  exact ⟨(hf.2 _ _ _ (hq _ _ (Or.inl (by unfold XX; omega)))).trans x1, (hf.1 _ _ _ (hq _ _ (Or.inl (by unfold XX; omega)))).trans x2, (hf.1 _ _ _ (hq _ _ (Or.inl (by unfold XX; omega)))).trans x3⟩
/-- too great in the turns a, b -/
abbrev tgc (C : List Cx) (tot ky sk : Nat) (w : Bool) (o : Op) (a b : Nat) : Prop := (if o.1 = 2 then ky else if w = true then bf C sk a b else tot) ≤ ixV o.2.2.2 (rv C a b 0) (rv C a b 1)
theorem bf_lt {C : List Cx} {sk a b : Nat} (ha : a < 16) (hb : b < 16) (hs : sk < 2 ^ 30) (hC : ∀ c ∈ C, c.2.2 < 2 ^ 20) : bf C sk a b < 2 ^ 32 := by
  have m1 : ∀ (x : Nat) (c : Cx), c ∈ C → x < 16 → x * c.2.2 ≤ 16 * 2 ^ 20 := fun x c hc hx => Nat.mul_le_mul (by omega) (by have := hC c hc; omega)
  match C, m1 with
  | [], _ => show sk < _; omega
  | [c], m1 =>
    show sk + a * c.2.2 < _
    have := m1 a c (List.mem_cons_self ..) ha
    omega
  | c :: d :: _, m1 =>
    show sk + a * c.2.2 + b * d.2.2 < _
    have := m1 a c (List.mem_cons_self ..) ha
    have := m1 b d (List.mem_cons_of_mem _ (List.mem_cons_self ..)) hb
    omega
theorem ixV_lt {l : List Tm} {i j : Nat} (hl : l.length ≤ 240) (h : ∀ t ∈ l, t.1 < 10 ^ 9) (hi : i < 16) (hj : j < 16) : ixV l i j < 2 ^ 50 := by
  obtain ⟨a, b, c⟩ := ix_le l h
  have hb : l.length * 10 ^ 9 ≤ 240 * 10 ^ 9 := Nat.mul_le_mul_right _ hl
  have hI : ixI l ≤ 240000000000 := by omega
  have hJ : ixJ l ≤ 240000000000 := by omega
  have h1 := Nat.mul_le_mul hI (Nat.le_of_lt hi)
  have h2 := Nat.mul_le_mul hJ (Nat.le_of_lt hj)
  unfold ixV
  omega
section
variable {F tot ky sk oi a : Nat} {D : Ds} {C : List (Nat × Cx)} {pre rest : List Th} {t : Th} {o : Op}
theorem tg_step {b M : Nat} {fl : Bool} {s : ax_σ} (hF : 241 ≤ F) (hT : TgS D C pre sk rest t o oi s) (hot : o.1 = 2 ∨ o.1 = 3) (hlen : o.2.2.2.length ≤ 240) (hx : ∀ x ∈ o.2.2.2, x.1 < 10 ^ 9 ∧ x.2.1 ≤ 2) (hkn : knw ((C.map (·.2)).map (·.1)) o.2.2.2 = true) (hky : s.2 0 41 2 = lN ky) (hky2 : ky < 2 ^ 30) (htot : tot < 2 ^ 30) (hsk : sk < 2 ^ 30) (hg : ∀ c ∈ C.map (·.2), c.2.2 < 2 ^ 20) (ha : a < 16) (hb : b < T1 (C.map (·.2))) : lp_Z_isTooGreat_53 F (nI pre.length) (nI oi) (nI C.length) (lN tot) (nI a) (M + 1) (if fl = true then nI 1 else nI 0) (nI b) s = lp_Z_isTooGreat_53 F (nI pre.length) (nI oi) (nI C.length) (lN tot) (nI a) M (if (fl || decide (tgc (C.map (·.2)) tot ky sk (decide (pre.length < (dW D).length)) o a b)) = true then nI 1 else nI 0) (nI (b + 1)) (sR C a b s) := by
  have hT2 := hT.keep (sR_f (C := C) (a := a) (b := b)) (fun r k h => by unfold X74; unfold XX at h; omega)
  obtain ⟨h1, h2, h3, h4, h5, h6, t0, h7, h8, h9, h10⟩ := hT2
  have hb16 : b < 16 := by
    unfold T1 at hb
    split at hb
    · omega
    · omega
  have hpl : pre.length ≤ 240 := by
    obtain ⟨-, post, e⟩ := h1.pre
    have := h3.1
    rw [e, List.length_append] at this
    omega
  have hdw : (dW D).length ≤ 240 := by
    have := h3.1
    unfold dH at this
    rw [List.length_append] at this
    omega
  have hidx := z_index (F := F) (v := rv (C.map (·.2)) a b) hF h7 h8 h9 h5 (fun x => Nat.lt_of_lt_of_le (rv_lt ha hb16) (by decide)) h10 (fun x hx' => (hx x hx').2) (fun x hx' h0 => sR_r h4.1 (knw_m hkn x hx' h0))
  have hbe := z_before (F := F) (a := a) (b := b) hF (by omega) (by omega) h1 h2 h3 h4
  have hky' : (sR C a b s).2 0 41 2 = lN ky := ((sR_f (C := C)).2 _ _ _ (by unfold X74; omega)).trans hky
  have h23 : (sR C a b s).1 0 38 23 = nI (dW D).length := h2.2.2.2.2.1
  have hlt1 := ixV_lt (l := o.2.2.2) (i := rv (C.map (·.2)) a b 0) (j := rv (C.map (·.2)) a b 1) hlen (fun x hx' => (hx x hx').1) (rv_lt ha hb16) (rv_lt ha hb16)
  have hlt2 := bf_lt (sk := sk) ha hb16 hsk hg
  generalize hfl : fl = fl'
  have hmost : Option.bind (
              if ((sR C a b s).1 0 58 (nI oi).toNatClampNeg) = (2 : Int32) then
                bif ax_in (2 : Int32) 3 then
                some ((sR C a b s).2 0 41 ((2 : Int32)).toNatClampNeg)
                else none
              else
                if nI pre.length < ((sR C a b s).1 0 38 23) then
                  Option.bind (f_Z_before F (nI pre.length) (nI C.length) (nI a) (nI b) (sR C a b s)) (fun r28 =>
                    some r28)
                else
                  some (lN tot)) (fun v33 =>
              Option.bind (
                if (if fl' = true then nI 1 else nI 0) = (0 : Int32) then
                  Option.bind (f_Z_index F (nI oi) (sR C a b s)) (fun r34 =>
                    if (lg_cmp r34 v33) < (0 : Int32) then
                      some false
                    else
                      some true)
                else
                  some true) (fun w38 => bif w38 then
                lp_Z_isTooGreat_53 F (nI pre.length) (nI oi) (nI C.length) (lN tot) (nI a) M (1 : Int32) (nI b + (1 : Int32)) (sR C a b s)
              else
                lp_Z_isTooGreat_53 F (nI pre.length) (nI oi) (nI C.length) (lN tot) (nI a) M (0 : Int32) (nI b + (1 : Int32)) (sR C a b s))) = lp_Z_isTooGreat_53 F (nI pre.length) (nI oi) (nI C.length) (lN tot) (nI a) M (if (fl' || decide (tgc (C.map (·.2)) tot ky sk (decide (pre.length < (dW D).length)) o a b)) = true then nI 1 else nI 0) (nI (b + 1)) (sR C a b s) := by
    have hm : ∀ mo, mo < 2 ^ 32 → (mo = if o.1 = 2 then ky else if decide (pre.length < (dW D).length) = true then bf (C.map (·.2)) sk a b else tot) → Option.bind (
                if (if fl' = true then nI 1 else nI 0) = (0 : Int32) then
                  Option.bind (f_Z_index F (nI oi) (sR C a b s)) (fun r34 =>
                    if (lg_cmp r34 (lN mo)) < (0 : Int32) then
                      some false
                    else
                      some true)
                else
                  some true) (fun w38 => bif w38 then
                lp_Z_isTooGreat_53 F (nI pre.length) (nI oi) (nI C.length) (lN tot) (nI a) M (1 : Int32) (nI b + (1 : Int32)) (sR C a b s)
              else
                lp_Z_isTooGreat_53 F (nI pre.length) (nI oi) (nI C.length) (lN tot) (nI a) M (0 : Int32) (nI b + (1 : Int32)) (sR C a b s)) = lp_Z_isTooGreat_53 F (nI pre.length) (nI oi) (nI C.length) (lN tot) (nI a) M (if (fl' || decide (tgc (C.map (·.2)) tot ky sk (decide (pre.length < (dW D).length)) o a b)) = true then nI 1 else nI 0) (nI (b + 1)) (sR C a b s) := by
      intro mo hmo hme
      cases fl' with
      | true =>
        rw [show (if true = true then nI 1 else nI 0) = nI 1 from rfl, if_neg (show ¬ nI 1 = (0 : Int32) from by decide), Bool.true_or, if_pos rfl, show (1 : Int32) = nI 1 from rfl, nI_add]
        rfl
      | false =>
        rw [show (if false = true then nI 1 else nI 0) = (0 : Int32) from rfl, if_pos rfl, hidx]
        have e1 : (1 : Int32) = nI 1 := rfl
        have e0 : (0 : Int32) = nI 0 := rfl
        unfold tgc
        rw [← hme, e0, e1, nI_add]
        by_cases hc : mo ≤ ixV o.2.2.2 (rv (C.map (·.2)) a b 0) (rv (C.map (·.2)) a b 1)
        · rw [decide_eq_true hc, Option.bind_some, if_neg (by rw [lg6_lt (by omega) (by omega)]; omega)]
          rfl
        · rw [decide_eq_false hc, Option.bind_some, if_pos (by rw [lg6_lt (by omega) (by omega)]; omega)]
          rfl
    rcases hot with e | e
    · rw [e] at h6
      simp (disch := omega) only [ax_let, Option.bind_some, cond_true, cond_false, if_pos, if_neg, if_true, if_false, eq_self, nI_add, nI_ltI, nI_leI, nI_eq, nI_clamp, pu_in, c_0, c_1, c_2, c_3, c_4, c_5, c_6, c_7, c_8, c_9, c_10, c_11, c_12, c_15, c_16, c_17, c_32, c_35, c_36, c_38, c_40, c_41, c_42, c_43, c_44, c_45, c_48, c_57, c_58, c_59, c_60, c_61, c_62, c_64, c_65, c_69, c_75, c_83, c_91, c_93, c_94, c_97, c_105, c_106, c_110, c_119, c_123, c_124, c_125, c_126, c_240, c_256, c_400, c_m, nI_m1, nM_i, lN_add, lN_mul, lN_i, nI_l, lN_eq, lgN_le, lgN_lt, lgN_ge, lgN_gt, nI_sub, nI_mul, d_0, d_1, c_13, c_14, c_18, c_19, c_20, c_21, c_22, c_23, c_24, c_25, c_26, c_27, c_28, c_29, c_30, c_31, c_33, c_34, c_37, c_39, c_46, c_47, c_49, c_50, c_51, c_52, c_53, c_54, c_55, c_56, c_63, c_66, c_67, c_68, c_70, c_71, c_72, c_73, c_74, c_76, c_77, c_78, c_79, c_80, c_81, c_82, c_84, c_85, c_86, c_87, c_88, c_89, c_90, c_92, c_95, c_96, c_98, c_99, c_100, c_101, c_102, c_103, c_104, c_107, c_108, c_109, c_111, c_112, c_113, c_114, c_115, c_116, c_117, c_118, c_120, c_121, c_122, c_127, c_280, d_2, d_3, d_4, d_8, d_9, d_10, d_15, d_16, d_32, d_48, d_62, d_63, d_64, h6, hky']
      have := hm ky (by omega) (by rw [if_pos e])
      simp (disch := omega) only [c_0, c_1, nI_add] at this
      exact this
    · rw [e] at h6
      by_cases hw : pre.length < (dW D).length
      · simp (disch := omega) only [ax_let, Option.bind_some, cond_true, cond_false, if_pos, if_neg, if_true, if_false, eq_self, nI_add, nI_ltI, nI_leI, nI_eq, nI_clamp, pu_in, c_0, c_1, c_2, c_3, c_4, c_5, c_6, c_7, c_8, c_9, c_10, c_11, c_12, c_15, c_16, c_17, c_32, c_35, c_36, c_38, c_40, c_41, c_42, c_43, c_44, c_45, c_48, c_57, c_58, c_59, c_60, c_61, c_62, c_64, c_65, c_69, c_75, c_83, c_91, c_93, c_94, c_97, c_105, c_106, c_110, c_119, c_123, c_124, c_125, c_126, c_240, c_256, c_400, c_m, nI_m1, nM_i, lN_add, lN_mul, lN_i, nI_l, lN_eq, lgN_le, lgN_lt, lgN_ge, lgN_gt, nI_sub, nI_mul, d_0, d_1, c_13, c_14, c_18, c_19, c_20, c_21, c_22, c_23, c_24, c_25, c_26, c_27, c_28, c_29, c_30, c_31, c_33, c_34, c_37, c_39, c_46, c_47, c_49, c_50, c_51, c_52, c_53, c_54, c_55, c_56, c_63, c_66, c_67, c_68, c_70, c_71, c_72, c_73, c_74, c_76, c_77, c_78, c_79, c_80, c_81, c_82, c_84, c_85, c_86, c_87, c_88, c_89, c_90, c_92, c_95, c_96, c_98, c_99, c_100, c_101, c_102, c_103, c_104, c_107, c_108, c_109, c_111, c_112, c_113, c_114, c_115, c_116, c_117, c_118, c_120, c_121, c_122, c_127, c_280, d_2, d_3, d_4, d_8, d_9, d_10, d_15, d_16, d_32, d_48, d_62, d_63, d_64, h6, h23, hbe]
        have := hm _ hlt2 (by rw [if_neg (by omega), decide_eq_true hw, if_pos rfl])
        simp (disch := omega) only [c_0, c_1, nI_add] at this
        exact this
      · simp (disch := omega) only [ax_let, Option.bind_some, cond_true, cond_false, if_pos, if_neg, if_true, if_false, eq_self, nI_add, nI_ltI, nI_leI, nI_eq, nI_clamp, pu_in, c_0, c_1, c_2, c_3, c_4, c_5, c_6, c_7, c_8, c_9, c_10, c_11, c_12, c_15, c_16, c_17, c_32, c_35, c_36, c_38, c_40, c_41, c_42, c_43, c_44, c_45, c_48, c_57, c_58, c_59, c_60, c_61, c_62, c_64, c_65, c_69, c_75, c_83, c_91, c_93, c_94, c_97, c_105, c_106, c_110, c_119, c_123, c_124, c_125, c_126, c_240, c_256, c_400, c_m, nI_m1, nM_i, lN_add, lN_mul, lN_i, nI_l, lN_eq, lgN_le, lgN_lt, lgN_ge, lgN_gt, nI_sub, nI_mul, d_0, d_1, c_13, c_14, c_18, c_19, c_20, c_21, c_22, c_23, c_24, c_25, c_26, c_27, c_28, c_29, c_30, c_31, c_33, c_34, c_37, c_39, c_46, c_47, c_49, c_50, c_51, c_52, c_53, c_54, c_55, c_56, c_63, c_66, c_67, c_68, c_70, c_71, c_72, c_73, c_74, c_76, c_77, c_78, c_79, c_80, c_81, c_82, c_84, c_85, c_86, c_87, c_88, c_89, c_90, c_92, c_95, c_96, c_98, c_99, c_100, c_101, c_102, c_103, c_104, c_107, c_108, c_109, c_111, c_112, c_113, c_114, c_115, c_116, c_117, c_118, c_120, c_121, c_122, c_127, c_280, d_2, d_3, d_4, d_8, d_9, d_10, d_15, d_16, d_32, d_48, d_62, d_63, d_64, h6, h23]
        have := hm tot (by omega) (by rw [if_neg (by omega), decide_eq_false hw, if_neg (by decide)])
        simp (disch := omega) only [c_0, c_1, nI_add] at this
        exact this
  rw [← hmost]
  rw [lp_Z_isTooGreat_53]
  have hC := hT.2.2.2.1
  match C, hC, hb with
  | [], hC, hb =>
    have hb : b < 1 := hb
    simp (disch := omega) only [ax_let, Option.bind_some, cond_true, cond_false, if_pos, if_neg, if_true, if_false, eq_self, nI_add, nI_ltI, nI_leI, nI_eq, nI_clamp, pu_in, c_0, c_1, c_2, c_3, c_4, c_5, c_6, c_7, c_8, c_9, c_10, c_11, c_12, c_15, c_16, c_17, c_32, c_35, c_36, c_38, c_40, c_41, c_42, c_43, c_44, c_45, c_48, c_57, c_58, c_59, c_60, c_61, c_62, c_64, c_65, c_69, c_75, c_83, c_91, c_93, c_94, c_97, c_105, c_106, c_110, c_119, c_123, c_124, c_125, c_126, c_240, c_256, c_400, c_m, nI_m1, nM_i, lN_add, lN_mul, lN_i, nI_l, lN_eq, lgN_le, lgN_lt, lgN_ge, lgN_gt, nI_sub, nI_mul, d_0, d_1, c_13, c_14, c_18, c_19, c_20, c_21, c_22, c_23, c_24, c_25, c_26, c_27, c_28, c_29, c_30, c_31, c_33, c_34, c_37, c_39, c_46, c_47, c_49, c_50, c_51, c_52, c_53, c_54, c_55, c_56, c_63, c_66, c_67, c_68, c_70, c_71, c_72, c_73, c_74, c_76, c_77, c_78, c_79, c_80, c_81, c_82, c_84, c_85, c_86, c_87, c_88, c_89, c_90, c_92, c_95, c_96, c_98, c_99, c_100, c_101, c_102, c_103, c_104, c_107, c_108, c_109, c_111, c_112, c_113, c_114, c_115, c_116, c_117, c_118, c_120, c_121, c_122, c_127, c_280, d_2, d_3, d_4, d_8, d_9, d_10, d_15, d_16, d_32, d_48, d_62, d_63, d_64, List.length_nil, sR]
    rfl
  | [c], hC, hb =>
    have hb : b < 1 := hb
    obtain ⟨m1, m2, m3, m4, m5, m6⟩ := hC.2 0 _ rfl
    simp (disch := omega) only [ax_let, Option.bind_some, cond_true, cond_false, if_pos, if_neg, if_true, if_false, eq_self, nI_add, nI_ltI, nI_leI, nI_eq, nI_clamp, pu_in, c_0, c_1, c_2, c_3, c_4, c_5, c_6, c_7, c_8, c_9, c_10, c_11, c_12, c_15, c_16, c_17, c_32, c_35, c_36, c_38, c_40, c_41, c_42, c_43, c_44, c_45, c_48, c_57, c_58, c_59, c_60, c_61, c_62, c_64, c_65, c_69, c_75, c_83, c_91, c_93, c_94, c_97, c_105, c_106, c_110, c_119, c_123, c_124, c_125, c_126, c_240, c_256, c_400, c_m, nI_m1, nM_i, lN_add, lN_mul, lN_i, nI_l, lN_eq, lgN_le, lgN_lt, lgN_ge, lgN_gt, nI_sub, nI_mul, d_0, d_1, c_13, c_14, c_18, c_19, c_20, c_21, c_22, c_23, c_24, c_25, c_26, c_27, c_28, c_29, c_30, c_31, c_33, c_34, c_37, c_39, c_46, c_47, c_49, c_50, c_51, c_52, c_53, c_54, c_55, c_56, c_63, c_66, c_67, c_68, c_70, c_71, c_72, c_73, c_74, c_76, c_77, c_78, c_79, c_80, c_81, c_82, c_84, c_85, c_86, c_87, c_88, c_89, c_90, c_92, c_95, c_96, c_98, c_99, c_100, c_101, c_102, c_103, c_104, c_107, c_108, c_109, c_111, c_112, c_113, c_114, c_115, c_116, c_117, c_118, c_120, c_121, c_122, c_127, c_280, d_2, d_3, d_4, d_8, d_9, d_10, d_15, d_16, d_32, d_48, d_62, d_63, d_64, List.length_nil, List.length_cons, sR, m1, m3, m5]
    rfl
  | [c, d], hC, hb =>
    have hb : b < min d.2.2.1 16 := hb
    obtain ⟨m1, m2, m3, m4, m5, m6⟩ := hC.2 0 _ rfl
    obtain ⟨n1, n2, n3, n4, n5, n6⟩ := hC.2 1 _ rfl
    simp (disch := omega) only [ax_let, Option.bind_some, cond_true, cond_false, if_pos, if_neg, if_true, if_false, eq_self, nI_add, nI_ltI, nI_leI, nI_eq, nI_clamp, pu_in, c_0, c_1, c_2, c_3, c_4, c_5, c_6, c_7, c_8, c_9, c_10, c_11, c_12, c_15, c_16, c_17, c_32, c_35, c_36, c_38, c_40, c_41, c_42, c_43, c_44, c_45, c_48, c_57, c_58, c_59, c_60, c_61, c_62, c_64, c_65, c_69, c_75, c_83, c_91, c_93, c_94, c_97, c_105, c_106, c_110, c_119, c_123, c_124, c_125, c_126, c_240, c_256, c_400, c_m, nI_m1, nM_i, lN_add, lN_mul, lN_i, nI_l, lN_eq, lgN_le, lgN_lt, lgN_ge, lgN_gt, nI_sub, nI_mul, d_0, d_1, c_13, c_14, c_18, c_19, c_20, c_21, c_22, c_23, c_24, c_25, c_26, c_27, c_28, c_29, c_30, c_31, c_33, c_34, c_37, c_39, c_46, c_47, c_49, c_50, c_51, c_52, c_53, c_54, c_55, c_56, c_63, c_66, c_67, c_68, c_70, c_71, c_72, c_73, c_74, c_76, c_77, c_78, c_79, c_80, c_81, c_82, c_84, c_85, c_86, c_87, c_88, c_89, c_90, c_92, c_95, c_96, c_98, c_99, c_100, c_101, c_102, c_103, c_104, c_107, c_108, c_109, c_111, c_112, c_113, c_114, c_115, c_116, c_117, c_118, c_120, c_121, c_122, c_127, c_280, d_2, d_3, d_4, d_8, d_9, d_10, d_15, d_16, d_32, d_48, d_62, d_63, d_64, wI_1, wI_2, wL_1, wL_2, true_and, and_true, and_self, false_and, and_false, if_true, if_false, List.length_nil, List.length_cons, sR, m1, m3, m5, n1, n3, n5]
  | _ :: _ :: _ :: _, hC, hb =>
    have := hC.1
    simp only [List.length_cons] at this
    omega
theorem tg_53 (hF : 241 ≤ F) (hot : o.1 = 2 ∨ o.1 = 3) (hlen : o.2.2.2.length ≤ 240) (hx : ∀ x ∈ o.2.2.2, x.1 < 10 ^ 9 ∧ x.2.1 ≤ 2) (hkn : knw ((C.map (·.2)).map (·.1)) o.2.2.2 = true) (hky2 : ky < 2 ^ 30) (htot : tot < 2 ^ 30) (hsk : sk < 2 ^ 30) (hg : ∀ c ∈ C.map (·.2), c.2.2 < 2 ^ 20) (ha : a < 16) : ∀ (j b M : Nat) (fl : Bool) (s : ax_σ), b + j = T1 (C.map (·.2)) → j < M → TgS D C pre sk rest t o oi s → s.2 0 41 2 = lN ky → ∃ (fl' : Bool) (s' : ax_σ), lp_Z_isTooGreat_53 F (nI pre.length) (nI oi) (nI C.length) (lN tot) (nI a) M (if fl = true then nI 1 else nI 0) (nI b) s = some (if fl' = true then nI 1 else nI 0, s') ∧ (fl' = true ↔ fl = true ∨ ∃ b', b ≤ b' ∧ b' < T1 (C.map (·.2)) ∧ tgc (C.map (·.2)) tot ky sk (decide (pre.length < (dW D).length)) o a b') ∧ frm X74 s s'
  | j, b, 0, fl, s, _, h, _, _ => absurd h (Nat.not_lt_zero _)
  | 0, b, M + 1, fl, s, hb, _, hT, hky => by
    refine ⟨fl, s, ?_, ⟨fun k => Or.inl k, fun k => k.elim id (fun ⟨b', h1, h2, _⟩ => by omega)⟩, frm.refl⟩
    have hC := hT.2.2.2.1
    rw [lp_Z_isTooGreat_53]
    match C, hC, hb with
    | [], hC, hb =>
      have hb : b + 0 = 1 := hb
      simp (disch := omega) only [ax_let, Option.bind_some, cond_true, cond_false, if_pos, if_neg, if_true, if_false, eq_self, nI_add, nI_ltI, nI_leI, nI_eq, nI_clamp, pu_in, c_0, c_1, c_2, c_3, c_4, c_5, c_6, c_7, c_8, c_9, c_10, c_11, c_12, c_15, c_16, c_17, c_32, c_35, c_36, c_38, c_40, c_41, c_42, c_43, c_44, c_45, c_48, c_57, c_58, c_59, c_60, c_61, c_62, c_64, c_65, c_69, c_75, c_83, c_91, c_93, c_94, c_97, c_105, c_106, c_110, c_119, c_123, c_124, c_125, c_126, c_240, c_256, c_400, c_m, nI_m1, nM_i, lN_add, lN_mul, lN_i, nI_l, lN_eq, lgN_le, lgN_lt, lgN_ge, lgN_gt, nI_sub, nI_mul, d_0, d_1, c_13, c_14, c_18, c_19, c_20, c_21, c_22, c_23, c_24, c_25, c_26, c_27, c_28, c_29, c_30, c_31, c_33, c_34, c_37, c_39, c_46, c_47, c_49, c_50, c_51, c_52, c_53, c_54, c_55, c_56, c_63, c_66, c_67, c_68, c_70, c_71, c_72, c_73, c_74, c_76, c_77, c_78, c_79, c_80, c_81, c_82, c_84, c_85, c_86, c_87, c_88, c_89, c_90, c_92, c_95, c_96, c_98, c_99, c_100, c_101, c_102, c_103, c_104, c_107, c_108, c_109, c_111, c_112, c_113, c_114, c_115, c_116, c_117, c_118, c_120, c_121, c_122, c_127, c_280, d_2, d_3, d_4, d_8, d_9, d_10, d_15, d_16, d_32, d_48, d_62, d_63, d_64, List.length_nil]
    | [c], hC, hb =>
      have hb : b + 0 = 1 := hb
      simp (disch := omega) only [ax_let, Option.bind_some, cond_true, cond_false, if_pos, if_neg, if_true, if_false, eq_self, nI_add, nI_ltI, nI_leI, nI_eq, nI_clamp, pu_in, c_0, c_1, c_2, c_3, c_4, c_5, c_6, c_7, c_8, c_9, c_10, c_11, c_12, c_15, c_16, c_17, c_32, c_35, c_36, c_38, c_40, c_41, c_42, c_43, c_44, c_45, c_48, c_57, c_58, c_59, c_60, c_61, c_62, c_64, c_65, c_69, c_75, c_83, c_91, c_93, c_94, c_97, c_105, c_106, c_110, c_119, c_123, c_124, c_125, c_126, c_240, c_256, c_400, c_m, nI_m1, nM_i, lN_add, lN_mul, lN_i, nI_l, lN_eq, lgN_le, lgN_lt, lgN_ge, lgN_gt, nI_sub, nI_mul, d_0, d_1, c_13, c_14, c_18, c_19, c_20, c_21, c_22, c_23, c_24, c_25, c_26, c_27, c_28, c_29, c_30, c_31, c_33, c_34, c_37, c_39, c_46, c_47, c_49, c_50, c_51, c_52, c_53, c_54, c_55, c_56, c_63, c_66, c_67, c_68, c_70, c_71, c_72, c_73, c_74, c_76, c_77, c_78, c_79, c_80, c_81, c_82, c_84, c_85, c_86, c_87, c_88, c_89, c_90, c_92, c_95, c_96, c_98, c_99, c_100, c_101, c_102, c_103, c_104, c_107, c_108, c_109, c_111, c_112, c_113, c_114, c_115, c_116, c_117, c_118, c_120, c_121, c_122, c_127, c_280, d_2, d_3, d_4, d_8, d_9, d_10, d_15, d_16, d_32, d_48, d_62, d_63, d_64, List.length_nil, List.length_cons]
    | [c, d], hC, hb =>
      have hb : b + 0 = min d.2.2.1 16 := hb
      obtain ⟨n1, n2, n3, n4, n5, n6⟩ := hC.2 1 _ rfl
      by_cases h16 : d.2.2.1 ≤ 16
      · simp (disch := omega) only [ax_let, Option.bind_some, cond_true, cond_false, if_pos, if_neg, if_true, if_false, eq_self, nI_add, nI_ltI, nI_leI, nI_eq, nI_clamp, pu_in, c_0, c_1, c_2, c_3, c_4, c_5, c_6, c_7, c_8, c_9, c_10, c_11, c_12, c_15, c_16, c_17, c_32, c_35, c_36, c_38, c_40, c_41, c_42, c_43, c_44, c_45, c_48, c_57, c_58, c_59, c_60, c_61, c_62, c_64, c_65, c_69, c_75, c_83, c_91, c_93, c_94, c_97, c_105, c_106, c_110, c_119, c_123, c_124, c_125, c_126, c_240, c_256, c_400, c_m, nI_m1, nM_i, lN_add, lN_mul, lN_i, nI_l, lN_eq, lgN_le, lgN_lt, lgN_ge, lgN_gt, nI_sub, nI_mul, d_0, d_1, c_13, c_14, c_18, c_19, c_20, c_21, c_22, c_23, c_24, c_25, c_26, c_27, c_28, c_29, c_30, c_31, c_33, c_34, c_37, c_39, c_46, c_47, c_49, c_50, c_51, c_52, c_53, c_54, c_55, c_56, c_63, c_66, c_67, c_68, c_70, c_71, c_72, c_73, c_74, c_76, c_77, c_78, c_79, c_80, c_81, c_82, c_84, c_85, c_86, c_87, c_88, c_89, c_90, c_92, c_95, c_96, c_98, c_99, c_100, c_101, c_102, c_103, c_104, c_107, c_108, c_109, c_111, c_112, c_113, c_114, c_115, c_116, c_117, c_118, c_120, c_121, c_122, c_127, c_280, d_2, d_3, d_4, d_8, d_9, d_10, d_15, d_16, d_32, d_48, d_62, d_63, d_64, List.length_nil, List.length_cons, n1, n3, n5]
      · simp (disch := omega) only [ax_let, Option.bind_some, cond_true, cond_false, if_pos, if_neg, if_true, if_false, eq_self, nI_add, nI_ltI, nI_leI, nI_eq, nI_clamp, pu_in, c_0, c_1, c_2, c_3, c_4, c_5, c_6, c_7, c_8, c_9, c_10, c_11, c_12, c_15, c_16, c_17, c_32, c_35, c_36, c_38, c_40, c_41, c_42, c_43, c_44, c_45, c_48, c_57, c_58, c_59, c_60, c_61, c_62, c_64, c_65, c_69, c_75, c_83, c_91, c_93, c_94, c_97, c_105, c_106, c_110, c_119, c_123, c_124, c_125, c_126, c_240, c_256, c_400, c_m, nI_m1, nM_i, lN_add, lN_mul, lN_i, nI_l, lN_eq, lgN_le, lgN_lt, lgN_ge, lgN_gt, nI_sub, nI_mul, d_0, d_1, c_13, c_14, c_18, c_19, c_20, c_21, c_22, c_23, c_24, c_25, c_26, c_27, c_28, c_29, c_30, c_31, c_33, c_34, c_37, c_39, c_46, c_47, c_49, c_50, c_51, c_52, c_53, c_54, c_55, c_56, c_63, c_66, c_67, c_68, c_70, c_71, c_72, c_73, c_74, c_76, c_77, c_78, c_79, c_80, c_81, c_82, c_84, c_85, c_86, c_87, c_88, c_89, c_90, c_92, c_95, c_96, c_98, c_99, c_100, c_101, c_102, c_103, c_104, c_107, c_108, c_109, c_111, c_112, c_113, c_114, c_115, c_116, c_117, c_118, c_120, c_121, c_122, c_127, c_280, d_2, d_3, d_4, d_8, d_9, d_10, d_15, d_16, d_32, d_48, d_62, d_63, d_64, List.length_nil, List.length_cons, n1, n3, n5]
    | _ :: _ :: _ :: _, hC, hb =>
      have := hC.1
      simp only [List.length_cons] at this
      omega
  | j + 1, b, M + 1, fl, s, hb, hM, hT, hky => by
    have hst := tg_step (M := M) (fl := fl) hF hT hot hlen hx hkn hky hky2 htot hsk hg ha (b := b) (by omega)
    have hT2 := hT.keep (sR_f (C := C) (a := a) (b := b)) (fun r k h => by unfold X74; unfold XX at h; omega)
    obtain ⟨fl', s', a1, a2, a3⟩ := tg_53 hF hot hlen hx hkn hky2 htot hsk hg ha j (b + 1) M (fl || decide (tgc (C.map (·.2)) tot ky sk (decide (pre.length < (dW D).length)) o a b)) (sR C a b s) (by omega) (by omega) hT2 (((sR_f (C := C)).2 _ _ _ (by unfold X74; omega)).trans hky)
    refine ⟨fl', s', hst.trans a1, ?_, sR_f.trans a3⟩
    rw [a2, Bool.or_eq_true, decide_eq_true_eq, or_assoc]
    refine or_congr Iff.rfl ⟨fun h => ?_, fun ⟨b', h1, h2, h3⟩ => ?_⟩
    · rcases h with h | ⟨b', h1, h2, h3⟩
      · exact ⟨b, Nat.le_refl _, by omega, h⟩
      · exact ⟨b', by omega, h2, h3⟩
    · by_cases e : b' = b
      · subst e; exact Or.inl h3
      · exact Or.inr ⟨b', by omega, h2, h3⟩
theorem tg_17 (hF : 241 ≤ F) (hot : o.1 = 2 ∨ o.1 = 3) (hlen : o.2.2.2.length ≤ 240) (hx : ∀ x ∈ o.2.2.2, x.1 < 10 ^ 9 ∧ x.2.1 ≤ 2) (hkn : knw ((C.map (·.2)).map (·.1)) o.2.2.2 = true) (hky2 : ky < 2 ^ 30) (htot : tot < 2 ^ 30) (hsk : sk < 2 ^ 30) (hg : ∀ c ∈ C.map (·.2), c.2.2 < 2 ^ 20) : ∀ (j a M : Nat) (fl : Bool) (s : ax_σ), a + j = T0 (C.map (·.2)) → j < M → TgS D C pre sk rest t o oi s → s.2 0 41 2 = lN ky → ∃ (fl' : Bool) (s' : ax_σ), lp_Z_isTooGreat_17 F (nI pre.length) (nI oi) (nI C.length) (lN tot) M (if fl = true then nI 1 else nI 0) (nI a) s = some (if fl' = true then nI 1 else nI 0, s') ∧ (fl' = true ↔ fl = true ∨ ∃ a' b', a ≤ a' ∧ a' < T0 (C.map (·.2)) ∧ b' < T1 (C.map (·.2)) ∧ tgc (C.map (·.2)) tot ky sk (decide (pre.length < (dW D).length)) o a' b') ∧ frm X74 s s'
  | j, a, 0, fl, s, _, h, _, _ => absurd h (Nat.not_lt_zero _)
  | 0, a, M + 1, fl, s, hb, _, hT, hky => by
    refine ⟨fl, s, ?_, ⟨fun k => Or.inl k, fun k => k.elim id (fun ⟨a', b', h1, h2, _⟩ => by omega)⟩, frm.refl⟩
    have hC := hT.2.2.2.1
    rw [lp_Z_isTooGreat_17]
    match C, hC, hb with
    | [], hC, hb =>
      have hb : a + 0 = 1 := hb
      simp (disch := omega) only [ax_let, Option.bind_some, cond_true, cond_false, if_pos, if_neg, if_true, if_false, eq_self, nI_add, nI_ltI, nI_leI, nI_eq, nI_clamp, pu_in, c_0, c_1, c_2, c_3, c_4, c_5, c_6, c_7, c_8, c_9, c_10, c_11, c_12, c_15, c_16, c_17, c_32, c_35, c_36, c_38, c_40, c_41, c_42, c_43, c_44, c_45, c_48, c_57, c_58, c_59, c_60, c_61, c_62, c_64, c_65, c_69, c_75, c_83, c_91, c_93, c_94, c_97, c_105, c_106, c_110, c_119, c_123, c_124, c_125, c_126, c_240, c_256, c_400, c_m, nI_m1, nM_i, lN_add, lN_mul, lN_i, nI_l, lN_eq, lgN_le, lgN_lt, lgN_ge, lgN_gt, nI_sub, nI_mul, d_0, d_1, c_13, c_14, c_18, c_19, c_20, c_21, c_22, c_23, c_24, c_25, c_26, c_27, c_28, c_29, c_30, c_31, c_33, c_34, c_37, c_39, c_46, c_47, c_49, c_50, c_51, c_52, c_53, c_54, c_55, c_56, c_63, c_66, c_67, c_68, c_70, c_71, c_72, c_73, c_74, c_76, c_77, c_78, c_79, c_80, c_81, c_82, c_84, c_85, c_86, c_87, c_88, c_89, c_90, c_92, c_95, c_96, c_98, c_99, c_100, c_101, c_102, c_103, c_104, c_107, c_108, c_109, c_111, c_112, c_113, c_114, c_115, c_116, c_117, c_118, c_120, c_121, c_122, c_127, c_280, d_2, d_3, d_4, d_8, d_9, d_10, d_15, d_16, d_32, d_48, d_62, d_63, d_64, List.length_nil]
    | c :: C', hC, hb =>
      have hb : a + 0 = min c.2.2.1 16 := hb
      have hl := hC.1
      rw [List.length_cons] at hl
      obtain ⟨n1, n2, n3, n4, n5, n6⟩ := hC.2 0 _ rfl
      by_cases h16 : c.2.2.1 ≤ 16
      · simp (disch := omega) only [ax_let, Option.bind_some, cond_true, cond_false, if_pos, if_neg, if_true, if_false, eq_self, nI_add, nI_ltI, nI_leI, nI_eq, nI_clamp, pu_in, c_0, c_1, c_2, c_3, c_4, c_5, c_6, c_7, c_8, c_9, c_10, c_11, c_12, c_15, c_16, c_17, c_32, c_35, c_36, c_38, c_40, c_41, c_42, c_43, c_44, c_45, c_48, c_57, c_58, c_59, c_60, c_61, c_62, c_64, c_65, c_69, c_75, c_83, c_91, c_93, c_94, c_97, c_105, c_106, c_110, c_119, c_123, c_124, c_125, c_126, c_240, c_256, c_400, c_m, nI_m1, nM_i, lN_add, lN_mul, lN_i, nI_l, lN_eq, lgN_le, lgN_lt, lgN_ge, lgN_gt, nI_sub, nI_mul, d_0, d_1, c_13, c_14, c_18, c_19, c_20, c_21, c_22, c_23, c_24, c_25, c_26, c_27, c_28, c_29, c_30, c_31, c_33, c_34, c_37, c_39, c_46, c_47, c_49, c_50, c_51, c_52, c_53, c_54, c_55, c_56, c_63, c_66, c_67, c_68, c_70, c_71, c_72, c_73, c_74, c_76, c_77, c_78, c_79, c_80, c_81, c_82, c_84, c_85, c_86, c_87, c_88, c_89, c_90, c_92, c_95, c_96, c_98, c_99, c_100, c_101, c_102, c_103, c_104, c_107, c_108, c_109, c_111, c_112, c_113, c_114, c_115, c_116, c_117, c_118, c_120, c_121, c_122, c_127, c_280, d_2, d_3, d_4, d_8, d_9, d_10, d_15, d_16, d_32, d_48, d_62, d_63, d_64, List.length_cons, n1, n3, n5]
      · simp (disch := omega) only [ax_let, Option.bind_some, cond_true, cond_false, if_pos, if_neg, if_true, if_false, eq_self, nI_add, nI_ltI, nI_leI, nI_eq, nI_clamp, pu_in, c_0, c_1, c_2, c_3, c_4, c_5, c_6, c_7, c_8, c_9, c_10, c_11, c_12, c_15, c_16, c_17, c_32, c_35, c_36, c_38, c_40, c_41, c_42, c_43, c_44, c_45, c_48, c_57, c_58, c_59, c_60, c_61, c_62, c_64, c_65, c_69, c_75, c_83, c_91, c_93, c_94, c_97, c_105, c_106, c_110, c_119, c_123, c_124, c_125, c_126, c_240, c_256, c_400, c_m, nI_m1, nM_i, lN_add, lN_mul, lN_i, nI_l, lN_eq, lgN_le, lgN_lt, lgN_ge, lgN_gt, nI_sub, nI_mul, d_0, d_1, c_13, c_14, c_18, c_19, c_20, c_21, c_22, c_23, c_24, c_25, c_26, c_27, c_28, c_29, c_30, c_31, c_33, c_34, c_37, c_39, c_46, c_47, c_49, c_50, c_51, c_52, c_53, c_54, c_55, c_56, c_63, c_66, c_67, c_68, c_70, c_71, c_72, c_73, c_74, c_76, c_77, c_78, c_79, c_80, c_81, c_82, c_84, c_85, c_86, c_87, c_88, c_89, c_90, c_92, c_95, c_96, c_98, c_99, c_100, c_101, c_102, c_103, c_104, c_107, c_108, c_109, c_111, c_112, c_113, c_114, c_115, c_116, c_117, c_118, c_120, c_121, c_122, c_127, c_280, d_2, d_3, d_4, d_8, d_9, d_10, d_15, d_16, d_32, d_48, d_62, d_63, d_64, List.length_cons, n1, n3, n5]
  | j + 1, a, M + 1, fl, s, hb, hM, hT, hky => by
    have hT1 : T1 (C.map (·.2)) ≤ 16 := by
      unfold T1
      split
      · exact Nat.min_le_right _ _
      · decide
    have ha16 : a < 16 := by
      have : T0 (C.map (·.2)) ≤ 16 := by
        unfold T0
        split
        · decide
        · exact Nat.min_le_right _ _
      omega
    obtain ⟨f1, s1, p1, p2, p3⟩ := tg_53 (D := D) (t := t) (oi := oi) hF hot hlen hx hkn hky2 htot hsk hg ha16 (T1 (C.map (·.2))) 0 F fl s (by omega) (by omega) hT hky
    have hT2 := hT.keep p3 (fun r k h => by unfold X74; unfold XX at h; omega)
    obtain ⟨fl', s', a1, a2, a3⟩ := tg_17 hF hot hlen hx hkn hky2 htot hsk hg j (a + 1) M f1 s1 (by omega) (by omega) hT2 ((p3.2 _ _ _ (by unfold X74; omega)).trans hky)
    refine ⟨fl', s', ?_, ?_, p3.trans a3⟩
    · rw [← a1]
      have hC := hT.2.2.2.1
      rw [lp_Z_isTooGreat_17]
      match C, hC, hb, p1 with
      | [], hC, hb, p1 =>
        have hb : a + (j + 1) = 1 := hb
        simp (disch := omega) only [ax_let, Option.bind_some, cond_true, cond_false, if_pos, if_neg, if_true, if_false, eq_self, nI_add, nI_ltI, nI_leI, nI_eq, nI_clamp, pu_in, c_0, c_1, c_2, c_3, c_4, c_5, c_6, c_7, c_8, c_9, c_10, c_11, c_12, c_15, c_16, c_17, c_32, c_35, c_36, c_38, c_40, c_41, c_42, c_43, c_44, c_45, c_48, c_57, c_58, c_59, c_60, c_61, c_62, c_64, c_65, c_69, c_75, c_83, c_91, c_93, c_94, c_97, c_105, c_106, c_110, c_119, c_123, c_124, c_125, c_126, c_240, c_256, c_400, c_m, nI_m1, nM_i, lN_add, lN_mul, lN_i, nI_l, lN_eq, lgN_le, lgN_lt, lgN_ge, lgN_gt, nI_sub, nI_mul, d_0, d_1, c_13, c_14, c_18, c_19, c_20, c_21, c_22, c_23, c_24, c_25, c_26, c_27, c_28, c_29, c_30, c_31, c_33, c_34, c_37, c_39, c_46, c_47, c_49, c_50, c_51, c_52, c_53, c_54, c_55, c_56, c_63, c_66, c_67, c_68, c_70, c_71, c_72, c_73, c_74, c_76, c_77, c_78, c_79, c_80, c_81, c_82, c_84, c_85, c_86, c_87, c_88, c_89, c_90, c_92, c_95, c_96, c_98, c_99, c_100, c_101, c_102, c_103, c_104, c_107, c_108, c_109, c_111, c_112, c_113, c_114, c_115, c_116, c_117, c_118, c_120, c_121, c_122, c_127, c_280, d_2, d_3, d_4, d_8, d_9, d_10, d_15, d_16, d_32, d_48, d_62, d_63, d_64, List.length_nil]
        simp (disch := omega) only [ax_let, Option.bind_some, cond_true, cond_false, if_pos, if_neg, if_true, if_false, eq_self, nI_add, nI_ltI, nI_leI, nI_eq, nI_clamp, pu_in, c_0, c_1, c_2, c_3, c_4, c_5, c_6, c_7, c_8, c_9, c_10, c_11, c_12, c_15, c_16, c_17, c_32, c_35, c_36, c_38, c_40, c_41, c_42, c_43, c_44, c_45, c_48, c_57, c_58, c_59, c_60, c_61, c_62, c_64, c_65, c_69, c_75, c_83, c_91, c_93, c_94, c_97, c_105, c_106, c_110, c_119, c_123, c_124, c_125, c_126, c_240, c_256, c_400, c_m, nI_m1, nM_i, lN_add, lN_mul, lN_i, nI_l, lN_eq, lgN_le, lgN_lt, lgN_ge, lgN_gt, nI_sub, nI_mul, d_0, d_1, c_13, c_14, c_18, c_19, c_20, c_21, c_22, c_23, c_24, c_25, c_26, c_27, c_28, c_29, c_30, c_31, c_33, c_34, c_37, c_39, c_46, c_47, c_49, c_50, c_51, c_52, c_53, c_54, c_55, c_56, c_63, c_66, c_67, c_68, c_70, c_71, c_72, c_73, c_74, c_76, c_77, c_78, c_79, c_80, c_81, c_82, c_84, c_85, c_86, c_87, c_88, c_89, c_90, c_92, c_95, c_96, c_98, c_99, c_100, c_101, c_102, c_103, c_104, c_107, c_108, c_109, c_111, c_112, c_113, c_114, c_115, c_116, c_117, c_118, c_120, c_121, c_122, c_127, c_280, d_2, d_3, d_4, d_8, d_9, d_10, d_15, d_16, d_32, d_48, d_62, d_63, d_64, List.length_nil] at p1
        simp (disch := omega) only [ax_let, Option.bind_some, cond_true, cond_false, if_pos, if_neg, if_true, if_false, eq_self, nI_add, nI_ltI, nI_leI, nI_eq, nI_clamp, pu_in, c_0, c_1, c_2, c_3, c_4, c_5, c_6, c_7, c_8, c_9, c_10, c_11, c_12, c_15, c_16, c_17, c_32, c_35, c_36, c_38, c_40, c_41, c_42, c_43, c_44, c_45, c_48, c_57, c_58, c_59, c_60, c_61, c_62, c_64, c_65, c_69, c_75, c_83, c_91, c_93, c_94, c_97, c_105, c_106, c_110, c_119, c_123, c_124, c_125, c_126, c_240, c_256, c_400, c_m, nI_m1, nM_i, lN_add, lN_mul, lN_i, nI_l, lN_eq, lgN_le, lgN_lt, lgN_ge, lgN_gt, nI_sub, nI_mul, d_0, d_1, c_13, c_14, c_18, c_19, c_20, c_21, c_22, c_23, c_24, c_25, c_26, c_27, c_28, c_29, c_30, c_31, c_33, c_34, c_37, c_39, c_46, c_47, c_49, c_50, c_51, c_52, c_53, c_54, c_55, c_56, c_63, c_66, c_67, c_68, c_70, c_71, c_72, c_73, c_74, c_76, c_77, c_78, c_79, c_80, c_81, c_82, c_84, c_85, c_86, c_87, c_88, c_89, c_90, c_92, c_95, c_96, c_98, c_99, c_100, c_101, c_102, c_103, c_104, c_107, c_108, c_109, c_111, c_112, c_113, c_114, c_115, c_116, c_117, c_118, c_120, c_121, c_122, c_127, c_280, d_2, d_3, d_4, d_8, d_9, d_10, d_15, d_16, d_32, d_48, d_62, d_63, d_64, p1]
      | c :: C', hC, hb, p1 =>
        have hb : a + (j + 1) = min c.2.2.1 16 := hb
        have hl := hC.1
        rw [List.length_cons] at hl
        obtain ⟨n1, n2, n3, n4, n5, n6⟩ := hC.2 0 _ rfl
        simp (disch := omega) only [ax_let, Option.bind_some, cond_true, cond_false, if_pos, if_neg, if_true, if_false, eq_self, nI_add, nI_ltI, nI_leI, nI_eq, nI_clamp, pu_in, c_0, c_1, c_2, c_3, c_4, c_5, c_6, c_7, c_8, c_9, c_10, c_11, c_12, c_15, c_16, c_17, c_32, c_35, c_36, c_38, c_40, c_41, c_42, c_43, c_44, c_45, c_48, c_57, c_58, c_59, c_60, c_61, c_62, c_64, c_65, c_69, c_75, c_83, c_91, c_93, c_94, c_97, c_105, c_106, c_110, c_119, c_123, c_124, c_125, c_126, c_240, c_256, c_400, c_m, nI_m1, nM_i, lN_add, lN_mul, lN_i, nI_l, lN_eq, lgN_le, lgN_lt, lgN_ge, lgN_gt, nI_sub, nI_mul, d_0, d_1, c_13, c_14, c_18, c_19, c_20, c_21, c_22, c_23, c_24, c_25, c_26, c_27, c_28, c_29, c_30, c_31, c_33, c_34, c_37, c_39, c_46, c_47, c_49, c_50, c_51, c_52, c_53, c_54, c_55, c_56, c_63, c_66, c_67, c_68, c_70, c_71, c_72, c_73, c_74, c_76, c_77, c_78, c_79, c_80, c_81, c_82, c_84, c_85, c_86, c_87, c_88, c_89, c_90, c_92, c_95, c_96, c_98, c_99, c_100, c_101, c_102, c_103, c_104, c_107, c_108, c_109, c_111, c_112, c_113, c_114, c_115, c_116, c_117, c_118, c_120, c_121, c_122, c_127, c_280, d_2, d_3, d_4, d_8, d_9, d_10, d_15, d_16, d_32, d_48, d_62, d_63, d_64, List.length_cons, n1, n3, n5]
        simp (disch := omega) only [ax_let, Option.bind_some, cond_true, cond_false, if_pos, if_neg, if_true, if_false, eq_self, nI_add, nI_ltI, nI_leI, nI_eq, nI_clamp, pu_in, c_0, c_1, c_2, c_3, c_4, c_5, c_6, c_7, c_8, c_9, c_10, c_11, c_12, c_15, c_16, c_17, c_32, c_35, c_36, c_38, c_40, c_41, c_42, c_43, c_44, c_45, c_48, c_57, c_58, c_59, c_60, c_61, c_62, c_64, c_65, c_69, c_75, c_83, c_91, c_93, c_94, c_97, c_105, c_106, c_110, c_119, c_123, c_124, c_125, c_126, c_240, c_256, c_400, c_m, nI_m1, nM_i, lN_add, lN_mul, lN_i, nI_l, lN_eq, lgN_le, lgN_lt, lgN_ge, lgN_gt, nI_sub, nI_mul, d_0, d_1, c_13, c_14, c_18, c_19, c_20, c_21, c_22, c_23, c_24, c_25, c_26, c_27, c_28, c_29, c_30, c_31, c_33, c_34, c_37, c_39, c_46, c_47, c_49, c_50, c_51, c_52, c_53, c_54, c_55, c_56, c_63, c_66, c_67, c_68, c_70, c_71, c_72, c_73, c_74, c_76, c_77, c_78, c_79, c_80, c_81, c_82, c_84, c_85, c_86, c_87, c_88, c_89, c_90, c_92, c_95, c_96, c_98, c_99, c_100, c_101, c_102, c_103, c_104, c_107, c_108, c_109, c_111, c_112, c_113, c_114, c_115, c_116, c_117, c_118, c_120, c_121, c_122, c_127, c_280, d_2, d_3, d_4, d_8, d_9, d_10, d_15, d_16, d_32, d_48, d_62, d_63, d_64, List.length_cons] at p1
        simp (disch := omega) only [ax_let, Option.bind_some, cond_true, cond_false, if_pos, if_neg, if_true, if_false, eq_self, nI_add, nI_ltI, nI_leI, nI_eq, nI_clamp, pu_in, c_0, c_1, c_2, c_3, c_4, c_5, c_6, c_7, c_8, c_9, c_10, c_11, c_12, c_15, c_16, c_17, c_32, c_35, c_36, c_38, c_40, c_41, c_42, c_43, c_44, c_45, c_48, c_57, c_58, c_59, c_60, c_61, c_62, c_64, c_65, c_69, c_75, c_83, c_91, c_93, c_94, c_97, c_105, c_106, c_110, c_119, c_123, c_124, c_125, c_126, c_240, c_256, c_400, c_m, nI_m1, nM_i, lN_add, lN_mul, lN_i, nI_l, lN_eq, lgN_le, lgN_lt, lgN_ge, lgN_gt, nI_sub, nI_mul, d_0, d_1, c_13, c_14, c_18, c_19, c_20, c_21, c_22, c_23, c_24, c_25, c_26, c_27, c_28, c_29, c_30, c_31, c_33, c_34, c_37, c_39, c_46, c_47, c_49, c_50, c_51, c_52, c_53, c_54, c_55, c_56, c_63, c_66, c_67, c_68, c_70, c_71, c_72, c_73, c_74, c_76, c_77, c_78, c_79, c_80, c_81, c_82, c_84, c_85, c_86, c_87, c_88, c_89, c_90, c_92, c_95, c_96, c_98, c_99, c_100, c_101, c_102, c_103, c_104, c_107, c_108, c_109, c_111, c_112, c_113, c_114, c_115, c_116, c_117, c_118, c_120, c_121, c_122, c_127, c_280, d_2, d_3, d_4, d_8, d_9, d_10, d_15, d_16, d_32, d_48, d_62, d_63, d_64, p1]
    · rw [a2, p2, or_assoc]
      refine or_congr Iff.rfl ⟨fun h => ?_, fun ⟨a', b', h1, h2, h3, h4⟩ => ?_⟩
      · rcases h with ⟨b', h1, h2, h3⟩ | ⟨a', b', h1, h2, h3, h4⟩
        · exact ⟨a, b', Nat.le_refl _, by omega, h2, h3⟩
        · exact ⟨a', b', by omega, h2, h3, h4⟩
      · by_cases e : a' = a
        · subst e; exact Or.inl ⟨b', Nat.zero_le _, h3, h4⟩
        · exact Or.inr ⟨a', b', by omega, h2, h3, h4⟩
theorem z_tooGreat {s : ax_σ} (hF : 241 ≤ F) (hT : TgS D C pre sk rest t o oi s) (hot : o.1 = 2 ∨ o.1 = 3) (hlen : o.2.2.2.length ≤ 240) (hx : ∀ x ∈ o.2.2.2, x.1 < 10 ^ 9 ∧ x.2.1 ≤ 2) (hkn : knw ((C.map (·.2)).map (·.1)) o.2.2.2 = true) (hky : s.2 0 41 2 = lN ky) (hky2 : ky < 2 ^ 30) (hsk : sk < 2 ^ 30) (hg : ∀ c ∈ C.map (·.2), c.2.2 < 2 ^ 20) (h5 : lv 2 0 (dW D) = some 0) : ∃ (fl : Bool) (s' : ax_σ), f_Z_isTooGreat F (nI pre.length) (nI oi) (nI C.length) s = some (if fl = true then nI 1 else nI 0, s') ∧ (fl = true ↔ tgr (C.map (·.2)) (wt skW (dW D)) ky sk (decide (pre.length < (dW D).length)) o) ∧ frm X74 s s' := by
  have hk := hT.2.2.1
  have hdw : (dW D).length ≤ 240 := by
    have := hk.1
    unfold dH at this
    rw [List.length_append] at this
    omega
  have htot : wt skW (dW D) ≤ (dW D).length * 16 ^ 2 := wt_le (fun t => by unfold skW; split <;> omega) h5
  have hw := z_wrt (F := F) (pre := []) (l := dW D) (post := dSt D) hF rfl h5 (by omega) hk
  rw [List.length_nil, Nat.zero_add] at hw
  have h23 := hT.2.1.2.2.2.2.1
  have hT0 : T0 (C.map (·.2)) ≤ 16 := by
    unfold T0
    split
    · decide
    · exact Nat.min_le_right _ _
  obtain ⟨fl, s', a1, a2, a3⟩ := tg_17 (D := D) (t := t) (oi := oi) hF hot hlen hx hkn hky2 (show wt skW (dW D) < 2 ^ 30 by omega) hsk hg (T0 (C.map (·.2))) 0 F false s (by omega) (by omega) hT hky
  refine ⟨fl, s', ?_, ?_, a3⟩
  · have a1 : lp_Z_isTooGreat_17 F (nI pre.length) (nI oi) (nI C.length) (lN (wt skW (dW D))) F (nI 0) (nI 0) s = some (if fl = true then nI 1 else nI 0, s') := a1
    unfold f_Z_isTooGreat
    simp (disch := omega) only [ax_let, Option.bind_some, cond_true, cond_false, if_pos, if_neg, if_true, if_false, eq_self, nI_add, nI_ltI, nI_leI, nI_eq, nI_clamp, pu_in, c_0, c_1, c_2, c_3, c_4, c_5, c_6, c_7, c_8, c_9, c_10, c_11, c_12, c_15, c_16, c_17, c_32, c_35, c_36, c_38, c_40, c_41, c_42, c_43, c_44, c_45, c_48, c_57, c_58, c_59, c_60, c_61, c_62, c_64, c_65, c_69, c_75, c_83, c_91, c_93, c_94, c_97, c_105, c_106, c_110, c_119, c_123, c_124, c_125, c_126, c_240, c_256, c_400, c_m, nI_m1, nM_i, lN_add, lN_mul, lN_i, nI_l, lN_eq, lgN_le, lgN_lt, lgN_ge, lgN_gt, nI_sub, nI_mul, d_0, d_1, c_13, c_14, c_18, c_19, c_20, c_21, c_22, c_23, c_24, c_25, c_26, c_27, c_28, c_29, c_30, c_31, c_33, c_34, c_37, c_39, c_46, c_47, c_49, c_50, c_51, c_52, c_53, c_54, c_55, c_56, c_63, c_66, c_67, c_68, c_70, c_71, c_72, c_73, c_74, c_76, c_77, c_78, c_79, c_80, c_81, c_82, c_84, c_85, c_86, c_87, c_88, c_89, c_90, c_92, c_95, c_96, c_98, c_99, c_100, c_101, c_102, c_103, c_104, c_107, c_108, c_109, c_111, c_112, c_113, c_114, c_115, c_116, c_117, c_118, c_120, c_121, c_122, c_127, c_280, d_2, d_3, d_4, d_8, d_9, d_10, d_15, d_16, d_32, d_48, d_62, d_63, d_64, h23, hw, a1]
    cases fl <;> rfl
  · rw [a2]
    unfold tgr
    exact ⟨fun h => h.elim (fun h => by cases h) (fun ⟨a, b, _, h1, h2, h3⟩ => ⟨a, b, h1, h2, h3⟩), fun ⟨a, b, h1, h2, h3⟩ => Or.inr ⟨a, b, Nat.zero_le _, h1, h2, h3⟩⟩
end
