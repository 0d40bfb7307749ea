/-! PURE: the reference checks an expression; what cannot be undone -/
def XG (g r k : Nat) : Prop := XF g r k ∨ (g = 0 ∧ r = 46)
theorem XG.q {r k : Nat} (h : XX r k) : ¬ XG 0 r k := by
  unfold XG XF X53 X74
  unfold XX at h
  omega
theorem XG.ofF {s s' : ax_σ} (h : frm XF s s') : frm XG s s' := h.imp (fun _ _ _ h => Or.inl h)
theorem XG.ofC {s s' : ax_σ} (h : frm X53 s s') : frm XG s s' := h.imp (fun _ _ _ h => Or.inl (Or.inl h))
/-- an expression's thing in its place -/
def ExS (D : Ds) (C : List (Nat × Cx)) (n : Nat) (pre : List Th) (sk : Nat) (t : Th) : Prop := vD D ∧ DB D ∧ lv 2 0 (dW D) = some 0 ∧ sk < 2 ^ 30 ∧ (∀ c ∈ C.map (·.2), c.2.2 < 2 ^ 20) ∧ (dH D)[pre.length]? = some t ∧ (∀ o ∈ the t, opY n o) ∧ (pre.length < (dW D).length ↔ thk t = 1) ∧ thw t < 4 ∧ thp t < n
theorem ce_13 {F n sk : Nat} {D : Ds} {C : List (Nat × Cx)} {pre rest : List Th} {t : Th} (hF : 241 ≤ F) (hn : n ≤ 240) (hE : ExS D C n pre sk t) (hex : thk t = 1 ∨ thk t = 4 ∨ thk t = 5 ∨ thk t = 6) : ∀ (d j M rf : Nat) (s : ax_σ), j + d = (the t).length → d < M → CeS D C pre sk rest s → ZFa rf s → ∃ s' rf', lp_Z_checkExpression_13 F (nI pre.length) (nI C.length) M (nI (oOff (dH D) pre.length + j)) s = some s' ∧ ZFa rf' s' ∧ (∀ m, m ≤ rf' ↔ m ≤ rf ∧ ∀ i o, j ≤ i → (the t)[i]? = some o → ceO D C pre.length sk m t o) ∧ frm XF s s'
  | d, j, 0, rf, s, _, h, _, _ => absurd h (Nat.not_lt_zero _)
  | 0, j, M + 1, rf, s, hj, _, hS, hf => by
    obtain ⟨e1, e2, e3, e4, e5, e6, e7, e8, e9, e10⟩ := hE
    obtain ⟨-, -, -, -, -, y6, -⟩ := hS.2.1.2.2.1 _ _ e6
    obtain ⟨y6, y7⟩ := y6 hex
    have hends := fm_len2 (f := the) e6
    have hB2 := e2.2.1
    have hlen := e2.1
    have hkl := get_lt e6
    have hend : oOff (dH D) pre.length + (the t).length ≤ 240 := by unfold oOff; omega
    refine ⟨s, rf, ?_, hf, fun m => ⟨fun k => ⟨k, fun i o h1 h2 => by have := get_lt h2; omega⟩, fun k => k.1⟩, frm.refl⟩
    rw [lp_Z_checkExpression_13, pu_in (show pre.length < 240 by omega) (by decide), cond_true, nI_clamp (show pre.length < 2 ^ 31 by omega), y7, if_pos (by rw [nI_leI (by omega) (by omega)]; omega)]
  | d + 1, j, M + 1, rf, s, hj, hM, hS, hf => by
    obtain ⟨e1, e2, e3, e4, e5, e6, e7, e8, e9, e10⟩ := id hE
    have hg : (the t)[j]? = some (the t)[j] := List.getElem?_eq_getElem (by omega)
    obtain ⟨s1, rf1, a1, a2, a3, a4⟩ := ce_step hF hn e1 e2 e3 e4 e5 hS e6 hg hex (e7 _ (List.getElem_mem _)) e8 e9 e10 hf
    obtain ⟨s2, rf2, b1, b2, b3, b4⟩ := ce_13 hF hn hE hex d (j + 1) M rf1 s1 (by omega) (by omega) (hS.keep a4 (fun r k h => XF.q h)) a2
    refine ⟨s2, rf2, (a1 M).trans b1, b2, fun m => ?_, a4.trans b4⟩
    rw [b3, a3]
    constructor
    · rintro ⟨⟨k1, k2⟩, k3⟩
      refine ⟨k1, fun i o h1 h2 => ?_⟩
      by_cases e : i = j
      · subst e
        rw [hg] at h2
        cases h2
        exact k2
      · exact k3 i o (by omega) h2
    · rintro ⟨k1, k2⟩
      exact ⟨⟨k1, k2 j _ (Nat.le_refl _) hg⟩, fun i o h1 h2 => k2 i o (by omega) h2⟩
theorem z_ce {F n sk rf : Nat} {D : Ds} {C : List (Nat × Cx)} {pre rest : List Th} {t : Th} {s : ax_σ} (hF : 241 ≤ F) (hn : n ≤ 240) (hE : ExS D C n pre sk t) (hex : thk t = 1 ∨ thk t = 4 ∨ thk t = 5 ∨ thk t = 6) (hT : ThB D) (hR : CxR C 2 (dH D) 0 pre sk rest) (hZ : ZX D s) (hK : ZKd (dH D) s) (hf : ZFa rf s) : ∃ s' rf', f_Z_checkExpression F (nI pre.length) s = some s' ∧ ZFa rf' s' ∧ (∀ m, m ≤ rf' ↔ m ≤ rf ∧ ∀ o ∈ the t, ceO D C pre.length sk m t o) ∧ frm XG s s' := by
  obtain ⟨e1, e2, e3, e4, e5, e6, e7, e8, e9, e10⟩ := id hE
  obtain ⟨s1, a1, a2, a3⟩ := z_around hF hR hK
  have hZ1 := hZ.keep a2 (fun r k h => by unfold X46; unfold XX at h; omega)
  have hK1 := hK.keep a2 (fun r k h => by unfold X46; omega)
  have hC := hR.cxm hZ1 e2 hT a3
  have hf1 := hf.keep a2 (fun k h => by unfold X46; omega)
  obtain ⟨-, -, -, -, -, y6, -⟩ := hZ1.2.2.1 _ _ e6
  obtain ⟨y6, y7⟩ := y6 hex
  have hends := fm_len2 (f := the) e6
  have hB2 := e2.2.1
  have hlen := e2.1
  have hkl := get_lt e6
  have hend : oOff (dH D) pre.length + (the t).length ≤ 240 := by unfold oOff; omega
  obtain ⟨s2, rf2, b1, b2, b3, b4⟩ := ce_13 hF hn hE hex (the t).length 0 F rf s1 (by omega) (by omega) ⟨hR, hZ1, hK1, hC⟩ hf1
  rw [Nat.add_zero] at b1
  refine ⟨s2, rf2, ?_, b2, fun m => ?_, (a2.imp (fun g r k h => by unfold X46 at h; unfold XG; omega)).trans (XG.ofF b4)⟩
  · unfold f_Z_checkExpression
    rw [a1]
    clear hex e8
    simp (disch := omega) only [ax_let, Option.bind_some, cond_true, cond_false, if_pos, if_neg, if_true, if_false, eq_self, nI_add, nI_ltI, nI_leI, nI_eq, nI_clamp, pu_in, c_0, c_1, c_2, c_3, c_4, c_5, c_6, c_7, c_8, c_9, c_10, c_11, c_12, c_15, c_16, c_17, c_32, c_35, c_36, c_38, c_40, c_41, c_42, c_43, c_44, c_45, c_48, c_57, c_58, c_59, c_60, c_61, c_62, c_64, c_65, c_69, c_75, c_83, c_91, c_93, c_94, c_97, c_105, c_106, c_110, c_119, c_123, c_124, c_125, c_126, c_240, c_256, c_400, c_m, nI_m1, nM_i, lN_add, lN_mul, lN_i, nI_l, lN_eq, lgN_le, lgN_lt, lgN_ge, lgN_gt, nI_sub, nI_mul, d_0, d_1, c_13, c_14, c_18, c_19, c_20, c_21, c_22, c_23, c_24, c_25, c_26, c_27, c_28, c_29, c_30, c_31, c_33, c_34, c_37, c_39, c_46, c_47, c_49, c_50, c_51, c_52, c_53, c_54, c_55, c_56, c_63, c_66, c_67, c_68, c_70, c_71, c_72, c_73, c_74, c_76, c_77, c_78, c_79, c_80, c_81, c_82, c_84, c_85, c_86, c_87, c_88, c_89, c_90, c_92, c_95, c_96, c_98, c_99, c_100, c_101, c_102, c_103, c_104, c_107, c_108, c_109, c_111, c_112, c_113, c_114, c_115, c_116, c_117, c_118, c_120, c_121, c_122, c_127, c_280, d_2, d_3, d_4, d_8, d_9, d_10, d_15, d_16, d_32, d_48, d_62, d_63, d_64, y6, b1]
  · rw [b3]
    constructor
    · rintro ⟨k1, k2⟩
      refine ⟨k1, fun o ho => ?_⟩
      obtain ⟨i, hi⟩ := List.getElem?_of_mem ho
      exact k2 i o (Nat.zero_le _) hi
    · rintro ⟨k1, k2⟩
      exact ⟨k1, fun i o _ hi => k2 o (List.mem_of_getElem? hi)⟩
/-- all that a stack uses -/
def orS : List At → Nat
  | [] => 0
  | a :: st => a.1 ||| orS st
def orE : List Op → Nat
  | [] => 0
  | o :: e => (if o.1 = 1 then 2 ^ o.2.1 else if o.1 = 2 ∨ o.1 = 3 then 16 else 0) ||| orE e
theorem or_run {B : Nat} : ∀ (e : List Op) (h k : Nat) (st : List At), st.length = h → (∀ o ∈ e, 1 ≤ o.1 ∧ o.1 ≤ 8) → hw B h e = some k → orS (aRun e st) = orS st ||| orE e ∧ (aRun e st).length = k
  | [], h, k, st, hl, _, hh => by
    injection hh with hh
    exact ⟨by show orS st = orS st ||| 0; rw [Nat.or_zero], by show st.length = k; omega⟩
  | o :: e, h, k, st, hl, ho, hh => by
    have ho1 := ho o (List.mem_cons_self ..)
    have hoe := fun o' (h' : o' ∈ e) => ho o' (List.mem_cons_of_mem _ h')
    show orS (aRun e (aOp o st)) = _ ∧ (aRun e (aOp o st)).length = k
    rw [hw] at hh
    by_cases h5 : o.1 ≤ 5
    · rw [if_pos h5] at hh
      by_cases hB : h < B
      · rw [if_pos hB] at hh
        have key : ∃ a : At, aOp o st = a :: st ∧ a.1 = (if o.1 = 1 then 2 ^ o.2.1 else if o.1 = 2 ∨ o.1 = 3 then 16 else 0) := by
          unfold aOp
          by_cases x1 : o.1 = 1
          · rw [if_pos x1, if_pos x1]; exact ⟨_, rfl, rfl⟩
          · rw [if_neg x1, if_neg x1]
            by_cases x2 : o.1 = 2 ∨ o.1 = 3
            · rw [if_pos x2, if_pos x2]; exact ⟨_, rfl, rfl⟩
            · rw [if_neg x2, if_neg x2, if_pos (by omega)]; exact ⟨_, rfl, rfl⟩
        obtain ⟨a, e1, e2⟩ := key
        rw [e1]
        obtain ⟨i1, i2⟩ := or_run e (h + 1) k (a :: st) (by rw [List.length_cons, hl]) hoe hh
        refine ⟨?_, i2⟩
        rw [i1]
        show a.1 ||| orS st ||| orE e = orS st ||| ((if o.1 = 1 then 2 ^ o.2.1 else if o.1 = 2 ∨ o.1 = 3 then 16 else 0) ||| orE e)
        rw [← e2, Nat.or_comm a.1, Nat.or_assoc]
      · rw [if_neg hB] at hh; cases hh
    · rw [if_neg h5] at hh
      have hz : (if o.1 = 1 then 2 ^ o.2.1 else if o.1 = 2 ∨ o.1 = 3 then 16 else 0) = 0 := by rw [if_neg (by omega), if_neg (by omega)]
      have hoE : orE (o :: e) = orE e := by show _ ||| orE e = _; rw [hz, Nat.zero_or]
      rw [hoE]
      by_cases h7 : o.1 ≤ 7
      · rw [if_pos h7] at hh
        by_cases h1 : 1 ≤ h
        · rw [if_pos h1] at hh
          match st, hl with
          | [], hl => rw [List.length_nil] at hl; omega
          | a :: st, hl =>
            rw [aOp_over (by omega)]
            obtain ⟨i1, i2⟩ := or_run e h k (aOver a :: st) hl hoe hh
            refine ⟨?_, i2⟩
            rw [i1]
            have : (aOver a).1 = a.1 := by
              unfold aOver
              split
              · rename_i h; exact h.symm
              · rfl
            show (aOver a).1 ||| orS st ||| orE e = a.1 ||| orS st ||| orE e
            rw [this]
        · rw [if_neg h1] at hh; cases hh
      · rw [if_neg h7] at hh
        by_cases h2 : 2 ≤ h
        · rw [if_pos h2] at hh
          match st, hl with
          | [], hl => rw [List.length_nil] at hl; omega
          | [_], hl => rw [List.length_singleton] at hl; omega
          | b :: a :: st, hl =>
            rw [aOp_pair (by omega)]
            rw [List.length_cons, List.length_cons] at hl
            obtain ⟨i1, i2⟩ := or_run e (h - 1) k (aPair a b :: st) (by rw [List.length_cons]; omega) hoe hh
            refine ⟨?_, i2⟩
            rw [i1]
            have : (aPair a b).1 = a.1 ||| b.1 := by
              unfold aPair
              split
              · rename_i h; exact h.symm
              · rfl
            show (aPair a b).1 ||| orS st ||| orE e = b.1 ||| (a.1 ||| orS st) ||| orE e
            rw [this, Nat.or_comm a.1, Nat.or_assoc b.1]
        · rw [if_neg h2] at hh; cases hh
theorem or_bit {w : Nat} (hw : w < 4) : ∀ (e : List Op), (∀ o ∈ e, o.1 = 1 → o.2.1 < 4) → ((orE e).testBit w = true ↔ ∃ o ∈ e, o.1 = 1 ∧ o.2.1 = w)
  | [], _ => ⟨fun h => absurd (show (0 : Nat).testBit w = true from h) (by rw [Nat.zero_testBit]; decide), fun ⟨o, ho, _⟩ => absurd ho List.not_mem_nil⟩
  | o :: e, h => by
    have ih := or_bit hw e (fun o ho => h o (List.mem_cons_of_mem _ ho))
    rw [orE, Nat.testBit_or, Bool.or_eq_true, ih]
    have hb : (if o.1 = 1 then 2 ^ o.2.1 else if o.1 = 2 ∨ o.1 = 3 then 16 else 0).testBit w = true ↔ o.1 = 1 ∧ o.2.1 = w := by
      by_cases h1 : o.1 = 1
      · rw [if_pos h1, Nat.testBit_two_pow]
        simp only [decide_eq_true_eq]
        exact ⟨fun e => ⟨h1, e⟩, fun e => e.2⟩
      · rw [if_neg h1]
        by_cases h2 : o.1 = 2 ∨ o.1 = 3
        · rw [if_pos h2]
          have : ∀ w, w < 4 → ¬ (16 : Nat).testBit w = true := by decide
          exact ⟨fun e => absurd e (this w hw), fun e => absurd e.1 h1⟩
        · rw [if_neg h2, Nat.zero_testBit]
          exact ⟨fun e => absurd e (by decide), fun e => absurd e.1 h1⟩
    rw [hb]
    constructor
    · rintro (h | ⟨o', h1, h2⟩)
      · exact ⟨o, List.mem_cons_self .., h⟩
      · exact ⟨o', List.mem_cons_of_mem _ h1, h2⟩
    · rintro ⟨o', h1, h2⟩
      cases h1 with
      | head => exact Or.inl h2
      | tail _ h1 => exact Or.inr ⟨o', h1, h2⟩
theorem and_pow {x w : Nat} : x &&& 2 ^ w = 0 ↔ ¬ x.testBit w = true := by
  constructor
  · intro h e
    have : (x &&& 2 ^ w).testBit w = true := by rw [Nat.testBit_and, e, Nat.testBit_two_pow]; simp
    rw [h, Nat.zero_testBit] at this
    cases this
  · intro h
    apply Nat.eq_of_testBit_eq
    intro i
    rw [Nat.testBit_and, Nat.testBit_two_pow, Nat.zero_testBit]
    by_cases e : w = i
    · subst e
      cases hx : x.testBit w with
      | true => exact absurd hx h
      | false => rfl
    · simp [e]
/-- whether the STATE that is changed stands in the expression -/
theorem uses_iff {w0 : List Nat} {e : List Op} {w : Nat} (hw4 : w < 4) (h : okE w0 e) : (aOf e).1 &&& 2 ^ w = 0 ↔ ∀ o ∈ e, o.1 = 1 → o.2.1 ≠ w := by
  have hk : ∀ o ∈ e, 1 ≤ o.1 ∧ o.1 ≤ 8 := by
    intro o ho
    rcases h.1 o ho with ⟨a, -⟩ | ⟨a, -⟩ | ⟨a, -⟩ | ⟨a, -⟩ | ⟨a, -⟩ | ⟨a, -⟩ | ⟨a, -⟩ <;> omega
  have hs : ∀ o ∈ e, o.1 = 1 → o.2.1 < 4 := by
    intro o ho h1
    rcases h.1 o ho with ⟨_, b, -⟩ | ⟨a, -⟩ | ⟨a, -⟩ | ⟨a, -⟩ | ⟨a, -⟩ | ⟨a, -⟩ | ⟨a, -⟩
    · exact b
    all_goals omega
  obtain ⟨a1, a2⟩ := or_run (B := 13) e 0 1 [] rfl hk h.2
  have a3 : (aOf e).1 = orE e := by
    unfold aOf
    match hr : aRun e [], a1, a2 with
    | [a], a1, a2 =>
      show a.1 = orE e
      have a1 : a.1 ||| 0 = 0 ||| orE e := a1
      rw [Nat.or_zero, Nat.zero_or] at a1
      exact a1
  rw [a3, and_pow, or_bit hw4 e hs]
  constructor
  · intro h o ho h1 h2; exact h ⟨o, ho, h1, h2⟩
  · rintro h ⟨o, ho, h1, h2⟩; exact h o ho h1 h2
theorem inj_sur : ∀ (n : Nat) (f : Nat → Nat), (∀ i, i < n → f i < n) → (∀ i j, i < n → j < n → f i = f j → i = j) → ∀ k, k < n → ∃ i, i < n ∧ f i = k
  | 0, f, _, _, k, hk => absurd hk (Nat.not_lt_zero _)
  | n + 1, f, hf, hi, k, hk => by
    have ha := hf n (by omega)
    have hg : ∀ i, i < n → (if f i = n then f n else f i) < n := by
      intro i h
      by_cases e : f i = n
      · rw [if_pos e]
        by_cases e2 : f n = n
        · have := hi i n (by omega) (by omega) (by rw [e, e2]); omega
        · omega
      · rw [if_neg e]; have := hf i (by omega); omega
    have hgi : ∀ i j, i < n → j < n → (if f i = n then f n else f i) = (if f j = n then f n else f j) → i = j := by
      intro i j h1 h2 e
      by_cases e1 : f i = n
      · by_cases e2 : f j = n
        · exact hi i j (by omega) (by omega) (by rw [e1, e2])
        · rw [if_pos e1, if_neg e2] at e
          have := hi n j (by omega) (by omega) e; omega
      · by_cases e2 : f j = n
        · rw [if_neg e1, if_pos e2] at e
          have := hi i n (by omega) (by omega) e; omega
        · rw [if_neg e1, if_neg e2] at e
          exact hi i j (by omega) (by omega) e
    have ih := inj_sur n (fun i => if f i = n then f n else f i) hg hgi
    by_cases e : k = f n
    · exact ⟨n, by omega, e.symm⟩
    · by_cases e2 : k = n
      · have e3 : f n < n := by omega
        obtain ⟨i, h1, h2⟩ := ih (f n) e3
        by_cases e4 : f i = n
        · exact ⟨i, by omega, by rw [e4, e2]⟩
        · simp only [if_neg e4] at h2
          have := hi i n (by omega) (by omega) h2; omega
      · obtain ⟨i, h1, h2⟩ := ih k (by omega)
        by_cases e4 : f i = n
        · simp only [if_pos e4] at h2; exact absurd h2.symm e
        · simp only [if_neg e4] at h2
          exact ⟨i, by omega, h2⟩
theorem sur_inj {n : Nat} {f : Nat → Nat} (hs : ∀ k, k < n → ∃ i, i < n ∧ f i = k) (hf : ∀ i, i < n → f i < n) : ∀ i j, i < n → j < n → f i = f j → i = j := by
  have hc : ∀ k, ∃ i, k < n → i < n ∧ f i = k := fun k => by
    by_cases h : k < n
    · obtain ⟨i, a⟩ := hs k h
      exact ⟨i, fun _ => a⟩
    · exact ⟨0, fun e => absurd e h⟩
  let h : Nat → Nat := fun k => Classical.choose (hc k)
  have hh : ∀ k, k < n → h k < n ∧ f (h k) = k := fun k => Classical.choose_spec (hc k)
  have hsur := inj_sur n h (fun k hk => (hh k hk).1) (fun a b ha hb e => by rw [← (hh a ha).2, e, (hh b hb).2])
  intro i j hi hj e
  obtain ⟨a, ha, ea⟩ := hsur i hi
  obtain ⟨b, hb, eb⟩ := hsur j hj
  have e1 := (hh a ha).2
  have e2 := (hh b hb).2
  rw [ea] at e1
  rw [eb] at e2
  rw [← ea, ← eb, ← e1, ← e2, e]
