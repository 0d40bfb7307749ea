/-! PURE: the parts of expressions, as the reader holds them -/
/-- nothing is changed but where P says -/
def frm (P : Nat → Nat → Nat → Prop) (s s' : ax_σ) : Prop := (∀ g r k, ¬ P g r k → s'.1 g r k = s.1 g r k) ∧ (∀ g r k, ¬ P g r k → s'.2 g r k = s.2 g r k)
section
variable {P Q : Nat → Nat → Nat → Prop} {s s1 s2 : ax_σ}
theorem frm.refl : frm P s s := ⟨fun _ _ _ _ => rfl, fun _ _ _ _ => rfl⟩
theorem frm.trans (h1 : frm P s s1) (h2 : frm P s1 s2) : frm P s s2 := ⟨fun g r k h => (h2.1 g r k h).trans (h1.1 g r k h), fun g r k h => (h2.2 g r k h).trans (h1.2 g r k h)⟩
theorem frm.imp (h1 : frm P s s1) (h : ∀ g r k, P g r k → Q g r k) : frm Q s s1 := ⟨fun g r k hn => h1.1 g r k (fun z => hn (h g r k z)), fun g r k hn => h1.2 g r k (fun z => hn (h g r k z))⟩
theorem frm.of (h : pr_fr P s s1) : frm P s s1 := ⟨h.1, fun g r k _ => by rw [h.2]⟩
theorem frm.wI (h : frm P s s1) (g r k : Nat) (v : Int32) (hp : P g r k) : frm P s (ax_wI s1 g r k v) := by
  refine ⟨fun g' r' k' hn => ?_, fun g' r' k' hn => ?_⟩
  · rw [wI_1, if_neg (fun e => hn (by rw [e.1, e.2.1, e.2.2]; exact hp))]; exact h.1 g' r' k' hn
  · rw [wI_2]; exact h.2 g' r' k' hn
theorem frm.wL (h : frm P s s1) (g r k : Nat) (v : Int64) (hp : P g r k) : frm P s (ax_wL s1 g r k v) := by
  refine ⟨fun g' r' k' hn => ?_, fun g' r' k' hn => ?_⟩
  · rw [wL_1]; exact h.1 g' r' k' hn
  · rw [wL_2, if_neg (fun e => hn (by rw [e.1, e.2.1, e.2.2]; exact hp))]; exact h.2 g' r' k' hn
end
/-- NONE -/
def nM : Int32 := -1
theorem c_m : -nI 1 = nM := rfl
theorem nI_m1 {v : Nat} (h : v < 2 ^ 31) : (nI v = nM) = False := eq_false (fun e => nI_pos h (by rw [e]; decide))
theorem nM_i : (nM = nI 0) = False := eq_false (by decide)
theorem d_0 : (0 : Int64) = lN 0 := rfl
theorem d_1 : (1 : Int64) = lN 1 := rfl
/-- a part: its kind, base, perI, perJ, place, uses, cost, need -/
abbrev CP : Type := Nat × Nat × Nat × Nat × Int32 × Nat × Nat × Nat
def cpA (g i : Nat) (x : CP) (s : ax_σ) : Prop := s.1 g 5 i = nI x.1 ∧ s.2 g 6 i = lN x.2.1 ∧ s.2 g 7 i = lN x.2.2.1 ∧ s.2 g 8 i = lN x.2.2.2.1 ∧ s.1 g 9 i = x.2.2.2.2.1 ∧ s.1 g 10 i = nI x.2.2.2.2.2.1 ∧ s.1 g 11 i = nI x.2.2.2.2.2.2.1 ∧ s.1 g 12 i = nI x.2.2.2.2.2.2.2
def RC (g : Nat) (P : List CP) (s : ax_σ) : Prop := P.length ≤ 240 ∧ s.1 g 4 8 = nI P.length ∧ ∀ i x, P[i]? = some x → cpA g i x s
def XC (g g' r k : Nat) : Prop := g' = g ∧ ((r = 4 ∧ k = 8) ∨ (5 ≤ r ∧ r ≤ 12))
theorem cpA.keep {g i : Nat} {x : CP} {s s' : ax_σ} {Q : Nat → Nat → Nat → Prop} (h : cpA g i x s) (hf : frm Q s s') (hq : ∀ r, 5 ≤ r → r ≤ 12 → ¬ Q g r i) : cpA g i x s' := by
  obtain ⟨h1, h2, h3, h4, h5, h6, h7, h8⟩ := h
  exact ⟨(hf.1 _ _ _ (hq 5 (by omega) (by omega))).trans h1, (hf.2 _ _ _ (hq 6 (by omega) (by omega))).trans h2, (hf.2 _ _ _ (hq 7 (by omega) (by omega))).trans h3, (hf.2 _ _ _ (hq 8 (by omega) (by omega))).trans h4, (hf.1 _ _ _ (hq 9 (by omega) (by omega))).trans h5, (hf.1 _ _ _ (hq 10 (by omega) (by omega))).trans h6, (hf.1 _ _ _ (hq 11 (by omega) (by omega))).trans h7, (hf.1 _ _ _ (hq 12 (by omega) (by omega))).trans h8⟩
theorem RC.keep {g : Nat} {P : List CP} {s s' : ax_σ} {Q : Nat → Nat → Nat → Prop} (h : RC g P s) (hf : frm Q s s') (hq : ∀ g' r k, XC g g' r k → ¬ Q g' r k) : RC g P s' :=
  ⟨h.1, (hf.1 _ _ _ (hq _ _ _ ⟨rfl, Or.inl ⟨rfl, rfl⟩⟩)).trans h.2.1, fun i x hi => (h.2.2 i x hi).keep hf (fun r h1 h2 => hq g r i ⟨rfl, Or.inr ⟨h1, h2⟩⟩)⟩
theorem getc {α : Type} {P : List α} {y : α} {i : Nat} {x : α} (h : (P ++ [y])[i]? = some x) : (i < P.length ∧ P[i]? = some x) ∨ (i = P.length ∧ x = y) := by
  rw [List.getElem?_append] at h
  split at h
  · exact Or.inl ⟨by assumption, h⟩
  · rename_i hi
    right
    have : i - P.length < 1 := by
      by_cases e : i - P.length < 1
      · exact e
      · rw [List.getElem?_eq_none (by simp only [List.length_cons, List.length_nil]; omega)] at h; cases h
    have e2 : i = P.length := by omega
    subst e2
    rw [Nat.sub_self] at h
    injection h with h
    exact ⟨rfl, h.symm⟩
def XL (g m g' r k : Nat) : Prop := g' = g ∧ 5 ≤ r ∧ r ≤ 12 ∧ k = m
theorem RC.last {g : Nat} {P : List CP} {x y : CP} {s s' : ax_σ} (h : RC g (P ++ [x]) s) (hf : frm (XL g P.length) s s') (hy : cpA g P.length y s') : RC g (P ++ [y]) s' := by
  refine ⟨by have := h.1; simp only [List.length_append, List.length_cons, List.length_nil] at this ⊢; exact this, ?_, fun i z hi => ?_⟩
  · have := h.2.1
    simp only [List.length_append, List.length_cons, List.length_nil] at this ⊢
    exact (hf.1 _ _ _ (by unfold XL; omega)).trans this
  · rcases getc hi with ⟨h1, h2⟩ | ⟨h1, h2⟩
    · refine (h.2.2 i z ?_).keep hf (fun r _ _ => by unfold XL; omega)
      rw [List.getElem?_append, if_pos h1]; exact h2
    · rw [h1, h2]; exact hy
theorem RC.lastA {g : Nat} {P : List CP} {x : CP} {s : ax_σ} (h : RC g (P ++ [x]) s) : cpA g P.length x s ∧ P.length < 240 := by
  have := h.1
  simp only [List.length_append, List.length_cons, List.length_nil] at this
  exact ⟨h.2.2 P.length x (by rw [List.getElem?_append, if_neg (by omega), Nat.sub_self]; rfl), by omega⟩
def cAdd (g m : Nat) (a1 : Int32) (a2 : Int64) (a3 a4 a5 : Int32) (s : ax_σ) : ax_σ := ax_wI (ax_wI (ax_wI (ax_wI (ax_wL (ax_wL (ax_wL (ax_wI (ax_wI s g 4 8 (nI (m + 1))) g 5 m a1) g 6 m a2) g 7 m (lN 0)) g 8 m (lN 0)) g 9 m nM) g 10 m a3) g 11 m a4) g 12 m a5
section
variable {g : Nat} {P : List CP} {s : ax_σ}
theorem rc_add {a1 a2 a3 a4 a5 : Nat} (h : RC g P s) (hP : P.length < 240) : ∃ s', f_C_add g (nI a1) (lN a2) (nI a3) (nI a4) (nI a5) s = some (nI P.length, s') ∧ RC g (P ++ [(a1, a2, 0, 0, nM, a3, a4, a5)]) s' ∧ frm (XC g) s s' := by
  obtain ⟨h1, h2, h3⟩ := h
  have hf : frm (XC g) s (cAdd g P.length (nI a1) (lN a2) (nI a3) (nI a4) (nI a5) s) := by
    unfold cAdd
    refine ((((((((frm.refl.wI _ _ _ _ ?_).wI _ _ _ _ ?_).wL _ _ _ _ ?_).wL _ _ _ _ ?_).wL _ _ _ _ ?_).wI _ _ _ _ ?_).wI _ _ _ _ ?_).wI _ _ _ _ ?_).wI _ _ _ _ ?_ <;> (unfold XC; omega)
  refine ⟨cAdd g P.length (nI a1) (lN a2) (nI a3) (nI a4) (nI a5) s, ?_, ⟨?_, ?_, fun i z hi => ?_⟩, hf⟩
  · unfold f_C_add cAdd
    simp (disch := omega) only [ax_let, Option.bind_some, cond_true, cond_false, if_pos, if_neg, if_true, if_false, eq_self, nI_add, nI_ltI, nI_leI, nI_eq, nI_clamp, pu_in, c_0, c_1, c_2, c_3, c_4, c_5, c_6, c_7, c_8, c_9, c_10, c_11, c_12, c_15, c_16, c_17, c_32, c_35, c_36, c_38, c_40, c_41, c_42, c_43, c_44, c_45, c_48, c_57, c_58, c_59, c_60, c_61, c_62, c_64, c_65, c_69, c_75, c_83, c_91, c_93, c_94, c_97, c_105, c_106, c_110, c_119, c_123, c_124, c_125, c_126, c_240, c_256, c_400, c_m, nI_m1, nM_i, h2, d_0]
  · simp only [List.length_append, List.length_cons, List.length_nil]; omega
  · unfold cAdd
    simp only [List.length_append, List.length_cons, List.length_nil]
    simp (disch := omega) only [wI_1, wI_2, wL_1, wL_2, true_and, and_true, and_self, false_and, and_false, if_true, if_false, if_pos, if_neg]
  · rcases getc hi with ⟨g1, g2⟩ | ⟨g1, g2⟩
    · have hz := h3 i z g2
      obtain ⟨z1, z2, z3, z4, z5, z6, z7, z8⟩ := hz
      unfold cAdd
      refine ⟨?_, ?_, ?_, ?_, ?_, ?_, ?_, ?_⟩ <;> simp (disch := omega) only [wI_1, wI_2, wL_1, wL_2, true_and, and_true, and_self, false_and, and_false, if_true, if_false, if_pos, if_neg, z1, z2, z3, z4, z5, z6, z7, z8]
    · subst g1 g2
      unfold cAdd
      refine ⟨?_, ?_, ?_, ?_, ?_, ?_, ?_, ?_⟩ <;> simp (disch := omega) only [wI_1, wI_2, wL_1, wL_2, true_and, and_true, and_self, false_and, and_false, if_true, if_false, if_pos, if_neg]
theorem rc_const {v : Nat} (h : RC g P s) (hP : P.length < 240) : ∃ s', f_C_addConstant g (lN v) s = some (nI P.length, s') ∧ RC g (P ++ [(110, v, 0, 0, nM, 0, 1, 1)]) s' ∧ frm (XC g) s s' := by
  obtain ⟨s', e, h1, h2⟩ := rc_add (a1 := 110) (a2 := v) (a3 := 0) (a4 := 1) (a5 := 1) h hP
  refine ⟨s', ?_, h1, h2⟩
  unfold f_C_addConstant
  simp (disch := omega) only [ax_let, Option.bind_some, cond_true, cond_false, if_pos, if_neg, if_true, if_false, eq_self, nI_add, nI_ltI, nI_leI, nI_eq, nI_clamp, pu_in, c_0, c_1, c_2, c_3, c_4, c_5, c_6, c_7, c_8, c_9, c_10, c_11, c_12, c_15, c_16, c_17, c_32, c_35, c_36, c_38, c_40, c_41, c_42, c_43, c_44, c_45, c_48, c_57, c_58, c_59, c_60, c_61, c_62, c_64, c_65, c_69, c_75, c_83, c_91, c_93, c_94, c_97, c_105, c_106, c_110, c_119, c_123, c_124, c_125, c_126, c_240, c_256, c_400, c_m, nI_m1, nM_i, e]
theorem sh_4 : ∀ v, v < 4 → (nI 1 <<< (nI v &&& 31)) = nI (2 ^ v) := by decide +kernel
theorem rc_state {v : Nat} (hv : v < 4) (h : RC g P s) (hP : P.length < 240) : ∃ s', f_C_addState g (nI v) s = some (nI P.length, s') ∧ RC g (P ++ [(65, v, 0, 0, nM, 2 ^ v, 0, 0)]) s' ∧ frm (XC g) s s' := by
  obtain ⟨s', e, h1, h2⟩ := rc_add (a1 := 65) (a2 := v) (a3 := 2 ^ v) (a4 := 0) (a5 := 0) h hP
  refine ⟨s', ?_, h1, h2⟩
  unfold f_C_addState
  simp only [c_1, sh_4 v hv]
  simp (disch := omega) only [ax_let, Option.bind_some, cond_true, cond_false, if_pos, if_neg, if_true, if_false, eq_self, nI_add, nI_ltI, nI_leI, nI_eq, nI_clamp, pu_in, c_0, c_1, c_2, c_3, c_4, c_5, c_6, c_7, c_8, c_9, c_10, c_11, c_12, c_15, c_16, c_17, c_32, c_35, c_36, c_38, c_40, c_41, c_42, c_43, c_44, c_45, c_48, c_57, c_58, c_59, c_60, c_61, c_62, c_64, c_65, c_69, c_75, c_83, c_91, c_93, c_94, c_97, c_105, c_106, c_110, c_119, c_123, c_124, c_125, c_126, c_240, c_256, c_400, c_m, nI_m1, nM_i, e, nI_l]
theorem rc_idx {k p : Nat} (h : RC g P s) (hP : P.length < 240) : ∃ s', f_C_addIndexed g (nI k) (nI p) s = some (nI P.length, s') ∧ RC g (P ++ [(k, 0, 0, 0, nI p, 16, 1, 1)]) s' ∧ frm (XC g) s s' := by
  obtain ⟨s', e, h1, h2⟩ := rc_add (a1 := k) (a2 := 0) (a3 := 16) (a4 := 1) (a5 := 1) h hP
  refine ⟨ax_wI s' g 9 P.length (nI p), ?_, ?_, ?_⟩
  · unfold f_C_addIndexed
    simp (disch := omega) only [ax_let, Option.bind_some, cond_true, cond_false, if_pos, if_neg, if_true, if_false, eq_self, nI_add, nI_ltI, nI_leI, nI_eq, nI_clamp, pu_in, c_0, c_1, c_2, c_3, c_4, c_5, c_6, c_7, c_8, c_9, c_10, c_11, c_12, c_15, c_16, c_17, c_32, c_35, c_36, c_38, c_40, c_41, c_42, c_43, c_44, c_45, c_48, c_57, c_58, c_59, c_60, c_61, c_62, c_64, c_65, c_69, c_75, c_83, c_91, c_93, c_94, c_97, c_105, c_106, c_110, c_119, c_123, c_124, c_125, c_126, c_240, c_256, c_400, c_m, nI_m1, nM_i, e, d_0]
  · refine h1.last (frm.refl.wI _ _ _ _ (by unfold XL; omega)) ?_
    obtain ⟨z1, z2, z3, z4, z5, z6, z7, z8⟩ := h1.lastA.1
    refine ⟨?_, ?_, ?_, ?_, ?_, ?_, ?_, ?_⟩ <;> simp (disch := omega) only [wI_1, wI_2, wL_1, wL_2, true_and, and_true, and_self, false_and, and_false, if_true, if_false, if_pos, if_neg, z1, z2, z3, z4, z5, z6, z7, z8]
  · exact h2.wI _ _ _ _ (by unfold XC; omega)
end
/-- uses, cost, need of what is made of one part, of two -/
abbrev At : Type := Nat × Nat × Nat
def aOver (a : At) : At := if a.1 = 0 then (0, 1, 1) else (a.1, a.2.1 + 1, max 1 a.2.2)
def aPair (a b : At) : At := if a.1 ||| b.1 = 0 then (0, 1, 1) else (a.1 ||| b.1, a.2.1 + b.2.1 + 1, if a.2.2 = b.2.2 then a.2.2 + 1 else max a.2.2 b.2.2)
/-- they stay small -/
def aS (a : At) : Prop := a.1 < 32 ∧ a.2.1 ≤ 240 ∧ a.2.2 ≤ 240
def atA (g i : Nat) (a : At) (s : ax_σ) : Prop := s.1 g 10 i = nI a.1 ∧ s.1 g 11 i = nI a.2.1 ∧ s.1 g 12 i = nI a.2.2
theorem nI_or (a b : Nat) : nI a ||| nI b = nI (a ||| b) := by
  apply Int32.toBitVec_inj.mp
  show BitVec.ofNat 32 a ||| BitVec.ofNat 32 b = BitVec.ofNat 32 (a ||| b)
  simp
theorem mx_I {a b : Nat} (ha : a < 2 ^ 31) (hb : b < 2 ^ 31) : f_Math_max_II (nI a) (nI b) = some (nI (max a b)) := by
  unfold f_Math_max_II
  by_cases h : a < b
  · rw [Nat.max_eq_right (by omega)]; simp (disch := omega) only [ax_let, Option.bind_some, cond_true, cond_false, if_pos, if_neg, if_true, if_false, eq_self, nI_add, nI_ltI, nI_leI, nI_eq, nI_clamp, pu_in, c_0, c_1, c_2, c_3, c_4, c_5, c_6, c_7, c_8, c_9, c_10, c_11, c_12, c_15, c_16, c_17, c_32, c_35, c_36, c_38, c_40, c_41, c_42, c_43, c_44, c_45, c_48, c_57, c_58, c_59, c_60, c_61, c_62, c_64, c_65, c_69, c_75, c_83, c_91, c_93, c_94, c_97, c_105, c_106, c_110, c_119, c_123, c_124, c_125, c_126, c_240, c_256, c_400, c_m, nI_m1, nM_i]
  · rw [Nat.max_eq_left (by omega)]; simp (disch := omega) only [ax_let, Option.bind_some, cond_true, cond_false, if_pos, if_neg, if_true, if_false, eq_self, nI_add, nI_ltI, nI_leI, nI_eq, nI_clamp, pu_in, c_0, c_1, c_2, c_3, c_4, c_5, c_6, c_7, c_8, c_9, c_10, c_11, c_12, c_15, c_16, c_17, c_32, c_35, c_36, c_38, c_40, c_41, c_42, c_43, c_44, c_45, c_48, c_57, c_58, c_59, c_60, c_61, c_62, c_64, c_65, c_69, c_75, c_83, c_91, c_93, c_94, c_97, c_105, c_106, c_110, c_119, c_123, c_124, c_125, c_126, c_240, c_256, c_400, c_m, nI_m1, nM_i]
section
variable {g : Nat} {P : List CP} {s : ax_σ}
theorem rc_over {k v i : Nat} {a : At} (hv : v < 2 ^ 31) (hi : i < 240) (ha : atA g i a s) (hs : aS a) (h : RC g P s) (hP : P.length < 240) : ∃ s', f_C_addOver g (nI k) (nI i) (nI v) s = some (nI P.length, s') ∧ RC g (P ++ [(k, v, 0, 0, nM, aOver a)]) s' ∧ frm (XC g) s s' := by
  obtain ⟨u, c, m⟩ := a
  obtain ⟨h1, h2, h3⟩ := ha
  obtain ⟨s1, s2, s3⟩ := hs
  simp only at h1 h2 h3 s1 s2 s3
  by_cases hu : u = 0
  · obtain ⟨s', e, g1, g2⟩ := rc_add (a1 := k) (a2 := v) (a3 := 0) (a4 := 1) (a5 := 1) h hP
    refine ⟨s', ?_, ?_, g2⟩
    · unfold f_C_addOver
      simp (disch := omega) only [ax_let, Option.bind_some, cond_true, cond_false, if_pos, if_neg, if_true, if_false, eq_self, nI_add, nI_ltI, nI_leI, nI_eq, nI_clamp, pu_in, c_0, c_1, c_2, c_3, c_4, c_5, c_6, c_7, c_8, c_9, c_10, c_11, c_12, c_15, c_16, c_17, c_32, c_35, c_36, c_38, c_40, c_41, c_42, c_43, c_44, c_45, c_48, c_57, c_58, c_59, c_60, c_61, c_62, c_64, c_65, c_69, c_75, c_83, c_91, c_93, c_94, c_97, c_105, c_106, c_110, c_119, c_123, c_124, c_125, c_126, c_240, c_256, c_400, c_m, nI_m1, nM_i, h1, hu, nI_l, e]
    · simp only [aOver, hu, if_true]; exact g1
  · obtain ⟨s', e, g1, g2⟩ := rc_add (a1 := k) (a2 := v) (a3 := u) (a4 := c + 1) (a5 := max 1 m) h hP
    refine ⟨s', ?_, ?_, g2⟩
    · unfold f_C_addOver
      simp (disch := omega) only [ax_let, Option.bind_some, cond_true, cond_false, if_pos, if_neg, if_true, if_false, eq_self, nI_add, nI_ltI, nI_leI, nI_eq, nI_clamp, pu_in, c_0, c_1, c_2, c_3, c_4, c_5, c_6, c_7, c_8, c_9, c_10, c_11, c_12, c_15, c_16, c_17, c_32, c_35, c_36, c_38, c_40, c_41, c_42, c_43, c_44, c_45, c_48, c_57, c_58, c_59, c_60, c_61, c_62, c_64, c_65, c_69, c_75, c_83, c_91, c_93, c_94, c_97, c_105, c_106, c_110, c_119, c_123, c_124, c_125, c_126, c_240, c_256, c_400, c_m, nI_m1, nM_i, h1, h2, h3, nI_l, mx_I, e]
    · simp only [aOver, hu, if_false]; exact g1
theorem rc_join {k i j : Nat} {a b : At} (hi : i < 240) (hj : j < 240) (ha : atA g i a s) (hb : atA g j b s) (hs : aS a) (ht : aS b) (h : RC g P s) (hP : P.length < 240) : ∃ s', f_C_addJoined g (nI k) (nI i) (nI j) s = some (nI P.length, s') ∧ RC g (P ++ [(k, 0, 0, 0, nM, aPair a b)]) s' ∧ frm (XC g) s s' := by
  obtain ⟨u, c, m⟩ := a
  obtain ⟨u', c', m'⟩ := b
  obtain ⟨h1, h2, h3⟩ := ha
  obtain ⟨k1, k2, k3⟩ := hb
  obtain ⟨s1, s2, s3⟩ := hs
  obtain ⟨t1, t2, t3⟩ := ht
  simp only at h1 h2 h3 s1 s2 s3 k1 k2 k3 t1 t2 t3
  have ho : u ||| u' < 2 ^ 5 := Nat.or_lt_two_pow (by omega) (by omega)
  by_cases hu : u ||| u' = 0
  · obtain ⟨s', e, g1, g2⟩ := rc_add (a1 := k) (a2 := 0) (a3 := 0) (a4 := 1) (a5 := 1) h hP
    refine ⟨s', ?_, ?_, g2⟩
    · unfold f_C_addJoined
      simp (disch := omega) only [ax_let, Option.bind_some, cond_true, cond_false, if_pos, if_neg, if_true, if_false, eq_self, nI_add, nI_ltI, nI_leI, nI_eq, nI_clamp, pu_in, c_0, c_1, c_2, c_3, c_4, c_5, c_6, c_7, c_8, c_9, c_10, c_11, c_12, c_15, c_16, c_17, c_32, c_35, c_36, c_38, c_40, c_41, c_42, c_43, c_44, c_45, c_48, c_57, c_58, c_59, c_60, c_61, c_62, c_64, c_65, c_69, c_75, c_83, c_91, c_93, c_94, c_97, c_105, c_106, c_110, c_119, c_123, c_124, c_125, c_126, c_240, c_256, c_400, c_m, nI_m1, nM_i, h1, k1, nI_or, hu, d_0, e]
    · simp only [aPair, hu, if_true]; exact g1
  · by_cases hm : m = m'
    · obtain ⟨s', e, g1, g2⟩ := rc_add (a1 := k) (a2 := 0) (a3 := u ||| u') (a4 := c + c' + 1) (a5 := m + 1) h hP
      refine ⟨s', ?_, ?_, g2⟩
      · unfold f_C_addJoined
        simp (disch := omega) only [ax_let, Option.bind_some, cond_true, cond_false, if_pos, if_neg, if_true, if_false, eq_self, nI_add, nI_ltI, nI_leI, nI_eq, nI_clamp, pu_in, c_0, c_1, c_2, c_3, c_4, c_5, c_6, c_7, c_8, c_9, c_10, c_11, c_12, c_15, c_16, c_17, c_32, c_35, c_36, c_38, c_40, c_41, c_42, c_43, c_44, c_45, c_48, c_57, c_58, c_59, c_60, c_61, c_62, c_64, c_65, c_69, c_75, c_83, c_91, c_93, c_94, c_97, c_105, c_106, c_110, c_119, c_123, c_124, c_125, c_126, c_240, c_256, c_400, c_m, nI_m1, nM_i, h1, h2, h3, k1, k2, k3, nI_or, hu, hm, d_0]
        rw [← hm, e]; rfl
      · simp only [aPair, hu, hm, if_false, if_true]; rw [← hm]; exact g1
    · obtain ⟨s', e, g1, g2⟩ := rc_add (a1 := k) (a2 := 0) (a3 := u ||| u') (a4 := c + c' + 1) (a5 := max m m') h hP
      refine ⟨s', ?_, ?_, g2⟩
      · unfold f_C_addJoined
        simp (disch := omega) only [ax_let, Option.bind_some, cond_true, cond_false, if_pos, if_neg, if_true, if_false, eq_self, nI_add, nI_ltI, nI_leI, nI_eq, nI_clamp, pu_in, c_0, c_1, c_2, c_3, c_4, c_5, c_6, c_7, c_8, c_9, c_10, c_11, c_12, c_15, c_16, c_17, c_32, c_35, c_36, c_38, c_40, c_41, c_42, c_43, c_44, c_45, c_48, c_57, c_58, c_59, c_60, c_61, c_62, c_64, c_65, c_69, c_75, c_83, c_91, c_93, c_94, c_97, c_105, c_106, c_110, c_119, c_123, c_124, c_125, c_126, c_240, c_256, c_400, c_m, nI_m1, nM_i, h1, h2, h3, k1, k2, k3, nI_or, hu, hm, mx_I, d_0, e]
      · simp only [aPair, hu, hm, if_false]; exact g1
end
