/-! PURE: LETTERS and indexes -/
theorem nI_sub {a b : Nat} (h : b ≤ a) : nI a - nI b = nI (a - b) := by
  have a3 : nI a = nI (a - b) + nI b := by rw [nI_add, show a - b + b = a by omega]
  rw [a3]; exact Int32.add_sub_cancel _ _
theorem c_giga : (1000000000 : Int32) = nI 1000000000 := rfl
theorem rdA.keepf {n : Nat} {T ts : List Tok} {s s' : ax_σ} {Q : Nat → Nat → Nat → Prop} (h : rdA n T ts s) (hf : frm Q s s') (hq : ∀ r k, (r = 26 ∨ r = 27 ∨ (r = 25 ∧ (k = 2 ∨ k = 3))) → ¬ Q 0 r k) : rdA n T ts s' :=
  h.keep ⟨hf.1 _ _ _ (hq _ _ (by omega)), hf.1 _ _ _ (hq _ _ (by omega)), funext fun k => hf.1 _ _ _ (hq _ _ (by omega)), funext fun k => hf.1 _ _ _ (hq _ _ (by omega))⟩
/-- what an expression may name: sn STATES, numbers of w bits, the LETTERS L -/
def EC (g sn w : Nat) (L : List Nat) (s : ax_σ) : Prop := s.1 0 25 8 = nI sn ∧ sn < 2 ^ 31 ∧ s.1 g 1 0 = nI w ∧ w < 2 ^ 31 ∧ s.1 0 25 9 = nI L.length ∧ L.length ≤ 2 ∧ ∀ k l, L[k]? = some l → l < 2 ∧ ∃ m, m < 120 ∧ s.1 0 28 k = nI m ∧ s.1 g 15 m = nI l
def XE (g g' r k : Nat) : Prop := (g' = 0 ∧ r = 25 ∧ (k = 3 ∨ k = 7)) ∨ XC g g' r k
theorem XE.of {g : Nat} {s s' : ax_σ} (h : frm (XC g) s s') : frm (XE g) s s' := h.imp (fun _ _ _ h => Or.inr h)
theorem XE.ofL {g m : Nat} {s s' : ax_σ} (h : frm (XL g m) s s') : frm (XE g) s s' := h.imp (fun _ _ _ h => Or.inr (by unfold XL at h; unfold XC; omega))
theorem XE.ofR {g : Nat} {s s' : ax_σ} (h : pr_fr RF s s') : frm (XE g) s s' := (frm.of h).imp (fun _ _ _ h => Or.inl h)
theorem EC.keep {g sn w : Nat} {L : List Nat} {s s' : ax_σ} (h : EC g sn w L s) (hf : frm (XE g) s s') : EC g sn w L s' := by
  obtain ⟨h1, h2, h3, h4, h5, h6, h7⟩ := h
  refine ⟨(hf.1 _ _ _ (by unfold XE XC; omega)).trans h1, h2, (hf.1 _ _ _ (by unfold XE XC; omega)).trans h3, h4, (hf.1 _ _ _ (by unfold XE XC; omega)).trans h5, h6, fun k l hk => ?_⟩
  obtain ⟨k1, m, k2, k3, k4⟩ := h7 k l hk
  exact ⟨k1, m, k2, (hf.1 _ _ _ (by unfold XE XC; omega)).trans k3, (hf.1 _ _ _ (by unfold XE XC; omega)).trans k4⟩
theorem rd_isOpen {F g sn w l : Nat} {L : List Nat} {s : ax_σ} (hF : 3 ≤ F) (hl : l < 2) (h : EC g sn w L s) : f_R_isOpen F g (nI l) s = some (if l ∈ L then 1 else 0) := by
  obtain ⟨h1, h2, h3, h4, h5, h6, h7⟩ := h
  obtain ⟨F', rfl⟩ : ∃ F', F = F' + 1 + 1 + 1 := ⟨F - 3, by omega⟩
  unfold f_R_isOpen
  match L, h5, h6, h7 with
  | [], h5, h6, h7 =>
    simp only [List.length_nil] at h5
    rw [lp_R_isOpen_2]
    simp (disch := omega) only [ax_let, Option.bind_some, cond_true, cond_false, if_pos, if_neg, if_true, if_false, eq_self, nI_add, nI_ltI, nI_leI, nI_eq, nI_clamp, pu_in, c_0, c_1, c_2, c_3, c_4, c_5, c_6, c_7, c_8, c_9, c_10, c_11, c_12, c_15, c_16, c_17, c_32, c_35, c_36, c_38, c_40, c_41, c_42, c_43, c_44, c_45, c_48, c_57, c_58, c_59, c_60, c_61, c_62, c_64, c_65, c_69, c_75, c_83, c_91, c_93, c_94, c_97, c_105, c_106, c_110, c_119, c_123, c_124, c_125, c_126, c_240, c_256, c_400, c_m, nI_m1, nM_i, wI_1, wI_2, wL_1, wL_2, true_and, and_true, and_self, false_and, and_false, if_true, if_false, h5]
    rfl
  | [a], h5, h6, h7 =>
    simp only [List.length_nil, List.length_cons] at h5
    obtain ⟨a1, m, a2, a3, a4⟩ := h7 0 a rfl
    by_cases e : a = l
    · rw [lp_R_isOpen_2]
      simp (disch := omega) only [ax_let, Option.bind_some, cond_true, cond_false, if_pos, if_neg, if_true, if_false, eq_self, nI_add, nI_ltI, nI_leI, nI_eq, nI_clamp, pu_in, c_0, c_1, c_2, c_3, c_4, c_5, c_6, c_7, c_8, c_9, c_10, c_11, c_12, c_15, c_16, c_17, c_32, c_35, c_36, c_38, c_40, c_41, c_42, c_43, c_44, c_45, c_48, c_57, c_58, c_59, c_60, c_61, c_62, c_64, c_65, c_69, c_75, c_83, c_91, c_93, c_94, c_97, c_105, c_106, c_110, c_119, c_123, c_124, c_125, c_126, c_240, c_256, c_400, c_m, nI_m1, nM_i, wI_1, wI_2, wL_1, wL_2, true_and, and_true, and_self, false_and, and_false, if_true, if_false, h5, a3, a4, List.mem_singleton, e]
    · have e' : ¬ l = a := fun z => e z.symm
      rw [lp_R_isOpen_2, lp_R_isOpen_2]
      simp (disch := omega) only [ax_let, Option.bind_some, cond_true, cond_false, if_pos, if_neg, if_true, if_false, eq_self, nI_add, nI_ltI, nI_leI, nI_eq, nI_clamp, pu_in, c_0, c_1, c_2, c_3, c_4, c_5, c_6, c_7, c_8, c_9, c_10, c_11, c_12, c_15, c_16, c_17, c_32, c_35, c_36, c_38, c_40, c_41, c_42, c_43, c_44, c_45, c_48, c_57, c_58, c_59, c_60, c_61, c_62, c_64, c_65, c_69, c_75, c_83, c_91, c_93, c_94, c_97, c_105, c_106, c_110, c_119, c_123, c_124, c_125, c_126, c_240, c_256, c_400, c_m, nI_m1, nM_i, wI_1, wI_2, wL_1, wL_2, true_and, and_true, and_self, false_and, and_false, if_true, if_false, h5, a3, a4, List.mem_singleton, e']
  | [a, b], h5, h6, h7 =>
    simp only [List.length_nil, List.length_cons] at h5
    obtain ⟨a1, m, a2, a3, a4⟩ := h7 0 a rfl
    obtain ⟨b1, m', b2, b3, b4⟩ := h7 1 b rfl
    by_cases e : a = l
    · rw [lp_R_isOpen_2]
      simp (disch := omega) only [ax_let, Option.bind_some, cond_true, cond_false, if_pos, if_neg, if_true, if_false, eq_self, nI_add, nI_ltI, nI_leI, nI_eq, nI_clamp, pu_in, c_0, c_1, c_2, c_3, c_4, c_5, c_6, c_7, c_8, c_9, c_10, c_11, c_12, c_15, c_16, c_17, c_32, c_35, c_36, c_38, c_40, c_41, c_42, c_43, c_44, c_45, c_48, c_57, c_58, c_59, c_60, c_61, c_62, c_64, c_65, c_69, c_75, c_83, c_91, c_93, c_94, c_97, c_105, c_106, c_110, c_119, c_123, c_124, c_125, c_126, c_240, c_256, c_400, c_m, nI_m1, nM_i, wI_1, wI_2, wL_1, wL_2, true_and, and_true, and_self, false_and, and_false, if_true, if_false, h5, a3, a4, List.mem_cons, e, true_or]
    · have e1 : ¬ l = a := fun z => e z.symm
      by_cases e2 : b = l
      · rw [lp_R_isOpen_2, lp_R_isOpen_2]
        simp (disch := omega) only [ax_let, Option.bind_some, cond_true, cond_false, if_pos, if_neg, if_true, if_false, eq_self, nI_add, nI_ltI, nI_leI, nI_eq, nI_clamp, pu_in, c_0, c_1, c_2, c_3, c_4, c_5, c_6, c_7, c_8, c_9, c_10, c_11, c_12, c_15, c_16, c_17, c_32, c_35, c_36, c_38, c_40, c_41, c_42, c_43, c_44, c_45, c_48, c_57, c_58, c_59, c_60, c_61, c_62, c_64, c_65, c_69, c_75, c_83, c_91, c_93, c_94, c_97, c_105, c_106, c_110, c_119, c_123, c_124, c_125, c_126, c_240, c_256, c_400, c_m, nI_m1, nM_i, wI_1, wI_2, wL_1, wL_2, true_and, and_true, and_self, false_and, and_false, if_true, if_false, h5, a3, a4, b3, b4, List.mem_cons, e2, true_or, or_true]
      · have e3 : ¬ l = b := fun z => e2 z.symm
        rw [lp_R_isOpen_2, lp_R_isOpen_2, lp_R_isOpen_2]
        simp (disch := omega) only [ax_let, Option.bind_some, cond_true, cond_false, if_pos, if_neg, if_true, if_false, eq_self, nI_add, nI_ltI, nI_leI, nI_eq, nI_clamp, pu_in, c_0, c_1, c_2, c_3, c_4, c_5, c_6, c_7, c_8, c_9, c_10, c_11, c_12, c_15, c_16, c_17, c_32, c_35, c_36, c_38, c_40, c_41, c_42, c_43, c_44, c_45, c_48, c_57, c_58, c_59, c_60, c_61, c_62, c_64, c_65, c_69, c_75, c_83, c_91, c_93, c_94, c_97, c_105, c_106, c_110, c_119, c_123, c_124, c_125, c_126, c_240, c_256, c_400, c_m, nI_m1, nM_i, wI_1, wI_2, wL_1, wL_2, true_and, and_true, and_self, false_and, and_false, if_true, if_false, h5, a3, a4, b3, b4, List.mem_cons, e1, e3, List.not_mem_nil, or_false]
  | a :: b :: c :: L', h5, h6, h7 => exact absurd h6 (by simp only [List.length_cons]; omega)
def RX (n : Nat) (T : List Tok) (g : Nat) (ts : List Tok) (lf : Nat) (P : List CP) (s : ax_σ) : Prop := rdA n T ts s ∧ s.1 0 25 7 = nI lf ∧ lf ≤ 1928 ∧ RC g P s ∧ P.length + ts.length ≤ 240
def lfL (L : List Nat) (lf l p : Nat) : Nat := if l ∈ L then lf else min lf (p * 8 + 4)
def xL (L : List Nat) (x : CP) (l t : Nat) : CP := (x.1, x.2.1, if l = 0 then x.2.2.1 + t else x.2.2.1, if l = 0 then x.2.2.2.1 else x.2.2.2.1 + t, if l ∈ L then x.2.2.2.2.1 else nM, x.2.2.2.2.2)
/-- what comes out of reading: K of what was read, or a stop at the sign that may not stand there -/
def ro (n : Nat) (T : List Tok) {α : Type} (x : Rd α) (Fr : ax_σ → Prop) (K : α → List Tok → Int32 → ax_σ → Prop) (bad : Int32) (y : Option (Int32 × ax_σ)) : Prop := match x with
  | .ok (a, r) => ∃ v s', y = some (v, s') ∧ K a r v s' ∧ Fr s'
  | .error r => ∃ s', y = some (bad, s') ∧ rdA n T r s' ∧ Fr s'
section
variable {n : Nat} {T : List Tok} {g sn w : Nat} {L : List Nat} {P : List CP} {s : ax_σ}
theorem rc_letter {l t : Nat} {x : CP} (h : RC g (P ++ [x]) s) (hl : l < 2) : ∃ s', f_C_addLetter g (nI P.length) (nI l) (lN t) s = some s' ∧ cpA g P.length (x.1, x.2.1, if l = 0 then x.2.2.1 + t else x.2.2.1, if l = 0 then x.2.2.2.1 else x.2.2.2.1 + t, x.2.2.2.2) s' ∧ frm (XL g P.length) s s' := by
  obtain ⟨⟨z1, z2, z3, z4, z5, z6, z7, z8⟩, hP⟩ := h.lastA
  by_cases e : l = 0
  · refine ⟨ax_wL s g 7 P.length (lN (x.2.2.1 + t)), ?_, ?_, frm.refl.wL _ _ _ _ (by unfold XL; omega)⟩
    · unfold f_C_addLetter
      simp (disch := omega) only [ax_let, Option.bind_some, cond_true, cond_false, if_pos, if_neg, if_true, if_false, eq_self, nI_add, nI_ltI, nI_leI, nI_eq, nI_clamp, pu_in, c_0, c_1, c_2, c_3, c_4, c_5, c_6, c_7, c_8, c_9, c_10, c_11, c_12, c_15, c_16, c_17, c_32, c_35, c_36, c_38, c_40, c_41, c_42, c_43, c_44, c_45, c_48, c_57, c_58, c_59, c_60, c_61, c_62, c_64, c_65, c_69, c_75, c_83, c_91, c_93, c_94, c_97, c_105, c_106, c_110, c_119, c_123, c_124, c_125, c_126, c_240, c_256, c_400, c_m, nI_m1, nM_i, e, z3, lN_add]
    · refine ⟨?_, ?_, ?_, ?_, ?_, ?_, ?_, ?_⟩ <;> simp (disch := omega) only [wI_1, wI_2, wL_1, wL_2, true_and, and_true, and_self, false_and, and_false, if_true, if_false, if_pos, if_neg, e, z1, z2, z3, z4, z5, z6, z7, z8]
  · refine ⟨ax_wL s g 8 P.length (lN (x.2.2.2.1 + t)), ?_, ?_, frm.refl.wL _ _ _ _ (by unfold XL; omega)⟩
    · unfold f_C_addLetter
      simp (disch := omega) only [ax_let, Option.bind_some, cond_true, cond_false, if_pos, if_neg, if_true, if_false, eq_self, nI_add, nI_ltI, nI_leI, nI_eq, nI_clamp, pu_in, c_0, c_1, c_2, c_3, c_4, c_5, c_6, c_7, c_8, c_9, c_10, c_11, c_12, c_15, c_16, c_17, c_32, c_35, c_36, c_38, c_40, c_41, c_42, c_43, c_44, c_45, c_48, c_57, c_58, c_59, c_60, c_61, c_62, c_64, c_65, c_69, c_75, c_83, c_91, c_93, c_94, c_97, c_105, c_106, c_110, c_119, c_123, c_124, c_125, c_126, c_240, c_256, c_400, c_m, nI_m1, nM_i, e, z4, lN_add]
    · refine ⟨?_, ?_, ?_, ?_, ?_, ?_, ?_, ?_⟩ <;> simp (disch := omega) only [wI_1, wI_2, wL_1, wL_2, true_and, and_true, and_self, false_and, and_false, if_true, if_false, if_pos, if_neg, e, z1, z2, z3, z4, z5, z6, z7, z8]
theorem rd_takeLetter' {F t c p lf : Nat} {x : CP} {ts : List Tok} (hF : 3 ≤ F) (ht : t < 2 ^ 31) (hE : EC g sn w L s) (h1 : rdA n T ((c, p) :: ts) s) (h2 : s.1 0 25 7 = nI lf) (h3 : lf ≤ 1928) (h4 : RC g (P ++ [x]) s) (h5 : P.length + 1 + ts.length ≤ 240) (hc : c = 105 ∨ c = 106) : ∃ s', f_R_takeLetter F g (nI P.length) (nI t) s = some s' ∧ RX n T g ts (lfL L lf (c - 105) p) (P ++ [xL L x (c - 105) t]) s' ∧ frm (XE g) s s' := by
  have hat := h1.at
  have e1 : s.1 0 26 (s.1 0 25 3).toNatClampNeg = nI c := hat.1
  have e2 : s.1 0 27 (s.1 0 25 3).toNatClampNeg = nI p := hat.2.1
  have hp : p ≤ 240 := hat.2.2.2.1
  have ho := rd_isOpen (F := F) (l := c - 105) hF (by omega) hE
  have es : nI c - nI 105 = nI (c - 105) := nI_sub (by omega)
  have hP := h4.lastA.2
  have hlen : (P ++ [xL L x (c - 105) t]).length + ts.length ≤ 240 := by simp only [List.length_append, List.length_cons, List.length_nil]; omega
  by_cases hL : c - 105 ∈ L
  · obtain ⟨s', f1, f2, f3⟩ := rc_letter (l := c - 105) (t := t) h4 (by omega)
    rw [if_pos hL] at ho
    refine ⟨ax_wI s' 0 25 3 (s'.1 0 25 3 + 1), ?_, ⟨?_, ?_, ?_, ?_, hlen⟩, ?_⟩
    · unfold f_R_takeLetter
      simp (disch := omega) only [ax_let, Option.bind_some, cond_true, cond_false, if_pos, if_neg, if_true, if_false, eq_self, nI_add, nI_ltI, nI_leI, nI_eq, nI_clamp, pu_in, c_0, c_1, c_2, c_3, c_4, c_5, c_6, c_7, c_8, c_9, c_10, c_11, c_12, c_15, c_16, c_17, c_32, c_35, c_36, c_38, c_40, c_41, c_42, c_43, c_44, c_45, c_48, c_57, c_58, c_59, c_60, c_61, c_62, c_64, c_65, c_69, c_75, c_83, c_91, c_93, c_94, c_97, c_105, c_106, c_110, c_119, c_123, c_124, c_125, c_126, c_240, c_256, c_400, c_m, nI_m1, nM_i, h1.inb, e1, es, ho, f1, nI_l]
    · exact (h1.keepf f3 (fun r k => by unfold XL; omega)).step
    · rw [wI_1, if_neg (by omega), f3.1 _ _ _ (by unfold XL; omega), h2, lfL, if_pos hL]
    · rw [lfL, if_pos hL]; exact h3
    · refine (h4.last f3 ?_).keep (frm.refl.wI (P := fun g r k => g = 0 ∧ r = 25) _ _ _ _ ⟨rfl, rfl⟩) (fun g' r k hx hn => by unfold XC at hx; omega)
      unfold xL
      rw [if_pos hL]; exact f2
    · exact (XE.ofL f3).wI _ _ _ _ (Or.inl ⟨rfl, rfl, Or.inl rfl⟩)
  · have hn := rd_note (g := g) (s := s) (p := p) (c := 4) h2 (by omega) (by omega)
    have hz := h4.lastA.1
    have fz : frm (XL g P.length) (ax_wI s 0 25 7 (nI (min lf (p * 8 + 4)))) (ax_wI (ax_wI s 0 25 7 (nI (min lf (p * 8 + 4)))) g 9 P.length nM) := frm.refl.wI _ _ _ _ (by unfold XL; omega)
    have hk := h4.keep (frm.refl.wI (P := fun g r k => g = 0 ∧ r = 25) 0 25 7 (nI (min lf (p * 8 + 4))) ⟨rfl, rfl⟩) (fun g' r k hx hn => by unfold XC at hx; omega)
    have hk2 : RC g (P ++ [(x.1, x.2.1, x.2.2.1, x.2.2.2.1, nM, x.2.2.2.2.2)]) (ax_wI (ax_wI s 0 25 7 (nI (min lf (p * 8 + 4)))) g 9 P.length nM) := by
      refine hk.last fz ?_
      obtain ⟨z1, z2, z3, z4, z5, z6, z7, z8⟩ := hk.lastA.1
      refine ⟨?_, ?_, ?_, ?_, ?_, ?_, ?_, ?_⟩ <;> simp (disch := omega) only [wI_1 _ g 9, wI_2, z1, z2, z3, z4, z5, z6, z7, z8, if_pos, if_neg, true_and, and_true, and_self, if_true]
    obtain ⟨s', f1, f2, f3⟩ := rc_letter (l := c - 105) (t := t) hk2 (by omega)
    rw [if_neg hL] at ho
    refine ⟨ax_wI s' 0 25 3 (s'.1 0 25 3 + 1), ?_, ⟨?_, ?_, ?_, ?_, hlen⟩, ?_⟩
    · unfold f_R_takeLetter
      simp (disch := omega) only [ax_let, Option.bind_some, cond_true, cond_false, if_pos, if_neg, if_true, if_false, eq_self, nI_add, nI_ltI, nI_leI, nI_eq, nI_clamp, pu_in, c_0, c_1, c_2, c_3, c_4, c_5, c_6, c_7, c_8, c_9, c_10, c_11, c_12, c_15, c_16, c_17, c_32, c_35, c_36, c_38, c_40, c_41, c_42, c_43, c_44, c_45, c_48, c_57, c_58, c_59, c_60, c_61, c_62, c_64, c_65, c_69, c_75, c_83, c_91, c_93, c_94, c_97, c_105, c_106, c_110, c_119, c_123, c_124, c_125, c_126, c_240, c_256, c_400, c_m, nI_m1, nM_i, h1.inb, e1, e2, es, ho, hn, f1, nI_l]
    · exact (((h1.keep (rdK_w (by omega))).keepf fz (fun r k => by unfold XL; omega)).keepf f3 (fun r k => by unfold XL; omega)).step
    · rw [wI_1, if_neg (by omega), f3.1 _ _ _ (by unfold XL; omega), fz.1 _ _ _ (by unfold XL; omega), wI_1, if_pos ⟨rfl, rfl, rfl⟩, lfL, if_neg hL]
    · rw [lfL, if_neg hL]; omega
    · refine (hk2.last f3 ?_).keep (frm.refl.wI (P := fun g r k => g = 0 ∧ r = 25) _ _ _ _ ⟨rfl, rfl⟩) (fun g' r k hx hn => by unfold XC at hx; omega)
      unfold xL
      rw [if_neg hL]; exact f2
    · exact (((frm.refl.wI (P := XE g) 0 25 7 _ (Or.inl ⟨rfl, rfl, Or.inr rfl⟩)).trans (XE.ofL fz)).trans (XE.ofL f3)).wI _ _ _ _ (Or.inl ⟨rfl, rfl, Or.inl rfl⟩)
theorem rd_takeLetter {F t c p lf : Nat} {x : CP} {ts : List Tok} (hF : 3 ≤ F) (ht : t < 2 ^ 31) (hE : EC g sn w L s) (h : RX n T g ((c, p) :: ts) lf (P ++ [x]) s) (hc : c = 105 ∨ c = 106) : ∃ s', f_R_takeLetter F g (nI P.length) (nI t) s = some s' ∧ RX n T g ts (lfL L lf (c - 105) p) (P ++ [xL L x (c - 105) t]) s' ∧ frm (XE g) s s' :=
  rd_takeLetter' hF ht hE h.1 h.2.1 h.2.2.1 h.2.2.2.1 (by have := h.2.2.2.2; simp only [List.length_append, List.length_cons, List.length_nil] at this; omega) hc
end
