/-! PURE: the reference reads a text as the parser does -/
theorem tkR_mem (f : Nat → Nat) : ∀ (m p : Nat), ∀ t ∈ tkR f p m, p ≤ t.2 ∧ t.2 < p + m ∧ t.1 = f t.2
  | 0, p, t, h => by cases h
  | m + 1, p, t, h => by
    rw [tkR] at h
    by_cases hb : f p = 32
    · rw [if_pos hb] at h
      have := tkR_mem f m (p + 1) t h
      exact ⟨by omega, by omega, this.2.2⟩
    · rw [if_neg hb] at h
      cases h with
      | head => exact ⟨Nat.le_refl _, by show p < p + (m + 1); omega, rfl⟩
      | tail _ h =>
        have := tkR_mem f m (p + 1) t h
        exact ⟨by omega, by omega, this.2.2⟩
theorem pTbs_sg : ∀ (j : Nat) (r1 r2 : List Tok) (tb : List Tb), pTbs j r1 = .ok (tb, r2) → tb.length ≤ j ∧ (sg r2 = 35 → tb.length = j) ∧ (sg r1 = 35 ∨ r1 = r2)
  | 0, r1, r2, tb, h => by
    rw [pTbs] at h
    cases h
    exact ⟨Nat.le_refl _, fun _ => rfl, Or.inr rfl⟩
  | j + 1, [], r2, tb, h => by
    rw [pTbs] at h
    cases h
    exact ⟨Nat.zero_le _, fun e => absurd e (by show (0 : Nat) ≠ 35; omega), Or.inr rfl⟩
  | j + 1, (c, p) :: r1, r2, tb, h => by
    rw [pTbs] at h
    by_cases hc : c = 35
    · rw [if_pos hc] at h
      obtain ⟨t, r3, h1, h2⟩ := rb_ok h
      obtain ⟨u, r4, h3, h4⟩ := rb_ok h2
      obtain ⟨l, r5, h5, h6⟩ := rb_ok h4
      cases h6
      obtain ⟨a1, a2, a3⟩ := pTbs_sg j r4 r2 l h5
      exact ⟨by rw [List.length_cons]; omega, fun e => by rw [List.length_cons, a2 e], Or.inl hc⟩
    · rw [if_neg hc] at h
      cases h
      exact ⟨Nat.zero_le _, fun e => absurd e hc, Or.inr rfl⟩
/-- the standard form of a description, as the signs say it -/
def foT (T : List Tok) : List Nat := match pHd T with
  | .error _ => []
  | .ok (_, r1) => match pTbs 2 r1 with
    | .error _ => []
    | .ok (tb, r2) => (fmt false (T.map (·.1))).take ((fmt false (T.map (·.1))).length - (fmt false (r1.map (·.1))).length) ++ tb.flatMap tbPr ++ fmt false (r2.map (·.1))
section
variable {R F n : Nat} {f : Nat → Nat} {s s' : ax_σ}
theorem z_rest : ∃ s1, f_Z_restart s = some s1 ∧ zst0 s1 ∧ frm (XZ 0) s s1 := by
  refine ⟨_, rfl, ⟨by simp (disch := omega) only [wI_1, wI_2, wL_1, wL_2, true_and, and_true, and_self, false_and, and_false, if_true, if_false, if_pos, if_neg]; rfl, by simp (disch := omega) only [wI_1, wI_2, wL_1, wL_2, true_and, and_true, and_self, false_and, and_false, if_true, if_false, if_pos, if_neg]; rfl, by simp (disch := omega) only [wI_1, wI_2, wL_1, wL_2, true_and, and_true, and_self, false_and, and_false, if_true, if_false, if_pos, if_neg]; rfl, by simp (disch := omega) only [wI_1, wI_2, wL_1, wL_2, true_and, and_true, and_self, false_and, and_false, if_true, if_false, if_pos, if_neg]; rfl, by simp (disch := omega) only [wI_1, wI_2, wL_1, wL_2, true_and, and_true, and_self, false_and, and_false, if_true, if_false, if_pos, if_neg]; rfl, by simp (disch := omega) only [wI_1, wI_2, wL_1, wL_2, true_and, and_true, and_self, false_and, and_false, if_true, if_false, if_pos, if_neg]; rfl, by simp (disch := omega) only [wI_1, wI_2, wL_1, wL_2, true_and, and_true, and_self, false_and, and_false, if_true, if_false, if_pos, if_neg]; rfl, by simp (disch := omega) only [wI_1, wI_2, wL_1, wL_2, true_and, and_true, and_self, false_and, and_false, if_true, if_false, if_pos, if_neg]; rfl, by simp (disch := omega) only [wI_1, wI_2, wL_1, wL_2, true_and, and_true, and_self, false_and, and_false, if_true, if_false, if_pos, if_neg]; rfl, by simp (disch := omega) only [wI_1, wI_2, wL_1, wL_2, true_and, and_true, and_self, false_and, and_false, if_true, if_false, if_pos, if_neg]; rfl, by simp (disch := omega) only [wI_1, wI_2, wL_1, wL_2, true_and, and_true, and_self, false_and, and_false, if_true, if_false, if_pos, if_neg]; rfl, by simp (disch := omega) only [wI_1, wI_2, wL_1, wL_2, true_and, and_true, and_self, false_and, and_false, if_true, if_false, if_pos, if_neg]; rfl, by simp (disch := omega) only [wI_1, wI_2, wL_1, wL_2, true_and, and_true, and_self, false_and, and_false, if_true, if_false, if_pos, if_neg]; rfl⟩, ?_⟩
  simp only [ax_let]
  refine (((((((((((((frm.refl.wI _ _ _ _ ?_).wI _ _ _ _ ?_).wI _ _ _ _ ?_).wI _ _ _ _ ?_).wI _ _ _ _ ?_).wI _ _ _ _ ?_).wI _ _ _ _ ?_).wI _ _ _ _ ?_).wI _ _ _ _ ?_).wI _ _ _ _ ?_).wI _ _ _ _ ?_).wI _ _ _ _ ?_).wI _ _ _ _ ?_) <;> unfold XZ <;> omega
theorem zAll (hF : 241 ≤ F) (htx : ztx R n f s) (h0 : zst0 s) : zfn R F n f (tkR f 0 n) s 0 (pDs (tkR f 0 n)) (fun D s' => ZD0 D (foT (tkR f 0 n)) s') := by
  have hlen := tkR_len f n 0
  have hn := htx.1
  have hmem : ∀ t ∈ tkR f 0 n, t.1 < 128 ∧ t.2 ≤ 240 := fun t ht => by
    obtain ⟨a1, a2, a3⟩ := tkR_mem f n 0 t ht
    have := (htx.2.2 t.2 (by omega)).1
    omega
  generalize hT : tkR f 0 n = T at *
  obtain ⟨z7, z8, z11, z14, z19, z20, z22, z23, z33, z36, z42, z49, z51⟩ := h0
  have hE : ZE R n f 0 T (fmt false (T.map (·.1))) [] [] [] [] s := ⟨htx, z8, z7, ⟨z51, fun i c hi => (by cases hi)⟩, ⟨z36, fun i o hi => (by cases hi)⟩, ⟨z42, fun i o hi => (by cases hi)⟩, ⟨z49, fun i o hi => (by cases hi)⟩, ⟨by rw [List.length_nil]; omega, by rw [List.length_nil, List.length_nil]; omega, by rw [List.length_nil]; omega, by decide, hmem⟩, fun _ => List.nil_append _⟩
  rw [pDs_bl]
  refine zfn.bind (zHd hF hE ⟨z11, fun i x hi => (by cases hi)⟩) (fun hd r1 s1 e1 hK => ?_)
  obtain ⟨P1, a1, a2, a3, a4⟩ := hK
  rw [List.length_nil] at a4
  refine zfn.bind (zTbs hF 2 r1 [] _ P1 s1 rfl a1 ((a3.1 0 38 14 (by unfold XHp; sorry)).trans z14) (fun u x hu => by cases hu) (by omega)) (fun tb r2 s2 e2 hK => ?_)
  sorry
end
