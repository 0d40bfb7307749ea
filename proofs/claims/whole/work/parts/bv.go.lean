/-! PURE: a run -/
section
variable {D : Ds} {A K S : Nat → Int64} {en : Nat → Nat → Nat → Int32}
def rnF (D : Ds) (en : Nat → Nat → Nat → Int32) (K S : Nat → Int64) : Nat → Nat → (Nat → Int64) → Nat → Int64
  | 0, _, A => A
  | m + 1, q, A => rnF D en K S m (q + 1) (stP D en K S 0 q A)
def rnB (D : Ds) (en : Nat → Nat → Nat → Int32) (K S : Nat → Int64) : Nat → Nat → (Nat → Int64) → Nat → Int64
  | 0, _, A => A
  | m + 1, q, A => rnB D en K S m (q - 1) (stP D en K S 1 (q - 1) A)
theorem rnF_ok (h : SD D) (hen : enOK D en) : ∀ (m q : Nat) (A : Nat → Int64), wOK D A K S → wOK D (rnF D en K S m q A) K S
  | 0, _, _, hw => hw
  | m + 1, q, A, hw => rnF_ok h hen m (q + 1) _ (stP_bW h (by omega) hen hw)
theorem rnB_ok (h : SD D) (hen : enOK D en) : ∀ (m q : Nat) (A : Nat → Int64), wOK D A K S → wOK D (rnB D en K S m q A) K S
  | 0, _, _, hw => hw
  | m + 1, q, A, hw => rnB_ok h hen m (q - 1) _ (stP_bW h (by omega) hen hw)
/-- what the class's steps need -/
def CX (g : Nat) (D : Ds) (en : Nat → Nat → Nat → Int32) (K S : Nat → Int64) (s : ax_σ) : Prop := MC g D s ∧ (∀ k, k < 4 → s.2 0 33 k = K k) ∧ (∀ k, k < tot D → s.2 0 35 k = S k) ∧ (∀ u k, u < (dT D).length → k < 16 → s.1 g 2 (u * 16 + k) = en u 0 k ∧ s.1 g 3 (u * 16 + k) = en u 1 k)
theorem CX.keep {g : Nat} {s s' : ax_σ} (h : CX g D en K S s) (hf : frm XMs s s') : CX g D en K S s' := by
  obtain ⟨h1, h2, h3, h4⟩ := h
  refine ⟨h1.keep hf (fun g' r k hQ => by unfold XMs at hQ; omega), fun k hk => (hf.2 _ _ _ (by unfold XMs; omega)).trans (h2 k hk), fun k hk => (hf.2 _ _ _ (by unfold XMs; omega)).trans (h3 k hk), fun u k hu hk => ⟨(hf.1 _ _ _ (by unfold XMs; omega)).trans (h4 u k hu hk).1, (hf.1 _ _ _ (by unfold XMs; omega)).trans (h4 u k hu hk).2⟩⟩
theorem m_fwd {F g b : Nat} {a1 : Int32} (hF : 241 ≤ F) (h : SD D) (hen : enOK D en) : ∀ (m q n : Nat) (s : ax_σ) (A : Nat → Int64), wOK D A K S → m < n → q + m ≤ (trS D).length → (b = q + m ∨ (m = 0 ∧ b ≤ q)) → CX g D en K S s → (∀ k, k < 4 → s.2 0 34 k = A k) → ∃ s', lp_M_go_17 F g a1 (nI b) (nI (tot D)) n (nI q) s = some s' ∧ (∀ k, k < 4 → s'.2 0 34 k = rnF D en K S m q A k) ∧ frm XMs s s'
  | _, _, 0, _, _, _, h, _, _, _, _ => absurd h (Nat.not_lt_zero _)
  | 0, q, n + 1, s, A, _, _, hq, hb, _, hA => by
    obtain ⟨n1, n2, n3, -⟩ := h.nums
    refine ⟨s, ?_, hA, frm.refl⟩
    rw [lp_M_go_17, if_pos (by rw [nI_leI (by omega) (by omega)]; omega)]
  | m + 1, q, n + 1, s, A, hw, hn, hq, hb, hC, hA => by
    obtain ⟨n1, n2, n3, -⟩ := h.nums
    obtain ⟨s1, v1, v2, v3⟩ := m_st (F := F) (g := g) (d := 0) (p := q) hF h (by omega) (by omega) hen hw hC.1 hA hC.2.1 hC.2.2.1 hC.2.2.2
    obtain ⟨s', b1, b2, b3⟩ := m_fwd (b := b) (a1 := a1) hF h hen m (q + 1) n s1 _ (stP_bW h (by omega) hen hw) (by omega) (by omega) (by omega) (hC.keep v3) v2
    refine ⟨s', ?_, b2, v3.trans b3⟩
    have v1 : f_M_change F g (s.1 g 20 (tot D + q)) (0 : Int32) s = some s1 := v1
    rw [lp_M_go_17, if_neg (by rw [nI_leI (by omega) (by omega)]; omega), nI_add, pu_in (by omega : tot D + q < 400) (by omega), cond_true, nI_clamp (by omega), v1, Option.bind_some, c_1, nI_add, b1]
theorem nI_m1l {q b : Nat} (hq : q < 2 ^ 30) (hb : b < 2 ^ 30) : (nI q - 1 < nI b) ↔ q ≤ b := by
  cases q with
  | zero =>
    constructor
    · intro _; omega
    · intro _
      show (-1 : Int32) < nI b
      have : (-1 : Int32) < 0 := by decide
      exact Int32.lt_of_lt_of_le this (by rw [c_0, nI_leI (by omega) (by omega)]; omega)
  | succ q =>
    rw [c_1, nI_sub (by omega), Nat.add_sub_cancel, nI_ltI (by omega) (by omega)]
    omega
theorem m_bwd {F g b : Nat} (hF : 241 ≤ F) (h : SD D) (hen : enOK D en) : ∀ (m q n : Nat) (s : ax_σ) (A : Nat → Int64), wOK D A K S → m < n → q ≤ (trS D).length → b < 2 ^ 30 → (q = b + m ∨ (m = 0 ∧ q ≤ b)) → CX g D en K S s → (∀ k, k < 4 → s.2 0 34 k = A k) → ∃ s', lp_M_go_51 F g (nI b) (nI (tot D)) n (nI q - 1) s = some s' ∧ (∀ k, k < 4 → s'.2 0 34 k = rnB D en K S m q A k) ∧ frm XMs s s'
  | _, _, 0, _, _, _, h, _, _, _, _, _ => absurd h (Nat.not_lt_zero _)
  | 0, q, n + 1, s, A, _, _, hq, hb, hb2, _, hA => by
    obtain ⟨n1, n2, n3, -⟩ := h.nums
    refine ⟨s, ?_, hA, frm.refl⟩
    rw [lp_M_go_51, if_pos (by rw [nI_m1l (by omega) (by omega)]; omega)]
  | m + 1, q, n + 1, s, A, hw, hn, hq, hb, hb2, hC, hA => by
    obtain ⟨n1, n2, n3, -⟩ := h.nums
    obtain ⟨s1, v1, v2, v3⟩ := m_st (F := F) (g := g) (d := 1) (p := q - 1) hF h (by omega) (by omega) hen hw hC.1 hA hC.2.1 hC.2.2.1 hC.2.2.2
    obtain ⟨s', b1, b2, b3⟩ := m_bwd (b := b) hF h hen m (q - 1) n s1 _ (stP_bW h (by omega) hen hw) (by omega) (by omega) hb (by omega) (hC.keep v3) v2
    refine ⟨s', ?_, b2, v3.trans b3⟩
    have v1 : f_M_change F g (s.1 g 20 (tot D + (q - 1))) (1 : Int32) s = some s1 := v1
    have e1 : nI q - 1 = nI (q - 1) := by rw [c_1, nI_sub (by omega)]
    have e2 : nI (q - 1) + (-1 : Int32) = nI (q - 1) - 1 := (Int32.sub_eq_add_neg _ _).symm
    rw [lp_M_go_51, if_neg (by rw [nI_m1l (by omega) (by omega)]; omega), e1, nI_add, pu_in (by omega : tot D + (q - 1) < 400) (by omega), cond_true, nI_clamp (by omega), v1, Option.bind_some, e2, b1]
/-- the state behind a run -/
def goW (D : Ds) (en : Nat → Nat → Nat → Int32) (K A : Nat → Int64) (a b : Nat) : Nat → Int64 := rnB D en K (skS D D.1.1 A K (tot D)) (a - b) a (rnF D en K (skS D D.1.1 A K (tot D)) (b - a) a A)
def XRm (g r k : Nat) : Prop := g = 0 ∧ (r = 34 ∨ r = 35 ∨ r = 36)
theorem sk_ok (h : SD D) (hA : ∀ k, k < 4 → bW D.1.1 (A k)) (hK : ∀ k, k < 4 → bW D.1.1 (K k)) : wOK D A K (skS D D.1.1 A K (tot D)) := ⟨hA, hK, fun k hk => sk_bW h hA hK _ (by have := h.nums; omega) k hk⟩
theorem goW_bW {a b : Nat} (h : SD D) (hen : enOK D en) (hA : ∀ k, k < 4 → bW D.1.1 (A k)) (hK : ∀ k, k < 4 → bW D.1.1 (K k)) : ∀ k, k < 4 → bW D.1.1 (goW D en K A a b k) := (rnB_ok h hen _ _ _ (rnF_ok h hen _ _ _ (sk_ok h hA hK))).1
theorem m_go {F g a b : Nat} {s : ax_σ} (hF : 500 ≤ F) (h : SD D) (hen : enOK D en) (ha : a ≤ (trS D).length) (hb : b ≤ (trS D).length) (hA : ∀ k, k < 4 → bW D.1.1 (A k)) (hK : ∀ k, k < 4 → bW D.1.1 (K k)) (hM : MC g D s) (hAs : ∀ k, k < 4 → s.2 0 34 k = A k) (hKs : ∀ k, k < 4 → s.2 0 33 k = K k) (ht : ∀ u k, u < (dT D).length → k < 16 → s.1 g 2 (u * 16 + k) = en u 0 k ∧ s.1 g 3 (u * 16 + k) = en u 1 k) : ∃ s', f_M_go F g (nI a) (nI b) s = some s' ∧ (∀ k, k < 4 → s'.2 0 34 k = goW D en K A a b k) ∧ frm XRm s s' := by
  obtain ⟨n1, n2, n3, -⟩ := h.nums
  obtain ⟨s1, v1, v2, v3⟩ := m_subk (F := F) (g := g) (by omega) h hA hK hM hAs hKs
  have hM1 := hM.keep v3 (fun g' r k hQ => by unfold X35 at hQ; omega)
  have hC1 : CX g D en K (skS D D.1.1 A K (tot D)) s1 := ⟨hM1, fun k hk => (v3.2 _ _ _ (by unfold X35; omega)).trans (hKs k hk), v2, fun u k hu hk => ⟨(v3.1 _ _ _ (by unfold X35; omega)).trans (ht u k hu hk).1, (v3.1 _ _ _ (by unfold X35; omega)).trans (ht u k hu hk).2⟩⟩
  have hA1 : ∀ k, k < 4 → s1.2 0 34 k = A k := fun k hk => (v3.2 _ _ _ (by unfold X35; omega)).trans (hAs k hk)
  obtain ⟨s2, w1, w2, w3⟩ := m_fwd (F := F) (g := g) (b := b) (a1 := nI a) (by omega) h hen (b - a) a F s1 A (sk_ok h hA hK) (by omega) (by omega) (by omega) hC1 hA1
  obtain ⟨s3, x1, x2, x3⟩ := m_bwd (F := F) (g := g) (b := b) (by omega) h hen (a - b) a F s2 _ (rnF_ok h hen _ _ _ (sk_ok h hA hK)) (by omega) (by omega) (by omega) (by omega) (hC1.keep w3) w2
  refine ⟨s3, ?_, x2, (v3.imp (fun g r k h => by unfold X35 at h; unfold XRm; omega)).trans ((w3.trans x3).imp (fun g r k h => by unfold XMs at h; unfold XRm; omega))⟩
  have h4 : s1.1 g 1 ((4 : Int32)).toNatClampNeg = nI (tot D) := hM1.2.2.2.1
  unfold f_M_go
  rw [v1, Option.bind_some, h4, w1, Option.bind_some, x1]
  rfl
end
