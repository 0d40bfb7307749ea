/-! PURE: what holds of a compiled program between two calls -/
def vN (D : Ds) (k : Nat) : Nat := if k = 0 then D.1.1 else if k = 1 then D.2.1.1 else if k = 2 then D.2.2.1.1 else if k = 3 then (dT D).length else if k = 4 then tot D else if k = 5 then (trS D).length else if k = 6 then wt icW (dW D) + wt icW (dSt D) else max (mx (dW D)) (mx (dSt D)) + D.2.1.1
/-- the class's tables -/
def TbC (g : Nat) (D : Ds) (s : ax_σ) : Prop := ∀ (u : Nat) (x : Tb), (dT D)[u]? = some x → ∀ k, k < 16 → s.1 g 2 (u * 16 + k) = nI (tbE x k) ∧ s.1 g 3 (u * 16 + k) = bkL (fun y => nI (tbE x y)) (nI k) 16 nM
/-- the class's program, the reference's, the source -/
def RCp (g : Nat) (D : Ds) (Pr : List Nat) (s : ax_σ) : Prop := (∀ j, j < 8 → s.1 g 1 j = nI (vN D j)) ∧ FP g Pr s ∧ TbC g D s ∧ MC g D s
def RZp (D : Ds) (Pr : List Nat) (s : ax_σ) : Prop := MZ D s ∧ ZP Pr s
def RSp (D : Ds) (Pr : List Nat) (n : Nat) (f : Nat → Nat) (s : ax_σ) : Prop := (ztx 40 n f s ∧ s.1 0 38 4 = nI n) ∧ (∃ r, pDs (tkR f 0 n) = .ok (D, r)) ∧ foT (tkR f 0 n) = Pr ∧ Pr.length ≤ 264
def RWd (D : Ds) (s : ax_σ) : Prop := ∀ k, k < 4 → (s.2 0 34 k = s.2 0 80 k ∧ s.2 0 33 k = s.2 0 79 k) ∧ bW D.1.1 (s.2 0 34 k) ∧ bW D.1.1 (s.2 0 33 k)
def RIv (g : Nat) (D : Ds) (Pr : List Nat) (n : Nat) (f : Nat → Nat) (s : ax_σ) : Prop := g < 2 ∧ SD D ∧ RCp g D Pr s ∧ RZp D Pr s ∧ RSp D Pr n f s ∧ RWd D s
def I0x (ph : Option Nat) (s : ax_σ) : Prop := match ph with
  | none => True
  | some g => ∃ D Pr n f, RIv g D Pr n f s
section
variable {g n : Nat} {D : Ds} {Pr : List Nat} {f : Nat → Nat} {s s' : ax_σ} {Q : Nat → Nat → Nat → Prop}
/-- cells that the class's program does not use -/
def AC (g g' r k : Nat) : Prop := (g' = 0 ∧ 23 ≤ r ∧ (r ≠ 32 ∨ ¬ (k = 7 ∨ k = 8))) ∨ g' ≠ g ∧ (g' ≠ 0 ∨ r ≤ 22) ∨ r = 37
def AZ (g' r k : Nat) : Prop := g' ≠ 0 ∨ r ≤ 37 ∨ r = 39 ∨ r = 40 ∨ 74 ≤ r ∨ (r = 38 ∧ (k = 0 ∨ k = 2 ∨ k = 4 ∨ k = 5 ∨ k = 6))
theorem RCp.keep (h : RCp g D Pr s) (hf : frm Q s s') (hq : ∀ g' r k, Q g' r k → AC g g' r k) : RCp g D Pr s' := by
  have q1 : ∀ r k, r ≤ 22 → ¬ Q g r k := fun r k hr hQ => by have := hq _ _ _ hQ; unfold AC at this; omega
  have q2 : ∀ k, (k = 7 ∨ k = 8) → ¬ Q 0 32 k := fun k hk hQ => by have := hq _ _ _ hQ; unfold AC at this; omega
  obtain ⟨h1, ⟨h2, h3⟩, h4, h5, h6, h7, h8, h9, h10⟩ := h
  refine ⟨fun j hj => (hf.1 _ _ _ (q1 _ _ (by omega))).trans (h1 j hj), ⟨(hf.1 _ _ _ (q1 _ _ (by omega))).trans h2, fun p c hp => (hf.1 _ _ _ (q1 _ _ (by omega))).trans (h3 p c hp)⟩, fun u x hx k hk => ⟨(hf.1 _ _ _ (q1 _ _ (by omega))).trans (h4 u x hx k hk).1, (hf.1 _ _ _ (q1 _ _ (by omega))).trans (h4 u x hx k hk).2⟩, h5.keep hf (fun g' r k hx hQ => ?_), h6.keep hf (fun r k _ h9 => q1 _ _ (by omega)), fun p e hp => (hf.1 _ _ _ (q1 _ _ (by omega))).trans (h7 p e hp), (hf.1 _ _ _ (q1 _ _ (by omega))).trans h8, (hf.1 _ _ _ (q2 _ (by omega))).trans h9, (hf.2 _ _ _ (q2 _ (by omega))).trans h10⟩
  unfold XN at hx
  obtain ⟨e, hx⟩ := hx
  subst e
  exact q1 r k (by omega) hQ
theorem RZp.keep (h : RZp D Pr s) (hf : frm Q s s') (hq : ∀ g' r k, Q g' r k → AZ g' r k) : RZp D Pr s' := by
  have q1 : ∀ r k, (41 ≤ r ∧ r ≤ 73) → ¬ Q 0 r k := fun r k hr hQ => by have := hq _ _ _ hQ; unfold AZ at this; omega
  have q2 : ∀ k, k ≠ 0 → k ≠ 2 → k ≠ 4 → k ≠ 5 → k ≠ 6 → ¬ Q 0 38 k := fun k h0 h2 h4 h5 h6 hQ => by have := hq _ _ _ hQ; unfold AZ at this; omega
  obtain ⟨⟨h1, RW, RS, a1, b1, c1, c2, d1, d2⟩, h2⟩ := h
  refine ⟨⟨h1.keep hf (fun r k hx => ?_), RW, RS, a1.keep hf (fun r k hx => ?_), b1.keep hf (fun r k hx => ?_), c1, c2, (hf.1 _ _ _ (q2 _ (by omega) (by omega) (by omega) (by omega) (by omega))).trans d1, (hf.1 _ _ _ (q2 _ (by omega) (by omega) (by omega) (by omega) (by omega))).trans d2⟩, h2.keep hf (fun r k hx => ?_)⟩
  · unfold XX at hx
    rcases hx with hx | hx | ⟨e, hx⟩
    · exact q1 _ _ (by omega)
    · exact q1 _ _ (by omega)
    · subst e; exact q2 _ (by omega) (by omega) (by omega) (by omega) (by omega)
  · rcases hx with ⟨e, hx⟩ | hx
    · subst e; subst hx; exact q2 _ (by decide) (by decide) (by decide) (by decide) (by decide)
    · unfold aRc at hx; simp at hx; exact q1 _ _ (by omega)
  · rcases hx with ⟨e, hx⟩ | hx
    · subst e; subst hx; exact q2 _ (by decide) (by decide) (by decide) (by decide) (by decide)
    · unfold aRc at hx; simp at hx; exact q1 _ _ (by omega)
  · rcases hx with ⟨e, hx⟩ | hx
    · subst e; subst hx; exact q2 _ (by decide) (by decide) (by decide) (by decide) (by decide)
    · exact q1 _ _ (by omega)
theorem RSp.keep (h : RSp D Pr n f s) (hf : frm Q s s') (hq : ∀ g' r k, Q g' r k → ¬ (g' = 0 ∧ (r = 40 ∨ (r = 38 ∧ k = 4)))) : RSp D Pr n f s' := by
  obtain ⟨⟨⟨h1, h2, h3⟩, h4⟩, h5⟩ := h
  exact ⟨⟨⟨h1, h2, fun k hk => ⟨(h3 k hk).1, (hf.1 _ _ _ (fun hQ => hq _ _ _ hQ ⟨rfl, Or.inl rfl⟩)).trans (h3 k hk).2⟩⟩, (hf.1 _ _ _ (fun hQ => hq _ _ _ hQ ⟨rfl, Or.inr ⟨rfl, rfl⟩⟩)).trans h4⟩, h5⟩
theorem RWd.keep (h : RWd D s) (hf : frm Q s s') (hq : ∀ g' r k, Q g' r k → ¬ (g' = 0 ∧ (r = 33 ∨ r = 34 ∨ r = 79 ∨ r = 80))) : RWd D s' := by
  intro k hk
  obtain ⟨⟨h1, h2⟩, h3, h4⟩ := h k hk
  have e : ∀ r, (r = 33 ∨ r = 34 ∨ r = 79 ∨ r = 80) → s'.2 0 r k = s.2 0 r k := fun r hr => hf.2 _ _ _ (fun hQ => hq _ _ _ hQ ⟨rfl, hr⟩)
  rw [e 34 (by omega), e 80 (by omega), e 33 (by omega), e 79 (by omega)]
  exact ⟨⟨h1, h2⟩, h3, h4⟩
/-- what msk hides -/
def XMk (g' r k : Nat) : Prop := (g' = 0 ∧ ((r = 23 ∧ k = 1) ∨ r = 24 ∨ (r = 38 ∧ (k = 0 ∨ k = 2)) ∨ r = 39)) ∨ r = 37
theorem msk_f (s : ax_σ) : frm XMk s (msk s) := by
  refine ⟨fun g r k h => msk_1 ?_, fun g r k h => msk_2 ?_⟩
  · cases hb : pr_Tb g r k with
    | false => rfl
    | true =>
      have := pr_Tb_T.mp hb
      unfold pr_T at this
      exact absurd (by unfold XMk; omega) h
  · exact b37 (fun e => h (Or.inr e))
theorem frm.sym {Q : Nat → Nat → Nat → Prop} (h : frm Q s s') : frm Q s' s := ⟨fun g r k hn => (h.1 g r k hn).symm, fun g r k hn => (h.2 g r k hn).symm⟩
theorem RIv.mk (h : RIv g D Pr n f s) (hf : frm XMk s s') : RIv g D Pr n f s' := by
  obtain ⟨h1, h2, h3, h4, h5, h6⟩ := h
  refine ⟨h1, h2, h3.keep hf (fun g' r k hQ => ?_), h4.keep hf (fun g' r k hQ => ?_), h5.keep hf (fun g' r k hQ => ?_), h6.keep hf (fun g' r k hQ => ?_)⟩
  · unfold XMk at hQ; unfold AC; omega
  · unfold XMk at hQ; unfold AZ; omega
  · unfold XMk at hQ; omega
  · unfold XMk at hQ; omega
theorem bkL_cg {f f' : Nat → Int32} {i : Int32} : ∀ (n : Nat) (acc : Int32), (∀ k, k < n → f k = f' k) → bkL f i n acc = bkL f' i n acc
  | 0, _, _ => rfl
  | n + 1, acc, h => by
    rw [bkL, bkL, h n (by omega)]
    exact bkL_cg n _ (fun k hk => h k (by omega))
theorem SD.cost (h : SD D) : wt icW (dW D) + wt icW (dSt D) ≤ 400 ∧ max (mx (dW D)) (mx (dSt D)) + D.2.1.1 ≤ 8 := by
  obtain ⟨-, -, -, -, -, -, -, -, -, h⟩ := h
  unfold big at h
  omega
theorem SD.vd (h : SD D) : vD D := by
  obtain ⟨n, T, g, B, hn, hP, hB, hkB, hF, -⟩ := h
  exact sd_vD hn hP hF
theorem RIv.pv (h : RIv g D Pr n f s) : PV (vN D) Pr.length g s := by
  obtain ⟨hg, hS, ⟨c1, ⟨c2, c3⟩, c4, c5⟩, ⟨hZ, z2, z3⟩, ⟨-, -, -, hl⟩, hw⟩ := h
  obtain ⟨n1, n2, n3, -, n5, n6, n7, n8, n9⟩ := hS.nums
  obtain ⟨k1, k2⟩ := hS.cost
  obtain ⟨v1, v2, v3⟩ := hS.vd
  have h59 := hZ.n
  obtain ⟨⟨⟨⟨-, a1⟩, a2, a3⟩, -⟩, RW, RS, ⟨r1, -⟩, -, ⟨r2, -⟩, -, r5, r6⟩ := hZ
  have r1 : s.1 0 38 55 = nI RW.length := r1
  have r2 : RW.length = tot D := r2.trans n2
  have tz : ∀ u x, (dT D)[u]? = some x → ∀ k, k < 16 → s.1 0 43 (16 * u + k) = nI (tbE x k) := fun u x hx k hk => (a3 u x hx).1 k hk
  have hwd := c5.2.2.2.2
  refine ⟨⟨v1, v2, v3, n9, n1, by show (trS D).length ≤ 400; omega, k1, by show max (mx (dW D)) (mx (dSt D)) + D.2.1.1 ≤ 20; omega⟩, c1, fun j hj => ?_, ⟨a2, by rw [r1, r2]; rfl, h59, r5, r6⟩, ⟨hl, c2, z2, fun i hi => ?_⟩, fun i hi => ?_, fun t i ht hi => ?_, ⟨hwd.1, hwd.2.trans (mk_64 n5)⟩, fun i hi => ⟨(hw i hi).1.2, (hw i hi).1.1⟩⟩
  · rcases (by omega : j = 0 ∨ j = 1 ∨ j = 2) with e | e | e <;> subst e
    · exact (a1 0 _ rfl).1
    · exact (a1 1 _ rfl).1
    · exact (a1 2 _ rfl).1
  · have hx : Pr[i]? = some Pr[i] := List.getElem?_eq_getElem hi
    rw [c3 i _ hx, z3 i _ hx]
  · have hi : i < 16 * (dT D).length := hi
    have hx : (dT D)[i / 16]? = some ((dT D)[i / 16]'(by omega)) := List.getElem?_eq_getElem (by omega)
    have e1 := (c4 _ _ hx (i % 16) (by omega)).1
    have e2 := tz _ _ hx (i % 16) (by omega)
    rw [show i / 16 * 16 + i % 16 = i by omega] at e1
    rw [show 16 * (i / 16) + i % 16 = i by omega] at e2
    rw [e1, e2]
  · have ht : t < (dT D).length := ht
    have hx : (dT D)[t]? = some ((dT D)[t]) := List.getElem?_eq_getElem ht
    rw [show 16 * t + i = t * 16 + i by omega, (c4 _ _ hx i hi).2]
    exact bkL_cg 16 _ (fun k hk => (tz _ _ hx k hk).symm)
end
