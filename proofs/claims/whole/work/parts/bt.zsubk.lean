/-! PURE: the subkeys, the reference's -/
section
variable {D : Ds} {A K : Nat → Int64}
theorem MZ.keep {s s' : ax_σ} {Q : Nat → Nat → Nat → Prop} (h : MZ D s) (hf : frm Q s s') (hq : ∀ g r k, Q g r k → (g = 0 ∧ (r ≤ 37 ∨ 74 ≤ r ∨ (r = 38 ∧ k = 0)))) : MZ D s' := by
  obtain ⟨h1, RW, RS, ⟨a1, a2⟩, ⟨b1, b2⟩, c1, c2, d1, d2⟩ := h
  have q : ∀ r k, 41 ≤ r ∧ r ≤ 73 → ¬ Q 0 r k := fun r k hr hQ => by have := hq _ _ _ hQ; omega
  have q2 : ∀ k, 0 < k → ¬ Q 0 38 k := fun k hk hQ => by have := hq _ _ _ hQ; omega
  refine ⟨h1.keep hf (fun r k hx hQ => ?_), RW, RS, ⟨(hf.1 _ _ _ (q2 _ (by decide))).trans a1, fun p x hp hl => ?_⟩, ⟨(hf.1 _ _ _ (q2 _ (by decide))).trans b1, fun p x hp hl => ?_⟩, c1, c2, (hf.1 _ _ _ (q2 _ (by omega))).trans d1, (hf.1 _ _ _ (q2 _ (by omega))).trans d2⟩
  · have := hq _ _ _ hQ
    unfold XX at hx
    omega
  · obtain ⟨z1, z2, z3⟩ := a2 p x hp hl
    exact ⟨(hf.1 _ _ _ (q _ _ (by decide))).trans z1, (hf.1 _ _ _ (q _ _ (by decide))).trans z2, (hf.1 _ _ _ (q _ _ (by decide))).trans z3⟩
  · obtain ⟨z1, z2, z3⟩ := b2 p x hp hl
    exact ⟨(hf.1 _ _ _ (q _ _ (by decide))).trans z1, (hf.1 _ _ _ (q _ _ (by decide))).trans z2, (hf.1 _ _ _ (q _ _ (by decide))).trans z3⟩
theorem ZX.zv {s : ax_σ} {k : Nat} {t : Th} (h : ZX D s) (hB : DB D) (hk : (dH D)[k]? = some t) : ZtC k t s := by
  refine ⟨by have := get_lt hk; have := hB.1; omega, oOff (dH D) k, rOff (dH D) k, h.2.2.1 k t hk, ?_, ?_, fun q x hq => ?_, fun q x hq => ?_⟩
  · have := fm_len2 (f := the) hk
    have := hB.2.1
    unfold oOff
    omega
  · have := fm_len2 (f := thn) hk
    have := hB.2.2.2
    unfold rOff
    omega
  · obtain ⟨t0, y1, y2, y3, y4⟩ := h.op hB hk hq
    exact ⟨t0, y1, y3, y4⟩
  · have e := fm_get (f := thn) hk (get_lt hq)
    exact (h.2.1.2.2.2 _ _ (e.trans hq)).1
def X81 (g r k : Nat) : Prop := g = 0 ∧ (r = 81 ∨ r = 74 ∨ r = 75)
theorem zs_loop {F : Nat} (hF : 241 ≤ F) (h : SD D) (hA : ∀ k, k < 4 → bW D.1.1 (A k)) (hK : ∀ k, k < 4 → bW D.1.1 (K k)) : ∀ (m p n : Nat) (s : ax_σ), p + m = tot D → m < n → MZ D s → (∀ k, k < 4 → s.2 0 80 k = A k) → (∀ k, k < 4 → s.2 0 79 k = K k) → (∀ k, k < p → s.2 0 81 k = skS D D.1.1 A K p k) → ∃ s', lp_Z_makeSubkeys_2 F n (nI p) s = some s' ∧ (∀ k, k < tot D → s'.2 0 81 k = skS D D.1.1 A K (tot D) k) ∧ frm X81 s s'
  | _, _, 0, _, _, h, _, _, _, _ => absurd h (Nat.not_lt_zero _)
  | 0, p, n + 1, s, e, _, hM, _, _, hS => by
    obtain ⟨n1, n2, -⟩ := h.nums
    obtain ⟨-, RW, RS, ⟨r1, -⟩, -, ⟨r2, -⟩, -⟩ := hM
    have r1 : s.1 0 38 55 = nI RW.length := r1
    have r2 : RW.length = tot D := r2.trans n2
    rw [Nat.add_zero] at e
    refine ⟨s, ?_, by rw [← e]; exact hS, frm.refl⟩
    rw [lp_Z_makeSubkeys_2, r1, if_pos (by rw [nI_leI (by omega) (by omega)]; omega)]
  | m + 1, p, n + 1, s, e, hn, hM, hAs, hKs, hS => by
    obtain ⟨n1, n2, n3, -, n5, n6, n7, n8, -⟩ := h.nums
    have hZ := hM.1
    have hw := hM.w
    obtain ⟨-, RW, RS, ⟨r1, r3⟩, -, ⟨r2, r4⟩, -⟩ := id hM
    have r1 : s.1 0 38 55 = nI RW.length := r1
    have r2 : RW.length = tot D := r2.trans n2
    have he : (trW D)[p]? = some (trW D)[p] := List.getElem?_eq_getElem (by omega)
    generalize (trW D)[p] = ee at he
    have hx : RW[p]? = some (RW[p]'(by omega)) := List.getElem?_eq_getElem (by omega)
    generalize RW[p]'(by omega) = x at hx
    obtain ⟨x1, x2, x3, x4, x5⟩ := r4 p x ee hx he
    obtain ⟨y1, y2, y3⟩ := r3 p x hx (by show p < 32; omega)
    have y1 : s.1 0 68 p = nI x.1 := y1
    have y2 : s.1 0 69 p = nI x.2.1 := y2
    have y3 : s.1 0 70 p = nI x.2.2 := y3
    obtain ⟨t, pb, sk, a1, a2, a3, a4, a5, a6, a7, a8⟩ := h.wr he
    have hE : evF D.1.1 p ee.2.2.2.2 ee.2.2.1 ee.2.2.2.1 (D.1.1, A, K, fun k => s.2 0 81 k, x.2.1, x.2.2) := ⟨rfl, x2, x3, x4, x5, hA, hK, fun k hk => by
      show bW D.1.1 (s.2 0 81 k)
      rw [hS k hk]
      exact sk_bW h hA hK p (by omega) k hk⟩
    have hE' : evF D.1.1 p ee.2.2.2.2 ee.2.2.1 ee.2.2.2.1 (D.1.1, A, K, skS D D.1.1 A K p, ee.2.2.1, ee.2.2.2.1) := ⟨rfl, fun _ => rfl, fun _ => rfl, by show ee.2.2.1 ≤ 16; omega, by show ee.2.2.2.1 ≤ 16; omega, hA, hK, fun k hk => sk_bW h hA hK p (by omega) k hk⟩
    have hex := ex_eq a6 hE hE' (by omega) n7 (fun _ _ => rfl) (fun _ _ => rfl) hS
    obtain ⟨hth, oo, rr, z1, z2, -, z3, -⟩ := hZ.zv n8 a1
    obtain ⟨w1, w2⟩ := z1.2.2.2.2.2.1 (Or.inl a2)
    obtain ⟨s1, v1, v2⟩ := z_value (F := F) (th := ee.1) (p := oo) (E := (D.1.1, A, K, fun k => s.2 0 81 k, x.2.1, x.2.2)) (e := the t) (s := s) hF n5 x4 x5 hth a5 (fun o ho => gd_of n5 (a6 o ho) hE (by omega) n7 (by omega)) z2 w1 w2 z3 hw hAs hKs (fun _ _ => rfl)
    have v1 : f_Z_valueOf F (nI ee.1) (nI x.2.1) (nI x.2.2) s = some (exV (D.1.1, A, K, fun k => s.2 0 81 k, x.2.1, x.2.2) (the t), s1) := v1
    rw [hex, ← x1] at v1
    have f1 : frm X81 s (ax_wL s1 0 81 p (exV (D.1.1, A, K, skS D D.1.1 A K p, ee.2.2.1, ee.2.2.2.1) (the t))) := (v2.imp (fun g r k h => ⟨h.1, Or.inr h.2⟩)).wL 0 81 _ _ ⟨rfl, Or.inl rfl⟩
    obtain ⟨s', b1, b2, b3⟩ := zs_loop hF h hA hK m (p + 1) n _ (by omega) (by omega) (hM.keep f1 (fun g' r k hQ => by unfold X81 at hQ; omega)) (fun k hk => (f1.2 _ _ _ (by unfold X81; omega)).trans (hAs k hk)) (fun k hk => (f1.2 _ _ _ (by unfold X81; omega)).trans (hKs k hk)) (fun k hk => by
      rw [skS_s he, opsAt_t a1, wL_2]
      unfold upL
      by_cases hkp : k = p
      · rw [if_pos ⟨rfl, rfl, hkp⟩, if_pos hkp]
      · rw [if_neg (fun e => hkp e.2.2), if_neg hkp, v2.2 _ _ _ (by omega)]
        exact hS k (by omega))
    refine ⟨s', ?_, b2, f1.trans b3⟩
    rw [lp_Z_makeSubkeys_2, r1, if_neg (by rw [nI_leI (by omega) (by omega)]; omega), pu_in (by omega : p < 32) (by omega), cond_true, cond_true, cond_true, nI_clamp (by omega), y1, y2, y3, v1, Option.bind_some]
    simp only [ax_let]
    rw [cond_true, c_1, nI_add, b1]
theorem z_subk {F : Nat} {s : ax_σ} (hF : 241 ≤ F) (h : SD D) (hA : ∀ k, k < 4 → bW D.1.1 (A k)) (hK : ∀ k, k < 4 → bW D.1.1 (K k)) (hM : MZ D s) (hAs : ∀ k, k < 4 → s.2 0 80 k = A k) (hKs : ∀ k, k < 4 → s.2 0 79 k = K k) : ∃ s', f_Z_makeSubkeys F s = some s' ∧ (∀ k, k < tot D → s'.2 0 81 k = skS D D.1.1 A K (tot D) k) ∧ frm X81 s s' := by
  obtain ⟨n1, -⟩ := h.nums
  obtain ⟨s', a1, a2, a3⟩ := zs_loop hF h hA hK (tot D) 0 F s (by omega) (by omega) hM hAs hKs (fun k hk => absurd hk (Nat.not_lt_zero _))
  refine ⟨s', ?_, a2, a3⟩
  have a1 : lp_Z_makeSubkeys_2 F F (0 : Int32) s = some s' := a1
  unfold f_Z_makeSubkeys
  rw [a1]
  rfl
end
