/-! PURE: the program is taken -/
section
variable {F n : Nat} {f : Nat → Nat} {s : ax_σ}
theorem z103 {x2 : Int32} (hn : n ≤ 240) : ∀ (m q M : Nat) (s : ax_σ), q + m = n → m < M → s.1 0 38 2 = nI n → ∃ s', lp_Z_compile_103 F x2 M (nI q) s = some s' ∧ (∀ k, q ≤ k → k < n → s'.1 0 40 k = s.1 0 39 k) ∧ frm (fun g r k => g = 0 ∧ r = 40 ∧ q ≤ k) s s'
  | _, _, 0, _, _, h, _ => absurd h (Nat.not_lt_zero _)
  | 0, q, M + 1, s, e, _, h2 => by
    refine ⟨s, ?_, fun k h1 h3 => by omega, frm.refl⟩
    rw [lp_Z_compile_103, h2, if_pos (by rw [nI_leI (by omega) (by omega)]; omega)]
  | m + 1, q, M + 1, s, e, hm, h2 => by
    obtain ⟨s', b1, b2, b3⟩ := z103 (x2 := x2) hn m (q + 1) M (ax_wI s 0 40 q (s.1 0 39 q)) (by omega) (by omega) (by rw [wI_1, if_neg (by omega)]; exact h2)
    have f0 : frm (fun g r k => g = 0 ∧ r = 40 ∧ q ≤ k) s (ax_wI s 0 40 q (s.1 0 39 q)) := frm.refl.wI _ _ _ _ (by omega)
    refine ⟨s', ?_, fun k h1 h3 => ?_, f0.trans (b3.imp (fun g r k h => by omega))⟩
    · rw [lp_Z_compile_103, h2, if_neg (by rw [nI_leI (by omega) (by omega)]; omega), pu_in (by omega : q < 240) (by omega), cond_true, cond_true, nI_clamp (by omega)]
      simp only [ax_let]
      rw [c_1, nI_add, b1]
    · by_cases hk : k = q
      · rw [hk, b3.1 _ _ _ (by omega), wI_1, if_pos ⟨rfl, rfl, rfl⟩]
      · rw [b2 k (by omega) h3, wI_1, if_neg (by omega)]
theorem z131 {x2 : Int32} : ∀ (m q M : Nat) (s : ax_σ), q + m = 4 → m < M → ∃ s', lp_Z_compile_131 F x2 M (nI q) s = some s' ∧ (∀ k, q ≤ k → k < 4 → s'.2 0 79 k = 0 ∧ s'.2 0 80 k = 0) ∧ frm (fun g r k => g = 0 ∧ (r = 79 ∨ r = 80) ∧ q ≤ k) s s'
  | _, _, 0, _, _, h => absurd h (Nat.not_lt_zero _)
  | 0, q, M + 1, s, e, _ => by
    refine ⟨s, ?_, fun k h1 h3 => by omega, frm.refl⟩
    rw [lp_Z_compile_131, if_pos (by rw [c_4, nI_leI (by omega) (by omega)]; omega)]
  | m + 1, q, M + 1, s, e, hm => by
    obtain ⟨s', b1, b2, b3⟩ := z131 (x2 := x2) m (q + 1) M (ax_wL (ax_wL s 0 79 q (0 : Int64)) 0 80 q (0 : Int64)) (by omega) (by omega)
    have f0 : frm (fun g r k => g = 0 ∧ (r = 79 ∨ r = 80) ∧ q ≤ k) s (ax_wL (ax_wL s 0 79 q (0 : Int64)) 0 80 q (0 : Int64)) := (frm.refl.wL _ _ _ _ (by omega)).wL _ _ _ _ (by omega)
    refine ⟨s', ?_, fun k h1 h3 => ?_, f0.trans (b3.imp (fun g r k h => by omega))⟩
    · rw [lp_Z_compile_131, if_neg (by rw [c_4, nI_leI (by omega) (by omega)]; omega), pu_in (by omega : q < 4) (by omega), cond_true, nI_clamp (by omega)]
      simp only [ax_let]
      rw [cond_true, c_1, nI_add, b1]
    · by_cases hk : k = q
      · rw [hk, b3.2 _ _ _ (by omega), b3.2 _ _ _ (by omega)]
        refine ⟨?_, ?_⟩
        · rw [wL_2, if_neg (by omega), wL_2, if_pos ⟨rfl, rfl, rfl⟩]
        · rw [wL_2, if_pos ⟨rfl, rfl, rfl⟩]
      · exact b2 k (by omega) h3
def XSu (g r k : Nat) : Prop := g = 0 ∧ (r = 40 ∨ r = 79 ∨ r = 80 ∨ (r = 38 ∧ (k = 4 ∨ k = 5 ∨ k = 6)))
theorem zc2_ok (hF : 300 ≤ F) (h53 : s.1 0 38 53 = nI 0) (h2 : s.1 0 38 2 = nI n) (htx : ztx 39 n f s) : ∃ s', zc2 F s = some (nI 0, s') ∧ s'.1 0 38 6 = -1 ∧ s'.1 0 38 5 = 1 ∧ s'.1 0 38 4 = nI n ∧ ztx 40 n f s' ∧ (∀ k, k < 4 → s'.2 0 79 k = 0 ∧ s'.2 0 80 k = 0) ∧ frm XSu s s' := by
  have f3 : frm XSu s (ax_wI (ax_wI (ax_wI s 0 38 6 (-1 : Int32)) 0 38 5 (1 : Int32)) 0 38 4 (nI n)) := ((frm.refl.wI _ _ _ _ (by unfold XSu; omega)).wI _ _ _ _ (by unfold XSu; omega)).wI _ _ _ _ (by unfold XSu; omega)
  obtain ⟨s4, b1, b2, b3⟩ := z103 (F := F) (x2 := nI 0) htx.1 n 0 F (ax_wI (ax_wI (ax_wI s 0 38 6 (-1 : Int32)) 0 38 5 (1 : Int32)) 0 38 4 (nI n)) (by omega) (by have := htx.1; omega) ((f3.1 _ _ _ (by unfold XSu; omega)).trans h2)
  obtain ⟨s5, c1, c2, c3⟩ := z131 (F := F) (x2 := nI 0) 4 0 F s4 (by omega) (by omega)
  have e : ∀ k, k ≠ 0 → s5.1 0 38 k = (ax_wI (ax_wI (ax_wI s 0 38 6 (-1 : Int32)) 0 38 5 (1 : Int32)) 0 38 4 (nI n)).1 0 38 k := fun k _ => (c3.1 _ _ _ (by omega)).trans (b3.1 _ _ _ (by omega))
  refine ⟨s5, ?_, ?_, ?_, ?_, ⟨htx.1, Or.inr rfl, fun k hk => ⟨(htx.2.2 k hk).1, ?_⟩⟩, fun k hk => c2 k (by omega) hk, (f3.trans (b3.imp (fun g r k h => by unfold XSu; omega))).trans (c3.imp (fun g r k h => by unfold XSu; omega))⟩
  · have h2' : (ax_wI (ax_wI s 0 38 6 (-1 : Int32)) 0 38 5 (1 : Int32)).1 0 38 2 = nI n := by rw [wI_1, if_neg (by omega), wI_1, if_neg (by omega)]; exact h2
    have b1 : lp_Z_compile_103 F (nI 0) F (0 : Int32) (ax_wI (ax_wI (ax_wI s 0 38 6 (-1 : Int32)) 0 38 5 (1 : Int32)) 0 38 4 (nI n)) = some s4 := b1
    have c1 : lp_Z_compile_131 F (nI 0) F (0 : Int32) s4 = some s5 := c1
    unfold zc2
    simp only [ax_let]
    rw [h53, if_pos (show nI 0 = (0 : Int32) from rfl)]
    simp only [Option.bind_some, cond_true]
    rw [if_pos (show nI 0 = (0 : Int32) from rfl), h2', b1, Option.bind_some, c1]
    rfl
  · rw [e 6 (by omega), wI_1, if_neg (by omega), wI_1, if_neg (by omega), wI_1, if_pos ⟨rfl, rfl, rfl⟩]
  · rw [e 5 (by omega), wI_1, if_neg (by omega), wI_1, if_pos ⟨rfl, rfl, rfl⟩]
  · rw [e 4 (by omega), wI_1, if_pos ⟨rfl, rfl, rfl⟩]
  · rw [c3.1 _ _ _ (by omega), b2 k (by omega) hk, f3.1 _ _ _ (by unfold XSu; omega)]
    exact (htx.2.2 k hk).2
theorem ml48 {g : Nat} : ∀ (m q M : Nat) (s : ax_σ), q + m = 4 → m < M → ∃ s', lp_M_load_48 F g M (nI q) s = some s' ∧ (∀ k, q ≤ k → k < 4 → s'.2 0 33 k = 0) ∧ frm (fun g r k => g = 0 ∧ r = 33 ∧ q ≤ k) s s'
  | _, _, 0, _, _, h => absurd h (Nat.not_lt_zero _)
  | 0, q, M + 1, s, e, _ => by
    refine ⟨s, ?_, fun k h1 h3 => by omega, frm.refl⟩
    rw [lp_M_load_48, if_pos (by rw [c_4, nI_leI (by omega) (by omega)]; omega)]
  | m + 1, q, M + 1, s, e, hm => by
    obtain ⟨s', b1, b2, b3⟩ := ml48 (g := g) m (q + 1) M (ax_wL s 0 33 q (0 : Int64)) (by omega) (by omega)
    have f0 : frm (fun g r k => g = 0 ∧ r = 33 ∧ q ≤ k) s (ax_wL s 0 33 q (0 : Int64)) := frm.refl.wL _ _ _ _ (by omega)
    refine ⟨s', ?_, fun k h1 h3 => ?_, f0.trans (b3.imp (fun g r k h => by omega))⟩
    · rw [lp_M_load_48, if_neg (by rw [c_4, nI_leI (by omega) (by omega)]; omega), pu_in (by omega : q < 4) (by omega), cond_true, nI_clamp (by omega)]
      simp only [ax_let]
      rw [c_1, nI_add, b1]
    · by_cases hk : k = q
      · rw [hk, b3.2 _ _ _ (by omega), wL_2, if_pos ⟨rfl, rfl, rfl⟩]
      · exact b2 k (by omega) h3
theorem ml68 {g : Nat} : ∀ (m q M : Nat) (s : ax_σ), q + m = 4 → m < M → ∃ s', lp_M_load_68 F g M (nI q) s = some s' ∧ (∀ k, q ≤ k → k < 4 → s'.2 0 34 k = 0) ∧ frm (fun g r k => g = 0 ∧ r = 34 ∧ q ≤ k) s s'
  | _, _, 0, _, _, h => absurd h (Nat.not_lt_zero _)
  | 0, q, M + 1, s, e, _ => by
    refine ⟨s, ?_, fun k h1 h3 => by omega, frm.refl⟩
    rw [lp_M_load_68, if_pos (by rw [c_4, nI_leI (by omega) (by omega)]; omega)]
  | m + 1, q, M + 1, s, e, hm => by
    obtain ⟨s', b1, b2, b3⟩ := ml68 (g := g) m (q + 1) M (ax_wL s 0 34 q (0 : Int64)) (by omega) (by omega)
    have f0 : frm (fun g r k => g = 0 ∧ r = 34 ∧ q ≤ k) s (ax_wL s 0 34 q (0 : Int64)) := frm.refl.wL _ _ _ _ (by omega)
    refine ⟨s', ?_, fun k h1 h3 => ?_, f0.trans (b3.imp (fun g r k h => by omega))⟩
    · rw [lp_M_load_68, if_neg (by rw [c_4, nI_leI (by omega) (by omega)]; omega), pu_in (by omega : q < 4) (by omega), cond_true, nI_clamp (by omega)]
      simp only [ax_let]
      rw [c_1, nI_add, b1]
    · by_cases hk : k = q
      · rw [hk, b3.2 _ _ _ (by omega), wL_2, if_pos ⟨rfl, rfl, rfl⟩]
      · exact b2 k (by omega) h3
theorem mk_ld {w : Nat} (h : okW w) : (((-1 : Int64)).toUInt64 >>> ((((64 : Int32) - (nI w))).toInt64.toUInt64 &&& Int64.toUInt64 63)).toInt64 = mkW w := by
  rcases h with h | h | h | h <;> subst h <;> decide +kernel
def XLd (g r k : Nat) : Prop := g = 0 ∧ ((r = 32 ∧ (k = 7 ∨ k = 8)) ∨ r = 33 ∨ r = 34)
theorem m_load {w g : Nat} (hF : 9 ≤ F) (hW : okW w) (h : s.1 g 1 0 = nI w) : ∃ s', f_M_load F g s = some s' ∧ MW w s' ∧ (∀ k, k < 4 → s'.2 0 33 k = 0 ∧ s'.2 0 34 k = 0) ∧ frm XLd s s' := by
  have f0 : frm XLd s (ax_wL (ax_wI s 0 32 7 (nI w)) 0 32 8 (mkW w)) := (frm.refl.wI _ _ _ _ (by unfold XLd; omega)).wL _ _ _ _ (by unfold XLd; omega)
  obtain ⟨s4, b1, b2, b3⟩ := ml48 (F := F) (g := g) 4 0 F (ax_wL (ax_wI s 0 32 7 (nI w)) 0 32 8 (mkW w)) (by omega) (by omega)
  obtain ⟨s5, c1, c2, c3⟩ := ml68 (F := F) (g := g) 4 0 F s4 (by omega) (by omega)
  refine ⟨s5, ?_, ⟨?_, ?_⟩, fun k hk => ⟨?_, c2 k (by omega) hk⟩, (f0.trans (b3.imp (fun g r k h => by unfold XLd; omega))).trans (c3.imp (fun g r k h => by unfold XLd; omega))⟩
  · have h' : s.1 g 1 ((0 : Int32)).toNatClampNeg = nI w := h
    have b1 : lp_M_load_48 F g F (0 : Int32) (ax_wL (ax_wI s 0 32 7 (nI w)) 0 32 8 (mkW w)) = some s4 := b1
    have c1 : lp_M_load_68 F g F (0 : Int32) s4 = some s5 := c1
    unfold f_M_load
    simp only [ax_let]
    rw [h', show (ax_wI s 0 32 7 (nI w)).1 0 32 7 = nI w from (by rw [wI_1, if_pos ⟨rfl, rfl, rfl⟩]), mk_ld hW, b1, Option.bind_some, c1]
    rfl
  · rw [c3.1 _ _ _ (by omega), b3.1 _ _ _ (by omega), wL_1, wI_1, if_pos ⟨rfl, rfl, rfl⟩]
  · rw [c3.2 _ _ _ (by omega), b3.2 _ _ _ (by omega), wL_2, if_pos ⟨rfl, rfl, rfl⟩]
  · rw [c3.2 _ _ _ (by omega)]
    exact b2 k (by omega) hk
end
