/-! PURE: decrypt, apply, subkey -/
section
variable {g : Nat} {s : ax_σ}
theorem iv_decrypt_1 (h : pr_I I0x (some g) s) : ∃ F r s1, f_X_decrypt F g s = some (r, s1) ∧ (∃ F2, pr_Z (pr_I I0x) (some g) 0 (f_Z_decrypt F2 (pr_o s1 (r.toInt64)))) := by
  obtain ⟨D, Pr, n, f, hR⟩ := iv_I h
  obtain ⟨n1, n2, n3, -⟩ := hR.2.1.nums
  have c1 := hR.2.2.1.1
  obtain ⟨s3, v1, v2, v3⟩ := x_go (F := 500) (a := (trS D).length) (b := 0) (by omega) hR (by omega) (by omega)
  have e5 : s.1 g 1 ((5 : Int32)).toNatClampNeg = nI (trS D).length := c1 5 (by omega)
  have e6 : s3.1 g 1 ((6 : Int32)).toNatClampNeg = nI (vN D 6) := (v3.1 _ _ _ (by unfold XRm; omega)).trans (c1 6 (by omega))
  have v1 : f_M_go 500 g (nI (trS D).length) (0 : Int32) s = some s3 := v1
  refine ⟨500, nI (vN D 6), s3, ?_, 500, ?_⟩
  · unfold f_X_decrypt f_X_needProgram
    rw [e5]
    simp only [Option.bind_some]
    rw [show ax_in (5 : Int32) 8 = true from rfl, cond_true, v1, Option.bind_some, e6]
    rfl
  · have hf := XRt.m v3 ((nI (vN D 6)).toInt64) 0
    obtain ⟨s4, w1, w2, w3, w4⟩ := z_after (F := 500) (by omega) hR hf (fun k => v3.2 _ _ _ (by unfold XRm; omega))
    obtain ⟨s9, x1, x2, x3⟩ := z_b36 (F := 500) (by omega) hR.2.1 hR.en.1 (trS D).length 500 s4 _ (sk_ok hR.2.1 hR.ab.1 hR.ab.2) (by omega) (by omega) w2 w3
    have h59 : s4.1 0 38 59 = nI (trS D).length := w2.1.n
    have f9 : frm XRz (ax_wI (pr_o s3 ((nI (vN D 6)).toInt64)) 0 38 0 0) s9 := w4.trans (x3.imp (fun g r k hQ => by unfold XZs at hQ; unfold XRz; omega))
    have fT : frm XRt s s9 := hf.trans (f9.imp (fun g r k hQ => by unfold XRz at hQ; unfold XRt; omega))
    have e63 : s9.1 0 38 63 = nI (vN D 6) := by
      obtain ⟨-, RW, RS, -, -, -, -, r5, -⟩ := (hR.2.2.2.1.keep fT (fun g' r k hQ => by unfold XRt at hQ; unfold AZ; omega)).1
      exact r5
    have hgo : ∀ k, k < 4 → s9.2 0 80 k = goW D (enS s) (s.2 0 33) (s.2 0 34) (trS D).length 0 k := by
      intro k hk
      rw [x2 k hk]
      unfold goW
      rw [Nat.zero_sub, Nat.sub_zero]
      rfl
    refine ⟨nI (vN D 6), s9, ?_, ?_, fun _ => ?_, run_end h hR fT (w_after hR v2 v3 hgo (fun r k hr => (f9.2 0 r k (by unfold XRz; omega)).trans (by rw [wI_2, pr_o_2 s3 _ (by omega)])))⟩
    · unfold f_Z_decrypt
      have hh : ¬ (pr_o s3 ((nI (vN D 6)).toInt64)).1 0 38 5 = 0 := by
        show ¬ s3.1 0 38 5 = 0
        rw [v3.1 _ _ _ (by unfold XRm; omega)]
        exact iv_has h
      rw [if_neg hh]
      simp only [ax_let, Option.bind_some]
      rw [iv_sp, if_pos (by decide), w1, Option.bind_some, h59, x1, Option.bind_some, e63]
    · unfold f_Z_thrown
      rw [f9.1 _ _ _ (by unfold XRz; omega), iv_sp]
    · rw [f9.2 _ _ _ (by unfold XRz; omega)]
      rfl
theorem iv_apply_1 (a1 a2 : Int32) (h : pr_I I0x (some g) s) : ((a1 < 0 ∨ s.1 g 1 ((5 : Int32)).toNatClampNeg < a1 ∨ a2 < 0 ∨ s.1 g 1 ((5 : Int32)).toNatClampNeg < a2) ∧ (∃ F2, pr_Z (pr_I I0x) (some g) 2 (f_Z_apply F2 a1 a2 s))) ∨ (∃ F r s1, f_X_apply F g a1 a2 s = some (r, s1) ∧ (∃ F2, pr_Z (pr_I I0x) (some g) 0 (f_Z_apply F2 a1 a2 (pr_o s1 (r.toInt64))))) := by
  obtain ⟨D, Pr, n, f, hR⟩ := iv_I h
  obtain ⟨n1, n2, n3, -⟩ := hR.2.1.nums
  have c1 := hR.2.2.1.1
  have e5 : s.1 g 1 ((5 : Int32)).toNatClampNeg = nI (trS D).length := c1 5 (by omega)
  have h59 := hR.2.2.2.1.1.n
  have bad : (a1 < 0 ∨ nI (trS D).length < a1 ∨ a2 < 0 ∨ ¬ a2 ≤ nI (trS D).length) → pr_Z (pr_I I0x) (some g) 2 (f_Z_apply 500 a1 a2 s) := by
    intro hb
    refine ⟨0, ax_wI s 0 38 0 2, ?_, iv_thrown 2, fun e => absurd e (by decide), h.th 2⟩
    unfold f_Z_apply
    rw [if_neg (iv_has h), h59]
    have : (if a1 < (0 : Int32) then some true else if nI (trS D).length < a1 then some true else if a2 < (0 : Int32) then some true else if a2 ≤ nI (trS D).length then some false else some true) = some true := by
      by_cases b1 : a1 < 0
      · rw [if_pos b1]
      · rw [if_neg b1]
        by_cases b2 : nI (trS D).length < a1
        · rw [if_pos b2]
        · rw [if_neg b2]
          by_cases b3 : a2 < 0
          · rw [if_pos b3]
          · rw [if_neg b3, if_neg]
            rcases hb with hb | hb | hb | hb
            · exact absurd hb b1
            · exact absurd hb b2
            · exact absurd hb b3
            · exact hb
    rw [this]
    simp only [ax_let, Option.bind_some, cond_true]
    rw [iv_sp, if_neg (by decide)]
  by_cases b1 : a1 < 0
  · exact Or.inl ⟨Or.inl b1, 500, bad (Or.inl b1)⟩
  by_cases b2 : nI (trS D).length < a1
  · exact Or.inl ⟨Or.inr (Or.inl (by rw [e5]; exact b2)), 500, bad (Or.inr (Or.inl b2))⟩
  by_cases b3 : a2 < 0
  · exact Or.inl ⟨Or.inr (Or.inr (Or.inl b3)), 500, bad (Or.inr (Or.inr (Or.inl b3)))⟩
  by_cases b4 : nI (trS D).length < a2
  · exact Or.inl ⟨Or.inr (Or.inr (Or.inr (by rw [e5]; exact b4))), 500, bad (Or.inr (Or.inr (Or.inr (fun hh => absurd b4 (Int32.not_lt.mpr hh)))))⟩
  obtain ⟨a, ha, rfl⟩ := nI_of b1
  obtain ⟨b, hb, rfl⟩ := nI_of b3
  have la : a ≤ (trS D).length := by rw [nI_ltI (by omega) ha] at b2; omega
  have lb : b ≤ (trS D).length := by rw [nI_ltI (by omega) hb] at b4; omega
  have b5 : nI b ≤ nI (trS D).length := by rw [nI_leI (by omega) (by omega)]; exact lb
  obtain ⟨s3, v1, v2, v3⟩ := x_go (F := 500) (a := a) (b := b) (by omega) hR la lb
  refine Or.inr ⟨500, (if nI b ≤ nI a then nI a - nI b else nI b - nI a), s3, ?_, 500, ?_⟩
  · unfold f_X_apply f_X_needProgram
    rw [e5]
    simp only [Option.bind_some]
    rw [show ax_in (5 : Int32) 8 = true from rfl, cond_true, if_neg b1, if_neg b2, if_neg b3, if_pos b5, Option.bind_some, cond_false, v1, Option.bind_some]
    by_cases hh : nI b ≤ nI a
    · rw [if_pos hh, if_pos hh]
    · rw [if_neg hh, if_neg hh]
  · generalize hr : (if nI b ≤ nI a then nI a - nI b else nI b - nI a) = r
    have hf := XRt.m v3 (r.toInt64) 0
    obtain ⟨s4, w1, w2, w3, w4⟩ := z_after (F := 500) (by omega) hR hf (fun k => v3.2 _ _ _ (by unfold XRm; omega))
    obtain ⟨s5, y1, y2, y3⟩ := z_f59 (F := 500) (b := b) (a1 := nI a) (by omega) hR.2.1 hR.en.1 (b - a) a 500 s4 _ (sk_ok hR.2.1 hR.ab.1 hR.ab.2) (by omega) (by omega) (by omega) w2 w3
    obtain ⟨s9, x1, x2, x3⟩ := z_b80 (F := 500) (b := b) (a1 := nI a) (by omega) hR.2.1 hR.en.1 (a - b) a 500 s5 _ (rnF_ok hR.2.1 hR.en.1 _ _ _ (sk_ok hR.2.1 hR.ab.1 hR.ab.2)) (by omega) (by omega) (by omega) (by omega) (w2.keep y3) y2
    have f9 : frm XRz (ax_wI (pr_o s3 (r.toInt64)) 0 38 0 0) s9 := w4.trans ((y3.trans x3).imp (fun g r k hQ => by unfold XZs at hQ; unfold XRz; omega))
    have fT : frm XRt s s9 := hf.trans (f9.imp (fun g r k hQ => by unfold XRz at hQ; unfold XRt; omega))
    refine ⟨r, s9, ?_, ?_, fun _ => ?_, run_end h hR fT (w_after hR v2 v3 x2 (fun r' k hr => (f9.2 0 r' k (by unfold XRz; omega)).trans (by rw [wI_2, pr_o_2 s3 _ (by omega)])))⟩
    · unfold f_Z_apply
      have hh : ¬ (pr_o s3 (r.toInt64)).1 0 38 5 = 0 := by
        show ¬ s3.1 0 38 5 = 0
        rw [v3.1 _ _ _ (by unfold XRm; omega)]
        exact iv_has h
      have h59' : (pr_o s3 (r.toInt64)).1 0 38 59 = nI (trS D).length := by
        show s3.1 0 38 59 = _
        rw [v3.1 _ _ _ (by unfold XRm; omega)]
        exact h59
      rw [if_neg hh, h59', if_neg b1, if_neg b2, if_neg b3, if_pos b5]
      simp only [ax_let, Option.bind_some, cond_false]
      rw [iv_sp, if_pos (by decide), w1, Option.bind_some, y1, Option.bind_some, x1, Option.bind_some, ← hr]
      by_cases hh : nI b ≤ nI a
      · rw [if_pos hh, if_pos hh]
      · rw [if_neg hh, if_neg hh]
    · unfold f_Z_thrown
      rw [f9.1 _ _ _ (by unfold XRz; omega), iv_sp]
    · rw [f9.2 _ _ _ (by unfold XRz; omega)]
      rfl
theorem iv_subkey_1 (a1 : Int32) (h : pr_I I0x (some g) s) : (f_X_needIndex a1 (s.1 g 1 ((4 : Int32)).toNatClampNeg) = none ∧ (∃ F2, pr_ZL (pr_I I0x) (some g) 2 (f_Z_subkey F2 a1 s))) ∨ (∃ F r s1, f_X_subkey F g a1 s = some (r, s1) ∧ (∃ F2, pr_ZL (pr_I I0x) (some g) 0 (f_Z_subkey F2 a1 (pr_o s1 (r))))) := by
  obtain ⟨D, Pr, n, f, hR⟩ := iv_I h
  obtain ⟨n1, n2, n3, -⟩ := hR.2.1.nums
  obtain ⟨q1, q2⟩ := hR.ab
  have e4 : s.1 g 1 ((4 : Int32)).toNatClampNeg = nI (tot D) := hR.2.2.1.1 4 (by omega)
  have h55 : s.1 0 38 55 = nI (tot D) := (hR.pv).2.2.2.1.2.1
  by_cases b1 : a1 < 0
  · refine Or.inl ⟨ni_m b1, 500, 0, ax_wI s 0 38 0 2, ?_, iv_thrown 2, fun e => absurd e (by decide), h.th 2⟩
    unfold f_Z_subkey
    rw [if_neg (iv_has h), if_pos b1]
    simp only [ax_let, Option.bind_some, cond_true]
    rw [iv_sp, if_neg (by decide)]
  by_cases b2 : a1 < nI (tot D)
  · obtain ⟨a, ha, rfl⟩ := nI_of b1
    have la : a < tot D := by rw [nI_ltI ha (by omega)] at b2; exact b2
    obtain ⟨s3, v1, v2, v3⟩ := m_subk (F := 500) (by omega) hR.2.1 q1 q2 hR.2.2.1.2.2.2 (fun _ _ => rfl) (fun _ _ => rfl)
    have v3' : frm XRm s s3 := v3.imp (fun g r k hQ => by unfold X35 at hQ; unfold XRm; omega)
    refine Or.inr ⟨500, skS D D.1.1 (s.2 0 34) (s.2 0 33) (tot D) a, s3, ?_, 500, ?_⟩
    · unfold f_X_subkey f_X_needProgram
      simp only [Option.bind_some]
      rw [e4, ni_s b1 b2, show ax_in (4 : Int32) 8 = true from rfl, cond_true, Option.bind_some, v1, Option.bind_some, pu_in (by omega : a < 32) (by omega), cond_true, nI_clamp (by omega), v2 a la]
    · have hf := XRt.m v3' (skS D D.1.1 (s.2 0 34) (s.2 0 33) (tot D) a) 0
      obtain ⟨s4, w1, w2, w3, w4⟩ := z_after (F := 500) (by omega) hR hf (fun k => v3'.2 _ _ _ (by unfold XRm; omega))
      have fT : frm XRt s s4 := hf.trans (w4.imp (fun g r k hQ => by unfold XRz at hQ; unfold XRt; omega))
      have hw : RWd D s4 := by
        intro k hk
        have e : ∀ r, (r = 33 ∨ r = 34 ∨ r = 79) → s4.2 0 r k = s.2 0 r k := fun r hr => (w4.2 0 r k (by unfold XRz; omega)).trans (by rw [wI_2, pr_o_2 s3 _ (by omega)]; exact v3.2 _ _ _ (by unfold X35; omega))
        rw [e 33 (by omega), e 34 (by omega), e 79 (by omega), w3 k hk]
        exact ⟨⟨rfl, (hR.2.2.2.2.2 k hk).1.2⟩, q1 k hk, q2 k hk⟩
      refine ⟨skS D D.1.1 (s.2 0 34) (s.2 0 33) (tot D) a, s4, ?_, ?_, fun _ => ?_, run_end h hR fT hw⟩
      · unfold f_Z_subkey
        have hh : ¬ (pr_o s3 (skS D D.1.1 (s.2 0 34) (s.2 0 33) (tot D) a)).1 0 38 5 = 0 := by
          show ¬ s3.1 0 38 5 = 0
          rw [v3'.1 _ _ _ (by unfold XRm; omega)]
          exact iv_has h
        have h55' : (pr_o s3 (skS D D.1.1 (s.2 0 34) (s.2 0 33) (tot D) a)).1 0 38 55 = nI (tot D) := by
          show s3.1 0 38 55 = _
          rw [v3'.1 _ _ _ (by unfold XRm; omega)]
          exact h55
        rw [if_neg hh, h55', if_neg b1, if_pos b2]
        simp only [ax_let, Option.bind_some, cond_false]
        rw [iv_sp, if_pos (by decide), w1, Option.bind_some, pu_in (by omega : a < 32) (by omega), cond_true, nI_clamp (by omega), w2.2.2.1 a la]
      · unfold f_Z_thrown
        rw [w4.1 _ _ _ (by unfold XRz; omega), iv_sp]
      · rw [w4.2 _ _ _ (by unfold XRz; omega)]
        rfl
  · refine Or.inl ⟨by rw [e4]; exact ni_n b1 b2, 500, 0, ax_wI s 0 38 0 2, ?_, iv_thrown 2, fun e => absurd e (by decide), h.th 2⟩
    unfold f_Z_subkey
    rw [if_neg (iv_has h), if_neg b1, h55, if_neg b2]
    simp only [ax_let, Option.bind_some, cond_true]
    rw [iv_sp, if_neg (by decide)]
end
