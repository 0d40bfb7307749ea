/-! PURE: all together -/
theorem mix_f (s : ax_σ) : frm (fun g' r k => g' ≠ 0 ∧ g' ≠ 0) s (bx_mixσ s) := by
  refine ⟨fun g r k h => ?_, fun g r k h => ?_⟩
  · have h0 : g = 0 := by omega
    subst h0
    rfl
  · have h0 : g = 0 := by omega
    subst h0
    rfl
theorem v_0 {g n m : Nat} {D : Ds} {Pr : List Nat} {f : Nat → Nat} {s : ax_σ} {v : Nat → Nat} {x : Int64} (h : RIv g D Pr n f s) (hp : PV v m g s) (hx : inW (v 0) x) : bW D.1.1 x := by
  have e1 := hp.2.1 0 (by omega)
  have e2 : s.1 g 1 0 = nI D.1.1 := h.2.2.1.1 0 (by omega)
  have hw := h.2.1.vd.1
  have hv := hp.1.1
  have e : v 0 = D.1.1 := by
    rw [e2, nI_eq (by rcases hw with h | h | h | h <;> omega) (by rcases hv with h | h | h | h <;> omega)] at e1
    exact e1.symm
  rw [e] at hx
  exact (bW_of hw).mp hx
theorem k_33 {g j m : Nat} {s : ax_σ} {v : Nat → Nat} {x : Int64} (h : I0x (some g) s) (hj : j < 4) (hp : PV v m g s) (hx : inW (v 0) x) : I0x (some g) (ax_wL (ax_wL s 0 33 j x) 0 79 j x) := by
  obtain ⟨D, Pr, n, f, hR⟩ := h
  have hb := v_0 hR hp hx
  obtain ⟨r1, r2, r3, r4, r5, r6⟩ := hR
  have hf : frm (fun g' r k => g' = 0 ∧ (r = 33 ∨ r = 79)) s (ax_wL (ax_wL s 0 33 j x) 0 79 j x) := (frm.refl.wL _ _ _ _ (by omega)).wL _ _ _ _ (by omega)
  refine ⟨D, Pr, n, f, r1, r2, r3.keep hf (fun g' r k hQ => by unfold AC; omega), r4.keep hf (fun g' r k hQ => by unfold AZ; omega), r5.keep hf (fun g' r k hQ => by omega), fun k hk => ?_⟩
  obtain ⟨⟨a1, a2⟩, a3, a4⟩ := r6 k hk
  by_cases e : k = j
  · subst e
    simp (disch := omega) only [wI_1, wI_2, wL_1, wL_2, true_and, and_true, and_self, false_and, and_false, if_true, if_false, if_pos, if_neg]
    exact ⟨a1, a3, hb⟩
  · simp (disch := omega) only [wI_1, wI_2, wL_1, wL_2, true_and, and_true, and_self, false_and, and_false, if_true, if_false, if_pos, if_neg]
    exact ⟨⟨a1, a2⟩, a3, a4⟩
theorem k_34 {g j m : Nat} {s : ax_σ} {v : Nat → Nat} {x : Int64} (h : I0x (some g) s) (hj : j < 4) (hp : PV v m g s) (hx : inW (v 0) x) : I0x (some g) (ax_wL (ax_wL s 0 34 j x) 0 80 j x) := by
  obtain ⟨D, Pr, n, f, hR⟩ := h
  have hb := v_0 hR hp hx
  obtain ⟨r1, r2, r3, r4, r5, r6⟩ := hR
  have hf : frm (fun g' r k => g' = 0 ∧ (r = 34 ∨ r = 80)) s (ax_wL (ax_wL s 0 34 j x) 0 80 j x) := (frm.refl.wL _ _ _ _ (by omega)).wL _ _ _ _ (by omega)
  refine ⟨D, Pr, n, f, r1, r2, r3.keep hf (fun g' r k hQ => by unfold AC; omega), r4.keep hf (fun g' r k hQ => by unfold AZ; omega), r5.keep hf (fun g' r k hQ => by omega), fun k hk => ?_⟩
  obtain ⟨⟨a1, a2⟩, a3, a4⟩ := r6 k hk
  by_cases e : k = j
  · subst e
    simp (disch := omega) only [wI_1, wI_2, wL_1, wL_2, true_and, and_true, and_self, false_and, and_false, if_true, if_false, if_pos, if_neg]
    exact ⟨a2, hb, a4⟩
  · simp (disch := omega) only [wI_1, wI_2, wL_1, wL_2, true_and, and_true, and_self, false_and, and_false, if_true, if_false, if_pos, if_neg]
    exact ⟨⟨a1, a2⟩, a3, a4⟩
theorem pr_all : pr_OK (pr_I I0x) := by
  refine ⟨?_, fun ph s a h => iv_write a h, fun ph s h => iv_wipe h, fun ph s h => iv_place h, fun s a h => iv_print0 a h, fun g s a h => ?_, fun s h => ?_, fun g s h => ?_, fun s a1 h => iv_number_0 a1 h, fun g s a1 h => ?_, fun s a1 a2 a3 h => ⟨0, iv_table_0 a1 a2 a3 h⟩, fun g s a1 a2 a3 h => ?_, fun s a1 a2 h => iv_key_0 a1 a2 h, fun g s a1 a2 h => ?_, fun s a1 a2 h => iv_state_0 a1 a2 h, fun g s a1 a2 h => ?_, fun s a1 h => iv_keyWord_0 a1 h, fun g s a1 h => ?_, fun s a1 h => iv_word_0 a1 h, fun g s a1 h => ?_, fun s a1 h => ⟨0, iv_subkey_0 a1 h⟩, fun g s a1 h => iv_subkey_1 a1 h, fun s h => ⟨0, iv_encrypt_0 h⟩, fun g s h => iv_encrypt_1 h, fun s h => ⟨0, iv_decrypt_0 h⟩, fun g s h => iv_decrypt_1 h, fun s a1 a2 h => ⟨0, iv_apply_0 a1 a2 h⟩, fun g s a1 a2 h => iv_apply_1 a1 a2 h⟩
  · exact ⟨⟨0, fun _ => 0, by omega, rfl, rfl, fun k hk => absurd hk (Nat.not_lt_zero _)⟩, rfl, rfl, trivial⟩
  · obtain ⟨D, Pr, n, f, hR⟩ := iv_I h
    exact iv_print_1 a h hR.pv
  · obtain ⟨n, f, hx⟩ := h.1
    obtain ⟨r, s1, a1, a2⟩ := cmp_any (g := 0) (ph := none) (by omega) hx (iv_has0 h)
    refine ⟨100000, r, s1, a1, ?_⟩
    rcases a2 with ⟨b1, s2, b2, b3⟩ | ⟨b1, b2⟩
    · exact Or.inl ⟨b1, 100000, s2, b2, b3⟩
    · obtain ⟨s2, s3, c1, c2, c3⟩ := b2 _ (mix_f _)
      exact Or.inr ⟨b1, s2, 100000, s3, c1, c2, c3⟩
  · obtain ⟨n, f, hx⟩ := h.1
    obtain ⟨D, Pr, m, f', hR⟩ := iv_I h
    have hg := hR.1
    obtain ⟨r, s1, a1, a2⟩ := cmp_any (g := 1 - g) (ph := some g) (by omega) hx ⟨iv_has1 h, by omega, D, Pr, m, f', hR⟩
    refine ⟨100000, r, s1, a1, ?_⟩
    rcases a2 with ⟨b1, s2, b2, b3⟩ | ⟨b1, b2⟩
    · exact Or.inl ⟨b1, 100000, s2, b2, b3⟩
    · obtain ⟨s2, s3, c1, c2, c3⟩ := b2 _ frm.refl
      exact Or.inr ⟨b1, s2, 100000, s3, c1, c2, c3⟩
  · obtain ⟨D, Pr, n, f, hR⟩ := iv_I h
    exact iv_number_1 a1 h hR.pv
  · obtain ⟨D, Pr, n, f, hR⟩ := iv_I h
    exact iv_table_1 a1 a2 a3 h hR.pv
  · obtain ⟨D, Pr, n, f, hR⟩ := h.2.2.2
    exact iv_key_1 (fun σ j x v m h hj hp hx => k_33 h hj hp hx) a1 a2 h hR.pv
  · obtain ⟨D, Pr, n, f, hR⟩ := h.2.2.2
    exact iv_state_1 (fun σ j x v m h hj hp hx => k_34 h hj hp hx) a1 a2 h hR.pv
  · obtain ⟨D, Pr, n, f, hR⟩ := iv_I h
    exact iv_keyWord_1 a1 h hR.pv
  · obtain ⟨D, Pr, n, f, hR⟩ := iv_I h
    exact iv_word_1 a1 h hR.pv
theorem i_vc : Claimed_1_1 ∧ Claimed_1_2 := lw_claim pr_all
