/-! PURE: key and state -/
theorem msk_wL (s : ax_σ) (r k : Nat) (x : Int64) (h : r ≠ 37) : msk (ax_wL s 0 r k x) = ax_wL (msk s) 0 r k x := by
  unfold msk ax_wL
  refine Prod.ext rfl ?_
  funext g' r' k'
  show (bif Nat.beq r' 37 then 0 else ax_uL s.2 0 r k x g' r' k') = ax_uL (fun g r k => bif Nat.beq r 37 then 0 else s.2 g r k) 0 r k x g' r' k'
  unfold ax_uL
  by_cases hh : g' = 0 ∧ r' = r ∧ k' = k
  · rw [if_pos hh, if_pos hh, b37 (by rw [hh.2.1]; exact h)]; rfl
  · rw [if_neg hh, if_neg hh]
theorem pr_I.ints {I0 : Option Nat → ax_σ → Prop} {ph : Option Nat} {s s' : ax_σ} (h : pr_I I0 ph s) (h1 : s'.1 = s.1) (hI : I0 ph (msk s')) : pr_I I0 ph s' := by
  obtain ⟨⟨n, f, hx⟩, h4, h5, -⟩ := h
  refine ⟨⟨n, f, ?_⟩, ?_, ?_, hI⟩
  · unfold pr_tx at hx ⊢; rw [h1]; exact hx
  · rw [h1]; exact h4
  · rw [h1]; exact h5
section
variable {I0 : Option Nat → ax_σ → Prop} {g : Nat} {s : ax_σ}
theorem iv_key_1 (hI : ∀ σ j x v m, I0 (some g) σ → j < 4 → PV v m g σ → inW (v 0) x → I0 (some g) (ax_wL (ax_wL σ 0 33 j x) 0 79 j x)) (a1 : Int32) (a2 : Int64) (h : pr_I I0 (some g) s) {v : Nat → Nat} {m : Nat} (hp0 : PV v m g (msk s)) : (f_X_needIndex a1 (s.1 g 1 ((2 : Int32)).toNatClampNeg) = none ∧ pr_ZL (pr_I I0) (some g) 2 (f_Z_key a1 a2 s)) ∨ (f_X_needIndex a1 (s.1 g 1 ((2 : Int32)).toNatClampNeg) = some () ∧ f_X_needWord a2 s = none ∧ pr_ZL (pr_I I0) (some g) 3 (f_Z_key a1 a2 s)) ∨ (∃ r s1, f_X_key g a1 a2 s = some (r, s1) ∧ pr_ZL (pr_I I0) (some g) 0 (f_Z_key a1 a2 (pr_o s1 (r)))) := by
  have hp := hp0.up
  obtain ⟨⟨p00, p01, p02, -⟩, p1, p2, -, -, -, -, ⟨-, p8⟩, p9⟩ := hp
  have e1 : s.1 g 1 ((2 : Int32)).toNatClampNeg = nI (v 2) := p1 2 (by decide)
  have e3 : s.2 0 41 ((2 : Int32)).toNatClampNeg = lN (v 2) := p2 2 (by decide)
  have e0 : s.2 0 41 ((0 : Int32)).toNatClampNeg = lN (v 0) := p2 0 (by decide)
  have hin3 : ax_in (2 : Int32) 3 = true := by decide
  by_cases h0 : a1 < 0
  · refine Or.inl ⟨ni_m h0, 0, ax_wI s 0 38 0 2, ?_, iv_thrown 2, fun e => absurd e (by decide), h.th 2⟩
    unfold f_Z_key
    rw [if_neg (iv_has h), if_pos h0]
    simp only [ax_let, Option.bind_some, cond_false, cond_true]
    rw [iv_sp, if_neg (by decide)]
  · obtain ⟨j, hj, rfl⟩ := nI_of h0
    by_cases hk : j < v 2
    · have n1 : f_X_needIndex (nI j) (s.1 g 1 ((2 : Int32)).toNatClampNeg) = some () := by rw [e1]; exact ni_s h0 ((nI_ltI hj (by omega)).mpr hk)
      by_cases hw : a2 &&& (mk64 (v 0) ^^^ (-1 : Int64)) = 0
      · have n2 : f_X_needWord a2 s = some () := by rw [nw_x p00 p8, if_pos hw]
        have hj4 : ax_in (nI j) 4 = true := pu_in (by omega) (by decide)
        have f1 : ∀ x, (pr_o (ax_wL s 0 33 j a2) x).2 0 41 ((2 : Int32)).toNatClampNeg = lN (v 2) := fun x => by
          rw [pr_o_2 _ _ (by decide), wL_2, if_neg (by omega)]; exact e3
        have f0 : ∀ x, (pr_o (ax_wL s 0 33 j a2) x).2 0 41 ((0 : Int32)).toNatClampNeg = lN (v 0) := fun x => by
          rw [pr_o_2 _ _ (by decide), wL_2, if_neg (by omega)]; exact e0
        refine Or.inr (Or.inr ⟨s.2 0 33 j, ax_wL s 0 33 j a2, ?_, s.2 0 33 j, ax_wL (ax_wI (pr_o (ax_wL s 0 33 j a2) (s.2 0 33 j)) 0 38 0 0) 0 79 j a2, ?_, ?_, fun _ => ?_, ?_⟩)
        · unfold f_X_key
          rw [n1, n2]
          simp only [ax_let]
          rw [hj4, nI_clamp hj]; rfl
        · unfold f_Z_key
          rw [if_neg (show ¬ (pr_o (ax_wL s 0 33 j a2) (s.2 0 33 j)).1 0 38 5 = 0 from (show ¬ s.1 0 38 5 = 0 from iv_has h)), if_neg h0, f1, if_pos ((cmp_nl hj (by omega)).mpr hk), nw_z p00 (f0 _), if_pos hw]
          simp only [ax_let, Option.bind_some, cond_false, cond_true, hin3, show ¬ (1 : Int32) = 0 from by decide, if_false]
          rw [iv_sp, if_pos (by decide), hj4, nI_clamp hj]
          simp only [cond_true]
          rw [wI_2, pr_o_2 _ _ (by decide), wL_2, if_neg (by omega), ← (p9 j (by omega)).1]
        · exact iv_thrown (s := pr_o (ax_wL s 0 33 j a2) (s.2 0 33 j)) 0
        · rw [wL_2, if_neg (by omega)]; exact iv_out _ _
        · refine (h.th 0).ints rfl ?_
          rw [msk_wL _ _ _ _ (by decide), msk_th, msk_o, msk_wL _ _ _ _ (by decide)]
          exact hI (msk s) j a2 v m h.2.2.2 (by omega) hp0 ((and_mk p00).mp hw)
      · refine Or.inr (Or.inl ⟨n1, by rw [nw_x p00 p8, if_neg hw], 0, ax_wI s 0 38 0 3, ?_, iv_thrown 3, fun e => absurd e (by decide), h.th 3⟩)
        unfold f_Z_key
        rw [if_neg (iv_has h), if_neg h0, e3, if_pos ((cmp_nl hj (by omega)).mpr hk), nw_z p00 e0, if_neg hw]
        simp only [ax_let, Option.bind_some, cond_false, cond_true, hin3, if_true]
        rw [iv_sp, if_neg (by decide)]
    · refine Or.inl ⟨by rw [e1]; exact ni_n h0 (by rw [nI_ltI hj (by omega)]; exact hk), 0, ax_wI s 0 38 0 2, ?_, iv_thrown 2, fun e => absurd e (by decide), h.th 2⟩
      unfold f_Z_key
      rw [if_neg (iv_has h), if_neg h0, e3, if_neg (by rw [cmp_nl hj (by omega)]; exact hk)]
      simp only [ax_let, Option.bind_some, cond_false, cond_true, hin3]
      rw [iv_sp, if_neg (by decide)]
theorem iv_state_1 (hI : ∀ σ j x v m, I0 (some g) σ → j < 4 → PV v m g σ → inW (v 0) x → I0 (some g) (ax_wL (ax_wL σ 0 34 j x) 0 80 j x)) (a1 : Int32) (a2 : Int64) (h : pr_I I0 (some g) s) {v : Nat → Nat} {m : Nat} (hp0 : PV v m g (msk s)) : (f_X_needIndex a1 (s.1 g 1 ((1 : Int32)).toNatClampNeg) = none ∧ pr_ZL (pr_I I0) (some g) 2 (f_Z_state a1 a2 s)) ∨ (f_X_needIndex a1 (s.1 g 1 ((1 : Int32)).toNatClampNeg) = some () ∧ f_X_needWord a2 s = none ∧ pr_ZL (pr_I I0) (some g) 3 (f_Z_state a1 a2 s)) ∨ (∃ r s1, f_X_state g a1 a2 s = some (r, s1) ∧ pr_ZL (pr_I I0) (some g) 0 (f_Z_state a1 a2 (pr_o s1 (r)))) := by
  have hp := hp0.up
  obtain ⟨⟨p00, p01, p02, -⟩, p1, p2, -, -, -, -, ⟨-, p8⟩, p9⟩ := hp
  have e1 : s.1 g 1 ((1 : Int32)).toNatClampNeg = nI (v 1) := p1 1 (by decide)
  have e3 : s.2 0 41 ((1 : Int32)).toNatClampNeg = lN (v 1) := p2 1 (by decide)
  have e0 : s.2 0 41 ((0 : Int32)).toNatClampNeg = lN (v 0) := p2 0 (by decide)
  have hin3 : ax_in (1 : Int32) 3 = true := by decide
  by_cases h0 : a1 < 0
  · refine Or.inl ⟨ni_m h0, 0, ax_wI s 0 38 0 2, ?_, iv_thrown 2, fun e => absurd e (by decide), h.th 2⟩
    unfold f_Z_state
    rw [if_neg (iv_has h), if_pos h0]
    simp only [ax_let, Option.bind_some, cond_false, cond_true]
    rw [iv_sp, if_neg (by decide)]
  · obtain ⟨j, hj, rfl⟩ := nI_of h0
    by_cases hk : j < v 1
    · have n1 : f_X_needIndex (nI j) (s.1 g 1 ((1 : Int32)).toNatClampNeg) = some () := by rw [e1]; exact ni_s h0 ((nI_ltI hj (by omega)).mpr hk)
      by_cases hw : a2 &&& (mk64 (v 0) ^^^ (-1 : Int64)) = 0
      · have n2 : f_X_needWord a2 s = some () := by rw [nw_x p00 p8, if_pos hw]
        have hj4 : ax_in (nI j) 4 = true := pu_in (by omega) (by decide)
        have f1 : ∀ x, (pr_o (ax_wL s 0 34 j a2) x).2 0 41 ((1 : Int32)).toNatClampNeg = lN (v 1) := fun x => by
          rw [pr_o_2 _ _ (by decide), wL_2, if_neg (by omega)]; exact e3
        have f0 : ∀ x, (pr_o (ax_wL s 0 34 j a2) x).2 0 41 ((0 : Int32)).toNatClampNeg = lN (v 0) := fun x => by
          rw [pr_o_2 _ _ (by decide), wL_2, if_neg (by omega)]; exact e0
        refine Or.inr (Or.inr ⟨s.2 0 34 j, ax_wL s 0 34 j a2, ?_, s.2 0 34 j, ax_wL (ax_wI (pr_o (ax_wL s 0 34 j a2) (s.2 0 34 j)) 0 38 0 0) 0 80 j a2, ?_, ?_, fun _ => ?_, ?_⟩)
        · unfold f_X_state
          rw [n1, n2]
          simp only [ax_let]
          rw [hj4, nI_clamp hj]; rfl
        · unfold f_Z_state
          rw [if_neg (show ¬ (pr_o (ax_wL s 0 34 j a2) (s.2 0 34 j)).1 0 38 5 = 0 from (show ¬ s.1 0 38 5 = 0 from iv_has h)), if_neg h0, f1, if_pos ((cmp_nl hj (by omega)).mpr hk), nw_z p00 (f0 _), if_pos hw]
          simp only [ax_let, Option.bind_some, cond_false, cond_true, hin3, show ¬ (1 : Int32) = 0 from by decide, if_false]
          rw [iv_sp, if_pos (by decide), hj4, nI_clamp hj]
          simp only [cond_true]
          rw [wI_2, pr_o_2 _ _ (by decide), wL_2, if_neg (by omega), ← (p9 j (by omega)).2]
        · exact iv_thrown (s := pr_o (ax_wL s 0 34 j a2) (s.2 0 34 j)) 0
        · rw [wL_2, if_neg (by omega)]; exact iv_out _ _
        · refine (h.th 0).ints rfl ?_
          rw [msk_wL _ _ _ _ (by decide), msk_th, msk_o, msk_wL _ _ _ _ (by decide)]
          exact hI (msk s) j a2 v m h.2.2.2 (by omega) hp0 ((and_mk p00).mp hw)
      · refine Or.inr (Or.inl ⟨n1, by rw [nw_x p00 p8, if_neg hw], 0, ax_wI s 0 38 0 3, ?_, iv_thrown 3, fun e => absurd e (by decide), h.th 3⟩)
        unfold f_Z_state
        rw [if_neg (iv_has h), if_neg h0, e3, if_pos ((cmp_nl hj (by omega)).mpr hk), nw_z p00 e0, if_neg hw]
        simp only [ax_let, Option.bind_some, cond_false, cond_true, hin3, if_true]
        rw [iv_sp, if_neg (by decide)]
    · refine Or.inl ⟨by rw [e1]; exact ni_n h0 (by rw [nI_ltI hj (by omega)]; exact hk), 0, ax_wI s 0 38 0 2, ?_, iv_thrown 2, fun e => absurd e (by decide), h.th 2⟩
      unfold f_Z_state
      rw [if_neg (iv_has h), if_neg h0, e3, if_neg (by rw [cmp_nl hj (by omega)]; exact hk)]
      simp only [ax_let, Option.bind_some, cond_false, cond_true, hin3]
      rw [iv_sp, if_neg (by decide)]
end
