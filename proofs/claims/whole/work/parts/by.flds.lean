/-! PURE: subkey, encrypt, decrypt, apply -/
section
variable {g n : Nat} {D : Ds} {Pr : List Nat} {f : Nat → Nat} {s s' : ax_σ} {Q : Nat → Nat → Nat → Prop}
theorem tx_keep {m : Nat} {h : Nat → Nat} (hx : pr_tx m h s) (hf : frm Q s s') (hq : ∀ g' r k, Q g' r k → ¬ (g' = 0 ∧ ((r = 23 ∧ k = 1) ∨ r = 24 ∨ (r = 38 ∧ k = 2) ∨ r = 39))) : pr_tx m h s' := by
  obtain ⟨h1, h2, h3, h4⟩ := hx
  exact ⟨h1, (hf.1 _ _ _ (fun hQ => hq _ _ _ hQ (by omega))).trans h2, (hf.1 _ _ _ (fun hQ => hq _ _ _ hQ (by omega))).trans h3, fun k hk => ⟨(h4 k hk).1, (hf.1 _ _ _ (fun hQ => hq _ _ _ hQ (by omega))).trans (h4 k hk).2.1, (hf.1 _ _ _ (fun hQ => hq _ _ _ hQ (by omega))).trans (h4 k hk).2.2⟩⟩
/-- all that a run changes -/
def XRt (g' r k : Nat) : Prop := g' = 0 ∧ ((34 ≤ r ∧ r ≤ 37) ∨ (r = 38 ∧ k = 0) ∨ r = 74 ∨ r = 75 ∨ r = 80 ∨ r = 81)
theorem run_end (h : pr_I I0x (some g) s) (hR : RIv g D Pr n f s) (hf : frm XRt s s') (hw : RWd D s') : pr_I I0x (some g) s' := by
  obtain ⟨⟨m, e, hx⟩, h1, h2, -⟩ := h
  obtain ⟨r1, r2, r3, r4, r5, -⟩ := hR
  refine ⟨⟨m, e, tx_keep hx hf (fun g' r k hQ => by unfold XRt at hQ; omega)⟩, ?_, ?_, D, Pr, n, f, RIv.mk ⟨r1, r2, r3.keep hf (fun g' r k hQ => by unfold XRt at hQ; unfold AC; omega), r4.keep hf (fun g' r k hQ => by unfold XRt at hQ; unfold AZ; omega), r5.keep hf (fun g' r k hQ => by unfold XRt at hQ; omega), hw⟩ (msk_f s')⟩
  · rw [hf.1 _ _ _ (by unfold XRt; omega), hf.1 _ _ _ (by unfold XRt; omega)]; exact h1
  · rw [hf.1 _ _ _ (by unfold XRt; omega)]; exact h2
def enS (s : ax_σ) (u d k : Nat) : Int32 := zEn u d s k
theorem RIv.en (h : RIv g D Pr n f s) : enOK D (enS s) ∧ ∀ u k, u < (dT D).length → k < 16 → s.1 g 2 (u * 16 + k) = enS s u 0 k ∧ s.1 g 3 (u * 16 + k) = enS s u 1 k := by
  obtain ⟨-, -, ⟨-, -, c4, -⟩, ⟨⟨⟨⟨-, -, a3⟩, -⟩, -⟩, -⟩, -⟩ := h
  have tz : ∀ u x, (dT D)[u]? = some x → ∀ k, k < 16 → s.1 0 43 (16 * u + k) = nI (tbE x k) := fun u x hx k hk => (a3 u x hx).1 k hk
  have ok : enOK D (enS s) := by
    intro u x hx k hk
    refine ⟨tz u x hx k hk, ?_⟩
    show bkL (fun k => s.1 0 43 (16 * u + k)) (nI k) 16 (-1) = _
    exact bkL_cg 16 _ (fun k hk => tz u x hx k hk)
  refine ⟨ok, fun u k hu hk => ?_⟩
  have hx : (dT D)[u]? = some ((dT D)[u]) := List.getElem?_eq_getElem hu
  obtain ⟨y1, y2⟩ := ok u _ hx k hk
  rw [y1, y2]
  exact c4 u _ hx k hk
theorem RIv.ab (h : RIv g D Pr n f s) : (∀ k, k < 4 → bW D.1.1 (s.2 0 34 k)) ∧ (∀ k, k < 4 → bW D.1.1 (s.2 0 33 k)) := ⟨fun k hk => (h.2.2.2.2.2 k hk).2.1, fun k hk => (h.2.2.2.2.2 k hk).2.2⟩
/-- the reference's subkeys, behind the class's run -/
theorem z_after {F : Nat} (hF : 241 ≤ F) (h : RIv g D Pr n f s) (hf : frm XRt s s') (h80 : ∀ k, s'.2 0 80 k = s.2 0 80 k) : ∃ s1, f_Z_makeSubkeys F s' = some s1 ∧ CZ D (enS s) (s.2 0 33) (skS D D.1.1 (s.2 0 34) (s.2 0 33) (tot D)) s1 ∧ (∀ k, k < 4 → s1.2 0 80 k = s.2 0 34 k) ∧ frm XRz s' s1 := by
  obtain ⟨b1, b2⟩ := h.ab
  have hw := h.2.2.2.2.2
  exact z_go0 (en := enS s) hF h.2.1 b1 b2 (h.2.2.2.1.1.keep hf (fun g' r k hQ => by unfold XRt at hQ; omega)) (fun k hk => (h80 k).trans (hw k hk).1.1.symm) (fun k hk => (hf.2 _ _ _ (by unfold XRt; omega)).trans (hw k hk).1.2.symm) (fun u d k _ _ _ => zEn_k (fun k => hf.1 _ _ _ (by unfold XRt; omega)) k)
theorem x_go {F a b : Nat} (hF : 500 ≤ F) (h : RIv g D Pr n f s) (ha : a ≤ (trS D).length) (hb : b ≤ (trS D).length) : ∃ s3, f_M_go F g (nI a) (nI b) s = some s3 ∧ (∀ k, k < 4 → s3.2 0 34 k = goW D (enS s) (s.2 0 33) (s.2 0 34) a b k) ∧ frm XRm s s3 := by
  obtain ⟨b1, b2⟩ := h.ab
  exact m_go hF h.2.1 h.en.1 ha hb b1 b2 h.2.2.1.2.2.2 (fun _ _ => rfl) (fun _ _ => rfl) h.en.2
/-- the words behind both runs -/
theorem w_after {a b : Nat} {s3 s9 : ax_σ} (h : RIv g D Pr n f s) (h34 : ∀ k, k < 4 → s3.2 0 34 k = goW D (enS s) (s.2 0 33) (s.2 0 34) a b k) (h3 : frm XRm s s3) (h80 : ∀ k, k < 4 → s9.2 0 80 k = goW D (enS s) (s.2 0 33) (s.2 0 34) a b k) (h9 : ∀ r k, (r = 33 ∨ r = 34 ∨ r = 79) → s9.2 0 r k = s3.2 0 r k) : RWd D s9 := by
  obtain ⟨b1, b2⟩ := h.ab
  have hw := h.2.2.2.2.2
  intro k hk
  have e33 : s9.2 0 33 k = s.2 0 33 k := (h9 _ _ (by omega)).trans (h3.2 _ _ _ (by unfold XRm; omega))
  have e79 : s9.2 0 79 k = s.2 0 79 k := (h9 _ _ (by omega)).trans (h3.2 _ _ _ (by unfold XRm; omega))
  have e34 : s9.2 0 34 k = goW D (enS s) (s.2 0 33) (s.2 0 34) a b k := (h9 _ _ (by omega)).trans (h34 k hk)
  rw [e33, e79, e34, h80 k hk]
  exact ⟨⟨rfl, (hw k hk).1.2⟩, goW_bW h.2.1 h.en.1 b1 b2 k hk, b2 k hk⟩
theorem XRt.m {s3 : ax_σ} (h : frm XRm s s3) (x : Int64) (v : Int32) : frm XRt s (ax_wI (pr_o s3 x) 0 38 0 v) := by
  have h1 : frm XRt s s3 := h.imp (fun g r k hQ => by unfold XRm at hQ; unfold XRt; omega)
  exact (h1.wL 0 37 0 x ⟨rfl, Or.inl (by omega)⟩).wI 0 38 0 v ⟨rfl, Or.inr (Or.inl ⟨rfl, rfl⟩)⟩
theorem iv_I (h : pr_I I0x (some g) s) : ∃ D Pr n f, RIv g D Pr n f s := by
  obtain ⟨-, -, -, D, Pr, n, f, hR⟩ := h
  exact ⟨D, Pr, n, f, hR.mk (msk_f s).sym⟩
theorem iv_encrypt_1 (h : pr_I I0x (some g) s) : ∃ F r s1, f_X_encrypt F g s = some (r, s1) ∧ (∃ F2, pr_Z (pr_I I0x) (some g) 0 (f_Z_encrypt F2 (pr_o s1 (r.toInt64)))) := by
  obtain ⟨D, Pr, n, f, hR⟩ := iv_I h
  obtain ⟨n1, n2, n3, -⟩ := hR.2.1.nums
  have c1 := hR.2.2.1.1
  obtain ⟨s3, v1, v2, v3⟩ := x_go (F := 500) (a := 0) (b := (trS D).length) (by omega) hR (by omega) (by omega)
  have e5 : s.1 g 1 ((5 : Int32)).toNatClampNeg = nI (trS D).length := c1 5 (by omega)
  have e6 : s3.1 g 1 ((6 : Int32)).toNatClampNeg = nI (vN D 6) := (v3.1 _ _ _ (by unfold XRm; omega)).trans (c1 6 (by omega))
  have v1 : f_M_go 500 g (0 : Int32) (nI (trS D).length) s = some s3 := v1
  refine ⟨500, nI (vN D 6), s3, ?_, 500, ?_⟩
  · unfold f_X_encrypt f_X_needProgram
    rw [e5]
    simp only [Option.bind_some]
    rw [show ax_in (5 : Int32) 8 = true from rfl, cond_true, v1, Option.bind_some, e6]
    rfl
  · have hf := XRt.m v3 ((nI (vN D 6)).toInt64) 0
    obtain ⟨s4, w1, w2, w3, w4⟩ := z_after (F := 500) (by omega) hR hf (fun k => v3.2 _ _ _ (by unfold XRm; omega))
    obtain ⟨s9, x1, x2, x3⟩ := z_f31 (F := 500) (by omega) hR.2.1 hR.en.1 (trS D).length 0 500 s4 _ (sk_ok hR.2.1 hR.ab.1 hR.ab.2) (by omega) (by omega) w2 w3
    have x1 : lp_Z_encrypt_31 500 500 (0 : Int32) s4 = some s9 := x1
    have f9 : frm XRz (ax_wI (pr_o s3 ((nI (vN D 6)).toInt64)) 0 38 0 0) s9 := w4.trans (x3.imp (fun g r k hQ => by unfold XZs at hQ; unfold XRz; omega))
    have fT : frm XRt s s9 := hf.trans (f9.imp (fun g r k hQ => by unfold XRz at hQ; unfold XRt; omega))
    have e63 : s9.1 0 38 63 = nI (vN D 6) := by
      obtain ⟨-, RW, RS, -, -, -, -, r5, -⟩ := (hR.2.2.2.1.keep fT (fun g' r k hQ => by unfold XRt at hQ; unfold AZ; omega)).1
      exact r5
    have hgo : ∀ k, k < 4 → s9.2 0 80 k = goW D (enS s) (s.2 0 33) (s.2 0 34) 0 (trS D).length k := by
      intro k hk
      rw [x2 k hk]
      unfold goW
      rw [Nat.zero_sub, Nat.sub_zero]
      rfl
    refine ⟨nI (vN D 6), s9, ?_, ?_, fun _ => ?_, run_end h hR fT (w_after hR v2 v3 hgo (fun r k hr => (f9.2 0 r k (by unfold XRz; omega)).trans (by rw [wI_2, pr_o_2 s3 _ (by omega)])))⟩
    · unfold f_Z_encrypt
      have hh : ¬ (pr_o s3 ((nI (vN D 6)).toInt64)).1 0 38 5 = 0 := by
        show ¬ s3.1 0 38 5 = 0
        rw [v3.1 _ _ _ (by unfold XRm; omega)]
        exact iv_has h
      rw [if_neg hh]
      simp only [ax_let, Option.bind_some]
      rw [iv_sp, if_pos (by decide), w1, Option.bind_some, x1, Option.bind_some, e63]
    · unfold f_Z_thrown
      rw [f9.1 _ _ _ (by unfold XRz; omega), iv_sp]
    · rw [f9.2 _ _ _ (by unfold XRz; omega)]
      rfl
end
