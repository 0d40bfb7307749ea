/-! PURE: compile -/
section
variable {g n : Nat} {f : Nat → Nat} {s s1 : ax_σ}
/-- what stood before -/
def Bef (g : Nat) (ph : Option Nat) (s : ax_σ) : Prop := match ph with
  | none => s.1 0 38 5 = 0
  | some g0 => s.1 0 38 5 = 1 ∧ g0 ≠ g ∧ ∃ D Pr m h, RIv g0 D Pr m h s
theorem tx_z {s' : ax_σ} {Q : Nat → Nat → Nat → Prop} (hx : pr_tx n f s) (hf : frm Q s s') (hq : ∀ g' r k, Q g' r k → ¬ (g' = 0 ∧ ((r = 23 ∧ k = 1) ∨ r = 24 ∨ (r = 38 ∧ k = 2) ∨ r = 39))) : ztx 39 n f s' ∧ s'.1 0 38 2 = nI n := by
  obtain ⟨h1, h2, h3, h4⟩ := tx_keep hx hf hq
  exact ⟨⟨h1, Or.inl rfl, fun k hk => ⟨(h4 k hk).1, (h4 k hk).2.2⟩⟩, h3⟩
def XWp (g g' r k : Nat) : Prop := XW g g' r k ∨ (g' = 0 ∧ r = 23 ∧ k = 2)
theorem cmp_fail {F c : Nat} {ph : Option Nat} {s15 : ax_σ} (hF : 100000 ≤ F) (hc : c ≠ 0 ∧ c < 8) (hx : pr_tx n f s) (hB : Bef g ph s) (hf1 : frm (XWp g) s s1) (h14 : s1.1 0 23 2 = (if c = 6 then -1 else s15.1 0 38 54)) (z1 : zc1 F s1 = some s15) (zf : frm XPh s1 s15) (h53 : s15.1 0 38 53 = nI c) : ∃ s2, f_Z_compile F s1 = some (nI c, s2) ∧ pr_I I0x ph s2 := by
  have fa : frm (fun g' r k => XWp g g' r k ∨ XPh g' r k) s s15 := (hf1.imp (fun g' r k h => Or.inl h)).trans (zf.imp (fun g' r k h => Or.inr h))
  have h5 : s15.1 0 38 5 = s.1 0 38 5 := fa.1 _ _ _ (by unfold XWp XW XPh; omega)
  match ph, hB with
  | none, hB =>
    refine ⟨ax_wI s15 0 38 6 (if c = 6 then -1 else s15.1 0 38 54), by rw [zc_eq, z1, Option.bind_some]; exact zc2_no hc h53 (h5.trans hB), ⟨n, f, ?_⟩, ?_, ?_, trivial⟩
    · exact tx_keep hx ((fa.imp (fun g' r k h => Or.inl h)).wI (P := fun g' r k => (XWp g g' r k ∨ XPh g' r k) ∨ (g' = 0 ∧ r = 38 ∧ k = 6)) 0 38 6 _ (Or.inr ⟨rfl, rfl, rfl⟩)) (fun g' r k hQ => by unfold XWp XW XPh at hQ; omega)
    · rw [wI_1, if_neg (by omega), wI_1, if_pos ⟨rfl, rfl, rfl⟩, zf.1 _ _ _ (by unfold XPh; omega)]
      exact h14
    · rw [wI_1, if_neg (by omega), h5]
      exact hB
  | some g0, ⟨hB, hg, D, Pr, m, h, hR⟩ =>
    obtain ⟨r1, r2, r3, r4, r5, r6⟩ := hR
    have r5' := r5.keep fa (fun g' r k hQ => by unfold XWp XW XPh at hQ; omega)
    obtain ⟨s2, a1, a2, a3, a4, a5⟩ := zc2_has (F := F) hF hc h53 (h5.trans hB) r2 r5'
    have fb : frm (fun g' r k => XWp g g' r k ∨ XPh g' r k ∨ XRd g' r k) s s2 := (fa.imp (fun g' r k h => h.elim Or.inl (fun h => Or.inr (Or.inl h)))).trans (a5.imp (fun g' r k h => Or.inr (Or.inr h)))
    refine ⟨s2, by rw [zc_eq, z1, Option.bind_some]; exact a1, ⟨n, f, tx_keep hx fb (fun g' r k hQ => by unfold XWp XW XPh XRd at hQ; omega)⟩, ?_, ?_, D, Pr, m, h, RIv.mk ⟨r1, r2, r3.keep fb (fun g' r k hQ => by unfold XWp XW XPh XRd at hQ; unfold AC; omega), ⟨a3, a4⟩, r5'.keep a5 (fun g' r k hQ => by unfold XRd at hQ; omega), r6.keep fb (fun g' r k hQ => by unfold XWp XW XPh XRd at hQ; omega)⟩ (msk_f s2)⟩
    · rw [a2, a5.1 _ _ _ (by unfold XRd; omega), zf.1 _ _ _ (by unfold XPh; omega)]
      exact h14
    · rw [fb.1 _ _ _ (by unfold XWp XW XPh XRd; omega)]
      exact hB
theorem cmp_any {ph : Option Nat} (hg : g < 2) (hx : pr_tx n f s) (hB : Bef g ph s) : ∃ r s1, f_R_read 100000 g (s.1 0 23 1) s = some (r, s1) ∧ ((¬ r = 0 ∧ ∃ s2, f_Z_compile 100000 (ax_wI s1 0 23 2 (s1.1 0 25 14)) = some (r, s2) ∧ pr_I I0x ph s2) ∨ (r = 0 ∧ ∀ sm, frm (fun g' r k => g' ≠ 0 ∧ g' ≠ g) (ax_wI s1 0 23 2 (s1.1 0 25 14)) sm → ∃ s2 s3, f_M_load 100000 g sm = some s2 ∧ f_Z_compile 100000 s2 = some (0, s3) ∧ pr_I I0x (some g) s3)) := by
  obtain ⟨hn, h1, h2, h3⟩ := id hx
  rw [h1]
  have hne : ∀ c, c ≠ 0 → c < 8 → ¬ nI c = (0 : Int32) := fun c h0 h8 => by rw [c_0, nI_eq (by omega) (by omega)]; exact h0
  have f23 : ∀ {s1 : ax_σ} {v : Int32}, frm (XW g) s s1 → frm (XWp g) s (ax_wI s1 0 23 2 v) := fun h => (h.imp (fun g' r k h => Or.inl h)).wI 0 23 2 _ (Or.inr ⟨rfl, rfl, rfl⟩)
  have txp : ∀ g' r k, XWp g g' r k → ¬ (g' = 0 ∧ ((r = 23 ∧ k = 1) ∨ r = 24 ∨ (r = 38 ∧ k = 2) ∨ r = 39)) := fun g' r k hQ => by unfold XWp XW at hQ; omega
  have hf : ∀ k, k < n → (32 ≤ f k ∧ f k ≤ 126) ∧ s.1 0 24 k = nI (f k) := fun k hk => ⟨(h3 k hk).1, (h3 k hk).2.1⟩
  cases hp : pDs (tkR f 0 n) with
  | error r =>
    have h := rd_read (g := g) (F := 100000) (by omega) hn hf
    rw [hp] at h
    obtain ⟨s1, a1, a2, a3⟩ := h
    obtain ⟨t1, t2⟩ := tx_z hx (f23 (v := s1.1 0 25 14) a3) txp
    have hpl := z_rdE (F := 100000) (by omega) t1 hp
    obtain ⟨s15, b1, b2, b3, b4⟩ := zc1_err (F := 100000) (by omega) t1 t2 hp hpl
    obtain ⟨s2, c1, c2⟩ := cmp_fail (F := 100000) (c := 1) (by omega) (by omega) hx hB (f23 a3) (by rw [wI_1, if_pos ⟨rfl, rfl, rfl⟩, if_neg (by omega), a2, b3]) b1 b4 b2
    exact ⟨nI 1, s1, a1, Or.inl ⟨hne 1 (by omega) (by omega), s2, c1, c2⟩⟩
  | ok w =>
    obtain ⟨D, r⟩ := w
    obtain ⟨sr, z1, z2⟩ := z_read (R := 39) (F := 241) (s := s) (n := n) (f := f) (by omega) ⟨hn, Or.inl rfl, fun k hk => ⟨(h3 k hk).1, (h3 k hk).2.2⟩⟩
    rw [hp] at z2
    obtain ⟨sz, -, z3, -⟩ := z2
    obtain ⟨zZ, zD, -, zl⟩ := z3.zx
    obtain ⟨B, s1, lf, kB, hlf, hiff, hfr, hcase⟩ := rd_ok (g := g) (F := 100000) (by omega) hn hf hp zD zl ⟨sz, zZ⟩
    rcases hcase with ⟨hl, a1, a2⟩ | ⟨hl, hb, a1, a2⟩ | ⟨hl, hb, a1, a2, a3, a4, a5, a6, a7, a8⟩
    · obtain ⟨t1, t2⟩ := tx_z hx (f23 (v := s1.1 0 25 14) hfr) txp
      obtain ⟨s15, rf, b1, b2, b3, b4⟩ := zc1_ok (F := 100000) (g := g) (T := tkR f 0 n) (by omega) t1 t2 hp kB
      have e : rf = lf := Nat.le_antisymm ((hiff rf).mpr ((b3 rf).mp (Nat.le_refl _))) ((b3 lf).mpr ((hiff lf).mp (Nat.le_refl _)))
      rcases b4 with ⟨d1, ⟨d2, d3⟩, d4, d5⟩ | ⟨d1, -⟩ | ⟨d1, -⟩
      · rw [e] at d2 d3 d4 d5
        obtain ⟨s2, c1, c2⟩ := cmp_fail (F := 100000) (c := lf % 8) (by omega) (by omega) hx hB (f23 hfr) (by rw [wI_1, if_pos ⟨rfl, rfl, rfl⟩, if_neg (by omega), a2, d5]) b1 b2 d4
        exact ⟨_, s1, a1, Or.inl ⟨hne _ (by omega) (by omega), s2, c1, c2⟩⟩
      · omega
      · omega
    · obtain ⟨t1, t2⟩ := tx_z hx (f23 (v := s1.1 0 25 14) hfr) txp
      obtain ⟨s15, rf, b1, b2, b3, b4⟩ := zc1_ok (F := 100000) (g := g) (T := tkR f 0 n) (by omega) t1 t2 hp kB
      have e : rf = lf := Nat.le_antisymm ((hiff rf).mpr ((b3 rf).mp (Nat.le_refl _))) ((b3 lf).mpr ((hiff lf).mp (Nat.le_refl _)))
      rcases b4 with ⟨d1, -⟩ | ⟨d1, -, d4⟩ | ⟨-, d1, -⟩
      · omega
      · obtain ⟨s2, c1, c2⟩ := cmp_fail (F := 100000) (c := 6) (by omega) (by omega) hx hB (f23 hfr) (by rw [wI_1, if_pos ⟨rfl, rfl, rfl⟩, if_pos rfl, a2]) b1 b2 d4
        exact ⟨_, s1, a1, Or.inl ⟨hne _ (by omega) (by omega), s2, c1, c2⟩⟩
      · exact absurd hb d1
    · refine ⟨_, s1, a1, Or.inr ⟨rfl, fun sm hm => ?_⟩⟩
      have hFN : FN (kD n (tkR f 0 n) g D B) 1928 D := ((hiff 1928).mp (by omega)).2
      have hPF := pDs_ok hp
      have hS : SD D := ⟨n, tkR f 0 n, g, B, hn, hPF, zD, kB, hFN, hb⟩
      have hW : okW D.1.1 := hS.vd.1
      have fm : frm (fun g' r k => (g' = 0 ∧ r = 23 ∧ k = 2) ∨ (g' ≠ 0 ∧ g' ≠ g)) s1 sm := ((frm.refl.wI 0 23 2 _ (Or.inl ⟨rfl, rfl, rfl⟩)).trans (hm.imp (fun g' r k h => Or.inr h)))
      obtain ⟨s2, l1, l2, l3, l4⟩ := m_load (F := 100000) (g := g) (s := sm) (by omega) hW ((fm.1 _ _ _ (by omega)).trans (a3 0 (by omega)))
      have f2 : frm (fun g' r k => (g' = 0 ∧ ((r = 23 ∧ k = 2) ∨ (32 ≤ r ∧ r ≤ 34))) ∨ (g' ≠ 0 ∧ g' ≠ g)) s1 s2 := (fm.imp (fun g' r k h => by omega)).trans (l4.imp (fun g' r k h => by unfold XLd at h; omega))
      have fs2 : frm (fun g' r k => XW g g' r k ∨ (g' = 0 ∧ ((r = 23 ∧ k = 2) ∨ (32 ≤ r ∧ r ≤ 34))) ∨ (g' ≠ 0 ∧ g' ≠ g)) s s2 := (hfr.imp (fun g' r k h => Or.inl h)).trans (f2.imp (fun g' r k h => Or.inr h))
      have hC2 : RCp g D (foT (tkR f 0 n)) s2 := by
        refine ⟨fun j hj => (f2.1 _ _ _ (by omega)).trans (a3 j hj), ⟨(f2.1 _ _ _ (by omega)).trans a4.1, fun p c hp => (f2.1 _ _ _ (by omega)).trans (a4.2 p c hp)⟩, fun u x hx k hk => ⟨(f2.1 _ _ _ (by omega)).trans (a5 u x hx k hk).1, (f2.1 _ _ _ (by omega)).trans (a5 u x hx k hk).2⟩, a6.keep f2 (fun g' r k hx => by unfold XN at hx; omega), a7.keep f2 (fun r k _ _ => by omega), fun p e hp => (f2.1 _ _ _ (by omega)).trans (a8 p e hp), (f2.1 _ _ _ (by omega)).trans (a3 4 (by omega)), l2⟩
      have tx2 := fun g' r k (hQ : XW g g' r k ∨ (g' = 0 ∧ ((r = 23 ∧ k = 2) ∨ (32 ≤ r ∧ r ≤ 34))) ∨ (g' ≠ 0 ∧ g' ≠ g)) => (by unfold XW at hQ; omega : ¬ (g' = 0 ∧ ((r = 23 ∧ k = 1) ∨ r = 24 ∨ (r = 38 ∧ k = 2) ∨ r = 39)))
      obtain ⟨t1, t2⟩ := tx_z hx fs2 tx2
      have hx2 := tx_keep hx fs2 tx2
      obtain ⟨s15, rf, b1, b2, b3, b4⟩ := zc1_ok (F := 100000) (g := g) (T := tkR f 0 n) (by omega) t1 t2 hp kB
      have e : rf = lf := Nat.le_antisymm ((hiff rf).mpr ((b3 rf).mp (Nat.le_refl _))) ((b3 lf).mpr ((hiff lf).mp (Nat.le_refl _)))
      rcases b4 with ⟨d1, -⟩ | ⟨-, d1, -⟩ | ⟨-, -, d1, d2, d3⟩
      · omega
      · exact absurd d1 hb
      · have hx15 := tx_keep hx2 b2 (fun g' r k hQ => by unfold XPh at hQ; omega)
        obtain ⟨t3, t4⟩ := tx_z hx2 b2 (fun g' r k hQ => by unfold XPh at hQ; omega)
        obtain ⟨s3, c1, c2, c3, c4, c5, c6, c7⟩ := zc2_ok (F := 100000) (by omega) d1 t4 t3
        have f23' : frm (fun g' r k => XPh g' r k ∨ XSu g' r k) s2 s3 := (b2.imp (fun g' r k h => Or.inl h)).trans (c7.imp (fun g' r k h => Or.inr h))
        refine ⟨s2, s3, l1, by rw [zc_eq, b1, Option.bind_some]; exact c1, ⟨n, f, tx_keep hx15 c7 (fun g' r k hQ => by unfold XSu at hQ; omega)⟩, ?_, c3, D, foT (tkR f 0 n), n, f, RIv.mk ⟨hg, hS, hC2.keep f23' (fun g' r k hQ => by unfold XPh XSu at hQ; unfold AC; omega), RZp.keep ⟨d2, d3⟩ c7 (fun g' r k hQ => by unfold XSu at hQ; unfold AZ; omega), ⟨⟨c5, c4⟩, ⟨r, hp⟩, rfl, zl⟩, fun k hk => ?_⟩ (msk_f s3)⟩
        · rw [c2, f23'.1 _ _ _ (by unfold XPh XSu; omega), l4.1 _ _ _ (by unfold XLd; omega), hm.1 _ _ _ (by omega), wI_1, if_pos ⟨rfl, rfl, rfl⟩, a2]
        · have e33 : s3.2 0 33 k = 0 := (f23'.2 _ _ _ (by unfold XPh XSu; omega)).trans (l3 k hk).1
          have e34 : s3.2 0 34 k = 0 := (f23'.2 _ _ _ (by unfold XPh XSu; omega)).trans (l3 k hk).2
          rw [e33, e34, (c6 k hk).1, (c6 k hk).2]
          exact ⟨⟨rfl, rfl⟩, bW_0 _, bW_0 _⟩
end
