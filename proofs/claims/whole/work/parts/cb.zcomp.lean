/-! PURE: what the reference says of a text -/
def XPh (g r k : Nat) : Prop := g = 0 ∧ ((41 ≤ r ∧ r ≤ 78) ∨ (r = 38 ∧ (k = 0 ∨ 7 ≤ k)))
/-- compile as far as it says what is wrong -/
def zc1 (F : Nat) (s : ax_σ) : Option ax_σ :=
  ax_let (ax_wI s 0 38 0 (0 : Int32)) (fun s1 =>
    Option.bind (f_Z_read_t F (s1.1 0 38 2) s1) (fun (r2, s3) =>
      Option.bind (
        if r2 = (-1 : Int32) then
          some (0 : Int32)
        else
          some (1 : Int32)) (fun v6 =>
        ax_let (ax_wI s3 0 38 53 v6) (fun s7 =>
          ax_let (ax_wI s7 0 38 54 r2) (fun s8 =>
              if r2 = (-1 : Int32) then
                Option.bind (f_Z_checkAll F s8) (fun s9 =>
                  if (s9.1 0 38 53) = (0 : Int32) then
                    Option.bind (f_Z_layOut F s9) (fun s11 =>
                      some s11)
                  else
                    some s9)
              else
                some s8)))))
def zc2 (F : Nat) (s15 : ax_σ) : Option (Int32 × ax_σ) :=
              Option.bind (
                Option.bind (
                  if (s15.1 0 38 53) = (0 : Int32) then
                    some true
                  else
                    if (s15.1 0 38 53) = (6 : Int32) then
                      some true
                    else
                      some false) (fun w18 => bif w18 then
                  some (-1 : Int32)
                else
                  some (s15.1 0 38 54))) (fun v19 =>
                ax_let (ax_wI s15 0 38 6 v19) (fun s20 =>
                  if (s15.1 0 38 53) = (0 : Int32) then
                    ax_let (ax_wI s20 0 38 5 (1 : Int32)) (fun s28 =>
                      ax_let (ax_wI s28 0 38 4 (s28.1 0 38 2)) (fun s29 =>
                        Option.bind (lp_Z_compile_103 F (s15.1 0 38 53) F (0 : Int32) s29) (fun s34 =>
                          Option.bind (lp_Z_compile_131 F (s15.1 0 38 53) F (0 : Int32) s34) (fun s40 =>
                            some (((s15.1 0 38 53), s40))))))
                  else
                    if (s20.1 0 38 5) = (0 : Int32) then
                      some (((s15.1 0 38 53), s20))
                    else
                      Option.bind (f_Z_read_s F (s20.1 0 38 4) s20) (fun (r21, s22) =>
                        ax_let (ax_wI s22 0 38 53 (0 : Int32)) (fun s24 =>
                          Option.bind (f_Z_layOut F s24) (fun s25 =>
                            some (((s15.1 0 38 53), s25)))))))
def zcm (F : Nat) (r2 : Int32) (s8 : ax_σ) : Option ax_σ :=
              if r2 = (-1 : Int32) then
                Option.bind (f_Z_checkAll F s8) (fun s9 =>
                  if (s9.1 0 38 53) = (0 : Int32) then
                    Option.bind (f_Z_layOut F s9) (fun s11 =>
                      some s11)
                  else
                    some s9)
              else
                some s8
theorem zc_eq (F : Nat) (s : ax_σ) : f_Z_compile F s = Option.bind (zc1 F s) (zc2 F) := by
  have e1 : f_Z_compile F s = Option.bind (f_Z_read_t F ((ax_wI s 0 38 0 (0 : Int32)).1 0 38 2) (ax_wI s 0 38 0 (0 : Int32))) (fun w => Option.bind (if w.1 = (-1 : Int32) then some (0 : Int32) else some (1 : Int32)) (fun v6 => Option.bind (zcm F w.1 (ax_wI (ax_wI w.2 0 38 53 v6) 0 38 54 w.1)) (zc2 F))) := rfl
  have e2 : zc1 F s = Option.bind (f_Z_read_t F ((ax_wI s 0 38 0 (0 : Int32)).1 0 38 2) (ax_wI s 0 38 0 (0 : Int32))) (fun w => Option.bind (if w.1 = (-1 : Int32) then some (0 : Int32) else some (1 : Int32)) (fun v6 => zcm F w.1 (ax_wI (ax_wI w.2 0 38 53 v6) 0 38 54 w.1))) := rfl
  rw [e1, e2, Option.bind_assoc]
  congr 1
  funext w
  rw [Option.bind_assoc]
section
variable {F n : Nat} {f : Nat → Nat} {s : ax_σ} {D : Ds}
theorem z_rdE {r : List Tok} (hF : 241 ≤ F) (htx : ztx 39 n f s) (hp : pDs (tkR f 0 n) = .error r) : ¬ nI (pl n r) = (-1 : Int32) := by
  obtain ⟨s1, a1, a2, a3⟩ := z_rest (s := s)
  have h := zAll hF (htx.keep a3) a2
  have hn := htx.1
  rw [hp] at h
  obtain ⟨s', b1, b2, b3⟩ := h (fun _ => False) 0 n F (by omega) (by omega) rfl
  exact fun e => b3 e
theorem zc1_err {r : List Tok} (hF : 241 ≤ F) (htx : ztx 39 n f s) (h2 : s.1 0 38 2 = nI n) (hp : pDs (tkR f 0 n) = .error r) (hr : ¬ nI (pl n r) = (-1 : Int32)) : ∃ s', zc1 F s = some s' ∧ s'.1 0 38 53 = nI 1 ∧ s'.1 0 38 54 = nI (pl n r) ∧ frm XPh s s' := by
  have f1 : frm XPh s (ax_wI s 0 38 0 (0 : Int32)) := frm.refl.wI _ _ _ _ (by unfold XPh; omega)
  have htx1 : ztx 39 n f (ax_wI s 0 38 0 (0 : Int32)) := ⟨htx.1, htx.2.1, fun k hk => ⟨(htx.2.2 k hk).1, (f1.1 _ _ _ (by unfold XPh; omega)).trans (htx.2.2 k hk).2⟩⟩
  obtain ⟨sr, a1, a2⟩ := z_read (F := F) hF htx1
  rw [hp] at a2
  obtain ⟨s3, b1, b2⟩ := a2
  have h2' : (ax_wI s 0 38 0 (0 : Int32)).1 0 38 2 = nI n := (f1.1 _ _ _ (by unfold XPh; omega)).trans h2
  have hread : f_Z_read_t F (nI n) (ax_wI s 0 38 0 (0 : Int32)) = some (nI (pl n r), s3) := by
    rw [zr_t, a1, Option.bind_some]
    exact b1
  refine ⟨ax_wI (ax_wI s3 0 38 53 (1 : Int32)) 0 38 54 (nI (pl n r)), ?_, ?_, ?_, ((f1.trans (b2.imp (fun g r k hQ => by unfold XZ at hQ; unfold XPh; omega))).wI _ _ _ _ (by unfold XPh; omega)).wI _ _ _ _ (by unfold XPh; omega)⟩
  · unfold zc1
    simp only [ax_let]
    rw [h2', hread]
    simp only [Option.bind_some]
    rw [if_neg hr, Option.bind_some, if_neg hr]
  · simp (disch := omega) only [wI_1, wI_2, wL_1, wL_2, true_and, and_true, and_self, false_and, and_false, if_true, if_false, if_pos, if_neg]
    rfl
  · simp (disch := omega) only [wI_1, wI_2, wL_1, wL_2, true_and, and_true, and_self, false_and, and_false, if_true, if_false, if_pos, if_neg]
theorem zc1_ok {g : Nat} {r T : List Tok} {B : Nat → Int32} (hF : 100000 ≤ F) (htx : ztx 39 n f s) (h2 : s.1 0 38 2 = nI n) (hp : pDs (tkR f 0 n) = .ok (D, r)) (hB : okB D B) : ∃ s' rf, zc1 F s = some s' ∧ frm XPh s s' ∧ (∀ m, m ≤ rf ↔ m ≤ 1928 ∧ FN (kD n T g D B) m D) ∧ ((rf < 1928 ∧ (1 ≤ rf % 8 ∧ rf % 8 < 6) ∧ s'.1 0 38 53 = nI (rf % 8) ∧ s'.1 0 38 54 = nI (rf / 8)) ∨ (rf = 1928 ∧ big D ∧ s'.1 0 38 53 = nI 6) ∨ (rf = 1928 ∧ ¬ big D ∧ s'.1 0 38 53 = nI 0 ∧ MZ D s' ∧ ZP (foT (tkR f 0 n)) s')) := by
  have hn := htx.1
  have hPF := pDs_ok hp
  have f1 : frm XPh s (ax_wI s 0 38 0 (0 : Int32)) := frm.refl.wI _ _ _ _ (by unfold XPh; omega)
  have htx1 : ztx 39 n f (ax_wI s 0 38 0 (0 : Int32)) := ⟨htx.1, htx.2.1, fun k hk => ⟨(htx.2.2 k hk).1, (f1.1 _ _ _ (by unfold XPh; omega)).trans (htx.2.2 k hk).2⟩⟩
  obtain ⟨sr, a1, a2⟩ := z_read (F := F) (by omega) htx1
  rw [hp] at a2
  obtain ⟨s3, b1, b2, b3⟩ := a2
  obtain ⟨hZ, hDB, hZP, hPl⟩ := b2.zx
  have hO := hPF.tho hn hDB
  obtain ⟨p1, p2, p3, p4, p5, p6, p7, p8, p9, p10⟩ := hPF.all hDB
  have h2' : (ax_wI s 0 38 0 (0 : Int32)).1 0 38 2 = nI n := (f1.1 _ _ _ (by unfold XPh; omega)).trans h2
  have hread : f_Z_read_t F (nI n) (ax_wI s 0 38 0 (0 : Int32)) = some ((-1 : Int32), s3) := by
    rw [zr_t, a1, Option.bind_some]
    exact b1
  have f38 : frm (fun g r k => g = 0 ∧ r = 38 ∧ (k = 53 ∨ k = 54)) s3 (ax_wI (ax_wI s3 0 38 53 (0 : Int32)) 0 38 54 (-1 : Int32)) := (frm.refl.wI _ _ _ _ (by omega)).wI _ _ _ _ (by omega)
  have hZ8 := hZ.keep f38 (fun r k hx => by unfold XX at hx; omega)
  obtain ⟨s9, rf, c1, c2, c3, c4⟩ := z_checkAll (F := F) (T := T) (g := g) (by omega) hn hPF hDB hB hZ8
  have f9 : frm XPh s s9 := ((f1.trans (b3.imp (fun g r k hQ => by unfold XZ at hQ; unfold XPh; omega))).trans (f38.imp (fun g r k hQ => by unfold XPh; omega))).trans (c3.imp (fun g r k hQ => by unfold XG XF X53 X74 at hQ; unfold XPh; omega))
  have start : ∀ x, (if (s9.1 0 38 53) = (0 : Int32) then Option.bind (f_Z_layOut F s9) (fun s11 => some s11) else some s9) = some x → zc1 F s = some x := by
    intro x hx
    unfold zc1
    simp only [ax_let]
    rw [h2', hread]
    simp only [Option.bind_some, if_true]
    rw [c1, Option.bind_some]
    exact hx
  by_cases h8 : rf = 1928
  · have hFN : FN (kD n T g D B) 1928 D := ((c4 1928).mp (by omega)).2
    obtain ⟨gl1, gl2⟩ := sd_GL hn hPF hDB hFN
    have vd := sd_vD hn hPF hFN
    have h53 : s9.1 0 38 53 = nI 0 := by
      rcases c2 with ⟨-, e⟩ | ⟨p, c, e, ⟨e1, e2⟩, e3, -⟩
      · exact e
      · omega
    have hZ9 := hZ8.keep c3 (fun r k hx hQ => by unfold XX at hx; unfold XG XF X53 X74 at hQ; omega)
    obtain ⟨s11, d1, d2, d3, d4, d5, d6, -⟩ := z_layOut (F := F) hF hO vd.2.1.2 p7 p8 gl1 gl2 hZ9 h53
    have f11 : frm XPh s s11 := f9.trans (d6.imp (fun g r k hQ => by unfold XA at hQ; unfold XPh; omega))
    refine ⟨s11, rf, start _ (by rw [if_pos (show s9.1 0 38 53 = (0 : Int32) from h53), d1]; rfl), f11, c4, ?_⟩
    by_cases hb : big D
    · exact Or.inr (Or.inl ⟨h8, hb, d4 hb⟩)
    · exact Or.inr (Or.inr ⟨h8, hb, d5 hb, ⟨d2, d3⟩, ((hZP.keep f38 (fun r k hx => by omega)).keep c3 (fun r k hx hQ => by unfold XG XF X53 X74 at hQ; omega)).keep d6 (fun r k hx hQ => by unfold XA at hQ; omega)⟩)
  · rcases c2 with ⟨e, -⟩ | ⟨p, c, e, ⟨e1, e2⟩, e3, e4, e5⟩
    · exact absurd e h8
    · refine ⟨s9, rf, start _ (by rw [if_neg (by rw [e4, c_0, nI_eq (by omega) (by omega)]; omega)]), f9, c4, Or.inl ⟨by omega, by omega, by rw [e4]; congr 1; omega, by rw [e5]; congr 1; omega⟩⟩
/-- it says what is wrong: no program -/
theorem zc2_no {c : Nat} (hc : c ≠ 0 ∧ c < 8) (h53 : s.1 0 38 53 = nI c) (h5 : s.1 0 38 5 = 0) : zc2 F s = some (nI c, ax_wI s 0 38 6 (if c = 6 then -1 else s.1 0 38 54)) := by
  have e0 : ¬ nI c = (0 : Int32) := by rw [c_0, nI_eq (by omega) (by omega)]; exact hc.1
  have h5' : ∀ v, (ax_wI s 0 38 6 v).1 0 38 5 = 0 := fun v => by rw [wI_1, if_neg (by omega)]; exact h5
  unfold zc2
  simp only [ax_let]
  rw [h53, if_neg e0]
  by_cases h6 : c = 6
  · rw [h6, if_pos (show nI 6 = (6 : Int32) from rfl), if_pos rfl]
    simp only [Option.bind_some, cond_true]
    rw [if_neg (by decide), if_pos (h5' _)]
  · rw [if_neg (by rw [c_6, nI_eq (by omega) (by omega)]; exact h6), if_neg h6]
    simp only [Option.bind_some, cond_false]
    rw [if_neg e0, if_pos (h5' _)]
/-- it says what is wrong: the program before is read again -/
def XRd (g r k : Nat) : Prop := g = 0 ∧ ((41 ≤ r ∧ r ≤ 78) ∨ (r = 38 ∧ (k = 6 ∨ 7 ≤ k)))
theorem zc2_has {c m : Nat} {h : Nat → Nat} {Pr : List Nat} (hF : 100000 ≤ F) (hc : c ≠ 0 ∧ c < 8) (h53 : s.1 0 38 53 = nI c) (h5 : s.1 0 38 5 = 1) (hS : SD D) (hs : RSp D Pr m h s) : ∃ s', zc2 F s = some (nI c, s') ∧ s'.1 0 38 6 = (if c = 6 then -1 else s.1 0 38 54) ∧ MZ D s' ∧ ZP Pr s' ∧ frm XRd s s' := by
  have e0 : ¬ nI c = (0 : Int32) := by rw [c_0, nI_eq (by omega) (by omega)]; exact hc.1
  generalize hv : (if c = 6 then (-1 : Int32) else s.1 0 38 54) = v
  have f1 : frm XRd s (ax_wI s 0 38 6 v) := frm.refl.wI _ _ _ _ (by unfold XRd; omega)
  obtain ⟨⟨htx, h4⟩, ⟨r, hp⟩, hfo, hPl⟩ := hs.keep f1 (fun g' r k hQ => by unfold XRd at hQ; omega)
  obtain ⟨sr, a1, a2⟩ := z_read (F := F) (by omega) htx
  rw [hp] at a2
  obtain ⟨s3, b1, b2, b3⟩ := a2
  obtain ⟨hZ, hDB, hZP, -⟩ := b2.zx
  have hread : f_Z_read_s F (nI m) (ax_wI s 0 38 6 v) = some (nM, s3) := by
    rw [zr_s, a1, Option.bind_some]
    exact b1
  obtain ⟨n0, T, g, B, hn, hP, hB, hkB, hFN, hbig⟩ := hS
  have hO := hP.tho hn hB
  obtain ⟨p1, p2, p3, p4, p5, p6, p7, p8, p9, p10⟩ := hP.all hB
  obtain ⟨gl1, gl2⟩ := sd_GL hn hP hB hFN
  have vd := sd_vD hn hP hFN
  have f38 : frm (fun g r k => g = 0 ∧ r = 38 ∧ k = 53) s3 (ax_wI s3 0 38 53 (0 : Int32)) := frm.refl.wI _ _ _ _ (by omega)
  obtain ⟨s11, d1, d2, d3, d4, d5, d6, -⟩ := z_layOut (F := F) (s := ax_wI s3 0 38 53 (0 : Int32)) hF hO vd.2.1.2 p7 p8 gl1 gl2 (hZ.keep f38 (fun r k hx => by unfold XX at hx; omega)) (by rw [wI_1, if_pos ⟨rfl, rfl, rfl⟩]; rfl)
  have f11 : frm XRd s s11 := ((f1.trans (b3.imp (fun g r k hQ => by unfold XZ at hQ; unfold XRd; omega))).trans (f38.imp (fun g r k hQ => by unfold XRd; omega))).trans (d6.imp (fun g r k hQ => by unfold XA at hQ; unfold XRd; omega))
  have e6 : s11.1 0 38 6 = v := by
    rw [d6.1 _ _ _ (by unfold XA; omega), f38.1 _ _ _ (by omega), b3.1 _ _ _ (by unfold XZ; omega), wI_1, if_pos ⟨rfl, rfl, rfl⟩]
  refine ⟨s11, ?_, e6, ⟨d2, d3⟩, by rw [← hfo]; exact (hZP.keep f38 (fun r k hx => by omega)).keep d6 (fun r k hx hQ => by unfold XA at hQ; omega), f11⟩
  have h5' : ¬ (ax_wI s 0 38 6 v).1 0 38 5 = 0 := by rw [wI_1, if_neg (by omega), h5]; decide
  have tail : (if (ax_wI s 0 38 6 v).1 0 38 5 = (0 : Int32) then some (nI c, ax_wI s 0 38 6 v) else Option.bind (f_Z_read_s F ((ax_wI s 0 38 6 v).1 0 38 4) (ax_wI s 0 38 6 v)) (fun x => Option.bind (f_Z_layOut F (ax_wI x.2 0 38 53 (0 : Int32))) (fun s25 => some (nI c, s25)))) = some (nI c, s11) := by
    rw [if_neg h5', h4, hread]
    simp only [Option.bind_some]
    rw [d1, Option.bind_some]
  unfold zc2
  simp only [ax_let]
  rw [h53, if_neg e0]
  by_cases h6 : c = 6
  · rw [if_pos h6] at hv
    rw [if_pos (show nI c = (6 : Int32) by rw [h6]; rfl)]
    simp only [Option.bind_some, cond_true]
    rw [if_neg e0, hv]
    exact tail
  · rw [if_neg h6] at hv
    rw [if_neg (by rw [c_6, nI_eq (by omega) (by omega)]; exact h6)]
    simp only [Option.bind_some, cond_false]
    rw [if_neg e0, hv]
    exact tail
end
