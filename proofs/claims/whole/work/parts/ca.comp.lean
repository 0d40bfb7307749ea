/-! PURE: what the class says of a text -/
section
variable {F g n : Nat} {f : Nat → Nat} {s : ax_σ} {D : Ds}
theorem rd_ok {r : List Tok} (hF : 10000 ≤ F) (hn : n ≤ 240) (hf : ∀ k, k < n → (32 ≤ f k ∧ f k ≤ 126) ∧ s.1 0 24 k = nI (f k)) (hp : pDs (tkR f 0 n) = .ok (D, r)) (hDB : DB D) (hl : (foT (tkR f 0 n)).length ≤ 264) (hz : ∃ s, ZX D s) : ∃ (B : Nat → Int32) (s' : ax_σ) (lf : Nat), okB D B ∧ lf ≤ 1928 ∧ (∀ m, m ≤ lf ↔ m ≤ 1928 ∧ FN (kD n (tkR f 0 n) g D B) m D) ∧ frm (XW g) s s' ∧ ((lf < 1928 ∧ f_R_read F g (nI n) s = some (nI (lf % 8), s') ∧ s'.1 0 25 14 = nI (lf / 8)) ∨ (lf = 1928 ∧ big D ∧ f_R_read F g (nI n) s = some (nI 6, s') ∧ s'.1 0 25 14 = -1) ∨ (lf = 1928 ∧ ¬ big D ∧ f_R_read F g (nI n) s = some (nI 0, s') ∧ s'.1 0 25 14 = -1 ∧ (∀ j, j < 8 → s'.1 g 1 j = nI (vN D j)) ∧ FP g (foT (tkR f 0 n)) s' ∧ TbC g D s' ∧ RL g (lsD D) s' ∧ PM g (prt D) s' ∧ (∀ p e, (TRD D)[p]? = some e → s'.1 g 20 p = nI (cdQ e)))) := by
  have hPF := pDs_ok hp
  have hO := hPF.tho hn hDB
  have h := rd_read (g := g) (F := F) (by omega) hn hf
  rw [hp] at h
  obtain ⟨s0, B, y1, y2, y3, y4, y5, y6, y7⟩ := h
  have hkB : okB D B := fun u x hx k hk => ⟨(y6 u x hx k hk).1, (y6 u x hx k hk).2.2⟩
  obtain ⟨s1, lf, a1, a2, a3, a4, a5⟩ := rd_checkAll (F := F) (by omega) hn hPF hDB y2
  obtain ⟨p1, p2, p3, p4, p5, p6, p7, p8, p9, p10⟩ := hPF.all hDB
  have hcD := cD_eq p5 p6 p7 p8 (kD n (tkR f 0 n) g D B) rfl
  rw [hcD] at y2
  unfold RBc at y2
  simp only [cLs, cP, cLf, cSk, cSp, cIn, cRg, cOq] at y2
  obtain ⟨⟨P, ⟨hA, hlf, hl2, hRC, hPl⟩, hmap⟩, hRL, hNM, -, -, hB3, -⟩ := y2
  have hPM := hRC.pm hmap
  have hrc : rdC n (tkR f 0 n) s0 := hA.1
  have f01 : frm (XW g) s0 s1 := a4.imp (fun g' r k hQ => by unfold XQ at hQ; unfold XW; omega)
  have hst : kst (kD n (tkR f 0 n) g D B) = D.2.1.1 := rfl
  have r1 := RGX_mx (st := D.2.1.1) p5 (fun t ht e2 e3 => ((p2 t (List.mem_append_left _ ht)).2 e2 e3).1) D.2.1.1 (Nat.le_refl _)
  have r2 := RGX_mx (st := D.2.1.1) p6 (fun t ht e2 e3 => ((p2 t (List.mem_append_right _ ht)).2 e2 e3).1) (max D.2.1.1 (D.2.1.1 + mx (dW D))) (by omega)
  rw [hst, r1, r2] at hNM
  have e5 : (trS D).length = wt spW (dSt D) := TR_len (f := spW) p6 (fun t ht h2 h3 => by unfold spW; rw [if_neg (p7 t ht)]) _ _ [] 0 0
  have num : ∀ j, j < 8 → s0.1 g 1 j = nI (vN D j) := by
    intro j hj
    rcases (by omega : j = 0 ∨ j = 1 ∨ j = 2 ∨ j = 3 ∨ j = 4 ∨ j = 5 ∨ j = 6 ∨ j = 7) with e | e | e | e | e | e | e | e <;> subst e
    · exact hNM.2 0 _ rfl
    · exact hNM.2 1 _ rfl
    · exact hNM.2 2 _ rfl
    · exact hNM.2 3 _ rfl
    · exact hNM.2 4 _ rfl
    · exact (hNM.2 5 _ rfl).trans (congrArg nI e5.symm)
    · exact hNM.2 6 _ rfl
    · refine (hNM.2 7 _ rfl).trans (congrArg nI ?_)
      show max (max D.2.1.1 (D.2.1.1 + mx (dW D))) (D.2.1.1 + mx (dSt D)) = max (mx (dW D)) (mx (dSt D)) + D.2.1.1
      omega
  by_cases hlf8 : lf = 1928
  · have hFN : FN (kD n (tkR f 0 n) g D B) 1928 D := ((a5 1928).mp (by omega)).2
    obtain ⟨gl1, gl2⟩ := sd_GL hn hPF hDB hFN
    have vd := sd_vD hn hPF hFN
    have c7 : s1.1 0 25 7 = (1928 : Int32) := by rw [a2, hlf8]; rfl
    have f2 : frm (XW g) s0 (ax_wI s1 0 25 14 (-1 : Int32)) := f01.wI _ _ _ _ (by unfold XW; omega)
    have f2q : frm (fun g' r k => g' = 0 ∧ 25 ≤ r) s0 (ax_wI s1 0 25 14 (-1 : Int32)) := (a4.imp (fun g' r k hQ => by unfold XQ at hQ; omega)).wI _ _ _ _ (by omega)
    have num2 : ∀ j, j < 8 → (ax_wI s1 0 25 14 (-1 : Int32)).1 g 1 j = nI (vN D j) := fun j hj => (f2q.1 _ _ _ (by omega)).trans (num j hj)
    have n4 : (ax_wI s1 0 25 14 (-1 : Int32)).1 g 1 ((4 : Int32)).toNatClampNeg = nI (wt skW (dW D)) := num2 4 (by omega)
    have n6 : (ax_wI s1 0 25 14 (-1 : Int32)).1 g 1 ((6 : Int32)).toNatClampNeg = nI (wt icW (dW D) + wt icW (dSt D)) := num2 6 (by omega)
    have n7 : (ax_wI s1 0 25 14 (-1 : Int32)).1 g 1 ((7 : Int32)).toNatClampNeg = nI (max (mx (dW D)) (mx (dSt D)) + D.2.1.1) := num2 7 (by omega)
    obtain ⟨sz, hz⟩ := hz
    have hb3 : wt skW (dW D) < 2 ^ 30 ∧ wt icW (dW D) + wt icW (dSt D) < 2 ^ 30 ∧ max (mx (dW D)) (mx (dSt D)) ≤ 240 := by
      obtain ⟨-, -, -, -, -, -, -, hq⟩ := z_layOut (F := 100000) (s := ax_wI sz 0 38 53 (nI 0)) (by omega) hO vd.2.1.2 p7 p8 gl1 gl2 (hz.keep (Q := fun g r k => g = 0 ∧ r = 38 ∧ k = 53) (frm.refl.wI 0 38 53 _ ⟨rfl, rfl, rfl⟩) (fun r k hx => by unfold XX at hx; omega)) (by rw [wI_1, if_pos ⟨rfl, rfl, rfl⟩])
      exact hq
    have hv1 : D.2.1.1 ≤ 4 := vd.2.1.2
    have hbig : (big D → f_P_isTooLarge g (ax_wI s1 0 25 14 (-1 : Int32)) = some (nI 1)) ∧ (¬ big D → f_P_isTooLarge g (ax_wI s1 0 25 14 (-1 : Int32)) = some (nI 0)) := by
      have hz7 : max (mx (dW D)) (mx (dSt D)) + D.2.1.1 < 2 ^ 31 := by omega
      unfold f_P_isTooLarge
      rw [n4, n6, n7]
      unfold big
      generalize wt skW (dW D) = x at hb3
      generalize wt icW (dW D) + wt icW (dSt D) = y at hb3
      generalize max (mx (dW D)) (mx (dSt D)) + D.2.1.1 = z at *
      have i4 : ax_in (4 : Int32) 8 = true := rfl
      have i6 : ax_in (6 : Int32) 8 = true := rfl
      have i7 : ax_in (7 : Int32) 8 = true := rfl
      rw [i4, i6, i7]
      simp only [cond_true]
      refine ⟨fun hb => ?_, fun hb => ?_⟩
      · by_cases b1 : 32 < x
        · rw [if_pos (by rw [c_32, nI_ltI (by omega) (by omega)]; exact b1)]; rfl
        · rw [if_neg (by rw [c_32, nI_ltI (by omega) (by omega)]; exact b1)]
          by_cases b2 : 400 < y
          · rw [if_pos (by rw [c_400, nI_ltI (by omega) (by omega)]; exact b2)]; rfl
          · rw [if_neg (by rw [c_400, nI_ltI (by omega) (by omega)]; exact b2), if_neg (by rw [c_8, nI_leI (by omega) (by omega)]; omega)]; rfl
      · rw [if_neg (by rw [c_32, nI_ltI (by omega) (by omega)]; omega), if_neg (by rw [c_400, nI_ltI (by omega) (by omega)]; omega), if_pos (by rw [c_8, nI_leI (by omega) (by omega)]; omega)]; rfl
    by_cases hbg : big D
    · refine ⟨B, _, lf, hkB, a3, a5, y7.trans f2, Or.inr (Or.inl ⟨hlf8, hbg, ?_, by rw [wI_1, if_pos ⟨rfl, rfl, rfl⟩]⟩)⟩
      rw [y1]
      unfold rdT2
      rw [a1, Option.bind_some, if_pos c7]
      simp only [ax_let]
      rw [hbig.1 hbg, Option.bind_some, if_neg (by decide)]
      rfl
    · have hRL2 := hRL.keep f2q (fun g' r k hx => by unfold XN at hx; omega)
      have hPM2 := hPM.keep f2q (fun r k _ _ => by omega)
      obtain ⟨s3, u1, u2, u3⟩ := rd_layOut (F := F) (g := g) hF hO p2 gl1 gl2 hbg hRL2
      have u3q : frm (fun g' r k => g' = g ∧ (r = 20 ∨ r = 21)) (ax_wI s1 0 25 14 (-1 : Int32)) s3 := u3
      have cell : ∀ r k, (r ≠ 20 ∧ r ≠ 21 ∧ r ≤ 22) → s3.1 g r k = s0.1 g r k := fun r k hr => (u3q.1 _ _ _ (by omega)).trans (f2q.1 _ _ _ (by omega))
      have rcell : ∀ r k, (r = 26 ∨ r = 27 ∨ (r = 25 ∧ k = 2)) → s3.1 0 r k = s0.1 0 r k := fun r k hr => (u3q.1 _ _ _ (by omega)).trans ((wI_1 ..).trans (by rw [if_neg (by omega)]; exact a4.1 _ _ _ (by unfold XQ; omega)))
      have hrc3 : rdC n (tkR f 0 n) s3 := by
        obtain ⟨h1, h2, h3, h4, h5, h6⟩ := hrc
        exact ⟨h1, h2, (rcell _ _ (by omega)).trans h3, fun i c p hi => ⟨(rcell _ _ (by omega)).trans (h4 i c p hi).1, (rcell _ _ (by omega)).trans (h4 i c p hi).2.1, (h4 i c p hi).2.2⟩, (rcell _ _ (by omega)).trans h5, (rcell _ _ (by omega)).trans h6⟩
      obtain ⟨s4, w1, w2, w3⟩ := rd_putForm (F := F) (g := g) (by omega) hrc3 hp y5 ((cell 1 3 (by omega)).trans (num 3 (by omega))) (fun u x hx k hk => ⟨(cell _ _ (by omega)).trans (y6 u x hx k hk).2.1, (y6 u x hx k hk).1⟩) ((cell _ _ (by omega)).trans y4) hl
      have w3q : frm (fun g' r k => g' = g ∧ (r = 22 ∨ (r = 0 ∧ k = 8))) s3 s4 := w3
      have cell4 : ∀ r k, (r ≠ 20 ∧ r ≠ 21 ∧ r ≠ 22 ∧ r ≠ 0 ∧ r ≤ 22) → s4.1 g r k = s0.1 g r k := fun r k hr => (w3q.1 _ _ _ (by omega)).trans (cell _ _ (by omega))
      have f4 : frm (XW g) s0 s4 := (f2.trans (u3q.imp (fun g' r k hQ => by unfold XW; omega))).trans (w3q.imp (fun g' r k hQ => by unfold XW; omega))
      refine ⟨B, s4, lf, hkB, a3, a5, y7.trans f4, Or.inr (Or.inr ⟨hlf8, hbg, ?_, ?_, fun j hj => (cell4 _ _ (by omega)).trans (num j hj), w2, fun u x hx k hk => ⟨(cell4 _ _ (by omega)).trans (y6 u x hx k hk).2.1, ?_⟩, (hRL2.keep u3 (fun g' r k hx => by unfold XN at hx; unfold XOr; omega)).keep w3 (fun g' r k hx => by unfold XN at hx; unfold XFm; omega), (hPM2.keep u3 (fun r k _ _ => by unfold XOr; omega)).keep w3 (fun r k _ _ => by unfold XFm; omega), fun p e hp => (w3q.1 _ _ _ (by omega)).trans (u2 p e hp)⟩)⟩
      · rw [y1]
        unfold rdT2
        rw [a1, Option.bind_some, if_pos c7]
        simp only [ax_let]
        rw [hbig.2 hbg, Option.bind_some, if_pos (by decide), u1, Option.bind_some, w1]
        rfl
      · by_cases hg : g = 0
        · exact (w3q.1 _ _ _ (by omega)).trans ((u3q.1 _ _ _ (by omega)).trans (by rw [wI_1, if_pos ⟨rfl, rfl, rfl⟩]))
        · exact (w3q.1 _ _ _ (by omega)).trans ((u3q.1 _ _ _ (by omega)).trans (by rw [wI_1, if_pos ⟨rfl, rfl, rfl⟩]))
      · have hu := get_lt hx
        have hu2 : (dT D).length ≤ 2 := y5
        have hu : u < (dT D).length := hu
        exact (cell4 _ _ (by omega)).trans ((hB3 _ (by omega)).trans (y6 u x hx k hk).2.2)
  · have c7 : ¬ s1.1 0 25 7 = (1928 : Int32) := by
      rw [a2, show (1928 : Int32) = nI 1928 from rfl, nI_eq (by omega) (by omega)]
      exact hlf8
    refine ⟨B, ax_wI s1 0 25 14 (nI (lf / 8)), lf, hkB, a3, a5, y7.trans (f01.wI _ _ _ _ (by unfold XW; omega)), Or.inl ⟨by omega, ?_, by rw [wI_1, if_pos ⟨rfl, rfl, rfl⟩]⟩⟩
    rw [y1]
    unfold rdT2
    rw [a1, Option.bind_some, if_neg c7]
    simp only [ax_let]
    have d8 : nI lf / (8 : Int32) = nI (lf / 8) := by rw [c_8, nI_div (by omega) (by omega)]
    rw [a2, d8, wI_1, if_neg (by omega), a2, d8, c_8, nI_mul, nI_sub (by omega)]
    congr 4
    omega
end
