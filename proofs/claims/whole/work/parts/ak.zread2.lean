/-! PURE: the reference reads a text as the parser does -/
theorem tkR_mem (f : Nat → Nat) : ∀ (m p : Nat), ∀ t ∈ tkR f p m, p ≤ t.2 ∧ t.2 < p + m ∧ t.1 = f t.2
  | 0, p, t, h => by cases h
  | m + 1, p, t, h => by
    rw [tkR] at h
    by_cases hb : f p = 32
    · rw [if_pos hb] at h
      have := tkR_mem f m (p + 1) t h
      exact ⟨by omega, by omega, this.2.2⟩
    · rw [if_neg hb] at h
      cases h with
      | head => exact ⟨Nat.le_refl _, by show p < p + (m + 1); omega, rfl⟩
      | tail _ h =>
        have := tkR_mem f m (p + 1) t h
        exact ⟨by omega, by omega, this.2.2⟩
theorem pTbs_sg : ∀ (j : Nat) (r1 r2 : List Tok) (tb : List Tb), pTbs j r1 = .ok (tb, r2) → tb.length ≤ j ∧ (sg r2 = 35 → tb.length = j) ∧ (sg r1 = 35 ∨ r1 = r2)
  | 0, r1, r2, tb, h => by
    rw [pTbs] at h
    cases h
    exact ⟨Nat.le_refl _, fun _ => rfl, Or.inr rfl⟩
  | j + 1, [], r2, tb, h => by
    rw [pTbs] at h
    cases h
    exact ⟨Nat.zero_le _, fun e => absurd e (by show (0 : Nat) ≠ 35; omega), Or.inr rfl⟩
  | j + 1, (c, p) :: r1, r2, tb, h => by
    rw [pTbs] at h
    by_cases hc : c = 35
    · rw [if_pos hc] at h
      obtain ⟨t, r3, h1, h2⟩ := rb_ok h
      obtain ⟨u, r4, h3, h4⟩ := rb_ok h2
      obtain ⟨l, r5, h5, h6⟩ := rb_ok h4
      cases h6
      obtain ⟨a1, a2, a3⟩ := pTbs_sg j r4 r2 l h5
      exact ⟨by rw [List.length_cons]; omega, fun e => by rw [List.length_cons, a2 e], Or.inl hc⟩
    · rw [if_neg hc] at h
      cases h
      exact ⟨Nat.zero_le _, fun e => absurd e hc, Or.inr rfl⟩
/-- the standard form of a description, as the signs say it -/
def foT (T : List Tok) : List Nat := match pHd T with
  | .error _ => []
  | .ok (_, r1) => match pTbs 2 r1 with
    | .error _ => []
    | .ok (tb, r2) => (fmt false (T.map (·.1))).take ((fmt false (T.map (·.1))).length - (fmt false (r1.map (·.1))).length) ++ tb.flatMap tbPr ++ fmt false (r2.map (·.1))
theorem pBl_ok {tb : List Tb} {h : Hd} {r r' : List Tok} {D : Ds} (e : pBl tb h r = .ok (D, r')) : ∃ ws ss, D = (h.1, h.2.1, h.2.2, tb, ws, ss) ∧ sg r = 123 := by
  unfold pBl at e
  obtain ⟨ws, r1, e1, e2⟩ := rb_ok e
  obtain ⟨u, r2, e3, e4⟩ := rb_ok e1
  obtain ⟨ss, r3, e5, e6⟩ := rb_ok e2
  obtain ⟨p, e7⟩ := pTake_ok e3
  match r3, e6 with
  | [], e6 =>
    cases e6
    exact ⟨ws, ss, rfl, by rw [e7]; rfl⟩
  | _ :: _, e6 => cases e6
def zr0 (s : ax_σ) : ax_σ := ax_wI (ax_wI (ax_wI (ax_wI (ax_wI (ax_wI (ax_wI (ax_wI (ax_wI (ax_wI (ax_wI (ax_wI (ax_wI (s) 0 38 7 (nI 0)) 0 38 8 (nI 0)) 0 38 11 (nI 0)) 0 38 14 (nI 0)) 0 38 19 (nI 0)) 0 38 20 (nI 0)) 0 38 22 (nI 0)) 0 38 23 (nI 0)) 0 38 33 (nI 0)) 0 38 36 (nI 0)) 0 38 42 (nI 0)) 0 38 49 (nI 0)) 0 38 51 (nI 0)
section
variable {R F n : Nat} {f : Nat → Nat} {s s' : ax_σ}
theorem z_rest : ∃ s1, f_Z_restart s = some s1 ∧ zst0 s1 ∧ frm (XZ 0) s s1 := by
  refine ⟨zr0 s, rfl, ⟨rfl, rfl, rfl, rfl, rfl, rfl, rfl, rfl, rfl, rfl, rfl, rfl, rfl⟩, ?_⟩
  unfold zr0
  refine (((((((((((((frm.refl.wI _ _ _ _ ?_).wI _ _ _ _ ?_).wI _ _ _ _ ?_).wI _ _ _ _ ?_).wI _ _ _ _ ?_).wI _ _ _ _ ?_).wI _ _ _ _ ?_).wI _ _ _ _ ?_).wI _ _ _ _ ?_).wI _ _ _ _ ?_).wI _ _ _ _ ?_).wI _ _ _ _ ?_).wI _ _ _ _ ?_) <;> unfold XZ <;> omega
theorem zAll (hF : 241 ≤ F) (htx : ztx R n f s) (h0 : zst0 s) : zfn R F n f (tkR f 0 n) s 0 (pDs (tkR f 0 n)) (fun D s' => ZD0 D (foT (tkR f 0 n)) s') := by
  have hlen := tkR_len f n 0
  have hn := htx.1
  have hmem : ∀ t ∈ tkR f 0 n, t.1 < 128 ∧ t.2 ≤ 240 := fun t ht => by
    obtain ⟨a1, a2, a3⟩ := tkR_mem f n 0 t ht
    have := (htx.2.2 t.2 (by omega)).1
    omega
  generalize hT : tkR f 0 n = T at *
  obtain ⟨z7, z8, z11, z14, z19, z20, z22, z23, z33, z36, z42, z49, z51⟩ := h0
  have hE : ZE R n f 0 T (fmt false (T.map (·.1))) [] [] [] [] s := ⟨htx, z8, z7, ⟨z51, fun i c hi => (by cases hi)⟩, ⟨z36, fun i o hi => (by cases hi)⟩, ⟨z42, fun i o hi => (by cases hi)⟩, ⟨z49, fun i o hi => (by cases hi)⟩, ⟨by rw [List.length_nil]; omega, by rw [List.length_nil, List.length_nil]; omega, by rw [List.length_nil]; omega, by decide, hmem⟩, fun _ => List.nil_append _⟩
  rw [pDs_bl]
  refine zfn.bind (zHd hF hE ⟨z11, fun i x hi => (by cases hi)⟩) (fun hd r1 s1 e1 hK => ?_)
  obtain ⟨P1, a1, a2, a3, a4⟩ := hK
  rw [List.length_nil] at a4
  refine zfn.bind (zTbs hF 2 r1 [] _ P1 s1 rfl a1 ((a3.1 0 38 14 (by unfold XHq; omega)).trans z14) (fun u x hu => by cases hu) (by rw [List.length_nil]; omega)) (fun tb r2 s2 e2 hK => ?_)
  obtain ⟨T2, b1, b2, b3, b4, b5⟩ := hK
  rw [List.nil_append] at b3 b4
  obtain ⟨c1, c2, c3⟩ := pTbs_sg 2 r1 r2 tb e2
  have ff : frm XHp s s2 := (XHq.up a3).trans (XTq.up b5)
  have hz : zE0 s2 := ⟨(ff.1 0 38 19 (by unfold XHp; omega)).trans z19, (ff.1 0 38 20 (by unfold XHp; omega)).trans z20, (ff.1 0 38 22 (by unfold XHp; omega)).trans z22, (ff.1 0 38 23 (by unfold XHp; omega)).trans z23, (ff.1 0 38 33 (by unfold XHp; omega)).trans z33⟩
  have hr2 : r2.length ≤ 240 := by
    have := b1.2.2.2.2.2.2.2.1.2.1
    simp only [List.length_nil] at this
    omega
  refine zfn.weak (zBl (ph := 1) (D1 := hd) hF c1 c2 b1 b3 hz hr2) (fun D r s3 hx hf hB => ?_)
  obtain ⟨ws, ss, rfl, h123⟩ := pBl_ok hx
  have hT2 : T2 = foT T := by
    have k2 := b1.2.2.2.2.2.2.2.2 (Or.inl (by rw [h123]; rfl))
    have k1 := a1.2.2.2.2.2.2.2.2 (Or.inl (show isD (sg r1) = false from c3.elim (fun c3 => by rw [c3]; rfl) (fun c3 => by rw [c3, h123]; rfl)))
    unfold foT
    rw [e1]
    simp only
    rw [e2]
    simp only
    rw [← k2, ← k1, List.length_append, Nat.add_sub_cancel, List.take_left, List.append_assoc]
  obtain ⟨d1, d2, d3, d4, d5, d6, d7, d8, d9, d10⟩ := hB
  rw [hT2] at d6 d7
  refine ⟨⟨?_, fun i x hi => ?_⟩, ?_, ?_, d1, d2, d3, d4, d5, d6, d7, d8, d9, d10⟩
  · rw [hf.1 0 38 11 (by unfold XZ; omega), b5.1 0 38 11 (by unfold XTq; omega)]
    exact a2.1
  · rw [hf.2 0 41 i (by unfold XZ; omega), b5.2 0 41 i (by unfold XTq; omega), hf.1 0 42 i (by unfold XZ; omega), b5.1 0 42 i (by unfold XTq; omega)]
    exact a2.2 i x hi
  · rw [hf.1 0 38 14 (by unfold XZ; omega)]
    exact b3
  · exact b4.keep hf (fun r k h => by unfold XZ; omega)
/-- the reference's read: from the text's cells R -/
theorem z_read (hF : 241 ≤ F) (htx : ztx R n f s) : ∃ s1, f_Z_restart s = some s1 ∧ match pDs (tkR f 0 n) with
    | .ok (D, _) => ∃ s', Option.bind (lpG R F (nI n) F (nI 0) s1) (zfin F (nI n)) = some (nM, s') ∧ ZD0 D (foT (tkR f 0 n)) s' ∧ frm (XZ 0) s s'
    | .error r => ∃ s', Option.bind (lpG R F (nI n) F (nI 0) s1) (zfin F (nI n)) = some (nI (pl n r), s') ∧ frm (XZ 0) s s' := by
  obtain ⟨s1, a1, a2, a3⟩ := z_rest (s := s)
  refine ⟨s1, a1, ?_⟩
  have h := zAll hF (htx.keep a3) a2
  have hn := htx.1
  match hx : pDs (tkR f 0 n), h with
  | .ok (D, r), h =>
    obtain ⟨s', b1, b2, b3⟩ := h 0 n F (by omega) (by omega) rfl
    exact ⟨s', b1, b3 rfl, a3.trans b2⟩
  | .error r, h =>
    obtain ⟨s', b1, b2, b3⟩ := h (fun _ => True) 0 n F (by omega) (by omega) rfl
    exact ⟨s', b1, a3.trans b2⟩
end
