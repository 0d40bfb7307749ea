/-! PURE: the standard form is that of the signs -/
theorem fmt_ap : ∀ (a b : List Nat) (w : Bool), isD (b.headD 0) = false → fmt w (a ++ b) = fmt w a ++ fmt false b
  | [], b, w, hb => by rw [List.nil_append, fmt, List.nil_append, fmt_w hb]
  | c :: a, b, w, hb => by
    have hh : isD ((a ++ b).headD 0) = isD (a.headD 0) := by
      match a with
      | [] => rw [List.nil_append, hb]; rfl
      | d :: a => rfl
    rw [List.cons_append, fmt, fmt, hh]
    split
    · exact fmt_ap a b w hb
    · rw [fmt_ap a b _ hb, List.cons_append]
theorem pSz_sg {k : Nat} {ts r : List Tok} {a : Nat × Nat} (h : pSz k ts = .ok (a, r)) : ∃ w, ts = w ++ r ∧ ∀ t ∈ w, t.1 ≠ 35 ∧ t.1 ≠ 123 := by
  unfold pSz at h
  obtain ⟨⟨v, q⟩, r1, h1, h2⟩ := rb_ok h
  obtain ⟨u, r2, h3, h4⟩ := rb_ok h2
  obtain ⟨q2, e2⟩ := pTake_ok h3
  obtain ⟨w, e1, -⟩ := pNum_sx (pNumR_ok h1)
  obtain ⟨ds, d1, d2, -⟩ := pNum_ds (pNumR_ok h1)
  cases h4
  refine ⟨w ++ [(szC k, q2)], by rw [e1, e2, List.append_assoc]; rfl, fun t ht => ?_⟩
  rcases List.mem_append.mp ht with ht | ht
  · rw [e1, List.map_append] at d1
    have := List.append_cancel_right d1
    have hm : t.1 ∈ ds := by rw [← this]; exact List.mem_map.mpr ⟨t, ht, rfl⟩
    have := isD_i.mp (d2 _ hm)
    omega
  · rw [List.mem_singleton.mp ht]
    show szC k ≠ 35 ∧ szC k ≠ 123
    unfold szC
    split <;> omega
theorem num_sg {ts r : List Tok} {v p : Nat} (h : pNum ts = some (v, p, r)) : ∃ w, ts = w ++ r ∧ ∀ t ∈ w, 48 ≤ t.1 ∧ t.1 ≤ 57 := by
  obtain ⟨w, e1, -⟩ := pNum_sx h
  obtain ⟨ds, d1, d2, -⟩ := pNum_ds h
  refine ⟨w, e1, fun t ht => ?_⟩
  rw [e1, List.map_append] at d1
  have := List.append_cancel_right d1
  have hm : t.1 ∈ ds := by rw [← this]; exact List.mem_map.mpr ⟨t, ht, rfl⟩
  exact isD_i.mp (d2 _ hm)
theorem pHex_sg : ∀ (j : Nat) (ts r : List Tok) (l : List Nat), pHex j ts = .ok (l, r) → ∃ w, ts = w ++ r ∧ ∀ t ∈ w, t.1 < 123
  | 0, ts, r, l, h => by cases h; exact ⟨[], rfl, fun t ht => absurd ht List.not_mem_nil⟩
  | j + 1, [], r, l, h => by cases h
  | j + 1, (c, p) :: ts, r, l, h => by
    rw [pHex] at h
    match hv : hexv c with
    | none => rw [hv] at h; cases h
    | some v =>
      rw [hv] at h
      obtain ⟨l', r1, h1, h2⟩ := rb_ok h
      cases h2
      obtain ⟨w, e, hw⟩ := pHex_sg j ts r l' h1
      refine ⟨(c, p) :: w, by rw [e]; rfl, fun t ht => ?_⟩
      cases ht with
      | head =>
        show c < 123
        unfold hexv at hv
        split at hv
        · rename_i hd; have := isD_i.mp hd; omega
        · split at hv
          · omega
          · cases hv
      | tail _ ht => exact hw t ht
theorem pTb_sg {ts r : List Tok} {x : Tb} (h : pTb ts = .ok (x, r)) : ∃ w, ts = w ++ r ∧ ∀ t ∈ w, t.1 < 123 := by
  match ts, h with
  | [], h => cases h
  | (c, p) :: ts, h =>
    rw [pTb] at h
    by_cases hc : c = 42
    · rw [if_pos hc] at h
      obtain ⟨⟨v, q⟩, r1, h1, h2⟩ := rb_ok h
      obtain ⟨u, r2, h3, h4⟩ := rb_ok h2
      obtain ⟨⟨v2, q2⟩, r3, h5, h6⟩ := rb_ok h4
      obtain ⟨q3, e3⟩ := pTake_ok h3
      obtain ⟨w1, e1, m1⟩ := num_sg (pNumR_ok h1)
      obtain ⟨w5, e5, m5⟩ := num_sg (pNumR_ok h5)
      cases h6
      refine ⟨(c, p) :: w1 ++ (43, q3) :: w5, by rw [e1, e3, e5]; simp only [List.cons_append, List.append_assoc], fun t ht => ?_⟩
      rcases List.mem_append.mp ht with ht | ht
      · cases ht with
        | head => show c < 123; omega
        | tail _ ht => have := m1 t ht; omega
      · cases ht with
        | head => show (43 : Nat) < 123; omega
        | tail _ ht => have := m5 t ht; omega
    · rw [if_neg hc] at h
      obtain ⟨l, r1, h1, h2⟩ := rb_ok h
      cases h2
      exact pHex_sg _ _ _ _ h1
theorem pTbs_sg2 : ∀ (j : Nat) (ts r : List Tok) (l : List Tb), pTbs j ts = .ok (l, r) → ∃ w, ts = w ++ r ∧ ∀ t ∈ w, t.1 < 123
  | 0, ts, r, l, h => by cases h; exact ⟨[], rfl, fun t ht => absurd ht List.not_mem_nil⟩
  | j + 1, [], r, l, h => by cases h; exact ⟨[], rfl, fun t ht => absurd ht List.not_mem_nil⟩
  | j + 1, (c, p) :: ts, r, l, h => by
    rw [pTbs] at h
    by_cases hc : c = 35
    · rw [if_pos hc] at h
      obtain ⟨t, r3, h1, h2⟩ := rb_ok h
      obtain ⟨u, r4, h3, h4⟩ := rb_ok h2
      obtain ⟨l', r5, h5, h6⟩ := rb_ok h4
      cases h6
      obtain ⟨q, e3⟩ := pTake_ok h3
      obtain ⟨w1, e1, o1⟩ := pTb_sg h1
      obtain ⟨w5, e5, o5⟩ := pTbs_sg2 j r4 r l' h5
      refine ⟨(c, p) :: w1 ++ (59, q) :: w5, by rw [e1, e3, e5]; simp only [List.cons_append, List.append_assoc], fun t ht => ?_⟩
      rcases List.mem_append.mp ht with ht | ht
      · cases ht with
        | head => show c < 123; omega
        | tail _ ht => exact o1 t ht
      · cases ht with
        | head => show (59 : Nat) < 123; omega
        | tail _ ht => exact o5 t ht
    · rw [if_neg hc] at h
      cases h
      exact ⟨[], rfl, fun t ht => absurd ht List.not_mem_nil⟩
/-- the pieces of a description's signs -/
theorem foT_eq {T r : List Tok} {D : Ds} (h : pDs T = .ok (D, r)) : ∃ w0 wt r2 : List Tok, T = w0 ++ (wt ++ r2) ∧ (∀ t ∈ w0, t.1 ≠ 35 ∧ t.1 ≠ 123) ∧ (∀ t ∈ wt, t.1 < 123) ∧ (sg (wt ++ r2) = 35 ∨ sg (wt ++ r2) = 123) ∧ sg r2 = 123 ∧ foT T = fmt false (w0.map (·.1)) ++ (dT D).flatMap tbPr ++ fmt false (r2.map (·.1)) := by
  rw [pDs_bl] at h
  obtain ⟨hd, r1, h1, h2⟩ := rb_ok h
  obtain ⟨tb, r2, h3, h4⟩ := rb_ok h2
  have hh := h1
  unfold pHd at h1
  obtain ⟨a, r3, h5, h6⟩ := rb_ok h1
  obtain ⟨b, r4, h7, h8⟩ := rb_ok h6
  obtain ⟨c, r5, h9, h10⟩ := rb_ok h8
  cases h10
  obtain ⟨wa, ea, ma⟩ := pSz_sg h5
  obtain ⟨wb, eb, mb⟩ := pSz_sg h7
  obtain ⟨wc, ec, mc⟩ := pSz_sg h9
  obtain ⟨wt, et, mt⟩ := pTbs_sg2 2 _ _ _ h3
  obtain ⟨ws, ss, eD, e123⟩ := pBl_ok h4
  obtain ⟨-, -, c3⟩ := pTbs_sg 2 _ _ _ h3
  have hs1 : sg (wt ++ r2) = 35 ∨ sg (wt ++ r2) = 123 := by
    rw [← et]
    rcases c3 with c3 | c3
    · exact Or.inl c3
    · exact Or.inr (by rw [c3]; exact e123)
  refine ⟨wa ++ wb ++ wc, wt, r2, by rw [ea, eb, ec, et]; simp only [List.append_assoc], fun t ht => ?_, mt, hs1, e123, ?_⟩
  · rcases List.mem_append.mp ht with ht | ht
    · rcases List.mem_append.mp ht with ht | ht
      · exact ma t ht
      · exact mb t ht
    · exact mc t ht
  · have hT : T = wa ++ wb ++ wc ++ r1 := by rw [ea, eb, ec]; simp only [List.append_assoc]
    have hd1 : isD (sg r1) = false := by
      rw [et]
      rcases hs1 with h | h <;> rw [h] <;> rfl
    unfold foT
    rw [hh]
    simp only
    rw [h3]
    simp only
    rw [eD]
    show _ = fmt false ((wa ++ wb ++ wc).map (·.1)) ++ tb.flatMap tbPr ++ _
    congr 2
    conv => lhs; rw [hT]
    rw [List.map_append, fmt_ap _ _ _ (by rw [sg_map]; exact hd1), List.length_append, Nat.add_sub_cancel, List.take_left]
theorem sgM_of {n k : Nat} {T a b : List Tok} {s : ax_σ} (h : rdC n T s) (hk : T = a ++ b) {w : List Tok} {pre : List Tok} (hp : a = pre ++ w) (hkl : pre.length = k) (hb : isD (sg b) = false) : sgM k (w.map (·.1)) s := by
  obtain ⟨h1, h2, h3, h4, h5, h6⟩ := h
  have hTl : T.length = k + w.length + b.length := by rw [hk, hp]; simp only [List.length_append]; omega
  refine ⟨by rw [List.length_map]; omega, fun p c hc => ?_, sg b, ?_, ?_, hb⟩
  · rw [List.getElem?_map] at hc
    match hw : w[p]?, hc with
    | some t, hc =>
      cases hc
      have hg : T[k + p]? = some t := by
        have hpl := get_lt hw
        rw [hk, hp, List.append_assoc, List.getElem?_append_right (by omega), ← hkl, Nat.add_sub_cancel_left, List.getElem?_append_left hpl]
        exact hw
      obtain ⟨y1, -, y3, -⟩ := h4 (k + p) t.1 t.2 hg
      exact ⟨y1, (by show t.1 < 128; omega)⟩
  · rw [List.length_map]
    match b, hTl with
    | [], hTl =>
      rw [List.length_nil, Nat.add_zero] at hTl
      rw [← hTl]
      exact h5
    | (c, q) :: b, hTl =>
      have hg : T[k + w.length]? = some (c, q) := by
        rw [hk, hp, ← hkl]
        have := mid_get (A := pre ++ w) (B := b) (x := (c, q))
        rw [List.length_append] at this
        exact this
      exact (h4 _ _ _ hg).1
  · match b with
    | [] => show (0 : Nat) < 128; omega
    | (c, q) :: b =>
      have hg : T[k + w.length]? = some (c, q) := by
        rw [hk, hp, ← hkl]
        have := mid_get (A := pre ++ w) (B := b) (x := (c, q))
        rw [List.length_append] at this
        exact this
      obtain ⟨-, -, y3, -⟩ := h4 _ _ _ hg
      show c < 128
      omega
theorem rd_putForm {F g n : Nat} {T r : List Tok} {D : Ds} {s : ax_σ} (hF : 300 ≤ F) (h : rdC n T s) (hp : pDs T = .ok (D, r)) (htb : (dT D).length ≤ 2) (h3 : s.1 g 1 3 = nI (dT D).length) (hE : ∀ (u : Nat) (x : Tb), (dT D)[u]? = some x → ∀ k, k < 16 → s.1 g 2 (u * 16 + k) = nI (tbE x k) ∧ tbE x k < 16) (h0 : s.1 g 0 8 = nI 0) (hl : (foT T).length ≤ 264) : ∃ s', f_R_putForm F g s = some s' ∧ FP g (foT T) s' ∧ frm (XFm g) s s' := by
  obtain ⟨w0, wt, r2, e1, e2, e3, e4, e5, e6⟩ := foT_eq hp
  have hlen := h.1
  have hTl : T.length = w0.length + wt.length + r2.length := by rw [e1]; simp only [List.length_append]; omega
  have hr2 : 0 < r2.length := by
    match r2, e5 with
    | [], e5 => exact absurd e5 (by show (0 : Nat) ≠ 123; omega)
    | _ :: _, _ => rw [List.length_cons]; omega
  rw [e6] at hl
  have ht18 : ((dT D).flatMap tbPr).length = 18 * (dT D).length := by
    have : ∀ l : List Tb, (l.flatMap tbPr).length = 18 * l.length := by
      intro l
      induction l with
      | nil => rfl
      | cons x l ih =>
        rw [List.flatMap_cons, List.length_append, ih, List.length_cons]
        show (35 :: (hxs _ 0 16 ++ [59])).length + _ = _
        rw [List.length_cons, List.length_append, hxs_len, List.length_singleton]
        omega
    exact this _
  rw [List.length_append, List.length_append, ht18] at hl
  have hd1 : isD (sg (wt ++ r2)) = false := by rcases e4 with e | e <;> rw [e] <;> rfl
  have S0 : sgM 0 (w0.map (·.1)) s := sgM_of h e1 (pre := []) (w := w0) rfl rfl hd1
  have hP0 : FP g [] s := ⟨h0, fun p c hc => by cases hc⟩
  obtain ⟨s1, a1, a2, a3⟩ := rd_putSigns (F := F) (g := g) hF S0 hP0 (by rw [List.length_nil]; omega)
  rw [List.nil_append] at a2
  obtain ⟨s2, b1, b2, b3⟩ := pf_46 (F := F) (g := g) (x1 := nI w0.length) hF htb (dT D).length 0 F _ s1 (by omega) (by omega) ((a3.1 _ _ _ (by unfold XFm; omega)).trans h3) (fun u x hx k hk => ⟨(a3.1 _ _ _ (by unfold XFm; omega)).trans (hE u x hx k hk).1, (hE u x hx k hk).2⟩) a2 (by omega)
  rw [List.drop_zero] at b2
  have f12 := a3.trans b3
  have hC2 : rdC n T s2 := by
    obtain ⟨h1, h2, h3, h4, h5, h6⟩ := h
    refine ⟨h1, h2, (f12.1 _ _ _ (by unfold XFm; omega)).trans h3, fun i c p hi => ?_, (f12.1 _ _ _ (by unfold XFm; omega)).trans h5, (f12.1 _ _ _ (by unfold XFm; omega)).trans h6⟩
    obtain ⟨y1, y2, y3⟩ := h4 i c p hi
    exact ⟨(f12.1 _ _ _ (by unfold XFm; omega)).trans y1, (f12.1 _ _ _ (by unfold XFm; omega)).trans y2, y3⟩
  have S2 : sgM (w0.length + wt.length) (r2.map (·.1)) s2 := sgM_of hC2 (a := w0 ++ wt ++ r2) (b := []) (by rw [e1, List.append_nil, List.append_assoc]) (pre := w0 ++ wt) (w := r2) rfl (by rw [List.length_append]) rfl
  obtain ⟨s3, c1, c2, c3⟩ := rd_putSigns (F := F) (g := g) hF S2 b2 (by rw [List.length_append, ht18]; omega)
  have get0 : ∀ (p c : Nat), (w0.map (·.1))[p]? = some c → s.1 0 26 (0 + p) = nI c ∧ c < 128 ∧ c ≠ 35 ∧ c ≠ 123 := by
    intro p c hc
    obtain ⟨y1, y2⟩ := S0.2.1 p c hc
    rw [List.getElem?_map] at hc
    match hw : w0[p]?, hc with
    | some t, hc =>
      cases hc
      have := e2 t (List.mem_of_getElem? hw)
      exact ⟨y1, y2, this.1, this.2⟩
  have hsg : ∀ (b pre : List Tok) (s' : ax_σ), rdC n T s' → T = pre ++ b → 0 < b.length → s'.1 0 26 pre.length = nI (sg b) := by
    intro b pre s' hC hT hb
    match b, hb with
    | (c, q) :: b, _ =>
      exact (hC.2.2.2.1 _ _ _ (by rw [hT]; exact mid_get)).1
  have hfrom : lp_R_putForm_2 F g s F (nI 0) = some (nI w0.length) := by
    have := pf_2 (F := F) (g := g) h.2.2.1 hlen (w0.map (·.1)) 0 F (by rw [List.length_map]; omega) (by rw [List.length_map]; omega) get0 (by
      rw [List.length_map, Nat.zero_add, hsg _ _ s h e1 (by rw [List.length_append]; omega)]
      rcases e4 with e | e
      · exact Or.inl (by rw [e])
      · exact Or.inr (by rw [e]))
    rw [List.length_map, Nat.zero_add] at this
    exact this
  have hto : lp_R_putForm_70 F g s2 F (nI w0.length) = some (nI (w0.length + wt.length)) := by
    have S1 : ∀ (p c : Nat), (wt.map (·.1))[p]? = some c → s2.1 0 26 (w0.length + p) = nI c ∧ c < 128 ∧ c ≠ 123 := by
      intro p c hc
      rw [List.getElem?_map] at hc
      match hw : wt[p]?, hc with
      | some t, hc =>
        cases hc
        have hpl := get_lt hw
        have hg : T[w0.length + p]? = some t := by
          rw [e1, List.getElem?_append_right (by omega), Nat.add_sub_cancel_left, List.getElem?_append_left hpl]
          exact hw
        obtain ⟨y1, -, y3, -⟩ := hC2.2.2.2.1 _ t.1 t.2 hg
        have := e3 t (List.mem_of_getElem? hw)
        exact ⟨y1, (by show t.1 < 128; omega), (by show t.1 ≠ 123; omega)⟩
    have := pf_70 (F := F) (g := g) hC2.2.2.1 hlen (wt.map (·.1)) w0.length F (by rw [List.length_map]; omega) (by rw [List.length_map]; omega) S1 (by
      rw [List.length_map]
      have := hsg r2 (w0 ++ wt) s2 hC2 (by rw [e1, List.append_assoc]) hr2
      rw [List.length_append] at this
      rw [this, e5])
    rw [List.length_map] at this
    exact this
  refine ⟨s3, ?_, by rw [e6]; exact c2, f12.trans c3⟩
  have a1 : f_R_putSigns F g (0 : Int32) (nI w0.length) s = some s1 := by
    rw [List.length_map, Nat.zero_add] at a1
    exact a1
  have hfrom : lp_R_putForm_2 F g s F (0 : Int32) = some (nI w0.length) := hfrom
  have b1 : lp_R_putForm_46 F g (nI w0.length) F (0 : Int32) s1 = some s2 := b1
  have c1 : f_R_putSigns F g (nI (w0.length + wt.length)) (s2.1 0 25 2) s2 = some s3 := by
    rw [hC2.2.2.1, hTl]
    rw [List.length_map] at c1
    exact c1
  unfold f_R_putForm
  rw [hfrom, Option.bind_some, a1, Option.bind_some, b1, Option.bind_some, hto, Option.bind_some, c1]
  rfl
