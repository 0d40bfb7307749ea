/-! PURE: what the parser gives: things, a description -/
def okWk (w : List Nat) (k : Wk) : Prop := ((4 ≤ k.1 ∧ k.1 ≤ 6) ∧ k.2.1 = 0 ∧ okE w k.2.2.2.1 ∧ k.2.2.2.2 = []) ∨ ((k.1 = 7 ∨ k.1 = 8 ∨ k.1 = 11) ∧ k.2.1 < 10 ^ 9 ∧ k.2.2.1 ∈ w ∧ k.2.2.2.1 = [] ∧ k.2.2.2.2 = []) ∨ ((k.1 = 9 ∨ k.1 = 10) ∧ k.2.1 < 4 ∧ k.2.2.1 ∈ w ∧ k.2.2.2.1 = [] ∧ k.2.2.2.2 = []) ∨ (k.1 = 12 ∧ k.2.2.2.1 = [] ∧ (1 ≤ k.2.2.2.2.length ∧ k.2.2.2.2.length ≤ 5) ∧ ∀ x ∈ k.2.2.2.2, x.1 < 10 ^ 9 ∧ x.2 ∈ w)
theorem okWk.mono {w w' : List Nat} {k : Wk} (h : okWk w k) (hs : ∀ q ∈ w, q ∈ w') : okWk w' k := by
  rcases h with ⟨a, b, c, d⟩ | ⟨a, b, c, d⟩ | ⟨a, b, c, d⟩ | ⟨a, b, c, d⟩
  · exact Or.inl ⟨a, b, c.mono hs, d⟩
  · exact Or.inr (Or.inl ⟨a, b, hs _ c, d⟩)
  · exact Or.inr (Or.inr (Or.inl ⟨a, b, hs _ c, d⟩))
  · exact Or.inr (Or.inr (Or.inr ⟨a, b, c, fun x hx => ⟨(d x hx).1, hs _ (d x hx).2⟩⟩))
theorem pWk_ok {ts r : List Tok} {k : Wk} (h : pWk ts = .ok (k, r)) : ∃ w, ts = w ++ r ∧ okWk (pls w) k := by
  match ts, h with
  | [], h => cases h
  | (c, p) :: ts, h =>
    rw [pWk] at h
    by_cases hc : c = 94 ∨ c = 43 ∨ c = 45
    · rw [if_pos hc] at h
      obtain ⟨u, r1, h1, h2⟩ := rb_ok h
      obtain ⟨e, r2, h3, h4⟩ := rb_ok h2
      obtain ⟨q, e1⟩ := pTake_ok h1
      obtain ⟨w, e2, o2⟩ := pEx_ok h3
      cases h4
      refine ⟨(c, p) :: (61, q) :: w, by rw [e1, e2]; rfl, Or.inl ⟨?_, rfl, o2.mono (fun x hx => List.mem_cons_of_mem _ (List.mem_cons_of_mem _ hx)), rfl⟩⟩
      show 4 ≤ (if c = 94 then 4 else if c = 43 then 5 else 6) ∧ (if c = 94 then 4 else if c = 43 then 5 else 6) ≤ 6
      split
      · decide
      · split <;> decide
    rw [if_neg hc] at h
    by_cases hc2 : c = 42
    · rw [if_pos hc2] at h
      obtain ⟨u, r1, h1, h2⟩ := rb_ok h
      obtain ⟨⟨v, q2⟩, r2, h3, h4⟩ := rb_ok h2
      obtain ⟨q, e1⟩ := pTake_ok h1
      obtain ⟨w, e2, m2, v2⟩ := pNum_sx (pNumR_ok h3)
      cases h4
      exact ⟨(c, p) :: (61, q) :: w, by rw [e1, e2]; rfl, Or.inr (Or.inl ⟨Or.inl rfl, v2, List.mem_cons_of_mem _ (List.mem_cons_of_mem _ m2), rfl, rfl⟩)⟩
    rw [if_neg hc2] at h
    by_cases hc3 : c = 60
    · rw [if_pos hc3] at h
      match hp : pNum ts with
      | some (v, q, r0) =>
        rw [hp] at h
        cases h
        obtain ⟨w, e2, m2, v2⟩ := pNum_sx hp
        exact ⟨(c, p) :: w, by rw [e2]; rfl, Or.inr (Or.inl ⟨Or.inr (Or.inl rfl), v2, List.mem_cons_of_mem _ m2, rfl, rfl⟩)⟩
      | none =>
        rw [hp] at h
        obtain ⟨⟨v, q⟩, r1, h1, h2⟩ := rb_ok h
        cases h2
        obtain ⟨w, e2, m2, v2⟩ := pState_sx h1
        exact ⟨(c, p) :: w, by rw [e2]; rfl, Or.inr (Or.inr (Or.inl ⟨Or.inl rfl, v2, List.mem_cons_of_mem _ m2, rfl, rfl⟩))⟩
    rw [if_neg hc3] at h
    by_cases hc4 : c = 58
    · rw [if_pos hc4] at h
      obtain ⟨⟨v, q⟩, r1, h1, h2⟩ := rb_ok h
      cases h2
      obtain ⟨w, e2, m2, v2⟩ := pState_sx h1
      exact ⟨(c, p) :: w, by rw [e2]; rfl, Or.inr (Or.inr (Or.inl ⟨Or.inr rfl, v2, List.mem_cons_of_mem _ m2, rfl, rfl⟩))⟩
    rw [if_neg hc4] at h
    by_cases hc5 : c = 35
    · rw [if_pos hc5] at h
      obtain ⟨⟨v, q⟩, r1, h1, h2⟩ := rb_ok h
      cases h2
      obtain ⟨w, e2, m2, v2⟩ := pNum_sx (pNumR_ok h1)
      exact ⟨(c, p) :: w, by rw [e2]; rfl, Or.inr (Or.inl ⟨Or.inr (Or.inr rfl), v2, List.mem_cons_of_mem _ m2, rfl, rfl⟩)⟩
    rw [if_neg hc5] at h
    by_cases hc6 : c = 64
    · rw [if_pos hc6] at h
      obtain ⟨l, r1, h1, h2⟩ := rb_ok h
      cases h2
      obtain ⟨⟨w, e2, o2⟩, b1, b2⟩ := pSpr_sx 4 _ _ _ h1
      exact ⟨(c, p) :: w, by rw [e2]; rfl, Or.inr (Or.inr (Or.inr ⟨rfl, rfl, ⟨b1, b2⟩, fun x hx => ⟨(o2 x hx).1, List.mem_cons_of_mem _ (o2 x hx).2⟩⟩))⟩
    rw [if_neg hc6] at h
    cases h
def okTh (wr : Bool) (w : List Nat) (t : Th) : Prop := thp t ∈ w ∧ ((thk t = 2 ∧ thw t < 2 ∧ thv t < 10 ^ 9 ∧ thq t ∈ w ∧ the t = [] ∧ thn t = []) ∨ (thk t = 3 ∧ the t = [] ∧ thn t = []) ∨ (wr = true ∧ thk t = 1 ∧ okE w (the t) ∧ thn t = [] ∧ thw t = 0) ∨ (wr = false ∧ thw t < 4 ∧ okWk w (wkOf t)))
theorem pTh_ok {wr : Bool} {o : Nat} {ts r : List Tok} {t : Th} (h : pTh wr o ts = .ok (t, r)) : (∃ w, ts = w ++ r ∧ okTh wr (pls w) t) ∧ (thk t = 2 → o ≠ 2) ∧ (thk t = 3 → o ≠ 0) := by
  match ts, h with
  | [], h => cases h
  | (c, p) :: ts, h =>
    rw [pTh] at h
    by_cases hc : c = 105 ∨ c = 106
    · rw [if_pos hc] at h
      by_cases ho : o = 2
      · rw [if_pos ho] at h; cases h
      rw [if_neg ho] at h
      obtain ⟨⟨v, q⟩, r1, h1, h2⟩ := rb_ok h
      obtain ⟨u, r2, h3, h4⟩ := rb_ok h2
      obtain ⟨q2, e2⟩ := pTake_ok h3
      obtain ⟨w, e1, m1, v1⟩ := pNum_sx (pNumR_ok h1)
      cases h4
      refine ⟨⟨(c, p) :: w ++ [(91, q2)], by rw [e1, e2]; simp only [List.cons_append, List.append_assoc, List.nil_append], ?_, Or.inl ⟨rfl, by show c - 105 < 2; omega, v1, ?_, rfl, rfl⟩⟩, fun _ => ho, fun e => absurd e (by show (2 : Nat) ≠ 3; omega)⟩
      · exact List.mem_cons_self ..
      · rw [pls_app]; exact List.mem_append_left _ (List.mem_cons_of_mem _ m1)
    rw [if_neg hc] at h
    by_cases hc2 : c = 93
    · rw [if_pos hc2] at h
      by_cases ho : o = 0
      · rw [if_pos ho] at h; cases h
      rw [if_neg ho] at h
      cases h
      exact ⟨⟨[(c, p)], rfl, List.mem_cons_self .., Or.inr (Or.inl ⟨rfl, rfl, rfl⟩)⟩, fun e => absurd e (by show (3 : Nat) ≠ 2; omega), fun _ => ho⟩
    rw [if_neg hc2] at h
    by_cases hw : wr = true
    · rw [if_pos hw] at h
      by_cases hc3 : c = 62
      · rw [if_pos hc3] at h
        obtain ⟨e, r1, h1, h2⟩ := rb_ok h
        obtain ⟨u, r2, h3, h4⟩ := rb_ok h2
        obtain ⟨q2, e2⟩ := pTake_ok h3
        obtain ⟨w, e1, o1⟩ := pEx_ok h1
        cases h4
        refine ⟨⟨(c, p) :: w ++ [(59, q2)], by rw [e1, e2]; simp only [List.cons_append, List.append_assoc, List.nil_append], List.mem_cons_self .., Or.inr (Or.inr (Or.inl ⟨hw, rfl, o1.mono (fun x hx => ?_), rfl, rfl⟩))⟩, fun e => absurd e (by show (1 : Nat) ≠ 2; omega), fun e => absurd e (by show (1 : Nat) ≠ 3; omega)⟩
        rw [pls_app]; exact List.mem_append_left _ (List.mem_cons_of_mem _ hx)
      · rw [if_neg hc3] at h; cases h
    rw [if_neg hw] at h
    by_cases hc4 : 65 ≤ c ∧ c ≤ 68
    · rw [if_pos hc4] at h
      obtain ⟨k, r1, h1, h2⟩ := rb_ok h
      obtain ⟨u, r2, h3, h4⟩ := rb_ok h2
      obtain ⟨q2, e2⟩ := pTake_ok h3
      obtain ⟨w, e1, o1⟩ := pWk_ok h1
      cases h4
      have hk : 4 ≤ k.1 ∧ k.1 ≤ 12 := by rcases o1 with ⟨a, -⟩ | ⟨a, -⟩ | ⟨a, -⟩ | ⟨a, -⟩ <;> omega
      refine ⟨⟨(c, p) :: w ++ [(59, q2)], by rw [e1, e2]; simp only [List.cons_append, List.append_assoc, List.nil_append], List.mem_cons_self .., Or.inr (Or.inr (Or.inr ⟨by simpa using hw, by show c - 65 < 4; omega, o1.mono (fun x hx => ?_)⟩))⟩, fun e => ?_, fun e => ?_⟩
      · rw [pls_app]; exact List.mem_append_left _ (List.mem_cons_of_mem _ hx)
      · have : k.1 = 2 := e
        omega
      · have : k.1 = 3 := e
        omega
    · rw [if_neg hc4] at h; cases h
/-- how deep it is behind things, lim loops at most -/
def lv (lim : Nat) : Nat → List Th → Option Nat
  | o, [] => some o
  | o, t :: l => if thk t = 2 then (if o < lim then lv lim (o + 1) l else none) else if thk t = 3 then (if o = 0 then none else lv lim (o - 1) l) else lv lim o l
theorem pThs_ok {wr : Bool} : ∀ (j o : Nat) (ts r : List Tok) (l : List Th), o ≤ 2 → pThs wr j o ts = .ok (l, r) → lv 2 o l = some 0 ∧ ∃ (W : List (List Tok)) (p : Nat), ts = W.flatten ++ (125, p) :: r ∧ W.length = l.length ∧ ∀ (k : Nat) (t : Th) (w : List Tok), l[k]? = some t → W[k]? = some w → okTh wr (pls w) t
  | 0, o, ts, r, l, _, h => by cases h
  | j + 1, o, [], r, l, _, h => by cases h
  | j + 1, o, (c, p) :: ts, r, l, ho, h => by
    rw [pThs] at h
    by_cases hc : c = 125
    · rw [if_pos hc] at h
      by_cases h0 : o = 0
      · rw [if_pos h0] at h
        cases h
        subst hc
        subst h0
        exact ⟨rfl, [], p, rfl, rfl, fun k t w hk => by cases hk⟩
      · rw [if_neg h0] at h; cases h
    · rw [if_neg hc] at h
      obtain ⟨t, r1, h1, h2⟩ := rb_ok h
      obtain ⟨l', r2, h3, h4⟩ := rb_ok h2
      cases h4
      obtain ⟨⟨w, e1, o1⟩, b1, b2⟩ := pTh_ok h1
      have hO : thO o t ≤ 2 := by
        unfold thO
        split
        · rename_i e
          have := b1 e
          omega
        · split <;> omega
      obtain ⟨a1, W, q, a2, a3, a4⟩ := pThs_ok j (thO o t) r1 r l' hO h3
      refine ⟨?_, w :: W, q, by rw [e1, a2, List.flatten_cons, List.append_assoc], by rw [List.length_cons, List.length_cons, a3], fun k t' w' hk hw => ?_⟩
      · rw [lv]
        unfold thO at a1
        by_cases e2 : thk t = 2
        · have := b1 e2
          rw [if_pos e2, if_pos (by omega)]
          rw [if_pos e2] at a1
          exact a1
        · rw [if_neg e2] at a1 ⊢
          by_cases e3 : thk t = 3
          · have := b2 e3
            rw [if_pos e3, if_neg this]
            rw [if_pos e3] at a1
            exact a1
          · rw [if_neg e3] at a1 ⊢
            exact a1
      · match k, hk, hw with
        | 0, hk, hw =>
          cases hk
          cases hw
          exact o1
        | k + 1, hk, hw => exact a4 k t' w' hk hw
theorem pSz_ok {k : Nat} {ts r : List Tok} {a : Nat × Nat} (h : pSz k ts = .ok (a, r)) : ∃ w, ts = w ++ r ∧ a.2 ∈ pls w ∧ a.1 < 10 ^ 9 := by
  unfold pSz at h
  obtain ⟨⟨v, q⟩, r1, h1, h2⟩ := rb_ok h
  obtain ⟨u, r2, h3, h4⟩ := rb_ok h2
  obtain ⟨q2, e2⟩ := pTake_ok h3
  obtain ⟨w, e1, m1, v1⟩ := pNum_sx (pNumR_ok h1)
  cases h4
  exact ⟨w ++ [(szC k, q2)], by rw [e1, e2, List.append_assoc]; rfl, by rw [pls_app]; exact List.mem_append_left _ m1, v1⟩
def okTb (w : List Nat) (x : Tb) : Prop := (x.2 = [] ∧ x.1.length = 16 ∧ ∀ v ∈ x.1, v < 16) ∨ ∃ m a : Nat × Nat, x = ([], [m, a]) ∧ m.1 < 10 ^ 9 ∧ a.1 < 10 ^ 9 ∧ m.2 ∈ w ∧ a.2 ∈ w
theorem pHex_sx : ∀ (j : Nat) (ts r : List Tok) (l : List Nat), pHex j ts = .ok (l, r) → ∃ w, ts = w ++ r
  | 0, ts, r, l, h => by cases h; exact ⟨[], rfl⟩
  | j + 1, [], r, l, h => by cases h
  | j + 1, (c, p) :: ts, r, l, h => by
    rw [pHex] at h
    match hv : hexv c with
    | none => rw [hv] at h; cases h
    | some v =>
      rw [hv] at h
      obtain ⟨l', r1, h1, h2⟩ := rb_ok h
      cases h2
      obtain ⟨w, e⟩ := pHex_sx j ts r l' h1
      exact ⟨(c, p) :: w, by rw [e]; rfl⟩
theorem pTb_ok {ts r : List Tok} {x : Tb} (h : pTb ts = .ok (x, r)) : ∃ w, ts = w ++ r ∧ okTb (pls w) x := by
  match ts, h with
  | [], h => cases h
  | (c, p) :: ts, h =>
    rw [pTb] at h
    by_cases hc : c = 42
    · rw [if_pos hc] at h
      obtain ⟨⟨v, q⟩, r1, h1, h2⟩ := rb_ok h
      obtain ⟨u, r2, h3, h4⟩ := rb_ok h2
      obtain ⟨⟨v2, q2⟩, r3, h5, h6⟩ := rb_ok h4
      obtain ⟨q3, e3⟩ := pTake_ok h3
      obtain ⟨w1, e1, m1, v1⟩ := pNum_sx (pNumR_ok h1)
      obtain ⟨w5, e5, m5, v5⟩ := pNum_sx (pNumR_ok h5)
      cases h6
      refine ⟨(c, p) :: w1 ++ (43, q3) :: w5, by rw [e1, e3, e5]; simp only [List.cons_append, List.append_assoc], Or.inr ⟨_, _, rfl, v1, v5, ?_, ?_⟩⟩
      · rw [pls_app]; exact List.mem_append_left _ (List.mem_cons_of_mem _ m1)
      · rw [pls_app]; exact List.mem_append_right _ (List.mem_cons_of_mem _ m5)
    · rw [if_neg hc] at h
      obtain ⟨l, r1, h1, h2⟩ := rb_ok h
      cases h2
      obtain ⟨a1, a2, a3⟩ := pHex_lt _ _ _ _ h1
      obtain ⟨w, e⟩ := pHex_sx _ _ _ _ h1
      exact ⟨w, e, Or.inl ⟨rfl, a1, a2⟩⟩
theorem pTbs_ok : ∀ (j : Nat) (ts r : List Tok) (l : List Tb), pTbs j ts = .ok (l, r) → (∃ w, ts = w ++ r ∧ ∀ x ∈ l, okTb (pls w) x) ∧ l.length ≤ j
  | 0, ts, r, l, h => by cases h; exact ⟨⟨[], rfl, fun x hx => by cases hx⟩, Nat.le_refl _⟩
  | j + 1, [], r, l, h => by cases h; exact ⟨⟨[], rfl, fun x hx => by cases hx⟩, Nat.zero_le _⟩
  | j + 1, (c, p) :: ts, r, l, h => by
    rw [pTbs] at h
    by_cases hc : c = 35
    · rw [if_pos hc] at h
      obtain ⟨t, r3, h1, h2⟩ := rb_ok h
      obtain ⟨u, r4, h3, h4⟩ := rb_ok h2
      obtain ⟨l', r5, h5, h6⟩ := rb_ok h4
      cases h6
      obtain ⟨q, e3⟩ := pTake_ok h3
      obtain ⟨w1, e1, o1⟩ := pTb_ok h1
      obtain ⟨⟨w5, e5, o5⟩, b5⟩ := pTbs_ok j r4 r l' h5
      refine ⟨⟨(c, p) :: w1 ++ (59, q) :: w5, by rw [e1, e3, e5]; simp only [List.cons_append, List.append_assoc], fun x hx => ?_⟩, by rw [List.length_cons]; omega⟩
      have mo : ∀ (w w' : List Nat) (x : Tb), okTb w x → (∀ q ∈ w, q ∈ w') → okTb w' x := by
        intro w w' x h hs
        rcases h with h | ⟨m, a, h1, h2, h3, h4, h5⟩
        · exact Or.inl h
        · exact Or.inr ⟨m, a, h1, h2, h3, hs _ h4, hs _ h5⟩
      cases hx with
      | head => exact mo _ _ _ o1 (fun q hq => by rw [pls_app]; exact List.mem_append_left _ (List.mem_cons_of_mem _ hq))
      | tail _ hx => exact mo _ _ _ (o5 x hx) (fun q hq => by rw [pls_app]; exact List.mem_append_right _ (List.mem_cons_of_mem _ hq))
    · rw [if_neg hc] at h
      cases h
      exact ⟨⟨[], rfl, fun x hx => by cases hx⟩, Nat.zero_le _⟩
/-- the writings, the steps of a description -/
def dW (D : Ds) : List Th := D.2.2.2.2.1
def dSt (D : Ds) : List Th := D.2.2.2.2.2
def dH (D : Ds) : List Th := dW D ++ dSt D
def dT (D : Ds) : List Tb := D.2.2.2.1
/-- what is known of a description by its reading: the places of its sizes, tables, things -/
def PF (n : Nat) (D : Ds) : Prop := ∃ (w0 w1 : List Nat) (W : List (List Nat)), ((w0 ++ w1 ++ W.flatten).Pairwise (· < ·) ∧ ∀ q ∈ w0 ++ w1 ++ W.flatten, q < n) ∧ ((D.1.2 ∈ w0 ∧ D.1.1 < 10 ^ 9) ∧ (D.2.1.2 ∈ w0 ∧ D.2.1.1 < 10 ^ 9) ∧ (D.2.2.1.2 ∈ w0 ∧ D.2.2.1.1 < 10 ^ 9)) ∧ ((∀ x ∈ dT D, okTb w1 x) ∧ (dT D).length ≤ 2) ∧ W.length = (dH D).length ∧ (∀ (k : Nat) (t : Th) (w : List Nat), (dW D)[k]? = some t → W[k]? = some w → okTh true w t) ∧ (∀ (k : Nat) (t : Th) (w : List Nat), (dSt D)[k]? = some t → W[(dW D).length + k]? = some w → okTh false w t) ∧ lv 2 0 (dW D) = some 0 ∧ lv 2 0 (dSt D) = some 0
theorem tkR_srt (f : Nat → Nat) : ∀ (m p : Nat), (pls (tkR f p m)).Pairwise (· < ·)
  | 0, p => List.Pairwise.nil
  | m + 1, p => by
    rw [tkR]
    by_cases hb : f p = 32
    · rw [if_pos hb]; exact tkR_srt f m (p + 1)
    · rw [if_neg hb]
      refine List.Pairwise.cons (fun q hq => ?_) (tkR_srt f m (p + 1))
      obtain ⟨t, ht, rfl⟩ := List.mem_map.mp hq
      have := (tkR_mem f m (p + 1) t ht).1
      show p < t.2
      omega
theorem pDs_ok {f : Nat → Nat} {n : Nat} {D : Ds} {r : List Tok} (h : pDs (tkR f 0 n) = .ok (D, r)) : PF n D := by
  have hs := tkR_srt f n 0
  have hm := tkR_mem f n 0
  generalize tkR f 0 n = T at *
  rw [pDs_bl] at h
  obtain ⟨hd, r1, h1, h2⟩ := rb_ok h
  obtain ⟨tb, r2, h3, h4⟩ := rb_ok h2
  unfold pHd at h1
  obtain ⟨a, r3, h5, h6⟩ := rb_ok h1
  obtain ⟨b, r4, h7, h8⟩ := rb_ok h6
  obtain ⟨c, r5, h9, h10⟩ := rb_ok h8
  cases h10
  obtain ⟨wa, ea, ma, va⟩ := pSz_ok h5
  obtain ⟨wb, eb, mb, vb⟩ := pSz_ok h7
  obtain ⟨wc, ec, mc, vc⟩ := pSz_ok h9
  obtain ⟨⟨wt, et, ot⟩, bt⟩ := pTbs_ok 2 _ _ _ h3
  unfold pBl at h4
  obtain ⟨ws, r6, h11, h12⟩ := rb_ok h4
  obtain ⟨u, r7, h13, h14⟩ := rb_ok h11
  obtain ⟨ss, r8, h15, h16⟩ := rb_ok h12
  obtain ⟨u2, r9, h17, h18⟩ := rb_ok h15
  obtain ⟨q1, e1⟩ := pTake_ok h13
  obtain ⟨q2, e2⟩ := pTake_ok h17
  obtain ⟨l1, W1, p1, x1, x2, x3⟩ := pThs_ok _ _ _ _ _ (by omega) h14
  obtain ⟨l2, W2, p2, y1, y2, y3⟩ := pThs_ok _ _ _ _ _ (by omega) h18
  match r8, h16 with
  | [], h16 =>
    cases h16
    have eT : T = wa ++ wb ++ wc ++ wt ++ ((123, q1) :: (W1.flatten ++ ((125, p1) :: (123, q2) :: (W2.flatten ++ [(125, p2)])))) := by
      rw [ea, eb, ec, et, e1, x1, e2, y1]
      simp only [List.append_assoc, List.cons_append]
    have sub : (pls (wa ++ wb ++ wc) ++ pls wt ++ ((W1 ++ W2).map pls).flatten).Sublist (pls T) := by
      have e9 : ((W1 ++ W2).map pls).flatten = pls W1.flatten ++ pls W2.flatten := by
        rw [List.map_append, List.flatten_append]
        unfold pls
        rw [List.map_flatten, List.map_flatten]
      rw [eT, e9, pls_app (wa ++ wb ++ wc ++ wt), pls_app (wa ++ wb ++ wc) wt]
      refine List.Sublist.append (List.Sublist.refl _) ?_
      show (pls W1.flatten ++ pls W2.flatten).Sublist (q1 :: pls (W1.flatten ++ ((125, p1) :: (123, q2) :: (W2.flatten ++ [(125, p2)]))))
      refine List.Sublist.cons _ ?_
      rw [pls_app]
      refine List.Sublist.append (List.Sublist.refl _) ?_
      show (pls W2.flatten).Sublist (p1 :: q2 :: pls (W2.flatten ++ [(125, p2)]))
      refine List.Sublist.cons _ (List.Sublist.cons _ ?_)
      rw [pls_app]
      exact List.sublist_append_left _ _
    refine ⟨pls (wa ++ wb ++ wc), pls wt, (W1 ++ W2).map pls, ⟨hs.sublist sub, fun q hq => ?_⟩, ⟨⟨?_, va⟩, ⟨?_, vb⟩, ⟨?_, vc⟩⟩, ⟨ot, bt⟩, ?_, ?_, ?_, l1, l2⟩
    · obtain ⟨t, ht, rfl⟩ := List.mem_map.mp (sub.subset hq)
      have := hm t ht
      omega
    · rw [pls_app, pls_app]; exact List.mem_append_left _ (List.mem_append_left _ ma)
    · rw [pls_app, pls_app]; exact List.mem_append_left _ (List.mem_append_right _ mb)
    · rw [pls_app]; exact List.mem_append_right _ mc
    · rw [List.length_map, List.length_append, x2, y2]
      exact (List.length_append ..).symm
    · intro k t w hk hw
      have hk' : k < W1.length := by rw [x2]; exact get_lt hk
      rw [List.getElem?_map, List.getElem?_append_left hk'] at hw
      match hW : W1[k]?, hw with
      | some w', hw =>
        cases hw
        exact x3 k t w' hk hW
    · intro k t w hk hw
      have e3 : (dW (a, b, c, tb, ws, ss)).length = W1.length := x2.symm
      rw [e3, List.getElem?_map, List.getElem?_append_right (by omega), Nat.add_sub_cancel_left] at hw
      match hW : W2[k]?, hw with
      | some w', hw =>
        cases hw
        exact y3 k t w' hk hW
  | _ :: _, h16 => cases h16
