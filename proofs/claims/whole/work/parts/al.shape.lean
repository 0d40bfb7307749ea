/-! PURE: what the parser gives: shapes, places, loops -/
def pls (w : List Tok) : List Nat := w.map (·.2)
theorem pls_app (a b : List Tok) : pls (a ++ b) = pls a ++ pls b := List.map_append ..
theorem pDig_sx : ∀ (j q v : Nat) (ts : List Tok), ∃ w, ts = w ++ (pDig j q v ts).2
  | 0, q, v, ts => ⟨[], by rw [pDig]; rfl⟩
  | j + 1, q, v, [] => ⟨[], by rw [pDig_nil]; rfl⟩
  | j + 1, q, v, (c, p) :: ts => by
    rw [pDig]
    by_cases h : isD c = true ∧ p = q
    · rw [if_pos h]
      obtain ⟨w, hw⟩ := pDig_sx j (q + 1) (v * 10 + (c - 48)) ts
      exact ⟨(c, p) :: w, by rw [List.cons_append, ← hw]⟩
    · rw [if_neg h]
      exact ⟨[], rfl⟩
theorem pNum_sx {ts r : List Tok} {v p : Nat} (h : pNum ts = some (v, p, r)) : ∃ w, ts = w ++ r ∧ p ∈ pls w ∧ v < 10 ^ 9 := by
  have hv := (fmt_pn h).2.2
  match ts, h with
  | (c, q) :: ts, h =>
    rw [pNum] at h
    by_cases hc : isD c = true
    · rw [if_pos hc] at h
      injection h with h
      injection h with h1 h2
      injection h2 with h2 h3
      obtain ⟨w, hw⟩ := pDig_sx 8 (q + 1) (c - 48) ts
      rw [h3] at hw
      exact ⟨(c, q) :: w, by rw [hw]; rfl, by rw [← h2]; exact List.mem_cons_self .., hv⟩
    · rw [if_neg hc] at h; cases h
def okTm (w : List Nat) (t : Tm) : Prop := t.1 < 10 ^ 9 ∧ t.2.1 ≤ 2 ∧ t.2.2 ∈ w
theorem pTerm_sx {a : Option (Nat × Nat)} {ts r : List Tok} {t : Tm} {w0 : List Tok} (ha : ∀ v q, a = some (v, q) → v < 10 ^ 9 ∧ q ∈ pls w0) (h : pTerm a ts = .ok (t, r)) : ∃ w, ts = w ++ r ∧ okTm (pls (w0 ++ w)) t := by
  match ts, a, h with
  | [], some (v, q), h =>
    have h : Except.ok ((v, 0, q), []) = Except.ok (t, r) := h
    cases h
    obtain ⟨h1, h2⟩ := ha v q rfl
    exact ⟨[], rfl, h1, Nat.zero_le _, by rw [List.append_nil]; exact h2⟩
  | [], none, h => cases h
  | (c, p) :: ts, a, h =>
    simp only [pTerm] at h
    by_cases hc : c = 105 ∨ c = 106
    · rw [if_pos hc] at h
      cases h
      refine ⟨[(c, p)], rfl, ?_, by show c - 104 ≤ 2; omega, by rw [pls_app]; exact List.mem_append_right _ (List.mem_cons_self ..)⟩
      match a, ha with
      | none, _ => show (1 : Nat) < 10 ^ 9; decide
      | some (v, q), ha => exact (ha v q rfl).1
    · rw [if_neg hc] at h
      match a, ha, h with
      | some (v, q), ha, h =>
        cases h
        obtain ⟨h1, h2⟩ := ha v q rfl
        exact ⟨[], rfl, h1, Nat.zero_le _, by rw [List.append_nil]; exact h2⟩
      | none, _, h => cases h
theorem okTm.mono {w w' : List Nat} {t : Tm} (h : okTm w t) (hs : ∀ q ∈ w, q ∈ w') : okTm w' t := ⟨h.1, h.2.1, hs _ h.2.2⟩
theorem pTerms_sx : ∀ (j : Nat) (ts r : List Tok) (l : List Tm), pTerms j ts = .ok (l, r) → ∃ w, ts = w ++ r ∧ ∀ t ∈ l, okTm (pls w) t
  | 0, ts, r, l, h => by cases h
  | j + 1, ts, r, l, h => by
    rw [pTerms_s] at h
    obtain ⟨t, r1, h1, h2⟩ := rb_ok h
    have k1 : ∃ w, ts = w ++ r1 ∧ okTm (pls w) t := by
      match hp : pNum ts, h1 with
      | some (v, p, r0), h1 =>
        obtain ⟨w0, e0, m0, v0⟩ := pNum_sx hp
        obtain ⟨w, e1, o1⟩ := pTerm_sx (w0 := w0) (fun v' q' e => by cases e; exact ⟨v0, m0⟩) h1
        exact ⟨w0 ++ w, by rw [e0, e1, List.append_assoc], o1⟩
      | none, h1 =>
        obtain ⟨w, e1, o1⟩ := pTerm_sx (w0 := []) (fun v' q' e => by cases e) h1
        exact ⟨w, e1, o1⟩
    obtain ⟨w, e1, o1⟩ := k1
    match r1, h2, e1 with
    | (c, p) :: r2, h2, e1 =>
      simp only [trT] at h2
      by_cases hc : c = 43
      · rw [if_pos hc] at h2
        obtain ⟨l', r3, h3, h4⟩ := rb_ok h2
        cases h4
        obtain ⟨w2, e2, o2⟩ := pTerms_sx j r2 r l' h3
        refine ⟨w ++ (c, p) :: w2, by rw [e1, e2, List.append_assoc]; rfl, fun t' ht' => ?_⟩
        cases ht' with
        | head => exact o1.mono (fun q hq => by rw [pls_app]; exact List.mem_append_left _ hq)
        | tail _ ht' => exact (o2 t' ht').mono (fun q hq => by rw [pls_app]; exact List.mem_append_right _ (List.mem_cons_of_mem _ hq))
      · rw [if_neg hc] at h2
        by_cases hc : c = 41
        · rw [if_pos hc] at h2
          cases h2
          refine ⟨w ++ [(c, p)], by rw [e1, List.append_assoc]; rfl, fun t' ht' => ?_⟩
          cases ht' with
          | head => exact o1.mono (fun q hq => by rw [pls_app]; exact List.mem_append_left _ hq)
          | tail _ ht' => cases ht'
        · rw [if_neg hc] at h2; cases h2
    | [], h2, e1 => cases h2
def okOp (w : List Nat) (o : Op) : Prop := (o.1 = 1 ∧ o.2.1 < 4 ∧ o.2.2.1 ∈ w ∧ o.2.2.2 = []) ∨ ((o.1 = 2 ∨ o.1 = 3) ∧ o.2.1 = 0 ∧ o.2.2.1 ∈ w ∧ ∀ t ∈ o.2.2.2, okTm w t) ∨ (o.1 = 4 ∧ o.2.1 < 10 ^ 9 ∧ o.2.2.1 ∈ w ∧ o.2.2.2 = []) ∨ (o.1 = 5 ∧ o.2.1 < 2 ∧ o.2.2.1 ∈ w ∧ o.2.2.2 = []) ∨ (o.1 = 6 ∧ o.2.1 = 0 ∧ o.2.2.1 = 0 ∧ o.2.2.2 = []) ∨ (o.1 = 7 ∧ o.2.1 < 10 ^ 9 ∧ o.2.2.1 ∈ w ∧ o.2.2.2 = []) ∨ (o.1 = 8 ∧ isOp o.2.1 ∧ o.2.2.1 = 0 ∧ o.2.2.2 = [])
theorem okOp.mono {w w' : List Nat} {o : Op} (h : okOp w o) (hs : ∀ q ∈ w, q ∈ w') : okOp w' o := by
  rcases h with ⟨a, b, c, d⟩ | ⟨a, b, c, d⟩ | ⟨a, b, c, d⟩ | ⟨a, b, c, d⟩ | h | ⟨a, b, c, d⟩ | h
  · exact Or.inl ⟨a, b, hs _ c, d⟩
  · exact Or.inr (Or.inl ⟨a, b, hs _ c, fun t ht => (d t ht).mono hs⟩)
  · exact Or.inr (Or.inr (Or.inl ⟨a, b, hs _ c, d⟩))
  · exact Or.inr (Or.inr (Or.inr (Or.inl ⟨a, b, hs _ c, d⟩)))
  · exact Or.inr (Or.inr (Or.inr (Or.inr (Or.inl h))))
  · exact Or.inr (Or.inr (Or.inr (Or.inr (Or.inr (Or.inl ⟨a, b, hs _ c, d⟩)))))
  · exact Or.inr (Or.inr (Or.inr (Or.inr (Or.inr (Or.inr h)))))
/-- how high the stack of values is behind operations, where it may be B at most -/
def hw (B : Nat) : Nat → List Op → Option Nat
  | h, [] => some h
  | h, o :: e => if o.1 ≤ 5 then (if h < B then hw B (h + 1) e else none) else if o.1 ≤ 7 then (if 1 ≤ h then hw B h e else none) else (if 2 ≤ h then hw B (h - 1) e else none)
theorem hw_app {B : Nat} : ∀ (e e' : List Op) (h k : Nat), hw B h e = some k → hw B h (e ++ e') = hw B k e'
  | [], e', h, k, hh => by injection hh with hh; rw [hh]; rfl
  | o :: e, e', h, k, hh => by
    rw [List.cons_append, hw]
    rw [hw] at hh
    by_cases h1 : o.1 ≤ 5
    · rw [if_pos h1] at hh ⊢
      by_cases h2 : h < B
      · rw [if_pos h2] at hh ⊢; exact hw_app e e' _ k hh
      · rw [if_neg h2] at hh; cases hh
    · rw [if_neg h1] at hh ⊢
      by_cases h3 : o.1 ≤ 7
      · rw [if_pos h3] at hh ⊢
        by_cases h2 : 1 ≤ h
        · rw [if_pos h2] at hh ⊢; exact hw_app e e' _ k hh
        · rw [if_neg h2] at hh; cases hh
      · rw [if_neg h3] at hh ⊢
        by_cases h2 : 2 ≤ h
        · rw [if_pos h2] at hh ⊢; exact hw_app e e' _ k hh
        · rw [if_neg h2] at hh; cases hh
/-- an expression is well made -/
def okE (w : List Nat) (e : List Op) : Prop := (∀ o ∈ e, okOp w o) ∧ hw 13 0 e = some 1
theorem pEx_sx {f d : Nat} {ts r : List Tok} {e : List Op} (hd : d ≤ 12) (h : pEx f d ts = .ok (e, r)) : (∃ w, ts = w ++ r ∧ ∀ o ∈ e, okOp (pls w) o) ∧ ∀ h B, h + 13 ≤ B + d → hw B h e = some (h + 1) := by
  refine pEx_ind (fun d ts e r => (∃ w, ts = w ++ r ∧ ∀ o ∈ e, okOp (pls w) o) ∧ (d ≤ 12 → ∀ h B, h + 13 ≤ B + d → hw B h e = some (h + 1))) ?_ ?_ ?_ ?_ ?_ ?_ ?_ f d ts e r hd h |>.imp id (fun k => k hd)
  · intro d c p ts h1 h2
    refine ⟨⟨[(c, p)], rfl, fun o ho => ?_⟩, fun hd h B hb => ?_⟩
    · cases ho with
      | head => exact Or.inl ⟨rfl, by show c - 65 < 4; omega, List.mem_cons_self .., rfl⟩
      | tail _ ho => cases ho
    · rw [hw, if_pos (by simp), if_pos (by omega)]; rfl
  · intro d c p ts h1
    refine ⟨⟨[(c, p)], rfl, fun o ho => ?_⟩, fun hd h B hb => ?_⟩
    · cases ho with
      | head => exact Or.inr (Or.inr (Or.inr (Or.inl ⟨rfl, by show c - 105 < 2; omega, List.mem_cons_self .., rfl⟩)))
      | tail _ ho => cases ho
    · rw [hw, if_pos (by simp), if_pos (by omega)]; rfl
  · intro d c p ts v p' r h1 h2
    obtain ⟨w, e1, m1, v1⟩ := pNum_sx h2
    refine ⟨⟨w, e1, fun o ho => ?_⟩, fun hd h B hb => ?_⟩
    · cases ho with
      | head => exact Or.inr (Or.inr (Or.inl ⟨rfl, v1, m1, rfl⟩))
      | tail _ ho => cases ho
    · rw [hw, if_pos (by simp), if_pos (by omega)]; rfl
  · intro d c p q ts l r h1 h2
    obtain ⟨w, e1, o1⟩ := pTerms_sx _ _ _ _ h2
    refine ⟨⟨(c, p) :: (40, q) :: w, by rw [e1]; rfl, fun o ho => ?_⟩, fun hd h B hb => ?_⟩
    · cases ho with
      | head =>
        refine Or.inr (Or.inl ⟨?_, rfl, List.mem_cons_self .., fun t ht => (o1 t ht).mono (fun q hq => List.mem_cons_of_mem _ (List.mem_cons_of_mem _ hq))⟩)
        show (if c = 75 then 2 else 3) = 2 ∨ (if c = 75 then 2 else 3) = 3
        split
        · exact Or.inl rfl
        · exact Or.inr rfl
      | tail _ ho => cases ho
    · rw [hw, if_pos (by show (if c = 75 then 2 else 3) ≤ 5; split <;> decide), if_pos (by omega)]; rfl
  · intro d p ts e r h1 ⟨⟨w, e1, o1⟩, h2⟩
    refine ⟨⟨(126, p) :: w, by rw [e1]; rfl, fun o ho => ?_⟩, fun hd h B hb => ?_⟩
    · rcases List.mem_append.mp ho with ho | ho
      · exact (o1 o ho).mono (fun q hq => List.mem_cons_of_mem _ hq)
      · cases ho with
        | head => exact Or.inr (Or.inr (Or.inr (Or.inr (Or.inl ⟨rfl, rfl, rfl, rfl⟩))))
        | tail _ ho => cases ho
    · rw [hw_app e _ h (h + 1) (h2 (by omega) h B (by omega)), hw, if_neg (by simp), if_pos (by simp), if_pos (by omega)]; rfl
  · intro d p q q' ts e r v vp r' h1 ⟨⟨w, e1, o1⟩, h2⟩ hn
    obtain ⟨w2, e2, m2, v2⟩ := pNum_sx hn
    refine ⟨⟨(40, p) :: w ++ (60, q) :: w2 ++ [(41, q')], by rw [e1, e2]; simp only [List.cons_append, List.append_assoc, List.nil_append], fun o ho => ?_⟩, fun hd h B hb => ?_⟩
    · rcases List.mem_append.mp ho with ho | ho
      · exact (o1 o ho).mono (fun x hx => by rw [pls_app, pls_app]; exact List.mem_append_left _ (List.mem_append_left _ (List.mem_cons_of_mem _ hx)))
      · cases ho with
        | head => exact Or.inr (Or.inr (Or.inr (Or.inr (Or.inr (Or.inl ⟨rfl, v2, by rw [pls_app, pls_app]; exact List.mem_append_left _ (List.mem_append_right _ (List.mem_cons_of_mem _ m2)), rfl⟩)))))
        | tail _ ho => cases ho
    · rw [hw_app e _ h (h + 1) (h2 (by omega) h B (by omega)), hw, if_neg (by simp), if_pos (by simp), if_pos (by omega)]; rfl
  · intro d p q q' o ts e r e' r' h1 ho1 ⟨⟨w, e1, o1⟩, h2⟩ ⟨⟨w2, e2, o2⟩, h3⟩
    refine ⟨⟨(40, p) :: w ++ (o, q) :: w2 ++ [(41, q')], by rw [e1, e2]; simp only [List.cons_append, List.append_assoc, List.nil_append], fun x hx => ?_⟩, fun hd h B hb => ?_⟩
    · rcases List.mem_append.mp hx with hx | hx
      · rcases List.mem_append.mp hx with hx | hx
        · exact (o1 x hx).mono (fun x hx => by rw [pls_app, pls_app]; exact List.mem_append_left _ (List.mem_append_left _ (List.mem_cons_of_mem _ hx)))
        · exact (o2 x hx).mono (fun x hx => by rw [pls_app, pls_app]; exact List.mem_append_left _ (List.mem_append_right _ (List.mem_cons_of_mem _ hx)))
      · cases hx with
        | head => exact Or.inr (Or.inr (Or.inr (Or.inr (Or.inr (Or.inr ⟨rfl, ho1, rfl, rfl⟩)))))
        | tail _ hx => cases hx
    · rw [List.append_assoc, hw_app e _ h (h + 1) (h2 (by omega) h B (by omega)), hw_app e' _ (h + 1) (h + 2) (h3 (by omega) (h + 1) B (by omega)), hw, if_neg (by simp), if_neg (by simp), if_pos (by omega)]; rfl
theorem pEx_ok {ts r : List Tok} {e : List Op} (h : pEx 14 0 ts = .ok (e, r)) : ∃ w, ts = w ++ r ∧ okE (pls w) e := by
  obtain ⟨⟨w, e1, o1⟩, h2⟩ := pEx_sx (by omega) h
  exact ⟨w, e1, o1, h2 0 13 (by omega)⟩
theorem okE.mono {w w' : List Nat} {e : List Op} (h : okE w e) (hs : ∀ q ∈ w, q ∈ w') : okE w' e := ⟨fun o ho => (h.1 o ho).mono hs, h.2⟩
theorem pState_sx {ts r : List Tok} {v p : Nat} (h : pState ts = .ok ((v, p), r)) : ∃ w, ts = w ++ r ∧ p ∈ pls w ∧ v < 4 := by
  match ts, h with
  | (c, q) :: ts, h =>
    rw [pState] at h
    by_cases hc : 65 ≤ c ∧ c ≤ 68
    · rw [if_pos hc] at h
      cases h
      exact ⟨[(c, p)], rfl, List.mem_cons_self .., by omega⟩
    · rw [if_neg hc] at h; cases h
  | [], h => cases h
theorem pSpr_sx : ∀ (j : Nat) (ts r : List Tok) (l : List (Nat × Nat)), pSpr j ts = .ok (l, r) → (∃ w, ts = w ++ r ∧ ∀ x ∈ l, x.1 < 10 ^ 9 ∧ x.2 ∈ pls w) ∧ 1 ≤ l.length ∧ l.length ≤ j + 1
  | 0, ts, r, l, h => by
    rw [pSpr] at h
    obtain ⟨⟨v, p⟩, r1, h1, h2⟩ := rb_ok h
    cases h2
    obtain ⟨w, e1, m1, v1⟩ := pNum_sx (pNumR_ok h1)
    exact ⟨⟨w, e1, fun x hx => by cases hx with | head => exact ⟨v1, m1⟩ | tail _ hx => cases hx⟩, by simp, by simp⟩
  | j + 1, ts, r, l, h => by
    rw [pSpr_s] at h
    obtain ⟨⟨v, p⟩, r1, h1, h2⟩ := rb_ok h
    obtain ⟨w, e1, m1, v1⟩ := pNum_sx (pNumR_ok h1)
    match r1, h2, e1 with
    | [], h2, e1 =>
      cases h2
      exact ⟨⟨w, e1, fun x hx => by cases hx with | head => exact ⟨v1, m1⟩ | tail _ hx => cases hx⟩, by simp, by simp⟩
    | (c, q) :: r2, h2, e1 =>
      simp only [sprT2] at h2
      by_cases hc : c = 44
      · rw [if_pos hc] at h2
        obtain ⟨l', r3, h3, h4⟩ := rb_ok h2
        cases h4
        obtain ⟨⟨w2, e2, o2⟩, b1, b2⟩ := pSpr_sx j r2 r l' h3
        refine ⟨⟨w ++ (c, q) :: w2, by rw [e1, e2, List.append_assoc]; rfl, fun x hx => ?_⟩, by rw [List.length_cons]; omega, by rw [List.length_cons]; omega⟩
        cases hx with
        | head => exact ⟨v1, by rw [pls_app]; exact List.mem_append_left _ m1⟩
        | tail _ hx => exact ⟨(o2 x hx).1, by rw [pls_app]; exact List.mem_append_right _ (List.mem_cons_of_mem _ (o2 x hx).2)⟩
      · rw [if_neg hc] at h2
        cases h2
        exact ⟨⟨w, e1, fun x hx => by cases hx with | head => exact ⟨v1, m1⟩ | tail _ hx => cases hx⟩, by simp, by simp⟩
