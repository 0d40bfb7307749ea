/-! PURE: lists of things whose loops are closed; functions over them -/
theorem lv_2 {lim o : Nat} {t : Th} {l : List Th} (h : thk t = 2) (ho : o < lim) : lv lim o (t :: l) = lv lim (o + 1) l := by rw [lv, if_pos h, if_pos ho]
theorem lv_3 {lim o : Nat} {t : Th} {l : List Th} (h : thk t = 3) : lv lim (o + 1) (t :: l) = lv lim o l := by rw [lv, if_neg (by omega), if_pos h, if_neg (by omega)]; rfl
theorem lv_1 {lim o : Nat} {t : Th} {l : List Th} (h2 : thk t ≠ 2) (h3 : thk t ≠ 3) : lv lim o (t :: l) = lv lim o l := by rw [lv, if_neg h2, if_neg h3]
theorem lv_spl (lim o : Nat) : ∀ (l : List Th) (j : Nat), lv lim (o + 1 + j) l = some 0 → ∃ m c r, l = m ++ c :: r ∧ thk c = 3 ∧ lv (lim - (o + 1)) j m = some 0 ∧ lv lim o r = some 0
  | [], j, h => by rw [lv] at h; injection h with h; omega
  | t :: l, j, h => by
    rw [lv] at h
    by_cases h2 : thk t = 2
    · rw [if_pos h2] at h
      by_cases hl : o + 1 + j < lim
      · rw [if_pos hl] at h
        obtain ⟨m, c, r, e, a, b, d⟩ := lv_spl lim o l (j + 1) h
        exact ⟨t :: m, c, r, by rw [e]; rfl, a, by rw [lv_2 h2 (by omega)]; exact b, d⟩
      · rw [if_neg hl] at h; cases h
    · rw [if_neg h2] at h
      by_cases h3 : thk t = 3
      · rw [if_pos h3, if_neg (by omega)] at h
        match j, h with
        | 0, h => exact ⟨[], t, l, rfl, h3, rfl, by rw [show o + 1 + 0 - 1 = o from by omega] at h; exact h⟩
        | j + 1, h =>
          rw [show o + 1 + (j + 1) - 1 = o + 1 + j from by omega] at h
          obtain ⟨m, c, r, e, a, b, d⟩ := lv_spl lim o l j h
          exact ⟨t :: m, c, r, by rw [e]; rfl, a, by rw [lv_3 h3]; exact b, d⟩
      · rw [if_neg h3] at h
        obtain ⟨m, c, r, e, a, b, d⟩ := lv_spl lim o l j h
        exact ⟨t :: m, c, r, by rw [e]; rfl, a, by rw [lv_1 h2 h3]; exact b, d⟩
theorem dyckN {P : Nat → List Th → Prop} (h0 : ∀ lim, P lim []) (h1 : ∀ lim t r, thk t ≠ 2 → thk t ≠ 3 → lv lim 0 r = some 0 → P lim r → P lim (t :: r)) (h2 : ∀ lim o m c r, thk o = 2 → thk c = 3 → lv lim 0 m = some 0 → lv (lim + 1) 0 r = some 0 → P lim m → P (lim + 1) r → P (lim + 1) (o :: (m ++ c :: r))) : ∀ (n lim : Nat) (l : List Th), l.length ≤ n → lv lim 0 l = some 0 → P lim l
  | n, lim, [], _, _ => h0 lim
  | 0, lim, t :: l, h, _ => by rw [List.length_cons] at h; omega
  | n + 1, lim, t :: l, hn, h => by
    rw [List.length_cons] at hn
    by_cases e2 : thk t = 2
    · rw [lv, if_pos e2] at h
      by_cases hl : 0 < lim
      · rw [if_pos hl] at h
        obtain ⟨m, c, r, e, a, b, d⟩ := lv_spl lim 0 l 0 h
        match lim, hl, b, d with
        | lim + 1, hl, b, d =>
          rw [show lim + 1 - (0 + 1) = lim from by omega] at b
          subst e
          rw [List.length_append, List.length_cons] at hn
          exact h2 lim t m c r e2 a b d (dyckN h0 h1 h2 n lim m (by omega) b) (dyckN h0 h1 h2 n (lim + 1) r (by omega) d)
      · rw [if_neg hl] at h; cases h
    · by_cases e3 : thk t = 3
      · rw [lv, if_neg e2, if_pos e3, if_pos rfl] at h; cases h
      · rw [lv_1 e2 e3] at h
        exact h1 lim t l e2 e3 h (dyckN h0 h1 h2 n lim l (by omega) h)
/-- induction over lists whose loops are closed -/
theorem dyck {P : Nat → List Th → Prop} {lim : Nat} {l : List Th} (h : lv lim 0 l = some 0) (h0 : ∀ lim, P lim []) (h1 : ∀ lim t r, thk t ≠ 2 → thk t ≠ 3 → lv lim 0 r = some 0 → P lim r → P lim (t :: r)) (h2 : ∀ lim o m c r, thk o = 2 → thk c = 3 → lv lim 0 m = some 0 → lv (lim + 1) 0 r = some 0 → P lim m → P (lim + 1) r → P (lim + 1) (o :: (m ++ c :: r))) : P lim l := dyckN h0 h1 h2 l.length lim l (Nat.le_refl _) h
theorem lv_app {lim : Nat} : ∀ (a b : List Th) (o k : Nat), lv lim o a = some k → lv lim o (a ++ b) = lv lim k b
  | [], b, o, k, h => by injection h with h; rw [h]; rfl
  | t :: a, b, o, k, h => by
    rw [List.cons_append, lv]
    rw [lv] at h
    by_cases h2 : thk t = 2
    · rw [if_pos h2] at h ⊢
      by_cases hl : o < lim
      · rw [if_pos hl] at h ⊢; exact lv_app a b _ k h
      · rw [if_neg hl] at h; cases h
    · rw [if_neg h2] at h ⊢
      by_cases h3 : thk t = 3
      · rw [if_pos h3] at h ⊢
        by_cases h0 : o = 0
        · rw [if_pos h0] at h; cases h
        · rw [if_neg h0] at h ⊢; exact lv_app a b _ k h
      · rw [if_neg h3] at h ⊢; exact lv_app a b _ k h
section
variable {β : Type} (z : β) (lf : Th → β → β) (lp : Th → β → β → β)
def dS (t : Th) (st : List β) : List β :=
  if thk t = 3 then z :: st else if thk t = 2 then (match st with
    | m :: r :: st' => lp t m r :: st'
    | st => st) else (match st with
    | x :: st' => lf t x :: st'
    | [] => [])
/-- a function over such lists: z of none, lf of a thing and the rest, lp of a loop's head, what is in it, and the rest -/
def dF (l : List Th) : β := (l.foldr (dS z lf lp) [z]).headD z
def dFx (l : List Th) (x : β) : β := (l.foldr (dS z lf lp) [x]).headD z
theorem dFx_all {lim : Nat} {l : List Th} (h : lv lim 0 l = some 0) : ∀ x st, l.foldr (dS z lf lp) (x :: st) = dFx z lf lp l x :: st := by
  refine dyck (P := fun _ l => ∀ x st, l.foldr (dS z lf lp) (x :: st) = dFx z lf lp l x :: st) h (fun _ x st => rfl) ?_ ?_
  · intro lim t r e2 e3 _ ih x st
    have e : ∀ y st, dS z lf lp t (y :: st) = lf t y :: st := fun y st => by unfold dS; rw [if_neg e3, if_neg e2]
    unfold dFx
    rw [List.foldr_cons, List.foldr_cons, ih x st, ih x [], e, e]
    rfl
  · intro lim o m c r e2 e3 _ _ ihm ihr x st
    have eo : ∀ y y' st, dS z lf lp o (y :: y' :: st) = lp o y y' :: st := fun y y' st => by unfold dS; rw [if_neg (by omega), if_pos e2]
    have ec : ∀ st, dS z lf lp c st = z :: st := fun st => by unfold dS; rw [if_pos e3]
    unfold dFx
    rw [List.foldr_cons, List.foldr_cons, List.foldr_append, List.foldr_append, List.foldr_cons, List.foldr_cons, ihr x st, ihr x [], ec, ec, ihm z, ihm z, eo, eo]
    rfl
theorem dF_nil : dF z lf lp [] = z := rfl
theorem dF_leaf {lim : Nat} {t : Th} {r : List Th} (e2 : thk t ≠ 2) (e3 : thk t ≠ 3) (hr : lv lim 0 r = some 0) : dF z lf lp (t :: r) = lf t (dF z lf lp r) := by
  have h := dFx_all z lf lp hr z []
  have e : ∀ y st, dS z lf lp t (y :: st) = lf t y :: st := fun y st => by unfold dS; rw [if_neg e3, if_neg e2]
  show ((t :: r).foldr (dS z lf lp) [z]).headD z = _
  rw [List.foldr_cons, h, e]
  rfl
theorem dF_loop {lim lim' : Nat} {o c : Th} {m r : List Th} (e2 : thk o = 2) (e3 : thk c = 3) (hm : lv lim 0 m = some 0) (hr : lv lim' 0 r = some 0) : dF z lf lp (o :: (m ++ c :: r)) = lp o (dF z lf lp m) (dF z lf lp r) := by
  have h1 := dFx_all z lf lp hr z []
  have h2 := dFx_all z lf lp hm z
  have eo : ∀ y y' st, dS z lf lp o (y :: y' :: st) = lp o y y' :: st := fun y y' st => by unfold dS; rw [if_neg (by omega), if_pos e2]
  have ec : ∀ st, dS z lf lp c st = z :: st := fun st => by unfold dS; rw [if_pos e3]
  show ((o :: (m ++ c :: r)).foldr (dS z lf lp) [z]).headD z = _
  rw [List.foldr_cons, List.foldr_append, List.foldr_cons, h1, ec, h2, eo]
  rfl
end
/-- as often as a loop is gone through -/
def tn (o : Th) : Nat := min (thv o) 16
/-- what f says of all that is done -/
def wt (f : Th → Nat) (l : List Th) : Nat := dF (β := Nat) 0 (fun t r => f t + r) (fun o m r => tn o * m + r) l
section
variable {f : Th → Nat} {lim lim' : Nat} {t o c : Th} {m r l : List Th}
theorem wt_nil : wt f [] = 0 := rfl
theorem wt_leaf (e2 : thk t ≠ 2) (e3 : thk t ≠ 3) (hr : lv lim 0 r = some 0) : wt f (t :: r) = f t + wt f r := dF_leaf _ _ _ e2 e3 hr
theorem wt_loop (e2 : thk o = 2) (e3 : thk c = 3) (hm : lv lim 0 m = some 0) (hr : lv lim' 0 r = some 0) : wt f (o :: (m ++ c :: r)) = tn o * wt f m + wt f r := dF_loop _ _ _ e2 e3 hm hr
theorem wt_app (h : lv lim 0 l = some 0) (hr : lv lim' 0 r = some 0) (hl : lim ≤ lim') : wt f (l ++ r) = wt f l + wt f r := by
  have mono : ∀ (l : List Th) (o a b : Nat) (k : Nat), a ≤ b → lv a o l = some k → lv b o l = some k := by
    intro l
    induction l with
    | nil => intro o a b k _ h; exact h
    | cons t l ih =>
      intro o a b k hab h
      rw [lv] at h ⊢
      by_cases h2 : thk t = 2
      · rw [if_pos h2] at h ⊢
        by_cases hl : o < a
        · rw [if_pos hl] at h
          rw [if_pos (by omega)]
          exact ih _ _ _ _ hab h
        · rw [if_neg hl] at h; cases h
      · rw [if_neg h2] at h ⊢
        by_cases h3 : thk t = 3
        · rw [if_pos h3] at h ⊢
          by_cases h0 : o = 0
          · rw [if_pos h0] at h; cases h
          · rw [if_neg h0] at h ⊢; exact ih _ _ _ _ hab h
        · rw [if_neg h3] at h ⊢; exact ih _ _ _ _ hab h
  refine dyck (P := fun lim l => lim ≤ lim' → wt f (l ++ r) = wt f l + wt f r) h (fun _ _ => by rw [List.nil_append, wt_nil, Nat.zero_add]) ?_ ?_ hl
  · intro lim t q e2 e3 hq ih hl
    have hqr : lv lim' 0 (q ++ r) = some 0 := by rw [lv_app q r 0 0 (mono q 0 _ _ 0 hl hq)]; exact hr
    rw [List.cons_append, wt_leaf e2 e3 hqr, wt_leaf e2 e3 hq, ih hl, Nat.add_assoc]
  · intro lim o m c q e2 e3 hm hq _ ih hl
    have hqr : lv lim' 0 (q ++ r) = some 0 := by rw [lv_app q r 0 0 (mono q 0 _ _ 0 hl hq)]; exact hr
    have e : o :: (m ++ c :: q) ++ r = o :: (m ++ c :: (q ++ r)) := by simp only [List.cons_append, List.append_assoc]
    rw [e, wt_loop e2 e3 hm hqr, wt_loop e2 e3 hm hq, ih hl, Nat.add_assoc]
end
