/-! PURE: the class checks the indexes of all lines -/
/-- in the text, q stands before all indexes of l -/
def ab (q : Nat) (l : List Th) : Prop := ∀ t ∈ l, ∀ o ∈ the t, (o.1 = 2 ∨ o.1 = 3) → q < o.2.2.1
/-- loops stand before the indexes behind them -/
def sqT (a b : Th) : Prop := thk a = 2 → ∀ o ∈ the b, (o.1 = 2 ∨ o.1 = 3) → thp a < o.2.2.1 ∧ thq a < o.2.2.1
/-- m is not above the fault of a loop of l -/
def bdL (m : Nat) (l : List Th) : Prop := ∃ o ∈ l, thk o = 2 ∧ ∃ q, (q = thp o ∨ q = thq o) ∧ m ≤ q * 8 + 4
/-- what the check needs to know of things -/
def okX (n : Nat) (t : Th) : Prop := (thk t = 2 → thw t < 2) ∧ (thk t ≠ 2 → thk t ≠ 3 → ∀ o ∈ the t, o.1 ≤ 8 ∧ o.2.1 < 10 ^ 9 ∧ o.2.2.1 < n ∧ o.2.2.2.length ≤ 240 ∧ (∀ x ∈ o.2.2.2, x.1 < 10 ^ 9 ∧ x.2.1 ≤ 2) ∧ (o.1 = 8 → isOp o.2.1)) ∧ (∀ x ∈ thn t, x.1 < 10 ^ 9) ∧ (thk t ≠ 2 → thk t ≠ 3 → thk t = 1 ∨ (4 ≤ thk t ∧ thk t ≤ 12))
theorem pw_mk {k B I J : Nat} {p : Int32} (h1 : k < 128) (h2 : B < 2 ^ 40) (h3 : I < 2 ^ 40) (h4 : J < 2 ^ 40) (h5 : p = nM ∨ ∃ q, q ≤ 240 ∧ p = nI q) : PW (k, B, I, J, p) := ⟨h1, h2, h3, h4, h5⟩
theorem cO_eq (L : List Nat) (o : Op) : cO L o = if o.1 = 1 then (65, o.2.1, 0, 0, nM) else if o.1 = 2 then (75, ixB o.2.2.2, ixI o.2.2.2, ixJ o.2.2.2, if knw L o.2.2.2 = true then nI o.2.2.1 else nM) else if o.1 = 3 then (83, ixB o.2.2.2, ixI o.2.2.2, ixJ o.2.2.2, if knw L o.2.2.2 = true then nI o.2.2.1 else nM) else if o.1 = 4 then (110, o.2.1, 0, 0, nM) else if o.1 = 5 then (110, 0, if o.2.1 = 0 then 1 else 0, if o.2.1 = 0 then 0 else 1, nM) else if o.1 = 6 then (126, 0, 0, 0, nM) else if o.1 = 7 then (60, o.2.1, 0, 0, nM) else (o.2.1, 0, 0, 0, nM) := by
  unfold cO cX
  by_cases e1 : o.1 = 1
  · rw [if_pos e1, if_pos e1]; rfl
  rw [if_neg e1, if_neg e1]
  by_cases e2 : o.1 = 2
  · rw [if_pos e2, if_pos e2, xT_eq]
    unfold cp5
    simp only [Nat.zero_add]
  rw [if_neg e2, if_neg e2]
  by_cases e3 : o.1 = 3
  · rw [if_pos e3, if_pos e3, xT_eq]
    unfold cp5
    simp only [Nat.zero_add]
  rw [if_neg e3, if_neg e3]
  by_cases e4 : o.1 = 4
  · rw [if_pos e4, if_pos e4]; rfl
  rw [if_neg e4, if_neg e4]
  by_cases e5 : o.1 = 5
  · rw [if_pos e5, if_pos e5]
    unfold xL cp5
    simp only [Nat.zero_add, ite_self]
  rw [if_neg e5, if_neg e5]
  by_cases e6 : o.1 = 6
  · rw [if_pos e6, if_pos e6]; rfl
  rw [if_neg e6, if_neg e6]
  by_cases e7 : o.1 = 7
  · rw [if_pos e7, if_pos e7]; rfl
  rw [if_neg e7, if_neg e7]
  rfl
theorem cO_w {n : Nat} {L : List Nat} {o : Op} (hn : n ≤ 240) (h : o.1 ≤ 8 ∧ o.2.1 < 10 ^ 9 ∧ o.2.2.1 < n ∧ o.2.2.2.length ≤ 240 ∧ (∀ x ∈ o.2.2.2, x.1 < 10 ^ 9 ∧ x.2.1 ≤ 2) ∧ (o.1 = 8 → isOp o.2.1)) (h0 : 1 ≤ o.1) : PW (cO L o) ∧ ((o.1 ≠ 2 ∧ o.1 ≠ 3) → (cO L o).1 ≠ 75 ∧ (cO L o).1 ≠ 83) ∧ (o.1 = 2 ∨ o.1 = 3 → cO L o = (if o.1 = 2 then 75 else 83, ixB o.2.2.2, ixI o.2.2.2, ixJ o.2.2.2, if knw L o.2.2.2 = true then nI o.2.2.1 else nM)) := by
  obtain ⟨h1, h2, h3, h4, h5, h6⟩ := h
  obtain ⟨x1, x2, x3⟩ := ix_le o.2.2.2 (fun t ht => (h5 t ht).1)
  have hb : o.2.2.2.length * 10 ^ 9 ≤ 240 * 10 ^ 9 := Nat.mul_le_mul_right _ h4
  have hpl : (if knw L o.2.2.2 = true then nI o.2.2.1 else nM) = nM ∨ ∃ q, q ≤ 240 ∧ (if knw L o.2.2.2 = true then nI o.2.2.1 else nM) = nI q := by
    split
    · exact Or.inr ⟨_, by omega, rfl⟩
    · exact Or.inl rfl
  rw [cO_eq]
  by_cases e1 : o.1 = 1
  · rw [if_pos e1]
    exact ⟨pw_mk (by omega) (by omega) (by omega) (by omega) (Or.inl rfl), fun _ => ⟨by show (65 : Nat) ≠ 75; omega, by show (65 : Nat) ≠ 83; omega⟩, fun e => by omega⟩
  rw [if_neg e1]
  by_cases e2 : o.1 = 2
  · rw [if_pos e2]
    exact ⟨pw_mk (by omega) (by omega) (by omega) (by omega) hpl, fun e => absurd e2 e.1, fun _ => by rw [if_pos e2]⟩
  rw [if_neg e2]
  by_cases e3 : o.1 = 3
  · rw [if_pos e3]
    exact ⟨pw_mk (by omega) (by omega) (by omega) (by omega) hpl, fun e => absurd e3 e.2, fun _ => by rw [if_neg e2]⟩
  rw [if_neg e3]
  have hno : ∀ {X : Prop}, o.1 = 2 ∨ o.1 = 3 → X := fun e => by omega
  by_cases e4 : o.1 = 4
  · rw [if_pos e4]
    exact ⟨pw_mk (by omega) (by omega) (by omega) (by omega) (Or.inl rfl), fun _ => ⟨by show (110 : Nat) ≠ 75; omega, by show (110 : Nat) ≠ 83; omega⟩, hno⟩
  rw [if_neg e4]
  by_cases e5 : o.1 = 5
  · rw [if_pos e5]
    exact ⟨pw_mk (by omega) (by omega) (by split <;> omega) (by split <;> omega) (Or.inl rfl), fun _ => ⟨by show (110 : Nat) ≠ 75; omega, by show (110 : Nat) ≠ 83; omega⟩, hno⟩
  rw [if_neg e5]
  by_cases e6 : o.1 = 6
  · rw [if_pos e6]
    exact ⟨pw_mk (by omega) (by omega) (by omega) (by omega) (Or.inl rfl), fun _ => ⟨by show (126 : Nat) ≠ 75; omega, by show (126 : Nat) ≠ 83; omega⟩, hno⟩
  rw [if_neg e6]
  by_cases e7 : o.1 = 7
  · rw [if_pos e7]
    exact ⟨pw_mk (by omega) (by omega) (by omega) (by omega) (Or.inl rfl), fun _ => ⟨by show (60 : Nat) ≠ 75; omega, by show (60 : Nat) ≠ 83; omega⟩, hno⟩
  rw [if_neg e7]
  have h8 := h6 (by omega)
  unfold isOp at h8
  exact ⟨pw_mk (by omega) (by omega) (by omega) (by omega) (Or.inl rfl), fun _ => ⟨by show o.2.1 ≠ 75; omega, by show o.2.1 ≠ 83; omega⟩, hno⟩
def tgC (C : List Cx) : TG := (tuC C 0, tuC C 1, grC C 0, grC C 1)
def sgq (q : TG) (x a b : Nat) : TG := if x = 0 then (a, q.2.1, b, q.2.2.2) else (q.1, a, q.2.2.1, b)
theorem gd_add {C : List Cx} {c : Cx} (h : gdC C) (hl : C.length < 2) (hc : okC c) (hn : c.1 ∉ C.map (·.1)) : gdC (C ++ [c]) ∧ tgC (C ++ [c]) = sgq (tgC C) c.1 c.2.1 c.2.2 ∧ sgq (tgC (C ++ [c])) c.1 1 0 = tgC C := by
  obtain ⟨x, v, g⟩ := c
  obtain ⟨c1, c2, c3⟩ := hc
  simp only at c1 c2 c3 hn ⊢
  match C, h with
  | [], _ =>
    refine ⟨⟨c1, c2, c3⟩, ?_, ?_⟩
    · rcases (show x = 0 ∨ x = 1 by omega) with rfl | rfl <;> rfl
    · rcases (show x = 0 ∨ x = 1 by omega) with rfl | rfl <;> rfl
  | [(y, u, k)], h =>
    have hyx : y ≠ x := fun e => hn (by rw [e]; exact List.mem_cons_self ..)
    have hy : y < 2 := h.2.2
    refine ⟨⟨h, ⟨c1, c2, c3⟩, hyx⟩, ?_, ?_⟩
    · rcases (show (x = 0 ∧ y = 1) ∨ (x = 1 ∧ y = 0) by omega) with ⟨rfl, rfl⟩ | ⟨rfl, rfl⟩ <;> rfl
    · rcases (show (x = 0 ∧ y = 1) ∨ (x = 1 ∧ y = 0) by omega) with ⟨rfl, rfl⟩ | ⟨rfl, rfl⟩ <;> rfl
  | _ :: _ :: _, _ => simp only [List.length_cons] at hl; omega
theorem tgM.set {q : TG} {x a b : Nat} {s : ax_σ} (h : tgM q s) (hx : x < 2) (ha : a < 17) (hb : b < 2 ^ 20) : tgM (sgq q x a b) (ax_wI (ax_wI s 0 30 x (nI a)) 0 31 x (nI b)) := by
  obtain ⟨u0, u1, g0, g1⟩ := q
  obtain ⟨q1, q2, q3, q4, b1, b2, b3, b4⟩ := h
  simp only at q1 q2 q3 q4 b1 b2 b3 b4
  rcases (show x = 0 ∨ x = 1 by omega) with rfl | rfl
  · refine ⟨?_, ?_, ?_, ?_, ha, b2, hb, b4⟩
    · simp (disch := omega) only [wI_1, wI_2, wL_1, wL_2, true_and, and_true, and_self, false_and, and_false, if_true, if_false, if_pos, if_neg]; rfl
    · simp (disch := omega) only [wI_1, wI_2, wL_1, wL_2, true_and, and_true, and_self, false_and, and_false, if_true, if_false, if_pos, if_neg]; exact q2
    · simp (disch := omega) only [wI_1, wI_2, wL_1, wL_2, true_and, and_true, and_self, false_and, and_false, if_true, if_false, if_pos, if_neg]; rfl
    · simp (disch := omega) only [wI_1, wI_2, wL_1, wL_2, true_and, and_true, and_self, false_and, and_false, if_true, if_false, if_pos, if_neg]; exact q4
  · refine ⟨?_, ?_, ?_, ?_, b1, ha, b3, hb⟩
    · simp (disch := omega) only [wI_1, wI_2, wL_1, wL_2, true_and, and_true, and_self, false_and, and_false, if_true, if_false, if_pos, if_neg]; exact q1
    · simp (disch := omega) only [wI_1, wI_2, wL_1, wL_2, true_and, and_true, and_self, false_and, and_false, if_true, if_false, if_pos, if_neg]; rfl
    · simp (disch := omega) only [wI_1, wI_2, wL_1, wL_2, true_and, and_true, and_self, false_and, and_false, if_true, if_false, if_pos, if_neg]; exact q3
    · simp (disch := omega) only [wI_1, wI_2, wL_1, wL_2, true_and, and_true, and_self, false_and, and_false, if_true, if_false, if_pos, if_neg]; rfl
/-- where there are no lines there are no indexes -/
theorem gx_emp {m tot ky lim : Nat} {l : List Th} (h : lv lim 0 l = some 0) : ∀ lb pb sk, (lx l).2.2 lb pb sk = [] → ∀ C sk', GX m tot ky l C sk' := by
  refine dyck (P := fun _ l => ∀ lb pb sk, (lx l).2.2 lb pb sk = [] → ∀ C sk', GX m tot ky l C sk') h (fun _ _ _ _ _ _ _ => trivial) ?_ ?_
  · intro lim t r e2 e3 hr ih lb pb sk e
    rw [lx_leaf e2 e3 hr] at e
    cases e
  · intro lim o b c r e2 e3 hm hr i1 i2 lb pb sk e C sk'
    rw [lx_loop e2 e3 hm hr] at e
    simp only [lxp] at e
    rw [GX_loop e2 e3 hm hr]
    by_cases hX : (lx b).2.2 (lb + 1) pb sk = []
    · rw [if_pos hX] at e
      exact ⟨i1 _ _ _ hX _ _, i2 _ _ _ e _ _⟩
    · rw [if_neg hX] at e; cases e
theorem gx_ab {m tot ky q lim : Nat} {l : List Th} (h : lv lim 0 l = some 0) (hm : m ≤ q * 8 + 4) : ab q l → ∀ C sk, GX m tot ky l C sk := by
  refine dyck (P := fun _ l => ab q l → ∀ C sk, GX m tot ky l C sk) h (fun _ _ _ _ => trivial) ?_ ?_
  · intro lim t r e2 e3 hr ih ha C sk
    rw [GX_leaf e2 e3 hr]
    refine ⟨fun o ho hk _ _ => ?_, ih (fun t ht => ha t (List.mem_cons_of_mem _ ht)) C _⟩
    have := ha t (List.mem_cons_self ..) o ho hk
    omega
  · intro lim o b c r e2 e3 hm hr i1 i2 ha C sk
    rw [GX_loop e2 e3 hm hr]
    exact ⟨i1 (fun t ht => ha t (List.mem_cons_of_mem _ (List.mem_append_left _ ht))) _ _, i2 (fun t ht => ha t (List.mem_cons_of_mem _ (List.mem_append_right _ (List.mem_cons_of_mem _ ht)))) _ _⟩
