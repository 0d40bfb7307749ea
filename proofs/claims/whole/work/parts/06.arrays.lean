/-! THE STEPS ON ARRAYS -/
theorem ax_cell_keep {cA : Nat → ClassId} {ad : Nat → Nat → Nat} {μ μ' : ax_M} {g r : Nat} (a1 : μ'.1 g r = μ.1 g r) (a2 : μ'.2.1 g r = μ.2.1 g r) (a3 : μ'.2.2 g r = μ.2.2 g r) : ax_cell cA ad μ' g r = ax_cell cA ad μ g r := by
  unfold ax_cell
  split <;> simp only [ax_fs, ax_fv, a1, a2, a3]
theorem ax_uI_ne {f : Nat → Nat → Nat → Int32} {g r k g' r' : Nat} {z : Int32} (h : ¬ (g' = g ∧ r' = r)) : ax_uI f g r k z g' r' = f g' r' := by
  funext k'; unfold ax_uI; rw [if_neg (fun z => h ⟨z.1, z.2.1⟩)]
theorem ax_uL_ne {f : Nat → Nat → Nat → Int64} {g r k g' r' : Nat} {z : Int64} (h : ¬ (g' = g ∧ r' = r)) : ax_uL f g r k z g' r' = f g' r' := by
  funext k'; unfold ax_uL; rw [if_neg (fun z => h ⟨z.1, z.2.1⟩)]
theorem ax_uI_self {f : Nat → Nat → Nat → Int32} {g r k : Nat} {z : Int32} : ax_uI f g r k z g r = upd (f g r) k z := by
  funext k'; simp [ax_uI, upd]
theorem ax_uL_self {f : Nat → Nat → Nat → Int64} {g r k : Nat} {z : Int64} : ax_uL f g r k z g r = vp_updL (f g r) k z := by
  funext k'; simp [ax_uL, vp_updL]
/-- reads an int, char or boolean array (tag 1, 2, 4), a long array -/
def ax_ai (al : List (Nat × Nat)) (pc tag : Nat) : ax_F := fun x => bif Nat.beq x.1 pc then (match x.2.2.1 with
  | .inl (.int i) :: .inr (g, r) :: st => (match ax_ly r with
    | (tg, n, _) => bif Nat.beq tg tag then some ((pc + 1, x.2.1, .inl (.int (x.2.2.2.1 g r i.toNatClampNeg)) :: st, x.2.2.2), (g, r) ∈ al ∧ vp_in i n) else none)
  | _ => none) else none
def ax_aL (al : List (Nat × Nat)) (pc : Nat) : ax_F := fun x => bif Nat.beq x.1 pc then (match x.2.2.1 with
  | .inl (.int i) :: .inr (g, r) :: st => (match ax_ly r with
    | (tg, n, _) => bif Nat.beq tg 3 then some ((pc + 1, x.2.1, .inl (.long (x.2.2.2.2.1 g r i.toNatClampNeg)) :: st, x.2.2.2), (g, r) ∈ al ∧ vp_in i n) else none)
  | _ => none) else none
/-- writes one: nr is what the store makes of the int -/
def ax_si (al : List (Nat × Nat)) (pc tag : Nat) (nr : Int32 → Int32) : ax_F := fun x => bif Nat.beq x.1 pc then (match x.2.2.1 with
  | .inl (.int z) :: .inl (.int i) :: .inr (g, r) :: st => (match ax_ly r with
    | (tg, n, _) => bif Nat.beq tg tag then some ((pc + 1, x.2.1, st, (ax_uI x.2.2.2.1 g r i.toNatClampNeg (nr z), x.2.2.2.2)), (g, r) ∈ al ∧ vp_in i n) else none)
  | _ => none) else none
def ax_sL (al : List (Nat × Nat)) (pc : Nat) : ax_F := fun x => bif Nat.beq x.1 pc then (match x.2.2.1 with
  | .inl (.long z) :: .inl (.int i) :: .inr (g, r) :: st => (match ax_ly r with
    | (tg, n, _) => bif Nat.beq tg 3 then some ((pc + 1, x.2.1, st, (x.2.2.2.1, ax_uL x.2.2.2.2.1 g r i.toNatClampNeg z, x.2.2.2.2.2)), (g, r) ∈ al ∧ vp_in i n) else none)
  | _ => none) else none
theorem ax_v_iald {own : String} {cc : ByteArray} {nL : Nat} {p : Program} {l : Launch} {e0 : Env} {R : Room} {s : State} {m : MethodId} {args : Array Value} {below : List Frame} {meth : Method} {c : Code} {Q : State → Prop} {A : Nat → Prop} {D : va_G} {cA : Nat → ClassId} {ad : Nat → Nat → Nat} {al : List (Nat × Nat)} {θ : ax_Θ} {pc : Nat} (hd : decode cc pc = .ok (.iaload, 1)) : ax_v own cc nL ((p, l, e0, R, s, m, args), (below, meth, c), (Q, A), (D, cA, ad, al, θ)) (ax_ai al pc 1) := by
  intro hK x y P cells slots hf hP0 kk
  obtain ⟨q, L, st, μ⟩ := x
  obtain ⟨hx, hb, hown, -, -, hts, hKK, -⟩ := hK
  unfold ax_ai at hf
  cases hq : Nat.beq q pc with
  | false => simp only [hq, cond_false] at hf; cases hf
  | true =>
    simp only [hq, cond_true] at hf
    have hq' : q = pc := Nat.eq_of_beq_eq_true hq
    subst hq'
    match st, hf with
    | .inl (.int i) :: .inr (g, r) :: st', hf =>
      obtain ⟨tg, n, fk, hly⟩ : ∃ a b c, ax_ly r = (a, b, c) := ⟨_, _, _, rfl⟩
      simp only [hly] at hf
      cases htg : Nat.beq tg 1 with
      | false => simp only [htg, cond_false] at hf; cases hf
      | true =>
        simp only [htg, cond_true] at hf
        have htg' : tg = 1 := Nat.eq_of_beq_eq_true htg
        subst htg'
        cases hf
        intro H locs ls hP hD hS hl
        obtain ⟨q0, h0, h1⟩ := ax_at (cA := cA) (ad := ad) hP0.1
        have he := h1 μ
        simp only [ax_cell, hly] at he
        exact va_iald hx hb hKK hP q0 0 he rfl hP0.2 hd (kk H locs ls hP hD hS hl)
theorem ax_v_cald {own : String} {cc : ByteArray} {nL : Nat} {p : Program} {l : Launch} {e0 : Env} {R : Room} {s : State} {m : MethodId} {args : Array Value} {below : List Frame} {meth : Method} {c : Code} {Q : State → Prop} {A : Nat → Prop} {D : va_G} {cA : Nat → ClassId} {ad : Nat → Nat → Nat} {al : List (Nat × Nat)} {θ : ax_Θ} {pc : Nat} (hd : decode cc pc = .ok (.caload, 1)) : ax_v own cc nL ((p, l, e0, R, s, m, args), (below, meth, c), (Q, A), (D, cA, ad, al, θ)) (ax_ai al pc 2) := by
  intro hK x y P cells slots hf hP0 kk
  obtain ⟨q, L, st, μ⟩ := x
  obtain ⟨hx, hb, hown, -, -, hts, hKK, -⟩ := hK
  unfold ax_ai at hf
  cases hq : Nat.beq q pc with
  | false => simp only [hq, cond_false] at hf; cases hf
  | true =>
    simp only [hq, cond_true] at hf
    have hq' : q = pc := Nat.eq_of_beq_eq_true hq
    subst hq'
    match st, hf with
    | .inl (.int i) :: .inr (g, r) :: st', hf =>
      obtain ⟨tg, n, fk, hly⟩ : ∃ a b c, ax_ly r = (a, b, c) := ⟨_, _, _, rfl⟩
      simp only [hly] at hf
      cases htg : Nat.beq tg 2 with
      | false => simp only [htg, cond_false] at hf; cases hf
      | true =>
        simp only [htg, cond_true] at hf
        have htg' : tg = 2 := Nat.eq_of_beq_eq_true htg
        subst htg'
        cases hf
        intro H locs ls hP hD hS hl
        obtain ⟨q0, h0, h1⟩ := ax_at (cA := cA) (ad := ad) hP0.1
        have he := h1 μ
        simp only [ax_cell, hly] at he
        exact va_cald hx hb hKK hP q0 1 he rfl hP0.2 hd (kk H locs ls hP hD hS hl)
theorem ax_v_zald {own : String} {cc : ByteArray} {nL : Nat} {p : Program} {l : Launch} {e0 : Env} {R : Room} {s : State} {m : MethodId} {args : Array Value} {below : List Frame} {meth : Method} {c : Code} {Q : State → Prop} {A : Nat → Prop} {D : va_G} {cA : Nat → ClassId} {ad : Nat → Nat → Nat} {al : List (Nat × Nat)} {θ : ax_Θ} {pc : Nat} (hd : decode cc pc = .ok (.baload, 1)) : ax_v own cc nL ((p, l, e0, R, s, m, args), (below, meth, c), (Q, A), (D, cA, ad, al, θ)) (ax_ai al pc 4) := by
  intro hK x y P cells slots hf hP0 kk
  obtain ⟨q, L, st, μ⟩ := x
  obtain ⟨hx, hb, hown, -, -, hts, hKK, -⟩ := hK
  unfold ax_ai at hf
  cases hq : Nat.beq q pc with
  | false => simp only [hq, cond_false] at hf; cases hf
  | true =>
    simp only [hq, cond_true] at hf
    have hq' : q = pc := Nat.eq_of_beq_eq_true hq
    subst hq'
    match st, hf with
    | .inl (.int i) :: .inr (g, r) :: st', hf =>
      obtain ⟨tg, n, fk, hly⟩ : ∃ a b c, ax_ly r = (a, b, c) := ⟨_, _, _, rfl⟩
      simp only [hly] at hf
      cases htg : Nat.beq tg 4 with
      | false => simp only [htg, cond_false] at hf; cases hf
      | true =>
        simp only [htg, cond_true] at hf
        have htg' : tg = 4 := Nat.eq_of_beq_eq_true htg
        subst htg'
        cases hf
        intro H locs ls hP hD hS hl
        obtain ⟨q0, h0, h1⟩ := ax_at (cA := cA) (ad := ad) hP0.1
        have he := h1 μ
        simp only [ax_cell, hly] at he
        exact va_zald hx hb hKK hP q0 3 he rfl hP0.2 hd (kk H locs ls hP hD hS hl)
theorem ax_v_lald {own : String} {cc : ByteArray} {nL : Nat} {p : Program} {l : Launch} {e0 : Env} {R : Room} {s : State} {m : MethodId} {args : Array Value} {below : List Frame} {meth : Method} {c : Code} {Q : State → Prop} {A : Nat → Prop} {D : va_G} {cA : Nat → ClassId} {ad : Nat → Nat → Nat} {al : List (Nat × Nat)} {θ : ax_Θ} {pc : Nat} (hd : decode cc pc = .ok (.laload, 1)) : ax_v own cc nL ((p, l, e0, R, s, m, args), (below, meth, c), (Q, A), (D, cA, ad, al, θ)) (ax_aL al pc) := by
  intro hK x y P cells slots hf hP0 kk
  obtain ⟨q, L, st, μ⟩ := x
  obtain ⟨hx, hb, hown, -, -, hts, hKK, -⟩ := hK
  unfold ax_aL at hf
  cases hq : Nat.beq q pc with
  | false => simp only [hq, cond_false] at hf; cases hf
  | true =>
    simp only [hq, cond_true] at hf
    have hq' : q = pc := Nat.eq_of_beq_eq_true hq
    subst hq'
    match st, hf with
    | .inl (.int i) :: .inr (g, r) :: st', hf =>
      obtain ⟨tg, n, fk, hly⟩ : ∃ a b c, ax_ly r = (a, b, c) := ⟨_, _, _, rfl⟩
      simp only [hly] at hf
      cases htg : Nat.beq tg 3 with
      | false => simp only [htg, cond_false] at hf; cases hf
      | true =>
        simp only [htg, cond_true] at hf
        have htg' : tg = 3 := Nat.eq_of_beq_eq_true htg
        subst htg'
        cases hf
        intro H locs ls hP hD hS hl
        obtain ⟨q0, h0, h1⟩ := ax_at (cA := cA) (ad := ad) hP0.1
        have he := h1 μ
        simp only [ax_cell, hly] at he
        exact va_lald hx hb hKK hP q0 2 he rfl hP0.2 hd (kk H locs ls hP hD hS hl)
theorem ax_v_iast {own : String} {cc : ByteArray} {nL : Nat} {p : Program} {l : Launch} {e0 : Env} {R : Room} {s : State} {m : MethodId} {args : Array Value} {below : List Frame} {meth : Method} {c : Code} {Q : State → Prop} {A : Nat → Prop} {D : va_G} {cA : Nat → ClassId} {ad : Nat → Nat → Nat} {al : List (Nat × Nat)} {θ : ax_Θ} {pc : Nat} (hd : decode cc pc = .ok (.iastore, 1)) : ax_v own cc nL ((p, l, e0, R, s, m, args), (below, meth, c), (Q, A), (D, cA, ad, al, θ)) (ax_si al pc 1 (fun z => z)) := by
  intro hK x y P cells slots hf hP0 kk
  obtain ⟨q, L, st, μ⟩ := x
  obtain ⟨hx, hb, hown, -, -, hts, hKK, -⟩ := hK
  unfold ax_si at hf
  cases hq : Nat.beq q pc with
  | false => simp only [hq, cond_false] at hf; cases hf
  | true =>
    simp only [hq, cond_true] at hf
    have hq' : q = pc := Nat.eq_of_beq_eq_true hq
    subst hq'
    match st, hf with
    | .inl (.int z) :: .inl (.int i) :: .inr (g, r) :: st', hf =>
      obtain ⟨tg, n, fk, hly⟩ : ∃ a b c, ax_ly r = (a, b, c) := ⟨_, _, _, rfl⟩
      simp only [hly] at hf
      cases htg : Nat.beq tg 1 with
      | false => simp only [htg, cond_false] at hf; cases hf
      | true =>
        simp only [htg, cond_true] at hf
        have htg' : tg = 1 := Nat.eq_of_beq_eq_true htg
        subst htg'
        cases hf
        intro H locs ls hP hD hS hl
        obtain ⟨q0, h0, h1⟩ := ax_at (cA := cA) (ad := ad) hP0.1
        have he := h1 μ
        simp only [ax_cell, hly] at he
        have e2 := ax_ws_set (μ' := (ax_uI μ.1 g r i.toNatClampNeg z, μ.2)) hD h0 (fun g' r' hgr => ax_cell_keep (ax_uI_ne hgr) rfl rfl)
        simp only [ax_cell, hly, ax_uI_self] at e2
        refine va_iast hx hb hKK hP hD hS q0 0 he rfl hP0.2 hd (fun H1 locs1 hP1 hD1 hS1 => ?_)
        rw [e2] at hP1 hD1
        exact kk H1 locs1 ls hP1 hD1 hS1 hl
theorem ax_v_cast {own : String} {cc : ByteArray} {nL : Nat} {p : Program} {l : Launch} {e0 : Env} {R : Room} {s : State} {m : MethodId} {args : Array Value} {below : List Frame} {meth : Method} {c : Code} {Q : State → Prop} {A : Nat → Prop} {D : va_G} {cA : Nat → ClassId} {ad : Nat → Nat → Nat} {al : List (Nat × Nat)} {θ : ax_Θ} {pc : Nat} (hd : decode cc pc = .ok (.castore, 1)) : ax_v own cc nL ((p, l, e0, R, s, m, args), (below, meth, c), (Q, A), (D, cA, ad, al, θ)) (ax_si al pc 2 (vp_nar .char)) := by
  intro hK x y P cells slots hf hP0 kk
  obtain ⟨q, L, st, μ⟩ := x
  obtain ⟨hx, hb, hown, -, -, hts, hKK, -⟩ := hK
  unfold ax_si at hf
  cases hq : Nat.beq q pc with
  | false => simp only [hq, cond_false] at hf; cases hf
  | true =>
    simp only [hq, cond_true] at hf
    have hq' : q = pc := Nat.eq_of_beq_eq_true hq
    subst hq'
    match st, hf with
    | .inl (.int z) :: .inl (.int i) :: .inr (g, r) :: st', hf =>
      obtain ⟨tg, n, fk, hly⟩ : ∃ a b c, ax_ly r = (a, b, c) := ⟨_, _, _, rfl⟩
      simp only [hly] at hf
      cases htg : Nat.beq tg 2 with
      | false => simp only [htg, cond_false] at hf; cases hf
      | true =>
        simp only [htg, cond_true] at hf
        have htg' : tg = 2 := Nat.eq_of_beq_eq_true htg
        subst htg'
        cases hf
        intro H locs ls hP hD hS hl
        obtain ⟨q0, h0, h1⟩ := ax_at (cA := cA) (ad := ad) hP0.1
        have he := h1 μ
        simp only [ax_cell, hly] at he
        have e2 := ax_ws_set (μ' := (ax_uI μ.1 g r i.toNatClampNeg (vp_nar .char z), μ.2)) hD h0 (fun g' r' hgr => ax_cell_keep (ax_uI_ne hgr) rfl rfl)
        simp only [ax_cell, hly, ax_uI_self] at e2
        refine va_cast hx hb hKK hP hD hS q0 1 he rfl hP0.2 hd (fun H1 locs1 hP1 hD1 hS1 => ?_)
        rw [e2] at hP1 hD1
        exact kk H1 locs1 ls hP1 hD1 hS1 hl
theorem ax_v_zast {own : String} {cc : ByteArray} {nL : Nat} {p : Program} {l : Launch} {e0 : Env} {R : Room} {s : State} {m : MethodId} {args : Array Value} {below : List Frame} {meth : Method} {c : Code} {Q : State → Prop} {A : Nat → Prop} {D : va_G} {cA : Nat → ClassId} {ad : Nat → Nat → Nat} {al : List (Nat × Nat)} {θ : ax_Θ} {pc : Nat} (hd : decode cc pc = .ok (.bastore, 1)) : ax_v own cc nL ((p, l, e0, R, s, m, args), (below, meth, c), (Q, A), (D, cA, ad, al, θ)) (ax_si al pc 4 (vp_nar .boolean)) := by
  intro hK x y P cells slots hf hP0 kk
  obtain ⟨q, L, st, μ⟩ := x
  obtain ⟨hx, hb, hown, -, -, hts, hKK, -⟩ := hK
  unfold ax_si at hf
  cases hq : Nat.beq q pc with
  | false => simp only [hq, cond_false] at hf; cases hf
  | true =>
    simp only [hq, cond_true] at hf
    have hq' : q = pc := Nat.eq_of_beq_eq_true hq
    subst hq'
    match st, hf with
    | .inl (.int z) :: .inl (.int i) :: .inr (g, r) :: st', hf =>
      obtain ⟨tg, n, fk, hly⟩ : ∃ a b c, ax_ly r = (a, b, c) := ⟨_, _, _, rfl⟩
      simp only [hly] at hf
      cases htg : Nat.beq tg 4 with
      | false => simp only [htg, cond_false] at hf; cases hf
      | true =>
        simp only [htg, cond_true] at hf
        have htg' : tg = 4 := Nat.eq_of_beq_eq_true htg
        subst htg'
        cases hf
        intro H locs ls hP hD hS hl
        obtain ⟨q0, h0, h1⟩ := ax_at (cA := cA) (ad := ad) hP0.1
        have he := h1 μ
        simp only [ax_cell, hly] at he
        have e2 := ax_ws_set (μ' := (ax_uI μ.1 g r i.toNatClampNeg (vp_nar .boolean z), μ.2)) hD h0 (fun g' r' hgr => ax_cell_keep (ax_uI_ne hgr) rfl rfl)
        simp only [ax_cell, hly, ax_uI_self] at e2
        refine va_zast hx hb hKK hP hD hS q0 3 he rfl hP0.2 hd (fun H1 locs1 hP1 hD1 hS1 => ?_)
        rw [e2] at hP1 hD1
        exact kk H1 locs1 ls hP1 hD1 hS1 hl
theorem ax_v_last {own : String} {cc : ByteArray} {nL : Nat} {p : Program} {l : Launch} {e0 : Env} {R : Room} {s : State} {m : MethodId} {args : Array Value} {below : List Frame} {meth : Method} {c : Code} {Q : State → Prop} {A : Nat → Prop} {D : va_G} {cA : Nat → ClassId} {ad : Nat → Nat → Nat} {al : List (Nat × Nat)} {θ : ax_Θ} {pc : Nat} (hd : decode cc pc = .ok (.lastore, 1)) : ax_v own cc nL ((p, l, e0, R, s, m, args), (below, meth, c), (Q, A), (D, cA, ad, al, θ)) (ax_sL al pc) := by
  intro hK x y P cells slots hf hP0 kk
  obtain ⟨q, L, st, μ⟩ := x
  obtain ⟨hx, hb, hown, -, -, hts, hKK, -⟩ := hK
  unfold ax_sL at hf
  cases hq : Nat.beq q pc with
  | false => simp only [hq, cond_false] at hf; cases hf
  | true =>
    simp only [hq, cond_true] at hf
    have hq' : q = pc := Nat.eq_of_beq_eq_true hq
    subst hq'
    match st, hf with
    | .inl (.long z) :: .inl (.int i) :: .inr (g, r) :: st', hf =>
      obtain ⟨tg, n, fk, hly⟩ : ∃ a b c, ax_ly r = (a, b, c) := ⟨_, _, _, rfl⟩
      simp only [hly] at hf
      cases htg : Nat.beq tg 3 with
      | false => simp only [htg, cond_false] at hf; cases hf
      | true =>
        simp only [htg, cond_true] at hf
        have htg' : tg = 3 := Nat.eq_of_beq_eq_true htg
        subst htg'
        cases hf
        intro H locs ls hP hD hS hl
        obtain ⟨q0, h0, h1⟩ := ax_at (cA := cA) (ad := ad) hP0.1
        have he := h1 μ
        simp only [ax_cell, hly] at he
        have e2 := ax_ws_set (μ' := (μ.1, ax_uL μ.2.1 g r i.toNatClampNeg z, μ.2.2)) hD h0 (fun g' r' hgr => ax_cell_keep rfl (ax_uL_ne hgr) rfl)
        simp only [ax_cell, hly, ax_uL_self] at e2
        refine va_last hx hb hKK hP hD hS q0 2 he rfl hP0.2 hd (fun H1 locs1 hP1 hD1 hS1 => ?_)
        rw [e2] at hP1 hD1
        exact kk H1 locs1 ls hP1 hD1 hS1 hl
