/-! PURE: indexes that are too great, in all turns -/
def ixB : List Tm → Nat
  | [] => 0
  | t :: l => (if t.2.1 = 0 then t.1 else 0) + ixB l
def ixI : List Tm → Nat
  | [] => 0
  | t :: l => (if t.2.1 = 1 then t.1 else 0) + ixI l
def ixJ : List Tm → Nat
  | [] => 0
  | t :: l => (if t.2.1 = 0 ∨ t.2.1 = 1 then 0 else t.1) + ixJ l
/-- all its letters are open -/
def knw (L : List Nat) : List Tm → Bool
  | [] => true
  | t :: l => decide (t.2.1 = 0 ∨ t.2.1 - 1 ∈ L) && knw L l
theorem xT_eq (L : List Nat) : ∀ (l : List Tm) (x : CP), xT L x l = (x.1, x.2.1 + ixB l, x.2.2.1 + ixI l, x.2.2.2.1 + ixJ l, if knw L l = true then x.2.2.2.2.1 else nM, x.2.2.2.2.2)
  | [], x => rfl
  | t :: l, x => by
    show xT L (xTm L x t) l = _
    rw [xT_eq L l]
    unfold xTm
    by_cases h0 : t.2.1 = 0
    · rw [if_pos h0]
      simp only [ixB, ixI, ixJ, knw, h0, true_or, decide_true, Bool.true_and, if_true, if_false, Nat.zero_add, Nat.add_assoc, show ¬ (0 : Nat) = 1 from by omega]
    · rw [if_neg h0]
      unfold xL
      by_cases h1 : t.2.1 = 1
      · by_cases hm : t.2.1 - 1 ∈ L
        · simp only [ixB, ixI, ixJ, knw, h1, hm, if_neg h0, or_true, false_or, decide_true, Bool.true_and, if_true, if_false, Nat.zero_add, Nat.add_assoc, Nat.sub_self, show ¬ (1 : Nat) = 0 from by omega]
          rw [h1, Nat.sub_self] at hm
          simp only [hm, if_true, decide_true, Bool.true_and]
        · rw [h1, Nat.sub_self] at hm
          simp only [ixB, ixI, ixJ, knw, h1, hm, or_true, or_false, false_or, decide_false, Bool.false_and, if_true, if_false, Nat.zero_add, Nat.add_assoc, Nat.sub_self, show ¬ (1 : Nat) = 0 from by omega, ite_self, Bool.false_eq_true]
      · have hn : ¬ t.2.1 - 1 = 0 := by omega
        by_cases hm : t.2.1 - 1 ∈ L
        · simp only [ixB, ixI, ixJ, knw, h0, h1, hn, hm, or_true, or_false, false_or, decide_true, Bool.true_and, if_true, if_false, Nat.zero_add, Nat.add_assoc]
        · simp only [ixB, ixI, ixJ, knw, h0, h1, hn, hm, or_true, or_false, false_or, decide_false, Bool.false_and, if_true, if_false, Nat.zero_add, Nat.add_assoc, ite_self, Bool.false_eq_true]
theorem ix_le : ∀ (l : List Tm), (∀ t ∈ l, t.1 < 10 ^ 9) → ixB l ≤ l.length * 10 ^ 9 ∧ ixI l ≤ l.length * 10 ^ 9 ∧ ixJ l ≤ l.length * 10 ^ 9
  | [], _ => ⟨Nat.le_refl _, Nat.le_refl _, Nat.le_refl _⟩
  | t :: l, h => by
    obtain ⟨a, b, c⟩ := ix_le l (fun t ht => h t (List.mem_cons_of_mem _ ht))
    have := h t (List.mem_cons_self ..)
    rw [List.length_cons, Nat.succ_mul]
    unfold ixB ixI ixJ
    refine ⟨?_, ?_, ?_⟩ <;> split <;> omega
theorem knw_0 {L : List Nat} : ∀ {l : List Tm}, (∀ t ∈ l, t.2.1 ≤ 2) → knw L l = true → (0 ∉ L → ixI l = 0) ∧ (1 ∉ L → ixJ l = 0)
  | [], _, _ => ⟨fun _ => rfl, fun _ => rfl⟩
  | t :: l, h2, h => by
    unfold knw at h
    rw [Bool.and_eq_true, decide_eq_true_eq] at h
    obtain ⟨a, b⟩ := knw_0 (fun t ht => h2 t (List.mem_cons_of_mem _ ht)) h.2
    have ht := h2 t (List.mem_cons_self ..)
    refine ⟨fun hn => ?_, fun hn => ?_⟩
    · unfold ixI
      rw [a hn, if_neg (fun e => ?_)]
      rcases h.1 with h1 | h1
      · omega
      · rw [e] at h1; exact hn h1
    · unfold ixJ
      rw [b hn, if_pos ?_]
      rcases h.1 with h1 | h1
      · exact Or.inl h1
      · by_cases e0 : t.2.1 = 0
        · exact Or.inl e0
        · refine Or.inr ?_
          by_cases e : t.2.1 = 2
          · rw [e] at h1; exact absurd h1 hn
          · omega
/-- a loop around: its LETTER, its number, how many subkeys a turn writes -/
abbrev Cx : Type := Nat × Nat × Nat
def T0 (C : List Cx) : Nat := match C with
  | [] => 1
  | c :: _ => min c.2.1 16
def T1 (C : List Cx) : Nat := match C with
  | _ :: c :: _ => min c.2.1 16
  | _ => 1
/-- what the letter x is in the turns a, b -/
def rv (C : List Cx) (a b x : Nat) : Nat := match C with
  | _ :: c :: _ => if c.1 = x then b else a
  | _ => a
/-- the subkeys written before -/
def bf (C : List Cx) (sk a b : Nat) : Nat := match C with
  | [] => sk
  | [c] => sk + a * c.2.2
  | c :: d :: _ => sk + a * c.2.2 + b * d.2.2
def ixV (l : List Tm) (i j : Nat) : Nat := ixB l + ixI l * i + ixJ l * j
def tgr (C : List Cx) (tot ky sk : Nat) (w : Bool) (o : Op) : Prop := ∃ a b, a < T0 C ∧ b < T1 C ∧ (if o.1 = 2 then ky else if w = true then bf C sk a b else tot) ≤ ixV o.2.2.2 (rv C a b 0) (rv C a b 1)
def gxO (m tot ky : Nat) (C : List Cx) (sk : Nat) (w : Bool) (o : Op) : Prop := (o.1 = 2 ∨ o.1 = 3) → knw (C.map (·.1)) o.2.2.2 = true → tgr C tot ky sk w o → m ≤ o.2.2.1 * 8 + 3
def gxL (m tot ky : Nat) (C : List Cx) (sk : Nat) (t : Th) : Prop := ∀ o ∈ the t, gxO m tot ky C sk (decide (thk t = 1)) o
abbrev gxB : Type := Nat × (List Cx → Nat → Prop)
def gx (m tot ky : Nat) (l : List Th) : gxB := dF (β := gxB) (0, fun _ _ => True) (fun t r => (skW t + r.1, fun C sk => gxL m tot ky C sk t ∧ r.2 C (sk + skW t))) (fun o b r => (tn o * b.1 + r.1, fun C sk => b.2 (C ++ [(thw o, thv o, b.1)]) sk ∧ r.2 C (sk + tn o * b.1))) l
def GX (m tot ky : Nat) (l : List Th) (C : List Cx) (sk : Nat) : Prop := (gx m tot ky l).2 C sk
section
variable {m tot ky lim lim' : Nat} {t o c : Th} {b r l : List Th}
theorem gx_wt (h : lv lim 0 l = some 0) : (gx m tot ky l).1 = wt skW l := by
  refine dyck (P := fun _ l => (gx m tot ky l).1 = wt skW l) h (fun _ => rfl) ?_ ?_
  · intro lim t r e2 e3 hr ih
    unfold gx at ih ⊢
    rw [dF_leaf (β := gxB) _ _ _ e2 e3 hr, wt_leaf e2 e3 hr, ← ih]
  · intro lim o b c r e2 e3 hm hr i1 i2
    unfold gx at i1 i2 ⊢
    rw [dF_loop (β := gxB) _ _ _ e2 e3 hm hr, wt_loop e2 e3 hm hr, ← i1, ← i2]
theorem GX_leaf (e2 : thk t ≠ 2) (e3 : thk t ≠ 3) (hr : lv lim 0 r = some 0) (C : List Cx) (sk : Nat) : GX m tot ky (t :: r) C sk = (gxL m tot ky C sk t ∧ GX m tot ky r C (sk + skW t)) := by
  unfold GX gx
  rw [dF_leaf (β := gxB) _ _ _ e2 e3 hr]
theorem GX_loop (e2 : thk o = 2) (e3 : thk c = 3) (hm : lv lim 0 b = some 0) (hr : lv lim' 0 r = some 0) (C : List Cx) (sk : Nat) : GX m tot ky (o :: (b ++ c :: r)) C sk = (GX m tot ky b (C ++ [(thw o, thv o, wt skW b)]) sk ∧ GX m tot ky r C (sk + tn o * wt skW b)) := by
  have h := gx_wt (m := m) (tot := tot) (ky := ky) hm
  unfold GX
  unfold gx at h ⊢
  rw [dF_loop (β := gxB) _ _ _ e2 e3 hm hr, ← h]
end
/-- loops around that keep the rules -/
def okC (c : Cx) : Prop := 1 ≤ c.2.1 ∧ c.2.1 ≤ 16 ∧ c.1 < 2
def gdC (C : List Cx) : Prop := match C with
  | [] => True
  | [c] => okC c
  | [c, d] => okC c ∧ okC d ∧ c.1 ≠ d.1
  | _ => False
def tuC (C : List Cx) (x : Nat) : Nat := match C with
  | [] => 1
  | [c] => if c.1 = x then c.2.1 else 1
  | c :: d :: _ => if d.1 = x then d.2.1 else if c.1 = x then c.2.1 else 1
def grC (C : List Cx) (x : Nat) : Nat := match C with
  | [] => 0
  | [c] => if c.1 = x then c.2.2 else 0
  | c :: d :: _ => if d.1 = x then d.2.2 else if c.1 = x then c.2.2 else 0
theorem aff {x : Int} {T : Nat} (hT : 1 ≤ T) : (∀ a : Nat, a < T → x * a ≤ max 0 (x * ((T : Int) - 1))) ∧ ∃ a : Nat, a < T ∧ x * a = max 0 (x * ((T : Int) - 1)) := by
  by_cases hx : 0 ≤ x
  · have h0 : 0 ≤ x * ((T : Int) - 1) := Int.mul_nonneg hx (by omega)
    refine ⟨fun a ha => ?_, T - 1, by omega, ?_⟩
    · have : x * a ≤ x * ((T : Int) - 1) := Int.mul_le_mul_of_nonneg_left (by omega) hx
      omega
    · have e : ((T - 1 : Nat) : Int) = (T : Int) - 1 := by omega
      rw [e]; omega
  · have h0 : x * ((T : Int) - 1) ≤ 0 := Int.mul_nonpos_of_nonpos_of_nonneg (by omega) (by omega)
    refine ⟨fun a ha => ?_, 0, by omega, ?_⟩
    · have : x * a ≤ 0 := Int.mul_nonpos_of_nonpos_of_nonneg (by omega) (by omega)
      omega
    · rw [show ((0 : Nat) : Int) = 0 from rfl, Int.mul_zero]; omega
theorem aff2 {B n x y : Int} {T U : Nat} (hT : 1 ≤ T) (hU : 1 ≤ U) : n ≤ B + max 0 (x * ((T : Int) - 1)) + max 0 (y * ((U : Int) - 1)) ↔ ∃ a b : Nat, a < T ∧ b < U ∧ n ≤ B + x * a + y * b := by
  obtain ⟨h1, a, a1, a2⟩ := aff (x := x) hT
  obtain ⟨h2, b, b1, b2⟩ := aff (x := y) hU
  constructor
  · intro h; exact ⟨a, b, a1, b1, by omega⟩
  · rintro ⟨a', b', c1, c2, c3⟩
    have := h1 a' c1
    have := h2 b' c2
    omega
/-- the class's way to say it -/
abbrev cuT (B I J u0 u1 g0 g1 n : Nat) (w : Bool) : Prop := (n : Int) ≤ (B : Int) + max 0 (((I : Int) - (if w = true then (g0 : Int) else 0)) * ((u0 : Int) - 1)) + max 0 (((J : Int) - (if w = true then (g1 : Int) else 0)) * ((u1 : Int) - 1))
theorem cu_2 {B I J u0 u1 g0 g1 n : Nat} {w : Bool} (h0 : 1 ≤ u0) (h1 : 1 ≤ u1) : cuT B I J u0 u1 g0 g1 n w ↔ ∃ a b : Nat, a < u0 ∧ b < u1 ∧ (if w = true then n + a * g0 + b * g1 else n) ≤ B + I * a + J * b := by
  unfold cuT
  rw [aff2 h0 h1]
  constructor
  · rintro ⟨a, b, p, q, h⟩
    refine ⟨a, b, p, q, ?_⟩
    cases w with
    | true =>
      rw [if_pos rfl, if_pos rfl, Int.sub_mul, Int.sub_mul] at h
      rw [if_pos rfl, Nat.mul_comm a, Nat.mul_comm b]
      have e1 := Int.natCast_mul I a
      have e2 := Int.natCast_mul J b
      have e3 := Int.natCast_mul g0 a
      have e4 := Int.natCast_mul g1 b
      omega
    | false =>
      rw [if_neg (by decide), if_neg (by decide), Int.sub_zero, Int.sub_zero] at h
      rw [if_neg (by decide)]
      have e1 := Int.natCast_mul I a
      have e2 := Int.natCast_mul J b
      omega
  · rintro ⟨a, b, p, q, h⟩
    refine ⟨a, b, p, q, ?_⟩
    cases w with
    | true =>
      rw [if_pos rfl, Nat.mul_comm a, Nat.mul_comm b] at h
      rw [if_pos rfl, if_pos rfl, Int.sub_mul, Int.sub_mul]
      have e1 := Int.natCast_mul I a
      have e2 := Int.natCast_mul J b
      have e3 := Int.natCast_mul g0 a
      have e4 := Int.natCast_mul g1 b
      omega
    | false =>
      rw [if_neg (by decide)] at h
      rw [if_neg (by decide), if_neg (by decide), Int.sub_zero, Int.sub_zero]
      have e1 := Int.natCast_mul I a
      have e2 := Int.natCast_mul J b
      omega
theorem cu_C {C : List Cx} {l : List Tm} {n : Nat} {w : Bool} (hC : gdC C) (hl : ∀ t ∈ l, t.2.1 ≤ 2) (hk : knw (C.map (·.1)) l = true) : cuT (ixB l) (ixI l) (ixJ l) (tuC C 0) (tuC C 1) (grC C 0) (grC C 1) n w ↔ ∃ a b : Nat, a < T0 C ∧ b < T1 C ∧ (if w = true then bf C n a b else n) ≤ ixV l (rv C a b 0) (rv C a b 1) := by
  obtain ⟨k0, k1⟩ := knw_0 hl hk
  match C, hC with
  | [], _ =>
    simp only [tuC, grC]
    rw [cu_2 (Nat.le_refl _) (Nat.le_refl _)]
    simp only [T0, T1, bf, rv, ixV, Nat.mul_zero, Nat.add_zero]
    have e0 := k0 (by simp)
    have e1 := k1 (by simp)
    simp only [e0, e1, Nat.zero_mul, Nat.add_zero]
  | [(x, v, g)], ⟨c1, c2, c3⟩ =>
    simp only at c1 c2 c3
    have hv : min v 16 = v := by omega
    rcases (show x = 0 ∨ x = 1 by omega) with rfl | rfl
    · have e1 := k1 (by simp)
      simp only [T0, T1, bf, rv, ixV, tuC, grC, if_true, hv, show ¬ (0 : Nat) = 1 from by omega, if_false]
      rw [cu_2 c1 (Nat.le_refl _)]
      simp only [e1, Nat.zero_mul, Nat.mul_zero, Nat.add_zero]
    · have e0 := k0 (by simp)
      simp only [T0, T1, bf, rv, ixV, tuC, grC, if_true, hv, show ¬ (1 : Nat) = 0 from by omega, if_false]
      rw [cu_2 (Nat.le_refl _) c1]
      simp only [e0, Nat.zero_mul, Nat.mul_zero, Nat.add_zero]
      exact ⟨fun ⟨a, b, p, q, h⟩ => ⟨b, a, q, p, h⟩, fun ⟨a, b, p, q, h⟩ => ⟨b, a, q, p, h⟩⟩
  | [(x, v, g), (y, u, k)], ⟨⟨c1, c2, c3⟩, ⟨d1, d2, d3⟩, ne⟩ =>
    simp only at c1 c2 c3 d1 d2 d3 ne
    have hv : min v 16 = v := by omega
    have hu : min u 16 = u := by omega
    rcases (show (x = 0 ∧ y = 1) ∨ (x = 1 ∧ y = 0) by omega) with ⟨rfl, rfl⟩ | ⟨rfl, rfl⟩
    · simp only [T0, T1, bf, rv, ixV, tuC, grC, if_true, hv, hu, show ¬ (1 : Nat) = 0 from by omega, if_false]
      rw [cu_2 c1 d1]
    · simp only [T0, T1, bf, rv, ixV, tuC, grC, if_true, hv, hu, show ¬ (0 : Nat) = 1 from by omega, if_false]
      rw [cu_2 d1 c1]
      have e : ∀ a b : Nat, n + a * k + b * g = n + b * g + a * k := fun a b => by omega
      constructor
      · rintro ⟨a, b, p, q, h⟩
        rw [e] at h
        exact ⟨b, a, q, p, h⟩
      · rintro ⟨a, b, p, q, h⟩
        rw [← e] at h
        exact ⟨b, a, q, p, h⟩
theorem wt_le {f : Th → Nat} (hf : ∀ t, f t ≤ 1) {lim : Nat} {l : List Th} (h : lv lim 0 l = some 0) : wt f l ≤ l.length * 16 ^ lim := by
  refine dyck (P := fun lim l => wt f l ≤ l.length * 16 ^ lim) h (fun _ => Nat.zero_le _) ?_ ?_
  · intro lim t r e2 e3 hr ih
    rw [wt_leaf e2 e3 hr, List.length_cons, Nat.succ_mul]
    have := hf t
    have : 1 ≤ 16 ^ lim := Nat.pow_pos (by decide)
    omega
  · intro lim o b c r e2 e3 hm hr i1 i2
    rw [wt_loop e2 e3 hm hr, List.length_cons, List.length_append, List.length_cons]
    have e : tn o * wt f b ≤ 16 * (b.length * 16 ^ lim) := Nat.mul_le_mul (Nat.min_le_right _ _) i1
    have e5 : 16 * (b.length * 16 ^ lim) = b.length * 16 ^ (lim + 1) := by rw [Nat.pow_succ, Nat.mul_comm, Nat.mul_assoc]
    have e6 : (b.length + (r.length + 1) + 1) * 16 ^ (lim + 1) = b.length * 16 ^ (lim + 1) + r.length * 16 ^ (lim + 1) + 2 * 16 ^ (lim + 1) := by
      rw [show b.length + (r.length + 1) + 1 = b.length + r.length + 2 from by omega, Nat.add_mul, Nat.add_mul]
    omega
