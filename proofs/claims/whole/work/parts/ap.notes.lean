/-! PURE: the least fault, by what it is not above -/
theorem le_if {m a b : Nat} {c : Prop} [Decidable c] : m ≤ (if c then a else min a b) ↔ m ≤ a ∧ (¬ c → m ≤ b) := by
  split
  · rename_i h; exact ⟨fun k => ⟨k, fun n => absurd h n⟩, fun k => k.1⟩
  · rename_i h; exact ⟨fun k => ⟨by omega, fun _ => by omega⟩, fun k => by have := k.2 h; omega⟩
theorem le_fi {m a b : Nat} {c : Prop} [Decidable c] : m ≤ (if c then min a b else a) ↔ m ≤ a ∧ (c → m ≤ b) := by
  split
  · rename_i h; exact ⟨fun k => ⟨by omega, fun _ => by omega⟩, fun k => by have := k.2 h; omega⟩
  · rename_i h; exact ⟨fun k => ⟨k, fun n => absurd n h⟩, fun k => k.1⟩
theorem le_foldl {α : Type} {f : Nat → α → Nat} {Q : α → Prop} {m : Nat} (h : ∀ lf x, m ≤ f lf x ↔ m ≤ lf ∧ Q x) : ∀ (l : List α) (lf : Nat), m ≤ l.foldl f lf ↔ m ≤ lf ∧ ∀ x ∈ l, Q x
  | [], lf => ⟨fun k => ⟨k, fun x hx => by cases hx⟩, fun k => k.1⟩
  | x :: l, lf => by
    rw [List.foldl_cons, le_foldl h l, h]
    constructor
    · rintro ⟨⟨a, b⟩, c⟩
      refine ⟨a, fun y hy => ?_⟩
      cases hy with
      | head => exact b
      | tail _ hy => exact c y hy
    · rintro ⟨a, b⟩
      exact ⟨⟨a, b x (List.mem_cons_self ..)⟩, fun y hy => b y (List.mem_cons_of_mem _ hy)⟩
theorem le_lfN {m lf b v p : Nat} : m ≤ lfN lf b v p ↔ m ≤ lf ∧ (¬ v < b → m ≤ p * 8 + 3) := le_if
theorem le_lfL {m lf l p : Nat} {L : List Nat} : m ≤ lfL L lf l p ↔ m ≤ lf ∧ (l ∉ L → m ≤ p * 8 + 4) := le_if
def tmN (m : Nat) (L : List Nat) (t : Tm) : Prop := t.2.1 ≠ 0 → t.2.1 - 1 ∉ L → m ≤ t.2.2 * 8 + 4
theorem le_lfT {m lf : Nat} {L : List Nat} (l : List Tm) : m ≤ lfT L lf l ↔ m ≤ lf ∧ ∀ t ∈ l, tmN m L t := by
  refine le_foldl (fun lf t => ?_) l lf
  unfold lfTm tmN
  by_cases h : t.2.1 = 0
  · rw [if_pos h]; exact ⟨fun k => ⟨k, fun n => absurd h n⟩, fun k => k.1⟩
  · rw [if_neg h, le_lfL]; exact ⟨fun k => ⟨k.1, fun _ => k.2⟩, fun k => ⟨k.1, k.2 h⟩⟩
def opN (sn w m : Nat) (L : List Nat) (o : Op) : Prop := (o.1 = 1 → ¬ o.2.1 < sn → m ≤ o.2.2.1 * 8 + 4) ∧ (o.1 = 2 ∨ o.1 = 3 → ∀ t ∈ o.2.2.2, tmN m L t) ∧ (o.1 = 4 → ¬ o.2.1 < wb w → m ≤ o.2.2.1 * 8 + 3) ∧ (o.1 = 5 → o.2.1 ∉ L → m ≤ o.2.2.1 * 8 + 4) ∧ (o.1 = 7 → ¬ o.2.1 < w → m ≤ o.2.2.1 * 8 + 3)
theorem le_lfO {sn w m lf : Nat} {L : List Nat} {o : Op} : m ≤ lfO sn w L lf o ↔ m ≤ lf ∧ opN sn w m L o := by
  unfold lfO opN
  by_cases h1 : o.1 = 1
  · rw [if_pos h1, le_if]
    exact ⟨fun k => ⟨k.1, fun _ => k.2, fun e => by omega, fun e => by omega, fun e => by omega, fun e => by omega⟩, fun k => ⟨k.1, k.2.1 h1⟩⟩
  rw [if_neg h1]
  by_cases h2 : o.1 = 2 ∨ o.1 = 3
  · rw [if_pos h2, le_lfT]
    exact ⟨fun k => ⟨k.1, fun e => absurd e h1, fun _ => k.2, fun e => by omega, fun e => by omega, fun e => by omega⟩, fun k => ⟨k.1, k.2.2.1 h2⟩⟩
  rw [if_neg h2]
  by_cases h4 : o.1 = 4
  · rw [if_pos h4, le_lfN]
    exact ⟨fun k => ⟨k.1, fun e => absurd e h1, fun e => absurd e h2, fun _ => k.2, fun e => by omega, fun e => by omega⟩, fun k => ⟨k.1, k.2.2.2.1 h4⟩⟩
  rw [if_neg h4]
  by_cases h5 : o.1 = 5
  · rw [if_pos h5, le_lfL]
    exact ⟨fun k => ⟨k.1, fun e => absurd e h1, fun e => absurd e h2, fun e => absurd e h4, fun _ => k.2, fun e => by omega⟩, fun k => ⟨k.1, k.2.2.2.2.1 h5⟩⟩
  rw [if_neg h5]
  by_cases h7 : o.1 = 7
  · rw [if_pos h7, le_lfN]
    exact ⟨fun k => ⟨k.1, fun e => absurd e h1, fun e => absurd e h2, fun e => absurd e h4, fun e => absurd e h5, fun _ => k.2⟩, fun k => ⟨k.1, k.2.2.2.2.2 h7⟩⟩
  rw [if_neg h7]
  exact ⟨fun k => ⟨k, fun e => absurd e h1, fun e => absurd e h2, fun e => absurd e h4, fun e => absurd e h5, fun e => absurd e h7⟩, fun k => k.1⟩
def exN (sn w m : Nat) (L : List Nat) (e : List Op) : Prop := ∀ o ∈ e, opN sn w m L o
theorem le_lfE {sn w m lf : Nat} {L : List Nat} {e : List Op} : m ≤ lfE sn w L lf e ↔ m ≤ lf ∧ exN sn w m L e := le_foldl (f := lfO sn w L) (Q := opN sn w m L) (fun _ _ => le_lfO) e lf
def wkN (K : KS) (m : Nat) (L : List Nat) (k : Wk) : Prop :=
  if k.1 ≤ 6 then exN (ksn K) (kw K) m L k.2.2.2.1
  else if k.1 = 7 then ¬ k.2.1 < wb (kw K) → m ≤ k.2.2.1 * 8 + 3
  else if k.1 = 8 then ¬ k.2.1 < kw K → m ≤ k.2.2.1 * 8 + 3
  else if k.1 = 9 ∨ k.1 = 10 then ¬ k.2.1 < ksn K → m ≤ k.2.2.1 * 8 + 4
  else if k.1 = 11 then ¬ k.2.1 < ktb K → m ≤ k.2.2.1 * 8 + 4
  else ∀ x ∈ k.2.2.2.2, ¬ x.1 < kw K → m ≤ x.2 * 8 + 3
theorem le_lfW {K : KS} {m lf : Nat} {L : List Nat} {k : Wk} : m ≤ lfW K L lf k ↔ m ≤ lf ∧ wkN K m L k := by
  unfold lfW wkN
  by_cases h1 : k.1 ≤ 6
  · rw [if_pos h1, if_pos h1]; exact le_lfE
  rw [if_neg h1, if_neg h1]
  by_cases h2 : k.1 = 7
  · rw [if_pos h2, if_pos h2]; exact le_lfN
  rw [if_neg h2, if_neg h2]
  by_cases h3 : k.1 = 8
  · rw [if_pos h3, if_pos h3]; exact le_lfN
  rw [if_neg h3, if_neg h3]
  by_cases h4 : k.1 = 9 ∨ k.1 = 10
  · rw [if_pos h4, if_pos h4]; exact le_if
  rw [if_neg h4, if_neg h4]
  by_cases h5 : k.1 = 11
  · rw [if_pos h5, if_pos h5]; exact le_if
  rw [if_neg h5, if_neg h5]
  exact le_foldl (α := Nat × Nat) (f := fun lf n => lfN lf (kw K) n.1 n.2) (Q := fun x => ¬ x.1 < kw K → m ≤ x.2 * 8 + 3) (fun _ _ => le_lfN) _ lf
def leafN (K : KS) (m : Nat) (L : List Nat) (t : Th) : Prop := if thk t = 1 then exN (ksn K) (kw K) m L (the t) else (¬ thw t < ksn K → m ≤ thp t * 8 + 4) ∧ wkN K m L (wkOf t) ∧ (¬ undo K (thw t) (wkOf t) = true → m ≤ thp t * 8 + 5)
theorem le_lfLf {K : KS} {m lf : Nat} {L : List Nat} {t : Th} : m ≤ lfLf K L lf t ↔ m ≤ lf ∧ leafN K m L t := by
  unfold lfLf leafN
  by_cases h1 : thk t = 1
  · rw [if_pos h1, if_pos h1]; exact le_lfE
  rw [if_neg h1, if_neg h1]
  unfold lfSt
  rw [le_if, le_lfW, le_if]
  exact ⟨fun k => ⟨k.1.1.1, k.1.1.2, k.1.2, k.2⟩, fun k => ⟨⟨⟨k.1, k.2.1⟩, k.2.2.1⟩, k.2.2.2⟩⟩
def oN (m : Nat) (L : List Nat) (o : Th) : Prop := (thw o ∈ L → m ≤ thp o * 8 + 4) ∧ (¬ thv o < 17 → m ≤ thq o * 8 + 3) ∧ (thv o < 1 → m ≤ thq o * 8 + 3)
theorem le_lfOp {m lf : Nat} {L : List Nat} {o : Th} : m ≤ lfOp L lf (thp o) (thw o) (thv o) (thq o) ↔ m ≤ lf ∧ oN m L o := by
  unfold lfOp oN
  rw [le_fi, le_lfN, le_fi]
  exact ⟨fun k => ⟨k.1.1.1, k.1.1.2, k.1.2, k.2⟩, fun k => ⟨⟨⟨k.1, k.2.1⟩, k.2.2.1⟩, k.2.2.2⟩⟩
def NX (K : KS) (m : Nat) (l : List Th) : List Nat → Prop := dF (β := List Nat → Prop) (fun _ => True) (fun t r L => leafN K m L t ∧ r L) (fun o b r L => oN m L o ∧ b (L ++ [thw o]) ∧ r L) l
section
variable {K : KS} {m lim lim' : Nat} {t o c : Th} {b r l : List Th}
theorem NX_leaf (e2 : thk t ≠ 2) (e3 : thk t ≠ 3) (hr : lv lim 0 r = some 0) (L : List Nat) : NX K m (t :: r) L = (leafN K m L t ∧ NX K m r L) := congrFun (dF_leaf (β := List Nat → Prop) _ _ _ e2 e3 hr) L
theorem NX_loop (e2 : thk o = 2) (e3 : thk c = 3) (hm : lv lim 0 b = some 0) (hr : lv lim' 0 r = some 0) (L : List Nat) : NX K m (o :: (b ++ c :: r)) L = (oN m L o ∧ NX K m b (L ++ [thw o]) ∧ NX K m r L) := congrFun (dF_loop (β := List Nat → Prop) _ _ _ e2 e3 hm hr) L
theorem le_LFX (h : lv lim 0 l = some 0) : ∀ (L : List Nat) (lf : Nat), m ≤ LFX K l L lf ↔ m ≤ lf ∧ NX K m l L := by
  refine dyck (P := fun _ l => ∀ (L : List Nat) (lf : Nat), m ≤ LFX K l L lf ↔ m ≤ lf ∧ NX K m l L) h (fun _ L lf => ⟨fun k => ⟨k, trivial⟩, fun k => k.1⟩) ?_ ?_
  · intro lim t r e2 e3 hr ih L lf
    rw [LFX_leaf e2 e3 hr, NX_leaf e2 e3 hr, ih, le_lfLf, and_assoc]
  · intro lim o b c r e2 e3 hm hr i1 i2 L lf
    rw [LFX_loop e2 e3 hm hr, NX_loop e2 e3 hm hr, i2, i1, le_lfOp, and_assoc, and_assoc]
end
/-- the sizes, the tables -/
def hdN (m : Nat) (D : Ds) : Prop := (¬ isSz 0 D.1.1 = true → m ≤ D.1.2 * 8 + 2) ∧ (¬ isSz 1 D.2.1.1 = true → m ≤ D.2.1.2 * 8 + 2) ∧ (¬ isSz 2 D.2.2.1.1 = true → m ≤ D.2.2.1.2 * 8 + 2)
def tbN (m : Nat) (x : Tb) : Prop := match x.2 with
  | [a, b] => (¬ a.1 < 16 → m ≤ a.2 * 8 + 3) ∧ (¬ b.1 < 16 → m ≤ b.2 * 8 + 3)
  | _ => True
theorem le_lfTb {m lf : Nat} {x : Tb} : m ≤ lfTb lf x ↔ m ≤ lf ∧ tbN m x := by
  obtain ⟨d, y⟩ := x
  unfold lfTb tbN
  match y with
  | [a, b] => exact le_lfN.trans ((and_congr le_lfN Iff.rfl).trans and_assoc)
  | [] => exact ⟨fun k => ⟨k, trivial⟩, fun k => k.1⟩
  | [_] => exact ⟨fun k => ⟨k, trivial⟩, fun k => k.1⟩
  | _ :: _ :: _ :: _ => exact ⟨fun k => ⟨k, trivial⟩, fun k => k.1⟩
theorem le_lfD {m : Nat} {D : Ds} : m ≤ lfD D ↔ m ≤ 1928 ∧ hdN m D ∧ ∀ x ∈ dT D, tbN m x := by
  unfold lfD
  rw [le_foldl (f := lfTb) (Q := tbN m) (fun _ _ => le_lfTb)]
  unfold lfH lfZ
  rw [le_if, le_if, le_if]
  unfold hdN
  exact ⟨fun k => ⟨k.1.1.1.1, ⟨k.1.1.1.2, k.1.1.2, k.1.2⟩, k.2⟩, fun k => ⟨⟨⟨⟨k.1, k.2.1.1⟩, k.2.1.2.1⟩, k.2.1.2.2⟩, k.2.2⟩⟩
