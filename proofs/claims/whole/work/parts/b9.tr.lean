/-! PURE: what is done, turn by turn -/
/-- one thing done: its number, its line, i, j, the letters open there -/
abbrev Q5 : Type := Nat × Nat × Nat × Nat × List Nat
abbrev trB : Type := Nat × Nat × (Nat → Nat → List Nat → Nat → Nat → List Q5)
def tr (l : List Th) : trB := dF (β := trB) (0, 0, fun _ _ _ _ _ => []) (fun _ r => (r.1 + 1, r.2.1 + 1, fun kb lb L i j => (kb, lb, i, j, L) :: r.2.2 (kb + 1) (lb + 1) L i j)) (fun o m r => (m.1 + r.1 + 2, (if m.2.1 = 0 then 0 else m.2.1 + 2) + r.2.1, fun kb lb L i j => (List.range' 0 (tn o)).flatMap (fun q => m.2.2 (kb + 1) (lb + 1) (L ++ [thw o]) (if thw o = 0 then q else i) (if thw o = 0 then j else q)) ++ r.2.2 (kb + m.1 + 2) (lb + (if m.2.1 = 0 then 0 else m.2.1 + 2)) L i j)) l
def TR (l : List Th) (kb lb : Nat) (L : List Nat) (i j : Nat) : List Q5 := (tr l).2.2 kb lb L i j
def nl (l : List Th) : Nat := (tr l).2.1
def nlL (b : List Th) : Nat := if nl b = 0 then 0 else nl b + 2
section
variable {lim lim' : Nat} {t o c : Th} {b r l : List Th}
theorem tr_len (h : lv lim 0 l = some 0) : (tr l).1 = l.length := by
  refine dyck (P := fun _ l => (tr l).1 = l.length) h (fun _ => rfl) ?_ ?_
  · intro lim t r e2 e3 hr ih
    unfold tr at ih ⊢
    rw [dF_leaf (β := trB) _ _ _ e2 e3 hr, List.length_cons, ← ih]
  · intro lim o b c r e2 e3 hm hr i1 i2
    unfold tr at i1 i2 ⊢
    rw [dF_loop (β := trB) _ _ _ e2 e3 hm hr, List.length_cons, List.length_append, List.length_cons, ← i1, ← i2]
    show _ + _ + 2 = _ + (_ + 1) + 1
    omega
theorem nl_leaf (e2 : thk t ≠ 2) (e3 : thk t ≠ 3) (hr : lv lim 0 r = some 0) : nl (t :: r) = nl r + 1 := by
  unfold nl tr
  rw [dF_leaf (β := trB) _ _ _ e2 e3 hr]
theorem nl_loop (e2 : thk o = 2) (e3 : thk c = 3) (hm : lv lim 0 b = some 0) (hr : lv lim' 0 r = some 0) : nl (o :: (b ++ c :: r)) = nlL b + nl r := by
  unfold nlL nl tr
  rw [dF_loop (β := trB) _ _ _ e2 e3 hm hr]
theorem TR_leaf (e2 : thk t ≠ 2) (e3 : thk t ≠ 3) (hr : lv lim 0 r = some 0) (kb lb : Nat) (L : List Nat) (i j : Nat) : TR (t :: r) kb lb L i j = (kb, lb, i, j, L) :: TR r (kb + 1) (lb + 1) L i j := by
  unfold TR tr
  rw [dF_leaf (β := trB) _ _ _ e2 e3 hr]
/-- the turns q .. of a loop -/
def TQ (o : Th) (b : List Th) (kb lb : Nat) (L : List Nat) (i j : Nat) (q d : Nat) : List Q5 := (List.range' q d).flatMap (fun q => TR b (kb + 1) (lb + 1) (L ++ [thw o]) (if thw o = 0 then q else i) (if thw o = 0 then j else q))
theorem TR_loop (e2 : thk o = 2) (e3 : thk c = 3) (hm : lv lim 0 b = some 0) (hr : lv lim' 0 r = some 0) (kb lb : Nat) (L : List Nat) (i j : Nat) : TR (o :: (b ++ c :: r)) kb lb L i j = TQ o b kb lb L i j 0 (tn o) ++ TR r (kb + b.length + 2) (lb + nlL b) L i j := by
  have h1 := tr_len hm
  unfold TQ nlL nl TR
  unfold tr at h1 ⊢
  rw [dF_loop (β := trB) _ _ _ e2 e3 hm hr, ← h1]
theorem TQ_s (o : Th) (b : List Th) (kb lb : Nat) (L : List Nat) (i j q d : Nat) : TQ o b kb lb L i j q (d + 1) = TR b (kb + 1) (lb + 1) (L ++ [thw o]) (if thw o = 0 then q else i) (if thw o = 0 then j else q) ++ TQ o b kb lb L i j (q + 1) d := by
  unfold TQ
  rw [List.range'_succ, List.flatMap_cons]
/-- loops whose letters and numbers keep the rules -/
def GL (l : List Th) : List Nat → Prop := dF (β := List Nat → Prop) (fun _ => True) (fun _ r L => r L) (fun o m r L => (thw o ∉ L ∧ 1 ≤ thv o ∧ thv o ≤ 16) ∧ m (L ++ [thw o]) ∧ r L) l
theorem GL_leaf (e2 : thk t ≠ 2) (e3 : thk t ≠ 3) (hr : lv lim 0 r = some 0) (L : List Nat) : GL (t :: r) L = GL r L := congrFun (dF_leaf (β := List Nat → Prop) _ _ _ e2 e3 hr) L
theorem GL_loop (e2 : thk o = 2) (e3 : thk c = 3) (hm : lv lim 0 b = some 0) (hr : lv lim' 0 r = some 0) (L : List Nat) : GL (o :: (b ++ c :: r)) L = ((thw o ∉ L ∧ 1 ≤ thv o ∧ thv o ≤ 16) ∧ GL b (L ++ [thw o]) ∧ GL r L) := congrFun (dF_loop (β := List Nat → Prop) _ _ _ e2 e3 hm hr) L
theorem NX_GL {K : KS} (h : lv lim 0 l = some 0) : (∀ t ∈ l, thk t = 2 → thp t < 240 ∧ thq t < 240) → ∀ L, NX K 1928 l L → GL l L := by
  refine dyck (P := fun _ l => (∀ t ∈ l, thk t = 2 → thp t < 240 ∧ thq t < 240) → ∀ L, NX K 1928 l L → GL l L) h (fun _ _ _ _ => trivial) ?_ ?_
  · intro lim t r e2 e3 hr ih hp L hN
    rw [NX_leaf e2 e3 hr] at hN
    rw [GL_leaf e2 e3 hr]
    exact ih (fun t ht => hp t (List.mem_cons_of_mem _ ht)) L hN.2
  · intro lim o b c r e2 e3 hm hr i1 i2 hp L hN
    rw [NX_loop e2 e3 hm hr] at hN
    rw [GL_loop e2 e3 hm hr]
    obtain ⟨p1, p2⟩ := hp o (List.mem_cons_self ..) e2
    obtain ⟨⟨n1, n2, n3⟩, n4, n5⟩ := hN
    refine ⟨⟨fun h => by have := n1 h; omega, ?_, ?_⟩, i1 (fun t ht => hp t (List.mem_cons_of_mem _ (List.mem_append_left _ ht))) _ n4, i2 (fun t ht => hp t (List.mem_cons_of_mem _ (List.mem_append_right _ (List.mem_cons_of_mem _ ht)))) _ n5⟩
    · by_cases h : thv o < 1
      · have := n3 h; omega
      · omega
    · by_cases h : thv o < 17
      · omega
      · have := n2 h; omega
/-- the greatest need -/
def ndT (t : Th) : Nat := if thk t = 1 ∨ (4 ≤ thk t ∧ thk t ≤ 6) then (aOf (the t)).2.2 else 0
def mx (l : List Th) : Nat := dF (β := Nat) 0 (fun t r => max (ndT t) r) (fun _ m r => max m r) l
theorem mx_leaf (e2 : thk t ≠ 2) (e3 : thk t ≠ 3) (hr : lv lim 0 r = some 0) : mx (t :: r) = max (ndT t) (mx r) := dF_leaf _ _ _ e2 e3 hr
theorem mx_loop (e2 : thk o = 2) (e3 : thk c = 3) (hm : lv lim 0 b = some 0) (hr : lv lim' 0 r = some 0) : mx (o :: (b ++ c :: r)) = max (mx b) (mx r) := dF_loop _ _ _ e2 e3 hm hr
theorem RGX_mx {st : Nat} (h : lv lim 0 l = some 0) : (∀ t ∈ l, thk t ≠ 2 → thk t ≠ 3 → thk t = 1 ∨ (4 ≤ thk t ∧ thk t ≤ 12)) → ∀ rg, st ≤ rg → RGX st l rg = max rg (st + mx l) := by
  refine dyck (P := fun _ l => (∀ t ∈ l, thk t ≠ 2 → thk t ≠ 3 → thk t = 1 ∨ (4 ≤ thk t ∧ thk t ≤ 12)) → ∀ rg, st ≤ rg → RGX st l rg = max rg (st + mx l)) h ?_ ?_ ?_
  · intro _ _ rg hrg
    show rg = max rg (st + 0)
    omega
  · intro lim t r e2 e3 hr ih hk rg hrg
    have hkt := hk t (List.mem_cons_self ..) e2 e3
    have hrt : rgT st rg t = max rg (st + ndT t) := by
      unfold rgT ndT rgK
      by_cases h1 : thk t = 1
      · rw [if_pos h1, if_pos (Or.inl h1)]
      · rw [if_neg h1]
        by_cases h6 : thk t ≤ 6
        · rw [if_pos (show (wkOf t).1 ≤ 6 from h6), if_pos (Or.inr (by omega))]
          rfl
        · rw [if_neg (show ¬ (wkOf t).1 ≤ 6 from h6), if_neg (by omega)]
          omega
    rw [RGX_leaf e2 e3 hr, ih (fun t ht => hk t (List.mem_cons_of_mem _ ht)) _ (by rw [hrt]; omega), hrt, mx_leaf e2 e3 hr]
    omega
  · intro lim o b c r e2 e3 hm hr i1 i2 hk rg hrg
    have h1 := i1 (fun t ht => hk t (List.mem_cons_of_mem _ (List.mem_append_left _ ht))) rg hrg
    rw [RGX_loop e2 e3 hm hr, h1, i2 (fun t ht => hk t (List.mem_cons_of_mem _ (List.mem_append_right _ (List.mem_cons_of_mem _ ht)))) _ (by omega), mx_loop e2 e3 hm hr]
    omega
theorem nl_lx (h : lv lim 0 l = some 0) : ∀ lb pb sk, ((lx l).2.2 lb pb sk).length = nl l := by
  refine dyck (P := fun _ l => ∀ lb pb sk, ((lx l).2.2 lb pb sk).length = nl l) h (fun _ _ _ _ => rfl) ?_ ?_
  · intro lim t r e2 e3 hr ih lb pb sk
    rw [lx_leaf e2 e3 hr, nl_leaf e2 e3 hr]
    simp only [lxf, List.length_cons]
    rw [ih]
  · intro lim o b c r e2 e3 hm hr i1 i2 lb pb sk
    rw [lx_loop e2 e3 hm hr, nl_loop e2 e3 hm hr]
    simp only [lxp]
    unfold nlL
    have hb := i1 (lb + 1) pb sk
    by_cases hE : (lx b).2.2 (lb + 1) pb sk = []
    · rw [if_pos hE, i2]
      rw [hE] at hb
      rw [if_pos (show nl b = 0 from hb.symm), Nat.zero_add]
    · have : 0 < ((lx b).2.2 (lb + 1) pb sk).length := List.length_pos_iff.mpr hE
      rw [if_neg hE, if_neg (by omega), List.length_cons, List.length_append, List.length_cons, i2, hb]
      omega
end
/-- what was recorded: a thing's number, i, j -/
abbrev R3 : Type := Nat × Nat × Nat
def relT (R : List R3) (E : List Q5) : Prop := R.length = E.length ∧ ∀ (p : Nat) (x : R3) (e : Q5), R[p]? = some x → E[p]? = some e → x.1 = e.1 ∧ (0 ∈ e.2.2.2.2 → x.2.1 = e.2.2.1) ∧ (1 ∈ e.2.2.2.2 → x.2.2 = e.2.2.2.1) ∧ x.2.1 ≤ 16 ∧ x.2.2 ≤ 16
theorem relT.app {R R' : List R3} {E E' : List Q5} (h : relT R E) (h' : relT R' E') : relT (R ++ R') (E ++ E') := by
  refine ⟨by rw [List.length_append, List.length_append, h.1, h'.1], fun p x e h1 h2 => ?_⟩
  by_cases hp : p < R.length
  · rw [List.getElem?_append_left hp] at h1
    rw [List.getElem?_append_left (by rw [← h.1]; exact hp)] at h2
    exact h.2 p x e h1 h2
  · rw [List.getElem?_append_right (by omega)] at h1
    rw [List.getElem?_append_right (by rw [← h.1]; omega), ← h.1] at h2
    exact h'.2 _ x e h1 h2
theorem relT.nil : relT [] [] := ⟨rfl, fun p x e h => by cases h⟩
def mRc (wr : Bool) : Nat := if wr = true then 32 else 400
def cRc (wr : Bool) : Nat := if wr = true then 55 else 59
def aRc (wr : Bool) : Nat := if wr = true then 68 else 71
def RcM (wr : Bool) (R : List R3) (s : ax_σ) : Prop := s.1 0 38 (cRc wr) = nI R.length ∧ ∀ (p : Nat) (x : R3), R[p]? = some x → p < mRc wr → s.1 0 (aRc wr) p = nI x.1 ∧ s.1 0 (aRc wr + 1) p = nI x.2.1 ∧ s.1 0 (aRc wr + 2) p = nI x.2.2
/-- all that laying out changes -/
def XY (wr : Bool) (g r k : Nat) : Prop := g = 0 ∧ (r = 74 ∨ (76 ≤ r ∧ r ≤ 78) ∨ (r = 38 ∧ (k = 63 ∨ k = 64 ∨ k = cRc wr)) ∨ (aRc wr ≤ r ∧ r ≤ aRc wr + 2))
def ZY (D : Ds) (wr : Bool) (R : List R3) (ins rg a b : Nat) (s : ax_σ) : Prop := ZX D s ∧ ZKd (dH D) s ∧ RcM wr R s ∧ s.1 0 38 63 = nI ins ∧ (s.1 0 38 64 = nI rg ∧ rg ≤ 240) ∧ s.1 0 74 0 = nI a ∧ s.1 0 74 1 = nI b ∧ (a ≤ 16 ∧ b ≤ 16)
theorem XY.q {wr : Bool} {r k : Nat} (h : XX r k) : ¬ XY wr 0 r k := by
  unfold XY cRc aRc
  unfold XX at h
  cases wr <;> simp <;> omega
