/-! PURE: expressions: an induction over what the parser reads -/
theorem rb_ok {α β : Type} {x : Rd α} {f : α → List Tok → Rd β} {b : β} {r : List Tok} (h : rbind x f = .ok (b, r)) : ∃ a r', x = .ok (a, r') ∧ f a r' = .ok (b, r) := by
  match x, h with
  | .ok (a, r'), h => exact ⟨a, r', rfl, h⟩
theorem pTake_ok {c : Nat} {ts r : List Tok} {u : Unit} (h : pTake c ts = .ok (u, r)) : ∃ p, ts = (c, p) :: r := by
  match ts, h with
  | (d, p) :: ts', h =>
    simp only [pTake] at h
    split at h
    · rename_i e
      injection h with h; injection h with _ h; exact ⟨p, by rw [e, h]⟩
    · cases h
theorem pNumR_ok {ts r : List Tok} {v p : Nat} (h : pNumR ts = .ok ((v, p), r)) : pNum ts = some (v, p, r) := by
  unfold pNumR at h
  match hp : pNum ts, h with
  | some (v', p', r'), h => injection h with h; injection h with h1 h2; injection h1 with h1 h3; rw [h1, h2, h3]
theorem pNumR_er {ts r : List Tok} (h : pNumR ts = .error r) : pNum ts = none ∧ r = ts := by
  unfold pNumR at h
  match hp : pNum ts, h with
  | none, h => injection h with h; exact ⟨rfl, h.symm⟩
theorem pEx_ind (Q : Nat → List Tok → List Op → List Tok → Prop)
    (hS : ∀ d c p ts, 65 ≤ c → c ≤ 68 → Q d ((c, p) :: ts) [(1, c - 65, p, [])] ts)
    (hL : ∀ d c p ts, c = 105 ∨ c = 106 → Q d ((c, p) :: ts) [(5, c - 105, p, [])] ts)
    (hN : ∀ d c p ts v p' r, isD c = true → pNum ((c, p) :: ts) = some (v, p', r) → Q d ((c, p) :: ts) [(4, v, p', [])] r)
    (hI : ∀ d c p q ts l r, c = 75 ∨ c = 83 → pTerms (ts.length + 1) ts = .ok (l, r) → Q d ((c, p) :: (40, q) :: ts) [(if c = 75 then 2 else 3, 0, p, l)] r)
    (hT : ∀ d p ts e r, d < 12 → Q (d + 1) ts e r → Q d ((126, p) :: ts) (e ++ [(6, 0, 0, [])]) r)
    (hR : ∀ d p q q' ts e r v vp r', d < 12 → Q (d + 1) ts e ((60, q) :: r) → pNum r = some (v, vp, (41, q') :: r') → Q d ((40, p) :: ts) (e ++ [(7, v, vp, [])]) r')
    (hP : ∀ d p q q' o ts e r e' r', d < 12 → (o = 94 ∨ o = 38 ∨ o = 124 ∨ o = 43 ∨ o = 45 ∨ o = 42) → Q (d + 1) ts e ((o, q) :: r) → Q (d + 1) r e' ((41, q') :: r') → Q d ((40, p) :: ts) (e ++ e' ++ [(8, o, 0, [])]) r') :
    ∀ (f d : Nat) (ts : List Tok) (e : List Op) (r : List Tok), d ≤ 12 → pEx f d ts = .ok (e, r) → Q d ts e r
  | 0, d, ts, e, r, _, h => by cases h
  | f + 1, d, [], e, r, _, h => by cases h
  | f + 1, d, (c, p) :: ts, e, r, hd, h => by
    have ih := pEx_ind Q hS hL hN hI hT hR hP f (d + 1)
    simp only [pEx] at h
    split at h
    · rename_i hc
      subst hc
      split at h
      · cases h
      · rename_i hd2
        obtain ⟨e1, r1, a1, a2⟩ := rb_ok h
        injection a2 with a2; injection a2 with a2 a3
        subst a2 a3
        exact hT d p ts e1 r1 (by omega) (ih ts e1 r1 (by omega) a1)
    · split at h
      · rename_i hc
        subst hc
        split at h
        · cases h
        · rename_i hd2
          obtain ⟨e1, r1, a1, a2⟩ := rb_ok h
          have q1 := ih ts e1 r1 (by omega) a1
          match r1, a2, q1 with
          | (o, q) :: r2, a2, q1 =>
            simp only at a2
            split at a2
            · rename_i ho
              subst ho
              obtain ⟨⟨v, vp⟩, r3, b1, b2⟩ := rb_ok a2
              obtain ⟨u, r4, b3, b4⟩ := rb_ok b2
              obtain ⟨q', b5⟩ := pTake_ok b3
              injection b4 with b4; injection b4 with b4 b6
              subst b4 b5 b6
              exact hR d p q q' ts e1 r2 v vp r4 (by omega) q1 (pNumR_ok b1)
            · split at a2
              · rename_i ho
                obtain ⟨e2, r3, b1, b2⟩ := rb_ok a2
                obtain ⟨u, r4, b3, b4⟩ := rb_ok b2
                obtain ⟨q', b5⟩ := pTake_ok b3
                injection b4 with b4; injection b4 with b4 b6
                subst b4 b5 b6
                exact hP d p q q' o ts e1 r2 e2 r4 (by omega) ho q1 (ih r2 e2 _ (by omega) b1)
              · cases a2
      · split at h
        · rename_i hc
          obtain ⟨u, r1, a1, a2⟩ := rb_ok h
          obtain ⟨l, r2, a3, a4⟩ := rb_ok a2
          obtain ⟨q, a5⟩ := pTake_ok a1
          injection a4 with a4; injection a4 with a4 a6
          subst a4 a5 a6
          exact hI d c p q r1 l r2 hc a3
        · split at h
          · rename_i hc
            injection h with h; injection h with h h1
            subst h h1
            exact hL d c p ts hc
          · split at h
            · rename_i hc
              obtain ⟨⟨v, vp⟩, r3, b1, b2⟩ := rb_ok h
              injection b2 with b2; injection b2 with b2 b3
              subst b2 b3
              exact hN d c p ts v vp r3 hc (pNumR_ok b1)
            · split at h
              · rename_i hc
                injection h with h; injection h with h h1
                subst h h1
                exact hS d c p ts hc.1 hc.2
              · cases h
theorem pEx_len {f d : Nat} {ts : List Tok} {e : List Op} {r : List Tok} (hd : d ≤ 12) (h : pEx f d ts = .ok (e, r)) : e.length + r.length ≤ ts.length := by
  refine pEx_ind (fun d ts e r => e.length + r.length ≤ ts.length) ?_ ?_ ?_ ?_ ?_ ?_ ?_ f d ts e r hd h
  · intro d c p ts _ _; simp only [List.length_cons, List.length_nil]; omega
  · intro d c p ts _; simp only [List.length_cons, List.length_nil]; omega
  · intro d c p ts v p' r _ h
    have := pNum_len h
    simp only [List.length_cons, List.length_nil] at this ⊢; omega
  · intro d c p q ts l r _ h
    have := pTerms_len _ _ _ _ h
    simp only [List.length_cons, List.length_nil]; omega
  · intro d p ts e r _ h
    simp only [List.length_cons, List.length_nil, List.length_append]; omega
  · intro d p q q' ts e r v vp r' _ h h2
    have := pNum_len h2
    simp only [List.length_cons, List.length_nil, List.length_append] at this h ⊢; omega
  · intro d p q q' o ts e r e' r' _ _ h1 h2
    simp only [List.length_cons, List.length_nil, List.length_append] at h1 h2 ⊢; omega
/-- what an expression costs: a stack of uses, cost, need -/
def aOp (o : Op) (st : List At) : List At :=
  if o.1 = 1 then (2 ^ o.2.1, 0, 0) :: st
  else if o.1 = 2 ∨ o.1 = 3 then (16, 1, 1) :: st
  else if o.1 = 4 ∨ o.1 = 5 then (0, 1, 1) :: st
  else if o.1 = 6 ∨ o.1 = 7 then match st with
    | a :: st => aOver a :: st
    | [] => []
  else match st with
    | b :: a :: st => aPair a b :: st
    | _ => []
def aRun (e : List Op) (st : List At) : List At := e.foldl (fun st o => aOp o st) st
theorem aRun_app (e e' : List Op) (st : List At) : aRun (e ++ e') st = aRun e' (aRun e st) := List.foldl_append ..
/-- the part that the reader makes of an operation -/
def cX (L : List Nat) (o : Op) (a : At) : CP :=
  if o.1 = 1 then (65, o.2.1, 0, 0, nM, a)
  else if o.1 = 2 then xT L (75, 0, 0, 0, nI o.2.2.1, a) o.2.2.2
  else if o.1 = 3 then xT L (83, 0, 0, 0, nI o.2.2.1, a) o.2.2.2
  else if o.1 = 4 then (110, o.2.1, 0, 0, nM, a)
  else if o.1 = 5 then xL L (110, 0, 0, 0, nM, a) o.2.1 1
  else if o.1 = 6 then (126, 0, 0, 0, nM, a)
  else if o.1 = 7 then (60, o.2.1, 0, 0, nM, a)
  else (o.2.1, 0, 0, 0, nM, a)
theorem xT_at (L : List Nat) : ∀ (l : List Tm) (x : CP), (xT L x l).2.2.2.2.2 = x.2.2.2.2.2
  | [], x => rfl
  | t :: l, x => by
    show (xT L (xTm L x t) l).2.2.2.2.2 = _
    rw [xT_at L l]
    unfold xTm
    split <;> rfl
theorem cX_at (L : List Nat) (o : Op) (a : At) : (cX L o a).2.2.2.2.2 = a := by
  unfold cX
  repeat' split
  all_goals first | rfl | (rw [xT_at])
/-- the least fault behind an operation -/
def lfO (sn w : Nat) (L : List Nat) (lf : Nat) (o : Op) : Nat :=
  if o.1 = 1 then (if o.2.1 < sn then lf else min lf (o.2.2.1 * 8 + 4))
  else if o.1 = 2 ∨ o.1 = 3 then lfT L lf o.2.2.2
  else if o.1 = 4 then lfN lf (wb w) o.2.1 o.2.2.1
  else if o.1 = 5 then lfL L lf o.2.1 o.2.2.1
  else if o.1 = 7 then lfN lf w o.2.1 o.2.2.1
  else lf
def lfE (sn w : Nat) (L : List Nat) (lf : Nat) (e : List Op) : Nat := e.foldl (lfO sn w L) lf
theorem lfE_app (sn w : Nat) (L : List Nat) (lf : Nat) (e e' : List Op) : lfE sn w L lf (e ++ e') = lfE sn w L (lfE sn w L lf e) e' := List.foldl_append ..
def cXs (L : List Nat) (Z : List (Op × At)) : List CP := Z.map (fun z => cX L z.1 z.2)
/-- an expression lies behind the parts P -/
def exK (n : Nat) (T : List Tok) (g sn w : Nat) (L : List Nat) (P : List CP) (lf : Nat) (e : List Op) (r : List Tok) (v : Int32) (s' : ax_σ) : Prop := ∃ (Z : List (Op × At)) (z : Op × At), e = Z.map (·.1) ++ [z.1] ∧ v = nI (P.length + Z.length) ∧ RX n T g r (lfE sn w L lf e) (P ++ cXs L Z ++ [cX L z.1 z.2]) s' ∧ (∀ st, aRun e st = z.2 :: st) ∧ z.2.1 < 32 ∧ z.2.2.1 ≤ e.length ∧ z.2.2.2 ≤ e.length
section
variable {n : Nat} {T : List Tok} {g sn w lf : Nat} {L : List Nat} {P : List CP} {s s' : ax_σ} {ts r : List Tok}
theorem RX.add {x : CP} (h : RX n T g ts lf P s) (h1 : RC g (P ++ [x]) s') (hf : frm (XC g) s s') (hl : P.length + 1 + ts.length ≤ 240) : RX n T g ts lf (P ++ [x]) s' :=
  ⟨h.1.keepf hf (fun r k => by unfold XC; omega), (hf.1 _ _ _ (by unfold XC; omega)).trans h.2.1, h.2.2.1, h1, by simp only [List.length_append, List.length_cons, List.length_nil]; omega⟩
theorem RX.step {c p : Nat} (h : RX n T g ((c, p) :: ts) lf P s) : RX n T g ts lf P (ax_wI s 0 25 3 (s.1 0 25 3 + nI 1)) ∧ frm (XE g) s (ax_wI s 0 25 3 (s.1 0 25 3 + nI 1)) :=
  ⟨⟨h.1.step, by rw [wI_1, if_neg (by omega)]; exact h.2.1, h.2.2.1, h.2.2.2.1.keep (frm.refl.wI (P := fun g r k => g = 0 ∧ r = 25) _ _ _ _ ⟨rfl, rfl⟩) (fun g' r k hx hn => by unfold XC at hx; omega), by have := h.2.2.2.2; simp only [List.length_cons] at this; omega⟩, frm.refl.wI _ _ _ _ (Or.inl ⟨rfl, rfl, Or.inl rfl⟩)⟩
/-- what holds of the root of an expression -/
theorem exK.root {e : List Op} {v : Int32} (h : exK n T g sn w L P lf e r v s) : ∃ (i : Nat) (a : At), v = nI i ∧ i < 240 ∧ atA g i a s ∧ (∀ st, aRun e st = a :: st) ∧ aS a ∧ P.length + e.length + r.length ≤ 240 ∧ i + 1 = P.length + e.length := by
  obtain ⟨Z, z, h1, h2, h3, h4, h5, h6, h7⟩ := h
  have hl := h3.2.2.2.2
  have hz := (h3.2.2.2.1).lastA
  have he : e.length = Z.length + 1 := by rw [h1]; simp only [List.length_append, List.length_map, List.length_cons, List.length_nil]
  simp only [List.length_append, List.length_cons, List.length_nil, cXs, List.length_map] at hl hz
  refine ⟨P.length + Z.length, z.2, h2, by omega, ?_, h4, ⟨h5, by omega, by omega⟩, by omega, by omega⟩
  obtain ⟨⟨-, -, -, -, -, z6, z7, z8⟩, -⟩ := hz
  have ec := cX_at L z.1 z.2
  exact ⟨by rw [z6, ec], by rw [z7, ec], by rw [z8, ec]⟩
theorem exK.rx {e : List Op} {v : Int32} (h : exK n T g sn w L P lf e r v s) : ∃ Q, RX n T g r (lfE sn w L lf e) (P ++ Q) s ∧ Q.length = e.length := by
  obtain ⟨Z, z, h1, h2, h3, h4, h5, h6, h7⟩ := h
  refine ⟨cXs L Z ++ [cX L z.1 z.2], by rw [← List.append_assoc]; exact h3, ?_⟩
  rw [h1]; simp only [cXs, List.length_append, List.length_map, List.length_cons, List.length_nil]
theorem lenA (P : List CP) (L : List Nat) (Z : List (Op × At)) : (P ++ cXs L Z).length = P.length + Z.length := by simp only [cXs, List.length_append, List.length_map]
theorem at_last {A : List CP} {o : Op} {a : At} (h : RC g (A ++ [cX L o a]) s) : atA g A.length a s := by
  obtain ⟨⟨-, -, -, -, -, z6, z7, z8⟩, -⟩ := h.lastA
  rw [cX_at] at z6 z7 z8
  exact ⟨z6, z7, z8⟩
theorem at_mid {A B : List CP} {o : Op} {a : At} (h : RC g (A ++ [cX L o a] ++ B) s) : atA g A.length a s := by
  obtain ⟨-, -, -, -, -, z6, z7, z8⟩ := h.2.2 A.length (cX L o a) (by rw [List.append_assoc, List.getElem?_append_right (Nat.le_refl _), Nat.sub_self]; rfl)
  rw [cX_at] at z6 z7 z8
  exact ⟨z6, z7, z8⟩
theorem aOver_s {a : At} {k : Nat} (h : a.1 < 32 ∧ a.2.1 ≤ k ∧ a.2.2 ≤ k) : (aOver a).1 < 32 ∧ (aOver a).2.1 ≤ k + 1 ∧ (aOver a).2.2 ≤ k + 1 := by
  obtain ⟨s1, s2, s3⟩ := h
  unfold aOver
  split
  · exact ⟨by show 0 < 32; omega, by show 1 ≤ _; omega, by show 1 ≤ _; omega⟩
  · exact ⟨s1, by show a.2.1 + 1 ≤ _; omega, by show max 1 a.2.2 ≤ _; omega⟩
theorem aPair_s {a b : At} {k m : Nat} (h : a.1 < 32 ∧ a.2.1 ≤ k ∧ a.2.2 ≤ k) (h' : b.1 < 32 ∧ b.2.1 ≤ m ∧ b.2.2 ≤ m) : (aPair a b).1 < 32 ∧ (aPair a b).2.1 ≤ k + m + 1 ∧ (aPair a b).2.2 ≤ k + m + 1 := by
  obtain ⟨s1, s2, s3⟩ := h
  obtain ⟨t1, t2, t3⟩ := h'
  unfold aPair
  split
  · exact ⟨by show 0 < 32; omega, by show 1 ≤ _; omega, by show 1 ≤ _; omega⟩
  · refine ⟨Nat.or_lt_two_pow (n := 5) s1 t1, by show a.2.1 + b.2.1 + 1 ≤ _; omega, ?_⟩
    show (if a.2.2 = b.2.2 then a.2.2 + 1 else max a.2.2 b.2.2) ≤ _
    split <;> omega
theorem aOp_over {o : Op} {a : At} {st : List At} (ho : o.1 = 6 ∨ o.1 = 7) : aOp o (a :: st) = aOver a :: st := by
  unfold aOp
  rw [if_neg (by omega), if_neg (by omega), if_neg (by omega), if_pos ho]
theorem aOp_pair {o : Op} {a b : At} {st : List At} (ho : o.1 = 8) : aOp o (b :: a :: st) = aPair a b :: st := by
  unfold aOp
  rw [if_neg (by omega), if_neg (by omega), if_neg (by omega), if_neg (by omega)]
/-- one more sign around an expression -/
theorem exK.over {Z : List (Op × At)} {z : Op × At} {e : List Op} {v : Int32} {o : Op} {lf' : Nat} (he : e = Z.map (·.1) ++ [z.1]) (hv : v = nI (P ++ cXs L Z ++ [cX L z.1 z.2]).length) (ho : o.1 = 6 ∨ o.1 = 7) (hlf : lfO sn w L (lfE sn w L lf e) o = lf') (hx : RX n T g r lf' (P ++ cXs L Z ++ [cX L z.1 z.2] ++ [cX L o (aOver z.2)]) s) (ha : ∀ st, aRun e st = z.2 :: st) (hs : z.2.1 < 32 ∧ z.2.2.1 ≤ e.length ∧ z.2.2.2 ≤ e.length) : exK n T g sn w L P lf (e ++ [o]) r v s := by
  refine ⟨Z ++ [z], (o, aOver z.2), by rw [he]; simp only [List.map_append, List.map_cons, List.map_nil], by rw [hv]; simp only [cXs, List.length_append, List.length_map, List.length_cons, List.length_nil, Nat.add_assoc], ?_, ?_, ?_⟩
  · rw [lfE_app]
    show RX n T g r (lfO sn w L (lfE sn w L lf e) o) _ s
    rw [hlf]
    simp only [cXs, List.map_append, List.map_cons, List.map_nil, ← List.append_assoc] at hx ⊢
    exact hx
  · intro st
    rw [aRun_app, ha]
    exact aOp_over ho
  · simp only [List.length_append, List.length_cons, List.length_nil]
    exact aOver_s hs
theorem exK.leaf {o : Op} {a : At} {lf' : Nat} {v : Int32} (hv : v = nI P.length) (hlf : lfO sn w L lf o = lf') (hx : RX n T g r lf' (P ++ [cX L o a]) s') (ha : ∀ st, aOp o st = a :: st) (hs : a.1 < 32 ∧ a.2.1 ≤ 1 ∧ a.2.2 ≤ 1) : exK n T g sn w L P lf [o] r v s' := by
  refine ⟨[], (o, a), rfl, hv, ?_, ha, hs⟩
  show RX n T g r (lfO sn w L lf o) _ s'
  rw [hlf]
  simp only [cXs, List.map_nil, List.append_nil]
  exact hx
end
