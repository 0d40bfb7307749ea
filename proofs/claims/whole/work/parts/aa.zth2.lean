/-! PURE: the reference's things, one after the other -/
def stkA (i : Nat) (S : List Nat) (t : Th) : List Nat := if thk t = 2 then i :: S else if thk t = 3 then S.tail else S
/-- the loops not yet closed behind l, by their numbers -/
def stk (l : List Th) : List Nat := (l.foldl (fun (q : Nat × List Nat) t => (q.1 + 1, stkA q.1 q.2 t)) (0, [])).2
theorem stk_1 : ∀ (l : List Th) (q : Nat × List Nat), (l.foldl (fun (q : Nat × List Nat) t => (q.1 + 1, stkA q.1 q.2 t)) q).1 = q.1 + l.length
  | [], q => rfl
  | t :: l, q => by
    rw [List.foldl_cons, stk_1 l, List.length_cons]
    show q.1 + 1 + l.length = q.1 + (l.length + 1)
    omega
theorem stk_s (l : List Th) (t : Th) : stk (l ++ [t]) = stkA l.length (stk l) t := by
  unfold stk
  rw [List.foldl_append]
  show stkA (l.foldl _ (0, [])).1 _ t = _
  rw [stk_1]
  show stkA (0 + l.length) _ t = _
  rw [Nat.zero_add]
theorem rev_ind {α : Type} {P : List α → Prop} (h0 : P []) (h1 : ∀ l x, P l → P (l ++ [x])) (l : List α) : P l := by
  have h : ∀ l : List α, P l.reverse := by
    intro l
    induction l with
    | nil => exact h0
    | cons x l ih => rw [List.reverse_cons]; exact h1 _ _ ih
  have := h l.reverse
  rw [List.reverse_reverse] at this
  exact this
theorem stk_lt (l : List Th) : ∀ k ∈ stk l, k < l.length := by
  refine rev_ind (P := fun l => ∀ k ∈ stk l, k < l.length) (fun k hk => by cases hk) (fun l x ih k hk => ?_) l
  rw [stk_s] at hk
  rw [List.length_append, List.length_singleton]
  unfold stkA at hk
  split at hk
  · cases hk with
    | head => omega
    | tail _ hk => have := ih k hk; omega
  · split at hk
    · have := ih k (List.mem_of_mem_tail hk); omega
    · have := ih k hk; omega
def oOff (Ths : List Th) (i : Nat) : Nat := ((Ths.take i).flatMap the).length
def rOff (Ths : List Th) (i : Nat) : Nat := ((Ths.take i).flatMap thn).length
def zhA (i : Nat) (t : Th) (o r : Nat) (s : ax_σ) : Prop := s.1 0 47 i = nI (thk t) ∧ s.1 0 48 i = nI (thp t) ∧ (thk t ≠ 1 ∧ thk t ≠ 3 → s.1 0 49 i = nI (thw t)) ∧ (thk t = 9 ∨ thk t = 10 → s.1 0 50 i = nI (thv t) ∧ s.1 0 51 i = nI (thq t)) ∧ (thk t = 2 ∨ thk t = 7 ∨ thk t = 8 ∨ thk t = 11 → s.2 0 52 i = lN (thv t) ∧ s.1 0 53 i = nI (thq t)) ∧ (thk t = 1 ∨ thk t = 4 ∨ thk t = 5 ∨ thk t = 6 → s.1 0 54 i = nI o ∧ s.1 0 55 i = nI (o + (the t).length)) ∧ (thk t = 12 → s.1 0 54 i = nI r ∧ s.1 0 55 i = nI (r + (thn t).length))
def ZD (S : List Nat) (s : ax_σ) : Prop := s.1 0 38 20 = nI S.length ∧ S.length ≤ 2 ∧ ∀ j k, S.reverse[j]? = some k → s.1 0 46 j = nI k ∧ k < 240
def ZG (Ths : List Th) (S : List Nat) (sec : Nat) (s : ax_σ) : Prop := (∀ i t, Ths[i]? = some t → zhA i t (oOff Ths i) (rOff Ths i) s) ∧ (∀ i t k, Ths[i]? = some t → thk t = 3 → (stk (Ths.take i)).head? = some k → k < i → s.1 0 50 i = nI k ∧ s.1 0 50 k = nI i) ∧ (s.1 0 38 19 = nI (sec % 2) ∧ s.1 0 38 23 = nI (sec / 2)) ∧ ZD S s
theorem zhA.keep {i o r : Nat} {t : Th} {s s' : ax_σ} {Q : Nat → Nat → Nat → Prop} (h : zhA i t o r s) (hf : frm Q s s') (hq : ∀ r, 47 ≤ r → r ≤ 55 → (r = 50 → thk t = 9 ∨ thk t = 10) → ¬ Q 0 r i) : zhA i t o r s' := by
  obtain ⟨h1, h2, h3, h4, h5, h6, h7⟩ := h
  exact ⟨(hf.1 _ _ _ (hq 47 (by omega) (by omega) (by omega))).trans h1, (hf.1 _ _ _ (hq 48 (by omega) (by omega) (by omega))).trans h2, fun hk => (hf.1 _ _ _ (hq 49 (by omega) (by omega) (by omega))).trans (h3 hk), fun hk => ⟨(hf.1 _ _ _ (hq 50 (by omega) (by omega) (fun _ => hk))).trans (h4 hk).1, (hf.1 _ _ _ (hq 51 (by omega) (by omega) (by omega))).trans (h4 hk).2⟩, fun hk => ⟨(hf.2 _ _ _ (hq 52 (by omega) (by omega) (by omega))).trans (h5 hk).1, (hf.1 _ _ _ (hq 53 (by omega) (by omega) (by omega))).trans (h5 hk).2⟩, fun hk => ⟨(hf.1 _ _ _ (hq 54 (by omega) (by omega) (by omega))).trans (h6 hk).1, (hf.1 _ _ _ (hq 55 (by omega) (by omega) (by omega))).trans (h6 hk).2⟩, fun hk => ⟨(hf.1 _ _ _ (hq 54 (by omega) (by omega) (by omega))).trans (h7 hk).1, (hf.1 _ _ _ (hq 55 (by omega) (by omega) (by omega))).trans (h7 hk).2⟩⟩
theorem ZD.keep {S : List Nat} {s s' : ax_σ} {Q : Nat → Nat → Nat → Prop} (h : ZD S s) (hf : frm Q s s') (hq : ∀ r k, (r = 38 ∧ k = 20) ∨ r = 46 → ¬ Q 0 r k) : ZD S s' :=
  ⟨(hf.1 _ _ _ (hq 38 20 (by omega))).trans h.1, h.2.1, fun j k hj => ⟨(hf.1 _ _ _ (hq 46 j (by omega))).trans (h.2.2 j k hj).1, (h.2.2 j k hj).2⟩⟩
theorem ZG.keep {Ths : List Th} {S : List Nat} {sec : Nat} {s s' : ax_σ} {Q : Nat → Nat → Nat → Prop} (h : ZG Ths S sec s) (hf : frm Q s s') (hq : ∀ r k, (r = 38 ∧ (k = 19 ∨ k = 20 ∨ k = 23)) ∨ r = 46 ∨ (47 ≤ r ∧ r ≤ 55 ∧ k < Ths.length) → ¬ Q 0 r k) : ZG Ths S sec s' := by
  obtain ⟨h1, h2, h3, h4⟩ := h
  refine ⟨fun i t hi => (h1 i t hi).keep hf (fun r a b _ => hq r i (Or.inr (Or.inr ⟨a, b, get_lt hi⟩))), fun i t k hi hk hh hl => ?_, ⟨(hf.1 _ _ _ (hq 38 19 (by omega))).trans h3.1, (hf.1 _ _ _ (hq 38 23 (by omega))).trans h3.2⟩, h4.keep hf (fun r k h => hq r k (by omega))⟩
  have hi' := get_lt hi
  obtain ⟨b1, b2⟩ := h2 i t k hi hk hh hl
  exact ⟨(hf.1 _ _ _ (hq 50 i (by omega))).trans b1, (hf.1 _ _ _ (hq 50 k (by omega))).trans b2⟩
theorem off_app {Ths : List Th} {t : Th} {i : Nat} (h : i ≤ Ths.length) : oOff (Ths ++ [t]) i = oOff Ths i ∧ rOff (Ths ++ [t]) i = rOff Ths i ∧ (Ths ++ [t]).take i = Ths.take i := by
  unfold oOff rOff
  rw [List.take_append_of_le_length h]
  exact ⟨rfl, rfl, rfl⟩
theorem off_len (Ths : List Th) : oOff Ths Ths.length = (Ths.flatMap the).length ∧ rOff Ths Ths.length = (Ths.flatMap thn).length := by
  unfold oOff rOff
  rw [List.take_length]
  exact ⟨rfl, rfl⟩
/-- one thing more -/
theorem ZG.add {Ths : List Th} {S S' : List Nat} {sec : Nat} {t : Th} {s : ax_σ} (h : ZG Ths S sec s) (ht : zhA Ths.length t (Ths.flatMap the).length (Ths.flatMap thn).length s) (hk : thk t ≠ 3) (hD : ZD S' s) : ZG (Ths ++ [t]) S' sec s := by
  obtain ⟨h1, h2, h3, h4⟩ := h
  refine ⟨fun i x hi => ?_, fun i x k hi hx hh hl => ?_, h3, hD⟩
  · rcases getc hi with ⟨i1, i2⟩ | ⟨i1, i2⟩
    · obtain ⟨o1, o2, o3⟩ := off_app (t := t) (Nat.le_of_lt i1)
      rw [o1, o2]
      exact h1 i x i2
    · subst i1
      subst i2
      obtain ⟨o1, o2, o3⟩ := off_app (Ths := Ths) (t := x) (Nat.le_refl _)
      rw [o1, o2, (off_len Ths).1, (off_len Ths).2]
      exact ht
  · rcases getc hi with ⟨i1, i2⟩ | ⟨i1, i2⟩
    · rw [(off_app (Ths := Ths) (t := t) (Nat.le_of_lt i1)).2.2] at hh
      exact h2 i x k i2 hx hh hl
    · subst i2
      exact absurd hx hk
/-- loops and their ends -/
def WF (Ths : List Th) : Prop := (∀ k ∈ stk Ths, k < Ths.length ∧ ∀ t, Ths[k]? = some t → thk t = 2) ∧ (stk Ths).Pairwise (fun a b => b < a) ∧ ∀ i t k, Ths[i]? = some t → thk t = 3 → (stk (Ths.take i)).head? = some k → k ∉ stk Ths
theorem WF.add {Ths : List Th} {t : Th} (h : WF Ths) : WF (Ths ++ [t]) := by
  obtain ⟨h1, h2, h3⟩ := h
  have hsub : ∀ k ∈ stk (Ths ++ [t]), k ∈ stk Ths ∨ (k = Ths.length ∧ thk t = 2) := by
    intro k hk
    rw [stk_s] at hk
    unfold stkA at hk
    by_cases a : thk t = 2
    · rw [if_pos a] at hk
      cases hk with
      | head => exact Or.inr ⟨rfl, a⟩
      | tail _ hk => exact Or.inl hk
    · rw [if_neg a] at hk
      by_cases b : thk t = 3
      · rw [if_pos b] at hk
        exact Or.inl (List.mem_of_mem_tail hk)
      · rw [if_neg b] at hk
        exact Or.inl hk
  refine ⟨fun k hk => ?_, ?_, fun i x k hi hx hh => ?_⟩
  · rw [List.length_append, List.length_singleton]
    rcases hsub k hk with a | ⟨a, b⟩
    · obtain ⟨c1, c2⟩ := h1 k a
      refine ⟨by omega, fun x hx => ?_⟩
      rw [List.getElem?_append_left c1] at hx
      exact c2 x hx
    · subst a
      refine ⟨by omega, fun x hx => ?_⟩
      rw [List.getElem?_append_right (Nat.le_refl _), Nat.sub_self] at hx
      injection hx with hx
      rw [← hx]
      exact b
  · rw [stk_s]
    unfold stkA
    split
    · exact List.pairwise_cons.mpr ⟨fun a ha => (h1 a ha).1, h2⟩
    · split
      · exact h2.tail
      · exact h2
  · rcases getc hi with ⟨i1, i2⟩ | ⟨i1, i2⟩
    · rw [(off_app (Ths := Ths) (t := t) (Nat.le_of_lt i1)).2.2] at hh
      intro hk
      rcases hsub k hk with a | ⟨a, b⟩
      · exact h3 i x k i2 hx hh a
      · have hkm : k ∈ stk (Ths.take i) := List.mem_of_mem_head? hh
        have h5 := stk_lt _ k hkm
        rw [List.length_take] at h5
        omega
    · subst i1
      subst i2
      rw [(off_app (Ths := Ths) (t := x) (Nat.le_refl _)).2.2, List.take_length] at hh
      intro hk
      rw [stk_s] at hk
      unfold stkA at hk
      rw [if_neg (by omega), if_pos hx] at hk
      match hs : stk Ths, hh, hk with
      | k' :: S, hh, hk =>
        injection hh with hh
        subst hh
        rw [hs] at h2
        have := (List.pairwise_cons.mp h2).1 _ hk
        omega
