/-! PURE: the reference lays out all that is done -/
def RLQ (F : Nat) (D : Ds) (wr : Bool) (lim : Nat) (l : List Th) : Prop := ∀ (pre post : List Th) (L : List Nat) (i j a b lb : Nat) (R : List R3) (ins rg : Nat) (s : ax_σ), dH D = pre ++ (l ++ post) → (0 ∈ L → a = i) → (1 ∈ L → b = j) → GL l L → (wr = true → pre.length + l.length ≤ (dW D).length) → (wr = false → (dW D).length ≤ pre.length) → R.length + l.length * 16 ^ lim ≤ 2 ^ 29 → ZY D wr R ins rg a b s → ∃ (N : Nat) (s' : ax_σ) (R' : List R3) (a' b' : Nat), N ≤ l.length * 17 ^ lim ∧ (∀ M, lp_Z_layOut_38 F (M + N) (nI pre.length) s = lp_Z_layOut_38 F M (nI (pre.length + l.length)) s') ∧ ZY D wr (R ++ R') (ins + wt icW l) (max rg (mx l)) a' b' s' ∧ (0 ∈ L → a' = i) ∧ (1 ∈ L → b' = j) ∧ relT R' (TR l pre.length lb L i j) ∧ R'.length ≤ l.length * 16 ^ lim ∧ frm (XY wr) s s'
theorem zl_turns {F n lim : Nat} {D : Ds} {wr : Bool} {b : List Th} {o c : Th} (hO : ThO n D) (ih : RLQ F D wr lim b) (e2 : thk o = 2) (e3 : thk c = 3) (hm : lv lim 0 b = some 0) (hx : thw o < 2) (hv : 1 ≤ thv o ∧ thv o ≤ 16) {pre post : List Th} {L : List Nat} (hL : thw o ∉ L) {i j lb : Nat} (hH : dH D = pre ++ o :: (b ++ c :: post)) (hG : GL b (L ++ [thw o])) (h1 : wr = true → pre.length + b.length + 2 ≤ (dW D).length) (h2 : wr = false → (dW D).length ≤ pre.length) : ∀ (d q a b' : Nat) (R : List R3) (ins rg : Nat) (s : ax_σ), q + (d + 1) = thv o → (0 ∈ L ++ [thw o] → a = if thw o = 0 then q else i) → (1 ∈ L ++ [thw o] → b' = if thw o = 0 then j else q) → R.length + (d + 1) * (b.length * 16 ^ lim) ≤ 2 ^ 29 → ZY D wr R ins rg a b' s → ∃ (N : Nat) (s' : ax_σ) (R' : List R3) (a1 b1 : Nat), N ≤ (d + 1) * (b.length * 17 ^ lim + 1) ∧ (∀ M, lp_Z_layOut_38 F (M + N) (nI (pre.length + 1)) s = lp_Z_layOut_38 F M (nI (pre.length + 1 + b.length + 1)) s') ∧ ZY D wr (R ++ R') (ins + (d + 1) * wt icW b) (max rg (mx b)) a1 b1 s' ∧ (0 ∈ L → a1 = i) ∧ (1 ∈ L → b1 = j) ∧ relT R' (TQ o b pre.length lb L i j q (d + 1)) ∧ R'.length ≤ (d + 1) * (b.length * 16 ^ lim) ∧ frm (XY wr) s s' := by
  intro d
  induction d with
  | zero =>
    intro q a b' R ins rg s hq ha hb hR hY
    obtain ⟨N, s1, R1, a1, b1, n1, n2, n3, n4, n5, n6, n7, n8⟩ := ih (pre ++ [o]) (c :: post) (L ++ [thw o]) _ _ a b' (lb + 1) R ins rg s (by rw [hH]; simp only [List.append_assoc, List.cons_append, List.nil_append]) ha hb hG (fun e => by have := h1 e; rw [List.length_append, List.length_singleton]; omega) (fun e => by have := h2 e; rw [List.length_append, List.length_singleton]; omega) (by omega) hY
    have hround : s1.1 0 74 (thw o) = nI q := by
      obtain ⟨-, -, -, -, -, y1, y2, -⟩ := n3
      rcases (show thw o = 0 ∨ thw o = 1 by omega) with x | x
      · rw [x, y1, n4 (List.mem_append_right _ (by rw [x]; exact List.mem_cons_self ..)), if_pos x]
      · rw [x, y2, n5 (List.mem_append_right _ (by rw [x]; exact List.mem_cons_self ..)), if_neg (by omega)]
    obtain ⟨w1, w2⟩ := n3.rnd (x := thw o) (q := q + 1) hx (by omega)
    have hcl := fun M => zl_close (F := F) (M := M) (X := pre) (Mb := b) (Rr := post) hO.2.2.1 hH e2 e3 hm hx hv.2 (show q < 16 by omega) hround n3
    refine ⟨N + 1, ax_wI s1 0 74 (thw o) (nI (q + 1)), R1, rA (thw o) (q + 1) a1, rB (thw o) (q + 1) b1, by omega, fun M => ?_, ?_, fun h0 => ?_, fun h1' => ?_, ?_, by omega, n8.trans w2⟩
    · rw [List.length_append, List.length_singleton] at n2
      rw [show M + (N + 1) = (M + 1) + N from by omega, n2, hcl, if_neg (by omega)]
    · rw [show (0 : Nat) + 1 = 1 from rfl, Nat.one_mul]
      exact w1
    · unfold rA
      have hne : ¬ thw o = 0 := fun e => hL (by rw [e]; exact h0)
      rw [if_neg hne]
      have := n4 (List.mem_append_left _ h0)
      rw [if_neg hne] at this
      exact this
    · unfold rB
      have hne : thw o = 0 := by
        have : thw o ≠ 1 := fun e => hL (by rw [e]; exact h1')
        omega
      rw [if_pos hne]
      have := n5 (List.mem_append_left _ h1')
      rw [if_pos hne] at this
      exact this
    · rw [List.length_append, List.length_singleton] at n6
      rw [TQ_s]
      have : TQ o b pre.length lb L i j (q + 1) 0 = [] := rfl
      rw [this, List.append_nil]
      exact n6
  | succ d ihd =>
    intro q a b' R ins rg s hq ha hb hR hY
    rw [show (d + 1 + 1) * (b.length * 16 ^ lim) = (d + 1) * (b.length * 16 ^ lim) + b.length * 16 ^ lim from Nat.succ_mul _ _] at hR
    obtain ⟨N, s1, R1, a1, b1, n1, n2, n3, n4, n5, n6, n7, n8⟩ := ih (pre ++ [o]) (c :: post) (L ++ [thw o]) _ _ a b' (lb + 1) R ins rg s (by rw [hH]; simp only [List.append_assoc, List.cons_append, List.nil_append]) ha hb hG (fun e => by have := h1 e; rw [List.length_append, List.length_singleton]; omega) (fun e => by have := h2 e; rw [List.length_append, List.length_singleton]; omega) (by omega) hY
    have hround : s1.1 0 74 (thw o) = nI q := by
      obtain ⟨-, -, -, -, -, y1, y2, -⟩ := n3
      rcases (show thw o = 0 ∨ thw o = 1 by omega) with x | x
      · rw [x, y1, n4 (List.mem_append_right _ (by rw [x]; exact List.mem_cons_self ..)), if_pos x]
      · rw [x, y2, n5 (List.mem_append_right _ (by rw [x]; exact List.mem_cons_self ..)), if_neg (by omega)]
    obtain ⟨w1, w2⟩ := n3.rnd (x := thw o) (q := q + 1) hx (by omega)
    have hcl := fun M => zl_close (F := F) (M := M) (X := pre) (Mb := b) (Rr := post) hO.2.2.1 hH e2 e3 hm hx hv.2 (show q < 16 by omega) hround n3
    have hmem0 : 0 ∈ L ++ [thw o] → rA (thw o) (q + 1) a1 = if thw o = 0 then q + 1 else i := by
      intro h0
      unfold rA
      split
      · rfl
      · rename_i hne
        have := n4 h0
        rw [if_neg hne] at this
        exact this
    have hmem1 : 1 ∈ L ++ [thw o] → rB (thw o) (q + 1) b1 = if thw o = 0 then j else q + 1 := by
      intro h0
      unfold rB
      split
      · rename_i hne
        have := n5 h0
        rw [if_pos hne] at this
        exact this
      · rfl
    obtain ⟨N2, s2, R2, a2, b2, m1, m2, m3, m4, m5, m6, m7, m8⟩ := ihd (q + 1) _ _ (R ++ R1) (ins + wt icW b) (max rg (mx b)) _ (by omega) hmem0 hmem1 (by rw [List.length_append]; omega) w1
    refine ⟨N + 1 + N2, s2, R1 ++ R2, a2, b2, ?_, fun M => ?_, ?_, m4, m5, ?_, ?_, (n8.trans w2).trans m8⟩
    · rw [show (d + 1 + 1) * (b.length * 17 ^ lim + 1) = (d + 1) * (b.length * 17 ^ lim + 1) + (b.length * 17 ^ lim + 1) from Nat.succ_mul _ _]
      omega
    · rw [List.length_append, List.length_singleton] at n2
      rw [show M + (N + 1 + N2) = (M + N2 + 1) + N from by omega, n2, hcl, if_pos (by omega), m2]
    · rw [List.append_assoc] at m3
      rw [show (d + 1 + 1) * wt icW b = wt icW b + (d + 1) * wt icW b from by rw [Nat.succ_mul]; omega, ← Nat.add_assoc]
      rw [show max (max rg (mx b)) (mx b) = max rg (mx b) from by omega] at m3
      exact m3
    · rw [List.length_append, List.length_singleton] at n6
      rw [TQ_s]
      exact n6.app m6
    · rw [List.length_append, show (d + 1 + 1) * (b.length * 16 ^ lim) = (d + 1) * (b.length * 16 ^ lim) + b.length * 16 ^ lim from Nat.succ_mul _ _]
      omega
theorem zl_all {F n lim : Nat} {D : Ds} {wr : Bool} {l : List Th} (hF : 300 ≤ F) (hO : ThO n D) (h : lv lim 0 l = some 0) : RLQ F D wr lim l := by
  refine dyck (P := RLQ F D wr) h ?_ ?_ ?_
  · intro lim pre post L i j a b lb R ins rg s _ h0 h1 _ _ _ _ hY
    refine ⟨0, s, [], a, b, Nat.zero_le _, fun M => rfl, ?_, h0, h1, relT.nil, Nat.zero_le _, frm.refl⟩
    rw [List.append_nil, wt_nil, show mx [] = 0 from rfl, Nat.max_zero]
    exact hY
  · intro lim t r e2 e3 hr ih pre post L i j a b lb R ins rg s hH h0 h1 hG hw1 hw2 hR hY
    rw [List.length_cons, Nat.succ_mul] at hR
    rw [List.length_cons] at hw1
    have hp16 : 1 ≤ 16 ^ lim := Nat.pow_pos (by decide)
    have hp17 : 1 ≤ 17 ^ lim := Nat.pow_pos (by decide)
    obtain ⟨s1, a1, a2, a3⟩ := zl_leaf (F := F) hF hO (show dH D = pre ++ t :: (r ++ post) by rw [hH]; rfl) e2 e3 (fun e => by have := hw1 e; omega) (fun e => by have := hw2 e; omega) (by omega) hY
    rw [GL_leaf e2 e3 hr] at hG
    obtain ⟨N, s2, R2, a', b', m1, m2, m3, m4, m5, m6, m7, m8⟩ := ih (pre ++ [t]) post L i j a b (lb + 1) (R ++ [(pre.length, a, b)]) (ins + icW t) (max rg (ndT t)) s1 (by rw [hH, List.append_assoc]; rfl) h0 h1 hG (fun e => by have := hw1 e; rw [List.length_append, List.length_singleton]; omega) (fun e => by have := hw2 e; rw [List.length_append, List.length_singleton]; omega) (by rw [List.length_append, List.length_singleton]; omega) a2
    rw [List.length_append, List.length_singleton] at m2 m6
    refine ⟨N + 1, s2, (pre.length, a, b) :: R2, a', b', ?_, fun M => ?_, ?_, m4, m5, ?_, ?_, a3.trans m8⟩
    · rw [List.length_cons, Nat.succ_mul]; omega
    · rw [show M + (N + 1) = M + N + 1 from rfl, a1, m2, List.length_cons]
      congr 2
      omega
    · rw [List.append_assoc] at m3
      rw [wt_leaf e2 e3 hr, mx_leaf e2 e3 hr, ← Nat.add_assoc]
      rw [show max (max rg (ndT t)) (mx r) = max rg (max (ndT t) (mx r)) from by omega] at m3
      exact m3
    · rw [TR_leaf e2 e3 hr]
      have hab := hY.2.2.2.2.2.2.2
      exact relT.app (R := [(pre.length, a, b)]) (E := [(pre.length, lb, i, j, L)]) ⟨rfl, fun p x e hp he => by
        match p, hp, he with
        | 0, hp, he =>
          cases hp
          cases he
          exact ⟨rfl, h0, h1, hab.1, hab.2⟩
        | p + 1, hp, he => cases hp⟩ m6
    · rw [List.length_cons, List.length_cons, Nat.succ_mul]; omega
  · intro lim o b c r e2 e3 hm hr i1 i2 pre post L i j a b' lb R ins rg s hH h0 h1 hG hw1 hw2 hR hY
    rw [GL_loop e2 e3 hm hr] at hG
    obtain ⟨⟨g1, g2, g3⟩, g4, g5⟩ := hG
    have hH' : dH D = pre ++ o :: (b ++ c :: (r ++ post)) := by rw [hH]; simp only [List.cons_append, List.append_assoc]
    have hmem : o ∈ dH D := by rw [hH']; exact List.mem_append_right _ (List.mem_cons_self ..)
    have hx := ((hO.2.2.2.1 o hmem).2 e2).2
    rw [List.length_cons, List.length_append, List.length_cons] at hw1
    have htn : tn o = thv o := by unfold tn; omega
    have hR2 : R.length + b.length * 16 ^ (lim + 1) + r.length * 16 ^ (lim + 1) + 2 * 16 ^ (lim + 1) ≤ 2 ^ 29 := by
      rw [List.length_cons, List.length_append, List.length_cons, show b.length + (r.length + 1) + 1 = b.length + r.length + 2 from by omega, Nat.add_mul, Nat.add_mul] at hR
      omega
    have h16 : b.length * 16 ^ (lim + 1) = 16 * (b.length * 16 ^ lim) := by rw [Nat.pow_succ, ← Nat.mul_assoc, Nat.mul_comm]
    have h17 : b.length * 17 ^ (lim + 1) = 17 * (b.length * 17 ^ lim) := by rw [Nat.pow_succ, ← Nat.mul_assoc, Nat.mul_comm]
    obtain ⟨d, hd⟩ : ∃ d, thv o = d + 1 := ⟨thv o - 1, by omega⟩
    have hdm : (d + 1) * (b.length * 16 ^ lim) ≤ 16 * (b.length * 16 ^ lim) := Nat.mul_le_mul_right _ (by omega)
    have hdn : (d + 1) * (b.length * 17 ^ lim + 1) ≤ 16 * (b.length * 17 ^ lim + 1) := Nat.mul_le_mul_right _ (by omega)
    obtain ⟨w1, w2⟩ := hY.rnd (x := thw o) (q := 0) hx (by omega)
    obtain ⟨N, s1, R1, a1, b1, n1, n2, n3, n4, n5, n6, n7, n8⟩ := zl_turns (F := F) (lb := lb) hO i1 e2 e3 hm hx ⟨g2, g3⟩ g1 (i := i) (j := j) hH' g4 (fun e => by have := hw1 e; omega) hw2 d 0 _ _ R ins rg _ (by omega) (fun h => by
      unfold rA
      split
      · rfl
      · rename_i hne
        rcases List.mem_append.mp h with h | h
        · exact h0 h
        · exact absurd (List.mem_singleton.mp h).symm hne) (fun h => by
      unfold rB
      split
      · rename_i hne
        rcases List.mem_append.mp h with h | h
        · exact h1 h
        · exfalso
          have := List.mem_singleton.mp h
          omega
      · rfl) (by omega) w1
    obtain ⟨N2, s2, R2, a2, b2, m1, m2, m3, m4, m5, m6, m7, m8⟩ := i2 (pre ++ o :: (b ++ [c])) post L i j a1 b1 (lb + nlL b) (R ++ R1) (ins + (d + 1) * wt icW b) (max rg (mx b)) s1 (by rw [hH']; simp only [List.append_assoc, List.cons_append, List.nil_append]) n4 n5 g5 (fun e => by have := hw1 e; simp only [List.length_append, List.length_cons, List.length_nil]; omega) (fun e => by have := hw2 e; simp only [List.length_append, List.length_cons, List.length_nil]; omega) (by rw [List.length_append]; omega) n3
    have hl : (pre ++ o :: (b ++ [c])).length = pre.length + 1 + b.length + 1 := by simp only [List.length_append, List.length_cons, List.length_nil]; omega
    rw [hl] at m2 m6
    have hle : (o :: (b ++ c :: r)).length = b.length + r.length + 2 := by simp only [List.length_append, List.length_cons]; omega
    refine ⟨1 + N + N2, s2, R1 ++ R2, a2, b2, ?_, fun M => ?_, ?_, m4, m5, ?_, ?_, (w2.trans n8).trans m8⟩
    · rw [hle, Nat.add_mul, Nat.add_mul]
      have : 17 ≤ 17 ^ (lim + 1) := by rw [Nat.pow_succ]; have : 1 ≤ 17 ^ lim := Nat.pow_pos (by decide); omega
      omega
    · rw [show M + (1 + N + N2) = M + N2 + N + 1 from by omega, zl_open hO.2.2.1 hH' e2 hx hY, n2, m2, hle]
      congr 2
      omega
    · rw [List.append_assoc] at m3
      rw [wt_loop e2 e3 hm hr, mx_loop e2 e3 hm hr, htn, hd, ← Nat.add_assoc]
      rw [show max (max rg (mx b)) (mx r) = max rg (max (mx b) (mx r)) from by omega] at m3
      exact m3
    · rw [TR_loop e2 e3 hm hr, htn, hd, show pre.length + b.length + 2 = pre.length + 1 + b.length + 1 from by omega]
      exact n6.app m6
    · rw [List.length_append, hle, Nat.add_mul, Nat.add_mul]
      omega
