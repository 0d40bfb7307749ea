/-! PURE: what stands behind a thing done -/
def cxOK (C : List Cx) (L : List Nat) (a b i j : Nat) : Prop := L = C.map (·.1) ∧ a < T0 C ∧ b < T1 C ∧ (0 ∈ L → rv C a b 0 = i) ∧ (1 ∈ L → rv C a b 1 = j) ∧ i < 16 ∧ j < 16
def enF (K : KS) (m tot ky : Nat) (wr : Bool) (t : Th) (e : Q5) (x : Nat) : Prop := ∃ (C : List Cx) (sk a b : Nat), cxOK C e.2.2.2.2 a b e.2.2.1 e.2.2.2.1 ∧ leafN K m e.2.2.2.2 t ∧ gxL m tot ky C sk t ∧ (wr = true → bf C sk a b = x)
theorem TQ_get {o : Th} {b : List Th} {kb lb i j N : Nat} {L : List Nat} : ∀ (d q0 p : Nat) (e : Q5), (TQ o b kb lb L i j q0 d)[p]? = some e → ∃ q r, q0 ≤ q ∧ q < q0 + d ∧ (TR b (kb + 1) (lb + 1) (L ++ [thw o]) (if thw o = 0 then q else i) (if thw o = 0 then j else q))[r]? = some e ∧ ((∀ i j, (TR b (kb + 1) (lb + 1) (L ++ [thw o]) i j).length = N) → p = (q - q0) * N + r)
  | 0, q0, p, e, h => by
    unfold TQ at h
    cases h
  | d + 1, q0, p, e, h => by
    rw [TQ_s] at h
    by_cases hp : p < (TR b (kb + 1) (lb + 1) (L ++ [thw o]) (if thw o = 0 then q0 else i) (if thw o = 0 then j else q0)).length
    · rw [List.getElem?_append_left hp] at h
      exact ⟨q0, p, by omega, by omega, h, fun _ => by rw [Nat.sub_self, Nat.zero_mul, Nat.zero_add]⟩
    · rw [List.getElem?_append_right (by omega)] at h
      obtain ⟨q, r, h1, h2, h3, h4⟩ := TQ_get d (q0 + 1) _ e h
      refine ⟨q, r, by omega, by omega, h3, fun hN => ?_⟩
      have e1 := h4 hN
      rw [hN] at e1 hp
      have e2 : (q - q0) * N = (q - (q0 + 1)) * N + N := by rw [show q - q0 = (q - (q0 + 1)) + 1 by omega, Nat.succ_mul]
      omega
theorem cx_in {C : List Cx} {L : List Nat} {a b i j q : Nat} {o : Th} {g : Nat} (h : cxOK C L a b i j) (hC : C.length ≤ 1) (hq : q < tn o) (hn : thw o ∉ L) (h2 : thw o < 2) (ht : thv o ≤ 16) : ∃ a' b', cxOK (C ++ [(thw o, thv o, g)]) (L ++ [thw o]) a' b' (if thw o = 0 then q else i) (if thw o = 0 then j else q) ∧ ∀ sk, bf (C ++ [(thw o, thv o, g)]) sk a' b' = bf C sk a b + q * g := by
  obtain ⟨h1, hA, hB, h3, h4, h5, h6⟩ := h
  have hq16 : q < 16 := by unfold tn at hq; omega
  have hij : (if thw o = 0 then q else i) < 16 ∧ (if thw o = 0 then j else q) < 16 := by split <;> omega
  match C, hC with
  | [], _ =>
    refine ⟨q, 0, ⟨by rw [h1]; rfl, ?_, ?_, ?_, ?_, hij.1, hij.2⟩, fun sk => ?_⟩
    · show q < min (thv o) 16
      exact hq
    · show (0 : Nat) < 1
      omega
    · intro hm
      rw [h1] at hm
      rw [if_pos (List.mem_singleton.mp hm).symm]
      rfl
    · intro hm
      rw [h1] at hm
      rw [if_neg (by have := List.mem_singleton.mp hm; omega)]
      rfl
    · rfl
  | [c], _ =>
    refine ⟨a, q, ⟨by rw [h1]; rfl, ?_, ?_, ?_, ?_, hij.1, hij.2⟩, fun sk => ?_⟩
    · exact hA
    · show q < min (thv o) 16
      exact hq
    · intro hm
      show (if thw o = 0 then q else a) = _
      by_cases h0 : thw o = 0
      · rw [if_pos h0, if_pos h0]
      · rw [if_neg h0, if_neg h0]
        rcases List.mem_append.mp hm with hm | hm
        · exact h3 hm
        · exact absurd (List.mem_singleton.mp hm).symm h0
    · intro hm
      show (if thw o = 1 then q else a) = _
      by_cases h0 : thw o = 1
      · rw [if_pos h0, if_neg (by omega)]
      · rw [if_neg h0, if_pos (by omega)]
        rcases List.mem_append.mp hm with hm | hm
        · exact h4 hm
        · exact absurd (List.mem_singleton.mp hm).symm h0
    · rfl
theorem bf_1 {C : List Cx} (sk x a b : Nat) : bf C (sk + x) a b = bf C sk a b + x := by
  match C with
  | [] => rfl
  | [c] => show sk + x + _ = sk + _ + x; omega
  | c :: d :: _ => show sk + x + _ + _ = sk + _ + _ + x; omega
/-- for every entry: the thing, its line, its parts, what is known of it -/
def TRf (K : KS) (m tot ky : Nat) (wr : Bool) (lim : Nat) (l : List Th) : Prop := ∀ (kb lb pb sl sk a b i j p : Nat) (C : List Cx) (L : List Nat) (e : Q5), (wr = true → ∀ t ∈ l, thk t ≠ 2 → thk t ≠ 3 → thk t = 1) → (∀ t ∈ l, thk t = 2 → thw t < 2) → NX K m l L → GX m tot ky l C sk → GL l L → C.length + lim ≤ 2 → cxOK C L a b i j → (TR l kb lb L i j)[p]? = some e → ∃ (t : Th) (k' ln' pb' sk' : Nat), (e.1 = kb + k' ∧ l[k']? = some t ∧ thk t ≠ 2 ∧ thk t ≠ 3) ∧ (e.2.1 = lb + ln' ∧ ((lx l).2.2 lb pb sl)[ln']? = some (lnT t (pb + pb') sk')) ∧ (∀ (q : Nat) (x : C5), (p5L e.2.2.2.2 t)[q]? = some x → (PX l L)[pb' + q]? = some x) ∧ enF K m tot ky wr t e (bf C sk a b + p)
theorem tr_f {K : KS} {m tot ky lim : Nat} {wr : Bool} {l : List Th} (h : lv lim 0 l = some 0) : TRf K m tot ky wr lim l := by
  refine dyck (P := TRf K m tot ky wr) h ?_ ?_ ?_
  · intro lim kb lb pb sl sk a b i j p C L e _ _ _ _ _ _ _ he
    cases he
  · intro lim t r e2 e3 hr ih kb lb pb sl sk a b i j p C L e hw h2 hN hG hL hC hc he
    rw [TR_leaf e2 e3 hr] at he
    rw [NX_leaf e2 e3 hr] at hN
    rw [GX_leaf e2 e3 hr] at hG
    rw [GL_leaf e2 e3 hr] at hL
    rw [lx_leaf e2 e3 hr, PX_leaf e2 e3 hr]
    match p, he with
    | 0, he =>
      cases he
      refine ⟨t, 0, 0, 0, sl, ⟨rfl, rfl, e2, e3⟩, ⟨rfl, rfl⟩, fun q x hx => ?_, C, sk, a, b, hc, hN.1, hG.1, fun _ => rfl⟩
      rw [Nat.zero_add, List.getElem?_append_left (get_lt hx)]
      exact hx
    | p + 1, he =>
      have he : (TR r (kb + 1) (lb + 1) L i j)[p]? = some e := he
      obtain ⟨t', k', ln', pb', sk', ⟨a1, a2, a3, a4⟩, ⟨b1, b2⟩, c1, C', sk2, a', b', d1, d2, d3, d4⟩ := ih (kb + 1) (lb + 1) (pb + npT t) (sl + skW t) (sk + skW t) a b i j p C L e (fun hwr t ht => hw hwr t (List.mem_cons_of_mem _ ht)) (fun t ht => h2 t (List.mem_cons_of_mem _ ht)) hN.2 hG.2 hL hC hc he
      refine ⟨t', k' + 1, ln' + 1, npT t + pb', sk', ⟨by omega, a2, a3, a4⟩, ⟨by omega, ?_⟩, fun q x hx => ?_, C', sk2, a', b', d1, d2, d3, fun hwr => ?_⟩
      · show ((lx r).2.2 (lb + 1) (pb + npT t) (sl + skW t))[ln']? = _
        rw [b2, Nat.add_assoc]
      · rw [List.getElem?_append_right (by rw [p5L_len]; omega), p5L_len, show npT t + pb' + q - npT t = pb' + q by omega]
        exact c1 q x hx
      · have : skW t = 1 := by unfold skW; rw [if_pos (hw hwr t (List.mem_cons_self ..) e2 e3)]
        rw [d4 hwr, bf_1, this]
        omega
  · intro lim o bd c r e2 e3 hm hr i1 i2 kb lb pb sl sk a b i j p C L e hw h2 hN hG hL hC hc he
    rw [TR_loop e2 e3 hm hr] at he
    rw [NX_loop e2 e3 hm hr] at hN
    rw [GX_loop e2 e3 hm hr] at hG
    rw [GL_loop e2 e3 hm hr] at hL
    rw [lx_loop e2 e3 hm hr, PX_loop e2 e3 hm hr]
    have hwb : wr = true → ∀ t ∈ bd, thk t ≠ 2 → thk t ≠ 3 → thk t = 1 := fun hwr t ht => hw hwr t (List.mem_cons_of_mem _ (List.mem_append_left _ ht))
    have hlen : wr = true → ∀ kb lb L i j, (TR bd kb lb L i j).length = wt skW bd := fun hwr => TR_len hm (fun t ht h1 h2 => by unfold skW; rw [if_pos (hwb hwr t ht h1 h2)])
    by_cases hp : p < (TQ o bd kb lb L i j 0 (tn o)).length
    · rw [List.getElem?_append_left hp] at he
      obtain ⟨q, r', q1, q2, q3, q4⟩ := TQ_get (N := wt skW bd) (tn o) 0 p e he
      obtain ⟨a', b', x1, x2⟩ := cx_in (g := wt skW bd) hc (by omega) (by omega : q < tn o) hL.1.1 (h2 o (List.mem_cons_self ..) e2) hL.1.2.2
      obtain ⟨t', k', ln', pb', sk', ⟨a1, a2, a3, a4⟩, ⟨b1, b2⟩, c1, C', sk2, a'', b'', d1, d2, d3, d4⟩ := i1 (kb + 1) (lb + 1) pb sl sk a' b' _ _ r' _ _ e hwb (fun t ht => h2 t (List.mem_cons_of_mem _ (List.mem_append_left _ ht))) hN.2.1 hG.1 hL.2.1 (by rw [List.length_append, List.length_singleton]; omega) x1 q3
      refine ⟨t', k' + 1, ln' + 1, pb', sk', ⟨by omega, ?_, a3, a4⟩, ⟨by omega, ?_⟩, fun q x hx => ?_, C', sk2, a'', b'', d1, d2, d3, fun hwr => ?_⟩
      · rw [List.getElem?_cons_succ, List.getElem?_append_left (get_lt a2)]
        exact a2
      · simp only [lxp]
        rw [if_neg (fun hE => by rw [hE] at b2; cases b2), List.getElem?_cons_succ, List.getElem?_append_left (get_lt b2)]
        exact b2
      · have := c1 q x hx
        rw [List.getElem?_append_left (get_lt this)]
        exact this
      · rw [d4 hwr, x2, q4 (fun i j => hlen hwr _ _ _ i j), Nat.sub_zero]
        omega
    · rw [List.getElem?_append_right (by omega)] at he
      have hPl : (PX bd (L ++ [thw o])).length = (lx bd).1 := (lx_wt hm).2 _
      have hsw : (lx bd).2.1 = wt skW bd := (lx_wt hm).1
      have hnl := nl_lx hm (lb + 1) pb sl
      obtain ⟨t', k', ln', pb', sk', ⟨a1, a2, a3, a4⟩, ⟨b1, b2⟩, c1, C', sk2, a'', b'', d1, d2, d3, d4⟩ := i2 (kb + bd.length + 2) (lb + nlL bd) (pb + (lx bd).1) (sl + tn o * (lx bd).2.1) (sk + tn o * wt skW bd) a b i j _ C L e (fun hwr t ht => hw hwr t (List.mem_cons_of_mem _ (List.mem_append_right _ (List.mem_cons_of_mem _ ht)))) (fun t ht => h2 t (List.mem_cons_of_mem _ (List.mem_append_right _ (List.mem_cons_of_mem _ ht)))) hN.2.2 hG.2 hL.2.2 hC hc he
      refine ⟨t', k' + bd.length + 2, ln' + nlL bd, (lx bd).1 + pb', sk', ⟨by omega, ?_, a3, a4⟩, ⟨by omega, ?_⟩, fun q x hx => ?_, C', sk2, a'', b'', d1, d2, d3, fun hwr => ?_⟩
      · rw [show k' + bd.length + 2 = (bd.length + (k' + 1)) + 1 by omega, List.getElem?_cons_succ, List.getElem?_append_right (by omega), Nat.add_sub_cancel_left, List.getElem?_cons_succ]
        exact a2
      · simp only [lxp]
        rw [← Nat.add_assoc]
        by_cases hE : (lx bd).2.2 (lb + 1) pb sl = []
        · rw [hE] at hnl
          have h0 : nlL bd = 0 := by unfold nlL; rw [if_pos (show nl bd = 0 from hnl.symm)]
          rw [h0, Nat.add_zero] at b2 ⊢
          rw [if_pos hE]
          exact b2
        · have hl0 : 0 < ((lx bd).2.2 (lb + 1) pb sl).length := List.length_pos_iff.mpr hE
          have h0 : nlL bd = nl bd + 2 := by unfold nlL; rw [if_neg (by omega)]
          rw [if_neg hE, h0, show ln' + (nl bd + 2) = (nl bd + (ln' + 1)) + 1 by omega, List.getElem?_cons_succ, List.getElem?_append_right (by omega), hnl, Nat.add_sub_cancel_left, List.getElem?_cons_succ]
          rw [h0, ← Nat.add_assoc] at b2
          exact b2
      · rw [List.getElem?_append_right (by rw [hPl]; omega), hPl, show (lx bd).1 + pb' + q - (lx bd).1 = pb' + q by omega]
        exact c1 q x hx
      · have hTQ : (TQ o bd kb lb L i j 0 (tn o)).length = tn o * wt skW bd := by
          have : ∀ d q, (TQ o bd kb lb L i j q d).length = d * wt skW bd := by
            intro d
            induction d with
            | zero => intro q; unfold TQ; rw [Nat.zero_mul]; rfl
            | succ d ih => intro q; rw [TQ_s, List.length_append, ih, hlen hwr, Nat.succ_mul]; omega
          exact this _ _
        rw [d4 hwr, bf_1, hTQ]
        rw [hTQ] at hp
        omega
