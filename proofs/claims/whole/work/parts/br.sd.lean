/-! PURE: a description without a fault: what is known of each thing done -/
def SD (D : Ds) : Prop := ∃ (n : Nat) (T : List Tok) (g : Nat) (B : Nat → Int32), n ≤ 240 ∧ PF n D ∧ DB D ∧ okB D B ∧ FN (kD n T g D B) 1928 D ∧ ¬ big D
theorem sd_vD {n g : Nat} {T : List Tok} {D : Ds} {B : Nat → Int32} (hn : n ≤ 240) (hP : PF n D) (hF : FN (kD n T g D B) 1928 D) : vD D := by
  obtain ⟨w0, w1, W, ⟨-, h2⟩, ⟨⟨a1, -⟩, ⟨a2, -⟩, ⟨a3, -⟩⟩, -⟩ := hP
  have hw0 : ∀ q ∈ w0, q < n := fun q hq => h2 q (List.mem_append_left _ (List.mem_append_left _ hq))
  have p1 := hw0 _ a1
  have p2 := hw0 _ a2
  have p3 := hw0 _ a3
  obtain ⟨⟨f1, f2, f3⟩, -⟩ := hF
  refine vD_iff.mpr ⟨?_, ?_, ?_⟩
  · by_cases h : isSz 0 D.1.1 = true
    · exact h
    · have := f1 h; omega
  · by_cases h : isSz 1 D.2.1.1 = true
    · exact h
    · have := f2 h; omega
  · by_cases h : isSz 2 D.2.2.1.1 = true
    · exact h
    · have := f3 h; omega
theorem sd_GL {n g : Nat} {T : List Tok} {D : Ds} {B : Nat → Int32} (hn : n ≤ 240) (hP : PF n D) (hB : DB D) (hF : FN (kD n T g D B) 1928 D) : GL (dW D) [] ∧ GL (dSt D) [] := by
  obtain ⟨h0, -, -, -, l1, l2, -, hok⟩ := hP.tho hn hB
  obtain ⟨-, -, f1, f2, -⟩ := hF
  have hpl : ∀ t ∈ dH D, thk t = 2 → thp t < 240 ∧ thq t < 240 := by
    intro t ht h2
    obtain ⟨k, hk⟩ := List.getElem?_of_mem ht
    obtain ⟨w, ⟨o1, o2⟩, o3⟩ := hok k t hk
    have p1 := o3 _ o1
    rcases o2 with ⟨-, -, -, e, -⟩ | ⟨e, -⟩ | ⟨-, e, -⟩ | ⟨-, -, e⟩
    · have := o3 _ e; omega
    · omega
    · omega
    · have he : thk t = (wkOf t).1 := rfl
      rcases e with ⟨e, -⟩ | ⟨e, -⟩ | ⟨e, -⟩ | ⟨e, -⟩ <;> omega
  exact ⟨NX_GL l1 (fun t ht => hpl t (List.mem_append_left _ ht)) [] f1, NX_GL l2 (fun t ht => hpl t (List.mem_append_right _ ht)) [] f2⟩
def tot (D : Ds) : Nat := wt skW (dW D)
def prt (D : Ds) : List C5 := PX (dW D) [] ++ PX (dSt D) []
theorem cx_0 : cxOK [] [] 0 0 0 0 := ⟨rfl, by show (0 : Nat) < 1; omega, by show (0 : Nat) < 1; omega, fun h => absurd h List.not_mem_nil, fun h => absurd h List.not_mem_nil, by omega, by omega⟩
def trW (D : Ds) : List Q5 := TR (dW D) 0 0 [] 0 0
def trS (D : Ds) : List Q5 := TR (dSt D) (dW D).length (nl (dW D)) [] 0 0
/-- a writing that is done -/
theorem SD.wr {D : Ds} {p : Nat} {e : Q5} (h : SD D) (he : (trW D)[p]? = some e) : ∃ (t : Th) (pb sk : Nat), (dH D)[e.1]? = some t ∧ thk t = 1 ∧ (lsD D)[e.2.1]? = some (lnT t pb sk) ∧ (∀ (q : Nat) (x : C5), (p5L e.2.2.2.2 t)[q]? = some x → (prt D)[pb + q]? = some x) ∧ hw 13 0 (the t) = some 1 ∧ (∀ o ∈ the t, opG D.1.1 0 D.2.2.1.1 p e.2.2.2.2 e.2.2.1 e.2.2.2.1 o) ∧ e.2.2.1 < 16 ∧ e.2.2.2.1 < 16 := by
  obtain ⟨n, T, g, B, hn, hP, hB, hkB, hF, -⟩ := h
  obtain ⟨gl1, gl2⟩ := sd_GL hn hP hB hF
  obtain ⟨h0, -, -, -, l1, l2, -, hok⟩ := hP.tho hn hB
  obtain ⟨-, hX, -, -, -, -, hs1, hw1, -⟩ := hP.all hB
  obtain ⟨-, -, f1, f2, f3, f4⟩ := hF
  obtain ⟨t, k', ln', pb', sk', ⟨a1, a2, a3, a4⟩, ⟨b1, b2⟩, c1, C, sk, a, b, d1, d2, d3, d4⟩ := tr_f (wr := true) l1 0 0 0 0 0 0 0 0 0 p [] [] e (fun _ => hw1) (fun t ht h2 => (hX t (List.mem_append_left _ ht)).1 h2) f1 f3 gl1 (by rw [List.length_nil]; omega) cx_0 he
  rw [Nat.zero_add] at a1 b1
  have ht1 := hw1 t (List.mem_of_getElem? a2) a3 a4
  have hdH : (dH D)[k']? = some t := by unfold dH; rw [List.getElem?_append_left (get_lt a2)]; exact a2
  obtain ⟨w, ⟨o1, o2⟩, o3⟩ := hok k' t hdH
  have hE : okE w (the t) := by
    rcases o2 with ⟨e, -⟩ | ⟨e, -⟩ | ⟨-, -, e, -⟩ | ⟨e, -⟩
    · omega
    · omega
    · exact e
    · rw [decide_eq_false_iff_not] at e
      exact absurd (get_lt a2) e
  refine ⟨t, pb', sk', by rw [a1]; exact hdH, ht1, ?_, fun q x hx => ?_, hE.2, fun o ho => ?_, d1.2.2.2.2.2.1, d1.2.2.2.2.2.2⟩
  · unfold lsD
    rw [b1, List.getElem?_append_left (get_lt b2), b2, Nat.zero_add]
  · have := c1 q x hx
    unfold prt
    rw [List.getElem?_append_left (get_lt this)]
    exact this
  · unfold leafN at d2
    rw [if_pos ht1] at d2
    have d4 := d4 rfl
    rw [show bf [] 0 0 0 = 0 from rfl, Nat.zero_add] at d4
    have d3 := d3 o ho
    rw [decide_eq_true ht1] at d3
    exact op_g (hE.1 o ho) (fun q hq => by have := o3 q hq; omega) (d2 o ho) d3 d1 (by rw [if_pos rfl]; exact d4)
/-- a step that is done: what is known of it -/
def stG (D : Ds) (L : List Nat) (i j : Nat) (t : Th) : Prop := thw t < D.2.1.1 ∧ (((4 ≤ thk t ∧ thk t ≤ 6) ∧ hw 13 0 (the t) = some 1 ∧ thn t = [] ∧ ∀ o ∈ the t, opG D.1.1 D.2.1.1 D.2.2.1.1 (tot D) L i j o) ∨ (thk t = 7 ∧ thv t < 10 ^ 9 ∧ thv t % 2 = 1) ∨ (thk t = 8 ∧ thv t < D.1.1) ∨ ((thk t = 9 ∨ thk t = 10) ∧ thv t < D.2.1.1) ∨ (thk t = 11 ∧ thv t < (dT D).length ∧ ∀ x, (dT D)[thv t]? = some x → ∀ j, j < 16 → tbE x j < 16 ∧ bkL (fun y => nI (tbE x y)) (nI j) 16 nM ≠ nM) ∨ (thk t = 12 ∧ the t = [] ∧ 1 ≤ (thn t).length ∧ (thn t).length ≤ 5))
theorem tbF_all {B : Nat → Int32} {u : Nat} : ∀ (n i : Nat), tbF B u n i = true → ∀ j, i ≤ j → j < i + n → B (u * 16 + j) ≠ nM
  | 0, i, _, j, h1, h2 => by omega
  | n + 1, i, h, j, h1, h2 => by
    rw [tbF] at h
    by_cases hh : B (u * 16 + i) = nM
    · rw [if_pos hh] at h; cases h
    · rw [if_neg hh] at h
      by_cases e : j = i
      · rw [e]; exact hh
      · exact tbF_all n (i + 1) h j (by omega) (by omega)
theorem SD.st {D : Ds} {p : Nat} {e : Q5} (h : SD D) (he : (trS D)[p]? = some e) : ∃ (t : Th) (pb sk : Nat), (dH D)[e.1]? = some t ∧ (4 ≤ thk t ∧ thk t ≤ 12) ∧ (lsD D)[e.2.1]? = some (lnT t pb sk) ∧ (∀ (q : Nat) (x : C5), (p5L e.2.2.2.2 t)[q]? = some x → (prt D)[pb + q]? = some x) ∧ stG D e.2.2.2.2 e.2.2.1 e.2.2.2.1 t ∧ e.2.2.1 < 16 ∧ e.2.2.2.1 < 16 := by
  obtain ⟨n, T, g, B, hn, hP, hB, hkB, hF, -⟩ := h
  obtain ⟨gl1, gl2⟩ := sd_GL hn hP hB hF
  obtain ⟨h0, -, -, -, l1, l2, -, hok⟩ := hP.tho hn hB
  obtain ⟨-, hX, -, -, -, -, hs1, hw1, -⟩ := hP.all hB
  obtain ⟨-, -, f1, f2, f3, f4⟩ := hF
  obtain ⟨t, k', ln', pb', sk', ⟨a1, a2, a3, a4⟩, ⟨b1, b2⟩, c1, C, sk, a, b, d1, d2, d3, -⟩ := tr_f (wr := false) l2 (dW D).length (nl (dW D)) (PX (dW D) []).length (tot D) (tot D) 0 0 0 0 p [] [] e (fun h => by cases h) (fun t ht h2 => (hX t (List.mem_append_right _ ht)).1 h2) f2 f4 gl2 (by rw [List.length_nil]; omega) cx_0 he
  have ht1 := hs1 t (List.mem_of_getElem? a2)
  have hdH : (dH D)[(dW D).length + k']? = some t := by unfold dH; rw [List.getElem?_append_right (by omega), Nat.add_sub_cancel_left]; exact a2
  obtain ⟨w, ⟨o1, o2⟩, o3⟩ := hok _ t hdH
  obtain ⟨hw4, hWk⟩ : thw t < 4 ∧ okWk w (wkOf t) := by
    rcases o2 with ⟨e, -⟩ | ⟨e, -⟩ | ⟨e, -⟩ | ⟨-, e1, e2⟩
    · omega
    · omega
    · rw [decide_eq_true_eq] at e
      omega
    · exact ⟨e1, e2⟩
  have hwk : (wkOf t).1 = thk t ∧ (wkOf t).2.1 = thv t ∧ (wkOf t).2.2.1 = thq t ∧ (wkOf t).2.2.2.1 = the t ∧ (wkOf t).2.2.2.2 = thn t := ⟨rfl, rfl, rfl, rfl, rfl⟩
  have hwn : ∀ q ∈ w, q < 240 := fun q hq => by have := o3 q hq; omega
  have hp1 := hwn _ o1
  unfold leafN at d2
  rw [if_neg ht1] at d2
  obtain ⟨u1, u2, u3⟩ := d2
  have hk4 : 4 ≤ thk t ∧ thk t ≤ 12 := by
    rcases hWk with ⟨e, -⟩ | ⟨e, -⟩ | ⟨e, -⟩ | ⟨e, -⟩ <;> rw [hwk.1] at e <;> omega
  refine ⟨t, (PX (dW D) []).length + pb', sk', by rw [a1]; exact hdH, hk4, ?_, fun q x hx => ?_, ⟨?_, ?_⟩, d1.2.2.2.2.2.1, d1.2.2.2.2.2.2⟩
  · unfold lsD
    have hl := nl_lx l1 0 0 0
    rw [b1, List.getElem?_append_right (by omega), hl, Nat.add_sub_cancel_left]
    exact b2
  · have := c1 q x hx
    unfold prt
    rw [List.getElem?_append_right (by omega), show (PX (dW D) []).length + pb' + q - (PX (dW D) []).length = pb' + q by omega]
    exact this
  · by_cases hh : thw t < D.2.1.1
    · exact hh
    · have := u1 hh
      omega
  · have hund : undo (kSn (kD n T g D B) (kst (kD n T g D B))) (thw t) (wkOf t) = true := by
      by_cases hh : undo (kSn (kD n T g D B) (kst (kD n T g D B))) (thw t) (wkOf t) = true
      · exact hh
      · have := u3 hh
        omega
    clear u3
    unfold wkN at u2
    unfold undo at hund
    rw [hwk.1, hwk.2.1, hwk.2.2.1, hwk.2.2.2.1, hwk.2.2.2.2] at u2
    rw [hwk.1, hwk.2.1, hwk.2.2.2.1, hwk.2.2.2.2] at hund
    unfold okWk at hWk
    rw [hwk.1, hwk.2.1, hwk.2.2.1, hwk.2.2.2.1, hwk.2.2.2.2] at hWk
    rcases hWk with ⟨e, -, hE, hn0⟩ | ⟨e, e1, e2, -, -⟩ | ⟨e, e1, e2, -, -⟩ | ⟨e, e1, e2, e3⟩
    · rw [if_pos e.2] at u2
      refine Or.inl ⟨e, hE.2, hn0, fun o ho => ?_⟩
      have d3 := d3 o ho
      rw [decide_eq_false ht1] at d3
      exact op_g (hE.1 o ho) hwn (u2 o ho) d3 d1 (by rw [if_neg (by decide)]; rfl)
    · have hq := hwn _ e2
      rcases e with e | e | e
      · rw [if_neg (by omega), if_pos e] at hund
        exact Or.inr (Or.inl ⟨e, e1, of_decide_eq_true hund⟩)
      · rw [if_neg (by omega), if_neg (by omega), if_pos e] at u2
        refine Or.inr (Or.inr (Or.inl ⟨e, ?_⟩))
        by_cases hh : thv t < D.1.1
        · exact hh
        · have := u2 hh
          omega
      · rw [if_neg (by omega), if_neg (by omega), if_neg (by omega), if_neg (by omega), if_pos e] at u2
        rw [if_neg (by omega), if_neg (by omega), if_neg (by omega), if_neg (by omega), if_pos e] at hund
        have hv : thv t < (dT D).length := by
          by_cases hh : thv t < (dT D).length
          · exact hh
          · have := u2 hh
            omega
        refine Or.inr (Or.inr (Or.inr (Or.inr (Or.inl ⟨e, hv, fun x hx j hj => ?_⟩))))
        obtain ⟨y1, y2⟩ := hkB _ x hx j hj
        refine ⟨y1, ?_⟩
        rw [← y2]
        rw [Bool.or_eq_true, decide_eq_true_eq] at hund
        rcases hund with hh | hh
        · exact absurd hv (Nat.not_lt.mpr hh)
        · exact tbF_all 16 0 hh j (by omega) (by omega)
    · have hq := hwn _ e2
      rw [if_neg (by omega), if_neg (by omega), if_neg (by omega), if_pos e] at u2
      refine Or.inr (Or.inr (Or.inr (Or.inl ⟨e, ?_⟩)))
      by_cases hh : thv t < D.2.1.1
      · exact hh
      · have := u2 hh
        omega
    · exact Or.inr (Or.inr (Or.inr (Or.inr (Or.inr ⟨e, e1, e2⟩))))
