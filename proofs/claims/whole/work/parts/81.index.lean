/-! PURE: the reader's small steps over what an expression holds; an index -/
section
variable {n : Nat} {T ts : List Tok} {g sn w lf : Nat} {L : List Nat} {P : List CP} {s : ax_σ}
theorem RX.keepR {s' : ax_σ} {ts' : List Tok} {lf' : Nat} (h : RX n T g ts lf P s) (hf : pr_fr RF s s') (h1 : rdA n T ts' s') (h2 : s'.1 0 25 7 = nI lf') (h3 : lf' ≤ 1928) (h4 : ts'.length ≤ ts.length) : RX n T g ts' lf' P s' :=
  ⟨h1, h2, h3, h.2.2.2.1.keep (frm.of hf) (fun g' r k hx => by unfold XC at hx; unfold RF; omega), by have := h.2.2.2.2; omega⟩
theorem pTake_len {c : Nat} {ts r : List Tok} (h : pTake c ts = .ok ((), r)) : ts.length = r.length + 1 := by
  match ts, h with
  | (d, p) :: ts', h =>
    simp only [pTake] at h
    split at h
    · injection h with h; injection h with _ h; rw [h]; rfl
    · cases h
theorem rx_take_ok {c : Nat} {r : List Tok} (hc : c < 128) (h : RX n T g ts lf P s) (hp : pTake c ts = .ok ((), r)) : ∃ s', f_R_take g (nI c) s = some (nI 1, s') ∧ RX n T g r lf P s' ∧ frm (XE g) s s' := by
  obtain ⟨s', e1, e2, e3, e4⟩ := rd_take_ok' (g := g) h.1 hc hp
  exact ⟨s', e1, h.keepR e4 e2 (e3.trans h.2.1) h.2.2.1 (by have := pTake_len hp; omega), XE.ofR e4⟩
theorem rx_take_er {c : Nat} {r : List Tok} (hc0 : 0 < c) (hc : c < 128) (h : rdA n T ts s) (hp : pTake c ts = .error r) : f_R_take g (nI c) s = some (nI 0, s) ∧ r = ts := rd_take_er h hc0 hc hp
theorem lfN_le' {b v p : Nat} (h : lf ≤ 1928) : lfN lf b v p ≤ 1928 := Nat.le_trans (lfN_le _ _ _ _) h
theorem rx_num_ok {F b v p : Nat} {r : List Tok} (hF : 10 ≤ F) (hb2 : b < 2 ^ 31) (h : RX n T g ts lf P s) (hp : pNum ts = some (v, p, r)) : ∃ s', f_R_takeNumber F g (nI b) s = some (nI v, s') ∧ RX n T g r (lfN lf b v p) P s' ∧ frm (XE g) s s' ∧ v < 10 ^ 9 ∧ p ≤ 240 := by
  obtain ⟨s', e1, e2, e3, e4, e5, e6⟩ := rd_num_ok (g := g) hF hb2 h.1 h.2.1 h.2.2.1 hp
  exact ⟨s', e1, h.keepR e4 e2 e3 (lfN_le' h.2.2.1) (by have := pNum_len hp; omega), XE.ofR e4, e5, e6⟩
theorem rx_num_no0 {F b : Nat} (hF : 10 ≤ F) (hb : 0 < b) (hb2 : b < 2 ^ 31) (h : rdA n T ts s) (hp : pNum ts = none) : f_R_takeNumber F g (nI b) s = some (nM, s) := rd_num_no hF hb hb2 h hp
/-- with the bound 0 a fault is noted even where no number stands -/
theorem rx_num_no {F b : Nat} (hF : 10 ≤ F) (hb2 : b < 2 ^ 31) (h : RX n T g ts lf P s) (hp : pNum ts = none) : ∃ s', f_R_takeNumber F g (nI b) s = some (nM, s') ∧ rdA n T ts s' ∧ frm (XE g) s s' := by
  by_cases hb : 0 < b
  · exact ⟨s, rx_num_no0 hF hb hb2 h.1 hp, h.1, frm.refl⟩
  · have hb0 : b = 0 := by omega
    subst hb0
    have h1 := rx_num_no0 (g := g) (b := 1) hF (by omega) (by omega) h.1 hp
    have hat := h.1.at
    have hs : lp_R_takeNumber_10 F g (nI 0) (s.1 0 25 3) F (nI 0) (nI 0) s = some (nI 0, s) := by
      obtain ⟨F', rfl⟩ : ∃ F', F = F' + 1 := ⟨F - 1, by omega⟩
      have hd : ¬ isD (sg ts) = true := by
        match ts, hp with
        | [], _ => decide
        | (c, p) :: ts', hp =>
          simp only [pNum] at hp
          split at hp
          · cases hp
          · assumption
      have hd2 := rd_digit (c := sg ts) (by omega)
      rw [if_neg hd] at hd2
      rw [lp_R_takeNumber_10]
      simp (disch := omega) only [ax_let, Option.bind_some, cond_true, cond_false, if_pos, if_neg, if_true, if_false, eq_self, nI_add, nI_ltI, nI_leI, nI_eq, nI_clamp, pu_in, c_0, c_1, c_2, c_3, c_4, c_5, c_6, c_7, c_8, c_9, c_10, c_11, c_12, c_15, c_16, c_17, c_32, c_35, c_36, c_38, c_40, c_41, c_42, c_43, c_44, c_45, c_48, c_57, c_58, c_59, c_60, c_61, c_62, c_64, c_65, c_69, c_75, c_83, c_91, c_93, c_94, c_97, c_105, c_106, c_110, c_119, c_123, c_124, c_125, c_126, c_240, c_256, c_400, c_m, nI_m1, nM_i, h.1.inb, hat.1, hd2]
    have hn := rd_note (g := g) (s := s) (p := pl n ts) (c := 3) h.2.1 (by have := h.2.2.1; omega) (by have := hat.2.2.2.1; omega)
    refine ⟨_, ?_, h.1.keep (rdK_w (s := s) (g := 0) (r := 25) (k := 7) (v := nI (min lf (pl n ts * 8 + 3))) (by omega)), frm.refl.wI _ _ _ _ (Or.inl ⟨rfl, rfl, Or.inr rfl⟩)⟩
    unfold f_R_takeNumber
    simp (disch := omega) only [ax_let, Option.bind_some, cond_true, cond_false, if_pos, if_neg, if_true, if_false, eq_self, nI_add, nI_ltI, nI_leI, nI_eq, nI_clamp, pu_in, c_0, c_1, c_2, c_3, c_4, c_5, c_6, c_7, c_8, c_9, c_10, c_11, c_12, c_15, c_16, c_17, c_32, c_35, c_36, c_38, c_40, c_41, c_42, c_43, c_44, c_45, c_48, c_57, c_58, c_59, c_60, c_61, c_62, c_64, c_65, c_69, c_75, c_83, c_91, c_93, c_94, c_97, c_105, c_106, c_110, c_119, c_123, c_124, c_125, c_126, c_240, c_256, c_400, c_m, nI_m1, nM_i, wI_1, wI_2, wL_1, wL_2, true_and, and_true, and_self, false_and, and_false, if_true, if_false, hs, h.1.inb, hat.2.1, hn]
theorem rx_state_ok {v p : Nat} {r : List Tok} (hE : EC g sn w L s) (h : RX n T g ts lf P s) (hp : pState ts = .ok ((v, p), r)) : ∃ s', f_R_takeState g s = some (nI v, s') ∧ RX n T g r (if v < sn then lf else min lf (p * 8 + 4)) P s' ∧ frm (XE g) s s' ∧ v < 4 ∧ p ≤ 240 ∧ r.length < ts.length := by
  obtain ⟨s', e1, e2, e3, e4, e5, e6⟩ := rd_state_ok (g := g) h.1 h.2.1 h.2.2.1 hE.1 hE.2.1 hp
  have hl : r.length < ts.length := by
    match ts, hp with
    | (c, q) :: ts', hp =>
      simp only [pState] at hp
      split at hp
      · injection hp with hp; injection hp with _ hp; rw [← hp]; exact Nat.lt_succ_self _
      · cases hp
  exact ⟨s', e1, h.keepR e4 e2 e3 (by have := h.2.2.1; split <;> omega) (by omega), XE.ofR e4, e5, e6, hl⟩
theorem rx_state_no {r : List Tok} (h : rdA n T ts s) (hp : pState ts = .error r) : f_R_takeState g s = some (nM, s) ∧ r = ts := rd_state_no h hp
theorem rx_letter {c : Nat} (hc : c < 128) : f_R_isLetter (nI c) = some (if c = 105 ∨ c = 106 then nI 1 else nI 0) := rd_letter hc
theorem rx_digit {c : Nat} (hc : c < 128) : f_R_isDigit (nI c) = some (if isD c = true then nI 1 else nI 0) := rd_digit hc
end
def xTm (L : List Nat) (x : CP) (t : Tm) : CP := if t.2.1 = 0 then (x.1, x.2.1 + t.1, x.2.2) else xL L x (t.2.1 - 1) t.1
def lfTm (L : List Nat) (lf : Nat) (t : Tm) : Nat := if t.2.1 = 0 then lf else lfL L lf (t.2.1 - 1) t.2.2
def xT (L : List Nat) (x : CP) (l : List Tm) : CP := l.foldl (xTm L) x
def lfT (L : List Nat) (lf : Nat) (l : List Tm) : Nat := l.foldl (lfTm L) lf
def ixK (g : Nat) (a1 : Int32) (w : (Int32 × ax_σ) ⊕ ax_σ) : Option (Int32 × ax_σ) := match w with
  | .inl w => some w
  | .inr s28 => Option.bind (f_R_take g (41 : Int32) s28) (fun (r29, s30) => if r29 = (0 : Int32) then some ((-1 : Int32), s30) else some (a1, s30))
def ixT (F g m : Nat) (a1 i : Int32) (s1 : ax_σ) : Option ((Int32 × ax_σ) ⊕ ax_σ) := Option.bind (f_R_take g (43 : Int32) s1) (fun (r13, s14) => if r13 = (0 : Int32) then some (.inr s14) else lp_R_index_13 F g a1 m (i + (1 : Int32)) s14)
section
variable {n : Nat} {T : List Tok} {g sn w : Nat} {L : List Nat} {P : List CP}
def rdT (n : Nat) (T : List Tok) (F g sn w : Nat) (L : List Nat) (P : List CP) (f m i : Nat) : Prop := ∀ (ts : List Tok) (lf : Nat) (x : CP) (s : ax_σ), ts.length < f → ts.length < m → i + ts.length < 240 → EC g sn w L s → RX n T g ts lf (P ++ [x]) s → ro n T (pTerms f ts) (frm (XE g) s) (fun l r v s' => v = nI P.length ∧ RX n T g r (lfT L lf l) (P ++ [xT L x l]) s' ∧ l ≠ []) nM (Option.bind (lp_R_index_13 F g (nI P.length) m (nI i) s) (ixK g (nI P.length)))
theorem rd_tail {F f m i : Nat} (ih : rdT n T F g sn w L P f m (i + 1)) {ts : List Tok} {lf lf0 : Nat} {x x0 : CP} {s s0 : ax_σ} {t : Tm} (h1 : ts.length ≤ f) (h2 : ts.length ≤ m) (h3 : i + 1 + ts.length ≤ 240) (hE : EC g sn w L s) (h : RX n T g ts lf (P ++ [x]) s) (hf : frm (XE g) s0 s) (hx : x = xTm L x0 t) (hlf : lf = lfTm L lf0 t) : ro n T (match ts with
    | [] => .error []
    | (c, p) :: r' => if c = 43 then rbind (pTerms f r') (fun l r'' => .ok (t :: l, r'')) else if c = 41 then .ok ([t], r') else .error ((c, p) :: r')) (frm (XE g) s0) (fun l r v s' => v = nI P.length ∧ RX n T g r (lfT L lf0 l) (P ++ [xT L x0 l]) s' ∧ l ≠ []) nM (Option.bind (ixT F g m (nI P.length) (nI i) s) (ixK g (nI P.length))) := by
  have stop : ∀ r, pTake 43 ts = .error r → pTake 41 ts = .error r → ∃ s', Option.bind (ixT F g m (nI P.length) (nI i) s) (ixK g (nI P.length)) = some (nM, s') ∧ rdA n T ts s' ∧ frm (XE g) s0 s' := by
    intro r p1 p2
    have a1 := (rx_take_er (g := g) (by omega) (by omega) h.1 p1).1
    have a2 := (rx_take_er (g := g) (by omega) (by omega) h.1 p2).1
    refine ⟨s, ?_, h.1, hf⟩
    unfold ixT
    simp (disch := omega) only [ax_let, Option.bind_some, cond_true, cond_false, if_pos, if_neg, if_true, if_false, eq_self, nI_add, nI_ltI, nI_leI, nI_eq, nI_clamp, pu_in, c_0, c_1, c_2, c_3, c_4, c_5, c_6, c_7, c_8, c_9, c_10, c_11, c_12, c_15, c_16, c_17, c_32, c_35, c_36, c_38, c_40, c_41, c_42, c_43, c_44, c_45, c_48, c_57, c_58, c_59, c_60, c_61, c_62, c_64, c_65, c_69, c_75, c_83, c_91, c_93, c_94, c_97, c_105, c_106, c_110, c_119, c_123, c_124, c_125, c_126, c_240, c_256, c_400, c_m, nI_m1, nM_i, a1, ixK, a2]
  match ts, h, h1, h2, h3, stop with
  | [], h, h1, h2, h3, stop => exact stop [] rfl rfl
  | (c, p) :: r', h, h1, h2, h3, stop =>
    simp only [List.length_cons] at h1 h2 h3
    show ro n T (if c = 43 then _ else if c = 41 then _ else _) _ _ _ _
    by_cases c1 : c = 43
    · rw [if_pos c1]
      obtain ⟨s1, a1, a2, a3⟩ := rx_take_ok (c := 43) (r := r') (by omega) h (by simp only [pTake, c1, if_true])
      have hI := ih r' lf x s1 (by omega) (by omega) (by omega) (hE.keep a3) a2
      have e : Option.bind (ixT F g m (nI P.length) (nI i) s) (ixK g (nI P.length)) = Option.bind (lp_R_index_13 F g (nI P.length) m (nI (i + 1)) s1) (ixK g (nI P.length)) := by
        unfold ixT
        simp (disch := omega) only [ax_let, Option.bind_some, cond_true, cond_false, if_pos, if_neg, if_true, if_false, eq_self, nI_add, nI_ltI, nI_leI, nI_eq, nI_clamp, pu_in, c_0, c_1, c_2, c_3, c_4, c_5, c_6, c_7, c_8, c_9, c_10, c_11, c_12, c_15, c_16, c_17, c_32, c_35, c_36, c_38, c_40, c_41, c_42, c_43, c_44, c_45, c_48, c_57, c_58, c_59, c_60, c_61, c_62, c_64, c_65, c_69, c_75, c_83, c_91, c_93, c_94, c_97, c_105, c_106, c_110, c_119, c_123, c_124, c_125, c_126, c_240, c_256, c_400, c_m, nI_m1, nM_i, a1]
      rw [e]
      match hp : pTerms f r', hI with
      | .error r, hI =>
        obtain ⟨s', b1, b2, b3⟩ := hI
        exact ⟨s', b1, b2, (hf.trans a3).trans b3⟩
      | .ok (l, r), hI =>
        obtain ⟨v, s', b1, ⟨b2, b4, b5⟩, b3⟩ := hI
        refine ⟨v, s', b1, ⟨b2, ?_, by simp⟩, (hf.trans a3).trans b3⟩
        show RX n T g r (lfT L (lfTm L lf0 t) l) (P ++ [xT L (xTm L x0 t) l]) s'
        rw [← hx, ← hlf]; exact b4
    · rw [if_neg c1]
      by_cases c2 : c = 41
      · rw [if_pos c2]
        have a1 := (rx_take_er (g := g) (c := 43) (r := (c, p) :: r') (by omega) (by omega) h.1 (by simp only [pTake, c1, if_false])).1
        obtain ⟨s1, b1, b2, b3⟩ := rx_take_ok (c := 41) (r := r') (by omega) h (by simp only [pTake, c2, if_true])
        refine ⟨nI P.length, s1, ?_, ⟨rfl, ?_, by simp⟩, hf.trans b3⟩
        · unfold ixT
          simp (disch := omega) only [ax_let, Option.bind_some, cond_true, cond_false, if_pos, if_neg, if_true, if_false, eq_self, nI_add, nI_ltI, nI_leI, nI_eq, nI_clamp, pu_in, c_0, c_1, c_2, c_3, c_4, c_5, c_6, c_7, c_8, c_9, c_10, c_11, c_12, c_15, c_16, c_17, c_32, c_35, c_36, c_38, c_40, c_41, c_42, c_43, c_44, c_45, c_48, c_57, c_58, c_59, c_60, c_61, c_62, c_64, c_65, c_69, c_75, c_83, c_91, c_93, c_94, c_97, c_105, c_106, c_110, c_119, c_123, c_124, c_125, c_126, c_240, c_256, c_400, c_m, nI_m1, nM_i, a1, ixK, b1]
        · show RX n T g r' (lfTm L lf0 t) (P ++ [xTm L x0 t]) s1
          rw [← hx, ← hlf]; exact b2
      · rw [if_neg c2]
        exact stop ((c, p) :: r') (by simp only [pTake, c1, if_false]) (by simp only [pTake, c2, if_false])
theorem rd_terms {F : Nat} (hF : 10 ≤ F) : ∀ (f m i : Nat), rdT n T F g sn w L P f m i
  | 0, m, i => fun ts lf x s h1 => absurd h1 (Nat.not_lt_zero _)
  | f + 1, 0, i => fun ts lf x s _ h2 => absurd h2 (Nat.not_lt_zero _)
  | f + 1, m + 1, i => by
    intro ts lf x s h1 h2 h3 hE h
    have ih := rd_terms hF f m (i + 1)
    have hP := h.2.2.2.1.lastA.2
    unfold pTerms
    match hp : pNum ts with
    | some (v, p, r) =>
      obtain ⟨s1, a1, a2, a3, a4, a5⟩ := rx_num_ok (b := 1000000000) hF (by omega) h hp
      have hl := pNum_len hp
      have hlf : lfN lf 1000000000 v p = lf := if_pos (by omega)
      rw [hlf] at a2
      have hat := a2.1.at
      have hlt := rx_letter (c := sg r) (by omega)
      by_cases hc : sg r = 105 ∨ sg r = 106
      · match r, a2, hc, hlt, hl with
        | (c, q) :: r', a2, hc, hlt, hl =>
          rw [if_pos hc] at hlt
          have hc : c = 105 ∨ c = 106 := hc
          obtain ⟨s2, b1, b2, b3⟩ := rd_takeLetter (F := F) (t := v) (by omega) (by omega) (hE.keep a3) a2 hc
          have e : lp_R_index_13 F g (nI P.length) (m + 1) (nI i) s = ixT F g m (nI P.length) (nI i) s2 := by
            rw [lp_R_index_13]
            unfold ixT
            simp (disch := omega) only [ax_let, Option.bind_some, cond_true, cond_false, if_pos, if_neg, if_true, if_false, eq_self, nI_add, nI_ltI, nI_leI, nI_eq, nI_clamp, pu_in, c_0, c_1, c_2, c_3, c_4, c_5, c_6, c_7, c_8, c_9, c_10, c_11, c_12, c_15, c_16, c_17, c_32, c_35, c_36, c_38, c_40, c_41, c_42, c_43, c_44, c_45, c_48, c_57, c_58, c_59, c_60, c_61, c_62, c_64, c_65, c_69, c_75, c_83, c_91, c_93, c_94, c_97, c_105, c_106, c_110, c_119, c_123, c_124, c_125, c_126, c_240, c_256, c_400, c_m, nI_m1, nM_i, c_giga, a1, a2.1.inb, hat.1, hlt, b1]
          rw [e]
          simp only [pTerm, hc, if_true, rbind]
          refine rd_tail (t := (v, c - 104, q)) ih (by simp only [List.length_cons] at hl; omega) (by simp only [List.length_cons] at hl; omega) (by simp only [List.length_cons] at hl; omega) ((hE.keep a3).keep b3) b2 (a3.trans b3) ?_ ?_
          · unfold xTm
            rw [if_neg (show ¬ c - 104 = 0 by omega), show c - 104 - 1 = c - 105 by omega]
          · unfold lfTm
            rw [if_neg (show ¬ c - 104 = 0 by omega), show c - 104 - 1 = c - 105 by omega]
      · rw [if_neg hc] at hlt
        have hz := a2.2.2.2.1.lastA.1
        have e : lp_R_index_13 F g (nI P.length) (m + 1) (nI i) s = ixT F g m (nI P.length) (nI i) (ax_wL s1 g 6 P.length (lN (x.2.1 + v))) := by
          rw [lp_R_index_13]
          unfold ixT
          simp (disch := omega) only [ax_let, Option.bind_some, cond_true, cond_false, if_pos, if_neg, if_true, if_false, eq_self, nI_add, nI_ltI, nI_leI, nI_eq, nI_clamp, pu_in, c_0, c_1, c_2, c_3, c_4, c_5, c_6, c_7, c_8, c_9, c_10, c_11, c_12, c_15, c_16, c_17, c_32, c_35, c_36, c_38, c_40, c_41, c_42, c_43, c_44, c_45, c_48, c_57, c_58, c_59, c_60, c_61, c_62, c_64, c_65, c_69, c_75, c_83, c_91, c_93, c_94, c_97, c_105, c_106, c_110, c_119, c_123, c_124, c_125, c_126, c_240, c_256, c_400, c_m, nI_m1, nM_i, c_giga, a1, a2.1.inb, hat.1, hlt, hz.2.1, nI_l, lN_add]
        rw [e]
        have hf2 : frm (XL g P.length) s1 (ax_wL s1 g 6 P.length (lN (x.2.1 + v))) := frm.refl.wL _ _ _ _ (by unfold XL; omega)
        have b2 : RX n T g r lf (P ++ [xTm L x (v, 0, p)]) (ax_wL s1 g 6 P.length (lN (x.2.1 + v))) := by
          refine ⟨a2.1.keepf hf2 (fun r k => by unfold XL; omega), a2.2.1, a2.2.2.1, a2.2.2.2.1.last hf2 ?_, by have := a2.2.2.2.2; simp only [List.length_append, List.length_cons, List.length_nil] at this ⊢; exact this⟩
          obtain ⟨z1, z2, z3, z4, z5, z6, z7, z8⟩ := hz
          refine ⟨?_, ?_, ?_, ?_, ?_, ?_, ?_, ?_⟩ <;> simp (disch := omega) only [wI_1, wI_2, wL_1, wL_2, true_and, and_true, and_self, false_and, and_false, if_true, if_false, if_pos, if_neg, xTm, z1, z2, z3, z4, z5, z6, z7, z8]
        have et : pTerm (some (v, p)) r = .ok ((v, 0, p), r) := by
          match r, hc with
          | [], _ => rfl
          | (c, q) :: r', hc => simp only [pTerm]; exact if_neg hc
        simp only [et, rbind]
        exact rd_tail (t := (v, 0, p)) ih (by omega) (by omega) (by omega) ((hE.keep a3).keep (XE.ofL hf2)) b2 (a3.trans (XE.ofL hf2)) rfl rfl
    | none =>
      have a1 := rx_num_no0 (g := g) (b := 1000000000) hF (by omega) (by omega) h.1 hp
      have hat := h.1.at
      have hlt := rx_letter (c := sg ts) (by omega)
      by_cases hc : sg ts = 105 ∨ sg ts = 106
      · match ts, h, hc, hlt, h1, h2, h3, hat, a1 with
        | (c, q) :: r', h, hc, hlt, h1, h2, h3, hat, a1 =>
          rw [if_pos hc] at hlt
          have hc : c = 105 ∨ c = 106 := hc
          obtain ⟨s2, b1, b2, b3⟩ := rd_takeLetter (F := F) (t := 1) (by omega) (by omega) hE h hc
          have e : lp_R_index_13 F g (nI P.length) (m + 1) (nI i) s = ixT F g m (nI P.length) (nI i) s2 := by
            rw [lp_R_index_13]
            unfold ixT
            simp (disch := omega) only [ax_let, Option.bind_some, cond_true, cond_false, if_pos, if_neg, if_true, if_false, eq_self, nI_add, nI_ltI, nI_leI, nI_eq, nI_clamp, pu_in, c_0, c_1, c_2, c_3, c_4, c_5, c_6, c_7, c_8, c_9, c_10, c_11, c_12, c_15, c_16, c_17, c_32, c_35, c_36, c_38, c_40, c_41, c_42, c_43, c_44, c_45, c_48, c_57, c_58, c_59, c_60, c_61, c_62, c_64, c_65, c_69, c_75, c_83, c_91, c_93, c_94, c_97, c_105, c_106, c_110, c_119, c_123, c_124, c_125, c_126, c_240, c_256, c_400, c_m, nI_m1, nM_i, c_giga, a1, h.1.inb, hat.1, hlt, b1]
          rw [e]
          simp only [pTerm, hc, if_true, rbind, Option.map_none, Option.getD_none]
          simp only [List.length_cons] at h1 h2 h3
          refine rd_tail (t := (1, c - 104, q)) ih (by omega) (by omega) (by omega) (hE.keep b3) b2 b3 ?_ ?_
          · unfold xTm
            rw [if_neg (show ¬ c - 104 = 0 by omega), show c - 104 - 1 = c - 105 by omega]
          · unfold lfTm
            rw [if_neg (show ¬ c - 104 = 0 by omega), show c - 104 - 1 = c - 105 by omega]
      · rw [if_neg hc] at hlt
        have et : pTerm none ts = .error ts := by
          match ts, hc with
          | [], _ => rfl
          | (c, q) :: r', hc => simp only [pTerm]; exact if_neg hc
        simp only [et, rbind]
        refine ⟨s, ?_, h.1, frm.refl⟩
        rw [lp_R_index_13]
        simp (disch := omega) only [ax_let, Option.bind_some, cond_true, cond_false, if_pos, if_neg, if_true, if_false, eq_self, nI_add, nI_ltI, nI_leI, nI_eq, nI_clamp, pu_in, c_0, c_1, c_2, c_3, c_4, c_5, c_6, c_7, c_8, c_9, c_10, c_11, c_12, c_15, c_16, c_17, c_32, c_35, c_36, c_38, c_40, c_41, c_42, c_43, c_44, c_45, c_48, c_57, c_58, c_59, c_60, c_61, c_62, c_64, c_65, c_69, c_75, c_83, c_91, c_93, c_94, c_97, c_105, c_106, c_110, c_119, c_123, c_124, c_125, c_126, c_240, c_256, c_400, c_m, nI_m1, nM_i, c_giga, a1, h.1.inb, hat.1, hlt, ixK]
theorem rd_index {F lf : Nat} {ts : List Tok} {x : CP} {s : ax_σ} (hF : 241 ≤ F) (hE : EC g sn w L s) (h : RX n T g ts lf (P ++ [x]) s) : ro n T (rbind (pTake 40 ts) (fun _ r => pTerms (r.length + 1) r)) (frm (XE g) s) (fun l r v s' => v = nI P.length ∧ RX n T g r (lfT L lf l) (P ++ [xT L x l]) s' ∧ l ≠ []) nM (f_R_index F g (nI P.length) s) := by
  match hp : pTake 40 ts with
  | .error r =>
    have a1 := rx_take_er (g := g) (by omega) (by omega) h.1 hp
    refine ⟨s, ?_, by rw [a1.2]; exact h.1, frm.refl⟩
    unfold f_R_index
    simp (disch := omega) only [ax_let, Option.bind_some, cond_true, cond_false, if_pos, if_neg, if_true, if_false, eq_self, nI_add, nI_ltI, nI_leI, nI_eq, nI_clamp, pu_in, c_0, c_1, c_2, c_3, c_4, c_5, c_6, c_7, c_8, c_9, c_10, c_11, c_12, c_15, c_16, c_17, c_32, c_35, c_36, c_38, c_40, c_41, c_42, c_43, c_44, c_45, c_48, c_57, c_58, c_59, c_60, c_61, c_62, c_64, c_65, c_69, c_75, c_83, c_91, c_93, c_94, c_97, c_105, c_106, c_110, c_119, c_123, c_124, c_125, c_126, c_240, c_256, c_400, c_m, nI_m1, nM_i, a1.1]
  | .ok ((), r) =>
    obtain ⟨s1, b1, b2, b3⟩ := rx_take_ok (by omega) h hp
    have hl := pTake_len hp
    have hr := h.2.2.2.2
    simp only [List.length_append, List.length_cons, List.length_nil] at hr
    have hI := rd_terms (F := F) (by omega) (r.length + 1) F 0 r lf x s1 (by omega) (by omega) (by omega) (hE.keep b3) b2
    have e : f_R_index F g (nI P.length) s = Option.bind (lp_R_index_13 F g (nI P.length) F (nI 0) s1) (ixK g (nI P.length)) := by
      unfold f_R_index
      simp (disch := omega) only [ax_let, Option.bind_some, cond_true, cond_false, if_pos, if_neg, if_true, if_false, eq_self, nI_add, nI_ltI, nI_leI, nI_eq, nI_clamp, pu_in, c_0, c_1, c_2, c_3, c_4, c_5, c_6, c_7, c_8, c_9, c_10, c_11, c_12, c_15, c_16, c_17, c_32, c_35, c_36, c_38, c_40, c_41, c_42, c_43, c_44, c_45, c_48, c_57, c_58, c_59, c_60, c_61, c_62, c_64, c_65, c_69, c_75, c_83, c_91, c_93, c_94, c_97, c_105, c_106, c_110, c_119, c_123, c_124, c_125, c_126, c_240, c_256, c_400, c_m, nI_m1, nM_i, b1]
      rfl
    rw [e]
    show ro n T (pTerms (r.length + 1) r) _ _ _ _
    match pTerms (r.length + 1) r, hI with
    | .error r, hI =>
      obtain ⟨s', b1, b2, b4⟩ := hI
      exact ⟨s', b1, b2, b3.trans b4⟩
    | .ok (l, r), hI =>
      obtain ⟨v, s', b1, b2, b4⟩ := hI
      exact ⟨v, s', b1, b2, b3.trans b4⟩
end
