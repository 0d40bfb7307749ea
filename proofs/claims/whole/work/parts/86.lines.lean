/-! PURE: lines, numbers, open loops, as the reader holds them -/
/-- all that the reader may change -/
def XR (g g' r k : Nat) : Prop := (g' = 0 ∧ 25 ≤ r ∧ r ≤ 31) ∨ (g' = g ∧ (r = 1 ∨ (4 ≤ r ∧ r ≤ 19)))
/-- a line: its kind, subject, operand, first, end, writings -/
abbrev Ln : Type := Nat × Nat × Nat × Nat × Nat × Nat
def lnA (g i : Nat) (x : Ln) (s : ax_σ) : Prop := s.1 g 14 i = nI x.1 ∧ s.1 g 15 i = nI x.2.1 ∧ s.1 g 16 i = nI x.2.2.1 ∧ s.1 g 17 i = nI x.2.2.2.1 ∧ s.1 g 18 i = nI x.2.2.2.2.1 ∧ s.1 g 19 i = nI x.2.2.2.2.2
def RL (g : Nat) (Ls : List Ln) (s : ax_σ) : Prop := Ls.length ≤ 120 ∧ s.1 g 13 6 = nI Ls.length ∧ ∀ i x, Ls[i]? = some x → lnA g i x s
def XN (g g' r k : Nat) : Prop := g' = g ∧ ((r = 13 ∧ k = 6) ∨ (14 ≤ r ∧ r ≤ 19))
def XM (g m g' r k : Nat) : Prop := g' = g ∧ 14 ≤ r ∧ r ≤ 19 ∧ k = m
theorem lnA.keep {g i : Nat} {x : Ln} {s s' : ax_σ} {Q : Nat → Nat → Nat → Prop} (h : lnA g i x s) (hf : frm Q s s') (hq : ∀ r, 14 ≤ r → r ≤ 19 → ¬ Q g r i) : lnA g i x s' := by
  obtain ⟨h1, h2, h3, h4, h5, h6⟩ := h
  exact ⟨(hf.1 _ _ _ (hq 14 (by omega) (by omega))).trans h1, (hf.1 _ _ _ (hq 15 (by omega) (by omega))).trans h2, (hf.1 _ _ _ (hq 16 (by omega) (by omega))).trans h3, (hf.1 _ _ _ (hq 17 (by omega) (by omega))).trans h4, (hf.1 _ _ _ (hq 18 (by omega) (by omega))).trans h5, (hf.1 _ _ _ (hq 19 (by omega) (by omega))).trans h6⟩
theorem RL.keep {g : Nat} {Ls : List Ln} {s s' : ax_σ} {Q : Nat → Nat → Nat → Prop} (h : RL g Ls s) (hf : frm Q s s') (hq : ∀ g' r k, XN g g' r k → ¬ Q g' r k) : RL g Ls s' :=
  ⟨h.1, (hf.1 _ _ _ (hq _ _ _ ⟨rfl, Or.inl ⟨rfl, rfl⟩⟩)).trans h.2.1, fun i x hi => (h.2.2 i x hi).keep hf (fun r h1 h2 => hq g r i ⟨rfl, Or.inr ⟨h1, h2⟩⟩)⟩
theorem RL.set {g m : Nat} {Ls Ls' : List Ln} {y : Ln} {s s' : ax_σ} (h : RL g Ls s) (hl : Ls'.length = Ls.length) (hy : ∀ i x, Ls'[i]? = some x → (i = m ∧ x = y) ∨ (i ≠ m ∧ Ls[i]? = some x)) (hf : frm (XM g m) s s') (hm : lnA g m y s') : RL g Ls' s' := by
  refine ⟨by rw [hl]; exact h.1, by rw [hl]; exact (hf.1 _ _ _ (by unfold XM; omega)).trans h.2.1, fun i x hi => ?_⟩
  rcases hy i x hi with ⟨h1, h2⟩ | ⟨h1, h2⟩
  · rw [h1, h2]; exact hm
  · exact (h.2.2 i x h2).keep hf (fun r _ _ => by unfold XM; omega)
theorem RL.last {g : Nat} {Ls : List Ln} {x y : Ln} {s s' : ax_σ} (h : RL g (Ls ++ [x]) s) (hf : frm (XM g Ls.length) s s') (hy : lnA g Ls.length y s') : RL g (Ls ++ [y]) s' := by
  refine h.set (m := Ls.length) (y := y) (by simp only [List.length_append, List.length_cons, List.length_nil]) (fun i z hi => ?_) hf hy
  rcases getc hi with ⟨h1, h2⟩ | ⟨h1, h2⟩
  · right; exact ⟨by omega, by rw [List.getElem?_append, if_pos h1]; exact h2⟩
  · exact Or.inl ⟨h1, h2⟩
theorem RL.lastA {g : Nat} {Ls : List Ln} {x : Ln} {s : ax_σ} (h : RL g (Ls ++ [x]) s) : lnA g Ls.length x s ∧ Ls.length < 120 := by
  have := h.1
  simp only [List.length_append, List.length_cons, List.length_nil] at this
  exact ⟨h.2.2 Ls.length x (by rw [List.getElem?_append, if_neg (by omega), Nat.sub_self]; rfl), by omega⟩
def lAdd (g m : Nat) (a1 a2 a3 a4 : Int32) (s : ax_σ) : ax_σ := ax_wI (ax_wI (ax_wI (ax_wI (ax_wI (ax_wI (ax_wI s g 13 6 (nI (m + 1))) g 14 m a1) g 15 m a2) g 16 m a3) g 17 m a4) g 18 m a4) g 19 m (nI 0)
theorem rl_add {g a1 a2 a3 a4 : Nat} {Ls : List Ln} {s : ax_σ} (h : RL g Ls s) (hP : Ls.length < 120) : ∃ s', f_L_add g (nI a1) (nI a2) (nI a3) (nI a4) s = some (nI Ls.length, s') ∧ RL g (Ls ++ [(a1, a2, a3, a4, a4, 0)]) s' ∧ frm (XN g) s s' := by
  obtain ⟨h1, h2, h3⟩ := h
  have hf : frm (XN g) s (lAdd g Ls.length (nI a1) (nI a2) (nI a3) (nI a4) s) := by
    unfold lAdd
    refine ((((((frm.refl.wI _ _ _ _ ?_).wI _ _ _ _ ?_).wI _ _ _ _ ?_).wI _ _ _ _ ?_).wI _ _ _ _ ?_).wI _ _ _ _ ?_).wI _ _ _ _ ?_ <;> (unfold XN; omega)
  refine ⟨lAdd g Ls.length (nI a1) (nI a2) (nI a3) (nI a4) s, ?_, ⟨?_, ?_, fun i z hi => ?_⟩, hf⟩
  · unfold f_L_add lAdd
    simp (disch := omega) only [ax_let, Option.bind_some, cond_true, cond_false, if_pos, if_neg, if_true, if_false, eq_self, nI_add, nI_ltI, nI_leI, nI_eq, nI_clamp, pu_in, c_0, c_1, c_2, c_3, c_4, c_5, c_6, c_7, c_8, c_9, c_10, c_11, c_12, c_15, c_16, c_17, c_32, c_35, c_36, c_38, c_40, c_41, c_42, c_43, c_44, c_45, c_48, c_57, c_58, c_59, c_60, c_61, c_62, c_64, c_65, c_69, c_75, c_83, c_91, c_93, c_94, c_97, c_105, c_106, c_110, c_119, c_123, c_124, c_125, c_126, c_240, c_256, c_400, c_m, nI_m1, nM_i, h2]
  · simp only [List.length_append, List.length_cons, List.length_nil]; omega
  · unfold lAdd
    simp only [List.length_append, List.length_cons, List.length_nil]
    simp (disch := omega) only [wI_1, wI_2, wL_1, wL_2, true_and, and_true, and_self, false_and, and_false, if_true, if_false, if_pos, if_neg]
  · rcases getc hi with ⟨g1, g2⟩ | ⟨g1, g2⟩
    · obtain ⟨z1, z2, z3, z4, z5, z6⟩ := h3 i z g2
      unfold lAdd
      refine ⟨?_, ?_, ?_, ?_, ?_, ?_⟩ <;> simp (disch := omega) only [wI_1, wI_2, wL_1, wL_2, true_and, and_true, and_self, false_and, and_false, if_true, if_false, if_pos, if_neg, z1, z2, z3, z4, z5, z6]
    · subst g1 g2
      unfold lAdd
      refine ⟨?_, ?_, ?_, ?_, ?_, ?_⟩ <;> simp (disch := omega) only [wI_1, wI_2, wL_1, wL_2, true_and, and_true, and_self, false_and, and_false, if_true, if_false, if_pos, if_neg]
/-- the numbers of a program -/
def NM (g : Nat) (N : List Nat) (s : ax_σ) : Prop := N.length = 8 ∧ ∀ k v, N[k]? = some v → s.1 g 1 k = nI v
theorem NM.keep {g : Nat} {N : List Nat} {s s' : ax_σ} {Q : Nat → Nat → Nat → Prop} (h : NM g N s) (hf : frm Q s s') (hq : ∀ k, k < 8 → ¬ Q g 1 k) : NM g N s' :=
  ⟨h.1, fun k v hk => (hf.1 _ _ _ (hq k (by have := (List.getElem?_eq_some_iff.mp hk).1; have := h.1; omega))).trans (h.2 k v hk)⟩
theorem NM.set {g k v : Nat} {N : List Nat} {s : ax_σ} (h : NM g N s) : NM g (N.set k v) (ax_wI s g 1 k (nI v)) := by
  refine ⟨by rw [List.length_set]; exact h.1, fun j u hj => ?_⟩
  rw [List.getElem?_set] at hj
  split at hj
  · rename_i e
    split at hj
    · injection hj with hj
      rw [wI_1, if_pos ⟨rfl, rfl, e.symm⟩, hj]
    · cases hj
  · rename_i e
    rw [wI_1, if_neg (fun z => e z.2.2.symm)]
    exact h.2 j u hj
/-- an open loop: its line, and the counts at its opening -/
abbrev Oq : Type := Nat × Nat × Nat × Nat
def oqA (k : Nat) (o : Oq) (s : ax_σ) : Prop := s.1 0 28 k = nI o.1 ∧ s.1 0 29 (k * 8 + 4) = nI o.2.1 ∧ s.1 0 29 (k * 8 + 5) = nI o.2.2.1 ∧ s.1 0 29 (k * 8 + 6) = nI o.2.2.2
def OP (O : List Oq) (s : ax_σ) : Prop := O.length ≤ 2 ∧ s.1 0 25 9 = nI O.length ∧ ∀ k o, O[k]? = some o → oqA k o s
theorem OP.keep {O : List Oq} {s s' : ax_σ} {Q : Nat → Nat → Nat → Prop} (h : OP O s) (hf : frm Q s s') (hq : ∀ r k, r = 28 ∨ r = 29 ∨ (r = 25 ∧ k = 9) → ¬ Q 0 r k) : OP O s' := by
  refine ⟨h.1, (hf.1 _ _ _ (hq _ _ (by omega))).trans h.2.1, fun k o hk => ?_⟩
  obtain ⟨h1, h2, h3, h4⟩ := h.2.2 k o hk
  exact ⟨(hf.1 _ _ _ (hq _ _ (by omega))).trans h1, (hf.1 _ _ _ (hq _ _ (by omega))).trans h2, (hf.1 _ _ _ (hq _ _ (by omega))).trans h3, (hf.1 _ _ _ (hq _ _ (by omega))).trans h4⟩
abbrev C5 : Type := Nat × Nat × Nat × Nat × Int32
def cp5 (x : CP) : C5 := (x.1, x.2.1, x.2.2.1, x.2.2.2.1, x.2.2.2.2.1)
/-- what stays: the reader's text, where the program is, width, states, keys, tables, what may be named, the tables back -/
abbrev KS : Type := Nat × List Tok × Nat × Nat × Nat × Nat × Nat × Nat × (Nat → Int32)
def kn (K : KS) : Nat := K.1
def kT (K : KS) : List Tok := K.2.1
def kg (K : KS) : Nat := K.2.2.1
def kw (K : KS) : Nat := K.2.2.2.1
def kst (K : KS) : Nat := K.2.2.2.2.1
def kky (K : KS) : Nat := K.2.2.2.2.2.1
def ktb (K : KS) : Nat := K.2.2.2.2.2.2.1
def ksn (K : KS) : Nat := K.2.2.2.2.2.2.2.1
def kB (K : KS) : Nat → Int32 := K.2.2.2.2.2.2.2.2
def ksm (K : KS) : Prop := kw K < 10 ^ 9 ∧ kst K < 10 ^ 9 ∧ kky K < 10 ^ 9 ∧ ktb K ≤ 2 ∧ ksn K < 10 ^ 9
/-- the LETTERS that are open -/
def oL (Ls : List Ln) (O : List Oq) : List Nat := O.map (fun o => (Ls.getD o.1 (0, 0, 0, 0, 0, 0)).2.1)
/-- open loops stand among the lines -/
def oW (Ls : List Ln) (O : List Oq) : Prop := ∀ (k : Nat) (o : Oq), O[k]? = some o → ∃ x : Ln, Ls[o.1]? = some x ∧ x.1 = 91 ∧ x.2.1 < 2 ∧ x.2.2.1 ≤ 16
/-- what the reader has read: lines, parts, least fault, subkeys, steps, instructions, registers, open loops -/
def RB (K : KS) (ts : List Tok) (Ls : List Ln) (P5 : List C5) (lf sk sp ins rg : Nat) (O : List Oq) (s : ax_σ) : Prop := (∃ P, RX (kn K) (kT K) (kg K) ts lf P s ∧ P.map cp5 = P5) ∧ RL (kg K) Ls s ∧ NM (kg K) [kw K, kst K, kky K, ktb K, sk, sp, ins, rg] s ∧ OP O s ∧ s.1 0 25 8 = nI (ksn K) ∧ (∀ i, i < 32 → s.1 (kg K) 3 i = kB K i) ∧ ksm K ∧ rg < 2 ^ 30 ∧ True ∧ oW Ls O
section
variable {K : KS} {ts ts' : List Tok} {Ls Ls' : List Ln} {P5 P5' : List C5} {lf lf' sk sp ins rg : Nat} {O O' : List Oq} {s s' : ax_σ}
theorem RB.ec (h : RB K ts Ls P5 lf sk sp ins rg O s) : EC (kg K) (ksn K) (kw K) (oL Ls O) s := by
  obtain ⟨-, h2, h3, h4, h5, -, h7, -, -, h10⟩ := h
  obtain ⟨s1, s2, s3, s4, s5⟩ := h7
  refine ⟨h5, by omega, h3.2 0 _ rfl, by omega, by unfold oL; rw [List.length_map]; exact h4.2.1, by unfold oL; rw [List.length_map]; exact h4.1, fun k l hk => ?_⟩
  unfold oL at hk
  rw [List.getElem?_map] at hk
  match ho : O[k]?, hk with
  | some o, hk =>
    injection hk with hk
    obtain ⟨x, x1, x2, x3⟩ := h10 k o ho
    simp only [List.getD_eq_getElem?_getD, x1, Option.getD_some] at hk
    have hx := h2.2.2 _ _ x1
    have hl := (List.getElem?_eq_some_iff.mp x1).1
    refine ⟨by rw [← hk]; exact x3.1, o.1, by have := h2.1; omega, (h4.2.2 k o ho).1, ?_⟩
    rw [← hk]; exact hx.2.1
/-- over what reads an expression -/
theorem RB.ofX {P : List CP} (h : RB K ts Ls P5 lf sk sp ins rg O s) (hf : frm (XE (kg K)) s s') (hx : RX (kn K) (kT K) (kg K) ts' lf' P s') (hp : P.map cp5 = P5') : RB K ts' Ls P5' lf' sk sp ins rg O s' := by
  obtain ⟨-, h2, h3, h4, h5, h6, h7, h8, h9, h10⟩ := h
  refine ⟨⟨P, hx, hp⟩, h2.keep hf (fun g' r k hx => by unfold XN at hx; unfold XE XC; omega), h3.keep hf (fun k _ => by unfold XE XC; omega), h4.keep hf (fun r k hx => by unfold XE XC; omega), (hf.1 _ _ _ (by unfold XE XC; omega)).trans h5, fun i hi => (hf.1 _ _ _ (by unfold XE XC; omega)).trans (h6 i hi), h7, h8, h9, h10⟩
theorem RX.keepN {n : Nat} {T : List Tok} {g : Nat} {ts : List Tok} {lf : Nat} {P : List CP} {Q : Nat → Nat → Nat → Prop} (h : RX n T g ts lf P s) (hf : frm Q s s') (hq : ∀ g' r k, (g' = 0 ∧ (r = 26 ∨ r = 27 ∨ (r = 25 ∧ (k = 2 ∨ k = 3 ∨ k = 7)))) ∨ XC g g' r k → ¬ Q g' r k) : RX n T g ts lf P s' :=
  ⟨h.1.keepf hf (fun r k hr => hq 0 r k (Or.inl ⟨rfl, by omega⟩)), (hf.1 _ _ _ (hq 0 25 7 (Or.inl ⟨rfl, by omega⟩))).trans h.2.1, h.2.2.1, h.2.2.2.1.keep hf (fun g' r k hx => hq g' r k (Or.inr hx)), h.2.2.2.2⟩
/-- over what changes the lines alone -/
theorem RB.ofN (h : RB K ts Ls P5 lf sk sp ins rg O s) (hf : frm (XN (kg K)) s s') (hL : RL (kg K) Ls' s') (hw : oW Ls' O) : RB K ts Ls' P5 lf sk sp ins rg O s' := by
  obtain ⟨⟨P, h1, h1'⟩, h2, h3, h4, h5, h6, h7, h8, h9, h10⟩ := h
  exact ⟨⟨P, h1.keepN hf (fun g' r k hx => by unfold XC at hx; unfold XN; omega), h1'⟩, hL, h3.keep hf (fun k _ => by unfold XN; omega), h4.keep hf (fun r k hx => by unfold XN; omega), (hf.1 _ _ _ (by unfold XN; omega)).trans h5, fun i hi => (hf.1 _ _ _ (by unfold XN; omega)).trans (h6 i hi), h7, h8, h9, hw⟩
def X1 (g g' r k : Nat) : Prop := g' = g ∧ r = 1
/-- over what changes the counts alone -/
theorem RB.of1 {sk' sp' ins' rg' : Nat} (h : RB K ts Ls P5 lf sk sp ins rg O s) (hf : frm (X1 (kg K)) s s') (h1 : NM (kg K) [kw K, kst K, kky K, ktb K, sk', sp', ins', rg'] s') (hr : rg' < 2 ^ 30) : RB K ts Ls P5 lf sk' sp' ins' rg' O s' := by
  obtain ⟨⟨P, h1', h1''⟩, h2, h3, h4, h5, h6, h7, h8, h9, h10⟩ := h
  exact ⟨⟨P, h1'.keepN hf (fun g' r k hx => by unfold XC at hx; unfold X1; omega), h1''⟩, h2.keep hf (fun g' r k hx => by unfold XN at hx; unfold X1; omega), h1, h4.keep hf (fun r k hx => by unfold X1; omega), (hf.1 _ _ _ (by unfold X1; omega)).trans h5, fun i hi => (hf.1 _ _ _ (by unfold X1; omega)).trans (h6 i hi), h7, hr, h9, h10⟩
def XO (g' r k : Nat) : Prop := g' = 0 ∧ (r = 28 ∨ r = 29 ∨ (r = 25 ∧ k = 9))
/-- over what changes the open loops alone -/
theorem RB.ofO (h : RB K ts Ls P5 lf sk sp ins rg O s) (hf : frm XO s s') (h1 : OP O' s') (hw : oW Ls O') : RB K ts Ls P5 lf sk sp ins rg O' s' := by
  obtain ⟨⟨P, h1', h1''⟩, h2, h3, h4, h5, h6, h7, h8, h9, h10⟩ := h
  exact ⟨⟨P, h1'.keepN hf (fun g' r k hx => by unfold XC at hx; unfold XO; omega), h1''⟩, h2.keep hf (fun g' r k hx => by unfold XN at hx; unfold XO; omega), h3.keep hf (fun k _ => by unfold XO; omega), h1, (hf.1 _ _ _ (by unfold XO; omega)).trans h5, fun i hi => (hf.1 _ _ _ (by unfold XO; omega)).trans (h6 i hi), h7, h8, h9, hw⟩
theorem XR.ofE (h : frm (XE (kg K)) s s') : frm (XR (kg K)) s s' := h.imp (fun g r k h => by unfold XE XC at h; unfold XR; omega)
theorem XR.ofN (h : frm (XN (kg K)) s s') : frm (XR (kg K)) s s' := h.imp (fun g r k h => by unfold XN at h; unfold XR; omega)
theorem XR.of1 (h : frm (X1 (kg K)) s s') : frm (XR (kg K)) s s' := h.imp (fun g r k h => by unfold X1 at h; unfold XR; omega)
theorem XR.ofO (h : frm XO s s') : frm (XR (kg K)) s s' := h.imp (fun g r k h => by unfold XO at h; unfold XR; omega)
end
