/-! PURE: a block is read, whole -/
def blK (g : Nat) (w : (Int32 × ax_σ) ⊕ ax_σ) : Option (Int32 × ax_σ) := match w with
  | .inl w => some w
  | .inr s35 =>
    if (s35.1 0 25 9) = (0 : Int32) then
      Option.bind (f_R_take g (125 : Int32) s35) (fun (r36, s37) =>
        if r36 = (0 : Int32) then
          some (((0 : Int32), s37))
        else
          some (((1 : Int32), s37)))
    else
      some (((0 : Int32), s35))
/-- the things of a block -/
def cThs (K : KS) (c : CS) (l : List Th) : CS := l.foldl (cTh K) c
section
variable {K : KS}
theorem RBc.op {ts : List Tok} {c : CS} {s : ax_σ} (h : RBc K ts c s) : s.1 0 25 9 = nI (cOq c).length ∧ (cOq c).length ≤ 2 := by
  obtain ⟨-, -, -, k4, -⟩ := id h
  exact ⟨k4.2.1, k4.1⟩
theorem rd_things {F : Nat} {wr : Bool} (hF : 241 ≤ F) : ∀ (f m i : Nat) (ts : List Tok) (c : CS) (s : ax_σ), ts.length < f → ts.length < m → i + ts.length ≤ 240 → RBc K ts c s → cI c → cN2 c ts → ro (kn K) (kT K) (pThs wr f (cOq c).length ts) (frm (XR (kg K)) s) (fun l r v s' => v = nI 1 ∧ RBc K r (cThs K c l) s' ∧ cOq (cThs K c l) = [] ∧ cN2 (cThs K c l) r ∧ cI (cThs K c l)) (nI 0) (Option.bind (lp_R_block_39 F (kg K) (if wr = true then nI 1 else nI 0) m (nI i) s) (blK (kg K)))
  | 0, m, i, ts, c, s, h, _, _, _, _, _ => absurd h (Nat.not_lt_zero _)
  | f + 1, 0, i, ts, c, s, _, h, _, _, _, _ => absurd h (Nat.not_lt_zero _)
  | f + 1, m + 1, i, [], c, s, h1, h2, h3, h, hI, hl => by
    have hat := h.rd.at
    have o1 : s.1 0 26 (s.1 0 25 3).toNatClampNeg = nI 0 := hat.1
    refine ⟨s, ?_, h.rd, frm.refl⟩
    have l1 := rx_letter (c := 0) (by omega)
    rw [if_neg (by omega)] at l1
    rw [lp_R_block_39]
    have t1 := (rx_take_er (g := kg K) (c := 125) (r := []) (by omega) (by omega) h.rd rfl).1
    simp only [List.length_nil, Nat.add_zero] at h3
    by_cases hi : i = 240
    · by_cases hO : (cOq c).length = 0
      · have h9 := h.op.1
        rw [hO] at h9
        simp (disch := omega) only [ax_let, Option.bind_some, cond_true, cond_false, if_pos, if_neg, if_true, if_false, eq_self, nI_add, nI_ltI, nI_leI, nI_eq, nI_clamp, pu_in, c_0, c_1, c_2, c_3, c_4, c_5, c_6, c_7, c_8, c_9, c_10, c_11, c_12, c_15, c_16, c_17, c_32, c_35, c_36, c_38, c_40, c_41, c_42, c_43, c_44, c_45, c_48, c_57, c_58, c_59, c_60, c_61, c_62, c_64, c_65, c_69, c_75, c_83, c_91, c_93, c_94, c_97, c_105, c_106, c_110, c_119, c_123, c_124, c_125, c_126, c_240, c_256, c_400, c_m, nI_m1, nM_i, hi, blK, h9, t1]
      · have h9 := h.op.1
        have := h.op.2
        simp (disch := omega) only [ax_let, Option.bind_some, cond_true, cond_false, if_pos, if_neg, if_true, if_false, eq_self, nI_add, nI_ltI, nI_leI, nI_eq, nI_clamp, pu_in, c_0, c_1, c_2, c_3, c_4, c_5, c_6, c_7, c_8, c_9, c_10, c_11, c_12, c_15, c_16, c_17, c_32, c_35, c_36, c_38, c_40, c_41, c_42, c_43, c_44, c_45, c_48, c_57, c_58, c_59, c_60, c_61, c_62, c_64, c_65, c_69, c_75, c_83, c_91, c_93, c_94, c_97, c_105, c_106, c_110, c_119, c_123, c_124, c_125, c_126, c_240, c_256, c_400, c_m, nI_m1, nM_i, hi, blK, h9]
    · have w1 := (rx_take_er (g := kg K) (c := 62) (r := []) (by omega) (by omega) h.rd rfl).1
      have w2 := (rx_state_no (g := kg K) (r := []) h.rd rfl).1
      have e1 : f_R_writing F (kg K) s = some (nI 0, s) := by
        unfold f_R_writing
        simp (disch := omega) only [ax_let, Option.bind_some, cond_true, cond_false, if_pos, if_neg, if_true, if_false, eq_self, nI_add, nI_ltI, nI_leI, nI_eq, nI_clamp, pu_in, c_0, c_1, c_2, c_3, c_4, c_5, c_6, c_7, c_8, c_9, c_10, c_11, c_12, c_15, c_16, c_17, c_32, c_35, c_36, c_38, c_40, c_41, c_42, c_43, c_44, c_45, c_48, c_57, c_58, c_59, c_60, c_61, c_62, c_64, c_65, c_69, c_75, c_83, c_91, c_93, c_94, c_97, c_105, c_106, c_110, c_119, c_123, c_124, c_125, c_126, c_240, c_256, c_400, c_m, nI_m1, nM_i, w1]
      have e2 : f_R_step F (kg K) s = some (nI 0, s) := by
        unfold f_R_step
        simp (disch := omega) only [ax_let, Option.bind_some, cond_true, cond_false, if_pos, if_neg, if_true, if_false, eq_self, nI_add, nI_ltI, nI_leI, nI_eq, nI_clamp, pu_in, c_0, c_1, c_2, c_3, c_4, c_5, c_6, c_7, c_8, c_9, c_10, c_11, c_12, c_15, c_16, c_17, c_32, c_35, c_36, c_38, c_40, c_41, c_42, c_43, c_44, c_45, c_48, c_57, c_58, c_59, c_60, c_61, c_62, c_64, c_65, c_69, c_75, c_83, c_91, c_93, c_94, c_97, c_105, c_106, c_110, c_119, c_123, c_124, c_125, c_126, c_240, c_256, c_400, c_m, nI_m1, nM_i, h.rd.inb, w2]
      cases wr with
      | true => simp (disch := omega) only [ax_let, Option.bind_some, cond_true, cond_false, if_pos, if_neg, if_true, if_false, eq_self, nI_add, nI_ltI, nI_leI, nI_eq, nI_clamp, pu_in, c_0, c_1, c_2, c_3, c_4, c_5, c_6, c_7, c_8, c_9, c_10, c_11, c_12, c_15, c_16, c_17, c_32, c_35, c_36, c_38, c_40, c_41, c_42, c_43, c_44, c_45, c_48, c_57, c_58, c_59, c_60, c_61, c_62, c_64, c_65, c_69, c_75, c_83, c_91, c_93, c_94, c_97, c_105, c_106, c_110, c_119, c_123, c_124, c_125, c_126, c_240, c_256, c_400, c_m, nI_m1, nM_i, h.rd.inb, o1, l1, e1, blK]
      | false => simp (disch := omega) only [ax_let, Option.bind_some, cond_true, cond_false, if_pos, if_neg, if_true, if_false, eq_self, nI_add, nI_ltI, nI_leI, nI_eq, nI_clamp, pu_in, c_0, c_1, c_2, c_3, c_4, c_5, c_6, c_7, c_8, c_9, c_10, c_11, c_12, c_15, c_16, c_17, c_32, c_35, c_36, c_38, c_40, c_41, c_42, c_43, c_44, c_45, c_48, c_57, c_58, c_59, c_60, c_61, c_62, c_64, c_65, c_69, c_75, c_83, c_91, c_93, c_94, c_97, c_105, c_106, c_110, c_119, c_123, c_124, c_125, c_126, c_240, c_256, c_400, c_m, nI_m1, nM_i, h.rd.inb, o1, l1, e2, blK, Bool.false_eq_true]
  | f + 1, m + 1, i, (q, p) :: ts, c, s, h1, h2, h3, h, hI, hl => by
    have hat := h.rd.at
    have o1 : s.1 0 26 (s.1 0 25 3).toNatClampNeg = nI q := hat.1
    have o3 : q < 127 := hat.2.2.1
    simp only [List.length_cons] at h1 h2 h3
    simp only [pThs]
    by_cases c1 : q = 125
    · rw [if_pos c1]
      subst c1
      by_cases hO : (cOq c).length = 0
      · rw [if_pos hO]
        have h9 := h.op.1
        rw [hO] at h9
        obtain ⟨s1, a1, a2, a3⟩ := rd_takeB_ok (c := 125) (r := ts) (by omega) h (by simp only [pTake, if_true])
        refine ⟨nI 1, s1, ?_, ⟨rfl, a2, List.eq_nil_of_length_eq_zero hO, ?_, hI⟩, XR.ofR a3⟩
        · rw [lp_R_block_39]
          simp (disch := omega) only [ax_let, Option.bind_some, cond_true, cond_false, if_pos, if_neg, if_true, if_false, eq_self, nI_add, nI_ltI, nI_leI, nI_eq, nI_clamp, pu_in, c_0, c_1, c_2, c_3, c_4, c_5, c_6, c_7, c_8, c_9, c_10, c_11, c_12, c_15, c_16, c_17, c_32, c_35, c_36, c_38, c_40, c_41, c_42, c_43, c_44, c_45, c_48, c_57, c_58, c_59, c_60, c_61, c_62, c_64, c_65, c_69, c_75, c_83, c_91, c_93, c_94, c_97, c_105, c_106, c_110, c_119, c_123, c_124, c_125, c_126, c_240, c_256, c_400, c_m, nI_m1, nM_i, h.rd.inb, o1, blK, h9, a1]
        · unfold cN2 at hl ⊢
          simp only [List.length_cons, cThs, List.foldl_nil] at hl ⊢; omega
      · rw [if_neg hO]
        have h9 := h.op.1
        have := h.op.2
        refine ⟨s, ?_, h.rd, frm.refl⟩
        rw [lp_R_block_39]
        simp (disch := omega) only [ax_let, Option.bind_some, cond_true, cond_false, if_pos, if_neg, if_true, if_false, eq_self, nI_add, nI_ltI, nI_leI, nI_eq, nI_clamp, pu_in, c_0, c_1, c_2, c_3, c_4, c_5, c_6, c_7, c_8, c_9, c_10, c_11, c_12, c_15, c_16, c_17, c_32, c_35, c_36, c_38, c_40, c_41, c_42, c_43, c_44, c_45, c_48, c_57, c_58, c_59, c_60, c_61, c_62, c_64, c_65, c_69, c_75, c_83, c_91, c_93, c_94, c_97, c_105, c_106, c_110, c_119, c_123, c_124, c_125, c_126, c_240, c_256, c_400, c_m, nI_m1, nM_i, h.rd.inb, o1, blK, h9]
    · rw [if_neg c1]
      have hT := rd_thing (wr := wr) hF h hI hl
      have e0 : lp_R_block_39 F (kg K) (if wr = true then nI 1 else nI 0) (m + 1) (nI i) s = Option.bind (blT F (kg K) (if wr = true then nI 1 else nI 0) s) (fun v => if v.1 = (0 : Int32) then some (.inl ((0 : Int32), v.2)) else lp_R_block_39 F (kg K) (if wr = true then nI 1 else nI 0) m (nI i + (1 : Int32)) v.2) := by
        rw [lp_R_block_39]
        unfold blT
        have l1 := rx_letter (c := q) (by omega)
        by_cases c2 : q = 105 ∨ q = 106
        · rw [if_pos c2] at l1
          simp (disch := omega) only [ax_let, Option.bind_some, cond_true, cond_false, if_pos, if_neg, if_true, if_false, eq_self, nI_add, nI_ltI, nI_leI, nI_eq, nI_clamp, pu_in, c_0, c_1, c_2, c_3, c_4, c_5, c_6, c_7, c_8, c_9, c_10, c_11, c_12, c_15, c_16, c_17, c_32, c_35, c_36, c_38, c_40, c_41, c_42, c_43, c_44, c_45, c_48, c_57, c_58, c_59, c_60, c_61, c_62, c_64, c_65, c_69, c_75, c_83, c_91, c_93, c_94, c_97, c_105, c_106, c_110, c_119, c_123, c_124, c_125, c_126, c_240, c_256, c_400, c_m, nI_m1, nM_i, h.rd.inb, o1, l1]
          cases f_R_openLoop F (kg K) s <;> rfl
        · rw [if_neg c2] at l1
          by_cases c3 : q = 93
          · rw [c3] at o1 l1
            simp (disch := omega) only [ax_let, Option.bind_some, cond_true, cond_false, if_pos, if_neg, if_true, if_false, eq_self, nI_add, nI_ltI, nI_leI, nI_eq, nI_clamp, pu_in, c_0, c_1, c_2, c_3, c_4, c_5, c_6, c_7, c_8, c_9, c_10, c_11, c_12, c_15, c_16, c_17, c_32, c_35, c_36, c_38, c_40, c_41, c_42, c_43, c_44, c_45, c_48, c_57, c_58, c_59, c_60, c_61, c_62, c_64, c_65, c_69, c_75, c_83, c_91, c_93, c_94, c_97, c_105, c_106, c_110, c_119, c_123, c_124, c_125, c_126, c_240, c_256, c_400, c_m, nI_m1, nM_i, h.rd.inb, o1, l1]
            cases f_R_closeLoop F (kg K) s <;> rfl
          · cases wr with
            | true =>
              simp (disch := omega) only [ax_let, Option.bind_some, cond_true, cond_false, if_pos, if_neg, if_true, if_false, eq_self, nI_add, nI_ltI, nI_leI, nI_eq, nI_clamp, pu_in, c_0, c_1, c_2, c_3, c_4, c_5, c_6, c_7, c_8, c_9, c_10, c_11, c_12, c_15, c_16, c_17, c_32, c_35, c_36, c_38, c_40, c_41, c_42, c_43, c_44, c_45, c_48, c_57, c_58, c_59, c_60, c_61, c_62, c_64, c_65, c_69, c_75, c_83, c_91, c_93, c_94, c_97, c_105, c_106, c_110, c_119, c_123, c_124, c_125, c_126, c_240, c_256, c_400, c_m, nI_m1, nM_i, h.rd.inb, o1, l1]
              cases f_R_writing F (kg K) s <;> rfl
            | false =>
              simp (disch := omega) only [ax_let, Option.bind_some, cond_true, cond_false, if_pos, if_neg, if_true, if_false, eq_self, nI_add, nI_ltI, nI_leI, nI_eq, nI_clamp, pu_in, c_0, c_1, c_2, c_3, c_4, c_5, c_6, c_7, c_8, c_9, c_10, c_11, c_12, c_15, c_16, c_17, c_32, c_35, c_36, c_38, c_40, c_41, c_42, c_43, c_44, c_45, c_48, c_57, c_58, c_59, c_60, c_61, c_62, c_64, c_65, c_69, c_75, c_83, c_91, c_93, c_94, c_97, c_105, c_106, c_110, c_119, c_123, c_124, c_125, c_126, c_240, c_256, c_400, c_m, nI_m1, nM_i, h.rd.inb, o1, l1, Bool.false_eq_true]
              cases f_R_step F (kg K) s <;> rfl
      rw [e0]
      match hp : pTh wr (cOq c).length ((q, p) :: ts), hT with
      | .error r, hT =>
        obtain ⟨s', e1, e2, e3⟩ := hT
        refine ⟨s', ?_, e2, e3⟩
        simp (disch := omega) only [ax_let, Option.bind_some, cond_true, cond_false, if_pos, if_neg, if_true, if_false, eq_self, nI_add, nI_ltI, nI_leI, nI_eq, nI_clamp, pu_in, c_0, c_1, c_2, c_3, c_4, c_5, c_6, c_7, c_8, c_9, c_10, c_11, c_12, c_15, c_16, c_17, c_32, c_35, c_36, c_38, c_40, c_41, c_42, c_43, c_44, c_45, c_48, c_57, c_58, c_59, c_60, c_61, c_62, c_64, c_65, c_69, c_75, c_83, c_91, c_93, c_94, c_97, c_105, c_106, c_110, c_119, c_123, c_124, c_125, c_126, c_240, c_256, c_400, c_m, nI_m1, nM_i, e1, blK]
      | .ok (t, r), hT =>
        obtain ⟨v, s', e1, ⟨rfl, e2, e3, e4, e5, e6⟩, e7⟩ := hT
        have hR := rd_things (wr := wr) hF f m (i + 1) r (cTh K c t) s' (by omega) (by omega) (by omega) e2 e3 e4
        rw [e6] at hR
        have e8 : Option.bind (Option.bind (blT F (kg K) (if wr = true then nI 1 else nI 0) s) (fun v => if v.1 = (0 : Int32) then some (.inl ((0 : Int32), v.2)) else lp_R_block_39 F (kg K) (if wr = true then nI 1 else nI 0) m (nI i + (1 : Int32)) v.2)) (blK (kg K)) = Option.bind (lp_R_block_39 F (kg K) (if wr = true then nI 1 else nI 0) m (nI (i + 1)) s') (blK (kg K)) := by
          simp (disch := omega) only [ax_let, Option.bind_some, cond_true, cond_false, if_pos, if_neg, if_true, if_false, eq_self, nI_add, nI_ltI, nI_leI, nI_eq, nI_clamp, pu_in, c_0, c_1, c_2, c_3, c_4, c_5, c_6, c_7, c_8, c_9, c_10, c_11, c_12, c_15, c_16, c_17, c_32, c_35, c_36, c_38, c_40, c_41, c_42, c_43, c_44, c_45, c_48, c_57, c_58, c_59, c_60, c_61, c_62, c_64, c_65, c_69, c_75, c_83, c_91, c_93, c_94, c_97, c_105, c_106, c_110, c_119, c_123, c_124, c_125, c_126, c_240, c_256, c_400, c_m, nI_m1, nM_i, e1]
        rw [e8]
        show ro (kn K) (kT K) (rbind (pThs wr f (thO (cOq c).length t) r) _) _ _ _ _
        match hq : pThs wr f (thO (cOq c).length t) r, hR with
        | .error r', hR =>
          obtain ⟨s2, g1, g2, g3⟩ := hR
          exact ⟨s2, g1, g2, e7.trans g3⟩
        | .ok (l, r'), hR =>
          obtain ⟨v, s2, g1, g2, g3⟩ := hR
          exact ⟨v, s2, g1, g2, e7.trans g3⟩
end
def kSn (K : KS) (x : Nat) : KS := (K.1, K.2.1, K.2.2.1, K.2.2.2.1, K.2.2.2.2.1, K.2.2.2.2.2.1, K.2.2.2.2.2.2.1, x, K.2.2.2.2.2.2.2.2)
/-- between the blocks: no loop is open -/
def RA (K : KS) (ts : List Tok) (Ls : List Ln) (P5 : List C5) (lf sk sp ins rg : Nat) (s : ax_σ) : Prop := (∃ P, RX (kn K) (kT K) (kg K) ts lf P s ∧ P.map cp5 = P5) ∧ RL (kg K) Ls s ∧ NM (kg K) [kw K, kst K, kky K, ktb K, sk, sp, ins, rg] s ∧ (∀ i, i < 32 → s.1 (kg K) 3 i = kB K i) ∧ (kw K < 10 ^ 9 ∧ kst K < 10 ^ 9 ∧ kky K < 10 ^ 9 ∧ ktb K ≤ 2) ∧ rg < 2 ^ 30
section
variable {K : KS} {ts : List Tok} {Ls : List Ln} {P5 : List C5} {lf sk sp ins rg : Nat} {s : ax_σ}
theorem RB.ra {O : List Oq} (h : RB K ts Ls P5 lf sk sp ins rg O s) : RA K ts Ls P5 lf sk sp ins rg s := by
  obtain ⟨h1, h2, h3, h4, h5, h6, h7, h8, h9, h10⟩ := h
  exact ⟨h1, h2, h3, h6, ⟨h7.1, h7.2.1, h7.2.2.1, h7.2.2.2.1⟩, h8⟩
theorem RA.sn {x : Nat} (h : RA K ts Ls P5 lf sk sp ins rg s) (hx : x < 10 ^ 9) : RB (kSn K x) ts Ls P5 lf sk sp ins rg [] (ax_wI (ax_wI s 0 25 8 (nI x)) 0 25 9 (nI 0)) ∧ frm (XR (kg K)) s (ax_wI (ax_wI s 0 25 8 (nI x)) 0 25 9 (nI 0)) := by
  obtain ⟨⟨P, h1, h1'⟩, h2, h3, h4, h5, h6⟩ := h
  have ff : frm (fun g r k => g = 0 ∧ r = 25 ∧ (k = 8 ∨ k = 9)) s (ax_wI (ax_wI s 0 25 8 (nI x)) 0 25 9 (nI 0)) := by
    refine (frm.refl.wI _ _ _ _ ?_).wI _ _ _ _ ?_ <;> omega
  refine ⟨⟨⟨P, h1.keepN ff (fun g' r k hx => by unfold XC at hx; omega), h1'⟩, h2.keep ff (fun g' r k hx => by unfold XN at hx; omega), h3.keep ff (fun k _ => by omega), ⟨Nat.zero_le _, by simp (disch := omega) only [wI_1, wI_2, wL_1, wL_2, true_and, and_true, and_self, false_and, and_false, if_true, if_false, if_pos, if_neg, List.length_nil], fun k o hk => by cases hk⟩, by simp (disch := omega) only [wI_1, wI_2, wL_1, wL_2, true_and, and_true, and_self, false_and, and_false, if_true, if_false, if_pos, if_neg]; rfl, fun i hi => (ff.1 _ _ _ (by omega)).trans (h4 i hi), ⟨h5.1, h5.2.1, h5.2.2.1, h5.2.2.2, hx⟩, h6, trivial, fun k o hk => by cases hk⟩, ff.imp (fun g r k hx => by unfold XR; omega)⟩
theorem rd_block {F : Nat} {wr : Bool} (hF : 241 ≤ F) (h : RA K ts Ls P5 lf sk sp ins rg s) (hl : 2 * Ls.length + ts.length ≤ 240) : ro (kn K) (kT K) (rbind (pTake 123 ts) (fun _ r => pThs wr (r.length + 1) 0 r)) (frm (XR (kg K)) s) (fun l r v s' => v = nI 1 ∧ RBc (kSn K (if wr = true then 0 else kst K)) r (cThs (kSn K (if wr = true then 0 else kst K)) (Ls, P5, lf, sk, sp, ins, rg, []) l) s' ∧ cOq (cThs (kSn K (if wr = true then 0 else kst K)) (Ls, P5, lf, sk, sp, ins, rg, []) l) = [] ∧ 2 * (cLs (cThs (kSn K (if wr = true then 0 else kst K)) (Ls, P5, lf, sk, sp, ins, rg, []) l)).length + r.length ≤ 240) (nI 0) (f_R_block F (kg K) (if wr = true then nI 1 else nI 0) s) := by
  obtain ⟨⟨P, h1, h1'⟩, h2, h3, h4, h5, h6⟩ := id h
  match ht : pTake 123 ts with
  | .error r =>
    have d1 := rx_take_er (g := kg K) (by omega) (by omega) h1.1 ht
    refine ⟨s, ?_, by rw [d1.2]; exact h1.1, frm.refl⟩
    unfold f_R_block
    simp (disch := omega) only [ax_let, Option.bind_some, cond_true, cond_false, if_pos, if_neg, if_true, if_false, eq_self, nI_add, nI_ltI, nI_leI, nI_eq, nI_clamp, pu_in, c_0, c_1, c_2, c_3, c_4, c_5, c_6, c_7, c_8, c_9, c_10, c_11, c_12, c_15, c_16, c_17, c_32, c_35, c_36, c_38, c_40, c_41, c_42, c_43, c_44, c_45, c_48, c_57, c_58, c_59, c_60, c_61, c_62, c_64, c_65, c_69, c_75, c_83, c_91, c_93, c_94, c_97, c_105, c_106, c_110, c_119, c_123, c_124, c_125, c_126, c_240, c_256, c_400, c_m, nI_m1, nM_i, d1.1]
  | .ok ((), r) =>
    obtain ⟨s1, e1, e2, e3, e4⟩ := rd_take_ok' (g := kg K) h1.1 (by omega) ht
    have htl := pTake_len ht
    have hr : RA K r Ls P5 lf sk sp ins rg s1 := by
      have hx := h1.keepR e4 e2 (e3.trans h1.2.1) h1.2.2.1 (by omega)
      have ff := XE.ofR (g := kg K) e4
      exact ⟨⟨P, hx, h1'⟩, h2.keep ff (fun g' r k hx => by unfold XN at hx; unfold XE XC; omega), h3.keep ff (fun k _ => by unfold XE XC; omega), fun i hi => (ff.1 _ _ _ (by unfold XE XC; omega)).trans (h4 i hi), h5, h6⟩
    have hx9 : (if wr = true then 0 else kst K) < 10 ^ 9 := by
      split
      · omega
      · exact h5.2.1
    obtain ⟨q1, q2⟩ := hr.sn hx9
    have hT := rd_things (F := F) (wr := wr) (K := kSn K (if wr = true then 0 else kst K)) hF (r.length + 1) F 0 r (Ls, P5, lf, sk, sp, ins, rg, []) _ (by omega) (by have := h1.2.2.2.2; omega) (by have := h1.2.2.2.2; omega) q1 ⟨fun o ho => (by cases ho), List.Pairwise.nil⟩ (by unfold cN2; simp only [cLs, cOq, List.length_nil]; omega)
    have hfr : frm (XR (kg K)) s (ax_wI (ax_wI s1 0 25 8 (nI (if wr = true then 0 else kst K))) 0 25 9 (nI 0)) := (XR.ofR (frm.of e4)).trans q2
    have e0 : f_R_block F (kg K) (if wr = true then nI 1 else nI 0) s = Option.bind (lp_R_block_39 F (kg K) (if wr = true then nI 1 else nI 0) F (nI 0) (ax_wI (ax_wI s1 0 25 8 (nI (if wr = true then 0 else kst K))) 0 25 9 (nI 0))) (blK (kg K)) := by
      have e1' : f_R_take (kg K) (nI 123) s = some (nI 1, s1) := e1
      have hk1 : s1.1 (kg K) 1 1 = nI (kst K) := hr.2.2.1.2 1 _ rfl
      unfold f_R_block
      cases wr with
      | true =>
        simp (disch := omega) only [ax_let, Option.bind_some, cond_true, cond_false, if_pos, if_neg, if_true, if_false, eq_self, nI_add, nI_ltI, nI_leI, nI_eq, nI_clamp, pu_in, c_0, c_1, c_2, c_3, c_4, c_5, c_6, c_7, c_8, c_9, c_10, c_11, c_12, c_15, c_16, c_17, c_32, c_35, c_36, c_38, c_40, c_41, c_42, c_43, c_44, c_45, c_48, c_57, c_58, c_59, c_60, c_61, c_62, c_64, c_65, c_69, c_75, c_83, c_91, c_93, c_94, c_97, c_105, c_106, c_110, c_119, c_123, c_124, c_125, c_126, c_240, c_256, c_400, c_m, nI_m1, nM_i, e1']
        rfl
      | false =>
        simp (disch := omega) only [ax_let, Option.bind_some, cond_true, cond_false, if_pos, if_neg, if_true, if_false, eq_self, nI_add, nI_ltI, nI_leI, nI_eq, nI_clamp, pu_in, c_0, c_1, c_2, c_3, c_4, c_5, c_6, c_7, c_8, c_9, c_10, c_11, c_12, c_15, c_16, c_17, c_32, c_35, c_36, c_38, c_40, c_41, c_42, c_43, c_44, c_45, c_48, c_57, c_58, c_59, c_60, c_61, c_62, c_64, c_65, c_69, c_75, c_83, c_91, c_93, c_94, c_97, c_105, c_106, c_110, c_119, c_123, c_124, c_125, c_126, c_240, c_256, c_400, c_m, nI_m1, nM_i, e1', hk1, Bool.false_eq_true]
        rfl
    rw [e0]
    show ro (kn K) (kT K) (pThs wr (r.length + 1) 0 r) _ _ _ _
    have hT : ro (kn K) (kT K) (pThs wr (r.length + 1) 0 r) _ _ _ _ := hT
    match hq : pThs wr (r.length + 1) 0 r, hT with
    | .error r', hT =>
      obtain ⟨s2, g1, g2, g3⟩ := hT
      exact ⟨s2, g1, g2, hfr.trans g3⟩
    | .ok (l, r'), hT =>
      obtain ⟨v, s2, g1, ⟨g2, g4, g5, g6, g7⟩, g3⟩ := hT
      refine ⟨v, s2, g1, ⟨g2, g4, g5, ?_⟩, hfr.trans g3⟩
      unfold cN2 at g6
      rw [g5] at g6
      simp only [List.length_nil] at g6
      omega
end
