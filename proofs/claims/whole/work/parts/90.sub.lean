/-! PURE: what stands behind the STATE of a step -/
section
variable {K : KS} {ts : List Tok} {Ls : List Ln} {P5 : List C5} {lf sk sp ins rg : Nat} {O : List Oq} {s : ax_σ}
theorem rd_numB_ok {F b v p : Nat} {r : List Tok} (hF : 10 ≤ F) (hb2 : b < 2 ^ 31) (h : RB K ts Ls P5 lf sk sp ins rg O s) (hp : pNum ts = some (v, p, r)) : ∃ s', f_R_takeNumber F (kg K) (nI b) s = some (nI v, s') ∧ RB K r Ls P5 (lfN lf b v p) sk sp ins rg O s' ∧ frm RF s s' ∧ v < 10 ^ 9 ∧ p ≤ 240 ∧ r.length < ts.length := by
  obtain ⟨⟨P, h1, h1'⟩, -⟩ := id h
  obtain ⟨s', e1, e2, e3, e4, e5, e6⟩ := rd_num_ok (g := kg K) hF hb2 h1.1 h1.2.1 h1.2.2.1 hp
  exact ⟨s', e1, h.ofX (XE.ofR e4) (h1.keepR e4 e2 e3 (lfN_le' h1.2.2.1) (by have := pNum_len hp; omega)) h1', frm.of e4, e5, e6, pNum_len hp⟩
theorem rd_numB_no {F b : Nat} (hF : 10 ≤ F) (hb2 : b < 2 ^ 31) (h : RB K ts Ls P5 lf sk sp ins rg O s) (hp : pNum ts = none) : ∃ s', f_R_takeNumber F (kg K) (nI b) s = some (nM, s') ∧ rdA (kn K) (kT K) ts s' ∧ frm (XR (kg K)) s s' := by
  obtain ⟨⟨P, h1, h1'⟩, -⟩ := id h
  obtain ⟨s', a1, a2, a3⟩ := rx_num_no (F := F) (b := b) hF hb2 h1 hp
  exact ⟨s', a1, a2, XR.ofE a3⟩
theorem rd_stateB_ok {v p : Nat} {r : List Tok} (h : RB K ts Ls P5 lf sk sp ins rg O s) (hp : pState ts = .ok ((v, p), r)) : ∃ s', f_R_takeState (kg K) s = some (nI v, s') ∧ RB K r Ls P5 (if v < ksn K then lf else min lf (p * 8 + 4)) sk sp ins rg O s' ∧ frm RF s s' ∧ v < 4 ∧ p ≤ 240 ∧ r.length < ts.length := by
  have hE := h.ec
  obtain ⟨⟨P, h1, h1'⟩, -⟩ := id h
  obtain ⟨s', e1, e2, e3, e4, e5, e6⟩ := rd_state_ok (g := kg K) h1.1 h1.2.1 h1.2.2.1 hE.1 hE.2.1 hp
  obtain ⟨-, -, -, -, -, -, hl⟩ := rx_state_ok hE h1 hp
  exact ⟨s', e1, h.ofX (XE.ofR e4) (h1.keepR e4 e2 e3 (by have := h1.2.2.1; split <;> omega) (by omega)) h1', frm.of e4, e5, e6, hl⟩
theorem rd_stepB {c p : Nat} (h : RB K ((c, p) :: ts) Ls P5 lf sk sp ins rg O s) : RB K ts Ls P5 lf sk sp ins rg O (ax_wI s 0 25 3 (s.1 0 25 3 + nI 1)) ∧ frm RF s (ax_wI s 0 25 3 (s.1 0 25 3 + nI 1)) := by
  obtain ⟨⟨P, h1, h1'⟩, -⟩ := id h
  exact ⟨h.ofX h1.step.2 h1.step.1 h1', frm.refl.wI _ _ _ _ ⟨rfl, rfl, Or.inl rfl⟩⟩
theorem rd_noteB {p c : Nat} (h : RB K ts Ls P5 lf sk sp ins rg O s) (hp : p ≤ 240) (hc : c < 8) : ∃ s', f_R_note (kg K) (nI p) (nI c) s = some s' ∧ RB K ts Ls P5 (min lf (p * 8 + c)) sk sp ins rg O s' ∧ frm (XR (kg K)) s s' := by
  obtain ⟨⟨P, h1, h1'⟩, -⟩ := id h
  obtain ⟨s', a1, a2, a3⟩ := rx_note h1 hp hc
  exact ⟨s', a1, h.ofX a3 a2 h1', XR.ofE a3⟩
def cN (n : Nat × Nat) : C5 := (110, n.1, 0, 0, nM)
/-- a number is kept, behind what was read of the text since -/
theorem rd_constB {v : Nat} {r0 : List Tok} (h : RB K ts Ls P5 lf sk sp ins rg O s) (hr : P5.length + 1 + ts.length ≤ 240) : ∃ s', f_C_addConstant (kg K) (lN v) s = some (nI P5.length, s') ∧ RB K ts Ls (P5 ++ [(110, v, 0, 0, nM)]) lf sk sp ins rg O s' ∧ frm (XR (kg K)) s s' := by
  obtain ⟨⟨P, h1, h1'⟩, -⟩ := id h
  have hPl : P5.length = P.length := by rw [← h1', List.length_map]
  obtain ⟨s', a1, a2, a3⟩ := rc_const (v := v) h1.2.2.2.1 (by omega)
  exact ⟨s', by rw [hPl]; exact a1, h.ofX (XE.of a3) (h1.add a2 a3 (by omega)) (by rw [List.map_append, h1']; rfl), XR.ofE (XE.of a3)⟩
theorem RB.p5 (h : RB K ts Ls P5 lf sk sp ins rg O s) : P5.length + ts.length ≤ 240 ∧ s.1 (kg K) 4 8 = nI P5.length := by
  obtain ⟨⟨P, h1, h1'⟩, -⟩ := id h
  have hPl : P5.length = P.length := by rw [← h1', List.length_map]
  exact ⟨by rw [hPl]; exact h1.2.2.2.2, by rw [hPl]; exact h1.2.2.2.1.2.1⟩
end
def lfS (w lf : Nat) (l : List (Nat × Nat)) : Nat := l.foldl (fun lf n => lfN lf w n.1 n.2) lf
def sprT (j v p : Nat) (r : List Tok) : Rd (List (Nat × Nat)) := match r with
  | [] => .ok ([(v, p)], [])
  | (c, q) :: r' => if c = 44 then rbind (pSpr j r') (fun l r'' => .ok ((v, p) :: l, r'')) else .ok ([(v, p)], (c, q) :: r')
def rotK (w : (Int32 × ax_σ) ⊕ ax_σ) : Option (Int32 × ax_σ) := match w with
  | .inl w => some w
  | .inr s15 => some (((-1 : Int32), s15))
section
variable {K : KS} {Ls : List Ln} {sk sp ins rg : Nat} {O : List Oq}
theorem rd_rots {F : Nat} (hF : 241 ≤ F) : ∀ (j i m : Nat) (ts : List Tok) (P5 : List C5) (lf : Nat) (s : ax_σ), i + j = 5 → 1 ≤ i → j < m → RB K ts Ls P5 lf sk sp ins rg O s → ro (kn K) (kT K) (pSpr j ts) (frm (XR (kg K)) s) (fun l r v s' => v = nI (i + l.length - 1) ∧ RB K r Ls (P5 ++ l.map cN) (lfS (kw K) lf l) sk sp ins rg O s' ∧ r.length + 1 ≤ ts.length ∧ 1 ≤ l.length) nM (Option.bind (lp_R_rotations_2 F (kg K) m (nI i) s) rotK)
  | j, i, 0, ts, P5, lf, s, _, _, hm, _ => absurd hm (Nat.not_lt_zero _)
  | j, i, m + 1, ts, P5, lf, s, hij, hi, hm, h => by
    have hw : s.1 (kg K) 1 0 = nI (kw K) := h.nm.2 0 _ rfl
    have hks : kw K < 2 ^ 31 := by obtain ⟨-, -, -, -, -, -, k7, -⟩ := id h; have := k7.1; omega
    have hp5 := h.p5.1
    rw [lp_R_rotations_2]
    match hp : pNumR ts with
    | .error r =>
      obtain ⟨p1, p2⟩ := pNumR_er hp
      obtain ⟨s', a1, a2, a3⟩ := rd_numB_no (F := F) (b := kw K) (by omega) hks h p1
      have e : pSpr j ts = .error r := by
        match j with
        | 0 => simp only [pSpr, hp, rbind]
        | j + 1 => simp only [pSpr, hp, rbind]
      rw [e]
      refine ⟨s', ?_, by rw [p2]; exact a2, a3⟩
      simp (disch := omega) only [ax_let, Option.bind_some, cond_true, cond_false, if_pos, if_neg, if_true, if_false, eq_self, nI_add, nI_ltI, nI_leI, nI_eq, nI_clamp, pu_in, c_0, c_1, c_2, c_3, c_4, c_5, c_6, c_7, c_8, c_9, c_10, c_11, c_12, c_15, c_16, c_17, c_32, c_35, c_36, c_38, c_40, c_41, c_42, c_43, c_44, c_45, c_48, c_57, c_58, c_59, c_60, c_61, c_62, c_64, c_65, c_69, c_75, c_83, c_91, c_93, c_94, c_97, c_105, c_106, c_110, c_119, c_123, c_124, c_125, c_126, c_240, c_256, c_400, c_m, nI_m1, nM_i, hw, a1, rotK]
    | .ok ((v, p), r) =>
      have p1 := pNumR_ok hp
      obtain ⟨s1, a1, a2, a3, a4, a5, a6⟩ := rd_numB_ok (F := F) (b := kw K) (by omega) hks h p1
      obtain ⟨s2, b1, b2, b3⟩ := rd_constB (v := v) (r0 := []) a2 (by omega)
      have hf2 := (XR.ofR (K := K) a3).trans b3
      match j, hij, hm with
      | 0, hij, hm =>
        have e : pSpr 0 ts = .ok ([(v, p)], r) := by simp only [pSpr, hp, rbind]
        rw [e]
        refine ⟨nI i, s2, ?_, ⟨by show nI i = nI (i + 1 - 1); rfl, b2, by omega, by show 1 ≤ 1; omega⟩, hf2⟩
        simp (disch := omega) only [ax_let, Option.bind_some, cond_true, cond_false, if_pos, if_neg, if_true, if_false, eq_self, nI_add, nI_ltI, nI_leI, nI_eq, nI_clamp, pu_in, c_0, c_1, c_2, c_3, c_4, c_5, c_6, c_7, c_8, c_9, c_10, c_11, c_12, c_15, c_16, c_17, c_32, c_35, c_36, c_38, c_40, c_41, c_42, c_43, c_44, c_45, c_48, c_57, c_58, c_59, c_60, c_61, c_62, c_64, c_65, c_69, c_75, c_83, c_91, c_93, c_94, c_97, c_105, c_106, c_110, c_119, c_123, c_124, c_125, c_126, c_240, c_256, c_400, c_m, nI_m1, nM_i, hw, a1, nI_l, b1, rotK]
      | j + 1, hij, hm =>
        have e : pSpr (j + 1) ts = sprT j v p r := by
          simp only [pSpr, hp, rbind]
          unfold sprT
          rfl
        rw [e]
        have stop : ∀ r', pTake 44 r = .error r' → ∃ v' s', Option.bind (if nI 5 < nI i then some (Sum.inr s) else bif ax_in (0 : Int32) 8 then Option.bind (f_R_takeNumber F (kg K) (s.1 (kg K) 1 ((0 : Int32)).toNatClampNeg) s) (fun (r2, s3) => if r2 = (-1 : Int32) then some (.inl ((-1 : Int32), s3)) else Option.bind (f_C_addConstant (kg K) ((r2).toInt64) s3) (fun (r5, s6) => if nI i = (5 : Int32) then some (.inl (nI i, s6)) else Option.bind (f_R_take (kg K) (44 : Int32) s6) (fun (r8, s9) => if r8 = (0 : Int32) then some (.inl (nI i, s9)) else lp_R_rotations_2 F (kg K) m (nI i + (1 : Int32)) s9))) else none) rotK = some (v', s') ∧ (v' = nI (i + [(v, p)].length - 1) ∧ RB K r Ls (P5 ++ [(v, p)].map cN) (lfS (kw K) lf [(v, p)]) sk sp ins rg O s' ∧ r.length + 1 ≤ ts.length ∧ 1 ≤ [(v, p)].length) ∧ frm (XR (kg K)) s s' := by
          intro r' ht
          have d1 := rx_take_er (g := kg K) (by omega) (by omega) b2.rd ht
          refine ⟨nI i, s2, ?_, ⟨by show nI i = nI (i + 1 - 1); rfl, b2, by omega, by show 1 ≤ 1; omega⟩, hf2⟩
          simp (disch := omega) only [ax_let, Option.bind_some, cond_true, cond_false, if_pos, if_neg, if_true, if_false, eq_self, nI_add, nI_ltI, nI_leI, nI_eq, nI_clamp, pu_in, c_0, c_1, c_2, c_3, c_4, c_5, c_6, c_7, c_8, c_9, c_10, c_11, c_12, c_15, c_16, c_17, c_32, c_35, c_36, c_38, c_40, c_41, c_42, c_43, c_44, c_45, c_48, c_57, c_58, c_59, c_60, c_61, c_62, c_64, c_65, c_69, c_75, c_83, c_91, c_93, c_94, c_97, c_105, c_106, c_110, c_119, c_123, c_124, c_125, c_126, c_240, c_256, c_400, c_m, nI_m1, nM_i, hw, a1, nI_l, b1, d1.1, rotK]
        match r, a2, b2, a6, stop with
        | [], a2, b2, a6, stop => exact stop [] rfl
        | (c, q) :: r', a2, b2, a6, stop =>
          show ro (kn K) (kT K) (if c = 44 then _ else _) _ _ _ _
          simp only [List.length_cons] at a6
          by_cases hc : c = 44
          · rw [if_pos hc]
            obtain ⟨s3, d1, d2, d3⟩ := rd_takeB_ok (c := 44) (r := r') (by omega) b2 (by simp only [pTake, hc, if_true])
            have hI := rd_rots hF j (i + 1) m r' _ _ s3 (by omega) (by omega) (by omega) d2
            have e2 : Option.bind (if nI 5 < nI i then some (Sum.inr s) else bif ax_in (0 : Int32) 8 then Option.bind (f_R_takeNumber F (kg K) (s.1 (kg K) 1 ((0 : Int32)).toNatClampNeg) s) (fun (r2, s3) => if r2 = (-1 : Int32) then some (.inl ((-1 : Int32), s3)) else Option.bind (f_C_addConstant (kg K) ((r2).toInt64) s3) (fun (r5, s6) => if nI i = (5 : Int32) then some (.inl (nI i, s6)) else Option.bind (f_R_take (kg K) (44 : Int32) s6) (fun (r8, s9) => if r8 = (0 : Int32) then some (.inl (nI i, s9)) else lp_R_rotations_2 F (kg K) m (nI i + (1 : Int32)) s9))) else none) rotK = Option.bind (lp_R_rotations_2 F (kg K) m (nI (i + 1)) s3) rotK := by
              simp (disch := omega) only [ax_let, Option.bind_some, cond_true, cond_false, if_pos, if_neg, if_true, if_false, eq_self, nI_add, nI_ltI, nI_leI, nI_eq, nI_clamp, pu_in, c_0, c_1, c_2, c_3, c_4, c_5, c_6, c_7, c_8, c_9, c_10, c_11, c_12, c_15, c_16, c_17, c_32, c_35, c_36, c_38, c_40, c_41, c_42, c_43, c_44, c_45, c_48, c_57, c_58, c_59, c_60, c_61, c_62, c_64, c_65, c_69, c_75, c_83, c_91, c_93, c_94, c_97, c_105, c_106, c_110, c_119, c_123, c_124, c_125, c_126, c_240, c_256, c_400, c_m, nI_m1, nM_i, hw, a1, nI_l, b1, d1]
            match hq : pSpr j r', hI with
            | .error r2, hI =>
              obtain ⟨s', e1, e3, e4⟩ := hI
              exact ⟨s', e2.trans e1, e3, (hf2.trans (XR.ofR d3)).trans e4⟩
            | .ok (l, r2), hI =>
              obtain ⟨v', s', e1, ⟨e3, e5, e6, e7⟩, e4⟩ := hI
              refine ⟨v', s', e2.trans e1, ⟨?_, ?_, by omega, by show 1 ≤ l.length + 1; omega⟩, (hf2.trans (XR.ofR d3)).trans e4⟩
              · rw [e3]; congr 1; simp only [List.length_cons]; omega
              · rw [List.append_assoc] at e5; exact e5
          · rw [if_neg hc]
            exact stop ((c, q) :: r') (by simp only [pTake, hc, if_false])
end
