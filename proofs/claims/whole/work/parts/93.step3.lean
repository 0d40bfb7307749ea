/-! PURE: a step, whole -/
/-- what stands behind the STATE of a thing -/
def wkOf (t : Th) : Wk := (thk t, thv t, thq t, the t, thn t)
def lfSt (K : KS) (L : List Nat) (lf : Nat) (t : Th) : Nat := if undo K (thw t) (wkOf t) = true then lfW K L (if thw t < ksn K then lf else min lf (thp t * 8 + 4)) (wkOf t) else min (lfW K L (if thw t < ksn K then lf else min lf (thp t * 8 + 4)) (wkOf t)) (thp t * 8 + 5)
def p5T (L : List Nat) (P5 : List C5) (t : Th) : List C5 := P5 ++ (the t).map (cO L) ++ (thn t).map cN
/-- a step: what it leaves -/
def stB (K : KS) (Ls : List Ln) (P5 : List C5) (lf sk sp ins rg : Nat) (O : List Oq) (t : Th) (r : List Tok) (s' : ax_σ) : Prop := RB K r (Ls ++ [(kc (thk t), thw t, opd P5.length (wkOf t), P5.length, (p5T (oL Ls O) P5 t).length, 0)]) (p5T (oL Ls O) P5 t) (lfSt K (oL Ls O) lf t) sk (sp + 1) (ins + insK (wkOf t)) (rgK (kst K) rg (wkOf t)) O s'
section
variable {K : KS} {ts : List Tok} {Ls : List Ln} {P5 : List C5} {lf sk sp ins rg : Nat} {O : List Oq} {s : ax_σ}
theorem rd_step {F : Nat} (hF : 241 ≤ F) (h : RB K ts Ls P5 lf sk sp ins rg O s) (hl : 2 * Ls.length + O.length + ts.length ≤ 240) : ro (kn K) (kT K) (match ts with
    | [] => (.error [] : Rd Th)
    | (c, p) :: ts' => if 65 ≤ c ∧ c ≤ 68 then rbind (pWk ts') (fun k r => rbind (pTake 59 r) (fun _ r' => .ok ((k.1, p, c - 65, k.2.1, k.2.2.1, k.2.2.2.1, k.2.2.2.2), r'))) else .error ((c, p) :: ts')) (frm (XR (kg K)) s) (fun t r v s' => v = nI 1 ∧ stB K Ls P5 lf sk sp ins rg O t r s' ∧ r.length + 3 ≤ ts.length ∧ thw t < 4 ∧ 4 ≤ thk t ∧ thk t ≤ 12) (nI 0) (f_R_step F (kg K) s) := by
  have stop : ∀ r, pState ts = .error r → f_R_step F (kg K) s = some (nI 0, s) := by
    intro r hp
    have a1 := rx_state_no (g := kg K) h.rd hp
    unfold f_R_step
    simp (disch := omega) only [ax_let, Option.bind_some, cond_true, cond_false, if_pos, if_neg, if_true, if_false, eq_self, nI_add, nI_ltI, nI_leI, nI_eq, nI_clamp, pu_in, c_0, c_1, c_2, c_3, c_4, c_5, c_6, c_7, c_8, c_9, c_10, c_11, c_12, c_15, c_16, c_17, c_32, c_35, c_36, c_38, c_40, c_41, c_42, c_43, c_44, c_45, c_48, c_57, c_58, c_59, c_60, c_61, c_62, c_64, c_65, c_69, c_75, c_83, c_91, c_93, c_94, c_97, c_105, c_106, c_110, c_119, c_123, c_124, c_125, c_126, c_240, c_256, c_400, c_m, nI_m1, nM_i, h.rd.inb, a1.1]
  have hat := h.rd.at
  match ts, h, stop, hl, hat with
  | [], h, stop, hl, hat => exact ⟨s, stop _ rfl, h.rd, frm.refl⟩
  | (c, p) :: ts', h, stop, hl, hat =>
    show ro (kn K) (kT K) (if 65 ≤ c ∧ c ≤ 68 then _ else _) _ _ _ _
    simp only [List.length_cons] at hl ⊢
    by_cases hc : 65 ≤ c ∧ c ≤ 68
    · rw [if_pos hc]
      have hpl : s.1 0 27 (s.1 0 25 3).toNatClampNeg = nI p := hat.2.1
      have hp240 : p ≤ 240 := hat.2.2.2.1
      obtain ⟨s1, a1, a2, a3, a4, a5, a6⟩ := rd_stateB_ok (v := c - 65) (p := p) (r := ts') h (by simp only [pState]; rw [if_pos hc])
      have hsg := a2.rd.at
      obtain ⟨s2, b1, b2, b3⟩ := rd_lineB (k := sg ts') (w := c - 65) a2 (by omega)
      have hI := rd_sub hF b2 h.ow
      have e0 : f_R_step F (kg K) s = Option.bind (stS F (kg K) (nI (sg ts')) (nI Ls.length) s2) (stK F (kg K) (nI Ls.length) (nI p)) := by
        have hne : nI (c - 65) ≠ nM := fun e => of_eq_false (nI_m1 (by omega)) e
        unfold f_R_step stS stK
        simp (disch := omega) only [ax_let, Option.bind_some, cond_true, cond_false, if_pos, if_neg, if_true, if_false, eq_self, nI_add, nI_ltI, nI_leI, nI_eq, nI_clamp, pu_in, c_0, c_1, c_2, c_3, c_4, c_5, c_6, c_7, c_8, c_9, c_10, c_11, c_12, c_15, c_16, c_17, c_32, c_35, c_36, c_38, c_40, c_41, c_42, c_43, c_44, c_45, c_48, c_57, c_58, c_59, c_60, c_61, c_62, c_64, c_65, c_69, c_75, c_83, c_91, c_93, c_94, c_97, c_105, c_106, c_110, c_119, c_123, c_124, c_125, c_126, c_240, c_256, c_400, c_m, nI_m1, nM_i, h.rd.inb, hpl, a1, hne, a2.rd.inb, hsg.1, b1]
        try rfl
      rw [e0]
      have hf2 : frm (XR (kg K)) s s2 := (XR.ofR a3).trans (XR.ofN b3)
      match hp : pWk ts', hI with
      | .error r, hI =>
        obtain ⟨s3, c1, c2, c3⟩ := hI
        refine ⟨s3, ?_, c2, hf2.trans c3⟩
        simp (disch := omega) only [ax_let, Option.bind_some, cond_true, cond_false, if_pos, if_neg, if_true, if_false, eq_self, nI_add, nI_ltI, nI_leI, nI_eq, nI_clamp, pu_in, c_0, c_1, c_2, c_3, c_4, c_5, c_6, c_7, c_8, c_9, c_10, c_11, c_12, c_15, c_16, c_17, c_32, c_35, c_36, c_38, c_40, c_41, c_42, c_43, c_44, c_45, c_48, c_57, c_58, c_59, c_60, c_61, c_62, c_64, c_65, c_69, c_75, c_83, c_91, c_93, c_94, c_97, c_105, c_106, c_110, c_119, c_123, c_124, c_125, c_126, c_240, c_256, c_400, c_m, nI_m1, nM_i, c1, stK]
      | .ok (k, r), hI =>
        obtain ⟨v, s3, c1, ⟨⟨c2, c4, c5, c6, c7⟩, c8⟩, c3⟩ := hI
        have hvm : v ≠ nM := by rw [c4]; exact fun e => of_eq_false (nI_m1 (by omega)) e
        show ro (kn K) (kT K) (rbind (pTake 59 r) _) _ _ _ _
        match ht : pTake 59 r with
        | .error r' =>
          have d1 := rx_take_er (g := kg K) (by omega) (by omega) c2.rd ht
          refine ⟨s3, ?_, by rw [d1.2]; exact c2.rd, hf2.trans c3⟩
          simp (disch := omega) only [ax_let, Option.bind_some, cond_true, cond_false, if_pos, if_neg, if_true, if_false, eq_self, nI_add, nI_ltI, nI_leI, nI_eq, nI_clamp, pu_in, c_0, c_1, c_2, c_3, c_4, c_5, c_6, c_7, c_8, c_9, c_10, c_11, c_12, c_15, c_16, c_17, c_32, c_35, c_36, c_38, c_40, c_41, c_42, c_43, c_44, c_45, c_48, c_57, c_58, c_59, c_60, c_61, c_62, c_64, c_65, c_69, c_75, c_83, c_91, c_93, c_94, c_97, c_105, c_106, c_110, c_119, c_123, c_124, c_125, c_126, c_240, c_256, c_400, c_m, nI_m1, nM_i, c1, stK, hvm, d1.1]
        | .ok ((), r') =>
          obtain ⟨s4, d1, d2, d3⟩ := rd_takeB_ok (by omega) c2 ht
          have htl := pTake_len ht
          have d48 := d2.p5.2
          have hm := d2.rl.lastA.2
          generalize hP' : P5 ++ k.2.2.2.1.map (cO (oL Ls O)) ++ k.2.2.2.2.map cN = P' at *
          have fm : frm (XM (kg K) Ls.length) s4 (ax_wI (ax_wI s4 (kg K) 16 Ls.length v) (kg K) 18 Ls.length (nI P'.length)) := by
            refine (frm.refl.wI _ _ _ _ ?_).wI _ _ _ _ ?_ <;> (unfold XM; omega)
          have fm' : frm (XN (kg K)) s4 (ax_wI (ax_wI s4 (kg K) 16 Ls.length v) (kg K) 18 Ls.length (nI P'.length)) := fm.imp (fun g r k hx => by unfold XM at hx; unfold XN; omega)
          have hrl := d2.rl.last fm (y := (kc k.1, c - 65, opd P5.length k, P5.length, P'.length, 0)) (by
            obtain ⟨z1, z2, z3, z4, z5, z6⟩ := d2.rl.lastA.1
            refine ⟨?_, ?_, ?_, ?_, ?_, ?_⟩ <;> simp (disch := omega) only [wI_1, wI_2, wL_1, wL_2, true_and, and_true, and_self, false_and, and_false, if_true, if_false, if_pos, if_neg, z1, z2, z4, z6, c4])
          have e2 := d2.ofN fm' hrl (h.ow.app _)
          have hat6 : k.1 ≤ 6 → opd P5.length k < 240 ∧ atA (kg K) (opd P5.length k) (aOf k.2.2.2.1) (ax_wI (ax_wI s4 (kg K) 16 Ls.length v) (kg K) 18 Ls.length (nI P'.length)) ∧ aS (aOf k.2.2.2.1) := by
            intro hk6
            obtain ⟨q1, ⟨q2, q3, q4⟩, q5⟩ := c7 hk6
            have hd : ∀ r, 10 ≤ r → r ≤ 12 → s4.1 (kg K) r (opd P5.length k) = s3.1 (kg K) r (opd P5.length k) := fun r _ _ => d3.1 _ _ _ (by unfold RF; omega)
            refine ⟨q1, ⟨?_, ?_, ?_⟩, q5⟩ <;> simp (disch := omega) only [wI_1, wI_2, wL_1, wL_2, true_and, and_true, and_self, false_and, and_false, if_true, if_false, if_pos, if_neg, hd, q2, q3, q4]
          obtain ⟨s5, g1, g2, g3⟩ := rd_countS e2 c6 hat6
          have hat7 : k.1 ≤ 6 → opd P5.length k < 240 ∧ atA (kg K) (opd P5.length k) (aOf k.2.2.2.1) s5 ∧ aS (aOf k.2.2.2.1) := by
            intro hk6
            obtain ⟨q1, ⟨q2, q3, q4⟩, q5⟩ := hat6 hk6
            exact ⟨q1, ⟨(g3.1 _ _ _ (by unfold X1; omega)).trans q2, (g3.1 _ _ _ (by unfold X1; omega)).trans q3, (g3.1 _ _ _ (by unfold X1; omega)).trans q4⟩, q5⟩
          have hu := rd_undo (pl := P5.length) hF a4 g2 c6 rfl c5 hat7
          have hf5 : frm (XR (kg K)) s s5 := (((hf2.trans c3).trans (XR.ofR d3)).trans (XR.ofN fm')).trans (XR.of1 g3)
          have r48 : (ax_wI s4 (kg K) 16 Ls.length v).1 (kg K) 4 8 = nI P'.length := by simp (disch := omega) only [wI_1, wI_2, wL_1, wL_2, true_and, and_true, and_self, false_and, and_false, if_true, if_false, if_pos, if_neg, d48]
          have ewk : wkOf (k.1, p, c - 65, k.2.1, k.2.2.1, k.2.2.2.1, k.2.2.2.2) = k := rfl
          cases hux : undo K (c - 65) k
          · rw [hux] at hu
            obtain ⟨s6, n1, n2, n3⟩ := rd_noteB (p := p) (c := 5) g2 hp240 (by omega)
            refine ⟨nI 1, s6, ?_, ⟨rfl, ?_, by omega, a4, c6.1, c6.2⟩, hf5.trans n3⟩
            · simp (disch := omega) only [ax_let, Option.bind_some, cond_true, cond_false, if_pos, if_neg, if_true, if_false, eq_self, nI_add, nI_ltI, nI_leI, nI_eq, nI_clamp, pu_in, c_0, c_1, c_2, c_3, c_4, c_5, c_6, c_7, c_8, c_9, c_10, c_11, c_12, c_15, c_16, c_17, c_32, c_35, c_36, c_38, c_40, c_41, c_42, c_43, c_44, c_45, c_48, c_57, c_58, c_59, c_60, c_61, c_62, c_64, c_65, c_69, c_75, c_83, c_91, c_93, c_94, c_97, c_105, c_106, c_110, c_119, c_123, c_124, c_125, c_126, c_240, c_256, c_400, c_m, nI_m1, nM_i, c1, stK, hvm, d1, r48, g1, hu, n1, Bool.false_eq_true]
            · unfold stB p5T lfSt
              rw [ewk]
              simp only [the, thn, thw, thk, thp, hux, Bool.false_eq_true, if_false, hP']
              exact n2
          · rw [hux] at hu
            refine ⟨nI 1, s5, ?_, ⟨rfl, ?_, by omega, a4, c6.1, c6.2⟩, hf5⟩
            · simp (disch := omega) only [ax_let, Option.bind_some, cond_true, cond_false, if_pos, if_neg, if_true, if_false, eq_self, nI_add, nI_ltI, nI_leI, nI_eq, nI_clamp, pu_in, c_0, c_1, c_2, c_3, c_4, c_5, c_6, c_7, c_8, c_9, c_10, c_11, c_12, c_15, c_16, c_17, c_32, c_35, c_36, c_38, c_40, c_41, c_42, c_43, c_44, c_45, c_48, c_57, c_58, c_59, c_60, c_61, c_62, c_64, c_65, c_69, c_75, c_83, c_91, c_93, c_94, c_97, c_105, c_106, c_110, c_119, c_123, c_124, c_125, c_126, c_240, c_256, c_400, c_m, nI_m1, nM_i, c1, stK, hvm, d1, r48, g1, hu]
            · unfold stB p5T lfSt
              rw [ewk]
              simp only [the, thn, thw, thk, thp, hux, if_true, hP']
              exact g2
    · rw [if_neg hc]
      exact ⟨s, stop ((c, p) :: ts') (by simp only [pState]; rw [if_neg hc]), h.rd, frm.refl⟩
end
