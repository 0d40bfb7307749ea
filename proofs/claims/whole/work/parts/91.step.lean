/-! PURE: a step: its kinds -/
theorem nI_div {a b : Nat} (ha : a < 2 ^ 31) (hb : b < 2 ^ 31) : nI a / nI b = nI (a / b) := by
  apply Int32.toInt_inj.mp
  rw [Int32.toInt_div_of_ne_right _ _ (fun e => of_eq_false (nI_m1 hb) e), nI_toInt ha, nI_toInt hb, nI_toInt (Nat.lt_of_le_of_lt (Nat.div_le_self _ _) ha)]
  rfl
theorem nI_odd {v : Nat} (h : v < 2 ^ 31) : nI v - nI v / nI 2 * nI 2 = nI (v % 2) := by
  rw [nI_div h (by omega), nI_mul, nI_sub (by omega)]
  congr 1
  omega
def stS (F g : Nat) (c r6 : Int32) (s7 : ax_σ) : Option (Int32 × ax_σ) :=
          Option.bind (
            if c = (94 : Int32) then
              some true
            else
              if c = (43 : Int32) then
                some true
              else
                if c = (45 : Int32) then
                  some true
                else
                  some false) (fun w51 => bif w51 then
            ax_let (ax_wI s7 0 25 3 ((s7.1 0 25 3) + (1 : Int32))) (fun s12 =>
              Option.bind (f_R_take g (61 : Int32) s12) (fun (r13, s14) =>
                if r13 = (0 : Int32) then
                  some ((-1 : Int32), s14)
                else
                  Option.bind (f_R_expression14 F g (0 : Int32) s14) (fun (r16, s17) =>
                    some (r16, s17))))
          else
            if c = (42 : Int32) then
              ax_let (ax_wI s7 0 25 3 ((s7.1 0 25 3) + (1 : Int32))) (fun s40 =>
                Option.bind (f_R_take g (61 : Int32) s40) (fun (r41, s42) =>
                  if r41 = (0 : Int32) then
                    some ((-1 : Int32), s42)
                  else
                    Option.bind (f_R_wordBound g s42) (fun r44 =>
                      Option.bind (f_R_takeNumber F g r44 s42) (fun (r46, s47) =>
                        some (r46, s47)))))
            else
              if c = (60 : Int32) then
                ax_let (ax_wI s7 0 25 3 ((s7.1 0 25 3) + (1 : Int32))) (fun s35 =>
                  Option.bind (f_R_rotation F g r6 s35) (fun (r36, s37) =>
                    some (r36, s37)))
              else
                if c = (58 : Int32) then
                  ax_let (ax_wI s7 0 25 3 ((s7.1 0 25 3) + (1 : Int32))) (fun s30 =>
                    Option.bind (f_R_takeState g s30) (fun (r31, s32) =>
                      some (r31, s32)))
                else
                  if c = (35 : Int32) then
                    ax_let (ax_wI s7 0 25 3 ((s7.1 0 25 3) + (1 : Int32))) (fun s25 =>
                      Option.bind (f_R_tableNumber F g s25) (fun (r26, s27) =>
                        some (r26, s27)))
                  else
                    if c = (64 : Int32) then
                      ax_let (ax_wI s7 0 25 3 ((s7.1 0 25 3) + (1 : Int32))) (fun s20 =>
                        Option.bind (f_R_rotations F g s20) (fun (r21, s22) =>
                          some (r21, s22)))
                    else
                      some ((-1 : Int32), s7))
def stK (F g : Nat) (r6 pc : Int32) (q : Int32 × ax_σ) : Option (Int32 × ax_σ) :=
          if q.1 = (-1 : Int32) then
            some (((0 : Int32), q.2))
          else
            Option.bind (f_R_take g (59 : Int32) q.2) (fun (r54, s55) =>
              if r54 = (0 : Int32) then
                some (((0 : Int32), s55))
              else
                bif ax_in r6 120 then
                ax_let (ax_wI s55 g 16 (r6).toNatClampNeg q.1) (fun s58 =>
                  bif ax_in r6 120 then
                  ax_let (ax_wI s58 g 18 (r6).toNatClampNeg (s58.1 g 4 8)) (fun s60 =>
                    Option.bind (f_R_countStep g r6 s60) (fun s61 =>
                      Option.bind (f_R_canBeUndone F g r6 s61) (fun r63 =>
                        if r63 = (0 : Int32) then
                          Option.bind (f_R_note g pc (5 : Int32) s61) (fun s65 =>
                            some (((1 : Int32), s65)))
                        else
                          some (((1 : Int32), s61)))))
                  else none)
                else none)
/-- what stands behind a STATE: kind, number or STATE, its place, expression, numbers -/
abbrev Wk : Type := Nat × Nat × Nat × List Op × List (Nat × Nat)
def kc (k : Nat) : Nat := if k = 4 then 94 else if k = 5 then 43 else if k = 6 then 45 else if k = 7 then 42 else if k = 8 then 60 else if k = 9 then 119 else if k = 10 then 58 else if k = 11 then 35 else 64
def opd (pl : Nat) (k : Wk) : Nat := if k.1 ≤ 6 then pl + k.2.2.2.1.length - 1 else if k.1 = 12 then k.2.2.2.2.length else k.2.1
def lfW (K : KS) (L : List Nat) (lf : Nat) (k : Wk) : Nat :=
  if k.1 ≤ 6 then lfE (ksn K) (kw K) L lf k.2.2.2.1
  else if k.1 = 7 then lfN lf (wb (kw K)) k.2.1 k.2.2.1
  else if k.1 = 8 then lfN lf (kw K) k.2.1 k.2.2.1
  else if k.1 = 9 ∨ k.1 = 10 then (if k.2.1 < ksn K then lf else min lf (k.2.2.1 * 8 + 4))
  else if k.1 = 11 then (if k.2.1 < ktb K then lf else min lf (k.2.2.1 * 8 + 4))
  else lfS (kw K) lf k.2.2.2.2
def swK (K : KS) (Ls : List Ln) (P5 : List C5) (lf sk sp ins rg : Nat) (O : List Oq) (w : Nat) (k : Wk) (r : List Tok) (v : Int32) (s' : ax_σ) : Prop := RB K r (Ls ++ [(kc k.1, w, 0, P5.length, P5.length, 0)]) (P5 ++ k.2.2.2.1.map (cO (oL Ls O)) ++ k.2.2.2.2.map cN) (lfW K (oL Ls O) lf k) sk sp ins rg O s' ∧ v = nI (opd P5.length k) ∧ opd P5.length k < 10 ^ 9 ∧ (4 ≤ k.1 ∧ k.1 ≤ 12) ∧ (k.1 ≤ 6 → opd P5.length k < 240 ∧ atA (kg K) (opd P5.length k) (aOf k.2.2.2.1) s' ∧ aS (aOf k.2.2.2.1))
section
variable {K : KS} {ts : List Tok} {Ls : List Ln} {P5 : List C5} {lf sk sp ins rg : Nat} {O : List Oq} {s : ax_σ}
theorem RB.sm (h : RB K ts Ls P5 lf sk sp ins rg O s) : ksm K := by
  obtain ⟨-, -, -, -, -, -, k7, -⟩ := id h
  exact k7
theorem rd_sub {F w : Nat} (hF : 241 ≤ F) (h : RB K ts (Ls ++ [(sg ts, w, 0, P5.length, P5.length, 0)]) P5 lf sk sp ins rg O s) (hw : oW Ls O) : ro (kn K) (kT K) (pWk ts) (frm (XR (kg K)) s) (fun k r v s' => swK K Ls P5 lf sk sp ins rg O w k r v s' ∧ r.length + 2 ≤ ts.length) nM (stS F (kg K) (nI (sg ts)) (nI Ls.length) s) := by
  obtain ⟨m1, m2, m3, m4, m5⟩ := h.sm
  have hsg := h.rd.at.2.2.1
  have hm120 := h.rl.lastA.2
  have hLL := oL_app hw (sg ts, w, 0, P5.length, P5.length, 0)
  match ts, h, hsg, hLL, hm120 with
  | [], h, hsg, hLL, hm120 =>
    refine ⟨s, ?_, h.rd, frm.refl⟩
    show stS F (kg K) (nI 0) (nI Ls.length) s = _
    unfold stS
    simp (disch := omega) only [ax_let, Option.bind_some, cond_true, cond_false, if_pos, if_neg, if_true, if_false, eq_self, nI_add, nI_ltI, nI_leI, nI_eq, nI_clamp, pu_in, c_0, c_1, c_2, c_3, c_4, c_5, c_6, c_7, c_8, c_9, c_10, c_11, c_12, c_15, c_16, c_17, c_32, c_35, c_36, c_38, c_40, c_41, c_42, c_43, c_44, c_45, c_48, c_57, c_58, c_59, c_60, c_61, c_62, c_64, c_65, c_69, c_75, c_83, c_91, c_93, c_94, c_97, c_105, c_106, c_110, c_119, c_123, c_124, c_125, c_126, c_240, c_256, c_400, c_m, nI_m1, nM_i]
  | (c, p) :: ts, h, hsg, hLL, hm120 =>
    have hsg : c < 127 := hsg
    have hLL : oL (Ls ++ [(c, w, 0, P5.length, P5.length, 0)]) O = oL Ls O := hLL
    have h : RB K ((c, p) :: ts) (Ls ++ [(c, w, 0, P5.length, P5.length, 0)]) P5 lf sk sp ins rg O s := h
    obtain ⟨hst, hsf⟩ := rd_stepB h
    show ro (kn K) (kT K) (pWk ((c, p) :: ts)) _ _ _ (stS F (kg K) (nI c) (nI Ls.length) s)
    simp only [pWk, List.length_cons]
    by_cases c1 : c = 94 ∨ c = 43 ∨ c = 45
    · rw [if_pos c1]
      obtain ⟨hk4, hk3, hkc⟩ : 4 ≤ (if c = 94 then 4 else if c = 43 then 5 else 6) ∧ (if c = 94 then 4 else if c = 43 then 5 else 6) ≤ 6 ∧ kc (if c = 94 then 4 else if c = 43 then 5 else 6) = c := by
        rcases c1 with c1 | c1 | c1 <;> (subst c1; decide)
      match ht : pTake 61 ts with
      | .error r =>
        have d1 := rx_take_er (g := kg K) (by omega) (by omega) hst.rd ht
        refine ⟨_, ?_, by rw [d1.2]; exact hst.rd, XR.ofR hsf⟩
        unfold stS
        rcases c1 with c1 | c1 | c1 <;> (subst c1; simp (disch := omega) only [ax_let, Option.bind_some, cond_true, cond_false, if_pos, if_neg, if_true, if_false, eq_self, nI_add, nI_ltI, nI_leI, nI_eq, nI_clamp, pu_in, c_0, c_1, c_2, c_3, c_4, c_5, c_6, c_7, c_8, c_9, c_10, c_11, c_12, c_15, c_16, c_17, c_32, c_35, c_36, c_38, c_40, c_41, c_42, c_43, c_44, c_45, c_48, c_57, c_58, c_59, c_60, c_61, c_62, c_64, c_65, c_69, c_75, c_83, c_91, c_93, c_94, c_97, c_105, c_106, c_110, c_119, c_123, c_124, c_125, c_126, c_240, c_256, c_400, c_m, nI_m1, nM_i, d1.1])
      | .ok ((), r) =>
        obtain ⟨s1, a1, a2, a3⟩ := rd_takeB_ok (by omega) hst ht
        have htl := pTake_len ht
        have hI := rd_exprB hF a2
        rw [hLL] at hI
        show ro (kn K) (kT K) (rbind (pEx 14 0 r) _) _ _ _ _
        have e0 : stS F (kg K) (nI c) (nI Ls.length) s = f_R_expression14 F (kg K) (nI 0) s1 := by
          unfold stS
          rcases c1 with c1 | c1 | c1 <;> (subst c1; simp (disch := omega) only [ax_let, Option.bind_some, cond_true, cond_false, if_pos, if_neg, if_true, if_false, eq_self, nI_add, nI_ltI, nI_leI, nI_eq, nI_clamp, pu_in, c_0, c_1, c_2, c_3, c_4, c_5, c_6, c_7, c_8, c_9, c_10, c_11, c_12, c_15, c_16, c_17, c_32, c_35, c_36, c_38, c_40, c_41, c_42, c_43, c_44, c_45, c_48, c_57, c_58, c_59, c_60, c_61, c_62, c_64, c_65, c_69, c_75, c_83, c_91, c_93, c_94, c_97, c_105, c_106, c_110, c_119, c_123, c_124, c_125, c_126, c_240, c_256, c_400, c_m, nI_m1, nM_i, a1]; cases f_R_expression14 F (kg K) (nI 0) s1 <;> rfl)
        rw [e0]
        match hp : pEx 14 0 r, hI with
        | .error r', hI =>
          obtain ⟨s3, b1, b2, b3⟩ := hI
          exact ⟨s3, b1, b2, ((XR.ofR hsf).trans (XR.ofR a3)).trans b3⟩
        | .ok (e, r'), hI =>
          obtain ⟨v, s3, b1, ⟨b2, rfl, b4, b5, b6, b7, b8, b9⟩, b3⟩ := hI
          have hpl := pEx_len (by omega) hp
          refine ⟨_, s3, b1, ⟨⟨?_, ?_, ?_, ⟨hk4, by omega⟩, fun _ => ?_⟩, by omega⟩, ((XR.ofR hsf).trans (XR.ofR a3)).trans b3⟩
          · simp only [hkc, lfW, hk3, if_true, List.map_nil, List.append_nil]
            exact b2
          · simp only [opd, hk3, if_true]
          · simp only [opd, hk3, if_true]; omega
          · simp only [opd, hk3, if_true]; exact ⟨b4, b5, b6⟩
    · rw [if_neg c1]
      by_cases c2 : c = 42
      · rw [if_pos c2]
        subst c2
        match ht : pTake 61 ts with
        | .error r =>
          have d1 := rx_take_er (g := kg K) (by omega) (by omega) hst.rd ht
          refine ⟨_, ?_, by rw [d1.2]; exact hst.rd, XR.ofR hsf⟩
          unfold stS
          simp (disch := omega) only [ax_let, Option.bind_some, cond_true, cond_false, if_pos, if_neg, if_true, if_false, eq_self, nI_add, nI_ltI, nI_leI, nI_eq, nI_clamp, pu_in, c_0, c_1, c_2, c_3, c_4, c_5, c_6, c_7, c_8, c_9, c_10, c_11, c_12, c_15, c_16, c_17, c_32, c_35, c_36, c_38, c_40, c_41, c_42, c_43, c_44, c_45, c_48, c_57, c_58, c_59, c_60, c_61, c_62, c_64, c_65, c_69, c_75, c_83, c_91, c_93, c_94, c_97, c_105, c_106, c_110, c_119, c_123, c_124, c_125, c_126, c_240, c_256, c_400, c_m, nI_m1, nM_i, d1.1]
        | .ok ((), r) =>
          obtain ⟨s1, a1, a2, a3⟩ := rd_takeB_ok (by omega) hst ht
          have htl := pTake_len ht
          have hb := rd_bound (a2.nm.2 0 _ rfl) (show kw K < 2 ^ 31 by omega)
          have hbl := wb_lt (kw K)
          show ro (kn K) (kT K) (rbind (pNumR r) _) _ _ _ _
          match hp : pNumR r with
          | .error r' =>
            obtain ⟨p1, p2⟩ := pNumR_er hp
            obtain ⟨s2, b1, b2, b3⟩ := rd_numB_no (F := F) (b := wb (kw K)) (by omega) hbl.1 a2 p1
            refine ⟨s2, ?_, by rw [p2]; exact b2, ((XR.ofR hsf).trans (XR.ofR a3)).trans b3⟩
            unfold stS
            simp (disch := omega) only [ax_let, Option.bind_some, cond_true, cond_false, if_pos, if_neg, if_true, if_false, eq_self, nI_add, nI_ltI, nI_leI, nI_eq, nI_clamp, pu_in, c_0, c_1, c_2, c_3, c_4, c_5, c_6, c_7, c_8, c_9, c_10, c_11, c_12, c_15, c_16, c_17, c_32, c_35, c_36, c_38, c_40, c_41, c_42, c_43, c_44, c_45, c_48, c_57, c_58, c_59, c_60, c_61, c_62, c_64, c_65, c_69, c_75, c_83, c_91, c_93, c_94, c_97, c_105, c_106, c_110, c_119, c_123, c_124, c_125, c_126, c_240, c_256, c_400, c_m, nI_m1, nM_i, a1, hb, b1]
          | .ok ((v, q), r') =>
            have p1 := pNumR_ok hp
            obtain ⟨s2, b1, b2, b3, b4, b5, b6⟩ := rd_numB_ok (F := F) (b := wb (kw K)) (by omega) hbl.1 a2 p1
            refine ⟨nI v, s2, ?_, ⟨⟨?_, rfl, b4, ⟨by show 4 ≤ 7; omega, by show 7 ≤ 12; omega⟩, fun z => absurd z (by show ¬ 7 ≤ 6; omega)⟩, by omega⟩, ((XR.ofR hsf).trans (XR.ofR a3)).trans (XR.ofR b3)⟩
            · unfold stS
              simp (disch := omega) only [ax_let, Option.bind_some, cond_true, cond_false, if_pos, if_neg, if_true, if_false, eq_self, nI_add, nI_ltI, nI_leI, nI_eq, nI_clamp, pu_in, c_0, c_1, c_2, c_3, c_4, c_5, c_6, c_7, c_8, c_9, c_10, c_11, c_12, c_15, c_16, c_17, c_32, c_35, c_36, c_38, c_40, c_41, c_42, c_43, c_44, c_45, c_48, c_57, c_58, c_59, c_60, c_61, c_62, c_64, c_65, c_69, c_75, c_83, c_91, c_93, c_94, c_97, c_105, c_106, c_110, c_119, c_123, c_124, c_125, c_126, c_240, c_256, c_400, c_m, nI_m1, nM_i, a1, hb, b1]
            · simp only [List.map_nil, List.append_nil]; exact b2
      · rw [if_neg c2]
        by_cases c3 : c = 60
        · rw [if_pos c3]
          subst c3
          have hat := hst.rd.at
          have hdg := rx_digit (c := sg ts) (by omega)
          match hp : pNum ts with
          | some (v, q, r) =>
            have hd : isD (sg ts) = true := by
              match ts, hp with
              | (d, y) :: ts', hp =>
                simp only [pNum] at hp
                split at hp
                · assumption
                · cases hp
            rw [if_pos hd] at hdg
            have hkw := hst.nm.2 0 _ rfl
            obtain ⟨s2, b1, b2, b3, b4, b5, b6⟩ := rd_numB_ok (F := F) (b := kw K) (by omega) (by omega) hst hp
            refine ⟨nI v, s2, ?_, ⟨⟨?_, rfl, b4, ⟨by show 4 ≤ 8; omega, by show 8 ≤ 12; omega⟩, fun z => absurd z (by show ¬ 8 ≤ 6; omega)⟩, by omega⟩, (XR.ofR hsf).trans (XR.ofR b3)⟩
            · unfold stS f_R_rotation
              simp (disch := omega) only [ax_let, Option.bind_some, cond_true, cond_false, if_pos, if_neg, if_true, if_false, eq_self, nI_add, nI_ltI, nI_leI, nI_eq, nI_clamp, pu_in, c_0, c_1, c_2, c_3, c_4, c_5, c_6, c_7, c_8, c_9, c_10, c_11, c_12, c_15, c_16, c_17, c_32, c_35, c_36, c_38, c_40, c_41, c_42, c_43, c_44, c_45, c_48, c_57, c_58, c_59, c_60, c_61, c_62, c_64, c_65, c_69, c_75, c_83, c_91, c_93, c_94, c_97, c_105, c_106, c_110, c_119, c_123, c_124, c_125, c_126, c_240, c_256, c_400, c_m, nI_m1, nM_i, hst.rd.inb, hat.1, hdg, hkw, b1]
            · simp only [List.map_nil, List.append_nil]; exact b2
          | none =>
            have hd : ¬ isD (sg ts) = true := by
              match ts, hp with
              | [], _ => decide
              | (d, y) :: ts', hp =>
                simp only [pNum] at hp
                split at hp
                · cases hp
                · assumption
            rw [if_neg hd] at hdg
            have fm : frm (XM (kg K) Ls.length) (ax_wI s 0 25 3 (s.1 0 25 3 + nI 1)) (ax_wI (ax_wI s 0 25 3 (s.1 0 25 3 + nI 1)) (kg K) 14 Ls.length (nI 119)) := frm.refl.wI _ _ _ _ (by unfold XM; omega)
            have fm' : frm (XN (kg K)) (ax_wI s 0 25 3 (s.1 0 25 3 + nI 1)) (ax_wI (ax_wI s 0 25 3 (s.1 0 25 3 + nI 1)) (kg K) 14 Ls.length (nI 119)) := fm.imp (fun g r k hx => by unfold XM at hx; unfold XN; omega)
            have hrl := hst.rl.last fm (y := (119, w, 0, P5.length, P5.length, 0)) (by
              obtain ⟨z1, z2, z3, z4, z5, z6⟩ := hst.rl.lastA.1
              refine ⟨?_, ?_, ?_, ?_, ?_, ?_⟩ <;> simp (disch := omega) only [wI_1 _ (kg K) 14, if_neg, if_pos, z2, z3, z4, z5, z6, and_self, if_true, true_and])
            have a2 := hst.ofN fm' hrl (hw.app _)
            match hq : pState ts with
            | .error r =>
              have d1 := rx_state_no (g := kg K) a2.rd hq
              refine ⟨_, ?_, by rw [d1.2]; exact a2.rd, (XR.ofR hsf).trans (XR.ofN fm')⟩
              unfold stS f_R_rotation
              simp (disch := omega) only [ax_let, Option.bind_some, cond_true, cond_false, if_pos, if_neg, if_true, if_false, eq_self, nI_add, nI_ltI, nI_leI, nI_eq, nI_clamp, pu_in, c_0, c_1, c_2, c_3, c_4, c_5, c_6, c_7, c_8, c_9, c_10, c_11, c_12, c_15, c_16, c_17, c_32, c_35, c_36, c_38, c_40, c_41, c_42, c_43, c_44, c_45, c_48, c_57, c_58, c_59, c_60, c_61, c_62, c_64, c_65, c_69, c_75, c_83, c_91, c_93, c_94, c_97, c_105, c_106, c_110, c_119, c_123, c_124, c_125, c_126, c_240, c_256, c_400, c_m, nI_m1, nM_i, hst.rd.inb, hat.1, hdg, d1.1]
            | .ok ((v, q), r) =>
              obtain ⟨s2, b1, b2, b3, b4, b5, b6⟩ := rd_stateB_ok a2 hq
              refine ⟨nI v, s2, ?_, ⟨⟨?_, rfl, by show v < 10 ^ 9; omega, ⟨by show 4 ≤ 9; omega, by show 9 ≤ 12; omega⟩, fun z => absurd z (by show ¬ 9 ≤ 6; omega)⟩, by omega⟩, ((XR.ofR hsf).trans (XR.ofN fm')).trans (XR.ofR b3)⟩
              · unfold stS f_R_rotation
                simp (disch := omega) only [ax_let, Option.bind_some, cond_true, cond_false, if_pos, if_neg, if_true, if_false, eq_self, nI_add, nI_ltI, nI_leI, nI_eq, nI_clamp, pu_in, c_0, c_1, c_2, c_3, c_4, c_5, c_6, c_7, c_8, c_9, c_10, c_11, c_12, c_15, c_16, c_17, c_32, c_35, c_36, c_38, c_40, c_41, c_42, c_43, c_44, c_45, c_48, c_57, c_58, c_59, c_60, c_61, c_62, c_64, c_65, c_69, c_75, c_83, c_91, c_93, c_94, c_97, c_105, c_106, c_110, c_119, c_123, c_124, c_125, c_126, c_240, c_256, c_400, c_m, nI_m1, nM_i, hst.rd.inb, hat.1, hdg, b1]
              · simp only [List.map_nil, List.append_nil]; exact b2
        · rw [if_neg c3]
          by_cases c4 : c = 58
          · rw [if_pos c4]
            subst c4
            match hq : pState ts with
            | .error r =>
              have d1 := rx_state_no (g := kg K) hst.rd hq
              refine ⟨_, ?_, by rw [d1.2]; exact hst.rd, XR.ofR hsf⟩
              unfold stS
              simp (disch := omega) only [ax_let, Option.bind_some, cond_true, cond_false, if_pos, if_neg, if_true, if_false, eq_self, nI_add, nI_ltI, nI_leI, nI_eq, nI_clamp, pu_in, c_0, c_1, c_2, c_3, c_4, c_5, c_6, c_7, c_8, c_9, c_10, c_11, c_12, c_15, c_16, c_17, c_32, c_35, c_36, c_38, c_40, c_41, c_42, c_43, c_44, c_45, c_48, c_57, c_58, c_59, c_60, c_61, c_62, c_64, c_65, c_69, c_75, c_83, c_91, c_93, c_94, c_97, c_105, c_106, c_110, c_119, c_123, c_124, c_125, c_126, c_240, c_256, c_400, c_m, nI_m1, nM_i, d1.1]
            | .ok ((v, q), r) =>
              obtain ⟨s2, b1, b2, b3, b4, b5, b6⟩ := rd_stateB_ok hst hq
              refine ⟨nI v, s2, ?_, ⟨⟨?_, rfl, by show v < 10 ^ 9; omega, ⟨by show 4 ≤ 10; omega, by show 10 ≤ 12; omega⟩, fun z => absurd z (by show ¬ 10 ≤ 6; omega)⟩, by omega⟩, (XR.ofR hsf).trans (XR.ofR b3)⟩
              · unfold stS
                simp (disch := omega) only [ax_let, Option.bind_some, cond_true, cond_false, if_pos, if_neg, if_true, if_false, eq_self, nI_add, nI_ltI, nI_leI, nI_eq, nI_clamp, pu_in, c_0, c_1, c_2, c_3, c_4, c_5, c_6, c_7, c_8, c_9, c_10, c_11, c_12, c_15, c_16, c_17, c_32, c_35, c_36, c_38, c_40, c_41, c_42, c_43, c_44, c_45, c_48, c_57, c_58, c_59, c_60, c_61, c_62, c_64, c_65, c_69, c_75, c_83, c_91, c_93, c_94, c_97, c_105, c_106, c_110, c_119, c_123, c_124, c_125, c_126, c_240, c_256, c_400, c_m, nI_m1, nM_i, b1]
              · simp only [List.map_nil, List.append_nil]; exact b2
          · rw [if_neg c4]
            by_cases c5 : c = 35
            · rw [if_pos c5]
              subst c5
              match hp : pNumR ts with
              | .error r' =>
                obtain ⟨p1, p2⟩ := pNumR_er hp
                have b1 := rx_num_no0 (F := F) (g := kg K) (b := 1000000000) (by omega) (by omega) (by omega) hst.rd p1
                have hk3 := hst.nm.2 3 _ rfl
                have hlt : nM < nI (ktb K) := by
                  have : ∀ t, t < 3 → nM < nI t := by decide
                  exact this _ (by omega)
                refine ⟨_, ?_, by rw [p2]; exact hst.rd, XR.ofR hsf⟩
                unfold stS f_R_tableNumber
                simp (disch := omega) only [ax_let, Option.bind_some, cond_true, cond_false, if_pos, if_neg, if_true, if_false, eq_self, nI_add, nI_ltI, nI_leI, nI_eq, nI_clamp, pu_in, c_0, c_1, c_2, c_3, c_4, c_5, c_6, c_7, c_8, c_9, c_10, c_11, c_12, c_15, c_16, c_17, c_32, c_35, c_36, c_38, c_40, c_41, c_42, c_43, c_44, c_45, c_48, c_57, c_58, c_59, c_60, c_61, c_62, c_64, c_65, c_69, c_75, c_83, c_91, c_93, c_94, c_97, c_105, c_106, c_110, c_119, c_123, c_124, c_125, c_126, c_240, c_256, c_400, c_m, nI_m1, nM_i, hst.rd.inb, c_giga, b1, hk3, hlt]
              | .ok ((v, q), r') =>
                have p1 := pNumR_ok hp
                obtain ⟨s2, b1, b2, b3, b4, b5, b6⟩ := rd_numB_ok (F := F) (b := 1000000000) (by omega) (by omega) hst p1
                have hlf : lfN lf 1000000000 v q = lf := if_pos (by omega)
                rw [hlf] at b2
                have hk3 := b2.nm.2 3 _ rfl
                have hat := hst.rd.at.2.1
                have hpl : pl (kn K) ts = q := by
                  match ts, p1 with
                  | (d, y) :: ts', p1 =>
                    simp only [pNum] at p1
                    split at p1
                    · injection p1 with p1; injection p1 with _ p1; injection p1 with p1 _
                    · cases p1
                rw [hpl] at hat
                by_cases hv : v < ktb K
                · refine ⟨nI v, s2, ?_, ⟨⟨?_, rfl, b4, ⟨by show 4 ≤ 11; omega, by show 11 ≤ 12; omega⟩, fun z => absurd z (by show ¬ 11 ≤ 6; omega)⟩, by omega⟩, (XR.ofR hsf).trans (XR.ofR b3)⟩
                  · unfold stS f_R_tableNumber
                    simp (disch := omega) only [ax_let, Option.bind_some, cond_true, cond_false, if_pos, if_neg, if_true, if_false, eq_self, nI_add, nI_ltI, nI_leI, nI_eq, nI_clamp, pu_in, c_0, c_1, c_2, c_3, c_4, c_5, c_6, c_7, c_8, c_9, c_10, c_11, c_12, c_15, c_16, c_17, c_32, c_35, c_36, c_38, c_40, c_41, c_42, c_43, c_44, c_45, c_48, c_57, c_58, c_59, c_60, c_61, c_62, c_64, c_65, c_69, c_75, c_83, c_91, c_93, c_94, c_97, c_105, c_106, c_110, c_119, c_123, c_124, c_125, c_126, c_240, c_256, c_400, c_m, nI_m1, nM_i, hst.rd.inb, c_giga, b1, hk3]
                  · simp only [List.map_nil, List.append_nil]
                    have : lfW K (oL Ls O) lf (11, v, q, [], []) = lf := by
                      simp only [lfW, hv, if_true]
                      rfl
                    rw [this]; exact b2
                · obtain ⟨s3, n1, n2, n3⟩ := rd_noteB (p := q) (c := 4) b2 b5 (by omega)
                  refine ⟨nI v, s3, ?_, ⟨⟨?_, rfl, b4, ⟨by show 4 ≤ 11; omega, by show 11 ≤ 12; omega⟩, fun z => absurd z (by show ¬ 11 ≤ 6; omega)⟩, by omega⟩, ((XR.ofR hsf).trans (XR.ofR b3)).trans n3⟩
                  · unfold stS f_R_tableNumber
                    simp (disch := omega) only [ax_let, Option.bind_some, cond_true, cond_false, if_pos, if_neg, if_true, if_false, eq_self, nI_add, nI_ltI, nI_leI, nI_eq, nI_clamp, pu_in, c_0, c_1, c_2, c_3, c_4, c_5, c_6, c_7, c_8, c_9, c_10, c_11, c_12, c_15, c_16, c_17, c_32, c_35, c_36, c_38, c_40, c_41, c_42, c_43, c_44, c_45, c_48, c_57, c_58, c_59, c_60, c_61, c_62, c_64, c_65, c_69, c_75, c_83, c_91, c_93, c_94, c_97, c_105, c_106, c_110, c_119, c_123, c_124, c_125, c_126, c_240, c_256, c_400, c_m, nI_m1, nM_i, hst.rd.inb, c_giga, b1, hk3, hat, n1]
                  · simp only [List.map_nil, List.append_nil]
                    have : lfW K (oL Ls O) lf (11, v, q, [], []) = min lf (q * 8 + 4) := by
                      simp only [lfW, hv, if_false]
                      rfl
                    rw [this]; exact n2
            · rw [if_neg c5]
              by_cases c6 : c = 64
              · rw [if_pos c6]
                subst c6
                have hI := rd_rots hF 4 1 F ts P5 lf _ (by omega) (by omega) (by omega) hst
                have e0 : stS F (kg K) (nI 64) (nI Ls.length) s = Option.bind (lp_R_rotations_2 F (kg K) F (nI 1) (ax_wI s 0 25 3 (s.1 0 25 3 + nI 1))) rotK := by
                  unfold stS f_R_rotations
                  simp (disch := omega) only [ax_let, Option.bind_some, cond_true, cond_false, if_pos, if_neg, if_true, if_false, eq_self, nI_add, nI_ltI, nI_leI, nI_eq, nI_clamp, pu_in, c_0, c_1, c_2, c_3, c_4, c_5, c_6, c_7, c_8, c_9, c_10, c_11, c_12, c_15, c_16, c_17, c_32, c_35, c_36, c_38, c_40, c_41, c_42, c_43, c_44, c_45, c_48, c_57, c_58, c_59, c_60, c_61, c_62, c_64, c_65, c_69, c_75, c_83, c_91, c_93, c_94, c_97, c_105, c_106, c_110, c_119, c_123, c_124, c_125, c_126, c_240, c_256, c_400, c_m, nI_m1, nM_i]
                  cases lp_R_rotations_2 F (kg K) F (nI 1) (ax_wI s 0 25 3 (s.1 0 25 3 + nI 1)) with
                  | none => rfl
                  | some w => cases w <;> rfl
                rw [e0]
                match hp : pSpr 4 ts, hI with
                | .error r, hI =>
                  obtain ⟨s', e1, e3, e4⟩ := hI
                  exact ⟨s', e1, e3, (XR.ofR hsf).trans e4⟩
                | .ok (l, r), hI =>
                  obtain ⟨v', s', e1, ⟨e3, e5, e6, e7⟩, e4⟩ := hI
                  have hp5 := e5.p5.1
                  rw [List.length_append, List.length_map] at hp5
                  refine ⟨v', s', e1, ⟨⟨?_, ?_, by show l.length < 10 ^ 9; omega, ⟨by show 4 ≤ 12; omega, by show 12 ≤ 12; omega⟩, fun z => absurd z (by show ¬ 12 ≤ 6; omega)⟩, by omega⟩, (XR.ofR hsf).trans e4⟩
                  · simp only [List.map_nil, List.append_nil]; exact e5
                  · rw [e3]; show nI (1 + l.length - 1) = nI l.length; congr 1; omega
              · rw [if_neg c6]
                refine ⟨s, ?_, h.rd, frm.refl⟩
                unfold stS
                simp (disch := omega) only [ax_let, Option.bind_some, cond_true, cond_false, if_pos, if_neg, if_true, if_false, eq_self, nI_add, nI_ltI, nI_leI, nI_eq, nI_clamp, pu_in, c_0, c_1, c_2, c_3, c_4, c_5, c_6, c_7, c_8, c_9, c_10, c_11, c_12, c_15, c_16, c_17, c_32, c_35, c_36, c_38, c_40, c_41, c_42, c_43, c_44, c_45, c_48, c_57, c_58, c_59, c_60, c_61, c_62, c_64, c_65, c_69, c_75, c_83, c_91, c_93, c_94, c_97, c_105, c_106, c_110, c_119, c_123, c_124, c_125, c_126, c_240, c_256, c_400, c_m, nI_m1, nM_i]
end
