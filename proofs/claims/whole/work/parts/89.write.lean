/-! PURE: a writing -/
theorem xTm_5 (L : List Nat) (x y : CP) (t : Tm) (h : cp5 x = cp5 y) : cp5 (xTm L x t) = cp5 (xTm L y t) := by
  obtain ⟨x1, x2, x3, x4, x5, x6⟩ := x
  obtain ⟨y1, y2, y3, y4, y5, y6⟩ := y
  simp only [cp5, Prod.mk.injEq] at h
  obtain ⟨rfl, rfl, rfl, rfl, rfl⟩ := h
  unfold xTm xL cp5
  split <;> rfl
theorem xT_5 (L : List Nat) : ∀ (l : List Tm) (x y : CP), cp5 x = cp5 y → cp5 (xT L x l) = cp5 (xT L y l)
  | [], x, y, h => h
  | t :: l, x, y, h => xT_5 L l (xTm L x t) (xTm L y t) (xTm_5 L x y t h)
def cO (L : List Nat) (o : Op) : C5 := cp5 (cX L o (0, 0, 0))
theorem cX_5 (L : List Nat) (o : Op) (a : At) : cp5 (cX L o a) = cO L o := by
  unfold cO cX
  repeat' split
  all_goals first | rfl | exact xT_5 L _ _ _ rfl
theorem cXs_5 (L : List Nat) (Z : List (Op × At)) : (cXs L Z).map cp5 = (Z.map (·.1)).map (cO L) := by
  unfold cXs
  rw [List.map_map, List.map_map]
  apply List.map_congr_left
  intro z _
  exact cX_5 L z.1 z.2
/-- uses, cost, need of an expression -/
def aOf (e : List Op) : At := (aRun e []).headD (0, 0, 0)
section
variable {K : KS} {ts : List Tok} {Ls : List Ln} {P5 : List C5} {lf sk sp ins rg : Nat} {O : List Oq} {s : ax_σ}
theorem rd_countE {i : Nat} {a : At} (h : RB K ts Ls P5 lf sk sp ins rg O s) (ha : atA (kg K) i a s) (hs : aS a) (hi : i < 240) : ∃ s', f_R_countExpression (kg K) (nI i) s = some s' ∧ RB K ts Ls P5 lf sk sp (ins + (a.2.1 + 1)) (max rg (kst K + a.2.2)) O s' ∧ frm (X1 (kg K)) s s' := by
  obtain ⟨-, h2, h3, h4, h5, h6, h7, h8, h9, h10⟩ := id h
  obtain ⟨a1, a2, a3⟩ := ha
  obtain ⟨b1, b2, b3⟩ := hs
  have c6 := h3.2 6 _ rfl
  have c7 := h3.2 7 _ rfl
  have c1 := h3.2 1 _ rfl
  have hst := h7.2.1
  have ff : frm (X1 (kg K)) s (ax_wI (ax_wI s (kg K) 1 6 (nI (ins + (a.2.1 + 1)))) (kg K) 1 7 (nI (max rg (kst K + a.2.2)))) := by
    refine (frm.refl.wI _ _ _ _ ?_).wI _ _ _ _ ?_ <;> (unfold X1; omega)
  refine ⟨_, ?_, h.of1 ff ((h3.set (k := 6)).set (k := 7)) (by omega), ff⟩
  unfold f_R_countExpression
  simp (disch := omega) only [ax_let, Option.bind_some, cond_true, cond_false, if_pos, if_neg, if_true, if_false, eq_self, nI_add, nI_ltI, nI_leI, nI_eq, nI_clamp, pu_in, c_0, c_1, c_2, c_3, c_4, c_5, c_6, c_7, c_8, c_9, c_10, c_11, c_12, c_15, c_16, c_17, c_32, c_35, c_36, c_38, c_40, c_41, c_42, c_43, c_44, c_45, c_48, c_57, c_58, c_59, c_60, c_61, c_62, c_64, c_65, c_69, c_75, c_83, c_91, c_93, c_94, c_97, c_105, c_106, c_110, c_119, c_123, c_124, c_125, c_126, c_240, c_256, c_400, c_m, nI_m1, nM_i, wI_1, wI_2, wL_1, wL_2, true_and, and_true, and_self, false_and, and_false, if_true, if_false, c6, c7, c1, a1, a2, a3, mx_I]
/-- an expression in a line: what it leaves -/
theorem rd_exprB {F : Nat} (hF : 241 ≤ F) (h : RB K ts Ls P5 lf sk sp ins rg O s) : ro (kn K) (kT K) (pEx 14 0 ts) (frm (XR (kg K)) s) (fun e r v s' => RB K r Ls (P5 ++ e.map (cO (oL Ls O))) (lfE (ksn K) (kw K) (oL Ls O) lf e) sk sp ins rg O s' ∧ v = nI (P5.length + e.length - 1) ∧ P5.length + e.length - 1 < 240 ∧ atA (kg K) (P5.length + e.length - 1) (aOf e) s' ∧ aS (aOf e) ∧ s'.1 (kg K) 4 8 = nI (P5.length + e.length) ∧ 1 ≤ e.length ∧ P5.length + e.length + r.length ≤ 240) nM (f_R_expression14 F (kg K) (nI 0) s) := by
  have hE := h.ec
  obtain ⟨⟨P, h1, h1'⟩, -⟩ := id h
  have hI := rd_expr (n := kn K) (T := kT K) hF 14 0 ts lf P s (by omega) (by omega) hE h1
  have hPl : P5.length = P.length := by rw [← h1', List.length_map]
  unfold f_R_expression14
  match hp : pEx 14 0 ts, hI with
  | .error r, hI =>
    obtain ⟨s2, b1, b2, b3⟩ := hI
    exact ⟨s2, b1, b2, XR.ofE b3⟩
  | .ok (e, r), hI =>
    obtain ⟨v, s2, b1, hk, b3⟩ := hI
    obtain ⟨i, a, i1, i2, i3, i4, i5, i6, i7⟩ := hk.root
    obtain ⟨Z, z, z1, z2, z3, z4, z5, z6, z7⟩ := hk
    have ha : aOf e = a := by unfold aOf; rw [i4]; rfl
    have hei : P5.length + e.length - 1 = i := by omega
    have hlen : e.length = Z.length + 1 := by rw [z1]; simp only [List.length_append, List.length_map, List.length_cons, List.length_nil]
    have hpl := pEx_len (by omega) hp
    refine ⟨v, s2, b1, ⟨h.ofX b3 z3 ?_, by rw [hei]; exact i1, by omega, by rw [hei, ha]; exact i3, by rw [ha]; exact i5, ?_, by omega, by omega⟩, XR.ofE b3⟩
    · rw [List.map_append, List.map_append, cXs_5, h1', z1, List.map_append, List.append_assoc]
      simp only [List.map_cons, List.map_nil, cX_5]
    · have := z3.2.2.2.1.2.1
      rw [this]
      simp only [List.length_append, List.length_map, List.length_cons, List.length_nil, cXs]
      congr 1; omega
theorem rd_lineB {k w : Nat} (h : RB K ts Ls P5 lf sk sp ins rg O s) (hl : Ls.length < 120) : ∃ s', f_L_add (kg K) (nI k) (nI w) (nI 0) (s.1 (kg K) 4 8) s = some (nI Ls.length, s') ∧ RB K ts (Ls ++ [(k, w, 0, P5.length, P5.length, 0)]) P5 lf sk sp ins rg O s' ∧ frm (XN (kg K)) s s' := by
  obtain ⟨⟨P, h1, h1'⟩, h2, h3, h4, h5, h6, h7, h8, h9, h10⟩ := id h
  have e48 : s.1 (kg K) 4 8 = nI P5.length := by rw [← h1', List.length_map]; exact h1.2.2.2.1.2.1
  obtain ⟨s', f1, f2, f3⟩ := rl_add (a1 := k) (a2 := w) (a3 := 0) (a4 := P5.length) h2 hl
  refine ⟨s', by rw [e48]; exact f1, h.ofN f3 f2 (h10.app _), f3⟩
theorem XR.ofR {s' : ax_σ} (h : frm RF s s') : frm (XR (kg K)) s s' := h.imp (fun g r k h => by unfold RF at h; unfold XR; omega)
theorem rd_takeB_ok {c : Nat} {r : List Tok} (hc : c < 128) (h : RB K ts Ls P5 lf sk sp ins rg O s) (hp : pTake c ts = .ok ((), r)) : ∃ s', f_R_take (kg K) (nI c) s = some (nI 1, s') ∧ RB K r Ls P5 lf sk sp ins rg O s' ∧ frm RF s s' := by
  obtain ⟨⟨P, h1, h1'⟩, -⟩ := id h
  obtain ⟨s', e1, e2, e3, e4⟩ := rd_take_ok' (g := kg K) h1.1 hc hp
  exact ⟨s', e1, h.ofX (XE.ofR e4) (h1.keepR e4 e2 (e3.trans h1.2.1) h1.2.2.1 (by have := pTake_len hp; omega)) h1', frm.of e4⟩
theorem RB.rd (h : RB K ts Ls P5 lf sk sp ins rg O s) : rdA (kn K) (kT K) ts s := by
  obtain ⟨⟨P, h1, h1'⟩, -⟩ := id h
  exact h1.1
theorem RB.lfb (h : RB K ts Ls P5 lf sk sp ins rg O s) : lf ≤ 1928 := by
  obtain ⟨⟨P, h1, h1'⟩, -⟩ := id h
  exact h1.2.2.1
theorem RB.ow (h : RB K ts Ls P5 lf sk sp ins rg O s) : oW Ls O := by
  obtain ⟨⟨P, h1, h1'⟩, h2, h3, h4, h5, h6, h7, h8, h9, h10⟩ := id h
  exact h10
theorem RB.nm (h : RB K ts Ls P5 lf sk sp ins rg O s) : NM (kg K) [kw K, kst K, kky K, ktb K, sk, sp, ins, rg] s := h.2.2.1
theorem RB.rl (h : RB K ts Ls P5 lf sk sp ins rg O s) : RL (kg K) Ls s := h.2.1
/-- a writing: what it leaves -/
def wrK (K : KS) (Ls : List Ln) (P5 : List C5) (lf sk sp ins rg : Nat) (O : List Oq) (t : Th) (r : List Tok) (s' : ax_σ) : Prop := RB K r (Ls ++ [(62, 0, 0, P5.length, P5.length + (the t).length, sk)]) (P5 ++ (the t).map (cO (oL Ls O))) (lfE (ksn K) (kw K) (oL Ls O) lf (the t)) (sk + 1) sp (ins + ((aOf (the t)).2.1 + 1)) (max rg (kst K + (aOf (the t)).2.2)) O s'
theorem rd_writing {F : Nat} (hF : 241 ≤ F) (h : RB K ts Ls P5 lf sk sp ins rg O s) (hl : 2 * Ls.length + O.length + ts.length ≤ 240) : ro (kn K) (kT K) (match ts with
    | [] => (.error [] : Rd Th)
    | (c, p) :: ts' => if c = 62 then rbind (pEx 14 0 ts') (fun e r => rbind (pTake 59 r) (fun _ r' => .ok ((1, p, 0, 0, 0, e, []), r'))) else .error ((c, p) :: ts')) (frm (XR (kg K)) s) (fun t r v s' => v = nI 1 ∧ wrK K Ls P5 lf sk sp ins rg O t r s' ∧ r.length + 3 ≤ ts.length) (nI 0) (f_R_writing F (kg K) s) := by
  have stop : ∀ r, pTake 62 ts = .error r → f_R_writing F (kg K) s = some (nI 0, s) := by
    intro r hp
    have a1 := rx_take_er (g := kg K) (by omega) (by omega) h.rd hp
    unfold f_R_writing
    simp (disch := omega) only [ax_let, Option.bind_some, cond_true, cond_false, if_pos, if_neg, if_true, if_false, eq_self, nI_add, nI_ltI, nI_leI, nI_eq, nI_clamp, pu_in, c_0, c_1, c_2, c_3, c_4, c_5, c_6, c_7, c_8, c_9, c_10, c_11, c_12, c_15, c_16, c_17, c_32, c_35, c_36, c_38, c_40, c_41, c_42, c_43, c_44, c_45, c_48, c_57, c_58, c_59, c_60, c_61, c_62, c_64, c_65, c_69, c_75, c_83, c_91, c_93, c_94, c_97, c_105, c_106, c_110, c_119, c_123, c_124, c_125, c_126, c_240, c_256, c_400, c_m, nI_m1, nM_i, a1.1]
  match ts, h, stop, hl with
  | [], h, stop, hl => exact ⟨s, stop _ rfl, h.rd, frm.refl⟩
  | (c, p) :: ts', h, stop, hl =>
    show ro (kn K) (kT K) (if c = 62 then _ else _) _ _ _ _
    simp only [List.length_cons] at hl ⊢
    by_cases hc : c = 62
    · rw [if_pos hc]
      obtain ⟨s1, a1, a2, a3⟩ := rd_takeB_ok (c := 62) (r := ts') (by omega) h (by simp only [pTake, hc, if_true])
      obtain ⟨s2, b1, b2, b3⟩ := rd_lineB (k := 62) (w := 0) a2 (by omega)
      have hI := rd_exprB hF b2
      have hLL := oL_app h.ow (62, 0, 0, P5.length, P5.length, 0)
      rw [hLL] at hI
      match hp : pEx 14 0 ts', hI with
      | .error r, hI =>
        obtain ⟨s3, c1, c2, c3⟩ := hI
        refine ⟨s3, ?_, c2, ((XR.ofR a3).trans (XR.ofN b3)).trans c3⟩
        unfold f_R_writing
        simp (disch := omega) only [ax_let, Option.bind_some, cond_true, cond_false, if_pos, if_neg, if_true, if_false, eq_self, nI_add, nI_ltI, nI_leI, nI_eq, nI_clamp, pu_in, c_0, c_1, c_2, c_3, c_4, c_5, c_6, c_7, c_8, c_9, c_10, c_11, c_12, c_15, c_16, c_17, c_32, c_35, c_36, c_38, c_40, c_41, c_42, c_43, c_44, c_45, c_48, c_57, c_58, c_59, c_60, c_61, c_62, c_64, c_65, c_69, c_75, c_83, c_91, c_93, c_94, c_97, c_105, c_106, c_110, c_119, c_123, c_124, c_125, c_126, c_240, c_256, c_400, c_m, nI_m1, nM_i, a1, b1, c1]
      | .ok (e, r), hI =>
        obtain ⟨v, s3, c1, ⟨c2, rfl, c4, c5, c6, c7, c8, c9⟩, c3⟩ := hI
        have hpl := pEx_len (by omega) hp
        show ro (kn K) (kT K) (rbind (pTake 59 r) _) _ _ _ _
        match ht : pTake 59 r with
        | .error r' =>
          have d1 := rx_take_er (g := kg K) (by omega) (by omega) c2.rd ht
          refine ⟨s3, ?_, by rw [d1.2]; exact c2.rd, ((XR.ofR a3).trans (XR.ofN b3)).trans c3⟩
          unfold f_R_writing
          simp (disch := omega) only [ax_let, Option.bind_some, cond_true, cond_false, if_pos, if_neg, if_true, if_false, eq_self, nI_add, nI_ltI, nI_leI, nI_eq, nI_clamp, pu_in, c_0, c_1, c_2, c_3, c_4, c_5, c_6, c_7, c_8, c_9, c_10, c_11, c_12, c_15, c_16, c_17, c_32, c_35, c_36, c_38, c_40, c_41, c_42, c_43, c_44, c_45, c_48, c_57, c_58, c_59, c_60, c_61, c_62, c_64, c_65, c_69, c_75, c_83, c_91, c_93, c_94, c_97, c_105, c_106, c_110, c_119, c_123, c_124, c_125, c_126, c_240, c_256, c_400, c_m, nI_m1, nM_i, a1, b1, c1, d1.1]
        | .ok ((), r') =>
          obtain ⟨s4, d1, d2, d3⟩ := rd_takeB_ok (by omega) c2 ht
          have htl := pTake_len ht
          have d48 : s4.1 (kg K) 4 8 = nI (P5.length + e.length) := by
            obtain ⟨⟨P, q1, q1'⟩, -⟩ := id d2
            rw [q1.2.2.2.1.2.1]
            have := congrArg List.length q1'
            rw [List.length_map, List.length_append, List.length_map] at this
            rw [this]
          have d4 : s4.1 (kg K) 1 4 = nI sk := d2.nm.2 4 _ rfl
          have fm : frm (XM (kg K) Ls.length) s4 (ax_wI (ax_wI s4 (kg K) 18 Ls.length (nI (P5.length + e.length))) (kg K) 19 Ls.length (nI sk)) := by
            refine (frm.refl.wI _ _ _ _ ?_).wI _ _ _ _ ?_ <;> (unfold XM; omega)
          have fm' : frm (XN (kg K)) s4 (ax_wI (ax_wI s4 (kg K) 18 Ls.length (nI (P5.length + e.length))) (kg K) 19 Ls.length (nI sk)) := fm.imp (fun g r k hx => by unfold XM at hx; unfold XN; omega)
          have hrl := d2.rl.last fm (y := (62, 0, 0, P5.length, P5.length + e.length, sk)) (by
            obtain ⟨z1, z2, z3, z4, z5, z6⟩ := d2.rl.lastA.1
            refine ⟨?_, ?_, ?_, ?_, ?_, ?_⟩ <;> simp (disch := omega) only [wI_1, wI_2, wL_1, wL_2, true_and, and_true, and_self, false_and, and_false, if_true, if_false, if_pos, if_neg, z1, z2, z3, z4])
          have e2 := d2.ofN fm' hrl (h.ow.app _)
          have e4 := e2.nm.2 4 _ rfl
          have f1 : frm (X1 (kg K)) (ax_wI (ax_wI s4 (kg K) 18 Ls.length (nI (P5.length + e.length))) (kg K) 19 Ls.length (nI sk)) (ax_wI (ax_wI (ax_wI s4 (kg K) 18 Ls.length (nI (P5.length + e.length))) (kg K) 19 Ls.length (nI sk)) (kg K) 1 4 (nI (sk + 1))) := frm.refl.wI _ _ _ _ (by unfold X1; omega)
          have e3 := e2.of1 f1 (e2.nm.set (k := 4) (v := sk + 1)) (by obtain ⟨-, -, -, -, -, -, -, k8, -⟩ := id e2; exact k8)
          have hat : atA (kg K) (P5.length + e.length - 1) (aOf e) (ax_wI (ax_wI (ax_wI s4 (kg K) 18 Ls.length (nI (P5.length + e.length))) (kg K) 19 Ls.length (nI sk)) (kg K) 1 4 (nI (sk + 1))) := by
            have hd : ∀ r, 10 ≤ r → r ≤ 12 → s4.1 (kg K) r (P5.length + e.length - 1) = s3.1 (kg K) r (P5.length + e.length - 1) := fun r _ _ => d3.1 _ _ _ (by unfold RF; omega)
            obtain ⟨u1, u2, u3⟩ := c5
            refine ⟨?_, ?_, ?_⟩ <;> simp (disch := omega) only [wI_1, wI_2, wL_1, wL_2, true_and, and_true, and_self, false_and, and_false, if_true, if_false, if_pos, if_neg, hd, u1, u2, u3]
          obtain ⟨s5, g1, g2, g3⟩ := rd_countE e3 hat c6 c4
          refine ⟨nI 1, s5, ?_, ⟨rfl, g2, by omega⟩, (((((XR.ofR a3).trans (XR.ofN b3)).trans c3).trans (XR.ofR d3)).trans (XR.ofN fm')).trans ((XR.of1 f1).trans (XR.of1 g3))⟩
          unfold f_R_writing
          simp (disch := omega) only [ax_let, Option.bind_some, cond_true, cond_false, if_pos, if_neg, if_true, if_false, eq_self, nI_add, nI_ltI, nI_leI, nI_eq, nI_clamp, pu_in, c_0, c_1, c_2, c_3, c_4, c_5, c_6, c_7, c_8, c_9, c_10, c_11, c_12, c_15, c_16, c_17, c_32, c_35, c_36, c_38, c_40, c_41, c_42, c_43, c_44, c_45, c_48, c_57, c_58, c_59, c_60, c_61, c_62, c_64, c_65, c_69, c_75, c_83, c_91, c_93, c_94, c_97, c_105, c_106, c_110, c_119, c_123, c_124, c_125, c_126, c_240, c_256, c_400, c_m, nI_m1, nM_i, wI_1, wI_2, wL_1, wL_2, true_and, and_true, and_self, false_and, and_false, if_true, if_false, a1, b1, c1, d1, d48, d4, g1]
    · rw [if_neg hc]
      exact ⟨s, stop ((c, p) :: ts') (by simp only [pTake, hc, if_false]), h.rd, frm.refl⟩
end
