def y_P_clear : MethodName := ⟨"CipherNotation$Program", "clear", "()V"⟩
theorem d_P_clear_0 : decode prog_5_method_2_code 0 = .ok (.iconst 0, 1) := by decide +kernel
theorem d_P_clear_1 : decode prog_5_method_2_code 1 = .ok (.istore_n 1, 1) := by decide +kernel
theorem d_P_clear_2 : decode prog_5_method_2_code 2 = .ok (.iload_n 1, 1) := by decide +kernel
theorem d_P_clear_3 : decode prog_5_method_2_code 3 = .ok (.bipush (8), 2) := by decide +kernel
theorem d_P_clear_5 : decode prog_5_method_2_code 5 = .ok (.if_icmp .ge (16), 3) := by decide +kernel
theorem d_P_clear_8 : decode prog_5_method_2_code 8 = .ok (.aload_n 0, 1) := by decide +kernel
theorem d_P_clear_9 : decode prog_5_method_2_code 9 = .ok (.getfield (9), 3) := by decide +kernel
theorem d_P_clear_12 : decode prog_5_method_2_code 12 = .ok (.iload_n 1, 1) := by decide +kernel
theorem d_P_clear_13 : decode prog_5_method_2_code 13 = .ok (.iconst 0, 1) := by decide +kernel
theorem d_P_clear_14 : decode prog_5_method_2_code 14 = .ok (.iastore, 1) := by decide +kernel
theorem d_P_clear_15 : decode prog_5_method_2_code 15 = .ok (.iinc 1 (1), 3) := by decide +kernel
theorem d_P_clear_18 : decode prog_5_method_2_code 18 = .ok (.goto (-16), 3) := by decide +kernel
theorem d_P_clear_21 : decode prog_5_method_2_code 21 = .ok (.aload_n 0, 1) := by decide +kernel
theorem d_P_clear_22 : decode prog_5_method_2_code 22 = .ok (.getfield (24), 3) := by decide +kernel
theorem d_P_clear_25 : decode prog_5_method_2_code 25 = .ok (.iconst 0, 1) := by decide +kernel
theorem d_P_clear_26 : decode prog_5_method_2_code 26 = .ok (.putfield (49), 3) := by decide +kernel
theorem d_P_clear_29 : decode prog_5_method_2_code 29 = .ok (.aload_n 0, 1) := by decide +kernel
theorem d_P_clear_30 : decode prog_5_method_2_code 30 = .ok (.getfield (31), 3) := by decide +kernel
theorem d_P_clear_33 : decode prog_5_method_2_code 33 = .ok (.iconst 0, 1) := by decide +kernel
theorem d_P_clear_34 : decode prog_5_method_2_code 34 = .ok (.putfield (52), 3) := by decide +kernel
theorem d_P_clear_37 : decode prog_5_method_2_code 37 = .ok (.aload_n 0, 1) := by decide +kernel
theorem d_P_clear_38 : decode prog_5_method_2_code 38 = .ok (.iconst 0, 1) := by decide +kernel
theorem d_P_clear_39 : decode prog_5_method_2_code 39 = .ok (.putfield (45), 3) := by decide +kernel
theorem d_P_clear_42 : decode prog_5_method_2_code 42 = .ok (.return_, 1) := by decide +kernel
theorem fd_P_9 : ax_fd "CipherNotation$Program" 9 3 0 := ⟨nC3, nT3, 9, nY3, rfl, nW3, by decide, nw_1 218 (by decide +kernel) rfl, nO3, nA3⟩
def lp_P_clear_2 (F : Nat) (g : Nat) : Nat → Int32 → ax_σ → Option (ax_σ)
  | 0, _, _ => none
  | n + 1, x1, s =>
    if (8 : Int32) ≤ x1 then
      some s
    else
      bif ax_in x1 8 then
      ax_let (ax_wI s g 1 (x1).toNatClampNeg (0 : Int32)) (fun s2 =>
        lp_P_clear_2 F g n (x1 + (1 : Int32)) s2)
      else none
set_option maxHeartbeats 4000000 in
set_option maxRecDepth 100000 in
theorem pl_P_clear_2 {D : va_G} {cA : Nat → ClassId} {ad : Nat → Nat → Nat} {al : List (Nat × Nat)} {θ : ax_Θ} {l : Launch} {ρ : ax_ρ} {G : ax_G} {F g : Nat}  (hg : ax_Mg al g) (hB : ax_B D cA ad al θ l "CipherNotation$Program" prog_5_method_2_code 2 0 G) : ∀ (n : Nat) {x1 : Int32} {s : ax_σ} (out : ax_σ), lp_P_clear_2 F g n x1 s = some out → (∀ (es : ax_σ), out = es → ax_R G 2 0 0 (21, [(0, .inr (g, 0))], [], ax_m (es) ρ)) → ax_R G 2 0 0 (2, [(0, .inr (g, 0)), (1, .inl (.int (x1)))], [], ax_m (s) ρ) := by
  have hK := hB.K
  have hal := hB.la
  intro n
  induction n with
  | zero =>
    intro x1 s out h
    cases h
  | succ n ih =>
    intro x1 s out h KE
    rw [lp_P_clear_2] at h
    refine ax_bk hK (ax_fc (ax_v_ld (ax_r_iload_n (i := 1) d_P_clear_2 rfl)) (ax_fc (ax_v_pu (ax_r_bipush (v := 8) d_P_clear_3 (by decide))) ax_fn)) (y := (5, [(0, .inr (g, 0)), (1, .inl (.int (x1)))], [.inl (.int ((8 : Int32))), .inl (.int (x1))], ax_m (s) ρ)) rfl ⟨trivial, trivial, trivial⟩ ?_
    refine ax_ic_ge (tgt := 21) hK d_P_clear_5 (by decide) (fun c3 => ?_) (fun c3 => ?_)
    · replace h := ax_it c3 h
      cases h
      exact ax_Lsub [0] rfl (KE _ rfl)
    · replace h := ax_if c3 h
      obtain ⟨b1, h⟩ := ax_gd h
      refine ax_bk hK (ax_fc (ax_v_ld (ax_r_aload_n (i := 0) d_P_clear_8 rfl)) (ax_fc (ax_w_gf (e := none) hal d_P_clear_9 fd_P_9) (ax_fc (ax_v_ld (ax_r_iload_n (i := 1) d_P_clear_12 rfl)) (ax_fc (ax_v_pu (ax_r_iconst (v := 0) d_P_clear_13 (by decide))) (ax_fc (ax_w_iast hal d_P_clear_14) ax_fn))))) (y := (15, [(0, .inr (g, 0)), (1, .inl (.int (x1)))], [], ax_m (ax_wI s g 1 (x1).toNatClampNeg (0 : Int32)) ρ)) rfl ⟨trivial, (hg 0 rfl), trivial, trivial, ⟨(hg 1 rfl), ax_inp b1⟩, trivial⟩ ?_
      refine ax_lt (Q := fun ςς => ax_R G 2 0 0 (15, [(0, .inr (g, 0)), (1, .inl (.int (x1)))], [], ax_m (ςς) ρ)) h (fun s2 h => ?_)
      refine ax_bk hK (ax_fc (ax_v_ii (d := 1) d_P_clear_15 (by decide)) (ax_fc (ax_v_go (tgt := 2) d_P_clear_18 (by decide)) ax_fn)) (y := (2, [(1, .inl (.int ((x1 + (1 : Int32))))), (0, .inr (g, 0))], [], ax_m (s2) ρ)) rfl ⟨trivial, trivial, trivial⟩ ?_
      exact ax_Lsub [1, 0] rfl (ih _ h KE)
theorem fd_P_24 : ax_fd "CipherNotation$Program" 24 3 3 := ⟨nC3, nT3, 9, nY3, rfl, nW3, by decide, nw_1 229 (by decide +kernel) rfl, nO3, nA3⟩
theorem fp_P_49 : ax_fp "CipherNotation$Program" 49 0 8 (.int) := ⟨nC0, nT0, 9, nY0, rfl, nW0, by decide, nw_1 153 (by decide +kernel) rfl, nO0, nA0, by decide +kernel, by decide +kernel⟩
theorem fd_P_31 : ax_fd "CipherNotation$Program" 31 3 4 := ⟨nC3, nT3, 9, nY3, rfl, nW3, by decide, nw_1 232 (by decide +kernel) rfl, nO3, nA3⟩
theorem fp_P_52 : ax_fp "CipherNotation$Program" 52 1 6 (.int) := ⟨nC1, nT1, 7, nY1, rfl, nW1, by decide, nw_1 201 (by decide +kernel) rfl, nO1, nA1, by decide +kernel, by decide +kernel⟩
theorem fp_P_45 : ax_fp "CipherNotation$Program" 45 3 8 (.int) := ⟨nC3, nT3, 9, nY3, rfl, nW3, by decide, nw_2 1 (by decide +kernel) rfl, nO3, nA3, by decide +kernel, by decide +kernel⟩
def f_P_clear (F : Nat) (g : Nat) (s : ax_σ) : Option (ax_σ) :=
  Option.bind (lp_P_clear_2 F g F (0 : Int32) s) (fun s4 =>
    ax_let (ax_wI s4 g 4 8 (0 : Int32)) (fun s5 =>
      ax_let (ax_wI s5 g 13 6 (0 : Int32)) (fun s6 =>
        ax_let (ax_wI s6 g 0 8 (0 : Int32)) (fun s7 =>
          some (s7)))))
set_option maxHeartbeats 4000000 in
set_option maxRecDepth 100000 in
theorem t_P_clear {l : Launch} {D : va_G} {cA : Nat → ClassId} {ad : Nat → Nat → Nat} {al : List (Nat × Nat)} {θ : ax_Θ} {ρ : ax_ρ} {F : Nat} {g : Nat} (hg : ax_Mg al g)  {s : ax_σ} {s0 : ax_σ} (h : f_P_clear F g s = some s0) : ax_T l D cA ad al θ y_P_clear (.code y_P_clear prog_5_method_2_code 2 none) 0 [.inr (g, 0)] (ax_m s ρ) none (ax_m s0 ρ) := by
  refine ax_T_of (own := "CipherNotation$Program") (by decide) rfl (Nat.le_of_ble_eq_true rfl) [(0, .inr (g, 0))] rfl ?_
  intro G hA
  have hB := hA.B
  have hK := hB.K
  have hal := hB.la
  unfold f_P_clear at h
  refine ax_bk hK (ax_fc (ax_v_pu (ax_r_iconst (v := 0) d_P_clear_0 (by decide))) (ax_fc (ax_v_so (ax_r_istore_n (i := 1) d_P_clear_1 rfl)) ax_fn)) (y := (2, [(1, .inl (.int ((0 : Int32)))), (0, .inr (g, 0))], [], ax_m (s) ρ)) rfl ⟨trivial, trivial, trivial⟩ ?_
  obtain ⟨w8, hw8, h⟩ := ax_bd h
  refine ax_Lsub [1, 0] rfl (pl_P_clear_2 hg hB F _ hw8 ?_)
  intro s4 e9
  subst w8
  try dsimp only at h
  change ax_R G 2 0 0 (21, [(0, .inr (g, 0))], [], ax_m (s4) ρ)
  refine ax_bk hK (ax_fc (ax_v_ld (ax_r_aload_n (i := 0) d_P_clear_21 rfl)) (ax_fc (ax_w_gf (e := none) hal d_P_clear_22 fd_P_24) (ax_fc (ax_v_pu (ax_r_iconst (v := 0) d_P_clear_25 (by decide))) (ax_fc (ax_w_pf (tc := 0) hal d_P_clear_26 fp_P_49 rfl) ax_fn)))) (y := (29, [(0, .inr (g, 0))], [], ax_m (ax_wI s4 g 4 8 (0 : Int32)) ρ)) rfl ⟨trivial, (hg 0 rfl), trivial, (hg 4 rfl), trivial⟩ ?_
  refine ax_lt (Q := fun ςς => ax_R G 2 0 0 (29, [(0, .inr (g, 0))], [], ax_m (ςς) ρ)) h (fun s5 h => ?_)
  refine ax_bk hK (ax_fc (ax_v_ld (ax_r_aload_n (i := 0) d_P_clear_29 rfl)) (ax_fc (ax_w_gf (e := none) hal d_P_clear_30 fd_P_31) (ax_fc (ax_v_pu (ax_r_iconst (v := 0) d_P_clear_33 (by decide))) (ax_fc (ax_w_pf (tc := 0) hal d_P_clear_34 fp_P_52 rfl) ax_fn)))) (y := (37, [(0, .inr (g, 0))], [], ax_m (ax_wI s5 g 13 6 (0 : Int32)) ρ)) rfl ⟨trivial, (hg 0 rfl), trivial, (hg 13 rfl), trivial⟩ ?_
  refine ax_lt (Q := fun ςς => ax_R G 2 0 0 (37, [(0, .inr (g, 0))], [], ax_m (ςς) ρ)) h (fun s6 h => ?_)
  refine ax_bk hK (ax_fc (ax_v_ld (ax_r_aload_n (i := 0) d_P_clear_37 rfl)) (ax_fc (ax_v_pu (ax_r_iconst (v := 0) d_P_clear_38 (by decide))) (ax_fc (ax_w_pf (tc := 0) hal d_P_clear_39 fp_P_45 rfl) ax_fn))) (y := (42, [(0, .inr (g, 0))], [], ax_m (ax_wI s6 g 0 8 (0 : Int32)) ρ)) rfl ⟨trivial, trivial, (hg 0 rfl), trivial⟩ ?_
  refine ax_lt (Q := fun ςς => ax_R G 2 0 0 (42, [(0, .inr (g, 0))], [], ax_m (ςς) ρ)) h (fun s7 h => ?_)
  cases h
  exact ax_vret hA d_P_clear_42
def y_P_isTooLarge : MethodName := ⟨"CipherNotation$Program", "isTooLarge", "()Z"⟩
theorem d_P_isTooLarge_0 : decode prog_5_method_3_code 0 = .ok (.aload_n 0, 1) := by decide +kernel
theorem d_P_isTooLarge_1 : decode prog_5_method_3_code 1 = .ok (.getfield (9), 3) := by decide +kernel
theorem d_P_isTooLarge_4 : decode prog_5_method_3_code 4 = .ok (.iconst 4, 1) := by decide +kernel
theorem d_P_isTooLarge_5 : decode prog_5_method_3_code 5 = .ok (.iaload, 1) := by decide +kernel
theorem d_P_isTooLarge_6 : decode prog_5_method_3_code 6 = .ok (.bipush (32), 2) := by decide +kernel
theorem d_P_isTooLarge_8 : decode prog_5_method_3_code 8 = .ok (.if_icmp .gt (28), 3) := by decide +kernel
theorem d_P_isTooLarge_11 : decode prog_5_method_3_code 11 = .ok (.aload_n 0, 1) := by decide +kernel
theorem d_P_isTooLarge_12 : decode prog_5_method_3_code 12 = .ok (.getfield (9), 3) := by decide +kernel
theorem d_P_isTooLarge_15 : decode prog_5_method_3_code 15 = .ok (.bipush (6), 2) := by decide +kernel
theorem d_P_isTooLarge_17 : decode prog_5_method_3_code 17 = .ok (.iaload, 1) := by decide +kernel
theorem d_P_isTooLarge_18 : decode prog_5_method_3_code 18 = .ok (.sipush (400), 3) := by decide +kernel
theorem d_P_isTooLarge_21 : decode prog_5_method_3_code 21 = .ok (.if_icmp .gt (15), 3) := by decide +kernel
theorem d_P_isTooLarge_24 : decode prog_5_method_3_code 24 = .ok (.aload_n 0, 1) := by decide +kernel
theorem d_P_isTooLarge_25 : decode prog_5_method_3_code 25 = .ok (.getfield (9), 3) := by decide +kernel
theorem d_P_isTooLarge_28 : decode prog_5_method_3_code 28 = .ok (.bipush (7), 2) := by decide +kernel
theorem d_P_isTooLarge_30 : decode prog_5_method_3_code 30 = .ok (.iaload, 1) := by decide +kernel
theorem d_P_isTooLarge_31 : decode prog_5_method_3_code 31 = .ok (.bipush (8), 2) := by decide +kernel
theorem d_P_isTooLarge_33 : decode prog_5_method_3_code 33 = .ok (.if_icmp .le (7), 3) := by decide +kernel
theorem d_P_isTooLarge_36 : decode prog_5_method_3_code 36 = .ok (.iconst 1, 1) := by decide +kernel
theorem d_P_isTooLarge_37 : decode prog_5_method_3_code 37 = .ok (.goto (4), 3) := by decide +kernel
theorem d_P_isTooLarge_40 : decode prog_5_method_3_code 40 = .ok (.iconst 0, 1) := by decide +kernel
theorem d_P_isTooLarge_41 : decode prog_5_method_3_code 41 = .ok (.ireturn, 1) := by decide +kernel
def f_P_isTooLarge (g : Nat) (s : ax_σ) : Option (Int32) :=
  bif ax_in (4 : Int32) 8 then
  Option.bind (
    if (32 : Int32) < (s.1 g 1 ((4 : Int32)).toNatClampNeg) then
      some true
    else
      bif ax_in (6 : Int32) 8 then
      if (400 : Int32) < (s.1 g 1 ((6 : Int32)).toNatClampNeg) then
        some true
      else
        bif ax_in (7 : Int32) 8 then
        if (s.1 g 1 ((7 : Int32)).toNatClampNeg) ≤ (8 : Int32) then
          some false
        else
          some true
        else none
      else none) (fun w7 => bif w7 then
    some ((1 : Int32))
  else
    some ((0 : Int32)))
  else none
set_option maxHeartbeats 4000000 in
set_option maxRecDepth 100000 in
theorem t_P_isTooLarge {l : Launch} {D : va_G} {cA : Nat → ClassId} {ad : Nat → Nat → Nat} {al : List (Nat × Nat)} {θ : ax_Θ} {ρ : ax_ρ} {g : Nat} (hg : ax_Mg al g)  {s : ax_σ} {r0 : Int32} (h : f_P_isTooLarge g s = some r0) : ax_T l D cA ad al θ y_P_isTooLarge (.code y_P_isTooLarge prog_5_method_3_code 1 (some .boolean)) 0 [.inr (g, 0)] (ax_m s ρ) (some (.inl (.int r0))) (ax_m s ρ) := by
  refine ax_T_of (own := "CipherNotation$Program") (by decide) rfl (Nat.le_of_ble_eq_true rfl) [(0, .inr (g, 0))] rfl ?_
  intro G hA
  have hB := hA.B
  have hK := hB.K
  have hal := hB.la
  unfold f_P_isTooLarge at h
  obtain ⟨b1, h⟩ := ax_gd h
  refine ax_bk hK (ax_fc (ax_v_ld (ax_r_aload_n (i := 0) d_P_isTooLarge_0 rfl)) (ax_fc (ax_w_gf (e := none) hal d_P_isTooLarge_1 fd_P_9) (ax_fc (ax_v_pu (ax_r_iconst (v := 4) d_P_isTooLarge_4 (by decide))) (ax_fc (ax_w_iald hal d_P_isTooLarge_5) (ax_fc (ax_v_pu (ax_r_bipush (v := 32) d_P_isTooLarge_6 (by decide))) ax_fn))))) (y := (8, [(0, .inr (g, 0))], [.inl (.int ((32 : Int32))), .inl (.int ((s.1 g 1 ((4 : Int32)).toNatClampNeg)))], ax_m (s) ρ)) rfl ⟨trivial, (hg 0 rfl), trivial, ⟨(hg 1 rfl), ax_inp b1⟩, trivial, trivial⟩ ?_
  obtain ⟨w7, hw7, h⟩ := ax_bd h
  have KTw7 : w7 = true → ax_R G 1 0 0 (36, [], [], ax_m (s) ρ) := by
    intro e9
    subst w7
    replace h := ax_ct h
    refine ax_bk hK (ax_fc (ax_v_pu (ax_r_iconst (v := 1) d_P_isTooLarge_36 (by decide))) (ax_fc (ax_v_go (tgt := 41) d_P_isTooLarge_37 (by decide)) ax_fn)) (y := (41, [], [.inl (.int ((1 : Int32)))], ax_m (s) ρ)) rfl ⟨trivial, trivial, trivial⟩ ?_
    cases h
    exact ax_zret hA (by decide) d_P_isTooLarge_41
  have KFw7 : w7 = false → ax_R G 1 0 0 (40, [], [], ax_m (s) ρ) := by
    intro e9
    subst w7
    replace h := ax_cf h
    refine ax_bk hK (ax_fc (ax_v_pu (ax_r_iconst (v := 0) d_P_isTooLarge_40 (by decide))) ax_fn) (y := (41, [], [.inl (.int ((0 : Int32)))], ax_m (s) ρ)) rfl ⟨trivial, trivial⟩ ?_
    cases h
    exact ax_zret hA (by decide) d_P_isTooLarge_41
  clear h
  have h := hw7
  refine ax_ic_gt (tgt := 36) hK d_P_isTooLarge_8 (by decide) (fun c6 => ?_) (fun c6 => ?_)
  · replace h := ax_it c6 h
    cases h
    exact ax_Lsub [] rfl (KTw7 rfl)
  · replace h := ax_if c6 h
    obtain ⟨b2, h⟩ := ax_gd h
    refine ax_bk hK (ax_fc (ax_v_ld (ax_r_aload_n (i := 0) d_P_isTooLarge_11 rfl)) (ax_fc (ax_w_gf (e := none) hal d_P_isTooLarge_12 fd_P_9) (ax_fc (ax_v_pu (ax_r_bipush (v := 6) d_P_isTooLarge_15 (by decide))) (ax_fc (ax_w_iald hal d_P_isTooLarge_17) (ax_fc (ax_v_pu (ax_r_sipush (v := 400) d_P_isTooLarge_18 (by decide))) ax_fn))))) (y := (21, [(0, .inr (g, 0))], [.inl (.int ((400 : Int32))), .inl (.int ((s.1 g 1 ((6 : Int32)).toNatClampNeg)))], ax_m (s) ρ)) rfl ⟨trivial, (hg 0 rfl), trivial, ⟨(hg 1 rfl), ax_inp b2⟩, trivial, trivial⟩ ?_
    refine ax_ic_gt (tgt := 36) hK d_P_isTooLarge_21 (by decide) (fun c5 => ?_) (fun c5 => ?_)
    · replace h := ax_it c5 h
      cases h
      exact ax_Lsub [] rfl (KTw7 rfl)
    · replace h := ax_if c5 h
      obtain ⟨b3, h⟩ := ax_gd h
      refine ax_bk hK (ax_fc (ax_v_ld (ax_r_aload_n (i := 0) d_P_isTooLarge_24 rfl)) (ax_fc (ax_w_gf (e := none) hal d_P_isTooLarge_25 fd_P_9) (ax_fc (ax_v_pu (ax_r_bipush (v := 7) d_P_isTooLarge_28 (by decide))) (ax_fc (ax_w_iald hal d_P_isTooLarge_30) (ax_fc (ax_v_pu (ax_r_bipush (v := 8) d_P_isTooLarge_31 (by decide))) ax_fn))))) (y := (33, [(0, .inr (g, 0))], [.inl (.int ((8 : Int32))), .inl (.int ((s.1 g 1 ((7 : Int32)).toNatClampNeg)))], ax_m (s) ρ)) rfl ⟨trivial, (hg 0 rfl), trivial, ⟨(hg 1 rfl), ax_inp b3⟩, trivial, trivial⟩ ?_
      refine ax_ic_le (tgt := 40) hK d_P_isTooLarge_33 (by decide) (fun c4 => ?_) (fun c4 => ?_)
      · replace h := ax_it c4 h
        cases h
        exact ax_Lsub [] rfl (KFw7 rfl)
      · replace h := ax_if c4 h
        cases h
        exact ax_Lsub [] rfl (KTw7 rfl)
def y_P_turnTableRound : MethodName := ⟨"CipherNotation$Program", "turnTableRound", "(I)V"⟩
theorem d_P_turnTableRound_0 : decode prog_5_method_4_code 0 = .ok (.iload_n 1, 1) := by decide +kernel
theorem d_P_turnTableRound_1 : decode prog_5_method_4_code 1 = .ok (.bipush (16), 2) := by decide +kernel
theorem d_P_turnTableRound_3 : decode prog_5_method_4_code 3 = .ok (.imul, 1) := by decide +kernel
theorem d_P_turnTableRound_4 : decode prog_5_method_4_code 4 = .ok (.istore_n 2, 1) := by decide +kernel
theorem d_P_turnTableRound_5 : decode prog_5_method_4_code 5 = .ok (.iconst 0, 1) := by decide +kernel
theorem d_P_turnTableRound_6 : decode prog_5_method_4_code 6 = .ok (.istore_n 3, 1) := by decide +kernel
theorem d_P_turnTableRound_7 : decode prog_5_method_4_code 7 = .ok (.iload_n 3, 1) := by decide +kernel
theorem d_P_turnTableRound_8 : decode prog_5_method_4_code 8 = .ok (.bipush (16), 2) := by decide +kernel
theorem d_P_turnTableRound_10 : decode prog_5_method_4_code 10 = .ok (.if_icmp .ge (18), 3) := by decide +kernel
theorem d_P_turnTableRound_13 : decode prog_5_method_4_code 13 = .ok (.aload_n 0, 1) := by decide +kernel
theorem d_P_turnTableRound_14 : decode prog_5_method_4_code 14 = .ok (.getfield (18), 3) := by decide +kernel
theorem d_P_turnTableRound_17 : decode prog_5_method_4_code 17 = .ok (.iload_n 2, 1) := by decide +kernel
theorem d_P_turnTableRound_18 : decode prog_5_method_4_code 18 = .ok (.iload_n 3, 1) := by decide +kernel
theorem d_P_turnTableRound_19 : decode prog_5_method_4_code 19 = .ok (.iadd, 1) := by decide +kernel
theorem d_P_turnTableRound_20 : decode prog_5_method_4_code 20 = .ok (.iconst (-1), 1) := by decide +kernel
theorem d_P_turnTableRound_21 : decode prog_5_method_4_code 21 = .ok (.iastore, 1) := by decide +kernel
theorem d_P_turnTableRound_22 : decode prog_5_method_4_code 22 = .ok (.iinc 3 (1), 3) := by decide +kernel
theorem d_P_turnTableRound_25 : decode prog_5_method_4_code 25 = .ok (.goto (-18), 3) := by decide +kernel
theorem d_P_turnTableRound_28 : decode prog_5_method_4_code 28 = .ok (.bipush (15), 2) := by decide +kernel
theorem d_P_turnTableRound_30 : decode prog_5_method_4_code 30 = .ok (.istore_n 3, 1) := by decide +kernel
theorem d_P_turnTableRound_31 : decode prog_5_method_4_code 31 = .ok (.iload_n 3, 1) := by decide +kernel
theorem d_P_turnTableRound_32 : decode prog_5_method_4_code 32 = .ok (.ifCond .lt (25), 3) := by decide +kernel
theorem d_P_turnTableRound_35 : decode prog_5_method_4_code 35 = .ok (.aload_n 0, 1) := by decide +kernel
theorem d_P_turnTableRound_36 : decode prog_5_method_4_code 36 = .ok (.getfield (18), 3) := by decide +kernel
theorem d_P_turnTableRound_39 : decode prog_5_method_4_code 39 = .ok (.iload_n 2, 1) := by decide +kernel
theorem d_P_turnTableRound_40 : decode prog_5_method_4_code 40 = .ok (.aload_n 0, 1) := by decide +kernel
theorem d_P_turnTableRound_41 : decode prog_5_method_4_code 41 = .ok (.getfield (15), 3) := by decide +kernel
theorem d_P_turnTableRound_44 : decode prog_5_method_4_code 44 = .ok (.iload_n 2, 1) := by decide +kernel
theorem d_P_turnTableRound_45 : decode prog_5_method_4_code 45 = .ok (.iload_n 3, 1) := by decide +kernel
theorem d_P_turnTableRound_46 : decode prog_5_method_4_code 46 = .ok (.iadd, 1) := by decide +kernel
theorem d_P_turnTableRound_47 : decode prog_5_method_4_code 47 = .ok (.iaload, 1) := by decide +kernel
theorem d_P_turnTableRound_48 : decode prog_5_method_4_code 48 = .ok (.iadd, 1) := by decide +kernel
theorem d_P_turnTableRound_49 : decode prog_5_method_4_code 49 = .ok (.iload_n 3, 1) := by decide +kernel
theorem d_P_turnTableRound_50 : decode prog_5_method_4_code 50 = .ok (.iastore, 1) := by decide +kernel
theorem d_P_turnTableRound_51 : decode prog_5_method_4_code 51 = .ok (.iinc 3 (-1), 3) := by decide +kernel
theorem d_P_turnTableRound_54 : decode prog_5_method_4_code 54 = .ok (.goto (-23), 3) := by decide +kernel
theorem d_P_turnTableRound_57 : decode prog_5_method_4_code 57 = .ok (.return_, 1) := by decide +kernel
theorem fd_P_18 : ax_fd "CipherNotation$Program" 18 3 2 := ⟨nC3, nT3, 9, nY3, rfl, nW3, by decide, nw_1 226 (by decide +kernel) rfl, nO3, nA3⟩
def lp_P_turnTableRound_7 (F : Nat) (g : Nat) (x2 : Int32) : Nat → Int32 → ax_σ → Option (ax_σ)
  | 0, _, _ => none
  | n + 1, x3, s =>
    if (16 : Int32) ≤ x3 then
      some s
    else
      bif ax_in (x2 + x3) 32 then
      ax_let (ax_wI s g 3 ((x2 + x3)).toNatClampNeg (-1 : Int32)) (fun s2 =>
        lp_P_turnTableRound_7 F g x2 n (x3 + (1 : Int32)) s2)
      else none
set_option maxHeartbeats 4000000 in
set_option maxRecDepth 100000 in
theorem pl_P_turnTableRound_7 {D : va_G} {cA : Nat → ClassId} {ad : Nat → Nat → Nat} {al : List (Nat × Nat)} {θ : ax_Θ} {l : Launch} {ρ : ax_ρ} {G : ax_G} {F g : Nat} {x2 : Int32} (hg : ax_Mg al g) (hB : ax_B D cA ad al θ l "CipherNotation$Program" prog_5_method_4_code 4 0 G) : ∀ (n : Nat) {x3 : Int32} {s : ax_σ} (out : ax_σ), lp_P_turnTableRound_7 F g x2 n x3 s = some out → (∀ (es : ax_σ), out = es → ax_R G 4 0 0 (28, [(0, .inr (g, 0)), (2, .inl (.int (x2)))], [], ax_m (es) ρ)) → ax_R G 4 0 0 (7, [(0, .inr (g, 0)), (2, .inl (.int (x2))), (3, .inl (.int (x3)))], [], ax_m (s) ρ) := by
  have hK := hB.K
  have hal := hB.la
  intro n
  induction n with
  | zero =>
    intro x3 s out h
    cases h
  | succ n ih =>
    intro x3 s out h KE
    rw [lp_P_turnTableRound_7] at h
    refine ax_bk hK (ax_fc (ax_v_ld (ax_r_iload_n (i := 3) d_P_turnTableRound_7 rfl)) (ax_fc (ax_v_pu (ax_r_bipush (v := 16) d_P_turnTableRound_8 (by decide))) ax_fn)) (y := (10, [(0, .inr (g, 0)), (2, .inl (.int (x2))), (3, .inl (.int (x3)))], [.inl (.int ((16 : Int32))), .inl (.int (x3))], ax_m (s) ρ)) rfl ⟨trivial, trivial, trivial⟩ ?_
    refine ax_ic_ge (tgt := 28) hK d_P_turnTableRound_10 (by decide) (fun c3 => ?_) (fun c3 => ?_)
    · replace h := ax_it c3 h
      cases h
      exact ax_Lsub [0, 1] rfl (KE _ rfl)
    · replace h := ax_if c3 h
      obtain ⟨b1, h⟩ := ax_gd h
      refine ax_bk hK (ax_fc (ax_v_ld (ax_r_aload_n (i := 0) d_P_turnTableRound_13 rfl)) (ax_fc (ax_w_gf (e := none) hal d_P_turnTableRound_14 fd_P_18) (ax_fc (ax_v_ld (ax_r_iload_n (i := 2) d_P_turnTableRound_17 rfl)) (ax_fc (ax_v_ld (ax_r_iload_n (i := 3) d_P_turnTableRound_18 rfl)) (ax_fc (ax_v_pu (ax_r_iadd d_P_turnTableRound_19)) (ax_fc (ax_v_pu (ax_r_iconst (v := -1) d_P_turnTableRound_20 (by decide))) (ax_fc (ax_w_iast hal d_P_turnTableRound_21) ax_fn))))))) (y := (22, [(0, .inr (g, 0)), (2, .inl (.int (x2))), (3, .inl (.int (x3)))], [], ax_m (ax_wI s g 3 ((x2 + x3)).toNatClampNeg (-1 : Int32)) ρ)) rfl ⟨trivial, (hg 0 rfl), trivial, trivial, trivial, trivial, ⟨(hg 3 rfl), ax_inp b1⟩, trivial⟩ ?_
      refine ax_lt (Q := fun ςς => ax_R G 4 0 0 (22, [(0, .inr (g, 0)), (2, .inl (.int (x2))), (3, .inl (.int (x3)))], [], ax_m (ςς) ρ)) h (fun s2 h => ?_)
      refine ax_bk hK (ax_fc (ax_v_ii (d := 1) d_P_turnTableRound_22 (by decide)) (ax_fc (ax_v_go (tgt := 7) d_P_turnTableRound_25 (by decide)) ax_fn)) (y := (7, [(3, .inl (.int ((x3 + (1 : Int32))))), (0, .inr (g, 0)), (2, .inl (.int (x2)))], [], ax_m (s2) ρ)) rfl ⟨trivial, trivial, trivial⟩ ?_
      exact ax_Lsub [1, 2, 0] rfl (ih _ h KE)
theorem fd_P_15 : ax_fd "CipherNotation$Program" 15 3 1 := ⟨nC3, nT3, 9, nY3, rfl, nW3, by decide, nw_1 222 (by decide +kernel) rfl, nO3, nA3⟩
def lp_P_turnTableRound_31 (F : Nat) (g : Nat) (x2 : Int32) : Nat → Int32 → ax_σ → Option (ax_σ)
  | 0, _, _ => none
  | n + 1, x3, s =>
    if x3 < (0 : Int32) then
      some s
    else
      bif ax_in (x2 + x3) 32 then
      bif ax_in (x2 + (s.1 g 2 ((x2 + x3)).toNatClampNeg)) 32 then
      ax_let (ax_wI s g 3 ((x2 + (s.1 g 2 ((x2 + x3)).toNatClampNeg))).toNatClampNeg x3) (fun s7 =>
        lp_P_turnTableRound_31 F g x2 n (x3 + (-1 : Int32)) s7)
      else none
      else none
set_option maxHeartbeats 4000000 in
set_option maxRecDepth 100000 in
theorem pl_P_turnTableRound_31 {D : va_G} {cA : Nat → ClassId} {ad : Nat → Nat → Nat} {al : List (Nat × Nat)} {θ : ax_Θ} {l : Launch} {ρ : ax_ρ} {G : ax_G} {F g : Nat} {x2 : Int32} (hg : ax_Mg al g) (hB : ax_B D cA ad al θ l "CipherNotation$Program" prog_5_method_4_code 4 0 G) : ∀ (n : Nat) {x3 : Int32} {s : ax_σ} (out : ax_σ), lp_P_turnTableRound_31 F g x2 n x3 s = some out → (∀ (es : ax_σ), out = es → ax_R G 4 0 0 (57, [], [], ax_m (es) ρ)) → ax_R G 4 0 0 (31, [(0, .inr (g, 0)), (2, .inl (.int (x2))), (3, .inl (.int (x3)))], [], ax_m (s) ρ) := by
  have hK := hB.K
  have hal := hB.la
  intro n
  induction n with
  | zero =>
    intro x3 s out h
    cases h
  | succ n ih =>
    intro x3 s out h KE
    rw [lp_P_turnTableRound_31] at h
    refine ax_bk hK (ax_fc (ax_v_ld (ax_r_iload_n (i := 3) d_P_turnTableRound_31 rfl)) ax_fn) (y := (32, [(0, .inr (g, 0)), (2, .inl (.int (x2))), (3, .inl (.int (x3)))], [.inl (.int (x3))], ax_m (s) ρ)) rfl ⟨trivial, trivial⟩ ?_
    refine ax_if_lt (tgt := 57) hK d_P_turnTableRound_32 (by decide) (fun c8 => ?_) (fun c8 => ?_)
    · replace h := ax_it c8 h
      cases h
      exact ax_Lsub [] rfl (KE _ rfl)
    · replace h := ax_if c8 h
      obtain ⟨b5, h⟩ := ax_gd h
      obtain ⟨b6, h⟩ := ax_gd h
      refine ax_bk hK (ax_fc (ax_v_ld (ax_r_aload_n (i := 0) d_P_turnTableRound_35 rfl)) (ax_fc (ax_w_gf (e := none) hal d_P_turnTableRound_36 fd_P_18) (ax_fc (ax_v_ld (ax_r_iload_n (i := 2) d_P_turnTableRound_39 rfl)) (ax_fc (ax_v_ld (ax_r_aload_n (i := 0) d_P_turnTableRound_40 rfl)) (ax_fc (ax_w_gf (e := none) hal d_P_turnTableRound_41 fd_P_15) (ax_fc (ax_v_ld (ax_r_iload_n (i := 2) d_P_turnTableRound_44 rfl)) (ax_fc (ax_v_ld (ax_r_iload_n (i := 3) d_P_turnTableRound_45 rfl)) (ax_fc (ax_v_pu (ax_r_iadd d_P_turnTableRound_46)) (ax_fc (ax_w_iald hal d_P_turnTableRound_47) (ax_fc (ax_v_pu (ax_r_iadd d_P_turnTableRound_48)) (ax_fc (ax_v_ld (ax_r_iload_n (i := 3) d_P_turnTableRound_49 rfl)) (ax_fc (ax_w_iast hal d_P_turnTableRound_50) ax_fn)))))))))))) (y := (51, [(0, .inr (g, 0)), (2, .inl (.int (x2))), (3, .inl (.int (x3)))], [], ax_m (ax_wI s g 3 ((x2 + (s.1 g 2 ((x2 + x3)).toNatClampNeg))).toNatClampNeg x3) ρ)) rfl ⟨trivial, (hg 0 rfl), trivial, trivial, (hg 0 rfl), trivial, trivial, trivial, ⟨(hg 2 rfl), ax_inp b5⟩, trivial, trivial, ⟨(hg 3 rfl), ax_inp b6⟩, trivial⟩ ?_
      refine ax_lt (Q := fun ςς => ax_R G 4 0 0 (51, [(0, .inr (g, 0)), (2, .inl (.int (x2))), (3, .inl (.int (x3)))], [], ax_m (ςς) ρ)) h (fun s7 h => ?_)
      refine ax_bk hK (ax_fc (ax_v_ii (d := -1) d_P_turnTableRound_51 (by decide)) (ax_fc (ax_v_go (tgt := 31) d_P_turnTableRound_54 (by decide)) ax_fn)) (y := (31, [(3, .inl (.int ((x3 + (-1 : Int32))))), (0, .inr (g, 0)), (2, .inl (.int (x2)))], [], ax_m (s7) ρ)) rfl ⟨trivial, trivial, trivial⟩ ?_
      exact ax_Lsub [1, 2, 0] rfl (ih _ h KE)
def f_P_turnTableRound (F : Nat) (g : Nat) (a1 : Int32) (s : ax_σ) : Option (ax_σ) :=
  Option.bind (lp_P_turnTableRound_7 F g (a1 * (16 : Int32)) F (0 : Int32) s) (fun s4 =>
    Option.bind (lp_P_turnTableRound_31 F g (a1 * (16 : Int32)) F (15 : Int32) s4) (fun s9 =>
      some (s9)))
set_option maxHeartbeats 4000000 in
set_option maxRecDepth 100000 in
theorem t_P_turnTableRound {l : Launch} {D : va_G} {cA : Nat → ClassId} {ad : Nat → Nat → Nat} {al : List (Nat × Nat)} {θ : ax_Θ} {ρ : ax_ρ} {F : Nat} {g : Nat} (hg : ax_Mg al g) {a1 : Int32} {s : ax_σ} {s0 : ax_σ} (h : f_P_turnTableRound F g a1 s = some s0) : ax_T l D cA ad al θ y_P_turnTableRound (.code y_P_turnTableRound prog_5_method_4_code 4 none) 0 [.inr (g, 0), .inl (.int (a1))] (ax_m s ρ) none (ax_m s0 ρ) := by
  refine ax_T_of (own := "CipherNotation$Program") (by decide) rfl (Nat.le_of_ble_eq_true rfl) [(0, .inr (g, 0)), (1, .inl (.int (a1)))] rfl ?_
  intro G hA
  have hB := hA.B
  have hK := hB.K
  have hal := hB.la
  unfold f_P_turnTableRound at h
  refine ax_bk hK (ax_fc (ax_v_ld (ax_r_iload_n (i := 1) d_P_turnTableRound_0 rfl)) (ax_fc (ax_v_pu (ax_r_bipush (v := 16) d_P_turnTableRound_1 (by decide))) (ax_fc (ax_v_pu (ax_r_imul d_P_turnTableRound_3)) (ax_fc (ax_v_so (ax_r_istore_n (i := 2) d_P_turnTableRound_4 rfl)) (ax_fc (ax_v_pu (ax_r_iconst (v := 0) d_P_turnTableRound_5 (by decide))) (ax_fc (ax_v_so (ax_r_istore_n (i := 3) d_P_turnTableRound_6 rfl)) ax_fn)))))) (y := (7, [(3, .inl (.int ((0 : Int32)))), (2, .inl (.int ((a1 * (16 : Int32))))), (0, .inr (g, 0)), (1, .inl (.int (a1)))], [], ax_m (s) ρ)) rfl ⟨trivial, trivial, trivial, trivial, trivial, trivial, trivial⟩ ?_
  obtain ⟨w10, hw10, h⟩ := ax_bd h
  refine ax_Lsub [2, 1, 0] rfl (pl_P_turnTableRound_7 hg hB F _ hw10 ?_)
  intro s4 e9
  subst w10
  try dsimp only at h
  change ax_R G 4 0 0 (28, [(0, .inr (g, 0)), (2, .inl (.int ((a1 * (16 : Int32)))))], [], ax_m (s4) ρ)
  refine ax_bk hK (ax_fc (ax_v_pu (ax_r_bipush (v := 15) d_P_turnTableRound_28 (by decide))) (ax_fc (ax_v_so (ax_r_istore_n (i := 3) d_P_turnTableRound_30 rfl)) ax_fn)) (y := (31, [(3, .inl (.int ((15 : Int32)))), (0, .inr (g, 0)), (2, .inl (.int ((a1 * (16 : Int32)))))], [], ax_m (s4) ρ)) rfl ⟨trivial, trivial, trivial⟩ ?_
  obtain ⟨w11, hw11, h⟩ := ax_bd h
  refine ax_Lsub [1, 2, 0] rfl (pl_P_turnTableRound_31 hg hB F _ hw11 ?_)
  intro s9 e9
  subst w11
  try dsimp only at h
  change ax_R G 4 0 0 (57, [], [], ax_m (s9) ρ)
  cases h
  exact ax_vret hA d_P_turnTableRound_57
def y_P_canTableBeUndone : MethodName := ⟨"CipherNotation$Program", "canTableBeUndone", "(I)Z"⟩
theorem d_P_canTableBeUndone_0 : decode prog_5_method_5_code 0 = .ok (.iconst 0, 1) := by decide +kernel
theorem d_P_canTableBeUndone_1 : decode prog_5_method_5_code 1 = .ok (.istore_n 2, 1) := by decide +kernel
theorem d_P_canTableBeUndone_2 : decode prog_5_method_5_code 2 = .ok (.iload_n 2, 1) := by decide +kernel
theorem d_P_canTableBeUndone_3 : decode prog_5_method_5_code 3 = .ok (.bipush (16), 2) := by decide +kernel
theorem d_P_canTableBeUndone_5 : decode prog_5_method_5_code 5 = .ok (.if_icmp .ge (26), 3) := by decide +kernel
theorem d_P_canTableBeUndone_8 : decode prog_5_method_5_code 8 = .ok (.aload_n 0, 1) := by decide +kernel
theorem d_P_canTableBeUndone_9 : decode prog_5_method_5_code 9 = .ok (.getfield (18), 3) := by decide +kernel
theorem d_P_canTableBeUndone_12 : decode prog_5_method_5_code 12 = .ok (.iload_n 1, 1) := by decide +kernel
theorem d_P_canTableBeUndone_13 : decode prog_5_method_5_code 13 = .ok (.bipush (16), 2) := by decide +kernel
theorem d_P_canTableBeUndone_15 : decode prog_5_method_5_code 15 = .ok (.imul, 1) := by decide +kernel
theorem d_P_canTableBeUndone_16 : decode prog_5_method_5_code 16 = .ok (.iload_n 2, 1) := by decide +kernel
theorem d_P_canTableBeUndone_17 : decode prog_5_method_5_code 17 = .ok (.iadd, 1) := by decide +kernel
theorem d_P_canTableBeUndone_18 : decode prog_5_method_5_code 18 = .ok (.iaload, 1) := by decide +kernel
theorem d_P_canTableBeUndone_19 : decode prog_5_method_5_code 19 = .ok (.iconst (-1), 1) := by decide +kernel
theorem d_P_canTableBeUndone_20 : decode prog_5_method_5_code 20 = .ok (.if_icmp .ne (5), 3) := by decide +kernel
theorem d_P_canTableBeUndone_23 : decode prog_5_method_5_code 23 = .ok (.iconst 0, 1) := by decide +kernel
theorem d_P_canTableBeUndone_24 : decode prog_5_method_5_code 24 = .ok (.ireturn, 1) := by decide +kernel
theorem d_P_canTableBeUndone_25 : decode prog_5_method_5_code 25 = .ok (.iinc 2 (1), 3) := by decide +kernel
theorem d_P_canTableBeUndone_28 : decode prog_5_method_5_code 28 = .ok (.goto (-26), 3) := by decide +kernel
theorem d_P_canTableBeUndone_31 : decode prog_5_method_5_code 31 = .ok (.iconst 1, 1) := by decide +kernel
theorem d_P_canTableBeUndone_32 : decode prog_5_method_5_code 32 = .ok (.ireturn, 1) := by decide +kernel
def lp_P_canTableBeUndone_2 (F : Nat) (g : Nat) (x1 : Int32) (s : ax_σ) : Nat → Int32 → Option ((Int32) ⊕ (Unit))
  | 0, _ => none
  | n + 1, x2 =>
    if (16 : Int32) ≤ x2 then
      some (.inr ())
    else
      bif ax_in ((x1 * (16 : Int32)) + x2) 32 then
      if (s.1 g 3 (((x1 * (16 : Int32)) + x2)).toNatClampNeg) = (-1 : Int32) then
        some (.inl (0 : Int32))
      else
        lp_P_canTableBeUndone_2 F g x1 s n (x2 + (1 : Int32))
      else none
set_option maxHeartbeats 4000000 in
set_option maxRecDepth 100000 in
theorem pl_P_canTableBeUndone_2 {D : va_G} {cA : Nat → ClassId} {ad : Nat → Nat → Nat} {al : List (Nat × Nat)} {θ : ax_Θ} {l : Launch} {ρ : ax_ρ} {G : ax_G} {F g : Nat} {x1 : Int32} {s : ax_σ} (hg : ax_Mg al g) (hB : ax_B D cA ad al θ l "CipherNotation$Program" prog_5_method_5_code 3 0 G) : ∀ (n : Nat) {x2 : Int32} (out : (Int32) ⊕ (Unit)), lp_P_canTableBeUndone_2 F g x1 s n x2 = some out → (∀ (r0 : Int32), out = .inl r0 → ax_At D cA ad al θ l "CipherNotation$Program" prog_5_method_5_code 3 0 (some .boolean) (some (.inl (.int r0))) (ax_m s ρ) G) → (out = .inr () → ax_R G 3 0 0 (31, [], [], ax_m (s) ρ)) → ax_R G 3 0 0 (2, [(0, .inr (g, 0)), (1, .inl (.int (x1))), (2, .inl (.int (x2)))], [], ax_m (s) ρ) := by
  have hK := hB.K
  have hal := hB.la
  intro n
  induction n with
  | zero =>
    intro x2 out h
    cases h
  | succ n ih =>
    intro x2 out h RT KE
    rw [lp_P_canTableBeUndone_2] at h
    refine ax_bk hK (ax_fc (ax_v_ld (ax_r_iload_n (i := 2) d_P_canTableBeUndone_2 rfl)) (ax_fc (ax_v_pu (ax_r_bipush (v := 16) d_P_canTableBeUndone_3 (by decide))) ax_fn)) (y := (5, [(0, .inr (g, 0)), (1, .inl (.int (x1))), (2, .inl (.int (x2)))], [.inl (.int ((16 : Int32))), .inl (.int (x2))], ax_m (s) ρ)) rfl ⟨trivial, trivial, trivial⟩ ?_
    refine ax_ic_ge (tgt := 31) hK d_P_canTableBeUndone_5 (by decide) (fun c3 => ?_) (fun c3 => ?_)
    · replace h := ax_it c3 h
      cases h
      exact ax_Lsub [] rfl (KE rfl)
    · replace h := ax_if c3 h
      obtain ⟨b1, h⟩ := ax_gd h
      refine ax_bk hK (ax_fc (ax_v_ld (ax_r_aload_n (i := 0) d_P_canTableBeUndone_8 rfl)) (ax_fc (ax_w_gf (e := none) hal d_P_canTableBeUndone_9 fd_P_18) (ax_fc (ax_v_ld (ax_r_iload_n (i := 1) d_P_canTableBeUndone_12 rfl)) (ax_fc (ax_v_pu (ax_r_bipush (v := 16) d_P_canTableBeUndone_13 (by decide))) (ax_fc (ax_v_pu (ax_r_imul d_P_canTableBeUndone_15)) (ax_fc (ax_v_ld (ax_r_iload_n (i := 2) d_P_canTableBeUndone_16 rfl)) (ax_fc (ax_v_pu (ax_r_iadd d_P_canTableBeUndone_17)) (ax_fc (ax_w_iald hal d_P_canTableBeUndone_18) (ax_fc (ax_v_pu (ax_r_iconst (v := -1) d_P_canTableBeUndone_19 (by decide))) ax_fn))))))))) (y := (20, [(0, .inr (g, 0)), (1, .inl (.int (x1))), (2, .inl (.int (x2)))], [.inl (.int ((-1 : Int32))), .inl (.int ((s.1 g 3 (((x1 * (16 : Int32)) + x2)).toNatClampNeg)))], ax_m (s) ρ)) rfl ⟨trivial, (hg 0 rfl), trivial, trivial, trivial, trivial, trivial, ⟨(hg 3 rfl), ax_inp b1⟩, trivial, trivial⟩ ?_
      refine ax_ic_ne (tgt := 25) hK d_P_canTableBeUndone_20 (by decide) (fun c2 => ?_) (fun c2 => ?_)
      · replace h := ax_if c2 h
        refine ax_bk hK (ax_fc (ax_v_ii (d := 1) d_P_canTableBeUndone_25 (by decide)) (ax_fc (ax_v_go (tgt := 2) d_P_canTableBeUndone_28 (by decide)) ax_fn)) (y := (2, [(2, .inl (.int ((x2 + (1 : Int32))))), (0, .inr (g, 0)), (1, .inl (.int (x1)))], [], ax_m (s) ρ)) rfl ⟨trivial, trivial, trivial⟩ ?_
        exact ax_Lsub [1, 2, 0] rfl (ih _ h RT KE)
      · replace h := ax_it c2 h
        refine ax_bk hK (ax_fc (ax_v_pu (ax_r_iconst (v := 0) d_P_canTableBeUndone_23 (by decide))) ax_fn) (y := (24, [(0, .inr (g, 0)), (1, .inl (.int (x1))), (2, .inl (.int (x2)))], [.inl (.int ((0 : Int32)))], ax_m (s) ρ)) rfl ⟨trivial, trivial⟩ ?_
        cases h
        exact ax_zret (RT _ rfl) (by decide) d_P_canTableBeUndone_24
def f_P_canTableBeUndone (F : Nat) (g : Nat) (a1 : Int32) (s : ax_σ) : Option (Int32) :=
  Option.bind (lp_P_canTableBeUndone_2 F g a1 s F (0 : Int32)) (fun w => match w with
    | .inl w => some w
    | .inr _ =>
      some ((1 : Int32)))
set_option maxHeartbeats 4000000 in
set_option maxRecDepth 100000 in
theorem t_P_canTableBeUndone {l : Launch} {D : va_G} {cA : Nat → ClassId} {ad : Nat → Nat → Nat} {al : List (Nat × Nat)} {θ : ax_Θ} {ρ : ax_ρ} {F : Nat} {g : Nat} (hg : ax_Mg al g) {a1 : Int32} {s : ax_σ} {r0 : Int32} (h : f_P_canTableBeUndone F g a1 s = some r0) : ax_T l D cA ad al θ y_P_canTableBeUndone (.code y_P_canTableBeUndone prog_5_method_5_code 3 (some .boolean)) 0 [.inr (g, 0), .inl (.int (a1))] (ax_m s ρ) (some (.inl (.int r0))) (ax_m s ρ) := by
  refine ax_T_of (own := "CipherNotation$Program") (by decide) rfl (Nat.le_of_ble_eq_true rfl) [(0, .inr (g, 0)), (1, .inl (.int (a1)))] rfl ?_
  intro G hA
  have hB := hA.B
  have hK := hB.K
  have hal := hB.la
  unfold f_P_canTableBeUndone at h
  refine ax_bk hK (ax_fc (ax_v_pu (ax_r_iconst (v := 0) d_P_canTableBeUndone_0 (by decide))) (ax_fc (ax_v_so (ax_r_istore_n (i := 2) d_P_canTableBeUndone_1 rfl)) ax_fn)) (y := (2, [(2, .inl (.int ((0 : Int32)))), (0, .inr (g, 0)), (1, .inl (.int (a1)))], [], ax_m (s) ρ)) rfl ⟨trivial, trivial, trivial⟩ ?_
  obtain ⟨w4, hw4, h⟩ := ax_bd h
  have RTw4 : ∀ (r0 : Int32), w4 = .inl r0 → ax_At D cA ad al θ l "CipherNotation$Program" prog_5_method_5_code 3 0 (some .boolean) (some (.inl (.int r0))) (ax_m s ρ) G := by
    intro r0 e9
    subst w4
    try dsimp only at h
    cases h
    exact hA
  refine ax_Lsub [1, 2, 0] rfl (pl_P_canTableBeUndone_2 hg hB F _ hw4 RTw4 ?_)
  intro  e9
  subst w4
  try dsimp only at h
  change ax_R G 3 0 0 (31, [], [], ax_m (s) ρ)
  refine ax_bk hK (ax_fc (ax_v_pu (ax_r_iconst (v := 1) d_P_canTableBeUndone_31 (by decide))) ax_fn) (y := (32, [], [.inl (.int ((1 : Int32)))], ax_m (s) ρ)) rfl ⟨trivial, trivial⟩ ?_
  cases h
  exact ax_zret hA (by decide) d_P_canTableBeUndone_32
def y_P_layOut : MethodName := ⟨"CipherNotation$Program", "layOut", "()V"⟩
theorem d_P_layOut_0 : decode prog_5_method_6_code 0 = .ok (.aload_n 0, 1) := by decide +kernel
theorem d_P_layOut_1 : decode prog_5_method_6_code 1 = .ok (.getfield (38), 3) := by decide +kernel
theorem d_P_layOut_4 : decode prog_5_method_6_code 4 = .ok (.iconst 0, 1) := by decide +kernel
theorem d_P_layOut_5 : decode prog_5_method_6_code 5 = .ok (.iconst 0, 1) := by decide +kernel
theorem d_P_layOut_6 : decode prog_5_method_6_code 6 = .ok (.iastore, 1) := by decide +kernel
theorem d_P_layOut_7 : decode prog_5_method_6_code 7 = .ok (.aload_n 0, 1) := by decide +kernel
theorem d_P_layOut_8 : decode prog_5_method_6_code 8 = .ok (.getfield (38), 3) := by decide +kernel
theorem d_P_layOut_11 : decode prog_5_method_6_code 11 = .ok (.iconst 1, 1) := by decide +kernel
theorem d_P_layOut_12 : decode prog_5_method_6_code 12 = .ok (.iconst 0, 1) := by decide +kernel
theorem d_P_layOut_13 : decode prog_5_method_6_code 13 = .ok (.iastore, 1) := by decide +kernel
theorem d_P_layOut_14 : decode prog_5_method_6_code 14 = .ok (.iconst 0, 1) := by decide +kernel
theorem d_P_layOut_15 : decode prog_5_method_6_code 15 = .ok (.istore_n 1, 1) := by decide +kernel
theorem d_P_layOut_16 : decode prog_5_method_6_code 16 = .ok (.iconst 0, 1) := by decide +kernel
theorem d_P_layOut_17 : decode prog_5_method_6_code 17 = .ok (.istore_n 2, 1) := by decide +kernel
theorem d_P_layOut_18 : decode prog_5_method_6_code 18 = .ok (.iconst 0, 1) := by decide +kernel
theorem d_P_layOut_19 : decode prog_5_method_6_code 19 = .ok (.istore_n 3, 1) := by decide +kernel
theorem d_P_layOut_20 : decode prog_5_method_6_code 20 = .ok (.iload_n 3, 1) := by decide +kernel
theorem d_P_layOut_21 : decode prog_5_method_6_code 21 = .ok (.sipush (10000), 3) := by decide +kernel
theorem d_P_layOut_24 : decode prog_5_method_6_code 24 = .ok (.if_icmp .ge (174), 3) := by decide +kernel
theorem d_P_layOut_27 : decode prog_5_method_6_code 27 = .ok (.iload_n 1, 1) := by decide +kernel
theorem d_P_layOut_28 : decode prog_5_method_6_code 28 = .ok (.aload_n 0, 1) := by decide +kernel
theorem d_P_layOut_29 : decode prog_5_method_6_code 29 = .ok (.getfield (31), 3) := by decide +kernel
theorem d_P_layOut_32 : decode prog_5_method_6_code 32 = .ok (.getfield (52), 3) := by decide +kernel
theorem d_P_layOut_35 : decode prog_5_method_6_code 35 = .ok (.if_icmp .ge (163), 3) := by decide +kernel
theorem d_P_layOut_38 : decode prog_5_method_6_code 38 = .ok (.iload_n 2, 1) := by decide +kernel
theorem d_P_layOut_39 : decode prog_5_method_6_code 39 = .ok (.sipush (400), 3) := by decide +kernel
theorem d_P_layOut_42 : decode prog_5_method_6_code 42 = .ok (.if_icmp .ge (156), 3) := by decide +kernel
theorem d_P_layOut_45 : decode prog_5_method_6_code 45 = .ok (.aload_n 0, 1) := by decide +kernel
theorem d_P_layOut_46 : decode prog_5_method_6_code 46 = .ok (.getfield (31), 3) := by decide +kernel
theorem d_P_layOut_49 : decode prog_5_method_6_code 49 = .ok (.getfield (53), 3) := by decide +kernel
theorem d_P_layOut_52 : decode prog_5_method_6_code 52 = .ok (.iload_n 1, 1) := by decide +kernel
theorem d_P_layOut_53 : decode prog_5_method_6_code 53 = .ok (.iaload, 1) := by decide +kernel
theorem d_P_layOut_54 : decode prog_5_method_6_code 54 = .ok (.istore (4), 2) := by decide +kernel
theorem d_P_layOut_56 : decode prog_5_method_6_code 56 = .ok (.aload_n 0, 1) := by decide +kernel
theorem d_P_layOut_57 : decode prog_5_method_6_code 57 = .ok (.getfield (31), 3) := by decide +kernel
theorem d_P_layOut_60 : decode prog_5_method_6_code 60 = .ok (.getfield (56), 3) := by decide +kernel
theorem d_P_layOut_63 : decode prog_5_method_6_code 63 = .ok (.iload_n 1, 1) := by decide +kernel
theorem d_P_layOut_64 : decode prog_5_method_6_code 64 = .ok (.iaload, 1) := by decide +kernel
theorem d_P_layOut_65 : decode prog_5_method_6_code 65 = .ok (.istore (5), 2) := by decide +kernel
theorem d_P_layOut_67 : decode prog_5_method_6_code 67 = .ok (.iload (4), 2) := by decide +kernel
theorem d_P_layOut_69 : decode prog_5_method_6_code 69 = .ok (.bipush (91), 2) := by decide +kernel
theorem d_P_layOut_71 : decode prog_5_method_6_code 71 = .ok (.if_icmp .ne (17), 3) := by decide +kernel
theorem d_P_layOut_74 : decode prog_5_method_6_code 74 = .ok (.aload_n 0, 1) := by decide +kernel
theorem d_P_layOut_75 : decode prog_5_method_6_code 75 = .ok (.getfield (38), 3) := by decide +kernel
theorem d_P_layOut_78 : decode prog_5_method_6_code 78 = .ok (.iload (5), 2) := by decide +kernel
theorem d_P_layOut_80 : decode prog_5_method_6_code 80 = .ok (.iconst 0, 1) := by decide +kernel
theorem d_P_layOut_81 : decode prog_5_method_6_code 81 = .ok (.iastore, 1) := by decide +kernel
theorem d_P_layOut_82 : decode prog_5_method_6_code 82 = .ok (.iinc 1 (1), 3) := by decide +kernel
theorem d_P_layOut_85 : decode prog_5_method_6_code 85 = .ok (.goto (107), 3) := by decide +kernel
theorem d_P_layOut_88 : decode prog_5_method_6_code 88 = .ok (.iload (4), 2) := by decide +kernel
theorem d_P_layOut_90 : decode prog_5_method_6_code 90 = .ok (.bipush (93), 2) := by decide +kernel
theorem d_P_layOut_92 : decode prog_5_method_6_code 92 = .ok (.if_icmp .ne (67), 3) := by decide +kernel
theorem d_P_layOut_95 : decode prog_5_method_6_code 95 = .ok (.aload_n 0, 1) := by decide +kernel
theorem d_P_layOut_96 : decode prog_5_method_6_code 96 = .ok (.getfield (31), 3) := by decide +kernel
theorem d_P_layOut_99 : decode prog_5_method_6_code 99 = .ok (.getfield (59), 3) := by decide +kernel
theorem d_P_layOut_102 : decode prog_5_method_6_code 102 = .ok (.iload_n 1, 1) := by decide +kernel
theorem d_P_layOut_103 : decode prog_5_method_6_code 103 = .ok (.iaload, 1) := by decide +kernel
theorem d_P_layOut_104 : decode prog_5_method_6_code 104 = .ok (.istore (6), 2) := by decide +kernel
theorem d_P_layOut_106 : decode prog_5_method_6_code 106 = .ok (.aload_n 0, 1) := by decide +kernel
theorem d_P_layOut_107 : decode prog_5_method_6_code 107 = .ok (.getfield (38), 3) := by decide +kernel
theorem d_P_layOut_110 : decode prog_5_method_6_code 110 = .ok (.iload (5), 2) := by decide +kernel
theorem d_P_layOut_112 : decode prog_5_method_6_code 112 = .ok (.dup2, 1) := by decide +kernel
theorem d_P_layOut_113 : decode prog_5_method_6_code 113 = .ok (.iaload, 1) := by decide +kernel
theorem d_P_layOut_114 : decode prog_5_method_6_code 114 = .ok (.iconst 1, 1) := by decide +kernel
theorem d_P_layOut_115 : decode prog_5_method_6_code 115 = .ok (.iadd, 1) := by decide +kernel
theorem d_P_layOut_116 : decode prog_5_method_6_code 116 = .ok (.iastore, 1) := by decide +kernel
theorem d_P_layOut_117 : decode prog_5_method_6_code 117 = .ok (.aload_n 0, 1) := by decide +kernel
theorem d_P_layOut_118 : decode prog_5_method_6_code 118 = .ok (.getfield (38), 3) := by decide +kernel
theorem d_P_layOut_121 : decode prog_5_method_6_code 121 = .ok (.iload (5), 2) := by decide +kernel
theorem d_P_layOut_123 : decode prog_5_method_6_code 123 = .ok (.iaload, 1) := by decide +kernel
theorem d_P_layOut_124 : decode prog_5_method_6_code 124 = .ok (.aload_n 0, 1) := by decide +kernel
theorem d_P_layOut_125 : decode prog_5_method_6_code 125 = .ok (.getfield (31), 3) := by decide +kernel
theorem d_P_layOut_128 : decode prog_5_method_6_code 128 = .ok (.getfield (59), 3) := by decide +kernel
theorem d_P_layOut_131 : decode prog_5_method_6_code 131 = .ok (.iload (6), 2) := by decide +kernel
theorem d_P_layOut_133 : decode prog_5_method_6_code 133 = .ok (.iaload, 1) := by decide +kernel
theorem d_P_layOut_134 : decode prog_5_method_6_code 134 = .ok (.if_icmp .ge (11), 3) := by decide +kernel
theorem d_P_layOut_137 : decode prog_5_method_6_code 137 = .ok (.iload (6), 2) := by decide +kernel
theorem d_P_layOut_139 : decode prog_5_method_6_code 139 = .ok (.iconst 1, 1) := by decide +kernel
theorem d_P_layOut_140 : decode prog_5_method_6_code 140 = .ok (.iadd, 1) := by decide +kernel
theorem d_P_layOut_141 : decode prog_5_method_6_code 141 = .ok (.istore_n 1, 1) := by decide +kernel
theorem d_P_layOut_142 : decode prog_5_method_6_code 142 = .ok (.goto (14), 3) := by decide +kernel
theorem d_P_layOut_145 : decode prog_5_method_6_code 145 = .ok (.aload_n 0, 1) := by decide +kernel
theorem d_P_layOut_146 : decode prog_5_method_6_code 146 = .ok (.getfield (38), 3) := by decide +kernel
theorem d_P_layOut_149 : decode prog_5_method_6_code 149 = .ok (.iload (5), 2) := by decide +kernel
theorem d_P_layOut_151 : decode prog_5_method_6_code 151 = .ok (.iconst 0, 1) := by decide +kernel
theorem d_P_layOut_152 : decode prog_5_method_6_code 152 = .ok (.iastore, 1) := by decide +kernel
theorem d_P_layOut_153 : decode prog_5_method_6_code 153 = .ok (.iinc 1 (1), 3) := by decide +kernel
theorem d_P_layOut_156 : decode prog_5_method_6_code 156 = .ok (.goto (36), 3) := by decide +kernel
theorem d_P_layOut_159 : decode prog_5_method_6_code 159 = .ok (.aload_n 0, 1) := by decide +kernel
theorem d_P_layOut_160 : decode prog_5_method_6_code 160 = .ok (.getfield (35), 3) := by decide +kernel
theorem d_P_layOut_163 : decode prog_5_method_6_code 163 = .ok (.iload_n 2, 1) := by decide +kernel
theorem d_P_layOut_164 : decode prog_5_method_6_code 164 = .ok (.iinc 2 (1), 3) := by decide +kernel
theorem d_P_layOut_167 : decode prog_5_method_6_code 167 = .ok (.iload_n 1, 1) := by decide +kernel
theorem d_P_layOut_168 : decode prog_5_method_6_code 168 = .ok (.bipush (16), 2) := by decide +kernel
theorem d_P_layOut_170 : decode prog_5_method_6_code 170 = .ok (.imul, 1) := by decide +kernel
theorem d_P_layOut_171 : decode prog_5_method_6_code 171 = .ok (.aload_n 0, 1) := by decide +kernel
theorem d_P_layOut_172 : decode prog_5_method_6_code 172 = .ok (.getfield (38), 3) := by decide +kernel
theorem d_P_layOut_175 : decode prog_5_method_6_code 175 = .ok (.iconst 0, 1) := by decide +kernel
theorem d_P_layOut_176 : decode prog_5_method_6_code 176 = .ok (.iaload, 1) := by decide +kernel
theorem d_P_layOut_177 : decode prog_5_method_6_code 177 = .ok (.iadd, 1) := by decide +kernel
theorem d_P_layOut_178 : decode prog_5_method_6_code 178 = .ok (.bipush (16), 2) := by decide +kernel
theorem d_P_layOut_180 : decode prog_5_method_6_code 180 = .ok (.imul, 1) := by decide +kernel
theorem d_P_layOut_181 : decode prog_5_method_6_code 181 = .ok (.aload_n 0, 1) := by decide +kernel
theorem d_P_layOut_182 : decode prog_5_method_6_code 182 = .ok (.getfield (38), 3) := by decide +kernel
theorem d_P_layOut_185 : decode prog_5_method_6_code 185 = .ok (.iconst 1, 1) := by decide +kernel
theorem d_P_layOut_186 : decode prog_5_method_6_code 186 = .ok (.iaload, 1) := by decide +kernel
theorem d_P_layOut_187 : decode prog_5_method_6_code 187 = .ok (.iadd, 1) := by decide +kernel
theorem d_P_layOut_188 : decode prog_5_method_6_code 188 = .ok (.iastore, 1) := by decide +kernel
theorem d_P_layOut_189 : decode prog_5_method_6_code 189 = .ok (.iinc 1 (1), 3) := by decide +kernel
theorem d_P_layOut_192 : decode prog_5_method_6_code 192 = .ok (.iinc 3 (1), 3) := by decide +kernel
theorem d_P_layOut_195 : decode prog_5_method_6_code 195 = .ok (.goto (-175), 3) := by decide +kernel
theorem d_P_layOut_198 : decode prog_5_method_6_code 198 = .ok (.return_, 1) := by decide +kernel
theorem fd_P_53 : ax_fd "CipherNotation$Program" 53 1 0 := ⟨nC1, nT1, 7, nY1, rfl, nW1, by decide, nw_1 182 (by decide +kernel) rfl, nO1, nA1⟩
theorem fd_P_56 : ax_fd "CipherNotation$Program" 56 1 1 := ⟨nC1, nT1, 7, nY1, rfl, nW1, by decide, nw_1 186 (by decide +kernel) rfl, nO1, nA1⟩
theorem fd_P_35 : ax_fd "CipherNotation$Program" 35 3 5 := ⟨nC3, nT3, 9, nY3, rfl, nW3, by decide, nw_1 235 (by decide +kernel) rfl, nO3, nA3⟩
theorem fd_P_38 : ax_fd "CipherNotation$Program" 38 3 6 := ⟨nC3, nT3, 9, nY3, rfl, nW3, by decide, nw_1 237 (by decide +kernel) rfl, nO3, nA3⟩
theorem fd_P_59 : ax_fd "CipherNotation$Program" 59 1 2 := ⟨nC1, nT1, 7, nY1, rfl, nW1, by decide, nw_1 190 (by decide +kernel) rfl, nO1, nA1⟩
theorem fd_P_52 : ax_fd "CipherNotation$Program" 52 1 6 := ⟨nC1, nT1, 7, nY1, rfl, nW1, by decide, nw_1 201 (by decide +kernel) rfl, nO1, nA1⟩
def lp_P_layOut_20 (F : Nat) (g : Nat) : Nat → Int32 → Int32 → Int32 → ax_σ → Option (ax_σ)
  | 0, _, _, _, _ => none
  | n + 1, x1, x2, x3, s =>
    Option.bind (
      if (10000 : Int32) ≤ x3 then
        some true
      else
        if (s.1 g 13 6) ≤ x1 then
          some true
        else
          if (400 : Int32) ≤ x2 then
            some true
          else
            some false) (fun w29 => bif w29 then
      some s
    else
      bif ax_in x1 120 then
      bif ax_in x1 120 then
      if (s.1 g 14 (x1).toNatClampNeg) = (91 : Int32) then
        bif ax_in (s.1 g 15 (x1).toNatClampNeg) 2 then
        ax_let (ax_wI s g 21 ((s.1 g 15 (x1).toNatClampNeg)).toNatClampNeg (0 : Int32)) (fun s27 =>
          lp_P_layOut_20 F g n (x1 + (1 : Int32)) x2 (x3 + (1 : Int32)) s27)
        else none
      else
        if (s.1 g 14 (x1).toNatClampNeg) = (93 : Int32) then
          bif ax_in x1 120 then
          bif ax_in (s.1 g 15 (x1).toNatClampNeg) 2 then
          bif ax_in (s.1 g 15 (x1).toNatClampNeg) 2 then
          ax_let (ax_wI s g 21 ((s.1 g 15 (x1).toNatClampNeg)).toNatClampNeg ((s.1 g 21 ((s.1 g 15 (x1).toNatClampNeg)).toNatClampNeg) + (1 : Int32))) (fun s17 =>
            bif ax_in (s.1 g 15 (x1).toNatClampNeg) 2 then
            bif ax_in (s.1 g 16 (x1).toNatClampNeg) 120 then
            Option.bind (
              if (s17.1 g 16 ((s.1 g 16 (x1).toNatClampNeg)).toNatClampNeg) ≤ (s17.1 g 21 ((s.1 g 15 (x1).toNatClampNeg)).toNatClampNeg) then
                bif ax_in (s.1 g 15 (x1).toNatClampNeg) 2 then
                ax_let (ax_wI s17 g 21 ((s.1 g 15 (x1).toNatClampNeg)).toNatClampNeg (0 : Int32)) (fun s21 =>
                  some ((x1 + (1 : Int32)), s21))
                else none
              else
                some (((s.1 g 16 (x1).toNatClampNeg) + (1 : Int32)), s17)) (fun (v23, s24) =>
              lp_P_layOut_20 F g n v23 x2 (x3 + (1 : Int32)) s24)
            else none
            else none)
          else none
          else none
          else none
        else
          bif ax_in (0 : Int32) 2 then
          bif ax_in (1 : Int32) 2 then
          bif ax_in x2 400 then
          ax_let (ax_wI s g 20 (x2).toNatClampNeg ((((x1 * (16 : Int32)) + (s.1 g 21 ((0 : Int32)).toNatClampNeg)) * (16 : Int32)) + (s.1 g 21 ((1 : Int32)).toNatClampNeg))) (fun s13 =>
            lp_P_layOut_20 F g n (x1 + (1 : Int32)) (x2 + (1 : Int32)) (x3 + (1 : Int32)) s13)
          else none
          else none
          else none
      else none
      else none)
set_option maxHeartbeats 4000000 in
set_option maxRecDepth 100000 in
theorem pl_P_layOut_20 {D : va_G} {cA : Nat → ClassId} {ad : Nat → Nat → Nat} {al : List (Nat × Nat)} {θ : ax_Θ} {l : Launch} {ρ : ax_ρ} {G : ax_G} {F g : Nat}  (hg : ax_Mg al g) (hB : ax_B D cA ad al θ l "CipherNotation$Program" prog_5_method_6_code 7 0 G) : ∀ (n : Nat) {x1 : Int32} {x2 : Int32} {x3 : Int32} {s : ax_σ} (out : ax_σ), lp_P_layOut_20 F g n x1 x2 x3 s = some out → (∀ (es : ax_σ), out = es → ax_R G 7 0 0 (198, [], [], ax_m (es) ρ)) → ax_R G 7 0 0 (20, [(0, .inr (g, 0)), (1, .inl (.int (x1))), (2, .inl (.int (x2))), (3, .inl (.int (x3)))], [], ax_m (s) ρ) := by
  have hK := hB.K
  have hal := hB.la
  intro n
  induction n with
  | zero =>
    intro x1 x2 x3 s out h
    cases h
  | succ n ih =>
    intro x1 x2 x3 s out h KE
    rw [lp_P_layOut_20] at h
    refine ax_bk hK (ax_fc (ax_v_ld (ax_r_iload_n (i := 3) d_P_layOut_20 rfl)) (ax_fc (ax_v_pu (ax_r_sipush (v := 10000) d_P_layOut_21 (by decide))) ax_fn)) (y := (24, [(0, .inr (g, 0)), (1, .inl (.int (x1))), (2, .inl (.int (x2))), (3, .inl (.int (x3)))], [.inl (.int ((10000 : Int32))), .inl (.int (x3))], ax_m (s) ρ)) rfl ⟨trivial, trivial, trivial⟩ ?_
    obtain ⟨w29, hw29, h⟩ := ax_bd h
    have KTw29 : w29 = true → ax_R G 7 0 0 (198, [], [], ax_m (s) ρ) := by
      intro e9
      subst w29
      replace h := ax_ct h
      cases h
      exact ax_Lsub [] rfl (KE _ rfl)
    have KFw29 : w29 = false → ax_R G 7 0 0 (45, [(0, .inr (g, 0)), (1, .inl (.int (x1))), (2, .inl (.int (x2))), (3, .inl (.int (x3)))], [], ax_m (s) ρ) := by
      intro e9
      subst w29
      replace h := ax_cf h
      obtain ⟨b8, h⟩ := ax_gd h
      obtain ⟨b9, h⟩ := ax_gd h
      refine ax_bk hK (ax_fc (ax_v_ld (ax_r_aload_n (i := 0) d_P_layOut_45 rfl)) (ax_fc (ax_w_gf (e := none) hal d_P_layOut_46 fd_P_31) (ax_fc (ax_w_gf (e := none) hal d_P_layOut_49 fd_P_53) (ax_fc (ax_v_ld (ax_r_iload_n (i := 1) d_P_layOut_52 rfl)) (ax_fc (ax_w_iald hal d_P_layOut_53) (ax_fc (ax_v_so (ax_r_istore d_P_layOut_54)) (ax_fc (ax_v_ld (ax_r_aload_n (i := 0) d_P_layOut_56 rfl)) (ax_fc (ax_w_gf (e := none) hal d_P_layOut_57 fd_P_31) (ax_fc (ax_w_gf (e := none) hal d_P_layOut_60 fd_P_56) (ax_fc (ax_v_ld (ax_r_iload_n (i := 1) d_P_layOut_63 rfl)) (ax_fc (ax_w_iald hal d_P_layOut_64) (ax_fc (ax_v_so (ax_r_istore d_P_layOut_65)) (ax_fc (ax_v_ld (ax_r_iload d_P_layOut_67)) (ax_fc (ax_v_pu (ax_r_bipush (v := 91) d_P_layOut_69 (by decide))) ax_fn)))))))))))))) (y := (71, [(5, .inl (.int ((s.1 g 15 (x1).toNatClampNeg)))), (4, .inl (.int ((s.1 g 14 (x1).toNatClampNeg)))), (0, .inr (g, 0)), (1, .inl (.int (x1))), (2, .inl (.int (x2))), (3, .inl (.int (x3)))], [.inl (.int ((91 : Int32))), .inl (.int ((s.1 g 14 (x1).toNatClampNeg)))], ax_m (s) ρ)) rfl ⟨trivial, (hg 0 rfl), (hg 13 rfl), trivial, ⟨(hg 14 rfl), ax_inp b8⟩, trivial, trivial, (hg 0 rfl), (hg 13 rfl), trivial, ⟨(hg 15 rfl), ax_inp b9⟩, trivial, trivial, trivial, trivial⟩ ?_
      refine ax_ic_ne (tgt := 88) hK d_P_layOut_71 (by decide) (fun c28 => ?_) (fun c28 => ?_)
      · replace h := ax_if c28 h
        refine ax_bk hK (ax_fc (ax_v_ld (ax_r_iload d_P_layOut_88)) (ax_fc (ax_v_pu (ax_r_bipush (v := 93) d_P_layOut_90 (by decide))) ax_fn)) (y := (92, [(5, .inl (.int ((s.1 g 15 (x1).toNatClampNeg)))), (4, .inl (.int ((s.1 g 14 (x1).toNatClampNeg)))), (0, .inr (g, 0)), (1, .inl (.int (x1))), (2, .inl (.int (x2))), (3, .inl (.int (x3)))], [.inl (.int ((93 : Int32))), .inl (.int ((s.1 g 14 (x1).toNatClampNeg)))], ax_m (s) ρ)) rfl ⟨trivial, trivial, trivial⟩ ?_
        refine ax_ic_ne (tgt := 159) hK d_P_layOut_92 (by decide) (fun c25 => ?_) (fun c25 => ?_)
        · replace h := ax_if c25 h
          obtain ⟨b10, h⟩ := ax_gd h
          obtain ⟨b11, h⟩ := ax_gd h
          obtain ⟨b12, h⟩ := ax_gd h
          refine ax_bk hK (ax_fc (ax_v_ld (ax_r_aload_n (i := 0) d_P_layOut_159 rfl)) (ax_fc (ax_w_gf (e := none) hal d_P_layOut_160 fd_P_35) (ax_fc (ax_v_ld (ax_r_iload_n (i := 2) d_P_layOut_163 rfl)) (ax_fc (ax_v_ii (d := 1) d_P_layOut_164 (by decide)) (ax_fc (ax_v_ld (ax_r_iload_n (i := 1) d_P_layOut_167 rfl)) (ax_fc (ax_v_pu (ax_r_bipush (v := 16) d_P_layOut_168 (by decide))) (ax_fc (ax_v_pu (ax_r_imul d_P_layOut_170)) (ax_fc (ax_v_ld (ax_r_aload_n (i := 0) d_P_layOut_171 rfl)) (ax_fc (ax_w_gf (e := none) hal d_P_layOut_172 fd_P_38) (ax_fc (ax_v_pu (ax_r_iconst (v := 0) d_P_layOut_175 (by decide))) (ax_fc (ax_w_iald hal d_P_layOut_176) (ax_fc (ax_v_pu (ax_r_iadd d_P_layOut_177)) (ax_fc (ax_v_pu (ax_r_bipush (v := 16) d_P_layOut_178 (by decide))) (ax_fc (ax_v_pu (ax_r_imul d_P_layOut_180)) (ax_fc (ax_v_ld (ax_r_aload_n (i := 0) d_P_layOut_181 rfl)) (ax_fc (ax_w_gf (e := none) hal d_P_layOut_182 fd_P_38) (ax_fc (ax_v_pu (ax_r_iconst (v := 1) d_P_layOut_185 (by decide))) (ax_fc (ax_w_iald hal d_P_layOut_186) (ax_fc (ax_v_pu (ax_r_iadd d_P_layOut_187)) (ax_fc (ax_w_iast hal d_P_layOut_188) ax_fn)))))))))))))))))))) (y := (189, [(2, .inl (.int ((x2 + (1 : Int32))))), (5, .inl (.int ((s.1 g 15 (x1).toNatClampNeg)))), (4, .inl (.int ((s.1 g 14 (x1).toNatClampNeg)))), (0, .inr (g, 0)), (1, .inl (.int (x1))), (3, .inl (.int (x3)))], [], ax_m (ax_wI s g 20 (x2).toNatClampNeg ((((x1 * (16 : Int32)) + (s.1 g 21 ((0 : Int32)).toNatClampNeg)) * (16 : Int32)) + (s.1 g 21 ((1 : Int32)).toNatClampNeg))) ρ)) rfl ⟨trivial, (hg 0 rfl), trivial, trivial, trivial, trivial, trivial, trivial, (hg 0 rfl), trivial, ⟨(hg 21 rfl), ax_inp b10⟩, trivial, trivial, trivial, trivial, (hg 0 rfl), trivial, ⟨(hg 21 rfl), ax_inp b11⟩, trivial, ⟨(hg 20 rfl), ax_inp b12⟩, trivial⟩ ?_
          refine ax_lt (Q := fun ςς => ax_R G 7 0 0 (189, [(2, .inl (.int ((x2 + (1 : Int32))))), (5, .inl (.int ((s.1 g 15 (x1).toNatClampNeg)))), (4, .inl (.int ((s.1 g 14 (x1).toNatClampNeg)))), (0, .inr (g, 0)), (1, .inl (.int (x1))), (3, .inl (.int (x3)))], [], ax_m (ςς) ρ)) h (fun s13 h => ?_)
          refine ax_bk hK (ax_fc (ax_v_ii (d := 1) d_P_layOut_189 (by decide)) (ax_fc (ax_v_ii (d := 1) d_P_layOut_192 (by decide)) (ax_fc (ax_v_go (tgt := 20) d_P_layOut_195 (by decide)) ax_fn))) (y := (20, [(3, .inl (.int ((x3 + (1 : Int32))))), (1, .inl (.int ((x1 + (1 : Int32))))), (2, .inl (.int ((x2 + (1 : Int32))))), (5, .inl (.int ((s.1 g 15 (x1).toNatClampNeg)))), (4, .inl (.int ((s.1 g 14 (x1).toNatClampNeg)))), (0, .inr (g, 0))], [], ax_m (s13) ρ)) rfl ⟨trivial, trivial, trivial, trivial⟩ ?_
          exact ax_Lsub [5, 1, 2, 0] rfl (ih _ h KE)
        · replace h := ax_it c25 h
          obtain ⟨b14, h⟩ := ax_gd h
          obtain ⟨b15, h⟩ := ax_gd h
          obtain ⟨b16, h⟩ := ax_gd h
          refine ax_bk hK (ax_fc (ax_v_ld (ax_r_aload_n (i := 0) d_P_layOut_95 rfl)) (ax_fc (ax_w_gf (e := none) hal d_P_layOut_96 fd_P_31) (ax_fc (ax_w_gf (e := none) hal d_P_layOut_99 fd_P_59) (ax_fc (ax_v_ld (ax_r_iload_n (i := 1) d_P_layOut_102 rfl)) (ax_fc (ax_w_iald hal d_P_layOut_103) (ax_fc (ax_v_so (ax_r_istore d_P_layOut_104)) (ax_fc (ax_v_ld (ax_r_aload_n (i := 0) d_P_layOut_106 rfl)) (ax_fc (ax_w_gf (e := none) hal d_P_layOut_107 fd_P_38) (ax_fc (ax_v_ld (ax_r_iload d_P_layOut_110)) (ax_fc (ax_v_pu (ax_r_dup2p d_P_layOut_112)) (ax_fc (ax_w_iald hal d_P_layOut_113) (ax_fc (ax_v_pu (ax_r_iconst (v := 1) d_P_layOut_114 (by decide))) (ax_fc (ax_v_pu (ax_r_iadd d_P_layOut_115)) (ax_fc (ax_w_iast hal d_P_layOut_116) ax_fn)))))))))))))) (y := (117, [(6, .inl (.int ((s.1 g 16 (x1).toNatClampNeg)))), (5, .inl (.int ((s.1 g 15 (x1).toNatClampNeg)))), (4, .inl (.int ((s.1 g 14 (x1).toNatClampNeg)))), (0, .inr (g, 0)), (1, .inl (.int (x1))), (2, .inl (.int (x2))), (3, .inl (.int (x3)))], [], ax_m (ax_wI s g 21 ((s.1 g 15 (x1).toNatClampNeg)).toNatClampNeg ((s.1 g 21 ((s.1 g 15 (x1).toNatClampNeg)).toNatClampNeg) + (1 : Int32))) ρ)) rfl ⟨trivial, (hg 0 rfl), (hg 13 rfl), trivial, ⟨(hg 16 rfl), ax_inp b14⟩, trivial, trivial, (hg 0 rfl), trivial, trivial, ⟨(hg 21 rfl), ax_inp b15⟩, trivial, trivial, ⟨(hg 21 rfl), ax_inp b16⟩, trivial⟩ ?_
          refine ax_lt (Q := fun ςς => ax_R G 7 0 0 (117, [(6, .inl (.int ((s.1 g 16 (x1).toNatClampNeg)))), (5, .inl (.int ((s.1 g 15 (x1).toNatClampNeg)))), (4, .inl (.int ((s.1 g 14 (x1).toNatClampNeg)))), (0, .inr (g, 0)), (1, .inl (.int (x1))), (2, .inl (.int (x2))), (3, .inl (.int (x3)))], [], ax_m (ςς) ρ)) h (fun s17 h => ?_)
          obtain ⟨b18, h⟩ := ax_gd h
          obtain ⟨b19, h⟩ := ax_gd h
          refine ax_bk hK (ax_fc (ax_v_ld (ax_r_aload_n (i := 0) d_P_layOut_117 rfl)) (ax_fc (ax_w_gf (e := none) hal d_P_layOut_118 fd_P_38) (ax_fc (ax_v_ld (ax_r_iload d_P_layOut_121)) (ax_fc (ax_w_iald hal d_P_layOut_123) (ax_fc (ax_v_ld (ax_r_aload_n (i := 0) d_P_layOut_124 rfl)) (ax_fc (ax_w_gf (e := none) hal d_P_layOut_125 fd_P_31) (ax_fc (ax_w_gf (e := none) hal d_P_layOut_128 fd_P_59) (ax_fc (ax_v_ld (ax_r_iload d_P_layOut_131)) (ax_fc (ax_w_iald hal d_P_layOut_133) ax_fn))))))))) (y := (134, [(6, .inl (.int ((s.1 g 16 (x1).toNatClampNeg)))), (5, .inl (.int ((s.1 g 15 (x1).toNatClampNeg)))), (4, .inl (.int ((s.1 g 14 (x1).toNatClampNeg)))), (0, .inr (g, 0)), (1, .inl (.int (x1))), (2, .inl (.int (x2))), (3, .inl (.int (x3)))], [.inl (.int ((s17.1 g 16 ((s.1 g 16 (x1).toNatClampNeg)).toNatClampNeg))), .inl (.int ((s17.1 g 21 ((s.1 g 15 (x1).toNatClampNeg)).toNatClampNeg)))], ax_m (s17) ρ)) rfl ⟨trivial, (hg 0 rfl), trivial, ⟨(hg 21 rfl), ax_inp b18⟩, trivial, (hg 0 rfl), (hg 13 rfl), trivial, ⟨(hg 16 rfl), ax_inp b19⟩, trivial⟩ ?_
          obtain ⟨w30, hw30, h⟩ := ax_bd h
          have KEw30 : ∀ (v23 : Int32) (s24 : ax_σ), w30 = (v23, s24) → ax_R G 7 0 0 (156, [(0, .inr (g, 0)), (1, .inl (.int (v23))), (2, .inl (.int (x2))), (3, .inl (.int (x3)))], [], ax_m (s24) ρ) := by
            intro v23 s24 e9
            subst w30
            try dsimp only at h
            refine ax_bk hK (ax_fc (ax_v_go (tgt := 192) d_P_layOut_156 (by decide)) ax_fn) (y := (192, [(0, .inr (g, 0)), (1, .inl (.int (v23))), (2, .inl (.int (x2))), (3, .inl (.int (x3)))], [], ax_m (s24) ρ)) rfl ⟨trivial, trivial⟩ ?_
            refine ax_bk hK (ax_fc (ax_v_ii (d := 1) d_P_layOut_192 (by decide)) (ax_fc (ax_v_go (tgt := 20) d_P_layOut_195 (by decide)) ax_fn)) (y := (20, [(3, .inl (.int ((x3 + (1 : Int32))))), (0, .inr (g, 0)), (1, .inl (.int (v23))), (2, .inl (.int (x2)))], [], ax_m (s24) ρ)) rfl ⟨trivial, trivial, trivial⟩ ?_
            exact ax_Lsub [1, 2, 3, 0] rfl (ih _ h KE)
          clear h
          have h := hw30
          refine ax_ic_ge (tgt := 145) hK d_P_layOut_134 (by decide) (fun c22 => ?_) (fun c22 => ?_)
          · replace h := ax_it c22 h
            obtain ⟨b20, h⟩ := ax_gd h
            refine ax_bk hK (ax_fc (ax_v_ld (ax_r_aload_n (i := 0) d_P_layOut_145 rfl)) (ax_fc (ax_w_gf (e := none) hal d_P_layOut_146 fd_P_38) (ax_fc (ax_v_ld (ax_r_iload d_P_layOut_149)) (ax_fc (ax_v_pu (ax_r_iconst (v := 0) d_P_layOut_151 (by decide))) (ax_fc (ax_w_iast hal d_P_layOut_152) ax_fn))))) (y := (153, [(6, .inl (.int ((s.1 g 16 (x1).toNatClampNeg)))), (5, .inl (.int ((s.1 g 15 (x1).toNatClampNeg)))), (4, .inl (.int ((s.1 g 14 (x1).toNatClampNeg)))), (0, .inr (g, 0)), (1, .inl (.int (x1))), (2, .inl (.int (x2))), (3, .inl (.int (x3)))], [], ax_m (ax_wI s17 g 21 ((s.1 g 15 (x1).toNatClampNeg)).toNatClampNeg (0 : Int32)) ρ)) rfl ⟨trivial, (hg 0 rfl), trivial, trivial, ⟨(hg 21 rfl), ax_inp b20⟩, trivial⟩ ?_
            refine ax_lt (Q := fun ςς => ax_R G 7 0 0 (153, [(6, .inl (.int ((s.1 g 16 (x1).toNatClampNeg)))), (5, .inl (.int ((s.1 g 15 (x1).toNatClampNeg)))), (4, .inl (.int ((s.1 g 14 (x1).toNatClampNeg)))), (0, .inr (g, 0)), (1, .inl (.int (x1))), (2, .inl (.int (x2))), (3, .inl (.int (x3)))], [], ax_m (ςς) ρ)) h (fun s21 h => ?_)
            refine ax_bk hK (ax_fc (ax_v_ii (d := 1) d_P_layOut_153 (by decide)) ax_fn) (y := (156, [(1, .inl (.int ((x1 + (1 : Int32))))), (6, .inl (.int ((s.1 g 16 (x1).toNatClampNeg)))), (5, .inl (.int ((s.1 g 15 (x1).toNatClampNeg)))), (4, .inl (.int ((s.1 g 14 (x1).toNatClampNeg)))), (0, .inr (g, 0)), (2, .inl (.int (x2))), (3, .inl (.int (x3)))], [], ax_m (s21) ρ)) rfl ⟨trivial, trivial⟩ ?_
            cases h
            exact ax_Lsub [4, 0, 5, 6] rfl (KEw30 _ _ rfl)
          · replace h := ax_if c22 h
            refine ax_bk hK (ax_fc (ax_v_ld (ax_r_iload d_P_layOut_137)) (ax_fc (ax_v_pu (ax_r_iconst (v := 1) d_P_layOut_139 (by decide))) (ax_fc (ax_v_pu (ax_r_iadd d_P_layOut_140)) (ax_fc (ax_v_so (ax_r_istore_n (i := 1) d_P_layOut_141 rfl)) (ax_fc (ax_v_go (tgt := 156) d_P_layOut_142 (by decide)) ax_fn))))) (y := (156, [(1, .inl (.int (((s.1 g 16 (x1).toNatClampNeg) + (1 : Int32))))), (6, .inl (.int ((s.1 g 16 (x1).toNatClampNeg)))), (5, .inl (.int ((s.1 g 15 (x1).toNatClampNeg)))), (4, .inl (.int ((s.1 g 14 (x1).toNatClampNeg)))), (0, .inr (g, 0)), (2, .inl (.int (x2))), (3, .inl (.int (x3)))], [], ax_m (s17) ρ)) rfl ⟨trivial, trivial, trivial, trivial, trivial, trivial⟩ ?_
            cases h
            exact ax_Lsub [4, 0, 5, 6] rfl (KEw30 _ _ rfl)
      · replace h := ax_it c28 h
        obtain ⟨b26, h⟩ := ax_gd h
        refine ax_bk hK (ax_fc (ax_v_ld (ax_r_aload_n (i := 0) d_P_layOut_74 rfl)) (ax_fc (ax_w_gf (e := none) hal d_P_layOut_75 fd_P_38) (ax_fc (ax_v_ld (ax_r_iload d_P_layOut_78)) (ax_fc (ax_v_pu (ax_r_iconst (v := 0) d_P_layOut_80 (by decide))) (ax_fc (ax_w_iast hal d_P_layOut_81) ax_fn))))) (y := (82, [(5, .inl (.int ((s.1 g 15 (x1).toNatClampNeg)))), (4, .inl (.int ((s.1 g 14 (x1).toNatClampNeg)))), (0, .inr (g, 0)), (1, .inl (.int (x1))), (2, .inl (.int (x2))), (3, .inl (.int (x3)))], [], ax_m (ax_wI s g 21 ((s.1 g 15 (x1).toNatClampNeg)).toNatClampNeg (0 : Int32)) ρ)) rfl ⟨trivial, (hg 0 rfl), trivial, trivial, ⟨(hg 21 rfl), ax_inp b26⟩, trivial⟩ ?_
        refine ax_lt (Q := fun ςς => ax_R G 7 0 0 (82, [(5, .inl (.int ((s.1 g 15 (x1).toNatClampNeg)))), (4, .inl (.int ((s.1 g 14 (x1).toNatClampNeg)))), (0, .inr (g, 0)), (1, .inl (.int (x1))), (2, .inl (.int (x2))), (3, .inl (.int (x3)))], [], ax_m (ςς) ρ)) h (fun s27 h => ?_)
        refine ax_bk hK (ax_fc (ax_v_ii (d := 1) d_P_layOut_82 (by decide)) (ax_fc (ax_v_go (tgt := 192) d_P_layOut_85 (by decide)) ax_fn)) (y := (192, [(1, .inl (.int ((x1 + (1 : Int32))))), (5, .inl (.int ((s.1 g 15 (x1).toNatClampNeg)))), (4, .inl (.int ((s.1 g 14 (x1).toNatClampNeg)))), (0, .inr (g, 0)), (2, .inl (.int (x2))), (3, .inl (.int (x3)))], [], ax_m (s27) ρ)) rfl ⟨trivial, trivial, trivial⟩ ?_
        refine ax_bk hK (ax_fc (ax_v_ii (d := 1) d_P_layOut_192 (by decide)) (ax_fc (ax_v_go (tgt := 20) d_P_layOut_195 (by decide)) ax_fn)) (y := (20, [(3, .inl (.int ((x3 + (1 : Int32))))), (1, .inl (.int ((x1 + (1 : Int32))))), (5, .inl (.int ((s.1 g 15 (x1).toNatClampNeg)))), (4, .inl (.int ((s.1 g 14 (x1).toNatClampNeg)))), (0, .inr (g, 0)), (2, .inl (.int (x2)))], [], ax_m (s27) ρ)) rfl ⟨trivial, trivial, trivial⟩ ?_
        exact ax_Lsub [4, 1, 5, 0] rfl (ih _ h KE)
    clear h
    have h := hw29
    refine ax_ic_ge (tgt := 198) hK d_P_layOut_24 (by decide) (fun c7 => ?_) (fun c7 => ?_)
    · replace h := ax_it c7 h
      cases h
      exact ax_Lsub [] rfl (KTw29 rfl)
    · replace h := ax_if c7 h
      refine ax_bk hK (ax_fc (ax_v_ld (ax_r_iload_n (i := 1) d_P_layOut_27 rfl)) (ax_fc (ax_v_ld (ax_r_aload_n (i := 0) d_P_layOut_28 rfl)) (ax_fc (ax_w_gf (e := none) hal d_P_layOut_29 fd_P_31) (ax_fc (ax_w_gf (e := none) hal d_P_layOut_32 fd_P_52) ax_fn)))) (y := (35, [(0, .inr (g, 0)), (1, .inl (.int (x1))), (2, .inl (.int (x2))), (3, .inl (.int (x3)))], [.inl (.int ((s.1 g 13 6))), .inl (.int (x1))], ax_m (s) ρ)) rfl ⟨trivial, trivial, (hg 0 rfl), (hg 13 rfl), trivial⟩ ?_
      refine ax_ic_ge (tgt := 198) hK d_P_layOut_35 (by decide) (fun c6 => ?_) (fun c6 => ?_)
      · replace h := ax_it c6 h
        cases h
        exact ax_Lsub [] rfl (KTw29 rfl)
      · replace h := ax_if c6 h
        refine ax_bk hK (ax_fc (ax_v_ld (ax_r_iload_n (i := 2) d_P_layOut_38 rfl)) (ax_fc (ax_v_pu (ax_r_sipush (v := 400) d_P_layOut_39 (by decide))) ax_fn)) (y := (42, [(0, .inr (g, 0)), (1, .inl (.int (x1))), (2, .inl (.int (x2))), (3, .inl (.int (x3)))], [.inl (.int ((400 : Int32))), .inl (.int (x2))], ax_m (s) ρ)) rfl ⟨trivial, trivial, trivial⟩ ?_
        refine ax_ic_ge (tgt := 198) hK d_P_layOut_42 (by decide) (fun c5 => ?_) (fun c5 => ?_)
        · replace h := ax_it c5 h
          cases h
          exact ax_Lsub [] rfl (KTw29 rfl)
        · replace h := ax_if c5 h
          cases h
          exact ax_Lsub [0, 1, 2, 3] rfl (KFw29 rfl)
def f_P_layOut (F : Nat) (g : Nat) (s : ax_σ) : Option (ax_σ) :=
  bif ax_in (0 : Int32) 2 then
  ax_let (ax_wI s g 21 ((0 : Int32)).toNatClampNeg (0 : Int32)) (fun s2 =>
    bif ax_in (1 : Int32) 2 then
    ax_let (ax_wI s2 g 21 ((1 : Int32)).toNatClampNeg (0 : Int32)) (fun s4 =>
      Option.bind (lp_P_layOut_20 F g F (0 : Int32) (0 : Int32) (0 : Int32) s4) (fun s30 =>
        some (s30)))
    else none)
  else none
set_option maxHeartbeats 4000000 in
set_option maxRecDepth 100000 in
theorem t_P_layOut {l : Launch} {D : va_G} {cA : Nat → ClassId} {ad : Nat → Nat → Nat} {al : List (Nat × Nat)} {θ : ax_Θ} {ρ : ax_ρ} {F : Nat} {g : Nat} (hg : ax_Mg al g)  {s : ax_σ} {s0 : ax_σ} (h : f_P_layOut F g s = some s0) : ax_T l D cA ad al θ y_P_layOut (.code y_P_layOut prog_5_method_6_code 7 none) 0 [.inr (g, 0)] (ax_m s ρ) none (ax_m s0 ρ) := by
  refine ax_T_of (own := "CipherNotation$Program") (by decide) rfl (Nat.le_of_ble_eq_true rfl) [(0, .inr (g, 0))] rfl ?_
  intro G hA
  have hB := hA.B
  have hK := hB.K
  have hal := hB.la
  unfold f_P_layOut at h
  obtain ⟨b1, h⟩ := ax_gd h
  refine ax_bk hK (ax_fc (ax_v_ld (ax_r_aload_n (i := 0) d_P_layOut_0 rfl)) (ax_fc (ax_w_gf (e := none) hal d_P_layOut_1 fd_P_38) (ax_fc (ax_v_pu (ax_r_iconst (v := 0) d_P_layOut_4 (by decide))) (ax_fc (ax_v_pu (ax_r_iconst (v := 0) d_P_layOut_5 (by decide))) (ax_fc (ax_w_iast hal d_P_layOut_6) ax_fn))))) (y := (7, [(0, .inr (g, 0))], [], ax_m (ax_wI s g 21 ((0 : Int32)).toNatClampNeg (0 : Int32)) ρ)) rfl ⟨trivial, (hg 0 rfl), trivial, trivial, ⟨(hg 21 rfl), ax_inp b1⟩, trivial⟩ ?_
  refine ax_lt (Q := fun ςς => ax_R G 7 0 0 (7, [(0, .inr (g, 0))], [], ax_m (ςς) ρ)) h (fun s2 h => ?_)
  obtain ⟨b3, h⟩ := ax_gd h
  refine ax_bk hK (ax_fc (ax_v_ld (ax_r_aload_n (i := 0) d_P_layOut_7 rfl)) (ax_fc (ax_w_gf (e := none) hal d_P_layOut_8 fd_P_38) (ax_fc (ax_v_pu (ax_r_iconst (v := 1) d_P_layOut_11 (by decide))) (ax_fc (ax_v_pu (ax_r_iconst (v := 0) d_P_layOut_12 (by decide))) (ax_fc (ax_w_iast hal d_P_layOut_13) ax_fn))))) (y := (14, [(0, .inr (g, 0))], [], ax_m (ax_wI s2 g 21 ((1 : Int32)).toNatClampNeg (0 : Int32)) ρ)) rfl ⟨trivial, (hg 0 rfl), trivial, trivial, ⟨(hg 21 rfl), ax_inp b3⟩, trivial⟩ ?_
  refine ax_lt (Q := fun ςς => ax_R G 7 0 0 (14, [(0, .inr (g, 0))], [], ax_m (ςς) ρ)) h (fun s4 h => ?_)
  refine ax_bk hK (ax_fc (ax_v_pu (ax_r_iconst (v := 0) d_P_layOut_14 (by decide))) (ax_fc (ax_v_so (ax_r_istore_n (i := 1) d_P_layOut_15 rfl)) (ax_fc (ax_v_pu (ax_r_iconst (v := 0) d_P_layOut_16 (by decide))) (ax_fc (ax_v_so (ax_r_istore_n (i := 2) d_P_layOut_17 rfl)) (ax_fc (ax_v_pu (ax_r_iconst (v := 0) d_P_layOut_18 (by decide))) (ax_fc (ax_v_so (ax_r_istore_n (i := 3) d_P_layOut_19 rfl)) ax_fn)))))) (y := (20, [(3, .inl (.int ((0 : Int32)))), (2, .inl (.int ((0 : Int32)))), (1, .inl (.int ((0 : Int32)))), (0, .inr (g, 0))], [], ax_m (s4) ρ)) rfl ⟨trivial, trivial, trivial, trivial, trivial, trivial, trivial⟩ ?_
  obtain ⟨w31, hw31, h⟩ := ax_bd h
  refine ax_Lsub [3, 2, 1, 0] rfl (pl_P_layOut_20 hg hB F _ hw31 ?_)
  intro s30 e9
  subst w31
  try dsimp only at h
  change ax_R G 7 0 0 (198, [], [], ax_m (s30) ρ)
  cases h
  exact ax_vret hA d_P_layOut_198
