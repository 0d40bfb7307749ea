def y_R_leaveOutBlanks : MethodName := ⟨"CipherNotation$Reader", "leaveOutBlanks", "([CI)V"⟩
theorem d_R_leaveOutBlanks_0 : decode prog_6_method_3_code 0 = .ok (.aload_n 0, 1) := by decide +kernel
theorem d_R_leaveOutBlanks_1 : decode prog_6_method_3_code 1 = .ok (.iconst 0, 1) := by decide +kernel
theorem d_R_leaveOutBlanks_2 : decode prog_6_method_3_code 2 = .ok (.putfield (75), 3) := by decide +kernel
theorem d_R_leaveOutBlanks_5 : decode prog_6_method_3_code 5 = .ok (.iconst 0, 1) := by decide +kernel
theorem d_R_leaveOutBlanks_6 : decode prog_6_method_3_code 6 = .ok (.istore_n 3, 1) := by decide +kernel
theorem d_R_leaveOutBlanks_7 : decode prog_6_method_3_code 7 = .ok (.iload_n 3, 1) := by decide +kernel
theorem d_R_leaveOutBlanks_8 : decode prog_6_method_3_code 8 = .ok (.iload_n 2, 1) := by decide +kernel
theorem d_R_leaveOutBlanks_9 : decode prog_6_method_3_code 9 = .ok (.if_icmp .ge (49), 3) := by decide +kernel
theorem d_R_leaveOutBlanks_12 : decode prog_6_method_3_code 12 = .ok (.aload_n 1, 1) := by decide +kernel
theorem d_R_leaveOutBlanks_13 : decode prog_6_method_3_code 13 = .ok (.iload_n 3, 1) := by decide +kernel
theorem d_R_leaveOutBlanks_14 : decode prog_6_method_3_code 14 = .ok (.caload, 1) := by decide +kernel
theorem d_R_leaveOutBlanks_15 : decode prog_6_method_3_code 15 = .ok (.bipush (32), 2) := by decide +kernel
theorem d_R_leaveOutBlanks_17 : decode prog_6_method_3_code 17 = .ok (.if_icmp .eq (35), 3) := by decide +kernel
theorem d_R_leaveOutBlanks_20 : decode prog_6_method_3_code 20 = .ok (.aload_n 0, 1) := by decide +kernel
theorem d_R_leaveOutBlanks_21 : decode prog_6_method_3_code 21 = .ok (.getfield (11), 3) := by decide +kernel
theorem d_R_leaveOutBlanks_24 : decode prog_6_method_3_code 24 = .ok (.aload_n 0, 1) := by decide +kernel
theorem d_R_leaveOutBlanks_25 : decode prog_6_method_3_code 25 = .ok (.getfield (75), 3) := by decide +kernel
theorem d_R_leaveOutBlanks_28 : decode prog_6_method_3_code 28 = .ok (.aload_n 1, 1) := by decide +kernel
theorem d_R_leaveOutBlanks_29 : decode prog_6_method_3_code 29 = .ok (.iload_n 3, 1) := by decide +kernel
theorem d_R_leaveOutBlanks_30 : decode prog_6_method_3_code 30 = .ok (.caload, 1) := by decide +kernel
theorem d_R_leaveOutBlanks_31 : decode prog_6_method_3_code 31 = .ok (.castore, 1) := by decide +kernel
theorem d_R_leaveOutBlanks_32 : decode prog_6_method_3_code 32 = .ok (.aload_n 0, 1) := by decide +kernel
theorem d_R_leaveOutBlanks_33 : decode prog_6_method_3_code 33 = .ok (.getfield (15), 3) := by decide +kernel
theorem d_R_leaveOutBlanks_36 : decode prog_6_method_3_code 36 = .ok (.aload_n 0, 1) := by decide +kernel
theorem d_R_leaveOutBlanks_37 : decode prog_6_method_3_code 37 = .ok (.getfield (75), 3) := by decide +kernel
theorem d_R_leaveOutBlanks_40 : decode prog_6_method_3_code 40 = .ok (.iload_n 3, 1) := by decide +kernel
theorem d_R_leaveOutBlanks_41 : decode prog_6_method_3_code 41 = .ok (.iastore, 1) := by decide +kernel
theorem d_R_leaveOutBlanks_42 : decode prog_6_method_3_code 42 = .ok (.aload_n 0, 1) := by decide +kernel
theorem d_R_leaveOutBlanks_43 : decode prog_6_method_3_code 43 = .ok (.dup, 1) := by decide +kernel
theorem d_R_leaveOutBlanks_44 : decode prog_6_method_3_code 44 = .ok (.getfield (75), 3) := by decide +kernel
theorem d_R_leaveOutBlanks_47 : decode prog_6_method_3_code 47 = .ok (.iconst 1, 1) := by decide +kernel
theorem d_R_leaveOutBlanks_48 : decode prog_6_method_3_code 48 = .ok (.iadd, 1) := by decide +kernel
theorem d_R_leaveOutBlanks_49 : decode prog_6_method_3_code 49 = .ok (.putfield (75), 3) := by decide +kernel
theorem d_R_leaveOutBlanks_52 : decode prog_6_method_3_code 52 = .ok (.iinc 3 (1), 3) := by decide +kernel
theorem d_R_leaveOutBlanks_55 : decode prog_6_method_3_code 55 = .ok (.goto (-48), 3) := by decide +kernel
theorem d_R_leaveOutBlanks_58 : decode prog_6_method_3_code 58 = .ok (.aload_n 0, 1) := by decide +kernel
theorem d_R_leaveOutBlanks_59 : decode prog_6_method_3_code 59 = .ok (.getfield (11), 3) := by decide +kernel
theorem d_R_leaveOutBlanks_62 : decode prog_6_method_3_code 62 = .ok (.aload_n 0, 1) := by decide +kernel
theorem d_R_leaveOutBlanks_63 : decode prog_6_method_3_code 63 = .ok (.getfield (75), 3) := by decide +kernel
theorem d_R_leaveOutBlanks_66 : decode prog_6_method_3_code 66 = .ok (.iconst 0, 1) := by decide +kernel
theorem d_R_leaveOutBlanks_67 : decode prog_6_method_3_code 67 = .ok (.castore, 1) := by decide +kernel
theorem d_R_leaveOutBlanks_68 : decode prog_6_method_3_code 68 = .ok (.aload_n 0, 1) := by decide +kernel
theorem d_R_leaveOutBlanks_69 : decode prog_6_method_3_code 69 = .ok (.getfield (15), 3) := by decide +kernel
theorem d_R_leaveOutBlanks_72 : decode prog_6_method_3_code 72 = .ok (.aload_n 0, 1) := by decide +kernel
theorem d_R_leaveOutBlanks_73 : decode prog_6_method_3_code 73 = .ok (.getfield (75), 3) := by decide +kernel
theorem d_R_leaveOutBlanks_76 : decode prog_6_method_3_code 76 = .ok (.iload_n 2, 1) := by decide +kernel
theorem d_R_leaveOutBlanks_77 : decode prog_6_method_3_code 77 = .ok (.iastore, 1) := by decide +kernel
theorem d_R_leaveOutBlanks_78 : decode prog_6_method_3_code 78 = .ok (.aload_n 0, 1) := by decide +kernel
theorem d_R_leaveOutBlanks_79 : decode prog_6_method_3_code 79 = .ok (.iconst 0, 1) := by decide +kernel
theorem d_R_leaveOutBlanks_80 : decode prog_6_method_3_code 80 = .ok (.putfield (72), 3) := by decide +kernel
theorem d_R_leaveOutBlanks_83 : decode prog_6_method_3_code 83 = .ok (.return_, 1) := by decide +kernel
theorem fd_R_11 : ax_fd "CipherNotation$Reader" 11 4 0 := ⟨nC4, nT4, 15, nY4, rfl, nW4, by decide, nw_1 34 (by decide +kernel) rfl, nO4, nA4⟩
theorem fd_R_75 : ax_fd "CipherNotation$Reader" 75 4 2 := ⟨nC4, nT4, 15, nY4, rfl, nW4, by decide, nw_1 36 (by decide +kernel) rfl, nO4, nA4⟩
theorem fd_R_15 : ax_fd "CipherNotation$Reader" 15 4 1 := ⟨nC4, nT4, 15, nY4, rfl, nW4, by decide, nw_1 35 (by decide +kernel) rfl, nO4, nA4⟩
theorem fp_R_75 : ax_fp "CipherNotation$Reader" 75 4 2 (.int) := ⟨nC4, nT4, 15, nY4, rfl, nW4, by decide, nw_1 36 (by decide +kernel) rfl, nO4, nA4, by decide +kernel, by decide +kernel⟩
def lp_R_leaveOutBlanks_7 (F : Nat) (g : Nat) (x2 : Int32) : Nat → Int32 → ax_σ → Option (ax_σ)
  | 0, _, _ => none
  | n + 1, x3, s =>
    if x2 ≤ x3 then
      some s
    else
      bif ax_in x3 240 then
      if (s.1 0 24 (x3).toNatClampNeg) = (32 : Int32) then
        lp_R_leaveOutBlanks_7 F g x2 n (x3 + (1 : Int32)) s
      else
        bif ax_in x3 240 then
        bif ax_in (s.1 0 25 2) 241 then
        ax_let (ax_wI s 0 26 ((s.1 0 25 2)).toNatClampNeg (vp_nar .char (s.1 0 24 (x3).toNatClampNeg))) (fun s5 =>
          bif ax_in (s5.1 0 25 2) 241 then
          ax_let (ax_wI s5 0 27 ((s5.1 0 25 2)).toNatClampNeg x3) (fun s7 =>
            ax_let (ax_wI s7 0 25 2 ((s7.1 0 25 2) + (1 : Int32))) (fun s8 =>
              lp_R_leaveOutBlanks_7 F g x2 n (x3 + (1 : Int32)) s8))
          else none)
        else none
        else none
      else none
set_option maxHeartbeats 4000000 in
set_option maxRecDepth 100000 in
theorem pl_R_leaveOutBlanks_7 {D : va_G} {cA : Nat → ClassId} {ad : Nat → Nat → Nat} {al : List (Nat × Nat)} {θ : ax_Θ} {l : Launch} {ρ : ax_ρ} {G : ax_G} {F g : Nat} {x2 : Int32} (h0 : ax_M0 al) (hg : ax_Mg al g) (hr : ax_rd ρ g) (hB : ax_B D cA ad al θ l "CipherNotation$Reader" prog_6_method_3_code 4 0 G) : ∀ (n : Nat) {x3 : Int32} {s : ax_σ} (out : ax_σ), lp_R_leaveOutBlanks_7 F g x2 n x3 s = some out → (∀ (es : ax_σ), out = es → ax_R G 4 0 0 (58, [(0, .inr (0, 25)), (2, .inl (.int (x2)))], [], ax_m (es) ρ)) → ax_R G 4 0 0 (7, [(0, .inr (0, 25)), (1, .inr (0, 24)), (2, .inl (.int (x2))), (3, .inl (.int (x3)))], [], ax_m (s) ρ) := by
  have hK := hB.K
  have hal := hB.la
  intro n
  induction n with
  | zero =>
    intro x3 s out h
    cases h
  | succ n ih =>
    intro x3 s out h KE
    rw [lp_R_leaveOutBlanks_7] at h
    refine ax_bk hK (ax_fc (ax_v_ld (ax_r_iload_n (i := 3) d_R_leaveOutBlanks_7 rfl)) (ax_fc (ax_v_ld (ax_r_iload_n (i := 2) d_R_leaveOutBlanks_8 rfl)) ax_fn)) (y := (9, [(0, .inr (0, 25)), (1, .inr (0, 24)), (2, .inl (.int (x2))), (3, .inl (.int (x3)))], [.inl (.int (x2)), .inl (.int (x3))], ax_m (s) ρ)) rfl ⟨trivial, trivial, trivial⟩ ?_
    refine ax_ic_ge (tgt := 58) hK d_R_leaveOutBlanks_9 (by decide) (fun c10 => ?_) (fun c10 => ?_)
    · replace h := ax_it c10 h
      cases h
      exact ax_Lsub [0, 2] rfl (KE _ rfl)
    · replace h := ax_if c10 h
      obtain ⟨b2, h⟩ := ax_gd h
      refine ax_bk hK (ax_fc (ax_v_ld (ax_r_aload_n (i := 1) d_R_leaveOutBlanks_12 rfl)) (ax_fc (ax_v_ld (ax_r_iload_n (i := 3) d_R_leaveOutBlanks_13 rfl)) (ax_fc (ax_w_cald hal d_R_leaveOutBlanks_14) (ax_fc (ax_v_pu (ax_r_bipush (v := 32) d_R_leaveOutBlanks_15 (by decide))) ax_fn)))) (y := (17, [(0, .inr (0, 25)), (1, .inr (0, 24)), (2, .inl (.int (x2))), (3, .inl (.int (x3)))], [.inl (.int ((32 : Int32))), .inl (.int ((s.1 0 24 (x3).toNatClampNeg)))], ax_m (s) ρ)) rfl ⟨trivial, trivial, ⟨(h0 24 rfl), ax_inp b2⟩, trivial, trivial⟩ ?_
      refine ax_ic_eq (tgt := 52) hK d_R_leaveOutBlanks_17 (by decide) (fun c9 => ?_) (fun c9 => ?_)
      · replace h := ax_it c9 h
        refine ax_bk hK (ax_fc (ax_v_ii (d := 1) d_R_leaveOutBlanks_52 (by decide)) (ax_fc (ax_v_go (tgt := 7) d_R_leaveOutBlanks_55 (by decide)) ax_fn)) (y := (7, [(3, .inl (.int ((x3 + (1 : Int32))))), (0, .inr (0, 25)), (1, .inr (0, 24)), (2, .inl (.int (x2)))], [], ax_m (s) ρ)) rfl ⟨trivial, trivial, trivial⟩ ?_
        exact ax_Lsub [1, 2, 3, 0] rfl (ih _ h KE)
      · replace h := ax_if c9 h
        obtain ⟨b3, h⟩ := ax_gd h
        obtain ⟨b4, h⟩ := ax_gd h
        refine ax_bk hK (ax_fc (ax_v_ld (ax_r_aload_n (i := 0) d_R_leaveOutBlanks_20 rfl)) (ax_fc (ax_w_gf (e := none) hal d_R_leaveOutBlanks_21 fd_R_11) (ax_fc (ax_v_ld (ax_r_aload_n (i := 0) d_R_leaveOutBlanks_24 rfl)) (ax_fc (ax_w_gf (e := none) hal d_R_leaveOutBlanks_25 fd_R_75) (ax_fc (ax_v_ld (ax_r_aload_n (i := 1) d_R_leaveOutBlanks_28 rfl)) (ax_fc (ax_v_ld (ax_r_iload_n (i := 3) d_R_leaveOutBlanks_29 rfl)) (ax_fc (ax_w_cald hal d_R_leaveOutBlanks_30) (ax_fc (ax_w_cast hal d_R_leaveOutBlanks_31) ax_fn)))))))) (y := (32, [(0, .inr (0, 25)), (1, .inr (0, 24)), (2, .inl (.int (x2))), (3, .inl (.int (x3)))], [], ax_m (ax_wI s 0 26 ((s.1 0 25 2)).toNatClampNeg (vp_nar .char (s.1 0 24 (x3).toNatClampNeg))) ρ)) rfl ⟨trivial, (h0 25 rfl), trivial, (h0 25 rfl), trivial, trivial, ⟨(h0 24 rfl), ax_inp b3⟩, ⟨(h0 26 rfl), ax_inp b4⟩, trivial⟩ ?_
        refine ax_lt (Q := fun ςς => ax_R G 4 0 0 (32, [(0, .inr (0, 25)), (1, .inr (0, 24)), (2, .inl (.int (x2))), (3, .inl (.int (x3)))], [], ax_m (ςς) ρ)) h (fun s5 h => ?_)
        obtain ⟨b6, h⟩ := ax_gd h
        refine ax_bk hK (ax_fc (ax_v_ld (ax_r_aload_n (i := 0) d_R_leaveOutBlanks_32 rfl)) (ax_fc (ax_w_gf (e := none) hal d_R_leaveOutBlanks_33 fd_R_15) (ax_fc (ax_v_ld (ax_r_aload_n (i := 0) d_R_leaveOutBlanks_36 rfl)) (ax_fc (ax_w_gf (e := none) hal d_R_leaveOutBlanks_37 fd_R_75) (ax_fc (ax_v_ld (ax_r_iload_n (i := 3) d_R_leaveOutBlanks_40 rfl)) (ax_fc (ax_w_iast hal d_R_leaveOutBlanks_41) ax_fn)))))) (y := (42, [(0, .inr (0, 25)), (1, .inr (0, 24)), (2, .inl (.int (x2))), (3, .inl (.int (x3)))], [], ax_m (ax_wI s5 0 27 ((s5.1 0 25 2)).toNatClampNeg x3) ρ)) rfl ⟨trivial, (h0 25 rfl), trivial, (h0 25 rfl), trivial, ⟨(h0 27 rfl), ax_inp b6⟩, trivial⟩ ?_
        refine ax_lt (Q := fun ςς => ax_R G 4 0 0 (42, [(0, .inr (0, 25)), (1, .inr (0, 24)), (2, .inl (.int (x2))), (3, .inl (.int (x3)))], [], ax_m (ςς) ρ)) h (fun s7 h => ?_)
        refine ax_bk hK (ax_fc (ax_v_ld (ax_r_aload_n (i := 0) d_R_leaveOutBlanks_42 rfl)) (ax_fc (ax_v_pu (ax_r_dup d_R_leaveOutBlanks_43)) (ax_fc (ax_w_gf (e := none) hal d_R_leaveOutBlanks_44 fd_R_75) (ax_fc (ax_v_pu (ax_r_iconst (v := 1) d_R_leaveOutBlanks_47 (by decide))) (ax_fc (ax_v_pu (ax_r_iadd d_R_leaveOutBlanks_48)) (ax_fc (ax_w_pf (tc := 0) hal d_R_leaveOutBlanks_49 fp_R_75 rfl) ax_fn)))))) (y := (52, [(0, .inr (0, 25)), (1, .inr (0, 24)), (2, .inl (.int (x2))), (3, .inl (.int (x3)))], [], ax_m (ax_wI s7 0 25 2 ((s7.1 0 25 2) + (1 : Int32))) ρ)) rfl ⟨trivial, trivial, (h0 25 rfl), trivial, trivial, (h0 25 rfl), trivial⟩ ?_
        refine ax_lt (Q := fun ςς => ax_R G 4 0 0 (52, [(0, .inr (0, 25)), (1, .inr (0, 24)), (2, .inl (.int (x2))), (3, .inl (.int (x3)))], [], ax_m (ςς) ρ)) h (fun s8 h => ?_)
        refine ax_bk hK (ax_fc (ax_v_ii (d := 1) d_R_leaveOutBlanks_52 (by decide)) (ax_fc (ax_v_go (tgt := 7) d_R_leaveOutBlanks_55 (by decide)) ax_fn)) (y := (7, [(3, .inl (.int ((x3 + (1 : Int32))))), (0, .inr (0, 25)), (1, .inr (0, 24)), (2, .inl (.int (x2)))], [], ax_m (s8) ρ)) rfl ⟨trivial, trivial, trivial⟩ ?_
        exact ax_Lsub [1, 2, 3, 0] rfl (ih _ h KE)
theorem fp_R_72 : ax_fp "CipherNotation$Reader" 72 4 3 (.int) := ⟨nC4, nT4, 15, nY4, rfl, nW4, by decide, nw_1 37 (by decide +kernel) rfl, nO4, nA4, by decide +kernel, by decide +kernel⟩
def f_R_leaveOutBlanks (F : Nat) (g : Nat) (a2 : Int32) (s : ax_σ) : Option (ax_σ) :=
  ax_let (ax_wI s 0 25 2 (0 : Int32)) (fun s1 =>
    Option.bind (lp_R_leaveOutBlanks_7 F g a2 F (0 : Int32) s1) (fun s11 =>
      bif ax_in (s11.1 0 25 2) 241 then
      ax_let (ax_wI s11 0 26 ((s11.1 0 25 2)).toNatClampNeg (vp_nar .char (0 : Int32))) (fun s13 =>
        bif ax_in (s13.1 0 25 2) 241 then
        ax_let (ax_wI s13 0 27 ((s13.1 0 25 2)).toNatClampNeg a2) (fun s15 =>
          ax_let (ax_wI s15 0 25 3 (0 : Int32)) (fun s16 =>
            some (s16)))
        else none)
      else none))
set_option maxHeartbeats 4000000 in
set_option maxRecDepth 100000 in
theorem t_R_leaveOutBlanks {l : Launch} {D : va_G} {cA : Nat → ClassId} {ad : Nat → Nat → Nat} {al : List (Nat × Nat)} {θ : ax_Θ} {ρ : ax_ρ} {F : Nat} {g : Nat} (h0 : ax_M0 al) (hg : ax_Mg al g) (hr : ax_rd ρ g) {a2 : Int32} {s : ax_σ} {s0 : ax_σ} (h : f_R_leaveOutBlanks F g a2 s = some s0) : ax_T l D cA ad al θ y_R_leaveOutBlanks (.code y_R_leaveOutBlanks prog_6_method_3_code 4 none) 0 [.inr (0, 25), .inr (0, 24), .inl (.int (a2))] (ax_m s ρ) none (ax_m s0 ρ) := by
  refine ax_T_of (own := "CipherNotation$Reader") (by decide) rfl (Nat.le_of_ble_eq_true rfl) [(0, .inr (0, 25)), (1, .inr (0, 24)), (2, .inl (.int (a2)))] rfl ?_
  intro G hA
  have hB := hA.B
  have hK := hB.K
  have hal := hB.la
  unfold f_R_leaveOutBlanks at h
  refine ax_bk hK (ax_fc (ax_v_ld (ax_r_aload_n (i := 0) d_R_leaveOutBlanks_0 rfl)) (ax_fc (ax_v_pu (ax_r_iconst (v := 0) d_R_leaveOutBlanks_1 (by decide))) (ax_fc (ax_w_pf (tc := 0) hal d_R_leaveOutBlanks_2 fp_R_75 rfl) ax_fn))) (y := (5, [(0, .inr (0, 25)), (1, .inr (0, 24)), (2, .inl (.int (a2)))], [], ax_m (ax_wI s 0 25 2 (0 : Int32)) ρ)) rfl ⟨trivial, trivial, (h0 25 rfl), trivial⟩ ?_
  refine ax_lt (Q := fun ςς => ax_R G 4 0 0 (5, [(0, .inr (0, 25)), (1, .inr (0, 24)), (2, .inl (.int (a2)))], [], ax_m (ςς) ρ)) h (fun s1 h => ?_)
  refine ax_bk hK (ax_fc (ax_v_pu (ax_r_iconst (v := 0) d_R_leaveOutBlanks_5 (by decide))) (ax_fc (ax_v_so (ax_r_istore_n (i := 3) d_R_leaveOutBlanks_6 rfl)) ax_fn)) (y := (7, [(3, .inl (.int ((0 : Int32)))), (0, .inr (0, 25)), (1, .inr (0, 24)), (2, .inl (.int (a2)))], [], ax_m (s1) ρ)) rfl ⟨trivial, trivial, trivial⟩ ?_
  obtain ⟨w17, hw17, h⟩ := ax_bd h
  refine ax_Lsub [1, 2, 3, 0] rfl (pl_R_leaveOutBlanks_7 h0 hg hr hB F _ hw17 ?_)
  intro s11 e9
  subst w17
  try dsimp only at h
  change ax_R G 4 0 0 (58, [(0, .inr (0, 25)), (2, .inl (.int (a2)))], [], ax_m (s11) ρ)
  obtain ⟨b12, h⟩ := ax_gd h
  refine ax_bk hK (ax_fc (ax_v_ld (ax_r_aload_n (i := 0) d_R_leaveOutBlanks_58 rfl)) (ax_fc (ax_w_gf (e := none) hal d_R_leaveOutBlanks_59 fd_R_11) (ax_fc (ax_v_ld (ax_r_aload_n (i := 0) d_R_leaveOutBlanks_62 rfl)) (ax_fc (ax_w_gf (e := none) hal d_R_leaveOutBlanks_63 fd_R_75) (ax_fc (ax_v_pu (ax_r_iconst (v := 0) d_R_leaveOutBlanks_66 (by decide))) (ax_fc (ax_w_cast hal d_R_leaveOutBlanks_67) ax_fn)))))) (y := (68, [(0, .inr (0, 25)), (2, .inl (.int (a2)))], [], ax_m (ax_wI s11 0 26 ((s11.1 0 25 2)).toNatClampNeg (vp_nar .char (0 : Int32))) ρ)) rfl ⟨trivial, (h0 25 rfl), trivial, (h0 25 rfl), trivial, ⟨(h0 26 rfl), ax_inp b12⟩, trivial⟩ ?_
  refine ax_lt (Q := fun ςς => ax_R G 4 0 0 (68, [(0, .inr (0, 25)), (2, .inl (.int (a2)))], [], ax_m (ςς) ρ)) h (fun s13 h => ?_)
  obtain ⟨b14, h⟩ := ax_gd h
  refine ax_bk hK (ax_fc (ax_v_ld (ax_r_aload_n (i := 0) d_R_leaveOutBlanks_68 rfl)) (ax_fc (ax_w_gf (e := none) hal d_R_leaveOutBlanks_69 fd_R_15) (ax_fc (ax_v_ld (ax_r_aload_n (i := 0) d_R_leaveOutBlanks_72 rfl)) (ax_fc (ax_w_gf (e := none) hal d_R_leaveOutBlanks_73 fd_R_75) (ax_fc (ax_v_ld (ax_r_iload_n (i := 2) d_R_leaveOutBlanks_76 rfl)) (ax_fc (ax_w_iast hal d_R_leaveOutBlanks_77) ax_fn)))))) (y := (78, [(0, .inr (0, 25)), (2, .inl (.int (a2)))], [], ax_m (ax_wI s13 0 27 ((s13.1 0 25 2)).toNatClampNeg a2) ρ)) rfl ⟨trivial, (h0 25 rfl), trivial, (h0 25 rfl), trivial, ⟨(h0 27 rfl), ax_inp b14⟩, trivial⟩ ?_
  refine ax_lt (Q := fun ςς => ax_R G 4 0 0 (78, [(0, .inr (0, 25)), (2, .inl (.int (a2)))], [], ax_m (ςς) ρ)) h (fun s15 h => ?_)
  refine ax_bk hK (ax_fc (ax_v_ld (ax_r_aload_n (i := 0) d_R_leaveOutBlanks_78 rfl)) (ax_fc (ax_v_pu (ax_r_iconst (v := 0) d_R_leaveOutBlanks_79 (by decide))) (ax_fc (ax_w_pf (tc := 0) hal d_R_leaveOutBlanks_80 fp_R_72 rfl) ax_fn))) (y := (83, [(0, .inr (0, 25)), (2, .inl (.int (a2)))], [], ax_m (ax_wI s15 0 25 3 (0 : Int32)) ρ)) rfl ⟨trivial, trivial, (h0 25 rfl), trivial⟩ ?_
  refine ax_lt (Q := fun ςς => ax_R G 4 0 0 (83, [(0, .inr (0, 25)), (2, .inl (.int (a2)))], [], ax_m (ςς) ρ)) h (fun s16 h => ?_)
  cases h
  exact ax_vret hA d_R_leaveOutBlanks_83
def y_R_note : MethodName := ⟨"CipherNotation$Reader", "note", "(II)V"⟩
theorem d_R_note_0 : decode prog_6_method_4_code 0 = .ok (.aload_n 0, 1) := by decide +kernel
theorem d_R_note_1 : decode prog_6_method_4_code 1 = .ok (.aload_n 0, 1) := by decide +kernel
theorem d_R_note_2 : decode prog_6_method_4_code 2 = .ok (.getfield (54), 3) := by decide +kernel
theorem d_R_note_5 : decode prog_6_method_4_code 5 = .ok (.iload_n 1, 1) := by decide +kernel
theorem d_R_note_6 : decode prog_6_method_4_code 6 = .ok (.bipush (8), 2) := by decide +kernel
theorem d_R_note_8 : decode prog_6_method_4_code 8 = .ok (.imul, 1) := by decide +kernel
theorem d_R_note_9 : decode prog_6_method_4_code 9 = .ok (.iload_n 2, 1) := by decide +kernel
theorem d_R_note_10 : decode prog_6_method_4_code 10 = .ok (.iadd, 1) := by decide +kernel
theorem d_R_note_11 : decode prog_6_method_4_code 11 = .ok (.invokestatic (90), 3) := by decide +kernel
theorem d_R_note_14 : decode prog_6_method_4_code 14 = .ok (.putfield (54), 3) := by decide +kernel
theorem d_R_note_17 : decode prog_6_method_4_code 17 = .ok (.return_, 1) := by decide +kernel
theorem fd_R_54 : ax_fd "CipherNotation$Reader" 54 4 7 := ⟨nC4, nT4, 15, nY4, rfl, nW4, by decide, nw_1 41 (by decide +kernel) rfl, nO4, nA4⟩
set_option maxRecDepth 100000 in
theorem cw_R_90 : ax_cw "CipherNotation$Reader" 90 y_Math_min (.code y_Math_min prog_14_method_69_code 2 (some .int)) 2 := ⟨nw_2 85 (by decide +kernel) rfl, nw_1 8 (by decide +kernel) rfl, nw_2 87 rfl rfl, by decide +kernel, by decide +kernel⟩
theorem sm_Math_min : Cond.static y_Math_min ∈ ax_tbl := nw_2 86 (by decide +kernel) rfl
theorem fp_R_54 : ax_fp "CipherNotation$Reader" 54 4 7 (.int) := ⟨nC4, nT4, 15, nY4, rfl, nW4, by decide, nw_1 41 (by decide +kernel) rfl, nO4, nA4, by decide +kernel, by decide +kernel⟩
def f_R_note (g : Nat) (a1 : Int32) (a2 : Int32) (s : ax_σ) : Option (ax_σ) :=
  Option.bind (f_Math_min (s.1 0 25 7) ((a1 * (8 : Int32)) + a2)) (fun r1 =>
    ax_let (ax_wI s 0 25 7 r1) (fun s3 =>
      some (s3)))
set_option maxHeartbeats 4000000 in
set_option maxRecDepth 100000 in
theorem t_R_note {l : Launch} {D : va_G} {cA : Nat → ClassId} {ad : Nat → Nat → Nat} {al : List (Nat × Nat)} {θ : ax_Θ} {ρ : ax_ρ} {g : Nat} (h0 : ax_M0 al) (hg : ax_Mg al g) (hr : ax_rd ρ g) {a1 : Int32} {a2 : Int32} {s : ax_σ} {s0 : ax_σ} (h : f_R_note g a1 a2 s = some s0) : ax_T l D cA ad al θ y_R_note (.code y_R_note prog_6_method_4_code 3 none) 1 [.inr (0, 25), .inl (.int (a1)), .inl (.int (a2))] (ax_m s ρ) none (ax_m s0 ρ) := by
  refine ax_T_of (own := "CipherNotation$Reader") (by decide) rfl (Nat.le_of_ble_eq_true rfl) [(0, .inr (0, 25)), (1, .inl (.int (a1))), (2, .inl (.int (a2)))] rfl ?_
  intro G hA
  have hB := hA.B
  have hK := hB.K
  have hal := hB.la
  unfold f_R_note at h
  refine ax_bk hK (ax_fc (ax_v_ld (ax_r_aload_n (i := 0) d_R_note_0 rfl)) (ax_fc (ax_v_ld (ax_r_aload_n (i := 0) d_R_note_1 rfl)) (ax_fc (ax_w_gf (e := none) hal d_R_note_2 fd_R_54) (ax_fc (ax_v_ld (ax_r_iload_n (i := 1) d_R_note_5 rfl)) (ax_fc (ax_v_pu (ax_r_bipush (v := 8) d_R_note_6 (by decide))) (ax_fc (ax_v_pu (ax_r_imul d_R_note_8)) (ax_fc (ax_v_ld (ax_r_iload_n (i := 2) d_R_note_9 rfl)) (ax_fc (ax_v_pu (ax_r_iadd d_R_note_10)) ax_fn)))))))) (y := (11, [(0, .inr (0, 25)), (1, .inl (.int (a1))), (2, .inl (.int (a2)))], [.inl (.int (((a1 * (8 : Int32)) + a2))), .inl (.int ((s.1 0 25 7))), .inr (0, 25)], ax_m (s) ρ)) rfl ⟨trivial, trivial, (h0 25 rfl), trivial, trivial, trivial, trivial, trivial, trivial⟩ ?_
  obtain ⟨r1, q2, h⟩ := ax_bd h
  refine ax_bS (rest := [.inr (0, 25)]) hB (t_Math_min q2) cw_R_90 sm_Math_min d_R_note_11 (by decide) (by decide) rfl rfl (Nat.le_of_ble_eq_true rfl) ?_
  change ax_R G 3 0 0 (14, [(0, .inr (0, 25)), (1, .inl (.int (a1))), (2, .inl (.int (a2)))], [.inl (.int (r1)), .inr (0, 25)], ax_m (s) ρ)
  refine ax_bk hK (ax_fc (ax_w_pf (tc := 0) hal d_R_note_14 fp_R_54 rfl) ax_fn) (y := (17, [(0, .inr (0, 25)), (1, .inl (.int (a1))), (2, .inl (.int (a2)))], [], ax_m (ax_wI s 0 25 7 r1) ρ)) rfl ⟨(h0 25 rfl), trivial⟩ ?_
  refine ax_lt (Q := fun ςς => ax_R G 3 0 0 (17, [(0, .inr (0, 25)), (1, .inl (.int (a1))), (2, .inl (.int (a2)))], [], ax_m (ςς) ρ)) h (fun s3 h => ?_)
  cases h
  exact ax_vret hA d_R_note_17
def y_R_take : MethodName := ⟨"CipherNotation$Reader", "take", "(C)Z"⟩
theorem d_R_take_0 : decode prog_6_method_5_code 0 = .ok (.aload_n 0, 1) := by decide +kernel
theorem d_R_take_1 : decode prog_6_method_5_code 1 = .ok (.getfield (11), 3) := by decide +kernel
theorem d_R_take_4 : decode prog_6_method_5_code 4 = .ok (.aload_n 0, 1) := by decide +kernel
theorem d_R_take_5 : decode prog_6_method_5_code 5 = .ok (.getfield (72), 3) := by decide +kernel
theorem d_R_take_8 : decode prog_6_method_5_code 8 = .ok (.caload, 1) := by decide +kernel
theorem d_R_take_9 : decode prog_6_method_5_code 9 = .ok (.iload_n 1, 1) := by decide +kernel
theorem d_R_take_10 : decode prog_6_method_5_code 10 = .ok (.if_icmp .eq (5), 3) := by decide +kernel
theorem d_R_take_13 : decode prog_6_method_5_code 13 = .ok (.iconst 0, 1) := by decide +kernel
theorem d_R_take_14 : decode prog_6_method_5_code 14 = .ok (.ireturn, 1) := by decide +kernel
theorem d_R_take_15 : decode prog_6_method_5_code 15 = .ok (.aload_n 0, 1) := by decide +kernel
theorem d_R_take_16 : decode prog_6_method_5_code 16 = .ok (.dup, 1) := by decide +kernel
theorem d_R_take_17 : decode prog_6_method_5_code 17 = .ok (.getfield (72), 3) := by decide +kernel
theorem d_R_take_20 : decode prog_6_method_5_code 20 = .ok (.iconst 1, 1) := by decide +kernel
theorem d_R_take_21 : decode prog_6_method_5_code 21 = .ok (.iadd, 1) := by decide +kernel
theorem d_R_take_22 : decode prog_6_method_5_code 22 = .ok (.putfield (72), 3) := by decide +kernel
theorem d_R_take_25 : decode prog_6_method_5_code 25 = .ok (.iconst 1, 1) := by decide +kernel
theorem d_R_take_26 : decode prog_6_method_5_code 26 = .ok (.ireturn, 1) := by decide +kernel
theorem fd_R_72 : ax_fd "CipherNotation$Reader" 72 4 3 := ⟨nC4, nT4, 15, nY4, rfl, nW4, by decide, nw_1 37 (by decide +kernel) rfl, nO4, nA4⟩
def f_R_take (g : Nat) (a1 : Int32) (s : ax_σ) : Option (Int32 × ax_σ) :=
  bif ax_in (s.1 0 25 3) 241 then
  if (s.1 0 26 ((s.1 0 25 3)).toNatClampNeg) = a1 then
    ax_let (ax_wI s 0 25 3 ((s.1 0 25 3) + (1 : Int32))) (fun s2 =>
      some (((1 : Int32), s2)))
  else
    some (((0 : Int32), s))
  else none
set_option maxHeartbeats 4000000 in
set_option maxRecDepth 100000 in
theorem t_R_take {l : Launch} {D : va_G} {cA : Nat → ClassId} {ad : Nat → Nat → Nat} {al : List (Nat × Nat)} {θ : ax_Θ} {ρ : ax_ρ} {g : Nat} (h0 : ax_M0 al) (hg : ax_Mg al g) (hr : ax_rd ρ g) {a1 : Int32} {s : ax_σ} {r0 : Int32} {s0 : ax_σ} (h : f_R_take g a1 s = some (r0, s0)) : ax_T l D cA ad al θ y_R_take (.code y_R_take prog_6_method_5_code 2 (some .boolean)) 0 [.inr (0, 25), .inl (.int (a1))] (ax_m s ρ) (some (.inl (.int r0))) (ax_m s0 ρ) := by
  refine ax_T_of (own := "CipherNotation$Reader") (by decide) rfl (Nat.le_of_ble_eq_true rfl) [(0, .inr (0, 25)), (1, .inl (.int (a1)))] rfl ?_
  intro G hA
  have hB := hA.B
  have hK := hB.K
  have hal := hB.la
  unfold f_R_take at h
  obtain ⟨b1, h⟩ := ax_gd h
  refine ax_bk hK (ax_fc (ax_v_ld (ax_r_aload_n (i := 0) d_R_take_0 rfl)) (ax_fc (ax_w_gf (e := none) hal d_R_take_1 fd_R_11) (ax_fc (ax_v_ld (ax_r_aload_n (i := 0) d_R_take_4 rfl)) (ax_fc (ax_w_gf (e := none) hal d_R_take_5 fd_R_72) (ax_fc (ax_w_cald hal d_R_take_8) (ax_fc (ax_v_ld (ax_r_iload_n (i := 1) d_R_take_9 rfl)) ax_fn)))))) (y := (10, [(0, .inr (0, 25)), (1, .inl (.int (a1)))], [.inl (.int (a1)), .inl (.int ((s.1 0 26 ((s.1 0 25 3)).toNatClampNeg)))], ax_m (s) ρ)) rfl ⟨trivial, (h0 25 rfl), trivial, (h0 25 rfl), ⟨(h0 26 rfl), ax_inp b1⟩, trivial, trivial⟩ ?_
  refine ax_ic_eq (tgt := 15) hK d_R_take_10 (by decide) (fun c3 => ?_) (fun c3 => ?_)
  · replace h := ax_it c3 h
    refine ax_bk hK (ax_fc (ax_v_ld (ax_r_aload_n (i := 0) d_R_take_15 rfl)) (ax_fc (ax_v_pu (ax_r_dup d_R_take_16)) (ax_fc (ax_w_gf (e := none) hal d_R_take_17 fd_R_72) (ax_fc (ax_v_pu (ax_r_iconst (v := 1) d_R_take_20 (by decide))) (ax_fc (ax_v_pu (ax_r_iadd d_R_take_21)) (ax_fc (ax_w_pf (tc := 0) hal d_R_take_22 fp_R_72 rfl) ax_fn)))))) (y := (25, [(0, .inr (0, 25)), (1, .inl (.int (a1)))], [], ax_m (ax_wI s 0 25 3 ((s.1 0 25 3) + (1 : Int32))) ρ)) rfl ⟨trivial, trivial, (h0 25 rfl), trivial, trivial, (h0 25 rfl), trivial⟩ ?_
    refine ax_lt (Q := fun ςς => ax_R G 2 0 0 (25, [(0, .inr (0, 25)), (1, .inl (.int (a1)))], [], ax_m (ςς) ρ)) h (fun s2 h => ?_)
    refine ax_bk hK (ax_fc (ax_v_pu (ax_r_iconst (v := 1) d_R_take_25 (by decide))) ax_fn) (y := (26, [(0, .inr (0, 25)), (1, .inl (.int (a1)))], [.inl (.int ((1 : Int32)))], ax_m (s2) ρ)) rfl ⟨trivial, trivial⟩ ?_
    cases h
    exact ax_zret hA (by decide) d_R_take_26
  · replace h := ax_if c3 h
    refine ax_bk hK (ax_fc (ax_v_pu (ax_r_iconst (v := 0) d_R_take_13 (by decide))) ax_fn) (y := (14, [(0, .inr (0, 25)), (1, .inl (.int (a1)))], [.inl (.int ((0 : Int32)))], ax_m (s) ρ)) rfl ⟨trivial, trivial⟩ ?_
    cases h
    exact ax_zret hA (by decide) d_R_take_14
def y_R_isDigit : MethodName := ⟨"CipherNotation$Reader", "isDigit", "(C)Z"⟩
theorem d_R_isDigit_0 : decode prog_6_method_6_code 0 = .ok (.iload_n 0, 1) := by decide +kernel
theorem d_R_isDigit_1 : decode prog_6_method_6_code 1 = .ok (.bipush (48), 2) := by decide +kernel
theorem d_R_isDigit_3 : decode prog_6_method_6_code 3 = .ok (.if_icmp .lt (13), 3) := by decide +kernel
theorem d_R_isDigit_6 : decode prog_6_method_6_code 6 = .ok (.iload_n 0, 1) := by decide +kernel
theorem d_R_isDigit_7 : decode prog_6_method_6_code 7 = .ok (.bipush (57), 2) := by decide +kernel
theorem d_R_isDigit_9 : decode prog_6_method_6_code 9 = .ok (.if_icmp .gt (7), 3) := by decide +kernel
theorem d_R_isDigit_12 : decode prog_6_method_6_code 12 = .ok (.iconst 1, 1) := by decide +kernel
theorem d_R_isDigit_13 : decode prog_6_method_6_code 13 = .ok (.goto (4), 3) := by decide +kernel
theorem d_R_isDigit_16 : decode prog_6_method_6_code 16 = .ok (.iconst 0, 1) := by decide +kernel
theorem d_R_isDigit_17 : decode prog_6_method_6_code 17 = .ok (.ireturn, 1) := by decide +kernel
def f_R_isDigit (a1 : Int32) : Option (Int32) :=
  Option.bind (
    if a1 < (48 : Int32) then
      some true
    else
      if (57 : Int32) < a1 then
        some true
      else
        some false) (fun w3 => bif w3 then
    some ((0 : Int32))
  else
    some ((1 : Int32)))
set_option maxHeartbeats 4000000 in
set_option maxRecDepth 100000 in
theorem t_R_isDigit {l : Launch} {D : va_G} {cA : Nat → ClassId} {ad : Nat → Nat → Nat} {al : List (Nat × Nat)} {θ : ax_Θ} {ρ : ax_ρ}  {a1 : Int32} {s : ax_σ} {r0 : Int32} (h : f_R_isDigit a1 = some r0) : ax_T l D cA ad al θ y_R_isDigit (.code y_R_isDigit prog_6_method_6_code 1 (some .boolean)) 0 [.inl (.int (a1))] (ax_m s ρ) (some (.inl (.int r0))) (ax_m s ρ) := by
  refine ax_T_of (own := "CipherNotation$Reader") (by decide) rfl (Nat.le_of_ble_eq_true rfl) [(0, .inl (.int (a1)))] rfl ?_
  intro G hA
  have hB := hA.B
  have hK := hB.K
  have hal := hB.la
  unfold f_R_isDigit at h
  refine ax_bk hK (ax_fc (ax_v_ld (ax_r_iload_n (i := 0) d_R_isDigit_0 rfl)) (ax_fc (ax_v_pu (ax_r_bipush (v := 48) d_R_isDigit_1 (by decide))) ax_fn)) (y := (3, [(0, .inl (.int (a1)))], [.inl (.int ((48 : Int32))), .inl (.int (a1))], ax_m (s) ρ)) rfl ⟨trivial, trivial, trivial⟩ ?_
  obtain ⟨w3, hw3, h⟩ := ax_bd h
  have KTw3 : w3 = true → ax_R G 1 0 0 (16, [], [], ax_m (s) ρ) := by
    intro e9
    subst w3
    replace h := ax_ct h
    refine ax_bk hK (ax_fc (ax_v_pu (ax_r_iconst (v := 0) d_R_isDigit_16 (by decide))) ax_fn) (y := (17, [], [.inl (.int ((0 : Int32)))], ax_m (s) ρ)) rfl ⟨trivial, trivial⟩ ?_
    cases h
    exact ax_zret hA (by decide) d_R_isDigit_17
  have KFw3 : w3 = false → ax_R G 1 0 0 (12, [], [], ax_m (s) ρ) := by
    intro e9
    subst w3
    replace h := ax_cf h
    refine ax_bk hK (ax_fc (ax_v_pu (ax_r_iconst (v := 1) d_R_isDigit_12 (by decide))) (ax_fc (ax_v_go (tgt := 17) d_R_isDigit_13 (by decide)) ax_fn)) (y := (17, [], [.inl (.int ((1 : Int32)))], ax_m (s) ρ)) rfl ⟨trivial, trivial, trivial⟩ ?_
    cases h
    exact ax_zret hA (by decide) d_R_isDigit_17
  clear h
  have h := hw3
  refine ax_ic_lt (tgt := 16) hK d_R_isDigit_3 (by decide) (fun c2 => ?_) (fun c2 => ?_)
  · replace h := ax_it c2 h
    cases h
    exact ax_Lsub [] rfl (KTw3 rfl)
  · replace h := ax_if c2 h
    refine ax_bk hK (ax_fc (ax_v_ld (ax_r_iload_n (i := 0) d_R_isDigit_6 rfl)) (ax_fc (ax_v_pu (ax_r_bipush (v := 57) d_R_isDigit_7 (by decide))) ax_fn)) (y := (9, [(0, .inl (.int (a1)))], [.inl (.int ((57 : Int32))), .inl (.int (a1))], ax_m (s) ρ)) rfl ⟨trivial, trivial, trivial⟩ ?_
    refine ax_ic_gt (tgt := 16) hK d_R_isDigit_9 (by decide) (fun c1 => ?_) (fun c1 => ?_)
    · replace h := ax_it c1 h
      cases h
      exact ax_Lsub [] rfl (KTw3 rfl)
    · replace h := ax_if c1 h
      cases h
      exact ax_Lsub [] rfl (KFw3 rfl)
def y_R_isLetter : MethodName := ⟨"CipherNotation$Reader", "isLetter", "(C)Z"⟩
theorem d_R_isLetter_0 : decode prog_6_method_7_code 0 = .ok (.iload_n 0, 1) := by decide +kernel
theorem d_R_isLetter_1 : decode prog_6_method_7_code 1 = .ok (.bipush (105), 2) := by decide +kernel
theorem d_R_isLetter_3 : decode prog_6_method_7_code 3 = .ok (.if_icmp .eq (9), 3) := by decide +kernel
theorem d_R_isLetter_6 : decode prog_6_method_7_code 6 = .ok (.iload_n 0, 1) := by decide +kernel
theorem d_R_isLetter_7 : decode prog_6_method_7_code 7 = .ok (.bipush (106), 2) := by decide +kernel
theorem d_R_isLetter_9 : decode prog_6_method_7_code 9 = .ok (.if_icmp .ne (7), 3) := by decide +kernel
theorem d_R_isLetter_12 : decode prog_6_method_7_code 12 = .ok (.iconst 1, 1) := by decide +kernel
theorem d_R_isLetter_13 : decode prog_6_method_7_code 13 = .ok (.goto (4), 3) := by decide +kernel
theorem d_R_isLetter_16 : decode prog_6_method_7_code 16 = .ok (.iconst 0, 1) := by decide +kernel
theorem d_R_isLetter_17 : decode prog_6_method_7_code 17 = .ok (.ireturn, 1) := by decide +kernel
def f_R_isLetter (a1 : Int32) : Option (Int32) :=
  Option.bind (
    if a1 = (105 : Int32) then
      some true
    else
      if a1 = (106 : Int32) then
        some true
      else
        some false) (fun w3 => bif w3 then
    some ((1 : Int32))
  else
    some ((0 : Int32)))
set_option maxHeartbeats 4000000 in
set_option maxRecDepth 100000 in
theorem t_R_isLetter {l : Launch} {D : va_G} {cA : Nat → ClassId} {ad : Nat → Nat → Nat} {al : List (Nat × Nat)} {θ : ax_Θ} {ρ : ax_ρ}  {a1 : Int32} {s : ax_σ} {r0 : Int32} (h : f_R_isLetter a1 = some r0) : ax_T l D cA ad al θ y_R_isLetter (.code y_R_isLetter prog_6_method_7_code 1 (some .boolean)) 0 [.inl (.int (a1))] (ax_m s ρ) (some (.inl (.int r0))) (ax_m s ρ) := by
  refine ax_T_of (own := "CipherNotation$Reader") (by decide) rfl (Nat.le_of_ble_eq_true rfl) [(0, .inl (.int (a1)))] rfl ?_
  intro G hA
  have hB := hA.B
  have hK := hB.K
  have hal := hB.la
  unfold f_R_isLetter at h
  refine ax_bk hK (ax_fc (ax_v_ld (ax_r_iload_n (i := 0) d_R_isLetter_0 rfl)) (ax_fc (ax_v_pu (ax_r_bipush (v := 105) d_R_isLetter_1 (by decide))) ax_fn)) (y := (3, [(0, .inl (.int (a1)))], [.inl (.int ((105 : Int32))), .inl (.int (a1))], ax_m (s) ρ)) rfl ⟨trivial, trivial, trivial⟩ ?_
  obtain ⟨w3, hw3, h⟩ := ax_bd h
  have KTw3 : w3 = true → ax_R G 1 0 0 (12, [], [], ax_m (s) ρ) := by
    intro e9
    subst w3
    replace h := ax_ct h
    refine ax_bk hK (ax_fc (ax_v_pu (ax_r_iconst (v := 1) d_R_isLetter_12 (by decide))) (ax_fc (ax_v_go (tgt := 17) d_R_isLetter_13 (by decide)) ax_fn)) (y := (17, [], [.inl (.int ((1 : Int32)))], ax_m (s) ρ)) rfl ⟨trivial, trivial, trivial⟩ ?_
    cases h
    exact ax_zret hA (by decide) d_R_isLetter_17
  have KFw3 : w3 = false → ax_R G 1 0 0 (16, [], [], ax_m (s) ρ) := by
    intro e9
    subst w3
    replace h := ax_cf h
    refine ax_bk hK (ax_fc (ax_v_pu (ax_r_iconst (v := 0) d_R_isLetter_16 (by decide))) ax_fn) (y := (17, [], [.inl (.int ((0 : Int32)))], ax_m (s) ρ)) rfl ⟨trivial, trivial⟩ ?_
    cases h
    exact ax_zret hA (by decide) d_R_isLetter_17
  clear h
  have h := hw3
  refine ax_ic_eq (tgt := 12) hK d_R_isLetter_3 (by decide) (fun c2 => ?_) (fun c2 => ?_)
  · replace h := ax_it c2 h
    cases h
    exact ax_Lsub [] rfl (KTw3 rfl)
  · replace h := ax_if c2 h
    refine ax_bk hK (ax_fc (ax_v_ld (ax_r_iload_n (i := 0) d_R_isLetter_6 rfl)) (ax_fc (ax_v_pu (ax_r_bipush (v := 106) d_R_isLetter_7 (by decide))) ax_fn)) (y := (9, [(0, .inl (.int (a1)))], [.inl (.int ((106 : Int32))), .inl (.int (a1))], ax_m (s) ρ)) rfl ⟨trivial, trivial, trivial⟩ ?_
    refine ax_ic_ne (tgt := 16) hK d_R_isLetter_9 (by decide) (fun c1 => ?_) (fun c1 => ?_)
    · replace h := ax_if c1 h
      cases h
      exact ax_Lsub [] rfl (KFw3 rfl)
    · replace h := ax_it c1 h
      cases h
      exact ax_Lsub [] rfl (KTw3 rfl)
def y_R_takeNumber : MethodName := ⟨"CipherNotation$Reader", "takeNumber", "(I)I"⟩
theorem d_R_takeNumber_0 : decode prog_6_method_8_code 0 = .ok (.aload_n 0, 1) := by decide +kernel
theorem d_R_takeNumber_1 : decode prog_6_method_8_code 1 = .ok (.getfield (72), 3) := by decide +kernel
theorem d_R_takeNumber_4 : decode prog_6_method_8_code 4 = .ok (.istore_n 2, 1) := by decide +kernel
theorem d_R_takeNumber_5 : decode prog_6_method_8_code 5 = .ok (.iconst 0, 1) := by decide +kernel
theorem d_R_takeNumber_6 : decode prog_6_method_8_code 6 = .ok (.istore_n 3, 1) := by decide +kernel
theorem d_R_takeNumber_7 : decode prog_6_method_8_code 7 = .ok (.iconst 0, 1) := by decide +kernel
theorem d_R_takeNumber_8 : decode prog_6_method_8_code 8 = .ok (.istore (4), 2) := by decide +kernel
theorem d_R_takeNumber_10 : decode prog_6_method_8_code 10 = .ok (.iload (4), 2) := by decide +kernel
theorem d_R_takeNumber_12 : decode prog_6_method_8_code 12 = .ok (.bipush (9), 2) := by decide +kernel
theorem d_R_takeNumber_14 : decode prog_6_method_8_code 14 = .ok (.if_icmp .ge (73), 3) := by decide +kernel
theorem d_R_takeNumber_17 : decode prog_6_method_8_code 17 = .ok (.aload_n 0, 1) := by decide +kernel
theorem d_R_takeNumber_18 : decode prog_6_method_8_code 18 = .ok (.getfield (11), 3) := by decide +kernel
theorem d_R_takeNumber_21 : decode prog_6_method_8_code 21 = .ok (.aload_n 0, 1) := by decide +kernel
theorem d_R_takeNumber_22 : decode prog_6_method_8_code 22 = .ok (.getfield (72), 3) := by decide +kernel
theorem d_R_takeNumber_25 : decode prog_6_method_8_code 25 = .ok (.caload, 1) := by decide +kernel
theorem d_R_takeNumber_26 : decode prog_6_method_8_code 26 = .ok (.invokestatic (96), 3) := by decide +kernel
theorem d_R_takeNumber_29 : decode prog_6_method_8_code 29 = .ok (.ifCond .eq (58), 3) := by decide +kernel
theorem d_R_takeNumber_32 : decode prog_6_method_8_code 32 = .ok (.aload_n 0, 1) := by decide +kernel
theorem d_R_takeNumber_33 : decode prog_6_method_8_code 33 = .ok (.getfield (15), 3) := by decide +kernel
theorem d_R_takeNumber_36 : decode prog_6_method_8_code 36 = .ok (.aload_n 0, 1) := by decide +kernel
theorem d_R_takeNumber_37 : decode prog_6_method_8_code 37 = .ok (.getfield (72), 3) := by decide +kernel
theorem d_R_takeNumber_40 : decode prog_6_method_8_code 40 = .ok (.iaload, 1) := by decide +kernel
theorem d_R_takeNumber_41 : decode prog_6_method_8_code 41 = .ok (.aload_n 0, 1) := by decide +kernel
theorem d_R_takeNumber_42 : decode prog_6_method_8_code 42 = .ok (.getfield (15), 3) := by decide +kernel
theorem d_R_takeNumber_45 : decode prog_6_method_8_code 45 = .ok (.iload_n 2, 1) := by decide +kernel
theorem d_R_takeNumber_46 : decode prog_6_method_8_code 46 = .ok (.iaload, 1) := by decide +kernel
theorem d_R_takeNumber_47 : decode prog_6_method_8_code 47 = .ok (.iload (4), 2) := by decide +kernel
theorem d_R_takeNumber_49 : decode prog_6_method_8_code 49 = .ok (.iadd, 1) := by decide +kernel
theorem d_R_takeNumber_50 : decode prog_6_method_8_code 50 = .ok (.if_icmp .ne (37), 3) := by decide +kernel
theorem d_R_takeNumber_53 : decode prog_6_method_8_code 53 = .ok (.iload_n 3, 1) := by decide +kernel
theorem d_R_takeNumber_54 : decode prog_6_method_8_code 54 = .ok (.bipush (10), 2) := by decide +kernel
theorem d_R_takeNumber_56 : decode prog_6_method_8_code 56 = .ok (.imul, 1) := by decide +kernel
theorem d_R_takeNumber_57 : decode prog_6_method_8_code 57 = .ok (.aload_n 0, 1) := by decide +kernel
theorem d_R_takeNumber_58 : decode prog_6_method_8_code 58 = .ok (.getfield (11), 3) := by decide +kernel
theorem d_R_takeNumber_61 : decode prog_6_method_8_code 61 = .ok (.aload_n 0, 1) := by decide +kernel
theorem d_R_takeNumber_62 : decode prog_6_method_8_code 62 = .ok (.getfield (72), 3) := by decide +kernel
theorem d_R_takeNumber_65 : decode prog_6_method_8_code 65 = .ok (.caload, 1) := by decide +kernel
theorem d_R_takeNumber_66 : decode prog_6_method_8_code 66 = .ok (.bipush (48), 2) := by decide +kernel
theorem d_R_takeNumber_68 : decode prog_6_method_8_code 68 = .ok (.isub, 1) := by decide +kernel
theorem d_R_takeNumber_69 : decode prog_6_method_8_code 69 = .ok (.iadd, 1) := by decide +kernel
theorem d_R_takeNumber_70 : decode prog_6_method_8_code 70 = .ok (.istore_n 3, 1) := by decide +kernel
theorem d_R_takeNumber_71 : decode prog_6_method_8_code 71 = .ok (.aload_n 0, 1) := by decide +kernel
theorem d_R_takeNumber_72 : decode prog_6_method_8_code 72 = .ok (.dup, 1) := by decide +kernel
theorem d_R_takeNumber_73 : decode prog_6_method_8_code 73 = .ok (.getfield (72), 3) := by decide +kernel
theorem d_R_takeNumber_76 : decode prog_6_method_8_code 76 = .ok (.iconst 1, 1) := by decide +kernel
theorem d_R_takeNumber_77 : decode prog_6_method_8_code 77 = .ok (.iadd, 1) := by decide +kernel
theorem d_R_takeNumber_78 : decode prog_6_method_8_code 78 = .ok (.putfield (72), 3) := by decide +kernel
theorem d_R_takeNumber_81 : decode prog_6_method_8_code 81 = .ok (.iinc 4 (1), 3) := by decide +kernel
theorem d_R_takeNumber_84 : decode prog_6_method_8_code 84 = .ok (.goto (-74), 3) := by decide +kernel
theorem d_R_takeNumber_87 : decode prog_6_method_8_code 87 = .ok (.iload_n 3, 1) := by decide +kernel
theorem d_R_takeNumber_88 : decode prog_6_method_8_code 88 = .ok (.iload_n 1, 1) := by decide +kernel
theorem d_R_takeNumber_89 : decode prog_6_method_8_code 89 = .ok (.if_icmp .lt (14), 3) := by decide +kernel
theorem d_R_takeNumber_92 : decode prog_6_method_8_code 92 = .ok (.aload_n 0, 1) := by decide +kernel
theorem d_R_takeNumber_93 : decode prog_6_method_8_code 93 = .ok (.aload_n 0, 1) := by decide +kernel
theorem d_R_takeNumber_94 : decode prog_6_method_8_code 94 = .ok (.getfield (15), 3) := by decide +kernel
theorem d_R_takeNumber_97 : decode prog_6_method_8_code 97 = .ok (.iload_n 2, 1) := by decide +kernel
theorem d_R_takeNumber_98 : decode prog_6_method_8_code 98 = .ok (.iaload, 1) := by decide +kernel
theorem d_R_takeNumber_99 : decode prog_6_method_8_code 99 = .ok (.iconst 3, 1) := by decide +kernel
theorem d_R_takeNumber_100 : decode prog_6_method_8_code 100 = .ok (.invokevirtual (100), 3) := by decide +kernel
theorem d_R_takeNumber_103 : decode prog_6_method_8_code 103 = .ok (.aload_n 0, 1) := by decide +kernel
theorem d_R_takeNumber_104 : decode prog_6_method_8_code 104 = .ok (.getfield (72), 3) := by decide +kernel
theorem d_R_takeNumber_107 : decode prog_6_method_8_code 107 = .ok (.iload_n 2, 1) := by decide +kernel
theorem d_R_takeNumber_108 : decode prog_6_method_8_code 108 = .ok (.if_icmp .ne (7), 3) := by decide +kernel
theorem d_R_takeNumber_111 : decode prog_6_method_8_code 111 = .ok (.iconst (-1), 1) := by decide +kernel
theorem d_R_takeNumber_112 : decode prog_6_method_8_code 112 = .ok (.goto (4), 3) := by decide +kernel
theorem d_R_takeNumber_115 : decode prog_6_method_8_code 115 = .ok (.iload_n 3, 1) := by decide +kernel
theorem d_R_takeNumber_116 : decode prog_6_method_8_code 116 = .ok (.ireturn, 1) := by decide +kernel
set_option maxRecDepth 100000 in
theorem cw_R_96 : ax_cw "CipherNotation$Reader" 96 y_R_isDigit (.code y_R_isDigit prog_6_method_6_code 1 (some .boolean)) 1 := ⟨nw_2 78 (by decide +kernel) rfl, nw_1 2 (by decide +kernel) rfl, nw_2 80 rfl rfl, by decide +kernel, by decide +kernel⟩
theorem sm_R_isDigit : Cond.static y_R_isDigit ∈ ax_tbl := nw_2 79 (by decide +kernel) rfl
def lp_R_takeNumber_10 (F : Nat) (g : Nat) (x1 : Int32) (x2 : Int32) : Nat → Int32 → Int32 → ax_σ → Option (Int32 × ax_σ)
  | 0, _, _, _ => none
  | n + 1, x3, x4, s =>
    Option.bind (
      if (9 : Int32) ≤ x4 then
        some true
      else
        bif ax_in (s.1 0 25 3) 241 then
        Option.bind (f_R_isDigit (s.1 0 26 ((s.1 0 25 3)).toNatClampNeg)) (fun r2 =>
          if r2 = (0 : Int32) then
            some true
          else
            bif ax_in (s.1 0 25 3) 241 then
            bif ax_in x2 241 then
            if (s.1 0 27 ((s.1 0 25 3)).toNatClampNeg) = ((s.1 0 27 (x2).toNatClampNeg) + x4) then
              some false
            else
              some true
            else none
            else none)
        else none) (fun w11 => bif w11 then
      some (x3, s)
    else
      bif ax_in (s.1 0 25 3) 241 then
      ax_let (ax_wI s 0 25 3 ((s.1 0 25 3) + (1 : Int32))) (fun s10 =>
        lp_R_takeNumber_10 F g x1 x2 n ((x3 * (10 : Int32)) + ((s.1 0 26 ((s.1 0 25 3)).toNatClampNeg) - (48 : Int32))) (x4 + (1 : Int32)) s10)
      else none)
set_option maxHeartbeats 4000000 in
set_option maxRecDepth 100000 in
theorem pl_R_takeNumber_10 {D : va_G} {cA : Nat → ClassId} {ad : Nat → Nat → Nat} {al : List (Nat × Nat)} {θ : ax_Θ} {l : Launch} {ρ : ax_ρ} {G : ax_G} {F g : Nat} {x1 : Int32} {x2 : Int32} (h0 : ax_M0 al) (hg : ax_Mg al g) (hr : ax_rd ρ g) (hB : ax_B D cA ad al θ l "CipherNotation$Reader" prog_6_method_8_code 5 2 G) : ∀ (n : Nat) {x3 : Int32} {x4 : Int32} {s : ax_σ} (out : Int32 × ax_σ), lp_R_takeNumber_10 F g x1 x2 n x3 x4 s = some out → (∀ (e3 : Int32) (es : ax_σ), out = (e3, es) → ax_R G 5 0 0 (87, [(0, .inr (0, 25)), (1, .inl (.int (x1))), (2, .inl (.int (x2))), (3, .inl (.int (e3)))], [], ax_m (es) ρ)) → ax_R G 5 0 0 (10, [(0, .inr (0, 25)), (1, .inl (.int (x1))), (2, .inl (.int (x2))), (3, .inl (.int (x3))), (4, .inl (.int (x4)))], [], ax_m (s) ρ) := by
  have hK := hB.K
  have hal := hB.la
  intro n
  induction n with
  | zero =>
    intro x3 x4 s out h
    cases h
  | succ n ih =>
    intro x3 x4 s out h KE
    rw [lp_R_takeNumber_10] at h
    refine ax_bk hK (ax_fc (ax_v_ld (ax_r_iload d_R_takeNumber_10)) (ax_fc (ax_v_pu (ax_r_bipush (v := 9) d_R_takeNumber_12 (by decide))) ax_fn)) (y := (14, [(0, .inr (0, 25)), (1, .inl (.int (x1))), (2, .inl (.int (x2))), (3, .inl (.int (x3))), (4, .inl (.int (x4)))], [.inl (.int ((9 : Int32))), .inl (.int (x4))], ax_m (s) ρ)) rfl ⟨trivial, trivial, trivial⟩ ?_
    obtain ⟨w11, hw11, h⟩ := ax_bd h
    have KTw11 : w11 = true → ax_R G 5 0 0 (87, [(0, .inr (0, 25)), (1, .inl (.int (x1))), (2, .inl (.int (x2))), (3, .inl (.int (x3)))], [], ax_m (s) ρ) := by
      intro e9
      subst w11
      replace h := ax_ct h
      cases h
      exact ax_Lsub [0, 1, 2, 3] rfl (KE _ _ rfl)
    have KFw11 : w11 = false → ax_R G 5 0 0 (53, [(0, .inr (0, 25)), (1, .inl (.int (x1))), (2, .inl (.int (x2))), (3, .inl (.int (x3))), (4, .inl (.int (x4)))], [], ax_m (s) ρ) := by
      intro e9
      subst w11
      replace h := ax_cf h
      obtain ⟨b9, h⟩ := ax_gd h
      refine ax_bk hK (ax_fc (ax_v_ld (ax_r_iload_n (i := 3) d_R_takeNumber_53 rfl)) (ax_fc (ax_v_pu (ax_r_bipush (v := 10) d_R_takeNumber_54 (by decide))) (ax_fc (ax_v_pu (ax_r_imul d_R_takeNumber_56)) (ax_fc (ax_v_ld (ax_r_aload_n (i := 0) d_R_takeNumber_57 rfl)) (ax_fc (ax_w_gf (e := none) hal d_R_takeNumber_58 fd_R_11) (ax_fc (ax_v_ld (ax_r_aload_n (i := 0) d_R_takeNumber_61 rfl)) (ax_fc (ax_w_gf (e := none) hal d_R_takeNumber_62 fd_R_72) (ax_fc (ax_w_cald hal d_R_takeNumber_65) (ax_fc (ax_v_pu (ax_r_bipush (v := 48) d_R_takeNumber_66 (by decide))) (ax_fc (ax_v_pu (ax_r_isub d_R_takeNumber_68)) (ax_fc (ax_v_pu (ax_r_iadd d_R_takeNumber_69)) (ax_fc (ax_v_so (ax_r_istore_n (i := 3) d_R_takeNumber_70 rfl)) (ax_fc (ax_v_ld (ax_r_aload_n (i := 0) d_R_takeNumber_71 rfl)) (ax_fc (ax_v_pu (ax_r_dup d_R_takeNumber_72)) (ax_fc (ax_w_gf (e := none) hal d_R_takeNumber_73 fd_R_72) (ax_fc (ax_v_pu (ax_r_iconst (v := 1) d_R_takeNumber_76 (by decide))) (ax_fc (ax_v_pu (ax_r_iadd d_R_takeNumber_77)) (ax_fc (ax_w_pf (tc := 0) hal d_R_takeNumber_78 fp_R_72 rfl) ax_fn)))))))))))))))))) (y := (81, [(3, .inl (.int (((x3 * (10 : Int32)) + ((s.1 0 26 ((s.1 0 25 3)).toNatClampNeg) - (48 : Int32)))))), (0, .inr (0, 25)), (1, .inl (.int (x1))), (2, .inl (.int (x2))), (4, .inl (.int (x4)))], [], ax_m (ax_wI s 0 25 3 ((s.1 0 25 3) + (1 : Int32))) ρ)) rfl ⟨trivial, trivial, trivial, trivial, (h0 25 rfl), trivial, (h0 25 rfl), ⟨(h0 26 rfl), ax_inp b9⟩, trivial, trivial, trivial, trivial, trivial, trivial, (h0 25 rfl), trivial, trivial, (h0 25 rfl), trivial⟩ ?_
      refine ax_lt (Q := fun ςς => ax_R G 5 0 0 (81, [(3, .inl (.int (((x3 * (10 : Int32)) + ((s.1 0 26 ((s.1 0 25 3)).toNatClampNeg) - (48 : Int32)))))), (0, .inr (0, 25)), (1, .inl (.int (x1))), (2, .inl (.int (x2))), (4, .inl (.int (x4)))], [], ax_m (ςς) ρ)) h (fun s10 h => ?_)
      refine ax_bk hK (ax_fc (ax_v_ii (d := 1) d_R_takeNumber_81 (by decide)) (ax_fc (ax_v_go (tgt := 10) d_R_takeNumber_84 (by decide)) ax_fn)) (y := (10, [(4, .inl (.int ((x4 + (1 : Int32))))), (3, .inl (.int (((x3 * (10 : Int32)) + ((s.1 0 26 ((s.1 0 25 3)).toNatClampNeg) - (48 : Int32)))))), (0, .inr (0, 25)), (1, .inl (.int (x1))), (2, .inl (.int (x2)))], [], ax_m (s10) ρ)) rfl ⟨trivial, trivial, trivial⟩ ?_
      exact ax_Lsub [2, 3, 4, 1, 0] rfl (ih _ h KE)
    clear h
    have h := hw11
    refine ax_ic_ge (tgt := 87) hK d_R_takeNumber_14 (by decide) (fun c8 => ?_) (fun c8 => ?_)
    · replace h := ax_it c8 h
      cases h
      exact ax_Lsub [0, 1, 2, 3] rfl (KTw11 rfl)
    · replace h := ax_if c8 h
      obtain ⟨b1, h⟩ := ax_gd h
      refine ax_bk hK (ax_fc (ax_v_ld (ax_r_aload_n (i := 0) d_R_takeNumber_17 rfl)) (ax_fc (ax_w_gf (e := none) hal d_R_takeNumber_18 fd_R_11) (ax_fc (ax_v_ld (ax_r_aload_n (i := 0) d_R_takeNumber_21 rfl)) (ax_fc (ax_w_gf (e := none) hal d_R_takeNumber_22 fd_R_72) (ax_fc (ax_w_cald hal d_R_takeNumber_25) ax_fn))))) (y := (26, [(0, .inr (0, 25)), (1, .inl (.int (x1))), (2, .inl (.int (x2))), (3, .inl (.int (x3))), (4, .inl (.int (x4)))], [.inl (.int ((s.1 0 26 ((s.1 0 25 3)).toNatClampNeg)))], ax_m (s) ρ)) rfl ⟨trivial, (h0 25 rfl), trivial, (h0 25 rfl), ⟨(h0 26 rfl), ax_inp b1⟩, trivial⟩ ?_
      obtain ⟨r2, q3, h⟩ := ax_bd h
      refine ax_bS (rest := []) hB (t_R_isDigit q3) cw_R_96 sm_R_isDigit d_R_takeNumber_26 (by decide) (by decide) rfl rfl (Nat.le_of_ble_eq_true rfl) ?_
      change ax_R G 5 0 0 (29, [(0, .inr (0, 25)), (1, .inl (.int (x1))), (2, .inl (.int (x2))), (3, .inl (.int (x3))), (4, .inl (.int (x4)))], [.inl (.int (r2))], ax_m (s) ρ)
      refine ax_if_eq (tgt := 87) hK d_R_takeNumber_29 (by decide) (fun c7 => ?_) (fun c7 => ?_)
      · replace h := ax_it c7 h
        cases h
        exact ax_Lsub [0, 1, 2, 3] rfl (KTw11 rfl)
      · replace h := ax_if c7 h
        obtain ⟨b4, h⟩ := ax_gd h
        obtain ⟨b5, h⟩ := ax_gd h
        refine ax_bk hK (ax_fc (ax_v_ld (ax_r_aload_n (i := 0) d_R_takeNumber_32 rfl)) (ax_fc (ax_w_gf (e := none) hal d_R_takeNumber_33 fd_R_15) (ax_fc (ax_v_ld (ax_r_aload_n (i := 0) d_R_takeNumber_36 rfl)) (ax_fc (ax_w_gf (e := none) hal d_R_takeNumber_37 fd_R_72) (ax_fc (ax_w_iald hal d_R_takeNumber_40) (ax_fc (ax_v_ld (ax_r_aload_n (i := 0) d_R_takeNumber_41 rfl)) (ax_fc (ax_w_gf (e := none) hal d_R_takeNumber_42 fd_R_15) (ax_fc (ax_v_ld (ax_r_iload_n (i := 2) d_R_takeNumber_45 rfl)) (ax_fc (ax_w_iald hal d_R_takeNumber_46) (ax_fc (ax_v_ld (ax_r_iload d_R_takeNumber_47)) (ax_fc (ax_v_pu (ax_r_iadd d_R_takeNumber_49)) ax_fn))))))))))) (y := (50, [(0, .inr (0, 25)), (1, .inl (.int (x1))), (2, .inl (.int (x2))), (3, .inl (.int (x3))), (4, .inl (.int (x4)))], [.inl (.int (((s.1 0 27 (x2).toNatClampNeg) + x4))), .inl (.int ((s.1 0 27 ((s.1 0 25 3)).toNatClampNeg)))], ax_m (s) ρ)) rfl ⟨trivial, (h0 25 rfl), trivial, (h0 25 rfl), ⟨(h0 27 rfl), ax_inp b4⟩, trivial, (h0 25 rfl), trivial, ⟨(h0 27 rfl), ax_inp b5⟩, trivial, trivial, trivial⟩ ?_
        refine ax_ic_ne (tgt := 87) hK d_R_takeNumber_50 (by decide) (fun c6 => ?_) (fun c6 => ?_)
        · replace h := ax_if c6 h
          cases h
          exact ax_Lsub [0, 1, 2, 3] rfl (KTw11 rfl)
        · replace h := ax_it c6 h
          cases h
          exact ax_Lsub [0, 1, 2, 3, 4] rfl (KFw11 rfl)
set_option maxRecDepth 100000 in
theorem cw_R_100 : ax_cw "CipherNotation$Reader" 100 y_R_note (.code y_R_note prog_6_method_4_code 3 none) 2 := ⟨nw_2 81 (by decide +kernel) rfl, nw_1 2 (by decide +kernel) rfl, nw_2 84 rfl rfl, by decide +kernel, by decide +kernel⟩
theorem im_R_note : Cond.instanceMethod y_R_note ∈ ax_tbl := nw_2 83 (by decide +kernel) rfl
theorem se_R_note : Cond.selects y_R_note.cls y_R_note y_R_note ∈ ax_tbl := nw_sel 3 (by decide +kernel) (by decide +kernel)
def f_R_takeNumber (F : Nat) (g : Nat) (a1 : Int32) (s : ax_σ) : Option (Int32 × ax_σ) :=
  Option.bind (lp_R_takeNumber_10 F g a1 (s.1 0 25 3) F (0 : Int32) (0 : Int32) s) (fun (v12, s13) =>
    Option.bind (
      if v12 < a1 then
        some s13
      else
        bif ax_in (s.1 0 25 3) 241 then
        Option.bind (f_R_note g (s13.1 0 27 ((s.1 0 25 3)).toNatClampNeg) (3 : Int32) s13) (fun s15 =>
          some s15)
        else none) (fun s18 =>
      if (s18.1 0 25 3) = (s.1 0 25 3) then
        some (((-1 : Int32), s18))
      else
        some ((v12, s18))))
set_option maxHeartbeats 4000000 in
set_option maxRecDepth 100000 in
theorem t_R_takeNumber {l : Launch} {D : va_G} {cA : Nat → ClassId} {ad : Nat → Nat → Nat} {al : List (Nat × Nat)} {θ : ax_Θ} {ρ : ax_ρ} {F : Nat} {g : Nat} (h0 : ax_M0 al) (hg : ax_Mg al g) (hr : ax_rd ρ g) {a1 : Int32} {s : ax_σ} {r0 : Int32} {s0 : ax_σ} (h : f_R_takeNumber F g a1 s = some (r0, s0)) : ax_T l D cA ad al θ y_R_takeNumber (.code y_R_takeNumber prog_6_method_8_code 5 (some .int)) 2 [.inr (0, 25), .inl (.int (a1))] (ax_m s ρ) (some (.inl (.int r0))) (ax_m s0 ρ) := by
  refine ax_T_of (own := "CipherNotation$Reader") (by decide) rfl (Nat.le_of_ble_eq_true rfl) [(0, .inr (0, 25)), (1, .inl (.int (a1)))] rfl ?_
  intro G hA
  have hB := hA.B
  have hK := hB.K
  have hal := hB.la
  unfold f_R_takeNumber at h
  refine ax_bk hK (ax_fc (ax_v_ld (ax_r_aload_n (i := 0) d_R_takeNumber_0 rfl)) (ax_fc (ax_w_gf (e := none) hal d_R_takeNumber_1 fd_R_72) (ax_fc (ax_v_so (ax_r_istore_n (i := 2) d_R_takeNumber_4 rfl)) (ax_fc (ax_v_pu (ax_r_iconst (v := 0) d_R_takeNumber_5 (by decide))) (ax_fc (ax_v_so (ax_r_istore_n (i := 3) d_R_takeNumber_6 rfl)) (ax_fc (ax_v_pu (ax_r_iconst (v := 0) d_R_takeNumber_7 (by decide))) (ax_fc (ax_v_so (ax_r_istore d_R_takeNumber_8)) ax_fn))))))) (y := (10, [(4, .inl (.int ((0 : Int32)))), (3, .inl (.int ((0 : Int32)))), (2, .inl (.int ((s.1 0 25 3)))), (0, .inr (0, 25)), (1, .inl (.int (a1)))], [], ax_m (s) ρ)) rfl ⟨trivial, (h0 25 rfl), trivial, trivial, trivial, trivial, trivial, trivial⟩ ?_
  obtain ⟨w20, hw20, h⟩ := ax_bd h
  refine ax_Lsub [3, 4, 2, 1, 0] rfl (pl_R_takeNumber_10 h0 hg hr hB F _ hw20 ?_)
  intro v12 s13 e9
  subst w20
  try dsimp only at h
  change ax_R G 5 0 0 (87, [(0, .inr (0, 25)), (1, .inl (.int (a1))), (2, .inl (.int ((s.1 0 25 3)))), (3, .inl (.int (v12)))], [], ax_m (s13) ρ)
  refine ax_bk hK (ax_fc (ax_v_ld (ax_r_iload_n (i := 3) d_R_takeNumber_87 rfl)) (ax_fc (ax_v_ld (ax_r_iload_n (i := 1) d_R_takeNumber_88 rfl)) ax_fn)) (y := (89, [(0, .inr (0, 25)), (1, .inl (.int (a1))), (2, .inl (.int ((s.1 0 25 3)))), (3, .inl (.int (v12)))], [.inl (.int (a1)), .inl (.int (v12))], ax_m (s13) ρ)) rfl ⟨trivial, trivial, trivial⟩ ?_
  obtain ⟨w21, hw21, h⟩ := ax_bd h
  have KEw21 : ∀ (s18 : ax_σ), w21 = s18 → ax_R G 5 0 0 (103, [(0, .inr (0, 25)), (2, .inl (.int ((s.1 0 25 3)))), (3, .inl (.int (v12)))], [], ax_m (s18) ρ) := by
    intro s18 e9
    subst w21
    try dsimp only at h
    refine ax_bk hK (ax_fc (ax_v_ld (ax_r_aload_n (i := 0) d_R_takeNumber_103 rfl)) (ax_fc (ax_w_gf (e := none) hal d_R_takeNumber_104 fd_R_72) (ax_fc (ax_v_ld (ax_r_iload_n (i := 2) d_R_takeNumber_107 rfl)) ax_fn))) (y := (108, [(0, .inr (0, 25)), (2, .inl (.int ((s.1 0 25 3)))), (3, .inl (.int (v12)))], [.inl (.int ((s.1 0 25 3))), .inl (.int ((s18.1 0 25 3)))], ax_m (s18) ρ)) rfl ⟨trivial, (h0 25 rfl), trivial, trivial⟩ ?_
    refine ax_ic_ne (tgt := 115) hK d_R_takeNumber_108 (by decide) (fun c19 => ?_) (fun c19 => ?_)
    · replace h := ax_if c19 h
      refine ax_bk hK (ax_fc (ax_v_ld (ax_r_iload_n (i := 3) d_R_takeNumber_115 rfl)) ax_fn) (y := (116, [(0, .inr (0, 25)), (2, .inl (.int ((s.1 0 25 3)))), (3, .inl (.int (v12)))], [.inl (.int (v12))], ax_m (s18) ρ)) rfl ⟨trivial, trivial⟩ ?_
      cases h
      exact ax_iret hA d_R_takeNumber_116
    · replace h := ax_it c19 h
      refine ax_bk hK (ax_fc (ax_v_pu (ax_r_iconst (v := -1) d_R_takeNumber_111 (by decide))) (ax_fc (ax_v_go (tgt := 116) d_R_takeNumber_112 (by decide)) ax_fn)) (y := (116, [(0, .inr (0, 25)), (2, .inl (.int ((s.1 0 25 3)))), (3, .inl (.int (v12)))], [.inl (.int ((-1 : Int32)))], ax_m (s18) ρ)) rfl ⟨trivial, trivial, trivial⟩ ?_
      cases h
      exact ax_iret hA d_R_takeNumber_116
  clear h
  have h := hw21
  refine ax_ic_lt (tgt := 103) hK d_R_takeNumber_89 (by decide) (fun c17 => ?_) (fun c17 => ?_)
  · replace h := ax_it c17 h
    cases h
    exact ax_Lsub [0, 2, 3] rfl (KEw21 _ rfl)
  · replace h := ax_if c17 h
    obtain ⟨b14, h⟩ := ax_gd h
    refine ax_bk hK (ax_fc (ax_v_ld (ax_r_aload_n (i := 0) d_R_takeNumber_92 rfl)) (ax_fc (ax_v_ld (ax_r_aload_n (i := 0) d_R_takeNumber_93 rfl)) (ax_fc (ax_w_gf (e := none) hal d_R_takeNumber_94 fd_R_15) (ax_fc (ax_v_ld (ax_r_iload_n (i := 2) d_R_takeNumber_97 rfl)) (ax_fc (ax_w_iald hal d_R_takeNumber_98) (ax_fc (ax_v_pu (ax_r_iconst (v := 3) d_R_takeNumber_99 (by decide))) ax_fn)))))) (y := (100, [(0, .inr (0, 25)), (1, .inl (.int (a1))), (2, .inl (.int ((s.1 0 25 3)))), (3, .inl (.int (v12)))], [.inl (.int ((3 : Int32))), .inl (.int ((s13.1 0 27 ((s.1 0 25 3)).toNatClampNeg))), .inr (0, 25)], ax_m (s13) ρ)) rfl ⟨trivial, trivial, (h0 25 rfl), trivial, ⟨(h0 27 rfl), ax_inp b14⟩, trivial, trivial⟩ ?_
    obtain ⟨s15, q16, h⟩ := ax_bd h
    refine ax_bV (rest := []) hB (t_R_note h0 hg hr q16) cw_R_100 im_R_note se_R_note d_R_takeNumber_100 (h0 25 rfl) rfl rfl (by decide) (by decide) rfl rfl (Nat.le_of_ble_eq_true rfl) ?_
    change ax_R G 5 0 0 (103, [(0, .inr (0, 25)), (1, .inl (.int (a1))), (2, .inl (.int ((s.1 0 25 3)))), (3, .inl (.int (v12)))], [], ax_m (s15) ρ)
    cases h
    exact ax_Lsub [0, 2, 3] rfl (KEw21 _ rfl)
def y_R_takeState : MethodName := ⟨"CipherNotation$Reader", "takeState", "()I"⟩
theorem d_R_takeState_0 : decode prog_6_method_9_code 0 = .ok (.aload_n 0, 1) := by decide +kernel
theorem d_R_takeState_1 : decode prog_6_method_9_code 1 = .ok (.getfield (11), 3) := by decide +kernel
theorem d_R_takeState_4 : decode prog_6_method_9_code 4 = .ok (.aload_n 0, 1) := by decide +kernel
theorem d_R_takeState_5 : decode prog_6_method_9_code 5 = .ok (.getfield (72), 3) := by decide +kernel
theorem d_R_takeState_8 : decode prog_6_method_9_code 8 = .ok (.caload, 1) := by decide +kernel
theorem d_R_takeState_9 : decode prog_6_method_9_code 9 = .ok (.istore_n 1, 1) := by decide +kernel
theorem d_R_takeState_10 : decode prog_6_method_9_code 10 = .ok (.iload_n 1, 1) := by decide +kernel
theorem d_R_takeState_11 : decode prog_6_method_9_code 11 = .ok (.bipush (65), 2) := by decide +kernel
theorem d_R_takeState_13 : decode prog_6_method_9_code 13 = .ok (.if_icmp .lt (9), 3) := by decide +kernel
theorem d_R_takeState_16 : decode prog_6_method_9_code 16 = .ok (.iload_n 1, 1) := by decide +kernel
theorem d_R_takeState_17 : decode prog_6_method_9_code 17 = .ok (.bipush (69), 2) := by decide +kernel
theorem d_R_takeState_19 : decode prog_6_method_9_code 19 = .ok (.if_icmp .lt (5), 3) := by decide +kernel
theorem d_R_takeState_22 : decode prog_6_method_9_code 22 = .ok (.iconst (-1), 1) := by decide +kernel
theorem d_R_takeState_23 : decode prog_6_method_9_code 23 = .ok (.ireturn, 1) := by decide +kernel
theorem d_R_takeState_24 : decode prog_6_method_9_code 24 = .ok (.iload_n 1, 1) := by decide +kernel
theorem d_R_takeState_25 : decode prog_6_method_9_code 25 = .ok (.bipush (65), 2) := by decide +kernel
theorem d_R_takeState_27 : decode prog_6_method_9_code 27 = .ok (.isub, 1) := by decide +kernel
theorem d_R_takeState_28 : decode prog_6_method_9_code 28 = .ok (.istore_n 2, 1) := by decide +kernel
theorem d_R_takeState_29 : decode prog_6_method_9_code 29 = .ok (.iload_n 2, 1) := by decide +kernel
theorem d_R_takeState_30 : decode prog_6_method_9_code 30 = .ok (.aload_n 0, 1) := by decide +kernel
theorem d_R_takeState_31 : decode prog_6_method_9_code 31 = .ok (.getfield (104), 3) := by decide +kernel
theorem d_R_takeState_34 : decode prog_6_method_9_code 34 = .ok (.if_icmp .lt (17), 3) := by decide +kernel
theorem d_R_takeState_37 : decode prog_6_method_9_code 37 = .ok (.aload_n 0, 1) := by decide +kernel
theorem d_R_takeState_38 : decode prog_6_method_9_code 38 = .ok (.aload_n 0, 1) := by decide +kernel
theorem d_R_takeState_39 : decode prog_6_method_9_code 39 = .ok (.getfield (15), 3) := by decide +kernel
theorem d_R_takeState_42 : decode prog_6_method_9_code 42 = .ok (.aload_n 0, 1) := by decide +kernel
theorem d_R_takeState_43 : decode prog_6_method_9_code 43 = .ok (.getfield (72), 3) := by decide +kernel
theorem d_R_takeState_46 : decode prog_6_method_9_code 46 = .ok (.iaload, 1) := by decide +kernel
theorem d_R_takeState_47 : decode prog_6_method_9_code 47 = .ok (.iconst 4, 1) := by decide +kernel
theorem d_R_takeState_48 : decode prog_6_method_9_code 48 = .ok (.invokevirtual (100), 3) := by decide +kernel
theorem d_R_takeState_51 : decode prog_6_method_9_code 51 = .ok (.aload_n 0, 1) := by decide +kernel
theorem d_R_takeState_52 : decode prog_6_method_9_code 52 = .ok (.dup, 1) := by decide +kernel
theorem d_R_takeState_53 : decode prog_6_method_9_code 53 = .ok (.getfield (72), 3) := by decide +kernel
theorem d_R_takeState_56 : decode prog_6_method_9_code 56 = .ok (.iconst 1, 1) := by decide +kernel
theorem d_R_takeState_57 : decode prog_6_method_9_code 57 = .ok (.iadd, 1) := by decide +kernel
theorem d_R_takeState_58 : decode prog_6_method_9_code 58 = .ok (.putfield (72), 3) := by decide +kernel
theorem d_R_takeState_61 : decode prog_6_method_9_code 61 = .ok (.iload_n 2, 1) := by decide +kernel
theorem d_R_takeState_62 : decode prog_6_method_9_code 62 = .ok (.ireturn, 1) := by decide +kernel
theorem fd_R_104 : ax_fd "CipherNotation$Reader" 104 4 8 := ⟨nC4, nT4, 15, nY4, rfl, nW4, by decide, nw_1 42 (by decide +kernel) rfl, nO4, nA4⟩
def f_R_takeState (g : Nat) (s : ax_σ) : Option (Int32 × ax_σ) :=
  bif ax_in (s.1 0 25 3) 241 then
  Option.bind (
    if (s.1 0 26 ((s.1 0 25 3)).toNatClampNeg) < (65 : Int32) then
      some true
    else
      if (s.1 0 26 ((s.1 0 25 3)).toNatClampNeg) < (69 : Int32) then
        some false
      else
        some true) (fun w10 => bif w10 then
    some (((-1 : Int32), s))
  else
    Option.bind (
      if ((s.1 0 26 ((s.1 0 25 3)).toNatClampNeg) - (65 : Int32)) < (s.1 0 25 8) then
        some s
      else
        bif ax_in (s.1 0 25 3) 241 then
        Option.bind (f_R_note g (s.1 0 27 ((s.1 0 25 3)).toNatClampNeg) (4 : Int32) s) (fun s5 =>
          some s5)
        else none) (fun s8 =>
      ax_let (ax_wI s8 0 25 3 ((s8.1 0 25 3) + (1 : Int32))) (fun s9 =>
        some ((((s.1 0 26 ((s.1 0 25 3)).toNatClampNeg) - (65 : Int32)), s9)))))
  else none
set_option maxHeartbeats 4000000 in
set_option maxRecDepth 100000 in
theorem t_R_takeState {l : Launch} {D : va_G} {cA : Nat → ClassId} {ad : Nat → Nat → Nat} {al : List (Nat × Nat)} {θ : ax_Θ} {ρ : ax_ρ} {g : Nat} (h0 : ax_M0 al) (hg : ax_Mg al g) (hr : ax_rd ρ g)  {s : ax_σ} {r0 : Int32} {s0 : ax_σ} (h : f_R_takeState g s = some (r0, s0)) : ax_T l D cA ad al θ y_R_takeState (.code y_R_takeState prog_6_method_9_code 3 (some .int)) 2 [.inr (0, 25)] (ax_m s ρ) (some (.inl (.int r0))) (ax_m s0 ρ) := by
  refine ax_T_of (own := "CipherNotation$Reader") (by decide) rfl (Nat.le_of_ble_eq_true rfl) [(0, .inr (0, 25))] rfl ?_
  intro G hA
  have hB := hA.B
  have hK := hB.K
  have hal := hB.la
  unfold f_R_takeState at h
  obtain ⟨b1, h⟩ := ax_gd h
  refine ax_bk hK (ax_fc (ax_v_ld (ax_r_aload_n (i := 0) d_R_takeState_0 rfl)) (ax_fc (ax_w_gf (e := none) hal d_R_takeState_1 fd_R_11) (ax_fc (ax_v_ld (ax_r_aload_n (i := 0) d_R_takeState_4 rfl)) (ax_fc (ax_w_gf (e := none) hal d_R_takeState_5 fd_R_72) (ax_fc (ax_w_cald hal d_R_takeState_8) (ax_fc (ax_v_so (ax_r_istore_n (i := 1) d_R_takeState_9 rfl)) (ax_fc (ax_v_ld (ax_r_iload_n (i := 1) d_R_takeState_10 rfl)) (ax_fc (ax_v_pu (ax_r_bipush (v := 65) d_R_takeState_11 (by decide))) ax_fn)))))))) (y := (13, [(1, .inl (.int ((s.1 0 26 ((s.1 0 25 3)).toNatClampNeg)))), (0, .inr (0, 25))], [.inl (.int ((65 : Int32))), .inl (.int ((s.1 0 26 ((s.1 0 25 3)).toNatClampNeg)))], ax_m (s) ρ)) rfl ⟨trivial, (h0 25 rfl), trivial, (h0 25 rfl), ⟨(h0 26 rfl), ax_inp b1⟩, trivial, trivial, trivial, trivial⟩ ?_
  obtain ⟨w10, hw10, h⟩ := ax_bd h
  have KTw10 : w10 = true → ax_R G 3 0 0 (22, [], [], ax_m (s) ρ) := by
    intro e9
    subst w10
    replace h := ax_ct h
    refine ax_bk hK (ax_fc (ax_v_pu (ax_r_iconst (v := -1) d_R_takeState_22 (by decide))) ax_fn) (y := (23, [], [.inl (.int ((-1 : Int32)))], ax_m (s) ρ)) rfl ⟨trivial, trivial⟩ ?_
    cases h
    exact ax_iret hA d_R_takeState_23
  have KFw10 : w10 = false → ax_R G 3 0 0 (24, [(0, .inr (0, 25)), (1, .inl (.int ((s.1 0 26 ((s.1 0 25 3)).toNatClampNeg))))], [], ax_m (s) ρ) := by
    intro e9
    subst w10
    replace h := ax_cf h
    refine ax_bk hK (ax_fc (ax_v_ld (ax_r_iload_n (i := 1) d_R_takeState_24 rfl)) (ax_fc (ax_v_pu (ax_r_bipush (v := 65) d_R_takeState_25 (by decide))) (ax_fc (ax_v_pu (ax_r_isub d_R_takeState_27)) (ax_fc (ax_v_so (ax_r_istore_n (i := 2) d_R_takeState_28 rfl)) (ax_fc (ax_v_ld (ax_r_iload_n (i := 2) d_R_takeState_29 rfl)) (ax_fc (ax_v_ld (ax_r_aload_n (i := 0) d_R_takeState_30 rfl)) (ax_fc (ax_w_gf (e := none) hal d_R_takeState_31 fd_R_104) ax_fn))))))) (y := (34, [(2, .inl (.int (((s.1 0 26 ((s.1 0 25 3)).toNatClampNeg) - (65 : Int32))))), (0, .inr (0, 25)), (1, .inl (.int ((s.1 0 26 ((s.1 0 25 3)).toNatClampNeg))))], [.inl (.int ((s.1 0 25 8))), .inl (.int (((s.1 0 26 ((s.1 0 25 3)).toNatClampNeg) - (65 : Int32))))], ax_m (s) ρ)) rfl ⟨trivial, trivial, trivial, trivial, trivial, trivial, (h0 25 rfl), trivial⟩ ?_
    obtain ⟨w11, hw11, h⟩ := ax_bd h
    have KEw11 : ∀ (s8 : ax_σ), w11 = s8 → ax_R G 3 0 0 (51, [(0, .inr (0, 25)), (2, .inl (.int (((s.1 0 26 ((s.1 0 25 3)).toNatClampNeg) - (65 : Int32)))))], [], ax_m (s8) ρ) := by
      intro s8 e9
      subst w11
      try dsimp only at h
      refine ax_bk hK (ax_fc (ax_v_ld (ax_r_aload_n (i := 0) d_R_takeState_51 rfl)) (ax_fc (ax_v_pu (ax_r_dup d_R_takeState_52)) (ax_fc (ax_w_gf (e := none) hal d_R_takeState_53 fd_R_72) (ax_fc (ax_v_pu (ax_r_iconst (v := 1) d_R_takeState_56 (by decide))) (ax_fc (ax_v_pu (ax_r_iadd d_R_takeState_57)) (ax_fc (ax_w_pf (tc := 0) hal d_R_takeState_58 fp_R_72 rfl) ax_fn)))))) (y := (61, [(0, .inr (0, 25)), (2, .inl (.int (((s.1 0 26 ((s.1 0 25 3)).toNatClampNeg) - (65 : Int32)))))], [], ax_m (ax_wI s8 0 25 3 ((s8.1 0 25 3) + (1 : Int32))) ρ)) rfl ⟨trivial, trivial, (h0 25 rfl), trivial, trivial, (h0 25 rfl), trivial⟩ ?_
      refine ax_lt (Q := fun ςς => ax_R G 3 0 0 (61, [(0, .inr (0, 25)), (2, .inl (.int (((s.1 0 26 ((s.1 0 25 3)).toNatClampNeg) - (65 : Int32)))))], [], ax_m (ςς) ρ)) h (fun s9 h => ?_)
      refine ax_bk hK (ax_fc (ax_v_ld (ax_r_iload_n (i := 2) d_R_takeState_61 rfl)) ax_fn) (y := (62, [(0, .inr (0, 25)), (2, .inl (.int (((s.1 0 26 ((s.1 0 25 3)).toNatClampNeg) - (65 : Int32)))))], [.inl (.int (((s.1 0 26 ((s.1 0 25 3)).toNatClampNeg) - (65 : Int32))))], ax_m (s9) ρ)) rfl ⟨trivial, trivial⟩ ?_
      cases h
      exact ax_iret hA d_R_takeState_62
    clear h
    have h := hw11
    refine ax_ic_lt (tgt := 51) hK d_R_takeState_34 (by decide) (fun c7 => ?_) (fun c7 => ?_)
    · replace h := ax_it c7 h
      cases h
      exact ax_Lsub [1, 0] rfl (KEw11 _ rfl)
    · replace h := ax_if c7 h
      obtain ⟨b4, h⟩ := ax_gd h
      refine ax_bk hK (ax_fc (ax_v_ld (ax_r_aload_n (i := 0) d_R_takeState_37 rfl)) (ax_fc (ax_v_ld (ax_r_aload_n (i := 0) d_R_takeState_38 rfl)) (ax_fc (ax_w_gf (e := none) hal d_R_takeState_39 fd_R_15) (ax_fc (ax_v_ld (ax_r_aload_n (i := 0) d_R_takeState_42 rfl)) (ax_fc (ax_w_gf (e := none) hal d_R_takeState_43 fd_R_72) (ax_fc (ax_w_iald hal d_R_takeState_46) (ax_fc (ax_v_pu (ax_r_iconst (v := 4) d_R_takeState_47 (by decide))) ax_fn))))))) (y := (48, [(2, .inl (.int (((s.1 0 26 ((s.1 0 25 3)).toNatClampNeg) - (65 : Int32))))), (0, .inr (0, 25)), (1, .inl (.int ((s.1 0 26 ((s.1 0 25 3)).toNatClampNeg))))], [.inl (.int ((4 : Int32))), .inl (.int ((s.1 0 27 ((s.1 0 25 3)).toNatClampNeg))), .inr (0, 25)], ax_m (s) ρ)) rfl ⟨trivial, trivial, (h0 25 rfl), trivial, (h0 25 rfl), ⟨(h0 27 rfl), ax_inp b4⟩, trivial, trivial⟩ ?_
      obtain ⟨s5, q6, h⟩ := ax_bd h
      refine ax_bV (rest := []) hB (t_R_note h0 hg hr q6) cw_R_100 im_R_note se_R_note d_R_takeState_48 (h0 25 rfl) rfl rfl (by decide) (by decide) rfl rfl (Nat.le_of_ble_eq_true rfl) ?_
      change ax_R G 3 0 0 (51, [(2, .inl (.int (((s.1 0 26 ((s.1 0 25 3)).toNatClampNeg) - (65 : Int32))))), (0, .inr (0, 25)), (1, .inl (.int ((s.1 0 26 ((s.1 0 25 3)).toNatClampNeg))))], [], ax_m (s5) ρ)
      cases h
      exact ax_Lsub [1, 0] rfl (KEw11 _ rfl)
  clear h
  have h := hw10
  refine ax_ic_lt (tgt := 22) hK d_R_takeState_13 (by decide) (fun c3 => ?_) (fun c3 => ?_)
  · replace h := ax_it c3 h
    cases h
    exact ax_Lsub [] rfl (KTw10 rfl)
  · replace h := ax_if c3 h
    refine ax_bk hK (ax_fc (ax_v_ld (ax_r_iload_n (i := 1) d_R_takeState_16 rfl)) (ax_fc (ax_v_pu (ax_r_bipush (v := 69) d_R_takeState_17 (by decide))) ax_fn)) (y := (19, [(1, .inl (.int ((s.1 0 26 ((s.1 0 25 3)).toNatClampNeg)))), (0, .inr (0, 25))], [.inl (.int ((69 : Int32))), .inl (.int ((s.1 0 26 ((s.1 0 25 3)).toNatClampNeg)))], ax_m (s) ρ)) rfl ⟨trivial, trivial, trivial⟩ ?_
    refine ax_ic_lt (tgt := 24) hK d_R_takeState_19 (by decide) (fun c2 => ?_) (fun c2 => ?_)
    · replace h := ax_it c2 h
      cases h
      exact ax_Lsub [1, 0] rfl (KFw10 rfl)
    · replace h := ax_if c2 h
      cases h
      exact ax_Lsub [] rfl (KTw10 rfl)
def y_R_wordBound : MethodName := ⟨"CipherNotation$Reader", "wordBound", "()I"⟩
theorem d_R_wordBound_0 : decode prog_6_method_10_code 0 = .ok (.aload_n 0, 1) := by decide +kernel
theorem d_R_wordBound_1 : decode prog_6_method_10_code 1 = .ok (.getfield (35), 3) := by decide +kernel
theorem d_R_wordBound_4 : decode prog_6_method_10_code 4 = .ok (.getfield (107), 3) := by decide +kernel
theorem d_R_wordBound_7 : decode prog_6_method_10_code 7 = .ok (.iconst 0, 1) := by decide +kernel
theorem d_R_wordBound_8 : decode prog_6_method_10_code 8 = .ok (.iaload, 1) := by decide +kernel
theorem d_R_wordBound_9 : decode prog_6_method_10_code 9 = .ok (.istore_n 1, 1) := by decide +kernel
theorem d_R_wordBound_10 : decode prog_6_method_10_code 10 = .ok (.iload_n 1, 1) := by decide +kernel
theorem d_R_wordBound_11 : decode prog_6_method_10_code 11 = .ok (.bipush (16), 2) := by decide +kernel
theorem d_R_wordBound_13 : decode prog_6_method_10_code 13 = .ok (.if_icmp .gt (9), 3) := by decide +kernel
theorem d_R_wordBound_16 : decode prog_6_method_10_code 16 = .ok (.iconst 1, 1) := by decide +kernel
theorem d_R_wordBound_17 : decode prog_6_method_10_code 17 = .ok (.iload_n 1, 1) := by decide +kernel
theorem d_R_wordBound_18 : decode prog_6_method_10_code 18 = .ok (.ishl, 1) := by decide +kernel
theorem d_R_wordBound_19 : decode prog_6_method_10_code 19 = .ok (.goto (5), 3) := by decide +kernel
theorem d_R_wordBound_22 : decode prog_6_method_10_code 22 = .ok (.ldc (110), 2) := by decide +kernel
theorem d_R_wordBound_24 : decode prog_6_method_10_code 24 = .ok (.ireturn, 1) := by decide +kernel
theorem fd_R_35 : ax_fd "CipherNotation$Reader" 35 4 4 := ⟨nC4, nT4, 15, nY4, rfl, nW4, by decide, nw_1 38 (by decide +kernel) rfl, nO4, nA4⟩
theorem fd_R_107 : ax_fd "CipherNotation$Reader" 107 3 0 := ⟨nC3, nT3, 9, nY3, rfl, nW3, by decide, nw_1 221 (by decide +kernel) rfl, nO3, nA3⟩
def f_R_wordBound (g : Nat) (s : ax_σ) : Option (Int32) :=
  bif ax_in (0 : Int32) 8 then
  if (16 : Int32) < (s.1 g 1 ((0 : Int32)).toNatClampNeg) then
    some ((1000000000 : Int32))
  else
    some (((1 : Int32) <<< ((s.1 g 1 ((0 : Int32)).toNatClampNeg) &&& 31)))
  else none
set_option maxHeartbeats 4000000 in
set_option maxRecDepth 100000 in
theorem t_R_wordBound {l : Launch} {D : va_G} {cA : Nat → ClassId} {ad : Nat → Nat → Nat} {al : List (Nat × Nat)} {θ : ax_Θ} {ρ : ax_ρ} {g : Nat} (h0 : ax_M0 al) (hg : ax_Mg al g) (hr : ax_rd ρ g)  {s : ax_σ} {r0 : Int32} (h : f_R_wordBound g s = some r0) : ax_T l D cA ad al θ y_R_wordBound (.code y_R_wordBound prog_6_method_10_code 2 (some .int)) 0 [.inr (0, 25)] (ax_m s ρ) (some (.inl (.int r0))) (ax_m s ρ) := by
  refine ax_T_of (own := "CipherNotation$Reader") (by decide) rfl (Nat.le_of_ble_eq_true rfl) [(0, .inr (0, 25))] rfl ?_
  intro G hA
  have hB := hA.B
  have hK := hB.K
  have hal := hB.la
  unfold f_R_wordBound at h
  obtain ⟨b1, h⟩ := ax_gd h
  refine ax_bk hK (ax_fc (ax_v_ld (ax_r_aload_n (i := 0) d_R_wordBound_0 rfl)) (ax_fc (ax_w_gf (e := (some (g, 0))) hal d_R_wordBound_1 fd_R_35) (ax_fc (ax_w_gf (e := none) hal d_R_wordBound_4 fd_R_107) (ax_fc (ax_v_pu (ax_r_iconst (v := 0) d_R_wordBound_7 (by decide))) (ax_fc (ax_w_iald hal d_R_wordBound_8) (ax_fc (ax_v_so (ax_r_istore_n (i := 1) d_R_wordBound_9 rfl)) (ax_fc (ax_v_ld (ax_r_iload_n (i := 1) d_R_wordBound_10 rfl)) (ax_fc (ax_v_pu (ax_r_bipush (v := 16) d_R_wordBound_11 (by decide))) ax_fn)))))))) (y := (13, [(1, .inl (.int ((s.1 g 1 ((0 : Int32)).toNatClampNeg)))), (0, .inr (0, 25))], [.inl (.int ((16 : Int32))), .inl (.int ((s.1 g 1 ((0 : Int32)).toNatClampNeg)))], ax_m (s) ρ)) rfl ⟨trivial, ⟨(h0 25 rfl), hr.1⟩, (hg 0 rfl), trivial, ⟨(hg 1 rfl), ax_inp b1⟩, trivial, trivial, trivial, trivial⟩ ?_
  refine ax_ic_gt (tgt := 22) hK d_R_wordBound_13 (by decide) (fun c2 => ?_) (fun c2 => ?_)
  · replace h := ax_it c2 h
    refine ax_bk hK (ax_fc (ax_v_ldc (v := 1000000000) d_R_wordBound_22 (nw_2 73 (by decide +kernel) rfl)) ax_fn) (y := (24, [(1, .inl (.int ((s.1 g 1 ((0 : Int32)).toNatClampNeg)))), (0, .inr (0, 25))], [.inl (.int ((1000000000 : Int32)))], ax_m (s) ρ)) rfl ⟨trivial, trivial⟩ ?_
    cases h
    exact ax_iret hA d_R_wordBound_24
  · replace h := ax_if c2 h
    refine ax_bk hK (ax_fc (ax_v_pu (ax_r_iconst (v := 1) d_R_wordBound_16 (by decide))) (ax_fc (ax_v_ld (ax_r_iload_n (i := 1) d_R_wordBound_17 rfl)) (ax_fc (ax_v_pu (ax_r_ishl d_R_wordBound_18)) (ax_fc (ax_v_go (tgt := 24) d_R_wordBound_19 (by decide)) ax_fn)))) (y := (24, [(1, .inl (.int ((s.1 g 1 ((0 : Int32)).toNatClampNeg)))), (0, .inr (0, 25))], [.inl (.int (((1 : Int32) <<< ((s.1 g 1 ((0 : Int32)).toNatClampNeg) &&& 31))))], ax_m (s) ρ)) rfl ⟨trivial, trivial, trivial, trivial, trivial⟩ ?_
    cases h
    exact ax_iret hA d_R_wordBound_24
def y_R_isSize : MethodName := ⟨"CipherNotation$Reader", "isSize", "(II)Z"⟩
theorem d_R_isSize_0 : decode prog_6_method_12_code 0 = .ok (.iload_n 0, 1) := by decide +kernel
theorem d_R_isSize_1 : decode prog_6_method_12_code 1 = .ok (.ifCond .ne (33), 3) := by decide +kernel
theorem d_R_isSize_4 : decode prog_6_method_12_code 4 = .ok (.iload_n 1, 1) := by decide +kernel
theorem d_R_isSize_5 : decode prog_6_method_12_code 5 = .ok (.bipush (8), 2) := by decide +kernel
theorem d_R_isSize_7 : decode prog_6_method_12_code 7 = .ok (.if_icmp .eq (21), 3) := by decide +kernel
theorem d_R_isSize_10 : decode prog_6_method_12_code 10 = .ok (.iload_n 1, 1) := by decide +kernel
theorem d_R_isSize_11 : decode prog_6_method_12_code 11 = .ok (.bipush (16), 2) := by decide +kernel
theorem d_R_isSize_13 : decode prog_6_method_12_code 13 = .ok (.if_icmp .eq (15), 3) := by decide +kernel
theorem d_R_isSize_16 : decode prog_6_method_12_code 16 = .ok (.iload_n 1, 1) := by decide +kernel
theorem d_R_isSize_17 : decode prog_6_method_12_code 17 = .ok (.bipush (32), 2) := by decide +kernel
theorem d_R_isSize_19 : decode prog_6_method_12_code 19 = .ok (.if_icmp .eq (9), 3) := by decide +kernel
theorem d_R_isSize_22 : decode prog_6_method_12_code 22 = .ok (.iload_n 1, 1) := by decide +kernel
theorem d_R_isSize_23 : decode prog_6_method_12_code 23 = .ok (.bipush (64), 2) := by decide +kernel
theorem d_R_isSize_25 : decode prog_6_method_12_code 25 = .ok (.if_icmp .ne (7), 3) := by decide +kernel
theorem d_R_isSize_28 : decode prog_6_method_12_code 28 = .ok (.iconst 1, 1) := by decide +kernel
theorem d_R_isSize_29 : decode prog_6_method_12_code 29 = .ok (.goto (4), 3) := by decide +kernel
theorem d_R_isSize_32 : decode prog_6_method_12_code 32 = .ok (.iconst 0, 1) := by decide +kernel
theorem d_R_isSize_33 : decode prog_6_method_12_code 33 = .ok (.ireturn, 1) := by decide +kernel
theorem d_R_isSize_34 : decode prog_6_method_12_code 34 = .ok (.iload_n 0, 1) := by decide +kernel
theorem d_R_isSize_35 : decode prog_6_method_12_code 35 = .ok (.iconst 1, 1) := by decide +kernel
theorem d_R_isSize_36 : decode prog_6_method_12_code 36 = .ok (.if_icmp .ne (21), 3) := by decide +kernel
theorem d_R_isSize_39 : decode prog_6_method_12_code 39 = .ok (.iload_n 1, 1) := by decide +kernel
theorem d_R_isSize_40 : decode prog_6_method_12_code 40 = .ok (.iconst 2, 1) := by decide +kernel
theorem d_R_isSize_41 : decode prog_6_method_12_code 41 = .ok (.if_icmp .lt (12), 3) := by decide +kernel
theorem d_R_isSize_44 : decode prog_6_method_12_code 44 = .ok (.iload_n 1, 1) := by decide +kernel
theorem d_R_isSize_45 : decode prog_6_method_12_code 45 = .ok (.iconst 4, 1) := by decide +kernel
theorem d_R_isSize_46 : decode prog_6_method_12_code 46 = .ok (.if_icmp .gt (7), 3) := by decide +kernel
theorem d_R_isSize_49 : decode prog_6_method_12_code 49 = .ok (.iconst 1, 1) := by decide +kernel
theorem d_R_isSize_50 : decode prog_6_method_12_code 50 = .ok (.goto (22), 3) := by decide +kernel
theorem d_R_isSize_53 : decode prog_6_method_12_code 53 = .ok (.iconst 0, 1) := by decide +kernel
theorem d_R_isSize_54 : decode prog_6_method_12_code 54 = .ok (.goto (18), 3) := by decide +kernel
theorem d_R_isSize_57 : decode prog_6_method_12_code 57 = .ok (.iload_n 1, 1) := by decide +kernel
theorem d_R_isSize_58 : decode prog_6_method_12_code 58 = .ok (.iconst 1, 1) := by decide +kernel
theorem d_R_isSize_59 : decode prog_6_method_12_code 59 = .ok (.if_icmp .lt (12), 3) := by decide +kernel
theorem d_R_isSize_62 : decode prog_6_method_12_code 62 = .ok (.iload_n 1, 1) := by decide +kernel
theorem d_R_isSize_63 : decode prog_6_method_12_code 63 = .ok (.iconst 4, 1) := by decide +kernel
theorem d_R_isSize_64 : decode prog_6_method_12_code 64 = .ok (.if_icmp .gt (7), 3) := by decide +kernel
theorem d_R_isSize_67 : decode prog_6_method_12_code 67 = .ok (.iconst 1, 1) := by decide +kernel
theorem d_R_isSize_68 : decode prog_6_method_12_code 68 = .ok (.goto (4), 3) := by decide +kernel
theorem d_R_isSize_71 : decode prog_6_method_12_code 71 = .ok (.iconst 0, 1) := by decide +kernel
theorem d_R_isSize_72 : decode prog_6_method_12_code 72 = .ok (.ireturn, 1) := by decide +kernel
def f_R_isSize (a1 : Int32) (a2 : Int32) : Option (Int32) :=
  if a1 = (0 : Int32) then
    Option.bind (
      if a2 = (8 : Int32) then
        some true
      else
        if a2 = (16 : Int32) then
          some true
        else
          if a2 = (32 : Int32) then
            some true
          else
            if a2 = (64 : Int32) then
              some true
            else
              some false) (fun w12 => bif w12 then
      some ((1 : Int32))
    else
      some ((0 : Int32)))
  else
    if a1 = (1 : Int32) then
      Option.bind (
        if a2 < (2 : Int32) then
          some true
        else
          if (4 : Int32) < a2 then
            some true
          else
            some false) (fun w6 => bif w6 then
        some ((0 : Int32))
      else
        some ((1 : Int32)))
    else
      Option.bind (
        if a2 < (1 : Int32) then
          some true
        else
          if (4 : Int32) < a2 then
            some true
          else
            some false) (fun w3 => bif w3 then
        some ((0 : Int32))
      else
        some ((1 : Int32)))
set_option maxHeartbeats 4000000 in
set_option maxRecDepth 100000 in
theorem t_R_isSize {l : Launch} {D : va_G} {cA : Nat → ClassId} {ad : Nat → Nat → Nat} {al : List (Nat × Nat)} {θ : ax_Θ} {ρ : ax_ρ}  {a1 : Int32} {a2 : Int32} {s : ax_σ} {r0 : Int32} (h : f_R_isSize a1 a2 = some r0) : ax_T l D cA ad al θ y_R_isSize (.code y_R_isSize prog_6_method_12_code 2 (some .boolean)) 0 [.inl (.int (a1)), .inl (.int (a2))] (ax_m s ρ) (some (.inl (.int r0))) (ax_m s ρ) := by
  refine ax_T_of (own := "CipherNotation$Reader") (by decide) rfl (Nat.le_of_ble_eq_true rfl) [(0, .inl (.int (a1))), (1, .inl (.int (a2)))] rfl ?_
  intro G hA
  have hB := hA.B
  have hK := hB.K
  have hal := hB.la
  unfold f_R_isSize at h
  refine ax_bk hK (ax_fc (ax_v_ld (ax_r_iload_n (i := 0) d_R_isSize_0 rfl)) ax_fn) (y := (1, [(0, .inl (.int (a1))), (1, .inl (.int (a2)))], [.inl (.int (a1))], ax_m (s) ρ)) rfl ⟨trivial, trivial⟩ ?_
  refine ax_if_ne (tgt := 34) hK d_R_isSize_1 (by decide) (fun c13 => ?_) (fun c13 => ?_)
  · replace h := ax_if c13 h
    refine ax_bk hK (ax_fc (ax_v_ld (ax_r_iload_n (i := 0) d_R_isSize_34 rfl)) (ax_fc (ax_v_pu (ax_r_iconst (v := 1) d_R_isSize_35 (by decide))) ax_fn)) (y := (36, [(0, .inl (.int (a1))), (1, .inl (.int (a2)))], [.inl (.int ((1 : Int32))), .inl (.int (a1))], ax_m (s) ρ)) rfl ⟨trivial, trivial, trivial⟩ ?_
    refine ax_ic_ne (tgt := 57) hK d_R_isSize_36 (by decide) (fun c7 => ?_) (fun c7 => ?_)
    · replace h := ax_if c7 h
      refine ax_bk hK (ax_fc (ax_v_ld (ax_r_iload_n (i := 1) d_R_isSize_57 rfl)) (ax_fc (ax_v_pu (ax_r_iconst (v := 1) d_R_isSize_58 (by decide))) ax_fn)) (y := (59, [(0, .inl (.int (a1))), (1, .inl (.int (a2)))], [.inl (.int ((1 : Int32))), .inl (.int (a2))], ax_m (s) ρ)) rfl ⟨trivial, trivial, trivial⟩ ?_
      obtain ⟨w3, hw3, h⟩ := ax_bd h
      have KTw3 : w3 = true → ax_R G 2 0 0 (71, [], [], ax_m (s) ρ) := by
        intro e9
        subst w3
        replace h := ax_ct h
        refine ax_bk hK (ax_fc (ax_v_pu (ax_r_iconst (v := 0) d_R_isSize_71 (by decide))) ax_fn) (y := (72, [], [.inl (.int ((0 : Int32)))], ax_m (s) ρ)) rfl ⟨trivial, trivial⟩ ?_
        cases h
        exact ax_zret hA (by decide) d_R_isSize_72
      have KFw3 : w3 = false → ax_R G 2 0 0 (67, [], [], ax_m (s) ρ) := by
        intro e9
        subst w3
        replace h := ax_cf h
        refine ax_bk hK (ax_fc (ax_v_pu (ax_r_iconst (v := 1) d_R_isSize_67 (by decide))) (ax_fc (ax_v_go (tgt := 72) d_R_isSize_68 (by decide)) ax_fn)) (y := (72, [], [.inl (.int ((1 : Int32)))], ax_m (s) ρ)) rfl ⟨trivial, trivial, trivial⟩ ?_
        cases h
        exact ax_zret hA (by decide) d_R_isSize_72
      clear h
      have h := hw3
      refine ax_ic_lt (tgt := 71) hK d_R_isSize_59 (by decide) (fun c2 => ?_) (fun c2 => ?_)
      · replace h := ax_it c2 h
        cases h
        exact ax_Lsub [] rfl (KTw3 rfl)
      · replace h := ax_if c2 h
        refine ax_bk hK (ax_fc (ax_v_ld (ax_r_iload_n (i := 1) d_R_isSize_62 rfl)) (ax_fc (ax_v_pu (ax_r_iconst (v := 4) d_R_isSize_63 (by decide))) ax_fn)) (y := (64, [(0, .inl (.int (a1))), (1, .inl (.int (a2)))], [.inl (.int ((4 : Int32))), .inl (.int (a2))], ax_m (s) ρ)) rfl ⟨trivial, trivial, trivial⟩ ?_
        refine ax_ic_gt (tgt := 71) hK d_R_isSize_64 (by decide) (fun c1 => ?_) (fun c1 => ?_)
        · replace h := ax_it c1 h
          cases h
          exact ax_Lsub [] rfl (KTw3 rfl)
        · replace h := ax_if c1 h
          cases h
          exact ax_Lsub [] rfl (KFw3 rfl)
    · replace h := ax_it c7 h
      refine ax_bk hK (ax_fc (ax_v_ld (ax_r_iload_n (i := 1) d_R_isSize_39 rfl)) (ax_fc (ax_v_pu (ax_r_iconst (v := 2) d_R_isSize_40 (by decide))) ax_fn)) (y := (41, [(0, .inl (.int (a1))), (1, .inl (.int (a2)))], [.inl (.int ((2 : Int32))), .inl (.int (a2))], ax_m (s) ρ)) rfl ⟨trivial, trivial, trivial⟩ ?_
      obtain ⟨w6, hw6, h⟩ := ax_bd h
      have KTw6 : w6 = true → ax_R G 2 0 0 (53, [], [], ax_m (s) ρ) := by
        intro e9
        subst w6
        replace h := ax_ct h
        refine ax_bk hK (ax_fc (ax_v_pu (ax_r_iconst (v := 0) d_R_isSize_53 (by decide))) (ax_fc (ax_v_go (tgt := 72) d_R_isSize_54 (by decide)) ax_fn)) (y := (72, [], [.inl (.int ((0 : Int32)))], ax_m (s) ρ)) rfl ⟨trivial, trivial, trivial⟩ ?_
        cases h
        exact ax_zret hA (by decide) d_R_isSize_72
      have KFw6 : w6 = false → ax_R G 2 0 0 (49, [], [], ax_m (s) ρ) := by
        intro e9
        subst w6
        replace h := ax_cf h
        refine ax_bk hK (ax_fc (ax_v_pu (ax_r_iconst (v := 1) d_R_isSize_49 (by decide))) (ax_fc (ax_v_go (tgt := 72) d_R_isSize_50 (by decide)) ax_fn)) (y := (72, [], [.inl (.int ((1 : Int32)))], ax_m (s) ρ)) rfl ⟨trivial, trivial, trivial⟩ ?_
        cases h
        exact ax_zret hA (by decide) d_R_isSize_72
      clear h
      have h := hw6
      refine ax_ic_lt (tgt := 53) hK d_R_isSize_41 (by decide) (fun c5 => ?_) (fun c5 => ?_)
      · replace h := ax_it c5 h
        cases h
        exact ax_Lsub [] rfl (KTw6 rfl)
      · replace h := ax_if c5 h
        refine ax_bk hK (ax_fc (ax_v_ld (ax_r_iload_n (i := 1) d_R_isSize_44 rfl)) (ax_fc (ax_v_pu (ax_r_iconst (v := 4) d_R_isSize_45 (by decide))) ax_fn)) (y := (46, [(0, .inl (.int (a1))), (1, .inl (.int (a2)))], [.inl (.int ((4 : Int32))), .inl (.int (a2))], ax_m (s) ρ)) rfl ⟨trivial, trivial, trivial⟩ ?_
        refine ax_ic_gt (tgt := 53) hK d_R_isSize_46 (by decide) (fun c4 => ?_) (fun c4 => ?_)
        · replace h := ax_it c4 h
          cases h
          exact ax_Lsub [] rfl (KTw6 rfl)
        · replace h := ax_if c4 h
          cases h
          exact ax_Lsub [] rfl (KFw6 rfl)
  · replace h := ax_it c13 h
    refine ax_bk hK (ax_fc (ax_v_ld (ax_r_iload_n (i := 1) d_R_isSize_4 rfl)) (ax_fc (ax_v_pu (ax_r_bipush (v := 8) d_R_isSize_5 (by decide))) ax_fn)) (y := (7, [(0, .inl (.int (a1))), (1, .inl (.int (a2)))], [.inl (.int ((8 : Int32))), .inl (.int (a2))], ax_m (s) ρ)) rfl ⟨trivial, trivial, trivial⟩ ?_
    obtain ⟨w12, hw12, h⟩ := ax_bd h
    have KTw12 : w12 = true → ax_R G 2 0 0 (28, [], [], ax_m (s) ρ) := by
      intro e9
      subst w12
      replace h := ax_ct h
      refine ax_bk hK (ax_fc (ax_v_pu (ax_r_iconst (v := 1) d_R_isSize_28 (by decide))) (ax_fc (ax_v_go (tgt := 33) d_R_isSize_29 (by decide)) ax_fn)) (y := (33, [], [.inl (.int ((1 : Int32)))], ax_m (s) ρ)) rfl ⟨trivial, trivial, trivial⟩ ?_
      cases h
      exact ax_zret hA (by decide) d_R_isSize_33
    have KFw12 : w12 = false → ax_R G 2 0 0 (32, [], [], ax_m (s) ρ) := by
      intro e9
      subst w12
      replace h := ax_cf h
      refine ax_bk hK (ax_fc (ax_v_pu (ax_r_iconst (v := 0) d_R_isSize_32 (by decide))) ax_fn) (y := (33, [], [.inl (.int ((0 : Int32)))], ax_m (s) ρ)) rfl ⟨trivial, trivial⟩ ?_
      cases h
      exact ax_zret hA (by decide) d_R_isSize_33
    clear h
    have h := hw12
    refine ax_ic_eq (tgt := 28) hK d_R_isSize_7 (by decide) (fun c11 => ?_) (fun c11 => ?_)
    · replace h := ax_it c11 h
      cases h
      exact ax_Lsub [] rfl (KTw12 rfl)
    · replace h := ax_if c11 h
      refine ax_bk hK (ax_fc (ax_v_ld (ax_r_iload_n (i := 1) d_R_isSize_10 rfl)) (ax_fc (ax_v_pu (ax_r_bipush (v := 16) d_R_isSize_11 (by decide))) ax_fn)) (y := (13, [(0, .inl (.int (a1))), (1, .inl (.int (a2)))], [.inl (.int ((16 : Int32))), .inl (.int (a2))], ax_m (s) ρ)) rfl ⟨trivial, trivial, trivial⟩ ?_
      refine ax_ic_eq (tgt := 28) hK d_R_isSize_13 (by decide) (fun c10 => ?_) (fun c10 => ?_)
      · replace h := ax_it c10 h
        cases h
        exact ax_Lsub [] rfl (KTw12 rfl)
      · replace h := ax_if c10 h
        refine ax_bk hK (ax_fc (ax_v_ld (ax_r_iload_n (i := 1) d_R_isSize_16 rfl)) (ax_fc (ax_v_pu (ax_r_bipush (v := 32) d_R_isSize_17 (by decide))) ax_fn)) (y := (19, [(0, .inl (.int (a1))), (1, .inl (.int (a2)))], [.inl (.int ((32 : Int32))), .inl (.int (a2))], ax_m (s) ρ)) rfl ⟨trivial, trivial, trivial⟩ ?_
        refine ax_ic_eq (tgt := 28) hK d_R_isSize_19 (by decide) (fun c9 => ?_) (fun c9 => ?_)
        · replace h := ax_it c9 h
          cases h
          exact ax_Lsub [] rfl (KTw12 rfl)
        · replace h := ax_if c9 h
          refine ax_bk hK (ax_fc (ax_v_ld (ax_r_iload_n (i := 1) d_R_isSize_22 rfl)) (ax_fc (ax_v_pu (ax_r_bipush (v := 64) d_R_isSize_23 (by decide))) ax_fn)) (y := (25, [(0, .inl (.int (a1))), (1, .inl (.int (a2)))], [.inl (.int ((64 : Int32))), .inl (.int (a2))], ax_m (s) ρ)) rfl ⟨trivial, trivial, trivial⟩ ?_
          refine ax_ic_ne (tgt := 32) hK d_R_isSize_25 (by decide) (fun c8 => ?_) (fun c8 => ?_)
          · replace h := ax_if c8 h
            cases h
            exact ax_Lsub [] rfl (KFw12 rfl)
          · replace h := ax_it c8 h
            cases h
            exact ax_Lsub [] rfl (KTw12 rfl)
def y_R_sizes : MethodName := ⟨"CipherNotation$Reader", "sizes", "()Z"⟩
theorem d_R_sizes_0 : decode prog_6_method_11_code 0 = .ok (.iconst 0, 1) := by decide +kernel
theorem d_R_sizes_1 : decode prog_6_method_11_code 1 = .ok (.istore_n 1, 1) := by decide +kernel
theorem d_R_sizes_2 : decode prog_6_method_11_code 2 = .ok (.iload_n 1, 1) := by decide +kernel
theorem d_R_sizes_3 : decode prog_6_method_11_code 3 = .ok (.iconst 2, 1) := by decide +kernel
theorem d_R_sizes_4 : decode prog_6_method_11_code 4 = .ok (.if_icmp .gt (76), 3) := by decide +kernel
theorem d_R_sizes_7 : decode prog_6_method_11_code 7 = .ok (.aload_n 0, 1) := by decide +kernel
theorem d_R_sizes_8 : decode prog_6_method_11_code 8 = .ok (.getfield (15), 3) := by decide +kernel
theorem d_R_sizes_11 : decode prog_6_method_11_code 11 = .ok (.aload_n 0, 1) := by decide +kernel
theorem d_R_sizes_12 : decode prog_6_method_11_code 12 = .ok (.getfield (72), 3) := by decide +kernel
theorem d_R_sizes_15 : decode prog_6_method_11_code 15 = .ok (.iaload, 1) := by decide +kernel
theorem d_R_sizes_16 : decode prog_6_method_11_code 16 = .ok (.istore_n 2, 1) := by decide +kernel
theorem d_R_sizes_17 : decode prog_6_method_11_code 17 = .ok (.aload_n 0, 1) := by decide +kernel
theorem d_R_sizes_18 : decode prog_6_method_11_code 18 = .ok (.ldc (110), 2) := by decide +kernel
theorem d_R_sizes_20 : decode prog_6_method_11_code 20 = .ok (.invokevirtual (111), 3) := by decide +kernel
theorem d_R_sizes_23 : decode prog_6_method_11_code 23 = .ok (.istore_n 3, 1) := by decide +kernel
theorem d_R_sizes_24 : decode prog_6_method_11_code 24 = .ok (.iload_n 3, 1) := by decide +kernel
theorem d_R_sizes_25 : decode prog_6_method_11_code 25 = .ok (.iconst (-1), 1) := by decide +kernel
theorem d_R_sizes_26 : decode prog_6_method_11_code 26 = .ok (.if_icmp .eq (22), 3) := by decide +kernel
theorem d_R_sizes_29 : decode prog_6_method_11_code 29 = .ok (.aload_n 0, 1) := by decide +kernel
theorem d_R_sizes_30 : decode prog_6_method_11_code 30 = .ok (.iload_n 1, 1) := by decide +kernel
theorem d_R_sizes_31 : decode prog_6_method_11_code 31 = .ok (.iconst 2, 1) := by decide +kernel
theorem d_R_sizes_32 : decode prog_6_method_11_code 32 = .ok (.if_icmp .ne (8), 3) := by decide +kernel
theorem d_R_sizes_35 : decode prog_6_method_11_code 35 = .ok (.bipush (59), 2) := by decide +kernel
theorem d_R_sizes_37 : decode prog_6_method_11_code 37 = .ok (.goto (5), 3) := by decide +kernel
theorem d_R_sizes_40 : decode prog_6_method_11_code 40 = .ok (.bipush (58), 2) := by decide +kernel
theorem d_R_sizes_42 : decode prog_6_method_11_code 42 = .ok (.invokevirtual (115), 3) := by decide +kernel
theorem d_R_sizes_45 : decode prog_6_method_11_code 45 = .ok (.ifCond .ne (5), 3) := by decide +kernel
theorem d_R_sizes_48 : decode prog_6_method_11_code 48 = .ok (.iconst 0, 1) := by decide +kernel
theorem d_R_sizes_49 : decode prog_6_method_11_code 49 = .ok (.ireturn, 1) := by decide +kernel
theorem d_R_sizes_50 : decode prog_6_method_11_code 50 = .ok (.iload_n 1, 1) := by decide +kernel
theorem d_R_sizes_51 : decode prog_6_method_11_code 51 = .ok (.iload_n 3, 1) := by decide +kernel
theorem d_R_sizes_52 : decode prog_6_method_11_code 52 = .ok (.invokestatic (118), 3) := by decide +kernel
theorem d_R_sizes_55 : decode prog_6_method_11_code 55 = .ok (.ifCond .ne (9), 3) := by decide +kernel
theorem d_R_sizes_58 : decode prog_6_method_11_code 58 = .ok (.aload_n 0, 1) := by decide +kernel
theorem d_R_sizes_59 : decode prog_6_method_11_code 59 = .ok (.iload_n 2, 1) := by decide +kernel
theorem d_R_sizes_60 : decode prog_6_method_11_code 60 = .ok (.iconst 2, 1) := by decide +kernel
theorem d_R_sizes_61 : decode prog_6_method_11_code 61 = .ok (.invokevirtual (100), 3) := by decide +kernel
theorem d_R_sizes_64 : decode prog_6_method_11_code 64 = .ok (.aload_n 0, 1) := by decide +kernel
theorem d_R_sizes_65 : decode prog_6_method_11_code 65 = .ok (.getfield (35), 3) := by decide +kernel
theorem d_R_sizes_68 : decode prog_6_method_11_code 68 = .ok (.getfield (107), 3) := by decide +kernel
theorem d_R_sizes_71 : decode prog_6_method_11_code 71 = .ok (.iload_n 1, 1) := by decide +kernel
theorem d_R_sizes_72 : decode prog_6_method_11_code 72 = .ok (.iload_n 3, 1) := by decide +kernel
theorem d_R_sizes_73 : decode prog_6_method_11_code 73 = .ok (.iastore, 1) := by decide +kernel
theorem d_R_sizes_74 : decode prog_6_method_11_code 74 = .ok (.iinc 1 (1), 3) := by decide +kernel
theorem d_R_sizes_77 : decode prog_6_method_11_code 77 = .ok (.goto (-75), 3) := by decide +kernel
theorem d_R_sizes_80 : decode prog_6_method_11_code 80 = .ok (.aload_n 0, 1) := by decide +kernel
theorem d_R_sizes_81 : decode prog_6_method_11_code 81 = .ok (.getfield (35), 3) := by decide +kernel
theorem d_R_sizes_84 : decode prog_6_method_11_code 84 = .ok (.getfield (107), 3) := by decide +kernel
theorem d_R_sizes_87 : decode prog_6_method_11_code 87 = .ok (.bipush (7), 2) := by decide +kernel
theorem d_R_sizes_89 : decode prog_6_method_11_code 89 = .ok (.aload_n 0, 1) := by decide +kernel
theorem d_R_sizes_90 : decode prog_6_method_11_code 90 = .ok (.getfield (35), 3) := by decide +kernel
theorem d_R_sizes_93 : decode prog_6_method_11_code 93 = .ok (.getfield (107), 3) := by decide +kernel
theorem d_R_sizes_96 : decode prog_6_method_11_code 96 = .ok (.iconst 1, 1) := by decide +kernel
theorem d_R_sizes_97 : decode prog_6_method_11_code 97 = .ok (.iaload, 1) := by decide +kernel
theorem d_R_sizes_98 : decode prog_6_method_11_code 98 = .ok (.iastore, 1) := by decide +kernel
theorem d_R_sizes_99 : decode prog_6_method_11_code 99 = .ok (.iconst 1, 1) := by decide +kernel
theorem d_R_sizes_100 : decode prog_6_method_11_code 100 = .ok (.ireturn, 1) := by decide +kernel
set_option maxRecDepth 100000 in
theorem cw_R_111 : ax_cw "CipherNotation$Reader" 111 y_R_takeNumber (.code y_R_takeNumber prog_6_method_8_code 5 (some .int)) 1 := ⟨nw_2 74 (by decide +kernel) rfl, nw_1 2 (by decide +kernel) rfl, nw_2 77 rfl rfl, by decide +kernel, by decide +kernel⟩
theorem im_R_takeNumber : Cond.instanceMethod y_R_takeNumber ∈ ax_tbl := nw_2 76 (by decide +kernel) rfl
theorem se_R_takeNumber : Cond.selects y_R_takeNumber.cls y_R_takeNumber y_R_takeNumber ∈ ax_tbl := nw_sel 2 (by decide +kernel) (by decide +kernel)
set_option maxRecDepth 100000 in
theorem cw_R_115 : ax_cw "CipherNotation$Reader" 115 y_R_take (.code y_R_take prog_6_method_5_code 2 (some .boolean)) 1 := ⟨nw_2 88 (by decide +kernel) rfl, nw_1 2 (by decide +kernel) rfl, nw_2 91 rfl rfl, by decide +kernel, by decide +kernel⟩
theorem im_R_take : Cond.instanceMethod y_R_take ∈ ax_tbl := nw_2 90 (by decide +kernel) rfl
theorem se_R_take : Cond.selects y_R_take.cls y_R_take y_R_take ∈ ax_tbl := nw_sel 4 (by decide +kernel) (by decide +kernel)
set_option maxRecDepth 100000 in
theorem cw_R_118 : ax_cw "CipherNotation$Reader" 118 y_R_isSize (.code y_R_isSize prog_6_method_12_code 2 (some .boolean)) 2 := ⟨nw_2 92 (by decide +kernel) rfl, nw_1 2 (by decide +kernel) rfl, nw_2 94 rfl rfl, by decide +kernel, by decide +kernel⟩
theorem sm_R_isSize : Cond.static y_R_isSize ∈ ax_tbl := nw_2 93 (by decide +kernel) rfl
def lp_R_sizes_2 (F : Nat) (g : Nat) : Nat → Int32 → ax_σ → Option ((Int32 × ax_σ) ⊕ (ax_σ))
  | 0, _, _ => none
  | n + 1, x1, s =>
    if (2 : Int32) < x1 then
      some (.inr s)
    else
      bif ax_in (s.1 0 25 3) 241 then
      Option.bind (f_R_takeNumber F g (1000000000 : Int32) s) (fun (r2, s3) =>
        if r2 = (-1 : Int32) then
          some (.inl ((0 : Int32), s3))
        else
          Option.bind (
            if x1 = (2 : Int32) then
              some (59 : Int32)
            else
              some (58 : Int32)) (fun v6 =>
            Option.bind (f_R_take g v6 s3) (fun (r7, s8) =>
              if r7 = (0 : Int32) then
                some (.inl ((0 : Int32), s8))
              else
                Option.bind (f_R_isSize x1 r2) (fun r10 =>
                  Option.bind (
                    if r10 = (0 : Int32) then
                      Option.bind (f_R_note g (s.1 0 27 ((s.1 0 25 3)).toNatClampNeg) (2 : Int32) s8) (fun s12 =>
                        some s12)
                    else
                      some s8) (fun s15 =>
                    bif ax_in x1 8 then
                    ax_let (ax_wI s15 g 1 (x1).toNatClampNeg r2) (fun s17 =>
                      lp_R_sizes_2 F g n (x1 + (1 : Int32)) s17)
                    else none)))))
      else none
set_option maxHeartbeats 4000000 in
set_option maxRecDepth 100000 in
theorem pl_R_sizes_2 {D : va_G} {cA : Nat → ClassId} {ad : Nat → Nat → Nat} {al : List (Nat × Nat)} {θ : ax_Θ} {l : Launch} {ρ : ax_ρ} {G : ax_G} {F g : Nat}  (h0 : ax_M0 al) (hg : ax_Mg al g) (hr : ax_rd ρ g) (hB : ax_B D cA ad al θ l "CipherNotation$Reader" prog_6_method_11_code 4 3 G) : ∀ (n : Nat) {x1 : Int32} {s : ax_σ} (out : (Int32 × ax_σ) ⊕ (ax_σ)), lp_R_sizes_2 F g n x1 s = some out → (∀ (r0 : Int32) (s0 : ax_σ), out = .inl (r0, s0) → ax_At D cA ad al θ l "CipherNotation$Reader" prog_6_method_11_code 4 3 (some .boolean) (some (.inl (.int r0))) (ax_m s0 ρ) G) → (∀ (es : ax_σ), out = .inr es → ax_R G 4 0 0 (80, [(0, .inr (0, 25))], [], ax_m (es) ρ)) → ax_R G 4 0 0 (2, [(0, .inr (0, 25)), (1, .inl (.int (x1)))], [], ax_m (s) ρ) := by
  have hK := hB.K
  have hal := hB.la
  intro n
  induction n with
  | zero =>
    intro x1 s out h
    cases h
  | succ n ih =>
    intro x1 s out h RT KE
    rw [lp_R_sizes_2] at h
    refine ax_bk hK (ax_fc (ax_v_ld (ax_r_iload_n (i := 1) d_R_sizes_2 rfl)) (ax_fc (ax_v_pu (ax_r_iconst (v := 2) d_R_sizes_3 (by decide))) ax_fn)) (y := (4, [(0, .inr (0, 25)), (1, .inl (.int (x1)))], [.inl (.int ((2 : Int32))), .inl (.int (x1))], ax_m (s) ρ)) rfl ⟨trivial, trivial, trivial⟩ ?_
    refine ax_ic_gt (tgt := 80) hK d_R_sizes_4 (by decide) (fun c20 => ?_) (fun c20 => ?_)
    · replace h := ax_it c20 h
      cases h
      exact ax_Lsub [0] rfl (KE _ rfl)
    · replace h := ax_if c20 h
      obtain ⟨b1, h⟩ := ax_gd h
      refine ax_bk hK (ax_fc (ax_v_ld (ax_r_aload_n (i := 0) d_R_sizes_7 rfl)) (ax_fc (ax_w_gf (e := none) hal d_R_sizes_8 fd_R_15) (ax_fc (ax_v_ld (ax_r_aload_n (i := 0) d_R_sizes_11 rfl)) (ax_fc (ax_w_gf (e := none) hal d_R_sizes_12 fd_R_72) (ax_fc (ax_w_iald hal d_R_sizes_15) (ax_fc (ax_v_so (ax_r_istore_n (i := 2) d_R_sizes_16 rfl)) (ax_fc (ax_v_ld (ax_r_aload_n (i := 0) d_R_sizes_17 rfl)) (ax_fc (ax_v_ldc (v := 1000000000) d_R_sizes_18 (nw_2 73 (by decide +kernel) rfl)) ax_fn)))))))) (y := (20, [(2, .inl (.int ((s.1 0 27 ((s.1 0 25 3)).toNatClampNeg)))), (0, .inr (0, 25)), (1, .inl (.int (x1)))], [.inl (.int ((1000000000 : Int32))), .inr (0, 25)], ax_m (s) ρ)) rfl ⟨trivial, (h0 25 rfl), trivial, (h0 25 rfl), ⟨(h0 27 rfl), ax_inp b1⟩, trivial, trivial, trivial, trivial⟩ ?_
      obtain ⟨⟨r2, s3⟩, q4, h⟩ := ax_bd h
      dsimp only at h
      refine ax_bV (rest := []) hB (t_R_takeNumber h0 hg hr q4) cw_R_111 im_R_takeNumber se_R_takeNumber d_R_sizes_20 (h0 25 rfl) rfl rfl (by decide) (by decide) rfl rfl (Nat.le_of_ble_eq_true rfl) ?_
      change ax_R G 4 0 0 (23, [(2, .inl (.int ((s.1 0 27 ((s.1 0 25 3)).toNatClampNeg)))), (0, .inr (0, 25)), (1, .inl (.int (x1)))], [.inl (.int (r2))], ax_m (s3) ρ)
      refine ax_bk hK (ax_fc (ax_v_so (ax_r_istore_n (i := 3) d_R_sizes_23 rfl)) (ax_fc (ax_v_ld (ax_r_iload_n (i := 3) d_R_sizes_24 rfl)) (ax_fc (ax_v_pu (ax_r_iconst (v := -1) d_R_sizes_25 (by decide))) ax_fn))) (y := (26, [(3, .inl (.int (r2))), (2, .inl (.int ((s.1 0 27 ((s.1 0 25 3)).toNatClampNeg)))), (0, .inr (0, 25)), (1, .inl (.int (x1)))], [.inl (.int ((-1 : Int32))), .inl (.int (r2))], ax_m (s3) ρ)) rfl ⟨trivial, trivial, trivial, trivial⟩ ?_
      refine ax_ic_eq (tgt := 48) hK d_R_sizes_26 (by decide) (fun c19 => ?_) (fun c19 => ?_)
      · replace h := ax_it c19 h
        refine ax_bk hK (ax_fc (ax_v_pu (ax_r_iconst (v := 0) d_R_sizes_48 (by decide))) ax_fn) (y := (49, [(3, .inl (.int (r2))), (2, .inl (.int ((s.1 0 27 ((s.1 0 25 3)).toNatClampNeg)))), (0, .inr (0, 25)), (1, .inl (.int (x1)))], [.inl (.int ((0 : Int32)))], ax_m (s3) ρ)) rfl ⟨trivial, trivial⟩ ?_
        cases h
        exact ax_zret (RT _ _ rfl) (by decide) d_R_sizes_49
      · replace h := ax_if c19 h
        refine ax_bk hK (ax_fc (ax_v_ld (ax_r_aload_n (i := 0) d_R_sizes_29 rfl)) (ax_fc (ax_v_ld (ax_r_iload_n (i := 1) d_R_sizes_30 rfl)) (ax_fc (ax_v_pu (ax_r_iconst (v := 2) d_R_sizes_31 (by decide))) ax_fn))) (y := (32, [(3, .inl (.int (r2))), (2, .inl (.int ((s.1 0 27 ((s.1 0 25 3)).toNatClampNeg)))), (0, .inr (0, 25)), (1, .inl (.int (x1)))], [.inl (.int ((2 : Int32))), .inl (.int (x1)), .inr (0, 25)], ax_m (s3) ρ)) rfl ⟨trivial, trivial, trivial, trivial⟩ ?_
        obtain ⟨w21, hw21, h⟩ := ax_bd h
        have KEw21 : ∀ (v6 : Int32), w21 = v6 → ax_R G 4 0 0 (42, [(0, .inr (0, 25)), (1, .inl (.int (x1))), (2, .inl (.int ((s.1 0 27 ((s.1 0 25 3)).toNatClampNeg)))), (3, .inl (.int (r2)))], [.inl (.int (v6)), .inr (0, 25)], ax_m (s3) ρ) := by
          intro v6 e9
          subst w21
          try dsimp only at h
          obtain ⟨⟨r7, s8⟩, q9, h⟩ := ax_bd h
          dsimp only at h
          refine ax_bV (rest := []) hB (t_R_take h0 hg hr q9) cw_R_115 im_R_take se_R_take d_R_sizes_42 (h0 25 rfl) rfl rfl (by decide) (by decide) rfl rfl (Nat.le_of_ble_eq_true rfl) ?_
          change ax_R G 4 0 0 (45, [(0, .inr (0, 25)), (1, .inl (.int (x1))), (2, .inl (.int ((s.1 0 27 ((s.1 0 25 3)).toNatClampNeg)))), (3, .inl (.int (r2)))], [.inl (.int (r7))], ax_m (s8) ρ)
          refine ax_if_ne (tgt := 50) hK d_R_sizes_45 (by decide) (fun c18 => ?_) (fun c18 => ?_)
          · replace h := ax_if c18 h
            refine ax_bk hK (ax_fc (ax_v_ld (ax_r_iload_n (i := 1) d_R_sizes_50 rfl)) (ax_fc (ax_v_ld (ax_r_iload_n (i := 3) d_R_sizes_51 rfl)) ax_fn)) (y := (52, [(0, .inr (0, 25)), (1, .inl (.int (x1))), (2, .inl (.int ((s.1 0 27 ((s.1 0 25 3)).toNatClampNeg)))), (3, .inl (.int (r2)))], [.inl (.int (r2)), .inl (.int (x1))], ax_m (s8) ρ)) rfl ⟨trivial, trivial, trivial⟩ ?_
            obtain ⟨r10, q11, h⟩ := ax_bd h
            refine ax_bS (rest := []) hB (t_R_isSize q11) cw_R_118 sm_R_isSize d_R_sizes_52 (by decide) (by decide) rfl rfl (Nat.le_of_ble_eq_true rfl) ?_
            change ax_R G 4 0 0 (55, [(0, .inr (0, 25)), (1, .inl (.int (x1))), (2, .inl (.int ((s.1 0 27 ((s.1 0 25 3)).toNatClampNeg)))), (3, .inl (.int (r2)))], [.inl (.int (r10))], ax_m (s8) ρ)
            obtain ⟨w22, hw22, h⟩ := ax_bd h
            have KEw22 : ∀ (s15 : ax_σ), w22 = s15 → ax_R G 4 0 0 (64, [(0, .inr (0, 25)), (1, .inl (.int (x1))), (3, .inl (.int (r2)))], [], ax_m (s15) ρ) := by
              intro s15 e9
              subst w22
              try dsimp only at h
              obtain ⟨b16, h⟩ := ax_gd h
              refine ax_bk hK (ax_fc (ax_v_ld (ax_r_aload_n (i := 0) d_R_sizes_64 rfl)) (ax_fc (ax_w_gf (e := (some (g, 0))) hal d_R_sizes_65 fd_R_35) (ax_fc (ax_w_gf (e := none) hal d_R_sizes_68 fd_R_107) (ax_fc (ax_v_ld (ax_r_iload_n (i := 1) d_R_sizes_71 rfl)) (ax_fc (ax_v_ld (ax_r_iload_n (i := 3) d_R_sizes_72 rfl)) (ax_fc (ax_w_iast hal d_R_sizes_73) ax_fn)))))) (y := (74, [(0, .inr (0, 25)), (1, .inl (.int (x1))), (3, .inl (.int (r2)))], [], ax_m (ax_wI s15 g 1 (x1).toNatClampNeg r2) ρ)) rfl ⟨trivial, ⟨(h0 25 rfl), hr.1⟩, (hg 0 rfl), trivial, trivial, ⟨(hg 1 rfl), ax_inp b16⟩, trivial⟩ ?_
              refine ax_lt (Q := fun ςς => ax_R G 4 0 0 (74, [(0, .inr (0, 25)), (1, .inl (.int (x1))), (3, .inl (.int (r2)))], [], ax_m (ςς) ρ)) h (fun s17 h => ?_)
              refine ax_bk hK (ax_fc (ax_v_ii (d := 1) d_R_sizes_74 (by decide)) (ax_fc (ax_v_go (tgt := 2) d_R_sizes_77 (by decide)) ax_fn)) (y := (2, [(1, .inl (.int ((x1 + (1 : Int32))))), (0, .inr (0, 25)), (3, .inl (.int (r2)))], [], ax_m (s17) ρ)) rfl ⟨trivial, trivial, trivial⟩ ?_
              exact ax_Lsub [1, 0] rfl (ih _ h RT KE)
            clear h
            have h := hw22
            refine ax_if_ne (tgt := 64) hK d_R_sizes_55 (by decide) (fun c14 => ?_) (fun c14 => ?_)
            · replace h := ax_if c14 h
              cases h
              exact ax_Lsub [0, 1, 3] rfl (KEw22 _ rfl)
            · replace h := ax_it c14 h
              refine ax_bk hK (ax_fc (ax_v_ld (ax_r_aload_n (i := 0) d_R_sizes_58 rfl)) (ax_fc (ax_v_ld (ax_r_iload_n (i := 2) d_R_sizes_59 rfl)) (ax_fc (ax_v_pu (ax_r_iconst (v := 2) d_R_sizes_60 (by decide))) ax_fn))) (y := (61, [(0, .inr (0, 25)), (1, .inl (.int (x1))), (2, .inl (.int ((s.1 0 27 ((s.1 0 25 3)).toNatClampNeg)))), (3, .inl (.int (r2)))], [.inl (.int ((2 : Int32))), .inl (.int ((s.1 0 27 ((s.1 0 25 3)).toNatClampNeg))), .inr (0, 25)], ax_m (s8) ρ)) rfl ⟨trivial, trivial, trivial, trivial⟩ ?_
              obtain ⟨s12, q13, h⟩ := ax_bd h
              refine ax_bV (rest := []) hB (t_R_note h0 hg hr q13) cw_R_100 im_R_note se_R_note d_R_sizes_61 (h0 25 rfl) rfl rfl (by decide) (by decide) rfl rfl (Nat.le_of_ble_eq_true rfl) ?_
              change ax_R G 4 0 0 (64, [(0, .inr (0, 25)), (1, .inl (.int (x1))), (2, .inl (.int ((s.1 0 27 ((s.1 0 25 3)).toNatClampNeg)))), (3, .inl (.int (r2)))], [], ax_m (s12) ρ)
              cases h
              exact ax_Lsub [0, 1, 3] rfl (KEw22 _ rfl)
          · replace h := ax_it c18 h
            refine ax_bk hK (ax_fc (ax_v_pu (ax_r_iconst (v := 0) d_R_sizes_48 (by decide))) ax_fn) (y := (49, [(0, .inr (0, 25)), (1, .inl (.int (x1))), (2, .inl (.int ((s.1 0 27 ((s.1 0 25 3)).toNatClampNeg)))), (3, .inl (.int (r2)))], [.inl (.int ((0 : Int32)))], ax_m (s8) ρ)) rfl ⟨trivial, trivial⟩ ?_
            cases h
            exact ax_zret (RT _ _ rfl) (by decide) d_R_sizes_49
        clear h
        have h := hw21
        refine ax_ic_ne (tgt := 40) hK d_R_sizes_32 (by decide) (fun c5 => ?_) (fun c5 => ?_)
        · replace h := ax_if c5 h
          refine ax_bk hK (ax_fc (ax_v_pu (ax_r_bipush (v := 58) d_R_sizes_40 (by decide))) ax_fn) (y := (42, [(3, .inl (.int (r2))), (2, .inl (.int ((s.1 0 27 ((s.1 0 25 3)).toNatClampNeg)))), (0, .inr (0, 25)), (1, .inl (.int (x1)))], [.inl (.int ((58 : Int32))), .inr (0, 25)], ax_m (s3) ρ)) rfl ⟨trivial, trivial⟩ ?_
          cases h
          exact ax_Lsub [2, 3, 1, 0] rfl (KEw21 _ rfl)
        · replace h := ax_it c5 h
          refine ax_bk hK (ax_fc (ax_v_pu (ax_r_bipush (v := 59) d_R_sizes_35 (by decide))) (ax_fc (ax_v_go (tgt := 42) d_R_sizes_37 (by decide)) ax_fn)) (y := (42, [(3, .inl (.int (r2))), (2, .inl (.int ((s.1 0 27 ((s.1 0 25 3)).toNatClampNeg)))), (0, .inr (0, 25)), (1, .inl (.int (x1)))], [.inl (.int ((59 : Int32))), .inr (0, 25)], ax_m (s3) ρ)) rfl ⟨trivial, trivial, trivial⟩ ?_
          cases h
          exact ax_Lsub [2, 3, 1, 0] rfl (KEw21 _ rfl)
def f_R_sizes (F : Nat) (g : Nat) (s : ax_σ) : Option (Int32 × ax_σ) :=
  Option.bind (lp_R_sizes_2 F g F (0 : Int32) s) (fun w => match w with
    | .inl w => some w
    | .inr s21 =>
      bif ax_in (1 : Int32) 8 then
      bif ax_in (7 : Int32) 8 then
      ax_let (ax_wI s21 g 1 ((7 : Int32)).toNatClampNeg (s21.1 g 1 ((1 : Int32)).toNatClampNeg)) (fun s24 =>
        some (((1 : Int32), s24)))
      else none
      else none)
set_option maxHeartbeats 4000000 in
set_option maxRecDepth 100000 in
theorem t_R_sizes {l : Launch} {D : va_G} {cA : Nat → ClassId} {ad : Nat → Nat → Nat} {al : List (Nat × Nat)} {θ : ax_Θ} {ρ : ax_ρ} {F : Nat} {g : Nat} (h0 : ax_M0 al) (hg : ax_Mg al g) (hr : ax_rd ρ g)  {s : ax_σ} {r0 : Int32} {s0 : ax_σ} (h : f_R_sizes F g s = some (r0, s0)) : ax_T l D cA ad al θ y_R_sizes (.code y_R_sizes prog_6_method_11_code 4 (some .boolean)) 3 [.inr (0, 25)] (ax_m s ρ) (some (.inl (.int r0))) (ax_m s0 ρ) := by
  refine ax_T_of (own := "CipherNotation$Reader") (by decide) rfl (Nat.le_of_ble_eq_true rfl) [(0, .inr (0, 25))] rfl ?_
  intro G hA
  have hB := hA.B
  have hK := hB.K
  have hal := hB.la
  unfold f_R_sizes at h
  refine ax_bk hK (ax_fc (ax_v_pu (ax_r_iconst (v := 0) d_R_sizes_0 (by decide))) (ax_fc (ax_v_so (ax_r_istore_n (i := 1) d_R_sizes_1 rfl)) ax_fn)) (y := (2, [(1, .inl (.int ((0 : Int32)))), (0, .inr (0, 25))], [], ax_m (s) ρ)) rfl ⟨trivial, trivial, trivial⟩ ?_
  obtain ⟨w25, hw25, h⟩ := ax_bd h
  have RTw25 : ∀ (r0 : Int32) (s0 : ax_σ), w25 = .inl (r0, s0) → ax_At D cA ad al θ l "CipherNotation$Reader" prog_6_method_11_code 4 3 (some .boolean) (some (.inl (.int r0))) (ax_m s0 ρ) G := by
    intro r0 s0 e9
    subst w25
    try dsimp only at h
    cases h
    exact hA
  refine ax_Lsub [1, 0] rfl (pl_R_sizes_2 h0 hg hr hB F _ hw25 RTw25 ?_)
  intro s21 e9
  subst w25
  try dsimp only at h
  change ax_R G 4 0 0 (80, [(0, .inr (0, 25))], [], ax_m (s21) ρ)
  obtain ⟨b22, h⟩ := ax_gd h
  obtain ⟨b23, h⟩ := ax_gd h
  refine ax_bk hK (ax_fc (ax_v_ld (ax_r_aload_n (i := 0) d_R_sizes_80 rfl)) (ax_fc (ax_w_gf (e := (some (g, 0))) hal d_R_sizes_81 fd_R_35) (ax_fc (ax_w_gf (e := none) hal d_R_sizes_84 fd_R_107) (ax_fc (ax_v_pu (ax_r_bipush (v := 7) d_R_sizes_87 (by decide))) (ax_fc (ax_v_ld (ax_r_aload_n (i := 0) d_R_sizes_89 rfl)) (ax_fc (ax_w_gf (e := (some (g, 0))) hal d_R_sizes_90 fd_R_35) (ax_fc (ax_w_gf (e := none) hal d_R_sizes_93 fd_R_107) (ax_fc (ax_v_pu (ax_r_iconst (v := 1) d_R_sizes_96 (by decide))) (ax_fc (ax_w_iald hal d_R_sizes_97) (ax_fc (ax_w_iast hal d_R_sizes_98) ax_fn)))))))))) (y := (99, [(0, .inr (0, 25))], [], ax_m (ax_wI s21 g 1 ((7 : Int32)).toNatClampNeg (s21.1 g 1 ((1 : Int32)).toNatClampNeg)) ρ)) rfl ⟨trivial, ⟨(h0 25 rfl), hr.1⟩, (hg 0 rfl), trivial, trivial, ⟨(h0 25 rfl), hr.1⟩, (hg 0 rfl), trivial, ⟨(hg 1 rfl), ax_inp b22⟩, ⟨(hg 1 rfl), ax_inp b23⟩, trivial⟩ ?_
  refine ax_lt (Q := fun ςς => ax_R G 4 0 0 (99, [(0, .inr (0, 25))], [], ax_m (ςς) ρ)) h (fun s24 h => ?_)
  refine ax_bk hK (ax_fc (ax_v_pu (ax_r_iconst (v := 1) d_R_sizes_99 (by decide))) ax_fn) (y := (100, [(0, .inr (0, 25))], [.inl (.int ((1 : Int32)))], ax_m (s24) ρ)) rfl ⟨trivial, trivial⟩ ?_
  cases h
  exact ax_zret hA (by decide) d_R_sizes_100
def y_R_tableByRule : MethodName := ⟨"CipherNotation$Reader", "tableByRule", "(I)Z"⟩
theorem d_R_tableByRule_0 : decode prog_6_method_14_code 0 = .ok (.aload_n 0, 1) := by decide +kernel
theorem d_R_tableByRule_1 : decode prog_6_method_14_code 1 = .ok (.dup, 1) := by decide +kernel
theorem d_R_tableByRule_2 : decode prog_6_method_14_code 2 = .ok (.getfield (72), 3) := by decide +kernel
theorem d_R_tableByRule_5 : decode prog_6_method_14_code 5 = .ok (.iconst 1, 1) := by decide +kernel
theorem d_R_tableByRule_6 : decode prog_6_method_14_code 6 = .ok (.iadd, 1) := by decide +kernel
theorem d_R_tableByRule_7 : decode prog_6_method_14_code 7 = .ok (.putfield (72), 3) := by decide +kernel
theorem d_R_tableByRule_10 : decode prog_6_method_14_code 10 = .ok (.aload_n 0, 1) := by decide +kernel
theorem d_R_tableByRule_11 : decode prog_6_method_14_code 11 = .ok (.bipush (16), 2) := by decide +kernel
theorem d_R_tableByRule_13 : decode prog_6_method_14_code 13 = .ok (.invokevirtual (111), 3) := by decide +kernel
theorem d_R_tableByRule_16 : decode prog_6_method_14_code 16 = .ok (.istore_n 2, 1) := by decide +kernel
theorem d_R_tableByRule_17 : decode prog_6_method_14_code 17 = .ok (.iload_n 2, 1) := by decide +kernel
theorem d_R_tableByRule_18 : decode prog_6_method_14_code 18 = .ok (.iconst (-1), 1) := by decide +kernel
theorem d_R_tableByRule_19 : decode prog_6_method_14_code 19 = .ok (.if_icmp .eq (12), 3) := by decide +kernel
theorem d_R_tableByRule_22 : decode prog_6_method_14_code 22 = .ok (.aload_n 0, 1) := by decide +kernel
theorem d_R_tableByRule_23 : decode prog_6_method_14_code 23 = .ok (.bipush (43), 2) := by decide +kernel
theorem d_R_tableByRule_25 : decode prog_6_method_14_code 25 = .ok (.invokevirtual (115), 3) := by decide +kernel
theorem d_R_tableByRule_28 : decode prog_6_method_14_code 28 = .ok (.ifCond .ne (5), 3) := by decide +kernel
theorem d_R_tableByRule_31 : decode prog_6_method_14_code 31 = .ok (.iconst 0, 1) := by decide +kernel
theorem d_R_tableByRule_32 : decode prog_6_method_14_code 32 = .ok (.ireturn, 1) := by decide +kernel
theorem d_R_tableByRule_33 : decode prog_6_method_14_code 33 = .ok (.aload_n 0, 1) := by decide +kernel
theorem d_R_tableByRule_34 : decode prog_6_method_14_code 34 = .ok (.bipush (16), 2) := by decide +kernel
theorem d_R_tableByRule_36 : decode prog_6_method_14_code 36 = .ok (.invokevirtual (111), 3) := by decide +kernel
theorem d_R_tableByRule_39 : decode prog_6_method_14_code 39 = .ok (.istore_n 3, 1) := by decide +kernel
theorem d_R_tableByRule_40 : decode prog_6_method_14_code 40 = .ok (.iload_n 3, 1) := by decide +kernel
theorem d_R_tableByRule_41 : decode prog_6_method_14_code 41 = .ok (.iconst (-1), 1) := by decide +kernel
theorem d_R_tableByRule_42 : decode prog_6_method_14_code 42 = .ok (.if_icmp .ne (5), 3) := by decide +kernel
theorem d_R_tableByRule_45 : decode prog_6_method_14_code 45 = .ok (.iconst 0, 1) := by decide +kernel
theorem d_R_tableByRule_46 : decode prog_6_method_14_code 46 = .ok (.ireturn, 1) := by decide +kernel
theorem d_R_tableByRule_47 : decode prog_6_method_14_code 47 = .ok (.iconst 0, 1) := by decide +kernel
theorem d_R_tableByRule_48 : decode prog_6_method_14_code 48 = .ok (.istore (4), 2) := by decide +kernel
theorem d_R_tableByRule_50 : decode prog_6_method_14_code 50 = .ok (.iload (4), 2) := by decide +kernel
theorem d_R_tableByRule_52 : decode prog_6_method_14_code 52 = .ok (.bipush (16), 2) := by decide +kernel
theorem d_R_tableByRule_54 : decode prog_6_method_14_code 54 = .ok (.if_icmp .ge (33), 3) := by decide +kernel
theorem d_R_tableByRule_57 : decode prog_6_method_14_code 57 = .ok (.aload_n 0, 1) := by decide +kernel
theorem d_R_tableByRule_58 : decode prog_6_method_14_code 58 = .ok (.getfield (35), 3) := by decide +kernel
theorem d_R_tableByRule_61 : decode prog_6_method_14_code 61 = .ok (.getfield (133), 3) := by decide +kernel
theorem d_R_tableByRule_64 : decode prog_6_method_14_code 64 = .ok (.iload_n 1, 1) := by decide +kernel
theorem d_R_tableByRule_65 : decode prog_6_method_14_code 65 = .ok (.bipush (16), 2) := by decide +kernel
theorem d_R_tableByRule_67 : decode prog_6_method_14_code 67 = .ok (.imul, 1) := by decide +kernel
theorem d_R_tableByRule_68 : decode prog_6_method_14_code 68 = .ok (.iload (4), 2) := by decide +kernel
theorem d_R_tableByRule_70 : decode prog_6_method_14_code 70 = .ok (.iadd, 1) := by decide +kernel
theorem d_R_tableByRule_71 : decode prog_6_method_14_code 71 = .ok (.iload (4), 2) := by decide +kernel
theorem d_R_tableByRule_73 : decode prog_6_method_14_code 73 = .ok (.iload_n 2, 1) := by decide +kernel
theorem d_R_tableByRule_74 : decode prog_6_method_14_code 74 = .ok (.imul, 1) := by decide +kernel
theorem d_R_tableByRule_75 : decode prog_6_method_14_code 75 = .ok (.iload_n 3, 1) := by decide +kernel
theorem d_R_tableByRule_76 : decode prog_6_method_14_code 76 = .ok (.iadd, 1) := by decide +kernel
theorem d_R_tableByRule_77 : decode prog_6_method_14_code 77 = .ok (.bipush (15), 2) := by decide +kernel
theorem d_R_tableByRule_79 : decode prog_6_method_14_code 79 = .ok (.iand, 1) := by decide +kernel
theorem d_R_tableByRule_80 : decode prog_6_method_14_code 80 = .ok (.iastore, 1) := by decide +kernel
theorem d_R_tableByRule_81 : decode prog_6_method_14_code 81 = .ok (.iinc 4 (1), 3) := by decide +kernel
theorem d_R_tableByRule_84 : decode prog_6_method_14_code 84 = .ok (.goto (-34), 3) := by decide +kernel
theorem d_R_tableByRule_87 : decode prog_6_method_14_code 87 = .ok (.iconst 1, 1) := by decide +kernel
theorem d_R_tableByRule_88 : decode prog_6_method_14_code 88 = .ok (.ireturn, 1) := by decide +kernel
theorem fd_R_133 : ax_fd "CipherNotation$Reader" 133 3 1 := ⟨nC3, nT3, 9, nY3, rfl, nW3, by decide, nw_1 225 (by decide +kernel) rfl, nO3, nA3⟩
def lp_R_tableByRule_50 (F : Nat) (g : Nat) (x1 : Int32) (x2 : Int32) (x3 : Int32) : Nat → Int32 → ax_σ → Option (ax_σ)
  | 0, _, _ => none
  | n + 1, x4, s =>
    if (16 : Int32) ≤ x4 then
      some s
    else
      bif ax_in ((x1 * (16 : Int32)) + x4) 32 then
      ax_let (ax_wI s g 2 (((x1 * (16 : Int32)) + x4)).toNatClampNeg (((x4 * x2) + x3) &&& (15 : Int32))) (fun s12 =>
        lp_R_tableByRule_50 F g x1 x2 x3 n (x4 + (1 : Int32)) s12)
      else none
set_option maxHeartbeats 4000000 in
set_option maxRecDepth 100000 in
theorem pl_R_tableByRule_50 {D : va_G} {cA : Nat → ClassId} {ad : Nat → Nat → Nat} {al : List (Nat × Nat)} {θ : ax_Θ} {l : Launch} {ρ : ax_ρ} {G : ax_G} {F g : Nat} {x1 : Int32} {x2 : Int32} {x3 : Int32} (h0 : ax_M0 al) (hg : ax_Mg al g) (hr : ax_rd ρ g) (hB : ax_B D cA ad al θ l "CipherNotation$Reader" prog_6_method_14_code 5 3 G) : ∀ (n : Nat) {x4 : Int32} {s : ax_σ} (out : ax_σ), lp_R_tableByRule_50 F g x1 x2 x3 n x4 s = some out → (∀ (es : ax_σ), out = es → ax_R G 5 0 0 (87, [], [], ax_m (es) ρ)) → ax_R G 5 0 0 (50, [(0, .inr (0, 25)), (1, .inl (.int (x1))), (2, .inl (.int (x2))), (3, .inl (.int (x3))), (4, .inl (.int (x4)))], [], ax_m (s) ρ) := by
  have hK := hB.K
  have hal := hB.la
  intro n
  induction n with
  | zero =>
    intro x4 s out h
    cases h
  | succ n ih =>
    intro x4 s out h KE
    rw [lp_R_tableByRule_50] at h
    refine ax_bk hK (ax_fc (ax_v_ld (ax_r_iload d_R_tableByRule_50)) (ax_fc (ax_v_pu (ax_r_bipush (v := 16) d_R_tableByRule_52 (by decide))) ax_fn)) (y := (54, [(0, .inr (0, 25)), (1, .inl (.int (x1))), (2, .inl (.int (x2))), (3, .inl (.int (x3))), (4, .inl (.int (x4)))], [.inl (.int ((16 : Int32))), .inl (.int (x4))], ax_m (s) ρ)) rfl ⟨trivial, trivial, trivial⟩ ?_
    refine ax_ic_ge (tgt := 87) hK d_R_tableByRule_54 (by decide) (fun c13 => ?_) (fun c13 => ?_)
    · replace h := ax_it c13 h
      cases h
      exact ax_Lsub [] rfl (KE _ rfl)
    · replace h := ax_if c13 h
      obtain ⟨b11, h⟩ := ax_gd h
      refine ax_bk hK (ax_fc (ax_v_ld (ax_r_aload_n (i := 0) d_R_tableByRule_57 rfl)) (ax_fc (ax_w_gf (e := (some (g, 0))) hal d_R_tableByRule_58 fd_R_35) (ax_fc (ax_w_gf (e := none) hal d_R_tableByRule_61 fd_R_133) (ax_fc (ax_v_ld (ax_r_iload_n (i := 1) d_R_tableByRule_64 rfl)) (ax_fc (ax_v_pu (ax_r_bipush (v := 16) d_R_tableByRule_65 (by decide))) (ax_fc (ax_v_pu (ax_r_imul d_R_tableByRule_67)) (ax_fc (ax_v_ld (ax_r_iload d_R_tableByRule_68)) (ax_fc (ax_v_pu (ax_r_iadd d_R_tableByRule_70)) (ax_fc (ax_v_ld (ax_r_iload d_R_tableByRule_71)) (ax_fc (ax_v_ld (ax_r_iload_n (i := 2) d_R_tableByRule_73 rfl)) (ax_fc (ax_v_pu (ax_r_imul d_R_tableByRule_74)) (ax_fc (ax_v_ld (ax_r_iload_n (i := 3) d_R_tableByRule_75 rfl)) (ax_fc (ax_v_pu (ax_r_iadd d_R_tableByRule_76)) (ax_fc (ax_v_pu (ax_r_bipush (v := 15) d_R_tableByRule_77 (by decide))) (ax_fc (ax_v_pu (ax_r_iand d_R_tableByRule_79)) (ax_fc (ax_w_iast hal d_R_tableByRule_80) ax_fn)))))))))))))))) (y := (81, [(0, .inr (0, 25)), (1, .inl (.int (x1))), (2, .inl (.int (x2))), (3, .inl (.int (x3))), (4, .inl (.int (x4)))], [], ax_m (ax_wI s g 2 (((x1 * (16 : Int32)) + x4)).toNatClampNeg (((x4 * x2) + x3) &&& (15 : Int32))) ρ)) rfl ⟨trivial, ⟨(h0 25 rfl), hr.1⟩, (hg 0 rfl), trivial, trivial, trivial, trivial, trivial, trivial, trivial, trivial, trivial, trivial, trivial, trivial, ⟨(hg 2 rfl), ax_inp b11⟩, trivial⟩ ?_
      refine ax_lt (Q := fun ςς => ax_R G 5 0 0 (81, [(0, .inr (0, 25)), (1, .inl (.int (x1))), (2, .inl (.int (x2))), (3, .inl (.int (x3))), (4, .inl (.int (x4)))], [], ax_m (ςς) ρ)) h (fun s12 h => ?_)
      refine ax_bk hK (ax_fc (ax_v_ii (d := 1) d_R_tableByRule_81 (by decide)) (ax_fc (ax_v_go (tgt := 50) d_R_tableByRule_84 (by decide)) ax_fn)) (y := (50, [(4, .inl (.int ((x4 + (1 : Int32))))), (0, .inr (0, 25)), (1, .inl (.int (x1))), (2, .inl (.int (x2))), (3, .inl (.int (x3)))], [], ax_m (s12) ρ)) rfl ⟨trivial, trivial, trivial⟩ ?_
      exact ax_Lsub [1, 2, 3, 4, 0] rfl (ih _ h KE)
def f_R_tableByRule (F : Nat) (g : Nat) (a1 : Int32) (s : ax_σ) : Option (Int32 × ax_σ) :=
  ax_let (ax_wI s 0 25 3 ((s.1 0 25 3) + (1 : Int32))) (fun s1 =>
    Option.bind (f_R_takeNumber F g (16 : Int32) s1) (fun (r2, s3) =>
      if r2 = (-1 : Int32) then
        some (((0 : Int32), s3))
      else
        Option.bind (f_R_take g (43 : Int32) s3) (fun (r5, s6) =>
          if r5 = (0 : Int32) then
            some (((0 : Int32), s6))
          else
            Option.bind (f_R_takeNumber F g (16 : Int32) s6) (fun (r8, s9) =>
              if r8 = (-1 : Int32) then
                some (((0 : Int32), s9))
              else
                Option.bind (lp_R_tableByRule_50 F g a1 r2 r8 F (0 : Int32) s9) (fun s14 =>
                  some (((1 : Int32), s14)))))))
set_option maxHeartbeats 4000000 in
set_option maxRecDepth 100000 in
theorem t_R_tableByRule {l : Launch} {D : va_G} {cA : Nat → ClassId} {ad : Nat → Nat → Nat} {al : List (Nat × Nat)} {θ : ax_Θ} {ρ : ax_ρ} {F : Nat} {g : Nat} (h0 : ax_M0 al) (hg : ax_Mg al g) (hr : ax_rd ρ g) {a1 : Int32} {s : ax_σ} {r0 : Int32} {s0 : ax_σ} (h : f_R_tableByRule F g a1 s = some (r0, s0)) : ax_T l D cA ad al θ y_R_tableByRule (.code y_R_tableByRule prog_6_method_14_code 5 (some .boolean)) 3 [.inr (0, 25), .inl (.int (a1))] (ax_m s ρ) (some (.inl (.int r0))) (ax_m s0 ρ) := by
  refine ax_T_of (own := "CipherNotation$Reader") (by decide) rfl (Nat.le_of_ble_eq_true rfl) [(0, .inr (0, 25)), (1, .inl (.int (a1)))] rfl ?_
  intro G hA
  have hB := hA.B
  have hK := hB.K
  have hal := hB.la
  unfold f_R_tableByRule at h
  refine ax_bk hK (ax_fc (ax_v_ld (ax_r_aload_n (i := 0) d_R_tableByRule_0 rfl)) (ax_fc (ax_v_pu (ax_r_dup d_R_tableByRule_1)) (ax_fc (ax_w_gf (e := none) hal d_R_tableByRule_2 fd_R_72) (ax_fc (ax_v_pu (ax_r_iconst (v := 1) d_R_tableByRule_5 (by decide))) (ax_fc (ax_v_pu (ax_r_iadd d_R_tableByRule_6)) (ax_fc (ax_w_pf (tc := 0) hal d_R_tableByRule_7 fp_R_72 rfl) ax_fn)))))) (y := (10, [(0, .inr (0, 25)), (1, .inl (.int (a1)))], [], ax_m (ax_wI s 0 25 3 ((s.1 0 25 3) + (1 : Int32))) ρ)) rfl ⟨trivial, trivial, (h0 25 rfl), trivial, trivial, (h0 25 rfl), trivial⟩ ?_
  refine ax_lt (Q := fun ςς => ax_R G 5 0 0 (10, [(0, .inr (0, 25)), (1, .inl (.int (a1)))], [], ax_m (ςς) ρ)) h (fun s1 h => ?_)
  refine ax_bk hK (ax_fc (ax_v_ld (ax_r_aload_n (i := 0) d_R_tableByRule_10 rfl)) (ax_fc (ax_v_pu (ax_r_bipush (v := 16) d_R_tableByRule_11 (by decide))) ax_fn)) (y := (13, [(0, .inr (0, 25)), (1, .inl (.int (a1)))], [.inl (.int ((16 : Int32))), .inr (0, 25)], ax_m (s1) ρ)) rfl ⟨trivial, trivial, trivial⟩ ?_
  obtain ⟨⟨r2, s3⟩, q4, h⟩ := ax_bd h
  dsimp only at h
  refine ax_bV (rest := []) hB (t_R_takeNumber h0 hg hr q4) cw_R_111 im_R_takeNumber se_R_takeNumber d_R_tableByRule_13 (h0 25 rfl) rfl rfl (by decide) (by decide) rfl rfl (Nat.le_of_ble_eq_true rfl) ?_
  change ax_R G 5 0 0 (16, [(0, .inr (0, 25)), (1, .inl (.int (a1)))], [.inl (.int (r2))], ax_m (s3) ρ)
  refine ax_bk hK (ax_fc (ax_v_so (ax_r_istore_n (i := 2) d_R_tableByRule_16 rfl)) (ax_fc (ax_v_ld (ax_r_iload_n (i := 2) d_R_tableByRule_17 rfl)) (ax_fc (ax_v_pu (ax_r_iconst (v := -1) d_R_tableByRule_18 (by decide))) ax_fn))) (y := (19, [(2, .inl (.int (r2))), (0, .inr (0, 25)), (1, .inl (.int (a1)))], [.inl (.int ((-1 : Int32))), .inl (.int (r2))], ax_m (s3) ρ)) rfl ⟨trivial, trivial, trivial, trivial⟩ ?_
  refine ax_ic_eq (tgt := 31) hK d_R_tableByRule_19 (by decide) (fun c17 => ?_) (fun c17 => ?_)
  · replace h := ax_it c17 h
    refine ax_bk hK (ax_fc (ax_v_pu (ax_r_iconst (v := 0) d_R_tableByRule_31 (by decide))) ax_fn) (y := (32, [(2, .inl (.int (r2))), (0, .inr (0, 25)), (1, .inl (.int (a1)))], [.inl (.int ((0 : Int32)))], ax_m (s3) ρ)) rfl ⟨trivial, trivial⟩ ?_
    cases h
    exact ax_zret hA (by decide) d_R_tableByRule_32
  · replace h := ax_if c17 h
    refine ax_bk hK (ax_fc (ax_v_ld (ax_r_aload_n (i := 0) d_R_tableByRule_22 rfl)) (ax_fc (ax_v_pu (ax_r_bipush (v := 43) d_R_tableByRule_23 (by decide))) ax_fn)) (y := (25, [(2, .inl (.int (r2))), (0, .inr (0, 25)), (1, .inl (.int (a1)))], [.inl (.int ((43 : Int32))), .inr (0, 25)], ax_m (s3) ρ)) rfl ⟨trivial, trivial, trivial⟩ ?_
    obtain ⟨⟨r5, s6⟩, q7, h⟩ := ax_bd h
    dsimp only at h
    refine ax_bV (rest := []) hB (t_R_take h0 hg hr q7) cw_R_115 im_R_take se_R_take d_R_tableByRule_25 (h0 25 rfl) rfl rfl (by decide) (by decide) rfl rfl (Nat.le_of_ble_eq_true rfl) ?_
    change ax_R G 5 0 0 (28, [(2, .inl (.int (r2))), (0, .inr (0, 25)), (1, .inl (.int (a1)))], [.inl (.int (r5))], ax_m (s6) ρ)
    refine ax_if_ne (tgt := 33) hK d_R_tableByRule_28 (by decide) (fun c16 => ?_) (fun c16 => ?_)
    · replace h := ax_if c16 h
      refine ax_bk hK (ax_fc (ax_v_ld (ax_r_aload_n (i := 0) d_R_tableByRule_33 rfl)) (ax_fc (ax_v_pu (ax_r_bipush (v := 16) d_R_tableByRule_34 (by decide))) ax_fn)) (y := (36, [(2, .inl (.int (r2))), (0, .inr (0, 25)), (1, .inl (.int (a1)))], [.inl (.int ((16 : Int32))), .inr (0, 25)], ax_m (s6) ρ)) rfl ⟨trivial, trivial, trivial⟩ ?_
      obtain ⟨⟨r8, s9⟩, q10, h⟩ := ax_bd h
      dsimp only at h
      refine ax_bV (rest := []) hB (t_R_takeNumber h0 hg hr q10) cw_R_111 im_R_takeNumber se_R_takeNumber d_R_tableByRule_36 (h0 25 rfl) rfl rfl (by decide) (by decide) rfl rfl (Nat.le_of_ble_eq_true rfl) ?_
      change ax_R G 5 0 0 (39, [(2, .inl (.int (r2))), (0, .inr (0, 25)), (1, .inl (.int (a1)))], [.inl (.int (r8))], ax_m (s9) ρ)
      refine ax_bk hK (ax_fc (ax_v_so (ax_r_istore_n (i := 3) d_R_tableByRule_39 rfl)) (ax_fc (ax_v_ld (ax_r_iload_n (i := 3) d_R_tableByRule_40 rfl)) (ax_fc (ax_v_pu (ax_r_iconst (v := -1) d_R_tableByRule_41 (by decide))) ax_fn))) (y := (42, [(3, .inl (.int (r8))), (2, .inl (.int (r2))), (0, .inr (0, 25)), (1, .inl (.int (a1)))], [.inl (.int ((-1 : Int32))), .inl (.int (r8))], ax_m (s9) ρ)) rfl ⟨trivial, trivial, trivial, trivial⟩ ?_
      refine ax_ic_ne (tgt := 47) hK d_R_tableByRule_42 (by decide) (fun c15 => ?_) (fun c15 => ?_)
      · replace h := ax_if c15 h
        refine ax_bk hK (ax_fc (ax_v_pu (ax_r_iconst (v := 0) d_R_tableByRule_47 (by decide))) (ax_fc (ax_v_so (ax_r_istore d_R_tableByRule_48)) ax_fn)) (y := (50, [(4, .inl (.int ((0 : Int32)))), (3, .inl (.int (r8))), (2, .inl (.int (r2))), (0, .inr (0, 25)), (1, .inl (.int (a1)))], [], ax_m (s9) ρ)) rfl ⟨trivial, trivial, trivial⟩ ?_
        obtain ⟨w18, hw18, h⟩ := ax_bd h
        refine ax_Lsub [3, 4, 2, 1, 0] rfl (pl_R_tableByRule_50 h0 hg hr hB F _ hw18 ?_)
        intro s14 e9
        subst w18
        try dsimp only at h
        change ax_R G 5 0 0 (87, [], [], ax_m (s14) ρ)
        refine ax_bk hK (ax_fc (ax_v_pu (ax_r_iconst (v := 1) d_R_tableByRule_87 (by decide))) ax_fn) (y := (88, [], [.inl (.int ((1 : Int32)))], ax_m (s14) ρ)) rfl ⟨trivial, trivial⟩ ?_
        cases h
        exact ax_zret hA (by decide) d_R_tableByRule_88
      · replace h := ax_it c15 h
        refine ax_bk hK (ax_fc (ax_v_pu (ax_r_iconst (v := 0) d_R_tableByRule_45 (by decide))) ax_fn) (y := (46, [(3, .inl (.int (r8))), (2, .inl (.int (r2))), (0, .inr (0, 25)), (1, .inl (.int (a1)))], [.inl (.int ((0 : Int32)))], ax_m (s9) ρ)) rfl ⟨trivial, trivial⟩ ?_
        cases h
        exact ax_zret hA (by decide) d_R_tableByRule_46
    · replace h := ax_it c16 h
      refine ax_bk hK (ax_fc (ax_v_pu (ax_r_iconst (v := 0) d_R_tableByRule_31 (by decide))) ax_fn) (y := (32, [(2, .inl (.int (r2))), (0, .inr (0, 25)), (1, .inl (.int (a1)))], [.inl (.int ((0 : Int32)))], ax_m (s6) ρ)) rfl ⟨trivial, trivial⟩ ?_
      cases h
      exact ax_zret hA (by decide) d_R_tableByRule_32
def y_R_isOpen : MethodName := ⟨"CipherNotation$Reader", "isOpen", "(I)Z"⟩
theorem d_R_isOpen_0 : decode prog_6_method_17_code 0 = .ok (.iconst 0, 1) := by decide +kernel
theorem d_R_isOpen_1 : decode prog_6_method_17_code 1 = .ok (.istore_n 2, 1) := by decide +kernel
theorem d_R_isOpen_2 : decode prog_6_method_17_code 2 = .ok (.iload_n 2, 1) := by decide +kernel
theorem d_R_isOpen_3 : decode prog_6_method_17_code 3 = .ok (.aload_n 0, 1) := by decide +kernel
theorem d_R_isOpen_4 : decode prog_6_method_17_code 4 = .ok (.getfield (143), 3) := by decide +kernel
theorem d_R_isOpen_7 : decode prog_6_method_17_code 7 = .ok (.if_icmp .ge (29), 3) := by decide +kernel
theorem d_R_isOpen_10 : decode prog_6_method_17_code 10 = .ok (.aload_n 0, 1) := by decide +kernel
theorem d_R_isOpen_11 : decode prog_6_method_17_code 11 = .ok (.getfield (50), 3) := by decide +kernel
theorem d_R_isOpen_14 : decode prog_6_method_17_code 14 = .ok (.getfield (161), 3) := by decide +kernel
theorem d_R_isOpen_17 : decode prog_6_method_17_code 17 = .ok (.aload_n 0, 1) := by decide +kernel
theorem d_R_isOpen_18 : decode prog_6_method_17_code 18 = .ok (.getfield (19), 3) := by decide +kernel
theorem d_R_isOpen_21 : decode prog_6_method_17_code 21 = .ok (.iload_n 2, 1) := by decide +kernel
theorem d_R_isOpen_22 : decode prog_6_method_17_code 22 = .ok (.iaload, 1) := by decide +kernel
theorem d_R_isOpen_23 : decode prog_6_method_17_code 23 = .ok (.iaload, 1) := by decide +kernel
theorem d_R_isOpen_24 : decode prog_6_method_17_code 24 = .ok (.iload_n 1, 1) := by decide +kernel
theorem d_R_isOpen_25 : decode prog_6_method_17_code 25 = .ok (.if_icmp .ne (5), 3) := by decide +kernel
theorem d_R_isOpen_28 : decode prog_6_method_17_code 28 = .ok (.iconst 1, 1) := by decide +kernel
theorem d_R_isOpen_29 : decode prog_6_method_17_code 29 = .ok (.ireturn, 1) := by decide +kernel
theorem d_R_isOpen_30 : decode prog_6_method_17_code 30 = .ok (.iinc 2 (1), 3) := by decide +kernel
theorem d_R_isOpen_33 : decode prog_6_method_17_code 33 = .ok (.goto (-31), 3) := by decide +kernel
theorem d_R_isOpen_36 : decode prog_6_method_17_code 36 = .ok (.iconst 0, 1) := by decide +kernel
theorem d_R_isOpen_37 : decode prog_6_method_17_code 37 = .ok (.ireturn, 1) := by decide +kernel
theorem fd_R_143 : ax_fd "CipherNotation$Reader" 143 4 9 := ⟨nC4, nT4, 15, nY4, rfl, nW4, by decide, nw_1 43 (by decide +kernel) rfl, nO4, nA4⟩
theorem fd_R_50 : ax_fd "CipherNotation$Reader" 50 4 6 := ⟨nC4, nT4, 15, nY4, rfl, nW4, by decide, nw_1 40 (by decide +kernel) rfl, nO4, nA4⟩
theorem fd_R_161 : ax_fd "CipherNotation$Reader" 161 1 1 := ⟨nC1, nT1, 7, nY1, rfl, nW1, by decide, nw_1 187 (by decide +kernel) rfl, nO1, nA1⟩
theorem fd_R_19 : ax_fd "CipherNotation$Reader" 19 4 10 := ⟨nC4, nT4, 15, nY4, rfl, nW4, by decide, nw_1 44 (by decide +kernel) rfl, nO4, nA4⟩
def lp_R_isOpen_2 (F : Nat) (g : Nat) (x1 : Int32) (s : ax_σ) : Nat → Int32 → Option ((Int32) ⊕ (Unit))
  | 0, _ => none
  | n + 1, x2 =>
    if (s.1 0 25 9) ≤ x2 then
      some (.inr ())
    else
      bif ax_in x2 2 then
      bif ax_in (s.1 0 28 (x2).toNatClampNeg) 120 then
      if (s.1 g 15 ((s.1 0 28 (x2).toNatClampNeg)).toNatClampNeg) = x1 then
        some (.inl (1 : Int32))
      else
        lp_R_isOpen_2 F g x1 s n (x2 + (1 : Int32))
      else none
      else none
set_option maxHeartbeats 4000000 in
set_option maxRecDepth 100000 in
theorem pl_R_isOpen_2 {D : va_G} {cA : Nat → ClassId} {ad : Nat → Nat → Nat} {al : List (Nat × Nat)} {θ : ax_Θ} {l : Launch} {ρ : ax_ρ} {G : ax_G} {F g : Nat} {x1 : Int32} {s : ax_σ} (h0 : ax_M0 al) (hg : ax_Mg al g) (hr : ax_rd ρ g) (hB : ax_B D cA ad al θ l "CipherNotation$Reader" prog_6_method_17_code 3 0 G) : ∀ (n : Nat) {x2 : Int32} (out : (Int32) ⊕ (Unit)), lp_R_isOpen_2 F g x1 s n x2 = some out → (∀ (r0 : Int32), out = .inl r0 → ax_At D cA ad al θ l "CipherNotation$Reader" prog_6_method_17_code 3 0 (some .boolean) (some (.inl (.int r0))) (ax_m s ρ) G) → (out = .inr () → ax_R G 3 0 0 (36, [], [], ax_m (s) ρ)) → ax_R G 3 0 0 (2, [(0, .inr (0, 25)), (1, .inl (.int (x1))), (2, .inl (.int (x2)))], [], ax_m (s) ρ) := by
  have hK := hB.K
  have hal := hB.la
  intro n
  induction n with
  | zero =>
    intro x2 out h
    cases h
  | succ n ih =>
    intro x2 out h RT KE
    rw [lp_R_isOpen_2] at h
    refine ax_bk hK (ax_fc (ax_v_ld (ax_r_iload_n (i := 2) d_R_isOpen_2 rfl)) (ax_fc (ax_v_ld (ax_r_aload_n (i := 0) d_R_isOpen_3 rfl)) (ax_fc (ax_w_gf (e := none) hal d_R_isOpen_4 fd_R_143) ax_fn))) (y := (7, [(0, .inr (0, 25)), (1, .inl (.int (x1))), (2, .inl (.int (x2)))], [.inl (.int ((s.1 0 25 9))), .inl (.int (x2))], ax_m (s) ρ)) rfl ⟨trivial, trivial, (h0 25 rfl), trivial⟩ ?_
    refine ax_ic_ge (tgt := 36) hK d_R_isOpen_7 (by decide) (fun c4 => ?_) (fun c4 => ?_)
    · replace h := ax_it c4 h
      cases h
      exact ax_Lsub [] rfl (KE rfl)
    · replace h := ax_if c4 h
      obtain ⟨b1, h⟩ := ax_gd h
      obtain ⟨b2, h⟩ := ax_gd h
      refine ax_bk hK (ax_fc (ax_v_ld (ax_r_aload_n (i := 0) d_R_isOpen_10 rfl)) (ax_fc (ax_w_gf (e := (some (g, 13))) hal d_R_isOpen_11 fd_R_50) (ax_fc (ax_w_gf (e := none) hal d_R_isOpen_14 fd_R_161) (ax_fc (ax_v_ld (ax_r_aload_n (i := 0) d_R_isOpen_17 rfl)) (ax_fc (ax_w_gf (e := none) hal d_R_isOpen_18 fd_R_19) (ax_fc (ax_v_ld (ax_r_iload_n (i := 2) d_R_isOpen_21 rfl)) (ax_fc (ax_w_iald hal d_R_isOpen_22) (ax_fc (ax_w_iald hal d_R_isOpen_23) (ax_fc (ax_v_ld (ax_r_iload_n (i := 1) d_R_isOpen_24 rfl)) ax_fn))))))))) (y := (25, [(0, .inr (0, 25)), (1, .inl (.int (x1))), (2, .inl (.int (x2)))], [.inl (.int (x1)), .inl (.int ((s.1 g 15 ((s.1 0 28 (x2).toNatClampNeg)).toNatClampNeg)))], ax_m (s) ρ)) rfl ⟨trivial, ⟨(h0 25 rfl), hr.2.2⟩, (hg 13 rfl), trivial, (h0 25 rfl), trivial, ⟨(h0 28 rfl), ax_inp b1⟩, ⟨(hg 15 rfl), ax_inp b2⟩, trivial, trivial⟩ ?_
      refine ax_ic_ne (tgt := 30) hK d_R_isOpen_25 (by decide) (fun c3 => ?_) (fun c3 => ?_)
      · replace h := ax_if c3 h
        refine ax_bk hK (ax_fc (ax_v_ii (d := 1) d_R_isOpen_30 (by decide)) (ax_fc (ax_v_go (tgt := 2) d_R_isOpen_33 (by decide)) ax_fn)) (y := (2, [(2, .inl (.int ((x2 + (1 : Int32))))), (0, .inr (0, 25)), (1, .inl (.int (x1)))], [], ax_m (s) ρ)) rfl ⟨trivial, trivial, trivial⟩ ?_
        exact ax_Lsub [1, 2, 0] rfl (ih _ h RT KE)
      · replace h := ax_it c3 h
        refine ax_bk hK (ax_fc (ax_v_pu (ax_r_iconst (v := 1) d_R_isOpen_28 (by decide))) ax_fn) (y := (29, [(0, .inr (0, 25)), (1, .inl (.int (x1))), (2, .inl (.int (x2)))], [.inl (.int ((1 : Int32)))], ax_m (s) ρ)) rfl ⟨trivial, trivial⟩ ?_
        cases h
        exact ax_zret (RT _ rfl) (by decide) d_R_isOpen_29
def f_R_isOpen (F : Nat) (g : Nat) (a1 : Int32) (s : ax_σ) : Option (Int32) :=
  Option.bind (lp_R_isOpen_2 F g a1 s F (0 : Int32)) (fun w => match w with
    | .inl w => some w
    | .inr _ =>
      some ((0 : Int32)))
set_option maxHeartbeats 4000000 in
set_option maxRecDepth 100000 in
theorem t_R_isOpen {l : Launch} {D : va_G} {cA : Nat → ClassId} {ad : Nat → Nat → Nat} {al : List (Nat × Nat)} {θ : ax_Θ} {ρ : ax_ρ} {F : Nat} {g : Nat} (h0 : ax_M0 al) (hg : ax_Mg al g) (hr : ax_rd ρ g) {a1 : Int32} {s : ax_σ} {r0 : Int32} (h : f_R_isOpen F g a1 s = some r0) : ax_T l D cA ad al θ y_R_isOpen (.code y_R_isOpen prog_6_method_17_code 3 (some .boolean)) 0 [.inr (0, 25), .inl (.int (a1))] (ax_m s ρ) (some (.inl (.int r0))) (ax_m s ρ) := by
  refine ax_T_of (own := "CipherNotation$Reader") (by decide) rfl (Nat.le_of_ble_eq_true rfl) [(0, .inr (0, 25)), (1, .inl (.int (a1)))] rfl ?_
  intro G hA
  have hB := hA.B
  have hK := hB.K
  have hal := hB.la
  unfold f_R_isOpen at h
  refine ax_bk hK (ax_fc (ax_v_pu (ax_r_iconst (v := 0) d_R_isOpen_0 (by decide))) (ax_fc (ax_v_so (ax_r_istore_n (i := 2) d_R_isOpen_1 rfl)) ax_fn)) (y := (2, [(2, .inl (.int ((0 : Int32)))), (0, .inr (0, 25)), (1, .inl (.int (a1)))], [], ax_m (s) ρ)) rfl ⟨trivial, trivial, trivial⟩ ?_
  obtain ⟨w5, hw5, h⟩ := ax_bd h
  have RTw5 : ∀ (r0 : Int32), w5 = .inl r0 → ax_At D cA ad al θ l "CipherNotation$Reader" prog_6_method_17_code 3 0 (some .boolean) (some (.inl (.int r0))) (ax_m s ρ) G := by
    intro r0 e9
    subst w5
    try dsimp only at h
    cases h
    exact hA
  refine ax_Lsub [1, 2, 0] rfl (pl_R_isOpen_2 h0 hg hr hB F _ hw5 RTw5 ?_)
  intro  e9
  subst w5
  try dsimp only at h
  change ax_R G 3 0 0 (36, [], [], ax_m (s) ρ)
  refine ax_bk hK (ax_fc (ax_v_pu (ax_r_iconst (v := 0) d_R_isOpen_36 (by decide))) ax_fn) (y := (37, [], [.inl (.int ((0 : Int32)))], ax_m (s) ρ)) rfl ⟨trivial, trivial⟩ ?_
  cases h
  exact ax_zret hA (by decide) d_R_isOpen_37
