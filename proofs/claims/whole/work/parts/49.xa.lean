def y_X_write : MethodName := ⟨"CipherNotation", "write", "(J)I"⟩
theorem d_X_write_0 : decode prog_1_method_2_code 0 = .ok (.iconst 0, 1) := by decide +kernel
theorem d_X_write_1 : decode prog_1_method_2_code 1 = .ok (.istore_n 3, 1) := by decide +kernel
theorem d_X_write_2 : decode prog_1_method_2_code 2 = .ok (.iconst 0, 1) := by decide +kernel
theorem d_X_write_3 : decode prog_1_method_2_code 3 = .ok (.istore (4), 2) := by decide +kernel
theorem d_X_write_5 : decode prog_1_method_2_code 5 = .ok (.iload (4), 2) := by decide +kernel
theorem d_X_write_7 : decode prog_1_method_2_code 7 = .ok (.bipush (64), 2) := by decide +kernel
theorem d_X_write_9 : decode prog_1_method_2_code 9 = .ok (.if_icmp .ge (44), 3) := by decide +kernel
theorem d_X_write_12 : decode prog_1_method_2_code 12 = .ok (.lload_n 1, 1) := by decide +kernel
theorem d_X_write_13 : decode prog_1_method_2_code 13 = .ok (.iload (4), 2) := by decide +kernel
theorem d_X_write_15 : decode prog_1_method_2_code 15 = .ok (.lushr, 1) := by decide +kernel
theorem d_X_write_16 : decode prog_1_method_2_code 16 = .ok (.l2i, 1) := by decide +kernel
theorem d_X_write_17 : decode prog_1_method_2_code 17 = .ok (.sipush (255), 3) := by decide +kernel
theorem d_X_write_20 : decode prog_1_method_2_code 20 = .ok (.iand, 1) := by decide +kernel
theorem d_X_write_21 : decode prog_1_method_2_code 21 = .ok (.istore (5), 2) := by decide +kernel
theorem d_X_write_23 : decode prog_1_method_2_code 23 = .ok (.iload (5), 2) := by decide +kernel
theorem d_X_write_25 : decode prog_1_method_2_code 25 = .ok (.ifCond .eq (22), 3) := by decide +kernel
theorem d_X_write_28 : decode prog_1_method_2_code 28 = .ok (.iload (5), 2) := by decide +kernel
theorem d_X_write_30 : decode prog_1_method_2_code 30 = .ok (.bipush (32), 2) := by decide +kernel
theorem d_X_write_32 : decode prog_1_method_2_code 32 = .ok (.if_icmp .lt (10), 3) := by decide +kernel
theorem d_X_write_35 : decode prog_1_method_2_code 35 = .ok (.iload (5), 2) := by decide +kernel
theorem d_X_write_37 : decode prog_1_method_2_code 37 = .ok (.bipush (126), 2) := by decide +kernel
theorem d_X_write_39 : decode prog_1_method_2_code 39 = .ok (.if_icmp .le (5), 3) := by decide +kernel
theorem d_X_write_42 : decode prog_1_method_2_code 42 = .ok (.iconst (-1), 1) := by decide +kernel
theorem d_X_write_43 : decode prog_1_method_2_code 43 = .ok (.ireturn, 1) := by decide +kernel
theorem d_X_write_44 : decode prog_1_method_2_code 44 = .ok (.iinc 3 (1), 3) := by decide +kernel
theorem d_X_write_47 : decode prog_1_method_2_code 47 = .ok (.iinc 4 (8), 3) := by decide +kernel
theorem d_X_write_50 : decode prog_1_method_2_code 50 = .ok (.goto (-45), 3) := by decide +kernel
theorem d_X_write_53 : decode prog_1_method_2_code 53 = .ok (.aload_n 0, 1) := by decide +kernel
theorem d_X_write_54 : decode prog_1_method_2_code 54 = .ok (.getfield (13), 3) := by decide +kernel
theorem d_X_write_57 : decode prog_1_method_2_code 57 = .ok (.iload_n 3, 1) := by decide +kernel
theorem d_X_write_58 : decode prog_1_method_2_code 58 = .ok (.iadd, 1) := by decide +kernel
theorem d_X_write_59 : decode prog_1_method_2_code 59 = .ok (.sipush (240), 3) := by decide +kernel
theorem d_X_write_62 : decode prog_1_method_2_code 62 = .ok (.if_icmp .le (5), 3) := by decide +kernel
theorem d_X_write_65 : decode prog_1_method_2_code 65 = .ok (.iconst (-1), 1) := by decide +kernel
theorem d_X_write_66 : decode prog_1_method_2_code 66 = .ok (.ireturn, 1) := by decide +kernel
theorem d_X_write_67 : decode prog_1_method_2_code 67 = .ok (.iconst 0, 1) := by decide +kernel
theorem d_X_write_68 : decode prog_1_method_2_code 68 = .ok (.istore (4), 2) := by decide +kernel
theorem d_X_write_70 : decode prog_1_method_2_code 70 = .ok (.iload (4), 2) := by decide +kernel
theorem d_X_write_72 : decode prog_1_method_2_code 72 = .ok (.bipush (64), 2) := by decide +kernel
theorem d_X_write_74 : decode prog_1_method_2_code 74 = .ok (.if_icmp .ge (44), 3) := by decide +kernel
theorem d_X_write_77 : decode prog_1_method_2_code 77 = .ok (.lload_n 1, 1) := by decide +kernel
theorem d_X_write_78 : decode prog_1_method_2_code 78 = .ok (.iload (4), 2) := by decide +kernel
theorem d_X_write_80 : decode prog_1_method_2_code 80 = .ok (.lushr, 1) := by decide +kernel
theorem d_X_write_81 : decode prog_1_method_2_code 81 = .ok (.l2i, 1) := by decide +kernel
theorem d_X_write_82 : decode prog_1_method_2_code 82 = .ok (.sipush (255), 3) := by decide +kernel
theorem d_X_write_85 : decode prog_1_method_2_code 85 = .ok (.iand, 1) := by decide +kernel
theorem d_X_write_86 : decode prog_1_method_2_code 86 = .ok (.istore (5), 2) := by decide +kernel
theorem d_X_write_88 : decode prog_1_method_2_code 88 = .ok (.iload (5), 2) := by decide +kernel
theorem d_X_write_90 : decode prog_1_method_2_code 90 = .ok (.ifCond .eq (22), 3) := by decide +kernel
theorem d_X_write_93 : decode prog_1_method_2_code 93 = .ok (.aload_n 0, 1) := by decide +kernel
theorem d_X_write_94 : decode prog_1_method_2_code 94 = .ok (.getfield (9), 3) := by decide +kernel
theorem d_X_write_97 : decode prog_1_method_2_code 97 = .ok (.aload_n 0, 1) := by decide +kernel
theorem d_X_write_98 : decode prog_1_method_2_code 98 = .ok (.dup, 1) := by decide +kernel
theorem d_X_write_99 : decode prog_1_method_2_code 99 = .ok (.getfield (13), 3) := by decide +kernel
theorem d_X_write_102 : decode prog_1_method_2_code 102 = .ok (.dup_x1, 1) := by decide +kernel
theorem d_X_write_103 : decode prog_1_method_2_code 103 = .ok (.iconst 1, 1) := by decide +kernel
theorem d_X_write_104 : decode prog_1_method_2_code 104 = .ok (.iadd, 1) := by decide +kernel
theorem d_X_write_105 : decode prog_1_method_2_code 105 = .ok (.putfield (13), 3) := by decide +kernel
theorem d_X_write_108 : decode prog_1_method_2_code 108 = .ok (.iload (5), 2) := by decide +kernel
theorem d_X_write_110 : decode prog_1_method_2_code 110 = .ok (.i2c, 1) := by decide +kernel
theorem d_X_write_111 : decode prog_1_method_2_code 111 = .ok (.castore, 1) := by decide +kernel
theorem d_X_write_112 : decode prog_1_method_2_code 112 = .ok (.iinc 4 (8), 3) := by decide +kernel
theorem d_X_write_115 : decode prog_1_method_2_code 115 = .ok (.goto (-45), 3) := by decide +kernel
theorem d_X_write_118 : decode prog_1_method_2_code 118 = .ok (.aload_n 0, 1) := by decide +kernel
theorem d_X_write_119 : decode prog_1_method_2_code 119 = .ok (.getfield (13), 3) := by decide +kernel
theorem d_X_write_122 : decode prog_1_method_2_code 122 = .ok (.ireturn, 1) := by decide +kernel
def lp_X_write_5 (F : Nat) (x1 : Int64) (s : ax_σ) : Nat → Int32 → Int32 → Option ((Int32 × ax_σ) ⊕ (Int32))
  | 0, _, _ => none
  | n + 1, x3, x4 =>
    if (64 : Int32) ≤ x4 then
      some (.inr x3)
    else
      if ((((x1).toUInt64 >>> ((x4).toInt64.toUInt64 &&& Int64.toUInt64 63)).toInt64).toInt32 &&& (255 : Int32)) = (0 : Int32) then
        lp_X_write_5 F x1 s n x3 (x4 + (8 : Int32))
      else
        Option.bind (
          if ((((x1).toUInt64 >>> ((x4).toInt64.toUInt64 &&& Int64.toUInt64 63)).toInt64).toInt32 &&& (255 : Int32)) < (32 : Int32) then
            some true
          else
            if ((((x1).toUInt64 >>> ((x4).toInt64.toUInt64 &&& Int64.toUInt64 63)).toInt64).toInt32 &&& (255 : Int32)) ≤ (126 : Int32) then
              some false
            else
              some true) (fun w3 => bif w3 then
          some (.inl ((-1 : Int32), s))
        else
          lp_X_write_5 F x1 s n (x3 + (1 : Int32)) (x4 + (8 : Int32)))
set_option maxHeartbeats 4000000 in
set_option maxRecDepth 100000 in
theorem pl_X_write_5 {D : va_G} {cA : Nat → ClassId} {ad : Nat → Nat → Nat} {al : List (Nat × Nat)} {θ : ax_Θ} {l : Launch} {ρ : ax_ρ} {G : ax_G} {F : Nat} {x1 : Int64} {s : ax_σ} (h0 : ax_M0 al) (hB : ax_B D cA ad al θ l "CipherNotation" prog_1_method_2_code 6 0 G) : ∀ (n : Nat) {x3 : Int32} {x4 : Int32} (out : (Int32 × ax_σ) ⊕ (Int32)), lp_X_write_5 F x1 s n x3 x4 = some out → (∀ (r0 : Int32) (s0 : ax_σ), out = .inl (r0, s0) → ax_At D cA ad al θ l "CipherNotation" prog_1_method_2_code 6 0 (some .int) (some (.inl (.int r0))) (ax_m s0 ρ) G) → (∀ (e3 : Int32), out = .inr e3 → ax_R G 6 0 0 (53, [(0, .inr (0, 23)), (1, .inl (.long (x1))), (3, .inl (.int (e3)))], [], ax_m (s) ρ)) → ax_R G 6 0 0 (5, [(0, .inr (0, 23)), (1, .inl (.long (x1))), (3, .inl (.int (x3))), (4, .inl (.int (x4)))], [], ax_m (s) ρ) := by
  have hK := hB.K
  have hal := hB.la
  intro n
  induction n with
  | zero =>
    intro x3 x4 out h
    cases h
  | succ n ih =>
    intro x3 x4 out h RT KE
    rw [lp_X_write_5] at h
    refine ax_bk hK (ax_fc (ax_v_ld (ax_r_iload d_X_write_5)) (ax_fc (ax_v_pu (ax_r_bipush (v := 64) d_X_write_7 (by decide))) ax_fn)) (y := (9, [(0, .inr (0, 23)), (1, .inl (.long (x1))), (3, .inl (.int (x3))), (4, .inl (.int (x4)))], [.inl (.int ((64 : Int32))), .inl (.int (x4))], ax_m (s) ρ)) rfl ⟨trivial, trivial, trivial⟩ ?_
    refine ax_ic_ge (tgt := 53) hK d_X_write_9 (by decide) (fun c5 => ?_) (fun c5 => ?_)
    · replace h := ax_it c5 h
      cases h
      exact ax_Lsub [0, 1, 2] rfl (KE _ rfl)
    · replace h := ax_if c5 h
      refine ax_bk hK (ax_fc (ax_v_ld (ax_r_lload_n (i := 1) d_X_write_12 rfl)) (ax_fc (ax_v_ld (ax_r_iload d_X_write_13)) (ax_fc (ax_v_pu (ax_r_lushr d_X_write_15)) (ax_fc (ax_v_pu (ax_r_l2i d_X_write_16)) (ax_fc (ax_v_pu (ax_r_sipush (v := 255) d_X_write_17 (by decide))) (ax_fc (ax_v_pu (ax_r_iand d_X_write_20)) (ax_fc (ax_v_so (ax_r_istore d_X_write_21)) (ax_fc (ax_v_ld (ax_r_iload d_X_write_23)) ax_fn)))))))) (y := (25, [(5, .inl (.int (((((x1).toUInt64 >>> ((x4).toInt64.toUInt64 &&& Int64.toUInt64 63)).toInt64).toInt32 &&& (255 : Int32))))), (0, .inr (0, 23)), (1, .inl (.long (x1))), (3, .inl (.int (x3))), (4, .inl (.int (x4)))], [.inl (.int (((((x1).toUInt64 >>> ((x4).toInt64.toUInt64 &&& Int64.toUInt64 63)).toInt64).toInt32 &&& (255 : Int32))))], ax_m (s) ρ)) rfl ⟨trivial, trivial, trivial, trivial, trivial, trivial, trivial, trivial, trivial⟩ ?_
      refine ax_if_eq (tgt := 47) hK d_X_write_25 (by decide) (fun c4 => ?_) (fun c4 => ?_)
      · replace h := ax_it c4 h
        refine ax_bk hK (ax_fc (ax_v_ii (d := 8) d_X_write_47 (by decide)) (ax_fc (ax_v_go (tgt := 5) d_X_write_50 (by decide)) ax_fn)) (y := (5, [(4, .inl (.int ((x4 + (8 : Int32))))), (5, .inl (.int (((((x1).toUInt64 >>> ((x4).toInt64.toUInt64 &&& Int64.toUInt64 63)).toInt64).toInt32 &&& (255 : Int32))))), (0, .inr (0, 23)), (1, .inl (.long (x1))), (3, .inl (.int (x3)))], [], ax_m (s) ρ)) rfl ⟨trivial, trivial, trivial⟩ ?_
        exact ax_Lsub [2, 3, 4, 0] rfl (ih _ h RT KE)
      · replace h := ax_if c4 h
        refine ax_bk hK (ax_fc (ax_v_ld (ax_r_iload d_X_write_28)) (ax_fc (ax_v_pu (ax_r_bipush (v := 32) d_X_write_30 (by decide))) ax_fn)) (y := (32, [(5, .inl (.int (((((x1).toUInt64 >>> ((x4).toInt64.toUInt64 &&& Int64.toUInt64 63)).toInt64).toInt32 &&& (255 : Int32))))), (0, .inr (0, 23)), (1, .inl (.long (x1))), (3, .inl (.int (x3))), (4, .inl (.int (x4)))], [.inl (.int ((32 : Int32))), .inl (.int (((((x1).toUInt64 >>> ((x4).toInt64.toUInt64 &&& Int64.toUInt64 63)).toInt64).toInt32 &&& (255 : Int32))))], ax_m (s) ρ)) rfl ⟨trivial, trivial, trivial⟩ ?_
        obtain ⟨w3, hw3, h⟩ := ax_bd h
        have KTw3 : w3 = true → ax_R G 6 0 0 (42, [], [], ax_m (s) ρ) := by
          intro e9
          subst w3
          replace h := ax_ct h
          refine ax_bk hK (ax_fc (ax_v_pu (ax_r_iconst (v := -1) d_X_write_42 (by decide))) ax_fn) (y := (43, [], [.inl (.int ((-1 : Int32)))], ax_m (s) ρ)) rfl ⟨trivial, trivial⟩ ?_
          cases h
          exact ax_iret (RT _ _ rfl) d_X_write_43
        have KFw3 : w3 = false → ax_R G 6 0 0 (44, [(0, .inr (0, 23)), (1, .inl (.long (x1))), (3, .inl (.int (x3))), (4, .inl (.int (x4)))], [], ax_m (s) ρ) := by
          intro e9
          subst w3
          replace h := ax_cf h
          refine ax_bk hK (ax_fc (ax_v_ii (d := 1) d_X_write_44 (by decide)) (ax_fc (ax_v_ii (d := 8) d_X_write_47 (by decide)) (ax_fc (ax_v_go (tgt := 5) d_X_write_50 (by decide)) ax_fn))) (y := (5, [(4, .inl (.int ((x4 + (8 : Int32))))), (3, .inl (.int ((x3 + (1 : Int32))))), (0, .inr (0, 23)), (1, .inl (.long (x1)))], [], ax_m (s) ρ)) rfl ⟨trivial, trivial, trivial, trivial⟩ ?_
          exact ax_Lsub [2, 3, 1, 0] rfl (ih _ h RT KE)
        clear h
        have h := hw3
        refine ax_ic_lt (tgt := 42) hK d_X_write_32 (by decide) (fun c2 => ?_) (fun c2 => ?_)
        · replace h := ax_it c2 h
          cases h
          exact ax_Lsub [] rfl (KTw3 rfl)
        · replace h := ax_if c2 h
          refine ax_bk hK (ax_fc (ax_v_ld (ax_r_iload d_X_write_35)) (ax_fc (ax_v_pu (ax_r_bipush (v := 126) d_X_write_37 (by decide))) ax_fn)) (y := (39, [(5, .inl (.int (((((x1).toUInt64 >>> ((x4).toInt64.toUInt64 &&& Int64.toUInt64 63)).toInt64).toInt32 &&& (255 : Int32))))), (0, .inr (0, 23)), (1, .inl (.long (x1))), (3, .inl (.int (x3))), (4, .inl (.int (x4)))], [.inl (.int ((126 : Int32))), .inl (.int (((((x1).toUInt64 >>> ((x4).toInt64.toUInt64 &&& Int64.toUInt64 63)).toInt64).toInt32 &&& (255 : Int32))))], ax_m (s) ρ)) rfl ⟨trivial, trivial, trivial⟩ ?_
          refine ax_ic_le (tgt := 44) hK d_X_write_39 (by decide) (fun c1 => ?_) (fun c1 => ?_)
          · replace h := ax_it c1 h
            cases h
            exact ax_Lsub [1, 2, 3, 4] rfl (KFw3 rfl)
          · replace h := ax_if c1 h
            cases h
            exact ax_Lsub [] rfl (KTw3 rfl)
theorem fd_X_9 : ax_fd "CipherNotation" 9 5 0 := ⟨nC5, nT5, 7, nY5, rfl, nW5, by decide, nw_2 23 (by decide +kernel) rfl, nO5, nA5⟩
theorem fd_X_13 : ax_fd "CipherNotation" 13 5 1 := ⟨nC5, nT5, 7, nY5, rfl, nW5, by decide, nw_2 24 (by decide +kernel) rfl, nO5, nA5⟩
theorem fp_X_13 : ax_fp "CipherNotation" 13 5 1 (.int) := ⟨nC5, nT5, 7, nY5, rfl, nW5, by decide, nw_2 24 (by decide +kernel) rfl, nO5, nA5, by decide +kernel, by decide +kernel⟩
def lp_X_write_70 (F : Nat) (x1 : Int64) : Nat → Int32 → ax_σ → Option (ax_σ)
  | 0, _, _ => none
  | n + 1, x4, s =>
    if (64 : Int32) ≤ x4 then
      some s
    else
      if ((((x1).toUInt64 >>> ((x4).toInt64.toUInt64 &&& Int64.toUInt64 63)).toInt64).toInt32 &&& (255 : Int32)) = (0 : Int32) then
        lp_X_write_70 F x1 n (x4 + (8 : Int32)) s
      else
        ax_let (ax_wI s 0 23 1 ((s.1 0 23 1) + (1 : Int32))) (fun s7 =>
          bif ax_in (s.1 0 23 1) 240 then
          ax_let (ax_wI s7 0 24 ((s.1 0 23 1)).toNatClampNeg (vp_nar .char (((((((x1).toUInt64 >>> ((x4).toInt64.toUInt64 &&& Int64.toUInt64 63)).toInt64).toInt32 &&& (255 : Int32))).toUInt32 % 65536).toInt32))) (fun s9 =>
            lp_X_write_70 F x1 n (x4 + (8 : Int32)) s9)
          else none)
set_option maxHeartbeats 4000000 in
set_option maxRecDepth 100000 in
theorem pl_X_write_70 {D : va_G} {cA : Nat → ClassId} {ad : Nat → Nat → Nat} {al : List (Nat × Nat)} {θ : ax_Θ} {l : Launch} {ρ : ax_ρ} {G : ax_G} {F : Nat} {x1 : Int64} (h0 : ax_M0 al) (hB : ax_B D cA ad al θ l "CipherNotation" prog_1_method_2_code 6 0 G) : ∀ (n : Nat) {x4 : Int32} {s : ax_σ} (out : ax_σ), lp_X_write_70 F x1 n x4 s = some out → (∀ (es : ax_σ), out = es → ax_R G 6 0 0 (118, [(0, .inr (0, 23))], [], ax_m (es) ρ)) → ax_R G 6 0 0 (70, [(0, .inr (0, 23)), (1, .inl (.long (x1))), (4, .inl (.int (x4)))], [], ax_m (s) ρ) := by
  have hK := hB.K
  have hal := hB.la
  intro n
  induction n with
  | zero =>
    intro x4 s out h
    cases h
  | succ n ih =>
    intro x4 s out h KE
    rw [lp_X_write_70] at h
    refine ax_bk hK (ax_fc (ax_v_ld (ax_r_iload d_X_write_70)) (ax_fc (ax_v_pu (ax_r_bipush (v := 64) d_X_write_72 (by decide))) ax_fn)) (y := (74, [(0, .inr (0, 23)), (1, .inl (.long (x1))), (4, .inl (.int (x4)))], [.inl (.int ((64 : Int32))), .inl (.int (x4))], ax_m (s) ρ)) rfl ⟨trivial, trivial, trivial⟩ ?_
    refine ax_ic_ge (tgt := 118) hK d_X_write_74 (by decide) (fun c11 => ?_) (fun c11 => ?_)
    · replace h := ax_it c11 h
      cases h
      exact ax_Lsub [0] rfl (KE _ rfl)
    · replace h := ax_if c11 h
      refine ax_bk hK (ax_fc (ax_v_ld (ax_r_lload_n (i := 1) d_X_write_77 rfl)) (ax_fc (ax_v_ld (ax_r_iload d_X_write_78)) (ax_fc (ax_v_pu (ax_r_lushr d_X_write_80)) (ax_fc (ax_v_pu (ax_r_l2i d_X_write_81)) (ax_fc (ax_v_pu (ax_r_sipush (v := 255) d_X_write_82 (by decide))) (ax_fc (ax_v_pu (ax_r_iand d_X_write_85)) (ax_fc (ax_v_so (ax_r_istore d_X_write_86)) (ax_fc (ax_v_ld (ax_r_iload d_X_write_88)) ax_fn)))))))) (y := (90, [(5, .inl (.int (((((x1).toUInt64 >>> ((x4).toInt64.toUInt64 &&& Int64.toUInt64 63)).toInt64).toInt32 &&& (255 : Int32))))), (0, .inr (0, 23)), (1, .inl (.long (x1))), (4, .inl (.int (x4)))], [.inl (.int (((((x1).toUInt64 >>> ((x4).toInt64.toUInt64 &&& Int64.toUInt64 63)).toInt64).toInt32 &&& (255 : Int32))))], ax_m (s) ρ)) rfl ⟨trivial, trivial, trivial, trivial, trivial, trivial, trivial, trivial, trivial⟩ ?_
      refine ax_if_eq (tgt := 112) hK d_X_write_90 (by decide) (fun c10 => ?_) (fun c10 => ?_)
      · replace h := ax_it c10 h
        refine ax_bk hK (ax_fc (ax_v_ii (d := 8) d_X_write_112 (by decide)) (ax_fc (ax_v_go (tgt := 70) d_X_write_115 (by decide)) ax_fn)) (y := (70, [(4, .inl (.int ((x4 + (8 : Int32))))), (5, .inl (.int (((((x1).toUInt64 >>> ((x4).toInt64.toUInt64 &&& Int64.toUInt64 63)).toInt64).toInt32 &&& (255 : Int32))))), (0, .inr (0, 23)), (1, .inl (.long (x1)))], [], ax_m (s) ρ)) rfl ⟨trivial, trivial, trivial⟩ ?_
        exact ax_Lsub [2, 3, 0] rfl (ih _ h KE)
      · replace h := ax_if c10 h
        refine ax_bk hK (ax_fc (ax_v_ld (ax_r_aload_n (i := 0) d_X_write_93 rfl)) (ax_fc (ax_w_gf (e := none) hal d_X_write_94 fd_X_9) (ax_fc (ax_v_ld (ax_r_aload_n (i := 0) d_X_write_97 rfl)) (ax_fc (ax_v_pu (ax_r_dup d_X_write_98)) (ax_fc (ax_w_gf (e := none) hal d_X_write_99 fd_X_13) (ax_fc (ax_v_pu (ax_r_dupx1 d_X_write_102)) (ax_fc (ax_v_pu (ax_r_iconst (v := 1) d_X_write_103 (by decide))) (ax_fc (ax_v_pu (ax_r_iadd d_X_write_104)) (ax_fc (ax_w_pf (tc := 0) hal d_X_write_105 fp_X_13 rfl) ax_fn))))))))) (y := (108, [(5, .inl (.int (((((x1).toUInt64 >>> ((x4).toInt64.toUInt64 &&& Int64.toUInt64 63)).toInt64).toInt32 &&& (255 : Int32))))), (0, .inr (0, 23)), (1, .inl (.long (x1))), (4, .inl (.int (x4)))], [.inl (.int ((s.1 0 23 1))), .inr (0, 24)], ax_m (ax_wI s 0 23 1 ((s.1 0 23 1) + (1 : Int32))) ρ)) rfl ⟨trivial, (h0 23 rfl), trivial, trivial, (h0 23 rfl), trivial, trivial, trivial, (h0 23 rfl), trivial⟩ ?_
        refine ax_lt (Q := fun ςς => ax_R G 6 0 0 (108, [(5, .inl (.int (((((x1).toUInt64 >>> ((x4).toInt64.toUInt64 &&& Int64.toUInt64 63)).toInt64).toInt32 &&& (255 : Int32))))), (0, .inr (0, 23)), (1, .inl (.long (x1))), (4, .inl (.int (x4)))], [.inl (.int ((s.1 0 23 1))), .inr (0, 24)], ax_m (ςς) ρ)) h (fun s7 h => ?_)
        obtain ⟨b8, h⟩ := ax_gd h
        refine ax_bk hK (ax_fc (ax_v_ld (ax_r_iload d_X_write_108)) (ax_fc (ax_v_pu (ax_r_i2c d_X_write_110)) (ax_fc (ax_w_cast hal d_X_write_111) ax_fn))) (y := (112, [(5, .inl (.int (((((x1).toUInt64 >>> ((x4).toInt64.toUInt64 &&& Int64.toUInt64 63)).toInt64).toInt32 &&& (255 : Int32))))), (0, .inr (0, 23)), (1, .inl (.long (x1))), (4, .inl (.int (x4)))], [], ax_m (ax_wI s7 0 24 ((s.1 0 23 1)).toNatClampNeg (vp_nar .char (((((((x1).toUInt64 >>> ((x4).toInt64.toUInt64 &&& Int64.toUInt64 63)).toInt64).toInt32 &&& (255 : Int32))).toUInt32 % 65536).toInt32))) ρ)) rfl ⟨trivial, trivial, ⟨(h0 24 rfl), ax_inp b8⟩, trivial⟩ ?_
        refine ax_lt (Q := fun ςς => ax_R G 6 0 0 (112, [(5, .inl (.int (((((x1).toUInt64 >>> ((x4).toInt64.toUInt64 &&& Int64.toUInt64 63)).toInt64).toInt32 &&& (255 : Int32))))), (0, .inr (0, 23)), (1, .inl (.long (x1))), (4, .inl (.int (x4)))], [], ax_m (ςς) ρ)) h (fun s9 h => ?_)
        refine ax_bk hK (ax_fc (ax_v_ii (d := 8) d_X_write_112 (by decide)) (ax_fc (ax_v_go (tgt := 70) d_X_write_115 (by decide)) ax_fn)) (y := (70, [(4, .inl (.int ((x4 + (8 : Int32))))), (5, .inl (.int (((((x1).toUInt64 >>> ((x4).toInt64.toUInt64 &&& Int64.toUInt64 63)).toInt64).toInt32 &&& (255 : Int32))))), (0, .inr (0, 23)), (1, .inl (.long (x1)))], [], ax_m (s9) ρ)) rfl ⟨trivial, trivial, trivial⟩ ?_
        exact ax_Lsub [2, 3, 0] rfl (ih _ h KE)
def f_X_write (F : Nat) (a1 : Int64) (s : ax_σ) : Option (Int32 × ax_σ) :=
  Option.bind (lp_X_write_5 F a1 s F (0 : Int32) (0 : Int32)) (fun w => match w with
    | .inl w => some w
    | .inr v6 =>
      if ((s.1 0 23 1) + v6) ≤ (240 : Int32) then
        Option.bind (lp_X_write_70 F a1 F (0 : Int32) s) (fun s12 =>
          some (((s12.1 0 23 1), s12)))
      else
        some (((-1 : Int32), s)))
set_option maxHeartbeats 4000000 in
set_option maxRecDepth 100000 in
theorem t_X_write {l : Launch} {D : va_G} {cA : Nat → ClassId} {ad : Nat → Nat → Nat} {al : List (Nat × Nat)} {θ : ax_Θ} {ρ : ax_ρ} {F : Nat} (h0 : ax_M0 al) {a1 : Int64} {s : ax_σ} {r0 : Int32} {s0 : ax_σ} (h : f_X_write F a1 s = some (r0, s0)) : ax_T l D cA ad al θ y_X_write (.code y_X_write prog_1_method_2_code 6 (some .int)) 0 [.inr (0, 23), .inl (.long (a1))] (ax_m s ρ) (some (.inl (.int r0))) (ax_m s0 ρ) := by
  refine ax_T_of (own := "CipherNotation") (by decide) rfl (Nat.le_of_ble_eq_true rfl) [(0, .inr (0, 23)), (1, .inl (.long (a1)))] rfl ?_
  intro G hA
  have hB := hA.B
  have hK := hB.K
  have hal := hB.la
  unfold f_X_write at h
  refine ax_bk hK (ax_fc (ax_v_pu (ax_r_iconst (v := 0) d_X_write_0 (by decide))) (ax_fc (ax_v_so (ax_r_istore_n (i := 3) d_X_write_1 rfl)) (ax_fc (ax_v_pu (ax_r_iconst (v := 0) d_X_write_2 (by decide))) (ax_fc (ax_v_so (ax_r_istore d_X_write_3)) ax_fn)))) (y := (5, [(4, .inl (.int ((0 : Int32)))), (3, .inl (.int ((0 : Int32)))), (0, .inr (0, 23)), (1, .inl (.long (a1)))], [], ax_m (s) ρ)) rfl ⟨trivial, trivial, trivial, trivial, trivial⟩ ?_
  obtain ⟨w14, hw14, h⟩ := ax_bd h
  have RTw14 : ∀ (r0 : Int32) (s0 : ax_σ), w14 = .inl (r0, s0) → ax_At D cA ad al θ l "CipherNotation" prog_1_method_2_code 6 0 (some .int) (some (.inl (.int r0))) (ax_m s0 ρ) G := by
    intro r0 s0 e9
    subst w14
    try dsimp only at h
    cases h
    exact hA
  refine ax_Lsub [2, 3, 1, 0] rfl (pl_X_write_5 h0 hB F _ hw14 RTw14 ?_)
  intro v6 e9
  subst w14
  try dsimp only at h
  change ax_R G 6 0 0 (53, [(0, .inr (0, 23)), (1, .inl (.long (a1))), (3, .inl (.int (v6)))], [], ax_m (s) ρ)
  refine ax_bk hK (ax_fc (ax_v_ld (ax_r_aload_n (i := 0) d_X_write_53 rfl)) (ax_fc (ax_w_gf (e := none) hal d_X_write_54 fd_X_13) (ax_fc (ax_v_ld (ax_r_iload_n (i := 3) d_X_write_57 rfl)) (ax_fc (ax_v_pu (ax_r_iadd d_X_write_58)) (ax_fc (ax_v_pu (ax_r_sipush (v := 240) d_X_write_59 (by decide))) ax_fn))))) (y := (62, [(0, .inr (0, 23)), (1, .inl (.long (a1))), (3, .inl (.int (v6)))], [.inl (.int ((240 : Int32))), .inl (.int (((s.1 0 23 1) + v6)))], ax_m (s) ρ)) rfl ⟨trivial, (h0 23 rfl), trivial, trivial, trivial, trivial⟩ ?_
  refine ax_ic_le (tgt := 67) hK d_X_write_62 (by decide) (fun c13 => ?_) (fun c13 => ?_)
  · replace h := ax_it c13 h
    refine ax_bk hK (ax_fc (ax_v_pu (ax_r_iconst (v := 0) d_X_write_67 (by decide))) (ax_fc (ax_v_so (ax_r_istore d_X_write_68)) ax_fn)) (y := (70, [(4, .inl (.int ((0 : Int32)))), (0, .inr (0, 23)), (1, .inl (.long (a1))), (3, .inl (.int (v6)))], [], ax_m (s) ρ)) rfl ⟨trivial, trivial, trivial⟩ ?_
    obtain ⟨w15, hw15, h⟩ := ax_bd h
    refine ax_Lsub [1, 2, 0] rfl (pl_X_write_70 h0 hB F _ hw15 ?_)
    intro s12 e9
    subst w15
    try dsimp only at h
    change ax_R G 6 0 0 (118, [(0, .inr (0, 23))], [], ax_m (s12) ρ)
    refine ax_bk hK (ax_fc (ax_v_ld (ax_r_aload_n (i := 0) d_X_write_118 rfl)) (ax_fc (ax_w_gf (e := none) hal d_X_write_119 fd_X_13) ax_fn)) (y := (122, [(0, .inr (0, 23))], [.inl (.int ((s12.1 0 23 1)))], ax_m (s12) ρ)) rfl ⟨trivial, (h0 23 rfl), trivial⟩ ?_
    cases h
    exact ax_iret hA d_X_write_122
  · replace h := ax_if c13 h
    refine ax_bk hK (ax_fc (ax_v_pu (ax_r_iconst (v := -1) d_X_write_65 (by decide))) ax_fn) (y := (66, [(0, .inr (0, 23)), (1, .inl (.long (a1))), (3, .inl (.int (v6)))], [.inl (.int ((-1 : Int32)))], ax_m (s) ρ)) rfl ⟨trivial, trivial⟩ ?_
    cases h
    exact ax_iret hA d_X_write_66
def y_X_wipe : MethodName := ⟨"CipherNotation", "wipe", "()I"⟩
theorem d_X_wipe_0 : decode prog_1_method_3_code 0 = .ok (.aload_n 0, 1) := by decide +kernel
theorem d_X_wipe_1 : decode prog_1_method_3_code 1 = .ok (.getfield (13), 3) := by decide +kernel
theorem d_X_wipe_4 : decode prog_1_method_3_code 4 = .ok (.istore_n 1, 1) := by decide +kernel
theorem d_X_wipe_5 : decode prog_1_method_3_code 5 = .ok (.aload_n 0, 1) := by decide +kernel
theorem d_X_wipe_6 : decode prog_1_method_3_code 6 = .ok (.iconst 0, 1) := by decide +kernel
theorem d_X_wipe_7 : decode prog_1_method_3_code 7 = .ok (.putfield (13), 3) := by decide +kernel
theorem d_X_wipe_10 : decode prog_1_method_3_code 10 = .ok (.iload_n 1, 1) := by decide +kernel
theorem d_X_wipe_11 : decode prog_1_method_3_code 11 = .ok (.ireturn, 1) := by decide +kernel
def f_X_wipe (s : ax_σ) : Option (Int32 × ax_σ) :=
  ax_let (ax_wI s 0 23 1 (0 : Int32)) (fun s1 =>
    some (((s.1 0 23 1), s1)))
set_option maxHeartbeats 4000000 in
set_option maxRecDepth 100000 in
theorem t_X_wipe {l : Launch} {D : va_G} {cA : Nat → ClassId} {ad : Nat → Nat → Nat} {al : List (Nat × Nat)} {θ : ax_Θ} {ρ : ax_ρ} (h0 : ax_M0 al)  {s : ax_σ} {r0 : Int32} {s0 : ax_σ} (h : f_X_wipe s = some (r0, s0)) : ax_T l D cA ad al θ y_X_wipe (.code y_X_wipe prog_1_method_3_code 2 (some .int)) 0 [.inr (0, 23)] (ax_m s ρ) (some (.inl (.int r0))) (ax_m s0 ρ) := by
  refine ax_T_of (own := "CipherNotation") (by decide) rfl (Nat.le_of_ble_eq_true rfl) [(0, .inr (0, 23))] rfl ?_
  intro G hA
  have hB := hA.B
  have hK := hB.K
  have hal := hB.la
  unfold f_X_wipe at h
  refine ax_bk hK (ax_fc (ax_v_ld (ax_r_aload_n (i := 0) d_X_wipe_0 rfl)) (ax_fc (ax_w_gf (e := none) hal d_X_wipe_1 fd_X_13) (ax_fc (ax_v_so (ax_r_istore_n (i := 1) d_X_wipe_4 rfl)) (ax_fc (ax_v_ld (ax_r_aload_n (i := 0) d_X_wipe_5 rfl)) (ax_fc (ax_v_pu (ax_r_iconst (v := 0) d_X_wipe_6 (by decide))) (ax_fc (ax_w_pf (tc := 0) hal d_X_wipe_7 fp_X_13 rfl) ax_fn)))))) (y := (10, [(1, .inl (.int ((s.1 0 23 1)))), (0, .inr (0, 23))], [], ax_m (ax_wI s 0 23 1 (0 : Int32)) ρ)) rfl ⟨trivial, (h0 23 rfl), trivial, trivial, trivial, (h0 23 rfl), trivial⟩ ?_
  refine ax_lt (Q := fun ςς => ax_R G 2 0 0 (10, [(1, .inl (.int ((s.1 0 23 1)))), (0, .inr (0, 23))], [], ax_m (ςς) ρ)) h (fun s1 h => ?_)
  refine ax_bk hK (ax_fc (ax_v_ld (ax_r_iload_n (i := 1) d_X_wipe_10 rfl)) ax_fn) (y := (11, [(1, .inl (.int ((s.1 0 23 1)))), (0, .inr (0, 23))], [.inl (.int ((s.1 0 23 1)))], ax_m (s1) ρ)) rfl ⟨trivial, trivial⟩ ?_
  cases h
  exact ax_iret hA d_X_wipe_11
def y_X_place : MethodName := ⟨"CipherNotation", "place", "()I"⟩
theorem d_X_place_0 : decode prog_1_method_5_code 0 = .ok (.aload_n 0, 1) := by decide +kernel
theorem d_X_place_1 : decode prog_1_method_5_code 1 = .ok (.getfield (17), 3) := by decide +kernel
theorem d_X_place_4 : decode prog_1_method_5_code 4 = .ok (.ireturn, 1) := by decide +kernel
theorem fd_X_17 : ax_fd "CipherNotation" 17 5 2 := ⟨nC5, nT5, 7, nY5, rfl, nW5, by decide, nw_2 25 (by decide +kernel) rfl, nO5, nA5⟩
def f_X_place (s : ax_σ) : Option (Int32) :=
  some ((s.1 0 23 2))
set_option maxHeartbeats 4000000 in
set_option maxRecDepth 100000 in
theorem t_X_place {l : Launch} {D : va_G} {cA : Nat → ClassId} {ad : Nat → Nat → Nat} {al : List (Nat × Nat)} {θ : ax_Θ} {ρ : ax_ρ} (h0 : ax_M0 al)  {s : ax_σ} {r0 : Int32} (h : f_X_place s = some r0) : ax_T l D cA ad al θ y_X_place (.code y_X_place prog_1_method_5_code 1 (some .int)) 0 [.inr (0, 23)] (ax_m s ρ) (some (.inl (.int r0))) (ax_m s ρ) := by
  refine ax_T_of (own := "CipherNotation") (by decide) rfl (Nat.le_of_ble_eq_true rfl) [(0, .inr (0, 23))] rfl ?_
  intro G hA
  have hB := hA.B
  have hK := hB.K
  have hal := hB.la
  unfold f_X_place at h
  refine ax_bk hK (ax_fc (ax_v_ld (ax_r_aload_n (i := 0) d_X_place_0 rfl)) (ax_fc (ax_w_gf (e := none) hal d_X_place_1 fd_X_17) ax_fn)) (y := (4, [(0, .inr (0, 23))], [.inl (.int ((s.1 0 23 2)))], ax_m (s) ρ)) rfl ⟨trivial, (h0 23 rfl), trivial⟩ ?_
  cases h
  exact ax_iret hA d_X_place_4
def y_X_print : MethodName := ⟨"CipherNotation", "print", "(I)I"⟩
theorem d_X_print_0 : decode prog_1_method_7_code 0 = .ok (.aload_n 0, 1) := by decide +kernel
theorem d_X_print_1 : decode prog_1_method_7_code 1 = .ok (.getfield (34), 3) := by decide +kernel
theorem d_X_print_4 : decode prog_1_method_7_code 4 = .ok (.ifnull (18), 3) := by decide +kernel
theorem d_X_print_7 : decode prog_1_method_7_code 7 = .ok (.iload_n 1, 1) := by decide +kernel
theorem d_X_print_8 : decode prog_1_method_7_code 8 = .ok (.ifCond .lt (14), 3) := by decide +kernel
theorem d_X_print_11 : decode prog_1_method_7_code 11 = .ok (.iload_n 1, 1) := by decide +kernel
theorem d_X_print_12 : decode prog_1_method_7_code 12 = .ok (.aload_n 0, 1) := by decide +kernel
theorem d_X_print_13 : decode prog_1_method_7_code 13 = .ok (.getfield (34), 3) := by decide +kernel
theorem d_X_print_16 : decode prog_1_method_7_code 16 = .ok (.getfield (63), 3) := by decide +kernel
theorem d_X_print_19 : decode prog_1_method_7_code 19 = .ok (.if_icmp .lt (5), 3) := by decide +kernel
theorem d_X_print_22 : decode prog_1_method_7_code 22 = .ok (.iconst (-1), 1) := by decide +kernel
theorem d_X_print_23 : decode prog_1_method_7_code 23 = .ok (.ireturn, 1) := by decide +kernel
theorem d_X_print_24 : decode prog_1_method_7_code 24 = .ok (.aload_n 0, 1) := by decide +kernel
theorem d_X_print_25 : decode prog_1_method_7_code 25 = .ok (.getfield (34), 3) := by decide +kernel
theorem d_X_print_28 : decode prog_1_method_7_code 28 = .ok (.getfield (66), 3) := by decide +kernel
theorem d_X_print_31 : decode prog_1_method_7_code 31 = .ok (.iload_n 1, 1) := by decide +kernel
theorem d_X_print_32 : decode prog_1_method_7_code 32 = .ok (.caload, 1) := by decide +kernel
theorem d_X_print_33 : decode prog_1_method_7_code 33 = .ok (.ireturn, 1) := by decide +kernel
theorem fd_X_34 : ax_fd "CipherNotation" 34 5 5 := ⟨nC5, nT5, 7, nY5, rfl, nW5, by decide, nw_2 28 (by decide +kernel) rfl, nO5, nA5⟩
def f_X_print_0 (a1 : Int32) : Option (Int32) :=
  some ((-1 : Int32))
set_option maxHeartbeats 4000000 in
set_option maxRecDepth 100000 in
theorem t_X_print_0 {l : Launch} {D : va_G} {cA : Nat → ClassId} {ad : Nat → Nat → Nat} {al : List (Nat × Nat)} {θ : ax_Θ} {ρ : ax_ρ} (h0 : ax_M0 al) (hx : ρ 0 23 5 = none) {a1 : Int32} {s : ax_σ} {r0 : Int32} (h : f_X_print_0 a1 = some r0) : ax_T l D cA ad al θ y_X_print (.code y_X_print prog_1_method_7_code 2 (some .int)) 0 [.inr (0, 23), .inl (.int (a1))] (ax_m s ρ) (some (.inl (.int r0))) (ax_m s ρ) := by
  refine ax_T_of (own := "CipherNotation") (by decide) rfl (Nat.le_of_ble_eq_true rfl) [(0, .inr (0, 23)), (1, .inl (.int (a1)))] rfl ?_
  intro G hA
  have hB := hA.B
  have hK := hB.K
  have hal := hB.la
  unfold f_X_print_0 at h
  refine ax_bk hK (ax_fc (ax_v_ld (ax_r_aload_n (i := 0) d_X_print_0 rfl)) (ax_fc (ax_w_gf (e := none) hal d_X_print_1 fd_X_34) ax_fn)) (y := (4, [(0, .inr (0, 23)), (1, .inl (.int (a1)))], [.inl .null], ax_m (s) ρ)) rfl ⟨trivial, ⟨(h0 23 rfl), hx⟩, trivial⟩ ?_
  refine ax_nuN (tgt := 22) hK d_X_print_4 (by decide) ?_
  change ax_R G 2 0 0 (22, [(0, .inr (0, 23)), (1, .inl (.int (a1)))], [], ax_m (s) ρ)
  refine ax_bk hK (ax_fc (ax_v_pu (ax_r_iconst (v := -1) d_X_print_22 (by decide))) ax_fn) (y := (23, [(0, .inr (0, 23)), (1, .inl (.int (a1)))], [.inl (.int ((-1 : Int32)))], ax_m (s) ρ)) rfl ⟨trivial, trivial⟩ ?_
  cases h
  exact ax_iret hA d_X_print_23
theorem fd_X_66 : ax_fd "CipherNotation" 66 3 7 := ⟨nC3, nT3, 9, nY3, rfl, nW3, by decide, nw_1 239 (by decide +kernel) rfl, nO3, nA3⟩
theorem fd_X_63 : ax_fd "CipherNotation" 63 3 8 := ⟨nC3, nT3, 9, nY3, rfl, nW3, by decide, nw_2 2 (by decide +kernel) rfl, nO3, nA3⟩
def f_X_print_1 (g : Nat) (a1 : Int32) (s : ax_σ) : Option (Int32) :=
  Option.bind (
    if a1 < (0 : Int32) then
      some true
    else
      if a1 < (s.1 g 0 8) then
        some false
      else
        some true) (fun w4 => bif w4 then
    some ((-1 : Int32))
  else
    bif ax_in a1 264 then
    some ((s.1 g 22 (a1).toNatClampNeg))
    else none)
set_option maxHeartbeats 4000000 in
set_option maxRecDepth 100000 in
theorem t_X_print_1 {l : Launch} {D : va_G} {cA : Nat → ClassId} {ad : Nat → Nat → Nat} {al : List (Nat × Nat)} {θ : ax_Θ} {ρ : ax_ρ} {g : Nat} (h0 : ax_M0 al) (hg : ax_Mg al g) (hx : ρ 0 23 5 = some (g, 0)) {a1 : Int32} {s : ax_σ} {r0 : Int32} (h : f_X_print_1 g a1 s = some r0) : ax_T l D cA ad al θ y_X_print (.code y_X_print prog_1_method_7_code 2 (some .int)) 0 [.inr (0, 23), .inl (.int (a1))] (ax_m s ρ) (some (.inl (.int r0))) (ax_m s ρ) := by
  refine ax_T_of (own := "CipherNotation") (by decide) rfl (Nat.le_of_ble_eq_true rfl) [(0, .inr (0, 23)), (1, .inl (.int (a1)))] rfl ?_
  intro G hA
  have hB := hA.B
  have hK := hB.K
  have hal := hB.la
  unfold f_X_print_1 at h
  refine ax_bk hK (ax_fc (ax_v_ld (ax_r_aload_n (i := 0) d_X_print_0 rfl)) (ax_fc (ax_w_gf (e := (some (g, 0))) hal d_X_print_1 fd_X_34) ax_fn)) (y := (4, [(0, .inr (0, 23)), (1, .inl (.int (a1)))], [.inr (g, 0)], ax_m (s) ρ)) rfl ⟨trivial, ⟨(h0 23 rfl), hx⟩, trivial⟩ ?_
  refine ax_nu hK d_X_print_4 ?_
  change ax_R G 2 0 0 (7, [(0, .inr (0, 23)), (1, .inl (.int (a1)))], [], ax_m (s) ρ)
  refine ax_bk hK (ax_fc (ax_v_ld (ax_r_iload_n (i := 1) d_X_print_7 rfl)) ax_fn) (y := (8, [(0, .inr (0, 23)), (1, .inl (.int (a1)))], [.inl (.int (a1))], ax_m (s) ρ)) rfl ⟨trivial, trivial⟩ ?_
  obtain ⟨w4, hw4, h⟩ := ax_bd h
  have KTw4 : w4 = true → ax_R G 2 0 0 (22, [], [], ax_m (s) ρ) := by
    intro e9
    subst w4
    replace h := ax_ct h
    refine ax_bk hK (ax_fc (ax_v_pu (ax_r_iconst (v := -1) d_X_print_22 (by decide))) ax_fn) (y := (23, [], [.inl (.int ((-1 : Int32)))], ax_m (s) ρ)) rfl ⟨trivial, trivial⟩ ?_
    cases h
    exact ax_iret hA d_X_print_23
  have KFw4 : w4 = false → ax_R G 2 0 0 (24, [(0, .inr (0, 23)), (1, .inl (.int (a1)))], [], ax_m (s) ρ) := by
    intro e9
    subst w4
    replace h := ax_cf h
    obtain ⟨b3, h⟩ := ax_gd h
    refine ax_bk hK (ax_fc (ax_v_ld (ax_r_aload_n (i := 0) d_X_print_24 rfl)) (ax_fc (ax_w_gf (e := (some (g, 0))) hal d_X_print_25 fd_X_34) (ax_fc (ax_w_gf (e := none) hal d_X_print_28 fd_X_66) (ax_fc (ax_v_ld (ax_r_iload_n (i := 1) d_X_print_31 rfl)) (ax_fc (ax_w_cald hal d_X_print_32) ax_fn))))) (y := (33, [(0, .inr (0, 23)), (1, .inl (.int (a1)))], [.inl (.int ((s.1 g 22 (a1).toNatClampNeg)))], ax_m (s) ρ)) rfl ⟨trivial, ⟨(h0 23 rfl), hx⟩, (hg 0 rfl), trivial, ⟨(hg 22 rfl), ax_inp b3⟩, trivial⟩ ?_
    cases h
    exact ax_iret hA d_X_print_33
  clear h
  have h := hw4
  refine ax_if_lt (tgt := 22) hK d_X_print_8 (by decide) (fun c2 => ?_) (fun c2 => ?_)
  · replace h := ax_it c2 h
    cases h
    exact ax_Lsub [] rfl (KTw4 rfl)
  · replace h := ax_if c2 h
    refine ax_bk hK (ax_fc (ax_v_ld (ax_r_iload_n (i := 1) d_X_print_11 rfl)) (ax_fc (ax_v_ld (ax_r_aload_n (i := 0) d_X_print_12 rfl)) (ax_fc (ax_w_gf (e := (some (g, 0))) hal d_X_print_13 fd_X_34) (ax_fc (ax_w_gf (e := none) hal d_X_print_16 fd_X_63) ax_fn)))) (y := (19, [(0, .inr (0, 23)), (1, .inl (.int (a1)))], [.inl (.int ((s.1 g 0 8))), .inl (.int (a1))], ax_m (s) ρ)) rfl ⟨trivial, trivial, ⟨(h0 23 rfl), hx⟩, (hg 0 rfl), trivial⟩ ?_
    refine ax_ic_lt (tgt := 24) hK d_X_print_19 (by decide) (fun c1 => ?_) (fun c1 => ?_)
    · replace h := ax_it c1 h
      cases h
      exact ax_Lsub [0, 1] rfl (KFw4 rfl)
    · replace h := ax_if c1 h
      cases h
      exact ax_Lsub [] rfl (KTw4 rfl)
def y_X_needProgram : MethodName := ⟨"CipherNotation", "needProgram", "()V"⟩
theorem d_X_needProgram_0 : decode prog_1_method_17_code 0 = .ok (.aload_n 0, 1) := by decide +kernel
theorem d_X_needProgram_1 : decode prog_1_method_17_code 1 = .ok (.getfield (34), 3) := by decide +kernel
theorem d_X_needProgram_4 : decode prog_1_method_17_code 4 = .ok (.ifnonnull (11), 3) := by decide +kernel
theorem d_X_needProgram_7 : decode prog_1_method_17_code 7 = .ok (.new (99), 3) := by decide +kernel
theorem d_X_needProgram_10 : decode prog_1_method_17_code 10 = .ok (.dup, 1) := by decide +kernel
theorem d_X_needProgram_11 : decode prog_1_method_17_code 11 = .ok (.invokespecial (101), 3) := by decide +kernel
theorem d_X_needProgram_14 : decode prog_1_method_17_code 14 = .ok (.athrow, 1) := by decide +kernel
theorem d_X_needProgram_15 : decode prog_1_method_17_code 15 = .ok (.return_, 1) := by decide +kernel
def f_X_needProgram (g : Nat) : Option (Unit) :=
  some (())
set_option maxHeartbeats 4000000 in
set_option maxRecDepth 100000 in
theorem t_X_needProgram {l : Launch} {D : va_G} {cA : Nat → ClassId} {ad : Nat → Nat → Nat} {al : List (Nat × Nat)} {θ : ax_Θ} {ρ : ax_ρ} {g : Nat} (h0 : ax_M0 al) (hx : ρ 0 23 5 = some (g, 0))  {s : ax_σ}  (h : f_X_needProgram g = some ()) : ax_T l D cA ad al θ y_X_needProgram (.code y_X_needProgram prog_1_method_17_code 1 none) 0 [.inr (0, 23)] (ax_m s ρ) none (ax_m s ρ) := by
  refine ax_T_of (own := "CipherNotation") (by decide) rfl (Nat.le_of_ble_eq_true rfl) [(0, .inr (0, 23))] rfl ?_
  intro G hA
  have hB := hA.B
  have hK := hB.K
  have hal := hB.la
  unfold f_X_needProgram at h
  refine ax_bk hK (ax_fc (ax_v_ld (ax_r_aload_n (i := 0) d_X_needProgram_0 rfl)) (ax_fc (ax_w_gf (e := (some (g, 0))) hal d_X_needProgram_1 fd_X_34) ax_fn)) (y := (4, [(0, .inr (0, 23))], [.inr (g, 0)], ax_m (s) ρ)) rfl ⟨trivial, ⟨(h0 23 rfl), hx⟩, trivial⟩ ?_
  refine ax_nn (tgt := 15) hK d_X_needProgram_4 (by decide) ?_
  change ax_R G 1 0 0 (15, [(0, .inr (0, 23))], [], ax_m (s) ρ)
  cases h
  exact ax_vret hA d_X_needProgram_15
def y_X_needIndex : MethodName := ⟨"CipherNotation", "needIndex", "(II)V"⟩
theorem d_X_needIndex_0 : decode prog_1_method_18_code 0 = .ok (.iload_n 0, 1) := by decide +kernel
theorem d_X_needIndex_1 : decode prog_1_method_18_code 1 = .ok (.ifCond .lt (8), 3) := by decide +kernel
theorem d_X_needIndex_4 : decode prog_1_method_18_code 4 = .ok (.iload_n 0, 1) := by decide +kernel
theorem d_X_needIndex_5 : decode prog_1_method_18_code 5 = .ok (.iload_n 1, 1) := by decide +kernel
theorem d_X_needIndex_6 : decode prog_1_method_18_code 6 = .ok (.if_icmp .lt (11), 3) := by decide +kernel
theorem d_X_needIndex_9 : decode prog_1_method_18_code 9 = .ok (.new (102), 3) := by decide +kernel
theorem d_X_needIndex_12 : decode prog_1_method_18_code 12 = .ok (.dup, 1) := by decide +kernel
theorem d_X_needIndex_13 : decode prog_1_method_18_code 13 = .ok (.invokespecial (104), 3) := by decide +kernel
theorem d_X_needIndex_16 : decode prog_1_method_18_code 16 = .ok (.athrow, 1) := by decide +kernel
theorem d_X_needIndex_17 : decode prog_1_method_18_code 17 = .ok (.return_, 1) := by decide +kernel
def f_X_needIndex (a1 : Int32) (a2 : Int32) : Option (Unit) :=
  Option.bind (
    if a1 < (0 : Int32) then
      some true
    else
      if a1 < a2 then
        some false
      else
        some true) (fun w3 => bif w3 then
    none
  else
    some (()))
set_option maxHeartbeats 4000000 in
set_option maxRecDepth 100000 in
theorem t_X_needIndex {l : Launch} {D : va_G} {cA : Nat → ClassId} {ad : Nat → Nat → Nat} {al : List (Nat × Nat)} {θ : ax_Θ} {ρ : ax_ρ}  {a1 : Int32} {a2 : Int32} {s : ax_σ}  (h : f_X_needIndex a1 a2 = some ()) : ax_T l D cA ad al θ y_X_needIndex (.code y_X_needIndex prog_1_method_18_code 2 none) 0 [.inl (.int (a1)), .inl (.int (a2))] (ax_m s ρ) none (ax_m s ρ) := by
  refine ax_T_of (own := "CipherNotation") (by decide) rfl (Nat.le_of_ble_eq_true rfl) [(0, .inl (.int (a1))), (1, .inl (.int (a2)))] rfl ?_
  intro G hA
  have hB := hA.B
  have hK := hB.K
  have hal := hB.la
  unfold f_X_needIndex at h
  refine ax_bk hK (ax_fc (ax_v_ld (ax_r_iload_n (i := 0) d_X_needIndex_0 rfl)) ax_fn) (y := (1, [(0, .inl (.int (a1))), (1, .inl (.int (a2)))], [.inl (.int (a1))], ax_m (s) ρ)) rfl ⟨trivial, trivial⟩ ?_
  obtain ⟨w3, hw3, h⟩ := ax_bd h
  have KTw3 : w3 = true → ax_R G 2 0 0 (9, [], [], ax_m (s) ρ) := by
    intro e9
    subst w3
    replace h := ax_ct h
    cases h
  have KFw3 : w3 = false → ax_R G 2 0 0 (17, [], [], ax_m (s) ρ) := by
    intro e9
    subst w3
    replace h := ax_cf h
    cases h
    exact ax_vret hA d_X_needIndex_17
  clear h
  have h := hw3
  refine ax_if_lt (tgt := 9) hK d_X_needIndex_1 (by decide) (fun c2 => ?_) (fun c2 => ?_)
  · replace h := ax_it c2 h
    cases h
    exact ax_Lsub [] rfl (KTw3 rfl)
  · replace h := ax_if c2 h
    refine ax_bk hK (ax_fc (ax_v_ld (ax_r_iload_n (i := 0) d_X_needIndex_4 rfl)) (ax_fc (ax_v_ld (ax_r_iload_n (i := 1) d_X_needIndex_5 rfl)) ax_fn)) (y := (6, [(0, .inl (.int (a1))), (1, .inl (.int (a2)))], [.inl (.int (a2)), .inl (.int (a1))], ax_m (s) ρ)) rfl ⟨trivial, trivial, trivial⟩ ?_
    refine ax_ic_lt (tgt := 17) hK d_X_needIndex_6 (by decide) (fun c1 => ?_) (fun c1 => ?_)
    · replace h := ax_it c1 h
      cases h
      exact ax_Lsub [] rfl (KFw3 rfl)
    · replace h := ax_if c1 h
      cases h
      exact ax_Lsub [] rfl (KTw3 rfl)
def y_X_needWord : MethodName := ⟨"CipherNotation", "needWord", "(J)V"⟩
theorem d_X_needWord_0 : decode prog_1_method_19_code 0 = .ok (.lload_n 1, 1) := by decide +kernel
theorem d_X_needWord_1 : decode prog_1_method_19_code 1 = .ok (.aload_n 0, 1) := by decide +kernel
theorem d_X_needWord_2 : decode prog_1_method_19_code 2 = .ok (.getfield (30), 3) := by decide +kernel
theorem d_X_needWord_5 : decode prog_1_method_19_code 5 = .ok (.getfield (105), 3) := by decide +kernel
theorem d_X_needWord_8 : decode prog_1_method_19_code 8 = .ok (.ldc2_w (109), 3) := by decide +kernel
theorem d_X_needWord_11 : decode prog_1_method_19_code 11 = .ok (.lxor, 1) := by decide +kernel
theorem d_X_needWord_12 : decode prog_1_method_19_code 12 = .ok (.land, 1) := by decide +kernel
theorem d_X_needWord_13 : decode prog_1_method_19_code 13 = .ok (.lconst 0, 1) := by decide +kernel
theorem d_X_needWord_14 : decode prog_1_method_19_code 14 = .ok (.lcmp, 1) := by decide +kernel
theorem d_X_needWord_15 : decode prog_1_method_19_code 15 = .ok (.ifCond .eq (11), 3) := by decide +kernel
theorem d_X_needWord_18 : decode prog_1_method_19_code 18 = .ok (.new (56), 3) := by decide +kernel
theorem d_X_needWord_21 : decode prog_1_method_19_code 21 = .ok (.dup, 1) := by decide +kernel
theorem d_X_needWord_22 : decode prog_1_method_19_code 22 = .ok (.invokespecial (58), 3) := by decide +kernel
theorem d_X_needWord_25 : decode prog_1_method_19_code 25 = .ok (.athrow, 1) := by decide +kernel
theorem d_X_needWord_26 : decode prog_1_method_19_code 26 = .ok (.return_, 1) := by decide +kernel
theorem fd_X_30 : ax_fd "CipherNotation" 30 5 4 := ⟨nC5, nT5, 7, nY5, rfl, nW5, by decide, nw_2 27 (by decide +kernel) rfl, nO5, nA5⟩
theorem fd_X_105 : ax_fd "CipherNotation" 105 2 8 := ⟨nC2, nT2, 9, nY2, rfl, nW2, by decide, nw_1 101 (by decide +kernel) rfl, nO2, nA2⟩
def f_X_needWord (a1 : Int64) (s : ax_σ) : Option (Unit) :=
  if (lg_cmp (a1 &&& ((s.2 0 32 8) ^^^ (-1 : Int64))) (0 : Int64)) = (0 : Int32) then
    some (())
  else
    none
set_option maxHeartbeats 4000000 in
set_option maxRecDepth 100000 in
theorem t_X_needWord {l : Launch} {D : va_G} {cA : Nat → ClassId} {ad : Nat → Nat → Nat} {al : List (Nat × Nat)} {θ : ax_Θ} {ρ : ax_ρ} (h0 : ax_M0 al) {a1 : Int64} {s : ax_σ}  (h : f_X_needWord a1 s = some ()) : ax_T l D cA ad al θ y_X_needWord (.code y_X_needWord prog_1_method_19_code 3 none) 0 [.inr (0, 23), .inl (.long (a1))] (ax_m s ρ) none (ax_m s ρ) := by
  refine ax_T_of (own := "CipherNotation") (by decide) rfl (Nat.le_of_ble_eq_true rfl) [(0, .inr (0, 23)), (1, .inl (.long (a1)))] rfl ?_
  intro G hA
  have hB := hA.B
  have hK := hB.K
  have hal := hB.la
  unfold f_X_needWord at h
  refine ax_bk hK (ax_fc (ax_v_ld (ax_r_lload_n (i := 1) d_X_needWord_0 rfl)) (ax_fc (ax_v_ld (ax_r_aload_n (i := 0) d_X_needWord_1 rfl)) (ax_fc (ax_w_gf (e := none) hal d_X_needWord_2 fd_X_30) (ax_fc (ax_w_gf (e := none) hal d_X_needWord_5 fd_X_105) (ax_fc (ax_v_ldc2 (v := -1) d_X_needWord_8 (nw_4 31 (by decide +kernel) rfl)) (ax_fc (ax_v_pu (ax_r_lxor d_X_needWord_11)) (ax_fc (ax_v_pu (ax_r_land d_X_needWord_12)) (ax_fc (ax_v_pu (ax_r_lconst (v := 0) d_X_needWord_13 (by decide))) (ax_fc (ax_v_pu (ax_r_lcmp d_X_needWord_14)) ax_fn))))))))) (y := (15, [(0, .inr (0, 23)), (1, .inl (.long (a1)))], [.inl (.int ((lg_cmp (a1 &&& ((s.2 0 32 8) ^^^ (-1 : Int64))) (0 : Int64))))], ax_m (s) ρ)) rfl ⟨trivial, trivial, (h0 23 rfl), (h0 32 rfl), trivial, trivial, trivial, trivial, trivial, trivial⟩ ?_
  refine ax_if_eq (tgt := 26) hK d_X_needWord_15 (by decide) (fun c1 => ?_) (fun c1 => ?_)
  · replace h := ax_it c1 h
    cases h
    exact ax_vret hA d_X_needWord_26
  · replace h := ax_if c1 h
    cases h
def y_X_number : MethodName := ⟨"CipherNotation", "number", "(I)I"⟩
theorem d_X_number_0 : decode prog_1_method_6_code 0 = .ok (.aload_n 0, 1) := by decide +kernel
theorem d_X_number_1 : decode prog_1_method_6_code 1 = .ok (.invokevirtual (53), 3) := by decide +kernel
theorem d_X_number_4 : decode prog_1_method_6_code 4 = .ok (.iload_n 1, 1) := by decide +kernel
theorem d_X_number_5 : decode prog_1_method_6_code 5 = .ok (.ifCond .lt (9), 3) := by decide +kernel
theorem d_X_number_8 : decode prog_1_method_6_code 8 = .ok (.iload_n 1, 1) := by decide +kernel
theorem d_X_number_9 : decode prog_1_method_6_code 9 = .ok (.bipush (8), 2) := by decide +kernel
theorem d_X_number_11 : decode prog_1_method_6_code 11 = .ok (.if_icmp .lt (11), 3) := by decide +kernel
theorem d_X_number_14 : decode prog_1_method_6_code 14 = .ok (.new (56), 3) := by decide +kernel
theorem d_X_number_17 : decode prog_1_method_6_code 17 = .ok (.dup, 1) := by decide +kernel
theorem d_X_number_18 : decode prog_1_method_6_code 18 = .ok (.invokespecial (58), 3) := by decide +kernel
theorem d_X_number_21 : decode prog_1_method_6_code 21 = .ok (.athrow, 1) := by decide +kernel
theorem d_X_number_22 : decode prog_1_method_6_code 22 = .ok (.aload_n 0, 1) := by decide +kernel
theorem d_X_number_23 : decode prog_1_method_6_code 23 = .ok (.getfield (34), 3) := by decide +kernel
theorem d_X_number_26 : decode prog_1_method_6_code 26 = .ok (.getfield (59), 3) := by decide +kernel
theorem d_X_number_29 : decode prog_1_method_6_code 29 = .ok (.iload_n 1, 1) := by decide +kernel
theorem d_X_number_30 : decode prog_1_method_6_code 30 = .ok (.iaload, 1) := by decide +kernel
theorem d_X_number_31 : decode prog_1_method_6_code 31 = .ok (.ireturn, 1) := by decide +kernel
set_option maxRecDepth 100000 in
theorem cw_X_53 : ax_cw "CipherNotation" 53 y_X_needProgram (.code y_X_needProgram prog_1_method_17_code 1 none) 0 := ⟨nw_3 152 (by decide +kernel) rfl, nw_1 1 (by decide +kernel) rfl, nw_3 155 rfl rfl, by decide +kernel, by decide +kernel⟩
theorem im_X_needProgram : Cond.instanceMethod y_X_needProgram ∈ ax_tbl := nw_3 154 (by decide +kernel) rfl
theorem se_X_needProgram : Cond.selects y_X_needProgram.cls y_X_needProgram y_X_needProgram ∈ ax_tbl := nw_sel 34 (by decide +kernel) (by decide +kernel)
theorem fd_X_59 : ax_fd "CipherNotation" 59 3 0 := ⟨nC3, nT3, 9, nY3, rfl, nW3, by decide, nw_1 220 (by decide +kernel) rfl, nO3, nA3⟩
def f_X_number (g : Nat) (a1 : Int32) (s : ax_σ) : Option (Int32) :=
  Option.bind (f_X_needProgram g) (fun _ =>
    Option.bind (
      if a1 < (0 : Int32) then
        some true
      else
        if a1 < (8 : Int32) then
          some false
        else
          some true) (fun w5 => bif w5 then
      none
    else
      bif ax_in a1 8 then
      some ((s.1 g 1 (a1).toNatClampNeg))
      else none))
set_option maxHeartbeats 4000000 in
set_option maxRecDepth 100000 in
theorem t_X_number {l : Launch} {D : va_G} {cA : Nat → ClassId} {ad : Nat → Nat → Nat} {al : List (Nat × Nat)} {θ : ax_Θ} {ρ : ax_ρ} {g : Nat} (h0 : ax_M0 al) (hg : ax_Mg al g) (hr : ax_md ρ g) (hx : ρ 0 23 5 = some (g, 0)) {a1 : Int32} {s : ax_σ} {r0 : Int32} (h : f_X_number g a1 s = some r0) : ax_T l D cA ad al θ y_X_number (.code y_X_number prog_1_method_6_code 2 (some .int)) 1 [.inr (0, 23), .inl (.int (a1))] (ax_m s ρ) (some (.inl (.int r0))) (ax_m s ρ) := by
  refine ax_T_of (own := "CipherNotation") (by decide) rfl (Nat.le_of_ble_eq_true rfl) [(0, .inr (0, 23)), (1, .inl (.int (a1)))] rfl ?_
  intro G hA
  have hB := hA.B
  have hK := hB.K
  have hal := hB.la
  unfold f_X_number at h
  refine ax_bk hK (ax_fc (ax_v_ld (ax_r_aload_n (i := 0) d_X_number_0 rfl)) ax_fn) (y := (1, [(0, .inr (0, 23)), (1, .inl (.int (a1)))], [.inr (0, 23)], ax_m (s) ρ)) rfl ⟨trivial, trivial⟩ ?_
  obtain ⟨_, q1, h⟩ := ax_bd h
  refine ax_bV (rest := []) hB (t_X_needProgram h0 hx q1) cw_X_53 im_X_needProgram se_X_needProgram d_X_number_1 (h0 23 rfl) rfl rfl (by decide) (by decide) rfl rfl (Nat.le_of_ble_eq_true rfl) ?_
  change ax_R G 2 0 0 (4, [(0, .inr (0, 23)), (1, .inl (.int (a1)))], [], ax_m (s) ρ)
  refine ax_bk hK (ax_fc (ax_v_ld (ax_r_iload_n (i := 1) d_X_number_4 rfl)) ax_fn) (y := (5, [(0, .inr (0, 23)), (1, .inl (.int (a1)))], [.inl (.int (a1))], ax_m (s) ρ)) rfl ⟨trivial, trivial⟩ ?_
  obtain ⟨w5, hw5, h⟩ := ax_bd h
  have KTw5 : w5 = true → ax_R G 2 0 0 (14, [], [], ax_m (s) ρ) := by
    intro e9
    subst w5
    replace h := ax_ct h
    cases h
  have KFw5 : w5 = false → ax_R G 2 0 0 (22, [(0, .inr (0, 23)), (1, .inl (.int (a1)))], [], ax_m (s) ρ) := by
    intro e9
    subst w5
    replace h := ax_cf h
    obtain ⟨b4, h⟩ := ax_gd h
    refine ax_bk hK (ax_fc (ax_v_ld (ax_r_aload_n (i := 0) d_X_number_22 rfl)) (ax_fc (ax_w_gf (e := (some (g, 0))) hal d_X_number_23 fd_X_34) (ax_fc (ax_w_gf (e := none) hal d_X_number_26 fd_X_59) (ax_fc (ax_v_ld (ax_r_iload_n (i := 1) d_X_number_29 rfl)) (ax_fc (ax_w_iald hal d_X_number_30) ax_fn))))) (y := (31, [(0, .inr (0, 23)), (1, .inl (.int (a1)))], [.inl (.int ((s.1 g 1 (a1).toNatClampNeg)))], ax_m (s) ρ)) rfl ⟨trivial, ⟨(h0 23 rfl), hx⟩, (hg 0 rfl), trivial, ⟨(hg 1 rfl), ax_inp b4⟩, trivial⟩ ?_
    cases h
    exact ax_iret hA d_X_number_31
  clear h
  have h := hw5
  refine ax_if_lt (tgt := 14) hK d_X_number_5 (by decide) (fun c3 => ?_) (fun c3 => ?_)
  · replace h := ax_it c3 h
    cases h
    exact ax_Lsub [] rfl (KTw5 rfl)
  · replace h := ax_if c3 h
    refine ax_bk hK (ax_fc (ax_v_ld (ax_r_iload_n (i := 1) d_X_number_8 rfl)) (ax_fc (ax_v_pu (ax_r_bipush (v := 8) d_X_number_9 (by decide))) ax_fn)) (y := (11, [(0, .inr (0, 23)), (1, .inl (.int (a1)))], [.inl (.int ((8 : Int32))), .inl (.int (a1))], ax_m (s) ρ)) rfl ⟨trivial, trivial, trivial⟩ ?_
    refine ax_ic_lt (tgt := 22) hK d_X_number_11 (by decide) (fun c2 => ?_) (fun c2 => ?_)
    · replace h := ax_it c2 h
      cases h
      exact ax_Lsub [0, 1] rfl (KFw5 rfl)
    · replace h := ax_if c2 h
      cases h
      exact ax_Lsub [] rfl (KTw5 rfl)
def y_X_table : MethodName := ⟨"CipherNotation", "table", "(IIZ)I"⟩
theorem d_X_table_0 : decode prog_1_method_8_code 0 = .ok (.aload_n 0, 1) := by decide +kernel
theorem d_X_table_1 : decode prog_1_method_8_code 1 = .ok (.invokevirtual (53), 3) := by decide +kernel
theorem d_X_table_4 : decode prog_1_method_8_code 4 = .ok (.iload_n 1, 1) := by decide +kernel
theorem d_X_table_5 : decode prog_1_method_8_code 5 = .ok (.aload_n 0, 1) := by decide +kernel
theorem d_X_table_6 : decode prog_1_method_8_code 6 = .ok (.getfield (34), 3) := by decide +kernel
theorem d_X_table_9 : decode prog_1_method_8_code 9 = .ok (.getfield (59), 3) := by decide +kernel
theorem d_X_table_12 : decode prog_1_method_8_code 12 = .ok (.iconst 3, 1) := by decide +kernel
theorem d_X_table_13 : decode prog_1_method_8_code 13 = .ok (.iaload, 1) := by decide +kernel
theorem d_X_table_14 : decode prog_1_method_8_code 14 = .ok (.invokestatic (69), 3) := by decide +kernel
theorem d_X_table_17 : decode prog_1_method_8_code 17 = .ok (.iload_n 2, 1) := by decide +kernel
theorem d_X_table_18 : decode prog_1_method_8_code 18 = .ok (.bipush (16), 2) := by decide +kernel
theorem d_X_table_20 : decode prog_1_method_8_code 20 = .ok (.invokestatic (69), 3) := by decide +kernel
theorem d_X_table_23 : decode prog_1_method_8_code 23 = .ok (.iload_n 3, 1) := by decide +kernel
theorem d_X_table_24 : decode prog_1_method_8_code 24 = .ok (.ifCond .eq (13), 3) := by decide +kernel
theorem d_X_table_27 : decode prog_1_method_8_code 27 = .ok (.aload_n 0, 1) := by decide +kernel
theorem d_X_table_28 : decode prog_1_method_8_code 28 = .ok (.getfield (34), 3) := by decide +kernel
theorem d_X_table_31 : decode prog_1_method_8_code 31 = .ok (.getfield (73), 3) := by decide +kernel
theorem d_X_table_34 : decode prog_1_method_8_code 34 = .ok (.goto (10), 3) := by decide +kernel
theorem d_X_table_37 : decode prog_1_method_8_code 37 = .ok (.aload_n 0, 1) := by decide +kernel
theorem d_X_table_38 : decode prog_1_method_8_code 38 = .ok (.getfield (34), 3) := by decide +kernel
theorem d_X_table_41 : decode prog_1_method_8_code 41 = .ok (.getfield (76), 3) := by decide +kernel
theorem d_X_table_44 : decode prog_1_method_8_code 44 = .ok (.astore (4), 2) := by decide +kernel
theorem d_X_table_46 : decode prog_1_method_8_code 46 = .ok (.aload (4), 2) := by decide +kernel
theorem d_X_table_48 : decode prog_1_method_8_code 48 = .ok (.iload_n 1, 1) := by decide +kernel
theorem d_X_table_49 : decode prog_1_method_8_code 49 = .ok (.bipush (16), 2) := by decide +kernel
theorem d_X_table_51 : decode prog_1_method_8_code 51 = .ok (.imul, 1) := by decide +kernel
theorem d_X_table_52 : decode prog_1_method_8_code 52 = .ok (.iload_n 2, 1) := by decide +kernel
theorem d_X_table_53 : decode prog_1_method_8_code 53 = .ok (.iadd, 1) := by decide +kernel
theorem d_X_table_54 : decode prog_1_method_8_code 54 = .ok (.iaload, 1) := by decide +kernel
theorem d_X_table_55 : decode prog_1_method_8_code 55 = .ok (.ireturn, 1) := by decide +kernel
set_option maxRecDepth 100000 in
theorem cw_X_69 : ax_cw "CipherNotation" 69 y_X_needIndex (.code y_X_needIndex prog_1_method_18_code 2 none) 2 := ⟨nw_4 2 (by decide +kernel) rfl, nw_1 1 (by decide +kernel) rfl, nw_4 4 rfl rfl, by decide +kernel, by decide +kernel⟩
theorem sm_X_needIndex : Cond.static y_X_needIndex ∈ ax_tbl := nw_4 3 (by decide +kernel) rfl
theorem fd_X_76 : ax_fd "CipherNotation" 76 3 1 := ⟨nC3, nT3, 9, nY3, rfl, nW3, by decide, nw_1 224 (by decide +kernel) rfl, nO3, nA3⟩
theorem fd_X_73 : ax_fd "CipherNotation" 73 3 2 := ⟨nC3, nT3, 9, nY3, rfl, nW3, by decide, nw_1 228 (by decide +kernel) rfl, nO3, nA3⟩
def f_X_table (g : Nat) (a1 : Int32) (a2 : Int32) (a3 : Int32) (s : ax_σ) : Option (Int32) :=
  Option.bind (f_X_needProgram g) (fun _ =>
    bif ax_in (3 : Int32) 8 then
    Option.bind (f_X_needIndex a1 (s.1 g 1 ((3 : Int32)).toNatClampNeg)) (fun _ =>
      Option.bind (f_X_needIndex a2 (16 : Int32)) (fun _ =>
        if a3 = (0 : Int32) then
          bif ax_in ((a1 * (16 : Int32)) + a2) 32 then
          some ((s.1 g 2 (((a1 * (16 : Int32)) + a2)).toNatClampNeg))
          else none
        else
          bif ax_in ((a1 * (16 : Int32)) + a2) 32 then
          some ((s.1 g 3 (((a1 * (16 : Int32)) + a2)).toNatClampNeg))
          else none))
    else none)
set_option maxHeartbeats 4000000 in
set_option maxRecDepth 100000 in
theorem t_X_table {l : Launch} {D : va_G} {cA : Nat → ClassId} {ad : Nat → Nat → Nat} {al : List (Nat × Nat)} {θ : ax_Θ} {ρ : ax_ρ} {g : Nat} (h0 : ax_M0 al) (hg : ax_Mg al g) (hr : ax_md ρ g) (hx : ρ 0 23 5 = some (g, 0)) {a1 : Int32} {a2 : Int32} {a3 : Int32} {s : ax_σ} {r0 : Int32} (h : f_X_table g a1 a2 a3 s = some r0) : ax_T l D cA ad al θ y_X_table (.code y_X_table prog_1_method_8_code 5 (some .int)) 1 [.inr (0, 23), .inl (.int (a1)), .inl (.int (a2)), .inl (.int (a3))] (ax_m s ρ) (some (.inl (.int r0))) (ax_m s ρ) := by
  refine ax_T_of (own := "CipherNotation") (by decide) rfl (Nat.le_of_ble_eq_true rfl) [(0, .inr (0, 23)), (1, .inl (.int (a1))), (2, .inl (.int (a2))), (3, .inl (.int (a3)))] rfl ?_
  intro G hA
  have hB := hA.B
  have hK := hB.K
  have hal := hB.la
  unfold f_X_table at h
  refine ax_bk hK (ax_fc (ax_v_ld (ax_r_aload_n (i := 0) d_X_table_0 rfl)) ax_fn) (y := (1, [(0, .inr (0, 23)), (1, .inl (.int (a1))), (2, .inl (.int (a2))), (3, .inl (.int (a3)))], [.inr (0, 23)], ax_m (s) ρ)) rfl ⟨trivial, trivial⟩ ?_
  obtain ⟨_, q1, h⟩ := ax_bd h
  refine ax_bV (rest := []) hB (t_X_needProgram h0 hx q1) cw_X_53 im_X_needProgram se_X_needProgram d_X_table_1 (h0 23 rfl) rfl rfl (by decide) (by decide) rfl rfl (Nat.le_of_ble_eq_true rfl) ?_
  change ax_R G 5 0 0 (4, [(0, .inr (0, 23)), (1, .inl (.int (a1))), (2, .inl (.int (a2))), (3, .inl (.int (a3)))], [], ax_m (s) ρ)
  obtain ⟨b2, h⟩ := ax_gd h
  refine ax_bk hK (ax_fc (ax_v_ld (ax_r_iload_n (i := 1) d_X_table_4 rfl)) (ax_fc (ax_v_ld (ax_r_aload_n (i := 0) d_X_table_5 rfl)) (ax_fc (ax_w_gf (e := (some (g, 0))) hal d_X_table_6 fd_X_34) (ax_fc (ax_w_gf (e := none) hal d_X_table_9 fd_X_59) (ax_fc (ax_v_pu (ax_r_iconst (v := 3) d_X_table_12 (by decide))) (ax_fc (ax_w_iald hal d_X_table_13) ax_fn)))))) (y := (14, [(0, .inr (0, 23)), (1, .inl (.int (a1))), (2, .inl (.int (a2))), (3, .inl (.int (a3)))], [.inl (.int ((s.1 g 1 ((3 : Int32)).toNatClampNeg))), .inl (.int (a1))], ax_m (s) ρ)) rfl ⟨trivial, trivial, ⟨(h0 23 rfl), hx⟩, (hg 0 rfl), trivial, ⟨(hg 1 rfl), ax_inp b2⟩, trivial⟩ ?_
  obtain ⟨_, q3, h⟩ := ax_bd h
  refine ax_bS (rest := []) hB (t_X_needIndex q3) cw_X_69 sm_X_needIndex d_X_table_14 (by decide) (by decide) rfl rfl (Nat.le_of_ble_eq_true rfl) ?_
  change ax_R G 5 0 0 (17, [(0, .inr (0, 23)), (1, .inl (.int (a1))), (2, .inl (.int (a2))), (3, .inl (.int (a3)))], [], ax_m (s) ρ)
  refine ax_bk hK (ax_fc (ax_v_ld (ax_r_iload_n (i := 2) d_X_table_17 rfl)) (ax_fc (ax_v_pu (ax_r_bipush (v := 16) d_X_table_18 (by decide))) ax_fn)) (y := (20, [(0, .inr (0, 23)), (1, .inl (.int (a1))), (2, .inl (.int (a2))), (3, .inl (.int (a3)))], [.inl (.int ((16 : Int32))), .inl (.int (a2))], ax_m (s) ρ)) rfl ⟨trivial, trivial, trivial⟩ ?_
  obtain ⟨_, q4, h⟩ := ax_bd h
  refine ax_bS (rest := []) hB (t_X_needIndex q4) cw_X_69 sm_X_needIndex d_X_table_20 (by decide) (by decide) rfl rfl (Nat.le_of_ble_eq_true rfl) ?_
  change ax_R G 5 0 0 (23, [(0, .inr (0, 23)), (1, .inl (.int (a1))), (2, .inl (.int (a2))), (3, .inl (.int (a3)))], [], ax_m (s) ρ)
  refine ax_bk hK (ax_fc (ax_v_ld (ax_r_iload_n (i := 3) d_X_table_23 rfl)) ax_fn) (y := (24, [(0, .inr (0, 23)), (1, .inl (.int (a1))), (2, .inl (.int (a2))), (3, .inl (.int (a3)))], [.inl (.int (a3))], ax_m (s) ρ)) rfl ⟨trivial, trivial⟩ ?_
  refine ax_if_eq (tgt := 37) hK d_X_table_24 (by decide) (fun c7 => ?_) (fun c7 => ?_)
  · replace h := ax_it c7 h
    obtain ⟨b5, h⟩ := ax_gd h
    refine ax_bk hK (ax_fc (ax_v_ld (ax_r_aload_n (i := 0) d_X_table_37 rfl)) (ax_fc (ax_w_gf (e := (some (g, 0))) hal d_X_table_38 fd_X_34) (ax_fc (ax_w_gf (e := none) hal d_X_table_41 fd_X_76) (ax_fc (ax_v_so (ax_r_astore d_X_table_44)) (ax_fc (ax_v_ld (ax_r_aload d_X_table_46)) (ax_fc (ax_v_ld (ax_r_iload_n (i := 1) d_X_table_48 rfl)) (ax_fc (ax_v_pu (ax_r_bipush (v := 16) d_X_table_49 (by decide))) (ax_fc (ax_v_pu (ax_r_imul d_X_table_51)) (ax_fc (ax_v_ld (ax_r_iload_n (i := 2) d_X_table_52 rfl)) (ax_fc (ax_v_pu (ax_r_iadd d_X_table_53)) (ax_fc (ax_w_iald hal d_X_table_54) ax_fn))))))))))) (y := (55, [(4, .inr (g, 2)), (0, .inr (0, 23)), (1, .inl (.int (a1))), (2, .inl (.int (a2))), (3, .inl (.int (a3)))], [.inl (.int ((s.1 g 2 (((a1 * (16 : Int32)) + a2)).toNatClampNeg)))], ax_m (s) ρ)) rfl ⟨trivial, ⟨(h0 23 rfl), hx⟩, (hg 0 rfl), trivial, trivial, trivial, trivial, trivial, trivial, trivial, ⟨(hg 2 rfl), ax_inp b5⟩, trivial⟩ ?_
    cases h
    exact ax_iret hA d_X_table_55
  · replace h := ax_if c7 h
    refine ax_bk hK (ax_fc (ax_v_ld (ax_r_aload_n (i := 0) d_X_table_27 rfl)) (ax_fc (ax_w_gf (e := (some (g, 0))) hal d_X_table_28 fd_X_34) (ax_fc (ax_w_gf (e := none) hal d_X_table_31 fd_X_73) (ax_fc (ax_v_go (tgt := 44) d_X_table_34 (by decide)) ax_fn)))) (y := (44, [(0, .inr (0, 23)), (1, .inl (.int (a1))), (2, .inl (.int (a2))), (3, .inl (.int (a3)))], [.inr (g, 3)], ax_m (s) ρ)) rfl ⟨trivial, ⟨(h0 23 rfl), hx⟩, (hg 0 rfl), trivial, trivial⟩ ?_
    obtain ⟨b6, h⟩ := ax_gd h
    refine ax_bk hK (ax_fc (ax_v_so (ax_r_astore d_X_table_44)) (ax_fc (ax_v_ld (ax_r_aload d_X_table_46)) (ax_fc (ax_v_ld (ax_r_iload_n (i := 1) d_X_table_48 rfl)) (ax_fc (ax_v_pu (ax_r_bipush (v := 16) d_X_table_49 (by decide))) (ax_fc (ax_v_pu (ax_r_imul d_X_table_51)) (ax_fc (ax_v_ld (ax_r_iload_n (i := 2) d_X_table_52 rfl)) (ax_fc (ax_v_pu (ax_r_iadd d_X_table_53)) (ax_fc (ax_w_iald hal d_X_table_54) ax_fn)))))))) (y := (55, [(4, .inr (g, 3)), (0, .inr (0, 23)), (1, .inl (.int (a1))), (2, .inl (.int (a2))), (3, .inl (.int (a3)))], [.inl (.int ((s.1 g 3 (((a1 * (16 : Int32)) + a2)).toNatClampNeg)))], ax_m (s) ρ)) rfl ⟨trivial, trivial, trivial, trivial, trivial, trivial, trivial, ⟨(hg 3 rfl), ax_inp b6⟩, trivial⟩ ?_
    cases h
    exact ax_iret hA d_X_table_55
def y_X_key : MethodName := ⟨"CipherNotation", "key", "(IJ)J"⟩
theorem d_X_key_0 : decode prog_1_method_9_code 0 = .ok (.aload_n 0, 1) := by decide +kernel
theorem d_X_key_1 : decode prog_1_method_9_code 1 = .ok (.invokevirtual (53), 3) := by decide +kernel
theorem d_X_key_4 : decode prog_1_method_9_code 4 = .ok (.iload_n 1, 1) := by decide +kernel
theorem d_X_key_5 : decode prog_1_method_9_code 5 = .ok (.aload_n 0, 1) := by decide +kernel
theorem d_X_key_6 : decode prog_1_method_9_code 6 = .ok (.getfield (34), 3) := by decide +kernel
theorem d_X_key_9 : decode prog_1_method_9_code 9 = .ok (.getfield (59), 3) := by decide +kernel
theorem d_X_key_12 : decode prog_1_method_9_code 12 = .ok (.iconst 2, 1) := by decide +kernel
theorem d_X_key_13 : decode prog_1_method_9_code 13 = .ok (.iaload, 1) := by decide +kernel
theorem d_X_key_14 : decode prog_1_method_9_code 14 = .ok (.invokestatic (69), 3) := by decide +kernel
theorem d_X_key_17 : decode prog_1_method_9_code 17 = .ok (.aload_n 0, 1) := by decide +kernel
theorem d_X_key_18 : decode prog_1_method_9_code 18 = .ok (.lload_n 2, 1) := by decide +kernel
theorem d_X_key_19 : decode prog_1_method_9_code 19 = .ok (.invokevirtual (79), 3) := by decide +kernel
theorem d_X_key_22 : decode prog_1_method_9_code 22 = .ok (.aload_n 0, 1) := by decide +kernel
theorem d_X_key_23 : decode prog_1_method_9_code 23 = .ok (.getfield (30), 3) := by decide +kernel
theorem d_X_key_26 : decode prog_1_method_9_code 26 = .ok (.getfield (83), 3) := by decide +kernel
theorem d_X_key_29 : decode prog_1_method_9_code 29 = .ok (.iload_n 1, 1) := by decide +kernel
theorem d_X_key_30 : decode prog_1_method_9_code 30 = .ok (.laload, 1) := by decide +kernel
theorem d_X_key_31 : decode prog_1_method_9_code 31 = .ok (.lstore (4), 2) := by decide +kernel
theorem d_X_key_33 : decode prog_1_method_9_code 33 = .ok (.aload_n 0, 1) := by decide +kernel
theorem d_X_key_34 : decode prog_1_method_9_code 34 = .ok (.getfield (30), 3) := by decide +kernel
theorem d_X_key_37 : decode prog_1_method_9_code 37 = .ok (.getfield (83), 3) := by decide +kernel
theorem d_X_key_40 : decode prog_1_method_9_code 40 = .ok (.iload_n 1, 1) := by decide +kernel
theorem d_X_key_41 : decode prog_1_method_9_code 41 = .ok (.lload_n 2, 1) := by decide +kernel
theorem d_X_key_42 : decode prog_1_method_9_code 42 = .ok (.lastore, 1) := by decide +kernel
theorem d_X_key_43 : decode prog_1_method_9_code 43 = .ok (.lload (4), 2) := by decide +kernel
theorem d_X_key_45 : decode prog_1_method_9_code 45 = .ok (.lreturn, 1) := by decide +kernel
set_option maxRecDepth 100000 in
theorem cw_X_79 : ax_cw "CipherNotation" 79 y_X_needWord (.code y_X_needWord prog_1_method_19_code 3 none) 1 := ⟨nw_4 27 (by decide +kernel) rfl, nw_1 1 (by decide +kernel) rfl, nw_4 30 rfl rfl, by decide +kernel, by decide +kernel⟩
theorem im_X_needWord : Cond.instanceMethod y_X_needWord ∈ ax_tbl := nw_4 29 (by decide +kernel) rfl
theorem se_X_needWord : Cond.selects y_X_needWord.cls y_X_needWord y_X_needWord ∈ ax_tbl := nw_sel 36 (by decide +kernel) (by decide +kernel)
theorem fd_X_83 : ax_fd "CipherNotation" 83 2 0 := ⟨nC2, nT2, 9, nY2, rfl, nW2, by decide, nw_1 90 (by decide +kernel) rfl, nO2, nA2⟩
def f_X_key (g : Nat) (a1 : Int32) (a2 : Int64) (s : ax_σ) : Option (Int64 × ax_σ) :=
  Option.bind (f_X_needProgram g) (fun _ =>
    bif ax_in (2 : Int32) 8 then
    Option.bind (f_X_needIndex a1 (s.1 g 1 ((2 : Int32)).toNatClampNeg)) (fun _ =>
      Option.bind (f_X_needWord a2 s) (fun _ =>
        bif ax_in a1 4 then
        bif ax_in a1 4 then
        ax_let (ax_wL s 0 33 (a1).toNatClampNeg a2) (fun s7 =>
          some (((s.2 0 33 (a1).toNatClampNeg), s7)))
        else none
        else none))
    else none)
set_option maxHeartbeats 4000000 in
set_option maxRecDepth 100000 in
theorem t_X_key {l : Launch} {D : va_G} {cA : Nat → ClassId} {ad : Nat → Nat → Nat} {al : List (Nat × Nat)} {θ : ax_Θ} {ρ : ax_ρ} {g : Nat} (h0 : ax_M0 al) (hg : ax_Mg al g) (hr : ax_md ρ g) (hx : ρ 0 23 5 = some (g, 0)) {a1 : Int32} {a2 : Int64} {s : ax_σ} {r0 : Int64} {s0 : ax_σ} (h : f_X_key g a1 a2 s = some (r0, s0)) : ax_T l D cA ad al θ y_X_key (.code y_X_key prog_1_method_9_code 6 (some .long)) 1 [.inr (0, 23), .inl (.int (a1)), .inl (.long (a2))] (ax_m s ρ) (some (.inl (.long r0))) (ax_m s0 ρ) := by
  refine ax_T_of (own := "CipherNotation") (by decide) rfl (Nat.le_of_ble_eq_true rfl) [(0, .inr (0, 23)), (1, .inl (.int (a1))), (2, .inl (.long (a2)))] rfl ?_
  intro G hA
  have hB := hA.B
  have hK := hB.K
  have hal := hB.la
  unfold f_X_key at h
  refine ax_bk hK (ax_fc (ax_v_ld (ax_r_aload_n (i := 0) d_X_key_0 rfl)) ax_fn) (y := (1, [(0, .inr (0, 23)), (1, .inl (.int (a1))), (2, .inl (.long (a2)))], [.inr (0, 23)], ax_m (s) ρ)) rfl ⟨trivial, trivial⟩ ?_
  obtain ⟨_, q1, h⟩ := ax_bd h
  refine ax_bV (rest := []) hB (t_X_needProgram h0 hx q1) cw_X_53 im_X_needProgram se_X_needProgram d_X_key_1 (h0 23 rfl) rfl rfl (by decide) (by decide) rfl rfl (Nat.le_of_ble_eq_true rfl) ?_
  change ax_R G 6 0 0 (4, [(0, .inr (0, 23)), (1, .inl (.int (a1))), (2, .inl (.long (a2)))], [], ax_m (s) ρ)
  obtain ⟨b2, h⟩ := ax_gd h
  refine ax_bk hK (ax_fc (ax_v_ld (ax_r_iload_n (i := 1) d_X_key_4 rfl)) (ax_fc (ax_v_ld (ax_r_aload_n (i := 0) d_X_key_5 rfl)) (ax_fc (ax_w_gf (e := (some (g, 0))) hal d_X_key_6 fd_X_34) (ax_fc (ax_w_gf (e := none) hal d_X_key_9 fd_X_59) (ax_fc (ax_v_pu (ax_r_iconst (v := 2) d_X_key_12 (by decide))) (ax_fc (ax_w_iald hal d_X_key_13) ax_fn)))))) (y := (14, [(0, .inr (0, 23)), (1, .inl (.int (a1))), (2, .inl (.long (a2)))], [.inl (.int ((s.1 g 1 ((2 : Int32)).toNatClampNeg))), .inl (.int (a1))], ax_m (s) ρ)) rfl ⟨trivial, trivial, ⟨(h0 23 rfl), hx⟩, (hg 0 rfl), trivial, ⟨(hg 1 rfl), ax_inp b2⟩, trivial⟩ ?_
  obtain ⟨_, q3, h⟩ := ax_bd h
  refine ax_bS (rest := []) hB (t_X_needIndex q3) cw_X_69 sm_X_needIndex d_X_key_14 (by decide) (by decide) rfl rfl (Nat.le_of_ble_eq_true rfl) ?_
  change ax_R G 6 0 0 (17, [(0, .inr (0, 23)), (1, .inl (.int (a1))), (2, .inl (.long (a2)))], [], ax_m (s) ρ)
  refine ax_bk hK (ax_fc (ax_v_ld (ax_r_aload_n (i := 0) d_X_key_17 rfl)) (ax_fc (ax_v_ld (ax_r_lload_n (i := 2) d_X_key_18 rfl)) ax_fn)) (y := (19, [(0, .inr (0, 23)), (1, .inl (.int (a1))), (2, .inl (.long (a2)))], [.inl (.long (a2)), .inr (0, 23)], ax_m (s) ρ)) rfl ⟨trivial, trivial, trivial⟩ ?_
  obtain ⟨_, q4, h⟩ := ax_bd h
  refine ax_bV (rest := []) hB (t_X_needWord h0 q4) cw_X_79 im_X_needWord se_X_needWord d_X_key_19 (h0 23 rfl) rfl rfl (by decide) (by decide) rfl rfl (Nat.le_of_ble_eq_true rfl) ?_
  change ax_R G 6 0 0 (22, [(0, .inr (0, 23)), (1, .inl (.int (a1))), (2, .inl (.long (a2)))], [], ax_m (s) ρ)
  obtain ⟨b5, h⟩ := ax_gd h
  obtain ⟨b6, h⟩ := ax_gd h
  refine ax_bk hK (ax_fc (ax_v_ld (ax_r_aload_n (i := 0) d_X_key_22 rfl)) (ax_fc (ax_w_gf (e := none) hal d_X_key_23 fd_X_30) (ax_fc (ax_w_gf (e := none) hal d_X_key_26 fd_X_83) (ax_fc (ax_v_ld (ax_r_iload_n (i := 1) d_X_key_29 rfl)) (ax_fc (ax_w_lald hal d_X_key_30) (ax_fc (ax_v_so (ax_r_lstore d_X_key_31)) (ax_fc (ax_v_ld (ax_r_aload_n (i := 0) d_X_key_33 rfl)) (ax_fc (ax_w_gf (e := none) hal d_X_key_34 fd_X_30) (ax_fc (ax_w_gf (e := none) hal d_X_key_37 fd_X_83) (ax_fc (ax_v_ld (ax_r_iload_n (i := 1) d_X_key_40 rfl)) (ax_fc (ax_v_ld (ax_r_lload_n (i := 2) d_X_key_41 rfl)) (ax_fc (ax_w_last hal d_X_key_42) ax_fn)))))))))))) (y := (43, [(4, .inl (.long ((s.2 0 33 (a1).toNatClampNeg)))), (0, .inr (0, 23)), (1, .inl (.int (a1))), (2, .inl (.long (a2)))], [], ax_m (ax_wL s 0 33 (a1).toNatClampNeg a2) ρ)) rfl ⟨trivial, (h0 23 rfl), (h0 32 rfl), trivial, ⟨(h0 33 rfl), ax_inp b5⟩, trivial, trivial, (h0 23 rfl), (h0 32 rfl), trivial, trivial, ⟨(h0 33 rfl), ax_inp b6⟩, trivial⟩ ?_
  refine ax_lt (Q := fun ςς => ax_R G 6 0 0 (43, [(4, .inl (.long ((s.2 0 33 (a1).toNatClampNeg)))), (0, .inr (0, 23)), (1, .inl (.int (a1))), (2, .inl (.long (a2)))], [], ax_m (ςς) ρ)) h (fun s7 h => ?_)
  refine ax_bk hK (ax_fc (ax_v_ld (ax_r_lload d_X_key_43)) ax_fn) (y := (45, [(4, .inl (.long ((s.2 0 33 (a1).toNatClampNeg)))), (0, .inr (0, 23)), (1, .inl (.int (a1))), (2, .inl (.long (a2)))], [.inl (.long ((s.2 0 33 (a1).toNatClampNeg)))], ax_m (s7) ρ)) rfl ⟨trivial, trivial⟩ ?_
  cases h
  exact ax_lret hA d_X_key_45
def y_X_state : MethodName := ⟨"CipherNotation", "state", "(IJ)J"⟩
theorem d_X_state_0 : decode prog_1_method_10_code 0 = .ok (.aload_n 0, 1) := by decide +kernel
theorem d_X_state_1 : decode prog_1_method_10_code 1 = .ok (.invokevirtual (53), 3) := by decide +kernel
theorem d_X_state_4 : decode prog_1_method_10_code 4 = .ok (.iload_n 1, 1) := by decide +kernel
theorem d_X_state_5 : decode prog_1_method_10_code 5 = .ok (.aload_n 0, 1) := by decide +kernel
theorem d_X_state_6 : decode prog_1_method_10_code 6 = .ok (.getfield (34), 3) := by decide +kernel
theorem d_X_state_9 : decode prog_1_method_10_code 9 = .ok (.getfield (59), 3) := by decide +kernel
theorem d_X_state_12 : decode prog_1_method_10_code 12 = .ok (.iconst 1, 1) := by decide +kernel
theorem d_X_state_13 : decode prog_1_method_10_code 13 = .ok (.iaload, 1) := by decide +kernel
theorem d_X_state_14 : decode prog_1_method_10_code 14 = .ok (.invokestatic (69), 3) := by decide +kernel
theorem d_X_state_17 : decode prog_1_method_10_code 17 = .ok (.aload_n 0, 1) := by decide +kernel
theorem d_X_state_18 : decode prog_1_method_10_code 18 = .ok (.lload_n 2, 1) := by decide +kernel
theorem d_X_state_19 : decode prog_1_method_10_code 19 = .ok (.invokevirtual (79), 3) := by decide +kernel
theorem d_X_state_22 : decode prog_1_method_10_code 22 = .ok (.aload_n 0, 1) := by decide +kernel
theorem d_X_state_23 : decode prog_1_method_10_code 23 = .ok (.getfield (30), 3) := by decide +kernel
theorem d_X_state_26 : decode prog_1_method_10_code 26 = .ok (.getfield (87), 3) := by decide +kernel
theorem d_X_state_29 : decode prog_1_method_10_code 29 = .ok (.iload_n 1, 1) := by decide +kernel
theorem d_X_state_30 : decode prog_1_method_10_code 30 = .ok (.laload, 1) := by decide +kernel
theorem d_X_state_31 : decode prog_1_method_10_code 31 = .ok (.lstore (4), 2) := by decide +kernel
theorem d_X_state_33 : decode prog_1_method_10_code 33 = .ok (.aload_n 0, 1) := by decide +kernel
theorem d_X_state_34 : decode prog_1_method_10_code 34 = .ok (.getfield (30), 3) := by decide +kernel
theorem d_X_state_37 : decode prog_1_method_10_code 37 = .ok (.getfield (87), 3) := by decide +kernel
theorem d_X_state_40 : decode prog_1_method_10_code 40 = .ok (.iload_n 1, 1) := by decide +kernel
theorem d_X_state_41 : decode prog_1_method_10_code 41 = .ok (.lload_n 2, 1) := by decide +kernel
theorem d_X_state_42 : decode prog_1_method_10_code 42 = .ok (.lastore, 1) := by decide +kernel
theorem d_X_state_43 : decode prog_1_method_10_code 43 = .ok (.lload (4), 2) := by decide +kernel
theorem d_X_state_45 : decode prog_1_method_10_code 45 = .ok (.lreturn, 1) := by decide +kernel
theorem fd_X_87 : ax_fd "CipherNotation" 87 2 1 := ⟨nC2, nT2, 9, nY2, rfl, nW2, by decide, nw_1 92 (by decide +kernel) rfl, nO2, nA2⟩
def f_X_state (g : Nat) (a1 : Int32) (a2 : Int64) (s : ax_σ) : Option (Int64 × ax_σ) :=
  Option.bind (f_X_needProgram g) (fun _ =>
    bif ax_in (1 : Int32) 8 then
    Option.bind (f_X_needIndex a1 (s.1 g 1 ((1 : Int32)).toNatClampNeg)) (fun _ =>
      Option.bind (f_X_needWord a2 s) (fun _ =>
        bif ax_in a1 4 then
        bif ax_in a1 4 then
        ax_let (ax_wL s 0 34 (a1).toNatClampNeg a2) (fun s7 =>
          some (((s.2 0 34 (a1).toNatClampNeg), s7)))
        else none
        else none))
    else none)
set_option maxHeartbeats 4000000 in
set_option maxRecDepth 100000 in
theorem t_X_state {l : Launch} {D : va_G} {cA : Nat → ClassId} {ad : Nat → Nat → Nat} {al : List (Nat × Nat)} {θ : ax_Θ} {ρ : ax_ρ} {g : Nat} (h0 : ax_M0 al) (hg : ax_Mg al g) (hr : ax_md ρ g) (hx : ρ 0 23 5 = some (g, 0)) {a1 : Int32} {a2 : Int64} {s : ax_σ} {r0 : Int64} {s0 : ax_σ} (h : f_X_state g a1 a2 s = some (r0, s0)) : ax_T l D cA ad al θ y_X_state (.code y_X_state prog_1_method_10_code 6 (some .long)) 1 [.inr (0, 23), .inl (.int (a1)), .inl (.long (a2))] (ax_m s ρ) (some (.inl (.long r0))) (ax_m s0 ρ) := by
  refine ax_T_of (own := "CipherNotation") (by decide) rfl (Nat.le_of_ble_eq_true rfl) [(0, .inr (0, 23)), (1, .inl (.int (a1))), (2, .inl (.long (a2)))] rfl ?_
  intro G hA
  have hB := hA.B
  have hK := hB.K
  have hal := hB.la
  unfold f_X_state at h
  refine ax_bk hK (ax_fc (ax_v_ld (ax_r_aload_n (i := 0) d_X_state_0 rfl)) ax_fn) (y := (1, [(0, .inr (0, 23)), (1, .inl (.int (a1))), (2, .inl (.long (a2)))], [.inr (0, 23)], ax_m (s) ρ)) rfl ⟨trivial, trivial⟩ ?_
  obtain ⟨_, q1, h⟩ := ax_bd h
  refine ax_bV (rest := []) hB (t_X_needProgram h0 hx q1) cw_X_53 im_X_needProgram se_X_needProgram d_X_state_1 (h0 23 rfl) rfl rfl (by decide) (by decide) rfl rfl (Nat.le_of_ble_eq_true rfl) ?_
  change ax_R G 6 0 0 (4, [(0, .inr (0, 23)), (1, .inl (.int (a1))), (2, .inl (.long (a2)))], [], ax_m (s) ρ)
  obtain ⟨b2, h⟩ := ax_gd h
  refine ax_bk hK (ax_fc (ax_v_ld (ax_r_iload_n (i := 1) d_X_state_4 rfl)) (ax_fc (ax_v_ld (ax_r_aload_n (i := 0) d_X_state_5 rfl)) (ax_fc (ax_w_gf (e := (some (g, 0))) hal d_X_state_6 fd_X_34) (ax_fc (ax_w_gf (e := none) hal d_X_state_9 fd_X_59) (ax_fc (ax_v_pu (ax_r_iconst (v := 1) d_X_state_12 (by decide))) (ax_fc (ax_w_iald hal d_X_state_13) ax_fn)))))) (y := (14, [(0, .inr (0, 23)), (1, .inl (.int (a1))), (2, .inl (.long (a2)))], [.inl (.int ((s.1 g 1 ((1 : Int32)).toNatClampNeg))), .inl (.int (a1))], ax_m (s) ρ)) rfl ⟨trivial, trivial, ⟨(h0 23 rfl), hx⟩, (hg 0 rfl), trivial, ⟨(hg 1 rfl), ax_inp b2⟩, trivial⟩ ?_
  obtain ⟨_, q3, h⟩ := ax_bd h
  refine ax_bS (rest := []) hB (t_X_needIndex q3) cw_X_69 sm_X_needIndex d_X_state_14 (by decide) (by decide) rfl rfl (Nat.le_of_ble_eq_true rfl) ?_
  change ax_R G 6 0 0 (17, [(0, .inr (0, 23)), (1, .inl (.int (a1))), (2, .inl (.long (a2)))], [], ax_m (s) ρ)
  refine ax_bk hK (ax_fc (ax_v_ld (ax_r_aload_n (i := 0) d_X_state_17 rfl)) (ax_fc (ax_v_ld (ax_r_lload_n (i := 2) d_X_state_18 rfl)) ax_fn)) (y := (19, [(0, .inr (0, 23)), (1, .inl (.int (a1))), (2, .inl (.long (a2)))], [.inl (.long (a2)), .inr (0, 23)], ax_m (s) ρ)) rfl ⟨trivial, trivial, trivial⟩ ?_
  obtain ⟨_, q4, h⟩ := ax_bd h
  refine ax_bV (rest := []) hB (t_X_needWord h0 q4) cw_X_79 im_X_needWord se_X_needWord d_X_state_19 (h0 23 rfl) rfl rfl (by decide) (by decide) rfl rfl (Nat.le_of_ble_eq_true rfl) ?_
  change ax_R G 6 0 0 (22, [(0, .inr (0, 23)), (1, .inl (.int (a1))), (2, .inl (.long (a2)))], [], ax_m (s) ρ)
  obtain ⟨b5, h⟩ := ax_gd h
  obtain ⟨b6, h⟩ := ax_gd h
  refine ax_bk hK (ax_fc (ax_v_ld (ax_r_aload_n (i := 0) d_X_state_22 rfl)) (ax_fc (ax_w_gf (e := none) hal d_X_state_23 fd_X_30) (ax_fc (ax_w_gf (e := none) hal d_X_state_26 fd_X_87) (ax_fc (ax_v_ld (ax_r_iload_n (i := 1) d_X_state_29 rfl)) (ax_fc (ax_w_lald hal d_X_state_30) (ax_fc (ax_v_so (ax_r_lstore d_X_state_31)) (ax_fc (ax_v_ld (ax_r_aload_n (i := 0) d_X_state_33 rfl)) (ax_fc (ax_w_gf (e := none) hal d_X_state_34 fd_X_30) (ax_fc (ax_w_gf (e := none) hal d_X_state_37 fd_X_87) (ax_fc (ax_v_ld (ax_r_iload_n (i := 1) d_X_state_40 rfl)) (ax_fc (ax_v_ld (ax_r_lload_n (i := 2) d_X_state_41 rfl)) (ax_fc (ax_w_last hal d_X_state_42) ax_fn)))))))))))) (y := (43, [(4, .inl (.long ((s.2 0 34 (a1).toNatClampNeg)))), (0, .inr (0, 23)), (1, .inl (.int (a1))), (2, .inl (.long (a2)))], [], ax_m (ax_wL s 0 34 (a1).toNatClampNeg a2) ρ)) rfl ⟨trivial, (h0 23 rfl), (h0 32 rfl), trivial, ⟨(h0 34 rfl), ax_inp b5⟩, trivial, trivial, (h0 23 rfl), (h0 32 rfl), trivial, trivial, ⟨(h0 34 rfl), ax_inp b6⟩, trivial⟩ ?_
  refine ax_lt (Q := fun ςς => ax_R G 6 0 0 (43, [(4, .inl (.long ((s.2 0 34 (a1).toNatClampNeg)))), (0, .inr (0, 23)), (1, .inl (.int (a1))), (2, .inl (.long (a2)))], [], ax_m (ςς) ρ)) h (fun s7 h => ?_)
  refine ax_bk hK (ax_fc (ax_v_ld (ax_r_lload d_X_state_43)) ax_fn) (y := (45, [(4, .inl (.long ((s.2 0 34 (a1).toNatClampNeg)))), (0, .inr (0, 23)), (1, .inl (.int (a1))), (2, .inl (.long (a2)))], [.inl (.long ((s.2 0 34 (a1).toNatClampNeg)))], ax_m (s7) ρ)) rfl ⟨trivial, trivial⟩ ?_
  cases h
  exact ax_lret hA d_X_state_45
def y_X_keyWord : MethodName := ⟨"CipherNotation", "keyWord", "(I)J"⟩
theorem d_X_keyWord_0 : decode prog_1_method_11_code 0 = .ok (.aload_n 0, 1) := by decide +kernel
theorem d_X_keyWord_1 : decode prog_1_method_11_code 1 = .ok (.invokevirtual (53), 3) := by decide +kernel
theorem d_X_keyWord_4 : decode prog_1_method_11_code 4 = .ok (.iload_n 1, 1) := by decide +kernel
theorem d_X_keyWord_5 : decode prog_1_method_11_code 5 = .ok (.aload_n 0, 1) := by decide +kernel
theorem d_X_keyWord_6 : decode prog_1_method_11_code 6 = .ok (.getfield (34), 3) := by decide +kernel
theorem d_X_keyWord_9 : decode prog_1_method_11_code 9 = .ok (.getfield (59), 3) := by decide +kernel
theorem d_X_keyWord_12 : decode prog_1_method_11_code 12 = .ok (.iconst 2, 1) := by decide +kernel
theorem d_X_keyWord_13 : decode prog_1_method_11_code 13 = .ok (.iaload, 1) := by decide +kernel
theorem d_X_keyWord_14 : decode prog_1_method_11_code 14 = .ok (.invokestatic (69), 3) := by decide +kernel
theorem d_X_keyWord_17 : decode prog_1_method_11_code 17 = .ok (.aload_n 0, 1) := by decide +kernel
theorem d_X_keyWord_18 : decode prog_1_method_11_code 18 = .ok (.getfield (30), 3) := by decide +kernel
theorem d_X_keyWord_21 : decode prog_1_method_11_code 21 = .ok (.getfield (83), 3) := by decide +kernel
theorem d_X_keyWord_24 : decode prog_1_method_11_code 24 = .ok (.iload_n 1, 1) := by decide +kernel
theorem d_X_keyWord_25 : decode prog_1_method_11_code 25 = .ok (.laload, 1) := by decide +kernel
theorem d_X_keyWord_26 : decode prog_1_method_11_code 26 = .ok (.lreturn, 1) := by decide +kernel
def f_X_keyWord (g : Nat) (a1 : Int32) (s : ax_σ) : Option (Int64) :=
  Option.bind (f_X_needProgram g) (fun _ =>
    bif ax_in (2 : Int32) 8 then
    Option.bind (f_X_needIndex a1 (s.1 g 1 ((2 : Int32)).toNatClampNeg)) (fun _ =>
      bif ax_in a1 4 then
      some ((s.2 0 33 (a1).toNatClampNeg))
      else none)
    else none)
set_option maxHeartbeats 4000000 in
set_option maxRecDepth 100000 in
theorem t_X_keyWord {l : Launch} {D : va_G} {cA : Nat → ClassId} {ad : Nat → Nat → Nat} {al : List (Nat × Nat)} {θ : ax_Θ} {ρ : ax_ρ} {g : Nat} (h0 : ax_M0 al) (hg : ax_Mg al g) (hr : ax_md ρ g) (hx : ρ 0 23 5 = some (g, 0)) {a1 : Int32} {s : ax_σ} {r0 : Int64} (h : f_X_keyWord g a1 s = some r0) : ax_T l D cA ad al θ y_X_keyWord (.code y_X_keyWord prog_1_method_11_code 2 (some .long)) 1 [.inr (0, 23), .inl (.int (a1))] (ax_m s ρ) (some (.inl (.long r0))) (ax_m s ρ) := by
  refine ax_T_of (own := "CipherNotation") (by decide) rfl (Nat.le_of_ble_eq_true rfl) [(0, .inr (0, 23)), (1, .inl (.int (a1)))] rfl ?_
  intro G hA
  have hB := hA.B
  have hK := hB.K
  have hal := hB.la
  unfold f_X_keyWord at h
  refine ax_bk hK (ax_fc (ax_v_ld (ax_r_aload_n (i := 0) d_X_keyWord_0 rfl)) ax_fn) (y := (1, [(0, .inr (0, 23)), (1, .inl (.int (a1)))], [.inr (0, 23)], ax_m (s) ρ)) rfl ⟨trivial, trivial⟩ ?_
  obtain ⟨_, q1, h⟩ := ax_bd h
  refine ax_bV (rest := []) hB (t_X_needProgram h0 hx q1) cw_X_53 im_X_needProgram se_X_needProgram d_X_keyWord_1 (h0 23 rfl) rfl rfl (by decide) (by decide) rfl rfl (Nat.le_of_ble_eq_true rfl) ?_
  change ax_R G 2 0 0 (4, [(0, .inr (0, 23)), (1, .inl (.int (a1)))], [], ax_m (s) ρ)
  obtain ⟨b2, h⟩ := ax_gd h
  refine ax_bk hK (ax_fc (ax_v_ld (ax_r_iload_n (i := 1) d_X_keyWord_4 rfl)) (ax_fc (ax_v_ld (ax_r_aload_n (i := 0) d_X_keyWord_5 rfl)) (ax_fc (ax_w_gf (e := (some (g, 0))) hal d_X_keyWord_6 fd_X_34) (ax_fc (ax_w_gf (e := none) hal d_X_keyWord_9 fd_X_59) (ax_fc (ax_v_pu (ax_r_iconst (v := 2) d_X_keyWord_12 (by decide))) (ax_fc (ax_w_iald hal d_X_keyWord_13) ax_fn)))))) (y := (14, [(0, .inr (0, 23)), (1, .inl (.int (a1)))], [.inl (.int ((s.1 g 1 ((2 : Int32)).toNatClampNeg))), .inl (.int (a1))], ax_m (s) ρ)) rfl ⟨trivial, trivial, ⟨(h0 23 rfl), hx⟩, (hg 0 rfl), trivial, ⟨(hg 1 rfl), ax_inp b2⟩, trivial⟩ ?_
  obtain ⟨_, q3, h⟩ := ax_bd h
  refine ax_bS (rest := []) hB (t_X_needIndex q3) cw_X_69 sm_X_needIndex d_X_keyWord_14 (by decide) (by decide) rfl rfl (Nat.le_of_ble_eq_true rfl) ?_
  change ax_R G 2 0 0 (17, [(0, .inr (0, 23)), (1, .inl (.int (a1)))], [], ax_m (s) ρ)
  obtain ⟨b4, h⟩ := ax_gd h
  refine ax_bk hK (ax_fc (ax_v_ld (ax_r_aload_n (i := 0) d_X_keyWord_17 rfl)) (ax_fc (ax_w_gf (e := none) hal d_X_keyWord_18 fd_X_30) (ax_fc (ax_w_gf (e := none) hal d_X_keyWord_21 fd_X_83) (ax_fc (ax_v_ld (ax_r_iload_n (i := 1) d_X_keyWord_24 rfl)) (ax_fc (ax_w_lald hal d_X_keyWord_25) ax_fn))))) (y := (26, [(0, .inr (0, 23)), (1, .inl (.int (a1)))], [.inl (.long ((s.2 0 33 (a1).toNatClampNeg)))], ax_m (s) ρ)) rfl ⟨trivial, (h0 23 rfl), (h0 32 rfl), trivial, ⟨(h0 33 rfl), ax_inp b4⟩, trivial⟩ ?_
  cases h
  exact ax_lret hA d_X_keyWord_26
def y_X_word : MethodName := ⟨"CipherNotation", "word", "(I)J"⟩
theorem d_X_word_0 : decode prog_1_method_12_code 0 = .ok (.aload_n 0, 1) := by decide +kernel
theorem d_X_word_1 : decode prog_1_method_12_code 1 = .ok (.invokevirtual (53), 3) := by decide +kernel
theorem d_X_word_4 : decode prog_1_method_12_code 4 = .ok (.iload_n 1, 1) := by decide +kernel
theorem d_X_word_5 : decode prog_1_method_12_code 5 = .ok (.aload_n 0, 1) := by decide +kernel
theorem d_X_word_6 : decode prog_1_method_12_code 6 = .ok (.getfield (34), 3) := by decide +kernel
theorem d_X_word_9 : decode prog_1_method_12_code 9 = .ok (.getfield (59), 3) := by decide +kernel
theorem d_X_word_12 : decode prog_1_method_12_code 12 = .ok (.iconst 1, 1) := by decide +kernel
theorem d_X_word_13 : decode prog_1_method_12_code 13 = .ok (.iaload, 1) := by decide +kernel
theorem d_X_word_14 : decode prog_1_method_12_code 14 = .ok (.invokestatic (69), 3) := by decide +kernel
theorem d_X_word_17 : decode prog_1_method_12_code 17 = .ok (.aload_n 0, 1) := by decide +kernel
theorem d_X_word_18 : decode prog_1_method_12_code 18 = .ok (.getfield (30), 3) := by decide +kernel
theorem d_X_word_21 : decode prog_1_method_12_code 21 = .ok (.getfield (87), 3) := by decide +kernel
theorem d_X_word_24 : decode prog_1_method_12_code 24 = .ok (.iload_n 1, 1) := by decide +kernel
theorem d_X_word_25 : decode prog_1_method_12_code 25 = .ok (.laload, 1) := by decide +kernel
theorem d_X_word_26 : decode prog_1_method_12_code 26 = .ok (.lreturn, 1) := by decide +kernel
def f_X_word (g : Nat) (a1 : Int32) (s : ax_σ) : Option (Int64) :=
  Option.bind (f_X_needProgram g) (fun _ =>
    bif ax_in (1 : Int32) 8 then
    Option.bind (f_X_needIndex a1 (s.1 g 1 ((1 : Int32)).toNatClampNeg)) (fun _ =>
      bif ax_in a1 4 then
      some ((s.2 0 34 (a1).toNatClampNeg))
      else none)
    else none)
set_option maxHeartbeats 4000000 in
set_option maxRecDepth 100000 in
theorem t_X_word {l : Launch} {D : va_G} {cA : Nat → ClassId} {ad : Nat → Nat → Nat} {al : List (Nat × Nat)} {θ : ax_Θ} {ρ : ax_ρ} {g : Nat} (h0 : ax_M0 al) (hg : ax_Mg al g) (hr : ax_md ρ g) (hx : ρ 0 23 5 = some (g, 0)) {a1 : Int32} {s : ax_σ} {r0 : Int64} (h : f_X_word g a1 s = some r0) : ax_T l D cA ad al θ y_X_word (.code y_X_word prog_1_method_12_code 2 (some .long)) 1 [.inr (0, 23), .inl (.int (a1))] (ax_m s ρ) (some (.inl (.long r0))) (ax_m s ρ) := by
  refine ax_T_of (own := "CipherNotation") (by decide) rfl (Nat.le_of_ble_eq_true rfl) [(0, .inr (0, 23)), (1, .inl (.int (a1)))] rfl ?_
  intro G hA
  have hB := hA.B
  have hK := hB.K
  have hal := hB.la
  unfold f_X_word at h
  refine ax_bk hK (ax_fc (ax_v_ld (ax_r_aload_n (i := 0) d_X_word_0 rfl)) ax_fn) (y := (1, [(0, .inr (0, 23)), (1, .inl (.int (a1)))], [.inr (0, 23)], ax_m (s) ρ)) rfl ⟨trivial, trivial⟩ ?_
  obtain ⟨_, q1, h⟩ := ax_bd h
  refine ax_bV (rest := []) hB (t_X_needProgram h0 hx q1) cw_X_53 im_X_needProgram se_X_needProgram d_X_word_1 (h0 23 rfl) rfl rfl (by decide) (by decide) rfl rfl (Nat.le_of_ble_eq_true rfl) ?_
  change ax_R G 2 0 0 (4, [(0, .inr (0, 23)), (1, .inl (.int (a1)))], [], ax_m (s) ρ)
  obtain ⟨b2, h⟩ := ax_gd h
  refine ax_bk hK (ax_fc (ax_v_ld (ax_r_iload_n (i := 1) d_X_word_4 rfl)) (ax_fc (ax_v_ld (ax_r_aload_n (i := 0) d_X_word_5 rfl)) (ax_fc (ax_w_gf (e := (some (g, 0))) hal d_X_word_6 fd_X_34) (ax_fc (ax_w_gf (e := none) hal d_X_word_9 fd_X_59) (ax_fc (ax_v_pu (ax_r_iconst (v := 1) d_X_word_12 (by decide))) (ax_fc (ax_w_iald hal d_X_word_13) ax_fn)))))) (y := (14, [(0, .inr (0, 23)), (1, .inl (.int (a1)))], [.inl (.int ((s.1 g 1 ((1 : Int32)).toNatClampNeg))), .inl (.int (a1))], ax_m (s) ρ)) rfl ⟨trivial, trivial, ⟨(h0 23 rfl), hx⟩, (hg 0 rfl), trivial, ⟨(hg 1 rfl), ax_inp b2⟩, trivial⟩ ?_
  obtain ⟨_, q3, h⟩ := ax_bd h
  refine ax_bS (rest := []) hB (t_X_needIndex q3) cw_X_69 sm_X_needIndex d_X_word_14 (by decide) (by decide) rfl rfl (Nat.le_of_ble_eq_true rfl) ?_
  change ax_R G 2 0 0 (17, [(0, .inr (0, 23)), (1, .inl (.int (a1)))], [], ax_m (s) ρ)
  obtain ⟨b4, h⟩ := ax_gd h
  refine ax_bk hK (ax_fc (ax_v_ld (ax_r_aload_n (i := 0) d_X_word_17 rfl)) (ax_fc (ax_w_gf (e := none) hal d_X_word_18 fd_X_30) (ax_fc (ax_w_gf (e := none) hal d_X_word_21 fd_X_87) (ax_fc (ax_v_ld (ax_r_iload_n (i := 1) d_X_word_24 rfl)) (ax_fc (ax_w_lald hal d_X_word_25) ax_fn))))) (y := (26, [(0, .inr (0, 23)), (1, .inl (.int (a1)))], [.inl (.long ((s.2 0 34 (a1).toNatClampNeg)))], ax_m (s) ρ)) rfl ⟨trivial, (h0 23 rfl), (h0 32 rfl), trivial, ⟨(h0 34 rfl), ax_inp b4⟩, trivial⟩ ?_
  cases h
  exact ax_lret hA d_X_word_26
def y_X_subkey : MethodName := ⟨"CipherNotation", "subkey", "(I)J"⟩
theorem d_X_subkey_0 : decode prog_1_method_13_code 0 = .ok (.aload_n 0, 1) := by decide +kernel
theorem d_X_subkey_1 : decode prog_1_method_13_code 1 = .ok (.invokevirtual (53), 3) := by decide +kernel
theorem d_X_subkey_4 : decode prog_1_method_13_code 4 = .ok (.iload_n 1, 1) := by decide +kernel
theorem d_X_subkey_5 : decode prog_1_method_13_code 5 = .ok (.aload_n 0, 1) := by decide +kernel
theorem d_X_subkey_6 : decode prog_1_method_13_code 6 = .ok (.getfield (34), 3) := by decide +kernel
theorem d_X_subkey_9 : decode prog_1_method_13_code 9 = .ok (.getfield (59), 3) := by decide +kernel
theorem d_X_subkey_12 : decode prog_1_method_13_code 12 = .ok (.iconst 4, 1) := by decide +kernel
theorem d_X_subkey_13 : decode prog_1_method_13_code 13 = .ok (.iaload, 1) := by decide +kernel
theorem d_X_subkey_14 : decode prog_1_method_13_code 14 = .ok (.invokestatic (69), 3) := by decide +kernel
theorem d_X_subkey_17 : decode prog_1_method_13_code 17 = .ok (.aload_n 0, 1) := by decide +kernel
theorem d_X_subkey_18 : decode prog_1_method_13_code 18 = .ok (.getfield (30), 3) := by decide +kernel
theorem d_X_subkey_21 : decode prog_1_method_13_code 21 = .ok (.invokevirtual (90), 3) := by decide +kernel
theorem d_X_subkey_24 : decode prog_1_method_13_code 24 = .ok (.aload_n 0, 1) := by decide +kernel
theorem d_X_subkey_25 : decode prog_1_method_13_code 25 = .ok (.getfield (30), 3) := by decide +kernel
theorem d_X_subkey_28 : decode prog_1_method_13_code 28 = .ok (.getfield (93), 3) := by decide +kernel
theorem d_X_subkey_31 : decode prog_1_method_13_code 31 = .ok (.iload_n 1, 1) := by decide +kernel
theorem d_X_subkey_32 : decode prog_1_method_13_code 32 = .ok (.laload, 1) := by decide +kernel
theorem d_X_subkey_33 : decode prog_1_method_13_code 33 = .ok (.lreturn, 1) := by decide +kernel
set_option maxRecDepth 100000 in
theorem cw_X_90 : ax_cw "CipherNotation" 90 y_M_makeSubkeys (.code y_M_makeSubkeys prog_4_method_3_code 2 none) 0 := ⟨nw_4 60 (by decide +kernel) rfl, nw_1 3 (by decide +kernel) rfl, nw_4 63 rfl rfl, by decide +kernel, by decide +kernel⟩
theorem fd_X_93 : ax_fd "CipherNotation" 93 2 2 := ⟨nC2, nT2, 9, nY2, rfl, nW2, by decide, nw_1 94 (by decide +kernel) rfl, nO2, nA2⟩
def f_X_subkey (F : Nat) (g : Nat) (a1 : Int32) (s : ax_σ) : Option (Int64 × ax_σ) :=
  Option.bind (f_X_needProgram g) (fun _ =>
    bif ax_in (4 : Int32) 8 then
    Option.bind (f_X_needIndex a1 (s.1 g 1 ((4 : Int32)).toNatClampNeg)) (fun _ =>
      Option.bind (f_M_makeSubkeys F g s) (fun s4 =>
        bif ax_in a1 32 then
        some (((s4.2 0 35 (a1).toNatClampNeg), s4))
        else none))
    else none)
set_option maxHeartbeats 4000000 in
set_option maxRecDepth 100000 in
theorem t_X_subkey {l : Launch} {D : va_G} {cA : Nat → ClassId} {ad : Nat → Nat → Nat} {al : List (Nat × Nat)} {θ : ax_Θ} {ρ : ax_ρ} {F : Nat} {g : Nat} (h0 : ax_M0 al) (hg : ax_Mg al g) (hr : ax_md ρ g) (hx : ρ 0 23 5 = some (g, 0)) {a1 : Int32} {s : ax_σ} {r0 : Int64} {s0 : ax_σ} (h : f_X_subkey F g a1 s = some (r0, s0)) : ax_T l D cA ad al θ y_X_subkey (.code y_X_subkey prog_1_method_13_code 2 (some .long)) 6 [.inr (0, 23), .inl (.int (a1))] (ax_m s ρ) (some (.inl (.long r0))) (ax_m s0 ρ) := by
  refine ax_T_of (own := "CipherNotation") (by decide) rfl (Nat.le_of_ble_eq_true rfl) [(0, .inr (0, 23)), (1, .inl (.int (a1)))] rfl ?_
  intro G hA
  have hB := hA.B
  have hK := hB.K
  have hal := hB.la
  unfold f_X_subkey at h
  refine ax_bk hK (ax_fc (ax_v_ld (ax_r_aload_n (i := 0) d_X_subkey_0 rfl)) ax_fn) (y := (1, [(0, .inr (0, 23)), (1, .inl (.int (a1)))], [.inr (0, 23)], ax_m (s) ρ)) rfl ⟨trivial, trivial⟩ ?_
  obtain ⟨_, q1, h⟩ := ax_bd h
  refine ax_bV (rest := []) hB (t_X_needProgram h0 hx q1) cw_X_53 im_X_needProgram se_X_needProgram d_X_subkey_1 (h0 23 rfl) rfl rfl (by decide) (by decide) rfl rfl (Nat.le_of_ble_eq_true rfl) ?_
  change ax_R G 2 0 0 (4, [(0, .inr (0, 23)), (1, .inl (.int (a1)))], [], ax_m (s) ρ)
  obtain ⟨b2, h⟩ := ax_gd h
  refine ax_bk hK (ax_fc (ax_v_ld (ax_r_iload_n (i := 1) d_X_subkey_4 rfl)) (ax_fc (ax_v_ld (ax_r_aload_n (i := 0) d_X_subkey_5 rfl)) (ax_fc (ax_w_gf (e := (some (g, 0))) hal d_X_subkey_6 fd_X_34) (ax_fc (ax_w_gf (e := none) hal d_X_subkey_9 fd_X_59) (ax_fc (ax_v_pu (ax_r_iconst (v := 4) d_X_subkey_12 (by decide))) (ax_fc (ax_w_iald hal d_X_subkey_13) ax_fn)))))) (y := (14, [(0, .inr (0, 23)), (1, .inl (.int (a1)))], [.inl (.int ((s.1 g 1 ((4 : Int32)).toNatClampNeg))), .inl (.int (a1))], ax_m (s) ρ)) rfl ⟨trivial, trivial, ⟨(h0 23 rfl), hx⟩, (hg 0 rfl), trivial, ⟨(hg 1 rfl), ax_inp b2⟩, trivial⟩ ?_
  obtain ⟨_, q3, h⟩ := ax_bd h
  refine ax_bS (rest := []) hB (t_X_needIndex q3) cw_X_69 sm_X_needIndex d_X_subkey_14 (by decide) (by decide) rfl rfl (Nat.le_of_ble_eq_true rfl) ?_
  change ax_R G 2 0 0 (17, [(0, .inr (0, 23)), (1, .inl (.int (a1)))], [], ax_m (s) ρ)
  refine ax_bk hK (ax_fc (ax_v_ld (ax_r_aload_n (i := 0) d_X_subkey_17 rfl)) (ax_fc (ax_w_gf (e := none) hal d_X_subkey_18 fd_X_30) ax_fn)) (y := (21, [(0, .inr (0, 23)), (1, .inl (.int (a1)))], [.inr (0, 32)], ax_m (s) ρ)) rfl ⟨trivial, (h0 23 rfl), trivial⟩ ?_
  obtain ⟨s4, q5, h⟩ := ax_bd h
  refine ax_bV (rest := []) hB (t_M_makeSubkeys h0 hg hr q5) cw_X_90 im_M_makeSubkeys se_M_makeSubkeys d_X_subkey_21 (h0 32 rfl) rfl rfl (by decide) (by decide) rfl rfl (Nat.le_of_ble_eq_true rfl) ?_
  change ax_R G 2 0 0 (24, [(0, .inr (0, 23)), (1, .inl (.int (a1)))], [], ax_m (s4) ρ)
  obtain ⟨b6, h⟩ := ax_gd h
  refine ax_bk hK (ax_fc (ax_v_ld (ax_r_aload_n (i := 0) d_X_subkey_24 rfl)) (ax_fc (ax_w_gf (e := none) hal d_X_subkey_25 fd_X_30) (ax_fc (ax_w_gf (e := none) hal d_X_subkey_28 fd_X_93) (ax_fc (ax_v_ld (ax_r_iload_n (i := 1) d_X_subkey_31 rfl)) (ax_fc (ax_w_lald hal d_X_subkey_32) ax_fn))))) (y := (33, [(0, .inr (0, 23)), (1, .inl (.int (a1)))], [.inl (.long ((s4.2 0 35 (a1).toNatClampNeg)))], ax_m (s4) ρ)) rfl ⟨trivial, (h0 23 rfl), (h0 32 rfl), trivial, ⟨(h0 35 rfl), ax_inp b6⟩, trivial⟩ ?_
  cases h
  exact ax_lret hA d_X_subkey_33
def y_X_encrypt : MethodName := ⟨"CipherNotation", "encrypt", "()I"⟩
theorem d_X_encrypt_0 : decode prog_1_method_14_code 0 = .ok (.aload_n 0, 1) := by decide +kernel
theorem d_X_encrypt_1 : decode prog_1_method_14_code 1 = .ok (.invokevirtual (53), 3) := by decide +kernel
theorem d_X_encrypt_4 : decode prog_1_method_14_code 4 = .ok (.aload_n 0, 1) := by decide +kernel
theorem d_X_encrypt_5 : decode prog_1_method_14_code 5 = .ok (.getfield (30), 3) := by decide +kernel
theorem d_X_encrypt_8 : decode prog_1_method_14_code 8 = .ok (.iconst 0, 1) := by decide +kernel
theorem d_X_encrypt_9 : decode prog_1_method_14_code 9 = .ok (.aload_n 0, 1) := by decide +kernel
theorem d_X_encrypt_10 : decode prog_1_method_14_code 10 = .ok (.getfield (34), 3) := by decide +kernel
theorem d_X_encrypt_13 : decode prog_1_method_14_code 13 = .ok (.getfield (59), 3) := by decide +kernel
theorem d_X_encrypt_16 : decode prog_1_method_14_code 16 = .ok (.iconst 5, 1) := by decide +kernel
theorem d_X_encrypt_17 : decode prog_1_method_14_code 17 = .ok (.iaload, 1) := by decide +kernel
theorem d_X_encrypt_18 : decode prog_1_method_14_code 18 = .ok (.invokevirtual (96), 3) := by decide +kernel
theorem d_X_encrypt_21 : decode prog_1_method_14_code 21 = .ok (.aload_n 0, 1) := by decide +kernel
theorem d_X_encrypt_22 : decode prog_1_method_14_code 22 = .ok (.getfield (34), 3) := by decide +kernel
theorem d_X_encrypt_25 : decode prog_1_method_14_code 25 = .ok (.getfield (59), 3) := by decide +kernel
theorem d_X_encrypt_28 : decode prog_1_method_14_code 28 = .ok (.bipush (6), 2) := by decide +kernel
theorem d_X_encrypt_30 : decode prog_1_method_14_code 30 = .ok (.iaload, 1) := by decide +kernel
theorem d_X_encrypt_31 : decode prog_1_method_14_code 31 = .ok (.ireturn, 1) := by decide +kernel
set_option maxRecDepth 100000 in
theorem cw_X_96 : ax_cw "CipherNotation" 96 y_M_go (.code y_M_go prog_4_method_4_code 5 none) 2 := ⟨nw_4 92 (by decide +kernel) rfl, nw_1 3 (by decide +kernel) rfl, nw_4 95 rfl rfl, by decide +kernel, by decide +kernel⟩
theorem im_M_go : Cond.instanceMethod y_M_go ∈ ax_tbl := nw_4 93 (by decide +kernel) rfl
theorem se_M_go : Cond.selects y_M_go.cls y_M_go y_M_go ∈ ax_tbl := nw_4 94 (by decide +kernel) rfl
def f_X_encrypt (F : Nat) (g : Nat) (s : ax_σ) : Option (Int32 × ax_σ) :=
  Option.bind (f_X_needProgram g) (fun _ =>
    bif ax_in (5 : Int32) 8 then
    Option.bind (f_M_go F g (0 : Int32) (s.1 g 1 ((5 : Int32)).toNatClampNeg) s) (fun s3 =>
      bif ax_in (6 : Int32) 8 then
      some (((s3.1 g 1 ((6 : Int32)).toNatClampNeg), s3))
      else none)
    else none)
set_option maxHeartbeats 4000000 in
set_option maxRecDepth 100000 in
theorem t_X_encrypt {l : Launch} {D : va_G} {cA : Nat → ClassId} {ad : Nat → Nat → Nat} {al : List (Nat × Nat)} {θ : ax_Θ} {ρ : ax_ρ} {F : Nat} {g : Nat} (h0 : ax_M0 al) (hg : ax_Mg al g) (hr : ax_md ρ g) (hx : ρ 0 23 5 = some (g, 0))  {s : ax_σ} {r0 : Int32} {s0 : ax_σ} (h : f_X_encrypt F g s = some (r0, s0)) : ax_T l D cA ad al θ y_X_encrypt (.code y_X_encrypt prog_1_method_14_code 1 (some .int)) 7 [.inr (0, 23)] (ax_m s ρ) (some (.inl (.int r0))) (ax_m s0 ρ) := by
  refine ax_T_of (own := "CipherNotation") (by decide) rfl (Nat.le_of_ble_eq_true rfl) [(0, .inr (0, 23))] rfl ?_
  intro G hA
  have hB := hA.B
  have hK := hB.K
  have hal := hB.la
  unfold f_X_encrypt at h
  refine ax_bk hK (ax_fc (ax_v_ld (ax_r_aload_n (i := 0) d_X_encrypt_0 rfl)) ax_fn) (y := (1, [(0, .inr (0, 23))], [.inr (0, 23)], ax_m (s) ρ)) rfl ⟨trivial, trivial⟩ ?_
  obtain ⟨_, q1, h⟩ := ax_bd h
  refine ax_bV (rest := []) hB (t_X_needProgram h0 hx q1) cw_X_53 im_X_needProgram se_X_needProgram d_X_encrypt_1 (h0 23 rfl) rfl rfl (by decide) (by decide) rfl rfl (Nat.le_of_ble_eq_true rfl) ?_
  change ax_R G 1 0 0 (4, [(0, .inr (0, 23))], [], ax_m (s) ρ)
  obtain ⟨b2, h⟩ := ax_gd h
  refine ax_bk hK (ax_fc (ax_v_ld (ax_r_aload_n (i := 0) d_X_encrypt_4 rfl)) (ax_fc (ax_w_gf (e := none) hal d_X_encrypt_5 fd_X_30) (ax_fc (ax_v_pu (ax_r_iconst (v := 0) d_X_encrypt_8 (by decide))) (ax_fc (ax_v_ld (ax_r_aload_n (i := 0) d_X_encrypt_9 rfl)) (ax_fc (ax_w_gf (e := (some (g, 0))) hal d_X_encrypt_10 fd_X_34) (ax_fc (ax_w_gf (e := none) hal d_X_encrypt_13 fd_X_59) (ax_fc (ax_v_pu (ax_r_iconst (v := 5) d_X_encrypt_16 (by decide))) (ax_fc (ax_w_iald hal d_X_encrypt_17) ax_fn)))))))) (y := (18, [(0, .inr (0, 23))], [.inl (.int ((s.1 g 1 ((5 : Int32)).toNatClampNeg))), .inl (.int ((0 : Int32))), .inr (0, 32)], ax_m (s) ρ)) rfl ⟨trivial, (h0 23 rfl), trivial, trivial, ⟨(h0 23 rfl), hx⟩, (hg 0 rfl), trivial, ⟨(hg 1 rfl), ax_inp b2⟩, trivial⟩ ?_
  obtain ⟨s3, q4, h⟩ := ax_bd h
  refine ax_bV (rest := []) hB (t_M_go h0 hg hr q4) cw_X_96 im_M_go se_M_go d_X_encrypt_18 (h0 32 rfl) rfl rfl (by decide) (by decide) rfl rfl (Nat.le_of_ble_eq_true rfl) ?_
  change ax_R G 1 0 0 (21, [(0, .inr (0, 23))], [], ax_m (s3) ρ)
  obtain ⟨b5, h⟩ := ax_gd h
  refine ax_bk hK (ax_fc (ax_v_ld (ax_r_aload_n (i := 0) d_X_encrypt_21 rfl)) (ax_fc (ax_w_gf (e := (some (g, 0))) hal d_X_encrypt_22 fd_X_34) (ax_fc (ax_w_gf (e := none) hal d_X_encrypt_25 fd_X_59) (ax_fc (ax_v_pu (ax_r_bipush (v := 6) d_X_encrypt_28 (by decide))) (ax_fc (ax_w_iald hal d_X_encrypt_30) ax_fn))))) (y := (31, [(0, .inr (0, 23))], [.inl (.int ((s3.1 g 1 ((6 : Int32)).toNatClampNeg)))], ax_m (s3) ρ)) rfl ⟨trivial, ⟨(h0 23 rfl), hx⟩, (hg 0 rfl), trivial, ⟨(hg 1 rfl), ax_inp b5⟩, trivial⟩ ?_
  cases h
  exact ax_iret hA d_X_encrypt_31
def y_X_decrypt : MethodName := ⟨"CipherNotation", "decrypt", "()I"⟩
theorem d_X_decrypt_0 : decode prog_1_method_15_code 0 = .ok (.aload_n 0, 1) := by decide +kernel
theorem d_X_decrypt_1 : decode prog_1_method_15_code 1 = .ok (.invokevirtual (53), 3) := by decide +kernel
theorem d_X_decrypt_4 : decode prog_1_method_15_code 4 = .ok (.aload_n 0, 1) := by decide +kernel
theorem d_X_decrypt_5 : decode prog_1_method_15_code 5 = .ok (.getfield (30), 3) := by decide +kernel
theorem d_X_decrypt_8 : decode prog_1_method_15_code 8 = .ok (.aload_n 0, 1) := by decide +kernel
theorem d_X_decrypt_9 : decode prog_1_method_15_code 9 = .ok (.getfield (34), 3) := by decide +kernel
theorem d_X_decrypt_12 : decode prog_1_method_15_code 12 = .ok (.getfield (59), 3) := by decide +kernel
theorem d_X_decrypt_15 : decode prog_1_method_15_code 15 = .ok (.iconst 5, 1) := by decide +kernel
theorem d_X_decrypt_16 : decode prog_1_method_15_code 16 = .ok (.iaload, 1) := by decide +kernel
theorem d_X_decrypt_17 : decode prog_1_method_15_code 17 = .ok (.iconst 0, 1) := by decide +kernel
theorem d_X_decrypt_18 : decode prog_1_method_15_code 18 = .ok (.invokevirtual (96), 3) := by decide +kernel
theorem d_X_decrypt_21 : decode prog_1_method_15_code 21 = .ok (.aload_n 0, 1) := by decide +kernel
theorem d_X_decrypt_22 : decode prog_1_method_15_code 22 = .ok (.getfield (34), 3) := by decide +kernel
theorem d_X_decrypt_25 : decode prog_1_method_15_code 25 = .ok (.getfield (59), 3) := by decide +kernel
theorem d_X_decrypt_28 : decode prog_1_method_15_code 28 = .ok (.bipush (6), 2) := by decide +kernel
theorem d_X_decrypt_30 : decode prog_1_method_15_code 30 = .ok (.iaload, 1) := by decide +kernel
theorem d_X_decrypt_31 : decode prog_1_method_15_code 31 = .ok (.ireturn, 1) := by decide +kernel
def f_X_decrypt (F : Nat) (g : Nat) (s : ax_σ) : Option (Int32 × ax_σ) :=
  Option.bind (f_X_needProgram g) (fun _ =>
    bif ax_in (5 : Int32) 8 then
    Option.bind (f_M_go F g (s.1 g 1 ((5 : Int32)).toNatClampNeg) (0 : Int32) s) (fun s3 =>
      bif ax_in (6 : Int32) 8 then
      some (((s3.1 g 1 ((6 : Int32)).toNatClampNeg), s3))
      else none)
    else none)
set_option maxHeartbeats 4000000 in
set_option maxRecDepth 100000 in
theorem t_X_decrypt {l : Launch} {D : va_G} {cA : Nat → ClassId} {ad : Nat → Nat → Nat} {al : List (Nat × Nat)} {θ : ax_Θ} {ρ : ax_ρ} {F : Nat} {g : Nat} (h0 : ax_M0 al) (hg : ax_Mg al g) (hr : ax_md ρ g) (hx : ρ 0 23 5 = some (g, 0))  {s : ax_σ} {r0 : Int32} {s0 : ax_σ} (h : f_X_decrypt F g s = some (r0, s0)) : ax_T l D cA ad al θ y_X_decrypt (.code y_X_decrypt prog_1_method_15_code 1 (some .int)) 7 [.inr (0, 23)] (ax_m s ρ) (some (.inl (.int r0))) (ax_m s0 ρ) := by
  refine ax_T_of (own := "CipherNotation") (by decide) rfl (Nat.le_of_ble_eq_true rfl) [(0, .inr (0, 23))] rfl ?_
  intro G hA
  have hB := hA.B
  have hK := hB.K
  have hal := hB.la
  unfold f_X_decrypt at h
  refine ax_bk hK (ax_fc (ax_v_ld (ax_r_aload_n (i := 0) d_X_decrypt_0 rfl)) ax_fn) (y := (1, [(0, .inr (0, 23))], [.inr (0, 23)], ax_m (s) ρ)) rfl ⟨trivial, trivial⟩ ?_
  obtain ⟨_, q1, h⟩ := ax_bd h
  refine ax_bV (rest := []) hB (t_X_needProgram h0 hx q1) cw_X_53 im_X_needProgram se_X_needProgram d_X_decrypt_1 (h0 23 rfl) rfl rfl (by decide) (by decide) rfl rfl (Nat.le_of_ble_eq_true rfl) ?_
  change ax_R G 1 0 0 (4, [(0, .inr (0, 23))], [], ax_m (s) ρ)
  obtain ⟨b2, h⟩ := ax_gd h
  refine ax_bk hK (ax_fc (ax_v_ld (ax_r_aload_n (i := 0) d_X_decrypt_4 rfl)) (ax_fc (ax_w_gf (e := none) hal d_X_decrypt_5 fd_X_30) (ax_fc (ax_v_ld (ax_r_aload_n (i := 0) d_X_decrypt_8 rfl)) (ax_fc (ax_w_gf (e := (some (g, 0))) hal d_X_decrypt_9 fd_X_34) (ax_fc (ax_w_gf (e := none) hal d_X_decrypt_12 fd_X_59) (ax_fc (ax_v_pu (ax_r_iconst (v := 5) d_X_decrypt_15 (by decide))) (ax_fc (ax_w_iald hal d_X_decrypt_16) (ax_fc (ax_v_pu (ax_r_iconst (v := 0) d_X_decrypt_17 (by decide))) ax_fn)))))))) (y := (18, [(0, .inr (0, 23))], [.inl (.int ((0 : Int32))), .inl (.int ((s.1 g 1 ((5 : Int32)).toNatClampNeg))), .inr (0, 32)], ax_m (s) ρ)) rfl ⟨trivial, (h0 23 rfl), trivial, ⟨(h0 23 rfl), hx⟩, (hg 0 rfl), trivial, ⟨(hg 1 rfl), ax_inp b2⟩, trivial, trivial⟩ ?_
  obtain ⟨s3, q4, h⟩ := ax_bd h
  refine ax_bV (rest := []) hB (t_M_go h0 hg hr q4) cw_X_96 im_M_go se_M_go d_X_decrypt_18 (h0 32 rfl) rfl rfl (by decide) (by decide) rfl rfl (Nat.le_of_ble_eq_true rfl) ?_
  change ax_R G 1 0 0 (21, [(0, .inr (0, 23))], [], ax_m (s3) ρ)
  obtain ⟨b5, h⟩ := ax_gd h
  refine ax_bk hK (ax_fc (ax_v_ld (ax_r_aload_n (i := 0) d_X_decrypt_21 rfl)) (ax_fc (ax_w_gf (e := (some (g, 0))) hal d_X_decrypt_22 fd_X_34) (ax_fc (ax_w_gf (e := none) hal d_X_decrypt_25 fd_X_59) (ax_fc (ax_v_pu (ax_r_bipush (v := 6) d_X_decrypt_28 (by decide))) (ax_fc (ax_w_iald hal d_X_decrypt_30) ax_fn))))) (y := (31, [(0, .inr (0, 23))], [.inl (.int ((s3.1 g 1 ((6 : Int32)).toNatClampNeg)))], ax_m (s3) ρ)) rfl ⟨trivial, ⟨(h0 23 rfl), hx⟩, (hg 0 rfl), trivial, ⟨(hg 1 rfl), ax_inp b5⟩, trivial⟩ ?_
  cases h
  exact ax_iret hA d_X_decrypt_31
def y_X_apply : MethodName := ⟨"CipherNotation", "apply", "(II)I"⟩
theorem d_X_apply_0 : decode prog_1_method_16_code 0 = .ok (.aload_n 0, 1) := by decide +kernel
theorem d_X_apply_1 : decode prog_1_method_16_code 1 = .ok (.invokevirtual (53), 3) := by decide +kernel
theorem d_X_apply_4 : decode prog_1_method_16_code 4 = .ok (.aload_n 0, 1) := by decide +kernel
theorem d_X_apply_5 : decode prog_1_method_16_code 5 = .ok (.getfield (34), 3) := by decide +kernel
theorem d_X_apply_8 : decode prog_1_method_16_code 8 = .ok (.getfield (59), 3) := by decide +kernel
theorem d_X_apply_11 : decode prog_1_method_16_code 11 = .ok (.iconst 5, 1) := by decide +kernel
theorem d_X_apply_12 : decode prog_1_method_16_code 12 = .ok (.iaload, 1) := by decide +kernel
theorem d_X_apply_13 : decode prog_1_method_16_code 13 = .ok (.istore_n 3, 1) := by decide +kernel
theorem d_X_apply_14 : decode prog_1_method_16_code 14 = .ok (.iload_n 1, 1) := by decide +kernel
theorem d_X_apply_15 : decode prog_1_method_16_code 15 = .ok (.ifCond .lt (17), 3) := by decide +kernel
theorem d_X_apply_18 : decode prog_1_method_16_code 18 = .ok (.iload_n 1, 1) := by decide +kernel
theorem d_X_apply_19 : decode prog_1_method_16_code 19 = .ok (.iload_n 3, 1) := by decide +kernel
theorem d_X_apply_20 : decode prog_1_method_16_code 20 = .ok (.if_icmp .gt (12), 3) := by decide +kernel
theorem d_X_apply_23 : decode prog_1_method_16_code 23 = .ok (.iload_n 2, 1) := by decide +kernel
theorem d_X_apply_24 : decode prog_1_method_16_code 24 = .ok (.ifCond .lt (8), 3) := by decide +kernel
theorem d_X_apply_27 : decode prog_1_method_16_code 27 = .ok (.iload_n 2, 1) := by decide +kernel
theorem d_X_apply_28 : decode prog_1_method_16_code 28 = .ok (.iload_n 3, 1) := by decide +kernel
theorem d_X_apply_29 : decode prog_1_method_16_code 29 = .ok (.if_icmp .le (11), 3) := by decide +kernel
theorem d_X_apply_32 : decode prog_1_method_16_code 32 = .ok (.new (56), 3) := by decide +kernel
theorem d_X_apply_35 : decode prog_1_method_16_code 35 = .ok (.dup, 1) := by decide +kernel
theorem d_X_apply_36 : decode prog_1_method_16_code 36 = .ok (.invokespecial (58), 3) := by decide +kernel
theorem d_X_apply_39 : decode prog_1_method_16_code 39 = .ok (.athrow, 1) := by decide +kernel
theorem d_X_apply_40 : decode prog_1_method_16_code 40 = .ok (.aload_n 0, 1) := by decide +kernel
theorem d_X_apply_41 : decode prog_1_method_16_code 41 = .ok (.getfield (30), 3) := by decide +kernel
theorem d_X_apply_44 : decode prog_1_method_16_code 44 = .ok (.iload_n 1, 1) := by decide +kernel
theorem d_X_apply_45 : decode prog_1_method_16_code 45 = .ok (.iload_n 2, 1) := by decide +kernel
theorem d_X_apply_46 : decode prog_1_method_16_code 46 = .ok (.invokevirtual (96), 3) := by decide +kernel
theorem d_X_apply_49 : decode prog_1_method_16_code 49 = .ok (.iload_n 1, 1) := by decide +kernel
theorem d_X_apply_50 : decode prog_1_method_16_code 50 = .ok (.iload_n 2, 1) := by decide +kernel
theorem d_X_apply_51 : decode prog_1_method_16_code 51 = .ok (.if_icmp .ge (9), 3) := by decide +kernel
theorem d_X_apply_54 : decode prog_1_method_16_code 54 = .ok (.iload_n 2, 1) := by decide +kernel
theorem d_X_apply_55 : decode prog_1_method_16_code 55 = .ok (.iload_n 1, 1) := by decide +kernel
theorem d_X_apply_56 : decode prog_1_method_16_code 56 = .ok (.isub, 1) := by decide +kernel
theorem d_X_apply_57 : decode prog_1_method_16_code 57 = .ok (.goto (6), 3) := by decide +kernel
theorem d_X_apply_60 : decode prog_1_method_16_code 60 = .ok (.iload_n 1, 1) := by decide +kernel
theorem d_X_apply_61 : decode prog_1_method_16_code 61 = .ok (.iload_n 2, 1) := by decide +kernel
theorem d_X_apply_62 : decode prog_1_method_16_code 62 = .ok (.isub, 1) := by decide +kernel
theorem d_X_apply_63 : decode prog_1_method_16_code 63 = .ok (.ireturn, 1) := by decide +kernel
def f_X_apply (F : Nat) (g : Nat) (a1 : Int32) (a2 : Int32) (s : ax_σ) : Option (Int32 × ax_σ) :=
  Option.bind (f_X_needProgram g) (fun _ =>
    bif ax_in (5 : Int32) 8 then
    Option.bind (
      if a1 < (0 : Int32) then
        some true
      else
        if (s.1 g 1 ((5 : Int32)).toNatClampNeg) < a1 then
          some true
        else
          if a2 < (0 : Int32) then
            some true
          else
            if a2 ≤ (s.1 g 1 ((5 : Int32)).toNatClampNeg) then
              some false
            else
              some true) (fun w10 => bif w10 then
      none
    else
      Option.bind (f_M_go F g a1 a2 s) (fun s7 =>
        if a2 ≤ a1 then
          some (((a1 - a2), s7))
        else
          some (((a2 - a1), s7))))
    else none)
set_option maxHeartbeats 4000000 in
set_option maxRecDepth 100000 in
theorem t_X_apply {l : Launch} {D : va_G} {cA : Nat → ClassId} {ad : Nat → Nat → Nat} {al : List (Nat × Nat)} {θ : ax_Θ} {ρ : ax_ρ} {F : Nat} {g : Nat} (h0 : ax_M0 al) (hg : ax_Mg al g) (hr : ax_md ρ g) (hx : ρ 0 23 5 = some (g, 0)) {a1 : Int32} {a2 : Int32} {s : ax_σ} {r0 : Int32} {s0 : ax_σ} (h : f_X_apply F g a1 a2 s = some (r0, s0)) : ax_T l D cA ad al θ y_X_apply (.code y_X_apply prog_1_method_16_code 4 (some .int)) 7 [.inr (0, 23), .inl (.int (a1)), .inl (.int (a2))] (ax_m s ρ) (some (.inl (.int r0))) (ax_m s0 ρ) := by
  refine ax_T_of (own := "CipherNotation") (by decide) rfl (Nat.le_of_ble_eq_true rfl) [(0, .inr (0, 23)), (1, .inl (.int (a1))), (2, .inl (.int (a2)))] rfl ?_
  intro G hA
  have hB := hA.B
  have hK := hB.K
  have hal := hB.la
  unfold f_X_apply at h
  refine ax_bk hK (ax_fc (ax_v_ld (ax_r_aload_n (i := 0) d_X_apply_0 rfl)) ax_fn) (y := (1, [(0, .inr (0, 23)), (1, .inl (.int (a1))), (2, .inl (.int (a2)))], [.inr (0, 23)], ax_m (s) ρ)) rfl ⟨trivial, trivial⟩ ?_
  obtain ⟨_, q1, h⟩ := ax_bd h
  refine ax_bV (rest := []) hB (t_X_needProgram h0 hx q1) cw_X_53 im_X_needProgram se_X_needProgram d_X_apply_1 (h0 23 rfl) rfl rfl (by decide) (by decide) rfl rfl (Nat.le_of_ble_eq_true rfl) ?_
  change ax_R G 4 0 0 (4, [(0, .inr (0, 23)), (1, .inl (.int (a1))), (2, .inl (.int (a2)))], [], ax_m (s) ρ)
  obtain ⟨b2, h⟩ := ax_gd h
  refine ax_bk hK (ax_fc (ax_v_ld (ax_r_aload_n (i := 0) d_X_apply_4 rfl)) (ax_fc (ax_w_gf (e := (some (g, 0))) hal d_X_apply_5 fd_X_34) (ax_fc (ax_w_gf (e := none) hal d_X_apply_8 fd_X_59) (ax_fc (ax_v_pu (ax_r_iconst (v := 5) d_X_apply_11 (by decide))) (ax_fc (ax_w_iald hal d_X_apply_12) (ax_fc (ax_v_so (ax_r_istore_n (i := 3) d_X_apply_13 rfl)) (ax_fc (ax_v_ld (ax_r_iload_n (i := 1) d_X_apply_14 rfl)) ax_fn))))))) (y := (15, [(3, .inl (.int ((s.1 g 1 ((5 : Int32)).toNatClampNeg)))), (0, .inr (0, 23)), (1, .inl (.int (a1))), (2, .inl (.int (a2)))], [.inl (.int (a1))], ax_m (s) ρ)) rfl ⟨trivial, ⟨(h0 23 rfl), hx⟩, (hg 0 rfl), trivial, ⟨(hg 1 rfl), ax_inp b2⟩, trivial, trivial, trivial⟩ ?_
  obtain ⟨w10, hw10, h⟩ := ax_bd h
  have KTw10 : w10 = true → ax_R G 4 0 0 (32, [], [], ax_m (s) ρ) := by
    intro e9
    subst w10
    replace h := ax_ct h
    cases h
  have KFw10 : w10 = false → ax_R G 4 0 0 (40, [(0, .inr (0, 23)), (1, .inl (.int (a1))), (2, .inl (.int (a2)))], [], ax_m (s) ρ) := by
    intro e9
    subst w10
    replace h := ax_cf h
    refine ax_bk hK (ax_fc (ax_v_ld (ax_r_aload_n (i := 0) d_X_apply_40 rfl)) (ax_fc (ax_w_gf (e := none) hal d_X_apply_41 fd_X_30) (ax_fc (ax_v_ld (ax_r_iload_n (i := 1) d_X_apply_44 rfl)) (ax_fc (ax_v_ld (ax_r_iload_n (i := 2) d_X_apply_45 rfl)) ax_fn)))) (y := (46, [(0, .inr (0, 23)), (1, .inl (.int (a1))), (2, .inl (.int (a2)))], [.inl (.int (a2)), .inl (.int (a1)), .inr (0, 32)], ax_m (s) ρ)) rfl ⟨trivial, (h0 23 rfl), trivial, trivial, trivial⟩ ?_
    obtain ⟨s7, q8, h⟩ := ax_bd h
    refine ax_bV (rest := []) hB (t_M_go h0 hg hr q8) cw_X_96 im_M_go se_M_go d_X_apply_46 (h0 32 rfl) rfl rfl (by decide) (by decide) rfl rfl (Nat.le_of_ble_eq_true rfl) ?_
    change ax_R G 4 0 0 (49, [(0, .inr (0, 23)), (1, .inl (.int (a1))), (2, .inl (.int (a2)))], [], ax_m (s7) ρ)
    refine ax_bk hK (ax_fc (ax_v_ld (ax_r_iload_n (i := 1) d_X_apply_49 rfl)) (ax_fc (ax_v_ld (ax_r_iload_n (i := 2) d_X_apply_50 rfl)) ax_fn)) (y := (51, [(0, .inr (0, 23)), (1, .inl (.int (a1))), (2, .inl (.int (a2)))], [.inl (.int (a2)), .inl (.int (a1))], ax_m (s7) ρ)) rfl ⟨trivial, trivial, trivial⟩ ?_
    refine ax_ic_ge (tgt := 60) hK d_X_apply_51 (by decide) (fun c9 => ?_) (fun c9 => ?_)
    · replace h := ax_it c9 h
      refine ax_bk hK (ax_fc (ax_v_ld (ax_r_iload_n (i := 1) d_X_apply_60 rfl)) (ax_fc (ax_v_ld (ax_r_iload_n (i := 2) d_X_apply_61 rfl)) (ax_fc (ax_v_pu (ax_r_isub d_X_apply_62)) ax_fn))) (y := (63, [(0, .inr (0, 23)), (1, .inl (.int (a1))), (2, .inl (.int (a2)))], [.inl (.int ((a1 - a2)))], ax_m (s7) ρ)) rfl ⟨trivial, trivial, trivial, trivial⟩ ?_
      cases h
      exact ax_iret hA d_X_apply_63
    · replace h := ax_if c9 h
      refine ax_bk hK (ax_fc (ax_v_ld (ax_r_iload_n (i := 2) d_X_apply_54 rfl)) (ax_fc (ax_v_ld (ax_r_iload_n (i := 1) d_X_apply_55 rfl)) (ax_fc (ax_v_pu (ax_r_isub d_X_apply_56)) (ax_fc (ax_v_go (tgt := 63) d_X_apply_57 (by decide)) ax_fn)))) (y := (63, [(0, .inr (0, 23)), (1, .inl (.int (a1))), (2, .inl (.int (a2)))], [.inl (.int ((a2 - a1)))], ax_m (s7) ρ)) rfl ⟨trivial, trivial, trivial, trivial, trivial⟩ ?_
      cases h
      exact ax_iret hA d_X_apply_63
  clear h
  have h := hw10
  refine ax_if_lt (tgt := 32) hK d_X_apply_15 (by decide) (fun c6 => ?_) (fun c6 => ?_)
  · replace h := ax_it c6 h
    cases h
    exact ax_Lsub [] rfl (KTw10 rfl)
  · replace h := ax_if c6 h
    refine ax_bk hK (ax_fc (ax_v_ld (ax_r_iload_n (i := 1) d_X_apply_18 rfl)) (ax_fc (ax_v_ld (ax_r_iload_n (i := 3) d_X_apply_19 rfl)) ax_fn)) (y := (20, [(3, .inl (.int ((s.1 g 1 ((5 : Int32)).toNatClampNeg)))), (0, .inr (0, 23)), (1, .inl (.int (a1))), (2, .inl (.int (a2)))], [.inl (.int ((s.1 g 1 ((5 : Int32)).toNatClampNeg))), .inl (.int (a1))], ax_m (s) ρ)) rfl ⟨trivial, trivial, trivial⟩ ?_
    refine ax_ic_gt (tgt := 32) hK d_X_apply_20 (by decide) (fun c5 => ?_) (fun c5 => ?_)
    · replace h := ax_it c5 h
      cases h
      exact ax_Lsub [] rfl (KTw10 rfl)
    · replace h := ax_if c5 h
      refine ax_bk hK (ax_fc (ax_v_ld (ax_r_iload_n (i := 2) d_X_apply_23 rfl)) ax_fn) (y := (24, [(3, .inl (.int ((s.1 g 1 ((5 : Int32)).toNatClampNeg)))), (0, .inr (0, 23)), (1, .inl (.int (a1))), (2, .inl (.int (a2)))], [.inl (.int (a2))], ax_m (s) ρ)) rfl ⟨trivial, trivial⟩ ?_
      refine ax_if_lt (tgt := 32) hK d_X_apply_24 (by decide) (fun c4 => ?_) (fun c4 => ?_)
      · replace h := ax_it c4 h
        cases h
        exact ax_Lsub [] rfl (KTw10 rfl)
      · replace h := ax_if c4 h
        refine ax_bk hK (ax_fc (ax_v_ld (ax_r_iload_n (i := 2) d_X_apply_27 rfl)) (ax_fc (ax_v_ld (ax_r_iload_n (i := 3) d_X_apply_28 rfl)) ax_fn)) (y := (29, [(3, .inl (.int ((s.1 g 1 ((5 : Int32)).toNatClampNeg)))), (0, .inr (0, 23)), (1, .inl (.int (a1))), (2, .inl (.int (a2)))], [.inl (.int ((s.1 g 1 ((5 : Int32)).toNatClampNeg))), .inl (.int (a2))], ax_m (s) ρ)) rfl ⟨trivial, trivial, trivial⟩ ?_
        refine ax_ic_le (tgt := 40) hK d_X_apply_29 (by decide) (fun c3 => ?_) (fun c3 => ?_)
        · replace h := ax_it c3 h
          cases h
          exact ax_Lsub [1, 2, 3] rfl (KFw10 rfl)
        · replace h := ax_if c3 h
          cases h
          exact ax_Lsub [] rfl (KTw10 rfl)
