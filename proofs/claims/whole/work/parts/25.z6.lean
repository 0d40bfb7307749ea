def y_Z_written : MethodName := ⟨"CipherNotationModel", "written", "(II)J"⟩
theorem d_Z_written_0 : decode prog_8_method_31_code 0 = .ok (.lconst 0, 1) := by decide +kernel
theorem d_Z_written_1 : decode prog_8_method_31_code 1 = .ok (.lstore_n 3, 1) := by decide +kernel
theorem d_Z_written_2 : decode prog_8_method_31_code 2 = .ok (.lconst 1, 1) := by decide +kernel
theorem d_Z_written_3 : decode prog_8_method_31_code 3 = .ok (.lstore (5), 2) := by decide +kernel
theorem d_Z_written_5 : decode prog_8_method_31_code 5 = .ok (.lconst 1, 1) := by decide +kernel
theorem d_Z_written_6 : decode prog_8_method_31_code 6 = .ok (.lstore (7), 2) := by decide +kernel
theorem d_Z_written_8 : decode prog_8_method_31_code 8 = .ok (.iconst 0, 1) := by decide +kernel
theorem d_Z_written_9 : decode prog_8_method_31_code 9 = .ok (.istore (9), 2) := by decide +kernel
theorem d_Z_written_11 : decode prog_8_method_31_code 11 = .ok (.iload_n 1, 1) := by decide +kernel
theorem d_Z_written_12 : decode prog_8_method_31_code 12 = .ok (.istore (10), 2) := by decide +kernel
theorem d_Z_written_14 : decode prog_8_method_31_code 14 = .ok (.iload (10), 2) := by decide +kernel
theorem d_Z_written_16 : decode prog_8_method_31_code 16 = .ok (.iload_n 2, 1) := by decide +kernel
theorem d_Z_written_17 : decode prog_8_method_31_code 17 = .ok (.if_icmp .ge (122), 3) := by decide +kernel
theorem d_Z_written_20 : decode prog_8_method_31_code 20 = .ok (.aload_n 0, 1) := by decide +kernel
theorem d_Z_written_21 : decode prog_8_method_31_code 21 = .ok (.getfield (39), 3) := by decide +kernel
theorem d_Z_written_24 : decode prog_8_method_31_code 24 = .ok (.iload (10), 2) := by decide +kernel
theorem d_Z_written_26 : decode prog_8_method_31_code 26 = .ok (.iaload, 1) := by decide +kernel
theorem d_Z_written_27 : decode prog_8_method_31_code 27 = .ok (.iconst 2, 1) := by decide +kernel
theorem d_Z_written_28 : decode prog_8_method_31_code 28 = .ok (.if_icmp .ne (59), 3) := by decide +kernel
theorem d_Z_written_31 : decode prog_8_method_31_code 31 = .ok (.aload_n 0, 1) := by decide +kernel
theorem d_Z_written_32 : decode prog_8_method_31_code 32 = .ok (.getfield (54), 3) := by decide +kernel
theorem d_Z_written_35 : decode prog_8_method_31_code 35 = .ok (.iload (10), 2) := by decide +kernel
theorem d_Z_written_37 : decode prog_8_method_31_code 37 = .ok (.laload, 1) := by decide +kernel
theorem d_Z_written_38 : decode prog_8_method_31_code 38 = .ok (.ldc2_w (264), 3) := by decide +kernel
theorem d_Z_written_41 : decode prog_8_method_31_code 41 = .ok (.lcmp, 1) := by decide +kernel
theorem d_Z_written_42 : decode prog_8_method_31_code 42 = .ok (.ifCond .le (9), 3) := by decide +kernel
theorem d_Z_written_45 : decode prog_8_method_31_code 45 = .ok (.ldc2_w (264), 3) := by decide +kernel
theorem d_Z_written_48 : decode prog_8_method_31_code 48 = .ok (.goto (10), 3) := by decide +kernel
theorem d_Z_written_51 : decode prog_8_method_31_code 51 = .ok (.aload_n 0, 1) := by decide +kernel
theorem d_Z_written_52 : decode prog_8_method_31_code 52 = .ok (.getfield (54), 3) := by decide +kernel
theorem d_Z_written_55 : decode prog_8_method_31_code 55 = .ok (.iload (10), 2) := by decide +kernel
theorem d_Z_written_57 : decode prog_8_method_31_code 57 = .ok (.laload, 1) := by decide +kernel
theorem d_Z_written_58 : decode prog_8_method_31_code 58 = .ok (.lstore (11), 2) := by decide +kernel
theorem d_Z_written_60 : decode prog_8_method_31_code 60 = .ok (.iload (9), 2) := by decide +kernel
theorem d_Z_written_62 : decode prog_8_method_31_code 62 = .ok (.ifCond .ne (8), 3) := by decide +kernel
theorem d_Z_written_65 : decode prog_8_method_31_code 65 = .ok (.lload (11), 2) := by decide +kernel
theorem d_Z_written_67 : decode prog_8_method_31_code 67 = .ok (.goto (5), 3) := by decide +kernel
theorem d_Z_written_70 : decode prog_8_method_31_code 70 = .ok (.lload (7), 2) := by decide +kernel
theorem d_Z_written_72 : decode prog_8_method_31_code 72 = .ok (.lstore (7), 2) := by decide +kernel
theorem d_Z_written_74 : decode prog_8_method_31_code 74 = .ok (.lload (5), 2) := by decide +kernel
theorem d_Z_written_76 : decode prog_8_method_31_code 76 = .ok (.lload (11), 2) := by decide +kernel
theorem d_Z_written_78 : decode prog_8_method_31_code 78 = .ok (.lmul, 1) := by decide +kernel
theorem d_Z_written_79 : decode prog_8_method_31_code 79 = .ok (.lstore (5), 2) := by decide +kernel
theorem d_Z_written_81 : decode prog_8_method_31_code 81 = .ok (.iinc 9 (1), 3) := by decide +kernel
theorem d_Z_written_84 : decode prog_8_method_31_code 84 = .ok (.goto (49), 3) := by decide +kernel
theorem d_Z_written_87 : decode prog_8_method_31_code 87 = .ok (.aload_n 0, 1) := by decide +kernel
theorem d_Z_written_88 : decode prog_8_method_31_code 88 = .ok (.getfield (39), 3) := by decide +kernel
theorem d_Z_written_91 : decode prog_8_method_31_code 91 = .ok (.iload (10), 2) := by decide +kernel
theorem d_Z_written_93 : decode prog_8_method_31_code 93 = .ok (.iaload, 1) := by decide +kernel
theorem d_Z_written_94 : decode prog_8_method_31_code 94 = .ok (.iconst 3, 1) := by decide +kernel
theorem d_Z_written_95 : decode prog_8_method_31_code 95 = .ok (.if_icmp .ne (22), 3) := by decide +kernel
theorem d_Z_written_98 : decode prog_8_method_31_code 98 = .ok (.iinc 9 (-1), 3) := by decide +kernel
theorem d_Z_written_101 : decode prog_8_method_31_code 101 = .ok (.iload (9), 2) := by decide +kernel
theorem d_Z_written_103 : decode prog_8_method_31_code 103 = .ok (.ifCond .ne (7), 3) := by decide +kernel
theorem d_Z_written_106 : decode prog_8_method_31_code 106 = .ok (.lconst 1, 1) := by decide +kernel
theorem d_Z_written_107 : decode prog_8_method_31_code 107 = .ok (.goto (5), 3) := by decide +kernel
theorem d_Z_written_110 : decode prog_8_method_31_code 110 = .ok (.lload (7), 2) := by decide +kernel
theorem d_Z_written_112 : decode prog_8_method_31_code 112 = .ok (.lstore (5), 2) := by decide +kernel
theorem d_Z_written_114 : decode prog_8_method_31_code 114 = .ok (.goto (19), 3) := by decide +kernel
theorem d_Z_written_117 : decode prog_8_method_31_code 117 = .ok (.aload_n 0, 1) := by decide +kernel
theorem d_Z_written_118 : decode prog_8_method_31_code 118 = .ok (.getfield (39), 3) := by decide +kernel
theorem d_Z_written_121 : decode prog_8_method_31_code 121 = .ok (.iload (10), 2) := by decide +kernel
theorem d_Z_written_123 : decode prog_8_method_31_code 123 = .ok (.iaload, 1) := by decide +kernel
theorem d_Z_written_124 : decode prog_8_method_31_code 124 = .ok (.iconst 1, 1) := by decide +kernel
theorem d_Z_written_125 : decode prog_8_method_31_code 125 = .ok (.if_icmp .ne (8), 3) := by decide +kernel
theorem d_Z_written_128 : decode prog_8_method_31_code 128 = .ok (.lload_n 3, 1) := by decide +kernel
theorem d_Z_written_129 : decode prog_8_method_31_code 129 = .ok (.lload (5), 2) := by decide +kernel
theorem d_Z_written_131 : decode prog_8_method_31_code 131 = .ok (.ladd, 1) := by decide +kernel
theorem d_Z_written_132 : decode prog_8_method_31_code 132 = .ok (.lstore_n 3, 1) := by decide +kernel
theorem d_Z_written_133 : decode prog_8_method_31_code 133 = .ok (.iinc 10 (1), 3) := by decide +kernel
theorem d_Z_written_136 : decode prog_8_method_31_code 136 = .ok (.goto (-122), 3) := by decide +kernel
theorem d_Z_written_139 : decode prog_8_method_31_code 139 = .ok (.lload_n 3, 1) := by decide +kernel
theorem d_Z_written_140 : decode prog_8_method_31_code 140 = .ok (.lreturn, 1) := by decide +kernel
def lp_Z_written_14 (F : Nat) (x2 : Int32) (s : ax_σ) : Nat → Int64 → Int64 → Int64 → Int32 → Int32 → Option (Int64)
  | 0, _, _, _, _, _ => none
  | n + 1, x3, x5, x7, x9, x10 =>
    if x2 ≤ x10 then
      some x3
    else
      bif ax_in x10 240 then
      if (s.1 0 47 (x10).toNatClampNeg) = (2 : Int32) then
        bif ax_in x10 240 then
        Option.bind (
          if (lg_cmp (s.2 0 52 (x10).toNatClampNeg) (16 : Int64)) ≤ (0 : Int32) then
            bif ax_in x10 240 then
            some (s.2 0 52 (x10).toNatClampNeg)
            else none
          else
            some (16 : Int64)) (fun v11 =>
          Option.bind (
            if x9 = (0 : Int32) then
              some v11
            else
              some x7) (fun v13 =>
            lp_Z_written_14 F x2 s n x3 (x5 * v11) v13 (x9 + (1 : Int32)) (x10 + (1 : Int32))))
        else none
      else
        bif ax_in x10 240 then
        if (s.1 0 47 (x10).toNatClampNeg) = (3 : Int32) then
          Option.bind (
            if (x9 + (-1 : Int32)) = (0 : Int32) then
              some (1 : Int64)
            else
              some x7) (fun v6 =>
            lp_Z_written_14 F x2 s n x3 v6 x7 (x9 + (-1 : Int32)) (x10 + (1 : Int32)))
        else
          bif ax_in x10 240 then
          if (s.1 0 47 (x10).toNatClampNeg) = (1 : Int32) then
            lp_Z_written_14 F x2 s n (x3 + x5) x5 x7 x9 (x10 + (1 : Int32))
          else
            lp_Z_written_14 F x2 s n x3 x5 x7 x9 (x10 + (1 : Int32))
          else none
        else none
      else none
set_option maxHeartbeats 4000000 in
set_option maxRecDepth 100000 in
theorem pl_Z_written_14 {D : va_G} {cA : Nat → ClassId} {ad : Nat → Nat → Nat} {al : List (Nat × Nat)} {θ : ax_Θ} {l : Launch} {ρ : ax_ρ} {G : ax_G} {F : Nat} {x2 : Int32} {s : ax_σ} (h0 : ax_M0 al) (hB : ax_B D cA ad al θ l "CipherNotationModel" prog_8_method_31_code 13 0 G) : ∀ (n : Nat) {x3 : Int64} {x5 : Int64} {x7 : Int64} {x9 : Int32} {x10 : Int32} (out : Int64), lp_Z_written_14 F x2 s n x3 x5 x7 x9 x10 = some out → (∀ (e3 : Int64), out = e3 → ax_R G 13 0 0 (139, [(3, .inl (.long (e3)))], [], ax_m (s) ρ)) → ax_R G 13 0 0 (14, [(0, .inr (0, 38)), (2, .inl (.int (x2))), (3, .inl (.long (x3))), (5, .inl (.long (x5))), (7, .inl (.long (x7))), (9, .inl (.int (x9))), (10, .inl (.int (x10)))], [], ax_m (s) ρ) := by
  have hK := hB.K
  have hal := hB.la
  intro n
  induction n with
  | zero =>
    intro x3 x5 x7 x9 x10 out h
    cases h
  | succ n ih =>
    intro x3 x5 x7 x9 x10 out h KE
    rw [lp_Z_written_14] at h
    refine ax_bk hK (ax_fc (ax_v_ld (ax_r_iload d_Z_written_14)) (ax_fc (ax_v_ld (ax_r_iload_n (i := 2) d_Z_written_16 rfl)) ax_fn)) (y := (17, [(0, .inr (0, 38)), (2, .inl (.int (x2))), (3, .inl (.long (x3))), (5, .inl (.long (x5))), (7, .inl (.long (x7))), (9, .inl (.int (x9))), (10, .inl (.int (x10)))], [.inl (.int (x2)), .inl (.int (x10))], ax_m (s) ρ)) rfl ⟨trivial, trivial, trivial⟩ ?_
    refine ax_ic_ge (tgt := 139) hK d_Z_written_17 (by decide) (fun c15 => ?_) (fun c15 => ?_)
    · replace h := ax_it c15 h
      cases h
      exact ax_Lsub [2] rfl (KE _ rfl)
    · replace h := ax_if c15 h
      obtain ⟨b1, h⟩ := ax_gd h
      refine ax_bk hK (ax_fc (ax_v_ld (ax_r_aload_n (i := 0) d_Z_written_20 rfl)) (ax_fc (ax_w_gf (e := none) hal d_Z_written_21 fd_Z_39) (ax_fc (ax_v_ld (ax_r_iload d_Z_written_24)) (ax_fc (ax_w_iald hal d_Z_written_26) (ax_fc (ax_v_pu (ax_r_iconst (v := 2) d_Z_written_27 (by decide))) ax_fn))))) (y := (28, [(0, .inr (0, 38)), (2, .inl (.int (x2))), (3, .inl (.long (x3))), (5, .inl (.long (x5))), (7, .inl (.long (x7))), (9, .inl (.int (x9))), (10, .inl (.int (x10)))], [.inl (.int ((2 : Int32))), .inl (.int ((s.1 0 47 (x10).toNatClampNeg)))], ax_m (s) ρ)) rfl ⟨trivial, (h0 38 rfl), trivial, ⟨(h0 47 rfl), ax_inp b1⟩, trivial, trivial⟩ ?_
      refine ax_ic_ne (tgt := 87) hK d_Z_written_28 (by decide) (fun c14 => ?_) (fun c14 => ?_)
      · replace h := ax_if c14 h
        obtain ⟨b2, h⟩ := ax_gd h
        refine ax_bk hK (ax_fc (ax_v_ld (ax_r_aload_n (i := 0) d_Z_written_87 rfl)) (ax_fc (ax_w_gf (e := none) hal d_Z_written_88 fd_Z_39) (ax_fc (ax_v_ld (ax_r_iload d_Z_written_91)) (ax_fc (ax_w_iald hal d_Z_written_93) (ax_fc (ax_v_pu (ax_r_iconst (v := 3) d_Z_written_94 (by decide))) ax_fn))))) (y := (95, [(0, .inr (0, 38)), (2, .inl (.int (x2))), (3, .inl (.long (x3))), (5, .inl (.long (x5))), (7, .inl (.long (x7))), (9, .inl (.int (x9))), (10, .inl (.int (x10)))], [.inl (.int ((3 : Int32))), .inl (.int ((s.1 0 47 (x10).toNatClampNeg)))], ax_m (s) ρ)) rfl ⟨trivial, (h0 38 rfl), trivial, ⟨(h0 47 rfl), ax_inp b2⟩, trivial, trivial⟩ ?_
        refine ax_ic_ne (tgt := 117) hK d_Z_written_95 (by decide) (fun c7 => ?_) (fun c7 => ?_)
        · replace h := ax_if c7 h
          obtain ⟨b3, h⟩ := ax_gd h
          refine ax_bk hK (ax_fc (ax_v_ld (ax_r_aload_n (i := 0) d_Z_written_117 rfl)) (ax_fc (ax_w_gf (e := none) hal d_Z_written_118 fd_Z_39) (ax_fc (ax_v_ld (ax_r_iload d_Z_written_121)) (ax_fc (ax_w_iald hal d_Z_written_123) (ax_fc (ax_v_pu (ax_r_iconst (v := 1) d_Z_written_124 (by decide))) ax_fn))))) (y := (125, [(0, .inr (0, 38)), (2, .inl (.int (x2))), (3, .inl (.long (x3))), (5, .inl (.long (x5))), (7, .inl (.long (x7))), (9, .inl (.int (x9))), (10, .inl (.int (x10)))], [.inl (.int ((1 : Int32))), .inl (.int ((s.1 0 47 (x10).toNatClampNeg)))], ax_m (s) ρ)) rfl ⟨trivial, (h0 38 rfl), trivial, ⟨(h0 47 rfl), ax_inp b3⟩, trivial, trivial⟩ ?_
          refine ax_ic_ne (tgt := 133) hK d_Z_written_125 (by decide) (fun c4 => ?_) (fun c4 => ?_)
          · replace h := ax_if c4 h
            refine ax_bk hK (ax_fc (ax_v_ii (d := 1) d_Z_written_133 (by decide)) (ax_fc (ax_v_go (tgt := 14) d_Z_written_136 (by decide)) ax_fn)) (y := (14, [(10, .inl (.int ((x10 + (1 : Int32))))), (0, .inr (0, 38)), (2, .inl (.int (x2))), (3, .inl (.long (x3))), (5, .inl (.long (x5))), (7, .inl (.long (x7))), (9, .inl (.int (x9)))], [], ax_m (s) ρ)) rfl ⟨trivial, trivial, trivial⟩ ?_
            exact ax_Lsub [1, 2, 3, 4, 5, 6, 0] rfl (ih _ h KE)
          · replace h := ax_it c4 h
            refine ax_bk hK (ax_fc (ax_v_ld (ax_r_lload_n (i := 3) d_Z_written_128 rfl)) (ax_fc (ax_v_ld (ax_r_lload d_Z_written_129)) (ax_fc (ax_v_pu (ax_r_ladd d_Z_written_131)) (ax_fc (ax_v_so (ax_r_lstore_n (i := 3) d_Z_written_132 rfl)) (ax_fc (ax_v_ii (d := 1) d_Z_written_133 (by decide)) (ax_fc (ax_v_go (tgt := 14) d_Z_written_136 (by decide)) ax_fn)))))) (y := (14, [(10, .inl (.int ((x10 + (1 : Int32))))), (3, .inl (.long ((x3 + x5)))), (0, .inr (0, 38)), (2, .inl (.int (x2))), (5, .inl (.long (x5))), (7, .inl (.long (x7))), (9, .inl (.int (x9)))], [], ax_m (s) ρ)) rfl ⟨trivial, trivial, trivial, trivial, trivial, trivial, trivial⟩ ?_
            exact ax_Lsub [2, 3, 1, 4, 5, 6, 0] rfl (ih _ h KE)
        · replace h := ax_it c7 h
          refine ax_bk hK (ax_fc (ax_v_ii (d := -1) d_Z_written_98 (by decide)) (ax_fc (ax_v_ld (ax_r_iload d_Z_written_101)) ax_fn)) (y := (103, [(9, .inl (.int ((x9 + (-1 : Int32))))), (0, .inr (0, 38)), (2, .inl (.int (x2))), (3, .inl (.long (x3))), (5, .inl (.long (x5))), (7, .inl (.long (x7))), (10, .inl (.int (x10)))], [.inl (.int ((x9 + (-1 : Int32))))], ax_m (s) ρ)) rfl ⟨trivial, trivial, trivial⟩ ?_
          obtain ⟨w16, hw16, h⟩ := ax_bd h
          have KEw16 : ∀ (v6 : Int64), w16 = v6 → ax_R G 13 0 0 (112, [(0, .inr (0, 38)), (2, .inl (.int (x2))), (3, .inl (.long (x3))), (7, .inl (.long (x7))), (9, .inl (.int ((x9 + (-1 : Int32))))), (10, .inl (.int (x10)))], [.inl (.long (v6))], ax_m (s) ρ) := by
            intro v6 e9
            subst w16
            try dsimp only at h
            refine ax_bk hK (ax_fc (ax_v_so (ax_r_lstore d_Z_written_112)) (ax_fc (ax_v_go (tgt := 133) d_Z_written_114 (by decide)) ax_fn)) (y := (133, [(5, .inl (.long (v6))), (0, .inr (0, 38)), (2, .inl (.int (x2))), (3, .inl (.long (x3))), (7, .inl (.long (x7))), (9, .inl (.int ((x9 + (-1 : Int32))))), (10, .inl (.int (x10)))], [], ax_m (s) ρ)) rfl ⟨trivial, trivial, trivial⟩ ?_
            refine ax_bk hK (ax_fc (ax_v_ii (d := 1) d_Z_written_133 (by decide)) (ax_fc (ax_v_go (tgt := 14) d_Z_written_136 (by decide)) ax_fn)) (y := (14, [(10, .inl (.int ((x10 + (1 : Int32))))), (5, .inl (.long (v6))), (0, .inr (0, 38)), (2, .inl (.int (x2))), (3, .inl (.long (x3))), (7, .inl (.long (x7))), (9, .inl (.int ((x9 + (-1 : Int32)))))], [], ax_m (s) ρ)) rfl ⟨trivial, trivial, trivial⟩ ?_
            exact ax_Lsub [2, 3, 4, 1, 5, 6, 0] rfl (ih _ h KE)
          clear h
          have h := hw16
          refine ax_if_ne (tgt := 110) hK d_Z_written_103 (by decide) (fun c5 => ?_) (fun c5 => ?_)
          · replace h := ax_if c5 h
            refine ax_bk hK (ax_fc (ax_v_ld (ax_r_lload d_Z_written_110)) ax_fn) (y := (112, [(9, .inl (.int ((x9 + (-1 : Int32))))), (0, .inr (0, 38)), (2, .inl (.int (x2))), (3, .inl (.long (x3))), (5, .inl (.long (x5))), (7, .inl (.long (x7))), (10, .inl (.int (x10)))], [.inl (.long (x7))], ax_m (s) ρ)) rfl ⟨trivial, trivial⟩ ?_
            cases h
            exact ax_Lsub [1, 2, 3, 5, 0, 6] rfl (KEw16 _ rfl)
          · replace h := ax_it c5 h
            refine ax_bk hK (ax_fc (ax_v_pu (ax_r_lconst (v := 1) d_Z_written_106 (by decide))) (ax_fc (ax_v_go (tgt := 112) d_Z_written_107 (by decide)) ax_fn)) (y := (112, [(9, .inl (.int ((x9 + (-1 : Int32))))), (0, .inr (0, 38)), (2, .inl (.int (x2))), (3, .inl (.long (x3))), (5, .inl (.long (x5))), (7, .inl (.long (x7))), (10, .inl (.int (x10)))], [.inl (.long ((1 : Int64)))], ax_m (s) ρ)) rfl ⟨trivial, trivial, trivial⟩ ?_
            cases h
            exact ax_Lsub [1, 2, 3, 5, 0, 6] rfl (KEw16 _ rfl)
      · replace h := ax_it c14 h
        obtain ⟨b8, h⟩ := ax_gd h
        refine ax_bk hK (ax_fc (ax_v_ld (ax_r_aload_n (i := 0) d_Z_written_31 rfl)) (ax_fc (ax_w_gf (e := none) hal d_Z_written_32 fd_Z_54) (ax_fc (ax_v_ld (ax_r_iload d_Z_written_35)) (ax_fc (ax_w_lald hal d_Z_written_37) (ax_fc (ax_v_ldc2 (v := 16) d_Z_written_38 (nw_5 192 (by decide +kernel) rfl)) (ax_fc (ax_v_pu (ax_r_lcmp d_Z_written_41)) ax_fn)))))) (y := (42, [(0, .inr (0, 38)), (2, .inl (.int (x2))), (3, .inl (.long (x3))), (5, .inl (.long (x5))), (7, .inl (.long (x7))), (9, .inl (.int (x9))), (10, .inl (.int (x10)))], [.inl (.int ((lg_cmp (s.2 0 52 (x10).toNatClampNeg) (16 : Int64))))], ax_m (s) ρ)) rfl ⟨trivial, (h0 38 rfl), trivial, ⟨(h0 52 rfl), ax_inp b8⟩, trivial, trivial, trivial⟩ ?_
        obtain ⟨w17, hw17, h⟩ := ax_bd h
        have KEw17 : ∀ (v11 : Int64), w17 = v11 → ax_R G 13 0 0 (58, [(0, .inr (0, 38)), (2, .inl (.int (x2))), (3, .inl (.long (x3))), (5, .inl (.long (x5))), (7, .inl (.long (x7))), (9, .inl (.int (x9))), (10, .inl (.int (x10)))], [.inl (.long (v11))], ax_m (s) ρ) := by
          intro v11 e9
          subst w17
          try dsimp only at h
          refine ax_bk hK (ax_fc (ax_v_so (ax_r_lstore d_Z_written_58)) (ax_fc (ax_v_ld (ax_r_iload d_Z_written_60)) ax_fn)) (y := (62, [(11, .inl (.long (v11))), (0, .inr (0, 38)), (2, .inl (.int (x2))), (3, .inl (.long (x3))), (5, .inl (.long (x5))), (7, .inl (.long (x7))), (9, .inl (.int (x9))), (10, .inl (.int (x10)))], [.inl (.int (x9))], ax_m (s) ρ)) rfl ⟨trivial, trivial, trivial⟩ ?_
          obtain ⟨w18, hw18, h⟩ := ax_bd h
          have KEw18 : ∀ (v13 : Int64), w18 = v13 → ax_R G 13 0 0 (72, [(0, .inr (0, 38)), (2, .inl (.int (x2))), (3, .inl (.long (x3))), (5, .inl (.long (x5))), (9, .inl (.int (x9))), (10, .inl (.int (x10))), (11, .inl (.long (v11)))], [.inl (.long (v13))], ax_m (s) ρ) := by
            intro v13 e9
            subst w18
            try dsimp only at h
            refine ax_bk hK (ax_fc (ax_v_so (ax_r_lstore d_Z_written_72)) (ax_fc (ax_v_ld (ax_r_lload d_Z_written_74)) (ax_fc (ax_v_ld (ax_r_lload d_Z_written_76)) (ax_fc (ax_v_pu (ax_r_lmul d_Z_written_78)) (ax_fc (ax_v_so (ax_r_lstore d_Z_written_79)) (ax_fc (ax_v_ii (d := 1) d_Z_written_81 (by decide)) (ax_fc (ax_v_go (tgt := 133) d_Z_written_84 (by decide)) ax_fn))))))) (y := (133, [(9, .inl (.int ((x9 + (1 : Int32))))), (5, .inl (.long ((x5 * v11)))), (7, .inl (.long (v13))), (0, .inr (0, 38)), (2, .inl (.int (x2))), (3, .inl (.long (x3))), (10, .inl (.int (x10))), (11, .inl (.long (v11)))], [], ax_m (s) ρ)) rfl ⟨trivial, trivial, trivial, trivial, trivial, trivial, trivial, trivial⟩ ?_
            refine ax_bk hK (ax_fc (ax_v_ii (d := 1) d_Z_written_133 (by decide)) (ax_fc (ax_v_go (tgt := 14) d_Z_written_136 (by decide)) ax_fn)) (y := (14, [(10, .inl (.int ((x10 + (1 : Int32))))), (9, .inl (.int ((x9 + (1 : Int32))))), (5, .inl (.long ((x5 * v11)))), (7, .inl (.long (v13))), (0, .inr (0, 38)), (2, .inl (.int (x2))), (3, .inl (.long (x3))), (11, .inl (.long (v11)))], [], ax_m (s) ρ)) rfl ⟨trivial, trivial, trivial⟩ ?_
            exact ax_Lsub [4, 5, 6, 2, 3, 1, 0] rfl (ih _ h KE)
          clear h
          have h := hw18
          refine ax_if_ne (tgt := 70) hK d_Z_written_62 (by decide) (fun c12 => ?_) (fun c12 => ?_)
          · replace h := ax_if c12 h
            refine ax_bk hK (ax_fc (ax_v_ld (ax_r_lload d_Z_written_70)) ax_fn) (y := (72, [(11, .inl (.long (v11))), (0, .inr (0, 38)), (2, .inl (.int (x2))), (3, .inl (.long (x3))), (5, .inl (.long (x5))), (7, .inl (.long (x7))), (9, .inl (.int (x9))), (10, .inl (.int (x10)))], [.inl (.long (x7))], ax_m (s) ρ)) rfl ⟨trivial, trivial⟩ ?_
            cases h
            exact ax_Lsub [1, 2, 3, 4, 6, 7, 0] rfl (KEw18 _ rfl)
          · replace h := ax_it c12 h
            refine ax_bk hK (ax_fc (ax_v_ld (ax_r_lload d_Z_written_65)) (ax_fc (ax_v_go (tgt := 72) d_Z_written_67 (by decide)) ax_fn)) (y := (72, [(11, .inl (.long (v11))), (0, .inr (0, 38)), (2, .inl (.int (x2))), (3, .inl (.long (x3))), (5, .inl (.long (x5))), (7, .inl (.long (x7))), (9, .inl (.int (x9))), (10, .inl (.int (x10)))], [.inl (.long (v11))], ax_m (s) ρ)) rfl ⟨trivial, trivial, trivial⟩ ?_
            cases h
            exact ax_Lsub [1, 2, 3, 4, 6, 7, 0] rfl (KEw18 _ rfl)
        clear h
        have h := hw17
        refine ax_if_le (tgt := 51) hK d_Z_written_42 (by decide) (fun c10 => ?_) (fun c10 => ?_)
        · replace h := ax_it c10 h
          obtain ⟨b9, h⟩ := ax_gd h
          refine ax_bk hK (ax_fc (ax_v_ld (ax_r_aload_n (i := 0) d_Z_written_51 rfl)) (ax_fc (ax_w_gf (e := none) hal d_Z_written_52 fd_Z_54) (ax_fc (ax_v_ld (ax_r_iload d_Z_written_55)) (ax_fc (ax_w_lald hal d_Z_written_57) ax_fn)))) (y := (58, [(0, .inr (0, 38)), (2, .inl (.int (x2))), (3, .inl (.long (x3))), (5, .inl (.long (x5))), (7, .inl (.long (x7))), (9, .inl (.int (x9))), (10, .inl (.int (x10)))], [.inl (.long ((s.2 0 52 (x10).toNatClampNeg)))], ax_m (s) ρ)) rfl ⟨trivial, (h0 38 rfl), trivial, ⟨(h0 52 rfl), ax_inp b9⟩, trivial⟩ ?_
          cases h
          exact ax_Lsub [0, 1, 2, 3, 4, 5, 6] rfl (KEw17 _ rfl)
        · replace h := ax_if c10 h
          refine ax_bk hK (ax_fc (ax_v_ldc2 (v := 16) d_Z_written_45 (nw_5 192 (by decide +kernel) rfl)) (ax_fc (ax_v_go (tgt := 58) d_Z_written_48 (by decide)) ax_fn)) (y := (58, [(0, .inr (0, 38)), (2, .inl (.int (x2))), (3, .inl (.long (x3))), (5, .inl (.long (x5))), (7, .inl (.long (x7))), (9, .inl (.int (x9))), (10, .inl (.int (x10)))], [.inl (.long ((16 : Int64)))], ax_m (s) ρ)) rfl ⟨trivial, trivial, trivial⟩ ?_
          cases h
          exact ax_Lsub [0, 1, 2, 3, 4, 5, 6] rfl (KEw17 _ rfl)
def f_Z_written (F : Nat) (a1 : Int32) (a2 : Int32) (s : ax_σ) : Option (Int64) :=
  Option.bind (lp_Z_written_14 F a2 s F (0 : Int64) (1 : Int64) (1 : Int64) (0 : Int32) a1) (fun v16 =>
    some (v16))
set_option maxHeartbeats 4000000 in
set_option maxRecDepth 100000 in
theorem t_Z_written {l : Launch} {D : va_G} {cA : Nat → ClassId} {ad : Nat → Nat → Nat} {al : List (Nat × Nat)} {θ : ax_Θ} {ρ : ax_ρ} {F : Nat} (h0 : ax_M0 al) {a1 : Int32} {a2 : Int32} {s : ax_σ} {r0 : Int64} (h : f_Z_written F a1 a2 s = some r0) : ax_T l D cA ad al θ y_Z_written (.code y_Z_written prog_8_method_31_code 13 (some .long)) 0 [.inr (0, 38), .inl (.int (a1)), .inl (.int (a2))] (ax_m s ρ) (some (.inl (.long r0))) (ax_m s ρ) := by
  refine ax_T_of (own := "CipherNotationModel") (by decide) rfl (Nat.le_of_ble_eq_true rfl) [(0, .inr (0, 38)), (1, .inl (.int (a1))), (2, .inl (.int (a2)))] rfl ?_
  intro G hA
  have hB := hA.B
  have hK := hB.K
  have hal := hB.la
  unfold f_Z_written at h
  refine ax_bk hK (ax_fc (ax_v_pu (ax_r_lconst (v := 0) d_Z_written_0 (by decide))) (ax_fc (ax_v_so (ax_r_lstore_n (i := 3) d_Z_written_1 rfl)) (ax_fc (ax_v_pu (ax_r_lconst (v := 1) d_Z_written_2 (by decide))) (ax_fc (ax_v_so (ax_r_lstore d_Z_written_3)) (ax_fc (ax_v_pu (ax_r_lconst (v := 1) d_Z_written_5 (by decide))) (ax_fc (ax_v_so (ax_r_lstore d_Z_written_6)) (ax_fc (ax_v_pu (ax_r_iconst (v := 0) d_Z_written_8 (by decide))) (ax_fc (ax_v_so (ax_r_istore d_Z_written_9)) (ax_fc (ax_v_ld (ax_r_iload_n (i := 1) d_Z_written_11 rfl)) (ax_fc (ax_v_so (ax_r_istore d_Z_written_12)) ax_fn)))))))))) (y := (14, [(10, .inl (.int (a1))), (9, .inl (.int ((0 : Int32)))), (7, .inl (.long ((1 : Int64)))), (5, .inl (.long ((1 : Int64)))), (3, .inl (.long ((0 : Int64)))), (0, .inr (0, 38)), (1, .inl (.int (a1))), (2, .inl (.int (a2)))], [], ax_m (s) ρ)) rfl ⟨trivial, trivial, trivial, trivial, trivial, trivial, trivial, trivial, trivial, trivial, trivial⟩ ?_
  obtain ⟨w17, hw17, h⟩ := ax_bd h
  refine ax_Lsub [5, 7, 4, 3, 2, 1, 0] rfl (pl_Z_written_14 h0 hB F _ hw17 ?_)
  intro v16 e9
  subst w17
  try dsimp only at h
  change ax_R G 13 0 0 (139, [(3, .inl (.long (v16)))], [], ax_m (s) ρ)
  refine ax_bk hK (ax_fc (ax_v_ld (ax_r_lload_n (i := 3) d_Z_written_139 rfl)) ax_fn) (y := (140, [(3, .inl (.long (v16)))], [.inl (.long (v16))], ax_m (s) ρ)) rfl ⟨trivial, trivial⟩ ?_
  cases h
  exact ax_lret hA d_Z_written_140
def y_Z_around : MethodName := ⟨"CipherNotationModel", "around", "(I)I"⟩
theorem d_Z_around_0 : decode prog_8_method_32_code 0 = .ok (.iconst 0, 1) := by decide +kernel
theorem d_Z_around_1 : decode prog_8_method_32_code 1 = .ok (.istore_n 2, 1) := by decide +kernel
theorem d_Z_around_2 : decode prog_8_method_32_code 2 = .ok (.iconst 0, 1) := by decide +kernel
theorem d_Z_around_3 : decode prog_8_method_32_code 3 = .ok (.istore_n 3, 1) := by decide +kernel
theorem d_Z_around_4 : decode prog_8_method_32_code 4 = .ok (.iload_n 3, 1) := by decide +kernel
theorem d_Z_around_5 : decode prog_8_method_32_code 5 = .ok (.iload_n 1, 1) := by decide +kernel
theorem d_Z_around_6 : decode prog_8_method_32_code 6 = .ok (.if_icmp .ge (45), 3) := by decide +kernel
theorem d_Z_around_9 : decode prog_8_method_32_code 9 = .ok (.aload_n 0, 1) := by decide +kernel
theorem d_Z_around_10 : decode prog_8_method_32_code 10 = .ok (.getfield (39), 3) := by decide +kernel
theorem d_Z_around_13 : decode prog_8_method_32_code 13 = .ok (.iload_n 3, 1) := by decide +kernel
theorem d_Z_around_14 : decode prog_8_method_32_code 14 = .ok (.iaload, 1) := by decide +kernel
theorem d_Z_around_15 : decode prog_8_method_32_code 15 = .ok (.iconst 2, 1) := by decide +kernel
theorem d_Z_around_16 : decode prog_8_method_32_code 16 = .ok (.if_icmp .ne (16), 3) := by decide +kernel
theorem d_Z_around_19 : decode prog_8_method_32_code 19 = .ok (.aload_n 0, 1) := by decide +kernel
theorem d_Z_around_20 : decode prog_8_method_32_code 20 = .ok (.getfield (36), 3) := by decide +kernel
theorem d_Z_around_23 : decode prog_8_method_32_code 23 = .ok (.iload_n 2, 1) := by decide +kernel
theorem d_Z_around_24 : decode prog_8_method_32_code 24 = .ok (.iload_n 3, 1) := by decide +kernel
theorem d_Z_around_25 : decode prog_8_method_32_code 25 = .ok (.iastore, 1) := by decide +kernel
theorem d_Z_around_26 : decode prog_8_method_32_code 26 = .ok (.iinc 2 (1), 3) := by decide +kernel
theorem d_Z_around_29 : decode prog_8_method_32_code 29 = .ok (.goto (16), 3) := by decide +kernel
theorem d_Z_around_32 : decode prog_8_method_32_code 32 = .ok (.aload_n 0, 1) := by decide +kernel
theorem d_Z_around_33 : decode prog_8_method_32_code 33 = .ok (.getfield (39), 3) := by decide +kernel
theorem d_Z_around_36 : decode prog_8_method_32_code 36 = .ok (.iload_n 3, 1) := by decide +kernel
theorem d_Z_around_37 : decode prog_8_method_32_code 37 = .ok (.iaload, 1) := by decide +kernel
theorem d_Z_around_38 : decode prog_8_method_32_code 38 = .ok (.iconst 3, 1) := by decide +kernel
theorem d_Z_around_39 : decode prog_8_method_32_code 39 = .ok (.if_icmp .ne (6), 3) := by decide +kernel
theorem d_Z_around_42 : decode prog_8_method_32_code 42 = .ok (.iinc 2 (-1), 3) := by decide +kernel
theorem d_Z_around_45 : decode prog_8_method_32_code 45 = .ok (.iinc 3 (1), 3) := by decide +kernel
theorem d_Z_around_48 : decode prog_8_method_32_code 48 = .ok (.goto (-44), 3) := by decide +kernel
theorem d_Z_around_51 : decode prog_8_method_32_code 51 = .ok (.iload_n 2, 1) := by decide +kernel
theorem d_Z_around_52 : decode prog_8_method_32_code 52 = .ok (.ireturn, 1) := by decide +kernel
def lp_Z_around_4 (F : Nat) (x1 : Int32) : Nat → Int32 → Int32 → ax_σ → Option (Int32 × ax_σ)
  | 0, _, _, _ => none
  | n + 1, x2, x3, s =>
    if x1 ≤ x3 then
      some (x2, s)
    else
      bif ax_in x3 240 then
      if (s.1 0 47 (x3).toNatClampNeg) = (2 : Int32) then
        bif ax_in x2 2 then
        ax_let (ax_wI s 0 46 (x2).toNatClampNeg x3) (fun s5 =>
          lp_Z_around_4 F x1 n (x2 + (1 : Int32)) (x3 + (1 : Int32)) s5)
        else none
      else
        bif ax_in x3 240 then
        if (s.1 0 47 (x3).toNatClampNeg) = (3 : Int32) then
          lp_Z_around_4 F x1 n (x2 + (-1 : Int32)) (x3 + (1 : Int32)) s
        else
          lp_Z_around_4 F x1 n x2 (x3 + (1 : Int32)) s
        else none
      else none
set_option maxHeartbeats 4000000 in
set_option maxRecDepth 100000 in
theorem pl_Z_around_4 {D : va_G} {cA : Nat → ClassId} {ad : Nat → Nat → Nat} {al : List (Nat × Nat)} {θ : ax_Θ} {l : Launch} {ρ : ax_ρ} {G : ax_G} {F : Nat} {x1 : Int32} (h0 : ax_M0 al) (hB : ax_B D cA ad al θ l "CipherNotationModel" prog_8_method_32_code 4 0 G) : ∀ (n : Nat) {x2 : Int32} {x3 : Int32} {s : ax_σ} (out : Int32 × ax_σ), lp_Z_around_4 F x1 n x2 x3 s = some out → (∀ (e2 : Int32) (es : ax_σ), out = (e2, es) → ax_R G 4 0 0 (51, [(2, .inl (.int (e2)))], [], ax_m (es) ρ)) → ax_R G 4 0 0 (4, [(0, .inr (0, 38)), (1, .inl (.int (x1))), (2, .inl (.int (x2))), (3, .inl (.int (x3)))], [], ax_m (s) ρ) := by
  have hK := hB.K
  have hal := hB.la
  intro n
  induction n with
  | zero =>
    intro x2 x3 s out h
    cases h
  | succ n ih =>
    intro x2 x3 s out h KE
    rw [lp_Z_around_4] at h
    refine ax_bk hK (ax_fc (ax_v_ld (ax_r_iload_n (i := 3) d_Z_around_4 rfl)) (ax_fc (ax_v_ld (ax_r_iload_n (i := 1) d_Z_around_5 rfl)) ax_fn)) (y := (6, [(0, .inr (0, 38)), (1, .inl (.int (x1))), (2, .inl (.int (x2))), (3, .inl (.int (x3)))], [.inl (.int (x1)), .inl (.int (x3))], ax_m (s) ρ)) rfl ⟨trivial, trivial, trivial⟩ ?_
    refine ax_ic_ge (tgt := 51) hK d_Z_around_6 (by decide) (fun c7 => ?_) (fun c7 => ?_)
    · replace h := ax_it c7 h
      cases h
      exact ax_Lsub [2] rfl (KE _ _ rfl)
    · replace h := ax_if c7 h
      obtain ⟨b1, h⟩ := ax_gd h
      refine ax_bk hK (ax_fc (ax_v_ld (ax_r_aload_n (i := 0) d_Z_around_9 rfl)) (ax_fc (ax_w_gf (e := none) hal d_Z_around_10 fd_Z_39) (ax_fc (ax_v_ld (ax_r_iload_n (i := 3) d_Z_around_13 rfl)) (ax_fc (ax_w_iald hal d_Z_around_14) (ax_fc (ax_v_pu (ax_r_iconst (v := 2) d_Z_around_15 (by decide))) ax_fn))))) (y := (16, [(0, .inr (0, 38)), (1, .inl (.int (x1))), (2, .inl (.int (x2))), (3, .inl (.int (x3)))], [.inl (.int ((2 : Int32))), .inl (.int ((s.1 0 47 (x3).toNatClampNeg)))], ax_m (s) ρ)) rfl ⟨trivial, (h0 38 rfl), trivial, ⟨(h0 47 rfl), ax_inp b1⟩, trivial, trivial⟩ ?_
      refine ax_ic_ne (tgt := 32) hK d_Z_around_16 (by decide) (fun c6 => ?_) (fun c6 => ?_)
      · replace h := ax_if c6 h
        obtain ⟨b2, h⟩ := ax_gd h
        refine ax_bk hK (ax_fc (ax_v_ld (ax_r_aload_n (i := 0) d_Z_around_32 rfl)) (ax_fc (ax_w_gf (e := none) hal d_Z_around_33 fd_Z_39) (ax_fc (ax_v_ld (ax_r_iload_n (i := 3) d_Z_around_36 rfl)) (ax_fc (ax_w_iald hal d_Z_around_37) (ax_fc (ax_v_pu (ax_r_iconst (v := 3) d_Z_around_38 (by decide))) ax_fn))))) (y := (39, [(0, .inr (0, 38)), (1, .inl (.int (x1))), (2, .inl (.int (x2))), (3, .inl (.int (x3)))], [.inl (.int ((3 : Int32))), .inl (.int ((s.1 0 47 (x3).toNatClampNeg)))], ax_m (s) ρ)) rfl ⟨trivial, (h0 38 rfl), trivial, ⟨(h0 47 rfl), ax_inp b2⟩, trivial, trivial⟩ ?_
        refine ax_ic_ne (tgt := 45) hK d_Z_around_39 (by decide) (fun c3 => ?_) (fun c3 => ?_)
        · replace h := ax_if c3 h
          refine ax_bk hK (ax_fc (ax_v_ii (d := 1) d_Z_around_45 (by decide)) (ax_fc (ax_v_go (tgt := 4) d_Z_around_48 (by decide)) ax_fn)) (y := (4, [(3, .inl (.int ((x3 + (1 : Int32))))), (0, .inr (0, 38)), (1, .inl (.int (x1))), (2, .inl (.int (x2)))], [], ax_m (s) ρ)) rfl ⟨trivial, trivial, trivial⟩ ?_
          exact ax_Lsub [1, 2, 3, 0] rfl (ih _ h KE)
        · replace h := ax_it c3 h
          refine ax_bk hK (ax_fc (ax_v_ii (d := -1) d_Z_around_42 (by decide)) (ax_fc (ax_v_ii (d := 1) d_Z_around_45 (by decide)) (ax_fc (ax_v_go (tgt := 4) d_Z_around_48 (by decide)) ax_fn))) (y := (4, [(3, .inl (.int ((x3 + (1 : Int32))))), (2, .inl (.int ((x2 + (-1 : Int32))))), (0, .inr (0, 38)), (1, .inl (.int (x1)))], [], ax_m (s) ρ)) rfl ⟨trivial, trivial, trivial, trivial⟩ ?_
          exact ax_Lsub [2, 3, 1, 0] rfl (ih _ h KE)
      · replace h := ax_it c6 h
        obtain ⟨b4, h⟩ := ax_gd h
        refine ax_bk hK (ax_fc (ax_v_ld (ax_r_aload_n (i := 0) d_Z_around_19 rfl)) (ax_fc (ax_w_gf (e := none) hal d_Z_around_20 fd_Z_36) (ax_fc (ax_v_ld (ax_r_iload_n (i := 2) d_Z_around_23 rfl)) (ax_fc (ax_v_ld (ax_r_iload_n (i := 3) d_Z_around_24 rfl)) (ax_fc (ax_w_iast hal d_Z_around_25) ax_fn))))) (y := (26, [(0, .inr (0, 38)), (1, .inl (.int (x1))), (2, .inl (.int (x2))), (3, .inl (.int (x3)))], [], ax_m (ax_wI s 0 46 (x2).toNatClampNeg x3) ρ)) rfl ⟨trivial, (h0 38 rfl), trivial, trivial, ⟨(h0 46 rfl), ax_inp b4⟩, trivial⟩ ?_
        refine ax_lt (Q := fun ςς => ax_R G 4 0 0 (26, [(0, .inr (0, 38)), (1, .inl (.int (x1))), (2, .inl (.int (x2))), (3, .inl (.int (x3)))], [], ax_m (ςς) ρ)) h (fun s5 h => ?_)
        refine ax_bk hK (ax_fc (ax_v_ii (d := 1) d_Z_around_26 (by decide)) (ax_fc (ax_v_go (tgt := 45) d_Z_around_29 (by decide)) ax_fn)) (y := (45, [(2, .inl (.int ((x2 + (1 : Int32))))), (0, .inr (0, 38)), (1, .inl (.int (x1))), (3, .inl (.int (x3)))], [], ax_m (s5) ρ)) rfl ⟨trivial, trivial, trivial⟩ ?_
        refine ax_bk hK (ax_fc (ax_v_ii (d := 1) d_Z_around_45 (by decide)) (ax_fc (ax_v_go (tgt := 4) d_Z_around_48 (by decide)) ax_fn)) (y := (4, [(3, .inl (.int ((x3 + (1 : Int32))))), (2, .inl (.int ((x2 + (1 : Int32))))), (0, .inr (0, 38)), (1, .inl (.int (x1)))], [], ax_m (s5) ρ)) rfl ⟨trivial, trivial, trivial⟩ ?_
        exact ax_Lsub [2, 3, 1, 0] rfl (ih _ h KE)
def f_Z_around (F : Nat) (a1 : Int32) (s : ax_σ) : Option (Int32 × ax_σ) :=
  Option.bind (lp_Z_around_4 F a1 F (0 : Int32) (0 : Int32) s) (fun (v8, s9) =>
    some ((v8, s9)))
set_option maxHeartbeats 4000000 in
set_option maxRecDepth 100000 in
theorem t_Z_around {l : Launch} {D : va_G} {cA : Nat → ClassId} {ad : Nat → Nat → Nat} {al : List (Nat × Nat)} {θ : ax_Θ} {ρ : ax_ρ} {F : Nat} (h0 : ax_M0 al) {a1 : Int32} {s : ax_σ} {r0 : Int32} {s0 : ax_σ} (h : f_Z_around F a1 s = some (r0, s0)) : ax_T l D cA ad al θ y_Z_around (.code y_Z_around prog_8_method_32_code 4 (some .int)) 0 [.inr (0, 38), .inl (.int (a1))] (ax_m s ρ) (some (.inl (.int r0))) (ax_m s0 ρ) := by
  refine ax_T_of (own := "CipherNotationModel") (by decide) rfl (Nat.le_of_ble_eq_true rfl) [(0, .inr (0, 38)), (1, .inl (.int (a1)))] rfl ?_
  intro G hA
  have hB := hA.B
  have hK := hB.K
  have hal := hB.la
  unfold f_Z_around at h
  refine ax_bk hK (ax_fc (ax_v_pu (ax_r_iconst (v := 0) d_Z_around_0 (by decide))) (ax_fc (ax_v_so (ax_r_istore_n (i := 2) d_Z_around_1 rfl)) (ax_fc (ax_v_pu (ax_r_iconst (v := 0) d_Z_around_2 (by decide))) (ax_fc (ax_v_so (ax_r_istore_n (i := 3) d_Z_around_3 rfl)) ax_fn)))) (y := (4, [(3, .inl (.int ((0 : Int32)))), (2, .inl (.int ((0 : Int32)))), (0, .inr (0, 38)), (1, .inl (.int (a1)))], [], ax_m (s) ρ)) rfl ⟨trivial, trivial, trivial, trivial, trivial⟩ ?_
  obtain ⟨w10, hw10, h⟩ := ax_bd h
  refine ax_Lsub [2, 3, 1, 0] rfl (pl_Z_around_4 h0 hB F _ hw10 ?_)
  intro v8 s9 e9
  subst w10
  try dsimp only at h
  change ax_R G 4 0 0 (51, [(2, .inl (.int (v8)))], [], ax_m (s9) ρ)
  refine ax_bk hK (ax_fc (ax_v_ld (ax_r_iload_n (i := 2) d_Z_around_51 rfl)) ax_fn) (y := (52, [(2, .inl (.int (v8)))], [.inl (.int (v8))], ax_m (s9) ρ)) rfl ⟨trivial, trivial⟩ ?_
  cases h
  exact ax_iret hA d_Z_around_52
def y_Z_isOpen : MethodName := ⟨"CipherNotationModel", "isOpen", "(II)Z"⟩
theorem d_Z_isOpen_0 : decode prog_8_method_33_code 0 = .ok (.iconst 0, 1) := by decide +kernel
theorem d_Z_isOpen_1 : decode prog_8_method_33_code 1 = .ok (.istore_n 3, 1) := by decide +kernel
theorem d_Z_isOpen_2 : decode prog_8_method_33_code 2 = .ok (.iconst 0, 1) := by decide +kernel
theorem d_Z_isOpen_3 : decode prog_8_method_33_code 3 = .ok (.istore (4), 2) := by decide +kernel
theorem d_Z_isOpen_5 : decode prog_8_method_33_code 5 = .ok (.iload (4), 2) := by decide +kernel
theorem d_Z_isOpen_7 : decode prog_8_method_33_code 7 = .ok (.iload_n 2, 1) := by decide +kernel
theorem d_Z_isOpen_8 : decode prog_8_method_33_code 8 = .ok (.if_icmp .ge (35), 3) := by decide +kernel
theorem d_Z_isOpen_11 : decode prog_8_method_33_code 11 = .ok (.iload_n 3, 1) := by decide +kernel
theorem d_Z_isOpen_12 : decode prog_8_method_33_code 12 = .ok (.ifCond .ne (19), 3) := by decide +kernel
theorem d_Z_isOpen_15 : decode prog_8_method_33_code 15 = .ok (.aload_n 0, 1) := by decide +kernel
theorem d_Z_isOpen_16 : decode prog_8_method_33_code 16 = .ok (.getfield (45), 3) := by decide +kernel
theorem d_Z_isOpen_19 : decode prog_8_method_33_code 19 = .ok (.aload_n 0, 1) := by decide +kernel
theorem d_Z_isOpen_20 : decode prog_8_method_33_code 20 = .ok (.getfield (36), 3) := by decide +kernel
theorem d_Z_isOpen_23 : decode prog_8_method_33_code 23 = .ok (.iload (4), 2) := by decide +kernel
theorem d_Z_isOpen_25 : decode prog_8_method_33_code 25 = .ok (.iaload, 1) := by decide +kernel
theorem d_Z_isOpen_26 : decode prog_8_method_33_code 26 = .ok (.iaload, 1) := by decide +kernel
theorem d_Z_isOpen_27 : decode prog_8_method_33_code 27 = .ok (.iload_n 1, 1) := by decide +kernel
theorem d_Z_isOpen_28 : decode prog_8_method_33_code 28 = .ok (.if_icmp .ne (7), 3) := by decide +kernel
theorem d_Z_isOpen_31 : decode prog_8_method_33_code 31 = .ok (.iconst 1, 1) := by decide +kernel
theorem d_Z_isOpen_32 : decode prog_8_method_33_code 32 = .ok (.goto (4), 3) := by decide +kernel
theorem d_Z_isOpen_35 : decode prog_8_method_33_code 35 = .ok (.iconst 0, 1) := by decide +kernel
theorem d_Z_isOpen_36 : decode prog_8_method_33_code 36 = .ok (.istore_n 3, 1) := by decide +kernel
theorem d_Z_isOpen_37 : decode prog_8_method_33_code 37 = .ok (.iinc 4 (1), 3) := by decide +kernel
theorem d_Z_isOpen_40 : decode prog_8_method_33_code 40 = .ok (.goto (-35), 3) := by decide +kernel
theorem d_Z_isOpen_43 : decode prog_8_method_33_code 43 = .ok (.iload_n 3, 1) := by decide +kernel
theorem d_Z_isOpen_44 : decode prog_8_method_33_code 44 = .ok (.ireturn, 1) := by decide +kernel
def lp_Z_isOpen_5 (F : Nat) (x1 : Int32) (x2 : Int32) (s : ax_σ) : Nat → Int32 → Int32 → Option (Int32)
  | 0, _, _ => none
  | n + 1, x3, x4 =>
    if x2 ≤ x4 then
      some x3
    else
      Option.bind (
        if x3 = (0 : Int32) then
          bif ax_in x4 2 then
          bif ax_in (s.1 0 46 (x4).toNatClampNeg) 240 then
          if (s.1 0 49 ((s.1 0 46 (x4).toNatClampNeg)).toNatClampNeg) = x1 then
            some true
          else
            some false
          else none
          else none
        else
          some true) (fun w5 => bif w5 then
        lp_Z_isOpen_5 F x1 x2 s n (1 : Int32) (x4 + (1 : Int32))
      else
        lp_Z_isOpen_5 F x1 x2 s n (0 : Int32) (x4 + (1 : Int32)))
set_option maxHeartbeats 4000000 in
set_option maxRecDepth 100000 in
theorem pl_Z_isOpen_5 {D : va_G} {cA : Nat → ClassId} {ad : Nat → Nat → Nat} {al : List (Nat × Nat)} {θ : ax_Θ} {l : Launch} {ρ : ax_ρ} {G : ax_G} {F : Nat} {x1 : Int32} {x2 : Int32} {s : ax_σ} (h0 : ax_M0 al) (hB : ax_B D cA ad al θ l "CipherNotationModel" prog_8_method_33_code 5 0 G) : ∀ (n : Nat) {x3 : Int32} {x4 : Int32} (out : Int32), lp_Z_isOpen_5 F x1 x2 s n x3 x4 = some out → (∀ (e3 : Int32), out = e3 → ax_R G 5 0 0 (43, [(3, .inl (.int (e3)))], [], ax_m (s) ρ)) → ax_R G 5 0 0 (5, [(0, .inr (0, 38)), (1, .inl (.int (x1))), (2, .inl (.int (x2))), (3, .inl (.int (x3))), (4, .inl (.int (x4)))], [], ax_m (s) ρ) := by
  have hK := hB.K
  have hal := hB.la
  intro n
  induction n with
  | zero =>
    intro x3 x4 out h
    cases h
  | succ n ih =>
    intro x3 x4 out h KE
    rw [lp_Z_isOpen_5] at h
    refine ax_bk hK (ax_fc (ax_v_ld (ax_r_iload d_Z_isOpen_5)) (ax_fc (ax_v_ld (ax_r_iload_n (i := 2) d_Z_isOpen_7 rfl)) ax_fn)) (y := (8, [(0, .inr (0, 38)), (1, .inl (.int (x1))), (2, .inl (.int (x2))), (3, .inl (.int (x3))), (4, .inl (.int (x4)))], [.inl (.int (x2)), .inl (.int (x4))], ax_m (s) ρ)) rfl ⟨trivial, trivial, trivial⟩ ?_
    refine ax_ic_ge (tgt := 43) hK d_Z_isOpen_8 (by decide) (fun c6 => ?_) (fun c6 => ?_)
    · replace h := ax_it c6 h
      cases h
      exact ax_Lsub [3] rfl (KE _ rfl)
    · replace h := ax_if c6 h
      refine ax_bk hK (ax_fc (ax_v_ld (ax_r_iload_n (i := 3) d_Z_isOpen_11 rfl)) ax_fn) (y := (12, [(0, .inr (0, 38)), (1, .inl (.int (x1))), (2, .inl (.int (x2))), (3, .inl (.int (x3))), (4, .inl (.int (x4)))], [.inl (.int (x3))], ax_m (s) ρ)) rfl ⟨trivial, trivial⟩ ?_
      obtain ⟨w5, hw5, h⟩ := ax_bd h
      have KTw5 : w5 = true → ax_R G 5 0 0 (31, [(0, .inr (0, 38)), (1, .inl (.int (x1))), (2, .inl (.int (x2))), (4, .inl (.int (x4)))], [], ax_m (s) ρ) := by
        intro e9
        subst w5
        replace h := ax_ct h
        refine ax_bk hK (ax_fc (ax_v_pu (ax_r_iconst (v := 1) d_Z_isOpen_31 (by decide))) (ax_fc (ax_v_go (tgt := 36) d_Z_isOpen_32 (by decide)) ax_fn)) (y := (36, [(0, .inr (0, 38)), (1, .inl (.int (x1))), (2, .inl (.int (x2))), (4, .inl (.int (x4)))], [.inl (.int ((1 : Int32)))], ax_m (s) ρ)) rfl ⟨trivial, trivial, trivial⟩ ?_
        refine ax_bk hK (ax_fc (ax_v_so (ax_r_istore_n (i := 3) d_Z_isOpen_36 rfl)) (ax_fc (ax_v_ii (d := 1) d_Z_isOpen_37 (by decide)) (ax_fc (ax_v_go (tgt := 5) d_Z_isOpen_40 (by decide)) ax_fn))) (y := (5, [(4, .inl (.int ((x4 + (1 : Int32))))), (3, .inl (.int ((1 : Int32)))), (0, .inr (0, 38)), (1, .inl (.int (x1))), (2, .inl (.int (x2)))], [], ax_m (s) ρ)) rfl ⟨trivial, trivial, trivial, trivial⟩ ?_
        exact ax_Lsub [2, 3, 4, 1, 0] rfl (ih _ h KE)
      have KFw5 : w5 = false → ax_R G 5 0 0 (35, [(0, .inr (0, 38)), (1, .inl (.int (x1))), (2, .inl (.int (x2))), (4, .inl (.int (x4)))], [], ax_m (s) ρ) := by
        intro e9
        subst w5
        replace h := ax_cf h
        refine ax_bk hK (ax_fc (ax_v_pu (ax_r_iconst (v := 0) d_Z_isOpen_35 (by decide))) (ax_fc (ax_v_so (ax_r_istore_n (i := 3) d_Z_isOpen_36 rfl)) (ax_fc (ax_v_ii (d := 1) d_Z_isOpen_37 (by decide)) (ax_fc (ax_v_go (tgt := 5) d_Z_isOpen_40 (by decide)) ax_fn)))) (y := (5, [(4, .inl (.int ((x4 + (1 : Int32))))), (3, .inl (.int ((0 : Int32)))), (0, .inr (0, 38)), (1, .inl (.int (x1))), (2, .inl (.int (x2)))], [], ax_m (s) ρ)) rfl ⟨trivial, trivial, trivial, trivial, trivial⟩ ?_
        exact ax_Lsub [2, 3, 4, 1, 0] rfl (ih _ h KE)
      clear h
      have h := hw5
      refine ax_if_ne (tgt := 31) hK d_Z_isOpen_12 (by decide) (fun c4 => ?_) (fun c4 => ?_)
      · replace h := ax_if c4 h
        cases h
        exact ax_Lsub [0, 1, 2, 4] rfl (KTw5 rfl)
      · replace h := ax_it c4 h
        obtain ⟨b1, h⟩ := ax_gd h
        obtain ⟨b2, h⟩ := ax_gd h
        refine ax_bk hK (ax_fc (ax_v_ld (ax_r_aload_n (i := 0) d_Z_isOpen_15 rfl)) (ax_fc (ax_w_gf (e := none) hal d_Z_isOpen_16 fd_Z_45) (ax_fc (ax_v_ld (ax_r_aload_n (i := 0) d_Z_isOpen_19 rfl)) (ax_fc (ax_w_gf (e := none) hal d_Z_isOpen_20 fd_Z_36) (ax_fc (ax_v_ld (ax_r_iload d_Z_isOpen_23)) (ax_fc (ax_w_iald hal d_Z_isOpen_25) (ax_fc (ax_w_iald hal d_Z_isOpen_26) (ax_fc (ax_v_ld (ax_r_iload_n (i := 1) d_Z_isOpen_27 rfl)) ax_fn)))))))) (y := (28, [(0, .inr (0, 38)), (1, .inl (.int (x1))), (2, .inl (.int (x2))), (3, .inl (.int (x3))), (4, .inl (.int (x4)))], [.inl (.int (x1)), .inl (.int ((s.1 0 49 ((s.1 0 46 (x4).toNatClampNeg)).toNatClampNeg)))], ax_m (s) ρ)) rfl ⟨trivial, (h0 38 rfl), trivial, (h0 38 rfl), trivial, ⟨(h0 46 rfl), ax_inp b1⟩, ⟨(h0 49 rfl), ax_inp b2⟩, trivial, trivial⟩ ?_
        refine ax_ic_ne (tgt := 35) hK d_Z_isOpen_28 (by decide) (fun c3 => ?_) (fun c3 => ?_)
        · replace h := ax_if c3 h
          cases h
          exact ax_Lsub [0, 1, 2, 4] rfl (KFw5 rfl)
        · replace h := ax_it c3 h
          cases h
          exact ax_Lsub [0, 1, 2, 4] rfl (KTw5 rfl)
def f_Z_isOpen (F : Nat) (a1 : Int32) (a2 : Int32) (s : ax_σ) : Option (Int32) :=
  Option.bind (lp_Z_isOpen_5 F a1 a2 s F (0 : Int32) (0 : Int32)) (fun v7 =>
    bif ax_bo v7 then
      some (v7)
    else none)
set_option maxHeartbeats 4000000 in
set_option maxRecDepth 100000 in
theorem t_Z_isOpen {l : Launch} {D : va_G} {cA : Nat → ClassId} {ad : Nat → Nat → Nat} {al : List (Nat × Nat)} {θ : ax_Θ} {ρ : ax_ρ} {F : Nat} (h0 : ax_M0 al) {a1 : Int32} {a2 : Int32} {s : ax_σ} {r0 : Int32} (h : f_Z_isOpen F a1 a2 s = some r0) : ax_T l D cA ad al θ y_Z_isOpen (.code y_Z_isOpen prog_8_method_33_code 5 (some .boolean)) 0 [.inr (0, 38), .inl (.int (a1)), .inl (.int (a2))] (ax_m s ρ) (some (.inl (.int r0))) (ax_m s ρ) := by
  refine ax_T_of (own := "CipherNotationModel") (by decide) rfl (Nat.le_of_ble_eq_true rfl) [(0, .inr (0, 38)), (1, .inl (.int (a1))), (2, .inl (.int (a2)))] rfl ?_
  intro G hA
  have hB := hA.B
  have hK := hB.K
  have hal := hB.la
  unfold f_Z_isOpen at h
  refine ax_bk hK (ax_fc (ax_v_pu (ax_r_iconst (v := 0) d_Z_isOpen_0 (by decide))) (ax_fc (ax_v_so (ax_r_istore_n (i := 3) d_Z_isOpen_1 rfl)) (ax_fc (ax_v_pu (ax_r_iconst (v := 0) d_Z_isOpen_2 (by decide))) (ax_fc (ax_v_so (ax_r_istore d_Z_isOpen_3)) ax_fn)))) (y := (5, [(4, .inl (.int ((0 : Int32)))), (3, .inl (.int ((0 : Int32)))), (0, .inr (0, 38)), (1, .inl (.int (a1))), (2, .inl (.int (a2)))], [], ax_m (s) ρ)) rfl ⟨trivial, trivial, trivial, trivial, trivial⟩ ?_
  obtain ⟨w8, hw8, h⟩ := ax_bd h
  refine ax_Lsub [2, 3, 4, 1, 0] rfl (pl_Z_isOpen_5 h0 hB F _ hw8 ?_)
  intro v7 e9
  subst w8
  try dsimp only at h
  change ax_R G 5 0 0 (43, [(3, .inl (.int (v7)))], [], ax_m (s) ρ)
  refine ax_bk hK (ax_fc (ax_v_ld (ax_r_iload_n (i := 3) d_Z_isOpen_43 rfl)) ax_fn) (y := (44, [(3, .inl (.int (v7)))], [.inl (.int (v7))], ax_m (s) ρ)) rfl ⟨trivial, trivial⟩ ?_
  obtain ⟨b9, h⟩ := ax_gd h
  cases h
  exact ax_zret hA (ax_bop b9) d_Z_isOpen_44
def y_Z_index : MethodName := ⟨"CipherNotationModel", "index", "(I)J"⟩
theorem d_Z_index_0 : decode prog_8_method_34_code 0 = .ok (.lconst 0, 1) := by decide +kernel
theorem d_Z_index_1 : decode prog_8_method_34_code 1 = .ok (.lstore_n 2, 1) := by decide +kernel
theorem d_Z_index_2 : decode prog_8_method_34_code 2 = .ok (.aload_n 0, 1) := by decide +kernel
theorem d_Z_index_3 : decode prog_8_method_34_code 3 = .ok (.getfield (81), 3) := by decide +kernel
theorem d_Z_index_6 : decode prog_8_method_34_code 6 = .ok (.iload_n 1, 1) := by decide +kernel
theorem d_Z_index_7 : decode prog_8_method_34_code 7 = .ok (.iaload, 1) := by decide +kernel
theorem d_Z_index_8 : decode prog_8_method_34_code 8 = .ok (.istore (4), 2) := by decide +kernel
theorem d_Z_index_10 : decode prog_8_method_34_code 10 = .ok (.iload (4), 2) := by decide +kernel
theorem d_Z_index_12 : decode prog_8_method_34_code 12 = .ok (.aload_n 0, 1) := by decide +kernel
theorem d_Z_index_13 : decode prog_8_method_34_code 13 = .ok (.getfield (84), 3) := by decide +kernel
theorem d_Z_index_16 : decode prog_8_method_34_code 16 = .ok (.iload_n 1, 1) := by decide +kernel
theorem d_Z_index_17 : decode prog_8_method_34_code 17 = .ok (.iaload, 1) := by decide +kernel
theorem d_Z_index_18 : decode prog_8_method_34_code 18 = .ok (.if_icmp .ge (47), 3) := by decide +kernel
theorem d_Z_index_21 : decode prog_8_method_34_code 21 = .ok (.lload_n 2, 1) := by decide +kernel
theorem d_Z_index_22 : decode prog_8_method_34_code 22 = .ok (.aload_n 0, 1) := by decide +kernel
theorem d_Z_index_23 : decode prog_8_method_34_code 23 = .ok (.getfield (87), 3) := by decide +kernel
theorem d_Z_index_26 : decode prog_8_method_34_code 26 = .ok (.iload (4), 2) := by decide +kernel
theorem d_Z_index_28 : decode prog_8_method_34_code 28 = .ok (.laload, 1) := by decide +kernel
theorem d_Z_index_29 : decode prog_8_method_34_code 29 = .ok (.aload_n 0, 1) := by decide +kernel
theorem d_Z_index_30 : decode prog_8_method_34_code 30 = .ok (.getfield (90), 3) := by decide +kernel
theorem d_Z_index_33 : decode prog_8_method_34_code 33 = .ok (.iload (4), 2) := by decide +kernel
theorem d_Z_index_35 : decode prog_8_method_34_code 35 = .ok (.iaload, 1) := by decide +kernel
theorem d_Z_index_36 : decode prog_8_method_34_code 36 = .ok (.ifCond .ge (7), 3) := by decide +kernel
theorem d_Z_index_39 : decode prog_8_method_34_code 39 = .ok (.lconst 1, 1) := by decide +kernel
theorem d_Z_index_40 : decode prog_8_method_34_code 40 = .ok (.goto (16), 3) := by decide +kernel
theorem d_Z_index_43 : decode prog_8_method_34_code 43 = .ok (.aload_n 0, 1) := by decide +kernel
theorem d_Z_index_44 : decode prog_8_method_34_code 44 = .ok (.getfield (120), 3) := by decide +kernel
theorem d_Z_index_47 : decode prog_8_method_34_code 47 = .ok (.aload_n 0, 1) := by decide +kernel
theorem d_Z_index_48 : decode prog_8_method_34_code 48 = .ok (.getfield (90), 3) := by decide +kernel
theorem d_Z_index_51 : decode prog_8_method_34_code 51 = .ok (.iload (4), 2) := by decide +kernel
theorem d_Z_index_53 : decode prog_8_method_34_code 53 = .ok (.iaload, 1) := by decide +kernel
theorem d_Z_index_54 : decode prog_8_method_34_code 54 = .ok (.iaload, 1) := by decide +kernel
theorem d_Z_index_55 : decode prog_8_method_34_code 55 = .ok (.i2l, 1) := by decide +kernel
theorem d_Z_index_56 : decode prog_8_method_34_code 56 = .ok (.lmul, 1) := by decide +kernel
theorem d_Z_index_57 : decode prog_8_method_34_code 57 = .ok (.ladd, 1) := by decide +kernel
theorem d_Z_index_58 : decode prog_8_method_34_code 58 = .ok (.lstore_n 2, 1) := by decide +kernel
theorem d_Z_index_59 : decode prog_8_method_34_code 59 = .ok (.iinc 4 (1), 3) := by decide +kernel
theorem d_Z_index_62 : decode prog_8_method_34_code 62 = .ok (.goto (-52), 3) := by decide +kernel
theorem d_Z_index_65 : decode prog_8_method_34_code 65 = .ok (.lload_n 2, 1) := by decide +kernel
theorem d_Z_index_66 : decode prog_8_method_34_code 66 = .ok (.lreturn, 1) := by decide +kernel
theorem fd_Z_120 : ax_fd "CipherNotationModel" 120 6 65 := ⟨nC6, nT6, 73, nY6, rfl, nW6, by decide, nw_4 202 (by decide +kernel) rfl, nO6, nA6⟩
def lp_Z_index_10 (F : Nat) (x1 : Int32) (s : ax_σ) : Nat → Int64 → Int32 → Option (Int64)
  | 0, _, _ => none
  | n + 1, x2, x4 =>
    bif ax_in x1 240 then
    if (s.1 0 62 (x1).toNatClampNeg) ≤ x4 then
      some x2
    else
      bif ax_in x4 240 then
      bif ax_in x4 240 then
      if (0 : Int32) ≤ (s.1 0 64 (x4).toNatClampNeg) then
        bif ax_in x4 240 then
        bif ax_in (s.1 0 64 (x4).toNatClampNeg) 2 then
        lp_Z_index_10 F x1 s n (x2 + ((s.2 0 63 (x4).toNatClampNeg) * ((s.1 0 74 ((s.1 0 64 (x4).toNatClampNeg)).toNatClampNeg)).toInt64)) (x4 + (1 : Int32))
        else none
        else none
      else
        lp_Z_index_10 F x1 s n (x2 + ((s.2 0 63 (x4).toNatClampNeg) * (1 : Int64))) (x4 + (1 : Int32))
      else none
      else none
    else none
set_option maxHeartbeats 4000000 in
set_option maxRecDepth 100000 in
theorem pl_Z_index_10 {D : va_G} {cA : Nat → ClassId} {ad : Nat → Nat → Nat} {al : List (Nat × Nat)} {θ : ax_Θ} {l : Launch} {ρ : ax_ρ} {G : ax_G} {F : Nat} {x1 : Int32} {s : ax_σ} (h0 : ax_M0 al) (hB : ax_B D cA ad al θ l "CipherNotationModel" prog_8_method_34_code 5 0 G) : ∀ (n : Nat) {x2 : Int64} {x4 : Int32} (out : Int64), lp_Z_index_10 F x1 s n x2 x4 = some out → (∀ (e2 : Int64), out = e2 → ax_R G 5 0 0 (65, [(2, .inl (.long (e2)))], [], ax_m (s) ρ)) → ax_R G 5 0 0 (10, [(0, .inr (0, 38)), (1, .inl (.int (x1))), (2, .inl (.long (x2))), (4, .inl (.int (x4)))], [], ax_m (s) ρ) := by
  have hK := hB.K
  have hal := hB.la
  intro n
  induction n with
  | zero =>
    intro x2 x4 out h
    cases h
  | succ n ih =>
    intro x2 x4 out h KE
    rw [lp_Z_index_10] at h
    obtain ⟨b2, h⟩ := ax_gd h
    refine ax_bk hK (ax_fc (ax_v_ld (ax_r_iload d_Z_index_10)) (ax_fc (ax_v_ld (ax_r_aload_n (i := 0) d_Z_index_12 rfl)) (ax_fc (ax_w_gf (e := none) hal d_Z_index_13 fd_Z_84) (ax_fc (ax_v_ld (ax_r_iload_n (i := 1) d_Z_index_16 rfl)) (ax_fc (ax_w_iald hal d_Z_index_17) ax_fn))))) (y := (18, [(0, .inr (0, 38)), (1, .inl (.int (x1))), (2, .inl (.long (x2))), (4, .inl (.int (x4)))], [.inl (.int ((s.1 0 62 (x1).toNatClampNeg))), .inl (.int (x4))], ax_m (s) ρ)) rfl ⟨trivial, trivial, (h0 38 rfl), trivial, ⟨(h0 62 rfl), ax_inp b2⟩, trivial⟩ ?_
    refine ax_ic_ge (tgt := 65) hK d_Z_index_18 (by decide) (fun c8 => ?_) (fun c8 => ?_)
    · replace h := ax_it c8 h
      cases h
      exact ax_Lsub [2] rfl (KE _ rfl)
    · replace h := ax_if c8 h
      obtain ⟨b3, h⟩ := ax_gd h
      obtain ⟨b4, h⟩ := ax_gd h
      refine ax_bk hK (ax_fc (ax_v_ld (ax_r_lload_n (i := 2) d_Z_index_21 rfl)) (ax_fc (ax_v_ld (ax_r_aload_n (i := 0) d_Z_index_22 rfl)) (ax_fc (ax_w_gf (e := none) hal d_Z_index_23 fd_Z_87) (ax_fc (ax_v_ld (ax_r_iload d_Z_index_26)) (ax_fc (ax_w_lald hal d_Z_index_28) (ax_fc (ax_v_ld (ax_r_aload_n (i := 0) d_Z_index_29 rfl)) (ax_fc (ax_w_gf (e := none) hal d_Z_index_30 fd_Z_90) (ax_fc (ax_v_ld (ax_r_iload d_Z_index_33)) (ax_fc (ax_w_iald hal d_Z_index_35) ax_fn))))))))) (y := (36, [(0, .inr (0, 38)), (1, .inl (.int (x1))), (2, .inl (.long (x2))), (4, .inl (.int (x4)))], [.inl (.int ((s.1 0 64 (x4).toNatClampNeg))), .inl (.long ((s.2 0 63 (x4).toNatClampNeg))), .inl (.long (x2))], ax_m (s) ρ)) rfl ⟨trivial, trivial, (h0 38 rfl), trivial, ⟨(h0 63 rfl), ax_inp b3⟩, trivial, (h0 38 rfl), trivial, ⟨(h0 64 rfl), ax_inp b4⟩, trivial⟩ ?_
      refine ax_if_ge (tgt := 43) hK d_Z_index_36 (by decide) (fun c7 => ?_) (fun c7 => ?_)
      · replace h := ax_it c7 h
        obtain ⟨b5, h⟩ := ax_gd h
        obtain ⟨b6, h⟩ := ax_gd h
        refine ax_bk hK (ax_fc (ax_v_ld (ax_r_aload_n (i := 0) d_Z_index_43 rfl)) (ax_fc (ax_w_gf (e := none) hal d_Z_index_44 fd_Z_120) (ax_fc (ax_v_ld (ax_r_aload_n (i := 0) d_Z_index_47 rfl)) (ax_fc (ax_w_gf (e := none) hal d_Z_index_48 fd_Z_90) (ax_fc (ax_v_ld (ax_r_iload d_Z_index_51)) (ax_fc (ax_w_iald hal d_Z_index_53) (ax_fc (ax_w_iald hal d_Z_index_54) (ax_fc (ax_v_pu (ax_r_i2l d_Z_index_55)) (ax_fc (ax_v_pu (ax_r_lmul d_Z_index_56)) (ax_fc (ax_v_pu (ax_r_ladd d_Z_index_57)) (ax_fc (ax_v_so (ax_r_lstore_n (i := 2) d_Z_index_58 rfl)) (ax_fc (ax_v_ii (d := 1) d_Z_index_59 (by decide)) (ax_fc (ax_v_go (tgt := 10) d_Z_index_62 (by decide)) ax_fn))))))))))))) (y := (10, [(4, .inl (.int ((x4 + (1 : Int32))))), (2, .inl (.long ((x2 + ((s.2 0 63 (x4).toNatClampNeg) * ((s.1 0 74 ((s.1 0 64 (x4).toNatClampNeg)).toNatClampNeg)).toInt64))))), (0, .inr (0, 38)), (1, .inl (.int (x1)))], [], ax_m (s) ρ)) rfl ⟨trivial, (h0 38 rfl), trivial, (h0 38 rfl), trivial, ⟨(h0 64 rfl), ax_inp b5⟩, ⟨(h0 74 rfl), ax_inp b6⟩, trivial, trivial, trivial, trivial, trivial, trivial, trivial⟩ ?_
        exact ax_Lsub [2, 3, 1, 0] rfl (ih _ h KE)
      · replace h := ax_if c7 h
        refine ax_bk hK (ax_fc (ax_v_pu (ax_r_lconst (v := 1) d_Z_index_39 (by decide))) (ax_fc (ax_v_go (tgt := 56) d_Z_index_40 (by decide)) ax_fn)) (y := (56, [(0, .inr (0, 38)), (1, .inl (.int (x1))), (2, .inl (.long (x2))), (4, .inl (.int (x4)))], [.inl (.long ((1 : Int64))), .inl (.long ((s.2 0 63 (x4).toNatClampNeg))), .inl (.long (x2))], ax_m (s) ρ)) rfl ⟨trivial, trivial, trivial⟩ ?_
        refine ax_bk hK (ax_fc (ax_v_pu (ax_r_lmul d_Z_index_56)) (ax_fc (ax_v_pu (ax_r_ladd d_Z_index_57)) (ax_fc (ax_v_so (ax_r_lstore_n (i := 2) d_Z_index_58 rfl)) (ax_fc (ax_v_ii (d := 1) d_Z_index_59 (by decide)) (ax_fc (ax_v_go (tgt := 10) d_Z_index_62 (by decide)) ax_fn))))) (y := (10, [(4, .inl (.int ((x4 + (1 : Int32))))), (2, .inl (.long ((x2 + ((s.2 0 63 (x4).toNatClampNeg) * (1 : Int64)))))), (0, .inr (0, 38)), (1, .inl (.int (x1)))], [], ax_m (s) ρ)) rfl ⟨trivial, trivial, trivial, trivial, trivial, trivial⟩ ?_
        exact ax_Lsub [2, 3, 1, 0] rfl (ih _ h KE)
def f_Z_index (F : Nat) (a1 : Int32) (s : ax_σ) : Option (Int64) :=
  bif ax_in a1 240 then
  Option.bind (lp_Z_index_10 F a1 s F (0 : Int64) (s.1 0 61 (a1).toNatClampNeg)) (fun v9 =>
    some (v9))
  else none
set_option maxHeartbeats 4000000 in
set_option maxRecDepth 100000 in
theorem t_Z_index {l : Launch} {D : va_G} {cA : Nat → ClassId} {ad : Nat → Nat → Nat} {al : List (Nat × Nat)} {θ : ax_Θ} {ρ : ax_ρ} {F : Nat} (h0 : ax_M0 al) {a1 : Int32} {s : ax_σ} {r0 : Int64} (h : f_Z_index F a1 s = some r0) : ax_T l D cA ad al θ y_Z_index (.code y_Z_index prog_8_method_34_code 5 (some .long)) 0 [.inr (0, 38), .inl (.int (a1))] (ax_m s ρ) (some (.inl (.long r0))) (ax_m s ρ) := by
  refine ax_T_of (own := "CipherNotationModel") (by decide) rfl (Nat.le_of_ble_eq_true rfl) [(0, .inr (0, 38)), (1, .inl (.int (a1)))] rfl ?_
  intro G hA
  have hB := hA.B
  have hK := hB.K
  have hal := hB.la
  unfold f_Z_index at h
  obtain ⟨b1, h⟩ := ax_gd h
  refine ax_bk hK (ax_fc (ax_v_pu (ax_r_lconst (v := 0) d_Z_index_0 (by decide))) (ax_fc (ax_v_so (ax_r_lstore_n (i := 2) d_Z_index_1 rfl)) (ax_fc (ax_v_ld (ax_r_aload_n (i := 0) d_Z_index_2 rfl)) (ax_fc (ax_w_gf (e := none) hal d_Z_index_3 fd_Z_81) (ax_fc (ax_v_ld (ax_r_iload_n (i := 1) d_Z_index_6 rfl)) (ax_fc (ax_w_iald hal d_Z_index_7) (ax_fc (ax_v_so (ax_r_istore d_Z_index_8)) ax_fn))))))) (y := (10, [(4, .inl (.int ((s.1 0 61 (a1).toNatClampNeg)))), (2, .inl (.long ((0 : Int64)))), (0, .inr (0, 38)), (1, .inl (.int (a1)))], [], ax_m (s) ρ)) rfl ⟨trivial, trivial, trivial, (h0 38 rfl), trivial, ⟨(h0 61 rfl), ax_inp b1⟩, trivial, trivial⟩ ?_
  obtain ⟨w10, hw10, h⟩ := ax_bd h
  refine ax_Lsub [2, 3, 1, 0] rfl (pl_Z_index_10 h0 hB F _ hw10 ?_)
  intro v9 e9
  subst w10
  try dsimp only at h
  change ax_R G 5 0 0 (65, [(2, .inl (.long (v9)))], [], ax_m (s) ρ)
  refine ax_bk hK (ax_fc (ax_v_ld (ax_r_lload_n (i := 2) d_Z_index_65 rfl)) ax_fn) (y := (66, [(2, .inl (.long (v9)))], [.inl (.long (v9))], ax_m (s) ρ)) rfl ⟨trivial, trivial⟩ ?_
  cases h
  exact ax_lret hA d_Z_index_66
def y_Z_before : MethodName := ⟨"CipherNotationModel", "before", "(IIII)J"⟩
theorem d_Z_before_0 : decode prog_8_method_35_code 0 = .ok (.iload_n 2, 1) := by decide +kernel
theorem d_Z_before_1 : decode prog_8_method_35_code 1 = .ok (.ifCond .ne (10), 3) := by decide +kernel
theorem d_Z_before_4 : decode prog_8_method_35_code 4 = .ok (.aload_n 0, 1) := by decide +kernel
theorem d_Z_before_5 : decode prog_8_method_35_code 5 = .ok (.iconst 0, 1) := by decide +kernel
theorem d_Z_before_6 : decode prog_8_method_35_code 6 = .ok (.iload_n 1, 1) := by decide +kernel
theorem d_Z_before_7 : decode prog_8_method_35_code 7 = .ok (.invokevirtual (301), 3) := by decide +kernel
theorem d_Z_before_10 : decode prog_8_method_35_code 10 = .ok (.lreturn, 1) := by decide +kernel
theorem d_Z_before_11 : decode prog_8_method_35_code 11 = .ok (.aload_n 0, 1) := by decide +kernel
theorem d_Z_before_12 : decode prog_8_method_35_code 12 = .ok (.iconst 0, 1) := by decide +kernel
theorem d_Z_before_13 : decode prog_8_method_35_code 13 = .ok (.aload_n 0, 1) := by decide +kernel
theorem d_Z_before_14 : decode prog_8_method_35_code 14 = .ok (.getfield (36), 3) := by decide +kernel
theorem d_Z_before_17 : decode prog_8_method_35_code 17 = .ok (.iconst 0, 1) := by decide +kernel
theorem d_Z_before_18 : decode prog_8_method_35_code 18 = .ok (.iaload, 1) := by decide +kernel
theorem d_Z_before_19 : decode prog_8_method_35_code 19 = .ok (.invokevirtual (301), 3) := by decide +kernel
theorem d_Z_before_22 : decode prog_8_method_35_code 22 = .ok (.iload_n 3, 1) := by decide +kernel
theorem d_Z_before_23 : decode prog_8_method_35_code 23 = .ok (.i2l, 1) := by decide +kernel
theorem d_Z_before_24 : decode prog_8_method_35_code 24 = .ok (.aload_n 0, 1) := by decide +kernel
theorem d_Z_before_25 : decode prog_8_method_35_code 25 = .ok (.aload_n 0, 1) := by decide +kernel
theorem d_Z_before_26 : decode prog_8_method_35_code 26 = .ok (.getfield (36), 3) := by decide +kernel
theorem d_Z_before_29 : decode prog_8_method_35_code 29 = .ok (.iconst 0, 1) := by decide +kernel
theorem d_Z_before_30 : decode prog_8_method_35_code 30 = .ok (.iaload, 1) := by decide +kernel
theorem d_Z_before_31 : decode prog_8_method_35_code 31 = .ok (.iconst 1, 1) := by decide +kernel
theorem d_Z_before_32 : decode prog_8_method_35_code 32 = .ok (.iadd, 1) := by decide +kernel
theorem d_Z_before_33 : decode prog_8_method_35_code 33 = .ok (.aload_n 0, 1) := by decide +kernel
theorem d_Z_before_34 : decode prog_8_method_35_code 34 = .ok (.getfield (48), 3) := by decide +kernel
theorem d_Z_before_37 : decode prog_8_method_35_code 37 = .ok (.aload_n 0, 1) := by decide +kernel
theorem d_Z_before_38 : decode prog_8_method_35_code 38 = .ok (.getfield (36), 3) := by decide +kernel
theorem d_Z_before_41 : decode prog_8_method_35_code 41 = .ok (.iconst 0, 1) := by decide +kernel
theorem d_Z_before_42 : decode prog_8_method_35_code 42 = .ok (.iaload, 1) := by decide +kernel
theorem d_Z_before_43 : decode prog_8_method_35_code 43 = .ok (.iaload, 1) := by decide +kernel
theorem d_Z_before_44 : decode prog_8_method_35_code 44 = .ok (.invokevirtual (301), 3) := by decide +kernel
theorem d_Z_before_47 : decode prog_8_method_35_code 47 = .ok (.lmul, 1) := by decide +kernel
theorem d_Z_before_48 : decode prog_8_method_35_code 48 = .ok (.ladd, 1) := by decide +kernel
theorem d_Z_before_49 : decode prog_8_method_35_code 49 = .ok (.lstore (5), 2) := by decide +kernel
theorem d_Z_before_51 : decode prog_8_method_35_code 51 = .ok (.iload_n 2, 1) := by decide +kernel
theorem d_Z_before_52 : decode prog_8_method_35_code 52 = .ok (.iconst 1, 1) := by decide +kernel
theorem d_Z_before_53 : decode prog_8_method_35_code 53 = .ok (.if_icmp .ne (20), 3) := by decide +kernel
theorem d_Z_before_56 : decode prog_8_method_35_code 56 = .ok (.lload (5), 2) := by decide +kernel
theorem d_Z_before_58 : decode prog_8_method_35_code 58 = .ok (.aload_n 0, 1) := by decide +kernel
theorem d_Z_before_59 : decode prog_8_method_35_code 59 = .ok (.aload_n 0, 1) := by decide +kernel
theorem d_Z_before_60 : decode prog_8_method_35_code 60 = .ok (.getfield (36), 3) := by decide +kernel
theorem d_Z_before_63 : decode prog_8_method_35_code 63 = .ok (.iconst 0, 1) := by decide +kernel
theorem d_Z_before_64 : decode prog_8_method_35_code 64 = .ok (.iaload, 1) := by decide +kernel
theorem d_Z_before_65 : decode prog_8_method_35_code 65 = .ok (.iconst 1, 1) := by decide +kernel
theorem d_Z_before_66 : decode prog_8_method_35_code 66 = .ok (.iadd, 1) := by decide +kernel
theorem d_Z_before_67 : decode prog_8_method_35_code 67 = .ok (.iload_n 1, 1) := by decide +kernel
theorem d_Z_before_68 : decode prog_8_method_35_code 68 = .ok (.invokevirtual (301), 3) := by decide +kernel
theorem d_Z_before_71 : decode prog_8_method_35_code 71 = .ok (.ladd, 1) := by decide +kernel
theorem d_Z_before_72 : decode prog_8_method_35_code 72 = .ok (.lreturn, 1) := by decide +kernel
theorem d_Z_before_73 : decode prog_8_method_35_code 73 = .ok (.lload (5), 2) := by decide +kernel
theorem d_Z_before_75 : decode prog_8_method_35_code 75 = .ok (.aload_n 0, 1) := by decide +kernel
theorem d_Z_before_76 : decode prog_8_method_35_code 76 = .ok (.aload_n 0, 1) := by decide +kernel
theorem d_Z_before_77 : decode prog_8_method_35_code 77 = .ok (.getfield (36), 3) := by decide +kernel
theorem d_Z_before_80 : decode prog_8_method_35_code 80 = .ok (.iconst 0, 1) := by decide +kernel
theorem d_Z_before_81 : decode prog_8_method_35_code 81 = .ok (.iaload, 1) := by decide +kernel
theorem d_Z_before_82 : decode prog_8_method_35_code 82 = .ok (.iconst 1, 1) := by decide +kernel
theorem d_Z_before_83 : decode prog_8_method_35_code 83 = .ok (.iadd, 1) := by decide +kernel
theorem d_Z_before_84 : decode prog_8_method_35_code 84 = .ok (.aload_n 0, 1) := by decide +kernel
theorem d_Z_before_85 : decode prog_8_method_35_code 85 = .ok (.getfield (36), 3) := by decide +kernel
theorem d_Z_before_88 : decode prog_8_method_35_code 88 = .ok (.iconst 1, 1) := by decide +kernel
theorem d_Z_before_89 : decode prog_8_method_35_code 89 = .ok (.iaload, 1) := by decide +kernel
theorem d_Z_before_90 : decode prog_8_method_35_code 90 = .ok (.invokevirtual (301), 3) := by decide +kernel
theorem d_Z_before_93 : decode prog_8_method_35_code 93 = .ok (.ladd, 1) := by decide +kernel
theorem d_Z_before_94 : decode prog_8_method_35_code 94 = .ok (.iload (4), 2) := by decide +kernel
theorem d_Z_before_96 : decode prog_8_method_35_code 96 = .ok (.i2l, 1) := by decide +kernel
theorem d_Z_before_97 : decode prog_8_method_35_code 97 = .ok (.aload_n 0, 1) := by decide +kernel
theorem d_Z_before_98 : decode prog_8_method_35_code 98 = .ok (.aload_n 0, 1) := by decide +kernel
theorem d_Z_before_99 : decode prog_8_method_35_code 99 = .ok (.getfield (36), 3) := by decide +kernel
theorem d_Z_before_102 : decode prog_8_method_35_code 102 = .ok (.iconst 1, 1) := by decide +kernel
theorem d_Z_before_103 : decode prog_8_method_35_code 103 = .ok (.iaload, 1) := by decide +kernel
theorem d_Z_before_104 : decode prog_8_method_35_code 104 = .ok (.iconst 1, 1) := by decide +kernel
theorem d_Z_before_105 : decode prog_8_method_35_code 105 = .ok (.iadd, 1) := by decide +kernel
theorem d_Z_before_106 : decode prog_8_method_35_code 106 = .ok (.aload_n 0, 1) := by decide +kernel
theorem d_Z_before_107 : decode prog_8_method_35_code 107 = .ok (.getfield (48), 3) := by decide +kernel
theorem d_Z_before_110 : decode prog_8_method_35_code 110 = .ok (.aload_n 0, 1) := by decide +kernel
theorem d_Z_before_111 : decode prog_8_method_35_code 111 = .ok (.getfield (36), 3) := by decide +kernel
theorem d_Z_before_114 : decode prog_8_method_35_code 114 = .ok (.iconst 1, 1) := by decide +kernel
theorem d_Z_before_115 : decode prog_8_method_35_code 115 = .ok (.iaload, 1) := by decide +kernel
theorem d_Z_before_116 : decode prog_8_method_35_code 116 = .ok (.iaload, 1) := by decide +kernel
theorem d_Z_before_117 : decode prog_8_method_35_code 117 = .ok (.invokevirtual (301), 3) := by decide +kernel
theorem d_Z_before_120 : decode prog_8_method_35_code 120 = .ok (.lmul, 1) := by decide +kernel
theorem d_Z_before_121 : decode prog_8_method_35_code 121 = .ok (.ladd, 1) := by decide +kernel
theorem d_Z_before_122 : decode prog_8_method_35_code 122 = .ok (.aload_n 0, 1) := by decide +kernel
theorem d_Z_before_123 : decode prog_8_method_35_code 123 = .ok (.aload_n 0, 1) := by decide +kernel
theorem d_Z_before_124 : decode prog_8_method_35_code 124 = .ok (.getfield (36), 3) := by decide +kernel
theorem d_Z_before_127 : decode prog_8_method_35_code 127 = .ok (.iconst 1, 1) := by decide +kernel
theorem d_Z_before_128 : decode prog_8_method_35_code 128 = .ok (.iaload, 1) := by decide +kernel
theorem d_Z_before_129 : decode prog_8_method_35_code 129 = .ok (.iconst 1, 1) := by decide +kernel
theorem d_Z_before_130 : decode prog_8_method_35_code 130 = .ok (.iadd, 1) := by decide +kernel
theorem d_Z_before_131 : decode prog_8_method_35_code 131 = .ok (.iload_n 1, 1) := by decide +kernel
theorem d_Z_before_132 : decode prog_8_method_35_code 132 = .ok (.invokevirtual (301), 3) := by decide +kernel
theorem d_Z_before_135 : decode prog_8_method_35_code 135 = .ok (.ladd, 1) := by decide +kernel
theorem d_Z_before_136 : decode prog_8_method_35_code 136 = .ok (.lreturn, 1) := by decide +kernel
set_option maxRecDepth 100000 in
theorem cw_Z_301 : ax_cw "CipherNotationModel" 301 y_Z_written (.code y_Z_written prog_8_method_31_code 13 (some .long)) 2 := ⟨nw_6 22 (by decide +kernel) rfl, nw_1 7 (by decide +kernel) rfl, nw_6 25 rfl rfl, by decide +kernel, by decide +kernel⟩
theorem im_Z_written : Cond.instanceMethod y_Z_written ∈ ax_tbl := nw_6 24 (by decide +kernel) rfl
theorem se_Z_written : Cond.selects y_Z_written.cls y_Z_written y_Z_written ∈ ax_tbl := nw_sel 70 (by decide +kernel) (by decide +kernel)
def f_Z_before (F : Nat) (a1 : Int32) (a2 : Int32) (a3 : Int32) (a4 : Int32) (s : ax_σ) : Option (Int64) :=
  if a2 = (0 : Int32) then
    Option.bind (f_Z_written F (0 : Int32) a1 s) (fun r25 =>
      some (r25))
  else
    bif ax_in (0 : Int32) 2 then
    Option.bind (f_Z_written F (0 : Int32) (s.1 0 46 ((0 : Int32)).toNatClampNeg) s) (fun r2 =>
      bif ax_in (0 : Int32) 2 then
      bif ax_in (0 : Int32) 2 then
      bif ax_in (s.1 0 46 ((0 : Int32)).toNatClampNeg) 240 then
      Option.bind (f_Z_written F ((s.1 0 46 ((0 : Int32)).toNatClampNeg) + (1 : Int32)) (s.1 0 50 ((s.1 0 46 ((0 : Int32)).toNatClampNeg)).toNatClampNeg) s) (fun r7 =>
        if a2 = (1 : Int32) then
          bif ax_in (0 : Int32) 2 then
          Option.bind (f_Z_written F ((s.1 0 46 ((0 : Int32)).toNatClampNeg) + (1 : Int32)) a1 s) (fun r22 =>
            some (((r2 + ((a3).toInt64 * r7)) + r22)))
          else none
        else
          bif ax_in (0 : Int32) 2 then
          bif ax_in (1 : Int32) 2 then
          Option.bind (f_Z_written F ((s.1 0 46 ((0 : Int32)).toNatClampNeg) + (1 : Int32)) (s.1 0 46 ((1 : Int32)).toNatClampNeg) s) (fun r11 =>
            bif ax_in (1 : Int32) 2 then
            bif ax_in (1 : Int32) 2 then
            bif ax_in (s.1 0 46 ((1 : Int32)).toNatClampNeg) 240 then
            Option.bind (f_Z_written F ((s.1 0 46 ((1 : Int32)).toNatClampNeg) + (1 : Int32)) (s.1 0 50 ((s.1 0 46 ((1 : Int32)).toNatClampNeg)).toNatClampNeg) s) (fun r16 =>
              bif ax_in (1 : Int32) 2 then
              Option.bind (f_Z_written F ((s.1 0 46 ((1 : Int32)).toNatClampNeg) + (1 : Int32)) a1 s) (fun r19 =>
                some (((((r2 + ((a3).toInt64 * r7)) + r11) + ((a4).toInt64 * r16)) + r19)))
              else none)
            else none
            else none
            else none)
          else none
          else none)
      else none
      else none
      else none)
    else none
set_option maxHeartbeats 4000000 in
set_option maxRecDepth 100000 in
theorem t_Z_before {l : Launch} {D : va_G} {cA : Nat → ClassId} {ad : Nat → Nat → Nat} {al : List (Nat × Nat)} {θ : ax_Θ} {ρ : ax_ρ} {F : Nat} (h0 : ax_M0 al) {a1 : Int32} {a2 : Int32} {a3 : Int32} {a4 : Int32} {s : ax_σ} {r0 : Int64} (h : f_Z_before F a1 a2 a3 a4 s = some r0) : ax_T l D cA ad al θ y_Z_before (.code y_Z_before prog_8_method_35_code 7 (some .long)) 1 [.inr (0, 38), .inl (.int (a1)), .inl (.int (a2)), .inl (.int (a3)), .inl (.int (a4))] (ax_m s ρ) (some (.inl (.long r0))) (ax_m s ρ) := by
  refine ax_T_of (own := "CipherNotationModel") (by decide) rfl (Nat.le_of_ble_eq_true rfl) [(0, .inr (0, 38)), (1, .inl (.int (a1))), (2, .inl (.int (a2))), (3, .inl (.int (a3))), (4, .inl (.int (a4)))] rfl ?_
  intro G hA
  have hB := hA.B
  have hK := hB.K
  have hal := hB.la
  unfold f_Z_before at h
  refine ax_bk hK (ax_fc (ax_v_ld (ax_r_iload_n (i := 2) d_Z_before_0 rfl)) ax_fn) (y := (1, [(0, .inr (0, 38)), (1, .inl (.int (a1))), (2, .inl (.int (a2))), (3, .inl (.int (a3))), (4, .inl (.int (a4)))], [.inl (.int (a2))], ax_m (s) ρ)) rfl ⟨trivial, trivial⟩ ?_
  refine ax_if_ne (tgt := 11) hK d_Z_before_1 (by decide) (fun c27 => ?_) (fun c27 => ?_)
  · replace h := ax_if c27 h
    obtain ⟨b1, h⟩ := ax_gd h
    refine ax_bk hK (ax_fc (ax_v_ld (ax_r_aload_n (i := 0) d_Z_before_11 rfl)) (ax_fc (ax_v_pu (ax_r_iconst (v := 0) d_Z_before_12 (by decide))) (ax_fc (ax_v_ld (ax_r_aload_n (i := 0) d_Z_before_13 rfl)) (ax_fc (ax_w_gf (e := none) hal d_Z_before_14 fd_Z_36) (ax_fc (ax_v_pu (ax_r_iconst (v := 0) d_Z_before_17 (by decide))) (ax_fc (ax_w_iald hal d_Z_before_18) ax_fn)))))) (y := (19, [(0, .inr (0, 38)), (1, .inl (.int (a1))), (2, .inl (.int (a2))), (3, .inl (.int (a3))), (4, .inl (.int (a4)))], [.inl (.int ((s.1 0 46 ((0 : Int32)).toNatClampNeg))), .inl (.int ((0 : Int32))), .inr (0, 38)], ax_m (s) ρ)) rfl ⟨trivial, trivial, trivial, (h0 38 rfl), trivial, ⟨(h0 46 rfl), ax_inp b1⟩, trivial⟩ ?_
    obtain ⟨r2, q3, h⟩ := ax_bd h
    refine ax_bV (rest := []) hB (t_Z_written h0 q3) cw_Z_301 im_Z_written se_Z_written d_Z_before_19 (h0 38 rfl) rfl rfl (by decide) (by decide) rfl rfl (Nat.le_of_ble_eq_true rfl) ?_
    change ax_R G 7 0 0 (22, [(0, .inr (0, 38)), (1, .inl (.int (a1))), (2, .inl (.int (a2))), (3, .inl (.int (a3))), (4, .inl (.int (a4)))], [.inl (.long (r2))], ax_m (s) ρ)
    obtain ⟨b4, h⟩ := ax_gd h
    obtain ⟨b5, h⟩ := ax_gd h
    obtain ⟨b6, h⟩ := ax_gd h
    refine ax_bk hK (ax_fc (ax_v_ld (ax_r_iload_n (i := 3) d_Z_before_22 rfl)) (ax_fc (ax_v_pu (ax_r_i2l d_Z_before_23)) (ax_fc (ax_v_ld (ax_r_aload_n (i := 0) d_Z_before_24 rfl)) (ax_fc (ax_v_ld (ax_r_aload_n (i := 0) d_Z_before_25 rfl)) (ax_fc (ax_w_gf (e := none) hal d_Z_before_26 fd_Z_36) (ax_fc (ax_v_pu (ax_r_iconst (v := 0) d_Z_before_29 (by decide))) (ax_fc (ax_w_iald hal d_Z_before_30) (ax_fc (ax_v_pu (ax_r_iconst (v := 1) d_Z_before_31 (by decide))) (ax_fc (ax_v_pu (ax_r_iadd d_Z_before_32)) (ax_fc (ax_v_ld (ax_r_aload_n (i := 0) d_Z_before_33 rfl)) (ax_fc (ax_w_gf (e := none) hal d_Z_before_34 fd_Z_48) (ax_fc (ax_v_ld (ax_r_aload_n (i := 0) d_Z_before_37 rfl)) (ax_fc (ax_w_gf (e := none) hal d_Z_before_38 fd_Z_36) (ax_fc (ax_v_pu (ax_r_iconst (v := 0) d_Z_before_41 (by decide))) (ax_fc (ax_w_iald hal d_Z_before_42) (ax_fc (ax_w_iald hal d_Z_before_43) ax_fn)))))))))))))))) (y := (44, [(0, .inr (0, 38)), (1, .inl (.int (a1))), (2, .inl (.int (a2))), (3, .inl (.int (a3))), (4, .inl (.int (a4)))], [.inl (.int ((s.1 0 50 ((s.1 0 46 ((0 : Int32)).toNatClampNeg)).toNatClampNeg))), .inl (.int (((s.1 0 46 ((0 : Int32)).toNatClampNeg) + (1 : Int32)))), .inr (0, 38), .inl (.long ((a3).toInt64)), .inl (.long (r2))], ax_m (s) ρ)) rfl ⟨trivial, trivial, trivial, trivial, (h0 38 rfl), trivial, ⟨(h0 46 rfl), ax_inp b4⟩, trivial, trivial, trivial, (h0 38 rfl), trivial, (h0 38 rfl), trivial, ⟨(h0 46 rfl), ax_inp b5⟩, ⟨(h0 50 rfl), ax_inp b6⟩, trivial⟩ ?_
    obtain ⟨r7, q8, h⟩ := ax_bd h
    refine ax_bV (rest := [.inl (.long ((a3).toInt64)), .inl (.long (r2))]) hB (t_Z_written h0 q8) cw_Z_301 im_Z_written se_Z_written d_Z_before_44 (h0 38 rfl) rfl rfl (by decide) (by decide) rfl rfl (Nat.le_of_ble_eq_true rfl) ?_
    change ax_R G 7 0 0 (47, [(0, .inr (0, 38)), (1, .inl (.int (a1))), (2, .inl (.int (a2))), (3, .inl (.int (a3))), (4, .inl (.int (a4)))], [.inl (.long (r7)), .inl (.long ((a3).toInt64)), .inl (.long (r2))], ax_m (s) ρ)
    refine ax_bk hK (ax_fc (ax_v_pu (ax_r_lmul d_Z_before_47)) (ax_fc (ax_v_pu (ax_r_ladd d_Z_before_48)) (ax_fc (ax_v_so (ax_r_lstore d_Z_before_49)) (ax_fc (ax_v_ld (ax_r_iload_n (i := 2) d_Z_before_51 rfl)) (ax_fc (ax_v_pu (ax_r_iconst (v := 1) d_Z_before_52 (by decide))) ax_fn))))) (y := (53, [(5, .inl (.long ((r2 + ((a3).toInt64 * r7))))), (0, .inr (0, 38)), (1, .inl (.int (a1))), (2, .inl (.int (a2))), (3, .inl (.int (a3))), (4, .inl (.int (a4)))], [.inl (.int ((1 : Int32))), .inl (.int (a2))], ax_m (s) ρ)) rfl ⟨trivial, trivial, trivial, trivial, trivial, trivial⟩ ?_
    refine ax_ic_ne (tgt := 73) hK d_Z_before_53 (by decide) (fun c24 => ?_) (fun c24 => ?_)
    · replace h := ax_if c24 h
      obtain ⟨b9, h⟩ := ax_gd h
      obtain ⟨b10, h⟩ := ax_gd h
      refine ax_bk hK (ax_fc (ax_v_ld (ax_r_lload d_Z_before_73)) (ax_fc (ax_v_ld (ax_r_aload_n (i := 0) d_Z_before_75 rfl)) (ax_fc (ax_v_ld (ax_r_aload_n (i := 0) d_Z_before_76 rfl)) (ax_fc (ax_w_gf (e := none) hal d_Z_before_77 fd_Z_36) (ax_fc (ax_v_pu (ax_r_iconst (v := 0) d_Z_before_80 (by decide))) (ax_fc (ax_w_iald hal d_Z_before_81) (ax_fc (ax_v_pu (ax_r_iconst (v := 1) d_Z_before_82 (by decide))) (ax_fc (ax_v_pu (ax_r_iadd d_Z_before_83)) (ax_fc (ax_v_ld (ax_r_aload_n (i := 0) d_Z_before_84 rfl)) (ax_fc (ax_w_gf (e := none) hal d_Z_before_85 fd_Z_36) (ax_fc (ax_v_pu (ax_r_iconst (v := 1) d_Z_before_88 (by decide))) (ax_fc (ax_w_iald hal d_Z_before_89) ax_fn)))))))))))) (y := (90, [(5, .inl (.long ((r2 + ((a3).toInt64 * r7))))), (0, .inr (0, 38)), (1, .inl (.int (a1))), (2, .inl (.int (a2))), (3, .inl (.int (a3))), (4, .inl (.int (a4)))], [.inl (.int ((s.1 0 46 ((1 : Int32)).toNatClampNeg))), .inl (.int (((s.1 0 46 ((0 : Int32)).toNatClampNeg) + (1 : Int32)))), .inr (0, 38), .inl (.long ((r2 + ((a3).toInt64 * r7))))], ax_m (s) ρ)) rfl ⟨trivial, trivial, trivial, (h0 38 rfl), trivial, ⟨(h0 46 rfl), ax_inp b9⟩, trivial, trivial, trivial, (h0 38 rfl), trivial, ⟨(h0 46 rfl), ax_inp b10⟩, trivial⟩ ?_
      obtain ⟨r11, q12, h⟩ := ax_bd h
      refine ax_bV (rest := [.inl (.long ((r2 + ((a3).toInt64 * r7))))]) hB (t_Z_written h0 q12) cw_Z_301 im_Z_written se_Z_written d_Z_before_90 (h0 38 rfl) rfl rfl (by decide) (by decide) rfl rfl (Nat.le_of_ble_eq_true rfl) ?_
      change ax_R G 7 0 0 (93, [(5, .inl (.long ((r2 + ((a3).toInt64 * r7))))), (0, .inr (0, 38)), (1, .inl (.int (a1))), (2, .inl (.int (a2))), (3, .inl (.int (a3))), (4, .inl (.int (a4)))], [.inl (.long (r11)), .inl (.long ((r2 + ((a3).toInt64 * r7))))], ax_m (s) ρ)
      obtain ⟨b13, h⟩ := ax_gd h
      obtain ⟨b14, h⟩ := ax_gd h
      obtain ⟨b15, h⟩ := ax_gd h
      refine ax_bk hK (ax_fc (ax_v_pu (ax_r_ladd d_Z_before_93)) (ax_fc (ax_v_ld (ax_r_iload d_Z_before_94)) (ax_fc (ax_v_pu (ax_r_i2l d_Z_before_96)) (ax_fc (ax_v_ld (ax_r_aload_n (i := 0) d_Z_before_97 rfl)) (ax_fc (ax_v_ld (ax_r_aload_n (i := 0) d_Z_before_98 rfl)) (ax_fc (ax_w_gf (e := none) hal d_Z_before_99 fd_Z_36) (ax_fc (ax_v_pu (ax_r_iconst (v := 1) d_Z_before_102 (by decide))) (ax_fc (ax_w_iald hal d_Z_before_103) (ax_fc (ax_v_pu (ax_r_iconst (v := 1) d_Z_before_104 (by decide))) (ax_fc (ax_v_pu (ax_r_iadd d_Z_before_105)) (ax_fc (ax_v_ld (ax_r_aload_n (i := 0) d_Z_before_106 rfl)) (ax_fc (ax_w_gf (e := none) hal d_Z_before_107 fd_Z_48) (ax_fc (ax_v_ld (ax_r_aload_n (i := 0) d_Z_before_110 rfl)) (ax_fc (ax_w_gf (e := none) hal d_Z_before_111 fd_Z_36) (ax_fc (ax_v_pu (ax_r_iconst (v := 1) d_Z_before_114 (by decide))) (ax_fc (ax_w_iald hal d_Z_before_115) (ax_fc (ax_w_iald hal d_Z_before_116) ax_fn))))))))))))))))) (y := (117, [(5, .inl (.long ((r2 + ((a3).toInt64 * r7))))), (0, .inr (0, 38)), (1, .inl (.int (a1))), (2, .inl (.int (a2))), (3, .inl (.int (a3))), (4, .inl (.int (a4)))], [.inl (.int ((s.1 0 50 ((s.1 0 46 ((1 : Int32)).toNatClampNeg)).toNatClampNeg))), .inl (.int (((s.1 0 46 ((1 : Int32)).toNatClampNeg) + (1 : Int32)))), .inr (0, 38), .inl (.long ((a4).toInt64)), .inl (.long (((r2 + ((a3).toInt64 * r7)) + r11)))], ax_m (s) ρ)) rfl ⟨trivial, trivial, trivial, trivial, trivial, (h0 38 rfl), trivial, ⟨(h0 46 rfl), ax_inp b13⟩, trivial, trivial, trivial, (h0 38 rfl), trivial, (h0 38 rfl), trivial, ⟨(h0 46 rfl), ax_inp b14⟩, ⟨(h0 50 rfl), ax_inp b15⟩, trivial⟩ ?_
      obtain ⟨r16, q17, h⟩ := ax_bd h
      refine ax_bV (rest := [.inl (.long ((a4).toInt64)), .inl (.long (((r2 + ((a3).toInt64 * r7)) + r11)))]) hB (t_Z_written h0 q17) cw_Z_301 im_Z_written se_Z_written d_Z_before_117 (h0 38 rfl) rfl rfl (by decide) (by decide) rfl rfl (Nat.le_of_ble_eq_true rfl) ?_
      change ax_R G 7 0 0 (120, [(5, .inl (.long ((r2 + ((a3).toInt64 * r7))))), (0, .inr (0, 38)), (1, .inl (.int (a1))), (2, .inl (.int (a2))), (3, .inl (.int (a3))), (4, .inl (.int (a4)))], [.inl (.long (r16)), .inl (.long ((a4).toInt64)), .inl (.long (((r2 + ((a3).toInt64 * r7)) + r11)))], ax_m (s) ρ)
      obtain ⟨b18, h⟩ := ax_gd h
      refine ax_bk hK (ax_fc (ax_v_pu (ax_r_lmul d_Z_before_120)) (ax_fc (ax_v_pu (ax_r_ladd d_Z_before_121)) (ax_fc (ax_v_ld (ax_r_aload_n (i := 0) d_Z_before_122 rfl)) (ax_fc (ax_v_ld (ax_r_aload_n (i := 0) d_Z_before_123 rfl)) (ax_fc (ax_w_gf (e := none) hal d_Z_before_124 fd_Z_36) (ax_fc (ax_v_pu (ax_r_iconst (v := 1) d_Z_before_127 (by decide))) (ax_fc (ax_w_iald hal d_Z_before_128) (ax_fc (ax_v_pu (ax_r_iconst (v := 1) d_Z_before_129 (by decide))) (ax_fc (ax_v_pu (ax_r_iadd d_Z_before_130)) (ax_fc (ax_v_ld (ax_r_iload_n (i := 1) d_Z_before_131 rfl)) ax_fn)))))))))) (y := (132, [(5, .inl (.long ((r2 + ((a3).toInt64 * r7))))), (0, .inr (0, 38)), (1, .inl (.int (a1))), (2, .inl (.int (a2))), (3, .inl (.int (a3))), (4, .inl (.int (a4)))], [.inl (.int (a1)), .inl (.int (((s.1 0 46 ((1 : Int32)).toNatClampNeg) + (1 : Int32)))), .inr (0, 38), .inl (.long ((((r2 + ((a3).toInt64 * r7)) + r11) + ((a4).toInt64 * r16))))], ax_m (s) ρ)) rfl ⟨trivial, trivial, trivial, trivial, (h0 38 rfl), trivial, ⟨(h0 46 rfl), ax_inp b18⟩, trivial, trivial, trivial, trivial⟩ ?_
      obtain ⟨r19, q20, h⟩ := ax_bd h
      refine ax_bV (rest := [.inl (.long ((((r2 + ((a3).toInt64 * r7)) + r11) + ((a4).toInt64 * r16))))]) hB (t_Z_written h0 q20) cw_Z_301 im_Z_written se_Z_written d_Z_before_132 (h0 38 rfl) rfl rfl (by decide) (by decide) rfl rfl (Nat.le_of_ble_eq_true rfl) ?_
      change ax_R G 7 0 0 (135, [(5, .inl (.long ((r2 + ((a3).toInt64 * r7))))), (0, .inr (0, 38)), (1, .inl (.int (a1))), (2, .inl (.int (a2))), (3, .inl (.int (a3))), (4, .inl (.int (a4)))], [.inl (.long (r19)), .inl (.long ((((r2 + ((a3).toInt64 * r7)) + r11) + ((a4).toInt64 * r16))))], ax_m (s) ρ)
      refine ax_bk hK (ax_fc (ax_v_pu (ax_r_ladd d_Z_before_135)) ax_fn) (y := (136, [(5, .inl (.long ((r2 + ((a3).toInt64 * r7))))), (0, .inr (0, 38)), (1, .inl (.int (a1))), (2, .inl (.int (a2))), (3, .inl (.int (a3))), (4, .inl (.int (a4)))], [.inl (.long (((((r2 + ((a3).toInt64 * r7)) + r11) + ((a4).toInt64 * r16)) + r19)))], ax_m (s) ρ)) rfl ⟨trivial, trivial⟩ ?_
      cases h
      exact ax_lret hA d_Z_before_136
    · replace h := ax_it c24 h
      obtain ⟨b21, h⟩ := ax_gd h
      refine ax_bk hK (ax_fc (ax_v_ld (ax_r_lload d_Z_before_56)) (ax_fc (ax_v_ld (ax_r_aload_n (i := 0) d_Z_before_58 rfl)) (ax_fc (ax_v_ld (ax_r_aload_n (i := 0) d_Z_before_59 rfl)) (ax_fc (ax_w_gf (e := none) hal d_Z_before_60 fd_Z_36) (ax_fc (ax_v_pu (ax_r_iconst (v := 0) d_Z_before_63 (by decide))) (ax_fc (ax_w_iald hal d_Z_before_64) (ax_fc (ax_v_pu (ax_r_iconst (v := 1) d_Z_before_65 (by decide))) (ax_fc (ax_v_pu (ax_r_iadd d_Z_before_66)) (ax_fc (ax_v_ld (ax_r_iload_n (i := 1) d_Z_before_67 rfl)) ax_fn))))))))) (y := (68, [(5, .inl (.long ((r2 + ((a3).toInt64 * r7))))), (0, .inr (0, 38)), (1, .inl (.int (a1))), (2, .inl (.int (a2))), (3, .inl (.int (a3))), (4, .inl (.int (a4)))], [.inl (.int (a1)), .inl (.int (((s.1 0 46 ((0 : Int32)).toNatClampNeg) + (1 : Int32)))), .inr (0, 38), .inl (.long ((r2 + ((a3).toInt64 * r7))))], ax_m (s) ρ)) rfl ⟨trivial, trivial, trivial, (h0 38 rfl), trivial, ⟨(h0 46 rfl), ax_inp b21⟩, trivial, trivial, trivial, trivial⟩ ?_
      obtain ⟨r22, q23, h⟩ := ax_bd h
      refine ax_bV (rest := [.inl (.long ((r2 + ((a3).toInt64 * r7))))]) hB (t_Z_written h0 q23) cw_Z_301 im_Z_written se_Z_written d_Z_before_68 (h0 38 rfl) rfl rfl (by decide) (by decide) rfl rfl (Nat.le_of_ble_eq_true rfl) ?_
      change ax_R G 7 0 0 (71, [(5, .inl (.long ((r2 + ((a3).toInt64 * r7))))), (0, .inr (0, 38)), (1, .inl (.int (a1))), (2, .inl (.int (a2))), (3, .inl (.int (a3))), (4, .inl (.int (a4)))], [.inl (.long (r22)), .inl (.long ((r2 + ((a3).toInt64 * r7))))], ax_m (s) ρ)
      refine ax_bk hK (ax_fc (ax_v_pu (ax_r_ladd d_Z_before_71)) ax_fn) (y := (72, [(5, .inl (.long ((r2 + ((a3).toInt64 * r7))))), (0, .inr (0, 38)), (1, .inl (.int (a1))), (2, .inl (.int (a2))), (3, .inl (.int (a3))), (4, .inl (.int (a4)))], [.inl (.long (((r2 + ((a3).toInt64 * r7)) + r22)))], ax_m (s) ρ)) rfl ⟨trivial, trivial⟩ ?_
      cases h
      exact ax_lret hA d_Z_before_72
  · replace h := ax_it c27 h
    refine ax_bk hK (ax_fc (ax_v_ld (ax_r_aload_n (i := 0) d_Z_before_4 rfl)) (ax_fc (ax_v_pu (ax_r_iconst (v := 0) d_Z_before_5 (by decide))) (ax_fc (ax_v_ld (ax_r_iload_n (i := 1) d_Z_before_6 rfl)) ax_fn))) (y := (7, [(0, .inr (0, 38)), (1, .inl (.int (a1))), (2, .inl (.int (a2))), (3, .inl (.int (a3))), (4, .inl (.int (a4)))], [.inl (.int (a1)), .inl (.int ((0 : Int32))), .inr (0, 38)], ax_m (s) ρ)) rfl ⟨trivial, trivial, trivial, trivial⟩ ?_
    obtain ⟨r25, q26, h⟩ := ax_bd h
    refine ax_bV (rest := []) hB (t_Z_written h0 q26) cw_Z_301 im_Z_written se_Z_written d_Z_before_7 (h0 38 rfl) rfl rfl (by decide) (by decide) rfl rfl (Nat.le_of_ble_eq_true rfl) ?_
    change ax_R G 7 0 0 (10, [(0, .inr (0, 38)), (1, .inl (.int (a1))), (2, .inl (.int (a2))), (3, .inl (.int (a3))), (4, .inl (.int (a4)))], [.inl (.long (r25))], ax_m (s) ρ)
    cases h
    exact ax_lret hA d_Z_before_10
def y_Z_isTooGreat : MethodName := ⟨"CipherNotationModel", "isTooGreat", "(III)Z"⟩
theorem d_Z_isTooGreat_0 : decode prog_8_method_36_code 0 = .ok (.iconst 0, 1) := by decide +kernel
theorem d_Z_isTooGreat_1 : decode prog_8_method_36_code 1 = .ok (.istore (4), 2) := by decide +kernel
theorem d_Z_isTooGreat_3 : decode prog_8_method_36_code 3 = .ok (.aload_n 0, 1) := by decide +kernel
theorem d_Z_isTooGreat_4 : decode prog_8_method_36_code 4 = .ok (.iconst 0, 1) := by decide +kernel
theorem d_Z_isTooGreat_5 : decode prog_8_method_36_code 5 = .ok (.aload_n 0, 1) := by decide +kernel
theorem d_Z_isTooGreat_6 : decode prog_8_method_36_code 6 = .ok (.getfield (189), 3) := by decide +kernel
theorem d_Z_isTooGreat_9 : decode prog_8_method_36_code 9 = .ok (.invokevirtual (301), 3) := by decide +kernel
theorem d_Z_isTooGreat_12 : decode prog_8_method_36_code 12 = .ok (.lstore (5), 2) := by decide +kernel
theorem d_Z_isTooGreat_14 : decode prog_8_method_36_code 14 = .ok (.iconst 0, 1) := by decide +kernel
theorem d_Z_isTooGreat_15 : decode prog_8_method_36_code 15 = .ok (.istore (7), 2) := by decide +kernel
theorem d_Z_isTooGreat_17 : decode prog_8_method_36_code 17 = .ok (.iload (7), 2) := by decide +kernel
theorem d_Z_isTooGreat_19 : decode prog_8_method_36_code 19 = .ok (.i2l, 1) := by decide +kernel
theorem d_Z_isTooGreat_20 : decode prog_8_method_36_code 20 = .ok (.iload_n 3, 1) := by decide +kernel
theorem d_Z_isTooGreat_21 : decode prog_8_method_36_code 21 = .ok (.ifCond .le (17), 3) := by decide +kernel
theorem d_Z_isTooGreat_24 : decode prog_8_method_36_code 24 = .ok (.aload_n 0, 1) := by decide +kernel
theorem d_Z_isTooGreat_25 : decode prog_8_method_36_code 25 = .ok (.getfield (54), 3) := by decide +kernel
theorem d_Z_isTooGreat_28 : decode prog_8_method_36_code 28 = .ok (.aload_n 0, 1) := by decide +kernel
theorem d_Z_isTooGreat_29 : decode prog_8_method_36_code 29 = .ok (.getfield (36), 3) := by decide +kernel
theorem d_Z_isTooGreat_32 : decode prog_8_method_36_code 32 = .ok (.iconst 0, 1) := by decide +kernel
theorem d_Z_isTooGreat_33 : decode prog_8_method_36_code 33 = .ok (.iaload, 1) := by decide +kernel
theorem d_Z_isTooGreat_34 : decode prog_8_method_36_code 34 = .ok (.laload, 1) := by decide +kernel
theorem d_Z_isTooGreat_35 : decode prog_8_method_36_code 35 = .ok (.goto (4), 3) := by decide +kernel
theorem d_Z_isTooGreat_38 : decode prog_8_method_36_code 38 = .ok (.lconst 1, 1) := by decide +kernel
theorem d_Z_isTooGreat_39 : decode prog_8_method_36_code 39 = .ok (.lcmp, 1) := by decide +kernel
theorem d_Z_isTooGreat_40 : decode prog_8_method_36_code 40 = .ok (.ifCond .ge (171), 3) := by decide +kernel
theorem d_Z_isTooGreat_43 : decode prog_8_method_36_code 43 = .ok (.iload (7), 2) := by decide +kernel
theorem d_Z_isTooGreat_45 : decode prog_8_method_36_code 45 = .ok (.bipush (16), 2) := by decide +kernel
theorem d_Z_isTooGreat_47 : decode prog_8_method_36_code 47 = .ok (.if_icmp .ge (164), 3) := by decide +kernel
theorem d_Z_isTooGreat_50 : decode prog_8_method_36_code 50 = .ok (.iconst 0, 1) := by decide +kernel
theorem d_Z_isTooGreat_51 : decode prog_8_method_36_code 51 = .ok (.istore (8), 2) := by decide +kernel
theorem d_Z_isTooGreat_53 : decode prog_8_method_36_code 53 = .ok (.iload (8), 2) := by decide +kernel
theorem d_Z_isTooGreat_55 : decode prog_8_method_36_code 55 = .ok (.i2l, 1) := by decide +kernel
theorem d_Z_isTooGreat_56 : decode prog_8_method_36_code 56 = .ok (.iload_n 3, 1) := by decide +kernel
theorem d_Z_isTooGreat_57 : decode prog_8_method_36_code 57 = .ok (.iconst 1, 1) := by decide +kernel
theorem d_Z_isTooGreat_58 : decode prog_8_method_36_code 58 = .ok (.if_icmp .le (17), 3) := by decide +kernel
theorem d_Z_isTooGreat_61 : decode prog_8_method_36_code 61 = .ok (.aload_n 0, 1) := by decide +kernel
theorem d_Z_isTooGreat_62 : decode prog_8_method_36_code 62 = .ok (.getfield (54), 3) := by decide +kernel
theorem d_Z_isTooGreat_65 : decode prog_8_method_36_code 65 = .ok (.aload_n 0, 1) := by decide +kernel
theorem d_Z_isTooGreat_66 : decode prog_8_method_36_code 66 = .ok (.getfield (36), 3) := by decide +kernel
theorem d_Z_isTooGreat_69 : decode prog_8_method_36_code 69 = .ok (.iconst 1, 1) := by decide +kernel
theorem d_Z_isTooGreat_70 : decode prog_8_method_36_code 70 = .ok (.iaload, 1) := by decide +kernel
theorem d_Z_isTooGreat_71 : decode prog_8_method_36_code 71 = .ok (.laload, 1) := by decide +kernel
theorem d_Z_isTooGreat_72 : decode prog_8_method_36_code 72 = .ok (.goto (4), 3) := by decide +kernel
theorem d_Z_isTooGreat_75 : decode prog_8_method_36_code 75 = .ok (.lconst 1, 1) := by decide +kernel
theorem d_Z_isTooGreat_76 : decode prog_8_method_36_code 76 = .ok (.lcmp, 1) := by decide +kernel
theorem d_Z_isTooGreat_77 : decode prog_8_method_36_code 77 = .ok (.ifCond .ge (128), 3) := by decide +kernel
theorem d_Z_isTooGreat_80 : decode prog_8_method_36_code 80 = .ok (.iload (8), 2) := by decide +kernel
theorem d_Z_isTooGreat_82 : decode prog_8_method_36_code 82 = .ok (.bipush (16), 2) := by decide +kernel
theorem d_Z_isTooGreat_84 : decode prog_8_method_36_code 84 = .ok (.if_icmp .ge (121), 3) := by decide +kernel
theorem d_Z_isTooGreat_87 : decode prog_8_method_36_code 87 = .ok (.iload_n 3, 1) := by decide +kernel
theorem d_Z_isTooGreat_88 : decode prog_8_method_36_code 88 = .ok (.ifCond .le (21), 3) := by decide +kernel
theorem d_Z_isTooGreat_91 : decode prog_8_method_36_code 91 = .ok (.aload_n 0, 1) := by decide +kernel
theorem d_Z_isTooGreat_92 : decode prog_8_method_36_code 92 = .ok (.getfield (120), 3) := by decide +kernel
theorem d_Z_isTooGreat_95 : decode prog_8_method_36_code 95 = .ok (.aload_n 0, 1) := by decide +kernel
theorem d_Z_isTooGreat_96 : decode prog_8_method_36_code 96 = .ok (.getfield (45), 3) := by decide +kernel
theorem d_Z_isTooGreat_99 : decode prog_8_method_36_code 99 = .ok (.aload_n 0, 1) := by decide +kernel
theorem d_Z_isTooGreat_100 : decode prog_8_method_36_code 100 = .ok (.getfield (36), 3) := by decide +kernel
theorem d_Z_isTooGreat_103 : decode prog_8_method_36_code 103 = .ok (.iconst 0, 1) := by decide +kernel
theorem d_Z_isTooGreat_104 : decode prog_8_method_36_code 104 = .ok (.iaload, 1) := by decide +kernel
theorem d_Z_isTooGreat_105 : decode prog_8_method_36_code 105 = .ok (.iaload, 1) := by decide +kernel
theorem d_Z_isTooGreat_106 : decode prog_8_method_36_code 106 = .ok (.iload (7), 2) := by decide +kernel
theorem d_Z_isTooGreat_108 : decode prog_8_method_36_code 108 = .ok (.iastore, 1) := by decide +kernel
theorem d_Z_isTooGreat_109 : decode prog_8_method_36_code 109 = .ok (.iload_n 3, 1) := by decide +kernel
theorem d_Z_isTooGreat_110 : decode prog_8_method_36_code 110 = .ok (.iconst 1, 1) := by decide +kernel
theorem d_Z_isTooGreat_111 : decode prog_8_method_36_code 111 = .ok (.if_icmp .le (21), 3) := by decide +kernel
theorem d_Z_isTooGreat_114 : decode prog_8_method_36_code 114 = .ok (.aload_n 0, 1) := by decide +kernel
theorem d_Z_isTooGreat_115 : decode prog_8_method_36_code 115 = .ok (.getfield (120), 3) := by decide +kernel
theorem d_Z_isTooGreat_118 : decode prog_8_method_36_code 118 = .ok (.aload_n 0, 1) := by decide +kernel
theorem d_Z_isTooGreat_119 : decode prog_8_method_36_code 119 = .ok (.getfield (45), 3) := by decide +kernel
theorem d_Z_isTooGreat_122 : decode prog_8_method_36_code 122 = .ok (.aload_n 0, 1) := by decide +kernel
theorem d_Z_isTooGreat_123 : decode prog_8_method_36_code 123 = .ok (.getfield (36), 3) := by decide +kernel
theorem d_Z_isTooGreat_126 : decode prog_8_method_36_code 126 = .ok (.iconst 1, 1) := by decide +kernel
theorem d_Z_isTooGreat_127 : decode prog_8_method_36_code 127 = .ok (.iaload, 1) := by decide +kernel
theorem d_Z_isTooGreat_128 : decode prog_8_method_36_code 128 = .ok (.iaload, 1) := by decide +kernel
theorem d_Z_isTooGreat_129 : decode prog_8_method_36_code 129 = .ok (.iload (8), 2) := by decide +kernel
theorem d_Z_isTooGreat_131 : decode prog_8_method_36_code 131 = .ok (.iastore, 1) := by decide +kernel
theorem d_Z_isTooGreat_132 : decode prog_8_method_36_code 132 = .ok (.aload_n 0, 1) := by decide +kernel
theorem d_Z_isTooGreat_133 : decode prog_8_method_36_code 133 = .ok (.getfield (72), 3) := by decide +kernel
theorem d_Z_isTooGreat_136 : decode prog_8_method_36_code 136 = .ok (.iload_n 2, 1) := by decide +kernel
theorem d_Z_isTooGreat_137 : decode prog_8_method_36_code 137 = .ok (.iaload, 1) := by decide +kernel
theorem d_Z_isTooGreat_138 : decode prog_8_method_36_code 138 = .ok (.iconst 2, 1) := by decide +kernel
theorem d_Z_isTooGreat_139 : decode prog_8_method_36_code 139 = .ok (.if_icmp .ne (12), 3) := by decide +kernel
theorem d_Z_isTooGreat_142 : decode prog_8_method_36_code 142 = .ok (.aload_n 0, 1) := by decide +kernel
theorem d_Z_isTooGreat_143 : decode prog_8_method_36_code 143 = .ok (.getfield (20), 3) := by decide +kernel
theorem d_Z_isTooGreat_146 : decode prog_8_method_36_code 146 = .ok (.iconst 2, 1) := by decide +kernel
theorem d_Z_isTooGreat_147 : decode prog_8_method_36_code 147 = .ok (.laload, 1) := by decide +kernel
theorem d_Z_isTooGreat_148 : decode prog_8_method_36_code 148 = .ok (.goto (26), 3) := by decide +kernel
theorem d_Z_isTooGreat_151 : decode prog_8_method_36_code 151 = .ok (.iload_n 1, 1) := by decide +kernel
theorem d_Z_isTooGreat_152 : decode prog_8_method_36_code 152 = .ok (.aload_n 0, 1) := by decide +kernel
theorem d_Z_isTooGreat_153 : decode prog_8_method_36_code 153 = .ok (.getfield (189), 3) := by decide +kernel
theorem d_Z_isTooGreat_156 : decode prog_8_method_36_code 156 = .ok (.if_icmp .lt (8), 3) := by decide +kernel
theorem d_Z_isTooGreat_159 : decode prog_8_method_36_code 159 = .ok (.lload (5), 2) := by decide +kernel
theorem d_Z_isTooGreat_161 : decode prog_8_method_36_code 161 = .ok (.goto (13), 3) := by decide +kernel
theorem d_Z_isTooGreat_164 : decode prog_8_method_36_code 164 = .ok (.aload_n 0, 1) := by decide +kernel
theorem d_Z_isTooGreat_165 : decode prog_8_method_36_code 165 = .ok (.iload_n 1, 1) := by decide +kernel
theorem d_Z_isTooGreat_166 : decode prog_8_method_36_code 166 = .ok (.iload_n 3, 1) := by decide +kernel
theorem d_Z_isTooGreat_167 : decode prog_8_method_36_code 167 = .ok (.iload (7), 2) := by decide +kernel
theorem d_Z_isTooGreat_169 : decode prog_8_method_36_code 169 = .ok (.iload (8), 2) := by decide +kernel
theorem d_Z_isTooGreat_171 : decode prog_8_method_36_code 171 = .ok (.invokevirtual (305), 3) := by decide +kernel
theorem d_Z_isTooGreat_174 : decode prog_8_method_36_code 174 = .ok (.lstore (9), 2) := by decide +kernel
theorem d_Z_isTooGreat_176 : decode prog_8_method_36_code 176 = .ok (.iload (4), 2) := by decide +kernel
theorem d_Z_isTooGreat_178 : decode prog_8_method_36_code 178 = .ok (.ifCond .ne (14), 3) := by decide +kernel
theorem d_Z_isTooGreat_181 : decode prog_8_method_36_code 181 = .ok (.aload_n 0, 1) := by decide +kernel
theorem d_Z_isTooGreat_182 : decode prog_8_method_36_code 182 = .ok (.iload_n 2, 1) := by decide +kernel
theorem d_Z_isTooGreat_183 : decode prog_8_method_36_code 183 = .ok (.invokevirtual (309), 3) := by decide +kernel
theorem d_Z_isTooGreat_186 : decode prog_8_method_36_code 186 = .ok (.lload (9), 2) := by decide +kernel
theorem d_Z_isTooGreat_188 : decode prog_8_method_36_code 188 = .ok (.lcmp, 1) := by decide +kernel
theorem d_Z_isTooGreat_189 : decode prog_8_method_36_code 189 = .ok (.ifCond .lt (7), 3) := by decide +kernel
theorem d_Z_isTooGreat_192 : decode prog_8_method_36_code 192 = .ok (.iconst 1, 1) := by decide +kernel
theorem d_Z_isTooGreat_193 : decode prog_8_method_36_code 193 = .ok (.goto (4), 3) := by decide +kernel
theorem d_Z_isTooGreat_196 : decode prog_8_method_36_code 196 = .ok (.iconst 0, 1) := by decide +kernel
theorem d_Z_isTooGreat_197 : decode prog_8_method_36_code 197 = .ok (.istore (4), 2) := by decide +kernel
theorem d_Z_isTooGreat_199 : decode prog_8_method_36_code 199 = .ok (.iinc 8 (1), 3) := by decide +kernel
theorem d_Z_isTooGreat_202 : decode prog_8_method_36_code 202 = .ok (.goto (-149), 3) := by decide +kernel
theorem d_Z_isTooGreat_205 : decode prog_8_method_36_code 205 = .ok (.iinc 7 (1), 3) := by decide +kernel
theorem d_Z_isTooGreat_208 : decode prog_8_method_36_code 208 = .ok (.goto (-191), 3) := by decide +kernel
theorem d_Z_isTooGreat_211 : decode prog_8_method_36_code 211 = .ok (.iload (4), 2) := by decide +kernel
theorem d_Z_isTooGreat_213 : decode prog_8_method_36_code 213 = .ok (.ireturn, 1) := by decide +kernel
set_option maxRecDepth 100000 in
theorem cw_Z_309 : ax_cw "CipherNotationModel" 309 y_Z_index (.code y_Z_index prog_8_method_34_code 5 (some .long)) 1 := ⟨nw_6 30 (by decide +kernel) rfl, nw_1 7 (by decide +kernel) rfl, nw_6 33 rfl rfl, by decide +kernel, by decide +kernel⟩
theorem im_Z_index : Cond.instanceMethod y_Z_index ∈ ax_tbl := nw_6 32 (by decide +kernel) rfl
theorem se_Z_index : Cond.selects y_Z_index.cls y_Z_index y_Z_index ∈ ax_tbl := nw_sel 72 (by decide +kernel) (by decide +kernel)
set_option maxRecDepth 100000 in
theorem cw_Z_305 : ax_cw "CipherNotationModel" 305 y_Z_before (.code y_Z_before prog_8_method_35_code 7 (some .long)) 4 := ⟨nw_6 26 (by decide +kernel) rfl, nw_1 7 (by decide +kernel) rfl, nw_6 29 rfl rfl, by decide +kernel, by decide +kernel⟩
theorem im_Z_before : Cond.instanceMethod y_Z_before ∈ ax_tbl := nw_6 28 (by decide +kernel) rfl
theorem se_Z_before : Cond.selects y_Z_before.cls y_Z_before y_Z_before ∈ ax_tbl := nw_sel 71 (by decide +kernel) (by decide +kernel)
def lp_Z_isTooGreat_53 (F : Nat) (x1 : Int32) (x2 : Int32) (x3 : Int32) (x5 : Int64) (x7 : Int32) : Nat → Int32 → Int32 → ax_σ → Option (Int32 × ax_σ)
  | 0, _, _, _ => none
  | n + 1, x4, x8, s =>
    Option.bind (
      if x3 ≤ (1 : Int32) then
        some (1 : Int64)
      else
        bif ax_in (1 : Int32) 2 then
        bif ax_in (s.1 0 46 ((1 : Int32)).toNatClampNeg) 240 then
        some (s.2 0 52 ((s.1 0 46 ((1 : Int32)).toNatClampNeg)).toNatClampNeg)
        else none
        else none) (fun v12 =>
      Option.bind (
        if (0 : Int32) ≤ (lg_cmp (x8).toInt64 v12) then
          some true
        else
          if (16 : Int32) ≤ x8 then
            some true
          else
            some false) (fun w39 => bif w39 then
        some (x4, s)
      else
        Option.bind (
          if x3 ≤ (0 : Int32) then
            some s
          else
            bif ax_in (0 : Int32) 2 then
            bif ax_in (s.1 0 46 ((0 : Int32)).toNatClampNeg) 240 then
            bif ax_in (s.1 0 49 ((s.1 0 46 ((0 : Int32)).toNatClampNeg)).toNatClampNeg) 2 then
            ax_let (ax_wI s 0 74 ((s.1 0 49 ((s.1 0 46 ((0 : Int32)).toNatClampNeg)).toNatClampNeg)).toNatClampNeg x7) (fun s18 =>
              some s18)
            else none
            else none
            else none) (fun s20 =>
          Option.bind (
            if x3 ≤ (1 : Int32) then
              some s20
            else
              bif ax_in (1 : Int32) 2 then
              bif ax_in (s20.1 0 46 ((1 : Int32)).toNatClampNeg) 240 then
              bif ax_in (s20.1 0 49 ((s20.1 0 46 ((1 : Int32)).toNatClampNeg)).toNatClampNeg) 2 then
              ax_let (ax_wI s20 0 74 ((s20.1 0 49 ((s20.1 0 46 ((1 : Int32)).toNatClampNeg)).toNatClampNeg)).toNatClampNeg x8) (fun s24 =>
                some s24)
              else none
              else none
              else none) (fun s26 =>
            bif ax_in x2 240 then
            Option.bind (
              if (s26.1 0 58 (x2).toNatClampNeg) = (2 : Int32) then
                bif ax_in (2 : Int32) 3 then
                some (s26.2 0 41 ((2 : Int32)).toNatClampNeg)
                else none
              else
                if x1 < (s26.1 0 38 23) then
                  Option.bind (f_Z_before F x1 x3 x7 x8 s26) (fun r28 =>
                    some r28)
                else
                  some x5) (fun v33 =>
              Option.bind (
                if x4 = (0 : Int32) then
                  Option.bind (f_Z_index F x2 s26) (fun r34 =>
                    if (lg_cmp r34 v33) < (0 : Int32) then
                      some false
                    else
                      some true)
                else
                  some true) (fun w38 => bif w38 then
                lp_Z_isTooGreat_53 F x1 x2 x3 x5 x7 n (1 : Int32) (x8 + (1 : Int32)) s26
              else
                lp_Z_isTooGreat_53 F x1 x2 x3 x5 x7 n (0 : Int32) (x8 + (1 : Int32)) s26))
            else none))))
set_option maxHeartbeats 4000000 in
set_option maxRecDepth 100000 in
theorem pl_Z_isTooGreat_53 {D : va_G} {cA : Nat → ClassId} {ad : Nat → Nat → Nat} {al : List (Nat × Nat)} {θ : ax_Θ} {l : Launch} {ρ : ax_ρ} {G : ax_G} {F : Nat} {x1 : Int32} {x2 : Int32} {x3 : Int32} {x5 : Int64} {x7 : Int32} (h0 : ax_M0 al) (hB : ax_B D cA ad al θ l "CipherNotationModel" prog_8_method_36_code 11 2 G) : ∀ (n : Nat) {x4 : Int32} {x8 : Int32} {s : ax_σ} (out : Int32 × ax_σ), lp_Z_isTooGreat_53 F x1 x2 x3 x5 x7 n x4 x8 s = some out → (∀ (e4 : Int32) (es : ax_σ), out = (e4, es) → ax_R G 11 0 0 (205, [(0, .inr (0, 38)), (1, .inl (.int (x1))), (2, .inl (.int (x2))), (3, .inl (.int (x3))), (4, .inl (.int (e4))), (5, .inl (.long (x5))), (7, .inl (.int (x7)))], [], ax_m (es) ρ)) → ax_R G 11 0 0 (53, [(0, .inr (0, 38)), (1, .inl (.int (x1))), (2, .inl (.int (x2))), (3, .inl (.int (x3))), (4, .inl (.int (x4))), (5, .inl (.long (x5))), (7, .inl (.int (x7))), (8, .inl (.int (x8)))], [], ax_m (s) ρ) := by
  have hK := hB.K
  have hal := hB.la
  intro n
  induction n with
  | zero =>
    intro x4 x8 s out h
    cases h
  | succ n ih =>
    intro x4 x8 s out h KE
    rw [lp_Z_isTooGreat_53] at h
    refine ax_bk hK (ax_fc (ax_v_ld (ax_r_iload d_Z_isTooGreat_53)) (ax_fc (ax_v_pu (ax_r_i2l d_Z_isTooGreat_55)) (ax_fc (ax_v_ld (ax_r_iload_n (i := 3) d_Z_isTooGreat_56 rfl)) (ax_fc (ax_v_pu (ax_r_iconst (v := 1) d_Z_isTooGreat_57 (by decide))) ax_fn)))) (y := (58, [(0, .inr (0, 38)), (1, .inl (.int (x1))), (2, .inl (.int (x2))), (3, .inl (.int (x3))), (4, .inl (.int (x4))), (5, .inl (.long (x5))), (7, .inl (.int (x7))), (8, .inl (.int (x8)))], [.inl (.int ((1 : Int32))), .inl (.int (x3)), .inl (.long ((x8).toInt64))], ax_m (s) ρ)) rfl ⟨trivial, trivial, trivial, trivial, trivial⟩ ?_
    obtain ⟨w40, hw40, h⟩ := ax_bd h
    have KEw40 : ∀ (v12 : Int64), w40 = v12 → ax_R G 11 0 0 (76, [(0, .inr (0, 38)), (1, .inl (.int (x1))), (2, .inl (.int (x2))), (3, .inl (.int (x3))), (4, .inl (.int (x4))), (5, .inl (.long (x5))), (7, .inl (.int (x7))), (8, .inl (.int (x8)))], [.inl (.long (v12)), .inl (.long ((x8).toInt64))], ax_m (s) ρ) := by
      intro v12 e9
      subst w40
      try dsimp only at h
      refine ax_bk hK (ax_fc (ax_v_pu (ax_r_lcmp d_Z_isTooGreat_76)) ax_fn) (y := (77, [(0, .inr (0, 38)), (1, .inl (.int (x1))), (2, .inl (.int (x2))), (3, .inl (.int (x3))), (4, .inl (.int (x4))), (5, .inl (.long (x5))), (7, .inl (.int (x7))), (8, .inl (.int (x8)))], [.inl (.int ((lg_cmp (x8).toInt64 v12)))], ax_m (s) ρ)) rfl ⟨trivial, trivial⟩ ?_
      obtain ⟨w39, hw39, h⟩ := ax_bd h
      have KTw39 : w39 = true → ax_R G 11 0 0 (205, [(0, .inr (0, 38)), (1, .inl (.int (x1))), (2, .inl (.int (x2))), (3, .inl (.int (x3))), (4, .inl (.int (x4))), (5, .inl (.long (x5))), (7, .inl (.int (x7)))], [], ax_m (s) ρ) := by
        intro e9
        subst w39
        replace h := ax_ct h
        cases h
        exact ax_Lsub [0, 1, 2, 3, 4, 5, 6] rfl (KE _ _ rfl)
      have KFw39 : w39 = false → ax_R G 11 0 0 (87, [(0, .inr (0, 38)), (1, .inl (.int (x1))), (2, .inl (.int (x2))), (3, .inl (.int (x3))), (4, .inl (.int (x4))), (5, .inl (.long (x5))), (7, .inl (.int (x7))), (8, .inl (.int (x8)))], [], ax_m (s) ρ) := by
        intro e9
        subst w39
        replace h := ax_cf h
        refine ax_bk hK (ax_fc (ax_v_ld (ax_r_iload_n (i := 3) d_Z_isTooGreat_87 rfl)) ax_fn) (y := (88, [(0, .inr (0, 38)), (1, .inl (.int (x1))), (2, .inl (.int (x2))), (3, .inl (.int (x3))), (4, .inl (.int (x4))), (5, .inl (.long (x5))), (7, .inl (.int (x7))), (8, .inl (.int (x8)))], [.inl (.int (x3))], ax_m (s) ρ)) rfl ⟨trivial, trivial⟩ ?_
        obtain ⟨w41, hw41, h⟩ := ax_bd h
        have KEw41 : ∀ (s20 : ax_σ), w41 = s20 → ax_R G 11 0 0 (109, [(0, .inr (0, 38)), (1, .inl (.int (x1))), (2, .inl (.int (x2))), (3, .inl (.int (x3))), (4, .inl (.int (x4))), (5, .inl (.long (x5))), (7, .inl (.int (x7))), (8, .inl (.int (x8)))], [], ax_m (s20) ρ) := by
          intro s20 e9
          subst w41
          try dsimp only at h
          refine ax_bk hK (ax_fc (ax_v_ld (ax_r_iload_n (i := 3) d_Z_isTooGreat_109 rfl)) (ax_fc (ax_v_pu (ax_r_iconst (v := 1) d_Z_isTooGreat_110 (by decide))) ax_fn)) (y := (111, [(0, .inr (0, 38)), (1, .inl (.int (x1))), (2, .inl (.int (x2))), (3, .inl (.int (x3))), (4, .inl (.int (x4))), (5, .inl (.long (x5))), (7, .inl (.int (x7))), (8, .inl (.int (x8)))], [.inl (.int ((1 : Int32))), .inl (.int (x3))], ax_m (s20) ρ)) rfl ⟨trivial, trivial, trivial⟩ ?_
          obtain ⟨w42, hw42, h⟩ := ax_bd h
          have KEw42 : ∀ (s26 : ax_σ), w42 = s26 → ax_R G 11 0 0 (132, [(0, .inr (0, 38)), (1, .inl (.int (x1))), (2, .inl (.int (x2))), (3, .inl (.int (x3))), (4, .inl (.int (x4))), (5, .inl (.long (x5))), (7, .inl (.int (x7))), (8, .inl (.int (x8)))], [], ax_m (s26) ρ) := by
            intro s26 e9
            subst w42
            try dsimp only at h
            obtain ⟨b27, h⟩ := ax_gd h
            refine ax_bk hK (ax_fc (ax_v_ld (ax_r_aload_n (i := 0) d_Z_isTooGreat_132 rfl)) (ax_fc (ax_w_gf (e := none) hal d_Z_isTooGreat_133 fd_Z_72) (ax_fc (ax_v_ld (ax_r_iload_n (i := 2) d_Z_isTooGreat_136 rfl)) (ax_fc (ax_w_iald hal d_Z_isTooGreat_137) (ax_fc (ax_v_pu (ax_r_iconst (v := 2) d_Z_isTooGreat_138 (by decide))) ax_fn))))) (y := (139, [(0, .inr (0, 38)), (1, .inl (.int (x1))), (2, .inl (.int (x2))), (3, .inl (.int (x3))), (4, .inl (.int (x4))), (5, .inl (.long (x5))), (7, .inl (.int (x7))), (8, .inl (.int (x8)))], [.inl (.int ((2 : Int32))), .inl (.int ((s26.1 0 58 (x2).toNatClampNeg)))], ax_m (s26) ρ)) rfl ⟨trivial, (h0 38 rfl), trivial, ⟨(h0 58 rfl), ax_inp b27⟩, trivial, trivial⟩ ?_
            obtain ⟨w43, hw43, h⟩ := ax_bd h
            have KEw43 : ∀ (v33 : Int64), w43 = v33 → ax_R G 11 0 0 (174, [(0, .inr (0, 38)), (1, .inl (.int (x1))), (2, .inl (.int (x2))), (3, .inl (.int (x3))), (4, .inl (.int (x4))), (5, .inl (.long (x5))), (7, .inl (.int (x7))), (8, .inl (.int (x8)))], [.inl (.long (v33))], ax_m (s26) ρ) := by
              intro v33 e9
              subst w43
              try dsimp only at h
              refine ax_bk hK (ax_fc (ax_v_so (ax_r_lstore d_Z_isTooGreat_174)) (ax_fc (ax_v_ld (ax_r_iload d_Z_isTooGreat_176)) ax_fn)) (y := (178, [(9, .inl (.long (v33))), (0, .inr (0, 38)), (1, .inl (.int (x1))), (2, .inl (.int (x2))), (3, .inl (.int (x3))), (4, .inl (.int (x4))), (5, .inl (.long (x5))), (7, .inl (.int (x7))), (8, .inl (.int (x8)))], [.inl (.int (x4))], ax_m (s26) ρ)) rfl ⟨trivial, trivial, trivial⟩ ?_
              obtain ⟨w38, hw38, h⟩ := ax_bd h
              have KTw38 : w38 = true → ax_R G 11 0 0 (192, [(0, .inr (0, 38)), (1, .inl (.int (x1))), (2, .inl (.int (x2))), (3, .inl (.int (x3))), (5, .inl (.long (x5))), (7, .inl (.int (x7))), (8, .inl (.int (x8)))], [], ax_m (s26) ρ) := by
                intro e9
                subst w38
                replace h := ax_ct h
                refine ax_bk hK (ax_fc (ax_v_pu (ax_r_iconst (v := 1) d_Z_isTooGreat_192 (by decide))) (ax_fc (ax_v_go (tgt := 197) d_Z_isTooGreat_193 (by decide)) ax_fn)) (y := (197, [(0, .inr (0, 38)), (1, .inl (.int (x1))), (2, .inl (.int (x2))), (3, .inl (.int (x3))), (5, .inl (.long (x5))), (7, .inl (.int (x7))), (8, .inl (.int (x8)))], [.inl (.int ((1 : Int32)))], ax_m (s26) ρ)) rfl ⟨trivial, trivial, trivial⟩ ?_
                refine ax_bk hK (ax_fc (ax_v_so (ax_r_istore d_Z_isTooGreat_197)) (ax_fc (ax_v_ii (d := 1) d_Z_isTooGreat_199 (by decide)) (ax_fc (ax_v_go (tgt := 53) d_Z_isTooGreat_202 (by decide)) ax_fn))) (y := (53, [(8, .inl (.int ((x8 + (1 : Int32))))), (4, .inl (.int ((1 : Int32)))), (0, .inr (0, 38)), (1, .inl (.int (x1))), (2, .inl (.int (x2))), (3, .inl (.int (x3))), (5, .inl (.long (x5))), (7, .inl (.int (x7)))], [], ax_m (s26) ρ)) rfl ⟨trivial, trivial, trivial, trivial⟩ ?_
                exact ax_Lsub [2, 3, 4, 5, 1, 6, 7, 0] rfl (ih _ h KE)
              have KFw38 : w38 = false → ax_R G 11 0 0 (196, [(0, .inr (0, 38)), (1, .inl (.int (x1))), (2, .inl (.int (x2))), (3, .inl (.int (x3))), (5, .inl (.long (x5))), (7, .inl (.int (x7))), (8, .inl (.int (x8)))], [], ax_m (s26) ρ) := by
                intro e9
                subst w38
                replace h := ax_cf h
                refine ax_bk hK (ax_fc (ax_v_pu (ax_r_iconst (v := 0) d_Z_isTooGreat_196 (by decide))) (ax_fc (ax_v_so (ax_r_istore d_Z_isTooGreat_197)) (ax_fc (ax_v_ii (d := 1) d_Z_isTooGreat_199 (by decide)) (ax_fc (ax_v_go (tgt := 53) d_Z_isTooGreat_202 (by decide)) ax_fn)))) (y := (53, [(8, .inl (.int ((x8 + (1 : Int32))))), (4, .inl (.int ((0 : Int32)))), (0, .inr (0, 38)), (1, .inl (.int (x1))), (2, .inl (.int (x2))), (3, .inl (.int (x3))), (5, .inl (.long (x5))), (7, .inl (.int (x7)))], [], ax_m (s26) ρ)) rfl ⟨trivial, trivial, trivial, trivial, trivial⟩ ?_
                exact ax_Lsub [2, 3, 4, 5, 1, 6, 7, 0] rfl (ih _ h KE)
              clear h
              have h := hw38
              refine ax_if_ne (tgt := 192) hK d_Z_isTooGreat_178 (by decide) (fun c37 => ?_) (fun c37 => ?_)
              · replace h := ax_if c37 h
                cases h
                exact ax_Lsub [1, 2, 3, 4, 6, 7, 8] rfl (KTw38 rfl)
              · replace h := ax_it c37 h
                refine ax_bk hK (ax_fc (ax_v_ld (ax_r_aload_n (i := 0) d_Z_isTooGreat_181 rfl)) (ax_fc (ax_v_ld (ax_r_iload_n (i := 2) d_Z_isTooGreat_182 rfl)) ax_fn)) (y := (183, [(9, .inl (.long (v33))), (0, .inr (0, 38)), (1, .inl (.int (x1))), (2, .inl (.int (x2))), (3, .inl (.int (x3))), (4, .inl (.int (x4))), (5, .inl (.long (x5))), (7, .inl (.int (x7))), (8, .inl (.int (x8)))], [.inl (.int (x2)), .inr (0, 38)], ax_m (s26) ρ)) rfl ⟨trivial, trivial, trivial⟩ ?_
                obtain ⟨r34, q35, h⟩ := ax_bd h
                refine ax_bV (rest := []) hB (t_Z_index h0 q35) cw_Z_309 im_Z_index se_Z_index d_Z_isTooGreat_183 (h0 38 rfl) rfl rfl (by decide) (by decide) rfl rfl (Nat.le_of_ble_eq_true rfl) ?_
                change ax_R G 11 0 0 (186, [(9, .inl (.long (v33))), (0, .inr (0, 38)), (1, .inl (.int (x1))), (2, .inl (.int (x2))), (3, .inl (.int (x3))), (4, .inl (.int (x4))), (5, .inl (.long (x5))), (7, .inl (.int (x7))), (8, .inl (.int (x8)))], [.inl (.long (r34))], ax_m (s26) ρ)
                refine ax_bk hK (ax_fc (ax_v_ld (ax_r_lload d_Z_isTooGreat_186)) (ax_fc (ax_v_pu (ax_r_lcmp d_Z_isTooGreat_188)) ax_fn)) (y := (189, [(9, .inl (.long (v33))), (0, .inr (0, 38)), (1, .inl (.int (x1))), (2, .inl (.int (x2))), (3, .inl (.int (x3))), (4, .inl (.int (x4))), (5, .inl (.long (x5))), (7, .inl (.int (x7))), (8, .inl (.int (x8)))], [.inl (.int ((lg_cmp r34 v33)))], ax_m (s26) ρ)) rfl ⟨trivial, trivial, trivial⟩ ?_
                refine ax_if_lt (tgt := 196) hK d_Z_isTooGreat_189 (by decide) (fun c36 => ?_) (fun c36 => ?_)
                · replace h := ax_it c36 h
                  cases h
                  exact ax_Lsub [1, 2, 3, 4, 6, 7, 8] rfl (KFw38 rfl)
                · replace h := ax_if c36 h
                  cases h
                  exact ax_Lsub [1, 2, 3, 4, 6, 7, 8] rfl (KTw38 rfl)
            clear h
            have h := hw43
            refine ax_ic_ne (tgt := 151) hK d_Z_isTooGreat_139 (by decide) (fun c32 => ?_) (fun c32 => ?_)
            · replace h := ax_if c32 h
              refine ax_bk hK (ax_fc (ax_v_ld (ax_r_iload_n (i := 1) d_Z_isTooGreat_151 rfl)) (ax_fc (ax_v_ld (ax_r_aload_n (i := 0) d_Z_isTooGreat_152 rfl)) (ax_fc (ax_w_gf (e := none) hal d_Z_isTooGreat_153 fd_Z_189) ax_fn))) (y := (156, [(0, .inr (0, 38)), (1, .inl (.int (x1))), (2, .inl (.int (x2))), (3, .inl (.int (x3))), (4, .inl (.int (x4))), (5, .inl (.long (x5))), (7, .inl (.int (x7))), (8, .inl (.int (x8)))], [.inl (.int ((s26.1 0 38 23))), .inl (.int (x1))], ax_m (s26) ρ)) rfl ⟨trivial, trivial, (h0 38 rfl), trivial⟩ ?_
              refine ax_ic_lt (tgt := 164) hK d_Z_isTooGreat_156 (by decide) (fun c30 => ?_) (fun c30 => ?_)
              · replace h := ax_it c30 h
                refine ax_bk hK (ax_fc (ax_v_ld (ax_r_aload_n (i := 0) d_Z_isTooGreat_164 rfl)) (ax_fc (ax_v_ld (ax_r_iload_n (i := 1) d_Z_isTooGreat_165 rfl)) (ax_fc (ax_v_ld (ax_r_iload_n (i := 3) d_Z_isTooGreat_166 rfl)) (ax_fc (ax_v_ld (ax_r_iload d_Z_isTooGreat_167)) (ax_fc (ax_v_ld (ax_r_iload d_Z_isTooGreat_169)) ax_fn))))) (y := (171, [(0, .inr (0, 38)), (1, .inl (.int (x1))), (2, .inl (.int (x2))), (3, .inl (.int (x3))), (4, .inl (.int (x4))), (5, .inl (.long (x5))), (7, .inl (.int (x7))), (8, .inl (.int (x8)))], [.inl (.int (x8)), .inl (.int (x7)), .inl (.int (x3)), .inl (.int (x1)), .inr (0, 38)], ax_m (s26) ρ)) rfl ⟨trivial, trivial, trivial, trivial, trivial, trivial⟩ ?_
                obtain ⟨r28, q29, h⟩ := ax_bd h
                refine ax_bV (rest := []) hB (t_Z_before h0 q29) cw_Z_305 im_Z_before se_Z_before d_Z_isTooGreat_171 (h0 38 rfl) rfl rfl (by decide) (by decide) rfl rfl (Nat.le_of_ble_eq_true rfl) ?_
                change ax_R G 11 0 0 (174, [(0, .inr (0, 38)), (1, .inl (.int (x1))), (2, .inl (.int (x2))), (3, .inl (.int (x3))), (4, .inl (.int (x4))), (5, .inl (.long (x5))), (7, .inl (.int (x7))), (8, .inl (.int (x8)))], [.inl (.long (r28))], ax_m (s26) ρ)
                cases h
                exact ax_Lsub [0, 1, 2, 3, 4, 5, 6, 7] rfl (KEw43 _ rfl)
              · replace h := ax_if c30 h
                refine ax_bk hK (ax_fc (ax_v_ld (ax_r_lload d_Z_isTooGreat_159)) (ax_fc (ax_v_go (tgt := 174) d_Z_isTooGreat_161 (by decide)) ax_fn)) (y := (174, [(0, .inr (0, 38)), (1, .inl (.int (x1))), (2, .inl (.int (x2))), (3, .inl (.int (x3))), (4, .inl (.int (x4))), (5, .inl (.long (x5))), (7, .inl (.int (x7))), (8, .inl (.int (x8)))], [.inl (.long (x5))], ax_m (s26) ρ)) rfl ⟨trivial, trivial, trivial⟩ ?_
                cases h
                exact ax_Lsub [0, 1, 2, 3, 4, 5, 6, 7] rfl (KEw43 _ rfl)
            · replace h := ax_it c32 h
              obtain ⟨b31, h⟩ := ax_gd h
              refine ax_bk hK (ax_fc (ax_v_ld (ax_r_aload_n (i := 0) d_Z_isTooGreat_142 rfl)) (ax_fc (ax_w_gf (e := none) hal d_Z_isTooGreat_143 fd_Z_20) (ax_fc (ax_v_pu (ax_r_iconst (v := 2) d_Z_isTooGreat_146 (by decide))) (ax_fc (ax_w_lald hal d_Z_isTooGreat_147) (ax_fc (ax_v_go (tgt := 174) d_Z_isTooGreat_148 (by decide)) ax_fn))))) (y := (174, [(0, .inr (0, 38)), (1, .inl (.int (x1))), (2, .inl (.int (x2))), (3, .inl (.int (x3))), (4, .inl (.int (x4))), (5, .inl (.long (x5))), (7, .inl (.int (x7))), (8, .inl (.int (x8)))], [.inl (.long ((s26.2 0 41 ((2 : Int32)).toNatClampNeg)))], ax_m (s26) ρ)) rfl ⟨trivial, (h0 38 rfl), trivial, ⟨(h0 41 rfl), ax_inp b31⟩, trivial, trivial⟩ ?_
              cases h
              exact ax_Lsub [0, 1, 2, 3, 4, 5, 6, 7] rfl (KEw43 _ rfl)
          clear h
          have h := hw42
          refine ax_ic_le (tgt := 132) hK d_Z_isTooGreat_111 (by decide) (fun c25 => ?_) (fun c25 => ?_)
          · replace h := ax_it c25 h
            cases h
            exact ax_Lsub [0, 1, 2, 3, 4, 5, 6, 7] rfl (KEw42 _ rfl)
          · replace h := ax_if c25 h
            obtain ⟨b21, h⟩ := ax_gd h
            obtain ⟨b22, h⟩ := ax_gd h
            obtain ⟨b23, h⟩ := ax_gd h
            refine ax_bk hK (ax_fc (ax_v_ld (ax_r_aload_n (i := 0) d_Z_isTooGreat_114 rfl)) (ax_fc (ax_w_gf (e := none) hal d_Z_isTooGreat_115 fd_Z_120) (ax_fc (ax_v_ld (ax_r_aload_n (i := 0) d_Z_isTooGreat_118 rfl)) (ax_fc (ax_w_gf (e := none) hal d_Z_isTooGreat_119 fd_Z_45) (ax_fc (ax_v_ld (ax_r_aload_n (i := 0) d_Z_isTooGreat_122 rfl)) (ax_fc (ax_w_gf (e := none) hal d_Z_isTooGreat_123 fd_Z_36) (ax_fc (ax_v_pu (ax_r_iconst (v := 1) d_Z_isTooGreat_126 (by decide))) (ax_fc (ax_w_iald hal d_Z_isTooGreat_127) (ax_fc (ax_w_iald hal d_Z_isTooGreat_128) (ax_fc (ax_v_ld (ax_r_iload d_Z_isTooGreat_129)) (ax_fc (ax_w_iast hal d_Z_isTooGreat_131) ax_fn))))))))))) (y := (132, [(0, .inr (0, 38)), (1, .inl (.int (x1))), (2, .inl (.int (x2))), (3, .inl (.int (x3))), (4, .inl (.int (x4))), (5, .inl (.long (x5))), (7, .inl (.int (x7))), (8, .inl (.int (x8)))], [], ax_m (ax_wI s20 0 74 ((s20.1 0 49 ((s20.1 0 46 ((1 : Int32)).toNatClampNeg)).toNatClampNeg)).toNatClampNeg x8) ρ)) rfl ⟨trivial, (h0 38 rfl), trivial, (h0 38 rfl), trivial, (h0 38 rfl), trivial, ⟨(h0 46 rfl), ax_inp b21⟩, ⟨(h0 49 rfl), ax_inp b22⟩, trivial, ⟨(h0 74 rfl), ax_inp b23⟩, trivial⟩ ?_
            refine ax_lt (Q := fun ςς => ax_R G 11 0 0 (132, [(0, .inr (0, 38)), (1, .inl (.int (x1))), (2, .inl (.int (x2))), (3, .inl (.int (x3))), (4, .inl (.int (x4))), (5, .inl (.long (x5))), (7, .inl (.int (x7))), (8, .inl (.int (x8)))], [], ax_m (ςς) ρ)) h (fun s24 h => ?_)
            cases h
            exact ax_Lsub [0, 1, 2, 3, 4, 5, 6, 7] rfl (KEw42 _ rfl)
        clear h
        have h := hw41
        refine ax_if_le (tgt := 109) hK d_Z_isTooGreat_88 (by decide) (fun c19 => ?_) (fun c19 => ?_)
        · replace h := ax_it c19 h
          cases h
          exact ax_Lsub [0, 1, 2, 3, 4, 5, 6, 7] rfl (KEw41 _ rfl)
        · replace h := ax_if c19 h
          obtain ⟨b15, h⟩ := ax_gd h
          obtain ⟨b16, h⟩ := ax_gd h
          obtain ⟨b17, h⟩ := ax_gd h
          refine ax_bk hK (ax_fc (ax_v_ld (ax_r_aload_n (i := 0) d_Z_isTooGreat_91 rfl)) (ax_fc (ax_w_gf (e := none) hal d_Z_isTooGreat_92 fd_Z_120) (ax_fc (ax_v_ld (ax_r_aload_n (i := 0) d_Z_isTooGreat_95 rfl)) (ax_fc (ax_w_gf (e := none) hal d_Z_isTooGreat_96 fd_Z_45) (ax_fc (ax_v_ld (ax_r_aload_n (i := 0) d_Z_isTooGreat_99 rfl)) (ax_fc (ax_w_gf (e := none) hal d_Z_isTooGreat_100 fd_Z_36) (ax_fc (ax_v_pu (ax_r_iconst (v := 0) d_Z_isTooGreat_103 (by decide))) (ax_fc (ax_w_iald hal d_Z_isTooGreat_104) (ax_fc (ax_w_iald hal d_Z_isTooGreat_105) (ax_fc (ax_v_ld (ax_r_iload d_Z_isTooGreat_106)) (ax_fc (ax_w_iast hal d_Z_isTooGreat_108) ax_fn))))))))))) (y := (109, [(0, .inr (0, 38)), (1, .inl (.int (x1))), (2, .inl (.int (x2))), (3, .inl (.int (x3))), (4, .inl (.int (x4))), (5, .inl (.long (x5))), (7, .inl (.int (x7))), (8, .inl (.int (x8)))], [], ax_m (ax_wI s 0 74 ((s.1 0 49 ((s.1 0 46 ((0 : Int32)).toNatClampNeg)).toNatClampNeg)).toNatClampNeg x7) ρ)) rfl ⟨trivial, (h0 38 rfl), trivial, (h0 38 rfl), trivial, (h0 38 rfl), trivial, ⟨(h0 46 rfl), ax_inp b15⟩, ⟨(h0 49 rfl), ax_inp b16⟩, trivial, ⟨(h0 74 rfl), ax_inp b17⟩, trivial⟩ ?_
          refine ax_lt (Q := fun ςς => ax_R G 11 0 0 (109, [(0, .inr (0, 38)), (1, .inl (.int (x1))), (2, .inl (.int (x2))), (3, .inl (.int (x3))), (4, .inl (.int (x4))), (5, .inl (.long (x5))), (7, .inl (.int (x7))), (8, .inl (.int (x8)))], [], ax_m (ςς) ρ)) h (fun s18 h => ?_)
          cases h
          exact ax_Lsub [0, 1, 2, 3, 4, 5, 6, 7] rfl (KEw41 _ rfl)
      clear h
      have h := hw39
      refine ax_if_ge (tgt := 205) hK d_Z_isTooGreat_77 (by decide) (fun c14 => ?_) (fun c14 => ?_)
      · replace h := ax_it c14 h
        cases h
        exact ax_Lsub [0, 1, 2, 3, 4, 5, 6] rfl (KTw39 rfl)
      · replace h := ax_if c14 h
        refine ax_bk hK (ax_fc (ax_v_ld (ax_r_iload d_Z_isTooGreat_80)) (ax_fc (ax_v_pu (ax_r_bipush (v := 16) d_Z_isTooGreat_82 (by decide))) ax_fn)) (y := (84, [(0, .inr (0, 38)), (1, .inl (.int (x1))), (2, .inl (.int (x2))), (3, .inl (.int (x3))), (4, .inl (.int (x4))), (5, .inl (.long (x5))), (7, .inl (.int (x7))), (8, .inl (.int (x8)))], [.inl (.int ((16 : Int32))), .inl (.int (x8))], ax_m (s) ρ)) rfl ⟨trivial, trivial, trivial⟩ ?_
        refine ax_ic_ge (tgt := 205) hK d_Z_isTooGreat_84 (by decide) (fun c13 => ?_) (fun c13 => ?_)
        · replace h := ax_it c13 h
          cases h
          exact ax_Lsub [0, 1, 2, 3, 4, 5, 6] rfl (KTw39 rfl)
        · replace h := ax_if c13 h
          cases h
          exact ax_Lsub [0, 1, 2, 3, 4, 5, 6, 7] rfl (KFw39 rfl)
    clear h
    have h := hw40
    refine ax_ic_le (tgt := 75) hK d_Z_isTooGreat_58 (by decide) (fun c11 => ?_) (fun c11 => ?_)
    · replace h := ax_it c11 h
      refine ax_bk hK (ax_fc (ax_v_pu (ax_r_lconst (v := 1) d_Z_isTooGreat_75 (by decide))) ax_fn) (y := (76, [(0, .inr (0, 38)), (1, .inl (.int (x1))), (2, .inl (.int (x2))), (3, .inl (.int (x3))), (4, .inl (.int (x4))), (5, .inl (.long (x5))), (7, .inl (.int (x7))), (8, .inl (.int (x8)))], [.inl (.long ((1 : Int64))), .inl (.long ((x8).toInt64))], ax_m (s) ρ)) rfl ⟨trivial, trivial⟩ ?_
      cases h
      exact ax_Lsub [0, 1, 2, 3, 4, 5, 6, 7] rfl (KEw40 _ rfl)
    · replace h := ax_if c11 h
      obtain ⟨b9, h⟩ := ax_gd h
      obtain ⟨b10, h⟩ := ax_gd h
      refine ax_bk hK (ax_fc (ax_v_ld (ax_r_aload_n (i := 0) d_Z_isTooGreat_61 rfl)) (ax_fc (ax_w_gf (e := none) hal d_Z_isTooGreat_62 fd_Z_54) (ax_fc (ax_v_ld (ax_r_aload_n (i := 0) d_Z_isTooGreat_65 rfl)) (ax_fc (ax_w_gf (e := none) hal d_Z_isTooGreat_66 fd_Z_36) (ax_fc (ax_v_pu (ax_r_iconst (v := 1) d_Z_isTooGreat_69 (by decide))) (ax_fc (ax_w_iald hal d_Z_isTooGreat_70) (ax_fc (ax_w_lald hal d_Z_isTooGreat_71) (ax_fc (ax_v_go (tgt := 76) d_Z_isTooGreat_72 (by decide)) ax_fn)))))))) (y := (76, [(0, .inr (0, 38)), (1, .inl (.int (x1))), (2, .inl (.int (x2))), (3, .inl (.int (x3))), (4, .inl (.int (x4))), (5, .inl (.long (x5))), (7, .inl (.int (x7))), (8, .inl (.int (x8)))], [.inl (.long ((s.2 0 52 ((s.1 0 46 ((1 : Int32)).toNatClampNeg)).toNatClampNeg))), .inl (.long ((x8).toInt64))], ax_m (s) ρ)) rfl ⟨trivial, (h0 38 rfl), trivial, (h0 38 rfl), trivial, ⟨(h0 46 rfl), ax_inp b9⟩, ⟨(h0 52 rfl), ax_inp b10⟩, trivial, trivial⟩ ?_
      cases h
      exact ax_Lsub [0, 1, 2, 3, 4, 5, 6, 7] rfl (KEw40 _ rfl)
def lp_Z_isTooGreat_17 (F : Nat) (x1 : Int32) (x2 : Int32) (x3 : Int32) (x5 : Int64) : Nat → Int32 → Int32 → ax_σ → Option (Int32 × ax_σ)
  | 0, _, _, _ => none
  | n + 1, x4, x7, s =>
    Option.bind (
      if x3 ≤ (0 : Int32) then
        some (1 : Int64)
      else
        bif ax_in (0 : Int32) 2 then
        bif ax_in (s.1 0 46 ((0 : Int32)).toNatClampNeg) 240 then
        some (s.2 0 52 ((s.1 0 46 ((0 : Int32)).toNatClampNeg)).toNatClampNeg)
        else none
        else none) (fun v6 =>
      Option.bind (
        if (0 : Int32) ≤ (lg_cmp (x7).toInt64 v6) then
          some true
        else
          if (16 : Int32) ≤ x7 then
            some true
          else
            some false) (fun w42 => bif w42 then
        some (x4, s)
      else
        Option.bind (lp_Z_isTooGreat_53 F x1 x2 x3 x5 x7 F x4 (0 : Int32) s) (fun (v40, s41) =>
          lp_Z_isTooGreat_17 F x1 x2 x3 x5 n v40 (x7 + (1 : Int32)) s41)))
set_option maxHeartbeats 4000000 in
set_option maxRecDepth 100000 in
theorem pl_Z_isTooGreat_17 {D : va_G} {cA : Nat → ClassId} {ad : Nat → Nat → Nat} {al : List (Nat × Nat)} {θ : ax_Θ} {l : Launch} {ρ : ax_ρ} {G : ax_G} {F : Nat} {x1 : Int32} {x2 : Int32} {x3 : Int32} {x5 : Int64} (h0 : ax_M0 al) (hB : ax_B D cA ad al θ l "CipherNotationModel" prog_8_method_36_code 11 2 G) : ∀ (n : Nat) {x4 : Int32} {x7 : Int32} {s : ax_σ} (out : Int32 × ax_σ), lp_Z_isTooGreat_17 F x1 x2 x3 x5 n x4 x7 s = some out → (∀ (e4 : Int32) (es : ax_σ), out = (e4, es) → ax_R G 11 0 0 (211, [(4, .inl (.int (e4)))], [], ax_m (es) ρ)) → ax_R G 11 0 0 (17, [(0, .inr (0, 38)), (1, .inl (.int (x1))), (2, .inl (.int (x2))), (3, .inl (.int (x3))), (4, .inl (.int (x4))), (5, .inl (.long (x5))), (7, .inl (.int (x7)))], [], ax_m (s) ρ) := by
  have hK := hB.K
  have hal := hB.la
  intro n
  induction n with
  | zero =>
    intro x4 x7 s out h
    cases h
  | succ n ih =>
    intro x4 x7 s out h KE
    rw [lp_Z_isTooGreat_17] at h
    refine ax_bk hK (ax_fc (ax_v_ld (ax_r_iload d_Z_isTooGreat_17)) (ax_fc (ax_v_pu (ax_r_i2l d_Z_isTooGreat_19)) (ax_fc (ax_v_ld (ax_r_iload_n (i := 3) d_Z_isTooGreat_20 rfl)) ax_fn))) (y := (21, [(0, .inr (0, 38)), (1, .inl (.int (x1))), (2, .inl (.int (x2))), (3, .inl (.int (x3))), (4, .inl (.int (x4))), (5, .inl (.long (x5))), (7, .inl (.int (x7)))], [.inl (.int (x3)), .inl (.long ((x7).toInt64))], ax_m (s) ρ)) rfl ⟨trivial, trivial, trivial, trivial⟩ ?_
    obtain ⟨w43, hw43, h⟩ := ax_bd h
    have KEw43 : ∀ (v6 : Int64), w43 = v6 → ax_R G 11 0 0 (39, [(0, .inr (0, 38)), (1, .inl (.int (x1))), (2, .inl (.int (x2))), (3, .inl (.int (x3))), (4, .inl (.int (x4))), (5, .inl (.long (x5))), (7, .inl (.int (x7)))], [.inl (.long (v6)), .inl (.long ((x7).toInt64))], ax_m (s) ρ) := by
      intro v6 e9
      subst w43
      try dsimp only at h
      refine ax_bk hK (ax_fc (ax_v_pu (ax_r_lcmp d_Z_isTooGreat_39)) ax_fn) (y := (40, [(0, .inr (0, 38)), (1, .inl (.int (x1))), (2, .inl (.int (x2))), (3, .inl (.int (x3))), (4, .inl (.int (x4))), (5, .inl (.long (x5))), (7, .inl (.int (x7)))], [.inl (.int ((lg_cmp (x7).toInt64 v6)))], ax_m (s) ρ)) rfl ⟨trivial, trivial⟩ ?_
      obtain ⟨w42, hw42, h⟩ := ax_bd h
      have KTw42 : w42 = true → ax_R G 11 0 0 (211, [(4, .inl (.int (x4)))], [], ax_m (s) ρ) := by
        intro e9
        subst w42
        replace h := ax_ct h
        cases h
        exact ax_Lsub [0] rfl (KE _ _ rfl)
      have KFw42 : w42 = false → ax_R G 11 0 0 (50, [(0, .inr (0, 38)), (1, .inl (.int (x1))), (2, .inl (.int (x2))), (3, .inl (.int (x3))), (4, .inl (.int (x4))), (5, .inl (.long (x5))), (7, .inl (.int (x7)))], [], ax_m (s) ρ) := by
        intro e9
        subst w42
        replace h := ax_cf h
        refine ax_bk hK (ax_fc (ax_v_pu (ax_r_iconst (v := 0) d_Z_isTooGreat_50 (by decide))) (ax_fc (ax_v_so (ax_r_istore d_Z_isTooGreat_51)) ax_fn)) (y := (53, [(8, .inl (.int ((0 : Int32)))), (0, .inr (0, 38)), (1, .inl (.int (x1))), (2, .inl (.int (x2))), (3, .inl (.int (x3))), (4, .inl (.int (x4))), (5, .inl (.long (x5))), (7, .inl (.int (x7)))], [], ax_m (s) ρ)) rfl ⟨trivial, trivial, trivial⟩ ?_
        obtain ⟨w44, hw44, h⟩ := ax_bd h
        refine ax_Lsub [1, 2, 3, 4, 5, 6, 7, 0] rfl (pl_Z_isTooGreat_53 h0 hB F _ hw44 ?_)
        intro v40 s41 e9
        subst w44
        try dsimp only at h
        change ax_R G 11 0 0 (205, [(0, .inr (0, 38)), (1, .inl (.int (x1))), (2, .inl (.int (x2))), (3, .inl (.int (x3))), (4, .inl (.int (v40))), (5, .inl (.long (x5))), (7, .inl (.int (x7)))], [], ax_m (s41) ρ)
        refine ax_bk hK (ax_fc (ax_v_ii (d := 1) d_Z_isTooGreat_205 (by decide)) (ax_fc (ax_v_go (tgt := 17) d_Z_isTooGreat_208 (by decide)) ax_fn)) (y := (17, [(7, .inl (.int ((x7 + (1 : Int32))))), (0, .inr (0, 38)), (1, .inl (.int (x1))), (2, .inl (.int (x2))), (3, .inl (.int (x3))), (4, .inl (.int (v40))), (5, .inl (.long (x5)))], [], ax_m (s41) ρ)) rfl ⟨trivial, trivial, trivial⟩ ?_
        exact ax_Lsub [1, 2, 3, 4, 5, 6, 0] rfl (ih _ h KE)
      clear h
      have h := hw42
      refine ax_if_ge (tgt := 211) hK d_Z_isTooGreat_40 (by decide) (fun c8 => ?_) (fun c8 => ?_)
      · replace h := ax_it c8 h
        cases h
        exact ax_Lsub [4] rfl (KTw42 rfl)
      · replace h := ax_if c8 h
        refine ax_bk hK (ax_fc (ax_v_ld (ax_r_iload d_Z_isTooGreat_43)) (ax_fc (ax_v_pu (ax_r_bipush (v := 16) d_Z_isTooGreat_45 (by decide))) ax_fn)) (y := (47, [(0, .inr (0, 38)), (1, .inl (.int (x1))), (2, .inl (.int (x2))), (3, .inl (.int (x3))), (4, .inl (.int (x4))), (5, .inl (.long (x5))), (7, .inl (.int (x7)))], [.inl (.int ((16 : Int32))), .inl (.int (x7))], ax_m (s) ρ)) rfl ⟨trivial, trivial, trivial⟩ ?_
        refine ax_ic_ge (tgt := 211) hK d_Z_isTooGreat_47 (by decide) (fun c7 => ?_) (fun c7 => ?_)
        · replace h := ax_it c7 h
          cases h
          exact ax_Lsub [4] rfl (KTw42 rfl)
        · replace h := ax_if c7 h
          cases h
          exact ax_Lsub [0, 1, 2, 3, 4, 5, 6] rfl (KFw42 rfl)
    clear h
    have h := hw43
    refine ax_if_le (tgt := 38) hK d_Z_isTooGreat_21 (by decide) (fun c5 => ?_) (fun c5 => ?_)
    · replace h := ax_it c5 h
      refine ax_bk hK (ax_fc (ax_v_pu (ax_r_lconst (v := 1) d_Z_isTooGreat_38 (by decide))) ax_fn) (y := (39, [(0, .inr (0, 38)), (1, .inl (.int (x1))), (2, .inl (.int (x2))), (3, .inl (.int (x3))), (4, .inl (.int (x4))), (5, .inl (.long (x5))), (7, .inl (.int (x7)))], [.inl (.long ((1 : Int64))), .inl (.long ((x7).toInt64))], ax_m (s) ρ)) rfl ⟨trivial, trivial⟩ ?_
      cases h
      exact ax_Lsub [0, 1, 2, 3, 4, 5, 6] rfl (KEw43 _ rfl)
    · replace h := ax_if c5 h
      obtain ⟨b3, h⟩ := ax_gd h
      obtain ⟨b4, h⟩ := ax_gd h
      refine ax_bk hK (ax_fc (ax_v_ld (ax_r_aload_n (i := 0) d_Z_isTooGreat_24 rfl)) (ax_fc (ax_w_gf (e := none) hal d_Z_isTooGreat_25 fd_Z_54) (ax_fc (ax_v_ld (ax_r_aload_n (i := 0) d_Z_isTooGreat_28 rfl)) (ax_fc (ax_w_gf (e := none) hal d_Z_isTooGreat_29 fd_Z_36) (ax_fc (ax_v_pu (ax_r_iconst (v := 0) d_Z_isTooGreat_32 (by decide))) (ax_fc (ax_w_iald hal d_Z_isTooGreat_33) (ax_fc (ax_w_lald hal d_Z_isTooGreat_34) (ax_fc (ax_v_go (tgt := 39) d_Z_isTooGreat_35 (by decide)) ax_fn)))))))) (y := (39, [(0, .inr (0, 38)), (1, .inl (.int (x1))), (2, .inl (.int (x2))), (3, .inl (.int (x3))), (4, .inl (.int (x4))), (5, .inl (.long (x5))), (7, .inl (.int (x7)))], [.inl (.long ((s.2 0 52 ((s.1 0 46 ((0 : Int32)).toNatClampNeg)).toNatClampNeg))), .inl (.long ((x7).toInt64))], ax_m (s) ρ)) rfl ⟨trivial, (h0 38 rfl), trivial, (h0 38 rfl), trivial, ⟨(h0 46 rfl), ax_inp b3⟩, ⟨(h0 52 rfl), ax_inp b4⟩, trivial, trivial⟩ ?_
      cases h
      exact ax_Lsub [0, 1, 2, 3, 4, 5, 6] rfl (KEw43 _ rfl)
def f_Z_isTooGreat (F : Nat) (a1 : Int32) (a2 : Int32) (a3 : Int32) (s : ax_σ) : Option (Int32 × ax_σ) :=
  Option.bind (f_Z_written F (0 : Int32) (s.1 0 38 23) s) (fun r1 =>
    Option.bind (lp_Z_isTooGreat_17 F a1 a2 a3 r1 F (0 : Int32) (0 : Int32) s) (fun (v43, s44) =>
      bif ax_bo v43 then
        some ((v43, s44))
      else none))
set_option maxHeartbeats 4000000 in
set_option maxRecDepth 100000 in
theorem t_Z_isTooGreat {l : Launch} {D : va_G} {cA : Nat → ClassId} {ad : Nat → Nat → Nat} {al : List (Nat × Nat)} {θ : ax_Θ} {ρ : ax_ρ} {F : Nat} (h0 : ax_M0 al) {a1 : Int32} {a2 : Int32} {a3 : Int32} {s : ax_σ} {r0 : Int32} {s0 : ax_σ} (h : f_Z_isTooGreat F a1 a2 a3 s = some (r0, s0)) : ax_T l D cA ad al θ y_Z_isTooGreat (.code y_Z_isTooGreat prog_8_method_36_code 11 (some .boolean)) 2 [.inr (0, 38), .inl (.int (a1)), .inl (.int (a2)), .inl (.int (a3))] (ax_m s ρ) (some (.inl (.int r0))) (ax_m s0 ρ) := by
  refine ax_T_of (own := "CipherNotationModel") (by decide) rfl (Nat.le_of_ble_eq_true rfl) [(0, .inr (0, 38)), (1, .inl (.int (a1))), (2, .inl (.int (a2))), (3, .inl (.int (a3)))] rfl ?_
  intro G hA
  have hB := hA.B
  have hK := hB.K
  have hal := hB.la
  unfold f_Z_isTooGreat at h
  refine ax_bk hK (ax_fc (ax_v_pu (ax_r_iconst (v := 0) d_Z_isTooGreat_0 (by decide))) (ax_fc (ax_v_so (ax_r_istore d_Z_isTooGreat_1)) (ax_fc (ax_v_ld (ax_r_aload_n (i := 0) d_Z_isTooGreat_3 rfl)) (ax_fc (ax_v_pu (ax_r_iconst (v := 0) d_Z_isTooGreat_4 (by decide))) (ax_fc (ax_v_ld (ax_r_aload_n (i := 0) d_Z_isTooGreat_5 rfl)) (ax_fc (ax_w_gf (e := none) hal d_Z_isTooGreat_6 fd_Z_189) ax_fn)))))) (y := (9, [(4, .inl (.int ((0 : Int32)))), (0, .inr (0, 38)), (1, .inl (.int (a1))), (2, .inl (.int (a2))), (3, .inl (.int (a3)))], [.inl (.int ((s.1 0 38 23))), .inl (.int ((0 : Int32))), .inr (0, 38)], ax_m (s) ρ)) rfl ⟨trivial, trivial, trivial, trivial, trivial, (h0 38 rfl), trivial⟩ ?_
  obtain ⟨r1, q2, h⟩ := ax_bd h
  refine ax_bV (rest := []) hB (t_Z_written h0 q2) cw_Z_301 im_Z_written se_Z_written d_Z_isTooGreat_9 (h0 38 rfl) rfl rfl (by decide) (by decide) rfl rfl (Nat.le_of_ble_eq_true rfl) ?_
  change ax_R G 11 0 0 (12, [(4, .inl (.int ((0 : Int32)))), (0, .inr (0, 38)), (1, .inl (.int (a1))), (2, .inl (.int (a2))), (3, .inl (.int (a3)))], [.inl (.long (r1))], ax_m (s) ρ)
  refine ax_bk hK (ax_fc (ax_v_so (ax_r_lstore d_Z_isTooGreat_12)) (ax_fc (ax_v_pu (ax_r_iconst (v := 0) d_Z_isTooGreat_14 (by decide))) (ax_fc (ax_v_so (ax_r_istore d_Z_isTooGreat_15)) ax_fn))) (y := (17, [(7, .inl (.int ((0 : Int32)))), (5, .inl (.long (r1))), (4, .inl (.int ((0 : Int32)))), (0, .inr (0, 38)), (1, .inl (.int (a1))), (2, .inl (.int (a2))), (3, .inl (.int (a3)))], [], ax_m (s) ρ)) rfl ⟨trivial, trivial, trivial, trivial⟩ ?_
  obtain ⟨w45, hw45, h⟩ := ax_bd h
  refine ax_Lsub [3, 4, 5, 6, 2, 1, 0] rfl (pl_Z_isTooGreat_17 h0 hB F _ hw45 ?_)
  intro v43 s44 e9
  subst w45
  try dsimp only at h
  change ax_R G 11 0 0 (211, [(4, .inl (.int (v43)))], [], ax_m (s44) ρ)
  refine ax_bk hK (ax_fc (ax_v_ld (ax_r_iload d_Z_isTooGreat_211)) ax_fn) (y := (213, [(4, .inl (.int (v43)))], [.inl (.int (v43))], ax_m (s44) ρ)) rfl ⟨trivial, trivial⟩ ?_
  obtain ⟨b46, h⟩ := ax_gd h
  cases h
  exact ax_zret hA (ax_bop b46) d_Z_isTooGreat_213
def y_Z_repeats : MethodName := ⟨"CipherNotationModel", "repeats", "(I)Z"⟩
theorem d_Z_repeats_0 : decode prog_8_method_38_code 0 = .ok (.iconst 0, 1) := by decide +kernel
theorem d_Z_repeats_1 : decode prog_8_method_38_code 1 = .ok (.istore_n 2, 1) := by decide +kernel
theorem d_Z_repeats_2 : decode prog_8_method_38_code 2 = .ok (.iconst 0, 1) := by decide +kernel
theorem d_Z_repeats_3 : decode prog_8_method_38_code 3 = .ok (.istore_n 3, 1) := by decide +kernel
theorem d_Z_repeats_4 : decode prog_8_method_38_code 4 = .ok (.iload_n 3, 1) := by decide +kernel
theorem d_Z_repeats_5 : decode prog_8_method_38_code 5 = .ok (.bipush (16), 2) := by decide +kernel
theorem d_Z_repeats_7 : decode prog_8_method_38_code 7 = .ok (.if_icmp .ge (60), 3) := by decide +kernel
theorem d_Z_repeats_10 : decode prog_8_method_38_code 10 = .ok (.iconst 0, 1) := by decide +kernel
theorem d_Z_repeats_11 : decode prog_8_method_38_code 11 = .ok (.istore (4), 2) := by decide +kernel
theorem d_Z_repeats_13 : decode prog_8_method_38_code 13 = .ok (.iload (4), 2) := by decide +kernel
theorem d_Z_repeats_15 : decode prog_8_method_38_code 15 = .ok (.iload_n 3, 1) := by decide +kernel
theorem d_Z_repeats_16 : decode prog_8_method_38_code 16 = .ok (.if_icmp .ge (45), 3) := by decide +kernel
theorem d_Z_repeats_19 : decode prog_8_method_38_code 19 = .ok (.iload_n 2, 1) := by decide +kernel
theorem d_Z_repeats_20 : decode prog_8_method_38_code 20 = .ok (.ifCond .ne (29), 3) := by decide +kernel
theorem d_Z_repeats_23 : decode prog_8_method_38_code 23 = .ok (.aload_n 0, 1) := by decide +kernel
theorem d_Z_repeats_24 : decode prog_8_method_38_code 24 = .ok (.getfield (27), 3) := by decide +kernel
theorem d_Z_repeats_27 : decode prog_8_method_38_code 27 = .ok (.bipush (16), 2) := by decide +kernel
theorem d_Z_repeats_29 : decode prog_8_method_38_code 29 = .ok (.iload_n 1, 1) := by decide +kernel
theorem d_Z_repeats_30 : decode prog_8_method_38_code 30 = .ok (.imul, 1) := by decide +kernel
theorem d_Z_repeats_31 : decode prog_8_method_38_code 31 = .ok (.iload_n 3, 1) := by decide +kernel
theorem d_Z_repeats_32 : decode prog_8_method_38_code 32 = .ok (.iadd, 1) := by decide +kernel
theorem d_Z_repeats_33 : decode prog_8_method_38_code 33 = .ok (.iaload, 1) := by decide +kernel
theorem d_Z_repeats_34 : decode prog_8_method_38_code 34 = .ok (.aload_n 0, 1) := by decide +kernel
theorem d_Z_repeats_35 : decode prog_8_method_38_code 35 = .ok (.getfield (27), 3) := by decide +kernel
theorem d_Z_repeats_38 : decode prog_8_method_38_code 38 = .ok (.bipush (16), 2) := by decide +kernel
theorem d_Z_repeats_40 : decode prog_8_method_38_code 40 = .ok (.iload_n 1, 1) := by decide +kernel
theorem d_Z_repeats_41 : decode prog_8_method_38_code 41 = .ok (.imul, 1) := by decide +kernel
theorem d_Z_repeats_42 : decode prog_8_method_38_code 42 = .ok (.iload (4), 2) := by decide +kernel
theorem d_Z_repeats_44 : decode prog_8_method_38_code 44 = .ok (.iadd, 1) := by decide +kernel
theorem d_Z_repeats_45 : decode prog_8_method_38_code 45 = .ok (.iaload, 1) := by decide +kernel
theorem d_Z_repeats_46 : decode prog_8_method_38_code 46 = .ok (.if_icmp .ne (7), 3) := by decide +kernel
theorem d_Z_repeats_49 : decode prog_8_method_38_code 49 = .ok (.iconst 1, 1) := by decide +kernel
theorem d_Z_repeats_50 : decode prog_8_method_38_code 50 = .ok (.goto (4), 3) := by decide +kernel
theorem d_Z_repeats_53 : decode prog_8_method_38_code 53 = .ok (.iconst 0, 1) := by decide +kernel
theorem d_Z_repeats_54 : decode prog_8_method_38_code 54 = .ok (.istore_n 2, 1) := by decide +kernel
theorem d_Z_repeats_55 : decode prog_8_method_38_code 55 = .ok (.iinc 4 (1), 3) := by decide +kernel
theorem d_Z_repeats_58 : decode prog_8_method_38_code 58 = .ok (.goto (-45), 3) := by decide +kernel
theorem d_Z_repeats_61 : decode prog_8_method_38_code 61 = .ok (.iinc 3 (1), 3) := by decide +kernel
theorem d_Z_repeats_64 : decode prog_8_method_38_code 64 = .ok (.goto (-60), 3) := by decide +kernel
theorem d_Z_repeats_67 : decode prog_8_method_38_code 67 = .ok (.iload_n 2, 1) := by decide +kernel
theorem d_Z_repeats_68 : decode prog_8_method_38_code 68 = .ok (.ireturn, 1) := by decide +kernel
def lp_Z_repeats_13 (F : Nat) (x1 : Int32) (x3 : Int32) (s : ax_σ) : Nat → Int32 → Int32 → Option (Int32)
  | 0, _, _ => none
  | n + 1, x2, x4 =>
    if x3 ≤ x4 then
      some x2
    else
      Option.bind (
        if x2 = (0 : Int32) then
          bif ax_in (((16 : Int32) * x1) + x3) 32 then
          bif ax_in (((16 : Int32) * x1) + x4) 32 then
          if (s.1 0 43 ((((16 : Int32) * x1) + x3)).toNatClampNeg) = (s.1 0 43 ((((16 : Int32) * x1) + x4)).toNatClampNeg) then
            some true
          else
            some false
          else none
          else none
        else
          some true) (fun w5 => bif w5 then
        lp_Z_repeats_13 F x1 x3 s n (1 : Int32) (x4 + (1 : Int32))
      else
        lp_Z_repeats_13 F x1 x3 s n (0 : Int32) (x4 + (1 : Int32)))
set_option maxHeartbeats 4000000 in
set_option maxRecDepth 100000 in
theorem pl_Z_repeats_13 {D : va_G} {cA : Nat → ClassId} {ad : Nat → Nat → Nat} {al : List (Nat × Nat)} {θ : ax_Θ} {l : Launch} {ρ : ax_ρ} {G : ax_G} {F : Nat} {x1 : Int32} {x3 : Int32} {s : ax_σ} (h0 : ax_M0 al) (hB : ax_B D cA ad al θ l "CipherNotationModel" prog_8_method_38_code 5 0 G) : ∀ (n : Nat) {x2 : Int32} {x4 : Int32} (out : Int32), lp_Z_repeats_13 F x1 x3 s n x2 x4 = some out → (∀ (e2 : Int32), out = e2 → ax_R G 5 0 0 (61, [(0, .inr (0, 38)), (1, .inl (.int (x1))), (2, .inl (.int (e2))), (3, .inl (.int (x3)))], [], ax_m (s) ρ)) → ax_R G 5 0 0 (13, [(0, .inr (0, 38)), (1, .inl (.int (x1))), (2, .inl (.int (x2))), (3, .inl (.int (x3))), (4, .inl (.int (x4)))], [], ax_m (s) ρ) := by
  have hK := hB.K
  have hal := hB.la
  intro n
  induction n with
  | zero =>
    intro x2 x4 out h
    cases h
  | succ n ih =>
    intro x2 x4 out h KE
    rw [lp_Z_repeats_13] at h
    refine ax_bk hK (ax_fc (ax_v_ld (ax_r_iload d_Z_repeats_13)) (ax_fc (ax_v_ld (ax_r_iload_n (i := 3) d_Z_repeats_15 rfl)) ax_fn)) (y := (16, [(0, .inr (0, 38)), (1, .inl (.int (x1))), (2, .inl (.int (x2))), (3, .inl (.int (x3))), (4, .inl (.int (x4)))], [.inl (.int (x3)), .inl (.int (x4))], ax_m (s) ρ)) rfl ⟨trivial, trivial, trivial⟩ ?_
    refine ax_ic_ge (tgt := 61) hK d_Z_repeats_16 (by decide) (fun c6 => ?_) (fun c6 => ?_)
    · replace h := ax_it c6 h
      cases h
      exact ax_Lsub [0, 1, 2, 3] rfl (KE _ rfl)
    · replace h := ax_if c6 h
      refine ax_bk hK (ax_fc (ax_v_ld (ax_r_iload_n (i := 2) d_Z_repeats_19 rfl)) ax_fn) (y := (20, [(0, .inr (0, 38)), (1, .inl (.int (x1))), (2, .inl (.int (x2))), (3, .inl (.int (x3))), (4, .inl (.int (x4)))], [.inl (.int (x2))], ax_m (s) ρ)) rfl ⟨trivial, trivial⟩ ?_
      obtain ⟨w5, hw5, h⟩ := ax_bd h
      have KTw5 : w5 = true → ax_R G 5 0 0 (49, [(0, .inr (0, 38)), (1, .inl (.int (x1))), (3, .inl (.int (x3))), (4, .inl (.int (x4)))], [], ax_m (s) ρ) := by
        intro e9
        subst w5
        replace h := ax_ct h
        refine ax_bk hK (ax_fc (ax_v_pu (ax_r_iconst (v := 1) d_Z_repeats_49 (by decide))) (ax_fc (ax_v_go (tgt := 54) d_Z_repeats_50 (by decide)) ax_fn)) (y := (54, [(0, .inr (0, 38)), (1, .inl (.int (x1))), (3, .inl (.int (x3))), (4, .inl (.int (x4)))], [.inl (.int ((1 : Int32)))], ax_m (s) ρ)) rfl ⟨trivial, trivial, trivial⟩ ?_
        refine ax_bk hK (ax_fc (ax_v_so (ax_r_istore_n (i := 2) d_Z_repeats_54 rfl)) (ax_fc (ax_v_ii (d := 1) d_Z_repeats_55 (by decide)) (ax_fc (ax_v_go (tgt := 13) d_Z_repeats_58 (by decide)) ax_fn))) (y := (13, [(4, .inl (.int ((x4 + (1 : Int32))))), (2, .inl (.int ((1 : Int32)))), (0, .inr (0, 38)), (1, .inl (.int (x1))), (3, .inl (.int (x3)))], [], ax_m (s) ρ)) rfl ⟨trivial, trivial, trivial, trivial⟩ ?_
        exact ax_Lsub [2, 3, 1, 4, 0] rfl (ih _ h KE)
      have KFw5 : w5 = false → ax_R G 5 0 0 (53, [(0, .inr (0, 38)), (1, .inl (.int (x1))), (3, .inl (.int (x3))), (4, .inl (.int (x4)))], [], ax_m (s) ρ) := by
        intro e9
        subst w5
        replace h := ax_cf h
        refine ax_bk hK (ax_fc (ax_v_pu (ax_r_iconst (v := 0) d_Z_repeats_53 (by decide))) (ax_fc (ax_v_so (ax_r_istore_n (i := 2) d_Z_repeats_54 rfl)) (ax_fc (ax_v_ii (d := 1) d_Z_repeats_55 (by decide)) (ax_fc (ax_v_go (tgt := 13) d_Z_repeats_58 (by decide)) ax_fn)))) (y := (13, [(4, .inl (.int ((x4 + (1 : Int32))))), (2, .inl (.int ((0 : Int32)))), (0, .inr (0, 38)), (1, .inl (.int (x1))), (3, .inl (.int (x3)))], [], ax_m (s) ρ)) rfl ⟨trivial, trivial, trivial, trivial, trivial⟩ ?_
        exact ax_Lsub [2, 3, 1, 4, 0] rfl (ih _ h KE)
      clear h
      have h := hw5
      refine ax_if_ne (tgt := 49) hK d_Z_repeats_20 (by decide) (fun c4 => ?_) (fun c4 => ?_)
      · replace h := ax_if c4 h
        cases h
        exact ax_Lsub [0, 1, 3, 4] rfl (KTw5 rfl)
      · replace h := ax_it c4 h
        obtain ⟨b1, h⟩ := ax_gd h
        obtain ⟨b2, h⟩ := ax_gd h
        refine ax_bk hK (ax_fc (ax_v_ld (ax_r_aload_n (i := 0) d_Z_repeats_23 rfl)) (ax_fc (ax_w_gf (e := none) hal d_Z_repeats_24 fd_Z_27) (ax_fc (ax_v_pu (ax_r_bipush (v := 16) d_Z_repeats_27 (by decide))) (ax_fc (ax_v_ld (ax_r_iload_n (i := 1) d_Z_repeats_29 rfl)) (ax_fc (ax_v_pu (ax_r_imul d_Z_repeats_30)) (ax_fc (ax_v_ld (ax_r_iload_n (i := 3) d_Z_repeats_31 rfl)) (ax_fc (ax_v_pu (ax_r_iadd d_Z_repeats_32)) (ax_fc (ax_w_iald hal d_Z_repeats_33) (ax_fc (ax_v_ld (ax_r_aload_n (i := 0) d_Z_repeats_34 rfl)) (ax_fc (ax_w_gf (e := none) hal d_Z_repeats_35 fd_Z_27) (ax_fc (ax_v_pu (ax_r_bipush (v := 16) d_Z_repeats_38 (by decide))) (ax_fc (ax_v_ld (ax_r_iload_n (i := 1) d_Z_repeats_40 rfl)) (ax_fc (ax_v_pu (ax_r_imul d_Z_repeats_41)) (ax_fc (ax_v_ld (ax_r_iload d_Z_repeats_42)) (ax_fc (ax_v_pu (ax_r_iadd d_Z_repeats_44)) (ax_fc (ax_w_iald hal d_Z_repeats_45) ax_fn)))))))))))))))) (y := (46, [(0, .inr (0, 38)), (1, .inl (.int (x1))), (2, .inl (.int (x2))), (3, .inl (.int (x3))), (4, .inl (.int (x4)))], [.inl (.int ((s.1 0 43 ((((16 : Int32) * x1) + x4)).toNatClampNeg))), .inl (.int ((s.1 0 43 ((((16 : Int32) * x1) + x3)).toNatClampNeg)))], ax_m (s) ρ)) rfl ⟨trivial, (h0 38 rfl), trivial, trivial, trivial, trivial, trivial, ⟨(h0 43 rfl), ax_inp b1⟩, trivial, (h0 38 rfl), trivial, trivial, trivial, trivial, trivial, ⟨(h0 43 rfl), ax_inp b2⟩, trivial⟩ ?_
        refine ax_ic_ne (tgt := 53) hK d_Z_repeats_46 (by decide) (fun c3 => ?_) (fun c3 => ?_)
        · replace h := ax_if c3 h
          cases h
          exact ax_Lsub [0, 1, 3, 4] rfl (KFw5 rfl)
        · replace h := ax_it c3 h
          cases h
          exact ax_Lsub [0, 1, 3, 4] rfl (KTw5 rfl)
def lp_Z_repeats_4 (F : Nat) (x1 : Int32) (s : ax_σ) : Nat → Int32 → Int32 → Option (Int32)
  | 0, _, _ => none
  | n + 1, x2, x3 =>
    if (16 : Int32) ≤ x3 then
      some x2
    else
      Option.bind (lp_Z_repeats_13 F x1 x3 s F x2 (0 : Int32)) (fun v7 =>
        lp_Z_repeats_4 F x1 s n v7 (x3 + (1 : Int32)))
set_option maxHeartbeats 4000000 in
set_option maxRecDepth 100000 in
theorem pl_Z_repeats_4 {D : va_G} {cA : Nat → ClassId} {ad : Nat → Nat → Nat} {al : List (Nat × Nat)} {θ : ax_Θ} {l : Launch} {ρ : ax_ρ} {G : ax_G} {F : Nat} {x1 : Int32} {s : ax_σ} (h0 : ax_M0 al) (hB : ax_B D cA ad al θ l "CipherNotationModel" prog_8_method_38_code 5 0 G) : ∀ (n : Nat) {x2 : Int32} {x3 : Int32} (out : Int32), lp_Z_repeats_4 F x1 s n x2 x3 = some out → (∀ (e2 : Int32), out = e2 → ax_R G 5 0 0 (67, [(2, .inl (.int (e2)))], [], ax_m (s) ρ)) → ax_R G 5 0 0 (4, [(0, .inr (0, 38)), (1, .inl (.int (x1))), (2, .inl (.int (x2))), (3, .inl (.int (x3)))], [], ax_m (s) ρ) := by
  have hK := hB.K
  have hal := hB.la
  intro n
  induction n with
  | zero =>
    intro x2 x3 out h
    cases h
  | succ n ih =>
    intro x2 x3 out h KE
    rw [lp_Z_repeats_4] at h
    refine ax_bk hK (ax_fc (ax_v_ld (ax_r_iload_n (i := 3) d_Z_repeats_4 rfl)) (ax_fc (ax_v_pu (ax_r_bipush (v := 16) d_Z_repeats_5 (by decide))) ax_fn)) (y := (7, [(0, .inr (0, 38)), (1, .inl (.int (x1))), (2, .inl (.int (x2))), (3, .inl (.int (x3)))], [.inl (.int ((16 : Int32))), .inl (.int (x3))], ax_m (s) ρ)) rfl ⟨trivial, trivial, trivial⟩ ?_
    refine ax_ic_ge (tgt := 67) hK d_Z_repeats_7 (by decide) (fun c8 => ?_) (fun c8 => ?_)
    · replace h := ax_it c8 h
      cases h
      exact ax_Lsub [2] rfl (KE _ rfl)
    · replace h := ax_if c8 h
      refine ax_bk hK (ax_fc (ax_v_pu (ax_r_iconst (v := 0) d_Z_repeats_10 (by decide))) (ax_fc (ax_v_so (ax_r_istore d_Z_repeats_11)) ax_fn)) (y := (13, [(4, .inl (.int ((0 : Int32)))), (0, .inr (0, 38)), (1, .inl (.int (x1))), (2, .inl (.int (x2))), (3, .inl (.int (x3)))], [], ax_m (s) ρ)) rfl ⟨trivial, trivial, trivial⟩ ?_
      obtain ⟨w9, hw9, h⟩ := ax_bd h
      refine ax_Lsub [1, 2, 3, 4, 0] rfl (pl_Z_repeats_13 h0 hB F _ hw9 ?_)
      intro v7 e9
      subst w9
      try dsimp only at h
      change ax_R G 5 0 0 (61, [(0, .inr (0, 38)), (1, .inl (.int (x1))), (2, .inl (.int (v7))), (3, .inl (.int (x3)))], [], ax_m (s) ρ)
      refine ax_bk hK (ax_fc (ax_v_ii (d := 1) d_Z_repeats_61 (by decide)) (ax_fc (ax_v_go (tgt := 4) d_Z_repeats_64 (by decide)) ax_fn)) (y := (4, [(3, .inl (.int ((x3 + (1 : Int32))))), (0, .inr (0, 38)), (1, .inl (.int (x1))), (2, .inl (.int (v7)))], [], ax_m (s) ρ)) rfl ⟨trivial, trivial, trivial⟩ ?_
      exact ax_Lsub [1, 2, 3, 0] rfl (ih _ h KE)
def f_Z_repeats (F : Nat) (a1 : Int32) (s : ax_σ) : Option (Int32) :=
  Option.bind (lp_Z_repeats_4 F a1 s F (0 : Int32) (0 : Int32)) (fun v9 =>
    bif ax_bo v9 then
      some (v9)
    else none)
set_option maxHeartbeats 4000000 in
set_option maxRecDepth 100000 in
theorem t_Z_repeats {l : Launch} {D : va_G} {cA : Nat → ClassId} {ad : Nat → Nat → Nat} {al : List (Nat × Nat)} {θ : ax_Θ} {ρ : ax_ρ} {F : Nat} (h0 : ax_M0 al) {a1 : Int32} {s : ax_σ} {r0 : Int32} (h : f_Z_repeats F a1 s = some r0) : ax_T l D cA ad al θ y_Z_repeats (.code y_Z_repeats prog_8_method_38_code 5 (some .boolean)) 0 [.inr (0, 38), .inl (.int (a1))] (ax_m s ρ) (some (.inl (.int r0))) (ax_m s ρ) := by
  refine ax_T_of (own := "CipherNotationModel") (by decide) rfl (Nat.le_of_ble_eq_true rfl) [(0, .inr (0, 38)), (1, .inl (.int (a1)))] rfl ?_
  intro G hA
  have hB := hA.B
  have hK := hB.K
  have hal := hB.la
  unfold f_Z_repeats at h
  refine ax_bk hK (ax_fc (ax_v_pu (ax_r_iconst (v := 0) d_Z_repeats_0 (by decide))) (ax_fc (ax_v_so (ax_r_istore_n (i := 2) d_Z_repeats_1 rfl)) (ax_fc (ax_v_pu (ax_r_iconst (v := 0) d_Z_repeats_2 (by decide))) (ax_fc (ax_v_so (ax_r_istore_n (i := 3) d_Z_repeats_3 rfl)) ax_fn)))) (y := (4, [(3, .inl (.int ((0 : Int32)))), (2, .inl (.int ((0 : Int32)))), (0, .inr (0, 38)), (1, .inl (.int (a1)))], [], ax_m (s) ρ)) rfl ⟨trivial, trivial, trivial, trivial, trivial⟩ ?_
  obtain ⟨w10, hw10, h⟩ := ax_bd h
  refine ax_Lsub [2, 3, 1, 0] rfl (pl_Z_repeats_4 h0 hB F _ hw10 ?_)
  intro v9 e9
  subst w10
  try dsimp only at h
  change ax_R G 5 0 0 (67, [(2, .inl (.int (v9)))], [], ax_m (s) ρ)
  refine ax_bk hK (ax_fc (ax_v_ld (ax_r_iload_n (i := 2) d_Z_repeats_67 rfl)) ax_fn) (y := (68, [(2, .inl (.int (v9)))], [.inl (.int (v9))], ax_m (s) ρ)) rfl ⟨trivial, trivial⟩ ?_
  obtain ⟨b11, h⟩ := ax_gd h
  cases h
  exact ax_zret hA (ax_bop b11) d_Z_repeats_68
