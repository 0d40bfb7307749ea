def y_Z_write : MethodName := ⟨"CipherNotationModel", "write", "(J)I"⟩
theorem d_Z_write_0 : decode prog_8_method_3_code 0 = .ok (.aload_n 0, 1) := by decide +kernel
theorem d_Z_write_1 : decode prog_8_method_3_code 1 = .ok (.iconst 0, 1) := by decide +kernel
theorem d_Z_write_2 : decode prog_8_method_3_code 2 = .ok (.putfield (145), 3) := by decide +kernel
theorem d_Z_write_5 : decode prog_8_method_3_code 5 = .ok (.iconst 0, 1) := by decide +kernel
theorem d_Z_write_6 : decode prog_8_method_3_code 6 = .ok (.istore_n 3, 1) := by decide +kernel
theorem d_Z_write_7 : decode prog_8_method_3_code 7 = .ok (.iconst 0, 1) := by decide +kernel
theorem d_Z_write_8 : decode prog_8_method_3_code 8 = .ok (.istore (4), 2) := by decide +kernel
theorem d_Z_write_10 : decode prog_8_method_3_code 10 = .ok (.iload (4), 2) := by decide +kernel
theorem d_Z_write_12 : decode prog_8_method_3_code 12 = .ok (.bipush (8), 2) := by decide +kernel
theorem d_Z_write_14 : decode prog_8_method_3_code 14 = .ok (.if_icmp .ge (57), 3) := by decide +kernel
theorem d_Z_write_17 : decode prog_8_method_3_code 17 = .ok (.lload_n 1, 1) := by decide +kernel
theorem d_Z_write_18 : decode prog_8_method_3_code 18 = .ok (.bipush (8), 2) := by decide +kernel
theorem d_Z_write_20 : decode prog_8_method_3_code 20 = .ok (.iload (4), 2) := by decide +kernel
theorem d_Z_write_22 : decode prog_8_method_3_code 22 = .ok (.imul, 1) := by decide +kernel
theorem d_Z_write_23 : decode prog_8_method_3_code 23 = .ok (.lshr, 1) := by decide +kernel
theorem d_Z_write_24 : decode prog_8_method_3_code 24 = .ok (.ldc2_w (148), 3) := by decide +kernel
theorem d_Z_write_27 : decode prog_8_method_3_code 27 = .ok (.land, 1) := by decide +kernel
theorem d_Z_write_28 : decode prog_8_method_3_code 28 = .ok (.l2i, 1) := by decide +kernel
theorem d_Z_write_29 : decode prog_8_method_3_code 29 = .ok (.istore (5), 2) := by decide +kernel
theorem d_Z_write_31 : decode prog_8_method_3_code 31 = .ok (.iload (5), 2) := by decide +kernel
theorem d_Z_write_33 : decode prog_8_method_3_code 33 = .ok (.ifCond .eq (19), 3) := by decide +kernel
theorem d_Z_write_36 : decode prog_8_method_3_code 36 = .ok (.iload (5), 2) := by decide +kernel
theorem d_Z_write_38 : decode prog_8_method_3_code 38 = .ok (.bipush (32), 2) := by decide +kernel
theorem d_Z_write_40 : decode prog_8_method_3_code 40 = .ok (.if_icmp .lt (10), 3) := by decide +kernel
theorem d_Z_write_43 : decode prog_8_method_3_code 43 = .ok (.iload (5), 2) := by decide +kernel
theorem d_Z_write_45 : decode prog_8_method_3_code 45 = .ok (.bipush (126), 2) := by decide +kernel
theorem d_Z_write_47 : decode prog_8_method_3_code 47 = .ok (.if_icmp .le (5), 3) := by decide +kernel
theorem d_Z_write_50 : decode prog_8_method_3_code 50 = .ok (.iconst (-1), 1) := by decide +kernel
theorem d_Z_write_51 : decode prog_8_method_3_code 51 = .ok (.ireturn, 1) := by decide +kernel
theorem d_Z_write_52 : decode prog_8_method_3_code 52 = .ok (.iload (5), 2) := by decide +kernel
theorem d_Z_write_54 : decode prog_8_method_3_code 54 = .ok (.ifCond .ne (7), 3) := by decide +kernel
theorem d_Z_write_57 : decode prog_8_method_3_code 57 = .ok (.iload_n 3, 1) := by decide +kernel
theorem d_Z_write_58 : decode prog_8_method_3_code 58 = .ok (.goto (6), 3) := by decide +kernel
theorem d_Z_write_61 : decode prog_8_method_3_code 61 = .ok (.iload_n 3, 1) := by decide +kernel
theorem d_Z_write_62 : decode prog_8_method_3_code 62 = .ok (.iconst 1, 1) := by decide +kernel
theorem d_Z_write_63 : decode prog_8_method_3_code 63 = .ok (.iadd, 1) := by decide +kernel
theorem d_Z_write_64 : decode prog_8_method_3_code 64 = .ok (.istore_n 3, 1) := by decide +kernel
theorem d_Z_write_65 : decode prog_8_method_3_code 65 = .ok (.iinc 4 (1), 3) := by decide +kernel
theorem d_Z_write_68 : decode prog_8_method_3_code 68 = .ok (.goto (-58), 3) := by decide +kernel
theorem d_Z_write_71 : decode prog_8_method_3_code 71 = .ok (.aload_n 0, 1) := by decide +kernel
theorem d_Z_write_72 : decode prog_8_method_3_code 72 = .ok (.getfield (150), 3) := by decide +kernel
theorem d_Z_write_75 : decode prog_8_method_3_code 75 = .ok (.iload_n 3, 1) := by decide +kernel
theorem d_Z_write_76 : decode prog_8_method_3_code 76 = .ok (.iadd, 1) := by decide +kernel
theorem d_Z_write_77 : decode prog_8_method_3_code 77 = .ok (.sipush (240), 3) := by decide +kernel
theorem d_Z_write_80 : decode prog_8_method_3_code 80 = .ok (.if_icmp .le (5), 3) := by decide +kernel
theorem d_Z_write_83 : decode prog_8_method_3_code 83 = .ok (.iconst (-1), 1) := by decide +kernel
theorem d_Z_write_84 : decode prog_8_method_3_code 84 = .ok (.ireturn, 1) := by decide +kernel
theorem d_Z_write_85 : decode prog_8_method_3_code 85 = .ok (.iconst 0, 1) := by decide +kernel
theorem d_Z_write_86 : decode prog_8_method_3_code 86 = .ok (.istore (4), 2) := by decide +kernel
theorem d_Z_write_88 : decode prog_8_method_3_code 88 = .ok (.iload (4), 2) := by decide +kernel
theorem d_Z_write_90 : decode prog_8_method_3_code 90 = .ok (.bipush (8), 2) := by decide +kernel
theorem d_Z_write_92 : decode prog_8_method_3_code 92 = .ok (.if_icmp .ge (49), 3) := by decide +kernel
theorem d_Z_write_95 : decode prog_8_method_3_code 95 = .ok (.lload_n 1, 1) := by decide +kernel
theorem d_Z_write_96 : decode prog_8_method_3_code 96 = .ok (.bipush (8), 2) := by decide +kernel
theorem d_Z_write_98 : decode prog_8_method_3_code 98 = .ok (.iload (4), 2) := by decide +kernel
theorem d_Z_write_100 : decode prog_8_method_3_code 100 = .ok (.imul, 1) := by decide +kernel
theorem d_Z_write_101 : decode prog_8_method_3_code 101 = .ok (.lshr, 1) := by decide +kernel
theorem d_Z_write_102 : decode prog_8_method_3_code 102 = .ok (.ldc2_w (148), 3) := by decide +kernel
theorem d_Z_write_105 : decode prog_8_method_3_code 105 = .ok (.land, 1) := by decide +kernel
theorem d_Z_write_106 : decode prog_8_method_3_code 106 = .ok (.l2i, 1) := by decide +kernel
theorem d_Z_write_107 : decode prog_8_method_3_code 107 = .ok (.istore (5), 2) := by decide +kernel
theorem d_Z_write_109 : decode prog_8_method_3_code 109 = .ok (.iload (5), 2) := by decide +kernel
theorem d_Z_write_111 : decode prog_8_method_3_code 111 = .ok (.ifCond .eq (24), 3) := by decide +kernel
theorem d_Z_write_114 : decode prog_8_method_3_code 114 = .ok (.aload_n 0, 1) := by decide +kernel
theorem d_Z_write_115 : decode prog_8_method_3_code 115 = .ok (.getfield (7), 3) := by decide +kernel
theorem d_Z_write_118 : decode prog_8_method_3_code 118 = .ok (.aload_n 0, 1) := by decide +kernel
theorem d_Z_write_119 : decode prog_8_method_3_code 119 = .ok (.getfield (150), 3) := by decide +kernel
theorem d_Z_write_122 : decode prog_8_method_3_code 122 = .ok (.iload (5), 2) := by decide +kernel
theorem d_Z_write_124 : decode prog_8_method_3_code 124 = .ok (.iastore, 1) := by decide +kernel
theorem d_Z_write_125 : decode prog_8_method_3_code 125 = .ok (.aload_n 0, 1) := by decide +kernel
theorem d_Z_write_126 : decode prog_8_method_3_code 126 = .ok (.dup, 1) := by decide +kernel
theorem d_Z_write_127 : decode prog_8_method_3_code 127 = .ok (.getfield (150), 3) := by decide +kernel
theorem d_Z_write_130 : decode prog_8_method_3_code 130 = .ok (.iconst 1, 1) := by decide +kernel
theorem d_Z_write_131 : decode prog_8_method_3_code 131 = .ok (.iadd, 1) := by decide +kernel
theorem d_Z_write_132 : decode prog_8_method_3_code 132 = .ok (.putfield (150), 3) := by decide +kernel
theorem d_Z_write_135 : decode prog_8_method_3_code 135 = .ok (.iinc 4 (1), 3) := by decide +kernel
theorem d_Z_write_138 : decode prog_8_method_3_code 138 = .ok (.goto (-50), 3) := by decide +kernel
theorem d_Z_write_141 : decode prog_8_method_3_code 141 = .ok (.aload_n 0, 1) := by decide +kernel
theorem d_Z_write_142 : decode prog_8_method_3_code 142 = .ok (.getfield (150), 3) := by decide +kernel
theorem d_Z_write_145 : decode prog_8_method_3_code 145 = .ok (.ireturn, 1) := by decide +kernel
def lp_Z_write_10 (F : Nat) (x1 : Int64) (s : ax_σ) : Nat → Int32 → Int32 → Option ((Int32 × ax_σ) ⊕ (Int32))
  | 0, _, _ => none
  | n + 1, x3, x4 =>
    if (8 : Int32) ≤ x4 then
      some (.inr x3)
    else
      if (((x1 >>> ((((8 : Int32) * x4)).toInt64 &&& 63)) &&& (255 : Int64))).toInt32 = (0 : Int32) then
        if (((x1 >>> ((((8 : Int32) * x4)).toInt64 &&& 63)) &&& (255 : Int64))).toInt32 = (0 : Int32) then
          lp_Z_write_10 F x1 s n x3 (x4 + (1 : Int32))
        else
          lp_Z_write_10 F x1 s n (x3 + (1 : Int32)) (x4 + (1 : Int32))
      else
        Option.bind (
          if (((x1 >>> ((((8 : Int32) * x4)).toInt64 &&& 63)) &&& (255 : Int64))).toInt32 < (32 : Int32) then
            some true
          else
            if (((x1 >>> ((((8 : Int32) * x4)).toInt64 &&& 63)) &&& (255 : Int64))).toInt32 ≤ (126 : Int32) then
              some false
            else
              some true) (fun w6 => bif w6 then
          some (.inl ((-1 : Int32), s))
        else
          if (((x1 >>> ((((8 : Int32) * x4)).toInt64 &&& 63)) &&& (255 : Int64))).toInt32 = (0 : Int32) then
            lp_Z_write_10 F x1 s n x3 (x4 + (1 : Int32))
          else
            lp_Z_write_10 F x1 s n (x3 + (1 : Int32)) (x4 + (1 : Int32)))
set_option maxHeartbeats 4000000 in
set_option maxRecDepth 100000 in
theorem pl_Z_write_10 {D : va_G} {cA : Nat → ClassId} {ad : Nat → Nat → Nat} {al : List (Nat × Nat)} {θ : ax_Θ} {l : Launch} {ρ : ax_ρ} {G : ax_G} {F : Nat} {x1 : Int64} {s : ax_σ} (h0 : ax_M0 al) (hB : ax_B D cA ad al θ l "CipherNotationModel" prog_8_method_3_code 6 0 G) : ∀ (n : Nat) {x3 : Int32} {x4 : Int32} (out : (Int32 × ax_σ) ⊕ (Int32)), lp_Z_write_10 F x1 s n x3 x4 = some out → (∀ (r0 : Int32) (s0 : ax_σ), out = .inl (r0, s0) → ax_At D cA ad al θ l "CipherNotationModel" prog_8_method_3_code 6 0 (some .int) (some (.inl (.int r0))) (ax_m s0 ρ) G) → (∀ (e3 : Int32), out = .inr e3 → ax_R G 6 0 0 (71, [(0, .inr (0, 38)), (1, .inl (.long (x1))), (3, .inl (.int (e3)))], [], ax_m (s) ρ)) → ax_R G 6 0 0 (10, [(0, .inr (0, 38)), (1, .inl (.long (x1))), (3, .inl (.int (x3))), (4, .inl (.int (x4)))], [], ax_m (s) ρ) := by
  have hK := hB.K
  have hal := hB.la
  intro n
  induction n with
  | zero =>
    intro x3 x4 out h
    cases h
  | succ n ih =>
    intro x3 x4 out h RT KE
    rw [lp_Z_write_10] at h
    refine ax_bk hK (ax_fc (ax_v_ld (ax_r_iload d_Z_write_10)) (ax_fc (ax_v_pu (ax_r_bipush (v := 8) d_Z_write_12 (by decide))) ax_fn)) (y := (14, [(0, .inr (0, 38)), (1, .inl (.long (x1))), (3, .inl (.int (x3))), (4, .inl (.int (x4)))], [.inl (.int ((8 : Int32))), .inl (.int (x4))], ax_m (s) ρ)) rfl ⟨trivial, trivial, trivial⟩ ?_
    refine ax_ic_ge (tgt := 71) hK d_Z_write_14 (by decide) (fun c8 => ?_) (fun c8 => ?_)
    · replace h := ax_it c8 h
      cases h
      exact ax_Lsub [0, 1, 2] rfl (KE _ rfl)
    · replace h := ax_if c8 h
      refine ax_bk hK (ax_fc (ax_v_ld (ax_r_lload_n (i := 1) d_Z_write_17 rfl)) (ax_fc (ax_v_pu (ax_r_bipush (v := 8) d_Z_write_18 (by decide))) (ax_fc (ax_v_ld (ax_r_iload d_Z_write_20)) (ax_fc (ax_v_pu (ax_r_imul d_Z_write_22)) (ax_fc (ax_v_pu (ax_r_lshr d_Z_write_23)) (ax_fc (ax_v_ldc2 (v := 255) d_Z_write_24 (nw_5 126 (by decide +kernel) rfl)) (ax_fc (ax_v_pu (ax_r_land d_Z_write_27)) (ax_fc (ax_v_pu (ax_r_l2i d_Z_write_28)) (ax_fc (ax_v_so (ax_r_istore d_Z_write_29)) (ax_fc (ax_v_ld (ax_r_iload d_Z_write_31)) ax_fn)))))))))) (y := (33, [(5, .inl (.int ((((x1 >>> ((((8 : Int32) * x4)).toInt64 &&& 63)) &&& (255 : Int64))).toInt32))), (0, .inr (0, 38)), (1, .inl (.long (x1))), (3, .inl (.int (x3))), (4, .inl (.int (x4)))], [.inl (.int ((((x1 >>> ((((8 : Int32) * x4)).toInt64 &&& 63)) &&& (255 : Int64))).toInt32))], ax_m (s) ρ)) rfl ⟨trivial, trivial, trivial, trivial, trivial, trivial, trivial, trivial, trivial, trivial, trivial⟩ ?_
      refine ax_if_eq (tgt := 52) hK d_Z_write_33 (by decide) (fun c7 => ?_) (fun c7 => ?_)
      · replace h := ax_it c7 h
        refine ax_bk hK (ax_fc (ax_v_ld (ax_r_iload d_Z_write_52)) ax_fn) (y := (54, [(5, .inl (.int ((((x1 >>> ((((8 : Int32) * x4)).toInt64 &&& 63)) &&& (255 : Int64))).toInt32))), (0, .inr (0, 38)), (1, .inl (.long (x1))), (3, .inl (.int (x3))), (4, .inl (.int (x4)))], [.inl (.int ((((x1 >>> ((((8 : Int32) * x4)).toInt64 &&& 63)) &&& (255 : Int64))).toInt32))], ax_m (s) ρ)) rfl ⟨trivial, trivial⟩ ?_
        refine ax_if_ne (tgt := 61) hK d_Z_write_54 (by decide) (fun c2 => ?_) (fun c2 => ?_)
        · replace h := ax_if c2 h
          refine ax_bk hK (ax_fc (ax_v_ld (ax_r_iload_n (i := 3) d_Z_write_61 rfl)) (ax_fc (ax_v_pu (ax_r_iconst (v := 1) d_Z_write_62 (by decide))) (ax_fc (ax_v_pu (ax_r_iadd d_Z_write_63)) (ax_fc (ax_v_so (ax_r_istore_n (i := 3) d_Z_write_64 rfl)) (ax_fc (ax_v_ii (d := 1) d_Z_write_65 (by decide)) (ax_fc (ax_v_go (tgt := 10) d_Z_write_68 (by decide)) ax_fn)))))) (y := (10, [(4, .inl (.int ((x4 + (1 : Int32))))), (3, .inl (.int ((x3 + (1 : Int32))))), (5, .inl (.int ((((x1 >>> ((((8 : Int32) * x4)).toInt64 &&& 63)) &&& (255 : Int64))).toInt32))), (0, .inr (0, 38)), (1, .inl (.long (x1)))], [], ax_m (s) ρ)) rfl ⟨trivial, trivial, trivial, trivial, trivial, trivial, trivial⟩ ?_
          exact ax_Lsub [3, 4, 1, 0] rfl (ih _ h RT KE)
        · replace h := ax_it c2 h
          refine ax_bk hK (ax_fc (ax_v_ld (ax_r_iload_n (i := 3) d_Z_write_57 rfl)) (ax_fc (ax_v_go (tgt := 64) d_Z_write_58 (by decide)) ax_fn)) (y := (64, [(5, .inl (.int ((((x1 >>> ((((8 : Int32) * x4)).toInt64 &&& 63)) &&& (255 : Int64))).toInt32))), (0, .inr (0, 38)), (1, .inl (.long (x1))), (3, .inl (.int (x3))), (4, .inl (.int (x4)))], [.inl (.int (x3))], ax_m (s) ρ)) rfl ⟨trivial, trivial, trivial⟩ ?_
          refine ax_bk hK (ax_fc (ax_v_so (ax_r_istore_n (i := 3) d_Z_write_64 rfl)) (ax_fc (ax_v_ii (d := 1) d_Z_write_65 (by decide)) (ax_fc (ax_v_go (tgt := 10) d_Z_write_68 (by decide)) ax_fn))) (y := (10, [(4, .inl (.int ((x4 + (1 : Int32))))), (3, .inl (.int (x3))), (5, .inl (.int ((((x1 >>> ((((8 : Int32) * x4)).toInt64 &&& 63)) &&& (255 : Int64))).toInt32))), (0, .inr (0, 38)), (1, .inl (.long (x1)))], [], ax_m (s) ρ)) rfl ⟨trivial, trivial, trivial, trivial⟩ ?_
          exact ax_Lsub [3, 4, 1, 0] rfl (ih _ h RT KE)
      · replace h := ax_if c7 h
        refine ax_bk hK (ax_fc (ax_v_ld (ax_r_iload d_Z_write_36)) (ax_fc (ax_v_pu (ax_r_bipush (v := 32) d_Z_write_38 (by decide))) ax_fn)) (y := (40, [(5, .inl (.int ((((x1 >>> ((((8 : Int32) * x4)).toInt64 &&& 63)) &&& (255 : Int64))).toInt32))), (0, .inr (0, 38)), (1, .inl (.long (x1))), (3, .inl (.int (x3))), (4, .inl (.int (x4)))], [.inl (.int ((32 : Int32))), .inl (.int ((((x1 >>> ((((8 : Int32) * x4)).toInt64 &&& 63)) &&& (255 : Int64))).toInt32))], ax_m (s) ρ)) rfl ⟨trivial, trivial, trivial⟩ ?_
        obtain ⟨w6, hw6, h⟩ := ax_bd h
        have KTw6 : w6 = true → ax_R G 6 0 0 (50, [], [], ax_m (s) ρ) := by
          intro e9
          subst w6
          replace h := ax_ct h
          refine ax_bk hK (ax_fc (ax_v_pu (ax_r_iconst (v := -1) d_Z_write_50 (by decide))) ax_fn) (y := (51, [], [.inl (.int ((-1 : Int32)))], ax_m (s) ρ)) rfl ⟨trivial, trivial⟩ ?_
          cases h
          exact ax_iret (RT _ _ rfl) d_Z_write_51
        have KFw6 : w6 = false → ax_R G 6 0 0 (52, [(0, .inr (0, 38)), (1, .inl (.long (x1))), (3, .inl (.int (x3))), (4, .inl (.int (x4))), (5, .inl (.int ((((x1 >>> ((((8 : Int32) * x4)).toInt64 &&& 63)) &&& (255 : Int64))).toInt32)))], [], ax_m (s) ρ) := by
          intro e9
          subst w6
          replace h := ax_cf h
          refine ax_bk hK (ax_fc (ax_v_ld (ax_r_iload d_Z_write_52)) ax_fn) (y := (54, [(0, .inr (0, 38)), (1, .inl (.long (x1))), (3, .inl (.int (x3))), (4, .inl (.int (x4))), (5, .inl (.int ((((x1 >>> ((((8 : Int32) * x4)).toInt64 &&& 63)) &&& (255 : Int64))).toInt32)))], [.inl (.int ((((x1 >>> ((((8 : Int32) * x4)).toInt64 &&& 63)) &&& (255 : Int64))).toInt32))], ax_m (s) ρ)) rfl ⟨trivial, trivial⟩ ?_
          refine ax_if_ne (tgt := 61) hK d_Z_write_54 (by decide) (fun c5 => ?_) (fun c5 => ?_)
          · replace h := ax_if c5 h
            refine ax_bk hK (ax_fc (ax_v_ld (ax_r_iload_n (i := 3) d_Z_write_61 rfl)) (ax_fc (ax_v_pu (ax_r_iconst (v := 1) d_Z_write_62 (by decide))) (ax_fc (ax_v_pu (ax_r_iadd d_Z_write_63)) (ax_fc (ax_v_so (ax_r_istore_n (i := 3) d_Z_write_64 rfl)) (ax_fc (ax_v_ii (d := 1) d_Z_write_65 (by decide)) (ax_fc (ax_v_go (tgt := 10) d_Z_write_68 (by decide)) ax_fn)))))) (y := (10, [(4, .inl (.int ((x4 + (1 : Int32))))), (3, .inl (.int ((x3 + (1 : Int32))))), (0, .inr (0, 38)), (1, .inl (.long (x1))), (5, .inl (.int ((((x1 >>> ((((8 : Int32) * x4)).toInt64 &&& 63)) &&& (255 : Int64))).toInt32)))], [], ax_m (s) ρ)) rfl ⟨trivial, trivial, trivial, trivial, trivial, trivial, trivial⟩ ?_
            exact ax_Lsub [2, 3, 1, 0] rfl (ih _ h RT KE)
          · replace h := ax_it c5 h
            refine ax_bk hK (ax_fc (ax_v_ld (ax_r_iload_n (i := 3) d_Z_write_57 rfl)) (ax_fc (ax_v_go (tgt := 64) d_Z_write_58 (by decide)) ax_fn)) (y := (64, [(0, .inr (0, 38)), (1, .inl (.long (x1))), (3, .inl (.int (x3))), (4, .inl (.int (x4))), (5, .inl (.int ((((x1 >>> ((((8 : Int32) * x4)).toInt64 &&& 63)) &&& (255 : Int64))).toInt32)))], [.inl (.int (x3))], ax_m (s) ρ)) rfl ⟨trivial, trivial, trivial⟩ ?_
            refine ax_bk hK (ax_fc (ax_v_so (ax_r_istore_n (i := 3) d_Z_write_64 rfl)) (ax_fc (ax_v_ii (d := 1) d_Z_write_65 (by decide)) (ax_fc (ax_v_go (tgt := 10) d_Z_write_68 (by decide)) ax_fn))) (y := (10, [(4, .inl (.int ((x4 + (1 : Int32))))), (3, .inl (.int (x3))), (0, .inr (0, 38)), (1, .inl (.long (x1))), (5, .inl (.int ((((x1 >>> ((((8 : Int32) * x4)).toInt64 &&& 63)) &&& (255 : Int64))).toInt32)))], [], ax_m (s) ρ)) rfl ⟨trivial, trivial, trivial, trivial⟩ ?_
            exact ax_Lsub [2, 3, 1, 0] rfl (ih _ h RT KE)
        clear h
        have h := hw6
        refine ax_ic_lt (tgt := 50) hK d_Z_write_40 (by decide) (fun c4 => ?_) (fun c4 => ?_)
        · replace h := ax_it c4 h
          cases h
          exact ax_Lsub [] rfl (KTw6 rfl)
        · replace h := ax_if c4 h
          refine ax_bk hK (ax_fc (ax_v_ld (ax_r_iload d_Z_write_43)) (ax_fc (ax_v_pu (ax_r_bipush (v := 126) d_Z_write_45 (by decide))) ax_fn)) (y := (47, [(5, .inl (.int ((((x1 >>> ((((8 : Int32) * x4)).toInt64 &&& 63)) &&& (255 : Int64))).toInt32))), (0, .inr (0, 38)), (1, .inl (.long (x1))), (3, .inl (.int (x3))), (4, .inl (.int (x4)))], [.inl (.int ((126 : Int32))), .inl (.int ((((x1 >>> ((((8 : Int32) * x4)).toInt64 &&& 63)) &&& (255 : Int64))).toInt32))], ax_m (s) ρ)) rfl ⟨trivial, trivial, trivial⟩ ?_
          refine ax_ic_le (tgt := 52) hK d_Z_write_47 (by decide) (fun c3 => ?_) (fun c3 => ?_)
          · replace h := ax_it c3 h
            cases h
            exact ax_Lsub [1, 2, 3, 4, 0] rfl (KFw6 rfl)
          · replace h := ax_if c3 h
            cases h
            exact ax_Lsub [] rfl (KTw6 rfl)
theorem fd_Z_7 : ax_fd "CipherNotationModel" 7 6 1 := ⟨nC6, nT6, 73, nY6, rfl, nW6, by decide, nw_4 138 (by decide +kernel) rfl, nO6, nA6⟩
def lp_Z_write_88 (F : Nat) (x1 : Int64) : Nat → Int32 → ax_σ → Option (ax_σ)
  | 0, _, _ => none
  | n + 1, x4, s =>
    if (8 : Int32) ≤ x4 then
      some s
    else
      if (((x1 >>> ((((8 : Int32) * x4)).toInt64 &&& 63)) &&& (255 : Int64))).toInt32 = (0 : Int32) then
        lp_Z_write_88 F x1 n (x4 + (1 : Int32)) s
      else
        bif ax_in (s.1 0 38 2) 240 then
        ax_let (ax_wI s 0 39 ((s.1 0 38 2)).toNatClampNeg ((((x1 >>> ((((8 : Int32) * x4)).toInt64 &&& 63)) &&& (255 : Int64))).toInt32)) (fun s11 =>
          ax_let (ax_wI s11 0 38 2 ((s11.1 0 38 2) + (1 : Int32))) (fun s12 =>
            lp_Z_write_88 F x1 n (x4 + (1 : Int32)) s12))
        else none
set_option maxHeartbeats 4000000 in
set_option maxRecDepth 100000 in
theorem pl_Z_write_88 {D : va_G} {cA : Nat → ClassId} {ad : Nat → Nat → Nat} {al : List (Nat × Nat)} {θ : ax_Θ} {l : Launch} {ρ : ax_ρ} {G : ax_G} {F : Nat} {x1 : Int64} (h0 : ax_M0 al) (hB : ax_B D cA ad al θ l "CipherNotationModel" prog_8_method_3_code 6 0 G) : ∀ (n : Nat) {x4 : Int32} {s : ax_σ} (out : ax_σ), lp_Z_write_88 F x1 n x4 s = some out → (∀ (es : ax_σ), out = es → ax_R G 6 0 0 (141, [(0, .inr (0, 38))], [], ax_m (es) ρ)) → ax_R G 6 0 0 (88, [(0, .inr (0, 38)), (1, .inl (.long (x1))), (4, .inl (.int (x4)))], [], ax_m (s) ρ) := by
  have hK := hB.K
  have hal := hB.la
  intro n
  induction n with
  | zero =>
    intro x4 s out h
    cases h
  | succ n ih =>
    intro x4 s out h KE
    rw [lp_Z_write_88] at h
    refine ax_bk hK (ax_fc (ax_v_ld (ax_r_iload d_Z_write_88)) (ax_fc (ax_v_pu (ax_r_bipush (v := 8) d_Z_write_90 (by decide))) ax_fn)) (y := (92, [(0, .inr (0, 38)), (1, .inl (.long (x1))), (4, .inl (.int (x4)))], [.inl (.int ((8 : Int32))), .inl (.int (x4))], ax_m (s) ρ)) rfl ⟨trivial, trivial, trivial⟩ ?_
    refine ax_ic_ge (tgt := 141) hK d_Z_write_92 (by decide) (fun c14 => ?_) (fun c14 => ?_)
    · replace h := ax_it c14 h
      cases h
      exact ax_Lsub [0] rfl (KE _ rfl)
    · replace h := ax_if c14 h
      refine ax_bk hK (ax_fc (ax_v_ld (ax_r_lload_n (i := 1) d_Z_write_95 rfl)) (ax_fc (ax_v_pu (ax_r_bipush (v := 8) d_Z_write_96 (by decide))) (ax_fc (ax_v_ld (ax_r_iload d_Z_write_98)) (ax_fc (ax_v_pu (ax_r_imul d_Z_write_100)) (ax_fc (ax_v_pu (ax_r_lshr d_Z_write_101)) (ax_fc (ax_v_ldc2 (v := 255) d_Z_write_102 (nw_5 126 (by decide +kernel) rfl)) (ax_fc (ax_v_pu (ax_r_land d_Z_write_105)) (ax_fc (ax_v_pu (ax_r_l2i d_Z_write_106)) (ax_fc (ax_v_so (ax_r_istore d_Z_write_107)) (ax_fc (ax_v_ld (ax_r_iload d_Z_write_109)) ax_fn)))))))))) (y := (111, [(5, .inl (.int ((((x1 >>> ((((8 : Int32) * x4)).toInt64 &&& 63)) &&& (255 : Int64))).toInt32))), (0, .inr (0, 38)), (1, .inl (.long (x1))), (4, .inl (.int (x4)))], [.inl (.int ((((x1 >>> ((((8 : Int32) * x4)).toInt64 &&& 63)) &&& (255 : Int64))).toInt32))], ax_m (s) ρ)) rfl ⟨trivial, trivial, trivial, trivial, trivial, trivial, trivial, trivial, trivial, trivial, trivial⟩ ?_
      refine ax_if_eq (tgt := 135) hK d_Z_write_111 (by decide) (fun c13 => ?_) (fun c13 => ?_)
      · replace h := ax_it c13 h
        refine ax_bk hK (ax_fc (ax_v_ii (d := 1) d_Z_write_135 (by decide)) (ax_fc (ax_v_go (tgt := 88) d_Z_write_138 (by decide)) ax_fn)) (y := (88, [(4, .inl (.int ((x4 + (1 : Int32))))), (5, .inl (.int ((((x1 >>> ((((8 : Int32) * x4)).toInt64 &&& 63)) &&& (255 : Int64))).toInt32))), (0, .inr (0, 38)), (1, .inl (.long (x1)))], [], ax_m (s) ρ)) rfl ⟨trivial, trivial, trivial⟩ ?_
        exact ax_Lsub [2, 3, 0] rfl (ih _ h KE)
      · replace h := ax_if c13 h
        obtain ⟨b10, h⟩ := ax_gd h
        refine ax_bk hK (ax_fc (ax_v_ld (ax_r_aload_n (i := 0) d_Z_write_114 rfl)) (ax_fc (ax_w_gf (e := none) hal d_Z_write_115 fd_Z_7) (ax_fc (ax_v_ld (ax_r_aload_n (i := 0) d_Z_write_118 rfl)) (ax_fc (ax_w_gf (e := none) hal d_Z_write_119 fd_Z_150) (ax_fc (ax_v_ld (ax_r_iload d_Z_write_122)) (ax_fc (ax_w_iast hal d_Z_write_124) ax_fn)))))) (y := (125, [(5, .inl (.int ((((x1 >>> ((((8 : Int32) * x4)).toInt64 &&& 63)) &&& (255 : Int64))).toInt32))), (0, .inr (0, 38)), (1, .inl (.long (x1))), (4, .inl (.int (x4)))], [], ax_m (ax_wI s 0 39 ((s.1 0 38 2)).toNatClampNeg ((((x1 >>> ((((8 : Int32) * x4)).toInt64 &&& 63)) &&& (255 : Int64))).toInt32)) ρ)) rfl ⟨trivial, (h0 38 rfl), trivial, (h0 38 rfl), trivial, ⟨(h0 39 rfl), ax_inp b10⟩, trivial⟩ ?_
        refine ax_lt (Q := fun ςς => ax_R G 6 0 0 (125, [(5, .inl (.int ((((x1 >>> ((((8 : Int32) * x4)).toInt64 &&& 63)) &&& (255 : Int64))).toInt32))), (0, .inr (0, 38)), (1, .inl (.long (x1))), (4, .inl (.int (x4)))], [], ax_m (ςς) ρ)) h (fun s11 h => ?_)
        refine ax_bk hK (ax_fc (ax_v_ld (ax_r_aload_n (i := 0) d_Z_write_125 rfl)) (ax_fc (ax_v_pu (ax_r_dup d_Z_write_126)) (ax_fc (ax_w_gf (e := none) hal d_Z_write_127 fd_Z_150) (ax_fc (ax_v_pu (ax_r_iconst (v := 1) d_Z_write_130 (by decide))) (ax_fc (ax_v_pu (ax_r_iadd d_Z_write_131)) (ax_fc (ax_w_pf (tc := 0) hal d_Z_write_132 fp_Z_150 rfl) ax_fn)))))) (y := (135, [(5, .inl (.int ((((x1 >>> ((((8 : Int32) * x4)).toInt64 &&& 63)) &&& (255 : Int64))).toInt32))), (0, .inr (0, 38)), (1, .inl (.long (x1))), (4, .inl (.int (x4)))], [], ax_m (ax_wI s11 0 38 2 ((s11.1 0 38 2) + (1 : Int32))) ρ)) rfl ⟨trivial, trivial, (h0 38 rfl), trivial, trivial, (h0 38 rfl), trivial⟩ ?_
        refine ax_lt (Q := fun ςς => ax_R G 6 0 0 (135, [(5, .inl (.int ((((x1 >>> ((((8 : Int32) * x4)).toInt64 &&& 63)) &&& (255 : Int64))).toInt32))), (0, .inr (0, 38)), (1, .inl (.long (x1))), (4, .inl (.int (x4)))], [], ax_m (ςς) ρ)) h (fun s12 h => ?_)
        refine ax_bk hK (ax_fc (ax_v_ii (d := 1) d_Z_write_135 (by decide)) (ax_fc (ax_v_go (tgt := 88) d_Z_write_138 (by decide)) ax_fn)) (y := (88, [(4, .inl (.int ((x4 + (1 : Int32))))), (5, .inl (.int ((((x1 >>> ((((8 : Int32) * x4)).toInt64 &&& 63)) &&& (255 : Int64))).toInt32))), (0, .inr (0, 38)), (1, .inl (.long (x1)))], [], ax_m (s12) ρ)) rfl ⟨trivial, trivial, trivial⟩ ?_
        exact ax_Lsub [2, 3, 0] rfl (ih _ h KE)
def f_Z_write (F : Nat) (a1 : Int64) (s : ax_σ) : Option (Int32 × ax_σ) :=
  ax_let (ax_wI s 0 38 0 (0 : Int32)) (fun s1 =>
    Option.bind (lp_Z_write_10 F a1 s1 F (0 : Int32) (0 : Int32)) (fun w => match w with
      | .inl w => some w
      | .inr v9 =>
        if ((s1.1 0 38 2) + v9) ≤ (240 : Int32) then
          Option.bind (lp_Z_write_88 F a1 F (0 : Int32) s1) (fun s15 =>
            some (((s15.1 0 38 2), s15)))
        else
          some (((-1 : Int32), s1))))
set_option maxHeartbeats 4000000 in
set_option maxRecDepth 100000 in
theorem t_Z_write {l : Launch} {D : va_G} {cA : Nat → ClassId} {ad : Nat → Nat → Nat} {al : List (Nat × Nat)} {θ : ax_Θ} {ρ : ax_ρ} {F : Nat} (h0 : ax_M0 al) {a1 : Int64} {s : ax_σ} {r0 : Int32} {s0 : ax_σ} (h : f_Z_write F a1 s = some (r0, s0)) : ax_T l D cA ad al θ y_Z_write (.code y_Z_write prog_8_method_3_code 6 (some .int)) 0 [.inr (0, 38), .inl (.long (a1))] (ax_m s ρ) (some (.inl (.int r0))) (ax_m s0 ρ) := by
  refine ax_T_of (own := "CipherNotationModel") (by decide) rfl (Nat.le_of_ble_eq_true rfl) [(0, .inr (0, 38)), (1, .inl (.long (a1)))] rfl ?_
  intro G hA
  have hB := hA.B
  have hK := hB.K
  have hal := hB.la
  unfold f_Z_write at h
  refine ax_bk hK (ax_fc (ax_v_ld (ax_r_aload_n (i := 0) d_Z_write_0 rfl)) (ax_fc (ax_v_pu (ax_r_iconst (v := 0) d_Z_write_1 (by decide))) (ax_fc (ax_w_pf (tc := 0) hal d_Z_write_2 fp_Z_145 rfl) ax_fn))) (y := (5, [(0, .inr (0, 38)), (1, .inl (.long (a1)))], [], ax_m (ax_wI s 0 38 0 (0 : Int32)) ρ)) rfl ⟨trivial, trivial, (h0 38 rfl), trivial⟩ ?_
  refine ax_lt (Q := fun ςς => ax_R G 6 0 0 (5, [(0, .inr (0, 38)), (1, .inl (.long (a1)))], [], ax_m (ςς) ρ)) h (fun s1 h => ?_)
  refine ax_bk hK (ax_fc (ax_v_pu (ax_r_iconst (v := 0) d_Z_write_5 (by decide))) (ax_fc (ax_v_so (ax_r_istore_n (i := 3) d_Z_write_6 rfl)) (ax_fc (ax_v_pu (ax_r_iconst (v := 0) d_Z_write_7 (by decide))) (ax_fc (ax_v_so (ax_r_istore d_Z_write_8)) ax_fn)))) (y := (10, [(4, .inl (.int ((0 : Int32)))), (3, .inl (.int ((0 : Int32)))), (0, .inr (0, 38)), (1, .inl (.long (a1)))], [], ax_m (s1) ρ)) rfl ⟨trivial, trivial, trivial, trivial, trivial⟩ ?_
  obtain ⟨w17, hw17, h⟩ := ax_bd h
  have RTw17 : ∀ (r0 : Int32) (s0 : ax_σ), w17 = .inl (r0, s0) → ax_At D cA ad al θ l "CipherNotationModel" prog_8_method_3_code 6 0 (some .int) (some (.inl (.int r0))) (ax_m s0 ρ) G := by
    intro r0 s0 e9
    subst w17
    try dsimp only at h
    cases h
    exact hA
  refine ax_Lsub [2, 3, 1, 0] rfl (pl_Z_write_10 h0 hB F _ hw17 RTw17 ?_)
  intro v9 e9
  subst w17
  try dsimp only at h
  change ax_R G 6 0 0 (71, [(0, .inr (0, 38)), (1, .inl (.long (a1))), (3, .inl (.int (v9)))], [], ax_m (s1) ρ)
  refine ax_bk hK (ax_fc (ax_v_ld (ax_r_aload_n (i := 0) d_Z_write_71 rfl)) (ax_fc (ax_w_gf (e := none) hal d_Z_write_72 fd_Z_150) (ax_fc (ax_v_ld (ax_r_iload_n (i := 3) d_Z_write_75 rfl)) (ax_fc (ax_v_pu (ax_r_iadd d_Z_write_76)) (ax_fc (ax_v_pu (ax_r_sipush (v := 240) d_Z_write_77 (by decide))) ax_fn))))) (y := (80, [(0, .inr (0, 38)), (1, .inl (.long (a1))), (3, .inl (.int (v9)))], [.inl (.int ((240 : Int32))), .inl (.int (((s1.1 0 38 2) + v9)))], ax_m (s1) ρ)) rfl ⟨trivial, (h0 38 rfl), trivial, trivial, trivial, trivial⟩ ?_
  refine ax_ic_le (tgt := 85) hK d_Z_write_80 (by decide) (fun c16 => ?_) (fun c16 => ?_)
  · replace h := ax_it c16 h
    refine ax_bk hK (ax_fc (ax_v_pu (ax_r_iconst (v := 0) d_Z_write_85 (by decide))) (ax_fc (ax_v_so (ax_r_istore d_Z_write_86)) ax_fn)) (y := (88, [(4, .inl (.int ((0 : Int32)))), (0, .inr (0, 38)), (1, .inl (.long (a1))), (3, .inl (.int (v9)))], [], ax_m (s1) ρ)) rfl ⟨trivial, trivial, trivial⟩ ?_
    obtain ⟨w18, hw18, h⟩ := ax_bd h
    refine ax_Lsub [1, 2, 0] rfl (pl_Z_write_88 h0 hB F _ hw18 ?_)
    intro s15 e9
    subst w18
    try dsimp only at h
    change ax_R G 6 0 0 (141, [(0, .inr (0, 38))], [], ax_m (s15) ρ)
    refine ax_bk hK (ax_fc (ax_v_ld (ax_r_aload_n (i := 0) d_Z_write_141 rfl)) (ax_fc (ax_w_gf (e := none) hal d_Z_write_142 fd_Z_150) ax_fn)) (y := (145, [(0, .inr (0, 38))], [.inl (.int ((s15.1 0 38 2)))], ax_m (s15) ρ)) rfl ⟨trivial, (h0 38 rfl), trivial⟩ ?_
    cases h
    exact ax_iret hA d_Z_write_145
  · replace h := ax_if c16 h
    refine ax_bk hK (ax_fc (ax_v_pu (ax_r_iconst (v := -1) d_Z_write_83 (by decide))) ax_fn) (y := (84, [(0, .inr (0, 38)), (1, .inl (.long (a1))), (3, .inl (.int (v9)))], [.inl (.int ((-1 : Int32)))], ax_m (s1) ρ)) rfl ⟨trivial, trivial⟩ ?_
    cases h
    exact ax_iret hA d_Z_write_84
def y_Z_endNumber : MethodName := ⟨"CipherNotationModel", "endNumber", "()V"⟩
theorem d_Z_endNumber_0 : decode prog_8_method_15_code 0 = .ok (.aload_n 0, 1) := by decide +kernel
theorem d_Z_endNumber_1 : decode prog_8_method_15_code 1 = .ok (.iconst 0, 1) := by decide +kernel
theorem d_Z_endNumber_2 : decode prog_8_method_15_code 2 = .ok (.putfield (171), 3) := by decide +kernel
theorem d_Z_endNumber_5 : decode prog_8_method_15_code 5 = .ok (.aload_n 0, 1) := by decide +kernel
theorem d_Z_endNumber_6 : decode prog_8_method_15_code 6 = .ok (.getfield (168), 3) := by decide +kernel
theorem d_Z_endNumber_9 : decode prog_8_method_15_code 9 = .ok (.iconst 5, 1) := by decide +kernel
theorem d_Z_endNumber_10 : decode prog_8_method_15_code 10 = .ok (.if_icmp .eq (20), 3) := by decide +kernel
theorem d_Z_endNumber_13 : decode prog_8_method_15_code 13 = .ok (.aload_n 0, 1) := by decide +kernel
theorem d_Z_endNumber_14 : decode prog_8_method_15_code 14 = .ok (.getfield (168), 3) := by decide +kernel
theorem d_Z_endNumber_17 : decode prog_8_method_15_code 17 = .ok (.bipush (7), 2) := by decide +kernel
theorem d_Z_endNumber_19 : decode prog_8_method_15_code 19 = .ok (.if_icmp .eq (11), 3) := by decide +kernel
theorem d_Z_endNumber_22 : decode prog_8_method_15_code 22 = .ok (.aload_n 0, 1) := by decide +kernel
theorem d_Z_endNumber_23 : decode prog_8_method_15_code 23 = .ok (.aload_n 0, 1) := by decide +kernel
theorem d_Z_endNumber_24 : decode prog_8_method_15_code 24 = .ok (.getfield (207), 3) := by decide +kernel
theorem d_Z_endNumber_27 : decode prog_8_method_15_code 27 = .ok (.invokevirtual (239), 3) := by decide +kernel
theorem d_Z_endNumber_30 : decode prog_8_method_15_code 30 = .ok (.aload_n 0, 1) := by decide +kernel
theorem d_Z_endNumber_31 : decode prog_8_method_15_code 31 = .ok (.getfield (186), 3) := by decide +kernel
theorem d_Z_endNumber_34 : decode prog_8_method_15_code 34 = .ok (.iconst 1, 1) := by decide +kernel
theorem d_Z_endNumber_35 : decode prog_8_method_15_code 35 = .ok (.isub, 1) := by decide +kernel
theorem d_Z_endNumber_36 : decode prog_8_method_15_code 36 = .ok (.istore_n 1, 1) := by decide +kernel
theorem d_Z_endNumber_37 : decode prog_8_method_15_code 37 = .ok (.aload_n 0, 1) := by decide +kernel
theorem d_Z_endNumber_38 : decode prog_8_method_15_code 38 = .ok (.getfield (168), 3) := by decide +kernel
theorem d_Z_endNumber_41 : decode prog_8_method_15_code 41 = .ok (.lookupswitch (284) #[(0, 67), (5, 111), (7, 111), (20, 188), (22, 208), (31, 217), (46, 239)], 67) := by decide +kernel
theorem d_Z_endNumber_108 : decode prog_8_method_15_code 108 = .ok (.aload_n 0, 1) := by decide +kernel
theorem d_Z_endNumber_109 : decode prog_8_method_15_code 109 = .ok (.getfield (20), 3) := by decide +kernel
theorem d_Z_endNumber_112 : decode prog_8_method_15_code 112 = .ok (.aload_n 0, 1) := by decide +kernel
theorem d_Z_endNumber_113 : decode prog_8_method_15_code 113 = .ok (.getfield (174), 3) := by decide +kernel
theorem d_Z_endNumber_116 : decode prog_8_method_15_code 116 = .ok (.aload_n 0, 1) := by decide +kernel
theorem d_Z_endNumber_117 : decode prog_8_method_15_code 117 = .ok (.getfield (207), 3) := by decide +kernel
theorem d_Z_endNumber_120 : decode prog_8_method_15_code 120 = .ok (.lastore, 1) := by decide +kernel
theorem d_Z_endNumber_121 : decode prog_8_method_15_code 121 = .ok (.aload_n 0, 1) := by decide +kernel
theorem d_Z_endNumber_122 : decode prog_8_method_15_code 122 = .ok (.getfield (24), 3) := by decide +kernel
theorem d_Z_endNumber_125 : decode prog_8_method_15_code 125 = .ok (.aload_n 0, 1) := by decide +kernel
theorem d_Z_endNumber_126 : decode prog_8_method_15_code 126 = .ok (.getfield (174), 3) := by decide +kernel
theorem d_Z_endNumber_129 : decode prog_8_method_15_code 129 = .ok (.aload_n 0, 1) := by decide +kernel
theorem d_Z_endNumber_130 : decode prog_8_method_15_code 130 = .ok (.getfield (224), 3) := by decide +kernel
theorem d_Z_endNumber_133 : decode prog_8_method_15_code 133 = .ok (.iastore, 1) := by decide +kernel
theorem d_Z_endNumber_134 : decode prog_8_method_15_code 134 = .ok (.aload_n 0, 1) := by decide +kernel
theorem d_Z_endNumber_135 : decode prog_8_method_15_code 135 = .ok (.dup, 1) := by decide +kernel
theorem d_Z_endNumber_136 : decode prog_8_method_15_code 136 = .ok (.getfield (174), 3) := by decide +kernel
theorem d_Z_endNumber_139 : decode prog_8_method_15_code 139 = .ok (.iconst 1, 1) := by decide +kernel
theorem d_Z_endNumber_140 : decode prog_8_method_15_code 140 = .ok (.iadd, 1) := by decide +kernel
theorem d_Z_endNumber_141 : decode prog_8_method_15_code 141 = .ok (.putfield (174), 3) := by decide +kernel
theorem d_Z_endNumber_144 : decode prog_8_method_15_code 144 = .ok (.aload_n 0, 1) := by decide +kernel
theorem d_Z_endNumber_145 : decode prog_8_method_15_code 145 = .ok (.iconst 1, 1) := by decide +kernel
theorem d_Z_endNumber_146 : decode prog_8_method_15_code 146 = .ok (.putfield (168), 3) := by decide +kernel
theorem d_Z_endNumber_149 : decode prog_8_method_15_code 149 = .ok (.goto (242), 3) := by decide +kernel
theorem d_Z_endNumber_152 : decode prog_8_method_15_code 152 = .ok (.aload_n 0, 1) := by decide +kernel
theorem d_Z_endNumber_153 : decode prog_8_method_15_code 153 = .ok (.getfield (30), 3) := by decide +kernel
theorem d_Z_endNumber_156 : decode prog_8_method_15_code 156 = .ok (.iconst 2, 1) := by decide +kernel
theorem d_Z_endNumber_157 : decode prog_8_method_15_code 157 = .ok (.aload_n 0, 1) := by decide +kernel
theorem d_Z_endNumber_158 : decode prog_8_method_15_code 158 = .ok (.getfield (177), 3) := by decide +kernel
theorem d_Z_endNumber_161 : decode prog_8_method_15_code 161 = .ok (.imul, 1) := by decide +kernel
theorem d_Z_endNumber_162 : decode prog_8_method_15_code 162 = .ok (.iconst 2, 1) := by decide +kernel
theorem d_Z_endNumber_163 : decode prog_8_method_15_code 163 = .ok (.isub, 1) := by decide +kernel
theorem d_Z_endNumber_164 : decode prog_8_method_15_code 164 = .ok (.aload_n 0, 1) := by decide +kernel
theorem d_Z_endNumber_165 : decode prog_8_method_15_code 165 = .ok (.getfield (168), 3) := by decide +kernel
theorem d_Z_endNumber_168 : decode prog_8_method_15_code 168 = .ok (.bipush (7), 2) := by decide +kernel
theorem d_Z_endNumber_170 : decode prog_8_method_15_code 170 = .ok (.if_icmp .ne (7), 3) := by decide +kernel
theorem d_Z_endNumber_173 : decode prog_8_method_15_code 173 = .ok (.iconst 1, 1) := by decide +kernel
theorem d_Z_endNumber_174 : decode prog_8_method_15_code 174 = .ok (.goto (4), 3) := by decide +kernel
theorem d_Z_endNumber_177 : decode prog_8_method_15_code 177 = .ok (.iconst 0, 1) := by decide +kernel
theorem d_Z_endNumber_178 : decode prog_8_method_15_code 178 = .ok (.iadd, 1) := by decide +kernel
theorem d_Z_endNumber_179 : decode prog_8_method_15_code 179 = .ok (.aload_n 0, 1) := by decide +kernel
theorem d_Z_endNumber_180 : decode prog_8_method_15_code 180 = .ok (.getfield (207), 3) := by decide +kernel
theorem d_Z_endNumber_183 : decode prog_8_method_15_code 183 = .ok (.lastore, 1) := by decide +kernel
theorem d_Z_endNumber_184 : decode prog_8_method_15_code 184 = .ok (.aload_n 0, 1) := by decide +kernel
theorem d_Z_endNumber_185 : decode prog_8_method_15_code 185 = .ok (.getfield (33), 3) := by decide +kernel
theorem d_Z_endNumber_188 : decode prog_8_method_15_code 188 = .ok (.iconst 2, 1) := by decide +kernel
theorem d_Z_endNumber_189 : decode prog_8_method_15_code 189 = .ok (.aload_n 0, 1) := by decide +kernel
theorem d_Z_endNumber_190 : decode prog_8_method_15_code 190 = .ok (.getfield (177), 3) := by decide +kernel
theorem d_Z_endNumber_193 : decode prog_8_method_15_code 193 = .ok (.imul, 1) := by decide +kernel
theorem d_Z_endNumber_194 : decode prog_8_method_15_code 194 = .ok (.iconst 2, 1) := by decide +kernel
theorem d_Z_endNumber_195 : decode prog_8_method_15_code 195 = .ok (.isub, 1) := by decide +kernel
theorem d_Z_endNumber_196 : decode prog_8_method_15_code 196 = .ok (.aload_n 0, 1) := by decide +kernel
theorem d_Z_endNumber_197 : decode prog_8_method_15_code 197 = .ok (.getfield (168), 3) := by decide +kernel
theorem d_Z_endNumber_200 : decode prog_8_method_15_code 200 = .ok (.bipush (7), 2) := by decide +kernel
theorem d_Z_endNumber_202 : decode prog_8_method_15_code 202 = .ok (.if_icmp .ne (7), 3) := by decide +kernel
theorem d_Z_endNumber_205 : decode prog_8_method_15_code 205 = .ok (.iconst 1, 1) := by decide +kernel
theorem d_Z_endNumber_206 : decode prog_8_method_15_code 206 = .ok (.goto (4), 3) := by decide +kernel
theorem d_Z_endNumber_209 : decode prog_8_method_15_code 209 = .ok (.iconst 0, 1) := by decide +kernel
theorem d_Z_endNumber_210 : decode prog_8_method_15_code 210 = .ok (.iadd, 1) := by decide +kernel
theorem d_Z_endNumber_211 : decode prog_8_method_15_code 211 = .ok (.aload_n 0, 1) := by decide +kernel
theorem d_Z_endNumber_212 : decode prog_8_method_15_code 212 = .ok (.getfield (224), 3) := by decide +kernel
theorem d_Z_endNumber_215 : decode prog_8_method_15_code 215 = .ok (.iastore, 1) := by decide +kernel
theorem d_Z_endNumber_216 : decode prog_8_method_15_code 216 = .ok (.aload_n 0, 1) := by decide +kernel
theorem d_Z_endNumber_217 : decode prog_8_method_15_code 217 = .ok (.dup, 1) := by decide +kernel
theorem d_Z_endNumber_218 : decode prog_8_method_15_code 218 = .ok (.getfield (168), 3) := by decide +kernel
theorem d_Z_endNumber_221 : decode prog_8_method_15_code 221 = .ok (.iconst 1, 1) := by decide +kernel
theorem d_Z_endNumber_222 : decode prog_8_method_15_code 222 = .ok (.iadd, 1) := by decide +kernel
theorem d_Z_endNumber_223 : decode prog_8_method_15_code 223 = .ok (.putfield (168), 3) := by decide +kernel
theorem d_Z_endNumber_226 : decode prog_8_method_15_code 226 = .ok (.goto (165), 3) := by decide +kernel
theorem d_Z_endNumber_229 : decode prog_8_method_15_code 229 = .ok (.aload_n 0, 1) := by decide +kernel
theorem d_Z_endNumber_230 : decode prog_8_method_15_code 230 = .ok (.iconst 4, 1) := by decide +kernel
theorem d_Z_endNumber_231 : decode prog_8_method_15_code 231 = .ok (.aload_n 0, 1) := by decide +kernel
theorem d_Z_endNumber_232 : decode prog_8_method_15_code 232 = .ok (.getfield (207), 3) := by decide +kernel
theorem d_Z_endNumber_235 : decode prog_8_method_15_code 235 = .ok (.aload_n 0, 1) := by decide +kernel
theorem d_Z_endNumber_236 : decode prog_8_method_15_code 236 = .ok (.getfield (224), 3) := by decide +kernel
theorem d_Z_endNumber_239 : decode prog_8_method_15_code 239 = .ok (.invokevirtual (243), 3) := by decide +kernel
theorem d_Z_endNumber_242 : decode prog_8_method_15_code 242 = .ok (.aload_n 0, 1) := by decide +kernel
theorem d_Z_endNumber_243 : decode prog_8_method_15_code 243 = .ok (.invokevirtual (247), 3) := by decide +kernel
theorem d_Z_endNumber_246 : decode prog_8_method_15_code 246 = .ok (.goto (145), 3) := by decide +kernel
theorem d_Z_endNumber_249 : decode prog_8_method_15_code 249 = .ok (.aload_n 0, 1) := by decide +kernel
theorem d_Z_endNumber_250 : decode prog_8_method_15_code 250 = .ok (.bipush (23), 2) := by decide +kernel
theorem d_Z_endNumber_252 : decode prog_8_method_15_code 252 = .ok (.putfield (168), 3) := by decide +kernel
theorem d_Z_endNumber_255 : decode prog_8_method_15_code 255 = .ok (.goto (136), 3) := by decide +kernel
theorem d_Z_endNumber_258 : decode prog_8_method_15_code 258 = .ok (.aload_n 0, 1) := by decide +kernel
theorem d_Z_endNumber_259 : decode prog_8_method_15_code 259 = .ok (.aload_n 0, 1) := by decide +kernel
theorem d_Z_endNumber_260 : decode prog_8_method_15_code 260 = .ok (.getfield (207), 3) := by decide +kernel
theorem d_Z_endNumber_263 : decode prog_8_method_15_code 263 = .ok (.iconst (-1), 1) := by decide +kernel
theorem d_Z_endNumber_264 : decode prog_8_method_15_code 264 = .ok (.aload_n 0, 1) := by decide +kernel
theorem d_Z_endNumber_265 : decode prog_8_method_15_code 265 = .ok (.getfield (224), 3) := by decide +kernel
theorem d_Z_endNumber_268 : decode prog_8_method_15_code 268 = .ok (.invokevirtual (250), 3) := by decide +kernel
theorem d_Z_endNumber_271 : decode prog_8_method_15_code 271 = .ok (.aload_n 0, 1) := by decide +kernel
theorem d_Z_endNumber_272 : decode prog_8_method_15_code 272 = .ok (.bipush (32), 2) := by decide +kernel
theorem d_Z_endNumber_274 : decode prog_8_method_15_code 274 = .ok (.putfield (168), 3) := by decide +kernel
theorem d_Z_endNumber_277 : decode prog_8_method_15_code 277 = .ok (.goto (114), 3) := by decide +kernel
theorem d_Z_endNumber_280 : decode prog_8_method_15_code 280 = .ok (.aload_n 0, 1) := by decide +kernel
theorem d_Z_endNumber_281 : decode prog_8_method_15_code 281 = .ok (.getfield (66), 3) := by decide +kernel
theorem d_Z_endNumber_284 : decode prog_8_method_15_code 284 = .ok (.aload_n 0, 1) := by decide +kernel
theorem d_Z_endNumber_285 : decode prog_8_method_15_code 285 = .ok (.getfield (192), 3) := by decide +kernel
theorem d_Z_endNumber_288 : decode prog_8_method_15_code 288 = .ok (.aload_n 0, 1) := by decide +kernel
theorem d_Z_endNumber_289 : decode prog_8_method_15_code 289 = .ok (.getfield (207), 3) := by decide +kernel
theorem d_Z_endNumber_292 : decode prog_8_method_15_code 292 = .ok (.lastore, 1) := by decide +kernel
theorem d_Z_endNumber_293 : decode prog_8_method_15_code 293 = .ok (.aload_n 0, 1) := by decide +kernel
theorem d_Z_endNumber_294 : decode prog_8_method_15_code 294 = .ok (.getfield (69), 3) := by decide +kernel
theorem d_Z_endNumber_297 : decode prog_8_method_15_code 297 = .ok (.aload_n 0, 1) := by decide +kernel
theorem d_Z_endNumber_298 : decode prog_8_method_15_code 298 = .ok (.getfield (192), 3) := by decide +kernel
theorem d_Z_endNumber_301 : decode prog_8_method_15_code 301 = .ok (.aload_n 0, 1) := by decide +kernel
theorem d_Z_endNumber_302 : decode prog_8_method_15_code 302 = .ok (.getfield (224), 3) := by decide +kernel
theorem d_Z_endNumber_305 : decode prog_8_method_15_code 305 = .ok (.iastore, 1) := by decide +kernel
theorem d_Z_endNumber_306 : decode prog_8_method_15_code 306 = .ok (.aload_n 0, 1) := by decide +kernel
theorem d_Z_endNumber_307 : decode prog_8_method_15_code 307 = .ok (.dup, 1) := by decide +kernel
theorem d_Z_endNumber_308 : decode prog_8_method_15_code 308 = .ok (.getfield (192), 3) := by decide +kernel
theorem d_Z_endNumber_311 : decode prog_8_method_15_code 311 = .ok (.iconst 1, 1) := by decide +kernel
theorem d_Z_endNumber_312 : decode prog_8_method_15_code 312 = .ok (.iadd, 1) := by decide +kernel
theorem d_Z_endNumber_313 : decode prog_8_method_15_code 313 = .ok (.putfield (192), 3) := by decide +kernel
theorem d_Z_endNumber_316 : decode prog_8_method_15_code 316 = .ok (.aload_n 0, 1) := by decide +kernel
theorem d_Z_endNumber_317 : decode prog_8_method_15_code 317 = .ok (.bipush (47), 2) := by decide +kernel
theorem d_Z_endNumber_319 : decode prog_8_method_15_code 319 = .ok (.putfield (168), 3) := by decide +kernel
theorem d_Z_endNumber_322 : decode prog_8_method_15_code 322 = .ok (.goto (69), 3) := by decide +kernel
theorem d_Z_endNumber_325 : decode prog_8_method_15_code 325 = .ok (.aload_n 0, 1) := by decide +kernel
theorem d_Z_endNumber_326 : decode prog_8_method_15_code 326 = .ok (.getfield (54), 3) := by decide +kernel
theorem d_Z_endNumber_329 : decode prog_8_method_15_code 329 = .ok (.iload_n 1, 1) := by decide +kernel
theorem d_Z_endNumber_330 : decode prog_8_method_15_code 330 = .ok (.aload_n 0, 1) := by decide +kernel
theorem d_Z_endNumber_331 : decode prog_8_method_15_code 331 = .ok (.getfield (207), 3) := by decide +kernel
theorem d_Z_endNumber_334 : decode prog_8_method_15_code 334 = .ok (.lastore, 1) := by decide +kernel
theorem d_Z_endNumber_335 : decode prog_8_method_15_code 335 = .ok (.aload_n 0, 1) := by decide +kernel
theorem d_Z_endNumber_336 : decode prog_8_method_15_code 336 = .ok (.getfield (57), 3) := by decide +kernel
theorem d_Z_endNumber_339 : decode prog_8_method_15_code 339 = .ok (.iload_n 1, 1) := by decide +kernel
theorem d_Z_endNumber_340 : decode prog_8_method_15_code 340 = .ok (.aload_n 0, 1) := by decide +kernel
theorem d_Z_endNumber_341 : decode prog_8_method_15_code 341 = .ok (.getfield (224), 3) := by decide +kernel
theorem d_Z_endNumber_344 : decode prog_8_method_15_code 344 = .ok (.iastore, 1) := by decide +kernel
theorem d_Z_endNumber_345 : decode prog_8_method_15_code 345 = .ok (.aload_n 0, 1) := by decide +kernel
theorem d_Z_endNumber_346 : decode prog_8_method_15_code 346 = .ok (.getfield (39), 3) := by decide +kernel
theorem d_Z_endNumber_349 : decode prog_8_method_15_code 349 = .ok (.iload_n 1, 1) := by decide +kernel
theorem d_Z_endNumber_350 : decode prog_8_method_15_code 350 = .ok (.aload_n 0, 1) := by decide +kernel
theorem d_Z_endNumber_351 : decode prog_8_method_15_code 351 = .ok (.getfield (168), 3) := by decide +kernel
theorem d_Z_endNumber_354 : decode prog_8_method_15_code 354 = .ok (.bipush (43), 2) := by decide +kernel
theorem d_Z_endNumber_356 : decode prog_8_method_15_code 356 = .ok (.if_icmp .ne (8), 3) := by decide +kernel
theorem d_Z_endNumber_359 : decode prog_8_method_15_code 359 = .ok (.bipush (8), 2) := by decide +kernel
theorem d_Z_endNumber_361 : decode prog_8_method_15_code 361 = .ok (.goto (9), 3) := by decide +kernel
theorem d_Z_endNumber_364 : decode prog_8_method_15_code 364 = .ok (.aload_n 0, 1) := by decide +kernel
theorem d_Z_endNumber_365 : decode prog_8_method_15_code 365 = .ok (.getfield (39), 3) := by decide +kernel
theorem d_Z_endNumber_368 : decode prog_8_method_15_code 368 = .ok (.iload_n 1, 1) := by decide +kernel
theorem d_Z_endNumber_369 : decode prog_8_method_15_code 369 = .ok (.iaload, 1) := by decide +kernel
theorem d_Z_endNumber_370 : decode prog_8_method_15_code 370 = .ok (.iastore, 1) := by decide +kernel
theorem d_Z_endNumber_371 : decode prog_8_method_15_code 371 = .ok (.aload_n 0, 1) := by decide +kernel
theorem d_Z_endNumber_372 : decode prog_8_method_15_code 372 = .ok (.aload_n 0, 1) := by decide +kernel
theorem d_Z_endNumber_373 : decode prog_8_method_15_code 373 = .ok (.getfield (168), 3) := by decide +kernel
theorem d_Z_endNumber_376 : decode prog_8_method_15_code 376 = .ok (.bipush (11), 2) := by decide +kernel
theorem d_Z_endNumber_378 : decode prog_8_method_15_code 378 = .ok (.if_icmp .ne (8), 3) := by decide +kernel
theorem d_Z_endNumber_381 : decode prog_8_method_15_code 381 = .ok (.bipush (12), 2) := by decide +kernel
theorem d_Z_endNumber_383 : decode prog_8_method_15_code 383 = .ok (.goto (5), 3) := by decide +kernel
theorem d_Z_endNumber_386 : decode prog_8_method_15_code 386 = .ok (.bipush (49), 2) := by decide +kernel
theorem d_Z_endNumber_388 : decode prog_8_method_15_code 388 = .ok (.putfield (168), 3) := by decide +kernel
theorem d_Z_endNumber_391 : decode prog_8_method_15_code 391 = .ok (.return_, 1) := by decide +kernel
theorem fd_Z_174 : ax_fd "CipherNotationModel" 174 6 11 := ⟨nC6, nT6, 73, nY6, rfl, nW6, by decide, nw_4 148 (by decide +kernel) rfl, nO6, nA6⟩
theorem fd_Z_207 : ax_fd "CipherNotationModel" 207 6 9 := ⟨nC6, nT6, 73, nY6, rfl, nW6, by decide, nw_4 146 (by decide +kernel) rfl, nO6, nA6⟩
theorem fd_Z_24 : ax_fd "CipherNotationModel" 24 6 13 := ⟨nC6, nT6, 73, nY6, rfl, nW6, by decide, nw_4 150 (by decide +kernel) rfl, nO6, nA6⟩
theorem fd_Z_224 : ax_fd "CipherNotationModel" 224 6 10 := ⟨nC6, nT6, 73, nY6, rfl, nW6, by decide, nw_4 147 (by decide +kernel) rfl, nO6, nA6⟩
theorem fd_Z_30 : ax_fd "CipherNotationModel" 30 6 17 := ⟨nC6, nT6, 73, nY6, rfl, nW6, by decide, nw_4 154 (by decide +kernel) rfl, nO6, nA6⟩
theorem fd_Z_177 : ax_fd "CipherNotationModel" 177 6 14 := ⟨nC6, nT6, 73, nY6, rfl, nW6, by decide, nw_4 151 (by decide +kernel) rfl, nO6, nA6⟩
theorem fd_Z_33 : ax_fd "CipherNotationModel" 33 6 18 := ⟨nC6, nT6, 73, nY6, rfl, nW6, by decide, nw_4 155 (by decide +kernel) rfl, nO6, nA6⟩
set_option maxRecDepth 100000 in
theorem cw_Z_247 : ax_cw "CipherNotationModel" 247 y_Z_complete (.code y_Z_complete prog_8_method_22_code 1 none) 0 := ⟨nw_5 165 (by decide +kernel) rfl, nw_1 7 (by decide +kernel) rfl, nw_5 168 rfl rfl, by decide +kernel, by decide +kernel⟩
theorem im_Z_complete : Cond.instanceMethod y_Z_complete ∈ ax_tbl := nw_5 167 (by decide +kernel) rfl
theorem se_Z_complete : Cond.selects y_Z_complete.cls y_Z_complete y_Z_complete ∈ ax_tbl := nw_sel 50 (by decide +kernel) (by decide +kernel)
set_option maxRecDepth 100000 in
theorem cw_Z_250 : ax_cw "CipherNotationModel" 250 y_Z_addTerm (.code y_Z_addTerm prog_8_method_26_code 5 none) 3 := ⟨nw_5 169 (by decide +kernel) rfl, nw_1 7 (by decide +kernel) rfl, nw_5 172 rfl rfl, by decide +kernel, by decide +kernel⟩
theorem im_Z_addTerm : Cond.instanceMethod y_Z_addTerm ∈ ax_tbl := nw_5 171 (by decide +kernel) rfl
theorem se_Z_addTerm : Cond.selects y_Z_addTerm.cls y_Z_addTerm y_Z_addTerm ∈ ax_tbl := nw_sel 51 (by decide +kernel) (by decide +kernel)
theorem fd_Z_66 : ax_fd "CipherNotationModel" 66 6 34 := ⟨nC6, nT6, 73, nY6, rfl, nW6, by decide, nw_4 171 (by decide +kernel) rfl, nO6, nA6⟩
theorem fd_Z_192 : ax_fd "CipherNotationModel" 192 6 33 := ⟨nC6, nT6, 73, nY6, rfl, nW6, by decide, nw_4 170 (by decide +kernel) rfl, nO6, nA6⟩
theorem fd_Z_69 : ax_fd "CipherNotationModel" 69 6 35 := ⟨nC6, nT6, 73, nY6, rfl, nW6, by decide, nw_4 172 (by decide +kernel) rfl, nO6, nA6⟩
theorem fd_Z_54 : ax_fd "CipherNotationModel" 54 6 29 := ⟨nC6, nT6, 73, nY6, rfl, nW6, by decide, nw_4 166 (by decide +kernel) rfl, nO6, nA6⟩
theorem fd_Z_57 : ax_fd "CipherNotationModel" 57 6 30 := ⟨nC6, nT6, 73, nY6, rfl, nW6, by decide, nw_4 167 (by decide +kernel) rfl, nO6, nA6⟩
set_option maxRecDepth 100000 in
theorem cw_Z_239 : ax_cw "CipherNotationModel" 239 y_Z_printNumber (.code y_Z_printNumber prog_8_method_10_code 5 none) 1 := ⟨nw_5 152 (by decide +kernel) rfl, nw_1 7 (by decide +kernel) rfl, nw_5 155 rfl rfl, by decide +kernel, by decide +kernel⟩
theorem im_Z_printNumber : Cond.instanceMethod y_Z_printNumber ∈ ax_tbl := nw_5 154 (by decide +kernel) rfl
theorem se_Z_printNumber : Cond.selects y_Z_printNumber.cls y_Z_printNumber y_Z_printNumber ∈ ax_tbl := nw_sel 47 (by decide +kernel) (by decide +kernel)
def f_Z_endNumber (F : Nat) (s : ax_σ) : Option (ax_σ) :=
  ax_let (ax_wI s 0 38 8 (0 : Int32)) (fun s1 =>
    Option.bind (
      Option.bind (
        if (s1.1 0 38 7) = (5 : Int32) then
          some true
        else
          if (s1.1 0 38 7) = (7 : Int32) then
            some true
          else
            some false) (fun w6 => bif w6 then
        some s1
      else
        Option.bind (f_Z_printNumber F (s1.2 0 38 9) s1) (fun s4 =>
          some s4))) (fun s7 =>
      if (s7.1 0 38 7) = (0 : Int32) then
        bif ax_in (s7.1 0 38 11) 3 then
        ax_let (ax_wL s7 0 41 ((s7.1 0 38 11)).toNatClampNeg (s7.2 0 38 9)) (fun s9 =>
          bif ax_in (s9.1 0 38 11) 3 then
          ax_let (ax_wI s9 0 42 ((s9.1 0 38 11)).toNatClampNeg (s9.1 0 38 10)) (fun s11 =>
            ax_let (ax_wI s11 0 38 11 ((s11.1 0 38 11) + (1 : Int32))) (fun s12 =>
              ax_let (ax_wI s12 0 38 7 (1 : Int32)) (fun s13 =>
                some (s13))))
          else none)
        else none
      else
      if (s7.1 0 38 7) = (5 : Int32) then
        Option.bind (
          if (s7.1 0 38 7) = (7 : Int32) then
            some (1 : Int32)
          else
            some (0 : Int32)) (fun v15 =>
          bif ax_in ((((2 : Int32) * (s7.1 0 38 14)) - (2 : Int32)) + v15) 4 then
          ax_let (ax_wL s7 0 44 (((((2 : Int32) * (s7.1 0 38 14)) - (2 : Int32)) + v15)).toNatClampNeg (s7.2 0 38 9)) (fun s17 =>
            Option.bind (
              if (s17.1 0 38 7) = (7 : Int32) then
                some (1 : Int32)
              else
                some (0 : Int32)) (fun v19 =>
              bif ax_in ((((2 : Int32) * (s17.1 0 38 14)) - (2 : Int32)) + v19) 4 then
              ax_let (ax_wI s17 0 45 (((((2 : Int32) * (s17.1 0 38 14)) - (2 : Int32)) + v19)).toNatClampNeg (s17.1 0 38 10)) (fun s21 =>
                ax_let (ax_wI s21 0 38 7 ((s21.1 0 38 7) + (1 : Int32))) (fun s22 =>
                  some (s22)))
              else none))
          else none)
      else
      if (s7.1 0 38 7) = (7 : Int32) then
        Option.bind (
          if (s7.1 0 38 7) = (7 : Int32) then
            some (1 : Int32)
          else
            some (0 : Int32)) (fun v24 =>
          bif ax_in ((((2 : Int32) * (s7.1 0 38 14)) - (2 : Int32)) + v24) 4 then
          ax_let (ax_wL s7 0 44 (((((2 : Int32) * (s7.1 0 38 14)) - (2 : Int32)) + v24)).toNatClampNeg (s7.2 0 38 9)) (fun s26 =>
            Option.bind (
              if (s26.1 0 38 7) = (7 : Int32) then
                some (1 : Int32)
              else
                some (0 : Int32)) (fun v28 =>
              bif ax_in ((((2 : Int32) * (s26.1 0 38 14)) - (2 : Int32)) + v28) 4 then
              ax_let (ax_wI s26 0 45 (((((2 : Int32) * (s26.1 0 38 14)) - (2 : Int32)) + v28)).toNatClampNeg (s26.1 0 38 10)) (fun s30 =>
                ax_let (ax_wI s30 0 38 7 ((s30.1 0 38 7) + (1 : Int32))) (fun s31 =>
                  some (s31)))
              else none))
          else none)
      else
      if (s7.1 0 38 7) = (20 : Int32) then
        Option.bind (f_Z_emit (4 : Int32) (s7.2 0 38 9) (s7.1 0 38 10) s7) (fun s32 =>
          Option.bind (f_Z_complete F s32) (fun s34 =>
            some (s34)))
      else
      if (s7.1 0 38 7) = (22 : Int32) then
        ax_let (ax_wI s7 0 38 7 (23 : Int32)) (fun s36 =>
          some (s36))
      else
      if (s7.1 0 38 7) = (31 : Int32) then
        Option.bind (f_Z_addTerm (s7.2 0 38 9) (-1 : Int32) (s7.1 0 38 10) s7) (fun s37 =>
          ax_let (ax_wI s37 0 38 7 (32 : Int32)) (fun s39 =>
            some (s39)))
      else
      if (s7.1 0 38 7) = (46 : Int32) then
        bif ax_in (s7.1 0 38 33) 240 then
        ax_let (ax_wL s7 0 56 ((s7.1 0 38 33)).toNatClampNeg (s7.2 0 38 9)) (fun s41 =>
          bif ax_in (s41.1 0 38 33) 240 then
          ax_let (ax_wI s41 0 57 ((s41.1 0 38 33)).toNatClampNeg (s41.1 0 38 10)) (fun s43 =>
            ax_let (ax_wI s43 0 38 33 ((s43.1 0 38 33) + (1 : Int32))) (fun s44 =>
              ax_let (ax_wI s44 0 38 7 (47 : Int32)) (fun s45 =>
                some (s45))))
          else none)
        else none
      else
        bif ax_in ((s7.1 0 38 22) - (1 : Int32)) 240 then
        ax_let (ax_wL s7 0 52 (((s7.1 0 38 22) - (1 : Int32))).toNatClampNeg (s7.2 0 38 9)) (fun s47 =>
          bif ax_in ((s7.1 0 38 22) - (1 : Int32)) 240 then
          ax_let (ax_wI s47 0 53 (((s7.1 0 38 22) - (1 : Int32))).toNatClampNeg (s47.1 0 38 10)) (fun s49 =>
            Option.bind (
              if (s49.1 0 38 7) = (43 : Int32) then
                some (8 : Int32)
              else
                bif ax_in ((s7.1 0 38 22) - (1 : Int32)) 240 then
                some (s49.1 0 47 (((s7.1 0 38 22) - (1 : Int32))).toNatClampNeg)
                else none) (fun v52 =>
              bif ax_in ((s7.1 0 38 22) - (1 : Int32)) 240 then
              ax_let (ax_wI s49 0 47 (((s7.1 0 38 22) - (1 : Int32))).toNatClampNeg v52) (fun s54 =>
                Option.bind (
                  if (s54.1 0 38 7) = (11 : Int32) then
                    some (12 : Int32)
                  else
                    some (49 : Int32)) (fun v56 =>
                  ax_let (ax_wI s54 0 38 7 v56) (fun s57 =>
                    some (s57))))
              else none))
          else none)
        else none))
set_option maxHeartbeats 4000000 in
set_option maxRecDepth 100000 in
theorem t_Z_endNumber {l : Launch} {D : va_G} {cA : Nat → ClassId} {ad : Nat → Nat → Nat} {al : List (Nat × Nat)} {θ : ax_Θ} {ρ : ax_ρ} {F : Nat} (h0 : ax_M0 al)  {s : ax_σ} {s0 : ax_σ} (h : f_Z_endNumber F s = some s0) : ax_T l D cA ad al θ y_Z_endNumber (.code y_Z_endNumber prog_8_method_15_code 2 none) 2 [.inr (0, 38)] (ax_m s ρ) none (ax_m s0 ρ) := by
  refine ax_T_of (own := "CipherNotationModel") (by decide) rfl (Nat.le_of_ble_eq_true rfl) [(0, .inr (0, 38))] rfl ?_
  intro G hA
  have hB := hA.B
  have hK := hB.K
  have hal := hB.la
  unfold f_Z_endNumber at h
  refine ax_bk hK (ax_fc (ax_v_ld (ax_r_aload_n (i := 0) d_Z_endNumber_0 rfl)) (ax_fc (ax_v_pu (ax_r_iconst (v := 0) d_Z_endNumber_1 (by decide))) (ax_fc (ax_w_pf (tc := 0) hal d_Z_endNumber_2 fp_Z_171 rfl) ax_fn))) (y := (5, [(0, .inr (0, 38))], [], ax_m (ax_wI s 0 38 8 (0 : Int32)) ρ)) rfl ⟨trivial, trivial, (h0 38 rfl), trivial⟩ ?_
  refine ax_lt (Q := fun ςς => ax_R G 2 0 0 (5, [(0, .inr (0, 38))], [], ax_m (ςς) ρ)) h (fun s1 h => ?_)
  refine ax_bk hK (ax_fc (ax_v_ld (ax_r_aload_n (i := 0) d_Z_endNumber_5 rfl)) (ax_fc (ax_w_gf (e := none) hal d_Z_endNumber_6 fd_Z_168) (ax_fc (ax_v_pu (ax_r_iconst (v := 5) d_Z_endNumber_9 (by decide))) ax_fn))) (y := (10, [(0, .inr (0, 38))], [.inl (.int ((5 : Int32))), .inl (.int ((s1.1 0 38 7)))], ax_m (s1) ρ)) rfl ⟨trivial, (h0 38 rfl), trivial, trivial⟩ ?_
  obtain ⟨w59, hw59, h⟩ := ax_bd h
  have KEw59 : ∀ (s7 : ax_σ), w59 = s7 → ax_R G 2 0 0 (30, [(0, .inr (0, 38))], [], ax_m (s7) ρ) := by
    intro s7 e9
    subst w59
    try dsimp only at h
    refine ax_bk hK (ax_fc (ax_v_ld (ax_r_aload_n (i := 0) d_Z_endNumber_30 rfl)) (ax_fc (ax_w_gf (e := none) hal d_Z_endNumber_31 fd_Z_186) (ax_fc (ax_v_pu (ax_r_iconst (v := 1) d_Z_endNumber_34 (by decide))) (ax_fc (ax_v_pu (ax_r_isub d_Z_endNumber_35)) (ax_fc (ax_v_so (ax_r_istore_n (i := 1) d_Z_endNumber_36 rfl)) (ax_fc (ax_v_ld (ax_r_aload_n (i := 0) d_Z_endNumber_37 rfl)) (ax_fc (ax_w_gf (e := none) hal d_Z_endNumber_38 fd_Z_168) ax_fn))))))) (y := (41, [(1, .inl (.int (((s7.1 0 38 22) - (1 : Int32))))), (0, .inr (0, 38))], [.inl (.int ((s7.1 0 38 7)))], ax_m (s7) ρ)) rfl ⟨trivial, (h0 38 rfl), trivial, trivial, trivial, trivial, (h0 38 rfl), trivial⟩ ?_
    refine ax_lsw (d := 325) (ks := [(0, 108), (5, 152), (7, 152), (20, 229), (22, 249), (31, 258), (46, 280)]) hK d_Z_endNumber_41 (by decide) (by decide) (by decide) ?_
    refine And.intro (fun c58 => ?_) (fun c58 => ?_)
    · replace h := ax_it c58 h
      change ax_R G 2 0 0 (108, [(1, .inl (.int (((s7.1 0 38 22) - (1 : Int32))))), (0, .inr (0, 38))], [], ax_m (s7) ρ)
      obtain ⟨b8, h⟩ := ax_gd h
      refine ax_bk hK (ax_fc (ax_v_ld (ax_r_aload_n (i := 0) d_Z_endNumber_108 rfl)) (ax_fc (ax_w_gf (e := none) hal d_Z_endNumber_109 fd_Z_20) (ax_fc (ax_v_ld (ax_r_aload_n (i := 0) d_Z_endNumber_112 rfl)) (ax_fc (ax_w_gf (e := none) hal d_Z_endNumber_113 fd_Z_174) (ax_fc (ax_v_ld (ax_r_aload_n (i := 0) d_Z_endNumber_116 rfl)) (ax_fc (ax_w_gf (e := none) hal d_Z_endNumber_117 fd_Z_207) (ax_fc (ax_w_last hal d_Z_endNumber_120) ax_fn))))))) (y := (121, [(1, .inl (.int (((s7.1 0 38 22) - (1 : Int32))))), (0, .inr (0, 38))], [], ax_m (ax_wL s7 0 41 ((s7.1 0 38 11)).toNatClampNeg (s7.2 0 38 9)) ρ)) rfl ⟨trivial, (h0 38 rfl), trivial, (h0 38 rfl), trivial, (h0 38 rfl), ⟨(h0 41 rfl), ax_inp b8⟩, trivial⟩ ?_
      refine ax_lt (Q := fun ςς => ax_R G 2 0 0 (121, [(1, .inl (.int (((s7.1 0 38 22) - (1 : Int32))))), (0, .inr (0, 38))], [], ax_m (ςς) ρ)) h (fun s9 h => ?_)
      obtain ⟨b10, h⟩ := ax_gd h
      refine ax_bk hK (ax_fc (ax_v_ld (ax_r_aload_n (i := 0) d_Z_endNumber_121 rfl)) (ax_fc (ax_w_gf (e := none) hal d_Z_endNumber_122 fd_Z_24) (ax_fc (ax_v_ld (ax_r_aload_n (i := 0) d_Z_endNumber_125 rfl)) (ax_fc (ax_w_gf (e := none) hal d_Z_endNumber_126 fd_Z_174) (ax_fc (ax_v_ld (ax_r_aload_n (i := 0) d_Z_endNumber_129 rfl)) (ax_fc (ax_w_gf (e := none) hal d_Z_endNumber_130 fd_Z_224) (ax_fc (ax_w_iast hal d_Z_endNumber_133) ax_fn))))))) (y := (134, [(1, .inl (.int (((s7.1 0 38 22) - (1 : Int32))))), (0, .inr (0, 38))], [], ax_m (ax_wI s9 0 42 ((s9.1 0 38 11)).toNatClampNeg (s9.1 0 38 10)) ρ)) rfl ⟨trivial, (h0 38 rfl), trivial, (h0 38 rfl), trivial, (h0 38 rfl), ⟨(h0 42 rfl), ax_inp b10⟩, trivial⟩ ?_
      refine ax_lt (Q := fun ςς => ax_R G 2 0 0 (134, [(1, .inl (.int (((s7.1 0 38 22) - (1 : Int32))))), (0, .inr (0, 38))], [], ax_m (ςς) ρ)) h (fun s11 h => ?_)
      refine ax_bk hK (ax_fc (ax_v_ld (ax_r_aload_n (i := 0) d_Z_endNumber_134 rfl)) (ax_fc (ax_v_pu (ax_r_dup d_Z_endNumber_135)) (ax_fc (ax_w_gf (e := none) hal d_Z_endNumber_136 fd_Z_174) (ax_fc (ax_v_pu (ax_r_iconst (v := 1) d_Z_endNumber_139 (by decide))) (ax_fc (ax_v_pu (ax_r_iadd d_Z_endNumber_140)) (ax_fc (ax_w_pf (tc := 0) hal d_Z_endNumber_141 fp_Z_174 rfl) ax_fn)))))) (y := (144, [(1, .inl (.int (((s7.1 0 38 22) - (1 : Int32))))), (0, .inr (0, 38))], [], ax_m (ax_wI s11 0 38 11 ((s11.1 0 38 11) + (1 : Int32))) ρ)) rfl ⟨trivial, trivial, (h0 38 rfl), trivial, trivial, (h0 38 rfl), trivial⟩ ?_
      refine ax_lt (Q := fun ςς => ax_R G 2 0 0 (144, [(1, .inl (.int (((s7.1 0 38 22) - (1 : Int32))))), (0, .inr (0, 38))], [], ax_m (ςς) ρ)) h (fun s12 h => ?_)
      refine ax_bk hK (ax_fc (ax_v_ld (ax_r_aload_n (i := 0) d_Z_endNumber_144 rfl)) (ax_fc (ax_v_pu (ax_r_iconst (v := 1) d_Z_endNumber_145 (by decide))) (ax_fc (ax_w_pf (tc := 0) hal d_Z_endNumber_146 fp_Z_168 rfl) ax_fn))) (y := (149, [(1, .inl (.int (((s7.1 0 38 22) - (1 : Int32))))), (0, .inr (0, 38))], [], ax_m (ax_wI s12 0 38 7 (1 : Int32)) ρ)) rfl ⟨trivial, trivial, (h0 38 rfl), trivial⟩ ?_
      refine ax_lt (Q := fun ςς => ax_R G 2 0 0 (149, [(1, .inl (.int (((s7.1 0 38 22) - (1 : Int32))))), (0, .inr (0, 38))], [], ax_m (ςς) ρ)) h (fun s13 h => ?_)
      refine ax_bk hK (ax_fc (ax_v_go (tgt := 391) d_Z_endNumber_149 (by decide)) ax_fn) (y := (391, [(1, .inl (.int (((s7.1 0 38 22) - (1 : Int32))))), (0, .inr (0, 38))], [], ax_m (s13) ρ)) rfl ⟨trivial, trivial⟩ ?_
      cases h
      exact ax_vret hA d_Z_endNumber_391
    replace h := ax_if c58 h
    refine And.intro (fun c58 => ?_) (fun c58 => ?_)
    · replace h := ax_it c58 h
      change ax_R G 2 0 0 (152, [(1, .inl (.int (((s7.1 0 38 22) - (1 : Int32))))), (0, .inr (0, 38))], [], ax_m (s7) ρ)
      refine ax_bk hK (ax_fc (ax_v_ld (ax_r_aload_n (i := 0) d_Z_endNumber_152 rfl)) (ax_fc (ax_w_gf (e := none) hal d_Z_endNumber_153 fd_Z_30) (ax_fc (ax_v_pu (ax_r_iconst (v := 2) d_Z_endNumber_156 (by decide))) (ax_fc (ax_v_ld (ax_r_aload_n (i := 0) d_Z_endNumber_157 rfl)) (ax_fc (ax_w_gf (e := none) hal d_Z_endNumber_158 fd_Z_177) (ax_fc (ax_v_pu (ax_r_imul d_Z_endNumber_161)) (ax_fc (ax_v_pu (ax_r_iconst (v := 2) d_Z_endNumber_162 (by decide))) (ax_fc (ax_v_pu (ax_r_isub d_Z_endNumber_163)) (ax_fc (ax_v_ld (ax_r_aload_n (i := 0) d_Z_endNumber_164 rfl)) (ax_fc (ax_w_gf (e := none) hal d_Z_endNumber_165 fd_Z_168) (ax_fc (ax_v_pu (ax_r_bipush (v := 7) d_Z_endNumber_168 (by decide))) ax_fn))))))))))) (y := (170, [(1, .inl (.int (((s7.1 0 38 22) - (1 : Int32))))), (0, .inr (0, 38))], [.inl (.int ((7 : Int32))), .inl (.int ((s7.1 0 38 7))), .inl (.int ((((2 : Int32) * (s7.1 0 38 14)) - (2 : Int32)))), .inr (0, 44)], ax_m (s7) ρ)) rfl ⟨trivial, (h0 38 rfl), trivial, trivial, (h0 38 rfl), trivial, trivial, trivial, trivial, (h0 38 rfl), trivial, trivial⟩ ?_
      obtain ⟨w60, hw60, h⟩ := ax_bd h
      have KEw60 : ∀ (v15 : Int32), w60 = v15 → ax_R G 2 0 0 (178, [(0, .inr (0, 38))], [.inl (.int (v15)), .inl (.int ((((2 : Int32) * (s7.1 0 38 14)) - (2 : Int32)))), .inr (0, 44)], ax_m (s7) ρ) := by
        intro v15 e9
        subst w60
        try dsimp only at h
        obtain ⟨b16, h⟩ := ax_gd h
        refine ax_bk hK (ax_fc (ax_v_pu (ax_r_iadd d_Z_endNumber_178)) (ax_fc (ax_v_ld (ax_r_aload_n (i := 0) d_Z_endNumber_179 rfl)) (ax_fc (ax_w_gf (e := none) hal d_Z_endNumber_180 fd_Z_207) (ax_fc (ax_w_last hal d_Z_endNumber_183) ax_fn)))) (y := (184, [(0, .inr (0, 38))], [], ax_m (ax_wL s7 0 44 (((((2 : Int32) * (s7.1 0 38 14)) - (2 : Int32)) + v15)).toNatClampNeg (s7.2 0 38 9)) ρ)) rfl ⟨trivial, trivial, (h0 38 rfl), ⟨(h0 44 rfl), ax_inp b16⟩, trivial⟩ ?_
        refine ax_lt (Q := fun ςς => ax_R G 2 0 0 (184, [(0, .inr (0, 38))], [], ax_m (ςς) ρ)) h (fun s17 h => ?_)
        refine ax_bk hK (ax_fc (ax_v_ld (ax_r_aload_n (i := 0) d_Z_endNumber_184 rfl)) (ax_fc (ax_w_gf (e := none) hal d_Z_endNumber_185 fd_Z_33) (ax_fc (ax_v_pu (ax_r_iconst (v := 2) d_Z_endNumber_188 (by decide))) (ax_fc (ax_v_ld (ax_r_aload_n (i := 0) d_Z_endNumber_189 rfl)) (ax_fc (ax_w_gf (e := none) hal d_Z_endNumber_190 fd_Z_177) (ax_fc (ax_v_pu (ax_r_imul d_Z_endNumber_193)) (ax_fc (ax_v_pu (ax_r_iconst (v := 2) d_Z_endNumber_194 (by decide))) (ax_fc (ax_v_pu (ax_r_isub d_Z_endNumber_195)) (ax_fc (ax_v_ld (ax_r_aload_n (i := 0) d_Z_endNumber_196 rfl)) (ax_fc (ax_w_gf (e := none) hal d_Z_endNumber_197 fd_Z_168) (ax_fc (ax_v_pu (ax_r_bipush (v := 7) d_Z_endNumber_200 (by decide))) ax_fn))))))))))) (y := (202, [(0, .inr (0, 38))], [.inl (.int ((7 : Int32))), .inl (.int ((s17.1 0 38 7))), .inl (.int ((((2 : Int32) * (s17.1 0 38 14)) - (2 : Int32)))), .inr (0, 45)], ax_m (s17) ρ)) rfl ⟨trivial, (h0 38 rfl), trivial, trivial, (h0 38 rfl), trivial, trivial, trivial, trivial, (h0 38 rfl), trivial, trivial⟩ ?_
        obtain ⟨w61, hw61, h⟩ := ax_bd h
        have KEw61 : ∀ (v19 : Int32), w61 = v19 → ax_R G 2 0 0 (210, [(0, .inr (0, 38))], [.inl (.int (v19)), .inl (.int ((((2 : Int32) * (s17.1 0 38 14)) - (2 : Int32)))), .inr (0, 45)], ax_m (s17) ρ) := by
          intro v19 e9
          subst w61
          try dsimp only at h
          obtain ⟨b20, h⟩ := ax_gd h
          refine ax_bk hK (ax_fc (ax_v_pu (ax_r_iadd d_Z_endNumber_210)) (ax_fc (ax_v_ld (ax_r_aload_n (i := 0) d_Z_endNumber_211 rfl)) (ax_fc (ax_w_gf (e := none) hal d_Z_endNumber_212 fd_Z_224) (ax_fc (ax_w_iast hal d_Z_endNumber_215) ax_fn)))) (y := (216, [(0, .inr (0, 38))], [], ax_m (ax_wI s17 0 45 (((((2 : Int32) * (s17.1 0 38 14)) - (2 : Int32)) + v19)).toNatClampNeg (s17.1 0 38 10)) ρ)) rfl ⟨trivial, trivial, (h0 38 rfl), ⟨(h0 45 rfl), ax_inp b20⟩, trivial⟩ ?_
          refine ax_lt (Q := fun ςς => ax_R G 2 0 0 (216, [(0, .inr (0, 38))], [], ax_m (ςς) ρ)) h (fun s21 h => ?_)
          refine ax_bk hK (ax_fc (ax_v_ld (ax_r_aload_n (i := 0) d_Z_endNumber_216 rfl)) (ax_fc (ax_v_pu (ax_r_dup d_Z_endNumber_217)) (ax_fc (ax_w_gf (e := none) hal d_Z_endNumber_218 fd_Z_168) (ax_fc (ax_v_pu (ax_r_iconst (v := 1) d_Z_endNumber_221 (by decide))) (ax_fc (ax_v_pu (ax_r_iadd d_Z_endNumber_222)) (ax_fc (ax_w_pf (tc := 0) hal d_Z_endNumber_223 fp_Z_168 rfl) ax_fn)))))) (y := (226, [(0, .inr (0, 38))], [], ax_m (ax_wI s21 0 38 7 ((s21.1 0 38 7) + (1 : Int32))) ρ)) rfl ⟨trivial, trivial, (h0 38 rfl), trivial, trivial, (h0 38 rfl), trivial⟩ ?_
          refine ax_lt (Q := fun ςς => ax_R G 2 0 0 (226, [(0, .inr (0, 38))], [], ax_m (ςς) ρ)) h (fun s22 h => ?_)
          refine ax_bk hK (ax_fc (ax_v_go (tgt := 391) d_Z_endNumber_226 (by decide)) ax_fn) (y := (391, [(0, .inr (0, 38))], [], ax_m (s22) ρ)) rfl ⟨trivial, trivial⟩ ?_
          cases h
          exact ax_vret hA d_Z_endNumber_391
        clear h
        have h := hw61
        refine ax_ic_ne (tgt := 209) hK d_Z_endNumber_202 (by decide) (fun c18 => ?_) (fun c18 => ?_)
        · replace h := ax_if c18 h
          refine ax_bk hK (ax_fc (ax_v_pu (ax_r_iconst (v := 0) d_Z_endNumber_209 (by decide))) ax_fn) (y := (210, [(0, .inr (0, 38))], [.inl (.int ((0 : Int32))), .inl (.int ((((2 : Int32) * (s17.1 0 38 14)) - (2 : Int32)))), .inr (0, 45)], ax_m (s17) ρ)) rfl ⟨trivial, trivial⟩ ?_
          cases h
          exact ax_Lsub [0] rfl (KEw61 _ rfl)
        · replace h := ax_it c18 h
          refine ax_bk hK (ax_fc (ax_v_pu (ax_r_iconst (v := 1) d_Z_endNumber_205 (by decide))) (ax_fc (ax_v_go (tgt := 210) d_Z_endNumber_206 (by decide)) ax_fn)) (y := (210, [(0, .inr (0, 38))], [.inl (.int ((1 : Int32))), .inl (.int ((((2 : Int32) * (s17.1 0 38 14)) - (2 : Int32)))), .inr (0, 45)], ax_m (s17) ρ)) rfl ⟨trivial, trivial, trivial⟩ ?_
          cases h
          exact ax_Lsub [0] rfl (KEw61 _ rfl)
      clear h
      have h := hw60
      refine ax_ic_ne (tgt := 177) hK d_Z_endNumber_170 (by decide) (fun c14 => ?_) (fun c14 => ?_)
      · replace h := ax_if c14 h
        refine ax_bk hK (ax_fc (ax_v_pu (ax_r_iconst (v := 0) d_Z_endNumber_177 (by decide))) ax_fn) (y := (178, [(1, .inl (.int (((s7.1 0 38 22) - (1 : Int32))))), (0, .inr (0, 38))], [.inl (.int ((0 : Int32))), .inl (.int ((((2 : Int32) * (s7.1 0 38 14)) - (2 : Int32)))), .inr (0, 44)], ax_m (s7) ρ)) rfl ⟨trivial, trivial⟩ ?_
        cases h
        exact ax_Lsub [1] rfl (KEw60 _ rfl)
      · replace h := ax_it c14 h
        refine ax_bk hK (ax_fc (ax_v_pu (ax_r_iconst (v := 1) d_Z_endNumber_173 (by decide))) (ax_fc (ax_v_go (tgt := 178) d_Z_endNumber_174 (by decide)) ax_fn)) (y := (178, [(1, .inl (.int (((s7.1 0 38 22) - (1 : Int32))))), (0, .inr (0, 38))], [.inl (.int ((1 : Int32))), .inl (.int ((((2 : Int32) * (s7.1 0 38 14)) - (2 : Int32)))), .inr (0, 44)], ax_m (s7) ρ)) rfl ⟨trivial, trivial, trivial⟩ ?_
        cases h
        exact ax_Lsub [1] rfl (KEw60 _ rfl)
    replace h := ax_if c58 h
    refine And.intro (fun c58 => ?_) (fun c58 => ?_)
    · replace h := ax_it c58 h
      change ax_R G 2 0 0 (152, [(1, .inl (.int (((s7.1 0 38 22) - (1 : Int32))))), (0, .inr (0, 38))], [], ax_m (s7) ρ)
      refine ax_bk hK (ax_fc (ax_v_ld (ax_r_aload_n (i := 0) d_Z_endNumber_152 rfl)) (ax_fc (ax_w_gf (e := none) hal d_Z_endNumber_153 fd_Z_30) (ax_fc (ax_v_pu (ax_r_iconst (v := 2) d_Z_endNumber_156 (by decide))) (ax_fc (ax_v_ld (ax_r_aload_n (i := 0) d_Z_endNumber_157 rfl)) (ax_fc (ax_w_gf (e := none) hal d_Z_endNumber_158 fd_Z_177) (ax_fc (ax_v_pu (ax_r_imul d_Z_endNumber_161)) (ax_fc (ax_v_pu (ax_r_iconst (v := 2) d_Z_endNumber_162 (by decide))) (ax_fc (ax_v_pu (ax_r_isub d_Z_endNumber_163)) (ax_fc (ax_v_ld (ax_r_aload_n (i := 0) d_Z_endNumber_164 rfl)) (ax_fc (ax_w_gf (e := none) hal d_Z_endNumber_165 fd_Z_168) (ax_fc (ax_v_pu (ax_r_bipush (v := 7) d_Z_endNumber_168 (by decide))) ax_fn))))))))))) (y := (170, [(1, .inl (.int (((s7.1 0 38 22) - (1 : Int32))))), (0, .inr (0, 38))], [.inl (.int ((7 : Int32))), .inl (.int ((s7.1 0 38 7))), .inl (.int ((((2 : Int32) * (s7.1 0 38 14)) - (2 : Int32)))), .inr (0, 44)], ax_m (s7) ρ)) rfl ⟨trivial, (h0 38 rfl), trivial, trivial, (h0 38 rfl), trivial, trivial, trivial, trivial, (h0 38 rfl), trivial, trivial⟩ ?_
      obtain ⟨w62, hw62, h⟩ := ax_bd h
      have KEw62 : ∀ (v24 : Int32), w62 = v24 → ax_R G 2 0 0 (178, [(0, .inr (0, 38))], [.inl (.int (v24)), .inl (.int ((((2 : Int32) * (s7.1 0 38 14)) - (2 : Int32)))), .inr (0, 44)], ax_m (s7) ρ) := by
        intro v24 e9
        subst w62
        try dsimp only at h
        obtain ⟨b25, h⟩ := ax_gd h
        refine ax_bk hK (ax_fc (ax_v_pu (ax_r_iadd d_Z_endNumber_178)) (ax_fc (ax_v_ld (ax_r_aload_n (i := 0) d_Z_endNumber_179 rfl)) (ax_fc (ax_w_gf (e := none) hal d_Z_endNumber_180 fd_Z_207) (ax_fc (ax_w_last hal d_Z_endNumber_183) ax_fn)))) (y := (184, [(0, .inr (0, 38))], [], ax_m (ax_wL s7 0 44 (((((2 : Int32) * (s7.1 0 38 14)) - (2 : Int32)) + v24)).toNatClampNeg (s7.2 0 38 9)) ρ)) rfl ⟨trivial, trivial, (h0 38 rfl), ⟨(h0 44 rfl), ax_inp b25⟩, trivial⟩ ?_
        refine ax_lt (Q := fun ςς => ax_R G 2 0 0 (184, [(0, .inr (0, 38))], [], ax_m (ςς) ρ)) h (fun s26 h => ?_)
        refine ax_bk hK (ax_fc (ax_v_ld (ax_r_aload_n (i := 0) d_Z_endNumber_184 rfl)) (ax_fc (ax_w_gf (e := none) hal d_Z_endNumber_185 fd_Z_33) (ax_fc (ax_v_pu (ax_r_iconst (v := 2) d_Z_endNumber_188 (by decide))) (ax_fc (ax_v_ld (ax_r_aload_n (i := 0) d_Z_endNumber_189 rfl)) (ax_fc (ax_w_gf (e := none) hal d_Z_endNumber_190 fd_Z_177) (ax_fc (ax_v_pu (ax_r_imul d_Z_endNumber_193)) (ax_fc (ax_v_pu (ax_r_iconst (v := 2) d_Z_endNumber_194 (by decide))) (ax_fc (ax_v_pu (ax_r_isub d_Z_endNumber_195)) (ax_fc (ax_v_ld (ax_r_aload_n (i := 0) d_Z_endNumber_196 rfl)) (ax_fc (ax_w_gf (e := none) hal d_Z_endNumber_197 fd_Z_168) (ax_fc (ax_v_pu (ax_r_bipush (v := 7) d_Z_endNumber_200 (by decide))) ax_fn))))))))))) (y := (202, [(0, .inr (0, 38))], [.inl (.int ((7 : Int32))), .inl (.int ((s26.1 0 38 7))), .inl (.int ((((2 : Int32) * (s26.1 0 38 14)) - (2 : Int32)))), .inr (0, 45)], ax_m (s26) ρ)) rfl ⟨trivial, (h0 38 rfl), trivial, trivial, (h0 38 rfl), trivial, trivial, trivial, trivial, (h0 38 rfl), trivial, trivial⟩ ?_
        obtain ⟨w63, hw63, h⟩ := ax_bd h
        have KEw63 : ∀ (v28 : Int32), w63 = v28 → ax_R G 2 0 0 (210, [(0, .inr (0, 38))], [.inl (.int (v28)), .inl (.int ((((2 : Int32) * (s26.1 0 38 14)) - (2 : Int32)))), .inr (0, 45)], ax_m (s26) ρ) := by
          intro v28 e9
          subst w63
          try dsimp only at h
          obtain ⟨b29, h⟩ := ax_gd h
          refine ax_bk hK (ax_fc (ax_v_pu (ax_r_iadd d_Z_endNumber_210)) (ax_fc (ax_v_ld (ax_r_aload_n (i := 0) d_Z_endNumber_211 rfl)) (ax_fc (ax_w_gf (e := none) hal d_Z_endNumber_212 fd_Z_224) (ax_fc (ax_w_iast hal d_Z_endNumber_215) ax_fn)))) (y := (216, [(0, .inr (0, 38))], [], ax_m (ax_wI s26 0 45 (((((2 : Int32) * (s26.1 0 38 14)) - (2 : Int32)) + v28)).toNatClampNeg (s26.1 0 38 10)) ρ)) rfl ⟨trivial, trivial, (h0 38 rfl), ⟨(h0 45 rfl), ax_inp b29⟩, trivial⟩ ?_
          refine ax_lt (Q := fun ςς => ax_R G 2 0 0 (216, [(0, .inr (0, 38))], [], ax_m (ςς) ρ)) h (fun s30 h => ?_)
          refine ax_bk hK (ax_fc (ax_v_ld (ax_r_aload_n (i := 0) d_Z_endNumber_216 rfl)) (ax_fc (ax_v_pu (ax_r_dup d_Z_endNumber_217)) (ax_fc (ax_w_gf (e := none) hal d_Z_endNumber_218 fd_Z_168) (ax_fc (ax_v_pu (ax_r_iconst (v := 1) d_Z_endNumber_221 (by decide))) (ax_fc (ax_v_pu (ax_r_iadd d_Z_endNumber_222)) (ax_fc (ax_w_pf (tc := 0) hal d_Z_endNumber_223 fp_Z_168 rfl) ax_fn)))))) (y := (226, [(0, .inr (0, 38))], [], ax_m (ax_wI s30 0 38 7 ((s30.1 0 38 7) + (1 : Int32))) ρ)) rfl ⟨trivial, trivial, (h0 38 rfl), trivial, trivial, (h0 38 rfl), trivial⟩ ?_
          refine ax_lt (Q := fun ςς => ax_R G 2 0 0 (226, [(0, .inr (0, 38))], [], ax_m (ςς) ρ)) h (fun s31 h => ?_)
          refine ax_bk hK (ax_fc (ax_v_go (tgt := 391) d_Z_endNumber_226 (by decide)) ax_fn) (y := (391, [(0, .inr (0, 38))], [], ax_m (s31) ρ)) rfl ⟨trivial, trivial⟩ ?_
          cases h
          exact ax_vret hA d_Z_endNumber_391
        clear h
        have h := hw63
        refine ax_ic_ne (tgt := 209) hK d_Z_endNumber_202 (by decide) (fun c27 => ?_) (fun c27 => ?_)
        · replace h := ax_if c27 h
          refine ax_bk hK (ax_fc (ax_v_pu (ax_r_iconst (v := 0) d_Z_endNumber_209 (by decide))) ax_fn) (y := (210, [(0, .inr (0, 38))], [.inl (.int ((0 : Int32))), .inl (.int ((((2 : Int32) * (s26.1 0 38 14)) - (2 : Int32)))), .inr (0, 45)], ax_m (s26) ρ)) rfl ⟨trivial, trivial⟩ ?_
          cases h
          exact ax_Lsub [0] rfl (KEw63 _ rfl)
        · replace h := ax_it c27 h
          refine ax_bk hK (ax_fc (ax_v_pu (ax_r_iconst (v := 1) d_Z_endNumber_205 (by decide))) (ax_fc (ax_v_go (tgt := 210) d_Z_endNumber_206 (by decide)) ax_fn)) (y := (210, [(0, .inr (0, 38))], [.inl (.int ((1 : Int32))), .inl (.int ((((2 : Int32) * (s26.1 0 38 14)) - (2 : Int32)))), .inr (0, 45)], ax_m (s26) ρ)) rfl ⟨trivial, trivial, trivial⟩ ?_
          cases h
          exact ax_Lsub [0] rfl (KEw63 _ rfl)
      clear h
      have h := hw62
      refine ax_ic_ne (tgt := 177) hK d_Z_endNumber_170 (by decide) (fun c23 => ?_) (fun c23 => ?_)
      · replace h := ax_if c23 h
        refine ax_bk hK (ax_fc (ax_v_pu (ax_r_iconst (v := 0) d_Z_endNumber_177 (by decide))) ax_fn) (y := (178, [(1, .inl (.int (((s7.1 0 38 22) - (1 : Int32))))), (0, .inr (0, 38))], [.inl (.int ((0 : Int32))), .inl (.int ((((2 : Int32) * (s7.1 0 38 14)) - (2 : Int32)))), .inr (0, 44)], ax_m (s7) ρ)) rfl ⟨trivial, trivial⟩ ?_
        cases h
        exact ax_Lsub [1] rfl (KEw62 _ rfl)
      · replace h := ax_it c23 h
        refine ax_bk hK (ax_fc (ax_v_pu (ax_r_iconst (v := 1) d_Z_endNumber_173 (by decide))) (ax_fc (ax_v_go (tgt := 178) d_Z_endNumber_174 (by decide)) ax_fn)) (y := (178, [(1, .inl (.int (((s7.1 0 38 22) - (1 : Int32))))), (0, .inr (0, 38))], [.inl (.int ((1 : Int32))), .inl (.int ((((2 : Int32) * (s7.1 0 38 14)) - (2 : Int32)))), .inr (0, 44)], ax_m (s7) ρ)) rfl ⟨trivial, trivial, trivial⟩ ?_
        cases h
        exact ax_Lsub [1] rfl (KEw62 _ rfl)
    replace h := ax_if c58 h
    refine And.intro (fun c58 => ?_) (fun c58 => ?_)
    · replace h := ax_it c58 h
      change ax_R G 2 0 0 (229, [(1, .inl (.int (((s7.1 0 38 22) - (1 : Int32))))), (0, .inr (0, 38))], [], ax_m (s7) ρ)
      refine ax_bk hK (ax_fc (ax_v_ld (ax_r_aload_n (i := 0) d_Z_endNumber_229 rfl)) (ax_fc (ax_v_pu (ax_r_iconst (v := 4) d_Z_endNumber_230 (by decide))) (ax_fc (ax_v_ld (ax_r_aload_n (i := 0) d_Z_endNumber_231 rfl)) (ax_fc (ax_w_gf (e := none) hal d_Z_endNumber_232 fd_Z_207) (ax_fc (ax_v_ld (ax_r_aload_n (i := 0) d_Z_endNumber_235 rfl)) (ax_fc (ax_w_gf (e := none) hal d_Z_endNumber_236 fd_Z_224) ax_fn)))))) (y := (239, [(1, .inl (.int (((s7.1 0 38 22) - (1 : Int32))))), (0, .inr (0, 38))], [.inl (.int ((s7.1 0 38 10))), .inl (.long ((s7.2 0 38 9))), .inl (.int ((4 : Int32))), .inr (0, 38)], ax_m (s7) ρ)) rfl ⟨trivial, trivial, trivial, (h0 38 rfl), trivial, (h0 38 rfl), trivial⟩ ?_
      obtain ⟨s32, q33, h⟩ := ax_bd h
      refine ax_bV (rest := []) hB (t_Z_emit h0 q33) cw_Z_243 im_Z_emit se_Z_emit d_Z_endNumber_239 (h0 38 rfl) rfl rfl (by decide) (by decide) rfl rfl (Nat.le_of_ble_eq_true rfl) ?_
      change ax_R G 2 0 0 (242, [(1, .inl (.int (((s7.1 0 38 22) - (1 : Int32))))), (0, .inr (0, 38))], [], ax_m (s32) ρ)
      refine ax_bk hK (ax_fc (ax_v_ld (ax_r_aload_n (i := 0) d_Z_endNumber_242 rfl)) ax_fn) (y := (243, [(1, .inl (.int (((s7.1 0 38 22) - (1 : Int32))))), (0, .inr (0, 38))], [.inr (0, 38)], ax_m (s32) ρ)) rfl ⟨trivial, trivial⟩ ?_
      obtain ⟨s34, q35, h⟩ := ax_bd h
      refine ax_bV (rest := []) hB (t_Z_complete h0 q35) cw_Z_247 im_Z_complete se_Z_complete d_Z_endNumber_243 (h0 38 rfl) rfl rfl (by decide) (by decide) rfl rfl (Nat.le_of_ble_eq_true rfl) ?_
      change ax_R G 2 0 0 (246, [(1, .inl (.int (((s7.1 0 38 22) - (1 : Int32))))), (0, .inr (0, 38))], [], ax_m (s34) ρ)
      refine ax_bk hK (ax_fc (ax_v_go (tgt := 391) d_Z_endNumber_246 (by decide)) ax_fn) (y := (391, [(1, .inl (.int (((s7.1 0 38 22) - (1 : Int32))))), (0, .inr (0, 38))], [], ax_m (s34) ρ)) rfl ⟨trivial, trivial⟩ ?_
      cases h
      exact ax_vret hA d_Z_endNumber_391
    replace h := ax_if c58 h
    refine And.intro (fun c58 => ?_) (fun c58 => ?_)
    · replace h := ax_it c58 h
      change ax_R G 2 0 0 (249, [(1, .inl (.int (((s7.1 0 38 22) - (1 : Int32))))), (0, .inr (0, 38))], [], ax_m (s7) ρ)
      refine ax_bk hK (ax_fc (ax_v_ld (ax_r_aload_n (i := 0) d_Z_endNumber_249 rfl)) (ax_fc (ax_v_pu (ax_r_bipush (v := 23) d_Z_endNumber_250 (by decide))) (ax_fc (ax_w_pf (tc := 0) hal d_Z_endNumber_252 fp_Z_168 rfl) ax_fn))) (y := (255, [(1, .inl (.int (((s7.1 0 38 22) - (1 : Int32))))), (0, .inr (0, 38))], [], ax_m (ax_wI s7 0 38 7 (23 : Int32)) ρ)) rfl ⟨trivial, trivial, (h0 38 rfl), trivial⟩ ?_
      refine ax_lt (Q := fun ςς => ax_R G 2 0 0 (255, [(1, .inl (.int (((s7.1 0 38 22) - (1 : Int32))))), (0, .inr (0, 38))], [], ax_m (ςς) ρ)) h (fun s36 h => ?_)
      refine ax_bk hK (ax_fc (ax_v_go (tgt := 391) d_Z_endNumber_255 (by decide)) ax_fn) (y := (391, [(1, .inl (.int (((s7.1 0 38 22) - (1 : Int32))))), (0, .inr (0, 38))], [], ax_m (s36) ρ)) rfl ⟨trivial, trivial⟩ ?_
      cases h
      exact ax_vret hA d_Z_endNumber_391
    replace h := ax_if c58 h
    refine And.intro (fun c58 => ?_) (fun c58 => ?_)
    · replace h := ax_it c58 h
      change ax_R G 2 0 0 (258, [(1, .inl (.int (((s7.1 0 38 22) - (1 : Int32))))), (0, .inr (0, 38))], [], ax_m (s7) ρ)
      refine ax_bk hK (ax_fc (ax_v_ld (ax_r_aload_n (i := 0) d_Z_endNumber_258 rfl)) (ax_fc (ax_v_ld (ax_r_aload_n (i := 0) d_Z_endNumber_259 rfl)) (ax_fc (ax_w_gf (e := none) hal d_Z_endNumber_260 fd_Z_207) (ax_fc (ax_v_pu (ax_r_iconst (v := -1) d_Z_endNumber_263 (by decide))) (ax_fc (ax_v_ld (ax_r_aload_n (i := 0) d_Z_endNumber_264 rfl)) (ax_fc (ax_w_gf (e := none) hal d_Z_endNumber_265 fd_Z_224) ax_fn)))))) (y := (268, [(1, .inl (.int (((s7.1 0 38 22) - (1 : Int32))))), (0, .inr (0, 38))], [.inl (.int ((s7.1 0 38 10))), .inl (.int ((-1 : Int32))), .inl (.long ((s7.2 0 38 9))), .inr (0, 38)], ax_m (s7) ρ)) rfl ⟨trivial, trivial, (h0 38 rfl), trivial, trivial, (h0 38 rfl), trivial⟩ ?_
      obtain ⟨s37, q38, h⟩ := ax_bd h
      refine ax_bV (rest := []) hB (t_Z_addTerm h0 q38) cw_Z_250 im_Z_addTerm se_Z_addTerm d_Z_endNumber_268 (h0 38 rfl) rfl rfl (by decide) (by decide) rfl rfl (Nat.le_of_ble_eq_true rfl) ?_
      change ax_R G 2 0 0 (271, [(1, .inl (.int (((s7.1 0 38 22) - (1 : Int32))))), (0, .inr (0, 38))], [], ax_m (s37) ρ)
      refine ax_bk hK (ax_fc (ax_v_ld (ax_r_aload_n (i := 0) d_Z_endNumber_271 rfl)) (ax_fc (ax_v_pu (ax_r_bipush (v := 32) d_Z_endNumber_272 (by decide))) (ax_fc (ax_w_pf (tc := 0) hal d_Z_endNumber_274 fp_Z_168 rfl) ax_fn))) (y := (277, [(1, .inl (.int (((s7.1 0 38 22) - (1 : Int32))))), (0, .inr (0, 38))], [], ax_m (ax_wI s37 0 38 7 (32 : Int32)) ρ)) rfl ⟨trivial, trivial, (h0 38 rfl), trivial⟩ ?_
      refine ax_lt (Q := fun ςς => ax_R G 2 0 0 (277, [(1, .inl (.int (((s7.1 0 38 22) - (1 : Int32))))), (0, .inr (0, 38))], [], ax_m (ςς) ρ)) h (fun s39 h => ?_)
      refine ax_bk hK (ax_fc (ax_v_go (tgt := 391) d_Z_endNumber_277 (by decide)) ax_fn) (y := (391, [(1, .inl (.int (((s7.1 0 38 22) - (1 : Int32))))), (0, .inr (0, 38))], [], ax_m (s39) ρ)) rfl ⟨trivial, trivial⟩ ?_
      cases h
      exact ax_vret hA d_Z_endNumber_391
    replace h := ax_if c58 h
    refine And.intro (fun c58 => ?_) (fun c58 => ?_)
    · replace h := ax_it c58 h
      change ax_R G 2 0 0 (280, [(1, .inl (.int (((s7.1 0 38 22) - (1 : Int32))))), (0, .inr (0, 38))], [], ax_m (s7) ρ)
      obtain ⟨b40, h⟩ := ax_gd h
      refine ax_bk hK (ax_fc (ax_v_ld (ax_r_aload_n (i := 0) d_Z_endNumber_280 rfl)) (ax_fc (ax_w_gf (e := none) hal d_Z_endNumber_281 fd_Z_66) (ax_fc (ax_v_ld (ax_r_aload_n (i := 0) d_Z_endNumber_284 rfl)) (ax_fc (ax_w_gf (e := none) hal d_Z_endNumber_285 fd_Z_192) (ax_fc (ax_v_ld (ax_r_aload_n (i := 0) d_Z_endNumber_288 rfl)) (ax_fc (ax_w_gf (e := none) hal d_Z_endNumber_289 fd_Z_207) (ax_fc (ax_w_last hal d_Z_endNumber_292) ax_fn))))))) (y := (293, [(1, .inl (.int (((s7.1 0 38 22) - (1 : Int32))))), (0, .inr (0, 38))], [], ax_m (ax_wL s7 0 56 ((s7.1 0 38 33)).toNatClampNeg (s7.2 0 38 9)) ρ)) rfl ⟨trivial, (h0 38 rfl), trivial, (h0 38 rfl), trivial, (h0 38 rfl), ⟨(h0 56 rfl), ax_inp b40⟩, trivial⟩ ?_
      refine ax_lt (Q := fun ςς => ax_R G 2 0 0 (293, [(1, .inl (.int (((s7.1 0 38 22) - (1 : Int32))))), (0, .inr (0, 38))], [], ax_m (ςς) ρ)) h (fun s41 h => ?_)
      obtain ⟨b42, h⟩ := ax_gd h
      refine ax_bk hK (ax_fc (ax_v_ld (ax_r_aload_n (i := 0) d_Z_endNumber_293 rfl)) (ax_fc (ax_w_gf (e := none) hal d_Z_endNumber_294 fd_Z_69) (ax_fc (ax_v_ld (ax_r_aload_n (i := 0) d_Z_endNumber_297 rfl)) (ax_fc (ax_w_gf (e := none) hal d_Z_endNumber_298 fd_Z_192) (ax_fc (ax_v_ld (ax_r_aload_n (i := 0) d_Z_endNumber_301 rfl)) (ax_fc (ax_w_gf (e := none) hal d_Z_endNumber_302 fd_Z_224) (ax_fc (ax_w_iast hal d_Z_endNumber_305) ax_fn))))))) (y := (306, [(1, .inl (.int (((s7.1 0 38 22) - (1 : Int32))))), (0, .inr (0, 38))], [], ax_m (ax_wI s41 0 57 ((s41.1 0 38 33)).toNatClampNeg (s41.1 0 38 10)) ρ)) rfl ⟨trivial, (h0 38 rfl), trivial, (h0 38 rfl), trivial, (h0 38 rfl), ⟨(h0 57 rfl), ax_inp b42⟩, trivial⟩ ?_
      refine ax_lt (Q := fun ςς => ax_R G 2 0 0 (306, [(1, .inl (.int (((s7.1 0 38 22) - (1 : Int32))))), (0, .inr (0, 38))], [], ax_m (ςς) ρ)) h (fun s43 h => ?_)
      refine ax_bk hK (ax_fc (ax_v_ld (ax_r_aload_n (i := 0) d_Z_endNumber_306 rfl)) (ax_fc (ax_v_pu (ax_r_dup d_Z_endNumber_307)) (ax_fc (ax_w_gf (e := none) hal d_Z_endNumber_308 fd_Z_192) (ax_fc (ax_v_pu (ax_r_iconst (v := 1) d_Z_endNumber_311 (by decide))) (ax_fc (ax_v_pu (ax_r_iadd d_Z_endNumber_312)) (ax_fc (ax_w_pf (tc := 0) hal d_Z_endNumber_313 fp_Z_192 rfl) ax_fn)))))) (y := (316, [(1, .inl (.int (((s7.1 0 38 22) - (1 : Int32))))), (0, .inr (0, 38))], [], ax_m (ax_wI s43 0 38 33 ((s43.1 0 38 33) + (1 : Int32))) ρ)) rfl ⟨trivial, trivial, (h0 38 rfl), trivial, trivial, (h0 38 rfl), trivial⟩ ?_
      refine ax_lt (Q := fun ςς => ax_R G 2 0 0 (316, [(1, .inl (.int (((s7.1 0 38 22) - (1 : Int32))))), (0, .inr (0, 38))], [], ax_m (ςς) ρ)) h (fun s44 h => ?_)
      refine ax_bk hK (ax_fc (ax_v_ld (ax_r_aload_n (i := 0) d_Z_endNumber_316 rfl)) (ax_fc (ax_v_pu (ax_r_bipush (v := 47) d_Z_endNumber_317 (by decide))) (ax_fc (ax_w_pf (tc := 0) hal d_Z_endNumber_319 fp_Z_168 rfl) ax_fn))) (y := (322, [(1, .inl (.int (((s7.1 0 38 22) - (1 : Int32))))), (0, .inr (0, 38))], [], ax_m (ax_wI s44 0 38 7 (47 : Int32)) ρ)) rfl ⟨trivial, trivial, (h0 38 rfl), trivial⟩ ?_
      refine ax_lt (Q := fun ςς => ax_R G 2 0 0 (322, [(1, .inl (.int (((s7.1 0 38 22) - (1 : Int32))))), (0, .inr (0, 38))], [], ax_m (ςς) ρ)) h (fun s45 h => ?_)
      refine ax_bk hK (ax_fc (ax_v_go (tgt := 391) d_Z_endNumber_322 (by decide)) ax_fn) (y := (391, [(1, .inl (.int (((s7.1 0 38 22) - (1 : Int32))))), (0, .inr (0, 38))], [], ax_m (s45) ρ)) rfl ⟨trivial, trivial⟩ ?_
      cases h
      exact ax_vret hA d_Z_endNumber_391
    replace h := ax_if c58 h
    change ax_R G 2 0 0 (325, [(1, .inl (.int (((s7.1 0 38 22) - (1 : Int32))))), (0, .inr (0, 38))], [], ax_m (s7) ρ)
    obtain ⟨b46, h⟩ := ax_gd h
    refine ax_bk hK (ax_fc (ax_v_ld (ax_r_aload_n (i := 0) d_Z_endNumber_325 rfl)) (ax_fc (ax_w_gf (e := none) hal d_Z_endNumber_326 fd_Z_54) (ax_fc (ax_v_ld (ax_r_iload_n (i := 1) d_Z_endNumber_329 rfl)) (ax_fc (ax_v_ld (ax_r_aload_n (i := 0) d_Z_endNumber_330 rfl)) (ax_fc (ax_w_gf (e := none) hal d_Z_endNumber_331 fd_Z_207) (ax_fc (ax_w_last hal d_Z_endNumber_334) ax_fn)))))) (y := (335, [(1, .inl (.int (((s7.1 0 38 22) - (1 : Int32))))), (0, .inr (0, 38))], [], ax_m (ax_wL s7 0 52 (((s7.1 0 38 22) - (1 : Int32))).toNatClampNeg (s7.2 0 38 9)) ρ)) rfl ⟨trivial, (h0 38 rfl), trivial, trivial, (h0 38 rfl), ⟨(h0 52 rfl), ax_inp b46⟩, trivial⟩ ?_
    refine ax_lt (Q := fun ςς => ax_R G 2 0 0 (335, [(1, .inl (.int (((s7.1 0 38 22) - (1 : Int32))))), (0, .inr (0, 38))], [], ax_m (ςς) ρ)) h (fun s47 h => ?_)
    obtain ⟨b48, h⟩ := ax_gd h
    refine ax_bk hK (ax_fc (ax_v_ld (ax_r_aload_n (i := 0) d_Z_endNumber_335 rfl)) (ax_fc (ax_w_gf (e := none) hal d_Z_endNumber_336 fd_Z_57) (ax_fc (ax_v_ld (ax_r_iload_n (i := 1) d_Z_endNumber_339 rfl)) (ax_fc (ax_v_ld (ax_r_aload_n (i := 0) d_Z_endNumber_340 rfl)) (ax_fc (ax_w_gf (e := none) hal d_Z_endNumber_341 fd_Z_224) (ax_fc (ax_w_iast hal d_Z_endNumber_344) ax_fn)))))) (y := (345, [(1, .inl (.int (((s7.1 0 38 22) - (1 : Int32))))), (0, .inr (0, 38))], [], ax_m (ax_wI s47 0 53 (((s7.1 0 38 22) - (1 : Int32))).toNatClampNeg (s47.1 0 38 10)) ρ)) rfl ⟨trivial, (h0 38 rfl), trivial, trivial, (h0 38 rfl), ⟨(h0 53 rfl), ax_inp b48⟩, trivial⟩ ?_
    refine ax_lt (Q := fun ςς => ax_R G 2 0 0 (345, [(1, .inl (.int (((s7.1 0 38 22) - (1 : Int32))))), (0, .inr (0, 38))], [], ax_m (ςς) ρ)) h (fun s49 h => ?_)
    refine ax_bk hK (ax_fc (ax_v_ld (ax_r_aload_n (i := 0) d_Z_endNumber_345 rfl)) (ax_fc (ax_w_gf (e := none) hal d_Z_endNumber_346 fd_Z_39) (ax_fc (ax_v_ld (ax_r_iload_n (i := 1) d_Z_endNumber_349 rfl)) (ax_fc (ax_v_ld (ax_r_aload_n (i := 0) d_Z_endNumber_350 rfl)) (ax_fc (ax_w_gf (e := none) hal d_Z_endNumber_351 fd_Z_168) (ax_fc (ax_v_pu (ax_r_bipush (v := 43) d_Z_endNumber_354 (by decide))) ax_fn)))))) (y := (356, [(1, .inl (.int (((s7.1 0 38 22) - (1 : Int32))))), (0, .inr (0, 38))], [.inl (.int ((43 : Int32))), .inl (.int ((s49.1 0 38 7))), .inl (.int (((s7.1 0 38 22) - (1 : Int32)))), .inr (0, 47)], ax_m (s49) ρ)) rfl ⟨trivial, (h0 38 rfl), trivial, trivial, (h0 38 rfl), trivial, trivial⟩ ?_
    obtain ⟨w64, hw64, h⟩ := ax_bd h
    have KEw64 : ∀ (v52 : Int32), w64 = v52 → ax_R G 2 0 0 (370, [(0, .inr (0, 38))], [.inl (.int (v52)), .inl (.int (((s7.1 0 38 22) - (1 : Int32)))), .inr (0, 47)], ax_m (s49) ρ) := by
      intro v52 e9
      subst w64
      try dsimp only at h
      obtain ⟨b53, h⟩ := ax_gd h
      refine ax_bk hK (ax_fc (ax_w_iast hal d_Z_endNumber_370) ax_fn) (y := (371, [(0, .inr (0, 38))], [], ax_m (ax_wI s49 0 47 (((s7.1 0 38 22) - (1 : Int32))).toNatClampNeg v52) ρ)) rfl ⟨⟨(h0 47 rfl), ax_inp b53⟩, trivial⟩ ?_
      refine ax_lt (Q := fun ςς => ax_R G 2 0 0 (371, [(0, .inr (0, 38))], [], ax_m (ςς) ρ)) h (fun s54 h => ?_)
      refine ax_bk hK (ax_fc (ax_v_ld (ax_r_aload_n (i := 0) d_Z_endNumber_371 rfl)) (ax_fc (ax_v_ld (ax_r_aload_n (i := 0) d_Z_endNumber_372 rfl)) (ax_fc (ax_w_gf (e := none) hal d_Z_endNumber_373 fd_Z_168) (ax_fc (ax_v_pu (ax_r_bipush (v := 11) d_Z_endNumber_376 (by decide))) ax_fn)))) (y := (378, [(0, .inr (0, 38))], [.inl (.int ((11 : Int32))), .inl (.int ((s54.1 0 38 7))), .inr (0, 38)], ax_m (s54) ρ)) rfl ⟨trivial, trivial, (h0 38 rfl), trivial, trivial⟩ ?_
      obtain ⟨w65, hw65, h⟩ := ax_bd h
      have KEw65 : ∀ (v56 : Int32), w65 = v56 → ax_R G 2 0 0 (388, [], [.inl (.int (v56)), .inr (0, 38)], ax_m (s54) ρ) := by
        intro v56 e9
        subst w65
        try dsimp only at h
        refine ax_bk hK (ax_fc (ax_w_pf (tc := 0) hal d_Z_endNumber_388 fp_Z_168 rfl) ax_fn) (y := (391, [], [], ax_m (ax_wI s54 0 38 7 v56) ρ)) rfl ⟨(h0 38 rfl), trivial⟩ ?_
        refine ax_lt (Q := fun ςς => ax_R G 2 0 0 (391, [], [], ax_m (ςς) ρ)) h (fun s57 h => ?_)
        cases h
        exact ax_vret hA d_Z_endNumber_391
      clear h
      have h := hw65
      refine ax_ic_ne (tgt := 386) hK d_Z_endNumber_378 (by decide) (fun c55 => ?_) (fun c55 => ?_)
      · replace h := ax_if c55 h
        refine ax_bk hK (ax_fc (ax_v_pu (ax_r_bipush (v := 49) d_Z_endNumber_386 (by decide))) ax_fn) (y := (388, [(0, .inr (0, 38))], [.inl (.int ((49 : Int32))), .inr (0, 38)], ax_m (s54) ρ)) rfl ⟨trivial, trivial⟩ ?_
        cases h
        exact ax_Lsub [] rfl (KEw65 _ rfl)
      · replace h := ax_it c55 h
        refine ax_bk hK (ax_fc (ax_v_pu (ax_r_bipush (v := 12) d_Z_endNumber_381 (by decide))) (ax_fc (ax_v_go (tgt := 388) d_Z_endNumber_383 (by decide)) ax_fn)) (y := (388, [(0, .inr (0, 38))], [.inl (.int ((12 : Int32))), .inr (0, 38)], ax_m (s54) ρ)) rfl ⟨trivial, trivial, trivial⟩ ?_
        cases h
        exact ax_Lsub [] rfl (KEw65 _ rfl)
    clear h
    have h := hw64
    refine ax_ic_ne (tgt := 364) hK d_Z_endNumber_356 (by decide) (fun c51 => ?_) (fun c51 => ?_)
    · replace h := ax_if c51 h
      obtain ⟨b50, h⟩ := ax_gd h
      refine ax_bk hK (ax_fc (ax_v_ld (ax_r_aload_n (i := 0) d_Z_endNumber_364 rfl)) (ax_fc (ax_w_gf (e := none) hal d_Z_endNumber_365 fd_Z_39) (ax_fc (ax_v_ld (ax_r_iload_n (i := 1) d_Z_endNumber_368 rfl)) (ax_fc (ax_w_iald hal d_Z_endNumber_369) ax_fn)))) (y := (370, [(1, .inl (.int (((s7.1 0 38 22) - (1 : Int32))))), (0, .inr (0, 38))], [.inl (.int ((s49.1 0 47 (((s7.1 0 38 22) - (1 : Int32))).toNatClampNeg))), .inl (.int (((s7.1 0 38 22) - (1 : Int32)))), .inr (0, 47)], ax_m (s49) ρ)) rfl ⟨trivial, (h0 38 rfl), trivial, ⟨(h0 47 rfl), ax_inp b50⟩, trivial⟩ ?_
      cases h
      exact ax_Lsub [1] rfl (KEw64 _ rfl)
    · replace h := ax_it c51 h
      refine ax_bk hK (ax_fc (ax_v_pu (ax_r_bipush (v := 8) d_Z_endNumber_359 (by decide))) (ax_fc (ax_v_go (tgt := 370) d_Z_endNumber_361 (by decide)) ax_fn)) (y := (370, [(1, .inl (.int (((s7.1 0 38 22) - (1 : Int32))))), (0, .inr (0, 38))], [.inl (.int ((8 : Int32))), .inl (.int (((s7.1 0 38 22) - (1 : Int32)))), .inr (0, 47)], ax_m (s49) ρ)) rfl ⟨trivial, trivial, trivial⟩ ?_
      cases h
      exact ax_Lsub [1] rfl (KEw64 _ rfl)
  clear h
  have h := hw59
  obtain ⟨w6, hw6, h⟩ := ax_bd h
  have KTw6 : w6 = true → ax_R G 2 0 0 (30, [(0, .inr (0, 38))], [], ax_m (s1) ρ) := by
    intro e9
    subst w6
    replace h := ax_ct h
    cases h
    exact ax_Lsub [0] rfl (KEw59 _ rfl)
  have KFw6 : w6 = false → ax_R G 2 0 0 (22, [(0, .inr (0, 38))], [], ax_m (s1) ρ) := by
    intro e9
    subst w6
    replace h := ax_cf h
    refine ax_bk hK (ax_fc (ax_v_ld (ax_r_aload_n (i := 0) d_Z_endNumber_22 rfl)) (ax_fc (ax_v_ld (ax_r_aload_n (i := 0) d_Z_endNumber_23 rfl)) (ax_fc (ax_w_gf (e := none) hal d_Z_endNumber_24 fd_Z_207) ax_fn))) (y := (27, [(0, .inr (0, 38))], [.inl (.long ((s1.2 0 38 9))), .inr (0, 38)], ax_m (s1) ρ)) rfl ⟨trivial, trivial, (h0 38 rfl), trivial⟩ ?_
    obtain ⟨s4, q5, h⟩ := ax_bd h
    refine ax_bV (rest := []) hB (t_Z_printNumber h0 q5) cw_Z_239 im_Z_printNumber se_Z_printNumber d_Z_endNumber_27 (h0 38 rfl) rfl rfl (by decide) (by decide) rfl rfl (Nat.le_of_ble_eq_true rfl) ?_
    change ax_R G 2 0 0 (30, [(0, .inr (0, 38))], [], ax_m (s4) ρ)
    cases h
    exact ax_Lsub [0] rfl (KEw59 _ rfl)
  clear h
  have h := hw6
  refine ax_ic_eq (tgt := 30) hK d_Z_endNumber_10 (by decide) (fun c3 => ?_) (fun c3 => ?_)
  · replace h := ax_it c3 h
    cases h
    exact ax_Lsub [0] rfl (KTw6 rfl)
  · replace h := ax_if c3 h
    refine ax_bk hK (ax_fc (ax_v_ld (ax_r_aload_n (i := 0) d_Z_endNumber_13 rfl)) (ax_fc (ax_w_gf (e := none) hal d_Z_endNumber_14 fd_Z_168) (ax_fc (ax_v_pu (ax_r_bipush (v := 7) d_Z_endNumber_17 (by decide))) ax_fn))) (y := (19, [(0, .inr (0, 38))], [.inl (.int ((7 : Int32))), .inl (.int ((s1.1 0 38 7)))], ax_m (s1) ρ)) rfl ⟨trivial, (h0 38 rfl), trivial, trivial⟩ ?_
    refine ax_ic_eq (tgt := 30) hK d_Z_endNumber_19 (by decide) (fun c2 => ?_) (fun c2 => ?_)
    · replace h := ax_it c2 h
      cases h
      exact ax_Lsub [0] rfl (KTw6 rfl)
    · replace h := ax_if c2 h
      cases h
      exact ax_Lsub [0] rfl (KFw6 rfl)
def y_Z_reckon : MethodName := ⟨"CipherNotationModel", "reckon", "()V"⟩
theorem d_Z_reckon_0 : decode prog_8_method_17_code 0 = .ok (.aload_n 0, 1) := by decide +kernel
theorem d_Z_reckon_1 : decode prog_8_method_17_code 1 = .ok (.getfield (177), 3) := by decide +kernel
theorem d_Z_reckon_4 : decode prog_8_method_17_code 4 = .ok (.iconst 1, 1) := by decide +kernel
theorem d_Z_reckon_5 : decode prog_8_method_17_code 5 = .ok (.isub, 1) := by decide +kernel
theorem d_Z_reckon_6 : decode prog_8_method_17_code 6 = .ok (.istore_n 1, 1) := by decide +kernel
theorem d_Z_reckon_7 : decode prog_8_method_17_code 7 = .ok (.iconst 0, 1) := by decide +kernel
theorem d_Z_reckon_8 : decode prog_8_method_17_code 8 = .ok (.istore_n 2, 1) := by decide +kernel
theorem d_Z_reckon_9 : decode prog_8_method_17_code 9 = .ok (.iload_n 2, 1) := by decide +kernel
theorem d_Z_reckon_10 : decode prog_8_method_17_code 10 = .ok (.bipush (16), 2) := by decide +kernel
theorem d_Z_reckon_12 : decode prog_8_method_17_code 12 = .ok (.if_icmp .ge (74), 3) := by decide +kernel
theorem d_Z_reckon_15 : decode prog_8_method_17_code 15 = .ok (.iload_n 2, 1) := by decide +kernel
theorem d_Z_reckon_16 : decode prog_8_method_17_code 16 = .ok (.i2l, 1) := by decide +kernel
theorem d_Z_reckon_17 : decode prog_8_method_17_code 17 = .ok (.aload_n 0, 1) := by decide +kernel
theorem d_Z_reckon_18 : decode prog_8_method_17_code 18 = .ok (.getfield (30), 3) := by decide +kernel
theorem d_Z_reckon_21 : decode prog_8_method_17_code 21 = .ok (.iconst 2, 1) := by decide +kernel
theorem d_Z_reckon_22 : decode prog_8_method_17_code 22 = .ok (.iload_n 1, 1) := by decide +kernel
theorem d_Z_reckon_23 : decode prog_8_method_17_code 23 = .ok (.imul, 1) := by decide +kernel
theorem d_Z_reckon_24 : decode prog_8_method_17_code 24 = .ok (.laload, 1) := by decide +kernel
theorem d_Z_reckon_25 : decode prog_8_method_17_code 25 = .ok (.lmul, 1) := by decide +kernel
theorem d_Z_reckon_26 : decode prog_8_method_17_code 26 = .ok (.aload_n 0, 1) := by decide +kernel
theorem d_Z_reckon_27 : decode prog_8_method_17_code 27 = .ok (.getfield (30), 3) := by decide +kernel
theorem d_Z_reckon_30 : decode prog_8_method_17_code 30 = .ok (.iconst 2, 1) := by decide +kernel
theorem d_Z_reckon_31 : decode prog_8_method_17_code 31 = .ok (.iload_n 1, 1) := by decide +kernel
theorem d_Z_reckon_32 : decode prog_8_method_17_code 32 = .ok (.imul, 1) := by decide +kernel
theorem d_Z_reckon_33 : decode prog_8_method_17_code 33 = .ok (.iconst 1, 1) := by decide +kernel
theorem d_Z_reckon_34 : decode prog_8_method_17_code 34 = .ok (.iadd, 1) := by decide +kernel
theorem d_Z_reckon_35 : decode prog_8_method_17_code 35 = .ok (.laload, 1) := by decide +kernel
theorem d_Z_reckon_36 : decode prog_8_method_17_code 36 = .ok (.ladd, 1) := by decide +kernel
theorem d_Z_reckon_37 : decode prog_8_method_17_code 37 = .ok (.ldc2_w (264), 3) := by decide +kernel
theorem d_Z_reckon_40 : decode prog_8_method_17_code 40 = .ok (.lrem, 1) := by decide +kernel
theorem d_Z_reckon_41 : decode prog_8_method_17_code 41 = .ok (.l2i, 1) := by decide +kernel
theorem d_Z_reckon_42 : decode prog_8_method_17_code 42 = .ok (.istore_n 3, 1) := by decide +kernel
theorem d_Z_reckon_43 : decode prog_8_method_17_code 43 = .ok (.aload_n 0, 1) := by decide +kernel
theorem d_Z_reckon_44 : decode prog_8_method_17_code 44 = .ok (.getfield (27), 3) := by decide +kernel
theorem d_Z_reckon_47 : decode prog_8_method_17_code 47 = .ok (.bipush (16), 2) := by decide +kernel
theorem d_Z_reckon_49 : decode prog_8_method_17_code 49 = .ok (.iload_n 1, 1) := by decide +kernel
theorem d_Z_reckon_50 : decode prog_8_method_17_code 50 = .ok (.imul, 1) := by decide +kernel
theorem d_Z_reckon_51 : decode prog_8_method_17_code 51 = .ok (.iload_n 2, 1) := by decide +kernel
theorem d_Z_reckon_52 : decode prog_8_method_17_code 52 = .ok (.iadd, 1) := by decide +kernel
theorem d_Z_reckon_53 : decode prog_8_method_17_code 53 = .ok (.iload_n 3, 1) := by decide +kernel
theorem d_Z_reckon_54 : decode prog_8_method_17_code 54 = .ok (.iastore, 1) := by decide +kernel
theorem d_Z_reckon_55 : decode prog_8_method_17_code 55 = .ok (.aload_n 0, 1) := by decide +kernel
theorem d_Z_reckon_56 : decode prog_8_method_17_code 56 = .ok (.iload_n 3, 1) := by decide +kernel
theorem d_Z_reckon_57 : decode prog_8_method_17_code 57 = .ok (.bipush (10), 2) := by decide +kernel
theorem d_Z_reckon_59 : decode prog_8_method_17_code 59 = .ok (.if_icmp .ge (10), 3) := by decide +kernel
theorem d_Z_reckon_62 : decode prog_8_method_17_code 62 = .ok (.bipush (48), 2) := by decide +kernel
theorem d_Z_reckon_64 : decode prog_8_method_17_code 64 = .ok (.iload_n 3, 1) := by decide +kernel
theorem d_Z_reckon_65 : decode prog_8_method_17_code 65 = .ok (.iadd, 1) := by decide +kernel
theorem d_Z_reckon_66 : decode prog_8_method_17_code 66 = .ok (.goto (10), 3) := by decide +kernel
theorem d_Z_reckon_69 : decode prog_8_method_17_code 69 = .ok (.bipush (97), 2) := by decide +kernel
theorem d_Z_reckon_71 : decode prog_8_method_17_code 71 = .ok (.iload_n 3, 1) := by decide +kernel
theorem d_Z_reckon_72 : decode prog_8_method_17_code 72 = .ok (.iadd, 1) := by decide +kernel
theorem d_Z_reckon_73 : decode prog_8_method_17_code 73 = .ok (.bipush (10), 2) := by decide +kernel
theorem d_Z_reckon_75 : decode prog_8_method_17_code 75 = .ok (.isub, 1) := by decide +kernel
theorem d_Z_reckon_76 : decode prog_8_method_17_code 76 = .ok (.iconst 1, 1) := by decide +kernel
theorem d_Z_reckon_77 : decode prog_8_method_17_code 77 = .ok (.invokevirtual (164), 3) := by decide +kernel
theorem d_Z_reckon_80 : decode prog_8_method_17_code 80 = .ok (.iinc 2 (1), 3) := by decide +kernel
theorem d_Z_reckon_83 : decode prog_8_method_17_code 83 = .ok (.goto (-74), 3) := by decide +kernel
theorem d_Z_reckon_86 : decode prog_8_method_17_code 86 = .ok (.aload_n 0, 1) := by decide +kernel
theorem d_Z_reckon_87 : decode prog_8_method_17_code 87 = .ok (.bipush (59), 2) := by decide +kernel
theorem d_Z_reckon_89 : decode prog_8_method_17_code 89 = .ok (.iconst 1, 1) := by decide +kernel
theorem d_Z_reckon_90 : decode prog_8_method_17_code 90 = .ok (.invokevirtual (164), 3) := by decide +kernel
theorem d_Z_reckon_93 : decode prog_8_method_17_code 93 = .ok (.return_, 1) := by decide +kernel
theorem fd_Z_27 : ax_fd "CipherNotationModel" 27 6 16 := ⟨nC6, nT6, 73, nY6, rfl, nW6, by decide, nw_4 153 (by decide +kernel) rfl, nO6, nA6⟩
def lp_Z_reckon_9 (F : Nat) (x1 : Int32) : Nat → Int32 → ax_σ → Option (ax_σ)
  | 0, _, _ => none
  | n + 1, x2, s =>
    if (16 : Int32) ≤ x2 then
      some s
    else
      bif ax_in ((2 : Int32) * x1) 4 then
      bif ax_in (((2 : Int32) * x1) + (1 : Int32)) 4 then
      bif ax_in (((16 : Int32) * x1) + x2) 32 then
      ax_let (ax_wI s 0 43 ((((16 : Int32) * x1) + x2)).toNatClampNeg ((((((x2).toInt64 * (s.2 0 44 (((2 : Int32) * x1)).toNatClampNeg)) + (s.2 0 44 ((((2 : Int32) * x1) + (1 : Int32))).toNatClampNeg)) - (((x2).toInt64 * (s.2 0 44 (((2 : Int32) * x1)).toNatClampNeg)) + (s.2 0 44 ((((2 : Int32) * x1) + (1 : Int32))).toNatClampNeg)) / (16 : Int64) * (16 : Int64))).toInt32)) (fun s4 =>
        Option.bind (
          if (10 : Int32) ≤ (((((x2).toInt64 * (s.2 0 44 (((2 : Int32) * x1)).toNatClampNeg)) + (s.2 0 44 ((((2 : Int32) * x1) + (1 : Int32))).toNatClampNeg)) - (((x2).toInt64 * (s.2 0 44 (((2 : Int32) * x1)).toNatClampNeg)) + (s.2 0 44 ((((2 : Int32) * x1) + (1 : Int32))).toNatClampNeg)) / (16 : Int64) * (16 : Int64))).toInt32 then
            some (((97 : Int32) + (((((x2).toInt64 * (s.2 0 44 (((2 : Int32) * x1)).toNatClampNeg)) + (s.2 0 44 ((((2 : Int32) * x1) + (1 : Int32))).toNatClampNeg)) - (((x2).toInt64 * (s.2 0 44 (((2 : Int32) * x1)).toNatClampNeg)) + (s.2 0 44 ((((2 : Int32) * x1) + (1 : Int32))).toNatClampNeg)) / (16 : Int64) * (16 : Int64))).toInt32) - (10 : Int32))
          else
            some ((48 : Int32) + (((((x2).toInt64 * (s.2 0 44 (((2 : Int32) * x1)).toNatClampNeg)) + (s.2 0 44 ((((2 : Int32) * x1) + (1 : Int32))).toNatClampNeg)) - (((x2).toInt64 * (s.2 0 44 (((2 : Int32) * x1)).toNatClampNeg)) + (s.2 0 44 ((((2 : Int32) * x1) + (1 : Int32))).toNatClampNeg)) / (16 : Int64) * (16 : Int64))).toInt32)) (fun v6 =>
          Option.bind (f_Z_print_II v6 (1 : Int32) s4) (fun s7 =>
            lp_Z_reckon_9 F x1 n (x2 + (1 : Int32)) s7)))
      else none
      else none
      else none
set_option maxHeartbeats 4000000 in
set_option maxRecDepth 100000 in
theorem pl_Z_reckon_9 {D : va_G} {cA : Nat → ClassId} {ad : Nat → Nat → Nat} {al : List (Nat × Nat)} {θ : ax_Θ} {l : Launch} {ρ : ax_ρ} {G : ax_G} {F : Nat} {x1 : Int32} (h0 : ax_M0 al) (hB : ax_B D cA ad al θ l "CipherNotationModel" prog_8_method_17_code 4 1 G) : ∀ (n : Nat) {x2 : Int32} {s : ax_σ} (out : ax_σ), lp_Z_reckon_9 F x1 n x2 s = some out → (∀ (es : ax_σ), out = es → ax_R G 4 0 0 (86, [(0, .inr (0, 38))], [], ax_m (es) ρ)) → ax_R G 4 0 0 (9, [(0, .inr (0, 38)), (1, .inl (.int (x1))), (2, .inl (.int (x2)))], [], ax_m (s) ρ) := by
  have hK := hB.K
  have hal := hB.la
  intro n
  induction n with
  | zero =>
    intro x2 s out h
    cases h
  | succ n ih =>
    intro x2 s out h KE
    rw [lp_Z_reckon_9] at h
    refine ax_bk hK (ax_fc (ax_v_ld (ax_r_iload_n (i := 2) d_Z_reckon_9 rfl)) (ax_fc (ax_v_pu (ax_r_bipush (v := 16) d_Z_reckon_10 (by decide))) ax_fn)) (y := (12, [(0, .inr (0, 38)), (1, .inl (.int (x1))), (2, .inl (.int (x2)))], [.inl (.int ((16 : Int32))), .inl (.int (x2))], ax_m (s) ρ)) rfl ⟨trivial, trivial, trivial⟩ ?_
    refine ax_ic_ge (tgt := 86) hK d_Z_reckon_12 (by decide) (fun c9 => ?_) (fun c9 => ?_)
    · replace h := ax_it c9 h
      cases h
      exact ax_Lsub [0] rfl (KE _ rfl)
    · replace h := ax_if c9 h
      obtain ⟨b1, h⟩ := ax_gd h
      obtain ⟨b2, h⟩ := ax_gd h
      obtain ⟨b3, h⟩ := ax_gd h
      refine ax_bk hK (ax_fc (ax_v_ld (ax_r_iload_n (i := 2) d_Z_reckon_15 rfl)) (ax_fc (ax_v_pu (ax_r_i2l d_Z_reckon_16)) (ax_fc (ax_v_ld (ax_r_aload_n (i := 0) d_Z_reckon_17 rfl)) (ax_fc (ax_w_gf (e := none) hal d_Z_reckon_18 fd_Z_30) (ax_fc (ax_v_pu (ax_r_iconst (v := 2) d_Z_reckon_21 (by decide))) (ax_fc (ax_v_ld (ax_r_iload_n (i := 1) d_Z_reckon_22 rfl)) (ax_fc (ax_v_pu (ax_r_imul d_Z_reckon_23)) (ax_fc (ax_w_lald hal d_Z_reckon_24) (ax_fc (ax_v_pu (ax_r_lmul d_Z_reckon_25)) (ax_fc (ax_v_ld (ax_r_aload_n (i := 0) d_Z_reckon_26 rfl)) (ax_fc (ax_w_gf (e := none) hal d_Z_reckon_27 fd_Z_30) (ax_fc (ax_v_pu (ax_r_iconst (v := 2) d_Z_reckon_30 (by decide))) (ax_fc (ax_v_ld (ax_r_iload_n (i := 1) d_Z_reckon_31 rfl)) (ax_fc (ax_v_pu (ax_r_imul d_Z_reckon_32)) (ax_fc (ax_v_pu (ax_r_iconst (v := 1) d_Z_reckon_33 (by decide))) (ax_fc (ax_v_pu (ax_r_iadd d_Z_reckon_34)) (ax_fc (ax_w_lald hal d_Z_reckon_35) (ax_fc (ax_v_pu (ax_r_ladd d_Z_reckon_36)) (ax_fc (ax_v_ldc2 (v := 16) d_Z_reckon_37 (nw_5 192 (by decide +kernel) rfl)) (ax_fc (ax_v_lrem d_Z_reckon_40) (ax_fc (ax_v_pu (ax_r_l2i d_Z_reckon_41)) (ax_fc (ax_v_so (ax_r_istore_n (i := 3) d_Z_reckon_42 rfl)) (ax_fc (ax_v_ld (ax_r_aload_n (i := 0) d_Z_reckon_43 rfl)) (ax_fc (ax_w_gf (e := none) hal d_Z_reckon_44 fd_Z_27) (ax_fc (ax_v_pu (ax_r_bipush (v := 16) d_Z_reckon_47 (by decide))) (ax_fc (ax_v_ld (ax_r_iload_n (i := 1) d_Z_reckon_49 rfl)) (ax_fc (ax_v_pu (ax_r_imul d_Z_reckon_50)) (ax_fc (ax_v_ld (ax_r_iload_n (i := 2) d_Z_reckon_51 rfl)) (ax_fc (ax_v_pu (ax_r_iadd d_Z_reckon_52)) (ax_fc (ax_v_ld (ax_r_iload_n (i := 3) d_Z_reckon_53 rfl)) (ax_fc (ax_w_iast hal d_Z_reckon_54) ax_fn))))))))))))))))))))))))))))))) (y := (55, [(3, .inl (.int ((((((x2).toInt64 * (s.2 0 44 (((2 : Int32) * x1)).toNatClampNeg)) + (s.2 0 44 ((((2 : Int32) * x1) + (1 : Int32))).toNatClampNeg)) - (((x2).toInt64 * (s.2 0 44 (((2 : Int32) * x1)).toNatClampNeg)) + (s.2 0 44 ((((2 : Int32) * x1) + (1 : Int32))).toNatClampNeg)) / (16 : Int64) * (16 : Int64))).toInt32))), (0, .inr (0, 38)), (1, .inl (.int (x1))), (2, .inl (.int (x2)))], [], ax_m (ax_wI s 0 43 ((((16 : Int32) * x1) + x2)).toNatClampNeg ((((((x2).toInt64 * (s.2 0 44 (((2 : Int32) * x1)).toNatClampNeg)) + (s.2 0 44 ((((2 : Int32) * x1) + (1 : Int32))).toNatClampNeg)) - (((x2).toInt64 * (s.2 0 44 (((2 : Int32) * x1)).toNatClampNeg)) + (s.2 0 44 ((((2 : Int32) * x1) + (1 : Int32))).toNatClampNeg)) / (16 : Int64) * (16 : Int64))).toInt32)) ρ)) rfl ⟨trivial, trivial, trivial, (h0 38 rfl), trivial, trivial, trivial, ⟨(h0 44 rfl), ax_inp b1⟩, trivial, trivial, (h0 38 rfl), trivial, trivial, trivial, trivial, trivial, ⟨(h0 44 rfl), ax_inp b2⟩, trivial, trivial, (by decide), trivial, trivial, trivial, (h0 38 rfl), trivial, trivial, trivial, trivial, trivial, trivial, ⟨(h0 43 rfl), ax_inp b3⟩, trivial⟩ ?_
      refine ax_lt (Q := fun ςς => ax_R G 4 0 0 (55, [(3, .inl (.int ((((((x2).toInt64 * (s.2 0 44 (((2 : Int32) * x1)).toNatClampNeg)) + (s.2 0 44 ((((2 : Int32) * x1) + (1 : Int32))).toNatClampNeg)) - (((x2).toInt64 * (s.2 0 44 (((2 : Int32) * x1)).toNatClampNeg)) + (s.2 0 44 ((((2 : Int32) * x1) + (1 : Int32))).toNatClampNeg)) / (16 : Int64) * (16 : Int64))).toInt32))), (0, .inr (0, 38)), (1, .inl (.int (x1))), (2, .inl (.int (x2)))], [], ax_m (ςς) ρ)) h (fun s4 h => ?_)
      refine ax_bk hK (ax_fc (ax_v_ld (ax_r_aload_n (i := 0) d_Z_reckon_55 rfl)) (ax_fc (ax_v_ld (ax_r_iload_n (i := 3) d_Z_reckon_56 rfl)) (ax_fc (ax_v_pu (ax_r_bipush (v := 10) d_Z_reckon_57 (by decide))) ax_fn))) (y := (59, [(3, .inl (.int ((((((x2).toInt64 * (s.2 0 44 (((2 : Int32) * x1)).toNatClampNeg)) + (s.2 0 44 ((((2 : Int32) * x1) + (1 : Int32))).toNatClampNeg)) - (((x2).toInt64 * (s.2 0 44 (((2 : Int32) * x1)).toNatClampNeg)) + (s.2 0 44 ((((2 : Int32) * x1) + (1 : Int32))).toNatClampNeg)) / (16 : Int64) * (16 : Int64))).toInt32))), (0, .inr (0, 38)), (1, .inl (.int (x1))), (2, .inl (.int (x2)))], [.inl (.int ((10 : Int32))), .inl (.int ((((((x2).toInt64 * (s.2 0 44 (((2 : Int32) * x1)).toNatClampNeg)) + (s.2 0 44 ((((2 : Int32) * x1) + (1 : Int32))).toNatClampNeg)) - (((x2).toInt64 * (s.2 0 44 (((2 : Int32) * x1)).toNatClampNeg)) + (s.2 0 44 ((((2 : Int32) * x1) + (1 : Int32))).toNatClampNeg)) / (16 : Int64) * (16 : Int64))).toInt32)), .inr (0, 38)], ax_m (s4) ρ)) rfl ⟨trivial, trivial, trivial, trivial⟩ ?_
      obtain ⟨w10, hw10, h⟩ := ax_bd h
      have KEw10 : ∀ (v6 : Int32), w10 = v6 → ax_R G 4 0 0 (76, [(0, .inr (0, 38)), (1, .inl (.int (x1))), (2, .inl (.int (x2)))], [.inl (.int (v6)), .inr (0, 38)], ax_m (s4) ρ) := by
        intro v6 e9
        subst w10
        try dsimp only at h
        refine ax_bk hK (ax_fc (ax_v_pu (ax_r_iconst (v := 1) d_Z_reckon_76 (by decide))) ax_fn) (y := (77, [(0, .inr (0, 38)), (1, .inl (.int (x1))), (2, .inl (.int (x2)))], [.inl (.int ((1 : Int32))), .inl (.int (v6)), .inr (0, 38)], ax_m (s4) ρ)) rfl ⟨trivial, trivial⟩ ?_
        obtain ⟨s7, q8, h⟩ := ax_bd h
        refine ax_bV (rest := []) hB (t_Z_print_II h0 q8) cw_Z_164 im_Z_print_II se_Z_print_II d_Z_reckon_77 (h0 38 rfl) rfl rfl (by decide) (by decide) rfl rfl (Nat.le_of_ble_eq_true rfl) ?_
        change ax_R G 4 0 0 (80, [(0, .inr (0, 38)), (1, .inl (.int (x1))), (2, .inl (.int (x2)))], [], ax_m (s7) ρ)
        refine ax_bk hK (ax_fc (ax_v_ii (d := 1) d_Z_reckon_80 (by decide)) (ax_fc (ax_v_go (tgt := 9) d_Z_reckon_83 (by decide)) ax_fn)) (y := (9, [(2, .inl (.int ((x2 + (1 : Int32))))), (0, .inr (0, 38)), (1, .inl (.int (x1)))], [], ax_m (s7) ρ)) rfl ⟨trivial, trivial, trivial⟩ ?_
        exact ax_Lsub [1, 2, 0] rfl (ih _ h KE)
      clear h
      have h := hw10
      refine ax_ic_ge (tgt := 69) hK d_Z_reckon_59 (by decide) (fun c5 => ?_) (fun c5 => ?_)
      · replace h := ax_it c5 h
        refine ax_bk hK (ax_fc (ax_v_pu (ax_r_bipush (v := 97) d_Z_reckon_69 (by decide))) (ax_fc (ax_v_ld (ax_r_iload_n (i := 3) d_Z_reckon_71 rfl)) (ax_fc (ax_v_pu (ax_r_iadd d_Z_reckon_72)) (ax_fc (ax_v_pu (ax_r_bipush (v := 10) d_Z_reckon_73 (by decide))) (ax_fc (ax_v_pu (ax_r_isub d_Z_reckon_75)) ax_fn))))) (y := (76, [(3, .inl (.int ((((((x2).toInt64 * (s.2 0 44 (((2 : Int32) * x1)).toNatClampNeg)) + (s.2 0 44 ((((2 : Int32) * x1) + (1 : Int32))).toNatClampNeg)) - (((x2).toInt64 * (s.2 0 44 (((2 : Int32) * x1)).toNatClampNeg)) + (s.2 0 44 ((((2 : Int32) * x1) + (1 : Int32))).toNatClampNeg)) / (16 : Int64) * (16 : Int64))).toInt32))), (0, .inr (0, 38)), (1, .inl (.int (x1))), (2, .inl (.int (x2)))], [.inl (.int ((((97 : Int32) + (((((x2).toInt64 * (s.2 0 44 (((2 : Int32) * x1)).toNatClampNeg)) + (s.2 0 44 ((((2 : Int32) * x1) + (1 : Int32))).toNatClampNeg)) - (((x2).toInt64 * (s.2 0 44 (((2 : Int32) * x1)).toNatClampNeg)) + (s.2 0 44 ((((2 : Int32) * x1) + (1 : Int32))).toNatClampNeg)) / (16 : Int64) * (16 : Int64))).toInt32) - (10 : Int32)))), .inr (0, 38)], ax_m (s4) ρ)) rfl ⟨trivial, trivial, trivial, trivial, trivial, trivial⟩ ?_
        cases h
        exact ax_Lsub [1, 2, 3] rfl (KEw10 _ rfl)
      · replace h := ax_if c5 h
        refine ax_bk hK (ax_fc (ax_v_pu (ax_r_bipush (v := 48) d_Z_reckon_62 (by decide))) (ax_fc (ax_v_ld (ax_r_iload_n (i := 3) d_Z_reckon_64 rfl)) (ax_fc (ax_v_pu (ax_r_iadd d_Z_reckon_65)) (ax_fc (ax_v_go (tgt := 76) d_Z_reckon_66 (by decide)) ax_fn)))) (y := (76, [(3, .inl (.int ((((((x2).toInt64 * (s.2 0 44 (((2 : Int32) * x1)).toNatClampNeg)) + (s.2 0 44 ((((2 : Int32) * x1) + (1 : Int32))).toNatClampNeg)) - (((x2).toInt64 * (s.2 0 44 (((2 : Int32) * x1)).toNatClampNeg)) + (s.2 0 44 ((((2 : Int32) * x1) + (1 : Int32))).toNatClampNeg)) / (16 : Int64) * (16 : Int64))).toInt32))), (0, .inr (0, 38)), (1, .inl (.int (x1))), (2, .inl (.int (x2)))], [.inl (.int (((48 : Int32) + (((((x2).toInt64 * (s.2 0 44 (((2 : Int32) * x1)).toNatClampNeg)) + (s.2 0 44 ((((2 : Int32) * x1) + (1 : Int32))).toNatClampNeg)) - (((x2).toInt64 * (s.2 0 44 (((2 : Int32) * x1)).toNatClampNeg)) + (s.2 0 44 ((((2 : Int32) * x1) + (1 : Int32))).toNatClampNeg)) / (16 : Int64) * (16 : Int64))).toInt32))), .inr (0, 38)], ax_m (s4) ρ)) rfl ⟨trivial, trivial, trivial, trivial, trivial⟩ ?_
        cases h
        exact ax_Lsub [1, 2, 3] rfl (KEw10 _ rfl)
def f_Z_reckon (F : Nat) (s : ax_σ) : Option (ax_σ) :=
  Option.bind (lp_Z_reckon_9 F ((s.1 0 38 14) - (1 : Int32)) F (0 : Int32) s) (fun s10 =>
    Option.bind (f_Z_print_II (59 : Int32) (1 : Int32) s10) (fun s11 =>
      some (s11)))
set_option maxHeartbeats 4000000 in
set_option maxRecDepth 100000 in
theorem t_Z_reckon {l : Launch} {D : va_G} {cA : Nat → ClassId} {ad : Nat → Nat → Nat} {al : List (Nat × Nat)} {θ : ax_Θ} {ρ : ax_ρ} {F : Nat} (h0 : ax_M0 al)  {s : ax_σ} {s0 : ax_σ} (h : f_Z_reckon F s = some s0) : ax_T l D cA ad al θ y_Z_reckon (.code y_Z_reckon prog_8_method_17_code 4 none) 1 [.inr (0, 38)] (ax_m s ρ) none (ax_m s0 ρ) := by
  refine ax_T_of (own := "CipherNotationModel") (by decide) rfl (Nat.le_of_ble_eq_true rfl) [(0, .inr (0, 38))] rfl ?_
  intro G hA
  have hB := hA.B
  have hK := hB.K
  have hal := hB.la
  unfold f_Z_reckon at h
  refine ax_bk hK (ax_fc (ax_v_ld (ax_r_aload_n (i := 0) d_Z_reckon_0 rfl)) (ax_fc (ax_w_gf (e := none) hal d_Z_reckon_1 fd_Z_177) (ax_fc (ax_v_pu (ax_r_iconst (v := 1) d_Z_reckon_4 (by decide))) (ax_fc (ax_v_pu (ax_r_isub d_Z_reckon_5)) (ax_fc (ax_v_so (ax_r_istore_n (i := 1) d_Z_reckon_6 rfl)) (ax_fc (ax_v_pu (ax_r_iconst (v := 0) d_Z_reckon_7 (by decide))) (ax_fc (ax_v_so (ax_r_istore_n (i := 2) d_Z_reckon_8 rfl)) ax_fn))))))) (y := (9, [(2, .inl (.int ((0 : Int32)))), (1, .inl (.int (((s.1 0 38 14) - (1 : Int32))))), (0, .inr (0, 38))], [], ax_m (s) ρ)) rfl ⟨trivial, (h0 38 rfl), trivial, trivial, trivial, trivial, trivial, trivial⟩ ?_
  obtain ⟨w13, hw13, h⟩ := ax_bd h
  refine ax_Lsub [2, 1, 0] rfl (pl_Z_reckon_9 h0 hB F _ hw13 ?_)
  intro s10 e9
  subst w13
  try dsimp only at h
  change ax_R G 4 0 0 (86, [(0, .inr (0, 38))], [], ax_m (s10) ρ)
  refine ax_bk hK (ax_fc (ax_v_ld (ax_r_aload_n (i := 0) d_Z_reckon_86 rfl)) (ax_fc (ax_v_pu (ax_r_bipush (v := 59) d_Z_reckon_87 (by decide))) (ax_fc (ax_v_pu (ax_r_iconst (v := 1) d_Z_reckon_89 (by decide))) ax_fn))) (y := (90, [(0, .inr (0, 38))], [.inl (.int ((1 : Int32))), .inl (.int ((59 : Int32))), .inr (0, 38)], ax_m (s10) ρ)) rfl ⟨trivial, trivial, trivial, trivial⟩ ?_
  obtain ⟨s11, q12, h⟩ := ax_bd h
  refine ax_bV (rest := []) hB (t_Z_print_II h0 q12) cw_Z_164 im_Z_print_II se_Z_print_II d_Z_reckon_90 (h0 38 rfl) rfl rfl (by decide) (by decide) rfl rfl (Nat.le_of_ble_eq_true rfl) ?_
  change ax_R G 4 0 0 (93, [(0, .inr (0, 38))], [], ax_m (s11) ρ)
  cases h
  exact ax_vret hA d_Z_reckon_93
