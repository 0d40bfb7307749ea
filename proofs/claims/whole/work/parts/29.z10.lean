def y_Z_number : MethodName := ⟨"CipherNotationModel", "number", "(I)I"⟩
theorem d_Z_number_0 : decode prog_8_method_57_code 0 = .ok (.aload_n 0, 1) := by decide +kernel
theorem d_Z_number_1 : decode prog_8_method_57_code 1 = .ok (.aload_n 0, 1) := by decide +kernel
theorem d_Z_number_2 : decode prog_8_method_57_code 2 = .ok (.getfield (384), 3) := by decide +kernel
theorem d_Z_number_5 : decode prog_8_method_57_code 5 = .ok (.ifCond .ne (7), 3) := by decide +kernel
theorem d_Z_number_8 : decode prog_8_method_57_code 8 = .ok (.iconst 1, 1) := by decide +kernel
theorem d_Z_number_9 : decode prog_8_method_57_code 9 = .ok (.goto (18), 3) := by decide +kernel
theorem d_Z_number_12 : decode prog_8_method_57_code 12 = .ok (.iload_n 1, 1) := by decide +kernel
theorem d_Z_number_13 : decode prog_8_method_57_code 13 = .ok (.ifCond .lt (9), 3) := by decide +kernel
theorem d_Z_number_16 : decode prog_8_method_57_code 16 = .ok (.iload_n 1, 1) := by decide +kernel
theorem d_Z_number_17 : decode prog_8_method_57_code 17 = .ok (.bipush (7), 2) := by decide +kernel
theorem d_Z_number_19 : decode prog_8_method_57_code 19 = .ok (.if_icmp .le (7), 3) := by decide +kernel
theorem d_Z_number_22 : decode prog_8_method_57_code 22 = .ok (.iconst 2, 1) := by decide +kernel
theorem d_Z_number_23 : decode prog_8_method_57_code 23 = .ok (.goto (4), 3) := by decide +kernel
theorem d_Z_number_26 : decode prog_8_method_57_code 26 = .ok (.iconst 0, 1) := by decide +kernel
theorem d_Z_number_27 : decode prog_8_method_57_code 27 = .ok (.putfield (145), 3) := by decide +kernel
theorem d_Z_number_30 : decode prog_8_method_57_code 30 = .ok (.aload_n 0, 1) := by decide +kernel
theorem d_Z_number_31 : decode prog_8_method_57_code 31 = .ok (.getfield (145), 3) := by decide +kernel
theorem d_Z_number_34 : decode prog_8_method_57_code 34 = .ok (.ifCond .le (5), 3) := by decide +kernel
theorem d_Z_number_37 : decode prog_8_method_57_code 37 = .ok (.iconst 0, 1) := by decide +kernel
theorem d_Z_number_38 : decode prog_8_method_57_code 38 = .ok (.ireturn, 1) := by decide +kernel
theorem d_Z_number_39 : decode prog_8_method_57_code 39 = .ok (.iload_n 1, 1) := by decide +kernel
theorem d_Z_number_40 : decode prog_8_method_57_code 40 = .ok (.iconst 3, 1) := by decide +kernel
theorem d_Z_number_41 : decode prog_8_method_57_code 41 = .ok (.if_icmp .ge (13), 3) := by decide +kernel
theorem d_Z_number_44 : decode prog_8_method_57_code 44 = .ok (.aload_n 0, 1) := by decide +kernel
theorem d_Z_number_45 : decode prog_8_method_57_code 45 = .ok (.getfield (20), 3) := by decide +kernel
theorem d_Z_number_48 : decode prog_8_method_57_code 48 = .ok (.iload_n 1, 1) := by decide +kernel
theorem d_Z_number_49 : decode prog_8_method_57_code 49 = .ok (.laload, 1) := by decide +kernel
theorem d_Z_number_50 : decode prog_8_method_57_code 50 = .ok (.l2i, 1) := by decide +kernel
theorem d_Z_number_51 : decode prog_8_method_57_code 51 = .ok (.goto (56), 3) := by decide +kernel
theorem d_Z_number_54 : decode prog_8_method_57_code 54 = .ok (.iload_n 1, 1) := by decide +kernel
theorem d_Z_number_55 : decode prog_8_method_57_code 55 = .ok (.iconst 3, 1) := by decide +kernel
theorem d_Z_number_56 : decode prog_8_method_57_code 56 = .ok (.if_icmp .ne (10), 3) := by decide +kernel
theorem d_Z_number_59 : decode prog_8_method_57_code 59 = .ok (.aload_n 0, 1) := by decide +kernel
theorem d_Z_number_60 : decode prog_8_method_57_code 60 = .ok (.getfield (177), 3) := by decide +kernel
theorem d_Z_number_63 : decode prog_8_method_57_code 63 = .ok (.goto (44), 3) := by decide +kernel
theorem d_Z_number_66 : decode prog_8_method_57_code 66 = .ok (.iload_n 1, 1) := by decide +kernel
theorem d_Z_number_67 : decode prog_8_method_57_code 67 = .ok (.iconst 4, 1) := by decide +kernel
theorem d_Z_number_68 : decode prog_8_method_57_code 68 = .ok (.if_icmp .ne (10), 3) := by decide +kernel
theorem d_Z_number_71 : decode prog_8_method_57_code 71 = .ok (.aload_n 0, 1) := by decide +kernel
theorem d_Z_number_72 : decode prog_8_method_57_code 72 = .ok (.getfield (359), 3) := by decide +kernel
theorem d_Z_number_75 : decode prog_8_method_57_code 75 = .ok (.goto (32), 3) := by decide +kernel
theorem d_Z_number_78 : decode prog_8_method_57_code 78 = .ok (.iload_n 1, 1) := by decide +kernel
theorem d_Z_number_79 : decode prog_8_method_57_code 79 = .ok (.iconst 5, 1) := by decide +kernel
theorem d_Z_number_80 : decode prog_8_method_57_code 80 = .ok (.if_icmp .ne (10), 3) := by decide +kernel
theorem d_Z_number_83 : decode prog_8_method_57_code 83 = .ok (.aload_n 0, 1) := by decide +kernel
theorem d_Z_number_84 : decode prog_8_method_57_code 84 = .ok (.getfield (362), 3) := by decide +kernel
theorem d_Z_number_87 : decode prog_8_method_57_code 87 = .ok (.goto (20), 3) := by decide +kernel
theorem d_Z_number_90 : decode prog_8_method_57_code 90 = .ok (.iload_n 1, 1) := by decide +kernel
theorem d_Z_number_91 : decode prog_8_method_57_code 91 = .ok (.bipush (6), 2) := by decide +kernel
theorem d_Z_number_93 : decode prog_8_method_57_code 93 = .ok (.if_icmp .ne (10), 3) := by decide +kernel
theorem d_Z_number_96 : decode prog_8_method_57_code 96 = .ok (.aload_n 0, 1) := by decide +kernel
theorem d_Z_number_97 : decode prog_8_method_57_code 97 = .ok (.getfield (365), 3) := by decide +kernel
theorem d_Z_number_100 : decode prog_8_method_57_code 100 = .ok (.goto (7), 3) := by decide +kernel
theorem d_Z_number_103 : decode prog_8_method_57_code 103 = .ok (.aload_n 0, 1) := by decide +kernel
theorem d_Z_number_104 : decode prog_8_method_57_code 104 = .ok (.getfield (356), 3) := by decide +kernel
theorem d_Z_number_107 : decode prog_8_method_57_code 107 = .ok (.ireturn, 1) := by decide +kernel
def f_Z_number (a1 : Int32) (s : ax_σ) : Option (Int32 × ax_σ) :=
  Option.bind (
    if (s.1 0 38 5) = (0 : Int32) then
      some (1 : Int32)
    else
      Option.bind (
        if a1 < (0 : Int32) then
          some true
        else
          if a1 ≤ (7 : Int32) then
            some false
          else
            some true) (fun w3 => bif w3 then
        some (2 : Int32)
      else
        some (0 : Int32))) (fun v5 =>
    ax_let (ax_wI s 0 38 0 v5) (fun s6 =>
      if (s6.1 0 38 0) ≤ (0 : Int32) then
        if (3 : Int32) ≤ a1 then
          if a1 = (3 : Int32) then
            some (((s6.1 0 38 14), s6))
          else
            if a1 = (4 : Int32) then
              some (((s6.1 0 38 55), s6))
            else
              if a1 = (5 : Int32) then
                some (((s6.1 0 38 59), s6))
              else
                if a1 = (6 : Int32) then
                  some (((s6.1 0 38 63), s6))
                else
                  some (((s6.1 0 38 64), s6))
        else
          bif ax_in a1 3 then
          some ((((s6.2 0 41 (a1).toNatClampNeg)).toInt32, s6))
          else none
      else
        some (((0 : Int32), s6))))
set_option maxHeartbeats 4000000 in
set_option maxRecDepth 100000 in
theorem t_Z_number {l : Launch} {D : va_G} {cA : Nat → ClassId} {ad : Nat → Nat → Nat} {al : List (Nat × Nat)} {θ : ax_Θ} {ρ : ax_ρ} (h0 : ax_M0 al) {a1 : Int32} {s : ax_σ} {r0 : Int32} {s0 : ax_σ} (h : f_Z_number a1 s = some (r0, s0)) : ax_T l D cA ad al θ y_Z_number (.code y_Z_number prog_8_method_57_code 2 (some .int)) 0 [.inr (0, 38), .inl (.int (a1))] (ax_m s ρ) (some (.inl (.int r0))) (ax_m s0 ρ) := by
  refine ax_T_of (own := "CipherNotationModel") (by decide) rfl (Nat.le_of_ble_eq_true rfl) [(0, .inr (0, 38)), (1, .inl (.int (a1)))] rfl ?_
  intro G hA
  have hB := hA.B
  have hK := hB.K
  have hal := hB.la
  unfold f_Z_number at h
  refine ax_bk hK (ax_fc (ax_v_ld (ax_r_aload_n (i := 0) d_Z_number_0 rfl)) (ax_fc (ax_v_ld (ax_r_aload_n (i := 0) d_Z_number_1 rfl)) (ax_fc (ax_w_gf (e := none) hal d_Z_number_2 fd_Z_384) ax_fn))) (y := (5, [(0, .inr (0, 38)), (1, .inl (.int (a1)))], [.inl (.int ((s.1 0 38 5))), .inr (0, 38)], ax_m (s) ρ)) rfl ⟨trivial, trivial, (h0 38 rfl), trivial⟩ ?_
  obtain ⟨w14, hw14, h⟩ := ax_bd h
  have KEw14 : ∀ (v5 : Int32), w14 = v5 → ax_R G 2 0 0 (27, [(0, .inr (0, 38)), (1, .inl (.int (a1)))], [.inl (.int (v5)), .inr (0, 38)], ax_m (s) ρ) := by
    intro v5 e9
    subst w14
    try dsimp only at h
    refine ax_bk hK (ax_fc (ax_w_pf (tc := 0) hal d_Z_number_27 fp_Z_145 rfl) ax_fn) (y := (30, [(0, .inr (0, 38)), (1, .inl (.int (a1)))], [], ax_m (ax_wI s 0 38 0 v5) ρ)) rfl ⟨(h0 38 rfl), trivial⟩ ?_
    refine ax_lt (Q := fun ςς => ax_R G 2 0 0 (30, [(0, .inr (0, 38)), (1, .inl (.int (a1)))], [], ax_m (ςς) ρ)) h (fun s6 h => ?_)
    refine ax_bk hK (ax_fc (ax_v_ld (ax_r_aload_n (i := 0) d_Z_number_30 rfl)) (ax_fc (ax_w_gf (e := none) hal d_Z_number_31 fd_Z_145) ax_fn)) (y := (34, [(0, .inr (0, 38)), (1, .inl (.int (a1)))], [.inl (.int ((s6.1 0 38 0)))], ax_m (s6) ρ)) rfl ⟨trivial, (h0 38 rfl), trivial⟩ ?_
    refine ax_if_le (tgt := 39) hK d_Z_number_34 (by decide) (fun c13 => ?_) (fun c13 => ?_)
    · replace h := ax_it c13 h
      refine ax_bk hK (ax_fc (ax_v_ld (ax_r_iload_n (i := 1) d_Z_number_39 rfl)) (ax_fc (ax_v_pu (ax_r_iconst (v := 3) d_Z_number_40 (by decide))) ax_fn)) (y := (41, [(0, .inr (0, 38)), (1, .inl (.int (a1)))], [.inl (.int ((3 : Int32))), .inl (.int (a1))], ax_m (s6) ρ)) rfl ⟨trivial, trivial, trivial⟩ ?_
      refine ax_ic_ge (tgt := 54) hK d_Z_number_41 (by decide) (fun c12 => ?_) (fun c12 => ?_)
      · replace h := ax_it c12 h
        refine ax_bk hK (ax_fc (ax_v_ld (ax_r_iload_n (i := 1) d_Z_number_54 rfl)) (ax_fc (ax_v_pu (ax_r_iconst (v := 3) d_Z_number_55 (by decide))) ax_fn)) (y := (56, [(0, .inr (0, 38)), (1, .inl (.int (a1)))], [.inl (.int ((3 : Int32))), .inl (.int (a1))], ax_m (s6) ρ)) rfl ⟨trivial, trivial, trivial⟩ ?_
        refine ax_ic_ne (tgt := 66) hK d_Z_number_56 (by decide) (fun c10 => ?_) (fun c10 => ?_)
        · replace h := ax_if c10 h
          refine ax_bk hK (ax_fc (ax_v_ld (ax_r_iload_n (i := 1) d_Z_number_66 rfl)) (ax_fc (ax_v_pu (ax_r_iconst (v := 4) d_Z_number_67 (by decide))) ax_fn)) (y := (68, [(0, .inr (0, 38)), (1, .inl (.int (a1)))], [.inl (.int ((4 : Int32))), .inl (.int (a1))], ax_m (s6) ρ)) rfl ⟨trivial, trivial, trivial⟩ ?_
          refine ax_ic_ne (tgt := 78) hK d_Z_number_68 (by decide) (fun c9 => ?_) (fun c9 => ?_)
          · replace h := ax_if c9 h
            refine ax_bk hK (ax_fc (ax_v_ld (ax_r_iload_n (i := 1) d_Z_number_78 rfl)) (ax_fc (ax_v_pu (ax_r_iconst (v := 5) d_Z_number_79 (by decide))) ax_fn)) (y := (80, [(0, .inr (0, 38)), (1, .inl (.int (a1)))], [.inl (.int ((5 : Int32))), .inl (.int (a1))], ax_m (s6) ρ)) rfl ⟨trivial, trivial, trivial⟩ ?_
            refine ax_ic_ne (tgt := 90) hK d_Z_number_80 (by decide) (fun c8 => ?_) (fun c8 => ?_)
            · replace h := ax_if c8 h
              refine ax_bk hK (ax_fc (ax_v_ld (ax_r_iload_n (i := 1) d_Z_number_90 rfl)) (ax_fc (ax_v_pu (ax_r_bipush (v := 6) d_Z_number_91 (by decide))) ax_fn)) (y := (93, [(0, .inr (0, 38)), (1, .inl (.int (a1)))], [.inl (.int ((6 : Int32))), .inl (.int (a1))], ax_m (s6) ρ)) rfl ⟨trivial, trivial, trivial⟩ ?_
              refine ax_ic_ne (tgt := 103) hK d_Z_number_93 (by decide) (fun c7 => ?_) (fun c7 => ?_)
              · replace h := ax_if c7 h
                refine ax_bk hK (ax_fc (ax_v_ld (ax_r_aload_n (i := 0) d_Z_number_103 rfl)) (ax_fc (ax_w_gf (e := none) hal d_Z_number_104 fd_Z_356) ax_fn)) (y := (107, [(0, .inr (0, 38)), (1, .inl (.int (a1)))], [.inl (.int ((s6.1 0 38 64)))], ax_m (s6) ρ)) rfl ⟨trivial, (h0 38 rfl), trivial⟩ ?_
                cases h
                exact ax_iret hA d_Z_number_107
              · replace h := ax_it c7 h
                refine ax_bk hK (ax_fc (ax_v_ld (ax_r_aload_n (i := 0) d_Z_number_96 rfl)) (ax_fc (ax_w_gf (e := none) hal d_Z_number_97 fd_Z_365) (ax_fc (ax_v_go (tgt := 107) d_Z_number_100 (by decide)) ax_fn))) (y := (107, [(0, .inr (0, 38)), (1, .inl (.int (a1)))], [.inl (.int ((s6.1 0 38 63)))], ax_m (s6) ρ)) rfl ⟨trivial, (h0 38 rfl), trivial, trivial⟩ ?_
                cases h
                exact ax_iret hA d_Z_number_107
            · replace h := ax_it c8 h
              refine ax_bk hK (ax_fc (ax_v_ld (ax_r_aload_n (i := 0) d_Z_number_83 rfl)) (ax_fc (ax_w_gf (e := none) hal d_Z_number_84 fd_Z_362) (ax_fc (ax_v_go (tgt := 107) d_Z_number_87 (by decide)) ax_fn))) (y := (107, [(0, .inr (0, 38)), (1, .inl (.int (a1)))], [.inl (.int ((s6.1 0 38 59)))], ax_m (s6) ρ)) rfl ⟨trivial, (h0 38 rfl), trivial, trivial⟩ ?_
              cases h
              exact ax_iret hA d_Z_number_107
          · replace h := ax_it c9 h
            refine ax_bk hK (ax_fc (ax_v_ld (ax_r_aload_n (i := 0) d_Z_number_71 rfl)) (ax_fc (ax_w_gf (e := none) hal d_Z_number_72 fd_Z_359) (ax_fc (ax_v_go (tgt := 107) d_Z_number_75 (by decide)) ax_fn))) (y := (107, [(0, .inr (0, 38)), (1, .inl (.int (a1)))], [.inl (.int ((s6.1 0 38 55)))], ax_m (s6) ρ)) rfl ⟨trivial, (h0 38 rfl), trivial, trivial⟩ ?_
            cases h
            exact ax_iret hA d_Z_number_107
        · replace h := ax_it c10 h
          refine ax_bk hK (ax_fc (ax_v_ld (ax_r_aload_n (i := 0) d_Z_number_59 rfl)) (ax_fc (ax_w_gf (e := none) hal d_Z_number_60 fd_Z_177) (ax_fc (ax_v_go (tgt := 107) d_Z_number_63 (by decide)) ax_fn))) (y := (107, [(0, .inr (0, 38)), (1, .inl (.int (a1)))], [.inl (.int ((s6.1 0 38 14)))], ax_m (s6) ρ)) rfl ⟨trivial, (h0 38 rfl), trivial, trivial⟩ ?_
          cases h
          exact ax_iret hA d_Z_number_107
      · replace h := ax_if c12 h
        obtain ⟨b11, h⟩ := ax_gd h
        refine ax_bk hK (ax_fc (ax_v_ld (ax_r_aload_n (i := 0) d_Z_number_44 rfl)) (ax_fc (ax_w_gf (e := none) hal d_Z_number_45 fd_Z_20) (ax_fc (ax_v_ld (ax_r_iload_n (i := 1) d_Z_number_48 rfl)) (ax_fc (ax_w_lald hal d_Z_number_49) (ax_fc (ax_v_pu (ax_r_l2i d_Z_number_50)) (ax_fc (ax_v_go (tgt := 107) d_Z_number_51 (by decide)) ax_fn)))))) (y := (107, [(0, .inr (0, 38)), (1, .inl (.int (a1)))], [.inl (.int (((s6.2 0 41 (a1).toNatClampNeg)).toInt32))], ax_m (s6) ρ)) rfl ⟨trivial, (h0 38 rfl), trivial, ⟨(h0 41 rfl), ax_inp b11⟩, trivial, trivial, trivial⟩ ?_
        cases h
        exact ax_iret hA d_Z_number_107
    · replace h := ax_if c13 h
      refine ax_bk hK (ax_fc (ax_v_pu (ax_r_iconst (v := 0) d_Z_number_37 (by decide))) ax_fn) (y := (38, [(0, .inr (0, 38)), (1, .inl (.int (a1)))], [.inl (.int ((0 : Int32)))], ax_m (s6) ρ)) rfl ⟨trivial, trivial⟩ ?_
      cases h
      exact ax_iret hA d_Z_number_38
  clear h
  have h := hw14
  refine ax_if_ne (tgt := 12) hK d_Z_number_5 (by decide) (fun c4 => ?_) (fun c4 => ?_)
  · replace h := ax_if c4 h
    refine ax_bk hK (ax_fc (ax_v_ld (ax_r_iload_n (i := 1) d_Z_number_12 rfl)) ax_fn) (y := (13, [(0, .inr (0, 38)), (1, .inl (.int (a1)))], [.inl (.int (a1)), .inr (0, 38)], ax_m (s) ρ)) rfl ⟨trivial, trivial⟩ ?_
    obtain ⟨w3, hw3, h⟩ := ax_bd h
    have KTw3 : w3 = true → ax_R G 2 0 0 (22, [(0, .inr (0, 38)), (1, .inl (.int (a1)))], [.inr (0, 38)], ax_m (s) ρ) := by
      intro e9
      subst w3
      replace h := ax_ct h
      refine ax_bk hK (ax_fc (ax_v_pu (ax_r_iconst (v := 2) d_Z_number_22 (by decide))) (ax_fc (ax_v_go (tgt := 27) d_Z_number_23 (by decide)) ax_fn)) (y := (27, [(0, .inr (0, 38)), (1, .inl (.int (a1)))], [.inl (.int ((2 : Int32))), .inr (0, 38)], ax_m (s) ρ)) rfl ⟨trivial, trivial, trivial⟩ ?_
      cases h
      exact ax_Lsub [0, 1] rfl (KEw14 _ rfl)
    have KFw3 : w3 = false → ax_R G 2 0 0 (26, [(0, .inr (0, 38)), (1, .inl (.int (a1)))], [.inr (0, 38)], ax_m (s) ρ) := by
      intro e9
      subst w3
      replace h := ax_cf h
      refine ax_bk hK (ax_fc (ax_v_pu (ax_r_iconst (v := 0) d_Z_number_26 (by decide))) ax_fn) (y := (27, [(0, .inr (0, 38)), (1, .inl (.int (a1)))], [.inl (.int ((0 : Int32))), .inr (0, 38)], ax_m (s) ρ)) rfl ⟨trivial, trivial⟩ ?_
      cases h
      exact ax_Lsub [0, 1] rfl (KEw14 _ rfl)
    clear h
    have h := hw3
    refine ax_if_lt (tgt := 22) hK d_Z_number_13 (by decide) (fun c2 => ?_) (fun c2 => ?_)
    · replace h := ax_it c2 h
      cases h
      exact ax_Lsub [0, 1] rfl (KTw3 rfl)
    · replace h := ax_if c2 h
      refine ax_bk hK (ax_fc (ax_v_ld (ax_r_iload_n (i := 1) d_Z_number_16 rfl)) (ax_fc (ax_v_pu (ax_r_bipush (v := 7) d_Z_number_17 (by decide))) ax_fn)) (y := (19, [(0, .inr (0, 38)), (1, .inl (.int (a1)))], [.inl (.int ((7 : Int32))), .inl (.int (a1)), .inr (0, 38)], ax_m (s) ρ)) rfl ⟨trivial, trivial, trivial⟩ ?_
      refine ax_ic_le (tgt := 26) hK d_Z_number_19 (by decide) (fun c1 => ?_) (fun c1 => ?_)
      · replace h := ax_it c1 h
        cases h
        exact ax_Lsub [0, 1] rfl (KFw3 rfl)
      · replace h := ax_if c1 h
        cases h
        exact ax_Lsub [0, 1] rfl (KTw3 rfl)
  · replace h := ax_it c4 h
    refine ax_bk hK (ax_fc (ax_v_pu (ax_r_iconst (v := 1) d_Z_number_8 (by decide))) (ax_fc (ax_v_go (tgt := 27) d_Z_number_9 (by decide)) ax_fn)) (y := (27, [(0, .inr (0, 38)), (1, .inl (.int (a1)))], [.inl (.int ((1 : Int32))), .inr (0, 38)], ax_m (s) ρ)) rfl ⟨trivial, trivial, trivial⟩ ?_
    cases h
    exact ax_Lsub [0, 1] rfl (KEw14 _ rfl)
def y_Z_print_I : MethodName := ⟨"CipherNotationModel", "print", "(I)I"⟩
theorem d_Z_print_I_0 : decode prog_8_method_58_code 0 = .ok (.aload_n 0, 1) := by decide +kernel
theorem d_Z_print_I_1 : decode prog_8_method_58_code 1 = .ok (.iconst 0, 1) := by decide +kernel
theorem d_Z_print_I_2 : decode prog_8_method_58_code 2 = .ok (.putfield (145), 3) := by decide +kernel
theorem d_Z_print_I_5 : decode prog_8_method_58_code 5 = .ok (.aload_n 0, 1) := by decide +kernel
theorem d_Z_print_I_6 : decode prog_8_method_58_code 6 = .ok (.getfield (384), 3) := by decide +kernel
theorem d_Z_print_I_9 : decode prog_8_method_58_code 9 = .ok (.ifCond .eq (24), 3) := by decide +kernel
theorem d_Z_print_I_12 : decode prog_8_method_58_code 12 = .ok (.iload_n 1, 1) := by decide +kernel
theorem d_Z_print_I_13 : decode prog_8_method_58_code 13 = .ok (.ifCond .lt (20), 3) := by decide +kernel
theorem d_Z_print_I_16 : decode prog_8_method_58_code 16 = .ok (.iload_n 1, 1) := by decide +kernel
theorem d_Z_print_I_17 : decode prog_8_method_58_code 17 = .ok (.aload_n 0, 1) := by decide +kernel
theorem d_Z_print_I_18 : decode prog_8_method_58_code 18 = .ok (.getfield (157), 3) := by decide +kernel
theorem d_Z_print_I_21 : decode prog_8_method_58_code 21 = .ok (.if_icmp .ge (12), 3) := by decide +kernel
theorem d_Z_print_I_24 : decode prog_8_method_58_code 24 = .ok (.aload_n 0, 1) := by decide +kernel
theorem d_Z_print_I_25 : decode prog_8_method_58_code 25 = .ok (.getfield (99), 3) := by decide +kernel
theorem d_Z_print_I_28 : decode prog_8_method_58_code 28 = .ok (.iload_n 1, 1) := by decide +kernel
theorem d_Z_print_I_29 : decode prog_8_method_58_code 29 = .ok (.iaload, 1) := by decide +kernel
theorem d_Z_print_I_30 : decode prog_8_method_58_code 30 = .ok (.goto (4), 3) := by decide +kernel
theorem d_Z_print_I_33 : decode prog_8_method_58_code 33 = .ok (.iconst (-1), 1) := by decide +kernel
theorem d_Z_print_I_34 : decode prog_8_method_58_code 34 = .ok (.ireturn, 1) := by decide +kernel
def f_Z_print_I (a1 : Int32) (s : ax_σ) : Option (Int32 × ax_σ) :=
  ax_let (ax_wI s 0 38 0 (0 : Int32)) (fun s1 =>
    Option.bind (
      if (s1.1 0 38 5) = (0 : Int32) then
        some true
      else
        if a1 < (0 : Int32) then
          some true
        else
          if (s1.1 0 38 51) ≤ a1 then
            some true
          else
            some false) (fun w6 => bif w6 then
      some (((-1 : Int32), s1))
    else
      bif ax_in a1 280 then
      some (((s1.1 0 67 (a1).toNatClampNeg), s1))
      else none))
set_option maxHeartbeats 4000000 in
set_option maxRecDepth 100000 in
theorem t_Z_print_I {l : Launch} {D : va_G} {cA : Nat → ClassId} {ad : Nat → Nat → Nat} {al : List (Nat × Nat)} {θ : ax_Θ} {ρ : ax_ρ} (h0 : ax_M0 al) {a1 : Int32} {s : ax_σ} {r0 : Int32} {s0 : ax_σ} (h : f_Z_print_I a1 s = some (r0, s0)) : ax_T l D cA ad al θ y_Z_print_I (.code y_Z_print_I prog_8_method_58_code 2 (some .int)) 0 [.inr (0, 38), .inl (.int (a1))] (ax_m s ρ) (some (.inl (.int r0))) (ax_m s0 ρ) := by
  refine ax_T_of (own := "CipherNotationModel") (by decide) rfl (Nat.le_of_ble_eq_true rfl) [(0, .inr (0, 38)), (1, .inl (.int (a1)))] rfl ?_
  intro G hA
  have hB := hA.B
  have hK := hB.K
  have hal := hB.la
  unfold f_Z_print_I at h
  refine ax_bk hK (ax_fc (ax_v_ld (ax_r_aload_n (i := 0) d_Z_print_I_0 rfl)) (ax_fc (ax_v_pu (ax_r_iconst (v := 0) d_Z_print_I_1 (by decide))) (ax_fc (ax_w_pf (tc := 0) hal d_Z_print_I_2 fp_Z_145 rfl) ax_fn))) (y := (5, [(0, .inr (0, 38)), (1, .inl (.int (a1)))], [], ax_m (ax_wI s 0 38 0 (0 : Int32)) ρ)) rfl ⟨trivial, trivial, (h0 38 rfl), trivial⟩ ?_
  refine ax_lt (Q := fun ςς => ax_R G 2 0 0 (5, [(0, .inr (0, 38)), (1, .inl (.int (a1)))], [], ax_m (ςς) ρ)) h (fun s1 h => ?_)
  refine ax_bk hK (ax_fc (ax_v_ld (ax_r_aload_n (i := 0) d_Z_print_I_5 rfl)) (ax_fc (ax_w_gf (e := none) hal d_Z_print_I_6 fd_Z_384) ax_fn)) (y := (9, [(0, .inr (0, 38)), (1, .inl (.int (a1)))], [.inl (.int ((s1.1 0 38 5)))], ax_m (s1) ρ)) rfl ⟨trivial, (h0 38 rfl), trivial⟩ ?_
  obtain ⟨w6, hw6, h⟩ := ax_bd h
  have KTw6 : w6 = true → ax_R G 2 0 0 (33, [], [], ax_m (s1) ρ) := by
    intro e9
    subst w6
    replace h := ax_ct h
    refine ax_bk hK (ax_fc (ax_v_pu (ax_r_iconst (v := -1) d_Z_print_I_33 (by decide))) ax_fn) (y := (34, [], [.inl (.int ((-1 : Int32)))], ax_m (s1) ρ)) rfl ⟨trivial, trivial⟩ ?_
    cases h
    exact ax_iret hA d_Z_print_I_34
  have KFw6 : w6 = false → ax_R G 2 0 0 (24, [(0, .inr (0, 38)), (1, .inl (.int (a1)))], [], ax_m (s1) ρ) := by
    intro e9
    subst w6
    replace h := ax_cf h
    obtain ⟨b5, h⟩ := ax_gd h
    refine ax_bk hK (ax_fc (ax_v_ld (ax_r_aload_n (i := 0) d_Z_print_I_24 rfl)) (ax_fc (ax_w_gf (e := none) hal d_Z_print_I_25 fd_Z_99) (ax_fc (ax_v_ld (ax_r_iload_n (i := 1) d_Z_print_I_28 rfl)) (ax_fc (ax_w_iald hal d_Z_print_I_29) (ax_fc (ax_v_go (tgt := 34) d_Z_print_I_30 (by decide)) ax_fn))))) (y := (34, [(0, .inr (0, 38)), (1, .inl (.int (a1)))], [.inl (.int ((s1.1 0 67 (a1).toNatClampNeg)))], ax_m (s1) ρ)) rfl ⟨trivial, (h0 38 rfl), trivial, ⟨(h0 67 rfl), ax_inp b5⟩, trivial, trivial⟩ ?_
    cases h
    exact ax_iret hA d_Z_print_I_34
  clear h
  have h := hw6
  refine ax_if_eq (tgt := 33) hK d_Z_print_I_9 (by decide) (fun c4 => ?_) (fun c4 => ?_)
  · replace h := ax_it c4 h
    cases h
    exact ax_Lsub [] rfl (KTw6 rfl)
  · replace h := ax_if c4 h
    refine ax_bk hK (ax_fc (ax_v_ld (ax_r_iload_n (i := 1) d_Z_print_I_12 rfl)) ax_fn) (y := (13, [(0, .inr (0, 38)), (1, .inl (.int (a1)))], [.inl (.int (a1))], ax_m (s1) ρ)) rfl ⟨trivial, trivial⟩ ?_
    refine ax_if_lt (tgt := 33) hK d_Z_print_I_13 (by decide) (fun c3 => ?_) (fun c3 => ?_)
    · replace h := ax_it c3 h
      cases h
      exact ax_Lsub [] rfl (KTw6 rfl)
    · replace h := ax_if c3 h
      refine ax_bk hK (ax_fc (ax_v_ld (ax_r_iload_n (i := 1) d_Z_print_I_16 rfl)) (ax_fc (ax_v_ld (ax_r_aload_n (i := 0) d_Z_print_I_17 rfl)) (ax_fc (ax_w_gf (e := none) hal d_Z_print_I_18 fd_Z_157) ax_fn))) (y := (21, [(0, .inr (0, 38)), (1, .inl (.int (a1)))], [.inl (.int ((s1.1 0 38 51))), .inl (.int (a1))], ax_m (s1) ρ)) rfl ⟨trivial, trivial, (h0 38 rfl), trivial⟩ ?_
      refine ax_ic_ge (tgt := 33) hK d_Z_print_I_21 (by decide) (fun c2 => ?_) (fun c2 => ?_)
      · replace h := ax_it c2 h
        cases h
        exact ax_Lsub [] rfl (KTw6 rfl)
      · replace h := ax_if c2 h
        cases h
        exact ax_Lsub [0, 1] rfl (KFw6 rfl)
def y_Z_table : MethodName := ⟨"CipherNotationModel", "table", "(IIZ)I"⟩
theorem d_Z_table_0 : decode prog_8_method_59_code 0 = .ok (.aload_n 0, 1) := by decide +kernel
theorem d_Z_table_1 : decode prog_8_method_59_code 1 = .ok (.aload_n 0, 1) := by decide +kernel
theorem d_Z_table_2 : decode prog_8_method_59_code 2 = .ok (.getfield (384), 3) := by decide +kernel
theorem d_Z_table_5 : decode prog_8_method_59_code 5 = .ok (.ifCond .ne (7), 3) := by decide +kernel
theorem d_Z_table_8 : decode prog_8_method_59_code 8 = .ok (.iconst 1, 1) := by decide +kernel
theorem d_Z_table_9 : decode prog_8_method_59_code 9 = .ok (.goto (30), 3) := by decide +kernel
theorem d_Z_table_12 : decode prog_8_method_59_code 12 = .ok (.iload_n 1, 1) := by decide +kernel
theorem d_Z_table_13 : decode prog_8_method_59_code 13 = .ok (.ifCond .lt (21), 3) := by decide +kernel
theorem d_Z_table_16 : decode prog_8_method_59_code 16 = .ok (.iload_n 1, 1) := by decide +kernel
theorem d_Z_table_17 : decode prog_8_method_59_code 17 = .ok (.aload_n 0, 1) := by decide +kernel
theorem d_Z_table_18 : decode prog_8_method_59_code 18 = .ok (.getfield (177), 3) := by decide +kernel
theorem d_Z_table_21 : decode prog_8_method_59_code 21 = .ok (.if_icmp .ge (13), 3) := by decide +kernel
theorem d_Z_table_24 : decode prog_8_method_59_code 24 = .ok (.iload_n 2, 1) := by decide +kernel
theorem d_Z_table_25 : decode prog_8_method_59_code 25 = .ok (.ifCond .lt (9), 3) := by decide +kernel
theorem d_Z_table_28 : decode prog_8_method_59_code 28 = .ok (.iload_n 2, 1) := by decide +kernel
theorem d_Z_table_29 : decode prog_8_method_59_code 29 = .ok (.bipush (15), 2) := by decide +kernel
theorem d_Z_table_31 : decode prog_8_method_59_code 31 = .ok (.if_icmp .le (7), 3) := by decide +kernel
theorem d_Z_table_34 : decode prog_8_method_59_code 34 = .ok (.iconst 2, 1) := by decide +kernel
theorem d_Z_table_35 : decode prog_8_method_59_code 35 = .ok (.goto (4), 3) := by decide +kernel
theorem d_Z_table_38 : decode prog_8_method_59_code 38 = .ok (.iconst 0, 1) := by decide +kernel
theorem d_Z_table_39 : decode prog_8_method_59_code 39 = .ok (.putfield (145), 3) := by decide +kernel
theorem d_Z_table_42 : decode prog_8_method_59_code 42 = .ok (.aload_n 0, 1) := by decide +kernel
theorem d_Z_table_43 : decode prog_8_method_59_code 43 = .ok (.getfield (145), 3) := by decide +kernel
theorem d_Z_table_46 : decode prog_8_method_59_code 46 = .ok (.ifCond .le (7), 3) := by decide +kernel
theorem d_Z_table_49 : decode prog_8_method_59_code 49 = .ok (.iconst 0, 1) := by decide +kernel
theorem d_Z_table_50 : decode prog_8_method_59_code 50 = .ok (.goto (10), 3) := by decide +kernel
theorem d_Z_table_53 : decode prog_8_method_59_code 53 = .ok (.aload_n 0, 1) := by decide +kernel
theorem d_Z_table_54 : decode prog_8_method_59_code 54 = .ok (.iload_n 1, 1) := by decide +kernel
theorem d_Z_table_55 : decode prog_8_method_59_code 55 = .ok (.iload_n 2, 1) := by decide +kernel
theorem d_Z_table_56 : decode prog_8_method_59_code 56 = .ok (.iload_n 3, 1) := by decide +kernel
theorem d_Z_table_57 : decode prog_8_method_59_code 57 = .ok (.invokevirtual (423), 3) := by decide +kernel
theorem d_Z_table_60 : decode prog_8_method_59_code 60 = .ok (.ireturn, 1) := by decide +kernel
def f_Z_table (F : Nat) (a1 : Int32) (a2 : Int32) (a3 : Int32) (s : ax_σ) : Option (Int32 × ax_σ) :=
  Option.bind (
    if (s.1 0 38 5) = (0 : Int32) then
      some (1 : Int32)
    else
      Option.bind (
        if a1 < (0 : Int32) then
          some true
        else
          if (s.1 0 38 14) ≤ a1 then
            some true
          else
            if a2 < (0 : Int32) then
              some true
            else
              if a2 ≤ (15 : Int32) then
                some false
              else
                some true) (fun w5 => bif w5 then
        some (2 : Int32)
      else
        some (0 : Int32))) (fun v7 =>
    ax_let (ax_wI s 0 38 0 v7) (fun s8 =>
      if (s8.1 0 38 0) ≤ (0 : Int32) then
        Option.bind (f_Z_entry F a1 a2 a3 s8) (fun r9 =>
          some ((r9, s8)))
      else
        some (((0 : Int32), s8))))
set_option maxHeartbeats 4000000 in
set_option maxRecDepth 100000 in
theorem t_Z_table {l : Launch} {D : va_G} {cA : Nat → ClassId} {ad : Nat → Nat → Nat} {al : List (Nat × Nat)} {θ : ax_Θ} {ρ : ax_ρ} {F : Nat} (h0 : ax_M0 al) {a1 : Int32} {a2 : Int32} {a3 : Int32} {s : ax_σ} {r0 : Int32} {s0 : ax_σ} (h : f_Z_table F a1 a2 a3 s = some (r0, s0)) : ax_T l D cA ad al θ y_Z_table (.code y_Z_table prog_8_method_59_code 4 (some .int)) 1 [.inr (0, 38), .inl (.int (a1)), .inl (.int (a2)), .inl (.int (a3))] (ax_m s ρ) (some (.inl (.int r0))) (ax_m s0 ρ) := by
  refine ax_T_of (own := "CipherNotationModel") (by decide) rfl (Nat.le_of_ble_eq_true rfl) [(0, .inr (0, 38)), (1, .inl (.int (a1))), (2, .inl (.int (a2))), (3, .inl (.int (a3)))] rfl ?_
  intro G hA
  have hB := hA.B
  have hK := hB.K
  have hal := hB.la
  unfold f_Z_table at h
  refine ax_bk hK (ax_fc (ax_v_ld (ax_r_aload_n (i := 0) d_Z_table_0 rfl)) (ax_fc (ax_v_ld (ax_r_aload_n (i := 0) d_Z_table_1 rfl)) (ax_fc (ax_w_gf (e := none) hal d_Z_table_2 fd_Z_384) ax_fn))) (y := (5, [(0, .inr (0, 38)), (1, .inl (.int (a1))), (2, .inl (.int (a2))), (3, .inl (.int (a3)))], [.inl (.int ((s.1 0 38 5))), .inr (0, 38)], ax_m (s) ρ)) rfl ⟨trivial, trivial, (h0 38 rfl), trivial⟩ ?_
  obtain ⟨w12, hw12, h⟩ := ax_bd h
  have KEw12 : ∀ (v7 : Int32), w12 = v7 → ax_R G 4 0 0 (39, [(0, .inr (0, 38)), (1, .inl (.int (a1))), (2, .inl (.int (a2))), (3, .inl (.int (a3)))], [.inl (.int (v7)), .inr (0, 38)], ax_m (s) ρ) := by
    intro v7 e9
    subst w12
    try dsimp only at h
    refine ax_bk hK (ax_fc (ax_w_pf (tc := 0) hal d_Z_table_39 fp_Z_145 rfl) ax_fn) (y := (42, [(0, .inr (0, 38)), (1, .inl (.int (a1))), (2, .inl (.int (a2))), (3, .inl (.int (a3)))], [], ax_m (ax_wI s 0 38 0 v7) ρ)) rfl ⟨(h0 38 rfl), trivial⟩ ?_
    refine ax_lt (Q := fun ςς => ax_R G 4 0 0 (42, [(0, .inr (0, 38)), (1, .inl (.int (a1))), (2, .inl (.int (a2))), (3, .inl (.int (a3)))], [], ax_m (ςς) ρ)) h (fun s8 h => ?_)
    refine ax_bk hK (ax_fc (ax_v_ld (ax_r_aload_n (i := 0) d_Z_table_42 rfl)) (ax_fc (ax_w_gf (e := none) hal d_Z_table_43 fd_Z_145) ax_fn)) (y := (46, [(0, .inr (0, 38)), (1, .inl (.int (a1))), (2, .inl (.int (a2))), (3, .inl (.int (a3)))], [.inl (.int ((s8.1 0 38 0)))], ax_m (s8) ρ)) rfl ⟨trivial, (h0 38 rfl), trivial⟩ ?_
    refine ax_if_le (tgt := 53) hK d_Z_table_46 (by decide) (fun c11 => ?_) (fun c11 => ?_)
    · replace h := ax_it c11 h
      refine ax_bk hK (ax_fc (ax_v_ld (ax_r_aload_n (i := 0) d_Z_table_53 rfl)) (ax_fc (ax_v_ld (ax_r_iload_n (i := 1) d_Z_table_54 rfl)) (ax_fc (ax_v_ld (ax_r_iload_n (i := 2) d_Z_table_55 rfl)) (ax_fc (ax_v_ld (ax_r_iload_n (i := 3) d_Z_table_56 rfl)) ax_fn)))) (y := (57, [(0, .inr (0, 38)), (1, .inl (.int (a1))), (2, .inl (.int (a2))), (3, .inl (.int (a3)))], [.inl (.int (a3)), .inl (.int (a2)), .inl (.int (a1)), .inr (0, 38)], ax_m (s8) ρ)) rfl ⟨trivial, trivial, trivial, trivial, trivial⟩ ?_
      obtain ⟨r9, q10, h⟩ := ax_bd h
      refine ax_bV (rest := []) hB (t_Z_entry h0 q10) cw_Z_423 im_Z_entry se_Z_entry d_Z_table_57 (h0 38 rfl) rfl rfl (by decide) (by decide) rfl rfl (Nat.le_of_ble_eq_true rfl) ?_
      change ax_R G 4 0 0 (60, [(0, .inr (0, 38)), (1, .inl (.int (a1))), (2, .inl (.int (a2))), (3, .inl (.int (a3)))], [.inl (.int (r9))], ax_m (s8) ρ)
      cases h
      exact ax_iret hA d_Z_table_60
    · replace h := ax_if c11 h
      refine ax_bk hK (ax_fc (ax_v_pu (ax_r_iconst (v := 0) d_Z_table_49 (by decide))) (ax_fc (ax_v_go (tgt := 60) d_Z_table_50 (by decide)) ax_fn)) (y := (60, [(0, .inr (0, 38)), (1, .inl (.int (a1))), (2, .inl (.int (a2))), (3, .inl (.int (a3)))], [.inl (.int ((0 : Int32)))], ax_m (s8) ρ)) rfl ⟨trivial, trivial, trivial⟩ ?_
      cases h
      exact ax_iret hA d_Z_table_60
  clear h
  have h := hw12
  refine ax_if_ne (tgt := 12) hK d_Z_table_5 (by decide) (fun c6 => ?_) (fun c6 => ?_)
  · replace h := ax_if c6 h
    refine ax_bk hK (ax_fc (ax_v_ld (ax_r_iload_n (i := 1) d_Z_table_12 rfl)) ax_fn) (y := (13, [(0, .inr (0, 38)), (1, .inl (.int (a1))), (2, .inl (.int (a2))), (3, .inl (.int (a3)))], [.inl (.int (a1)), .inr (0, 38)], ax_m (s) ρ)) rfl ⟨trivial, trivial⟩ ?_
    obtain ⟨w5, hw5, h⟩ := ax_bd h
    have KTw5 : w5 = true → ax_R G 4 0 0 (34, [(0, .inr (0, 38)), (1, .inl (.int (a1))), (2, .inl (.int (a2))), (3, .inl (.int (a3)))], [.inr (0, 38)], ax_m (s) ρ) := by
      intro e9
      subst w5
      replace h := ax_ct h
      refine ax_bk hK (ax_fc (ax_v_pu (ax_r_iconst (v := 2) d_Z_table_34 (by decide))) (ax_fc (ax_v_go (tgt := 39) d_Z_table_35 (by decide)) ax_fn)) (y := (39, [(0, .inr (0, 38)), (1, .inl (.int (a1))), (2, .inl (.int (a2))), (3, .inl (.int (a3)))], [.inl (.int ((2 : Int32))), .inr (0, 38)], ax_m (s) ρ)) rfl ⟨trivial, trivial, trivial⟩ ?_
      cases h
      exact ax_Lsub [0, 1, 2, 3] rfl (KEw12 _ rfl)
    have KFw5 : w5 = false → ax_R G 4 0 0 (38, [(0, .inr (0, 38)), (1, .inl (.int (a1))), (2, .inl (.int (a2))), (3, .inl (.int (a3)))], [.inr (0, 38)], ax_m (s) ρ) := by
      intro e9
      subst w5
      replace h := ax_cf h
      refine ax_bk hK (ax_fc (ax_v_pu (ax_r_iconst (v := 0) d_Z_table_38 (by decide))) ax_fn) (y := (39, [(0, .inr (0, 38)), (1, .inl (.int (a1))), (2, .inl (.int (a2))), (3, .inl (.int (a3)))], [.inl (.int ((0 : Int32))), .inr (0, 38)], ax_m (s) ρ)) rfl ⟨trivial, trivial⟩ ?_
      cases h
      exact ax_Lsub [0, 1, 2, 3] rfl (KEw12 _ rfl)
    clear h
    have h := hw5
    refine ax_if_lt (tgt := 34) hK d_Z_table_13 (by decide) (fun c4 => ?_) (fun c4 => ?_)
    · replace h := ax_it c4 h
      cases h
      exact ax_Lsub [0, 1, 2, 3] rfl (KTw5 rfl)
    · replace h := ax_if c4 h
      refine ax_bk hK (ax_fc (ax_v_ld (ax_r_iload_n (i := 1) d_Z_table_16 rfl)) (ax_fc (ax_v_ld (ax_r_aload_n (i := 0) d_Z_table_17 rfl)) (ax_fc (ax_w_gf (e := none) hal d_Z_table_18 fd_Z_177) ax_fn))) (y := (21, [(0, .inr (0, 38)), (1, .inl (.int (a1))), (2, .inl (.int (a2))), (3, .inl (.int (a3)))], [.inl (.int ((s.1 0 38 14))), .inl (.int (a1)), .inr (0, 38)], ax_m (s) ρ)) rfl ⟨trivial, trivial, (h0 38 rfl), trivial⟩ ?_
      refine ax_ic_ge (tgt := 34) hK d_Z_table_21 (by decide) (fun c3 => ?_) (fun c3 => ?_)
      · replace h := ax_it c3 h
        cases h
        exact ax_Lsub [0, 1, 2, 3] rfl (KTw5 rfl)
      · replace h := ax_if c3 h
        refine ax_bk hK (ax_fc (ax_v_ld (ax_r_iload_n (i := 2) d_Z_table_24 rfl)) ax_fn) (y := (25, [(0, .inr (0, 38)), (1, .inl (.int (a1))), (2, .inl (.int (a2))), (3, .inl (.int (a3)))], [.inl (.int (a2)), .inr (0, 38)], ax_m (s) ρ)) rfl ⟨trivial, trivial⟩ ?_
        refine ax_if_lt (tgt := 34) hK d_Z_table_25 (by decide) (fun c2 => ?_) (fun c2 => ?_)
        · replace h := ax_it c2 h
          cases h
          exact ax_Lsub [0, 1, 2, 3] rfl (KTw5 rfl)
        · replace h := ax_if c2 h
          refine ax_bk hK (ax_fc (ax_v_ld (ax_r_iload_n (i := 2) d_Z_table_28 rfl)) (ax_fc (ax_v_pu (ax_r_bipush (v := 15) d_Z_table_29 (by decide))) ax_fn)) (y := (31, [(0, .inr (0, 38)), (1, .inl (.int (a1))), (2, .inl (.int (a2))), (3, .inl (.int (a3)))], [.inl (.int ((15 : Int32))), .inl (.int (a2)), .inr (0, 38)], ax_m (s) ρ)) rfl ⟨trivial, trivial, trivial⟩ ?_
          refine ax_ic_le (tgt := 38) hK d_Z_table_31 (by decide) (fun c1 => ?_) (fun c1 => ?_)
          · replace h := ax_it c1 h
            cases h
            exact ax_Lsub [0, 1, 2, 3] rfl (KFw5 rfl)
          · replace h := ax_if c1 h
            cases h
            exact ax_Lsub [0, 1, 2, 3] rfl (KTw5 rfl)
  · replace h := ax_it c6 h
    refine ax_bk hK (ax_fc (ax_v_pu (ax_r_iconst (v := 1) d_Z_table_8 (by decide))) (ax_fc (ax_v_go (tgt := 39) d_Z_table_9 (by decide)) ax_fn)) (y := (39, [(0, .inr (0, 38)), (1, .inl (.int (a1))), (2, .inl (.int (a2))), (3, .inl (.int (a3)))], [.inl (.int ((1 : Int32))), .inr (0, 38)], ax_m (s) ρ)) rfl ⟨trivial, trivial, trivial⟩ ?_
    cases h
    exact ax_Lsub [0, 1, 2, 3] rfl (KEw12 _ rfl)
def y_Z_isWord : MethodName := ⟨"CipherNotationModel", "isWord", "(J)Z"⟩
theorem d_Z_isWord_0 : decode prog_8_method_60_code 0 = .ok (.aload_n 0, 1) := by decide +kernel
theorem d_Z_isWord_1 : decode prog_8_method_60_code 1 = .ok (.invokevirtual (391), 3) := by decide +kernel
theorem d_Z_isWord_4 : decode prog_8_method_60_code 4 = .ok (.bipush (64), 2) := by decide +kernel
theorem d_Z_isWord_6 : decode prog_8_method_60_code 6 = .ok (.if_icmp .eq (17), 3) := by decide +kernel
theorem d_Z_isWord_9 : decode prog_8_method_60_code 9 = .ok (.lload_n 1, 1) := by decide +kernel
theorem d_Z_isWord_10 : decode prog_8_method_60_code 10 = .ok (.lconst 0, 1) := by decide +kernel
theorem d_Z_isWord_11 : decode prog_8_method_60_code 11 = .ok (.lcmp, 1) := by decide +kernel
theorem d_Z_isWord_12 : decode prog_8_method_60_code 12 = .ok (.ifCond .lt (15), 3) := by decide +kernel
theorem d_Z_isWord_15 : decode prog_8_method_60_code 15 = .ok (.aload_n 0, 1) := by decide +kernel
theorem d_Z_isWord_16 : decode prog_8_method_60_code 16 = .ok (.lload_n 1, 1) := by decide +kernel
theorem d_Z_isWord_17 : decode prog_8_method_60_code 17 = .ok (.invokevirtual (320), 3) := by decide +kernel
theorem d_Z_isWord_20 : decode prog_8_method_60_code 20 = .ok (.ifCond .ne (7), 3) := by decide +kernel
theorem d_Z_isWord_23 : decode prog_8_method_60_code 23 = .ok (.iconst 1, 1) := by decide +kernel
theorem d_Z_isWord_24 : decode prog_8_method_60_code 24 = .ok (.goto (4), 3) := by decide +kernel
theorem d_Z_isWord_27 : decode prog_8_method_60_code 27 = .ok (.iconst 0, 1) := by decide +kernel
theorem d_Z_isWord_28 : decode prog_8_method_60_code 28 = .ok (.ireturn, 1) := by decide +kernel
def f_Z_isWord (a1 : Int64) (s : ax_σ) : Option (Int32) :=
  Option.bind (f_Z_width s) (fun r1 =>
    if r1 = (64 : Int32) then
      some ((1 : Int32))
    else
      Option.bind (
        if (lg_cmp a1 (0 : Int64)) < (0 : Int32) then
          some true
        else
          Option.bind (f_Z_isWide a1 s) (fun r3 =>
            if r3 = (0 : Int32) then
              some false
            else
              some true)) (fun w7 => bif w7 then
        some ((0 : Int32))
      else
        some ((1 : Int32))))
set_option maxHeartbeats 4000000 in
set_option maxRecDepth 100000 in
theorem t_Z_isWord {l : Launch} {D : va_G} {cA : Nat → ClassId} {ad : Nat → Nat → Nat} {al : List (Nat × Nat)} {θ : ax_Θ} {ρ : ax_ρ} (h0 : ax_M0 al) {a1 : Int64} {s : ax_σ} {r0 : Int32} (h : f_Z_isWord a1 s = some r0) : ax_T l D cA ad al θ y_Z_isWord (.code y_Z_isWord prog_8_method_60_code 3 (some .boolean)) 1 [.inr (0, 38), .inl (.long (a1))] (ax_m s ρ) (some (.inl (.int r0))) (ax_m s ρ) := by
  refine ax_T_of (own := "CipherNotationModel") (by decide) rfl (Nat.le_of_ble_eq_true rfl) [(0, .inr (0, 38)), (1, .inl (.long (a1)))] rfl ?_
  intro G hA
  have hB := hA.B
  have hK := hB.K
  have hal := hB.la
  unfold f_Z_isWord at h
  refine ax_bk hK (ax_fc (ax_v_ld (ax_r_aload_n (i := 0) d_Z_isWord_0 rfl)) ax_fn) (y := (1, [(0, .inr (0, 38)), (1, .inl (.long (a1)))], [.inr (0, 38)], ax_m (s) ρ)) rfl ⟨trivial, trivial⟩ ?_
  obtain ⟨r1, q2, h⟩ := ax_bd h
  refine ax_bV (rest := []) hB (t_Z_width h0 q2) cw_Z_391 im_Z_width se_Z_width d_Z_isWord_1 (h0 38 rfl) rfl rfl (by decide) (by decide) rfl rfl (Nat.le_of_ble_eq_true rfl) ?_
  change ax_R G 3 0 0 (4, [(0, .inr (0, 38)), (1, .inl (.long (a1)))], [.inl (.int (r1))], ax_m (s) ρ)
  refine ax_bk hK (ax_fc (ax_v_pu (ax_r_bipush (v := 64) d_Z_isWord_4 (by decide))) ax_fn) (y := (6, [(0, .inr (0, 38)), (1, .inl (.long (a1)))], [.inl (.int ((64 : Int32))), .inl (.int (r1))], ax_m (s) ρ)) rfl ⟨trivial, trivial⟩ ?_
  refine ax_ic_eq (tgt := 23) hK d_Z_isWord_6 (by decide) (fun c8 => ?_) (fun c8 => ?_)
  · replace h := ax_it c8 h
    refine ax_bk hK (ax_fc (ax_v_pu (ax_r_iconst (v := 1) d_Z_isWord_23 (by decide))) (ax_fc (ax_v_go (tgt := 28) d_Z_isWord_24 (by decide)) ax_fn)) (y := (28, [(0, .inr (0, 38)), (1, .inl (.long (a1)))], [.inl (.int ((1 : Int32)))], ax_m (s) ρ)) rfl ⟨trivial, trivial, trivial⟩ ?_
    cases h
    exact ax_zret hA (by decide) d_Z_isWord_28
  · replace h := ax_if c8 h
    refine ax_bk hK (ax_fc (ax_v_ld (ax_r_lload_n (i := 1) d_Z_isWord_9 rfl)) (ax_fc (ax_v_pu (ax_r_lconst (v := 0) d_Z_isWord_10 (by decide))) (ax_fc (ax_v_pu (ax_r_lcmp d_Z_isWord_11)) ax_fn))) (y := (12, [(0, .inr (0, 38)), (1, .inl (.long (a1)))], [.inl (.int ((lg_cmp a1 (0 : Int64))))], ax_m (s) ρ)) rfl ⟨trivial, trivial, trivial, trivial⟩ ?_
    obtain ⟨w7, hw7, h⟩ := ax_bd h
    have KTw7 : w7 = true → ax_R G 3 0 0 (27, [], [], ax_m (s) ρ) := by
      intro e9
      subst w7
      replace h := ax_ct h
      refine ax_bk hK (ax_fc (ax_v_pu (ax_r_iconst (v := 0) d_Z_isWord_27 (by decide))) ax_fn) (y := (28, [], [.inl (.int ((0 : Int32)))], ax_m (s) ρ)) rfl ⟨trivial, trivial⟩ ?_
      cases h
      exact ax_zret hA (by decide) d_Z_isWord_28
    have KFw7 : w7 = false → ax_R G 3 0 0 (23, [], [], ax_m (s) ρ) := by
      intro e9
      subst w7
      replace h := ax_cf h
      refine ax_bk hK (ax_fc (ax_v_pu (ax_r_iconst (v := 1) d_Z_isWord_23 (by decide))) (ax_fc (ax_v_go (tgt := 28) d_Z_isWord_24 (by decide)) ax_fn)) (y := (28, [], [.inl (.int ((1 : Int32)))], ax_m (s) ρ)) rfl ⟨trivial, trivial, trivial⟩ ?_
      cases h
      exact ax_zret hA (by decide) d_Z_isWord_28
    clear h
    have h := hw7
    refine ax_if_lt (tgt := 27) hK d_Z_isWord_12 (by decide) (fun c6 => ?_) (fun c6 => ?_)
    · replace h := ax_it c6 h
      cases h
      exact ax_Lsub [] rfl (KTw7 rfl)
    · replace h := ax_if c6 h
      refine ax_bk hK (ax_fc (ax_v_ld (ax_r_aload_n (i := 0) d_Z_isWord_15 rfl)) (ax_fc (ax_v_ld (ax_r_lload_n (i := 1) d_Z_isWord_16 rfl)) ax_fn)) (y := (17, [(0, .inr (0, 38)), (1, .inl (.long (a1)))], [.inl (.long (a1)), .inr (0, 38)], ax_m (s) ρ)) rfl ⟨trivial, trivial, trivial⟩ ?_
      obtain ⟨r3, q4, h⟩ := ax_bd h
      refine ax_bV (rest := []) hB (t_Z_isWide h0 q4) cw_Z_320 im_Z_isWide se_Z_isWide d_Z_isWord_17 (h0 38 rfl) rfl rfl (by decide) (by decide) rfl rfl (Nat.le_of_ble_eq_true rfl) ?_
      change ax_R G 3 0 0 (20, [(0, .inr (0, 38)), (1, .inl (.long (a1)))], [.inl (.int (r3))], ax_m (s) ρ)
      refine ax_if_ne (tgt := 27) hK d_Z_isWord_20 (by decide) (fun c5 => ?_) (fun c5 => ?_)
      · replace h := ax_if c5 h
        cases h
        exact ax_Lsub [] rfl (KTw7 rfl)
      · replace h := ax_it c5 h
        cases h
        exact ax_Lsub [] rfl (KFw7 rfl)
def y_Z_key : MethodName := ⟨"CipherNotationModel", "key", "(IJ)J"⟩
theorem d_Z_key_0 : decode prog_8_method_61_code 0 = .ok (.aload_n 0, 1) := by decide +kernel
theorem d_Z_key_1 : decode prog_8_method_61_code 1 = .ok (.aload_n 0, 1) := by decide +kernel
theorem d_Z_key_2 : decode prog_8_method_61_code 2 = .ok (.getfield (384), 3) := by decide +kernel
theorem d_Z_key_5 : decode prog_8_method_61_code 5 = .ok (.ifCond .ne (7), 3) := by decide +kernel
theorem d_Z_key_8 : decode prog_8_method_61_code 8 = .ok (.iconst 1, 1) := by decide +kernel
theorem d_Z_key_9 : decode prog_8_method_61_code 9 = .ok (.goto (36), 3) := by decide +kernel
theorem d_Z_key_12 : decode prog_8_method_61_code 12 = .ok (.iload_n 1, 1) := by decide +kernel
theorem d_Z_key_13 : decode prog_8_method_61_code 13 = .ok (.ifCond .lt (15), 3) := by decide +kernel
theorem d_Z_key_16 : decode prog_8_method_61_code 16 = .ok (.iload_n 1, 1) := by decide +kernel
theorem d_Z_key_17 : decode prog_8_method_61_code 17 = .ok (.i2l, 1) := by decide +kernel
theorem d_Z_key_18 : decode prog_8_method_61_code 18 = .ok (.aload_n 0, 1) := by decide +kernel
theorem d_Z_key_19 : decode prog_8_method_61_code 19 = .ok (.getfield (20), 3) := by decide +kernel
theorem d_Z_key_22 : decode prog_8_method_61_code 22 = .ok (.iconst 2, 1) := by decide +kernel
theorem d_Z_key_23 : decode prog_8_method_61_code 23 = .ok (.laload, 1) := by decide +kernel
theorem d_Z_key_24 : decode prog_8_method_61_code 24 = .ok (.lcmp, 1) := by decide +kernel
theorem d_Z_key_25 : decode prog_8_method_61_code 25 = .ok (.ifCond .lt (7), 3) := by decide +kernel
theorem d_Z_key_28 : decode prog_8_method_61_code 28 = .ok (.iconst 2, 1) := by decide +kernel
theorem d_Z_key_29 : decode prog_8_method_61_code 29 = .ok (.goto (16), 3) := by decide +kernel
theorem d_Z_key_32 : decode prog_8_method_61_code 32 = .ok (.aload_n 0, 1) := by decide +kernel
theorem d_Z_key_33 : decode prog_8_method_61_code 33 = .ok (.lload_n 2, 1) := by decide +kernel
theorem d_Z_key_34 : decode prog_8_method_61_code 34 = .ok (.invokevirtual (438), 3) := by decide +kernel
theorem d_Z_key_37 : decode prog_8_method_61_code 37 = .ok (.ifCond .ne (7), 3) := by decide +kernel
theorem d_Z_key_40 : decode prog_8_method_61_code 40 = .ok (.iconst 3, 1) := by decide +kernel
theorem d_Z_key_41 : decode prog_8_method_61_code 41 = .ok (.goto (4), 3) := by decide +kernel
theorem d_Z_key_44 : decode prog_8_method_61_code 44 = .ok (.iconst 0, 1) := by decide +kernel
theorem d_Z_key_45 : decode prog_8_method_61_code 45 = .ok (.putfield (145), 3) := by decide +kernel
theorem d_Z_key_48 : decode prog_8_method_61_code 48 = .ok (.aload_n 0, 1) := by decide +kernel
theorem d_Z_key_49 : decode prog_8_method_61_code 49 = .ok (.getfield (145), 3) := by decide +kernel
theorem d_Z_key_52 : decode prog_8_method_61_code 52 = .ok (.ifCond .le (5), 3) := by decide +kernel
theorem d_Z_key_55 : decode prog_8_method_61_code 55 = .ok (.lconst 0, 1) := by decide +kernel
theorem d_Z_key_56 : decode prog_8_method_61_code 56 = .ok (.lreturn, 1) := by decide +kernel
theorem d_Z_key_57 : decode prog_8_method_61_code 57 = .ok (.aload_n 0, 1) := by decide +kernel
theorem d_Z_key_58 : decode prog_8_method_61_code 58 = .ok (.getfield (136), 3) := by decide +kernel
theorem d_Z_key_61 : decode prog_8_method_61_code 61 = .ok (.iload_n 1, 1) := by decide +kernel
theorem d_Z_key_62 : decode prog_8_method_61_code 62 = .ok (.laload, 1) := by decide +kernel
theorem d_Z_key_63 : decode prog_8_method_61_code 63 = .ok (.lstore (4), 2) := by decide +kernel
theorem d_Z_key_65 : decode prog_8_method_61_code 65 = .ok (.aload_n 0, 1) := by decide +kernel
theorem d_Z_key_66 : decode prog_8_method_61_code 66 = .ok (.getfield (136), 3) := by decide +kernel
theorem d_Z_key_69 : decode prog_8_method_61_code 69 = .ok (.iload_n 1, 1) := by decide +kernel
theorem d_Z_key_70 : decode prog_8_method_61_code 70 = .ok (.lload_n 2, 1) := by decide +kernel
theorem d_Z_key_71 : decode prog_8_method_61_code 71 = .ok (.lastore, 1) := by decide +kernel
theorem d_Z_key_72 : decode prog_8_method_61_code 72 = .ok (.lload (4), 2) := by decide +kernel
theorem d_Z_key_74 : decode prog_8_method_61_code 74 = .ok (.lreturn, 1) := by decide +kernel
set_option maxRecDepth 100000 in
theorem cw_Z_438 : ax_cw "CipherNotationModel" 438 y_Z_isWord (.code y_Z_isWord prog_8_method_60_code 3 (some .boolean)) 1 := ⟨nw_6 82 (by decide +kernel) rfl, nw_1 7 (by decide +kernel) rfl, nw_6 85 rfl rfl, by decide +kernel, by decide +kernel⟩
theorem im_Z_isWord : Cond.instanceMethod y_Z_isWord ∈ ax_tbl := nw_6 84 (by decide +kernel) rfl
theorem se_Z_isWord : Cond.selects y_Z_isWord.cls y_Z_isWord y_Z_isWord ∈ ax_tbl := nw_sel 80 (by decide +kernel) (by decide +kernel)
def f_Z_key (a1 : Int32) (a2 : Int64) (s : ax_σ) : Option (Int64 × ax_σ) :=
  Option.bind (
    if (s.1 0 38 5) = (0 : Int32) then
      some (1 : Int32)
    else
      Option.bind (
        if a1 < (0 : Int32) then
          some true
        else
          bif ax_in (2 : Int32) 3 then
          if (lg_cmp (a1).toInt64 (s.2 0 41 ((2 : Int32)).toNatClampNeg)) < (0 : Int32) then
            some false
          else
            some true
          else none) (fun w7 => bif w7 then
        some (2 : Int32)
      else
        Option.bind (f_Z_isWord a2 s) (fun r4 =>
          if r4 = (0 : Int32) then
            some (3 : Int32)
          else
            some (0 : Int32)))) (fun v9 =>
    ax_let (ax_wI s 0 38 0 v9) (fun s10 =>
      if (s10.1 0 38 0) ≤ (0 : Int32) then
        bif ax_in a1 4 then
        bif ax_in a1 4 then
        ax_let (ax_wL s10 0 79 (a1).toNatClampNeg a2) (fun s13 =>
          some (((s10.2 0 79 (a1).toNatClampNeg), s13)))
        else none
        else none
      else
        some (((0 : Int64), s10))))
set_option maxHeartbeats 4000000 in
set_option maxRecDepth 100000 in
theorem t_Z_key {l : Launch} {D : va_G} {cA : Nat → ClassId} {ad : Nat → Nat → Nat} {al : List (Nat × Nat)} {θ : ax_Θ} {ρ : ax_ρ} (h0 : ax_M0 al) {a1 : Int32} {a2 : Int64} {s : ax_σ} {r0 : Int64} {s0 : ax_σ} (h : f_Z_key a1 a2 s = some (r0, s0)) : ax_T l D cA ad al θ y_Z_key (.code y_Z_key prog_8_method_61_code 6 (some .long)) 2 [.inr (0, 38), .inl (.int (a1)), .inl (.long (a2))] (ax_m s ρ) (some (.inl (.long r0))) (ax_m s0 ρ) := by
  refine ax_T_of (own := "CipherNotationModel") (by decide) rfl (Nat.le_of_ble_eq_true rfl) [(0, .inr (0, 38)), (1, .inl (.int (a1))), (2, .inl (.long (a2)))] rfl ?_
  intro G hA
  have hB := hA.B
  have hK := hB.K
  have hal := hB.la
  unfold f_Z_key at h
  refine ax_bk hK (ax_fc (ax_v_ld (ax_r_aload_n (i := 0) d_Z_key_0 rfl)) (ax_fc (ax_v_ld (ax_r_aload_n (i := 0) d_Z_key_1 rfl)) (ax_fc (ax_w_gf (e := none) hal d_Z_key_2 fd_Z_384) ax_fn))) (y := (5, [(0, .inr (0, 38)), (1, .inl (.int (a1))), (2, .inl (.long (a2)))], [.inl (.int ((s.1 0 38 5))), .inr (0, 38)], ax_m (s) ρ)) rfl ⟨trivial, trivial, (h0 38 rfl), trivial⟩ ?_
  obtain ⟨w15, hw15, h⟩ := ax_bd h
  have KEw15 : ∀ (v9 : Int32), w15 = v9 → ax_R G 6 0 0 (45, [(0, .inr (0, 38)), (1, .inl (.int (a1))), (2, .inl (.long (a2)))], [.inl (.int (v9)), .inr (0, 38)], ax_m (s) ρ) := by
    intro v9 e9
    subst w15
    try dsimp only at h
    refine ax_bk hK (ax_fc (ax_w_pf (tc := 0) hal d_Z_key_45 fp_Z_145 rfl) ax_fn) (y := (48, [(0, .inr (0, 38)), (1, .inl (.int (a1))), (2, .inl (.long (a2)))], [], ax_m (ax_wI s 0 38 0 v9) ρ)) rfl ⟨(h0 38 rfl), trivial⟩ ?_
    refine ax_lt (Q := fun ςς => ax_R G 6 0 0 (48, [(0, .inr (0, 38)), (1, .inl (.int (a1))), (2, .inl (.long (a2)))], [], ax_m (ςς) ρ)) h (fun s10 h => ?_)
    refine ax_bk hK (ax_fc (ax_v_ld (ax_r_aload_n (i := 0) d_Z_key_48 rfl)) (ax_fc (ax_w_gf (e := none) hal d_Z_key_49 fd_Z_145) ax_fn)) (y := (52, [(0, .inr (0, 38)), (1, .inl (.int (a1))), (2, .inl (.long (a2)))], [.inl (.int ((s10.1 0 38 0)))], ax_m (s10) ρ)) rfl ⟨trivial, (h0 38 rfl), trivial⟩ ?_
    refine ax_if_le (tgt := 57) hK d_Z_key_52 (by decide) (fun c14 => ?_) (fun c14 => ?_)
    · replace h := ax_it c14 h
      obtain ⟨b11, h⟩ := ax_gd h
      obtain ⟨b12, h⟩ := ax_gd h
      refine ax_bk hK (ax_fc (ax_v_ld (ax_r_aload_n (i := 0) d_Z_key_57 rfl)) (ax_fc (ax_w_gf (e := none) hal d_Z_key_58 fd_Z_136) (ax_fc (ax_v_ld (ax_r_iload_n (i := 1) d_Z_key_61 rfl)) (ax_fc (ax_w_lald hal d_Z_key_62) (ax_fc (ax_v_so (ax_r_lstore d_Z_key_63)) (ax_fc (ax_v_ld (ax_r_aload_n (i := 0) d_Z_key_65 rfl)) (ax_fc (ax_w_gf (e := none) hal d_Z_key_66 fd_Z_136) (ax_fc (ax_v_ld (ax_r_iload_n (i := 1) d_Z_key_69 rfl)) (ax_fc (ax_v_ld (ax_r_lload_n (i := 2) d_Z_key_70 rfl)) (ax_fc (ax_w_last hal d_Z_key_71) ax_fn)))))))))) (y := (72, [(4, .inl (.long ((s10.2 0 79 (a1).toNatClampNeg)))), (0, .inr (0, 38)), (1, .inl (.int (a1))), (2, .inl (.long (a2)))], [], ax_m (ax_wL s10 0 79 (a1).toNatClampNeg a2) ρ)) rfl ⟨trivial, (h0 38 rfl), trivial, ⟨(h0 79 rfl), ax_inp b11⟩, trivial, trivial, (h0 38 rfl), trivial, trivial, ⟨(h0 79 rfl), ax_inp b12⟩, trivial⟩ ?_
      refine ax_lt (Q := fun ςς => ax_R G 6 0 0 (72, [(4, .inl (.long ((s10.2 0 79 (a1).toNatClampNeg)))), (0, .inr (0, 38)), (1, .inl (.int (a1))), (2, .inl (.long (a2)))], [], ax_m (ςς) ρ)) h (fun s13 h => ?_)
      refine ax_bk hK (ax_fc (ax_v_ld (ax_r_lload d_Z_key_72)) ax_fn) (y := (74, [(4, .inl (.long ((s10.2 0 79 (a1).toNatClampNeg)))), (0, .inr (0, 38)), (1, .inl (.int (a1))), (2, .inl (.long (a2)))], [.inl (.long ((s10.2 0 79 (a1).toNatClampNeg)))], ax_m (s13) ρ)) rfl ⟨trivial, trivial⟩ ?_
      cases h
      exact ax_lret hA d_Z_key_74
    · replace h := ax_if c14 h
      refine ax_bk hK (ax_fc (ax_v_pu (ax_r_lconst (v := 0) d_Z_key_55 (by decide))) ax_fn) (y := (56, [(0, .inr (0, 38)), (1, .inl (.int (a1))), (2, .inl (.long (a2)))], [.inl (.long ((0 : Int64)))], ax_m (s10) ρ)) rfl ⟨trivial, trivial⟩ ?_
      cases h
      exact ax_lret hA d_Z_key_56
  clear h
  have h := hw15
  refine ax_if_ne (tgt := 12) hK d_Z_key_5 (by decide) (fun c8 => ?_) (fun c8 => ?_)
  · replace h := ax_if c8 h
    refine ax_bk hK (ax_fc (ax_v_ld (ax_r_iload_n (i := 1) d_Z_key_12 rfl)) ax_fn) (y := (13, [(0, .inr (0, 38)), (1, .inl (.int (a1))), (2, .inl (.long (a2)))], [.inl (.int (a1)), .inr (0, 38)], ax_m (s) ρ)) rfl ⟨trivial, trivial⟩ ?_
    obtain ⟨w7, hw7, h⟩ := ax_bd h
    have KTw7 : w7 = true → ax_R G 6 0 0 (28, [(0, .inr (0, 38)), (1, .inl (.int (a1))), (2, .inl (.long (a2)))], [.inr (0, 38)], ax_m (s) ρ) := by
      intro e9
      subst w7
      replace h := ax_ct h
      refine ax_bk hK (ax_fc (ax_v_pu (ax_r_iconst (v := 2) d_Z_key_28 (by decide))) (ax_fc (ax_v_go (tgt := 45) d_Z_key_29 (by decide)) ax_fn)) (y := (45, [(0, .inr (0, 38)), (1, .inl (.int (a1))), (2, .inl (.long (a2)))], [.inl (.int ((2 : Int32))), .inr (0, 38)], ax_m (s) ρ)) rfl ⟨trivial, trivial, trivial⟩ ?_
      cases h
      exact ax_Lsub [0, 1, 2] rfl (KEw15 _ rfl)
    have KFw7 : w7 = false → ax_R G 6 0 0 (32, [(0, .inr (0, 38)), (1, .inl (.int (a1))), (2, .inl (.long (a2)))], [.inr (0, 38)], ax_m (s) ρ) := by
      intro e9
      subst w7
      replace h := ax_cf h
      refine ax_bk hK (ax_fc (ax_v_ld (ax_r_aload_n (i := 0) d_Z_key_32 rfl)) (ax_fc (ax_v_ld (ax_r_lload_n (i := 2) d_Z_key_33 rfl)) ax_fn)) (y := (34, [(0, .inr (0, 38)), (1, .inl (.int (a1))), (2, .inl (.long (a2)))], [.inl (.long (a2)), .inr (0, 38), .inr (0, 38)], ax_m (s) ρ)) rfl ⟨trivial, trivial, trivial⟩ ?_
      obtain ⟨r4, q5, h⟩ := ax_bd h
      refine ax_bV (rest := [.inr (0, 38)]) hB (t_Z_isWord h0 q5) cw_Z_438 im_Z_isWord se_Z_isWord d_Z_key_34 (h0 38 rfl) rfl rfl (by decide) (by decide) rfl rfl (Nat.le_of_ble_eq_true rfl) ?_
      change ax_R G 6 0 0 (37, [(0, .inr (0, 38)), (1, .inl (.int (a1))), (2, .inl (.long (a2)))], [.inl (.int (r4)), .inr (0, 38)], ax_m (s) ρ)
      refine ax_if_ne (tgt := 44) hK d_Z_key_37 (by decide) (fun c6 => ?_) (fun c6 => ?_)
      · replace h := ax_if c6 h
        refine ax_bk hK (ax_fc (ax_v_pu (ax_r_iconst (v := 0) d_Z_key_44 (by decide))) ax_fn) (y := (45, [(0, .inr (0, 38)), (1, .inl (.int (a1))), (2, .inl (.long (a2)))], [.inl (.int ((0 : Int32))), .inr (0, 38)], ax_m (s) ρ)) rfl ⟨trivial, trivial⟩ ?_
        cases h
        exact ax_Lsub [0, 1, 2] rfl (KEw15 _ rfl)
      · replace h := ax_it c6 h
        refine ax_bk hK (ax_fc (ax_v_pu (ax_r_iconst (v := 3) d_Z_key_40 (by decide))) (ax_fc (ax_v_go (tgt := 45) d_Z_key_41 (by decide)) ax_fn)) (y := (45, [(0, .inr (0, 38)), (1, .inl (.int (a1))), (2, .inl (.long (a2)))], [.inl (.int ((3 : Int32))), .inr (0, 38)], ax_m (s) ρ)) rfl ⟨trivial, trivial, trivial⟩ ?_
        cases h
        exact ax_Lsub [0, 1, 2] rfl (KEw15 _ rfl)
    clear h
    have h := hw7
    refine ax_if_lt (tgt := 28) hK d_Z_key_13 (by decide) (fun c3 => ?_) (fun c3 => ?_)
    · replace h := ax_it c3 h
      cases h
      exact ax_Lsub [0, 1, 2] rfl (KTw7 rfl)
    · replace h := ax_if c3 h
      obtain ⟨b1, h⟩ := ax_gd h
      refine ax_bk hK (ax_fc (ax_v_ld (ax_r_iload_n (i := 1) d_Z_key_16 rfl)) (ax_fc (ax_v_pu (ax_r_i2l d_Z_key_17)) (ax_fc (ax_v_ld (ax_r_aload_n (i := 0) d_Z_key_18 rfl)) (ax_fc (ax_w_gf (e := none) hal d_Z_key_19 fd_Z_20) (ax_fc (ax_v_pu (ax_r_iconst (v := 2) d_Z_key_22 (by decide))) (ax_fc (ax_w_lald hal d_Z_key_23) (ax_fc (ax_v_pu (ax_r_lcmp d_Z_key_24)) ax_fn))))))) (y := (25, [(0, .inr (0, 38)), (1, .inl (.int (a1))), (2, .inl (.long (a2)))], [.inl (.int ((lg_cmp (a1).toInt64 (s.2 0 41 ((2 : Int32)).toNatClampNeg)))), .inr (0, 38)], ax_m (s) ρ)) rfl ⟨trivial, trivial, trivial, (h0 38 rfl), trivial, ⟨(h0 41 rfl), ax_inp b1⟩, trivial, trivial⟩ ?_
      refine ax_if_lt (tgt := 32) hK d_Z_key_25 (by decide) (fun c2 => ?_) (fun c2 => ?_)
      · replace h := ax_it c2 h
        cases h
        exact ax_Lsub [0, 1, 2] rfl (KFw7 rfl)
      · replace h := ax_if c2 h
        cases h
        exact ax_Lsub [0, 1, 2] rfl (KTw7 rfl)
  · replace h := ax_it c8 h
    refine ax_bk hK (ax_fc (ax_v_pu (ax_r_iconst (v := 1) d_Z_key_8 (by decide))) (ax_fc (ax_v_go (tgt := 45) d_Z_key_9 (by decide)) ax_fn)) (y := (45, [(0, .inr (0, 38)), (1, .inl (.int (a1))), (2, .inl (.long (a2)))], [.inl (.int ((1 : Int32))), .inr (0, 38)], ax_m (s) ρ)) rfl ⟨trivial, trivial, trivial⟩ ?_
    cases h
    exact ax_Lsub [0, 1, 2] rfl (KEw15 _ rfl)
def y_Z_state : MethodName := ⟨"CipherNotationModel", "state", "(IJ)J"⟩
theorem d_Z_state_0 : decode prog_8_method_62_code 0 = .ok (.aload_n 0, 1) := by decide +kernel
theorem d_Z_state_1 : decode prog_8_method_62_code 1 = .ok (.aload_n 0, 1) := by decide +kernel
theorem d_Z_state_2 : decode prog_8_method_62_code 2 = .ok (.getfield (384), 3) := by decide +kernel
theorem d_Z_state_5 : decode prog_8_method_62_code 5 = .ok (.ifCond .ne (7), 3) := by decide +kernel
theorem d_Z_state_8 : decode prog_8_method_62_code 8 = .ok (.iconst 1, 1) := by decide +kernel
theorem d_Z_state_9 : decode prog_8_method_62_code 9 = .ok (.goto (36), 3) := by decide +kernel
theorem d_Z_state_12 : decode prog_8_method_62_code 12 = .ok (.iload_n 1, 1) := by decide +kernel
theorem d_Z_state_13 : decode prog_8_method_62_code 13 = .ok (.ifCond .lt (15), 3) := by decide +kernel
theorem d_Z_state_16 : decode prog_8_method_62_code 16 = .ok (.iload_n 1, 1) := by decide +kernel
theorem d_Z_state_17 : decode prog_8_method_62_code 17 = .ok (.i2l, 1) := by decide +kernel
theorem d_Z_state_18 : decode prog_8_method_62_code 18 = .ok (.aload_n 0, 1) := by decide +kernel
theorem d_Z_state_19 : decode prog_8_method_62_code 19 = .ok (.getfield (20), 3) := by decide +kernel
theorem d_Z_state_22 : decode prog_8_method_62_code 22 = .ok (.iconst 1, 1) := by decide +kernel
theorem d_Z_state_23 : decode prog_8_method_62_code 23 = .ok (.laload, 1) := by decide +kernel
theorem d_Z_state_24 : decode prog_8_method_62_code 24 = .ok (.lcmp, 1) := by decide +kernel
theorem d_Z_state_25 : decode prog_8_method_62_code 25 = .ok (.ifCond .lt (7), 3) := by decide +kernel
theorem d_Z_state_28 : decode prog_8_method_62_code 28 = .ok (.iconst 2, 1) := by decide +kernel
theorem d_Z_state_29 : decode prog_8_method_62_code 29 = .ok (.goto (16), 3) := by decide +kernel
theorem d_Z_state_32 : decode prog_8_method_62_code 32 = .ok (.aload_n 0, 1) := by decide +kernel
theorem d_Z_state_33 : decode prog_8_method_62_code 33 = .ok (.lload_n 2, 1) := by decide +kernel
theorem d_Z_state_34 : decode prog_8_method_62_code 34 = .ok (.invokevirtual (438), 3) := by decide +kernel
theorem d_Z_state_37 : decode prog_8_method_62_code 37 = .ok (.ifCond .ne (7), 3) := by decide +kernel
theorem d_Z_state_40 : decode prog_8_method_62_code 40 = .ok (.iconst 3, 1) := by decide +kernel
theorem d_Z_state_41 : decode prog_8_method_62_code 41 = .ok (.goto (4), 3) := by decide +kernel
theorem d_Z_state_44 : decode prog_8_method_62_code 44 = .ok (.iconst 0, 1) := by decide +kernel
theorem d_Z_state_45 : decode prog_8_method_62_code 45 = .ok (.putfield (145), 3) := by decide +kernel
theorem d_Z_state_48 : decode prog_8_method_62_code 48 = .ok (.aload_n 0, 1) := by decide +kernel
theorem d_Z_state_49 : decode prog_8_method_62_code 49 = .ok (.getfield (145), 3) := by decide +kernel
theorem d_Z_state_52 : decode prog_8_method_62_code 52 = .ok (.ifCond .le (5), 3) := by decide +kernel
theorem d_Z_state_55 : decode prog_8_method_62_code 55 = .ok (.lconst 0, 1) := by decide +kernel
theorem d_Z_state_56 : decode prog_8_method_62_code 56 = .ok (.lreturn, 1) := by decide +kernel
theorem d_Z_state_57 : decode prog_8_method_62_code 57 = .ok (.aload_n 0, 1) := by decide +kernel
theorem d_Z_state_58 : decode prog_8_method_62_code 58 = .ok (.getfield (139), 3) := by decide +kernel
theorem d_Z_state_61 : decode prog_8_method_62_code 61 = .ok (.iload_n 1, 1) := by decide +kernel
theorem d_Z_state_62 : decode prog_8_method_62_code 62 = .ok (.laload, 1) := by decide +kernel
theorem d_Z_state_63 : decode prog_8_method_62_code 63 = .ok (.lstore (4), 2) := by decide +kernel
theorem d_Z_state_65 : decode prog_8_method_62_code 65 = .ok (.aload_n 0, 1) := by decide +kernel
theorem d_Z_state_66 : decode prog_8_method_62_code 66 = .ok (.getfield (139), 3) := by decide +kernel
theorem d_Z_state_69 : decode prog_8_method_62_code 69 = .ok (.iload_n 1, 1) := by decide +kernel
theorem d_Z_state_70 : decode prog_8_method_62_code 70 = .ok (.lload_n 2, 1) := by decide +kernel
theorem d_Z_state_71 : decode prog_8_method_62_code 71 = .ok (.lastore, 1) := by decide +kernel
theorem d_Z_state_72 : decode prog_8_method_62_code 72 = .ok (.lload (4), 2) := by decide +kernel
theorem d_Z_state_74 : decode prog_8_method_62_code 74 = .ok (.lreturn, 1) := by decide +kernel
def f_Z_state (a1 : Int32) (a2 : Int64) (s : ax_σ) : Option (Int64 × ax_σ) :=
  Option.bind (
    if (s.1 0 38 5) = (0 : Int32) then
      some (1 : Int32)
    else
      Option.bind (
        if a1 < (0 : Int32) then
          some true
        else
          bif ax_in (1 : Int32) 3 then
          if (lg_cmp (a1).toInt64 (s.2 0 41 ((1 : Int32)).toNatClampNeg)) < (0 : Int32) then
            some false
          else
            some true
          else none) (fun w7 => bif w7 then
        some (2 : Int32)
      else
        Option.bind (f_Z_isWord a2 s) (fun r4 =>
          if r4 = (0 : Int32) then
            some (3 : Int32)
          else
            some (0 : Int32)))) (fun v9 =>
    ax_let (ax_wI s 0 38 0 v9) (fun s10 =>
      if (s10.1 0 38 0) ≤ (0 : Int32) then
        bif ax_in a1 4 then
        bif ax_in a1 4 then
        ax_let (ax_wL s10 0 80 (a1).toNatClampNeg a2) (fun s13 =>
          some (((s10.2 0 80 (a1).toNatClampNeg), s13)))
        else none
        else none
      else
        some (((0 : Int64), s10))))
set_option maxHeartbeats 4000000 in
set_option maxRecDepth 100000 in
theorem t_Z_state {l : Launch} {D : va_G} {cA : Nat → ClassId} {ad : Nat → Nat → Nat} {al : List (Nat × Nat)} {θ : ax_Θ} {ρ : ax_ρ} (h0 : ax_M0 al) {a1 : Int32} {a2 : Int64} {s : ax_σ} {r0 : Int64} {s0 : ax_σ} (h : f_Z_state a1 a2 s = some (r0, s0)) : ax_T l D cA ad al θ y_Z_state (.code y_Z_state prog_8_method_62_code 6 (some .long)) 2 [.inr (0, 38), .inl (.int (a1)), .inl (.long (a2))] (ax_m s ρ) (some (.inl (.long r0))) (ax_m s0 ρ) := by
  refine ax_T_of (own := "CipherNotationModel") (by decide) rfl (Nat.le_of_ble_eq_true rfl) [(0, .inr (0, 38)), (1, .inl (.int (a1))), (2, .inl (.long (a2)))] rfl ?_
  intro G hA
  have hB := hA.B
  have hK := hB.K
  have hal := hB.la
  unfold f_Z_state at h
  refine ax_bk hK (ax_fc (ax_v_ld (ax_r_aload_n (i := 0) d_Z_state_0 rfl)) (ax_fc (ax_v_ld (ax_r_aload_n (i := 0) d_Z_state_1 rfl)) (ax_fc (ax_w_gf (e := none) hal d_Z_state_2 fd_Z_384) ax_fn))) (y := (5, [(0, .inr (0, 38)), (1, .inl (.int (a1))), (2, .inl (.long (a2)))], [.inl (.int ((s.1 0 38 5))), .inr (0, 38)], ax_m (s) ρ)) rfl ⟨trivial, trivial, (h0 38 rfl), trivial⟩ ?_
  obtain ⟨w15, hw15, h⟩ := ax_bd h
  have KEw15 : ∀ (v9 : Int32), w15 = v9 → ax_R G 6 0 0 (45, [(0, .inr (0, 38)), (1, .inl (.int (a1))), (2, .inl (.long (a2)))], [.inl (.int (v9)), .inr (0, 38)], ax_m (s) ρ) := by
    intro v9 e9
    subst w15
    try dsimp only at h
    refine ax_bk hK (ax_fc (ax_w_pf (tc := 0) hal d_Z_state_45 fp_Z_145 rfl) ax_fn) (y := (48, [(0, .inr (0, 38)), (1, .inl (.int (a1))), (2, .inl (.long (a2)))], [], ax_m (ax_wI s 0 38 0 v9) ρ)) rfl ⟨(h0 38 rfl), trivial⟩ ?_
    refine ax_lt (Q := fun ςς => ax_R G 6 0 0 (48, [(0, .inr (0, 38)), (1, .inl (.int (a1))), (2, .inl (.long (a2)))], [], ax_m (ςς) ρ)) h (fun s10 h => ?_)
    refine ax_bk hK (ax_fc (ax_v_ld (ax_r_aload_n (i := 0) d_Z_state_48 rfl)) (ax_fc (ax_w_gf (e := none) hal d_Z_state_49 fd_Z_145) ax_fn)) (y := (52, [(0, .inr (0, 38)), (1, .inl (.int (a1))), (2, .inl (.long (a2)))], [.inl (.int ((s10.1 0 38 0)))], ax_m (s10) ρ)) rfl ⟨trivial, (h0 38 rfl), trivial⟩ ?_
    refine ax_if_le (tgt := 57) hK d_Z_state_52 (by decide) (fun c14 => ?_) (fun c14 => ?_)
    · replace h := ax_it c14 h
      obtain ⟨b11, h⟩ := ax_gd h
      obtain ⟨b12, h⟩ := ax_gd h
      refine ax_bk hK (ax_fc (ax_v_ld (ax_r_aload_n (i := 0) d_Z_state_57 rfl)) (ax_fc (ax_w_gf (e := none) hal d_Z_state_58 fd_Z_139) (ax_fc (ax_v_ld (ax_r_iload_n (i := 1) d_Z_state_61 rfl)) (ax_fc (ax_w_lald hal d_Z_state_62) (ax_fc (ax_v_so (ax_r_lstore d_Z_state_63)) (ax_fc (ax_v_ld (ax_r_aload_n (i := 0) d_Z_state_65 rfl)) (ax_fc (ax_w_gf (e := none) hal d_Z_state_66 fd_Z_139) (ax_fc (ax_v_ld (ax_r_iload_n (i := 1) d_Z_state_69 rfl)) (ax_fc (ax_v_ld (ax_r_lload_n (i := 2) d_Z_state_70 rfl)) (ax_fc (ax_w_last hal d_Z_state_71) ax_fn)))))))))) (y := (72, [(4, .inl (.long ((s10.2 0 80 (a1).toNatClampNeg)))), (0, .inr (0, 38)), (1, .inl (.int (a1))), (2, .inl (.long (a2)))], [], ax_m (ax_wL s10 0 80 (a1).toNatClampNeg a2) ρ)) rfl ⟨trivial, (h0 38 rfl), trivial, ⟨(h0 80 rfl), ax_inp b11⟩, trivial, trivial, (h0 38 rfl), trivial, trivial, ⟨(h0 80 rfl), ax_inp b12⟩, trivial⟩ ?_
      refine ax_lt (Q := fun ςς => ax_R G 6 0 0 (72, [(4, .inl (.long ((s10.2 0 80 (a1).toNatClampNeg)))), (0, .inr (0, 38)), (1, .inl (.int (a1))), (2, .inl (.long (a2)))], [], ax_m (ςς) ρ)) h (fun s13 h => ?_)
      refine ax_bk hK (ax_fc (ax_v_ld (ax_r_lload d_Z_state_72)) ax_fn) (y := (74, [(4, .inl (.long ((s10.2 0 80 (a1).toNatClampNeg)))), (0, .inr (0, 38)), (1, .inl (.int (a1))), (2, .inl (.long (a2)))], [.inl (.long ((s10.2 0 80 (a1).toNatClampNeg)))], ax_m (s13) ρ)) rfl ⟨trivial, trivial⟩ ?_
      cases h
      exact ax_lret hA d_Z_state_74
    · replace h := ax_if c14 h
      refine ax_bk hK (ax_fc (ax_v_pu (ax_r_lconst (v := 0) d_Z_state_55 (by decide))) ax_fn) (y := (56, [(0, .inr (0, 38)), (1, .inl (.int (a1))), (2, .inl (.long (a2)))], [.inl (.long ((0 : Int64)))], ax_m (s10) ρ)) rfl ⟨trivial, trivial⟩ ?_
      cases h
      exact ax_lret hA d_Z_state_56
  clear h
  have h := hw15
  refine ax_if_ne (tgt := 12) hK d_Z_state_5 (by decide) (fun c8 => ?_) (fun c8 => ?_)
  · replace h := ax_if c8 h
    refine ax_bk hK (ax_fc (ax_v_ld (ax_r_iload_n (i := 1) d_Z_state_12 rfl)) ax_fn) (y := (13, [(0, .inr (0, 38)), (1, .inl (.int (a1))), (2, .inl (.long (a2)))], [.inl (.int (a1)), .inr (0, 38)], ax_m (s) ρ)) rfl ⟨trivial, trivial⟩ ?_
    obtain ⟨w7, hw7, h⟩ := ax_bd h
    have KTw7 : w7 = true → ax_R G 6 0 0 (28, [(0, .inr (0, 38)), (1, .inl (.int (a1))), (2, .inl (.long (a2)))], [.inr (0, 38)], ax_m (s) ρ) := by
      intro e9
      subst w7
      replace h := ax_ct h
      refine ax_bk hK (ax_fc (ax_v_pu (ax_r_iconst (v := 2) d_Z_state_28 (by decide))) (ax_fc (ax_v_go (tgt := 45) d_Z_state_29 (by decide)) ax_fn)) (y := (45, [(0, .inr (0, 38)), (1, .inl (.int (a1))), (2, .inl (.long (a2)))], [.inl (.int ((2 : Int32))), .inr (0, 38)], ax_m (s) ρ)) rfl ⟨trivial, trivial, trivial⟩ ?_
      cases h
      exact ax_Lsub [0, 1, 2] rfl (KEw15 _ rfl)
    have KFw7 : w7 = false → ax_R G 6 0 0 (32, [(0, .inr (0, 38)), (1, .inl (.int (a1))), (2, .inl (.long (a2)))], [.inr (0, 38)], ax_m (s) ρ) := by
      intro e9
      subst w7
      replace h := ax_cf h
      refine ax_bk hK (ax_fc (ax_v_ld (ax_r_aload_n (i := 0) d_Z_state_32 rfl)) (ax_fc (ax_v_ld (ax_r_lload_n (i := 2) d_Z_state_33 rfl)) ax_fn)) (y := (34, [(0, .inr (0, 38)), (1, .inl (.int (a1))), (2, .inl (.long (a2)))], [.inl (.long (a2)), .inr (0, 38), .inr (0, 38)], ax_m (s) ρ)) rfl ⟨trivial, trivial, trivial⟩ ?_
      obtain ⟨r4, q5, h⟩ := ax_bd h
      refine ax_bV (rest := [.inr (0, 38)]) hB (t_Z_isWord h0 q5) cw_Z_438 im_Z_isWord se_Z_isWord d_Z_state_34 (h0 38 rfl) rfl rfl (by decide) (by decide) rfl rfl (Nat.le_of_ble_eq_true rfl) ?_
      change ax_R G 6 0 0 (37, [(0, .inr (0, 38)), (1, .inl (.int (a1))), (2, .inl (.long (a2)))], [.inl (.int (r4)), .inr (0, 38)], ax_m (s) ρ)
      refine ax_if_ne (tgt := 44) hK d_Z_state_37 (by decide) (fun c6 => ?_) (fun c6 => ?_)
      · replace h := ax_if c6 h
        refine ax_bk hK (ax_fc (ax_v_pu (ax_r_iconst (v := 0) d_Z_state_44 (by decide))) ax_fn) (y := (45, [(0, .inr (0, 38)), (1, .inl (.int (a1))), (2, .inl (.long (a2)))], [.inl (.int ((0 : Int32))), .inr (0, 38)], ax_m (s) ρ)) rfl ⟨trivial, trivial⟩ ?_
        cases h
        exact ax_Lsub [0, 1, 2] rfl (KEw15 _ rfl)
      · replace h := ax_it c6 h
        refine ax_bk hK (ax_fc (ax_v_pu (ax_r_iconst (v := 3) d_Z_state_40 (by decide))) (ax_fc (ax_v_go (tgt := 45) d_Z_state_41 (by decide)) ax_fn)) (y := (45, [(0, .inr (0, 38)), (1, .inl (.int (a1))), (2, .inl (.long (a2)))], [.inl (.int ((3 : Int32))), .inr (0, 38)], ax_m (s) ρ)) rfl ⟨trivial, trivial, trivial⟩ ?_
        cases h
        exact ax_Lsub [0, 1, 2] rfl (KEw15 _ rfl)
    clear h
    have h := hw7
    refine ax_if_lt (tgt := 28) hK d_Z_state_13 (by decide) (fun c3 => ?_) (fun c3 => ?_)
    · replace h := ax_it c3 h
      cases h
      exact ax_Lsub [0, 1, 2] rfl (KTw7 rfl)
    · replace h := ax_if c3 h
      obtain ⟨b1, h⟩ := ax_gd h
      refine ax_bk hK (ax_fc (ax_v_ld (ax_r_iload_n (i := 1) d_Z_state_16 rfl)) (ax_fc (ax_v_pu (ax_r_i2l d_Z_state_17)) (ax_fc (ax_v_ld (ax_r_aload_n (i := 0) d_Z_state_18 rfl)) (ax_fc (ax_w_gf (e := none) hal d_Z_state_19 fd_Z_20) (ax_fc (ax_v_pu (ax_r_iconst (v := 1) d_Z_state_22 (by decide))) (ax_fc (ax_w_lald hal d_Z_state_23) (ax_fc (ax_v_pu (ax_r_lcmp d_Z_state_24)) ax_fn))))))) (y := (25, [(0, .inr (0, 38)), (1, .inl (.int (a1))), (2, .inl (.long (a2)))], [.inl (.int ((lg_cmp (a1).toInt64 (s.2 0 41 ((1 : Int32)).toNatClampNeg)))), .inr (0, 38)], ax_m (s) ρ)) rfl ⟨trivial, trivial, trivial, (h0 38 rfl), trivial, ⟨(h0 41 rfl), ax_inp b1⟩, trivial, trivial⟩ ?_
      refine ax_if_lt (tgt := 32) hK d_Z_state_25 (by decide) (fun c2 => ?_) (fun c2 => ?_)
      · replace h := ax_it c2 h
        cases h
        exact ax_Lsub [0, 1, 2] rfl (KFw7 rfl)
      · replace h := ax_if c2 h
        cases h
        exact ax_Lsub [0, 1, 2] rfl (KTw7 rfl)
  · replace h := ax_it c8 h
    refine ax_bk hK (ax_fc (ax_v_pu (ax_r_iconst (v := 1) d_Z_state_8 (by decide))) (ax_fc (ax_v_go (tgt := 45) d_Z_state_9 (by decide)) ax_fn)) (y := (45, [(0, .inr (0, 38)), (1, .inl (.int (a1))), (2, .inl (.long (a2)))], [.inl (.int ((1 : Int32))), .inr (0, 38)], ax_m (s) ρ)) rfl ⟨trivial, trivial, trivial⟩ ?_
    cases h
    exact ax_Lsub [0, 1, 2] rfl (KEw15 _ rfl)
def y_Z_keyWord : MethodName := ⟨"CipherNotationModel", "keyWord", "(I)J"⟩
theorem d_Z_keyWord_0 : decode prog_8_method_63_code 0 = .ok (.aload_n 0, 1) := by decide +kernel
theorem d_Z_keyWord_1 : decode prog_8_method_63_code 1 = .ok (.aload_n 0, 1) := by decide +kernel
theorem d_Z_keyWord_2 : decode prog_8_method_63_code 2 = .ok (.getfield (384), 3) := by decide +kernel
theorem d_Z_keyWord_5 : decode prog_8_method_63_code 5 = .ok (.ifCond .ne (7), 3) := by decide +kernel
theorem d_Z_keyWord_8 : decode prog_8_method_63_code 8 = .ok (.iconst 1, 1) := by decide +kernel
theorem d_Z_keyWord_9 : decode prog_8_method_63_code 9 = .ok (.goto (24), 3) := by decide +kernel
theorem d_Z_keyWord_12 : decode prog_8_method_63_code 12 = .ok (.iload_n 1, 1) := by decide +kernel
theorem d_Z_keyWord_13 : decode prog_8_method_63_code 13 = .ok (.ifCond .lt (15), 3) := by decide +kernel
theorem d_Z_keyWord_16 : decode prog_8_method_63_code 16 = .ok (.iload_n 1, 1) := by decide +kernel
theorem d_Z_keyWord_17 : decode prog_8_method_63_code 17 = .ok (.i2l, 1) := by decide +kernel
theorem d_Z_keyWord_18 : decode prog_8_method_63_code 18 = .ok (.aload_n 0, 1) := by decide +kernel
theorem d_Z_keyWord_19 : decode prog_8_method_63_code 19 = .ok (.getfield (20), 3) := by decide +kernel
theorem d_Z_keyWord_22 : decode prog_8_method_63_code 22 = .ok (.iconst 2, 1) := by decide +kernel
theorem d_Z_keyWord_23 : decode prog_8_method_63_code 23 = .ok (.laload, 1) := by decide +kernel
theorem d_Z_keyWord_24 : decode prog_8_method_63_code 24 = .ok (.lcmp, 1) := by decide +kernel
theorem d_Z_keyWord_25 : decode prog_8_method_63_code 25 = .ok (.ifCond .lt (7), 3) := by decide +kernel
theorem d_Z_keyWord_28 : decode prog_8_method_63_code 28 = .ok (.iconst 2, 1) := by decide +kernel
theorem d_Z_keyWord_29 : decode prog_8_method_63_code 29 = .ok (.goto (4), 3) := by decide +kernel
theorem d_Z_keyWord_32 : decode prog_8_method_63_code 32 = .ok (.iconst 0, 1) := by decide +kernel
theorem d_Z_keyWord_33 : decode prog_8_method_63_code 33 = .ok (.putfield (145), 3) := by decide +kernel
theorem d_Z_keyWord_36 : decode prog_8_method_63_code 36 = .ok (.aload_n 0, 1) := by decide +kernel
theorem d_Z_keyWord_37 : decode prog_8_method_63_code 37 = .ok (.getfield (145), 3) := by decide +kernel
theorem d_Z_keyWord_40 : decode prog_8_method_63_code 40 = .ok (.ifCond .le (7), 3) := by decide +kernel
theorem d_Z_keyWord_43 : decode prog_8_method_63_code 43 = .ok (.lconst 0, 1) := by decide +kernel
theorem d_Z_keyWord_44 : decode prog_8_method_63_code 44 = .ok (.goto (9), 3) := by decide +kernel
theorem d_Z_keyWord_47 : decode prog_8_method_63_code 47 = .ok (.aload_n 0, 1) := by decide +kernel
theorem d_Z_keyWord_48 : decode prog_8_method_63_code 48 = .ok (.getfield (136), 3) := by decide +kernel
theorem d_Z_keyWord_51 : decode prog_8_method_63_code 51 = .ok (.iload_n 1, 1) := by decide +kernel
theorem d_Z_keyWord_52 : decode prog_8_method_63_code 52 = .ok (.laload, 1) := by decide +kernel
theorem d_Z_keyWord_53 : decode prog_8_method_63_code 53 = .ok (.lreturn, 1) := by decide +kernel
def f_Z_keyWord (a1 : Int32) (s : ax_σ) : Option (Int64 × ax_σ) :=
  Option.bind (
    if (s.1 0 38 5) = (0 : Int32) then
      some (1 : Int32)
    else
      Option.bind (
        if a1 < (0 : Int32) then
          some true
        else
          bif ax_in (2 : Int32) 3 then
          if (lg_cmp (a1).toInt64 (s.2 0 41 ((2 : Int32)).toNatClampNeg)) < (0 : Int32) then
            some false
          else
            some true
          else none) (fun w4 => bif w4 then
        some (2 : Int32)
      else
        some (0 : Int32))) (fun v6 =>
    ax_let (ax_wI s 0 38 0 v6) (fun s7 =>
      if (s7.1 0 38 0) ≤ (0 : Int32) then
        bif ax_in a1 4 then
        some (((s7.2 0 79 (a1).toNatClampNeg), s7))
        else none
      else
        some (((0 : Int64), s7))))
set_option maxHeartbeats 4000000 in
set_option maxRecDepth 100000 in
theorem t_Z_keyWord {l : Launch} {D : va_G} {cA : Nat → ClassId} {ad : Nat → Nat → Nat} {al : List (Nat × Nat)} {θ : ax_Θ} {ρ : ax_ρ} (h0 : ax_M0 al) {a1 : Int32} {s : ax_σ} {r0 : Int64} {s0 : ax_σ} (h : f_Z_keyWord a1 s = some (r0, s0)) : ax_T l D cA ad al θ y_Z_keyWord (.code y_Z_keyWord prog_8_method_63_code 2 (some .long)) 0 [.inr (0, 38), .inl (.int (a1))] (ax_m s ρ) (some (.inl (.long r0))) (ax_m s0 ρ) := by
  refine ax_T_of (own := "CipherNotationModel") (by decide) rfl (Nat.le_of_ble_eq_true rfl) [(0, .inr (0, 38)), (1, .inl (.int (a1)))] rfl ?_
  intro G hA
  have hB := hA.B
  have hK := hB.K
  have hal := hB.la
  unfold f_Z_keyWord at h
  refine ax_bk hK (ax_fc (ax_v_ld (ax_r_aload_n (i := 0) d_Z_keyWord_0 rfl)) (ax_fc (ax_v_ld (ax_r_aload_n (i := 0) d_Z_keyWord_1 rfl)) (ax_fc (ax_w_gf (e := none) hal d_Z_keyWord_2 fd_Z_384) ax_fn))) (y := (5, [(0, .inr (0, 38)), (1, .inl (.int (a1)))], [.inl (.int ((s.1 0 38 5))), .inr (0, 38)], ax_m (s) ρ)) rfl ⟨trivial, trivial, (h0 38 rfl), trivial⟩ ?_
  obtain ⟨w10, hw10, h⟩ := ax_bd h
  have KEw10 : ∀ (v6 : Int32), w10 = v6 → ax_R G 2 0 0 (33, [(0, .inr (0, 38)), (1, .inl (.int (a1)))], [.inl (.int (v6)), .inr (0, 38)], ax_m (s) ρ) := by
    intro v6 e9
    subst w10
    try dsimp only at h
    refine ax_bk hK (ax_fc (ax_w_pf (tc := 0) hal d_Z_keyWord_33 fp_Z_145 rfl) ax_fn) (y := (36, [(0, .inr (0, 38)), (1, .inl (.int (a1)))], [], ax_m (ax_wI s 0 38 0 v6) ρ)) rfl ⟨(h0 38 rfl), trivial⟩ ?_
    refine ax_lt (Q := fun ςς => ax_R G 2 0 0 (36, [(0, .inr (0, 38)), (1, .inl (.int (a1)))], [], ax_m (ςς) ρ)) h (fun s7 h => ?_)
    refine ax_bk hK (ax_fc (ax_v_ld (ax_r_aload_n (i := 0) d_Z_keyWord_36 rfl)) (ax_fc (ax_w_gf (e := none) hal d_Z_keyWord_37 fd_Z_145) ax_fn)) (y := (40, [(0, .inr (0, 38)), (1, .inl (.int (a1)))], [.inl (.int ((s7.1 0 38 0)))], ax_m (s7) ρ)) rfl ⟨trivial, (h0 38 rfl), trivial⟩ ?_
    refine ax_if_le (tgt := 47) hK d_Z_keyWord_40 (by decide) (fun c9 => ?_) (fun c9 => ?_)
    · replace h := ax_it c9 h
      obtain ⟨b8, h⟩ := ax_gd h
      refine ax_bk hK (ax_fc (ax_v_ld (ax_r_aload_n (i := 0) d_Z_keyWord_47 rfl)) (ax_fc (ax_w_gf (e := none) hal d_Z_keyWord_48 fd_Z_136) (ax_fc (ax_v_ld (ax_r_iload_n (i := 1) d_Z_keyWord_51 rfl)) (ax_fc (ax_w_lald hal d_Z_keyWord_52) ax_fn)))) (y := (53, [(0, .inr (0, 38)), (1, .inl (.int (a1)))], [.inl (.long ((s7.2 0 79 (a1).toNatClampNeg)))], ax_m (s7) ρ)) rfl ⟨trivial, (h0 38 rfl), trivial, ⟨(h0 79 rfl), ax_inp b8⟩, trivial⟩ ?_
      cases h
      exact ax_lret hA d_Z_keyWord_53
    · replace h := ax_if c9 h
      refine ax_bk hK (ax_fc (ax_v_pu (ax_r_lconst (v := 0) d_Z_keyWord_43 (by decide))) (ax_fc (ax_v_go (tgt := 53) d_Z_keyWord_44 (by decide)) ax_fn)) (y := (53, [(0, .inr (0, 38)), (1, .inl (.int (a1)))], [.inl (.long ((0 : Int64)))], ax_m (s7) ρ)) rfl ⟨trivial, trivial, trivial⟩ ?_
      cases h
      exact ax_lret hA d_Z_keyWord_53
  clear h
  have h := hw10
  refine ax_if_ne (tgt := 12) hK d_Z_keyWord_5 (by decide) (fun c5 => ?_) (fun c5 => ?_)
  · replace h := ax_if c5 h
    refine ax_bk hK (ax_fc (ax_v_ld (ax_r_iload_n (i := 1) d_Z_keyWord_12 rfl)) ax_fn) (y := (13, [(0, .inr (0, 38)), (1, .inl (.int (a1)))], [.inl (.int (a1)), .inr (0, 38)], ax_m (s) ρ)) rfl ⟨trivial, trivial⟩ ?_
    obtain ⟨w4, hw4, h⟩ := ax_bd h
    have KTw4 : w4 = true → ax_R G 2 0 0 (28, [(0, .inr (0, 38)), (1, .inl (.int (a1)))], [.inr (0, 38)], ax_m (s) ρ) := by
      intro e9
      subst w4
      replace h := ax_ct h
      refine ax_bk hK (ax_fc (ax_v_pu (ax_r_iconst (v := 2) d_Z_keyWord_28 (by decide))) (ax_fc (ax_v_go (tgt := 33) d_Z_keyWord_29 (by decide)) ax_fn)) (y := (33, [(0, .inr (0, 38)), (1, .inl (.int (a1)))], [.inl (.int ((2 : Int32))), .inr (0, 38)], ax_m (s) ρ)) rfl ⟨trivial, trivial, trivial⟩ ?_
      cases h
      exact ax_Lsub [0, 1] rfl (KEw10 _ rfl)
    have KFw4 : w4 = false → ax_R G 2 0 0 (32, [(0, .inr (0, 38)), (1, .inl (.int (a1)))], [.inr (0, 38)], ax_m (s) ρ) := by
      intro e9
      subst w4
      replace h := ax_cf h
      refine ax_bk hK (ax_fc (ax_v_pu (ax_r_iconst (v := 0) d_Z_keyWord_32 (by decide))) ax_fn) (y := (33, [(0, .inr (0, 38)), (1, .inl (.int (a1)))], [.inl (.int ((0 : Int32))), .inr (0, 38)], ax_m (s) ρ)) rfl ⟨trivial, trivial⟩ ?_
      cases h
      exact ax_Lsub [0, 1] rfl (KEw10 _ rfl)
    clear h
    have h := hw4
    refine ax_if_lt (tgt := 28) hK d_Z_keyWord_13 (by decide) (fun c3 => ?_) (fun c3 => ?_)
    · replace h := ax_it c3 h
      cases h
      exact ax_Lsub [0, 1] rfl (KTw4 rfl)
    · replace h := ax_if c3 h
      obtain ⟨b1, h⟩ := ax_gd h
      refine ax_bk hK (ax_fc (ax_v_ld (ax_r_iload_n (i := 1) d_Z_keyWord_16 rfl)) (ax_fc (ax_v_pu (ax_r_i2l d_Z_keyWord_17)) (ax_fc (ax_v_ld (ax_r_aload_n (i := 0) d_Z_keyWord_18 rfl)) (ax_fc (ax_w_gf (e := none) hal d_Z_keyWord_19 fd_Z_20) (ax_fc (ax_v_pu (ax_r_iconst (v := 2) d_Z_keyWord_22 (by decide))) (ax_fc (ax_w_lald hal d_Z_keyWord_23) (ax_fc (ax_v_pu (ax_r_lcmp d_Z_keyWord_24)) ax_fn))))))) (y := (25, [(0, .inr (0, 38)), (1, .inl (.int (a1)))], [.inl (.int ((lg_cmp (a1).toInt64 (s.2 0 41 ((2 : Int32)).toNatClampNeg)))), .inr (0, 38)], ax_m (s) ρ)) rfl ⟨trivial, trivial, trivial, (h0 38 rfl), trivial, ⟨(h0 41 rfl), ax_inp b1⟩, trivial, trivial⟩ ?_
      refine ax_if_lt (tgt := 32) hK d_Z_keyWord_25 (by decide) (fun c2 => ?_) (fun c2 => ?_)
      · replace h := ax_it c2 h
        cases h
        exact ax_Lsub [0, 1] rfl (KFw4 rfl)
      · replace h := ax_if c2 h
        cases h
        exact ax_Lsub [0, 1] rfl (KTw4 rfl)
  · replace h := ax_it c5 h
    refine ax_bk hK (ax_fc (ax_v_pu (ax_r_iconst (v := 1) d_Z_keyWord_8 (by decide))) (ax_fc (ax_v_go (tgt := 33) d_Z_keyWord_9 (by decide)) ax_fn)) (y := (33, [(0, .inr (0, 38)), (1, .inl (.int (a1)))], [.inl (.int ((1 : Int32))), .inr (0, 38)], ax_m (s) ρ)) rfl ⟨trivial, trivial, trivial⟩ ?_
    cases h
    exact ax_Lsub [0, 1] rfl (KEw10 _ rfl)
def y_Z_word : MethodName := ⟨"CipherNotationModel", "word", "(I)J"⟩
theorem d_Z_word_0 : decode prog_8_method_64_code 0 = .ok (.aload_n 0, 1) := by decide +kernel
theorem d_Z_word_1 : decode prog_8_method_64_code 1 = .ok (.aload_n 0, 1) := by decide +kernel
theorem d_Z_word_2 : decode prog_8_method_64_code 2 = .ok (.getfield (384), 3) := by decide +kernel
theorem d_Z_word_5 : decode prog_8_method_64_code 5 = .ok (.ifCond .ne (7), 3) := by decide +kernel
theorem d_Z_word_8 : decode prog_8_method_64_code 8 = .ok (.iconst 1, 1) := by decide +kernel
theorem d_Z_word_9 : decode prog_8_method_64_code 9 = .ok (.goto (24), 3) := by decide +kernel
theorem d_Z_word_12 : decode prog_8_method_64_code 12 = .ok (.iload_n 1, 1) := by decide +kernel
theorem d_Z_word_13 : decode prog_8_method_64_code 13 = .ok (.ifCond .lt (15), 3) := by decide +kernel
theorem d_Z_word_16 : decode prog_8_method_64_code 16 = .ok (.iload_n 1, 1) := by decide +kernel
theorem d_Z_word_17 : decode prog_8_method_64_code 17 = .ok (.i2l, 1) := by decide +kernel
theorem d_Z_word_18 : decode prog_8_method_64_code 18 = .ok (.aload_n 0, 1) := by decide +kernel
theorem d_Z_word_19 : decode prog_8_method_64_code 19 = .ok (.getfield (20), 3) := by decide +kernel
theorem d_Z_word_22 : decode prog_8_method_64_code 22 = .ok (.iconst 1, 1) := by decide +kernel
theorem d_Z_word_23 : decode prog_8_method_64_code 23 = .ok (.laload, 1) := by decide +kernel
theorem d_Z_word_24 : decode prog_8_method_64_code 24 = .ok (.lcmp, 1) := by decide +kernel
theorem d_Z_word_25 : decode prog_8_method_64_code 25 = .ok (.ifCond .lt (7), 3) := by decide +kernel
theorem d_Z_word_28 : decode prog_8_method_64_code 28 = .ok (.iconst 2, 1) := by decide +kernel
theorem d_Z_word_29 : decode prog_8_method_64_code 29 = .ok (.goto (4), 3) := by decide +kernel
theorem d_Z_word_32 : decode prog_8_method_64_code 32 = .ok (.iconst 0, 1) := by decide +kernel
theorem d_Z_word_33 : decode prog_8_method_64_code 33 = .ok (.putfield (145), 3) := by decide +kernel
theorem d_Z_word_36 : decode prog_8_method_64_code 36 = .ok (.aload_n 0, 1) := by decide +kernel
theorem d_Z_word_37 : decode prog_8_method_64_code 37 = .ok (.getfield (145), 3) := by decide +kernel
theorem d_Z_word_40 : decode prog_8_method_64_code 40 = .ok (.ifCond .le (7), 3) := by decide +kernel
theorem d_Z_word_43 : decode prog_8_method_64_code 43 = .ok (.lconst 0, 1) := by decide +kernel
theorem d_Z_word_44 : decode prog_8_method_64_code 44 = .ok (.goto (9), 3) := by decide +kernel
theorem d_Z_word_47 : decode prog_8_method_64_code 47 = .ok (.aload_n 0, 1) := by decide +kernel
theorem d_Z_word_48 : decode prog_8_method_64_code 48 = .ok (.getfield (139), 3) := by decide +kernel
theorem d_Z_word_51 : decode prog_8_method_64_code 51 = .ok (.iload_n 1, 1) := by decide +kernel
theorem d_Z_word_52 : decode prog_8_method_64_code 52 = .ok (.laload, 1) := by decide +kernel
theorem d_Z_word_53 : decode prog_8_method_64_code 53 = .ok (.lreturn, 1) := by decide +kernel
def f_Z_word (a1 : Int32) (s : ax_σ) : Option (Int64 × ax_σ) :=
  Option.bind (
    if (s.1 0 38 5) = (0 : Int32) then
      some (1 : Int32)
    else
      Option.bind (
        if a1 < (0 : Int32) then
          some true
        else
          bif ax_in (1 : Int32) 3 then
          if (lg_cmp (a1).toInt64 (s.2 0 41 ((1 : Int32)).toNatClampNeg)) < (0 : Int32) then
            some false
          else
            some true
          else none) (fun w4 => bif w4 then
        some (2 : Int32)
      else
        some (0 : Int32))) (fun v6 =>
    ax_let (ax_wI s 0 38 0 v6) (fun s7 =>
      if (s7.1 0 38 0) ≤ (0 : Int32) then
        bif ax_in a1 4 then
        some (((s7.2 0 80 (a1).toNatClampNeg), s7))
        else none
      else
        some (((0 : Int64), s7))))
set_option maxHeartbeats 4000000 in
set_option maxRecDepth 100000 in
theorem t_Z_word {l : Launch} {D : va_G} {cA : Nat → ClassId} {ad : Nat → Nat → Nat} {al : List (Nat × Nat)} {θ : ax_Θ} {ρ : ax_ρ} (h0 : ax_M0 al) {a1 : Int32} {s : ax_σ} {r0 : Int64} {s0 : ax_σ} (h : f_Z_word a1 s = some (r0, s0)) : ax_T l D cA ad al θ y_Z_word (.code y_Z_word prog_8_method_64_code 2 (some .long)) 0 [.inr (0, 38), .inl (.int (a1))] (ax_m s ρ) (some (.inl (.long r0))) (ax_m s0 ρ) := by
  refine ax_T_of (own := "CipherNotationModel") (by decide) rfl (Nat.le_of_ble_eq_true rfl) [(0, .inr (0, 38)), (1, .inl (.int (a1)))] rfl ?_
  intro G hA
  have hB := hA.B
  have hK := hB.K
  have hal := hB.la
  unfold f_Z_word at h
  refine ax_bk hK (ax_fc (ax_v_ld (ax_r_aload_n (i := 0) d_Z_word_0 rfl)) (ax_fc (ax_v_ld (ax_r_aload_n (i := 0) d_Z_word_1 rfl)) (ax_fc (ax_w_gf (e := none) hal d_Z_word_2 fd_Z_384) ax_fn))) (y := (5, [(0, .inr (0, 38)), (1, .inl (.int (a1)))], [.inl (.int ((s.1 0 38 5))), .inr (0, 38)], ax_m (s) ρ)) rfl ⟨trivial, trivial, (h0 38 rfl), trivial⟩ ?_
  obtain ⟨w10, hw10, h⟩ := ax_bd h
  have KEw10 : ∀ (v6 : Int32), w10 = v6 → ax_R G 2 0 0 (33, [(0, .inr (0, 38)), (1, .inl (.int (a1)))], [.inl (.int (v6)), .inr (0, 38)], ax_m (s) ρ) := by
    intro v6 e9
    subst w10
    try dsimp only at h
    refine ax_bk hK (ax_fc (ax_w_pf (tc := 0) hal d_Z_word_33 fp_Z_145 rfl) ax_fn) (y := (36, [(0, .inr (0, 38)), (1, .inl (.int (a1)))], [], ax_m (ax_wI s 0 38 0 v6) ρ)) rfl ⟨(h0 38 rfl), trivial⟩ ?_
    refine ax_lt (Q := fun ςς => ax_R G 2 0 0 (36, [(0, .inr (0, 38)), (1, .inl (.int (a1)))], [], ax_m (ςς) ρ)) h (fun s7 h => ?_)
    refine ax_bk hK (ax_fc (ax_v_ld (ax_r_aload_n (i := 0) d_Z_word_36 rfl)) (ax_fc (ax_w_gf (e := none) hal d_Z_word_37 fd_Z_145) ax_fn)) (y := (40, [(0, .inr (0, 38)), (1, .inl (.int (a1)))], [.inl (.int ((s7.1 0 38 0)))], ax_m (s7) ρ)) rfl ⟨trivial, (h0 38 rfl), trivial⟩ ?_
    refine ax_if_le (tgt := 47) hK d_Z_word_40 (by decide) (fun c9 => ?_) (fun c9 => ?_)
    · replace h := ax_it c9 h
      obtain ⟨b8, h⟩ := ax_gd h
      refine ax_bk hK (ax_fc (ax_v_ld (ax_r_aload_n (i := 0) d_Z_word_47 rfl)) (ax_fc (ax_w_gf (e := none) hal d_Z_word_48 fd_Z_139) (ax_fc (ax_v_ld (ax_r_iload_n (i := 1) d_Z_word_51 rfl)) (ax_fc (ax_w_lald hal d_Z_word_52) ax_fn)))) (y := (53, [(0, .inr (0, 38)), (1, .inl (.int (a1)))], [.inl (.long ((s7.2 0 80 (a1).toNatClampNeg)))], ax_m (s7) ρ)) rfl ⟨trivial, (h0 38 rfl), trivial, ⟨(h0 80 rfl), ax_inp b8⟩, trivial⟩ ?_
      cases h
      exact ax_lret hA d_Z_word_53
    · replace h := ax_if c9 h
      refine ax_bk hK (ax_fc (ax_v_pu (ax_r_lconst (v := 0) d_Z_word_43 (by decide))) (ax_fc (ax_v_go (tgt := 53) d_Z_word_44 (by decide)) ax_fn)) (y := (53, [(0, .inr (0, 38)), (1, .inl (.int (a1)))], [.inl (.long ((0 : Int64)))], ax_m (s7) ρ)) rfl ⟨trivial, trivial, trivial⟩ ?_
      cases h
      exact ax_lret hA d_Z_word_53
  clear h
  have h := hw10
  refine ax_if_ne (tgt := 12) hK d_Z_word_5 (by decide) (fun c5 => ?_) (fun c5 => ?_)
  · replace h := ax_if c5 h
    refine ax_bk hK (ax_fc (ax_v_ld (ax_r_iload_n (i := 1) d_Z_word_12 rfl)) ax_fn) (y := (13, [(0, .inr (0, 38)), (1, .inl (.int (a1)))], [.inl (.int (a1)), .inr (0, 38)], ax_m (s) ρ)) rfl ⟨trivial, trivial⟩ ?_
    obtain ⟨w4, hw4, h⟩ := ax_bd h
    have KTw4 : w4 = true → ax_R G 2 0 0 (28, [(0, .inr (0, 38)), (1, .inl (.int (a1)))], [.inr (0, 38)], ax_m (s) ρ) := by
      intro e9
      subst w4
      replace h := ax_ct h
      refine ax_bk hK (ax_fc (ax_v_pu (ax_r_iconst (v := 2) d_Z_word_28 (by decide))) (ax_fc (ax_v_go (tgt := 33) d_Z_word_29 (by decide)) ax_fn)) (y := (33, [(0, .inr (0, 38)), (1, .inl (.int (a1)))], [.inl (.int ((2 : Int32))), .inr (0, 38)], ax_m (s) ρ)) rfl ⟨trivial, trivial, trivial⟩ ?_
      cases h
      exact ax_Lsub [0, 1] rfl (KEw10 _ rfl)
    have KFw4 : w4 = false → ax_R G 2 0 0 (32, [(0, .inr (0, 38)), (1, .inl (.int (a1)))], [.inr (0, 38)], ax_m (s) ρ) := by
      intro e9
      subst w4
      replace h := ax_cf h
      refine ax_bk hK (ax_fc (ax_v_pu (ax_r_iconst (v := 0) d_Z_word_32 (by decide))) ax_fn) (y := (33, [(0, .inr (0, 38)), (1, .inl (.int (a1)))], [.inl (.int ((0 : Int32))), .inr (0, 38)], ax_m (s) ρ)) rfl ⟨trivial, trivial⟩ ?_
      cases h
      exact ax_Lsub [0, 1] rfl (KEw10 _ rfl)
    clear h
    have h := hw4
    refine ax_if_lt (tgt := 28) hK d_Z_word_13 (by decide) (fun c3 => ?_) (fun c3 => ?_)
    · replace h := ax_it c3 h
      cases h
      exact ax_Lsub [0, 1] rfl (KTw4 rfl)
    · replace h := ax_if c3 h
      obtain ⟨b1, h⟩ := ax_gd h
      refine ax_bk hK (ax_fc (ax_v_ld (ax_r_iload_n (i := 1) d_Z_word_16 rfl)) (ax_fc (ax_v_pu (ax_r_i2l d_Z_word_17)) (ax_fc (ax_v_ld (ax_r_aload_n (i := 0) d_Z_word_18 rfl)) (ax_fc (ax_w_gf (e := none) hal d_Z_word_19 fd_Z_20) (ax_fc (ax_v_pu (ax_r_iconst (v := 1) d_Z_word_22 (by decide))) (ax_fc (ax_w_lald hal d_Z_word_23) (ax_fc (ax_v_pu (ax_r_lcmp d_Z_word_24)) ax_fn))))))) (y := (25, [(0, .inr (0, 38)), (1, .inl (.int (a1)))], [.inl (.int ((lg_cmp (a1).toInt64 (s.2 0 41 ((1 : Int32)).toNatClampNeg)))), .inr (0, 38)], ax_m (s) ρ)) rfl ⟨trivial, trivial, trivial, (h0 38 rfl), trivial, ⟨(h0 41 rfl), ax_inp b1⟩, trivial, trivial⟩ ?_
      refine ax_if_lt (tgt := 32) hK d_Z_word_25 (by decide) (fun c2 => ?_) (fun c2 => ?_)
      · replace h := ax_it c2 h
        cases h
        exact ax_Lsub [0, 1] rfl (KFw4 rfl)
      · replace h := ax_if c2 h
        cases h
        exact ax_Lsub [0, 1] rfl (KTw4 rfl)
  · replace h := ax_it c5 h
    refine ax_bk hK (ax_fc (ax_v_pu (ax_r_iconst (v := 1) d_Z_word_8 (by decide))) (ax_fc (ax_v_go (tgt := 33) d_Z_word_9 (by decide)) ax_fn)) (y := (33, [(0, .inr (0, 38)), (1, .inl (.int (a1)))], [.inl (.int ((1 : Int32))), .inr (0, 38)], ax_m (s) ρ)) rfl ⟨trivial, trivial, trivial⟩ ?_
    cases h
    exact ax_Lsub [0, 1] rfl (KEw10 _ rfl)
def y_Z_subkey : MethodName := ⟨"CipherNotationModel", "subkey", "(I)J"⟩
theorem d_Z_subkey_0 : decode prog_8_method_65_code 0 = .ok (.aload_n 0, 1) := by decide +kernel
theorem d_Z_subkey_1 : decode prog_8_method_65_code 1 = .ok (.aload_n 0, 1) := by decide +kernel
theorem d_Z_subkey_2 : decode prog_8_method_65_code 2 = .ok (.getfield (384), 3) := by decide +kernel
theorem d_Z_subkey_5 : decode prog_8_method_65_code 5 = .ok (.ifCond .ne (7), 3) := by decide +kernel
theorem d_Z_subkey_8 : decode prog_8_method_65_code 8 = .ok (.iconst 1, 1) := by decide +kernel
theorem d_Z_subkey_9 : decode prog_8_method_65_code 9 = .ok (.goto (20), 3) := by decide +kernel
theorem d_Z_subkey_12 : decode prog_8_method_65_code 12 = .ok (.iload_n 1, 1) := by decide +kernel
theorem d_Z_subkey_13 : decode prog_8_method_65_code 13 = .ok (.ifCond .lt (11), 3) := by decide +kernel
theorem d_Z_subkey_16 : decode prog_8_method_65_code 16 = .ok (.iload_n 1, 1) := by decide +kernel
theorem d_Z_subkey_17 : decode prog_8_method_65_code 17 = .ok (.aload_n 0, 1) := by decide +kernel
theorem d_Z_subkey_18 : decode prog_8_method_65_code 18 = .ok (.getfield (359), 3) := by decide +kernel
theorem d_Z_subkey_21 : decode prog_8_method_65_code 21 = .ok (.if_icmp .lt (7), 3) := by decide +kernel
theorem d_Z_subkey_24 : decode prog_8_method_65_code 24 = .ok (.iconst 2, 1) := by decide +kernel
theorem d_Z_subkey_25 : decode prog_8_method_65_code 25 = .ok (.goto (4), 3) := by decide +kernel
theorem d_Z_subkey_28 : decode prog_8_method_65_code 28 = .ok (.iconst 0, 1) := by decide +kernel
theorem d_Z_subkey_29 : decode prog_8_method_65_code 29 = .ok (.putfield (145), 3) := by decide +kernel
theorem d_Z_subkey_32 : decode prog_8_method_65_code 32 = .ok (.aload_n 0, 1) := by decide +kernel
theorem d_Z_subkey_33 : decode prog_8_method_65_code 33 = .ok (.getfield (145), 3) := by decide +kernel
theorem d_Z_subkey_36 : decode prog_8_method_65_code 36 = .ok (.ifCond .le (5), 3) := by decide +kernel
theorem d_Z_subkey_39 : decode prog_8_method_65_code 39 = .ok (.lconst 0, 1) := by decide +kernel
theorem d_Z_subkey_40 : decode prog_8_method_65_code 40 = .ok (.lreturn, 1) := by decide +kernel
theorem d_Z_subkey_41 : decode prog_8_method_65_code 41 = .ok (.aload_n 0, 1) := by decide +kernel
theorem d_Z_subkey_42 : decode prog_8_method_65_code 42 = .ok (.invokevirtual (441), 3) := by decide +kernel
theorem d_Z_subkey_45 : decode prog_8_method_65_code 45 = .ok (.aload_n 0, 1) := by decide +kernel
theorem d_Z_subkey_46 : decode prog_8_method_65_code 46 = .ok (.getfield (142), 3) := by decide +kernel
theorem d_Z_subkey_49 : decode prog_8_method_65_code 49 = .ok (.iload_n 1, 1) := by decide +kernel
theorem d_Z_subkey_50 : decode prog_8_method_65_code 50 = .ok (.laload, 1) := by decide +kernel
theorem d_Z_subkey_51 : decode prog_8_method_65_code 51 = .ok (.lreturn, 1) := by decide +kernel
set_option maxRecDepth 100000 in
theorem cw_Z_441 : ax_cw "CipherNotationModel" 441 y_Z_makeSubkeys (.code y_Z_makeSubkeys prog_8_method_51_code 2 none) 0 := ⟨nw_6 106 (by decide +kernel) rfl, nw_1 7 (by decide +kernel) rfl, nw_6 109 rfl rfl, by decide +kernel, by decide +kernel⟩
theorem im_Z_makeSubkeys : Cond.instanceMethod y_Z_makeSubkeys ∈ ax_tbl := nw_6 108 (by decide +kernel) rfl
theorem se_Z_makeSubkeys : Cond.selects y_Z_makeSubkeys.cls y_Z_makeSubkeys y_Z_makeSubkeys ∈ ax_tbl := nw_sel 82 (by decide +kernel) (by decide +kernel)
def f_Z_subkey (F : Nat) (a1 : Int32) (s : ax_σ) : Option (Int64 × ax_σ) :=
  Option.bind (
    if (s.1 0 38 5) = (0 : Int32) then
      some (1 : Int32)
    else
      Option.bind (
        if a1 < (0 : Int32) then
          some true
        else
          if a1 < (s.1 0 38 55) then
            some false
          else
            some true) (fun w3 => bif w3 then
        some (2 : Int32)
      else
        some (0 : Int32))) (fun v5 =>
    ax_let (ax_wI s 0 38 0 v5) (fun s6 =>
      if (s6.1 0 38 0) ≤ (0 : Int32) then
        Option.bind (f_Z_makeSubkeys F s6) (fun s7 =>
          bif ax_in a1 32 then
          some (((s7.2 0 81 (a1).toNatClampNeg), s7))
          else none)
      else
        some (((0 : Int64), s6))))
set_option maxHeartbeats 4000000 in
set_option maxRecDepth 100000 in
theorem t_Z_subkey {l : Launch} {D : va_G} {cA : Nat → ClassId} {ad : Nat → Nat → Nat} {al : List (Nat × Nat)} {θ : ax_Θ} {ρ : ax_ρ} {F : Nat} (h0 : ax_M0 al) {a1 : Int32} {s : ax_σ} {r0 : Int64} {s0 : ax_σ} (h : f_Z_subkey F a1 s = some (r0, s0)) : ax_T l D cA ad al θ y_Z_subkey (.code y_Z_subkey prog_8_method_65_code 2 (some .long)) 5 [.inr (0, 38), .inl (.int (a1))] (ax_m s ρ) (some (.inl (.long r0))) (ax_m s0 ρ) := by
  refine ax_T_of (own := "CipherNotationModel") (by decide) rfl (Nat.le_of_ble_eq_true rfl) [(0, .inr (0, 38)), (1, .inl (.int (a1)))] rfl ?_
  intro G hA
  have hB := hA.B
  have hK := hB.K
  have hal := hB.la
  unfold f_Z_subkey at h
  refine ax_bk hK (ax_fc (ax_v_ld (ax_r_aload_n (i := 0) d_Z_subkey_0 rfl)) (ax_fc (ax_v_ld (ax_r_aload_n (i := 0) d_Z_subkey_1 rfl)) (ax_fc (ax_w_gf (e := none) hal d_Z_subkey_2 fd_Z_384) ax_fn))) (y := (5, [(0, .inr (0, 38)), (1, .inl (.int (a1)))], [.inl (.int ((s.1 0 38 5))), .inr (0, 38)], ax_m (s) ρ)) rfl ⟨trivial, trivial, (h0 38 rfl), trivial⟩ ?_
  obtain ⟨w11, hw11, h⟩ := ax_bd h
  have KEw11 : ∀ (v5 : Int32), w11 = v5 → ax_R G 2 0 0 (29, [(0, .inr (0, 38)), (1, .inl (.int (a1)))], [.inl (.int (v5)), .inr (0, 38)], ax_m (s) ρ) := by
    intro v5 e9
    subst w11
    try dsimp only at h
    refine ax_bk hK (ax_fc (ax_w_pf (tc := 0) hal d_Z_subkey_29 fp_Z_145 rfl) ax_fn) (y := (32, [(0, .inr (0, 38)), (1, .inl (.int (a1)))], [], ax_m (ax_wI s 0 38 0 v5) ρ)) rfl ⟨(h0 38 rfl), trivial⟩ ?_
    refine ax_lt (Q := fun ςς => ax_R G 2 0 0 (32, [(0, .inr (0, 38)), (1, .inl (.int (a1)))], [], ax_m (ςς) ρ)) h (fun s6 h => ?_)
    refine ax_bk hK (ax_fc (ax_v_ld (ax_r_aload_n (i := 0) d_Z_subkey_32 rfl)) (ax_fc (ax_w_gf (e := none) hal d_Z_subkey_33 fd_Z_145) ax_fn)) (y := (36, [(0, .inr (0, 38)), (1, .inl (.int (a1)))], [.inl (.int ((s6.1 0 38 0)))], ax_m (s6) ρ)) rfl ⟨trivial, (h0 38 rfl), trivial⟩ ?_
    refine ax_if_le (tgt := 41) hK d_Z_subkey_36 (by decide) (fun c10 => ?_) (fun c10 => ?_)
    · replace h := ax_it c10 h
      refine ax_bk hK (ax_fc (ax_v_ld (ax_r_aload_n (i := 0) d_Z_subkey_41 rfl)) ax_fn) (y := (42, [(0, .inr (0, 38)), (1, .inl (.int (a1)))], [.inr (0, 38)], ax_m (s6) ρ)) rfl ⟨trivial, trivial⟩ ?_
      obtain ⟨s7, q8, h⟩ := ax_bd h
      refine ax_bV (rest := []) hB (t_Z_makeSubkeys h0 q8) cw_Z_441 im_Z_makeSubkeys se_Z_makeSubkeys d_Z_subkey_42 (h0 38 rfl) rfl rfl (by decide) (by decide) rfl rfl (Nat.le_of_ble_eq_true rfl) ?_
      change ax_R G 2 0 0 (45, [(0, .inr (0, 38)), (1, .inl (.int (a1)))], [], ax_m (s7) ρ)
      obtain ⟨b9, h⟩ := ax_gd h
      refine ax_bk hK (ax_fc (ax_v_ld (ax_r_aload_n (i := 0) d_Z_subkey_45 rfl)) (ax_fc (ax_w_gf (e := none) hal d_Z_subkey_46 fd_Z_142) (ax_fc (ax_v_ld (ax_r_iload_n (i := 1) d_Z_subkey_49 rfl)) (ax_fc (ax_w_lald hal d_Z_subkey_50) ax_fn)))) (y := (51, [(0, .inr (0, 38)), (1, .inl (.int (a1)))], [.inl (.long ((s7.2 0 81 (a1).toNatClampNeg)))], ax_m (s7) ρ)) rfl ⟨trivial, (h0 38 rfl), trivial, ⟨(h0 81 rfl), ax_inp b9⟩, trivial⟩ ?_
      cases h
      exact ax_lret hA d_Z_subkey_51
    · replace h := ax_if c10 h
      refine ax_bk hK (ax_fc (ax_v_pu (ax_r_lconst (v := 0) d_Z_subkey_39 (by decide))) ax_fn) (y := (40, [(0, .inr (0, 38)), (1, .inl (.int (a1)))], [.inl (.long ((0 : Int64)))], ax_m (s6) ρ)) rfl ⟨trivial, trivial⟩ ?_
      cases h
      exact ax_lret hA d_Z_subkey_40
  clear h
  have h := hw11
  refine ax_if_ne (tgt := 12) hK d_Z_subkey_5 (by decide) (fun c4 => ?_) (fun c4 => ?_)
  · replace h := ax_if c4 h
    refine ax_bk hK (ax_fc (ax_v_ld (ax_r_iload_n (i := 1) d_Z_subkey_12 rfl)) ax_fn) (y := (13, [(0, .inr (0, 38)), (1, .inl (.int (a1)))], [.inl (.int (a1)), .inr (0, 38)], ax_m (s) ρ)) rfl ⟨trivial, trivial⟩ ?_
    obtain ⟨w3, hw3, h⟩ := ax_bd h
    have KTw3 : w3 = true → ax_R G 2 0 0 (24, [(0, .inr (0, 38)), (1, .inl (.int (a1)))], [.inr (0, 38)], ax_m (s) ρ) := by
      intro e9
      subst w3
      replace h := ax_ct h
      refine ax_bk hK (ax_fc (ax_v_pu (ax_r_iconst (v := 2) d_Z_subkey_24 (by decide))) (ax_fc (ax_v_go (tgt := 29) d_Z_subkey_25 (by decide)) ax_fn)) (y := (29, [(0, .inr (0, 38)), (1, .inl (.int (a1)))], [.inl (.int ((2 : Int32))), .inr (0, 38)], ax_m (s) ρ)) rfl ⟨trivial, trivial, trivial⟩ ?_
      cases h
      exact ax_Lsub [0, 1] rfl (KEw11 _ rfl)
    have KFw3 : w3 = false → ax_R G 2 0 0 (28, [(0, .inr (0, 38)), (1, .inl (.int (a1)))], [.inr (0, 38)], ax_m (s) ρ) := by
      intro e9
      subst w3
      replace h := ax_cf h
      refine ax_bk hK (ax_fc (ax_v_pu (ax_r_iconst (v := 0) d_Z_subkey_28 (by decide))) ax_fn) (y := (29, [(0, .inr (0, 38)), (1, .inl (.int (a1)))], [.inl (.int ((0 : Int32))), .inr (0, 38)], ax_m (s) ρ)) rfl ⟨trivial, trivial⟩ ?_
      cases h
      exact ax_Lsub [0, 1] rfl (KEw11 _ rfl)
    clear h
    have h := hw3
    refine ax_if_lt (tgt := 24) hK d_Z_subkey_13 (by decide) (fun c2 => ?_) (fun c2 => ?_)
    · replace h := ax_it c2 h
      cases h
      exact ax_Lsub [0, 1] rfl (KTw3 rfl)
    · replace h := ax_if c2 h
      refine ax_bk hK (ax_fc (ax_v_ld (ax_r_iload_n (i := 1) d_Z_subkey_16 rfl)) (ax_fc (ax_v_ld (ax_r_aload_n (i := 0) d_Z_subkey_17 rfl)) (ax_fc (ax_w_gf (e := none) hal d_Z_subkey_18 fd_Z_359) ax_fn))) (y := (21, [(0, .inr (0, 38)), (1, .inl (.int (a1)))], [.inl (.int ((s.1 0 38 55))), .inl (.int (a1)), .inr (0, 38)], ax_m (s) ρ)) rfl ⟨trivial, trivial, (h0 38 rfl), trivial⟩ ?_
      refine ax_ic_lt (tgt := 28) hK d_Z_subkey_21 (by decide) (fun c1 => ?_) (fun c1 => ?_)
      · replace h := ax_it c1 h
        cases h
        exact ax_Lsub [0, 1] rfl (KFw3 rfl)
      · replace h := ax_if c1 h
        cases h
        exact ax_Lsub [0, 1] rfl (KTw3 rfl)
  · replace h := ax_it c4 h
    refine ax_bk hK (ax_fc (ax_v_pu (ax_r_iconst (v := 1) d_Z_subkey_8 (by decide))) (ax_fc (ax_v_go (tgt := 29) d_Z_subkey_9 (by decide)) ax_fn)) (y := (29, [(0, .inr (0, 38)), (1, .inl (.int (a1)))], [.inl (.int ((1 : Int32))), .inr (0, 38)], ax_m (s) ρ)) rfl ⟨trivial, trivial, trivial⟩ ?_
    cases h
    exact ax_Lsub [0, 1] rfl (KEw11 _ rfl)
def y_Z_encrypt : MethodName := ⟨"CipherNotationModel", "encrypt", "()I"⟩
theorem d_Z_encrypt_0 : decode prog_8_method_66_code 0 = .ok (.aload_n 0, 1) := by decide +kernel
theorem d_Z_encrypt_1 : decode prog_8_method_66_code 1 = .ok (.aload_n 0, 1) := by decide +kernel
theorem d_Z_encrypt_2 : decode prog_8_method_66_code 2 = .ok (.getfield (384), 3) := by decide +kernel
theorem d_Z_encrypt_5 : decode prog_8_method_66_code 5 = .ok (.ifCond .ne (7), 3) := by decide +kernel
theorem d_Z_encrypt_8 : decode prog_8_method_66_code 8 = .ok (.iconst 1, 1) := by decide +kernel
theorem d_Z_encrypt_9 : decode prog_8_method_66_code 9 = .ok (.goto (4), 3) := by decide +kernel
theorem d_Z_encrypt_12 : decode prog_8_method_66_code 12 = .ok (.iconst 0, 1) := by decide +kernel
theorem d_Z_encrypt_13 : decode prog_8_method_66_code 13 = .ok (.putfield (145), 3) := by decide +kernel
theorem d_Z_encrypt_16 : decode prog_8_method_66_code 16 = .ok (.aload_n 0, 1) := by decide +kernel
theorem d_Z_encrypt_17 : decode prog_8_method_66_code 17 = .ok (.getfield (145), 3) := by decide +kernel
theorem d_Z_encrypt_20 : decode prog_8_method_66_code 20 = .ok (.ifCond .le (5), 3) := by decide +kernel
theorem d_Z_encrypt_23 : decode prog_8_method_66_code 23 = .ok (.iconst 0, 1) := by decide +kernel
theorem d_Z_encrypt_24 : decode prog_8_method_66_code 24 = .ok (.ireturn, 1) := by decide +kernel
theorem d_Z_encrypt_25 : decode prog_8_method_66_code 25 = .ok (.aload_n 0, 1) := by decide +kernel
theorem d_Z_encrypt_26 : decode prog_8_method_66_code 26 = .ok (.invokevirtual (441), 3) := by decide +kernel
theorem d_Z_encrypt_29 : decode prog_8_method_66_code 29 = .ok (.iconst 0, 1) := by decide +kernel
theorem d_Z_encrypt_30 : decode prog_8_method_66_code 30 = .ok (.istore_n 1, 1) := by decide +kernel
theorem d_Z_encrypt_31 : decode prog_8_method_66_code 31 = .ok (.iload_n 1, 1) := by decide +kernel
theorem d_Z_encrypt_32 : decode prog_8_method_66_code 32 = .ok (.aload_n 0, 1) := by decide +kernel
theorem d_Z_encrypt_33 : decode prog_8_method_66_code 33 = .ok (.getfield (362), 3) := by decide +kernel
theorem d_Z_encrypt_36 : decode prog_8_method_66_code 36 = .ok (.if_icmp .ge (15), 3) := by decide +kernel
theorem d_Z_encrypt_39 : decode prog_8_method_66_code 39 = .ok (.aload_n 0, 1) := by decide +kernel
theorem d_Z_encrypt_40 : decode prog_8_method_66_code 40 = .ok (.iload_n 1, 1) := by decide +kernel
theorem d_Z_encrypt_41 : decode prog_8_method_66_code 41 = .ok (.iconst 0, 1) := by decide +kernel
theorem d_Z_encrypt_42 : decode prog_8_method_66_code 42 = .ok (.invokevirtual (444), 3) := by decide +kernel
theorem d_Z_encrypt_45 : decode prog_8_method_66_code 45 = .ok (.iinc 1 (1), 3) := by decide +kernel
theorem d_Z_encrypt_48 : decode prog_8_method_66_code 48 = .ok (.goto (-17), 3) := by decide +kernel
theorem d_Z_encrypt_51 : decode prog_8_method_66_code 51 = .ok (.aload_n 0, 1) := by decide +kernel
theorem d_Z_encrypt_52 : decode prog_8_method_66_code 52 = .ok (.getfield (365), 3) := by decide +kernel
theorem d_Z_encrypt_55 : decode prog_8_method_66_code 55 = .ok (.ireturn, 1) := by decide +kernel
set_option maxRecDepth 100000 in
theorem cw_Z_444 : ax_cw "CipherNotationModel" 444 y_Z_doStep (.code y_Z_doStep prog_8_method_56_code 10 none) 2 := ⟨nw_6 136 (by decide +kernel) rfl, nw_1 7 (by decide +kernel) rfl, nw_6 139 rfl rfl, by decide +kernel, by decide +kernel⟩
theorem im_Z_doStep : Cond.instanceMethod y_Z_doStep ∈ ax_tbl := nw_6 138 (by decide +kernel) rfl
theorem se_Z_doStep : Cond.selects y_Z_doStep.cls y_Z_doStep y_Z_doStep ∈ ax_tbl := nw_sel 87 (by decide +kernel) (by decide +kernel)
def lp_Z_encrypt_31 (F : Nat) : Nat → Int32 → ax_σ → Option (ax_σ)
  | 0, _, _ => none
  | n + 1, x1, s =>
    if (s.1 0 38 59) ≤ x1 then
      some s
    else
      Option.bind (f_Z_doStep F x1 (0 : Int32) s) (fun s6 =>
        lp_Z_encrypt_31 F n (x1 + (1 : Int32)) s6)
set_option maxHeartbeats 4000000 in
set_option maxRecDepth 100000 in
theorem pl_Z_encrypt_31 {D : va_G} {cA : Nat → ClassId} {ad : Nat → Nat → Nat} {al : List (Nat × Nat)} {θ : ax_Θ} {l : Launch} {ρ : ax_ρ} {G : ax_G} {F : Nat}  (h0 : ax_M0 al) (hB : ax_B D cA ad al θ l "CipherNotationModel" prog_8_method_66_code 2 5 G) : ∀ (n : Nat) {x1 : Int32} {s : ax_σ} (out : ax_σ), lp_Z_encrypt_31 F n x1 s = some out → (∀ (es : ax_σ), out = es → ax_R G 2 0 0 (51, [(0, .inr (0, 38))], [], ax_m (es) ρ)) → ax_R G 2 0 0 (31, [(0, .inr (0, 38)), (1, .inl (.int (x1)))], [], ax_m (s) ρ) := by
  have hK := hB.K
  have hal := hB.la
  intro n
  induction n with
  | zero =>
    intro x1 s out h
    cases h
  | succ n ih =>
    intro x1 s out h KE
    rw [lp_Z_encrypt_31] at h
    refine ax_bk hK (ax_fc (ax_v_ld (ax_r_iload_n (i := 1) d_Z_encrypt_31 rfl)) (ax_fc (ax_v_ld (ax_r_aload_n (i := 0) d_Z_encrypt_32 rfl)) (ax_fc (ax_w_gf (e := none) hal d_Z_encrypt_33 fd_Z_362) ax_fn))) (y := (36, [(0, .inr (0, 38)), (1, .inl (.int (x1)))], [.inl (.int ((s.1 0 38 59))), .inl (.int (x1))], ax_m (s) ρ)) rfl ⟨trivial, trivial, (h0 38 rfl), trivial⟩ ?_
    refine ax_ic_ge (tgt := 51) hK d_Z_encrypt_36 (by decide) (fun c8 => ?_) (fun c8 => ?_)
    · replace h := ax_it c8 h
      cases h
      exact ax_Lsub [0] rfl (KE _ rfl)
    · replace h := ax_if c8 h
      refine ax_bk hK (ax_fc (ax_v_ld (ax_r_aload_n (i := 0) d_Z_encrypt_39 rfl)) (ax_fc (ax_v_ld (ax_r_iload_n (i := 1) d_Z_encrypt_40 rfl)) (ax_fc (ax_v_pu (ax_r_iconst (v := 0) d_Z_encrypt_41 (by decide))) ax_fn))) (y := (42, [(0, .inr (0, 38)), (1, .inl (.int (x1)))], [.inl (.int ((0 : Int32))), .inl (.int (x1)), .inr (0, 38)], ax_m (s) ρ)) rfl ⟨trivial, trivial, trivial, trivial⟩ ?_
      obtain ⟨s6, q7, h⟩ := ax_bd h
      refine ax_bV (rest := []) hB (t_Z_doStep h0 q7) cw_Z_444 im_Z_doStep se_Z_doStep d_Z_encrypt_42 (h0 38 rfl) rfl rfl (by decide) (by decide) rfl rfl (Nat.le_of_ble_eq_true rfl) ?_
      change ax_R G 2 0 0 (45, [(0, .inr (0, 38)), (1, .inl (.int (x1)))], [], ax_m (s6) ρ)
      refine ax_bk hK (ax_fc (ax_v_ii (d := 1) d_Z_encrypt_45 (by decide)) (ax_fc (ax_v_go (tgt := 31) d_Z_encrypt_48 (by decide)) ax_fn)) (y := (31, [(1, .inl (.int ((x1 + (1 : Int32))))), (0, .inr (0, 38))], [], ax_m (s6) ρ)) rfl ⟨trivial, trivial, trivial⟩ ?_
      exact ax_Lsub [1, 0] rfl (ih _ h KE)
def f_Z_encrypt (F : Nat) (s : ax_σ) : Option (Int32 × ax_σ) :=
  Option.bind (
    if (s.1 0 38 5) = (0 : Int32) then
      some (1 : Int32)
    else
      some (0 : Int32)) (fun v2 =>
    ax_let (ax_wI s 0 38 0 v2) (fun s3 =>
      if (s3.1 0 38 0) ≤ (0 : Int32) then
        Option.bind (f_Z_makeSubkeys F s3) (fun s4 =>
          Option.bind (lp_Z_encrypt_31 F F (0 : Int32) s4) (fun s9 =>
            some (((s9.1 0 38 63), s9))))
      else
        some (((0 : Int32), s3))))
set_option maxHeartbeats 4000000 in
set_option maxRecDepth 100000 in
theorem t_Z_encrypt {l : Launch} {D : va_G} {cA : Nat → ClassId} {ad : Nat → Nat → Nat} {al : List (Nat × Nat)} {θ : ax_Θ} {ρ : ax_ρ} {F : Nat} (h0 : ax_M0 al)  {s : ax_σ} {r0 : Int32} {s0 : ax_σ} (h : f_Z_encrypt F s = some (r0, s0)) : ax_T l D cA ad al θ y_Z_encrypt (.code y_Z_encrypt prog_8_method_66_code 2 (some .int)) 5 [.inr (0, 38)] (ax_m s ρ) (some (.inl (.int r0))) (ax_m s0 ρ) := by
  refine ax_T_of (own := "CipherNotationModel") (by decide) rfl (Nat.le_of_ble_eq_true rfl) [(0, .inr (0, 38))] rfl ?_
  intro G hA
  have hB := hA.B
  have hK := hB.K
  have hal := hB.la
  unfold f_Z_encrypt at h
  refine ax_bk hK (ax_fc (ax_v_ld (ax_r_aload_n (i := 0) d_Z_encrypt_0 rfl)) (ax_fc (ax_v_ld (ax_r_aload_n (i := 0) d_Z_encrypt_1 rfl)) (ax_fc (ax_w_gf (e := none) hal d_Z_encrypt_2 fd_Z_384) ax_fn))) (y := (5, [(0, .inr (0, 38))], [.inl (.int ((s.1 0 38 5))), .inr (0, 38)], ax_m (s) ρ)) rfl ⟨trivial, trivial, (h0 38 rfl), trivial⟩ ?_
  obtain ⟨w11, hw11, h⟩ := ax_bd h
  have KEw11 : ∀ (v2 : Int32), w11 = v2 → ax_R G 2 0 0 (13, [(0, .inr (0, 38))], [.inl (.int (v2)), .inr (0, 38)], ax_m (s) ρ) := by
    intro v2 e9
    subst w11
    try dsimp only at h
    refine ax_bk hK (ax_fc (ax_w_pf (tc := 0) hal d_Z_encrypt_13 fp_Z_145 rfl) ax_fn) (y := (16, [(0, .inr (0, 38))], [], ax_m (ax_wI s 0 38 0 v2) ρ)) rfl ⟨(h0 38 rfl), trivial⟩ ?_
    refine ax_lt (Q := fun ςς => ax_R G 2 0 0 (16, [(0, .inr (0, 38))], [], ax_m (ςς) ρ)) h (fun s3 h => ?_)
    refine ax_bk hK (ax_fc (ax_v_ld (ax_r_aload_n (i := 0) d_Z_encrypt_16 rfl)) (ax_fc (ax_w_gf (e := none) hal d_Z_encrypt_17 fd_Z_145) ax_fn)) (y := (20, [(0, .inr (0, 38))], [.inl (.int ((s3.1 0 38 0)))], ax_m (s3) ρ)) rfl ⟨trivial, (h0 38 rfl), trivial⟩ ?_
    refine ax_if_le (tgt := 25) hK d_Z_encrypt_20 (by decide) (fun c10 => ?_) (fun c10 => ?_)
    · replace h := ax_it c10 h
      refine ax_bk hK (ax_fc (ax_v_ld (ax_r_aload_n (i := 0) d_Z_encrypt_25 rfl)) ax_fn) (y := (26, [(0, .inr (0, 38))], [.inr (0, 38)], ax_m (s3) ρ)) rfl ⟨trivial, trivial⟩ ?_
      obtain ⟨s4, q5, h⟩ := ax_bd h
      refine ax_bV (rest := []) hB (t_Z_makeSubkeys h0 q5) cw_Z_441 im_Z_makeSubkeys se_Z_makeSubkeys d_Z_encrypt_26 (h0 38 rfl) rfl rfl (by decide) (by decide) rfl rfl (Nat.le_of_ble_eq_true rfl) ?_
      change ax_R G 2 0 0 (29, [(0, .inr (0, 38))], [], ax_m (s4) ρ)
      refine ax_bk hK (ax_fc (ax_v_pu (ax_r_iconst (v := 0) d_Z_encrypt_29 (by decide))) (ax_fc (ax_v_so (ax_r_istore_n (i := 1) d_Z_encrypt_30 rfl)) ax_fn)) (y := (31, [(1, .inl (.int ((0 : Int32)))), (0, .inr (0, 38))], [], ax_m (s4) ρ)) rfl ⟨trivial, trivial, trivial⟩ ?_
      obtain ⟨w12, hw12, h⟩ := ax_bd h
      refine ax_Lsub [1, 0] rfl (pl_Z_encrypt_31 h0 hB F _ hw12 ?_)
      intro s9 e9
      subst w12
      try dsimp only at h
      change ax_R G 2 0 0 (51, [(0, .inr (0, 38))], [], ax_m (s9) ρ)
      refine ax_bk hK (ax_fc (ax_v_ld (ax_r_aload_n (i := 0) d_Z_encrypt_51 rfl)) (ax_fc (ax_w_gf (e := none) hal d_Z_encrypt_52 fd_Z_365) ax_fn)) (y := (55, [(0, .inr (0, 38))], [.inl (.int ((s9.1 0 38 63)))], ax_m (s9) ρ)) rfl ⟨trivial, (h0 38 rfl), trivial⟩ ?_
      cases h
      exact ax_iret hA d_Z_encrypt_55
    · replace h := ax_if c10 h
      refine ax_bk hK (ax_fc (ax_v_pu (ax_r_iconst (v := 0) d_Z_encrypt_23 (by decide))) ax_fn) (y := (24, [(0, .inr (0, 38))], [.inl (.int ((0 : Int32)))], ax_m (s3) ρ)) rfl ⟨trivial, trivial⟩ ?_
      cases h
      exact ax_iret hA d_Z_encrypt_24
  clear h
  have h := hw11
  refine ax_if_ne (tgt := 12) hK d_Z_encrypt_5 (by decide) (fun c1 => ?_) (fun c1 => ?_)
  · replace h := ax_if c1 h
    refine ax_bk hK (ax_fc (ax_v_pu (ax_r_iconst (v := 0) d_Z_encrypt_12 (by decide))) ax_fn) (y := (13, [(0, .inr (0, 38))], [.inl (.int ((0 : Int32))), .inr (0, 38)], ax_m (s) ρ)) rfl ⟨trivial, trivial⟩ ?_
    cases h
    exact ax_Lsub [0] rfl (KEw11 _ rfl)
  · replace h := ax_it c1 h
    refine ax_bk hK (ax_fc (ax_v_pu (ax_r_iconst (v := 1) d_Z_encrypt_8 (by decide))) (ax_fc (ax_v_go (tgt := 13) d_Z_encrypt_9 (by decide)) ax_fn)) (y := (13, [(0, .inr (0, 38))], [.inl (.int ((1 : Int32))), .inr (0, 38)], ax_m (s) ρ)) rfl ⟨trivial, trivial, trivial⟩ ?_
    cases h
    exact ax_Lsub [0] rfl (KEw11 _ rfl)
def y_Z_decrypt : MethodName := ⟨"CipherNotationModel", "decrypt", "()I"⟩
theorem d_Z_decrypt_0 : decode prog_8_method_67_code 0 = .ok (.aload_n 0, 1) := by decide +kernel
theorem d_Z_decrypt_1 : decode prog_8_method_67_code 1 = .ok (.aload_n 0, 1) := by decide +kernel
theorem d_Z_decrypt_2 : decode prog_8_method_67_code 2 = .ok (.getfield (384), 3) := by decide +kernel
theorem d_Z_decrypt_5 : decode prog_8_method_67_code 5 = .ok (.ifCond .ne (7), 3) := by decide +kernel
theorem d_Z_decrypt_8 : decode prog_8_method_67_code 8 = .ok (.iconst 1, 1) := by decide +kernel
theorem d_Z_decrypt_9 : decode prog_8_method_67_code 9 = .ok (.goto (4), 3) := by decide +kernel
theorem d_Z_decrypt_12 : decode prog_8_method_67_code 12 = .ok (.iconst 0, 1) := by decide +kernel
theorem d_Z_decrypt_13 : decode prog_8_method_67_code 13 = .ok (.putfield (145), 3) := by decide +kernel
theorem d_Z_decrypt_16 : decode prog_8_method_67_code 16 = .ok (.aload_n 0, 1) := by decide +kernel
theorem d_Z_decrypt_17 : decode prog_8_method_67_code 17 = .ok (.getfield (145), 3) := by decide +kernel
theorem d_Z_decrypt_20 : decode prog_8_method_67_code 20 = .ok (.ifCond .le (5), 3) := by decide +kernel
theorem d_Z_decrypt_23 : decode prog_8_method_67_code 23 = .ok (.iconst 0, 1) := by decide +kernel
theorem d_Z_decrypt_24 : decode prog_8_method_67_code 24 = .ok (.ireturn, 1) := by decide +kernel
theorem d_Z_decrypt_25 : decode prog_8_method_67_code 25 = .ok (.aload_n 0, 1) := by decide +kernel
theorem d_Z_decrypt_26 : decode prog_8_method_67_code 26 = .ok (.invokevirtual (441), 3) := by decide +kernel
theorem d_Z_decrypt_29 : decode prog_8_method_67_code 29 = .ok (.aload_n 0, 1) := by decide +kernel
theorem d_Z_decrypt_30 : decode prog_8_method_67_code 30 = .ok (.getfield (362), 3) := by decide +kernel
theorem d_Z_decrypt_33 : decode prog_8_method_67_code 33 = .ok (.iconst 1, 1) := by decide +kernel
theorem d_Z_decrypt_34 : decode prog_8_method_67_code 34 = .ok (.isub, 1) := by decide +kernel
theorem d_Z_decrypt_35 : decode prog_8_method_67_code 35 = .ok (.istore_n 1, 1) := by decide +kernel
theorem d_Z_decrypt_36 : decode prog_8_method_67_code 36 = .ok (.iload_n 1, 1) := by decide +kernel
theorem d_Z_decrypt_37 : decode prog_8_method_67_code 37 = .ok (.ifCond .lt (15), 3) := by decide +kernel
theorem d_Z_decrypt_40 : decode prog_8_method_67_code 40 = .ok (.aload_n 0, 1) := by decide +kernel
theorem d_Z_decrypt_41 : decode prog_8_method_67_code 41 = .ok (.iload_n 1, 1) := by decide +kernel
theorem d_Z_decrypt_42 : decode prog_8_method_67_code 42 = .ok (.iconst 1, 1) := by decide +kernel
theorem d_Z_decrypt_43 : decode prog_8_method_67_code 43 = .ok (.invokevirtual (444), 3) := by decide +kernel
theorem d_Z_decrypt_46 : decode prog_8_method_67_code 46 = .ok (.iinc 1 (-1), 3) := by decide +kernel
theorem d_Z_decrypt_49 : decode prog_8_method_67_code 49 = .ok (.goto (-13), 3) := by decide +kernel
theorem d_Z_decrypt_52 : decode prog_8_method_67_code 52 = .ok (.aload_n 0, 1) := by decide +kernel
theorem d_Z_decrypt_53 : decode prog_8_method_67_code 53 = .ok (.getfield (365), 3) := by decide +kernel
theorem d_Z_decrypt_56 : decode prog_8_method_67_code 56 = .ok (.ireturn, 1) := by decide +kernel
def lp_Z_decrypt_36 (F : Nat) : Nat → Int32 → ax_σ → Option (ax_σ)
  | 0, _, _ => none
  | n + 1, x1, s =>
    if x1 < (0 : Int32) then
      some s
    else
      Option.bind (f_Z_doStep F x1 (1 : Int32) s) (fun s6 =>
        lp_Z_decrypt_36 F n (x1 + (-1 : Int32)) s6)
set_option maxHeartbeats 4000000 in
set_option maxRecDepth 100000 in
theorem pl_Z_decrypt_36 {D : va_G} {cA : Nat → ClassId} {ad : Nat → Nat → Nat} {al : List (Nat × Nat)} {θ : ax_Θ} {l : Launch} {ρ : ax_ρ} {G : ax_G} {F : Nat}  (h0 : ax_M0 al) (hB : ax_B D cA ad al θ l "CipherNotationModel" prog_8_method_67_code 2 5 G) : ∀ (n : Nat) {x1 : Int32} {s : ax_σ} (out : ax_σ), lp_Z_decrypt_36 F n x1 s = some out → (∀ (es : ax_σ), out = es → ax_R G 2 0 0 (52, [(0, .inr (0, 38))], [], ax_m (es) ρ)) → ax_R G 2 0 0 (36, [(0, .inr (0, 38)), (1, .inl (.int (x1)))], [], ax_m (s) ρ) := by
  have hK := hB.K
  have hal := hB.la
  intro n
  induction n with
  | zero =>
    intro x1 s out h
    cases h
  | succ n ih =>
    intro x1 s out h KE
    rw [lp_Z_decrypt_36] at h
    refine ax_bk hK (ax_fc (ax_v_ld (ax_r_iload_n (i := 1) d_Z_decrypt_36 rfl)) ax_fn) (y := (37, [(0, .inr (0, 38)), (1, .inl (.int (x1)))], [.inl (.int (x1))], ax_m (s) ρ)) rfl ⟨trivial, trivial⟩ ?_
    refine ax_if_lt (tgt := 52) hK d_Z_decrypt_37 (by decide) (fun c8 => ?_) (fun c8 => ?_)
    · replace h := ax_it c8 h
      cases h
      exact ax_Lsub [0] rfl (KE _ rfl)
    · replace h := ax_if c8 h
      refine ax_bk hK (ax_fc (ax_v_ld (ax_r_aload_n (i := 0) d_Z_decrypt_40 rfl)) (ax_fc (ax_v_ld (ax_r_iload_n (i := 1) d_Z_decrypt_41 rfl)) (ax_fc (ax_v_pu (ax_r_iconst (v := 1) d_Z_decrypt_42 (by decide))) ax_fn))) (y := (43, [(0, .inr (0, 38)), (1, .inl (.int (x1)))], [.inl (.int ((1 : Int32))), .inl (.int (x1)), .inr (0, 38)], ax_m (s) ρ)) rfl ⟨trivial, trivial, trivial, trivial⟩ ?_
      obtain ⟨s6, q7, h⟩ := ax_bd h
      refine ax_bV (rest := []) hB (t_Z_doStep h0 q7) cw_Z_444 im_Z_doStep se_Z_doStep d_Z_decrypt_43 (h0 38 rfl) rfl rfl (by decide) (by decide) rfl rfl (Nat.le_of_ble_eq_true rfl) ?_
      change ax_R G 2 0 0 (46, [(0, .inr (0, 38)), (1, .inl (.int (x1)))], [], ax_m (s6) ρ)
      refine ax_bk hK (ax_fc (ax_v_ii (d := -1) d_Z_decrypt_46 (by decide)) (ax_fc (ax_v_go (tgt := 36) d_Z_decrypt_49 (by decide)) ax_fn)) (y := (36, [(1, .inl (.int ((x1 + (-1 : Int32))))), (0, .inr (0, 38))], [], ax_m (s6) ρ)) rfl ⟨trivial, trivial, trivial⟩ ?_
      exact ax_Lsub [1, 0] rfl (ih _ h KE)
def f_Z_decrypt (F : Nat) (s : ax_σ) : Option (Int32 × ax_σ) :=
  Option.bind (
    if (s.1 0 38 5) = (0 : Int32) then
      some (1 : Int32)
    else
      some (0 : Int32)) (fun v2 =>
    ax_let (ax_wI s 0 38 0 v2) (fun s3 =>
      if (s3.1 0 38 0) ≤ (0 : Int32) then
        Option.bind (f_Z_makeSubkeys F s3) (fun s4 =>
          Option.bind (lp_Z_decrypt_36 F F ((s4.1 0 38 59) - (1 : Int32)) s4) (fun s9 =>
            some (((s9.1 0 38 63), s9))))
      else
        some (((0 : Int32), s3))))
set_option maxHeartbeats 4000000 in
set_option maxRecDepth 100000 in
theorem t_Z_decrypt {l : Launch} {D : va_G} {cA : Nat → ClassId} {ad : Nat → Nat → Nat} {al : List (Nat × Nat)} {θ : ax_Θ} {ρ : ax_ρ} {F : Nat} (h0 : ax_M0 al)  {s : ax_σ} {r0 : Int32} {s0 : ax_σ} (h : f_Z_decrypt F s = some (r0, s0)) : ax_T l D cA ad al θ y_Z_decrypt (.code y_Z_decrypt prog_8_method_67_code 2 (some .int)) 5 [.inr (0, 38)] (ax_m s ρ) (some (.inl (.int r0))) (ax_m s0 ρ) := by
  refine ax_T_of (own := "CipherNotationModel") (by decide) rfl (Nat.le_of_ble_eq_true rfl) [(0, .inr (0, 38))] rfl ?_
  intro G hA
  have hB := hA.B
  have hK := hB.K
  have hal := hB.la
  unfold f_Z_decrypt at h
  refine ax_bk hK (ax_fc (ax_v_ld (ax_r_aload_n (i := 0) d_Z_decrypt_0 rfl)) (ax_fc (ax_v_ld (ax_r_aload_n (i := 0) d_Z_decrypt_1 rfl)) (ax_fc (ax_w_gf (e := none) hal d_Z_decrypt_2 fd_Z_384) ax_fn))) (y := (5, [(0, .inr (0, 38))], [.inl (.int ((s.1 0 38 5))), .inr (0, 38)], ax_m (s) ρ)) rfl ⟨trivial, trivial, (h0 38 rfl), trivial⟩ ?_
  obtain ⟨w11, hw11, h⟩ := ax_bd h
  have KEw11 : ∀ (v2 : Int32), w11 = v2 → ax_R G 2 0 0 (13, [(0, .inr (0, 38))], [.inl (.int (v2)), .inr (0, 38)], ax_m (s) ρ) := by
    intro v2 e9
    subst w11
    try dsimp only at h
    refine ax_bk hK (ax_fc (ax_w_pf (tc := 0) hal d_Z_decrypt_13 fp_Z_145 rfl) ax_fn) (y := (16, [(0, .inr (0, 38))], [], ax_m (ax_wI s 0 38 0 v2) ρ)) rfl ⟨(h0 38 rfl), trivial⟩ ?_
    refine ax_lt (Q := fun ςς => ax_R G 2 0 0 (16, [(0, .inr (0, 38))], [], ax_m (ςς) ρ)) h (fun s3 h => ?_)
    refine ax_bk hK (ax_fc (ax_v_ld (ax_r_aload_n (i := 0) d_Z_decrypt_16 rfl)) (ax_fc (ax_w_gf (e := none) hal d_Z_decrypt_17 fd_Z_145) ax_fn)) (y := (20, [(0, .inr (0, 38))], [.inl (.int ((s3.1 0 38 0)))], ax_m (s3) ρ)) rfl ⟨trivial, (h0 38 rfl), trivial⟩ ?_
    refine ax_if_le (tgt := 25) hK d_Z_decrypt_20 (by decide) (fun c10 => ?_) (fun c10 => ?_)
    · replace h := ax_it c10 h
      refine ax_bk hK (ax_fc (ax_v_ld (ax_r_aload_n (i := 0) d_Z_decrypt_25 rfl)) ax_fn) (y := (26, [(0, .inr (0, 38))], [.inr (0, 38)], ax_m (s3) ρ)) rfl ⟨trivial, trivial⟩ ?_
      obtain ⟨s4, q5, h⟩ := ax_bd h
      refine ax_bV (rest := []) hB (t_Z_makeSubkeys h0 q5) cw_Z_441 im_Z_makeSubkeys se_Z_makeSubkeys d_Z_decrypt_26 (h0 38 rfl) rfl rfl (by decide) (by decide) rfl rfl (Nat.le_of_ble_eq_true rfl) ?_
      change ax_R G 2 0 0 (29, [(0, .inr (0, 38))], [], ax_m (s4) ρ)
      refine ax_bk hK (ax_fc (ax_v_ld (ax_r_aload_n (i := 0) d_Z_decrypt_29 rfl)) (ax_fc (ax_w_gf (e := none) hal d_Z_decrypt_30 fd_Z_362) (ax_fc (ax_v_pu (ax_r_iconst (v := 1) d_Z_decrypt_33 (by decide))) (ax_fc (ax_v_pu (ax_r_isub d_Z_decrypt_34)) (ax_fc (ax_v_so (ax_r_istore_n (i := 1) d_Z_decrypt_35 rfl)) ax_fn))))) (y := (36, [(1, .inl (.int (((s4.1 0 38 59) - (1 : Int32))))), (0, .inr (0, 38))], [], ax_m (s4) ρ)) rfl ⟨trivial, (h0 38 rfl), trivial, trivial, trivial, trivial⟩ ?_
      obtain ⟨w12, hw12, h⟩ := ax_bd h
      refine ax_Lsub [1, 0] rfl (pl_Z_decrypt_36 h0 hB F _ hw12 ?_)
      intro s9 e9
      subst w12
      try dsimp only at h
      change ax_R G 2 0 0 (52, [(0, .inr (0, 38))], [], ax_m (s9) ρ)
      refine ax_bk hK (ax_fc (ax_v_ld (ax_r_aload_n (i := 0) d_Z_decrypt_52 rfl)) (ax_fc (ax_w_gf (e := none) hal d_Z_decrypt_53 fd_Z_365) ax_fn)) (y := (56, [(0, .inr (0, 38))], [.inl (.int ((s9.1 0 38 63)))], ax_m (s9) ρ)) rfl ⟨trivial, (h0 38 rfl), trivial⟩ ?_
      cases h
      exact ax_iret hA d_Z_decrypt_56
    · replace h := ax_if c10 h
      refine ax_bk hK (ax_fc (ax_v_pu (ax_r_iconst (v := 0) d_Z_decrypt_23 (by decide))) ax_fn) (y := (24, [(0, .inr (0, 38))], [.inl (.int ((0 : Int32)))], ax_m (s3) ρ)) rfl ⟨trivial, trivial⟩ ?_
      cases h
      exact ax_iret hA d_Z_decrypt_24
  clear h
  have h := hw11
  refine ax_if_ne (tgt := 12) hK d_Z_decrypt_5 (by decide) (fun c1 => ?_) (fun c1 => ?_)
  · replace h := ax_if c1 h
    refine ax_bk hK (ax_fc (ax_v_pu (ax_r_iconst (v := 0) d_Z_decrypt_12 (by decide))) ax_fn) (y := (13, [(0, .inr (0, 38))], [.inl (.int ((0 : Int32))), .inr (0, 38)], ax_m (s) ρ)) rfl ⟨trivial, trivial⟩ ?_
    cases h
    exact ax_Lsub [0] rfl (KEw11 _ rfl)
  · replace h := ax_it c1 h
    refine ax_bk hK (ax_fc (ax_v_pu (ax_r_iconst (v := 1) d_Z_decrypt_8 (by decide))) (ax_fc (ax_v_go (tgt := 13) d_Z_decrypt_9 (by decide)) ax_fn)) (y := (13, [(0, .inr (0, 38))], [.inl (.int ((1 : Int32))), .inr (0, 38)], ax_m (s) ρ)) rfl ⟨trivial, trivial, trivial⟩ ?_
    cases h
    exact ax_Lsub [0] rfl (KEw11 _ rfl)
def y_Z_apply : MethodName := ⟨"CipherNotationModel", "apply", "(II)I"⟩
theorem d_Z_apply_0 : decode prog_8_method_68_code 0 = .ok (.aload_n 0, 1) := by decide +kernel
theorem d_Z_apply_1 : decode prog_8_method_68_code 1 = .ok (.aload_n 0, 1) := by decide +kernel
theorem d_Z_apply_2 : decode prog_8_method_68_code 2 = .ok (.getfield (384), 3) := by decide +kernel
theorem d_Z_apply_5 : decode prog_8_method_68_code 5 = .ok (.ifCond .ne (7), 3) := by decide +kernel
theorem d_Z_apply_8 : decode prog_8_method_68_code 8 = .ok (.iconst 1, 1) := by decide +kernel
theorem d_Z_apply_9 : decode prog_8_method_68_code 9 = .ok (.goto (32), 3) := by decide +kernel
theorem d_Z_apply_12 : decode prog_8_method_68_code 12 = .ok (.iload_n 1, 1) := by decide +kernel
theorem d_Z_apply_13 : decode prog_8_method_68_code 13 = .ok (.ifCond .lt (23), 3) := by decide +kernel
theorem d_Z_apply_16 : decode prog_8_method_68_code 16 = .ok (.iload_n 1, 1) := by decide +kernel
theorem d_Z_apply_17 : decode prog_8_method_68_code 17 = .ok (.aload_n 0, 1) := by decide +kernel
theorem d_Z_apply_18 : decode prog_8_method_68_code 18 = .ok (.getfield (362), 3) := by decide +kernel
theorem d_Z_apply_21 : decode prog_8_method_68_code 21 = .ok (.if_icmp .gt (15), 3) := by decide +kernel
theorem d_Z_apply_24 : decode prog_8_method_68_code 24 = .ok (.iload_n 2, 1) := by decide +kernel
theorem d_Z_apply_25 : decode prog_8_method_68_code 25 = .ok (.ifCond .lt (11), 3) := by decide +kernel
theorem d_Z_apply_28 : decode prog_8_method_68_code 28 = .ok (.iload_n 2, 1) := by decide +kernel
theorem d_Z_apply_29 : decode prog_8_method_68_code 29 = .ok (.aload_n 0, 1) := by decide +kernel
theorem d_Z_apply_30 : decode prog_8_method_68_code 30 = .ok (.getfield (362), 3) := by decide +kernel
theorem d_Z_apply_33 : decode prog_8_method_68_code 33 = .ok (.if_icmp .le (7), 3) := by decide +kernel
theorem d_Z_apply_36 : decode prog_8_method_68_code 36 = .ok (.iconst 2, 1) := by decide +kernel
theorem d_Z_apply_37 : decode prog_8_method_68_code 37 = .ok (.goto (4), 3) := by decide +kernel
theorem d_Z_apply_40 : decode prog_8_method_68_code 40 = .ok (.iconst 0, 1) := by decide +kernel
theorem d_Z_apply_41 : decode prog_8_method_68_code 41 = .ok (.putfield (145), 3) := by decide +kernel
theorem d_Z_apply_44 : decode prog_8_method_68_code 44 = .ok (.aload_n 0, 1) := by decide +kernel
theorem d_Z_apply_45 : decode prog_8_method_68_code 45 = .ok (.getfield (145), 3) := by decide +kernel
theorem d_Z_apply_48 : decode prog_8_method_68_code 48 = .ok (.ifCond .le (5), 3) := by decide +kernel
theorem d_Z_apply_51 : decode prog_8_method_68_code 51 = .ok (.iconst 0, 1) := by decide +kernel
theorem d_Z_apply_52 : decode prog_8_method_68_code 52 = .ok (.ireturn, 1) := by decide +kernel
theorem d_Z_apply_53 : decode prog_8_method_68_code 53 = .ok (.aload_n 0, 1) := by decide +kernel
theorem d_Z_apply_54 : decode prog_8_method_68_code 54 = .ok (.invokevirtual (441), 3) := by decide +kernel
theorem d_Z_apply_57 : decode prog_8_method_68_code 57 = .ok (.iload_n 1, 1) := by decide +kernel
theorem d_Z_apply_58 : decode prog_8_method_68_code 58 = .ok (.istore_n 3, 1) := by decide +kernel
theorem d_Z_apply_59 : decode prog_8_method_68_code 59 = .ok (.iload_n 3, 1) := by decide +kernel
theorem d_Z_apply_60 : decode prog_8_method_68_code 60 = .ok (.iload_n 2, 1) := by decide +kernel
theorem d_Z_apply_61 : decode prog_8_method_68_code 61 = .ok (.if_icmp .ge (15), 3) := by decide +kernel
theorem d_Z_apply_64 : decode prog_8_method_68_code 64 = .ok (.aload_n 0, 1) := by decide +kernel
theorem d_Z_apply_65 : decode prog_8_method_68_code 65 = .ok (.iload_n 3, 1) := by decide +kernel
theorem d_Z_apply_66 : decode prog_8_method_68_code 66 = .ok (.iconst 0, 1) := by decide +kernel
theorem d_Z_apply_67 : decode prog_8_method_68_code 67 = .ok (.invokevirtual (444), 3) := by decide +kernel
theorem d_Z_apply_70 : decode prog_8_method_68_code 70 = .ok (.iinc 3 (1), 3) := by decide +kernel
theorem d_Z_apply_73 : decode prog_8_method_68_code 73 = .ok (.goto (-14), 3) := by decide +kernel
theorem d_Z_apply_76 : decode prog_8_method_68_code 76 = .ok (.iload_n 1, 1) := by decide +kernel
theorem d_Z_apply_77 : decode prog_8_method_68_code 77 = .ok (.iconst 1, 1) := by decide +kernel
theorem d_Z_apply_78 : decode prog_8_method_68_code 78 = .ok (.isub, 1) := by decide +kernel
theorem d_Z_apply_79 : decode prog_8_method_68_code 79 = .ok (.istore_n 3, 1) := by decide +kernel
theorem d_Z_apply_80 : decode prog_8_method_68_code 80 = .ok (.iload_n 3, 1) := by decide +kernel
theorem d_Z_apply_81 : decode prog_8_method_68_code 81 = .ok (.iload_n 2, 1) := by decide +kernel
theorem d_Z_apply_82 : decode prog_8_method_68_code 82 = .ok (.if_icmp .lt (15), 3) := by decide +kernel
theorem d_Z_apply_85 : decode prog_8_method_68_code 85 = .ok (.aload_n 0, 1) := by decide +kernel
theorem d_Z_apply_86 : decode prog_8_method_68_code 86 = .ok (.iload_n 3, 1) := by decide +kernel
theorem d_Z_apply_87 : decode prog_8_method_68_code 87 = .ok (.iconst 1, 1) := by decide +kernel
theorem d_Z_apply_88 : decode prog_8_method_68_code 88 = .ok (.invokevirtual (444), 3) := by decide +kernel
theorem d_Z_apply_91 : decode prog_8_method_68_code 91 = .ok (.iinc 3 (-1), 3) := by decide +kernel
theorem d_Z_apply_94 : decode prog_8_method_68_code 94 = .ok (.goto (-14), 3) := by decide +kernel
theorem d_Z_apply_97 : decode prog_8_method_68_code 97 = .ok (.iload_n 1, 1) := by decide +kernel
theorem d_Z_apply_98 : decode prog_8_method_68_code 98 = .ok (.iload_n 2, 1) := by decide +kernel
theorem d_Z_apply_99 : decode prog_8_method_68_code 99 = .ok (.if_icmp .ge (9), 3) := by decide +kernel
theorem d_Z_apply_102 : decode prog_8_method_68_code 102 = .ok (.iload_n 2, 1) := by decide +kernel
theorem d_Z_apply_103 : decode prog_8_method_68_code 103 = .ok (.iload_n 1, 1) := by decide +kernel
theorem d_Z_apply_104 : decode prog_8_method_68_code 104 = .ok (.isub, 1) := by decide +kernel
theorem d_Z_apply_105 : decode prog_8_method_68_code 105 = .ok (.goto (6), 3) := by decide +kernel
theorem d_Z_apply_108 : decode prog_8_method_68_code 108 = .ok (.iload_n 1, 1) := by decide +kernel
theorem d_Z_apply_109 : decode prog_8_method_68_code 109 = .ok (.iload_n 2, 1) := by decide +kernel
theorem d_Z_apply_110 : decode prog_8_method_68_code 110 = .ok (.isub, 1) := by decide +kernel
theorem d_Z_apply_111 : decode prog_8_method_68_code 111 = .ok (.ireturn, 1) := by decide +kernel
def lp_Z_apply_59 (F : Nat) (x1 : Int32) (x2 : Int32) : Nat → Int32 → ax_σ → Option (ax_σ)
  | 0, _, _ => none
  | n + 1, x3, s =>
    if x2 ≤ x3 then
      some s
    else
      Option.bind (f_Z_doStep F x3 (0 : Int32) s) (fun s11 =>
        lp_Z_apply_59 F x1 x2 n (x3 + (1 : Int32)) s11)
set_option maxHeartbeats 4000000 in
set_option maxRecDepth 100000 in
theorem pl_Z_apply_59 {D : va_G} {cA : Nat → ClassId} {ad : Nat → Nat → Nat} {al : List (Nat × Nat)} {θ : ax_Θ} {l : Launch} {ρ : ax_ρ} {G : ax_G} {F : Nat} {x1 : Int32} {x2 : Int32} (h0 : ax_M0 al) (hB : ax_B D cA ad al θ l "CipherNotationModel" prog_8_method_68_code 4 5 G) : ∀ (n : Nat) {x3 : Int32} {s : ax_σ} (out : ax_σ), lp_Z_apply_59 F x1 x2 n x3 s = some out → (∀ (es : ax_σ), out = es → ax_R G 4 0 0 (76, [(0, .inr (0, 38)), (1, .inl (.int (x1))), (2, .inl (.int (x2)))], [], ax_m (es) ρ)) → ax_R G 4 0 0 (59, [(0, .inr (0, 38)), (1, .inl (.int (x1))), (2, .inl (.int (x2))), (3, .inl (.int (x3)))], [], ax_m (s) ρ) := by
  have hK := hB.K
  have hal := hB.la
  intro n
  induction n with
  | zero =>
    intro x3 s out h
    cases h
  | succ n ih =>
    intro x3 s out h KE
    rw [lp_Z_apply_59] at h
    refine ax_bk hK (ax_fc (ax_v_ld (ax_r_iload_n (i := 3) d_Z_apply_59 rfl)) (ax_fc (ax_v_ld (ax_r_iload_n (i := 2) d_Z_apply_60 rfl)) ax_fn)) (y := (61, [(0, .inr (0, 38)), (1, .inl (.int (x1))), (2, .inl (.int (x2))), (3, .inl (.int (x3)))], [.inl (.int (x2)), .inl (.int (x3))], ax_m (s) ρ)) rfl ⟨trivial, trivial, trivial⟩ ?_
    refine ax_ic_ge (tgt := 76) hK d_Z_apply_61 (by decide) (fun c13 => ?_) (fun c13 => ?_)
    · replace h := ax_it c13 h
      cases h
      exact ax_Lsub [0, 1, 2] rfl (KE _ rfl)
    · replace h := ax_if c13 h
      refine ax_bk hK (ax_fc (ax_v_ld (ax_r_aload_n (i := 0) d_Z_apply_64 rfl)) (ax_fc (ax_v_ld (ax_r_iload_n (i := 3) d_Z_apply_65 rfl)) (ax_fc (ax_v_pu (ax_r_iconst (v := 0) d_Z_apply_66 (by decide))) ax_fn))) (y := (67, [(0, .inr (0, 38)), (1, .inl (.int (x1))), (2, .inl (.int (x2))), (3, .inl (.int (x3)))], [.inl (.int ((0 : Int32))), .inl (.int (x3)), .inr (0, 38)], ax_m (s) ρ)) rfl ⟨trivial, trivial, trivial, trivial⟩ ?_
      obtain ⟨s11, q12, h⟩ := ax_bd h
      refine ax_bV (rest := []) hB (t_Z_doStep h0 q12) cw_Z_444 im_Z_doStep se_Z_doStep d_Z_apply_67 (h0 38 rfl) rfl rfl (by decide) (by decide) rfl rfl (Nat.le_of_ble_eq_true rfl) ?_
      change ax_R G 4 0 0 (70, [(0, .inr (0, 38)), (1, .inl (.int (x1))), (2, .inl (.int (x2))), (3, .inl (.int (x3)))], [], ax_m (s11) ρ)
      refine ax_bk hK (ax_fc (ax_v_ii (d := 1) d_Z_apply_70 (by decide)) (ax_fc (ax_v_go (tgt := 59) d_Z_apply_73 (by decide)) ax_fn)) (y := (59, [(3, .inl (.int ((x3 + (1 : Int32))))), (0, .inr (0, 38)), (1, .inl (.int (x1))), (2, .inl (.int (x2)))], [], ax_m (s11) ρ)) rfl ⟨trivial, trivial, trivial⟩ ?_
      exact ax_Lsub [1, 2, 3, 0] rfl (ih _ h KE)
def lp_Z_apply_80 (F : Nat) (x1 : Int32) (x2 : Int32) : Nat → Int32 → ax_σ → Option (ax_σ)
  | 0, _, _ => none
  | n + 1, x3, s =>
    if x3 < x2 then
      some s
    else
      Option.bind (f_Z_doStep F x3 (1 : Int32) s) (fun s15 =>
        lp_Z_apply_80 F x1 x2 n (x3 + (-1 : Int32)) s15)
set_option maxHeartbeats 4000000 in
set_option maxRecDepth 100000 in
theorem pl_Z_apply_80 {D : va_G} {cA : Nat → ClassId} {ad : Nat → Nat → Nat} {al : List (Nat × Nat)} {θ : ax_Θ} {l : Launch} {ρ : ax_ρ} {G : ax_G} {F : Nat} {x1 : Int32} {x2 : Int32} (h0 : ax_M0 al) (hB : ax_B D cA ad al θ l "CipherNotationModel" prog_8_method_68_code 4 5 G) : ∀ (n : Nat) {x3 : Int32} {s : ax_σ} (out : ax_σ), lp_Z_apply_80 F x1 x2 n x3 s = some out → (∀ (es : ax_σ), out = es → ax_R G 4 0 0 (97, [(1, .inl (.int (x1))), (2, .inl (.int (x2)))], [], ax_m (es) ρ)) → ax_R G 4 0 0 (80, [(0, .inr (0, 38)), (1, .inl (.int (x1))), (2, .inl (.int (x2))), (3, .inl (.int (x3)))], [], ax_m (s) ρ) := by
  have hK := hB.K
  have hal := hB.la
  intro n
  induction n with
  | zero =>
    intro x3 s out h
    cases h
  | succ n ih =>
    intro x3 s out h KE
    rw [lp_Z_apply_80] at h
    refine ax_bk hK (ax_fc (ax_v_ld (ax_r_iload_n (i := 3) d_Z_apply_80 rfl)) (ax_fc (ax_v_ld (ax_r_iload_n (i := 2) d_Z_apply_81 rfl)) ax_fn)) (y := (82, [(0, .inr (0, 38)), (1, .inl (.int (x1))), (2, .inl (.int (x2))), (3, .inl (.int (x3)))], [.inl (.int (x2)), .inl (.int (x3))], ax_m (s) ρ)) rfl ⟨trivial, trivial, trivial⟩ ?_
    refine ax_ic_lt (tgt := 97) hK d_Z_apply_82 (by decide) (fun c17 => ?_) (fun c17 => ?_)
    · replace h := ax_it c17 h
      cases h
      exact ax_Lsub [1, 2] rfl (KE _ rfl)
    · replace h := ax_if c17 h
      refine ax_bk hK (ax_fc (ax_v_ld (ax_r_aload_n (i := 0) d_Z_apply_85 rfl)) (ax_fc (ax_v_ld (ax_r_iload_n (i := 3) d_Z_apply_86 rfl)) (ax_fc (ax_v_pu (ax_r_iconst (v := 1) d_Z_apply_87 (by decide))) ax_fn))) (y := (88, [(0, .inr (0, 38)), (1, .inl (.int (x1))), (2, .inl (.int (x2))), (3, .inl (.int (x3)))], [.inl (.int ((1 : Int32))), .inl (.int (x3)), .inr (0, 38)], ax_m (s) ρ)) rfl ⟨trivial, trivial, trivial, trivial⟩ ?_
      obtain ⟨s15, q16, h⟩ := ax_bd h
      refine ax_bV (rest := []) hB (t_Z_doStep h0 q16) cw_Z_444 im_Z_doStep se_Z_doStep d_Z_apply_88 (h0 38 rfl) rfl rfl (by decide) (by decide) rfl rfl (Nat.le_of_ble_eq_true rfl) ?_
      change ax_R G 4 0 0 (91, [(0, .inr (0, 38)), (1, .inl (.int (x1))), (2, .inl (.int (x2))), (3, .inl (.int (x3)))], [], ax_m (s15) ρ)
      refine ax_bk hK (ax_fc (ax_v_ii (d := -1) d_Z_apply_91 (by decide)) (ax_fc (ax_v_go (tgt := 80) d_Z_apply_94 (by decide)) ax_fn)) (y := (80, [(3, .inl (.int ((x3 + (-1 : Int32))))), (0, .inr (0, 38)), (1, .inl (.int (x1))), (2, .inl (.int (x2)))], [], ax_m (s15) ρ)) rfl ⟨trivial, trivial, trivial⟩ ?_
      exact ax_Lsub [1, 2, 3, 0] rfl (ih _ h KE)
def f_Z_apply (F : Nat) (a1 : Int32) (a2 : Int32) (s : ax_σ) : Option (Int32 × ax_σ) :=
  Option.bind (
    if (s.1 0 38 5) = (0 : Int32) then
      some (1 : Int32)
    else
      Option.bind (
        if a1 < (0 : Int32) then
          some true
        else
          if (s.1 0 38 59) < a1 then
            some true
          else
            if a2 < (0 : Int32) then
              some true
            else
              if a2 ≤ (s.1 0 38 59) then
                some false
              else
                some true) (fun w5 => bif w5 then
        some (2 : Int32)
      else
        some (0 : Int32))) (fun v7 =>
    ax_let (ax_wI s 0 38 0 v7) (fun s8 =>
      if (s8.1 0 38 0) ≤ (0 : Int32) then
        Option.bind (f_Z_makeSubkeys F s8) (fun s9 =>
          Option.bind (lp_Z_apply_59 F a1 a2 F a1 s9) (fun s14 =>
            Option.bind (lp_Z_apply_80 F a1 a2 F (a1 - (1 : Int32)) s14) (fun s18 =>
              if a2 ≤ a1 then
                some (((a1 - a2), s18))
              else
                some (((a2 - a1), s18)))))
      else
        some (((0 : Int32), s8))))
set_option maxHeartbeats 4000000 in
set_option maxRecDepth 100000 in
theorem t_Z_apply {l : Launch} {D : va_G} {cA : Nat → ClassId} {ad : Nat → Nat → Nat} {al : List (Nat × Nat)} {θ : ax_Θ} {ρ : ax_ρ} {F : Nat} (h0 : ax_M0 al) {a1 : Int32} {a2 : Int32} {s : ax_σ} {r0 : Int32} {s0 : ax_σ} (h : f_Z_apply F a1 a2 s = some (r0, s0)) : ax_T l D cA ad al θ y_Z_apply (.code y_Z_apply prog_8_method_68_code 4 (some .int)) 5 [.inr (0, 38), .inl (.int (a1)), .inl (.int (a2))] (ax_m s ρ) (some (.inl (.int r0))) (ax_m s0 ρ) := by
  refine ax_T_of (own := "CipherNotationModel") (by decide) rfl (Nat.le_of_ble_eq_true rfl) [(0, .inr (0, 38)), (1, .inl (.int (a1))), (2, .inl (.int (a2)))] rfl ?_
  intro G hA
  have hB := hA.B
  have hK := hB.K
  have hal := hB.la
  unfold f_Z_apply at h
  refine ax_bk hK (ax_fc (ax_v_ld (ax_r_aload_n (i := 0) d_Z_apply_0 rfl)) (ax_fc (ax_v_ld (ax_r_aload_n (i := 0) d_Z_apply_1 rfl)) (ax_fc (ax_w_gf (e := none) hal d_Z_apply_2 fd_Z_384) ax_fn))) (y := (5, [(0, .inr (0, 38)), (1, .inl (.int (a1))), (2, .inl (.int (a2)))], [.inl (.int ((s.1 0 38 5))), .inr (0, 38)], ax_m (s) ρ)) rfl ⟨trivial, trivial, (h0 38 rfl), trivial⟩ ?_
  obtain ⟨w21, hw21, h⟩ := ax_bd h
  have KEw21 : ∀ (v7 : Int32), w21 = v7 → ax_R G 4 0 0 (41, [(0, .inr (0, 38)), (1, .inl (.int (a1))), (2, .inl (.int (a2)))], [.inl (.int (v7)), .inr (0, 38)], ax_m (s) ρ) := by
    intro v7 e9
    subst w21
    try dsimp only at h
    refine ax_bk hK (ax_fc (ax_w_pf (tc := 0) hal d_Z_apply_41 fp_Z_145 rfl) ax_fn) (y := (44, [(0, .inr (0, 38)), (1, .inl (.int (a1))), (2, .inl (.int (a2)))], [], ax_m (ax_wI s 0 38 0 v7) ρ)) rfl ⟨(h0 38 rfl), trivial⟩ ?_
    refine ax_lt (Q := fun ςς => ax_R G 4 0 0 (44, [(0, .inr (0, 38)), (1, .inl (.int (a1))), (2, .inl (.int (a2)))], [], ax_m (ςς) ρ)) h (fun s8 h => ?_)
    refine ax_bk hK (ax_fc (ax_v_ld (ax_r_aload_n (i := 0) d_Z_apply_44 rfl)) (ax_fc (ax_w_gf (e := none) hal d_Z_apply_45 fd_Z_145) ax_fn)) (y := (48, [(0, .inr (0, 38)), (1, .inl (.int (a1))), (2, .inl (.int (a2)))], [.inl (.int ((s8.1 0 38 0)))], ax_m (s8) ρ)) rfl ⟨trivial, (h0 38 rfl), trivial⟩ ?_
    refine ax_if_le (tgt := 53) hK d_Z_apply_48 (by decide) (fun c20 => ?_) (fun c20 => ?_)
    · replace h := ax_it c20 h
      refine ax_bk hK (ax_fc (ax_v_ld (ax_r_aload_n (i := 0) d_Z_apply_53 rfl)) ax_fn) (y := (54, [(0, .inr (0, 38)), (1, .inl (.int (a1))), (2, .inl (.int (a2)))], [.inr (0, 38)], ax_m (s8) ρ)) rfl ⟨trivial, trivial⟩ ?_
      obtain ⟨s9, q10, h⟩ := ax_bd h
      refine ax_bV (rest := []) hB (t_Z_makeSubkeys h0 q10) cw_Z_441 im_Z_makeSubkeys se_Z_makeSubkeys d_Z_apply_54 (h0 38 rfl) rfl rfl (by decide) (by decide) rfl rfl (Nat.le_of_ble_eq_true rfl) ?_
      change ax_R G 4 0 0 (57, [(0, .inr (0, 38)), (1, .inl (.int (a1))), (2, .inl (.int (a2)))], [], ax_m (s9) ρ)
      refine ax_bk hK (ax_fc (ax_v_ld (ax_r_iload_n (i := 1) d_Z_apply_57 rfl)) (ax_fc (ax_v_so (ax_r_istore_n (i := 3) d_Z_apply_58 rfl)) ax_fn)) (y := (59, [(3, .inl (.int (a1))), (0, .inr (0, 38)), (1, .inl (.int (a1))), (2, .inl (.int (a2)))], [], ax_m (s9) ρ)) rfl ⟨trivial, trivial, trivial⟩ ?_
      obtain ⟨w22, hw22, h⟩ := ax_bd h
      refine ax_Lsub [1, 2, 3, 0] rfl (pl_Z_apply_59 h0 hB F _ hw22 ?_)
      intro s14 e9
      subst w22
      try dsimp only at h
      change ax_R G 4 0 0 (76, [(0, .inr (0, 38)), (1, .inl (.int (a1))), (2, .inl (.int (a2)))], [], ax_m (s14) ρ)
      refine ax_bk hK (ax_fc (ax_v_ld (ax_r_iload_n (i := 1) d_Z_apply_76 rfl)) (ax_fc (ax_v_pu (ax_r_iconst (v := 1) d_Z_apply_77 (by decide))) (ax_fc (ax_v_pu (ax_r_isub d_Z_apply_78)) (ax_fc (ax_v_so (ax_r_istore_n (i := 3) d_Z_apply_79 rfl)) ax_fn)))) (y := (80, [(3, .inl (.int ((a1 - (1 : Int32))))), (0, .inr (0, 38)), (1, .inl (.int (a1))), (2, .inl (.int (a2)))], [], ax_m (s14) ρ)) rfl ⟨trivial, trivial, trivial, trivial, trivial⟩ ?_
      obtain ⟨w23, hw23, h⟩ := ax_bd h
      refine ax_Lsub [1, 2, 3, 0] rfl (pl_Z_apply_80 h0 hB F _ hw23 ?_)
      intro s18 e9
      subst w23
      try dsimp only at h
      change ax_R G 4 0 0 (97, [(1, .inl (.int (a1))), (2, .inl (.int (a2)))], [], ax_m (s18) ρ)
      refine ax_bk hK (ax_fc (ax_v_ld (ax_r_iload_n (i := 1) d_Z_apply_97 rfl)) (ax_fc (ax_v_ld (ax_r_iload_n (i := 2) d_Z_apply_98 rfl)) ax_fn)) (y := (99, [(1, .inl (.int (a1))), (2, .inl (.int (a2)))], [.inl (.int (a2)), .inl (.int (a1))], ax_m (s18) ρ)) rfl ⟨trivial, trivial, trivial⟩ ?_
      refine ax_ic_ge (tgt := 108) hK d_Z_apply_99 (by decide) (fun c19 => ?_) (fun c19 => ?_)
      · replace h := ax_it c19 h
        refine ax_bk hK (ax_fc (ax_v_ld (ax_r_iload_n (i := 1) d_Z_apply_108 rfl)) (ax_fc (ax_v_ld (ax_r_iload_n (i := 2) d_Z_apply_109 rfl)) (ax_fc (ax_v_pu (ax_r_isub d_Z_apply_110)) ax_fn))) (y := (111, [(1, .inl (.int (a1))), (2, .inl (.int (a2)))], [.inl (.int ((a1 - a2)))], ax_m (s18) ρ)) rfl ⟨trivial, trivial, trivial, trivial⟩ ?_
        cases h
        exact ax_iret hA d_Z_apply_111
      · replace h := ax_if c19 h
        refine ax_bk hK (ax_fc (ax_v_ld (ax_r_iload_n (i := 2) d_Z_apply_102 rfl)) (ax_fc (ax_v_ld (ax_r_iload_n (i := 1) d_Z_apply_103 rfl)) (ax_fc (ax_v_pu (ax_r_isub d_Z_apply_104)) (ax_fc (ax_v_go (tgt := 111) d_Z_apply_105 (by decide)) ax_fn)))) (y := (111, [(1, .inl (.int (a1))), (2, .inl (.int (a2)))], [.inl (.int ((a2 - a1)))], ax_m (s18) ρ)) rfl ⟨trivial, trivial, trivial, trivial, trivial⟩ ?_
        cases h
        exact ax_iret hA d_Z_apply_111
    · replace h := ax_if c20 h
      refine ax_bk hK (ax_fc (ax_v_pu (ax_r_iconst (v := 0) d_Z_apply_51 (by decide))) ax_fn) (y := (52, [(0, .inr (0, 38)), (1, .inl (.int (a1))), (2, .inl (.int (a2)))], [.inl (.int ((0 : Int32)))], ax_m (s8) ρ)) rfl ⟨trivial, trivial⟩ ?_
      cases h
      exact ax_iret hA d_Z_apply_52
  clear h
  have h := hw21
  refine ax_if_ne (tgt := 12) hK d_Z_apply_5 (by decide) (fun c6 => ?_) (fun c6 => ?_)
  · replace h := ax_if c6 h
    refine ax_bk hK (ax_fc (ax_v_ld (ax_r_iload_n (i := 1) d_Z_apply_12 rfl)) ax_fn) (y := (13, [(0, .inr (0, 38)), (1, .inl (.int (a1))), (2, .inl (.int (a2)))], [.inl (.int (a1)), .inr (0, 38)], ax_m (s) ρ)) rfl ⟨trivial, trivial⟩ ?_
    obtain ⟨w5, hw5, h⟩ := ax_bd h
    have KTw5 : w5 = true → ax_R G 4 0 0 (36, [(0, .inr (0, 38)), (1, .inl (.int (a1))), (2, .inl (.int (a2)))], [.inr (0, 38)], ax_m (s) ρ) := by
      intro e9
      subst w5
      replace h := ax_ct h
      refine ax_bk hK (ax_fc (ax_v_pu (ax_r_iconst (v := 2) d_Z_apply_36 (by decide))) (ax_fc (ax_v_go (tgt := 41) d_Z_apply_37 (by decide)) ax_fn)) (y := (41, [(0, .inr (0, 38)), (1, .inl (.int (a1))), (2, .inl (.int (a2)))], [.inl (.int ((2 : Int32))), .inr (0, 38)], ax_m (s) ρ)) rfl ⟨trivial, trivial, trivial⟩ ?_
      cases h
      exact ax_Lsub [0, 1, 2] rfl (KEw21 _ rfl)
    have KFw5 : w5 = false → ax_R G 4 0 0 (40, [(0, .inr (0, 38)), (1, .inl (.int (a1))), (2, .inl (.int (a2)))], [.inr (0, 38)], ax_m (s) ρ) := by
      intro e9
      subst w5
      replace h := ax_cf h
      refine ax_bk hK (ax_fc (ax_v_pu (ax_r_iconst (v := 0) d_Z_apply_40 (by decide))) ax_fn) (y := (41, [(0, .inr (0, 38)), (1, .inl (.int (a1))), (2, .inl (.int (a2)))], [.inl (.int ((0 : Int32))), .inr (0, 38)], ax_m (s) ρ)) rfl ⟨trivial, trivial⟩ ?_
      cases h
      exact ax_Lsub [0, 1, 2] rfl (KEw21 _ rfl)
    clear h
    have h := hw5
    refine ax_if_lt (tgt := 36) hK d_Z_apply_13 (by decide) (fun c4 => ?_) (fun c4 => ?_)
    · replace h := ax_it c4 h
      cases h
      exact ax_Lsub [0, 1, 2] rfl (KTw5 rfl)
    · replace h := ax_if c4 h
      refine ax_bk hK (ax_fc (ax_v_ld (ax_r_iload_n (i := 1) d_Z_apply_16 rfl)) (ax_fc (ax_v_ld (ax_r_aload_n (i := 0) d_Z_apply_17 rfl)) (ax_fc (ax_w_gf (e := none) hal d_Z_apply_18 fd_Z_362) ax_fn))) (y := (21, [(0, .inr (0, 38)), (1, .inl (.int (a1))), (2, .inl (.int (a2)))], [.inl (.int ((s.1 0 38 59))), .inl (.int (a1)), .inr (0, 38)], ax_m (s) ρ)) rfl ⟨trivial, trivial, (h0 38 rfl), trivial⟩ ?_
      refine ax_ic_gt (tgt := 36) hK d_Z_apply_21 (by decide) (fun c3 => ?_) (fun c3 => ?_)
      · replace h := ax_it c3 h
        cases h
        exact ax_Lsub [0, 1, 2] rfl (KTw5 rfl)
      · replace h := ax_if c3 h
        refine ax_bk hK (ax_fc (ax_v_ld (ax_r_iload_n (i := 2) d_Z_apply_24 rfl)) ax_fn) (y := (25, [(0, .inr (0, 38)), (1, .inl (.int (a1))), (2, .inl (.int (a2)))], [.inl (.int (a2)), .inr (0, 38)], ax_m (s) ρ)) rfl ⟨trivial, trivial⟩ ?_
        refine ax_if_lt (tgt := 36) hK d_Z_apply_25 (by decide) (fun c2 => ?_) (fun c2 => ?_)
        · replace h := ax_it c2 h
          cases h
          exact ax_Lsub [0, 1, 2] rfl (KTw5 rfl)
        · replace h := ax_if c2 h
          refine ax_bk hK (ax_fc (ax_v_ld (ax_r_iload_n (i := 2) d_Z_apply_28 rfl)) (ax_fc (ax_v_ld (ax_r_aload_n (i := 0) d_Z_apply_29 rfl)) (ax_fc (ax_w_gf (e := none) hal d_Z_apply_30 fd_Z_362) ax_fn))) (y := (33, [(0, .inr (0, 38)), (1, .inl (.int (a1))), (2, .inl (.int (a2)))], [.inl (.int ((s.1 0 38 59))), .inl (.int (a2)), .inr (0, 38)], ax_m (s) ρ)) rfl ⟨trivial, trivial, (h0 38 rfl), trivial⟩ ?_
          refine ax_ic_le (tgt := 40) hK d_Z_apply_33 (by decide) (fun c1 => ?_) (fun c1 => ?_)
          · replace h := ax_it c1 h
            cases h
            exact ax_Lsub [0, 1, 2] rfl (KFw5 rfl)
          · replace h := ax_if c1 h
            cases h
            exact ax_Lsub [0, 1, 2] rfl (KTw5 rfl)
  · replace h := ax_it c6 h
    refine ax_bk hK (ax_fc (ax_v_pu (ax_r_iconst (v := 1) d_Z_apply_8 (by decide))) (ax_fc (ax_v_go (tgt := 41) d_Z_apply_9 (by decide)) ax_fn)) (y := (41, [(0, .inr (0, 38)), (1, .inl (.int (a1))), (2, .inl (.int (a2)))], [.inl (.int ((1 : Int32))), .inr (0, 38)], ax_m (s) ρ)) rfl ⟨trivial, trivial, trivial⟩ ?_
    cases h
    exact ax_Lsub [0, 1, 2] rfl (KEw21 _ rfl)
