def y_R_writing : MethodName := ⟨"CipherNotation$Reader", "writing", "()Z"⟩
theorem d_R_writing_0 : decode prog_6_method_20_code 0 = .ok (.aload_n 0, 1) := by decide +kernel
theorem d_R_writing_1 : decode prog_6_method_20_code 1 = .ok (.bipush (62), 2) := by decide +kernel
theorem d_R_writing_3 : decode prog_6_method_20_code 3 = .ok (.invokevirtual (115), 3) := by decide +kernel
theorem d_R_writing_6 : decode prog_6_method_20_code 6 = .ok (.ifCond .ne (5), 3) := by decide +kernel
theorem d_R_writing_9 : decode prog_6_method_20_code 9 = .ok (.iconst 0, 1) := by decide +kernel
theorem d_R_writing_10 : decode prog_6_method_20_code 10 = .ok (.ireturn, 1) := by decide +kernel
theorem d_R_writing_11 : decode prog_6_method_20_code 11 = .ok (.aload_n 0, 1) := by decide +kernel
theorem d_R_writing_12 : decode prog_6_method_20_code 12 = .ok (.getfield (50), 3) := by decide +kernel
theorem d_R_writing_15 : decode prog_6_method_20_code 15 = .ok (.bipush (62), 2) := by decide +kernel
theorem d_R_writing_17 : decode prog_6_method_20_code 17 = .ok (.iconst 0, 1) := by decide +kernel
theorem d_R_writing_18 : decode prog_6_method_20_code 18 = .ok (.iconst 0, 1) := by decide +kernel
theorem d_R_writing_19 : decode prog_6_method_20_code 19 = .ok (.aload_n 0, 1) := by decide +kernel
theorem d_R_writing_20 : decode prog_6_method_20_code 20 = .ok (.getfield (45), 3) := by decide +kernel
theorem d_R_writing_23 : decode prog_6_method_20_code 23 = .ok (.getfield (169), 3) := by decide +kernel
theorem d_R_writing_26 : decode prog_6_method_20_code 26 = .ok (.invokevirtual (172), 3) := by decide +kernel
theorem d_R_writing_29 : decode prog_6_method_20_code 29 = .ok (.istore_n 1, 1) := by decide +kernel
theorem d_R_writing_30 : decode prog_6_method_20_code 30 = .ok (.aload_n 0, 1) := by decide +kernel
theorem d_R_writing_31 : decode prog_6_method_20_code 31 = .ok (.iconst 0, 1) := by decide +kernel
theorem d_R_writing_32 : decode prog_6_method_20_code 32 = .ok (.invokevirtual (183), 3) := by decide +kernel
theorem d_R_writing_35 : decode prog_6_method_20_code 35 = .ok (.istore_n 2, 1) := by decide +kernel
theorem d_R_writing_36 : decode prog_6_method_20_code 36 = .ok (.iload_n 2, 1) := by decide +kernel
theorem d_R_writing_37 : decode prog_6_method_20_code 37 = .ok (.iconst (-1), 1) := by decide +kernel
theorem d_R_writing_38 : decode prog_6_method_20_code 38 = .ok (.if_icmp .eq (12), 3) := by decide +kernel
theorem d_R_writing_41 : decode prog_6_method_20_code 41 = .ok (.aload_n 0, 1) := by decide +kernel
theorem d_R_writing_42 : decode prog_6_method_20_code 42 = .ok (.bipush (59), 2) := by decide +kernel
theorem d_R_writing_44 : decode prog_6_method_20_code 44 = .ok (.invokevirtual (115), 3) := by decide +kernel
theorem d_R_writing_47 : decode prog_6_method_20_code 47 = .ok (.ifCond .ne (5), 3) := by decide +kernel
theorem d_R_writing_50 : decode prog_6_method_20_code 50 = .ok (.iconst 0, 1) := by decide +kernel
theorem d_R_writing_51 : decode prog_6_method_20_code 51 = .ok (.ireturn, 1) := by decide +kernel
theorem d_R_writing_52 : decode prog_6_method_20_code 52 = .ok (.aload_n 0, 1) := by decide +kernel
theorem d_R_writing_53 : decode prog_6_method_20_code 53 = .ok (.getfield (50), 3) := by decide +kernel
theorem d_R_writing_56 : decode prog_6_method_20_code 56 = .ok (.getfield (186), 3) := by decide +kernel
theorem d_R_writing_59 : decode prog_6_method_20_code 59 = .ok (.iload_n 1, 1) := by decide +kernel
theorem d_R_writing_60 : decode prog_6_method_20_code 60 = .ok (.aload_n 0, 1) := by decide +kernel
theorem d_R_writing_61 : decode prog_6_method_20_code 61 = .ok (.getfield (45), 3) := by decide +kernel
theorem d_R_writing_64 : decode prog_6_method_20_code 64 = .ok (.getfield (169), 3) := by decide +kernel
theorem d_R_writing_67 : decode prog_6_method_20_code 67 = .ok (.iastore, 1) := by decide +kernel
theorem d_R_writing_68 : decode prog_6_method_20_code 68 = .ok (.aload_n 0, 1) := by decide +kernel
theorem d_R_writing_69 : decode prog_6_method_20_code 69 = .ok (.getfield (50), 3) := by decide +kernel
theorem d_R_writing_72 : decode prog_6_method_20_code 72 = .ok (.getfield (177), 3) := by decide +kernel
theorem d_R_writing_75 : decode prog_6_method_20_code 75 = .ok (.iload_n 1, 1) := by decide +kernel
theorem d_R_writing_76 : decode prog_6_method_20_code 76 = .ok (.aload_n 0, 1) := by decide +kernel
theorem d_R_writing_77 : decode prog_6_method_20_code 77 = .ok (.getfield (35), 3) := by decide +kernel
theorem d_R_writing_80 : decode prog_6_method_20_code 80 = .ok (.getfield (107), 3) := by decide +kernel
theorem d_R_writing_83 : decode prog_6_method_20_code 83 = .ok (.iconst 4, 1) := by decide +kernel
theorem d_R_writing_84 : decode prog_6_method_20_code 84 = .ok (.iaload, 1) := by decide +kernel
theorem d_R_writing_85 : decode prog_6_method_20_code 85 = .ok (.iastore, 1) := by decide +kernel
theorem d_R_writing_86 : decode prog_6_method_20_code 86 = .ok (.aload_n 0, 1) := by decide +kernel
theorem d_R_writing_87 : decode prog_6_method_20_code 87 = .ok (.getfield (35), 3) := by decide +kernel
theorem d_R_writing_90 : decode prog_6_method_20_code 90 = .ok (.getfield (107), 3) := by decide +kernel
theorem d_R_writing_93 : decode prog_6_method_20_code 93 = .ok (.iconst 4, 1) := by decide +kernel
theorem d_R_writing_94 : decode prog_6_method_20_code 94 = .ok (.dup2, 1) := by decide +kernel
theorem d_R_writing_95 : decode prog_6_method_20_code 95 = .ok (.iaload, 1) := by decide +kernel
theorem d_R_writing_96 : decode prog_6_method_20_code 96 = .ok (.iconst 1, 1) := by decide +kernel
theorem d_R_writing_97 : decode prog_6_method_20_code 97 = .ok (.iadd, 1) := by decide +kernel
theorem d_R_writing_98 : decode prog_6_method_20_code 98 = .ok (.iastore, 1) := by decide +kernel
theorem d_R_writing_99 : decode prog_6_method_20_code 99 = .ok (.aload_n 0, 1) := by decide +kernel
theorem d_R_writing_100 : decode prog_6_method_20_code 100 = .ok (.iload_n 2, 1) := by decide +kernel
theorem d_R_writing_101 : decode prog_6_method_20_code 101 = .ok (.invokevirtual (189), 3) := by decide +kernel
theorem d_R_writing_104 : decode prog_6_method_20_code 104 = .ok (.iconst 1, 1) := by decide +kernel
theorem d_R_writing_105 : decode prog_6_method_20_code 105 = .ok (.ireturn, 1) := by decide +kernel
theorem fd_R_186 : ax_fd "CipherNotation$Reader" 186 1 4 := ⟨nC1, nT1, 7, nY1, rfl, nW1, by decide, nw_1 197 (by decide +kernel) rfl, nO1, nA1⟩
def f_R_writing (F : Nat) (g : Nat) (s : ax_σ) : Option (Int32 × ax_σ) :=
  Option.bind (f_R_take g (62 : Int32) s) (fun (r1, s2) =>
    if r1 = (0 : Int32) then
      some (((0 : Int32), s2))
    else
      Option.bind (f_L_add g (62 : Int32) (0 : Int32) (0 : Int32) (s2.1 g 4 8) s2) (fun (r4, s5) =>
        Option.bind (f_R_expression14 F g (0 : Int32) s5) (fun (r7, s8) =>
          if r7 = (-1 : Int32) then
            some (((0 : Int32), s8))
          else
            Option.bind (f_R_take g (59 : Int32) s8) (fun (r10, s11) =>
              if r10 = (0 : Int32) then
                some (((0 : Int32), s11))
              else
                bif ax_in r4 120 then
                ax_let (ax_wI s11 g 18 (r4).toNatClampNeg (s11.1 g 4 8)) (fun s14 =>
                  bif ax_in (4 : Int32) 8 then
                  bif ax_in r4 120 then
                  ax_let (ax_wI s14 g 19 (r4).toNatClampNeg (s14.1 g 1 ((4 : Int32)).toNatClampNeg)) (fun s17 =>
                    bif ax_in (4 : Int32) 8 then
                    bif ax_in (4 : Int32) 8 then
                    ax_let (ax_wI s17 g 1 ((4 : Int32)).toNatClampNeg ((s17.1 g 1 ((4 : Int32)).toNatClampNeg) + (1 : Int32))) (fun s20 =>
                      Option.bind (f_R_countExpression g r7 s20) (fun s21 =>
                        some (((1 : Int32), s21))))
                    else none
                    else none)
                  else none
                  else none)
                else none))))
set_option maxHeartbeats 4000000 in
set_option maxRecDepth 100000 in
theorem t_R_writing {l : Launch} {D : va_G} {cA : Nat → ClassId} {ad : Nat → Nat → Nat} {al : List (Nat × Nat)} {θ : ax_Θ} {ρ : ax_ρ} {F : Nat} {g : Nat} (h0 : ax_M0 al) (hg : ax_Mg al g) (hr : ax_rd ρ g)  {s : ax_σ} {r0 : Int32} {s0 : ax_σ} (h : f_R_writing F g s = some (r0, s0)) : ax_T l D cA ad al θ y_R_writing (.code y_R_writing prog_6_method_20_code 3 (some .boolean)) 39 [.inr (0, 25)] (ax_m s ρ) (some (.inl (.int r0))) (ax_m s0 ρ) := by
  refine ax_T_of (own := "CipherNotation$Reader") (by decide) rfl (Nat.le_of_ble_eq_true rfl) [(0, .inr (0, 25))] rfl ?_
  intro G hA
  have hB := hA.B
  have hK := hB.K
  have hal := hB.la
  unfold f_R_writing at h
  refine ax_bk hK (ax_fc (ax_v_ld (ax_r_aload_n (i := 0) d_R_writing_0 rfl)) (ax_fc (ax_v_pu (ax_r_bipush (v := 62) d_R_writing_1 (by decide))) ax_fn)) (y := (3, [(0, .inr (0, 25))], [.inl (.int ((62 : Int32))), .inr (0, 25)], ax_m (s) ρ)) rfl ⟨trivial, trivial, trivial⟩ ?_
  obtain ⟨⟨r1, s2⟩, q3, h⟩ := ax_bd h
  dsimp only at h
  refine ax_bV (rest := []) hB (t_R_take h0 hg hr q3) cw_R_115 im_R_take se_R_take d_R_writing_3 (h0 25 rfl) rfl rfl (by decide) (by decide) rfl rfl (Nat.le_of_ble_eq_true rfl) ?_
  change ax_R G 3 0 0 (6, [(0, .inr (0, 25))], [.inl (.int (r1))], ax_m (s2) ρ)
  refine ax_if_ne (tgt := 11) hK d_R_writing_6 (by decide) (fun c25 => ?_) (fun c25 => ?_)
  · replace h := ax_if c25 h
    refine ax_bk hK (ax_fc (ax_v_ld (ax_r_aload_n (i := 0) d_R_writing_11 rfl)) (ax_fc (ax_w_gf (e := (some (g, 13))) hal d_R_writing_12 fd_R_50) (ax_fc (ax_v_pu (ax_r_bipush (v := 62) d_R_writing_15 (by decide))) (ax_fc (ax_v_pu (ax_r_iconst (v := 0) d_R_writing_17 (by decide))) (ax_fc (ax_v_pu (ax_r_iconst (v := 0) d_R_writing_18 (by decide))) (ax_fc (ax_v_ld (ax_r_aload_n (i := 0) d_R_writing_19 rfl)) (ax_fc (ax_w_gf (e := (some (g, 4))) hal d_R_writing_20 fd_R_45) (ax_fc (ax_w_gf (e := none) hal d_R_writing_23 fd_R_169) ax_fn)))))))) (y := (26, [(0, .inr (0, 25))], [.inl (.int ((s2.1 g 4 8))), .inl (.int ((0 : Int32))), .inl (.int ((0 : Int32))), .inl (.int ((62 : Int32))), .inr (g, 13)], ax_m (s2) ρ)) rfl ⟨trivial, ⟨(h0 25 rfl), hr.2.2⟩, trivial, trivial, trivial, trivial, ⟨(h0 25 rfl), hr.2.1⟩, (hg 4 rfl), trivial⟩ ?_
    obtain ⟨⟨r4, s5⟩, q6, h⟩ := ax_bd h
    dsimp only at h
    refine ax_bV (rest := []) hB (t_L_add hg q6) cw_R_172 im_L_add se_L_add d_R_writing_26 (hg 13 rfl) rfl rfl (by decide) (by decide) rfl rfl (Nat.le_of_ble_eq_true rfl) ?_
    change ax_R G 3 0 0 (29, [(0, .inr (0, 25))], [.inl (.int (r4))], ax_m (s5) ρ)
    refine ax_bk hK (ax_fc (ax_v_so (ax_r_istore_n (i := 1) d_R_writing_29 rfl)) (ax_fc (ax_v_ld (ax_r_aload_n (i := 0) d_R_writing_30 rfl)) (ax_fc (ax_v_pu (ax_r_iconst (v := 0) d_R_writing_31 (by decide))) ax_fn))) (y := (32, [(1, .inl (.int (r4))), (0, .inr (0, 25))], [.inl (.int ((0 : Int32))), .inr (0, 25)], ax_m (s5) ρ)) rfl ⟨trivial, trivial, trivial, trivial⟩ ?_
    obtain ⟨⟨r7, s8⟩, q9, h⟩ := ax_bd h
    dsimp only at h
    refine ax_bV (rest := []) hB (t_R_expression14 h0 hg hr q9) cw_R_183 im_R_expression se_R_expression d_R_writing_32 (h0 25 rfl) rfl rfl (by decide) (by decide) rfl rfl (Nat.le_of_ble_eq_true rfl) ?_
    change ax_R G 3 0 0 (35, [(1, .inl (.int (r4))), (0, .inr (0, 25))], [.inl (.int (r7))], ax_m (s8) ρ)
    refine ax_bk hK (ax_fc (ax_v_so (ax_r_istore_n (i := 2) d_R_writing_35 rfl)) (ax_fc (ax_v_ld (ax_r_iload_n (i := 2) d_R_writing_36 rfl)) (ax_fc (ax_v_pu (ax_r_iconst (v := -1) d_R_writing_37 (by decide))) ax_fn))) (y := (38, [(2, .inl (.int (r7))), (1, .inl (.int (r4))), (0, .inr (0, 25))], [.inl (.int ((-1 : Int32))), .inl (.int (r7))], ax_m (s8) ρ)) rfl ⟨trivial, trivial, trivial, trivial⟩ ?_
    refine ax_ic_eq (tgt := 50) hK d_R_writing_38 (by decide) (fun c24 => ?_) (fun c24 => ?_)
    · replace h := ax_it c24 h
      refine ax_bk hK (ax_fc (ax_v_pu (ax_r_iconst (v := 0) d_R_writing_50 (by decide))) ax_fn) (y := (51, [(2, .inl (.int (r7))), (1, .inl (.int (r4))), (0, .inr (0, 25))], [.inl (.int ((0 : Int32)))], ax_m (s8) ρ)) rfl ⟨trivial, trivial⟩ ?_
      cases h
      exact ax_zret hA (by decide) d_R_writing_51
    · replace h := ax_if c24 h
      refine ax_bk hK (ax_fc (ax_v_ld (ax_r_aload_n (i := 0) d_R_writing_41 rfl)) (ax_fc (ax_v_pu (ax_r_bipush (v := 59) d_R_writing_42 (by decide))) ax_fn)) (y := (44, [(2, .inl (.int (r7))), (1, .inl (.int (r4))), (0, .inr (0, 25))], [.inl (.int ((59 : Int32))), .inr (0, 25)], ax_m (s8) ρ)) rfl ⟨trivial, trivial, trivial⟩ ?_
      obtain ⟨⟨r10, s11⟩, q12, h⟩ := ax_bd h
      dsimp only at h
      refine ax_bV (rest := []) hB (t_R_take h0 hg hr q12) cw_R_115 im_R_take se_R_take d_R_writing_44 (h0 25 rfl) rfl rfl (by decide) (by decide) rfl rfl (Nat.le_of_ble_eq_true rfl) ?_
      change ax_R G 3 0 0 (47, [(2, .inl (.int (r7))), (1, .inl (.int (r4))), (0, .inr (0, 25))], [.inl (.int (r10))], ax_m (s11) ρ)
      refine ax_if_ne (tgt := 52) hK d_R_writing_47 (by decide) (fun c23 => ?_) (fun c23 => ?_)
      · replace h := ax_if c23 h
        obtain ⟨b13, h⟩ := ax_gd h
        refine ax_bk hK (ax_fc (ax_v_ld (ax_r_aload_n (i := 0) d_R_writing_52 rfl)) (ax_fc (ax_w_gf (e := (some (g, 13))) hal d_R_writing_53 fd_R_50) (ax_fc (ax_w_gf (e := none) hal d_R_writing_56 fd_R_186) (ax_fc (ax_v_ld (ax_r_iload_n (i := 1) d_R_writing_59 rfl)) (ax_fc (ax_v_ld (ax_r_aload_n (i := 0) d_R_writing_60 rfl)) (ax_fc (ax_w_gf (e := (some (g, 4))) hal d_R_writing_61 fd_R_45) (ax_fc (ax_w_gf (e := none) hal d_R_writing_64 fd_R_169) (ax_fc (ax_w_iast hal d_R_writing_67) ax_fn)))))))) (y := (68, [(2, .inl (.int (r7))), (1, .inl (.int (r4))), (0, .inr (0, 25))], [], ax_m (ax_wI s11 g 18 (r4).toNatClampNeg (s11.1 g 4 8)) ρ)) rfl ⟨trivial, ⟨(h0 25 rfl), hr.2.2⟩, (hg 13 rfl), trivial, trivial, ⟨(h0 25 rfl), hr.2.1⟩, (hg 4 rfl), ⟨(hg 18 rfl), ax_inp b13⟩, trivial⟩ ?_
        refine ax_lt (Q := fun ςς => ax_R G 3 0 0 (68, [(2, .inl (.int (r7))), (1, .inl (.int (r4))), (0, .inr (0, 25))], [], ax_m (ςς) ρ)) h (fun s14 h => ?_)
        obtain ⟨b15, h⟩ := ax_gd h
        obtain ⟨b16, h⟩ := ax_gd h
        refine ax_bk hK (ax_fc (ax_v_ld (ax_r_aload_n (i := 0) d_R_writing_68 rfl)) (ax_fc (ax_w_gf (e := (some (g, 13))) hal d_R_writing_69 fd_R_50) (ax_fc (ax_w_gf (e := none) hal d_R_writing_72 fd_R_177) (ax_fc (ax_v_ld (ax_r_iload_n (i := 1) d_R_writing_75 rfl)) (ax_fc (ax_v_ld (ax_r_aload_n (i := 0) d_R_writing_76 rfl)) (ax_fc (ax_w_gf (e := (some (g, 0))) hal d_R_writing_77 fd_R_35) (ax_fc (ax_w_gf (e := none) hal d_R_writing_80 fd_R_107) (ax_fc (ax_v_pu (ax_r_iconst (v := 4) d_R_writing_83 (by decide))) (ax_fc (ax_w_iald hal d_R_writing_84) (ax_fc (ax_w_iast hal d_R_writing_85) ax_fn)))))))))) (y := (86, [(2, .inl (.int (r7))), (1, .inl (.int (r4))), (0, .inr (0, 25))], [], ax_m (ax_wI s14 g 19 (r4).toNatClampNeg (s14.1 g 1 ((4 : Int32)).toNatClampNeg)) ρ)) rfl ⟨trivial, ⟨(h0 25 rfl), hr.2.2⟩, (hg 13 rfl), trivial, trivial, ⟨(h0 25 rfl), hr.1⟩, (hg 0 rfl), trivial, ⟨(hg 1 rfl), ax_inp b15⟩, ⟨(hg 19 rfl), ax_inp b16⟩, trivial⟩ ?_
        refine ax_lt (Q := fun ςς => ax_R G 3 0 0 (86, [(2, .inl (.int (r7))), (1, .inl (.int (r4))), (0, .inr (0, 25))], [], ax_m (ςς) ρ)) h (fun s17 h => ?_)
        obtain ⟨b18, h⟩ := ax_gd h
        obtain ⟨b19, h⟩ := ax_gd h
        refine ax_bk hK (ax_fc (ax_v_ld (ax_r_aload_n (i := 0) d_R_writing_86 rfl)) (ax_fc (ax_w_gf (e := (some (g, 0))) hal d_R_writing_87 fd_R_35) (ax_fc (ax_w_gf (e := none) hal d_R_writing_90 fd_R_107) (ax_fc (ax_v_pu (ax_r_iconst (v := 4) d_R_writing_93 (by decide))) (ax_fc (ax_v_pu (ax_r_dup2p d_R_writing_94)) (ax_fc (ax_w_iald hal d_R_writing_95) (ax_fc (ax_v_pu (ax_r_iconst (v := 1) d_R_writing_96 (by decide))) (ax_fc (ax_v_pu (ax_r_iadd d_R_writing_97)) (ax_fc (ax_w_iast hal d_R_writing_98) ax_fn))))))))) (y := (99, [(2, .inl (.int (r7))), (1, .inl (.int (r4))), (0, .inr (0, 25))], [], ax_m (ax_wI s17 g 1 ((4 : Int32)).toNatClampNeg ((s17.1 g 1 ((4 : Int32)).toNatClampNeg) + (1 : Int32))) ρ)) rfl ⟨trivial, ⟨(h0 25 rfl), hr.1⟩, (hg 0 rfl), trivial, trivial, ⟨(hg 1 rfl), ax_inp b18⟩, trivial, trivial, ⟨(hg 1 rfl), ax_inp b19⟩, trivial⟩ ?_
        refine ax_lt (Q := fun ςς => ax_R G 3 0 0 (99, [(2, .inl (.int (r7))), (1, .inl (.int (r4))), (0, .inr (0, 25))], [], ax_m (ςς) ρ)) h (fun s20 h => ?_)
        refine ax_bk hK (ax_fc (ax_v_ld (ax_r_aload_n (i := 0) d_R_writing_99 rfl)) (ax_fc (ax_v_ld (ax_r_iload_n (i := 2) d_R_writing_100 rfl)) ax_fn)) (y := (101, [(2, .inl (.int (r7))), (1, .inl (.int (r4))), (0, .inr (0, 25))], [.inl (.int (r7)), .inr (0, 25)], ax_m (s20) ρ)) rfl ⟨trivial, trivial, trivial⟩ ?_
        obtain ⟨s21, q22, h⟩ := ax_bd h
        refine ax_bV (rest := []) hB (t_R_countExpression h0 hg hr q22) cw_R_189 im_R_countExpression se_R_countExpression d_R_writing_101 (h0 25 rfl) rfl rfl (by decide) (by decide) rfl rfl (Nat.le_of_ble_eq_true rfl) ?_
        change ax_R G 3 0 0 (104, [(2, .inl (.int (r7))), (1, .inl (.int (r4))), (0, .inr (0, 25))], [], ax_m (s21) ρ)
        refine ax_bk hK (ax_fc (ax_v_pu (ax_r_iconst (v := 1) d_R_writing_104 (by decide))) ax_fn) (y := (105, [(2, .inl (.int (r7))), (1, .inl (.int (r4))), (0, .inr (0, 25))], [.inl (.int ((1 : Int32)))], ax_m (s21) ρ)) rfl ⟨trivial, trivial⟩ ?_
        cases h
        exact ax_zret hA (by decide) d_R_writing_105
      · replace h := ax_it c23 h
        refine ax_bk hK (ax_fc (ax_v_pu (ax_r_iconst (v := 0) d_R_writing_50 (by decide))) ax_fn) (y := (51, [(2, .inl (.int (r7))), (1, .inl (.int (r4))), (0, .inr (0, 25))], [.inl (.int ((0 : Int32)))], ax_m (s11) ρ)) rfl ⟨trivial, trivial⟩ ?_
        cases h
        exact ax_zret hA (by decide) d_R_writing_51
  · replace h := ax_it c25 h
    refine ax_bk hK (ax_fc (ax_v_pu (ax_r_iconst (v := 0) d_R_writing_9 (by decide))) ax_fn) (y := (10, [(0, .inr (0, 25))], [.inl (.int ((0 : Int32)))], ax_m (s2) ρ)) rfl ⟨trivial, trivial⟩ ?_
    cases h
    exact ax_zret hA (by decide) d_R_writing_10
def y_R_step : MethodName := ⟨"CipherNotation$Reader", "step", "()Z"⟩
theorem d_R_step_0 : decode prog_6_method_21_code 0 = .ok (.aload_n 0, 1) := by decide +kernel
theorem d_R_step_1 : decode prog_6_method_21_code 1 = .ok (.getfield (15), 3) := by decide +kernel
theorem d_R_step_4 : decode prog_6_method_21_code 4 = .ok (.aload_n 0, 1) := by decide +kernel
theorem d_R_step_5 : decode prog_6_method_21_code 5 = .ok (.getfield (72), 3) := by decide +kernel
theorem d_R_step_8 : decode prog_6_method_21_code 8 = .ok (.iaload, 1) := by decide +kernel
theorem d_R_step_9 : decode prog_6_method_21_code 9 = .ok (.istore_n 1, 1) := by decide +kernel
theorem d_R_step_10 : decode prog_6_method_21_code 10 = .ok (.aload_n 0, 1) := by decide +kernel
theorem d_R_step_11 : decode prog_6_method_21_code 11 = .ok (.invokevirtual (192), 3) := by decide +kernel
theorem d_R_step_14 : decode prog_6_method_21_code 14 = .ok (.istore_n 2, 1) := by decide +kernel
theorem d_R_step_15 : decode prog_6_method_21_code 15 = .ok (.iload_n 2, 1) := by decide +kernel
theorem d_R_step_16 : decode prog_6_method_21_code 16 = .ok (.iconst (-1), 1) := by decide +kernel
theorem d_R_step_17 : decode prog_6_method_21_code 17 = .ok (.if_icmp .ne (5), 3) := by decide +kernel
theorem d_R_step_20 : decode prog_6_method_21_code 20 = .ok (.iconst 0, 1) := by decide +kernel
theorem d_R_step_21 : decode prog_6_method_21_code 21 = .ok (.ireturn, 1) := by decide +kernel
theorem d_R_step_22 : decode prog_6_method_21_code 22 = .ok (.aload_n 0, 1) := by decide +kernel
theorem d_R_step_23 : decode prog_6_method_21_code 23 = .ok (.getfield (11), 3) := by decide +kernel
theorem d_R_step_26 : decode prog_6_method_21_code 26 = .ok (.aload_n 0, 1) := by decide +kernel
theorem d_R_step_27 : decode prog_6_method_21_code 27 = .ok (.getfield (72), 3) := by decide +kernel
theorem d_R_step_30 : decode prog_6_method_21_code 30 = .ok (.caload, 1) := by decide +kernel
theorem d_R_step_31 : decode prog_6_method_21_code 31 = .ok (.istore_n 3, 1) := by decide +kernel
theorem d_R_step_32 : decode prog_6_method_21_code 32 = .ok (.aload_n 0, 1) := by decide +kernel
theorem d_R_step_33 : decode prog_6_method_21_code 33 = .ok (.getfield (50), 3) := by decide +kernel
theorem d_R_step_36 : decode prog_6_method_21_code 36 = .ok (.iload_n 3, 1) := by decide +kernel
theorem d_R_step_37 : decode prog_6_method_21_code 37 = .ok (.iload_n 2, 1) := by decide +kernel
theorem d_R_step_38 : decode prog_6_method_21_code 38 = .ok (.iconst 0, 1) := by decide +kernel
theorem d_R_step_39 : decode prog_6_method_21_code 39 = .ok (.aload_n 0, 1) := by decide +kernel
theorem d_R_step_40 : decode prog_6_method_21_code 40 = .ok (.getfield (45), 3) := by decide +kernel
theorem d_R_step_43 : decode prog_6_method_21_code 43 = .ok (.getfield (169), 3) := by decide +kernel
theorem d_R_step_46 : decode prog_6_method_21_code 46 = .ok (.invokevirtual (172), 3) := by decide +kernel
theorem d_R_step_49 : decode prog_6_method_21_code 49 = .ok (.istore (4), 2) := by decide +kernel
theorem d_R_step_51 : decode prog_6_method_21_code 51 = .ok (.iconst (-1), 1) := by decide +kernel
theorem d_R_step_52 : decode prog_6_method_21_code 52 = .ok (.istore (5), 2) := by decide +kernel
theorem d_R_step_54 : decode prog_6_method_21_code 54 = .ok (.iload_n 3, 1) := by decide +kernel
theorem d_R_step_55 : decode prog_6_method_21_code 55 = .ok (.bipush (94), 2) := by decide +kernel
theorem d_R_step_57 : decode prog_6_method_21_code 57 = .ok (.if_icmp .eq (15), 3) := by decide +kernel
theorem d_R_step_60 : decode prog_6_method_21_code 60 = .ok (.iload_n 3, 1) := by decide +kernel
theorem d_R_step_61 : decode prog_6_method_21_code 61 = .ok (.bipush (43), 2) := by decide +kernel
theorem d_R_step_63 : decode prog_6_method_21_code 63 = .ok (.if_icmp .eq (9), 3) := by decide +kernel
theorem d_R_step_66 : decode prog_6_method_21_code 66 = .ok (.iload_n 3, 1) := by decide +kernel
theorem d_R_step_67 : decode prog_6_method_21_code 67 = .ok (.bipush (45), 2) := by decide +kernel
theorem d_R_step_69 : decode prog_6_method_21_code 69 = .ok (.if_icmp .ne (36), 3) := by decide +kernel
theorem d_R_step_72 : decode prog_6_method_21_code 72 = .ok (.aload_n 0, 1) := by decide +kernel
theorem d_R_step_73 : decode prog_6_method_21_code 73 = .ok (.dup, 1) := by decide +kernel
theorem d_R_step_74 : decode prog_6_method_21_code 74 = .ok (.getfield (72), 3) := by decide +kernel
theorem d_R_step_77 : decode prog_6_method_21_code 77 = .ok (.iconst 1, 1) := by decide +kernel
theorem d_R_step_78 : decode prog_6_method_21_code 78 = .ok (.iadd, 1) := by decide +kernel
theorem d_R_step_79 : decode prog_6_method_21_code 79 = .ok (.putfield (72), 3) := by decide +kernel
theorem d_R_step_82 : decode prog_6_method_21_code 82 = .ok (.aload_n 0, 1) := by decide +kernel
theorem d_R_step_83 : decode prog_6_method_21_code 83 = .ok (.bipush (61), 2) := by decide +kernel
theorem d_R_step_85 : decode prog_6_method_21_code 85 = .ok (.invokevirtual (115), 3) := by decide +kernel
theorem d_R_step_88 : decode prog_6_method_21_code 88 = .ok (.ifCond .eq (11), 3) := by decide +kernel
theorem d_R_step_91 : decode prog_6_method_21_code 91 = .ok (.aload_n 0, 1) := by decide +kernel
theorem d_R_step_92 : decode prog_6_method_21_code 92 = .ok (.iconst 0, 1) := by decide +kernel
theorem d_R_step_93 : decode prog_6_method_21_code 93 = .ok (.invokevirtual (183), 3) := by decide +kernel
theorem d_R_step_96 : decode prog_6_method_21_code 96 = .ok (.goto (4), 3) := by decide +kernel
theorem d_R_step_99 : decode prog_6_method_21_code 99 = .ok (.iconst (-1), 1) := by decide +kernel
theorem d_R_step_100 : decode prog_6_method_21_code 100 = .ok (.istore (5), 2) := by decide +kernel
theorem d_R_step_102 : decode prog_6_method_21_code 102 = .ok (.goto (144), 3) := by decide +kernel
theorem d_R_step_105 : decode prog_6_method_21_code 105 = .ok (.iload_n 3, 1) := by decide +kernel
theorem d_R_step_106 : decode prog_6_method_21_code 106 = .ok (.bipush (42), 2) := by decide +kernel
theorem d_R_step_108 : decode prog_6_method_21_code 108 = .ok (.if_icmp .ne (39), 3) := by decide +kernel
theorem d_R_step_111 : decode prog_6_method_21_code 111 = .ok (.aload_n 0, 1) := by decide +kernel
theorem d_R_step_112 : decode prog_6_method_21_code 112 = .ok (.dup, 1) := by decide +kernel
theorem d_R_step_113 : decode prog_6_method_21_code 113 = .ok (.getfield (72), 3) := by decide +kernel
theorem d_R_step_116 : decode prog_6_method_21_code 116 = .ok (.iconst 1, 1) := by decide +kernel
theorem d_R_step_117 : decode prog_6_method_21_code 117 = .ok (.iadd, 1) := by decide +kernel
theorem d_R_step_118 : decode prog_6_method_21_code 118 = .ok (.putfield (72), 3) := by decide +kernel
theorem d_R_step_121 : decode prog_6_method_21_code 121 = .ok (.aload_n 0, 1) := by decide +kernel
theorem d_R_step_122 : decode prog_6_method_21_code 122 = .ok (.bipush (61), 2) := by decide +kernel
theorem d_R_step_124 : decode prog_6_method_21_code 124 = .ok (.invokevirtual (115), 3) := by decide +kernel
theorem d_R_step_127 : decode prog_6_method_21_code 127 = .ok (.ifCond .eq (14), 3) := by decide +kernel
theorem d_R_step_130 : decode prog_6_method_21_code 130 = .ok (.aload_n 0, 1) := by decide +kernel
theorem d_R_step_131 : decode prog_6_method_21_code 131 = .ok (.aload_n 0, 1) := by decide +kernel
theorem d_R_step_132 : decode prog_6_method_21_code 132 = .ok (.invokevirtual (196), 3) := by decide +kernel
theorem d_R_step_135 : decode prog_6_method_21_code 135 = .ok (.invokevirtual (111), 3) := by decide +kernel
theorem d_R_step_138 : decode prog_6_method_21_code 138 = .ok (.goto (4), 3) := by decide +kernel
theorem d_R_step_141 : decode prog_6_method_21_code 141 = .ok (.iconst (-1), 1) := by decide +kernel
theorem d_R_step_142 : decode prog_6_method_21_code 142 = .ok (.istore (5), 2) := by decide +kernel
theorem d_R_step_144 : decode prog_6_method_21_code 144 = .ok (.goto (102), 3) := by decide +kernel
theorem d_R_step_147 : decode prog_6_method_21_code 147 = .ok (.iload_n 3, 1) := by decide +kernel
theorem d_R_step_148 : decode prog_6_method_21_code 148 = .ok (.bipush (60), 2) := by decide +kernel
theorem d_R_step_150 : decode prog_6_method_21_code 150 = .ok (.if_icmp .ne (24), 3) := by decide +kernel
theorem d_R_step_153 : decode prog_6_method_21_code 153 = .ok (.aload_n 0, 1) := by decide +kernel
theorem d_R_step_154 : decode prog_6_method_21_code 154 = .ok (.dup, 1) := by decide +kernel
theorem d_R_step_155 : decode prog_6_method_21_code 155 = .ok (.getfield (72), 3) := by decide +kernel
theorem d_R_step_158 : decode prog_6_method_21_code 158 = .ok (.iconst 1, 1) := by decide +kernel
theorem d_R_step_159 : decode prog_6_method_21_code 159 = .ok (.iadd, 1) := by decide +kernel
theorem d_R_step_160 : decode prog_6_method_21_code 160 = .ok (.putfield (72), 3) := by decide +kernel
theorem d_R_step_163 : decode prog_6_method_21_code 163 = .ok (.aload_n 0, 1) := by decide +kernel
theorem d_R_step_164 : decode prog_6_method_21_code 164 = .ok (.iload (4), 2) := by decide +kernel
theorem d_R_step_166 : decode prog_6_method_21_code 166 = .ok (.invokevirtual (199), 3) := by decide +kernel
theorem d_R_step_169 : decode prog_6_method_21_code 169 = .ok (.istore (5), 2) := by decide +kernel
theorem d_R_step_171 : decode prog_6_method_21_code 171 = .ok (.goto (75), 3) := by decide +kernel
theorem d_R_step_174 : decode prog_6_method_21_code 174 = .ok (.iload_n 3, 1) := by decide +kernel
theorem d_R_step_175 : decode prog_6_method_21_code 175 = .ok (.bipush (58), 2) := by decide +kernel
theorem d_R_step_177 : decode prog_6_method_21_code 177 = .ok (.if_icmp .ne (22), 3) := by decide +kernel
theorem d_R_step_180 : decode prog_6_method_21_code 180 = .ok (.aload_n 0, 1) := by decide +kernel
theorem d_R_step_181 : decode prog_6_method_21_code 181 = .ok (.dup, 1) := by decide +kernel
theorem d_R_step_182 : decode prog_6_method_21_code 182 = .ok (.getfield (72), 3) := by decide +kernel
theorem d_R_step_185 : decode prog_6_method_21_code 185 = .ok (.iconst 1, 1) := by decide +kernel
theorem d_R_step_186 : decode prog_6_method_21_code 186 = .ok (.iadd, 1) := by decide +kernel
theorem d_R_step_187 : decode prog_6_method_21_code 187 = .ok (.putfield (72), 3) := by decide +kernel
theorem d_R_step_190 : decode prog_6_method_21_code 190 = .ok (.aload_n 0, 1) := by decide +kernel
theorem d_R_step_191 : decode prog_6_method_21_code 191 = .ok (.invokevirtual (192), 3) := by decide +kernel
theorem d_R_step_194 : decode prog_6_method_21_code 194 = .ok (.istore (5), 2) := by decide +kernel
theorem d_R_step_196 : decode prog_6_method_21_code 196 = .ok (.goto (50), 3) := by decide +kernel
theorem d_R_step_199 : decode prog_6_method_21_code 199 = .ok (.iload_n 3, 1) := by decide +kernel
theorem d_R_step_200 : decode prog_6_method_21_code 200 = .ok (.bipush (35), 2) := by decide +kernel
theorem d_R_step_202 : decode prog_6_method_21_code 202 = .ok (.if_icmp .ne (22), 3) := by decide +kernel
theorem d_R_step_205 : decode prog_6_method_21_code 205 = .ok (.aload_n 0, 1) := by decide +kernel
theorem d_R_step_206 : decode prog_6_method_21_code 206 = .ok (.dup, 1) := by decide +kernel
theorem d_R_step_207 : decode prog_6_method_21_code 207 = .ok (.getfield (72), 3) := by decide +kernel
theorem d_R_step_210 : decode prog_6_method_21_code 210 = .ok (.iconst 1, 1) := by decide +kernel
theorem d_R_step_211 : decode prog_6_method_21_code 211 = .ok (.iadd, 1) := by decide +kernel
theorem d_R_step_212 : decode prog_6_method_21_code 212 = .ok (.putfield (72), 3) := by decide +kernel
theorem d_R_step_215 : decode prog_6_method_21_code 215 = .ok (.aload_n 0, 1) := by decide +kernel
theorem d_R_step_216 : decode prog_6_method_21_code 216 = .ok (.invokevirtual (202), 3) := by decide +kernel
theorem d_R_step_219 : decode prog_6_method_21_code 219 = .ok (.istore (5), 2) := by decide +kernel
theorem d_R_step_221 : decode prog_6_method_21_code 221 = .ok (.goto (25), 3) := by decide +kernel
theorem d_R_step_224 : decode prog_6_method_21_code 224 = .ok (.iload_n 3, 1) := by decide +kernel
theorem d_R_step_225 : decode prog_6_method_21_code 225 = .ok (.bipush (64), 2) := by decide +kernel
theorem d_R_step_227 : decode prog_6_method_21_code 227 = .ok (.if_icmp .ne (19), 3) := by decide +kernel
theorem d_R_step_230 : decode prog_6_method_21_code 230 = .ok (.aload_n 0, 1) := by decide +kernel
theorem d_R_step_231 : decode prog_6_method_21_code 231 = .ok (.dup, 1) := by decide +kernel
theorem d_R_step_232 : decode prog_6_method_21_code 232 = .ok (.getfield (72), 3) := by decide +kernel
theorem d_R_step_235 : decode prog_6_method_21_code 235 = .ok (.iconst 1, 1) := by decide +kernel
theorem d_R_step_236 : decode prog_6_method_21_code 236 = .ok (.iadd, 1) := by decide +kernel
theorem d_R_step_237 : decode prog_6_method_21_code 237 = .ok (.putfield (72), 3) := by decide +kernel
theorem d_R_step_240 : decode prog_6_method_21_code 240 = .ok (.aload_n 0, 1) := by decide +kernel
theorem d_R_step_241 : decode prog_6_method_21_code 241 = .ok (.invokevirtual (205), 3) := by decide +kernel
theorem d_R_step_244 : decode prog_6_method_21_code 244 = .ok (.istore (5), 2) := by decide +kernel
theorem d_R_step_246 : decode prog_6_method_21_code 246 = .ok (.iload (5), 2) := by decide +kernel
theorem d_R_step_248 : decode prog_6_method_21_code 248 = .ok (.iconst (-1), 1) := by decide +kernel
theorem d_R_step_249 : decode prog_6_method_21_code 249 = .ok (.if_icmp .eq (12), 3) := by decide +kernel
theorem d_R_step_252 : decode prog_6_method_21_code 252 = .ok (.aload_n 0, 1) := by decide +kernel
theorem d_R_step_253 : decode prog_6_method_21_code 253 = .ok (.bipush (59), 2) := by decide +kernel
theorem d_R_step_255 : decode prog_6_method_21_code 255 = .ok (.invokevirtual (115), 3) := by decide +kernel
theorem d_R_step_258 : decode prog_6_method_21_code 258 = .ok (.ifCond .ne (5), 3) := by decide +kernel
theorem d_R_step_261 : decode prog_6_method_21_code 261 = .ok (.iconst 0, 1) := by decide +kernel
theorem d_R_step_262 : decode prog_6_method_21_code 262 = .ok (.ireturn, 1) := by decide +kernel
theorem d_R_step_263 : decode prog_6_method_21_code 263 = .ok (.aload_n 0, 1) := by decide +kernel
theorem d_R_step_264 : decode prog_6_method_21_code 264 = .ok (.getfield (50), 3) := by decide +kernel
theorem d_R_step_267 : decode prog_6_method_21_code 267 = .ok (.getfield (180), 3) := by decide +kernel
theorem d_R_step_270 : decode prog_6_method_21_code 270 = .ok (.iload (4), 2) := by decide +kernel
theorem d_R_step_272 : decode prog_6_method_21_code 272 = .ok (.iload (5), 2) := by decide +kernel
theorem d_R_step_274 : decode prog_6_method_21_code 274 = .ok (.iastore, 1) := by decide +kernel
theorem d_R_step_275 : decode prog_6_method_21_code 275 = .ok (.aload_n 0, 1) := by decide +kernel
theorem d_R_step_276 : decode prog_6_method_21_code 276 = .ok (.getfield (50), 3) := by decide +kernel
theorem d_R_step_279 : decode prog_6_method_21_code 279 = .ok (.getfield (186), 3) := by decide +kernel
theorem d_R_step_282 : decode prog_6_method_21_code 282 = .ok (.iload (4), 2) := by decide +kernel
theorem d_R_step_284 : decode prog_6_method_21_code 284 = .ok (.aload_n 0, 1) := by decide +kernel
theorem d_R_step_285 : decode prog_6_method_21_code 285 = .ok (.getfield (45), 3) := by decide +kernel
theorem d_R_step_288 : decode prog_6_method_21_code 288 = .ok (.getfield (169), 3) := by decide +kernel
theorem d_R_step_291 : decode prog_6_method_21_code 291 = .ok (.iastore, 1) := by decide +kernel
theorem d_R_step_292 : decode prog_6_method_21_code 292 = .ok (.aload_n 0, 1) := by decide +kernel
theorem d_R_step_293 : decode prog_6_method_21_code 293 = .ok (.iload (4), 2) := by decide +kernel
theorem d_R_step_295 : decode prog_6_method_21_code 295 = .ok (.invokevirtual (208), 3) := by decide +kernel
theorem d_R_step_298 : decode prog_6_method_21_code 298 = .ok (.aload_n 0, 1) := by decide +kernel
theorem d_R_step_299 : decode prog_6_method_21_code 299 = .ok (.iload (4), 2) := by decide +kernel
theorem d_R_step_301 : decode prog_6_method_21_code 301 = .ok (.invokevirtual (211), 3) := by decide +kernel
theorem d_R_step_304 : decode prog_6_method_21_code 304 = .ok (.ifCond .ne (9), 3) := by decide +kernel
theorem d_R_step_307 : decode prog_6_method_21_code 307 = .ok (.aload_n 0, 1) := by decide +kernel
theorem d_R_step_308 : decode prog_6_method_21_code 308 = .ok (.iload_n 1, 1) := by decide +kernel
theorem d_R_step_309 : decode prog_6_method_21_code 309 = .ok (.iconst 5, 1) := by decide +kernel
theorem d_R_step_310 : decode prog_6_method_21_code 310 = .ok (.invokevirtual (100), 3) := by decide +kernel
theorem d_R_step_313 : decode prog_6_method_21_code 313 = .ok (.iconst 1, 1) := by decide +kernel
theorem d_R_step_314 : decode prog_6_method_21_code 314 = .ok (.ireturn, 1) := by decide +kernel
set_option maxRecDepth 100000 in
theorem cw_R_208 : ax_cw "CipherNotation$Reader" 208 y_R_countStep (.code y_R_countStep prog_6_method_26_code 3 none) 1 := ⟨nw_3 58 (by decide +kernel) rfl, nw_1 2 (by decide +kernel) rfl, nw_3 61 rfl rfl, by decide +kernel, by decide +kernel⟩
theorem im_R_countStep : Cond.instanceMethod y_R_countStep ∈ ax_tbl := nw_3 60 (by decide +kernel) rfl
theorem se_R_countStep : Cond.selects y_R_countStep.cls y_R_countStep y_R_countStep ∈ ax_tbl := nw_sel 25 (by decide +kernel) (by decide +kernel)
set_option maxRecDepth 100000 in
theorem cw_R_211 : ax_cw "CipherNotation$Reader" 211 y_R_canBeUndone (.code y_R_canBeUndone prog_6_method_25_code 4 (some .boolean)) 1 := ⟨nw_3 62 (by decide +kernel) rfl, nw_1 2 (by decide +kernel) rfl, nw_3 65 rfl rfl, by decide +kernel, by decide +kernel⟩
theorem im_R_canBeUndone : Cond.instanceMethod y_R_canBeUndone ∈ ax_tbl := nw_3 64 (by decide +kernel) rfl
theorem se_R_canBeUndone : Cond.selects y_R_canBeUndone.cls y_R_canBeUndone y_R_canBeUndone ∈ ax_tbl := nw_sel 26 (by decide +kernel) (by decide +kernel)
set_option maxRecDepth 100000 in
theorem cw_R_205 : ax_cw "CipherNotation$Reader" 205 y_R_rotations (.code y_R_rotations prog_6_method_24_code 3 (some .int)) 0 := ⟨nw_3 54 (by decide +kernel) rfl, nw_1 2 (by decide +kernel) rfl, nw_3 57 rfl rfl, by decide +kernel, by decide +kernel⟩
theorem im_R_rotations : Cond.instanceMethod y_R_rotations ∈ ax_tbl := nw_3 56 (by decide +kernel) rfl
theorem se_R_rotations : Cond.selects y_R_rotations.cls y_R_rotations y_R_rotations ∈ ax_tbl := nw_sel 24 (by decide +kernel) (by decide +kernel)
set_option maxRecDepth 100000 in
theorem cw_R_202 : ax_cw "CipherNotation$Reader" 202 y_R_tableNumber (.code y_R_tableNumber prog_6_method_23_code 3 (some .int)) 0 := ⟨nw_3 50 (by decide +kernel) rfl, nw_1 2 (by decide +kernel) rfl, nw_3 53 rfl rfl, by decide +kernel, by decide +kernel⟩
theorem im_R_tableNumber : Cond.instanceMethod y_R_tableNumber ∈ ax_tbl := nw_3 52 (by decide +kernel) rfl
theorem se_R_tableNumber : Cond.selects y_R_tableNumber.cls y_R_tableNumber y_R_tableNumber ∈ ax_tbl := nw_sel 23 (by decide +kernel) (by decide +kernel)
set_option maxRecDepth 100000 in
theorem cw_R_199 : ax_cw "CipherNotation$Reader" 199 y_R_rotation (.code y_R_rotation prog_6_method_22_code 2 (some .int)) 1 := ⟨nw_3 46 (by decide +kernel) rfl, nw_1 2 (by decide +kernel) rfl, nw_3 49 rfl rfl, by decide +kernel, by decide +kernel⟩
theorem im_R_rotation : Cond.instanceMethod y_R_rotation ∈ ax_tbl := nw_3 48 (by decide +kernel) rfl
theorem se_R_rotation : Cond.selects y_R_rotation.cls y_R_rotation y_R_rotation ∈ ax_tbl := nw_sel 22 (by decide +kernel) (by decide +kernel)
def f_R_step (F : Nat) (g : Nat) (s : ax_σ) : Option (Int32 × ax_σ) :=
  bif ax_in (s.1 0 25 3) 241 then
  Option.bind (f_R_takeState g s) (fun (r2, s3) =>
    if r2 = (-1 : Int32) then
      some (((0 : Int32), s3))
    else
      bif ax_in (s3.1 0 25 3) 241 then
      Option.bind (f_L_add g (s3.1 0 26 ((s3.1 0 25 3)).toNatClampNeg) r2 (0 : Int32) (s3.1 g 4 8) s3) (fun (r6, s7) =>
        Option.bind (
          Option.bind (
            if (s3.1 0 26 ((s3.1 0 25 3)).toNatClampNeg) = (94 : Int32) then
              some true
            else
              if (s3.1 0 26 ((s3.1 0 25 3)).toNatClampNeg) = (43 : Int32) then
                some true
              else
                if (s3.1 0 26 ((s3.1 0 25 3)).toNatClampNeg) = (45 : Int32) then
                  some true
                else
                  some false) (fun w51 => bif w51 then
            ax_let (ax_wI s7 0 25 3 ((s7.1 0 25 3) + (1 : Int32))) (fun s12 =>
              Option.bind (f_R_take g (61 : Int32) s12) (fun (r13, s14) =>
                if r13 = (0 : Int32) then
                  some ((-1 : Int32), s14)
                else
                  Option.bind (f_R_expression14 F g (0 : Int32) s14) (fun (r16, s17) =>
                    some (r16, s17))))
          else
            if (s3.1 0 26 ((s3.1 0 25 3)).toNatClampNeg) = (42 : Int32) then
              ax_let (ax_wI s7 0 25 3 ((s7.1 0 25 3) + (1 : Int32))) (fun s40 =>
                Option.bind (f_R_take g (61 : Int32) s40) (fun (r41, s42) =>
                  if r41 = (0 : Int32) then
                    some ((-1 : Int32), s42)
                  else
                    Option.bind (f_R_wordBound g s42) (fun r44 =>
                      Option.bind (f_R_takeNumber F g r44 s42) (fun (r46, s47) =>
                        some (r46, s47)))))
            else
              if (s3.1 0 26 ((s3.1 0 25 3)).toNatClampNeg) = (60 : Int32) then
                ax_let (ax_wI s7 0 25 3 ((s7.1 0 25 3) + (1 : Int32))) (fun s35 =>
                  Option.bind (f_R_rotation F g r6 s35) (fun (r36, s37) =>
                    some (r36, s37)))
              else
                if (s3.1 0 26 ((s3.1 0 25 3)).toNatClampNeg) = (58 : Int32) then
                  ax_let (ax_wI s7 0 25 3 ((s7.1 0 25 3) + (1 : Int32))) (fun s30 =>
                    Option.bind (f_R_takeState g s30) (fun (r31, s32) =>
                      some (r31, s32)))
                else
                  if (s3.1 0 26 ((s3.1 0 25 3)).toNatClampNeg) = (35 : Int32) then
                    ax_let (ax_wI s7 0 25 3 ((s7.1 0 25 3) + (1 : Int32))) (fun s25 =>
                      Option.bind (f_R_tableNumber F g s25) (fun (r26, s27) =>
                        some (r26, s27)))
                  else
                    if (s3.1 0 26 ((s3.1 0 25 3)).toNatClampNeg) = (64 : Int32) then
                      ax_let (ax_wI s7 0 25 3 ((s7.1 0 25 3) + (1 : Int32))) (fun s20 =>
                        Option.bind (f_R_rotations F g s20) (fun (r21, s22) =>
                          some (r21, s22)))
                    else
                      some ((-1 : Int32), s7))) (fun (v52, s53) =>
          if v52 = (-1 : Int32) then
            some (((0 : Int32), s53))
          else
            Option.bind (f_R_take g (59 : Int32) s53) (fun (r54, s55) =>
              if r54 = (0 : Int32) then
                some (((0 : Int32), s55))
              else
                bif ax_in r6 120 then
                ax_let (ax_wI s55 g 16 (r6).toNatClampNeg v52) (fun s58 =>
                  bif ax_in r6 120 then
                  ax_let (ax_wI s58 g 18 (r6).toNatClampNeg (s58.1 g 4 8)) (fun s60 =>
                    Option.bind (f_R_countStep g r6 s60) (fun s61 =>
                      Option.bind (f_R_canBeUndone F g r6 s61) (fun r63 =>
                        if r63 = (0 : Int32) then
                          Option.bind (f_R_note g (s.1 0 27 ((s.1 0 25 3)).toNatClampNeg) (5 : Int32) s61) (fun s65 =>
                            some (((1 : Int32), s65)))
                        else
                          some (((1 : Int32), s61)))))
                  else none)
                else none)))
      else none)
  else none
set_option maxHeartbeats 4000000 in
set_option maxRecDepth 100000 in
theorem t_R_step {l : Launch} {D : va_G} {cA : Nat → ClassId} {ad : Nat → Nat → Nat} {al : List (Nat × Nat)} {θ : ax_Θ} {ρ : ax_ρ} {F : Nat} {g : Nat} (h0 : ax_M0 al) (hg : ax_Mg al g) (hr : ax_rd ρ g)  {s : ax_σ} {r0 : Int32} {s0 : ax_σ} (h : f_R_step F g s = some (r0, s0)) : ax_T l D cA ad al θ y_R_step (.code y_R_step prog_6_method_21_code 6 (some .boolean)) 39 [.inr (0, 25)] (ax_m s ρ) (some (.inl (.int r0))) (ax_m s0 ρ) := by
  refine ax_T_of (own := "CipherNotation$Reader") (by decide) rfl (Nat.le_of_ble_eq_true rfl) [(0, .inr (0, 25))] rfl ?_
  intro G hA
  have hB := hA.B
  have hK := hB.K
  have hal := hB.la
  unfold f_R_step at h
  obtain ⟨b1, h⟩ := ax_gd h
  refine ax_bk hK (ax_fc (ax_v_ld (ax_r_aload_n (i := 0) d_R_step_0 rfl)) (ax_fc (ax_w_gf (e := none) hal d_R_step_1 fd_R_15) (ax_fc (ax_v_ld (ax_r_aload_n (i := 0) d_R_step_4 rfl)) (ax_fc (ax_w_gf (e := none) hal d_R_step_5 fd_R_72) (ax_fc (ax_w_iald hal d_R_step_8) (ax_fc (ax_v_so (ax_r_istore_n (i := 1) d_R_step_9 rfl)) (ax_fc (ax_v_ld (ax_r_aload_n (i := 0) d_R_step_10 rfl)) ax_fn))))))) (y := (11, [(1, .inl (.int ((s.1 0 27 ((s.1 0 25 3)).toNatClampNeg)))), (0, .inr (0, 25))], [.inr (0, 25)], ax_m (s) ρ)) rfl ⟨trivial, (h0 25 rfl), trivial, (h0 25 rfl), ⟨(h0 27 rfl), ax_inp b1⟩, trivial, trivial, trivial⟩ ?_
  obtain ⟨⟨r2, s3⟩, q4, h⟩ := ax_bd h
  dsimp only at h
  refine ax_bV (rest := []) hB (t_R_takeState h0 hg hr q4) cw_R_192 im_R_takeState se_R_takeState d_R_step_11 (h0 25 rfl) rfl rfl (by decide) (by decide) rfl rfl (Nat.le_of_ble_eq_true rfl) ?_
  change ax_R G 6 0 0 (14, [(1, .inl (.int ((s.1 0 27 ((s.1 0 25 3)).toNatClampNeg)))), (0, .inr (0, 25))], [.inl (.int (r2))], ax_m (s3) ρ)
  refine ax_bk hK (ax_fc (ax_v_so (ax_r_istore_n (i := 2) d_R_step_14 rfl)) (ax_fc (ax_v_ld (ax_r_iload_n (i := 2) d_R_step_15 rfl)) (ax_fc (ax_v_pu (ax_r_iconst (v := -1) d_R_step_16 (by decide))) ax_fn))) (y := (17, [(2, .inl (.int (r2))), (1, .inl (.int ((s.1 0 27 ((s.1 0 25 3)).toNatClampNeg)))), (0, .inr (0, 25))], [.inl (.int ((-1 : Int32))), .inl (.int (r2))], ax_m (s3) ρ)) rfl ⟨trivial, trivial, trivial, trivial⟩ ?_
  refine ax_ic_ne (tgt := 22) hK d_R_step_17 (by decide) (fun c70 => ?_) (fun c70 => ?_)
  · replace h := ax_if c70 h
    obtain ⟨b5, h⟩ := ax_gd h
    refine ax_bk hK (ax_fc (ax_v_ld (ax_r_aload_n (i := 0) d_R_step_22 rfl)) (ax_fc (ax_w_gf (e := none) hal d_R_step_23 fd_R_11) (ax_fc (ax_v_ld (ax_r_aload_n (i := 0) d_R_step_26 rfl)) (ax_fc (ax_w_gf (e := none) hal d_R_step_27 fd_R_72) (ax_fc (ax_w_cald hal d_R_step_30) (ax_fc (ax_v_so (ax_r_istore_n (i := 3) d_R_step_31 rfl)) (ax_fc (ax_v_ld (ax_r_aload_n (i := 0) d_R_step_32 rfl)) (ax_fc (ax_w_gf (e := (some (g, 13))) hal d_R_step_33 fd_R_50) (ax_fc (ax_v_ld (ax_r_iload_n (i := 3) d_R_step_36 rfl)) (ax_fc (ax_v_ld (ax_r_iload_n (i := 2) d_R_step_37 rfl)) (ax_fc (ax_v_pu (ax_r_iconst (v := 0) d_R_step_38 (by decide))) (ax_fc (ax_v_ld (ax_r_aload_n (i := 0) d_R_step_39 rfl)) (ax_fc (ax_w_gf (e := (some (g, 4))) hal d_R_step_40 fd_R_45) (ax_fc (ax_w_gf (e := none) hal d_R_step_43 fd_R_169) ax_fn)))))))))))))) (y := (46, [(3, .inl (.int ((s3.1 0 26 ((s3.1 0 25 3)).toNatClampNeg)))), (2, .inl (.int (r2))), (1, .inl (.int ((s.1 0 27 ((s.1 0 25 3)).toNatClampNeg)))), (0, .inr (0, 25))], [.inl (.int ((s3.1 g 4 8))), .inl (.int ((0 : Int32))), .inl (.int (r2)), .inl (.int ((s3.1 0 26 ((s3.1 0 25 3)).toNatClampNeg))), .inr (g, 13)], ax_m (s3) ρ)) rfl ⟨trivial, (h0 25 rfl), trivial, (h0 25 rfl), ⟨(h0 26 rfl), ax_inp b5⟩, trivial, trivial, ⟨(h0 25 rfl), hr.2.2⟩, trivial, trivial, trivial, trivial, ⟨(h0 25 rfl), hr.2.1⟩, (hg 4 rfl), trivial⟩ ?_
    obtain ⟨⟨r6, s7⟩, q8, h⟩ := ax_bd h
    dsimp only at h
    refine ax_bV (rest := []) hB (t_L_add hg q8) cw_R_172 im_L_add se_L_add d_R_step_46 (hg 13 rfl) rfl rfl (by decide) (by decide) rfl rfl (Nat.le_of_ble_eq_true rfl) ?_
    change ax_R G 6 0 0 (49, [(3, .inl (.int ((s3.1 0 26 ((s3.1 0 25 3)).toNatClampNeg)))), (2, .inl (.int (r2))), (1, .inl (.int ((s.1 0 27 ((s.1 0 25 3)).toNatClampNeg)))), (0, .inr (0, 25))], [.inl (.int (r6))], ax_m (s7) ρ)
    refine ax_bk hK (ax_fc (ax_v_so (ax_r_istore d_R_step_49)) (ax_fc (ax_v_pu (ax_r_iconst (v := -1) d_R_step_51 (by decide))) (ax_fc (ax_v_so (ax_r_istore d_R_step_52)) (ax_fc (ax_v_ld (ax_r_iload_n (i := 3) d_R_step_54 rfl)) (ax_fc (ax_v_pu (ax_r_bipush (v := 94) d_R_step_55 (by decide))) ax_fn))))) (y := (57, [(5, .inl (.int ((-1 : Int32)))), (4, .inl (.int (r6))), (3, .inl (.int ((s3.1 0 26 ((s3.1 0 25 3)).toNatClampNeg)))), (2, .inl (.int (r2))), (1, .inl (.int ((s.1 0 27 ((s.1 0 25 3)).toNatClampNeg)))), (0, .inr (0, 25))], [.inl (.int ((94 : Int32))), .inl (.int ((s3.1 0 26 ((s3.1 0 25 3)).toNatClampNeg)))], ax_m (s7) ρ)) rfl ⟨trivial, trivial, trivial, trivial, trivial, trivial⟩ ?_
    obtain ⟨w71, hw71, h⟩ := ax_bd h
    have KEw71 : ∀ (v52 : Int32) (s53 : ax_σ), w71 = (v52, s53) → ax_R G 6 0 0 (246, [(0, .inr (0, 25)), (1, .inl (.int ((s.1 0 27 ((s.1 0 25 3)).toNatClampNeg)))), (4, .inl (.int (r6))), (5, .inl (.int (v52)))], [], ax_m (s53) ρ) := by
      intro v52 s53 e9
      subst w71
      try dsimp only at h
      refine ax_bk hK (ax_fc (ax_v_ld (ax_r_iload d_R_step_246)) (ax_fc (ax_v_pu (ax_r_iconst (v := -1) d_R_step_248 (by decide))) ax_fn)) (y := (249, [(0, .inr (0, 25)), (1, .inl (.int ((s.1 0 27 ((s.1 0 25 3)).toNatClampNeg)))), (4, .inl (.int (r6))), (5, .inl (.int (v52)))], [.inl (.int ((-1 : Int32))), .inl (.int (v52))], ax_m (s53) ρ)) rfl ⟨trivial, trivial, trivial⟩ ?_
      refine ax_ic_eq (tgt := 261) hK d_R_step_249 (by decide) (fun c69 => ?_) (fun c69 => ?_)
      · replace h := ax_it c69 h
        refine ax_bk hK (ax_fc (ax_v_pu (ax_r_iconst (v := 0) d_R_step_261 (by decide))) ax_fn) (y := (262, [(0, .inr (0, 25)), (1, .inl (.int ((s.1 0 27 ((s.1 0 25 3)).toNatClampNeg)))), (4, .inl (.int (r6))), (5, .inl (.int (v52)))], [.inl (.int ((0 : Int32)))], ax_m (s53) ρ)) rfl ⟨trivial, trivial⟩ ?_
        cases h
        exact ax_zret hA (by decide) d_R_step_262
      · replace h := ax_if c69 h
        refine ax_bk hK (ax_fc (ax_v_ld (ax_r_aload_n (i := 0) d_R_step_252 rfl)) (ax_fc (ax_v_pu (ax_r_bipush (v := 59) d_R_step_253 (by decide))) ax_fn)) (y := (255, [(0, .inr (0, 25)), (1, .inl (.int ((s.1 0 27 ((s.1 0 25 3)).toNatClampNeg)))), (4, .inl (.int (r6))), (5, .inl (.int (v52)))], [.inl (.int ((59 : Int32))), .inr (0, 25)], ax_m (s53) ρ)) rfl ⟨trivial, trivial, trivial⟩ ?_
        obtain ⟨⟨r54, s55⟩, q56, h⟩ := ax_bd h
        dsimp only at h
        refine ax_bV (rest := []) hB (t_R_take h0 hg hr q56) cw_R_115 im_R_take se_R_take d_R_step_255 (h0 25 rfl) rfl rfl (by decide) (by decide) rfl rfl (Nat.le_of_ble_eq_true rfl) ?_
        change ax_R G 6 0 0 (258, [(0, .inr (0, 25)), (1, .inl (.int ((s.1 0 27 ((s.1 0 25 3)).toNatClampNeg)))), (4, .inl (.int (r6))), (5, .inl (.int (v52)))], [.inl (.int (r54))], ax_m (s55) ρ)
        refine ax_if_ne (tgt := 263) hK d_R_step_258 (by decide) (fun c68 => ?_) (fun c68 => ?_)
        · replace h := ax_if c68 h
          obtain ⟨b57, h⟩ := ax_gd h
          refine ax_bk hK (ax_fc (ax_v_ld (ax_r_aload_n (i := 0) d_R_step_263 rfl)) (ax_fc (ax_w_gf (e := (some (g, 13))) hal d_R_step_264 fd_R_50) (ax_fc (ax_w_gf (e := none) hal d_R_step_267 fd_R_180) (ax_fc (ax_v_ld (ax_r_iload d_R_step_270)) (ax_fc (ax_v_ld (ax_r_iload d_R_step_272)) (ax_fc (ax_w_iast hal d_R_step_274) ax_fn)))))) (y := (275, [(0, .inr (0, 25)), (1, .inl (.int ((s.1 0 27 ((s.1 0 25 3)).toNatClampNeg)))), (4, .inl (.int (r6))), (5, .inl (.int (v52)))], [], ax_m (ax_wI s55 g 16 (r6).toNatClampNeg v52) ρ)) rfl ⟨trivial, ⟨(h0 25 rfl), hr.2.2⟩, (hg 13 rfl), trivial, trivial, ⟨(hg 16 rfl), ax_inp b57⟩, trivial⟩ ?_
          refine ax_lt (Q := fun ςς => ax_R G 6 0 0 (275, [(0, .inr (0, 25)), (1, .inl (.int ((s.1 0 27 ((s.1 0 25 3)).toNatClampNeg)))), (4, .inl (.int (r6))), (5, .inl (.int (v52)))], [], ax_m (ςς) ρ)) h (fun s58 h => ?_)
          obtain ⟨b59, h⟩ := ax_gd h
          refine ax_bk hK (ax_fc (ax_v_ld (ax_r_aload_n (i := 0) d_R_step_275 rfl)) (ax_fc (ax_w_gf (e := (some (g, 13))) hal d_R_step_276 fd_R_50) (ax_fc (ax_w_gf (e := none) hal d_R_step_279 fd_R_186) (ax_fc (ax_v_ld (ax_r_iload d_R_step_282)) (ax_fc (ax_v_ld (ax_r_aload_n (i := 0) d_R_step_284 rfl)) (ax_fc (ax_w_gf (e := (some (g, 4))) hal d_R_step_285 fd_R_45) (ax_fc (ax_w_gf (e := none) hal d_R_step_288 fd_R_169) (ax_fc (ax_w_iast hal d_R_step_291) ax_fn)))))))) (y := (292, [(0, .inr (0, 25)), (1, .inl (.int ((s.1 0 27 ((s.1 0 25 3)).toNatClampNeg)))), (4, .inl (.int (r6))), (5, .inl (.int (v52)))], [], ax_m (ax_wI s58 g 18 (r6).toNatClampNeg (s58.1 g 4 8)) ρ)) rfl ⟨trivial, ⟨(h0 25 rfl), hr.2.2⟩, (hg 13 rfl), trivial, trivial, ⟨(h0 25 rfl), hr.2.1⟩, (hg 4 rfl), ⟨(hg 18 rfl), ax_inp b59⟩, trivial⟩ ?_
          refine ax_lt (Q := fun ςς => ax_R G 6 0 0 (292, [(0, .inr (0, 25)), (1, .inl (.int ((s.1 0 27 ((s.1 0 25 3)).toNatClampNeg)))), (4, .inl (.int (r6))), (5, .inl (.int (v52)))], [], ax_m (ςς) ρ)) h (fun s60 h => ?_)
          refine ax_bk hK (ax_fc (ax_v_ld (ax_r_aload_n (i := 0) d_R_step_292 rfl)) (ax_fc (ax_v_ld (ax_r_iload d_R_step_293)) ax_fn)) (y := (295, [(0, .inr (0, 25)), (1, .inl (.int ((s.1 0 27 ((s.1 0 25 3)).toNatClampNeg)))), (4, .inl (.int (r6))), (5, .inl (.int (v52)))], [.inl (.int (r6)), .inr (0, 25)], ax_m (s60) ρ)) rfl ⟨trivial, trivial, trivial⟩ ?_
          obtain ⟨s61, q62, h⟩ := ax_bd h
          refine ax_bV (rest := []) hB (t_R_countStep h0 hg hr q62) cw_R_208 im_R_countStep se_R_countStep d_R_step_295 (h0 25 rfl) rfl rfl (by decide) (by decide) rfl rfl (Nat.le_of_ble_eq_true rfl) ?_
          change ax_R G 6 0 0 (298, [(0, .inr (0, 25)), (1, .inl (.int ((s.1 0 27 ((s.1 0 25 3)).toNatClampNeg)))), (4, .inl (.int (r6))), (5, .inl (.int (v52)))], [], ax_m (s61) ρ)
          refine ax_bk hK (ax_fc (ax_v_ld (ax_r_aload_n (i := 0) d_R_step_298 rfl)) (ax_fc (ax_v_ld (ax_r_iload d_R_step_299)) ax_fn)) (y := (301, [(0, .inr (0, 25)), (1, .inl (.int ((s.1 0 27 ((s.1 0 25 3)).toNatClampNeg)))), (4, .inl (.int (r6))), (5, .inl (.int (v52)))], [.inl (.int (r6)), .inr (0, 25)], ax_m (s61) ρ)) rfl ⟨trivial, trivial, trivial⟩ ?_
          obtain ⟨r63, q64, h⟩ := ax_bd h
          refine ax_bV (rest := []) hB (t_R_canBeUndone h0 hg hr q64) cw_R_211 im_R_canBeUndone se_R_canBeUndone d_R_step_301 (h0 25 rfl) rfl rfl (by decide) (by decide) rfl rfl (Nat.le_of_ble_eq_true rfl) ?_
          change ax_R G 6 0 0 (304, [(0, .inr (0, 25)), (1, .inl (.int ((s.1 0 27 ((s.1 0 25 3)).toNatClampNeg)))), (4, .inl (.int (r6))), (5, .inl (.int (v52)))], [.inl (.int (r63))], ax_m (s61) ρ)
          refine ax_if_ne (tgt := 313) hK d_R_step_304 (by decide) (fun c67 => ?_) (fun c67 => ?_)
          · replace h := ax_if c67 h
            refine ax_bk hK (ax_fc (ax_v_pu (ax_r_iconst (v := 1) d_R_step_313 (by decide))) ax_fn) (y := (314, [(0, .inr (0, 25)), (1, .inl (.int ((s.1 0 27 ((s.1 0 25 3)).toNatClampNeg)))), (4, .inl (.int (r6))), (5, .inl (.int (v52)))], [.inl (.int ((1 : Int32)))], ax_m (s61) ρ)) rfl ⟨trivial, trivial⟩ ?_
            cases h
            exact ax_zret hA (by decide) d_R_step_314
          · replace h := ax_it c67 h
            refine ax_bk hK (ax_fc (ax_v_ld (ax_r_aload_n (i := 0) d_R_step_307 rfl)) (ax_fc (ax_v_ld (ax_r_iload_n (i := 1) d_R_step_308 rfl)) (ax_fc (ax_v_pu (ax_r_iconst (v := 5) d_R_step_309 (by decide))) ax_fn))) (y := (310, [(0, .inr (0, 25)), (1, .inl (.int ((s.1 0 27 ((s.1 0 25 3)).toNatClampNeg)))), (4, .inl (.int (r6))), (5, .inl (.int (v52)))], [.inl (.int ((5 : Int32))), .inl (.int ((s.1 0 27 ((s.1 0 25 3)).toNatClampNeg))), .inr (0, 25)], ax_m (s61) ρ)) rfl ⟨trivial, trivial, trivial, trivial⟩ ?_
            obtain ⟨s65, q66, h⟩ := ax_bd h
            refine ax_bV (rest := []) hB (t_R_note h0 hg hr q66) cw_R_100 im_R_note se_R_note d_R_step_310 (h0 25 rfl) rfl rfl (by decide) (by decide) rfl rfl (Nat.le_of_ble_eq_true rfl) ?_
            change ax_R G 6 0 0 (313, [(0, .inr (0, 25)), (1, .inl (.int ((s.1 0 27 ((s.1 0 25 3)).toNatClampNeg)))), (4, .inl (.int (r6))), (5, .inl (.int (v52)))], [], ax_m (s65) ρ)
            refine ax_bk hK (ax_fc (ax_v_pu (ax_r_iconst (v := 1) d_R_step_313 (by decide))) ax_fn) (y := (314, [(0, .inr (0, 25)), (1, .inl (.int ((s.1 0 27 ((s.1 0 25 3)).toNatClampNeg)))), (4, .inl (.int (r6))), (5, .inl (.int (v52)))], [.inl (.int ((1 : Int32)))], ax_m (s65) ρ)) rfl ⟨trivial, trivial⟩ ?_
            cases h
            exact ax_zret hA (by decide) d_R_step_314
        · replace h := ax_it c68 h
          refine ax_bk hK (ax_fc (ax_v_pu (ax_r_iconst (v := 0) d_R_step_261 (by decide))) ax_fn) (y := (262, [(0, .inr (0, 25)), (1, .inl (.int ((s.1 0 27 ((s.1 0 25 3)).toNatClampNeg)))), (4, .inl (.int (r6))), (5, .inl (.int (v52)))], [.inl (.int ((0 : Int32)))], ax_m (s55) ρ)) rfl ⟨trivial, trivial⟩ ?_
          cases h
          exact ax_zret hA (by decide) d_R_step_262
    clear h
    have h := hw71
    obtain ⟨w51, hw51, h⟩ := ax_bd h
    have KTw51 : w51 = true → ax_R G 6 0 0 (72, [(0, .inr (0, 25)), (1, .inl (.int ((s.1 0 27 ((s.1 0 25 3)).toNatClampNeg)))), (4, .inl (.int (r6)))], [], ax_m (s7) ρ) := by
      intro e9
      subst w51
      replace h := ax_ct h
      refine ax_bk hK (ax_fc (ax_v_ld (ax_r_aload_n (i := 0) d_R_step_72 rfl)) (ax_fc (ax_v_pu (ax_r_dup d_R_step_73)) (ax_fc (ax_w_gf (e := none) hal d_R_step_74 fd_R_72) (ax_fc (ax_v_pu (ax_r_iconst (v := 1) d_R_step_77 (by decide))) (ax_fc (ax_v_pu (ax_r_iadd d_R_step_78)) (ax_fc (ax_w_pf (tc := 0) hal d_R_step_79 fp_R_72 rfl) ax_fn)))))) (y := (82, [(0, .inr (0, 25)), (1, .inl (.int ((s.1 0 27 ((s.1 0 25 3)).toNatClampNeg)))), (4, .inl (.int (r6)))], [], ax_m (ax_wI s7 0 25 3 ((s7.1 0 25 3) + (1 : Int32))) ρ)) rfl ⟨trivial, trivial, (h0 25 rfl), trivial, trivial, (h0 25 rfl), trivial⟩ ?_
      refine ax_lt (Q := fun ςς => ax_R G 6 0 0 (82, [(0, .inr (0, 25)), (1, .inl (.int ((s.1 0 27 ((s.1 0 25 3)).toNatClampNeg)))), (4, .inl (.int (r6)))], [], ax_m (ςς) ρ)) h (fun s12 h => ?_)
      refine ax_bk hK (ax_fc (ax_v_ld (ax_r_aload_n (i := 0) d_R_step_82 rfl)) (ax_fc (ax_v_pu (ax_r_bipush (v := 61) d_R_step_83 (by decide))) ax_fn)) (y := (85, [(0, .inr (0, 25)), (1, .inl (.int ((s.1 0 27 ((s.1 0 25 3)).toNatClampNeg)))), (4, .inl (.int (r6)))], [.inl (.int ((61 : Int32))), .inr (0, 25)], ax_m (s12) ρ)) rfl ⟨trivial, trivial, trivial⟩ ?_
      obtain ⟨⟨r13, s14⟩, q15, h⟩ := ax_bd h
      dsimp only at h
      refine ax_bV (rest := []) hB (t_R_take h0 hg hr q15) cw_R_115 im_R_take se_R_take d_R_step_85 (h0 25 rfl) rfl rfl (by decide) (by decide) rfl rfl (Nat.le_of_ble_eq_true rfl) ?_
      change ax_R G 6 0 0 (88, [(0, .inr (0, 25)), (1, .inl (.int ((s.1 0 27 ((s.1 0 25 3)).toNatClampNeg)))), (4, .inl (.int (r6)))], [.inl (.int (r13))], ax_m (s14) ρ)
      refine ax_if_eq (tgt := 99) hK d_R_step_88 (by decide) (fun c19 => ?_) (fun c19 => ?_)
      · replace h := ax_it c19 h
        refine ax_bk hK (ax_fc (ax_v_pu (ax_r_iconst (v := -1) d_R_step_99 (by decide))) (ax_fc (ax_v_so (ax_r_istore d_R_step_100)) (ax_fc (ax_v_go (tgt := 246) d_R_step_102 (by decide)) ax_fn))) (y := (246, [(5, .inl (.int ((-1 : Int32)))), (0, .inr (0, 25)), (1, .inl (.int ((s.1 0 27 ((s.1 0 25 3)).toNatClampNeg)))), (4, .inl (.int (r6)))], [], ax_m (s14) ρ)) rfl ⟨trivial, trivial, trivial, trivial⟩ ?_
        cases h
        exact ax_Lsub [1, 2, 3, 0] rfl (KEw71 _ _ rfl)
      · replace h := ax_if c19 h
        refine ax_bk hK (ax_fc (ax_v_ld (ax_r_aload_n (i := 0) d_R_step_91 rfl)) (ax_fc (ax_v_pu (ax_r_iconst (v := 0) d_R_step_92 (by decide))) ax_fn)) (y := (93, [(0, .inr (0, 25)), (1, .inl (.int ((s.1 0 27 ((s.1 0 25 3)).toNatClampNeg)))), (4, .inl (.int (r6)))], [.inl (.int ((0 : Int32))), .inr (0, 25)], ax_m (s14) ρ)) rfl ⟨trivial, trivial, trivial⟩ ?_
        obtain ⟨⟨r16, s17⟩, q18, h⟩ := ax_bd h
        dsimp only at h
        refine ax_bV (rest := []) hB (t_R_expression14 h0 hg hr q18) cw_R_183 im_R_expression se_R_expression d_R_step_93 (h0 25 rfl) rfl rfl (by decide) (by decide) rfl rfl (Nat.le_of_ble_eq_true rfl) ?_
        change ax_R G 6 0 0 (96, [(0, .inr (0, 25)), (1, .inl (.int ((s.1 0 27 ((s.1 0 25 3)).toNatClampNeg)))), (4, .inl (.int (r6)))], [.inl (.int (r16))], ax_m (s17) ρ)
        refine ax_bk hK (ax_fc (ax_v_go (tgt := 100) d_R_step_96 (by decide)) ax_fn) (y := (100, [(0, .inr (0, 25)), (1, .inl (.int ((s.1 0 27 ((s.1 0 25 3)).toNatClampNeg)))), (4, .inl (.int (r6)))], [.inl (.int (r16))], ax_m (s17) ρ)) rfl ⟨trivial, trivial⟩ ?_
        refine ax_bk hK (ax_fc (ax_v_so (ax_r_istore d_R_step_100)) (ax_fc (ax_v_go (tgt := 246) d_R_step_102 (by decide)) ax_fn)) (y := (246, [(5, .inl (.int (r16))), (0, .inr (0, 25)), (1, .inl (.int ((s.1 0 27 ((s.1 0 25 3)).toNatClampNeg)))), (4, .inl (.int (r6)))], [], ax_m (s17) ρ)) rfl ⟨trivial, trivial, trivial⟩ ?_
        cases h
        exact ax_Lsub [1, 2, 3, 0] rfl (KEw71 _ _ rfl)
    have KFw51 : w51 = false → ax_R G 6 0 0 (105, [(0, .inr (0, 25)), (1, .inl (.int ((s.1 0 27 ((s.1 0 25 3)).toNatClampNeg)))), (3, .inl (.int ((s3.1 0 26 ((s3.1 0 25 3)).toNatClampNeg)))), (4, .inl (.int (r6))), (5, .inl (.int ((-1 : Int32))))], [], ax_m (s7) ρ) := by
      intro e9
      subst w51
      replace h := ax_cf h
      refine ax_bk hK (ax_fc (ax_v_ld (ax_r_iload_n (i := 3) d_R_step_105 rfl)) (ax_fc (ax_v_pu (ax_r_bipush (v := 42) d_R_step_106 (by decide))) ax_fn)) (y := (108, [(0, .inr (0, 25)), (1, .inl (.int ((s.1 0 27 ((s.1 0 25 3)).toNatClampNeg)))), (3, .inl (.int ((s3.1 0 26 ((s3.1 0 25 3)).toNatClampNeg)))), (4, .inl (.int (r6))), (5, .inl (.int ((-1 : Int32))))], [.inl (.int ((42 : Int32))), .inl (.int ((s3.1 0 26 ((s3.1 0 25 3)).toNatClampNeg)))], ax_m (s7) ρ)) rfl ⟨trivial, trivial, trivial⟩ ?_
      refine ax_ic_ne (tgt := 147) hK d_R_step_108 (by decide) (fun c50 => ?_) (fun c50 => ?_)
      · replace h := ax_if c50 h
        refine ax_bk hK (ax_fc (ax_v_ld (ax_r_iload_n (i := 3) d_R_step_147 rfl)) (ax_fc (ax_v_pu (ax_r_bipush (v := 60) d_R_step_148 (by decide))) ax_fn)) (y := (150, [(0, .inr (0, 25)), (1, .inl (.int ((s.1 0 27 ((s.1 0 25 3)).toNatClampNeg)))), (3, .inl (.int ((s3.1 0 26 ((s3.1 0 25 3)).toNatClampNeg)))), (4, .inl (.int (r6))), (5, .inl (.int ((-1 : Int32))))], [.inl (.int ((60 : Int32))), .inl (.int ((s3.1 0 26 ((s3.1 0 25 3)).toNatClampNeg)))], ax_m (s7) ρ)) rfl ⟨trivial, trivial, trivial⟩ ?_
        refine ax_ic_ne (tgt := 174) hK d_R_step_150 (by decide) (fun c39 => ?_) (fun c39 => ?_)
        · replace h := ax_if c39 h
          refine ax_bk hK (ax_fc (ax_v_ld (ax_r_iload_n (i := 3) d_R_step_174 rfl)) (ax_fc (ax_v_pu (ax_r_bipush (v := 58) d_R_step_175 (by decide))) ax_fn)) (y := (177, [(0, .inr (0, 25)), (1, .inl (.int ((s.1 0 27 ((s.1 0 25 3)).toNatClampNeg)))), (3, .inl (.int ((s3.1 0 26 ((s3.1 0 25 3)).toNatClampNeg)))), (4, .inl (.int (r6))), (5, .inl (.int ((-1 : Int32))))], [.inl (.int ((58 : Int32))), .inl (.int ((s3.1 0 26 ((s3.1 0 25 3)).toNatClampNeg)))], ax_m (s7) ρ)) rfl ⟨trivial, trivial, trivial⟩ ?_
          refine ax_ic_ne (tgt := 199) hK d_R_step_177 (by decide) (fun c34 => ?_) (fun c34 => ?_)
          · replace h := ax_if c34 h
            refine ax_bk hK (ax_fc (ax_v_ld (ax_r_iload_n (i := 3) d_R_step_199 rfl)) (ax_fc (ax_v_pu (ax_r_bipush (v := 35) d_R_step_200 (by decide))) ax_fn)) (y := (202, [(0, .inr (0, 25)), (1, .inl (.int ((s.1 0 27 ((s.1 0 25 3)).toNatClampNeg)))), (3, .inl (.int ((s3.1 0 26 ((s3.1 0 25 3)).toNatClampNeg)))), (4, .inl (.int (r6))), (5, .inl (.int ((-1 : Int32))))], [.inl (.int ((35 : Int32))), .inl (.int ((s3.1 0 26 ((s3.1 0 25 3)).toNatClampNeg)))], ax_m (s7) ρ)) rfl ⟨trivial, trivial, trivial⟩ ?_
            refine ax_ic_ne (tgt := 224) hK d_R_step_202 (by decide) (fun c29 => ?_) (fun c29 => ?_)
            · replace h := ax_if c29 h
              refine ax_bk hK (ax_fc (ax_v_ld (ax_r_iload_n (i := 3) d_R_step_224 rfl)) (ax_fc (ax_v_pu (ax_r_bipush (v := 64) d_R_step_225 (by decide))) ax_fn)) (y := (227, [(0, .inr (0, 25)), (1, .inl (.int ((s.1 0 27 ((s.1 0 25 3)).toNatClampNeg)))), (3, .inl (.int ((s3.1 0 26 ((s3.1 0 25 3)).toNatClampNeg)))), (4, .inl (.int (r6))), (5, .inl (.int ((-1 : Int32))))], [.inl (.int ((64 : Int32))), .inl (.int ((s3.1 0 26 ((s3.1 0 25 3)).toNatClampNeg)))], ax_m (s7) ρ)) rfl ⟨trivial, trivial, trivial⟩ ?_
              refine ax_ic_ne (tgt := 246) hK d_R_step_227 (by decide) (fun c24 => ?_) (fun c24 => ?_)
              · replace h := ax_if c24 h
                cases h
                exact ax_Lsub [0, 1, 3, 4] rfl (KEw71 _ _ rfl)
              · replace h := ax_it c24 h
                refine ax_bk hK (ax_fc (ax_v_ld (ax_r_aload_n (i := 0) d_R_step_230 rfl)) (ax_fc (ax_v_pu (ax_r_dup d_R_step_231)) (ax_fc (ax_w_gf (e := none) hal d_R_step_232 fd_R_72) (ax_fc (ax_v_pu (ax_r_iconst (v := 1) d_R_step_235 (by decide))) (ax_fc (ax_v_pu (ax_r_iadd d_R_step_236)) (ax_fc (ax_w_pf (tc := 0) hal d_R_step_237 fp_R_72 rfl) ax_fn)))))) (y := (240, [(0, .inr (0, 25)), (1, .inl (.int ((s.1 0 27 ((s.1 0 25 3)).toNatClampNeg)))), (3, .inl (.int ((s3.1 0 26 ((s3.1 0 25 3)).toNatClampNeg)))), (4, .inl (.int (r6))), (5, .inl (.int ((-1 : Int32))))], [], ax_m (ax_wI s7 0 25 3 ((s7.1 0 25 3) + (1 : Int32))) ρ)) rfl ⟨trivial, trivial, (h0 25 rfl), trivial, trivial, (h0 25 rfl), trivial⟩ ?_
                refine ax_lt (Q := fun ςς => ax_R G 6 0 0 (240, [(0, .inr (0, 25)), (1, .inl (.int ((s.1 0 27 ((s.1 0 25 3)).toNatClampNeg)))), (3, .inl (.int ((s3.1 0 26 ((s3.1 0 25 3)).toNatClampNeg)))), (4, .inl (.int (r6))), (5, .inl (.int ((-1 : Int32))))], [], ax_m (ςς) ρ)) h (fun s20 h => ?_)
                refine ax_bk hK (ax_fc (ax_v_ld (ax_r_aload_n (i := 0) d_R_step_240 rfl)) ax_fn) (y := (241, [(0, .inr (0, 25)), (1, .inl (.int ((s.1 0 27 ((s.1 0 25 3)).toNatClampNeg)))), (3, .inl (.int ((s3.1 0 26 ((s3.1 0 25 3)).toNatClampNeg)))), (4, .inl (.int (r6))), (5, .inl (.int ((-1 : Int32))))], [.inr (0, 25)], ax_m (s20) ρ)) rfl ⟨trivial, trivial⟩ ?_
                obtain ⟨⟨r21, s22⟩, q23, h⟩ := ax_bd h
                dsimp only at h
                refine ax_bV (rest := []) hB (t_R_rotations h0 hg hr q23) cw_R_205 im_R_rotations se_R_rotations d_R_step_241 (h0 25 rfl) rfl rfl (by decide) (by decide) rfl rfl (Nat.le_of_ble_eq_true rfl) ?_
                change ax_R G 6 0 0 (244, [(0, .inr (0, 25)), (1, .inl (.int ((s.1 0 27 ((s.1 0 25 3)).toNatClampNeg)))), (3, .inl (.int ((s3.1 0 26 ((s3.1 0 25 3)).toNatClampNeg)))), (4, .inl (.int (r6))), (5, .inl (.int ((-1 : Int32))))], [.inl (.int (r21))], ax_m (s22) ρ)
                refine ax_bk hK (ax_fc (ax_v_so (ax_r_istore d_R_step_244)) ax_fn) (y := (246, [(5, .inl (.int (r21))), (0, .inr (0, 25)), (1, .inl (.int ((s.1 0 27 ((s.1 0 25 3)).toNatClampNeg)))), (3, .inl (.int ((s3.1 0 26 ((s3.1 0 25 3)).toNatClampNeg)))), (4, .inl (.int (r6)))], [], ax_m (s22) ρ)) rfl ⟨trivial, trivial⟩ ?_
                cases h
                exact ax_Lsub [1, 2, 4, 0] rfl (KEw71 _ _ rfl)
            · replace h := ax_it c29 h
              refine ax_bk hK (ax_fc (ax_v_ld (ax_r_aload_n (i := 0) d_R_step_205 rfl)) (ax_fc (ax_v_pu (ax_r_dup d_R_step_206)) (ax_fc (ax_w_gf (e := none) hal d_R_step_207 fd_R_72) (ax_fc (ax_v_pu (ax_r_iconst (v := 1) d_R_step_210 (by decide))) (ax_fc (ax_v_pu (ax_r_iadd d_R_step_211)) (ax_fc (ax_w_pf (tc := 0) hal d_R_step_212 fp_R_72 rfl) ax_fn)))))) (y := (215, [(0, .inr (0, 25)), (1, .inl (.int ((s.1 0 27 ((s.1 0 25 3)).toNatClampNeg)))), (3, .inl (.int ((s3.1 0 26 ((s3.1 0 25 3)).toNatClampNeg)))), (4, .inl (.int (r6))), (5, .inl (.int ((-1 : Int32))))], [], ax_m (ax_wI s7 0 25 3 ((s7.1 0 25 3) + (1 : Int32))) ρ)) rfl ⟨trivial, trivial, (h0 25 rfl), trivial, trivial, (h0 25 rfl), trivial⟩ ?_
              refine ax_lt (Q := fun ςς => ax_R G 6 0 0 (215, [(0, .inr (0, 25)), (1, .inl (.int ((s.1 0 27 ((s.1 0 25 3)).toNatClampNeg)))), (3, .inl (.int ((s3.1 0 26 ((s3.1 0 25 3)).toNatClampNeg)))), (4, .inl (.int (r6))), (5, .inl (.int ((-1 : Int32))))], [], ax_m (ςς) ρ)) h (fun s25 h => ?_)
              refine ax_bk hK (ax_fc (ax_v_ld (ax_r_aload_n (i := 0) d_R_step_215 rfl)) ax_fn) (y := (216, [(0, .inr (0, 25)), (1, .inl (.int ((s.1 0 27 ((s.1 0 25 3)).toNatClampNeg)))), (3, .inl (.int ((s3.1 0 26 ((s3.1 0 25 3)).toNatClampNeg)))), (4, .inl (.int (r6))), (5, .inl (.int ((-1 : Int32))))], [.inr (0, 25)], ax_m (s25) ρ)) rfl ⟨trivial, trivial⟩ ?_
              obtain ⟨⟨r26, s27⟩, q28, h⟩ := ax_bd h
              dsimp only at h
              refine ax_bV (rest := []) hB (t_R_tableNumber h0 hg hr q28) cw_R_202 im_R_tableNumber se_R_tableNumber d_R_step_216 (h0 25 rfl) rfl rfl (by decide) (by decide) rfl rfl (Nat.le_of_ble_eq_true rfl) ?_
              change ax_R G 6 0 0 (219, [(0, .inr (0, 25)), (1, .inl (.int ((s.1 0 27 ((s.1 0 25 3)).toNatClampNeg)))), (3, .inl (.int ((s3.1 0 26 ((s3.1 0 25 3)).toNatClampNeg)))), (4, .inl (.int (r6))), (5, .inl (.int ((-1 : Int32))))], [.inl (.int (r26))], ax_m (s27) ρ)
              refine ax_bk hK (ax_fc (ax_v_so (ax_r_istore d_R_step_219)) (ax_fc (ax_v_go (tgt := 246) d_R_step_221 (by decide)) ax_fn)) (y := (246, [(5, .inl (.int (r26))), (0, .inr (0, 25)), (1, .inl (.int ((s.1 0 27 ((s.1 0 25 3)).toNatClampNeg)))), (3, .inl (.int ((s3.1 0 26 ((s3.1 0 25 3)).toNatClampNeg)))), (4, .inl (.int (r6)))], [], ax_m (s27) ρ)) rfl ⟨trivial, trivial, trivial⟩ ?_
              cases h
              exact ax_Lsub [1, 2, 4, 0] rfl (KEw71 _ _ rfl)
          · replace h := ax_it c34 h
            refine ax_bk hK (ax_fc (ax_v_ld (ax_r_aload_n (i := 0) d_R_step_180 rfl)) (ax_fc (ax_v_pu (ax_r_dup d_R_step_181)) (ax_fc (ax_w_gf (e := none) hal d_R_step_182 fd_R_72) (ax_fc (ax_v_pu (ax_r_iconst (v := 1) d_R_step_185 (by decide))) (ax_fc (ax_v_pu (ax_r_iadd d_R_step_186)) (ax_fc (ax_w_pf (tc := 0) hal d_R_step_187 fp_R_72 rfl) ax_fn)))))) (y := (190, [(0, .inr (0, 25)), (1, .inl (.int ((s.1 0 27 ((s.1 0 25 3)).toNatClampNeg)))), (3, .inl (.int ((s3.1 0 26 ((s3.1 0 25 3)).toNatClampNeg)))), (4, .inl (.int (r6))), (5, .inl (.int ((-1 : Int32))))], [], ax_m (ax_wI s7 0 25 3 ((s7.1 0 25 3) + (1 : Int32))) ρ)) rfl ⟨trivial, trivial, (h0 25 rfl), trivial, trivial, (h0 25 rfl), trivial⟩ ?_
            refine ax_lt (Q := fun ςς => ax_R G 6 0 0 (190, [(0, .inr (0, 25)), (1, .inl (.int ((s.1 0 27 ((s.1 0 25 3)).toNatClampNeg)))), (3, .inl (.int ((s3.1 0 26 ((s3.1 0 25 3)).toNatClampNeg)))), (4, .inl (.int (r6))), (5, .inl (.int ((-1 : Int32))))], [], ax_m (ςς) ρ)) h (fun s30 h => ?_)
            refine ax_bk hK (ax_fc (ax_v_ld (ax_r_aload_n (i := 0) d_R_step_190 rfl)) ax_fn) (y := (191, [(0, .inr (0, 25)), (1, .inl (.int ((s.1 0 27 ((s.1 0 25 3)).toNatClampNeg)))), (3, .inl (.int ((s3.1 0 26 ((s3.1 0 25 3)).toNatClampNeg)))), (4, .inl (.int (r6))), (5, .inl (.int ((-1 : Int32))))], [.inr (0, 25)], ax_m (s30) ρ)) rfl ⟨trivial, trivial⟩ ?_
            obtain ⟨⟨r31, s32⟩, q33, h⟩ := ax_bd h
            dsimp only at h
            refine ax_bV (rest := []) hB (t_R_takeState h0 hg hr q33) cw_R_192 im_R_takeState se_R_takeState d_R_step_191 (h0 25 rfl) rfl rfl (by decide) (by decide) rfl rfl (Nat.le_of_ble_eq_true rfl) ?_
            change ax_R G 6 0 0 (194, [(0, .inr (0, 25)), (1, .inl (.int ((s.1 0 27 ((s.1 0 25 3)).toNatClampNeg)))), (3, .inl (.int ((s3.1 0 26 ((s3.1 0 25 3)).toNatClampNeg)))), (4, .inl (.int (r6))), (5, .inl (.int ((-1 : Int32))))], [.inl (.int (r31))], ax_m (s32) ρ)
            refine ax_bk hK (ax_fc (ax_v_so (ax_r_istore d_R_step_194)) (ax_fc (ax_v_go (tgt := 246) d_R_step_196 (by decide)) ax_fn)) (y := (246, [(5, .inl (.int (r31))), (0, .inr (0, 25)), (1, .inl (.int ((s.1 0 27 ((s.1 0 25 3)).toNatClampNeg)))), (3, .inl (.int ((s3.1 0 26 ((s3.1 0 25 3)).toNatClampNeg)))), (4, .inl (.int (r6)))], [], ax_m (s32) ρ)) rfl ⟨trivial, trivial, trivial⟩ ?_
            cases h
            exact ax_Lsub [1, 2, 4, 0] rfl (KEw71 _ _ rfl)
        · replace h := ax_it c39 h
          refine ax_bk hK (ax_fc (ax_v_ld (ax_r_aload_n (i := 0) d_R_step_153 rfl)) (ax_fc (ax_v_pu (ax_r_dup d_R_step_154)) (ax_fc (ax_w_gf (e := none) hal d_R_step_155 fd_R_72) (ax_fc (ax_v_pu (ax_r_iconst (v := 1) d_R_step_158 (by decide))) (ax_fc (ax_v_pu (ax_r_iadd d_R_step_159)) (ax_fc (ax_w_pf (tc := 0) hal d_R_step_160 fp_R_72 rfl) ax_fn)))))) (y := (163, [(0, .inr (0, 25)), (1, .inl (.int ((s.1 0 27 ((s.1 0 25 3)).toNatClampNeg)))), (3, .inl (.int ((s3.1 0 26 ((s3.1 0 25 3)).toNatClampNeg)))), (4, .inl (.int (r6))), (5, .inl (.int ((-1 : Int32))))], [], ax_m (ax_wI s7 0 25 3 ((s7.1 0 25 3) + (1 : Int32))) ρ)) rfl ⟨trivial, trivial, (h0 25 rfl), trivial, trivial, (h0 25 rfl), trivial⟩ ?_
          refine ax_lt (Q := fun ςς => ax_R G 6 0 0 (163, [(0, .inr (0, 25)), (1, .inl (.int ((s.1 0 27 ((s.1 0 25 3)).toNatClampNeg)))), (3, .inl (.int ((s3.1 0 26 ((s3.1 0 25 3)).toNatClampNeg)))), (4, .inl (.int (r6))), (5, .inl (.int ((-1 : Int32))))], [], ax_m (ςς) ρ)) h (fun s35 h => ?_)
          refine ax_bk hK (ax_fc (ax_v_ld (ax_r_aload_n (i := 0) d_R_step_163 rfl)) (ax_fc (ax_v_ld (ax_r_iload d_R_step_164)) ax_fn)) (y := (166, [(0, .inr (0, 25)), (1, .inl (.int ((s.1 0 27 ((s.1 0 25 3)).toNatClampNeg)))), (3, .inl (.int ((s3.1 0 26 ((s3.1 0 25 3)).toNatClampNeg)))), (4, .inl (.int (r6))), (5, .inl (.int ((-1 : Int32))))], [.inl (.int (r6)), .inr (0, 25)], ax_m (s35) ρ)) rfl ⟨trivial, trivial, trivial⟩ ?_
          obtain ⟨⟨r36, s37⟩, q38, h⟩ := ax_bd h
          dsimp only at h
          refine ax_bV (rest := []) hB (t_R_rotation h0 hg hr q38) cw_R_199 im_R_rotation se_R_rotation d_R_step_166 (h0 25 rfl) rfl rfl (by decide) (by decide) rfl rfl (Nat.le_of_ble_eq_true rfl) ?_
          change ax_R G 6 0 0 (169, [(0, .inr (0, 25)), (1, .inl (.int ((s.1 0 27 ((s.1 0 25 3)).toNatClampNeg)))), (3, .inl (.int ((s3.1 0 26 ((s3.1 0 25 3)).toNatClampNeg)))), (4, .inl (.int (r6))), (5, .inl (.int ((-1 : Int32))))], [.inl (.int (r36))], ax_m (s37) ρ)
          refine ax_bk hK (ax_fc (ax_v_so (ax_r_istore d_R_step_169)) (ax_fc (ax_v_go (tgt := 246) d_R_step_171 (by decide)) ax_fn)) (y := (246, [(5, .inl (.int (r36))), (0, .inr (0, 25)), (1, .inl (.int ((s.1 0 27 ((s.1 0 25 3)).toNatClampNeg)))), (3, .inl (.int ((s3.1 0 26 ((s3.1 0 25 3)).toNatClampNeg)))), (4, .inl (.int (r6)))], [], ax_m (s37) ρ)) rfl ⟨trivial, trivial, trivial⟩ ?_
          cases h
          exact ax_Lsub [1, 2, 4, 0] rfl (KEw71 _ _ rfl)
      · replace h := ax_it c50 h
        refine ax_bk hK (ax_fc (ax_v_ld (ax_r_aload_n (i := 0) d_R_step_111 rfl)) (ax_fc (ax_v_pu (ax_r_dup d_R_step_112)) (ax_fc (ax_w_gf (e := none) hal d_R_step_113 fd_R_72) (ax_fc (ax_v_pu (ax_r_iconst (v := 1) d_R_step_116 (by decide))) (ax_fc (ax_v_pu (ax_r_iadd d_R_step_117)) (ax_fc (ax_w_pf (tc := 0) hal d_R_step_118 fp_R_72 rfl) ax_fn)))))) (y := (121, [(0, .inr (0, 25)), (1, .inl (.int ((s.1 0 27 ((s.1 0 25 3)).toNatClampNeg)))), (3, .inl (.int ((s3.1 0 26 ((s3.1 0 25 3)).toNatClampNeg)))), (4, .inl (.int (r6))), (5, .inl (.int ((-1 : Int32))))], [], ax_m (ax_wI s7 0 25 3 ((s7.1 0 25 3) + (1 : Int32))) ρ)) rfl ⟨trivial, trivial, (h0 25 rfl), trivial, trivial, (h0 25 rfl), trivial⟩ ?_
        refine ax_lt (Q := fun ςς => ax_R G 6 0 0 (121, [(0, .inr (0, 25)), (1, .inl (.int ((s.1 0 27 ((s.1 0 25 3)).toNatClampNeg)))), (3, .inl (.int ((s3.1 0 26 ((s3.1 0 25 3)).toNatClampNeg)))), (4, .inl (.int (r6))), (5, .inl (.int ((-1 : Int32))))], [], ax_m (ςς) ρ)) h (fun s40 h => ?_)
        refine ax_bk hK (ax_fc (ax_v_ld (ax_r_aload_n (i := 0) d_R_step_121 rfl)) (ax_fc (ax_v_pu (ax_r_bipush (v := 61) d_R_step_122 (by decide))) ax_fn)) (y := (124, [(0, .inr (0, 25)), (1, .inl (.int ((s.1 0 27 ((s.1 0 25 3)).toNatClampNeg)))), (3, .inl (.int ((s3.1 0 26 ((s3.1 0 25 3)).toNatClampNeg)))), (4, .inl (.int (r6))), (5, .inl (.int ((-1 : Int32))))], [.inl (.int ((61 : Int32))), .inr (0, 25)], ax_m (s40) ρ)) rfl ⟨trivial, trivial, trivial⟩ ?_
        obtain ⟨⟨r41, s42⟩, q43, h⟩ := ax_bd h
        dsimp only at h
        refine ax_bV (rest := []) hB (t_R_take h0 hg hr q43) cw_R_115 im_R_take se_R_take d_R_step_124 (h0 25 rfl) rfl rfl (by decide) (by decide) rfl rfl (Nat.le_of_ble_eq_true rfl) ?_
        change ax_R G 6 0 0 (127, [(0, .inr (0, 25)), (1, .inl (.int ((s.1 0 27 ((s.1 0 25 3)).toNatClampNeg)))), (3, .inl (.int ((s3.1 0 26 ((s3.1 0 25 3)).toNatClampNeg)))), (4, .inl (.int (r6))), (5, .inl (.int ((-1 : Int32))))], [.inl (.int (r41))], ax_m (s42) ρ)
        refine ax_if_eq (tgt := 141) hK d_R_step_127 (by decide) (fun c49 => ?_) (fun c49 => ?_)
        · replace h := ax_it c49 h
          refine ax_bk hK (ax_fc (ax_v_pu (ax_r_iconst (v := -1) d_R_step_141 (by decide))) (ax_fc (ax_v_so (ax_r_istore d_R_step_142)) (ax_fc (ax_v_go (tgt := 246) d_R_step_144 (by decide)) ax_fn))) (y := (246, [(5, .inl (.int ((-1 : Int32)))), (0, .inr (0, 25)), (1, .inl (.int ((s.1 0 27 ((s.1 0 25 3)).toNatClampNeg)))), (3, .inl (.int ((s3.1 0 26 ((s3.1 0 25 3)).toNatClampNeg)))), (4, .inl (.int (r6)))], [], ax_m (s42) ρ)) rfl ⟨trivial, trivial, trivial, trivial⟩ ?_
          cases h
          exact ax_Lsub [1, 2, 4, 0] rfl (KEw71 _ _ rfl)
        · replace h := ax_if c49 h
          refine ax_bk hK (ax_fc (ax_v_ld (ax_r_aload_n (i := 0) d_R_step_130 rfl)) (ax_fc (ax_v_ld (ax_r_aload_n (i := 0) d_R_step_131 rfl)) ax_fn)) (y := (132, [(0, .inr (0, 25)), (1, .inl (.int ((s.1 0 27 ((s.1 0 25 3)).toNatClampNeg)))), (3, .inl (.int ((s3.1 0 26 ((s3.1 0 25 3)).toNatClampNeg)))), (4, .inl (.int (r6))), (5, .inl (.int ((-1 : Int32))))], [.inr (0, 25), .inr (0, 25)], ax_m (s42) ρ)) rfl ⟨trivial, trivial, trivial⟩ ?_
          obtain ⟨r44, q45, h⟩ := ax_bd h
          refine ax_bV (rest := [.inr (0, 25)]) hB (t_R_wordBound h0 hg hr q45) cw_R_196 im_R_wordBound se_R_wordBound d_R_step_132 (h0 25 rfl) rfl rfl (by decide) (by decide) rfl rfl (Nat.le_of_ble_eq_true rfl) ?_
          change ax_R G 6 0 0 (135, [(0, .inr (0, 25)), (1, .inl (.int ((s.1 0 27 ((s.1 0 25 3)).toNatClampNeg)))), (3, .inl (.int ((s3.1 0 26 ((s3.1 0 25 3)).toNatClampNeg)))), (4, .inl (.int (r6))), (5, .inl (.int ((-1 : Int32))))], [.inl (.int (r44)), .inr (0, 25)], ax_m (s42) ρ)
          obtain ⟨⟨r46, s47⟩, q48, h⟩ := ax_bd h
          dsimp only at h
          refine ax_bV (rest := []) hB (t_R_takeNumber h0 hg hr q48) cw_R_111 im_R_takeNumber se_R_takeNumber d_R_step_135 (h0 25 rfl) rfl rfl (by decide) (by decide) rfl rfl (Nat.le_of_ble_eq_true rfl) ?_
          change ax_R G 6 0 0 (138, [(0, .inr (0, 25)), (1, .inl (.int ((s.1 0 27 ((s.1 0 25 3)).toNatClampNeg)))), (3, .inl (.int ((s3.1 0 26 ((s3.1 0 25 3)).toNatClampNeg)))), (4, .inl (.int (r6))), (5, .inl (.int ((-1 : Int32))))], [.inl (.int (r46))], ax_m (s47) ρ)
          refine ax_bk hK (ax_fc (ax_v_go (tgt := 142) d_R_step_138 (by decide)) ax_fn) (y := (142, [(0, .inr (0, 25)), (1, .inl (.int ((s.1 0 27 ((s.1 0 25 3)).toNatClampNeg)))), (3, .inl (.int ((s3.1 0 26 ((s3.1 0 25 3)).toNatClampNeg)))), (4, .inl (.int (r6))), (5, .inl (.int ((-1 : Int32))))], [.inl (.int (r46))], ax_m (s47) ρ)) rfl ⟨trivial, trivial⟩ ?_
          refine ax_bk hK (ax_fc (ax_v_so (ax_r_istore d_R_step_142)) (ax_fc (ax_v_go (tgt := 246) d_R_step_144 (by decide)) ax_fn)) (y := (246, [(5, .inl (.int (r46))), (0, .inr (0, 25)), (1, .inl (.int ((s.1 0 27 ((s.1 0 25 3)).toNatClampNeg)))), (3, .inl (.int ((s3.1 0 26 ((s3.1 0 25 3)).toNatClampNeg)))), (4, .inl (.int (r6)))], [], ax_m (s47) ρ)) rfl ⟨trivial, trivial, trivial⟩ ?_
          cases h
          exact ax_Lsub [1, 2, 4, 0] rfl (KEw71 _ _ rfl)
    clear h
    have h := hw51
    refine ax_ic_eq (tgt := 72) hK d_R_step_57 (by decide) (fun c11 => ?_) (fun c11 => ?_)
    · replace h := ax_it c11 h
      cases h
      exact ax_Lsub [5, 4, 1] rfl (KTw51 rfl)
    · replace h := ax_if c11 h
      refine ax_bk hK (ax_fc (ax_v_ld (ax_r_iload_n (i := 3) d_R_step_60 rfl)) (ax_fc (ax_v_pu (ax_r_bipush (v := 43) d_R_step_61 (by decide))) ax_fn)) (y := (63, [(5, .inl (.int ((-1 : Int32)))), (4, .inl (.int (r6))), (3, .inl (.int ((s3.1 0 26 ((s3.1 0 25 3)).toNatClampNeg)))), (2, .inl (.int (r2))), (1, .inl (.int ((s.1 0 27 ((s.1 0 25 3)).toNatClampNeg)))), (0, .inr (0, 25))], [.inl (.int ((43 : Int32))), .inl (.int ((s3.1 0 26 ((s3.1 0 25 3)).toNatClampNeg)))], ax_m (s7) ρ)) rfl ⟨trivial, trivial, trivial⟩ ?_
      refine ax_ic_eq (tgt := 72) hK d_R_step_63 (by decide) (fun c10 => ?_) (fun c10 => ?_)
      · replace h := ax_it c10 h
        cases h
        exact ax_Lsub [5, 4, 1] rfl (KTw51 rfl)
      · replace h := ax_if c10 h
        refine ax_bk hK (ax_fc (ax_v_ld (ax_r_iload_n (i := 3) d_R_step_66 rfl)) (ax_fc (ax_v_pu (ax_r_bipush (v := 45) d_R_step_67 (by decide))) ax_fn)) (y := (69, [(5, .inl (.int ((-1 : Int32)))), (4, .inl (.int (r6))), (3, .inl (.int ((s3.1 0 26 ((s3.1 0 25 3)).toNatClampNeg)))), (2, .inl (.int (r2))), (1, .inl (.int ((s.1 0 27 ((s.1 0 25 3)).toNatClampNeg)))), (0, .inr (0, 25))], [.inl (.int ((45 : Int32))), .inl (.int ((s3.1 0 26 ((s3.1 0 25 3)).toNatClampNeg)))], ax_m (s7) ρ)) rfl ⟨trivial, trivial, trivial⟩ ?_
        refine ax_ic_ne (tgt := 105) hK d_R_step_69 (by decide) (fun c9 => ?_) (fun c9 => ?_)
        · replace h := ax_if c9 h
          cases h
          exact ax_Lsub [5, 4, 2, 1, 0] rfl (KFw51 rfl)
        · replace h := ax_it c9 h
          cases h
          exact ax_Lsub [5, 4, 1] rfl (KTw51 rfl)
  · replace h := ax_it c70 h
    refine ax_bk hK (ax_fc (ax_v_pu (ax_r_iconst (v := 0) d_R_step_20 (by decide))) ax_fn) (y := (21, [(2, .inl (.int (r2))), (1, .inl (.int ((s.1 0 27 ((s.1 0 25 3)).toNatClampNeg)))), (0, .inr (0, 25))], [.inl (.int ((0 : Int32)))], ax_m (s3) ρ)) rfl ⟨trivial, trivial⟩ ?_
    cases h
    exact ax_zret hA (by decide) d_R_step_21
def y_R_block : MethodName := ⟨"CipherNotation$Reader", "block", "(Z)Z"⟩
theorem d_R_block_0 : decode prog_6_method_16_code 0 = .ok (.aload_n 0, 1) := by decide +kernel
theorem d_R_block_1 : decode prog_6_method_16_code 1 = .ok (.bipush (123), 2) := by decide +kernel
theorem d_R_block_3 : decode prog_6_method_16_code 3 = .ok (.invokevirtual (115), 3) := by decide +kernel
theorem d_R_block_6 : decode prog_6_method_16_code 6 = .ok (.ifCond .ne (5), 3) := by decide +kernel
theorem d_R_block_9 : decode prog_6_method_16_code 9 = .ok (.iconst 0, 1) := by decide +kernel
theorem d_R_block_10 : decode prog_6_method_16_code 10 = .ok (.ireturn, 1) := by decide +kernel
theorem d_R_block_11 : decode prog_6_method_16_code 11 = .ok (.aload_n 0, 1) := by decide +kernel
theorem d_R_block_12 : decode prog_6_method_16_code 12 = .ok (.iload_n 1, 1) := by decide +kernel
theorem d_R_block_13 : decode prog_6_method_16_code 13 = .ok (.ifCond .eq (7), 3) := by decide +kernel
theorem d_R_block_16 : decode prog_6_method_16_code 16 = .ok (.iconst 0, 1) := by decide +kernel
theorem d_R_block_17 : decode prog_6_method_16_code 17 = .ok (.goto (12), 3) := by decide +kernel
theorem d_R_block_20 : decode prog_6_method_16_code 20 = .ok (.aload_n 0, 1) := by decide +kernel
theorem d_R_block_21 : decode prog_6_method_16_code 21 = .ok (.getfield (35), 3) := by decide +kernel
theorem d_R_block_24 : decode prog_6_method_16_code 24 = .ok (.getfield (107), 3) := by decide +kernel
theorem d_R_block_27 : decode prog_6_method_16_code 27 = .ok (.iconst 1, 1) := by decide +kernel
theorem d_R_block_28 : decode prog_6_method_16_code 28 = .ok (.iaload, 1) := by decide +kernel
theorem d_R_block_29 : decode prog_6_method_16_code 29 = .ok (.putfield (104), 3) := by decide +kernel
theorem d_R_block_32 : decode prog_6_method_16_code 32 = .ok (.aload_n 0, 1) := by decide +kernel
theorem d_R_block_33 : decode prog_6_method_16_code 33 = .ok (.iconst 0, 1) := by decide +kernel
theorem d_R_block_34 : decode prog_6_method_16_code 34 = .ok (.putfield (143), 3) := by decide +kernel
theorem d_R_block_37 : decode prog_6_method_16_code 37 = .ok (.iconst 0, 1) := by decide +kernel
theorem d_R_block_38 : decode prog_6_method_16_code 38 = .ok (.istore_n 2, 1) := by decide +kernel
theorem d_R_block_39 : decode prog_6_method_16_code 39 = .ok (.iload_n 2, 1) := by decide +kernel
theorem d_R_block_40 : decode prog_6_method_16_code 40 = .ok (.sipush (240), 3) := by decide +kernel
theorem d_R_block_43 : decode prog_6_method_16_code 43 = .ok (.if_icmp .ge (90), 3) := by decide +kernel
theorem d_R_block_46 : decode prog_6_method_16_code 46 = .ok (.aload_n 0, 1) := by decide +kernel
theorem d_R_block_47 : decode prog_6_method_16_code 47 = .ok (.getfield (11), 3) := by decide +kernel
theorem d_R_block_50 : decode prog_6_method_16_code 50 = .ok (.aload_n 0, 1) := by decide +kernel
theorem d_R_block_51 : decode prog_6_method_16_code 51 = .ok (.getfield (72), 3) := by decide +kernel
theorem d_R_block_54 : decode prog_6_method_16_code 54 = .ok (.caload, 1) := by decide +kernel
theorem d_R_block_55 : decode prog_6_method_16_code 55 = .ok (.bipush (125), 2) := by decide +kernel
theorem d_R_block_57 : decode prog_6_method_16_code 57 = .ok (.if_icmp .eq (76), 3) := by decide +kernel
theorem d_R_block_60 : decode prog_6_method_16_code 60 = .ok (.aload_n 0, 1) := by decide +kernel
theorem d_R_block_61 : decode prog_6_method_16_code 61 = .ok (.getfield (11), 3) := by decide +kernel
theorem d_R_block_64 : decode prog_6_method_16_code 64 = .ok (.aload_n 0, 1) := by decide +kernel
theorem d_R_block_65 : decode prog_6_method_16_code 65 = .ok (.getfield (72), 3) := by decide +kernel
theorem d_R_block_68 : decode prog_6_method_16_code 68 = .ok (.caload, 1) := by decide +kernel
theorem d_R_block_69 : decode prog_6_method_16_code 69 = .ok (.invokestatic (146), 3) := by decide +kernel
theorem d_R_block_72 : decode prog_6_method_16_code 72 = .ok (.ifCond .eq (11), 3) := by decide +kernel
theorem d_R_block_75 : decode prog_6_method_16_code 75 = .ok (.aload_n 0, 1) := by decide +kernel
theorem d_R_block_76 : decode prog_6_method_16_code 76 = .ok (.invokevirtual (149), 3) := by decide +kernel
theorem d_R_block_79 : decode prog_6_method_16_code 79 = .ok (.istore_n 3, 1) := by decide +kernel
theorem d_R_block_80 : decode prog_6_method_16_code 80 = .ok (.goto (41), 3) := by decide +kernel
theorem d_R_block_83 : decode prog_6_method_16_code 83 = .ok (.aload_n 0, 1) := by decide +kernel
theorem d_R_block_84 : decode prog_6_method_16_code 84 = .ok (.getfield (11), 3) := by decide +kernel
theorem d_R_block_87 : decode prog_6_method_16_code 87 = .ok (.aload_n 0, 1) := by decide +kernel
theorem d_R_block_88 : decode prog_6_method_16_code 88 = .ok (.getfield (72), 3) := by decide +kernel
theorem d_R_block_91 : decode prog_6_method_16_code 91 = .ok (.caload, 1) := by decide +kernel
theorem d_R_block_92 : decode prog_6_method_16_code 92 = .ok (.bipush (93), 2) := by decide +kernel
theorem d_R_block_94 : decode prog_6_method_16_code 94 = .ok (.if_icmp .ne (11), 3) := by decide +kernel
theorem d_R_block_97 : decode prog_6_method_16_code 97 = .ok (.aload_n 0, 1) := by decide +kernel
theorem d_R_block_98 : decode prog_6_method_16_code 98 = .ok (.invokevirtual (152), 3) := by decide +kernel
theorem d_R_block_101 : decode prog_6_method_16_code 101 = .ok (.istore_n 3, 1) := by decide +kernel
theorem d_R_block_102 : decode prog_6_method_16_code 102 = .ok (.goto (19), 3) := by decide +kernel
theorem d_R_block_105 : decode prog_6_method_16_code 105 = .ok (.iload_n 1, 1) := by decide +kernel
theorem d_R_block_106 : decode prog_6_method_16_code 106 = .ok (.ifCond .eq (10), 3) := by decide +kernel
theorem d_R_block_109 : decode prog_6_method_16_code 109 = .ok (.aload_n 0, 1) := by decide +kernel
theorem d_R_block_110 : decode prog_6_method_16_code 110 = .ok (.invokevirtual (155), 3) := by decide +kernel
theorem d_R_block_113 : decode prog_6_method_16_code 113 = .ok (.goto (7), 3) := by decide +kernel
theorem d_R_block_116 : decode prog_6_method_16_code 116 = .ok (.aload_n 0, 1) := by decide +kernel
theorem d_R_block_117 : decode prog_6_method_16_code 117 = .ok (.invokevirtual (158), 3) := by decide +kernel
theorem d_R_block_120 : decode prog_6_method_16_code 120 = .ok (.istore_n 3, 1) := by decide +kernel
theorem d_R_block_121 : decode prog_6_method_16_code 121 = .ok (.iload_n 3, 1) := by decide +kernel
theorem d_R_block_122 : decode prog_6_method_16_code 122 = .ok (.ifCond .ne (5), 3) := by decide +kernel
theorem d_R_block_125 : decode prog_6_method_16_code 125 = .ok (.iconst 0, 1) := by decide +kernel
theorem d_R_block_126 : decode prog_6_method_16_code 126 = .ok (.ireturn, 1) := by decide +kernel
theorem d_R_block_127 : decode prog_6_method_16_code 127 = .ok (.iinc 2 (1), 3) := by decide +kernel
theorem d_R_block_130 : decode prog_6_method_16_code 130 = .ok (.goto (-91), 3) := by decide +kernel
theorem d_R_block_133 : decode prog_6_method_16_code 133 = .ok (.aload_n 0, 1) := by decide +kernel
theorem d_R_block_134 : decode prog_6_method_16_code 134 = .ok (.getfield (143), 3) := by decide +kernel
theorem d_R_block_137 : decode prog_6_method_16_code 137 = .ok (.ifCond .ne (16), 3) := by decide +kernel
theorem d_R_block_140 : decode prog_6_method_16_code 140 = .ok (.aload_n 0, 1) := by decide +kernel
theorem d_R_block_141 : decode prog_6_method_16_code 141 = .ok (.bipush (125), 2) := by decide +kernel
theorem d_R_block_143 : decode prog_6_method_16_code 143 = .ok (.invokevirtual (115), 3) := by decide +kernel
theorem d_R_block_146 : decode prog_6_method_16_code 146 = .ok (.ifCond .eq (7), 3) := by decide +kernel
theorem d_R_block_149 : decode prog_6_method_16_code 149 = .ok (.iconst 1, 1) := by decide +kernel
theorem d_R_block_150 : decode prog_6_method_16_code 150 = .ok (.goto (4), 3) := by decide +kernel
theorem d_R_block_153 : decode prog_6_method_16_code 153 = .ok (.iconst 0, 1) := by decide +kernel
theorem d_R_block_154 : decode prog_6_method_16_code 154 = .ok (.ireturn, 1) := by decide +kernel
set_option maxRecDepth 100000 in
theorem cw_R_158 : ax_cw "CipherNotation$Reader" 158 y_R_step (.code y_R_step prog_6_method_21_code 6 (some .boolean)) 0 := ⟨nw_3 42 (by decide +kernel) rfl, nw_1 2 (by decide +kernel) rfl, nw_3 45 rfl rfl, by decide +kernel, by decide +kernel⟩
theorem im_R_step : Cond.instanceMethod y_R_step ∈ ax_tbl := nw_3 44 (by decide +kernel) rfl
theorem se_R_step : Cond.selects y_R_step.cls y_R_step y_R_step ∈ ax_tbl := nw_sel 21 (by decide +kernel) (by decide +kernel)
set_option maxRecDepth 100000 in
theorem cw_R_155 : ax_cw "CipherNotation$Reader" 155 y_R_writing (.code y_R_writing prog_6_method_20_code 3 (some .boolean)) 0 := ⟨nw_2 219 (by decide +kernel) rfl, nw_1 2 (by decide +kernel) rfl, nw_2 222 rfl rfl, by decide +kernel, by decide +kernel⟩
theorem im_R_writing : Cond.instanceMethod y_R_writing ∈ ax_tbl := nw_2 221 (by decide +kernel) rfl
theorem se_R_writing : Cond.selects y_R_writing.cls y_R_writing y_R_writing ∈ ax_tbl := nw_sel 12 (by decide +kernel) (by decide +kernel)
set_option maxRecDepth 100000 in
theorem cw_R_152 : ax_cw "CipherNotation$Reader" 152 y_R_closeLoop (.code y_R_closeLoop prog_6_method_19_code 4 (some .boolean)) 0 := ⟨nw_2 215 (by decide +kernel) rfl, nw_1 2 (by decide +kernel) rfl, nw_2 218 rfl rfl, by decide +kernel, by decide +kernel⟩
theorem im_R_closeLoop : Cond.instanceMethod y_R_closeLoop ∈ ax_tbl := nw_2 217 (by decide +kernel) rfl
theorem se_R_closeLoop : Cond.selects y_R_closeLoop.cls y_R_closeLoop y_R_closeLoop ∈ ax_tbl := nw_sel 11 (by decide +kernel) (by decide +kernel)
set_option maxRecDepth 100000 in
theorem cw_R_149 : ax_cw "CipherNotation$Reader" 149 y_R_openLoop (.code y_R_openLoop prog_6_method_18_code 5 (some .boolean)) 0 := ⟨nw_2 203 (by decide +kernel) rfl, nw_1 2 (by decide +kernel) rfl, nw_2 206 rfl rfl, by decide +kernel, by decide +kernel⟩
theorem im_R_openLoop : Cond.instanceMethod y_R_openLoop ∈ ax_tbl := nw_2 205 (by decide +kernel) rfl
theorem se_R_openLoop : Cond.selects y_R_openLoop.cls y_R_openLoop y_R_openLoop ∈ ax_tbl := nw_sel 9 (by decide +kernel) (by decide +kernel)
def lp_R_block_39 (F : Nat) (g : Nat) (x1 : Int32) : Nat → Int32 → ax_σ → Option ((Int32 × ax_σ) ⊕ (ax_σ))
  | 0, _, _ => none
  | n + 1, x2, s =>
    Option.bind (
      if (240 : Int32) ≤ x2 then
        some true
      else
        bif ax_in (s.1 0 25 3) 241 then
        if (s.1 0 26 ((s.1 0 25 3)).toNatClampNeg) = (125 : Int32) then
          some true
        else
          some false
        else none) (fun w34 => bif w34 then
      some (.inr s)
    else
      bif ax_in (s.1 0 25 3) 241 then
      Option.bind (f_R_isLetter (s.1 0 26 ((s.1 0 25 3)).toNatClampNeg)) (fun r13 =>
        Option.bind (
          if r13 = (0 : Int32) then
            bif ax_in (s.1 0 25 3) 241 then
            if (s.1 0 26 ((s.1 0 25 3)).toNatClampNeg) = (93 : Int32) then
              Option.bind (f_R_closeLoop F g s) (fun (r23, s24) =>
                some (r23, s24))
            else
              if x1 = (0 : Int32) then
                Option.bind (f_R_step F g s) (fun (r16, s17) =>
                  some (r16, s17))
              else
                Option.bind (f_R_writing F g s) (fun (r19, s20) =>
                  some (r19, s20))
            else none
          else
            Option.bind (f_R_openLoop F g s) (fun (r27, s28) =>
              some (r27, s28))) (fun (v31, s32) =>
          if v31 = (0 : Int32) then
            some (.inl ((0 : Int32), s32))
          else
            lp_R_block_39 F g x1 n (x2 + (1 : Int32)) s32))
      else none)
set_option maxHeartbeats 4000000 in
set_option maxRecDepth 100000 in
theorem pl_R_block_39 {D : va_G} {cA : Nat → ClassId} {ad : Nat → Nat → Nat} {al : List (Nat × Nat)} {θ : ax_Θ} {l : Launch} {ρ : ax_ρ} {G : ax_G} {F g : Nat} {x1 : Int32} (h0 : ax_M0 al) (hg : ax_Mg al g) (hr : ax_rd ρ g) (hB : ax_B D cA ad al θ l "CipherNotation$Reader" prog_6_method_16_code 4 40 G) : ∀ (n : Nat) {x2 : Int32} {s : ax_σ} (out : (Int32 × ax_σ) ⊕ (ax_σ)), lp_R_block_39 F g x1 n x2 s = some out → (∀ (r0 : Int32) (s0 : ax_σ), out = .inl (r0, s0) → ax_At D cA ad al θ l "CipherNotation$Reader" prog_6_method_16_code 4 40 (some .boolean) (some (.inl (.int r0))) (ax_m s0 ρ) G) → (∀ (es : ax_σ), out = .inr es → ax_R G 4 0 0 (133, [(0, .inr (0, 25))], [], ax_m (es) ρ)) → ax_R G 4 0 0 (39, [(0, .inr (0, 25)), (1, .inl (.int (x1))), (2, .inl (.int (x2)))], [], ax_m (s) ρ) := by
  have hK := hB.K
  have hal := hB.la
  intro n
  induction n with
  | zero =>
    intro x2 s out h
    cases h
  | succ n ih =>
    intro x2 s out h RT KE
    rw [lp_R_block_39] at h
    refine ax_bk hK (ax_fc (ax_v_ld (ax_r_iload_n (i := 2) d_R_block_39 rfl)) (ax_fc (ax_v_pu (ax_r_sipush (v := 240) d_R_block_40 (by decide))) ax_fn)) (y := (43, [(0, .inr (0, 25)), (1, .inl (.int (x1))), (2, .inl (.int (x2)))], [.inl (.int ((240 : Int32))), .inl (.int (x2))], ax_m (s) ρ)) rfl ⟨trivial, trivial, trivial⟩ ?_
    obtain ⟨w34, hw34, h⟩ := ax_bd h
    have KTw34 : w34 = true → ax_R G 4 0 0 (133, [(0, .inr (0, 25))], [], ax_m (s) ρ) := by
      intro e9
      subst w34
      replace h := ax_ct h
      cases h
      exact ax_Lsub [0] rfl (KE _ rfl)
    have KFw34 : w34 = false → ax_R G 4 0 0 (60, [(0, .inr (0, 25)), (1, .inl (.int (x1))), (2, .inl (.int (x2)))], [], ax_m (s) ρ) := by
      intro e9
      subst w34
      replace h := ax_cf h
      obtain ⟨b12, h⟩ := ax_gd h
      refine ax_bk hK (ax_fc (ax_v_ld (ax_r_aload_n (i := 0) d_R_block_60 rfl)) (ax_fc (ax_w_gf (e := none) hal d_R_block_61 fd_R_11) (ax_fc (ax_v_ld (ax_r_aload_n (i := 0) d_R_block_64 rfl)) (ax_fc (ax_w_gf (e := none) hal d_R_block_65 fd_R_72) (ax_fc (ax_w_cald hal d_R_block_68) ax_fn))))) (y := (69, [(0, .inr (0, 25)), (1, .inl (.int (x1))), (2, .inl (.int (x2)))], [.inl (.int ((s.1 0 26 ((s.1 0 25 3)).toNatClampNeg)))], ax_m (s) ρ)) rfl ⟨trivial, (h0 25 rfl), trivial, (h0 25 rfl), ⟨(h0 26 rfl), ax_inp b12⟩, trivial⟩ ?_
      obtain ⟨r13, q14, h⟩ := ax_bd h
      refine ax_bS (rest := []) hB (t_R_isLetter q14) cw_R_146 sm_R_isLetter d_R_block_69 (by decide) (by decide) rfl rfl (Nat.le_of_ble_eq_true rfl) ?_
      change ax_R G 4 0 0 (72, [(0, .inr (0, 25)), (1, .inl (.int (x1))), (2, .inl (.int (x2)))], [.inl (.int (r13))], ax_m (s) ρ)
      obtain ⟨w35, hw35, h⟩ := ax_bd h
      have KEw35 : ∀ (v31 : Int32) (s32 : ax_σ), w35 = (v31, s32) → ax_R G 4 0 0 (121, [(0, .inr (0, 25)), (1, .inl (.int (x1))), (2, .inl (.int (x2))), (3, .inl (.int (v31)))], [], ax_m (s32) ρ) := by
        intro v31 s32 e9
        subst w35
        try dsimp only at h
        refine ax_bk hK (ax_fc (ax_v_ld (ax_r_iload_n (i := 3) d_R_block_121 rfl)) ax_fn) (y := (122, [(0, .inr (0, 25)), (1, .inl (.int (x1))), (2, .inl (.int (x2))), (3, .inl (.int (v31)))], [.inl (.int (v31))], ax_m (s32) ρ)) rfl ⟨trivial, trivial⟩ ?_
        refine ax_if_ne (tgt := 127) hK d_R_block_122 (by decide) (fun c33 => ?_) (fun c33 => ?_)
        · replace h := ax_if c33 h
          refine ax_bk hK (ax_fc (ax_v_ii (d := 1) d_R_block_127 (by decide)) (ax_fc (ax_v_go (tgt := 39) d_R_block_130 (by decide)) ax_fn)) (y := (39, [(2, .inl (.int ((x2 + (1 : Int32))))), (0, .inr (0, 25)), (1, .inl (.int (x1))), (3, .inl (.int (v31)))], [], ax_m (s32) ρ)) rfl ⟨trivial, trivial, trivial⟩ ?_
          exact ax_Lsub [1, 2, 0] rfl (ih _ h RT KE)
        · replace h := ax_it c33 h
          refine ax_bk hK (ax_fc (ax_v_pu (ax_r_iconst (v := 0) d_R_block_125 (by decide))) ax_fn) (y := (126, [(0, .inr (0, 25)), (1, .inl (.int (x1))), (2, .inl (.int (x2))), (3, .inl (.int (v31)))], [.inl (.int ((0 : Int32)))], ax_m (s32) ρ)) rfl ⟨trivial, trivial⟩ ?_
          cases h
          exact ax_zret (RT _ _ rfl) (by decide) d_R_block_126
      clear h
      have h := hw35
      refine ax_if_eq (tgt := 83) hK d_R_block_72 (by decide) (fun c30 => ?_) (fun c30 => ?_)
      · replace h := ax_it c30 h
        obtain ⟨b15, h⟩ := ax_gd h
        refine ax_bk hK (ax_fc (ax_v_ld (ax_r_aload_n (i := 0) d_R_block_83 rfl)) (ax_fc (ax_w_gf (e := none) hal d_R_block_84 fd_R_11) (ax_fc (ax_v_ld (ax_r_aload_n (i := 0) d_R_block_87 rfl)) (ax_fc (ax_w_gf (e := none) hal d_R_block_88 fd_R_72) (ax_fc (ax_w_cald hal d_R_block_91) (ax_fc (ax_v_pu (ax_r_bipush (v := 93) d_R_block_92 (by decide))) ax_fn)))))) (y := (94, [(0, .inr (0, 25)), (1, .inl (.int (x1))), (2, .inl (.int (x2)))], [.inl (.int ((93 : Int32))), .inl (.int ((s.1 0 26 ((s.1 0 25 3)).toNatClampNeg)))], ax_m (s) ρ)) rfl ⟨trivial, (h0 25 rfl), trivial, (h0 25 rfl), ⟨(h0 26 rfl), ax_inp b15⟩, trivial, trivial⟩ ?_
        refine ax_ic_ne (tgt := 105) hK d_R_block_94 (by decide) (fun c26 => ?_) (fun c26 => ?_)
        · replace h := ax_if c26 h
          refine ax_bk hK (ax_fc (ax_v_ld (ax_r_iload_n (i := 1) d_R_block_105 rfl)) ax_fn) (y := (106, [(0, .inr (0, 25)), (1, .inl (.int (x1))), (2, .inl (.int (x2)))], [.inl (.int (x1))], ax_m (s) ρ)) rfl ⟨trivial, trivial⟩ ?_
          refine ax_if_eq (tgt := 116) hK d_R_block_106 (by decide) (fun c22 => ?_) (fun c22 => ?_)
          · replace h := ax_it c22 h
            refine ax_bk hK (ax_fc (ax_v_ld (ax_r_aload_n (i := 0) d_R_block_116 rfl)) ax_fn) (y := (117, [(0, .inr (0, 25)), (1, .inl (.int (x1))), (2, .inl (.int (x2)))], [.inr (0, 25)], ax_m (s) ρ)) rfl ⟨trivial, trivial⟩ ?_
            obtain ⟨⟨r16, s17⟩, q18, h⟩ := ax_bd h
            dsimp only at h
            refine ax_bV (rest := []) hB (t_R_step h0 hg hr q18) cw_R_158 im_R_step se_R_step d_R_block_117 (h0 25 rfl) rfl rfl (by decide) (by decide) rfl rfl (Nat.le_of_ble_eq_true rfl) ?_
            change ax_R G 4 0 0 (120, [(0, .inr (0, 25)), (1, .inl (.int (x1))), (2, .inl (.int (x2)))], [.inl (.int (r16))], ax_m (s17) ρ)
            refine ax_bk hK (ax_fc (ax_v_so (ax_r_istore_n (i := 3) d_R_block_120 rfl)) ax_fn) (y := (121, [(3, .inl (.int (r16))), (0, .inr (0, 25)), (1, .inl (.int (x1))), (2, .inl (.int (x2)))], [], ax_m (s17) ρ)) rfl ⟨trivial, trivial⟩ ?_
            cases h
            exact ax_Lsub [1, 2, 3, 0] rfl (KEw35 _ _ rfl)
          · replace h := ax_if c22 h
            refine ax_bk hK (ax_fc (ax_v_ld (ax_r_aload_n (i := 0) d_R_block_109 rfl)) ax_fn) (y := (110, [(0, .inr (0, 25)), (1, .inl (.int (x1))), (2, .inl (.int (x2)))], [.inr (0, 25)], ax_m (s) ρ)) rfl ⟨trivial, trivial⟩ ?_
            obtain ⟨⟨r19, s20⟩, q21, h⟩ := ax_bd h
            dsimp only at h
            refine ax_bV (rest := []) hB (t_R_writing h0 hg hr q21) cw_R_155 im_R_writing se_R_writing d_R_block_110 (h0 25 rfl) rfl rfl (by decide) (by decide) rfl rfl (Nat.le_of_ble_eq_true rfl) ?_
            change ax_R G 4 0 0 (113, [(0, .inr (0, 25)), (1, .inl (.int (x1))), (2, .inl (.int (x2)))], [.inl (.int (r19))], ax_m (s20) ρ)
            refine ax_bk hK (ax_fc (ax_v_go (tgt := 120) d_R_block_113 (by decide)) ax_fn) (y := (120, [(0, .inr (0, 25)), (1, .inl (.int (x1))), (2, .inl (.int (x2)))], [.inl (.int (r19))], ax_m (s20) ρ)) rfl ⟨trivial, trivial⟩ ?_
            refine ax_bk hK (ax_fc (ax_v_so (ax_r_istore_n (i := 3) d_R_block_120 rfl)) ax_fn) (y := (121, [(3, .inl (.int (r19))), (0, .inr (0, 25)), (1, .inl (.int (x1))), (2, .inl (.int (x2)))], [], ax_m (s20) ρ)) rfl ⟨trivial, trivial⟩ ?_
            cases h
            exact ax_Lsub [1, 2, 3, 0] rfl (KEw35 _ _ rfl)
        · replace h := ax_it c26 h
          refine ax_bk hK (ax_fc (ax_v_ld (ax_r_aload_n (i := 0) d_R_block_97 rfl)) ax_fn) (y := (98, [(0, .inr (0, 25)), (1, .inl (.int (x1))), (2, .inl (.int (x2)))], [.inr (0, 25)], ax_m (s) ρ)) rfl ⟨trivial, trivial⟩ ?_
          obtain ⟨⟨r23, s24⟩, q25, h⟩ := ax_bd h
          dsimp only at h
          refine ax_bV (rest := []) hB (t_R_closeLoop h0 hg hr q25) cw_R_152 im_R_closeLoop se_R_closeLoop d_R_block_98 (h0 25 rfl) rfl rfl (by decide) (by decide) rfl rfl (Nat.le_of_ble_eq_true rfl) ?_
          change ax_R G 4 0 0 (101, [(0, .inr (0, 25)), (1, .inl (.int (x1))), (2, .inl (.int (x2)))], [.inl (.int (r23))], ax_m (s24) ρ)
          refine ax_bk hK (ax_fc (ax_v_so (ax_r_istore_n (i := 3) d_R_block_101 rfl)) (ax_fc (ax_v_go (tgt := 121) d_R_block_102 (by decide)) ax_fn)) (y := (121, [(3, .inl (.int (r23))), (0, .inr (0, 25)), (1, .inl (.int (x1))), (2, .inl (.int (x2)))], [], ax_m (s24) ρ)) rfl ⟨trivial, trivial, trivial⟩ ?_
          cases h
          exact ax_Lsub [1, 2, 3, 0] rfl (KEw35 _ _ rfl)
      · replace h := ax_if c30 h
        refine ax_bk hK (ax_fc (ax_v_ld (ax_r_aload_n (i := 0) d_R_block_75 rfl)) ax_fn) (y := (76, [(0, .inr (0, 25)), (1, .inl (.int (x1))), (2, .inl (.int (x2)))], [.inr (0, 25)], ax_m (s) ρ)) rfl ⟨trivial, trivial⟩ ?_
        obtain ⟨⟨r27, s28⟩, q29, h⟩ := ax_bd h
        dsimp only at h
        refine ax_bV (rest := []) hB (t_R_openLoop h0 hg hr q29) cw_R_149 im_R_openLoop se_R_openLoop d_R_block_76 (h0 25 rfl) rfl rfl (by decide) (by decide) rfl rfl (Nat.le_of_ble_eq_true rfl) ?_
        change ax_R G 4 0 0 (79, [(0, .inr (0, 25)), (1, .inl (.int (x1))), (2, .inl (.int (x2)))], [.inl (.int (r27))], ax_m (s28) ρ)
        refine ax_bk hK (ax_fc (ax_v_so (ax_r_istore_n (i := 3) d_R_block_79 rfl)) (ax_fc (ax_v_go (tgt := 121) d_R_block_80 (by decide)) ax_fn)) (y := (121, [(3, .inl (.int (r27))), (0, .inr (0, 25)), (1, .inl (.int (x1))), (2, .inl (.int (x2)))], [], ax_m (s28) ρ)) rfl ⟨trivial, trivial, trivial⟩ ?_
        cases h
        exact ax_Lsub [1, 2, 3, 0] rfl (KEw35 _ _ rfl)
    clear h
    have h := hw34
    refine ax_ic_ge (tgt := 133) hK d_R_block_43 (by decide) (fun c11 => ?_) (fun c11 => ?_)
    · replace h := ax_it c11 h
      cases h
      exact ax_Lsub [0] rfl (KTw34 rfl)
    · replace h := ax_if c11 h
      obtain ⟨b9, h⟩ := ax_gd h
      refine ax_bk hK (ax_fc (ax_v_ld (ax_r_aload_n (i := 0) d_R_block_46 rfl)) (ax_fc (ax_w_gf (e := none) hal d_R_block_47 fd_R_11) (ax_fc (ax_v_ld (ax_r_aload_n (i := 0) d_R_block_50 rfl)) (ax_fc (ax_w_gf (e := none) hal d_R_block_51 fd_R_72) (ax_fc (ax_w_cald hal d_R_block_54) (ax_fc (ax_v_pu (ax_r_bipush (v := 125) d_R_block_55 (by decide))) ax_fn)))))) (y := (57, [(0, .inr (0, 25)), (1, .inl (.int (x1))), (2, .inl (.int (x2)))], [.inl (.int ((125 : Int32))), .inl (.int ((s.1 0 26 ((s.1 0 25 3)).toNatClampNeg)))], ax_m (s) ρ)) rfl ⟨trivial, (h0 25 rfl), trivial, (h0 25 rfl), ⟨(h0 26 rfl), ax_inp b9⟩, trivial, trivial⟩ ?_
      refine ax_ic_eq (tgt := 133) hK d_R_block_57 (by decide) (fun c10 => ?_) (fun c10 => ?_)
      · replace h := ax_it c10 h
        cases h
        exact ax_Lsub [0] rfl (KTw34 rfl)
      · replace h := ax_if c10 h
        cases h
        exact ax_Lsub [0, 1, 2] rfl (KFw34 rfl)
theorem fp_R_104 : ax_fp "CipherNotation$Reader" 104 4 8 (.int) := ⟨nC4, nT4, 15, nY4, rfl, nW4, by decide, nw_1 42 (by decide +kernel) rfl, nO4, nA4, by decide +kernel, by decide +kernel⟩
def f_R_block (F : Nat) (g : Nat) (a1 : Int32) (s : ax_σ) : Option (Int32 × ax_σ) :=
  Option.bind (f_R_take g (123 : Int32) s) (fun (r1, s2) =>
    if r1 = (0 : Int32) then
      some (((0 : Int32), s2))
    else
      Option.bind (
        if a1 = (0 : Int32) then
          bif ax_in (1 : Int32) 8 then
          some (s2.1 g 1 ((1 : Int32)).toNatClampNeg)
          else none
        else
          some (0 : Int32)) (fun v6 =>
        ax_let (ax_wI s2 0 25 8 v6) (fun s7 =>
          ax_let (ax_wI s7 0 25 9 (0 : Int32)) (fun s8 =>
            Option.bind (lp_R_block_39 F g a1 F (0 : Int32) s8) (fun w => match w with
              | .inl w => some w
              | .inr s35 =>
                if (s35.1 0 25 9) = (0 : Int32) then
                  Option.bind (f_R_take g (125 : Int32) s35) (fun (r36, s37) =>
                    if r36 = (0 : Int32) then
                      some (((0 : Int32), s37))
                    else
                      some (((1 : Int32), s37)))
                else
                  some (((0 : Int32), s35)))))))
set_option maxHeartbeats 4000000 in
set_option maxRecDepth 100000 in
theorem t_R_block {l : Launch} {D : va_G} {cA : Nat → ClassId} {ad : Nat → Nat → Nat} {al : List (Nat × Nat)} {θ : ax_Θ} {ρ : ax_ρ} {F : Nat} {g : Nat} (h0 : ax_M0 al) (hg : ax_Mg al g) (hr : ax_rd ρ g) {a1 : Int32} {s : ax_σ} {r0 : Int32} {s0 : ax_σ} (h : f_R_block F g a1 s = some (r0, s0)) : ax_T l D cA ad al θ y_R_block (.code y_R_block prog_6_method_16_code 4 (some .boolean)) 40 [.inr (0, 25), .inl (.int (a1))] (ax_m s ρ) (some (.inl (.int r0))) (ax_m s0 ρ) := by
  refine ax_T_of (own := "CipherNotation$Reader") (by decide) rfl (Nat.le_of_ble_eq_true rfl) [(0, .inr (0, 25)), (1, .inl (.int (a1)))] rfl ?_
  intro G hA
  have hB := hA.B
  have hK := hB.K
  have hal := hB.la
  unfold f_R_block at h
  refine ax_bk hK (ax_fc (ax_v_ld (ax_r_aload_n (i := 0) d_R_block_0 rfl)) (ax_fc (ax_v_pu (ax_r_bipush (v := 123) d_R_block_1 (by decide))) ax_fn)) (y := (3, [(0, .inr (0, 25)), (1, .inl (.int (a1)))], [.inl (.int ((123 : Int32))), .inr (0, 25)], ax_m (s) ρ)) rfl ⟨trivial, trivial, trivial⟩ ?_
  obtain ⟨⟨r1, s2⟩, q3, h⟩ := ax_bd h
  dsimp only at h
  refine ax_bV (rest := []) hB (t_R_take h0 hg hr q3) cw_R_115 im_R_take se_R_take d_R_block_3 (h0 25 rfl) rfl rfl (by decide) (by decide) rfl rfl (Nat.le_of_ble_eq_true rfl) ?_
  change ax_R G 4 0 0 (6, [(0, .inr (0, 25)), (1, .inl (.int (a1)))], [.inl (.int (r1))], ax_m (s2) ρ)
  refine ax_if_ne (tgt := 11) hK d_R_block_6 (by decide) (fun c41 => ?_) (fun c41 => ?_)
  · replace h := ax_if c41 h
    refine ax_bk hK (ax_fc (ax_v_ld (ax_r_aload_n (i := 0) d_R_block_11 rfl)) (ax_fc (ax_v_ld (ax_r_iload_n (i := 1) d_R_block_12 rfl)) ax_fn)) (y := (13, [(0, .inr (0, 25)), (1, .inl (.int (a1)))], [.inl (.int (a1)), .inr (0, 25)], ax_m (s2) ρ)) rfl ⟨trivial, trivial, trivial⟩ ?_
    obtain ⟨w42, hw42, h⟩ := ax_bd h
    have KEw42 : ∀ (v6 : Int32), w42 = v6 → ax_R G 4 0 0 (29, [(0, .inr (0, 25)), (1, .inl (.int (a1)))], [.inl (.int (v6)), .inr (0, 25)], ax_m (s2) ρ) := by
      intro v6 e9
      subst w42
      try dsimp only at h
      refine ax_bk hK (ax_fc (ax_w_pf (tc := 0) hal d_R_block_29 fp_R_104 rfl) ax_fn) (y := (32, [(0, .inr (0, 25)), (1, .inl (.int (a1)))], [], ax_m (ax_wI s2 0 25 8 v6) ρ)) rfl ⟨(h0 25 rfl), trivial⟩ ?_
      refine ax_lt (Q := fun ςς => ax_R G 4 0 0 (32, [(0, .inr (0, 25)), (1, .inl (.int (a1)))], [], ax_m (ςς) ρ)) h (fun s7 h => ?_)
      refine ax_bk hK (ax_fc (ax_v_ld (ax_r_aload_n (i := 0) d_R_block_32 rfl)) (ax_fc (ax_v_pu (ax_r_iconst (v := 0) d_R_block_33 (by decide))) (ax_fc (ax_w_pf (tc := 0) hal d_R_block_34 fp_R_143 rfl) ax_fn))) (y := (37, [(0, .inr (0, 25)), (1, .inl (.int (a1)))], [], ax_m (ax_wI s7 0 25 9 (0 : Int32)) ρ)) rfl ⟨trivial, trivial, (h0 25 rfl), trivial⟩ ?_
      refine ax_lt (Q := fun ςς => ax_R G 4 0 0 (37, [(0, .inr (0, 25)), (1, .inl (.int (a1)))], [], ax_m (ςς) ρ)) h (fun s8 h => ?_)
      refine ax_bk hK (ax_fc (ax_v_pu (ax_r_iconst (v := 0) d_R_block_37 (by decide))) (ax_fc (ax_v_so (ax_r_istore_n (i := 2) d_R_block_38 rfl)) ax_fn)) (y := (39, [(2, .inl (.int ((0 : Int32)))), (0, .inr (0, 25)), (1, .inl (.int (a1)))], [], ax_m (s8) ρ)) rfl ⟨trivial, trivial, trivial⟩ ?_
      obtain ⟨w43, hw43, h⟩ := ax_bd h
      have RTw43 : ∀ (r0 : Int32) (s0 : ax_σ), w43 = .inl (r0, s0) → ax_At D cA ad al θ l "CipherNotation$Reader" prog_6_method_16_code 4 40 (some .boolean) (some (.inl (.int r0))) (ax_m s0 ρ) G := by
        intro r0 s0 e9
        subst w43
        try dsimp only at h
        cases h
        exact hA
      refine ax_Lsub [1, 2, 0] rfl (pl_R_block_39 h0 hg hr hB F _ hw43 RTw43 ?_)
      intro s35 e9
      subst w43
      try dsimp only at h
      change ax_R G 4 0 0 (133, [(0, .inr (0, 25))], [], ax_m (s35) ρ)
      refine ax_bk hK (ax_fc (ax_v_ld (ax_r_aload_n (i := 0) d_R_block_133 rfl)) (ax_fc (ax_w_gf (e := none) hal d_R_block_134 fd_R_143) ax_fn)) (y := (137, [(0, .inr (0, 25))], [.inl (.int ((s35.1 0 25 9)))], ax_m (s35) ρ)) rfl ⟨trivial, (h0 25 rfl), trivial⟩ ?_
      refine ax_if_ne (tgt := 153) hK d_R_block_137 (by decide) (fun c40 => ?_) (fun c40 => ?_)
      · replace h := ax_if c40 h
        refine ax_bk hK (ax_fc (ax_v_pu (ax_r_iconst (v := 0) d_R_block_153 (by decide))) ax_fn) (y := (154, [(0, .inr (0, 25))], [.inl (.int ((0 : Int32)))], ax_m (s35) ρ)) rfl ⟨trivial, trivial⟩ ?_
        cases h
        exact ax_zret hA (by decide) d_R_block_154
      · replace h := ax_it c40 h
        refine ax_bk hK (ax_fc (ax_v_ld (ax_r_aload_n (i := 0) d_R_block_140 rfl)) (ax_fc (ax_v_pu (ax_r_bipush (v := 125) d_R_block_141 (by decide))) ax_fn)) (y := (143, [(0, .inr (0, 25))], [.inl (.int ((125 : Int32))), .inr (0, 25)], ax_m (s35) ρ)) rfl ⟨trivial, trivial, trivial⟩ ?_
        obtain ⟨⟨r36, s37⟩, q38, h⟩ := ax_bd h
        dsimp only at h
        refine ax_bV (rest := []) hB (t_R_take h0 hg hr q38) cw_R_115 im_R_take se_R_take d_R_block_143 (h0 25 rfl) rfl rfl (by decide) (by decide) rfl rfl (Nat.le_of_ble_eq_true rfl) ?_
        change ax_R G 4 0 0 (146, [(0, .inr (0, 25))], [.inl (.int (r36))], ax_m (s37) ρ)
        refine ax_if_eq (tgt := 153) hK d_R_block_146 (by decide) (fun c39 => ?_) (fun c39 => ?_)
        · replace h := ax_it c39 h
          refine ax_bk hK (ax_fc (ax_v_pu (ax_r_iconst (v := 0) d_R_block_153 (by decide))) ax_fn) (y := (154, [(0, .inr (0, 25))], [.inl (.int ((0 : Int32)))], ax_m (s37) ρ)) rfl ⟨trivial, trivial⟩ ?_
          cases h
          exact ax_zret hA (by decide) d_R_block_154
        · replace h := ax_if c39 h
          refine ax_bk hK (ax_fc (ax_v_pu (ax_r_iconst (v := 1) d_R_block_149 (by decide))) (ax_fc (ax_v_go (tgt := 154) d_R_block_150 (by decide)) ax_fn)) (y := (154, [(0, .inr (0, 25))], [.inl (.int ((1 : Int32)))], ax_m (s37) ρ)) rfl ⟨trivial, trivial, trivial⟩ ?_
          cases h
          exact ax_zret hA (by decide) d_R_block_154
    clear h
    have h := hw42
    refine ax_if_eq (tgt := 20) hK d_R_block_13 (by decide) (fun c5 => ?_) (fun c5 => ?_)
    · replace h := ax_it c5 h
      obtain ⟨b4, h⟩ := ax_gd h
      refine ax_bk hK (ax_fc (ax_v_ld (ax_r_aload_n (i := 0) d_R_block_20 rfl)) (ax_fc (ax_w_gf (e := (some (g, 0))) hal d_R_block_21 fd_R_35) (ax_fc (ax_w_gf (e := none) hal d_R_block_24 fd_R_107) (ax_fc (ax_v_pu (ax_r_iconst (v := 1) d_R_block_27 (by decide))) (ax_fc (ax_w_iald hal d_R_block_28) ax_fn))))) (y := (29, [(0, .inr (0, 25)), (1, .inl (.int (a1)))], [.inl (.int ((s2.1 g 1 ((1 : Int32)).toNatClampNeg))), .inr (0, 25)], ax_m (s2) ρ)) rfl ⟨trivial, ⟨(h0 25 rfl), hr.1⟩, (hg 0 rfl), trivial, ⟨(hg 1 rfl), ax_inp b4⟩, trivial⟩ ?_
      cases h
      exact ax_Lsub [0, 1] rfl (KEw42 _ rfl)
    · replace h := ax_if c5 h
      refine ax_bk hK (ax_fc (ax_v_pu (ax_r_iconst (v := 0) d_R_block_16 (by decide))) (ax_fc (ax_v_go (tgt := 29) d_R_block_17 (by decide)) ax_fn)) (y := (29, [(0, .inr (0, 25)), (1, .inl (.int (a1)))], [.inl (.int ((0 : Int32))), .inr (0, 25)], ax_m (s2) ρ)) rfl ⟨trivial, trivial, trivial⟩ ?_
      cases h
      exact ax_Lsub [0, 1] rfl (KEw42 _ rfl)
  · replace h := ax_it c41 h
    refine ax_bk hK (ax_fc (ax_v_pu (ax_r_iconst (v := 0) d_R_block_9 (by decide))) ax_fn) (y := (10, [(0, .inr (0, 25)), (1, .inl (.int (a1)))], [.inl (.int ((0 : Int32)))], ax_m (s2) ρ)) rfl ⟨trivial, trivial⟩ ?_
    cases h
    exact ax_zret hA (by decide) d_R_block_10
def y_R_comesUpTo : MethodName := ⟨"CipherNotation$Reader", "comesUpTo", "(IIZ)Z"⟩
theorem d_R_comesUpTo_0 : decode prog_6_method_34_code 0 = .ok (.aload_n 0, 1) := by decide +kernel
theorem d_R_comesUpTo_1 : decode prog_6_method_34_code 1 = .ok (.getfield (45), 3) := by decide +kernel
theorem d_R_comesUpTo_4 : decode prog_6_method_34_code 4 = .ok (.getfield (282), 3) := by decide +kernel
theorem d_R_comesUpTo_7 : decode prog_6_method_34_code 7 = .ok (.iload_n 1, 1) := by decide +kernel
theorem d_R_comesUpTo_8 : decode prog_6_method_34_code 8 = .ok (.laload, 1) := by decide +kernel
theorem d_R_comesUpTo_9 : decode prog_6_method_34_code 9 = .ok (.iload_n 3, 1) := by decide +kernel
theorem d_R_comesUpTo_10 : decode prog_6_method_34_code 10 = .ok (.ifCond .eq (12), 3) := by decide +kernel
theorem d_R_comesUpTo_13 : decode prog_6_method_34_code 13 = .ok (.aload_n 0, 1) := by decide +kernel
theorem d_R_comesUpTo_14 : decode prog_6_method_34_code 14 = .ok (.getfield (28), 3) := by decide +kernel
theorem d_R_comesUpTo_17 : decode prog_6_method_34_code 17 = .ok (.iconst 0, 1) := by decide +kernel
theorem d_R_comesUpTo_18 : decode prog_6_method_34_code 18 = .ok (.iaload, 1) := by decide +kernel
theorem d_R_comesUpTo_19 : decode prog_6_method_34_code 19 = .ok (.goto (4), 3) := by decide +kernel
theorem d_R_comesUpTo_22 : decode prog_6_method_34_code 22 = .ok (.iconst 0, 1) := by decide +kernel
theorem d_R_comesUpTo_23 : decode prog_6_method_34_code 23 = .ok (.i2l, 1) := by decide +kernel
theorem d_R_comesUpTo_24 : decode prog_6_method_34_code 24 = .ok (.lsub, 1) := by decide +kernel
theorem d_R_comesUpTo_25 : decode prog_6_method_34_code 25 = .ok (.lstore (4), 2) := by decide +kernel
theorem d_R_comesUpTo_27 : decode prog_6_method_34_code 27 = .ok (.aload_n 0, 1) := by decide +kernel
theorem d_R_comesUpTo_28 : decode prog_6_method_34_code 28 = .ok (.getfield (45), 3) := by decide +kernel
theorem d_R_comesUpTo_31 : decode prog_6_method_34_code 31 = .ok (.getfield (285), 3) := by decide +kernel
theorem d_R_comesUpTo_34 : decode prog_6_method_34_code 34 = .ok (.iload_n 1, 1) := by decide +kernel
theorem d_R_comesUpTo_35 : decode prog_6_method_34_code 35 = .ok (.laload, 1) := by decide +kernel
theorem d_R_comesUpTo_36 : decode prog_6_method_34_code 36 = .ok (.iload_n 3, 1) := by decide +kernel
theorem d_R_comesUpTo_37 : decode prog_6_method_34_code 37 = .ok (.ifCond .eq (12), 3) := by decide +kernel
theorem d_R_comesUpTo_40 : decode prog_6_method_34_code 40 = .ok (.aload_n 0, 1) := by decide +kernel
theorem d_R_comesUpTo_41 : decode prog_6_method_34_code 41 = .ok (.getfield (28), 3) := by decide +kernel
theorem d_R_comesUpTo_44 : decode prog_6_method_34_code 44 = .ok (.iconst 1, 1) := by decide +kernel
theorem d_R_comesUpTo_45 : decode prog_6_method_34_code 45 = .ok (.iaload, 1) := by decide +kernel
theorem d_R_comesUpTo_46 : decode prog_6_method_34_code 46 = .ok (.goto (4), 3) := by decide +kernel
theorem d_R_comesUpTo_49 : decode prog_6_method_34_code 49 = .ok (.iconst 0, 1) := by decide +kernel
theorem d_R_comesUpTo_50 : decode prog_6_method_34_code 50 = .ok (.i2l, 1) := by decide +kernel
theorem d_R_comesUpTo_51 : decode prog_6_method_34_code 51 = .ok (.lsub, 1) := by decide +kernel
theorem d_R_comesUpTo_52 : decode prog_6_method_34_code 52 = .ok (.lstore (6), 2) := by decide +kernel
theorem d_R_comesUpTo_54 : decode prog_6_method_34_code 54 = .ok (.aload_n 0, 1) := by decide +kernel
theorem d_R_comesUpTo_55 : decode prog_6_method_34_code 55 = .ok (.getfield (45), 3) := by decide +kernel
theorem d_R_comesUpTo_58 : decode prog_6_method_34_code 58 = .ok (.getfield (260), 3) := by decide +kernel
theorem d_R_comesUpTo_61 : decode prog_6_method_34_code 61 = .ok (.iload_n 1, 1) := by decide +kernel
theorem d_R_comesUpTo_62 : decode prog_6_method_34_code 62 = .ok (.laload, 1) := by decide +kernel
theorem d_R_comesUpTo_63 : decode prog_6_method_34_code 63 = .ok (.lconst 0, 1) := by decide +kernel
theorem d_R_comesUpTo_64 : decode prog_6_method_34_code 64 = .ok (.lload (4), 2) := by decide +kernel
theorem d_R_comesUpTo_66 : decode prog_6_method_34_code 66 = .ok (.aload_n 0, 1) := by decide +kernel
theorem d_R_comesUpTo_67 : decode prog_6_method_34_code 67 = .ok (.getfield (25), 3) := by decide +kernel
theorem d_R_comesUpTo_70 : decode prog_6_method_34_code 70 = .ok (.iconst 0, 1) := by decide +kernel
theorem d_R_comesUpTo_71 : decode prog_6_method_34_code 71 = .ok (.iaload, 1) := by decide +kernel
theorem d_R_comesUpTo_72 : decode prog_6_method_34_code 72 = .ok (.iconst 1, 1) := by decide +kernel
theorem d_R_comesUpTo_73 : decode prog_6_method_34_code 73 = .ok (.isub, 1) := by decide +kernel
theorem d_R_comesUpTo_74 : decode prog_6_method_34_code 74 = .ok (.i2l, 1) := by decide +kernel
theorem d_R_comesUpTo_75 : decode prog_6_method_34_code 75 = .ok (.lmul, 1) := by decide +kernel
theorem d_R_comesUpTo_76 : decode prog_6_method_34_code 76 = .ok (.invokestatic (288), 3) := by decide +kernel
theorem d_R_comesUpTo_79 : decode prog_6_method_34_code 79 = .ok (.ladd, 1) := by decide +kernel
theorem d_R_comesUpTo_80 : decode prog_6_method_34_code 80 = .ok (.lconst 0, 1) := by decide +kernel
theorem d_R_comesUpTo_81 : decode prog_6_method_34_code 81 = .ok (.lload (6), 2) := by decide +kernel
theorem d_R_comesUpTo_83 : decode prog_6_method_34_code 83 = .ok (.aload_n 0, 1) := by decide +kernel
theorem d_R_comesUpTo_84 : decode prog_6_method_34_code 84 = .ok (.getfield (25), 3) := by decide +kernel
theorem d_R_comesUpTo_87 : decode prog_6_method_34_code 87 = .ok (.iconst 1, 1) := by decide +kernel
theorem d_R_comesUpTo_88 : decode prog_6_method_34_code 88 = .ok (.iaload, 1) := by decide +kernel
theorem d_R_comesUpTo_89 : decode prog_6_method_34_code 89 = .ok (.iconst 1, 1) := by decide +kernel
theorem d_R_comesUpTo_90 : decode prog_6_method_34_code 90 = .ok (.isub, 1) := by decide +kernel
theorem d_R_comesUpTo_91 : decode prog_6_method_34_code 91 = .ok (.i2l, 1) := by decide +kernel
theorem d_R_comesUpTo_92 : decode prog_6_method_34_code 92 = .ok (.lmul, 1) := by decide +kernel
theorem d_R_comesUpTo_93 : decode prog_6_method_34_code 93 = .ok (.invokestatic (288), 3) := by decide +kernel
theorem d_R_comesUpTo_96 : decode prog_6_method_34_code 96 = .ok (.ladd, 1) := by decide +kernel
theorem d_R_comesUpTo_97 : decode prog_6_method_34_code 97 = .ok (.lstore (8), 2) := by decide +kernel
theorem d_R_comesUpTo_99 : decode prog_6_method_34_code 99 = .ok (.lload (8), 2) := by decide +kernel
theorem d_R_comesUpTo_101 : decode prog_6_method_34_code 101 = .ok (.iload_n 2, 1) := by decide +kernel
theorem d_R_comesUpTo_102 : decode prog_6_method_34_code 102 = .ok (.i2l, 1) := by decide +kernel
theorem d_R_comesUpTo_103 : decode prog_6_method_34_code 103 = .ok (.lcmp, 1) := by decide +kernel
theorem d_R_comesUpTo_104 : decode prog_6_method_34_code 104 = .ok (.ifCond .lt (7), 3) := by decide +kernel
theorem d_R_comesUpTo_107 : decode prog_6_method_34_code 107 = .ok (.iconst 1, 1) := by decide +kernel
theorem d_R_comesUpTo_108 : decode prog_6_method_34_code 108 = .ok (.goto (4), 3) := by decide +kernel
theorem d_R_comesUpTo_111 : decode prog_6_method_34_code 111 = .ok (.iconst 0, 1) := by decide +kernel
theorem d_R_comesUpTo_112 : decode prog_6_method_34_code 112 = .ok (.ireturn, 1) := by decide +kernel
theorem fd_R_282 : ax_fd "CipherNotation$Reader" 282 0 2 := ⟨nC0, nT0, 9, nY0, rfl, nW0, by decide, nw_1 141 (by decide +kernel) rfl, nO0, nA0⟩
theorem fd_R_285 : ax_fd "CipherNotation$Reader" 285 0 3 := ⟨nC0, nT0, 9, nY0, rfl, nW0, by decide, nw_1 143 (by decide +kernel) rfl, nO0, nA0⟩
theorem fd_R_25 : ax_fd "CipherNotation$Reader" 25 4 12 := ⟨nC4, nT4, 15, nY4, rfl, nW4, by decide, nw_1 46 (by decide +kernel) rfl, nO4, nA4⟩
set_option maxRecDepth 100000 in
theorem cw_R_288 : ax_cw "CipherNotation$Reader" 288 y_Math_max_JJ (.code y_Math_max_JJ prog_14_method_66_code 4 (some .long)) 2 := ⟨nw_3 82 (by decide +kernel) rfl, nw_1 8 (by decide +kernel) rfl, nw_3 84 rfl rfl, by decide +kernel, by decide +kernel⟩
theorem sm_Math_max_JJ : Cond.static y_Math_max_JJ ∈ ax_tbl := nw_3 83 (by decide +kernel) rfl
theorem fd_R_28 : ax_fd "CipherNotation$Reader" 28 4 13 := ⟨nC4, nT4, 15, nY4, rfl, nW4, by decide, nw_1 47 (by decide +kernel) rfl, nO4, nA4⟩
def f_R_comesUpTo (g : Nat) (a1 : Int32) (a2 : Int32) (a3 : Int32) (s : ax_σ) : Option (Int32) :=
  bif ax_in a1 240 then
  Option.bind (
    if a3 = (0 : Int32) then
      some (0 : Int32)
    else
      bif ax_in (0 : Int32) 2 then
      some (s.1 0 31 ((0 : Int32)).toNatClampNeg)
      else none) (fun v4 =>
    bif ax_in a1 240 then
    Option.bind (
      if a3 = (0 : Int32) then
        some (0 : Int32)
      else
        bif ax_in (1 : Int32) 2 then
        some (s.1 0 31 ((1 : Int32)).toNatClampNeg)
        else none) (fun v8 =>
      bif ax_in a1 240 then
      bif ax_in (0 : Int32) 2 then
      Option.bind (f_Math_max_JJ (0 : Int64) (((s.2 g 7 (a1).toNatClampNeg) - (v4).toInt64) * (((s.1 0 30 ((0 : Int32)).toNatClampNeg) - (1 : Int32))).toInt64)) (fun r11 =>
        bif ax_in (1 : Int32) 2 then
        Option.bind (f_Math_max_JJ (0 : Int64) (((s.2 g 8 (a1).toNatClampNeg) - (v8).toInt64) * (((s.1 0 30 ((1 : Int32)).toNatClampNeg) - (1 : Int32))).toInt64)) (fun r14 =>
          if (lg_cmp (((s.2 g 6 (a1).toNatClampNeg) + r11) + r14) (a2).toInt64) < (0 : Int32) then
            some ((0 : Int32))
          else
            some ((1 : Int32)))
        else none)
      else none
      else none)
    else none)
  else none
set_option maxHeartbeats 4000000 in
set_option maxRecDepth 100000 in
theorem t_R_comesUpTo {l : Launch} {D : va_G} {cA : Nat → ClassId} {ad : Nat → Nat → Nat} {al : List (Nat × Nat)} {θ : ax_Θ} {ρ : ax_ρ} {g : Nat} (h0 : ax_M0 al) (hg : ax_Mg al g) (hr : ax_rd ρ g) {a1 : Int32} {a2 : Int32} {a3 : Int32} {s : ax_σ} {r0 : Int32} (h : f_R_comesUpTo g a1 a2 a3 s = some r0) : ax_T l D cA ad al θ y_R_comesUpTo (.code y_R_comesUpTo prog_6_method_34_code 10 (some .boolean)) 1 [.inr (0, 25), .inl (.int (a1)), .inl (.int (a2)), .inl (.int (a3))] (ax_m s ρ) (some (.inl (.int r0))) (ax_m s ρ) := by
  refine ax_T_of (own := "CipherNotation$Reader") (by decide) rfl (Nat.le_of_ble_eq_true rfl) [(0, .inr (0, 25)), (1, .inl (.int (a1))), (2, .inl (.int (a2))), (3, .inl (.int (a3)))] rfl ?_
  intro G hA
  have hB := hA.B
  have hK := hB.K
  have hal := hB.la
  unfold f_R_comesUpTo at h
  obtain ⟨b1, h⟩ := ax_gd h
  refine ax_bk hK (ax_fc (ax_v_ld (ax_r_aload_n (i := 0) d_R_comesUpTo_0 rfl)) (ax_fc (ax_w_gf (e := (some (g, 4))) hal d_R_comesUpTo_1 fd_R_45) (ax_fc (ax_w_gf (e := none) hal d_R_comesUpTo_4 fd_R_282) (ax_fc (ax_v_ld (ax_r_iload_n (i := 1) d_R_comesUpTo_7 rfl)) (ax_fc (ax_w_lald hal d_R_comesUpTo_8) (ax_fc (ax_v_ld (ax_r_iload_n (i := 3) d_R_comesUpTo_9 rfl)) ax_fn)))))) (y := (10, [(0, .inr (0, 25)), (1, .inl (.int (a1))), (2, .inl (.int (a2))), (3, .inl (.int (a3)))], [.inl (.int (a3)), .inl (.long ((s.2 g 7 (a1).toNatClampNeg)))], ax_m (s) ρ)) rfl ⟨trivial, ⟨(h0 25 rfl), hr.2.1⟩, (hg 4 rfl), trivial, ⟨(hg 7 rfl), ax_inp b1⟩, trivial, trivial⟩ ?_
  obtain ⟨w17, hw17, h⟩ := ax_bd h
  have KEw17 : ∀ (v4 : Int32), w17 = v4 → ax_R G 10 0 0 (23, [(0, .inr (0, 25)), (1, .inl (.int (a1))), (2, .inl (.int (a2))), (3, .inl (.int (a3)))], [.inl (.int (v4)), .inl (.long ((s.2 g 7 (a1).toNatClampNeg)))], ax_m (s) ρ) := by
    intro v4 e9
    subst w17
    try dsimp only at h
    obtain ⟨b5, h⟩ := ax_gd h
    refine ax_bk hK (ax_fc (ax_v_pu (ax_r_i2l d_R_comesUpTo_23)) (ax_fc (ax_v_pu (ax_r_lsub d_R_comesUpTo_24)) (ax_fc (ax_v_so (ax_r_lstore d_R_comesUpTo_25)) (ax_fc (ax_v_ld (ax_r_aload_n (i := 0) d_R_comesUpTo_27 rfl)) (ax_fc (ax_w_gf (e := (some (g, 4))) hal d_R_comesUpTo_28 fd_R_45) (ax_fc (ax_w_gf (e := none) hal d_R_comesUpTo_31 fd_R_285) (ax_fc (ax_v_ld (ax_r_iload_n (i := 1) d_R_comesUpTo_34 rfl)) (ax_fc (ax_w_lald hal d_R_comesUpTo_35) (ax_fc (ax_v_ld (ax_r_iload_n (i := 3) d_R_comesUpTo_36 rfl)) ax_fn))))))))) (y := (37, [(4, .inl (.long (((s.2 g 7 (a1).toNatClampNeg) - (v4).toInt64)))), (0, .inr (0, 25)), (1, .inl (.int (a1))), (2, .inl (.int (a2))), (3, .inl (.int (a3)))], [.inl (.int (a3)), .inl (.long ((s.2 g 8 (a1).toNatClampNeg)))], ax_m (s) ρ)) rfl ⟨trivial, trivial, trivial, trivial, ⟨(h0 25 rfl), hr.2.1⟩, (hg 4 rfl), trivial, ⟨(hg 8 rfl), ax_inp b5⟩, trivial, trivial⟩ ?_
    obtain ⟨w18, hw18, h⟩ := ax_bd h
    have KEw18 : ∀ (v8 : Int32), w18 = v8 → ax_R G 10 0 0 (50, [(0, .inr (0, 25)), (1, .inl (.int (a1))), (2, .inl (.int (a2))), (4, .inl (.long (((s.2 g 7 (a1).toNatClampNeg) - (v4).toInt64))))], [.inl (.int (v8)), .inl (.long ((s.2 g 8 (a1).toNatClampNeg)))], ax_m (s) ρ) := by
      intro v8 e9
      subst w18
      try dsimp only at h
      obtain ⟨b9, h⟩ := ax_gd h
      obtain ⟨b10, h⟩ := ax_gd h
      refine ax_bk hK (ax_fc (ax_v_pu (ax_r_i2l d_R_comesUpTo_50)) (ax_fc (ax_v_pu (ax_r_lsub d_R_comesUpTo_51)) (ax_fc (ax_v_so (ax_r_lstore d_R_comesUpTo_52)) (ax_fc (ax_v_ld (ax_r_aload_n (i := 0) d_R_comesUpTo_54 rfl)) (ax_fc (ax_w_gf (e := (some (g, 4))) hal d_R_comesUpTo_55 fd_R_45) (ax_fc (ax_w_gf (e := none) hal d_R_comesUpTo_58 fd_R_260) (ax_fc (ax_v_ld (ax_r_iload_n (i := 1) d_R_comesUpTo_61 rfl)) (ax_fc (ax_w_lald hal d_R_comesUpTo_62) (ax_fc (ax_v_pu (ax_r_lconst (v := 0) d_R_comesUpTo_63 (by decide))) (ax_fc (ax_v_ld (ax_r_lload d_R_comesUpTo_64)) (ax_fc (ax_v_ld (ax_r_aload_n (i := 0) d_R_comesUpTo_66 rfl)) (ax_fc (ax_w_gf (e := none) hal d_R_comesUpTo_67 fd_R_25) (ax_fc (ax_v_pu (ax_r_iconst (v := 0) d_R_comesUpTo_70 (by decide))) (ax_fc (ax_w_iald hal d_R_comesUpTo_71) (ax_fc (ax_v_pu (ax_r_iconst (v := 1) d_R_comesUpTo_72 (by decide))) (ax_fc (ax_v_pu (ax_r_isub d_R_comesUpTo_73)) (ax_fc (ax_v_pu (ax_r_i2l d_R_comesUpTo_74)) (ax_fc (ax_v_pu (ax_r_lmul d_R_comesUpTo_75)) ax_fn)))))))))))))))))) (y := (76, [(6, .inl (.long (((s.2 g 8 (a1).toNatClampNeg) - (v8).toInt64)))), (0, .inr (0, 25)), (1, .inl (.int (a1))), (2, .inl (.int (a2))), (4, .inl (.long (((s.2 g 7 (a1).toNatClampNeg) - (v4).toInt64))))], [.inl (.long ((((s.2 g 7 (a1).toNatClampNeg) - (v4).toInt64) * (((s.1 0 30 ((0 : Int32)).toNatClampNeg) - (1 : Int32))).toInt64))), .inl (.long ((0 : Int64))), .inl (.long ((s.2 g 6 (a1).toNatClampNeg)))], ax_m (s) ρ)) rfl ⟨trivial, trivial, trivial, trivial, ⟨(h0 25 rfl), hr.2.1⟩, (hg 4 rfl), trivial, ⟨(hg 6 rfl), ax_inp b9⟩, trivial, trivial, trivial, (h0 25 rfl), trivial, ⟨(h0 30 rfl), ax_inp b10⟩, trivial, trivial, trivial, trivial, trivial⟩ ?_
      obtain ⟨r11, q12, h⟩ := ax_bd h
      refine ax_bS (rest := [.inl (.long ((s.2 g 6 (a1).toNatClampNeg)))]) hB (t_Math_max_JJ q12) cw_R_288 sm_Math_max_JJ d_R_comesUpTo_76 (by decide) (by decide) rfl rfl (Nat.le_of_ble_eq_true rfl) ?_
      change ax_R G 10 0 0 (79, [(6, .inl (.long (((s.2 g 8 (a1).toNatClampNeg) - (v8).toInt64)))), (0, .inr (0, 25)), (1, .inl (.int (a1))), (2, .inl (.int (a2))), (4, .inl (.long (((s.2 g 7 (a1).toNatClampNeg) - (v4).toInt64))))], [.inl (.long (r11)), .inl (.long ((s.2 g 6 (a1).toNatClampNeg)))], ax_m (s) ρ)
      obtain ⟨b13, h⟩ := ax_gd h
      refine ax_bk hK (ax_fc (ax_v_pu (ax_r_ladd d_R_comesUpTo_79)) (ax_fc (ax_v_pu (ax_r_lconst (v := 0) d_R_comesUpTo_80 (by decide))) (ax_fc (ax_v_ld (ax_r_lload d_R_comesUpTo_81)) (ax_fc (ax_v_ld (ax_r_aload_n (i := 0) d_R_comesUpTo_83 rfl)) (ax_fc (ax_w_gf (e := none) hal d_R_comesUpTo_84 fd_R_25) (ax_fc (ax_v_pu (ax_r_iconst (v := 1) d_R_comesUpTo_87 (by decide))) (ax_fc (ax_w_iald hal d_R_comesUpTo_88) (ax_fc (ax_v_pu (ax_r_iconst (v := 1) d_R_comesUpTo_89 (by decide))) (ax_fc (ax_v_pu (ax_r_isub d_R_comesUpTo_90)) (ax_fc (ax_v_pu (ax_r_i2l d_R_comesUpTo_91)) (ax_fc (ax_v_pu (ax_r_lmul d_R_comesUpTo_92)) ax_fn))))))))))) (y := (93, [(6, .inl (.long (((s.2 g 8 (a1).toNatClampNeg) - (v8).toInt64)))), (0, .inr (0, 25)), (1, .inl (.int (a1))), (2, .inl (.int (a2))), (4, .inl (.long (((s.2 g 7 (a1).toNatClampNeg) - (v4).toInt64))))], [.inl (.long ((((s.2 g 8 (a1).toNatClampNeg) - (v8).toInt64) * (((s.1 0 30 ((1 : Int32)).toNatClampNeg) - (1 : Int32))).toInt64))), .inl (.long ((0 : Int64))), .inl (.long (((s.2 g 6 (a1).toNatClampNeg) + r11)))], ax_m (s) ρ)) rfl ⟨trivial, trivial, trivial, trivial, (h0 25 rfl), trivial, ⟨(h0 30 rfl), ax_inp b13⟩, trivial, trivial, trivial, trivial, trivial⟩ ?_
      obtain ⟨r14, q15, h⟩ := ax_bd h
      refine ax_bS (rest := [.inl (.long (((s.2 g 6 (a1).toNatClampNeg) + r11)))]) hB (t_Math_max_JJ q15) cw_R_288 sm_Math_max_JJ d_R_comesUpTo_93 (by decide) (by decide) rfl rfl (Nat.le_of_ble_eq_true rfl) ?_
      change ax_R G 10 0 0 (96, [(6, .inl (.long (((s.2 g 8 (a1).toNatClampNeg) - (v8).toInt64)))), (0, .inr (0, 25)), (1, .inl (.int (a1))), (2, .inl (.int (a2))), (4, .inl (.long (((s.2 g 7 (a1).toNatClampNeg) - (v4).toInt64))))], [.inl (.long (r14)), .inl (.long (((s.2 g 6 (a1).toNatClampNeg) + r11)))], ax_m (s) ρ)
      refine ax_bk hK (ax_fc (ax_v_pu (ax_r_ladd d_R_comesUpTo_96)) (ax_fc (ax_v_so (ax_r_lstore d_R_comesUpTo_97)) (ax_fc (ax_v_ld (ax_r_lload d_R_comesUpTo_99)) (ax_fc (ax_v_ld (ax_r_iload_n (i := 2) d_R_comesUpTo_101 rfl)) (ax_fc (ax_v_pu (ax_r_i2l d_R_comesUpTo_102)) (ax_fc (ax_v_pu (ax_r_lcmp d_R_comesUpTo_103)) ax_fn)))))) (y := (104, [(8, .inl (.long ((((s.2 g 6 (a1).toNatClampNeg) + r11) + r14)))), (6, .inl (.long (((s.2 g 8 (a1).toNatClampNeg) - (v8).toInt64)))), (0, .inr (0, 25)), (1, .inl (.int (a1))), (2, .inl (.int (a2))), (4, .inl (.long (((s.2 g 7 (a1).toNatClampNeg) - (v4).toInt64))))], [.inl (.int ((lg_cmp (((s.2 g 6 (a1).toNatClampNeg) + r11) + r14) (a2).toInt64)))], ax_m (s) ρ)) rfl ⟨trivial, trivial, trivial, trivial, trivial, trivial, trivial⟩ ?_
      refine ax_if_lt (tgt := 111) hK d_R_comesUpTo_104 (by decide) (fun c16 => ?_) (fun c16 => ?_)
      · replace h := ax_it c16 h
        refine ax_bk hK (ax_fc (ax_v_pu (ax_r_iconst (v := 0) d_R_comesUpTo_111 (by decide))) ax_fn) (y := (112, [(8, .inl (.long ((((s.2 g 6 (a1).toNatClampNeg) + r11) + r14)))), (6, .inl (.long (((s.2 g 8 (a1).toNatClampNeg) - (v8).toInt64)))), (0, .inr (0, 25)), (1, .inl (.int (a1))), (2, .inl (.int (a2))), (4, .inl (.long (((s.2 g 7 (a1).toNatClampNeg) - (v4).toInt64))))], [.inl (.int ((0 : Int32)))], ax_m (s) ρ)) rfl ⟨trivial, trivial⟩ ?_
        cases h
        exact ax_zret hA (by decide) d_R_comesUpTo_112
      · replace h := ax_if c16 h
        refine ax_bk hK (ax_fc (ax_v_pu (ax_r_iconst (v := 1) d_R_comesUpTo_107 (by decide))) (ax_fc (ax_v_go (tgt := 112) d_R_comesUpTo_108 (by decide)) ax_fn)) (y := (112, [(8, .inl (.long ((((s.2 g 6 (a1).toNatClampNeg) + r11) + r14)))), (6, .inl (.long (((s.2 g 8 (a1).toNatClampNeg) - (v8).toInt64)))), (0, .inr (0, 25)), (1, .inl (.int (a1))), (2, .inl (.int (a2))), (4, .inl (.long (((s.2 g 7 (a1).toNatClampNeg) - (v4).toInt64))))], [.inl (.int ((1 : Int32)))], ax_m (s) ρ)) rfl ⟨trivial, trivial, trivial⟩ ?_
        cases h
        exact ax_zret hA (by decide) d_R_comesUpTo_112
    clear h
    have h := hw18
    refine ax_if_eq (tgt := 49) hK d_R_comesUpTo_37 (by decide) (fun c7 => ?_) (fun c7 => ?_)
    · replace h := ax_it c7 h
      refine ax_bk hK (ax_fc (ax_v_pu (ax_r_iconst (v := 0) d_R_comesUpTo_49 (by decide))) ax_fn) (y := (50, [(4, .inl (.long (((s.2 g 7 (a1).toNatClampNeg) - (v4).toInt64)))), (0, .inr (0, 25)), (1, .inl (.int (a1))), (2, .inl (.int (a2))), (3, .inl (.int (a3)))], [.inl (.int ((0 : Int32))), .inl (.long ((s.2 g 8 (a1).toNatClampNeg)))], ax_m (s) ρ)) rfl ⟨trivial, trivial⟩ ?_
      cases h
      exact ax_Lsub [1, 2, 3, 0] rfl (KEw18 _ rfl)
    · replace h := ax_if c7 h
      obtain ⟨b6, h⟩ := ax_gd h
      refine ax_bk hK (ax_fc (ax_v_ld (ax_r_aload_n (i := 0) d_R_comesUpTo_40 rfl)) (ax_fc (ax_w_gf (e := none) hal d_R_comesUpTo_41 fd_R_28) (ax_fc (ax_v_pu (ax_r_iconst (v := 1) d_R_comesUpTo_44 (by decide))) (ax_fc (ax_w_iald hal d_R_comesUpTo_45) (ax_fc (ax_v_go (tgt := 50) d_R_comesUpTo_46 (by decide)) ax_fn))))) (y := (50, [(4, .inl (.long (((s.2 g 7 (a1).toNatClampNeg) - (v4).toInt64)))), (0, .inr (0, 25)), (1, .inl (.int (a1))), (2, .inl (.int (a2))), (3, .inl (.int (a3)))], [.inl (.int ((s.1 0 31 ((1 : Int32)).toNatClampNeg))), .inl (.long ((s.2 g 8 (a1).toNatClampNeg)))], ax_m (s) ρ)) rfl ⟨trivial, (h0 25 rfl), trivial, ⟨(h0 31 rfl), ax_inp b6⟩, trivial, trivial⟩ ?_
      cases h
      exact ax_Lsub [1, 2, 3, 0] rfl (KEw18 _ rfl)
  clear h
  have h := hw17
  refine ax_if_eq (tgt := 22) hK d_R_comesUpTo_10 (by decide) (fun c3 => ?_) (fun c3 => ?_)
  · replace h := ax_it c3 h
    refine ax_bk hK (ax_fc (ax_v_pu (ax_r_iconst (v := 0) d_R_comesUpTo_22 (by decide))) ax_fn) (y := (23, [(0, .inr (0, 25)), (1, .inl (.int (a1))), (2, .inl (.int (a2))), (3, .inl (.int (a3)))], [.inl (.int ((0 : Int32))), .inl (.long ((s.2 g 7 (a1).toNatClampNeg)))], ax_m (s) ρ)) rfl ⟨trivial, trivial⟩ ?_
    cases h
    exact ax_Lsub [0, 1, 2, 3] rfl (KEw17 _ rfl)
  · replace h := ax_if c3 h
    obtain ⟨b2, h⟩ := ax_gd h
    refine ax_bk hK (ax_fc (ax_v_ld (ax_r_aload_n (i := 0) d_R_comesUpTo_13 rfl)) (ax_fc (ax_w_gf (e := none) hal d_R_comesUpTo_14 fd_R_28) (ax_fc (ax_v_pu (ax_r_iconst (v := 0) d_R_comesUpTo_17 (by decide))) (ax_fc (ax_w_iald hal d_R_comesUpTo_18) (ax_fc (ax_v_go (tgt := 23) d_R_comesUpTo_19 (by decide)) ax_fn))))) (y := (23, [(0, .inr (0, 25)), (1, .inl (.int (a1))), (2, .inl (.int (a2))), (3, .inl (.int (a3)))], [.inl (.int ((s.1 0 31 ((0 : Int32)).toNatClampNeg))), .inl (.long ((s.2 g 7 (a1).toNatClampNeg)))], ax_m (s) ρ)) rfl ⟨trivial, (h0 25 rfl), trivial, ⟨(h0 31 rfl), ax_inp b2⟩, trivial, trivial⟩ ?_
    cases h
    exact ax_Lsub [0, 1, 2, 3] rfl (KEw17 _ rfl)
def y_R_checkIndexesOf : MethodName := ⟨"CipherNotation$Reader", "checkIndexesOf", "(I)V"⟩
theorem d_R_checkIndexesOf_0 : decode prog_6_method_33_code 0 = .ok (.aload_n 0, 1) := by decide +kernel
theorem d_R_checkIndexesOf_1 : decode prog_6_method_33_code 1 = .ok (.getfield (50), 3) := by decide +kernel
theorem d_R_checkIndexesOf_4 : decode prog_6_method_33_code 4 = .ok (.getfield (214), 3) := by decide +kernel
theorem d_R_checkIndexesOf_7 : decode prog_6_method_33_code 7 = .ok (.iload_n 1, 1) := by decide +kernel
theorem d_R_checkIndexesOf_8 : decode prog_6_method_33_code 8 = .ok (.iaload, 1) := by decide +kernel
theorem d_R_checkIndexesOf_9 : decode prog_6_method_33_code 9 = .ok (.bipush (62), 2) := by decide +kernel
theorem d_R_checkIndexesOf_11 : decode prog_6_method_33_code 11 = .ok (.if_icmp .ne (7), 3) := by decide +kernel
theorem d_R_checkIndexesOf_14 : decode prog_6_method_33_code 14 = .ok (.iconst 1, 1) := by decide +kernel
theorem d_R_checkIndexesOf_15 : decode prog_6_method_33_code 15 = .ok (.goto (4), 3) := by decide +kernel
theorem d_R_checkIndexesOf_18 : decode prog_6_method_33_code 18 = .ok (.iconst 0, 1) := by decide +kernel
theorem d_R_checkIndexesOf_19 : decode prog_6_method_33_code 19 = .ok (.istore_n 2, 1) := by decide +kernel
theorem d_R_checkIndexesOf_20 : decode prog_6_method_33_code 20 = .ok (.iload_n 2, 1) := by decide +kernel
theorem d_R_checkIndexesOf_21 : decode prog_6_method_33_code 21 = .ok (.ifCond .eq (15), 3) := by decide +kernel
theorem d_R_checkIndexesOf_24 : decode prog_6_method_33_code 24 = .ok (.aload_n 0, 1) := by decide +kernel
theorem d_R_checkIndexesOf_25 : decode prog_6_method_33_code 25 = .ok (.getfield (50), 3) := by decide +kernel
theorem d_R_checkIndexesOf_28 : decode prog_6_method_33_code 28 = .ok (.getfield (177), 3) := by decide +kernel
theorem d_R_checkIndexesOf_31 : decode prog_6_method_33_code 31 = .ok (.iload_n 1, 1) := by decide +kernel
theorem d_R_checkIndexesOf_32 : decode prog_6_method_33_code 32 = .ok (.iaload, 1) := by decide +kernel
theorem d_R_checkIndexesOf_33 : decode prog_6_method_33_code 33 = .ok (.goto (12), 3) := by decide +kernel
theorem d_R_checkIndexesOf_36 : decode prog_6_method_33_code 36 = .ok (.aload_n 0, 1) := by decide +kernel
theorem d_R_checkIndexesOf_37 : decode prog_6_method_33_code 37 = .ok (.getfield (35), 3) := by decide +kernel
theorem d_R_checkIndexesOf_40 : decode prog_6_method_33_code 40 = .ok (.getfield (107), 3) := by decide +kernel
theorem d_R_checkIndexesOf_43 : decode prog_6_method_33_code 43 = .ok (.iconst 4, 1) := by decide +kernel
theorem d_R_checkIndexesOf_44 : decode prog_6_method_33_code 44 = .ok (.iaload, 1) := by decide +kernel
theorem d_R_checkIndexesOf_45 : decode prog_6_method_33_code 45 = .ok (.istore_n 3, 1) := by decide +kernel
theorem d_R_checkIndexesOf_46 : decode prog_6_method_33_code 46 = .ok (.aload_n 0, 1) := by decide +kernel
theorem d_R_checkIndexesOf_47 : decode prog_6_method_33_code 47 = .ok (.getfield (50), 3) := by decide +kernel
theorem d_R_checkIndexesOf_50 : decode prog_6_method_33_code 50 = .ok (.getfield (274), 3) := by decide +kernel
theorem d_R_checkIndexesOf_53 : decode prog_6_method_33_code 53 = .ok (.iload_n 1, 1) := by decide +kernel
theorem d_R_checkIndexesOf_54 : decode prog_6_method_33_code 54 = .ok (.iaload, 1) := by decide +kernel
theorem d_R_checkIndexesOf_55 : decode prog_6_method_33_code 55 = .ok (.istore (4), 2) := by decide +kernel
theorem d_R_checkIndexesOf_57 : decode prog_6_method_33_code 57 = .ok (.iload (4), 2) := by decide +kernel
theorem d_R_checkIndexesOf_59 : decode prog_6_method_33_code 59 = .ok (.aload_n 0, 1) := by decide +kernel
theorem d_R_checkIndexesOf_60 : decode prog_6_method_33_code 60 = .ok (.getfield (50), 3) := by decide +kernel
theorem d_R_checkIndexesOf_63 : decode prog_6_method_33_code 63 = .ok (.getfield (186), 3) := by decide +kernel
theorem d_R_checkIndexesOf_66 : decode prog_6_method_33_code 66 = .ok (.iload_n 1, 1) := by decide +kernel
theorem d_R_checkIndexesOf_67 : decode prog_6_method_33_code 67 = .ok (.iaload, 1) := by decide +kernel
theorem d_R_checkIndexesOf_68 : decode prog_6_method_33_code 68 = .ok (.if_icmp .ge (106), 3) := by decide +kernel
theorem d_R_checkIndexesOf_71 : decode prog_6_method_33_code 71 = .ok (.aload_n 0, 1) := by decide +kernel
theorem d_R_checkIndexesOf_72 : decode prog_6_method_33_code 72 = .ok (.getfield (45), 3) := by decide +kernel
theorem d_R_checkIndexesOf_75 : decode prog_6_method_33_code 75 = .ok (.getfield (277), 3) := by decide +kernel
theorem d_R_checkIndexesOf_78 : decode prog_6_method_33_code 78 = .ok (.iload (4), 2) := by decide +kernel
theorem d_R_checkIndexesOf_80 : decode prog_6_method_33_code 80 = .ok (.iaload, 1) := by decide +kernel
theorem d_R_checkIndexesOf_81 : decode prog_6_method_33_code 81 = .ok (.istore (5), 2) := by decide +kernel
theorem d_R_checkIndexesOf_83 : decode prog_6_method_33_code 83 = .ok (.iload (5), 2) := by decide +kernel
theorem d_R_checkIndexesOf_85 : decode prog_6_method_33_code 85 = .ok (.bipush (75), 2) := by decide +kernel
theorem d_R_checkIndexesOf_87 : decode prog_6_method_33_code 87 = .ok (.if_icmp .ne (22), 3) := by decide +kernel
theorem d_R_checkIndexesOf_90 : decode prog_6_method_33_code 90 = .ok (.aload_n 0, 1) := by decide +kernel
theorem d_R_checkIndexesOf_91 : decode prog_6_method_33_code 91 = .ok (.iload (4), 2) := by decide +kernel
theorem d_R_checkIndexesOf_93 : decode prog_6_method_33_code 93 = .ok (.aload_n 0, 1) := by decide +kernel
theorem d_R_checkIndexesOf_94 : decode prog_6_method_33_code 94 = .ok (.getfield (35), 3) := by decide +kernel
theorem d_R_checkIndexesOf_97 : decode prog_6_method_33_code 97 = .ok (.getfield (107), 3) := by decide +kernel
theorem d_R_checkIndexesOf_100 : decode prog_6_method_33_code 100 = .ok (.iconst 2, 1) := by decide +kernel
theorem d_R_checkIndexesOf_101 : decode prog_6_method_33_code 101 = .ok (.iaload, 1) := by decide +kernel
theorem d_R_checkIndexesOf_102 : decode prog_6_method_33_code 102 = .ok (.iconst 0, 1) := by decide +kernel
theorem d_R_checkIndexesOf_103 : decode prog_6_method_33_code 103 = .ok (.invokevirtual (278), 3) := by decide +kernel
theorem d_R_checkIndexesOf_106 : decode prog_6_method_33_code 106 = .ok (.ifCond .ne (21), 3) := by decide +kernel
theorem d_R_checkIndexesOf_109 : decode prog_6_method_33_code 109 = .ok (.iload (5), 2) := by decide +kernel
theorem d_R_checkIndexesOf_111 : decode prog_6_method_33_code 111 = .ok (.bipush (83), 2) := by decide +kernel
theorem d_R_checkIndexesOf_113 : decode prog_6_method_33_code 113 = .ok (.if_icmp .ne (18), 3) := by decide +kernel
theorem d_R_checkIndexesOf_116 : decode prog_6_method_33_code 116 = .ok (.aload_n 0, 1) := by decide +kernel
theorem d_R_checkIndexesOf_117 : decode prog_6_method_33_code 117 = .ok (.iload (4), 2) := by decide +kernel
theorem d_R_checkIndexesOf_119 : decode prog_6_method_33_code 119 = .ok (.iload_n 3, 1) := by decide +kernel
theorem d_R_checkIndexesOf_120 : decode prog_6_method_33_code 120 = .ok (.iload_n 2, 1) := by decide +kernel
theorem d_R_checkIndexesOf_121 : decode prog_6_method_33_code 121 = .ok (.invokevirtual (278), 3) := by decide +kernel
theorem d_R_checkIndexesOf_124 : decode prog_6_method_33_code 124 = .ok (.ifCond .eq (7), 3) := by decide +kernel
theorem d_R_checkIndexesOf_127 : decode prog_6_method_33_code 127 = .ok (.iconst 1, 1) := by decide +kernel
theorem d_R_checkIndexesOf_128 : decode prog_6_method_33_code 128 = .ok (.goto (4), 3) := by decide +kernel
theorem d_R_checkIndexesOf_131 : decode prog_6_method_33_code 131 = .ok (.iconst 0, 1) := by decide +kernel
theorem d_R_checkIndexesOf_132 : decode prog_6_method_33_code 132 = .ok (.istore (6), 2) := by decide +kernel
theorem d_R_checkIndexesOf_134 : decode prog_6_method_33_code 134 = .ok (.iload (6), 2) := by decide +kernel
theorem d_R_checkIndexesOf_136 : decode prog_6_method_33_code 136 = .ok (.ifCond .eq (32), 3) := by decide +kernel
theorem d_R_checkIndexesOf_139 : decode prog_6_method_33_code 139 = .ok (.aload_n 0, 1) := by decide +kernel
theorem d_R_checkIndexesOf_140 : decode prog_6_method_33_code 140 = .ok (.getfield (45), 3) := by decide +kernel
theorem d_R_checkIndexesOf_143 : decode prog_6_method_33_code 143 = .ok (.getfield (264), 3) := by decide +kernel
theorem d_R_checkIndexesOf_146 : decode prog_6_method_33_code 146 = .ok (.iload (4), 2) := by decide +kernel
theorem d_R_checkIndexesOf_148 : decode prog_6_method_33_code 148 = .ok (.iaload, 1) := by decide +kernel
theorem d_R_checkIndexesOf_149 : decode prog_6_method_33_code 149 = .ok (.iconst (-1), 1) := by decide +kernel
theorem d_R_checkIndexesOf_150 : decode prog_6_method_33_code 150 = .ok (.if_icmp .eq (18), 3) := by decide +kernel
theorem d_R_checkIndexesOf_153 : decode prog_6_method_33_code 153 = .ok (.aload_n 0, 1) := by decide +kernel
theorem d_R_checkIndexesOf_154 : decode prog_6_method_33_code 154 = .ok (.aload_n 0, 1) := by decide +kernel
theorem d_R_checkIndexesOf_155 : decode prog_6_method_33_code 155 = .ok (.getfield (45), 3) := by decide +kernel
theorem d_R_checkIndexesOf_158 : decode prog_6_method_33_code 158 = .ok (.getfield (264), 3) := by decide +kernel
theorem d_R_checkIndexesOf_161 : decode prog_6_method_33_code 161 = .ok (.iload (4), 2) := by decide +kernel
theorem d_R_checkIndexesOf_163 : decode prog_6_method_33_code 163 = .ok (.iaload, 1) := by decide +kernel
theorem d_R_checkIndexesOf_164 : decode prog_6_method_33_code 164 = .ok (.iconst 3, 1) := by decide +kernel
theorem d_R_checkIndexesOf_165 : decode prog_6_method_33_code 165 = .ok (.invokevirtual (100), 3) := by decide +kernel
theorem d_R_checkIndexesOf_168 : decode prog_6_method_33_code 168 = .ok (.iinc 4 (1), 3) := by decide +kernel
theorem d_R_checkIndexesOf_171 : decode prog_6_method_33_code 171 = .ok (.goto (-114), 3) := by decide +kernel
theorem d_R_checkIndexesOf_174 : decode prog_6_method_33_code 174 = .ok (.return_, 1) := by decide +kernel
theorem fd_R_277 : ax_fd "CipherNotation$Reader" 277 0 0 := ⟨nC0, nT0, 9, nY0, rfl, nW0, by decide, nw_1 136 (by decide +kernel) rfl, nO0, nA0⟩
set_option maxRecDepth 100000 in
theorem cw_R_278 : ax_cw "CipherNotation$Reader" 278 y_R_comesUpTo (.code y_R_comesUpTo prog_6_method_34_code 10 (some .boolean)) 3 := ⟨nw_3 78 (by decide +kernel) rfl, nw_1 2 (by decide +kernel) rfl, nw_3 81 rfl rfl, by decide +kernel, by decide +kernel⟩
theorem im_R_comesUpTo : Cond.instanceMethod y_R_comesUpTo ∈ ax_tbl := nw_3 80 (by decide +kernel) rfl
theorem se_R_comesUpTo : Cond.selects y_R_comesUpTo.cls y_R_comesUpTo y_R_comesUpTo ∈ ax_tbl := nw_sel 29 (by decide +kernel) (by decide +kernel)
def lp_R_checkIndexesOf_57 (F : Nat) (g : Nat) (x1 : Int32) (x2 : Int32) (x3 : Int32) : Nat → Int32 → ax_σ → Option (ax_σ)
  | 0, _, _ => none
  | n + 1, x4, s =>
    bif ax_in x1 120 then
    if (s.1 g 18 (x1).toNatClampNeg) ≤ x4 then
      some s
    else
      bif ax_in x4 240 then
      Option.bind (
        Option.bind (
          if (s.1 g 5 (x4).toNatClampNeg) = (75 : Int32) then
            bif ax_in (2 : Int32) 8 then
            Option.bind (f_R_comesUpTo g x4 (s.1 g 1 ((2 : Int32)).toNatClampNeg) (0 : Int32) s) (fun r12 =>
              if r12 = (0 : Int32) then
                some true
              else
                some false)
            else none
          else
            some true) (fun w21 => bif w21 then
          Option.bind (
            if (s.1 g 5 (x4).toNatClampNeg) = (83 : Int32) then
              Option.bind (f_R_comesUpTo g x4 x3 x2 s) (fun r16 =>
                if r16 = (0 : Int32) then
                  some true
                else
                  some false)
            else
              some true) (fun w20 => bif w20 then
            some (0 : Int32)
          else
            some (1 : Int32))
        else
          some (1 : Int32))) (fun v22 =>
        Option.bind (
          if v22 = (0 : Int32) then
            some true
          else
            bif ax_in x4 240 then
            if (s.1 g 9 (x4).toNatClampNeg) = (-1 : Int32) then
              some true
            else
              some false
            else none) (fun w29 => bif w29 then
          lp_R_checkIndexesOf_57 F g x1 x2 x3 n (x4 + (1 : Int32)) s
        else
          bif ax_in x4 240 then
          Option.bind (f_R_note g (s.1 g 9 (x4).toNatClampNeg) (3 : Int32) s) (fun s27 =>
            lp_R_checkIndexesOf_57 F g x1 x2 x3 n (x4 + (1 : Int32)) s27)
          else none))
      else none
    else none
set_option maxHeartbeats 4000000 in
set_option maxRecDepth 100000 in
theorem pl_R_checkIndexesOf_57 {D : va_G} {cA : Nat → ClassId} {ad : Nat → Nat → Nat} {al : List (Nat × Nat)} {θ : ax_Θ} {l : Launch} {ρ : ax_ρ} {G : ax_G} {F g : Nat} {x1 : Int32} {x2 : Int32} {x3 : Int32} (h0 : ax_M0 al) (hg : ax_Mg al g) (hr : ax_rd ρ g) (hB : ax_B D cA ad al θ l "CipherNotation$Reader" prog_6_method_33_code 7 2 G) : ∀ (n : Nat) {x4 : Int32} {s : ax_σ} (out : ax_σ), lp_R_checkIndexesOf_57 F g x1 x2 x3 n x4 s = some out → (∀ (es : ax_σ), out = es → ax_R G 7 0 0 (174, [], [], ax_m (es) ρ)) → ax_R G 7 0 0 (57, [(0, .inr (0, 25)), (1, .inl (.int (x1))), (2, .inl (.int (x2))), (3, .inl (.int (x3))), (4, .inl (.int (x4)))], [], ax_m (s) ρ) := by
  have hK := hB.K
  have hal := hB.la
  intro n
  induction n with
  | zero =>
    intro x4 s out h
    cases h
  | succ n ih =>
    intro x4 s out h KE
    rw [lp_R_checkIndexesOf_57] at h
    obtain ⟨b9, h⟩ := ax_gd h
    refine ax_bk hK (ax_fc (ax_v_ld (ax_r_iload d_R_checkIndexesOf_57)) (ax_fc (ax_v_ld (ax_r_aload_n (i := 0) d_R_checkIndexesOf_59 rfl)) (ax_fc (ax_w_gf (e := (some (g, 13))) hal d_R_checkIndexesOf_60 fd_R_50) (ax_fc (ax_w_gf (e := none) hal d_R_checkIndexesOf_63 fd_R_186) (ax_fc (ax_v_ld (ax_r_iload_n (i := 1) d_R_checkIndexesOf_66 rfl)) (ax_fc (ax_w_iald hal d_R_checkIndexesOf_67) ax_fn)))))) (y := (68, [(0, .inr (0, 25)), (1, .inl (.int (x1))), (2, .inl (.int (x2))), (3, .inl (.int (x3))), (4, .inl (.int (x4)))], [.inl (.int ((s.1 g 18 (x1).toNatClampNeg))), .inl (.int (x4))], ax_m (s) ρ)) rfl ⟨trivial, trivial, ⟨(h0 25 rfl), hr.2.2⟩, (hg 13 rfl), trivial, ⟨(hg 18 rfl), ax_inp b9⟩, trivial⟩ ?_
    refine ax_ic_ge (tgt := 174) hK d_R_checkIndexesOf_68 (by decide) (fun c30 => ?_) (fun c30 => ?_)
    · replace h := ax_it c30 h
      cases h
      exact ax_Lsub [] rfl (KE _ rfl)
    · replace h := ax_if c30 h
      obtain ⟨b10, h⟩ := ax_gd h
      refine ax_bk hK (ax_fc (ax_v_ld (ax_r_aload_n (i := 0) d_R_checkIndexesOf_71 rfl)) (ax_fc (ax_w_gf (e := (some (g, 4))) hal d_R_checkIndexesOf_72 fd_R_45) (ax_fc (ax_w_gf (e := none) hal d_R_checkIndexesOf_75 fd_R_277) (ax_fc (ax_v_ld (ax_r_iload d_R_checkIndexesOf_78)) (ax_fc (ax_w_iald hal d_R_checkIndexesOf_80) (ax_fc (ax_v_so (ax_r_istore d_R_checkIndexesOf_81)) (ax_fc (ax_v_ld (ax_r_iload d_R_checkIndexesOf_83)) (ax_fc (ax_v_pu (ax_r_bipush (v := 75) d_R_checkIndexesOf_85 (by decide))) ax_fn)))))))) (y := (87, [(5, .inl (.int ((s.1 g 5 (x4).toNatClampNeg)))), (0, .inr (0, 25)), (1, .inl (.int (x1))), (2, .inl (.int (x2))), (3, .inl (.int (x3))), (4, .inl (.int (x4)))], [.inl (.int ((75 : Int32))), .inl (.int ((s.1 g 5 (x4).toNatClampNeg)))], ax_m (s) ρ)) rfl ⟨trivial, ⟨(h0 25 rfl), hr.2.1⟩, (hg 4 rfl), trivial, ⟨(hg 5 rfl), ax_inp b10⟩, trivial, trivial, trivial, trivial⟩ ?_
      obtain ⟨w31, hw31, h⟩ := ax_bd h
      have KEw31 : ∀ (v22 : Int32), w31 = v22 → ax_R G 7 0 0 (132, [(0, .inr (0, 25)), (1, .inl (.int (x1))), (2, .inl (.int (x2))), (3, .inl (.int (x3))), (4, .inl (.int (x4)))], [.inl (.int (v22))], ax_m (s) ρ) := by
        intro v22 e9
        subst w31
        try dsimp only at h
        refine ax_bk hK (ax_fc (ax_v_so (ax_r_istore d_R_checkIndexesOf_132)) (ax_fc (ax_v_ld (ax_r_iload d_R_checkIndexesOf_134)) ax_fn)) (y := (136, [(6, .inl (.int (v22))), (0, .inr (0, 25)), (1, .inl (.int (x1))), (2, .inl (.int (x2))), (3, .inl (.int (x3))), (4, .inl (.int (x4)))], [.inl (.int (v22))], ax_m (s) ρ)) rfl ⟨trivial, trivial, trivial⟩ ?_
        obtain ⟨w29, hw29, h⟩ := ax_bd h
        have KTw29 : w29 = true → ax_R G 7 0 0 (168, [(0, .inr (0, 25)), (1, .inl (.int (x1))), (2, .inl (.int (x2))), (3, .inl (.int (x3))), (4, .inl (.int (x4)))], [], ax_m (s) ρ) := by
          intro e9
          subst w29
          replace h := ax_ct h
          refine ax_bk hK (ax_fc (ax_v_ii (d := 1) d_R_checkIndexesOf_168 (by decide)) (ax_fc (ax_v_go (tgt := 57) d_R_checkIndexesOf_171 (by decide)) ax_fn)) (y := (57, [(4, .inl (.int ((x4 + (1 : Int32))))), (0, .inr (0, 25)), (1, .inl (.int (x1))), (2, .inl (.int (x2))), (3, .inl (.int (x3)))], [], ax_m (s) ρ)) rfl ⟨trivial, trivial, trivial⟩ ?_
          exact ax_Lsub [1, 2, 3, 4, 0] rfl (ih _ h KE)
        have KFw29 : w29 = false → ax_R G 7 0 0 (153, [(0, .inr (0, 25)), (1, .inl (.int (x1))), (2, .inl (.int (x2))), (3, .inl (.int (x3))), (4, .inl (.int (x4)))], [], ax_m (s) ρ) := by
          intro e9
          subst w29
          replace h := ax_cf h
          obtain ⟨b26, h⟩ := ax_gd h
          refine ax_bk hK (ax_fc (ax_v_ld (ax_r_aload_n (i := 0) d_R_checkIndexesOf_153 rfl)) (ax_fc (ax_v_ld (ax_r_aload_n (i := 0) d_R_checkIndexesOf_154 rfl)) (ax_fc (ax_w_gf (e := (some (g, 4))) hal d_R_checkIndexesOf_155 fd_R_45) (ax_fc (ax_w_gf (e := none) hal d_R_checkIndexesOf_158 fd_R_264) (ax_fc (ax_v_ld (ax_r_iload d_R_checkIndexesOf_161)) (ax_fc (ax_w_iald hal d_R_checkIndexesOf_163) (ax_fc (ax_v_pu (ax_r_iconst (v := 3) d_R_checkIndexesOf_164 (by decide))) ax_fn))))))) (y := (165, [(0, .inr (0, 25)), (1, .inl (.int (x1))), (2, .inl (.int (x2))), (3, .inl (.int (x3))), (4, .inl (.int (x4)))], [.inl (.int ((3 : Int32))), .inl (.int ((s.1 g 9 (x4).toNatClampNeg))), .inr (0, 25)], ax_m (s) ρ)) rfl ⟨trivial, trivial, ⟨(h0 25 rfl), hr.2.1⟩, (hg 4 rfl), trivial, ⟨(hg 9 rfl), ax_inp b26⟩, trivial, trivial⟩ ?_
          obtain ⟨s27, q28, h⟩ := ax_bd h
          refine ax_bV (rest := []) hB (t_R_note h0 hg hr q28) cw_R_100 im_R_note se_R_note d_R_checkIndexesOf_165 (h0 25 rfl) rfl rfl (by decide) (by decide) rfl rfl (Nat.le_of_ble_eq_true rfl) ?_
          change ax_R G 7 0 0 (168, [(0, .inr (0, 25)), (1, .inl (.int (x1))), (2, .inl (.int (x2))), (3, .inl (.int (x3))), (4, .inl (.int (x4)))], [], ax_m (s27) ρ)
          refine ax_bk hK (ax_fc (ax_v_ii (d := 1) d_R_checkIndexesOf_168 (by decide)) (ax_fc (ax_v_go (tgt := 57) d_R_checkIndexesOf_171 (by decide)) ax_fn)) (y := (57, [(4, .inl (.int ((x4 + (1 : Int32))))), (0, .inr (0, 25)), (1, .inl (.int (x1))), (2, .inl (.int (x2))), (3, .inl (.int (x3)))], [], ax_m (s27) ρ)) rfl ⟨trivial, trivial, trivial⟩ ?_
          exact ax_Lsub [1, 2, 3, 4, 0] rfl (ih _ h KE)
        clear h
        have h := hw29
        refine ax_if_eq (tgt := 168) hK d_R_checkIndexesOf_136 (by decide) (fun c25 => ?_) (fun c25 => ?_)
        · replace h := ax_it c25 h
          cases h
          exact ax_Lsub [1, 2, 3, 4, 5] rfl (KTw29 rfl)
        · replace h := ax_if c25 h
          obtain ⟨b23, h⟩ := ax_gd h
          refine ax_bk hK (ax_fc (ax_v_ld (ax_r_aload_n (i := 0) d_R_checkIndexesOf_139 rfl)) (ax_fc (ax_w_gf (e := (some (g, 4))) hal d_R_checkIndexesOf_140 fd_R_45) (ax_fc (ax_w_gf (e := none) hal d_R_checkIndexesOf_143 fd_R_264) (ax_fc (ax_v_ld (ax_r_iload d_R_checkIndexesOf_146)) (ax_fc (ax_w_iald hal d_R_checkIndexesOf_148) (ax_fc (ax_v_pu (ax_r_iconst (v := -1) d_R_checkIndexesOf_149 (by decide))) ax_fn)))))) (y := (150, [(6, .inl (.int (v22))), (0, .inr (0, 25)), (1, .inl (.int (x1))), (2, .inl (.int (x2))), (3, .inl (.int (x3))), (4, .inl (.int (x4)))], [.inl (.int ((-1 : Int32))), .inl (.int ((s.1 g 9 (x4).toNatClampNeg)))], ax_m (s) ρ)) rfl ⟨trivial, ⟨(h0 25 rfl), hr.2.1⟩, (hg 4 rfl), trivial, ⟨(hg 9 rfl), ax_inp b23⟩, trivial, trivial⟩ ?_
          refine ax_ic_eq (tgt := 168) hK d_R_checkIndexesOf_150 (by decide) (fun c24 => ?_) (fun c24 => ?_)
          · replace h := ax_it c24 h
            cases h
            exact ax_Lsub [1, 2, 3, 4, 5] rfl (KTw29 rfl)
          · replace h := ax_if c24 h
            cases h
            exact ax_Lsub [1, 2, 3, 4, 5] rfl (KFw29 rfl)
      clear h
      have h := hw31
      obtain ⟨w21, hw21, h⟩ := ax_bd h
      have KTw21 : w21 = true → ax_R G 7 0 0 (109, [(0, .inr (0, 25)), (1, .inl (.int (x1))), (2, .inl (.int (x2))), (3, .inl (.int (x3))), (4, .inl (.int (x4))), (5, .inl (.int ((s.1 g 5 (x4).toNatClampNeg))))], [], ax_m (s) ρ) := by
        intro e9
        subst w21
        replace h := ax_ct h
        refine ax_bk hK (ax_fc (ax_v_ld (ax_r_iload d_R_checkIndexesOf_109)) (ax_fc (ax_v_pu (ax_r_bipush (v := 83) d_R_checkIndexesOf_111 (by decide))) ax_fn)) (y := (113, [(0, .inr (0, 25)), (1, .inl (.int (x1))), (2, .inl (.int (x2))), (3, .inl (.int (x3))), (4, .inl (.int (x4))), (5, .inl (.int ((s.1 g 5 (x4).toNatClampNeg))))], [.inl (.int ((83 : Int32))), .inl (.int ((s.1 g 5 (x4).toNatClampNeg)))], ax_m (s) ρ)) rfl ⟨trivial, trivial, trivial⟩ ?_
        obtain ⟨w20, hw20, h⟩ := ax_bd h
        have KTw20 : w20 = true → ax_R G 7 0 0 (131, [(0, .inr (0, 25)), (1, .inl (.int (x1))), (2, .inl (.int (x2))), (3, .inl (.int (x3))), (4, .inl (.int (x4)))], [], ax_m (s) ρ) := by
          intro e9
          subst w20
          replace h := ax_ct h
          refine ax_bk hK (ax_fc (ax_v_pu (ax_r_iconst (v := 0) d_R_checkIndexesOf_131 (by decide))) ax_fn) (y := (132, [(0, .inr (0, 25)), (1, .inl (.int (x1))), (2, .inl (.int (x2))), (3, .inl (.int (x3))), (4, .inl (.int (x4)))], [.inl (.int ((0 : Int32)))], ax_m (s) ρ)) rfl ⟨trivial, trivial⟩ ?_
          cases h
          exact ax_Lsub [0, 1, 2, 3, 4] rfl (KEw31 _ rfl)
        have KFw20 : w20 = false → ax_R G 7 0 0 (127, [(0, .inr (0, 25)), (1, .inl (.int (x1))), (2, .inl (.int (x2))), (3, .inl (.int (x3))), (4, .inl (.int (x4)))], [], ax_m (s) ρ) := by
          intro e9
          subst w20
          replace h := ax_cf h
          refine ax_bk hK (ax_fc (ax_v_pu (ax_r_iconst (v := 1) d_R_checkIndexesOf_127 (by decide))) (ax_fc (ax_v_go (tgt := 132) d_R_checkIndexesOf_128 (by decide)) ax_fn)) (y := (132, [(0, .inr (0, 25)), (1, .inl (.int (x1))), (2, .inl (.int (x2))), (3, .inl (.int (x3))), (4, .inl (.int (x4)))], [.inl (.int ((1 : Int32)))], ax_m (s) ρ)) rfl ⟨trivial, trivial, trivial⟩ ?_
          cases h
          exact ax_Lsub [0, 1, 2, 3, 4] rfl (KEw31 _ rfl)
        clear h
        have h := hw20
        refine ax_ic_ne (tgt := 131) hK d_R_checkIndexesOf_113 (by decide) (fun c19 => ?_) (fun c19 => ?_)
        · replace h := ax_if c19 h
          cases h
          exact ax_Lsub [0, 1, 2, 3, 4] rfl (KTw20 rfl)
        · replace h := ax_it c19 h
          refine ax_bk hK (ax_fc (ax_v_ld (ax_r_aload_n (i := 0) d_R_checkIndexesOf_116 rfl)) (ax_fc (ax_v_ld (ax_r_iload d_R_checkIndexesOf_117)) (ax_fc (ax_v_ld (ax_r_iload_n (i := 3) d_R_checkIndexesOf_119 rfl)) (ax_fc (ax_v_ld (ax_r_iload_n (i := 2) d_R_checkIndexesOf_120 rfl)) ax_fn)))) (y := (121, [(0, .inr (0, 25)), (1, .inl (.int (x1))), (2, .inl (.int (x2))), (3, .inl (.int (x3))), (4, .inl (.int (x4))), (5, .inl (.int ((s.1 g 5 (x4).toNatClampNeg))))], [.inl (.int (x2)), .inl (.int (x3)), .inl (.int (x4)), .inr (0, 25)], ax_m (s) ρ)) rfl ⟨trivial, trivial, trivial, trivial, trivial⟩ ?_
          obtain ⟨r16, q17, h⟩ := ax_bd h
          refine ax_bV (rest := []) hB (t_R_comesUpTo h0 hg hr q17) cw_R_278 im_R_comesUpTo se_R_comesUpTo d_R_checkIndexesOf_121 (h0 25 rfl) rfl rfl (by decide) (by decide) rfl rfl (Nat.le_of_ble_eq_true rfl) ?_
          change ax_R G 7 0 0 (124, [(0, .inr (0, 25)), (1, .inl (.int (x1))), (2, .inl (.int (x2))), (3, .inl (.int (x3))), (4, .inl (.int (x4))), (5, .inl (.int ((s.1 g 5 (x4).toNatClampNeg))))], [.inl (.int (r16))], ax_m (s) ρ)
          refine ax_if_eq (tgt := 131) hK d_R_checkIndexesOf_124 (by decide) (fun c18 => ?_) (fun c18 => ?_)
          · replace h := ax_it c18 h
            cases h
            exact ax_Lsub [0, 1, 2, 3, 4] rfl (KTw20 rfl)
          · replace h := ax_if c18 h
            cases h
            exact ax_Lsub [0, 1, 2, 3, 4] rfl (KFw20 rfl)
      have KFw21 : w21 = false → ax_R G 7 0 0 (127, [(0, .inr (0, 25)), (1, .inl (.int (x1))), (2, .inl (.int (x2))), (3, .inl (.int (x3))), (4, .inl (.int (x4)))], [], ax_m (s) ρ) := by
        intro e9
        subst w21
        replace h := ax_cf h
        refine ax_bk hK (ax_fc (ax_v_pu (ax_r_iconst (v := 1) d_R_checkIndexesOf_127 (by decide))) (ax_fc (ax_v_go (tgt := 132) d_R_checkIndexesOf_128 (by decide)) ax_fn)) (y := (132, [(0, .inr (0, 25)), (1, .inl (.int (x1))), (2, .inl (.int (x2))), (3, .inl (.int (x3))), (4, .inl (.int (x4)))], [.inl (.int ((1 : Int32)))], ax_m (s) ρ)) rfl ⟨trivial, trivial, trivial⟩ ?_
        cases h
        exact ax_Lsub [0, 1, 2, 3, 4] rfl (KEw31 _ rfl)
      clear h
      have h := hw21
      refine ax_ic_ne (tgt := 109) hK d_R_checkIndexesOf_87 (by decide) (fun c15 => ?_) (fun c15 => ?_)
      · replace h := ax_if c15 h
        cases h
        exact ax_Lsub [1, 2, 3, 4, 5, 0] rfl (KTw21 rfl)
      · replace h := ax_it c15 h
        obtain ⟨b11, h⟩ := ax_gd h
        refine ax_bk hK (ax_fc (ax_v_ld (ax_r_aload_n (i := 0) d_R_checkIndexesOf_90 rfl)) (ax_fc (ax_v_ld (ax_r_iload d_R_checkIndexesOf_91)) (ax_fc (ax_v_ld (ax_r_aload_n (i := 0) d_R_checkIndexesOf_93 rfl)) (ax_fc (ax_w_gf (e := (some (g, 0))) hal d_R_checkIndexesOf_94 fd_R_35) (ax_fc (ax_w_gf (e := none) hal d_R_checkIndexesOf_97 fd_R_107) (ax_fc (ax_v_pu (ax_r_iconst (v := 2) d_R_checkIndexesOf_100 (by decide))) (ax_fc (ax_w_iald hal d_R_checkIndexesOf_101) (ax_fc (ax_v_pu (ax_r_iconst (v := 0) d_R_checkIndexesOf_102 (by decide))) ax_fn)))))))) (y := (103, [(5, .inl (.int ((s.1 g 5 (x4).toNatClampNeg)))), (0, .inr (0, 25)), (1, .inl (.int (x1))), (2, .inl (.int (x2))), (3, .inl (.int (x3))), (4, .inl (.int (x4)))], [.inl (.int ((0 : Int32))), .inl (.int ((s.1 g 1 ((2 : Int32)).toNatClampNeg))), .inl (.int (x4)), .inr (0, 25)], ax_m (s) ρ)) rfl ⟨trivial, trivial, trivial, ⟨(h0 25 rfl), hr.1⟩, (hg 0 rfl), trivial, ⟨(hg 1 rfl), ax_inp b11⟩, trivial, trivial⟩ ?_
        obtain ⟨r12, q13, h⟩ := ax_bd h
        refine ax_bV (rest := []) hB (t_R_comesUpTo h0 hg hr q13) cw_R_278 im_R_comesUpTo se_R_comesUpTo d_R_checkIndexesOf_103 (h0 25 rfl) rfl rfl (by decide) (by decide) rfl rfl (Nat.le_of_ble_eq_true rfl) ?_
        change ax_R G 7 0 0 (106, [(5, .inl (.int ((s.1 g 5 (x4).toNatClampNeg)))), (0, .inr (0, 25)), (1, .inl (.int (x1))), (2, .inl (.int (x2))), (3, .inl (.int (x3))), (4, .inl (.int (x4)))], [.inl (.int (r12))], ax_m (s) ρ)
        refine ax_if_ne (tgt := 127) hK d_R_checkIndexesOf_106 (by decide) (fun c14 => ?_) (fun c14 => ?_)
        · replace h := ax_if c14 h
          cases h
          exact ax_Lsub [1, 2, 3, 4, 5] rfl (KFw21 rfl)
        · replace h := ax_it c14 h
          cases h
          exact ax_Lsub [1, 2, 3, 4, 5, 0] rfl (KTw21 rfl)
theorem fd_R_274 : ax_fd "CipherNotation$Reader" 274 1 3 := ⟨nC1, nT1, 7, nY1, rfl, nW1, by decide, nw_1 194 (by decide +kernel) rfl, nO1, nA1⟩
def f_R_checkIndexesOf (F : Nat) (g : Nat) (a1 : Int32) (s : ax_σ) : Option (ax_σ) :=
  bif ax_in a1 120 then
  Option.bind (
    if (s.1 g 14 (a1).toNatClampNeg) = (62 : Int32) then
      some (1 : Int32)
    else
      some (0 : Int32)) (fun v3 =>
    Option.bind (
      if v3 = (0 : Int32) then
        bif ax_in (4 : Int32) 8 then
        some (s.1 g 1 ((4 : Int32)).toNatClampNeg)
        else none
      else
        bif ax_in a1 120 then
        some (s.1 g 19 (a1).toNatClampNeg)
        else none) (fun v7 =>
      bif ax_in a1 120 then
      Option.bind (lp_R_checkIndexesOf_57 F g a1 v3 v7 F (s.1 g 17 (a1).toNatClampNeg) s) (fun s31 =>
        some (s31))
      else none))
  else none
set_option maxHeartbeats 4000000 in
set_option maxRecDepth 100000 in
theorem t_R_checkIndexesOf {l : Launch} {D : va_G} {cA : Nat → ClassId} {ad : Nat → Nat → Nat} {al : List (Nat × Nat)} {θ : ax_Θ} {ρ : ax_ρ} {F : Nat} {g : Nat} (h0 : ax_M0 al) (hg : ax_Mg al g) (hr : ax_rd ρ g) {a1 : Int32} {s : ax_σ} {s0 : ax_σ} (h : f_R_checkIndexesOf F g a1 s = some s0) : ax_T l D cA ad al θ y_R_checkIndexesOf (.code y_R_checkIndexesOf prog_6_method_33_code 7 none) 2 [.inr (0, 25), .inl (.int (a1))] (ax_m s ρ) none (ax_m s0 ρ) := by
  refine ax_T_of (own := "CipherNotation$Reader") (by decide) rfl (Nat.le_of_ble_eq_true rfl) [(0, .inr (0, 25)), (1, .inl (.int (a1)))] rfl ?_
  intro G hA
  have hB := hA.B
  have hK := hB.K
  have hal := hB.la
  unfold f_R_checkIndexesOf at h
  obtain ⟨b1, h⟩ := ax_gd h
  refine ax_bk hK (ax_fc (ax_v_ld (ax_r_aload_n (i := 0) d_R_checkIndexesOf_0 rfl)) (ax_fc (ax_w_gf (e := (some (g, 13))) hal d_R_checkIndexesOf_1 fd_R_50) (ax_fc (ax_w_gf (e := none) hal d_R_checkIndexesOf_4 fd_R_214) (ax_fc (ax_v_ld (ax_r_iload_n (i := 1) d_R_checkIndexesOf_7 rfl)) (ax_fc (ax_w_iald hal d_R_checkIndexesOf_8) (ax_fc (ax_v_pu (ax_r_bipush (v := 62) d_R_checkIndexesOf_9 (by decide))) ax_fn)))))) (y := (11, [(0, .inr (0, 25)), (1, .inl (.int (a1)))], [.inl (.int ((62 : Int32))), .inl (.int ((s.1 g 14 (a1).toNatClampNeg)))], ax_m (s) ρ)) rfl ⟨trivial, ⟨(h0 25 rfl), hr.2.2⟩, (hg 13 rfl), trivial, ⟨(hg 14 rfl), ax_inp b1⟩, trivial, trivial⟩ ?_
  obtain ⟨w32, hw32, h⟩ := ax_bd h
  have KEw32 : ∀ (v3 : Int32), w32 = v3 → ax_R G 7 0 0 (19, [(0, .inr (0, 25)), (1, .inl (.int (a1)))], [.inl (.int (v3))], ax_m (s) ρ) := by
    intro v3 e9
    subst w32
    try dsimp only at h
    refine ax_bk hK (ax_fc (ax_v_so (ax_r_istore_n (i := 2) d_R_checkIndexesOf_19 rfl)) (ax_fc (ax_v_ld (ax_r_iload_n (i := 2) d_R_checkIndexesOf_20 rfl)) ax_fn)) (y := (21, [(2, .inl (.int (v3))), (0, .inr (0, 25)), (1, .inl (.int (a1)))], [.inl (.int (v3))], ax_m (s) ρ)) rfl ⟨trivial, trivial, trivial⟩ ?_
    obtain ⟨w33, hw33, h⟩ := ax_bd h
    have KEw33 : ∀ (v7 : Int32), w33 = v7 → ax_R G 7 0 0 (45, [(0, .inr (0, 25)), (1, .inl (.int (a1))), (2, .inl (.int (v3)))], [.inl (.int (v7))], ax_m (s) ρ) := by
      intro v7 e9
      subst w33
      try dsimp only at h
      obtain ⟨b8, h⟩ := ax_gd h
      refine ax_bk hK (ax_fc (ax_v_so (ax_r_istore_n (i := 3) d_R_checkIndexesOf_45 rfl)) (ax_fc (ax_v_ld (ax_r_aload_n (i := 0) d_R_checkIndexesOf_46 rfl)) (ax_fc (ax_w_gf (e := (some (g, 13))) hal d_R_checkIndexesOf_47 fd_R_50) (ax_fc (ax_w_gf (e := none) hal d_R_checkIndexesOf_50 fd_R_274) (ax_fc (ax_v_ld (ax_r_iload_n (i := 1) d_R_checkIndexesOf_53 rfl)) (ax_fc (ax_w_iald hal d_R_checkIndexesOf_54) (ax_fc (ax_v_so (ax_r_istore d_R_checkIndexesOf_55)) ax_fn))))))) (y := (57, [(4, .inl (.int ((s.1 g 17 (a1).toNatClampNeg)))), (3, .inl (.int (v7))), (0, .inr (0, 25)), (1, .inl (.int (a1))), (2, .inl (.int (v3)))], [], ax_m (s) ρ)) rfl ⟨trivial, trivial, ⟨(h0 25 rfl), hr.2.2⟩, (hg 13 rfl), trivial, ⟨(hg 17 rfl), ax_inp b8⟩, trivial, trivial⟩ ?_
      obtain ⟨w34, hw34, h⟩ := ax_bd h
      refine ax_Lsub [2, 3, 4, 1, 0] rfl (pl_R_checkIndexesOf_57 h0 hg hr hB F _ hw34 ?_)
      intro s31 e9
      subst w34
      try dsimp only at h
      change ax_R G 7 0 0 (174, [], [], ax_m (s31) ρ)
      cases h
      exact ax_vret hA d_R_checkIndexesOf_174
    clear h
    have h := hw33
    refine ax_if_eq (tgt := 36) hK d_R_checkIndexesOf_21 (by decide) (fun c6 => ?_) (fun c6 => ?_)
    · replace h := ax_it c6 h
      obtain ⟨b4, h⟩ := ax_gd h
      refine ax_bk hK (ax_fc (ax_v_ld (ax_r_aload_n (i := 0) d_R_checkIndexesOf_36 rfl)) (ax_fc (ax_w_gf (e := (some (g, 0))) hal d_R_checkIndexesOf_37 fd_R_35) (ax_fc (ax_w_gf (e := none) hal d_R_checkIndexesOf_40 fd_R_107) (ax_fc (ax_v_pu (ax_r_iconst (v := 4) d_R_checkIndexesOf_43 (by decide))) (ax_fc (ax_w_iald hal d_R_checkIndexesOf_44) ax_fn))))) (y := (45, [(2, .inl (.int (v3))), (0, .inr (0, 25)), (1, .inl (.int (a1)))], [.inl (.int ((s.1 g 1 ((4 : Int32)).toNatClampNeg)))], ax_m (s) ρ)) rfl ⟨trivial, ⟨(h0 25 rfl), hr.1⟩, (hg 0 rfl), trivial, ⟨(hg 1 rfl), ax_inp b4⟩, trivial⟩ ?_
      cases h
      exact ax_Lsub [1, 2, 0] rfl (KEw33 _ rfl)
    · replace h := ax_if c6 h
      obtain ⟨b5, h⟩ := ax_gd h
      refine ax_bk hK (ax_fc (ax_v_ld (ax_r_aload_n (i := 0) d_R_checkIndexesOf_24 rfl)) (ax_fc (ax_w_gf (e := (some (g, 13))) hal d_R_checkIndexesOf_25 fd_R_50) (ax_fc (ax_w_gf (e := none) hal d_R_checkIndexesOf_28 fd_R_177) (ax_fc (ax_v_ld (ax_r_iload_n (i := 1) d_R_checkIndexesOf_31 rfl)) (ax_fc (ax_w_iald hal d_R_checkIndexesOf_32) (ax_fc (ax_v_go (tgt := 45) d_R_checkIndexesOf_33 (by decide)) ax_fn)))))) (y := (45, [(2, .inl (.int (v3))), (0, .inr (0, 25)), (1, .inl (.int (a1)))], [.inl (.int ((s.1 g 19 (a1).toNatClampNeg)))], ax_m (s) ρ)) rfl ⟨trivial, ⟨(h0 25 rfl), hr.2.2⟩, (hg 13 rfl), trivial, ⟨(hg 19 rfl), ax_inp b5⟩, trivial, trivial⟩ ?_
      cases h
      exact ax_Lsub [1, 2, 0] rfl (KEw33 _ rfl)
  clear h
  have h := hw32
  refine ax_ic_ne (tgt := 18) hK d_R_checkIndexesOf_11 (by decide) (fun c2 => ?_) (fun c2 => ?_)
  · replace h := ax_if c2 h
    refine ax_bk hK (ax_fc (ax_v_pu (ax_r_iconst (v := 0) d_R_checkIndexesOf_18 (by decide))) ax_fn) (y := (19, [(0, .inr (0, 25)), (1, .inl (.int (a1)))], [.inl (.int ((0 : Int32)))], ax_m (s) ρ)) rfl ⟨trivial, trivial⟩ ?_
    cases h
    exact ax_Lsub [0, 1] rfl (KEw32 _ rfl)
  · replace h := ax_it c2 h
    refine ax_bk hK (ax_fc (ax_v_pu (ax_r_iconst (v := 1) d_R_checkIndexesOf_14 (by decide))) (ax_fc (ax_v_go (tgt := 19) d_R_checkIndexesOf_15 (by decide)) ax_fn)) (y := (19, [(0, .inr (0, 25)), (1, .inl (.int (a1)))], [.inl (.int ((1 : Int32)))], ax_m (s) ρ)) rfl ⟨trivial, trivial, trivial⟩ ?_
    cases h
    exact ax_Lsub [0, 1] rfl (KEw32 _ rfl)
def y_R_checkIndexes : MethodName := ⟨"CipherNotation$Reader", "checkIndexes", "()V"⟩
theorem d_R_checkIndexes_0 : decode prog_6_method_32_code 0 = .ok (.iconst 0, 1) := by decide +kernel
theorem d_R_checkIndexes_1 : decode prog_6_method_32_code 1 = .ok (.istore_n 1, 1) := by decide +kernel
theorem d_R_checkIndexes_2 : decode prog_6_method_32_code 2 = .ok (.iload_n 1, 1) := by decide +kernel
theorem d_R_checkIndexes_3 : decode prog_6_method_32_code 3 = .ok (.iconst 2, 1) := by decide +kernel
theorem d_R_checkIndexes_4 : decode prog_6_method_32_code 4 = .ok (.if_icmp .ge (23), 3) := by decide +kernel
theorem d_R_checkIndexes_7 : decode prog_6_method_32_code 7 = .ok (.aload_n 0, 1) := by decide +kernel
theorem d_R_checkIndexes_8 : decode prog_6_method_32_code 8 = .ok (.getfield (25), 3) := by decide +kernel
theorem d_R_checkIndexes_11 : decode prog_6_method_32_code 11 = .ok (.iload_n 1, 1) := by decide +kernel
theorem d_R_checkIndexes_12 : decode prog_6_method_32_code 12 = .ok (.iconst 1, 1) := by decide +kernel
theorem d_R_checkIndexes_13 : decode prog_6_method_32_code 13 = .ok (.iastore, 1) := by decide +kernel
theorem d_R_checkIndexes_14 : decode prog_6_method_32_code 14 = .ok (.aload_n 0, 1) := by decide +kernel
theorem d_R_checkIndexes_15 : decode prog_6_method_32_code 15 = .ok (.getfield (28), 3) := by decide +kernel
theorem d_R_checkIndexes_18 : decode prog_6_method_32_code 18 = .ok (.iload_n 1, 1) := by decide +kernel
theorem d_R_checkIndexes_19 : decode prog_6_method_32_code 19 = .ok (.iconst 0, 1) := by decide +kernel
theorem d_R_checkIndexes_20 : decode prog_6_method_32_code 20 = .ok (.iastore, 1) := by decide +kernel
theorem d_R_checkIndexes_21 : decode prog_6_method_32_code 21 = .ok (.iinc 1 (1), 3) := by decide +kernel
theorem d_R_checkIndexes_24 : decode prog_6_method_32_code 24 = .ok (.goto (-22), 3) := by decide +kernel
theorem d_R_checkIndexes_27 : decode prog_6_method_32_code 27 = .ok (.iconst 0, 1) := by decide +kernel
theorem d_R_checkIndexes_28 : decode prog_6_method_32_code 28 = .ok (.istore_n 1, 1) := by decide +kernel
theorem d_R_checkIndexes_29 : decode prog_6_method_32_code 29 = .ok (.iload_n 1, 1) := by decide +kernel
theorem d_R_checkIndexes_30 : decode prog_6_method_32_code 30 = .ok (.aload_n 0, 1) := by decide +kernel
theorem d_R_checkIndexes_31 : decode prog_6_method_32_code 31 = .ok (.getfield (50), 3) := by decide +kernel
theorem d_R_checkIndexes_34 : decode prog_6_method_32_code 34 = .ok (.getfield (176), 3) := by decide +kernel
theorem d_R_checkIndexes_37 : decode prog_6_method_32_code 37 = .ok (.if_icmp .ge (102), 3) := by decide +kernel
theorem d_R_checkIndexes_40 : decode prog_6_method_32_code 40 = .ok (.aload_n 0, 1) := by decide +kernel
theorem d_R_checkIndexes_41 : decode prog_6_method_32_code 41 = .ok (.getfield (50), 3) := by decide +kernel
theorem d_R_checkIndexes_44 : decode prog_6_method_32_code 44 = .ok (.getfield (161), 3) := by decide +kernel
theorem d_R_checkIndexes_47 : decode prog_6_method_32_code 47 = .ok (.iload_n 1, 1) := by decide +kernel
theorem d_R_checkIndexes_48 : decode prog_6_method_32_code 48 = .ok (.iaload, 1) := by decide +kernel
theorem d_R_checkIndexes_49 : decode prog_6_method_32_code 49 = .ok (.istore_n 2, 1) := by decide +kernel
theorem d_R_checkIndexes_50 : decode prog_6_method_32_code 50 = .ok (.aload_n 0, 1) := by decide +kernel
theorem d_R_checkIndexes_51 : decode prog_6_method_32_code 51 = .ok (.getfield (50), 3) := by decide +kernel
theorem d_R_checkIndexes_54 : decode prog_6_method_32_code 54 = .ok (.getfield (214), 3) := by decide +kernel
theorem d_R_checkIndexes_57 : decode prog_6_method_32_code 57 = .ok (.iload_n 1, 1) := by decide +kernel
theorem d_R_checkIndexes_58 : decode prog_6_method_32_code 58 = .ok (.iaload, 1) := by decide +kernel
theorem d_R_checkIndexes_59 : decode prog_6_method_32_code 59 = .ok (.bipush (91), 2) := by decide +kernel
theorem d_R_checkIndexes_61 : decode prog_6_method_32_code 61 = .ok (.if_icmp .ne (36), 3) := by decide +kernel
theorem d_R_checkIndexes_64 : decode prog_6_method_32_code 64 = .ok (.aload_n 0, 1) := by decide +kernel
theorem d_R_checkIndexes_65 : decode prog_6_method_32_code 65 = .ok (.getfield (25), 3) := by decide +kernel
theorem d_R_checkIndexes_68 : decode prog_6_method_32_code 68 = .ok (.iload_n 2, 1) := by decide +kernel
theorem d_R_checkIndexes_69 : decode prog_6_method_32_code 69 = .ok (.aload_n 0, 1) := by decide +kernel
theorem d_R_checkIndexes_70 : decode prog_6_method_32_code 70 = .ok (.getfield (50), 3) := by decide +kernel
theorem d_R_checkIndexes_73 : decode prog_6_method_32_code 73 = .ok (.getfield (180), 3) := by decide +kernel
theorem d_R_checkIndexes_76 : decode prog_6_method_32_code 76 = .ok (.iload_n 1, 1) := by decide +kernel
theorem d_R_checkIndexes_77 : decode prog_6_method_32_code 77 = .ok (.iaload, 1) := by decide +kernel
theorem d_R_checkIndexes_78 : decode prog_6_method_32_code 78 = .ok (.iastore, 1) := by decide +kernel
theorem d_R_checkIndexes_79 : decode prog_6_method_32_code 79 = .ok (.aload_n 0, 1) := by decide +kernel
theorem d_R_checkIndexes_80 : decode prog_6_method_32_code 80 = .ok (.getfield (28), 3) := by decide +kernel
theorem d_R_checkIndexes_83 : decode prog_6_method_32_code 83 = .ok (.iload_n 2, 1) := by decide +kernel
theorem d_R_checkIndexes_84 : decode prog_6_method_32_code 84 = .ok (.aload_n 0, 1) := by decide +kernel
theorem d_R_checkIndexes_85 : decode prog_6_method_32_code 85 = .ok (.getfield (50), 3) := by decide +kernel
theorem d_R_checkIndexes_88 : decode prog_6_method_32_code 88 = .ok (.getfield (177), 3) := by decide +kernel
theorem d_R_checkIndexes_91 : decode prog_6_method_32_code 91 = .ok (.iload_n 1, 1) := by decide +kernel
theorem d_R_checkIndexes_92 : decode prog_6_method_32_code 92 = .ok (.iaload, 1) := by decide +kernel
theorem d_R_checkIndexes_93 : decode prog_6_method_32_code 93 = .ok (.iastore, 1) := by decide +kernel
theorem d_R_checkIndexes_94 : decode prog_6_method_32_code 94 = .ok (.goto (39), 3) := by decide +kernel
theorem d_R_checkIndexes_97 : decode prog_6_method_32_code 97 = .ok (.aload_n 0, 1) := by decide +kernel
theorem d_R_checkIndexes_98 : decode prog_6_method_32_code 98 = .ok (.getfield (50), 3) := by decide +kernel
theorem d_R_checkIndexes_101 : decode prog_6_method_32_code 101 = .ok (.getfield (214), 3) := by decide +kernel
theorem d_R_checkIndexes_104 : decode prog_6_method_32_code 104 = .ok (.iload_n 1, 1) := by decide +kernel
theorem d_R_checkIndexes_105 : decode prog_6_method_32_code 105 = .ok (.iaload, 1) := by decide +kernel
theorem d_R_checkIndexes_106 : decode prog_6_method_32_code 106 = .ok (.bipush (93), 2) := by decide +kernel
theorem d_R_checkIndexes_108 : decode prog_6_method_32_code 108 = .ok (.if_icmp .ne (20), 3) := by decide +kernel
theorem d_R_checkIndexes_111 : decode prog_6_method_32_code 111 = .ok (.aload_n 0, 1) := by decide +kernel
theorem d_R_checkIndexes_112 : decode prog_6_method_32_code 112 = .ok (.getfield (25), 3) := by decide +kernel
theorem d_R_checkIndexes_115 : decode prog_6_method_32_code 115 = .ok (.iload_n 2, 1) := by decide +kernel
theorem d_R_checkIndexes_116 : decode prog_6_method_32_code 116 = .ok (.iconst 1, 1) := by decide +kernel
theorem d_R_checkIndexes_117 : decode prog_6_method_32_code 117 = .ok (.iastore, 1) := by decide +kernel
theorem d_R_checkIndexes_118 : decode prog_6_method_32_code 118 = .ok (.aload_n 0, 1) := by decide +kernel
theorem d_R_checkIndexes_119 : decode prog_6_method_32_code 119 = .ok (.getfield (28), 3) := by decide +kernel
theorem d_R_checkIndexes_122 : decode prog_6_method_32_code 122 = .ok (.iload_n 2, 1) := by decide +kernel
theorem d_R_checkIndexes_123 : decode prog_6_method_32_code 123 = .ok (.iconst 0, 1) := by decide +kernel
theorem d_R_checkIndexes_124 : decode prog_6_method_32_code 124 = .ok (.iastore, 1) := by decide +kernel
theorem d_R_checkIndexes_125 : decode prog_6_method_32_code 125 = .ok (.goto (8), 3) := by decide +kernel
theorem d_R_checkIndexes_128 : decode prog_6_method_32_code 128 = .ok (.aload_n 0, 1) := by decide +kernel
theorem d_R_checkIndexes_129 : decode prog_6_method_32_code 129 = .ok (.iload_n 1, 1) := by decide +kernel
theorem d_R_checkIndexes_130 : decode prog_6_method_32_code 130 = .ok (.invokevirtual (271), 3) := by decide +kernel
theorem d_R_checkIndexes_133 : decode prog_6_method_32_code 133 = .ok (.iinc 1 (1), 3) := by decide +kernel
theorem d_R_checkIndexes_136 : decode prog_6_method_32_code 136 = .ok (.goto (-107), 3) := by decide +kernel
theorem d_R_checkIndexes_139 : decode prog_6_method_32_code 139 = .ok (.return_, 1) := by decide +kernel
def lp_R_checkIndexes_2 (F : Nat) (g : Nat) : Nat → Int32 → ax_σ → Option (ax_σ)
  | 0, _, _ => none
  | n + 1, x1, s =>
    if (2 : Int32) ≤ x1 then
      some s
    else
      bif ax_in x1 2 then
      ax_let (ax_wI s 0 30 (x1).toNatClampNeg (1 : Int32)) (fun s2 =>
        bif ax_in x1 2 then
        ax_let (ax_wI s2 0 31 (x1).toNatClampNeg (0 : Int32)) (fun s4 =>
          lp_R_checkIndexes_2 F g n (x1 + (1 : Int32)) s4)
        else none)
      else none
set_option maxHeartbeats 4000000 in
set_option maxRecDepth 100000 in
theorem pl_R_checkIndexes_2 {D : va_G} {cA : Nat → ClassId} {ad : Nat → Nat → Nat} {al : List (Nat × Nat)} {θ : ax_Θ} {l : Launch} {ρ : ax_ρ} {G : ax_G} {F g : Nat}  (h0 : ax_M0 al) (hg : ax_Mg al g) (hr : ax_rd ρ g) (hB : ax_B D cA ad al θ l "CipherNotation$Reader" prog_6_method_32_code 3 3 G) : ∀ (n : Nat) {x1 : Int32} {s : ax_σ} (out : ax_σ), lp_R_checkIndexes_2 F g n x1 s = some out → (∀ (es : ax_σ), out = es → ax_R G 3 0 0 (27, [(0, .inr (0, 25))], [], ax_m (es) ρ)) → ax_R G 3 0 0 (2, [(0, .inr (0, 25)), (1, .inl (.int (x1)))], [], ax_m (s) ρ) := by
  have hK := hB.K
  have hal := hB.la
  intro n
  induction n with
  | zero =>
    intro x1 s out h
    cases h
  | succ n ih =>
    intro x1 s out h KE
    rw [lp_R_checkIndexes_2] at h
    refine ax_bk hK (ax_fc (ax_v_ld (ax_r_iload_n (i := 1) d_R_checkIndexes_2 rfl)) (ax_fc (ax_v_pu (ax_r_iconst (v := 2) d_R_checkIndexes_3 (by decide))) ax_fn)) (y := (4, [(0, .inr (0, 25)), (1, .inl (.int (x1)))], [.inl (.int ((2 : Int32))), .inl (.int (x1))], ax_m (s) ρ)) rfl ⟨trivial, trivial, trivial⟩ ?_
    refine ax_ic_ge (tgt := 27) hK d_R_checkIndexes_4 (by decide) (fun c5 => ?_) (fun c5 => ?_)
    · replace h := ax_it c5 h
      cases h
      exact ax_Lsub [0] rfl (KE _ rfl)
    · replace h := ax_if c5 h
      obtain ⟨b1, h⟩ := ax_gd h
      refine ax_bk hK (ax_fc (ax_v_ld (ax_r_aload_n (i := 0) d_R_checkIndexes_7 rfl)) (ax_fc (ax_w_gf (e := none) hal d_R_checkIndexes_8 fd_R_25) (ax_fc (ax_v_ld (ax_r_iload_n (i := 1) d_R_checkIndexes_11 rfl)) (ax_fc (ax_v_pu (ax_r_iconst (v := 1) d_R_checkIndexes_12 (by decide))) (ax_fc (ax_w_iast hal d_R_checkIndexes_13) ax_fn))))) (y := (14, [(0, .inr (0, 25)), (1, .inl (.int (x1)))], [], ax_m (ax_wI s 0 30 (x1).toNatClampNeg (1 : Int32)) ρ)) rfl ⟨trivial, (h0 25 rfl), trivial, trivial, ⟨(h0 30 rfl), ax_inp b1⟩, trivial⟩ ?_
      refine ax_lt (Q := fun ςς => ax_R G 3 0 0 (14, [(0, .inr (0, 25)), (1, .inl (.int (x1)))], [], ax_m (ςς) ρ)) h (fun s2 h => ?_)
      obtain ⟨b3, h⟩ := ax_gd h
      refine ax_bk hK (ax_fc (ax_v_ld (ax_r_aload_n (i := 0) d_R_checkIndexes_14 rfl)) (ax_fc (ax_w_gf (e := none) hal d_R_checkIndexes_15 fd_R_28) (ax_fc (ax_v_ld (ax_r_iload_n (i := 1) d_R_checkIndexes_18 rfl)) (ax_fc (ax_v_pu (ax_r_iconst (v := 0) d_R_checkIndexes_19 (by decide))) (ax_fc (ax_w_iast hal d_R_checkIndexes_20) ax_fn))))) (y := (21, [(0, .inr (0, 25)), (1, .inl (.int (x1)))], [], ax_m (ax_wI s2 0 31 (x1).toNatClampNeg (0 : Int32)) ρ)) rfl ⟨trivial, (h0 25 rfl), trivial, trivial, ⟨(h0 31 rfl), ax_inp b3⟩, trivial⟩ ?_
      refine ax_lt (Q := fun ςς => ax_R G 3 0 0 (21, [(0, .inr (0, 25)), (1, .inl (.int (x1)))], [], ax_m (ςς) ρ)) h (fun s4 h => ?_)
      refine ax_bk hK (ax_fc (ax_v_ii (d := 1) d_R_checkIndexes_21 (by decide)) (ax_fc (ax_v_go (tgt := 2) d_R_checkIndexes_24 (by decide)) ax_fn)) (y := (2, [(1, .inl (.int ((x1 + (1 : Int32))))), (0, .inr (0, 25))], [], ax_m (s4) ρ)) rfl ⟨trivial, trivial, trivial⟩ ?_
      exact ax_Lsub [1, 0] rfl (ih _ h KE)
set_option maxRecDepth 100000 in
theorem cw_R_271 : ax_cw "CipherNotation$Reader" 271 y_R_checkIndexesOf (.code y_R_checkIndexesOf prog_6_method_33_code 7 none) 1 := ⟨nw_3 74 (by decide +kernel) rfl, nw_1 2 (by decide +kernel) rfl, nw_3 77 rfl rfl, by decide +kernel, by decide +kernel⟩
theorem im_R_checkIndexesOf : Cond.instanceMethod y_R_checkIndexesOf ∈ ax_tbl := nw_3 76 (by decide +kernel) rfl
theorem se_R_checkIndexesOf : Cond.selects y_R_checkIndexesOf.cls y_R_checkIndexesOf y_R_checkIndexesOf ∈ ax_tbl := nw_sel 28 (by decide +kernel) (by decide +kernel)
def lp_R_checkIndexes_29 (F : Nat) (g : Nat) : Nat → Int32 → ax_σ → Option (ax_σ)
  | 0, _, _ => none
  | n + 1, x1, s =>
    if (s.1 g 13 6) ≤ x1 then
      some s
    else
      bif ax_in x1 120 then
      bif ax_in x1 120 then
      if (s.1 g 14 (x1).toNatClampNeg) = (91 : Int32) then
        bif ax_in x1 120 then
        bif ax_in (s.1 g 15 (x1).toNatClampNeg) 2 then
        ax_let (ax_wI s 0 30 ((s.1 g 15 (x1).toNatClampNeg)).toNatClampNeg (s.1 g 16 (x1).toNatClampNeg)) (fun s19 =>
          bif ax_in x1 120 then
          bif ax_in (s.1 g 15 (x1).toNatClampNeg) 2 then
          ax_let (ax_wI s19 0 31 ((s.1 g 15 (x1).toNatClampNeg)).toNatClampNeg (s19.1 g 19 (x1).toNatClampNeg)) (fun s22 =>
            lp_R_checkIndexes_29 F g n (x1 + (1 : Int32)) s22)
          else none
          else none)
        else none
        else none
      else
        bif ax_in x1 120 then
        if (s.1 g 14 (x1).toNatClampNeg) = (93 : Int32) then
          bif ax_in (s.1 g 15 (x1).toNatClampNeg) 2 then
          ax_let (ax_wI s 0 30 ((s.1 g 15 (x1).toNatClampNeg)).toNatClampNeg (1 : Int32)) (fun s13 =>
            bif ax_in (s.1 g 15 (x1).toNatClampNeg) 2 then
            ax_let (ax_wI s13 0 31 ((s.1 g 15 (x1).toNatClampNeg)).toNatClampNeg (0 : Int32)) (fun s15 =>
              lp_R_checkIndexes_29 F g n (x1 + (1 : Int32)) s15)
            else none)
          else none
        else
          Option.bind (f_R_checkIndexesOf F g x1 s) (fun s10 =>
            lp_R_checkIndexes_29 F g n (x1 + (1 : Int32)) s10)
        else none
      else none
      else none
set_option maxHeartbeats 4000000 in
set_option maxRecDepth 100000 in
theorem pl_R_checkIndexes_29 {D : va_G} {cA : Nat → ClassId} {ad : Nat → Nat → Nat} {al : List (Nat × Nat)} {θ : ax_Θ} {l : Launch} {ρ : ax_ρ} {G : ax_G} {F g : Nat}  (h0 : ax_M0 al) (hg : ax_Mg al g) (hr : ax_rd ρ g) (hB : ax_B D cA ad al θ l "CipherNotation$Reader" prog_6_method_32_code 3 3 G) : ∀ (n : Nat) {x1 : Int32} {s : ax_σ} (out : ax_σ), lp_R_checkIndexes_29 F g n x1 s = some out → (∀ (es : ax_σ), out = es → ax_R G 3 0 0 (139, [], [], ax_m (es) ρ)) → ax_R G 3 0 0 (29, [(0, .inr (0, 25)), (1, .inl (.int (x1)))], [], ax_m (s) ρ) := by
  have hK := hB.K
  have hal := hB.la
  intro n
  induction n with
  | zero =>
    intro x1 s out h
    cases h
  | succ n ih =>
    intro x1 s out h KE
    rw [lp_R_checkIndexes_29] at h
    refine ax_bk hK (ax_fc (ax_v_ld (ax_r_iload_n (i := 1) d_R_checkIndexes_29 rfl)) (ax_fc (ax_v_ld (ax_r_aload_n (i := 0) d_R_checkIndexes_30 rfl)) (ax_fc (ax_w_gf (e := (some (g, 13))) hal d_R_checkIndexes_31 fd_R_50) (ax_fc (ax_w_gf (e := none) hal d_R_checkIndexes_34 fd_R_176) ax_fn)))) (y := (37, [(0, .inr (0, 25)), (1, .inl (.int (x1)))], [.inl (.int ((s.1 g 13 6))), .inl (.int (x1))], ax_m (s) ρ)) rfl ⟨trivial, trivial, ⟨(h0 25 rfl), hr.2.2⟩, (hg 13 rfl), trivial⟩ ?_
    refine ax_ic_ge (tgt := 139) hK d_R_checkIndexes_37 (by decide) (fun c24 => ?_) (fun c24 => ?_)
    · replace h := ax_it c24 h
      cases h
      exact ax_Lsub [] rfl (KE _ rfl)
    · replace h := ax_if c24 h
      obtain ⟨b7, h⟩ := ax_gd h
      obtain ⟨b8, h⟩ := ax_gd h
      refine ax_bk hK (ax_fc (ax_v_ld (ax_r_aload_n (i := 0) d_R_checkIndexes_40 rfl)) (ax_fc (ax_w_gf (e := (some (g, 13))) hal d_R_checkIndexes_41 fd_R_50) (ax_fc (ax_w_gf (e := none) hal d_R_checkIndexes_44 fd_R_161) (ax_fc (ax_v_ld (ax_r_iload_n (i := 1) d_R_checkIndexes_47 rfl)) (ax_fc (ax_w_iald hal d_R_checkIndexes_48) (ax_fc (ax_v_so (ax_r_istore_n (i := 2) d_R_checkIndexes_49 rfl)) (ax_fc (ax_v_ld (ax_r_aload_n (i := 0) d_R_checkIndexes_50 rfl)) (ax_fc (ax_w_gf (e := (some (g, 13))) hal d_R_checkIndexes_51 fd_R_50) (ax_fc (ax_w_gf (e := none) hal d_R_checkIndexes_54 fd_R_214) (ax_fc (ax_v_ld (ax_r_iload_n (i := 1) d_R_checkIndexes_57 rfl)) (ax_fc (ax_w_iald hal d_R_checkIndexes_58) (ax_fc (ax_v_pu (ax_r_bipush (v := 91) d_R_checkIndexes_59 (by decide))) ax_fn)))))))))))) (y := (61, [(2, .inl (.int ((s.1 g 15 (x1).toNatClampNeg)))), (0, .inr (0, 25)), (1, .inl (.int (x1)))], [.inl (.int ((91 : Int32))), .inl (.int ((s.1 g 14 (x1).toNatClampNeg)))], ax_m (s) ρ)) rfl ⟨trivial, ⟨(h0 25 rfl), hr.2.2⟩, (hg 13 rfl), trivial, ⟨(hg 15 rfl), ax_inp b7⟩, trivial, trivial, ⟨(h0 25 rfl), hr.2.2⟩, (hg 13 rfl), trivial, ⟨(hg 14 rfl), ax_inp b8⟩, trivial, trivial⟩ ?_
      refine ax_ic_ne (tgt := 97) hK d_R_checkIndexes_61 (by decide) (fun c23 => ?_) (fun c23 => ?_)
      · replace h := ax_if c23 h
        obtain ⟨b9, h⟩ := ax_gd h
        refine ax_bk hK (ax_fc (ax_v_ld (ax_r_aload_n (i := 0) d_R_checkIndexes_97 rfl)) (ax_fc (ax_w_gf (e := (some (g, 13))) hal d_R_checkIndexes_98 fd_R_50) (ax_fc (ax_w_gf (e := none) hal d_R_checkIndexes_101 fd_R_214) (ax_fc (ax_v_ld (ax_r_iload_n (i := 1) d_R_checkIndexes_104 rfl)) (ax_fc (ax_w_iald hal d_R_checkIndexes_105) (ax_fc (ax_v_pu (ax_r_bipush (v := 93) d_R_checkIndexes_106 (by decide))) ax_fn)))))) (y := (108, [(2, .inl (.int ((s.1 g 15 (x1).toNatClampNeg)))), (0, .inr (0, 25)), (1, .inl (.int (x1)))], [.inl (.int ((93 : Int32))), .inl (.int ((s.1 g 14 (x1).toNatClampNeg)))], ax_m (s) ρ)) rfl ⟨trivial, ⟨(h0 25 rfl), hr.2.2⟩, (hg 13 rfl), trivial, ⟨(hg 14 rfl), ax_inp b9⟩, trivial, trivial⟩ ?_
        refine ax_ic_ne (tgt := 128) hK d_R_checkIndexes_108 (by decide) (fun c16 => ?_) (fun c16 => ?_)
        · replace h := ax_if c16 h
          refine ax_bk hK (ax_fc (ax_v_ld (ax_r_aload_n (i := 0) d_R_checkIndexes_128 rfl)) (ax_fc (ax_v_ld (ax_r_iload_n (i := 1) d_R_checkIndexes_129 rfl)) ax_fn)) (y := (130, [(2, .inl (.int ((s.1 g 15 (x1).toNatClampNeg)))), (0, .inr (0, 25)), (1, .inl (.int (x1)))], [.inl (.int (x1)), .inr (0, 25)], ax_m (s) ρ)) rfl ⟨trivial, trivial, trivial⟩ ?_
          obtain ⟨s10, q11, h⟩ := ax_bd h
          refine ax_bV (rest := []) hB (t_R_checkIndexesOf h0 hg hr q11) cw_R_271 im_R_checkIndexesOf se_R_checkIndexesOf d_R_checkIndexes_130 (h0 25 rfl) rfl rfl (by decide) (by decide) rfl rfl (Nat.le_of_ble_eq_true rfl) ?_
          change ax_R G 3 0 0 (133, [(2, .inl (.int ((s.1 g 15 (x1).toNatClampNeg)))), (0, .inr (0, 25)), (1, .inl (.int (x1)))], [], ax_m (s10) ρ)
          refine ax_bk hK (ax_fc (ax_v_ii (d := 1) d_R_checkIndexes_133 (by decide)) (ax_fc (ax_v_go (tgt := 29) d_R_checkIndexes_136 (by decide)) ax_fn)) (y := (29, [(1, .inl (.int ((x1 + (1 : Int32))))), (2, .inl (.int ((s.1 g 15 (x1).toNatClampNeg)))), (0, .inr (0, 25))], [], ax_m (s10) ρ)) rfl ⟨trivial, trivial, trivial⟩ ?_
          exact ax_Lsub [2, 0] rfl (ih _ h KE)
        · replace h := ax_it c16 h
          obtain ⟨b12, h⟩ := ax_gd h
          refine ax_bk hK (ax_fc (ax_v_ld (ax_r_aload_n (i := 0) d_R_checkIndexes_111 rfl)) (ax_fc (ax_w_gf (e := none) hal d_R_checkIndexes_112 fd_R_25) (ax_fc (ax_v_ld (ax_r_iload_n (i := 2) d_R_checkIndexes_115 rfl)) (ax_fc (ax_v_pu (ax_r_iconst (v := 1) d_R_checkIndexes_116 (by decide))) (ax_fc (ax_w_iast hal d_R_checkIndexes_117) ax_fn))))) (y := (118, [(2, .inl (.int ((s.1 g 15 (x1).toNatClampNeg)))), (0, .inr (0, 25)), (1, .inl (.int (x1)))], [], ax_m (ax_wI s 0 30 ((s.1 g 15 (x1).toNatClampNeg)).toNatClampNeg (1 : Int32)) ρ)) rfl ⟨trivial, (h0 25 rfl), trivial, trivial, ⟨(h0 30 rfl), ax_inp b12⟩, trivial⟩ ?_
          refine ax_lt (Q := fun ςς => ax_R G 3 0 0 (118, [(2, .inl (.int ((s.1 g 15 (x1).toNatClampNeg)))), (0, .inr (0, 25)), (1, .inl (.int (x1)))], [], ax_m (ςς) ρ)) h (fun s13 h => ?_)
          obtain ⟨b14, h⟩ := ax_gd h
          refine ax_bk hK (ax_fc (ax_v_ld (ax_r_aload_n (i := 0) d_R_checkIndexes_118 rfl)) (ax_fc (ax_w_gf (e := none) hal d_R_checkIndexes_119 fd_R_28) (ax_fc (ax_v_ld (ax_r_iload_n (i := 2) d_R_checkIndexes_122 rfl)) (ax_fc (ax_v_pu (ax_r_iconst (v := 0) d_R_checkIndexes_123 (by decide))) (ax_fc (ax_w_iast hal d_R_checkIndexes_124) ax_fn))))) (y := (125, [(2, .inl (.int ((s.1 g 15 (x1).toNatClampNeg)))), (0, .inr (0, 25)), (1, .inl (.int (x1)))], [], ax_m (ax_wI s13 0 31 ((s.1 g 15 (x1).toNatClampNeg)).toNatClampNeg (0 : Int32)) ρ)) rfl ⟨trivial, (h0 25 rfl), trivial, trivial, ⟨(h0 31 rfl), ax_inp b14⟩, trivial⟩ ?_
          refine ax_lt (Q := fun ςς => ax_R G 3 0 0 (125, [(2, .inl (.int ((s.1 g 15 (x1).toNatClampNeg)))), (0, .inr (0, 25)), (1, .inl (.int (x1)))], [], ax_m (ςς) ρ)) h (fun s15 h => ?_)
          refine ax_bk hK (ax_fc (ax_v_go (tgt := 133) d_R_checkIndexes_125 (by decide)) ax_fn) (y := (133, [(2, .inl (.int ((s.1 g 15 (x1).toNatClampNeg)))), (0, .inr (0, 25)), (1, .inl (.int (x1)))], [], ax_m (s15) ρ)) rfl ⟨trivial, trivial⟩ ?_
          refine ax_bk hK (ax_fc (ax_v_ii (d := 1) d_R_checkIndexes_133 (by decide)) (ax_fc (ax_v_go (tgt := 29) d_R_checkIndexes_136 (by decide)) ax_fn)) (y := (29, [(1, .inl (.int ((x1 + (1 : Int32))))), (2, .inl (.int ((s.1 g 15 (x1).toNatClampNeg)))), (0, .inr (0, 25))], [], ax_m (s15) ρ)) rfl ⟨trivial, trivial, trivial⟩ ?_
          exact ax_Lsub [2, 0] rfl (ih _ h KE)
      · replace h := ax_it c23 h
        obtain ⟨b17, h⟩ := ax_gd h
        obtain ⟨b18, h⟩ := ax_gd h
        refine ax_bk hK (ax_fc (ax_v_ld (ax_r_aload_n (i := 0) d_R_checkIndexes_64 rfl)) (ax_fc (ax_w_gf (e := none) hal d_R_checkIndexes_65 fd_R_25) (ax_fc (ax_v_ld (ax_r_iload_n (i := 2) d_R_checkIndexes_68 rfl)) (ax_fc (ax_v_ld (ax_r_aload_n (i := 0) d_R_checkIndexes_69 rfl)) (ax_fc (ax_w_gf (e := (some (g, 13))) hal d_R_checkIndexes_70 fd_R_50) (ax_fc (ax_w_gf (e := none) hal d_R_checkIndexes_73 fd_R_180) (ax_fc (ax_v_ld (ax_r_iload_n (i := 1) d_R_checkIndexes_76 rfl)) (ax_fc (ax_w_iald hal d_R_checkIndexes_77) (ax_fc (ax_w_iast hal d_R_checkIndexes_78) ax_fn))))))))) (y := (79, [(2, .inl (.int ((s.1 g 15 (x1).toNatClampNeg)))), (0, .inr (0, 25)), (1, .inl (.int (x1)))], [], ax_m (ax_wI s 0 30 ((s.1 g 15 (x1).toNatClampNeg)).toNatClampNeg (s.1 g 16 (x1).toNatClampNeg)) ρ)) rfl ⟨trivial, (h0 25 rfl), trivial, trivial, ⟨(h0 25 rfl), hr.2.2⟩, (hg 13 rfl), trivial, ⟨(hg 16 rfl), ax_inp b17⟩, ⟨(h0 30 rfl), ax_inp b18⟩, trivial⟩ ?_
        refine ax_lt (Q := fun ςς => ax_R G 3 0 0 (79, [(2, .inl (.int ((s.1 g 15 (x1).toNatClampNeg)))), (0, .inr (0, 25)), (1, .inl (.int (x1)))], [], ax_m (ςς) ρ)) h (fun s19 h => ?_)
        obtain ⟨b20, h⟩ := ax_gd h
        obtain ⟨b21, h⟩ := ax_gd h
        refine ax_bk hK (ax_fc (ax_v_ld (ax_r_aload_n (i := 0) d_R_checkIndexes_79 rfl)) (ax_fc (ax_w_gf (e := none) hal d_R_checkIndexes_80 fd_R_28) (ax_fc (ax_v_ld (ax_r_iload_n (i := 2) d_R_checkIndexes_83 rfl)) (ax_fc (ax_v_ld (ax_r_aload_n (i := 0) d_R_checkIndexes_84 rfl)) (ax_fc (ax_w_gf (e := (some (g, 13))) hal d_R_checkIndexes_85 fd_R_50) (ax_fc (ax_w_gf (e := none) hal d_R_checkIndexes_88 fd_R_177) (ax_fc (ax_v_ld (ax_r_iload_n (i := 1) d_R_checkIndexes_91 rfl)) (ax_fc (ax_w_iald hal d_R_checkIndexes_92) (ax_fc (ax_w_iast hal d_R_checkIndexes_93) ax_fn))))))))) (y := (94, [(2, .inl (.int ((s.1 g 15 (x1).toNatClampNeg)))), (0, .inr (0, 25)), (1, .inl (.int (x1)))], [], ax_m (ax_wI s19 0 31 ((s.1 g 15 (x1).toNatClampNeg)).toNatClampNeg (s19.1 g 19 (x1).toNatClampNeg)) ρ)) rfl ⟨trivial, (h0 25 rfl), trivial, trivial, ⟨(h0 25 rfl), hr.2.2⟩, (hg 13 rfl), trivial, ⟨(hg 19 rfl), ax_inp b20⟩, ⟨(h0 31 rfl), ax_inp b21⟩, trivial⟩ ?_
        refine ax_lt (Q := fun ςς => ax_R G 3 0 0 (94, [(2, .inl (.int ((s.1 g 15 (x1).toNatClampNeg)))), (0, .inr (0, 25)), (1, .inl (.int (x1)))], [], ax_m (ςς) ρ)) h (fun s22 h => ?_)
        refine ax_bk hK (ax_fc (ax_v_go (tgt := 133) d_R_checkIndexes_94 (by decide)) ax_fn) (y := (133, [(2, .inl (.int ((s.1 g 15 (x1).toNatClampNeg)))), (0, .inr (0, 25)), (1, .inl (.int (x1)))], [], ax_m (s22) ρ)) rfl ⟨trivial, trivial⟩ ?_
        refine ax_bk hK (ax_fc (ax_v_ii (d := 1) d_R_checkIndexes_133 (by decide)) (ax_fc (ax_v_go (tgt := 29) d_R_checkIndexes_136 (by decide)) ax_fn)) (y := (29, [(1, .inl (.int ((x1 + (1 : Int32))))), (2, .inl (.int ((s.1 g 15 (x1).toNatClampNeg)))), (0, .inr (0, 25))], [], ax_m (s22) ρ)) rfl ⟨trivial, trivial, trivial⟩ ?_
        exact ax_Lsub [2, 0] rfl (ih _ h KE)
def f_R_checkIndexes (F : Nat) (g : Nat) (s : ax_σ) : Option (ax_σ) :=
  Option.bind (lp_R_checkIndexes_2 F g F (0 : Int32) s) (fun s6 =>
    Option.bind (lp_R_checkIndexes_29 F g F (0 : Int32) s6) (fun s25 =>
      some (s25)))
set_option maxHeartbeats 4000000 in
set_option maxRecDepth 100000 in
theorem t_R_checkIndexes {l : Launch} {D : va_G} {cA : Nat → ClassId} {ad : Nat → Nat → Nat} {al : List (Nat × Nat)} {θ : ax_Θ} {ρ : ax_ρ} {F : Nat} {g : Nat} (h0 : ax_M0 al) (hg : ax_Mg al g) (hr : ax_rd ρ g)  {s : ax_σ} {s0 : ax_σ} (h : f_R_checkIndexes F g s = some s0) : ax_T l D cA ad al θ y_R_checkIndexes (.code y_R_checkIndexes prog_6_method_32_code 3 none) 3 [.inr (0, 25)] (ax_m s ρ) none (ax_m s0 ρ) := by
  refine ax_T_of (own := "CipherNotation$Reader") (by decide) rfl (Nat.le_of_ble_eq_true rfl) [(0, .inr (0, 25))] rfl ?_
  intro G hA
  have hB := hA.B
  have hK := hB.K
  have hal := hB.la
  unfold f_R_checkIndexes at h
  refine ax_bk hK (ax_fc (ax_v_pu (ax_r_iconst (v := 0) d_R_checkIndexes_0 (by decide))) (ax_fc (ax_v_so (ax_r_istore_n (i := 1) d_R_checkIndexes_1 rfl)) ax_fn)) (y := (2, [(1, .inl (.int ((0 : Int32)))), (0, .inr (0, 25))], [], ax_m (s) ρ)) rfl ⟨trivial, trivial, trivial⟩ ?_
  obtain ⟨w26, hw26, h⟩ := ax_bd h
  refine ax_Lsub [1, 0] rfl (pl_R_checkIndexes_2 h0 hg hr hB F _ hw26 ?_)
  intro s6 e9
  subst w26
  try dsimp only at h
  change ax_R G 3 0 0 (27, [(0, .inr (0, 25))], [], ax_m (s6) ρ)
  refine ax_bk hK (ax_fc (ax_v_pu (ax_r_iconst (v := 0) d_R_checkIndexes_27 (by decide))) (ax_fc (ax_v_so (ax_r_istore_n (i := 1) d_R_checkIndexes_28 rfl)) ax_fn)) (y := (29, [(1, .inl (.int ((0 : Int32)))), (0, .inr (0, 25))], [], ax_m (s6) ρ)) rfl ⟨trivial, trivial, trivial⟩ ?_
  obtain ⟨w27, hw27, h⟩ := ax_bd h
  refine ax_Lsub [1, 0] rfl (pl_R_checkIndexes_29 h0 hg hr hB F _ hw27 ?_)
  intro s25 e9
  subst w27
  try dsimp only at h
  change ax_R G 3 0 0 (139, [], [], ax_m (s25) ρ)
  cases h
  exact ax_vret hA d_R_checkIndexes_139
def y_R_put : MethodName := ⟨"CipherNotation$Reader", "put", "(C)V"⟩
theorem d_R_put_0 : decode prog_6_method_38_code 0 = .ok (.aload_n 0, 1) := by decide +kernel
theorem d_R_put_1 : decode prog_6_method_38_code 1 = .ok (.getfield (35), 3) := by decide +kernel
theorem d_R_put_4 : decode prog_6_method_38_code 4 = .ok (.getfield (305), 3) := by decide +kernel
theorem d_R_put_7 : decode prog_6_method_38_code 7 = .ok (.aload_n 0, 1) := by decide +kernel
theorem d_R_put_8 : decode prog_6_method_38_code 8 = .ok (.getfield (35), 3) := by decide +kernel
theorem d_R_put_11 : decode prog_6_method_38_code 11 = .ok (.dup, 1) := by decide +kernel
theorem d_R_put_12 : decode prog_6_method_38_code 12 = .ok (.getfield (308), 3) := by decide +kernel
theorem d_R_put_15 : decode prog_6_method_38_code 15 = .ok (.dup_x1, 1) := by decide +kernel
theorem d_R_put_16 : decode prog_6_method_38_code 16 = .ok (.iconst 1, 1) := by decide +kernel
theorem d_R_put_17 : decode prog_6_method_38_code 17 = .ok (.iadd, 1) := by decide +kernel
theorem d_R_put_18 : decode prog_6_method_38_code 18 = .ok (.putfield (308), 3) := by decide +kernel
theorem d_R_put_21 : decode prog_6_method_38_code 21 = .ok (.iload_n 1, 1) := by decide +kernel
theorem d_R_put_22 : decode prog_6_method_38_code 22 = .ok (.castore, 1) := by decide +kernel
theorem d_R_put_23 : decode prog_6_method_38_code 23 = .ok (.return_, 1) := by decide +kernel
theorem fd_R_305 : ax_fd "CipherNotation$Reader" 305 3 7 := ⟨nC3, nT3, 9, nY3, rfl, nW3, by decide, nw_2 0 (by decide +kernel) rfl, nO3, nA3⟩
theorem fd_R_308 : ax_fd "CipherNotation$Reader" 308 3 8 := ⟨nC3, nT3, 9, nY3, rfl, nW3, by decide, nw_2 3 (by decide +kernel) rfl, nO3, nA3⟩
theorem fp_R_308 : ax_fp "CipherNotation$Reader" 308 3 8 (.int) := ⟨nC3, nT3, 9, nY3, rfl, nW3, by decide, nw_2 3 (by decide +kernel) rfl, nO3, nA3, by decide +kernel, by decide +kernel⟩
def f_R_put (g : Nat) (a1 : Int32) (s : ax_σ) : Option (ax_σ) :=
  ax_let (ax_wI s g 0 8 ((s.1 g 0 8) + (1 : Int32))) (fun s1 =>
    bif ax_in (s.1 g 0 8) 264 then
    ax_let (ax_wI s1 g 22 ((s.1 g 0 8)).toNatClampNeg (vp_nar .char a1)) (fun s3 =>
      some (s3))
    else none)
set_option maxHeartbeats 4000000 in
set_option maxRecDepth 100000 in
theorem t_R_put {l : Launch} {D : va_G} {cA : Nat → ClassId} {ad : Nat → Nat → Nat} {al : List (Nat × Nat)} {θ : ax_Θ} {ρ : ax_ρ} {g : Nat} (h0 : ax_M0 al) (hg : ax_Mg al g) (hr : ax_rd ρ g) {a1 : Int32} {s : ax_σ} {s0 : ax_σ} (h : f_R_put g a1 s = some s0) : ax_T l D cA ad al θ y_R_put (.code y_R_put prog_6_method_38_code 2 none) 0 [.inr (0, 25), .inl (.int (a1))] (ax_m s ρ) none (ax_m s0 ρ) := by
  refine ax_T_of (own := "CipherNotation$Reader") (by decide) rfl (Nat.le_of_ble_eq_true rfl) [(0, .inr (0, 25)), (1, .inl (.int (a1)))] rfl ?_
  intro G hA
  have hB := hA.B
  have hK := hB.K
  have hal := hB.la
  unfold f_R_put at h
  refine ax_bk hK (ax_fc (ax_v_ld (ax_r_aload_n (i := 0) d_R_put_0 rfl)) (ax_fc (ax_w_gf (e := (some (g, 0))) hal d_R_put_1 fd_R_35) (ax_fc (ax_w_gf (e := none) hal d_R_put_4 fd_R_305) (ax_fc (ax_v_ld (ax_r_aload_n (i := 0) d_R_put_7 rfl)) (ax_fc (ax_w_gf (e := (some (g, 0))) hal d_R_put_8 fd_R_35) (ax_fc (ax_v_pu (ax_r_dup d_R_put_11)) (ax_fc (ax_w_gf (e := none) hal d_R_put_12 fd_R_308) (ax_fc (ax_v_pu (ax_r_dupx1 d_R_put_15)) (ax_fc (ax_v_pu (ax_r_iconst (v := 1) d_R_put_16 (by decide))) (ax_fc (ax_v_pu (ax_r_iadd d_R_put_17)) (ax_fc (ax_w_pf (tc := 0) hal d_R_put_18 fp_R_308 rfl) ax_fn))))))))))) (y := (21, [(0, .inr (0, 25)), (1, .inl (.int (a1)))], [.inl (.int ((s.1 g 0 8))), .inr (g, 22)], ax_m (ax_wI s g 0 8 ((s.1 g 0 8) + (1 : Int32))) ρ)) rfl ⟨trivial, ⟨(h0 25 rfl), hr.1⟩, (hg 0 rfl), trivial, ⟨(h0 25 rfl), hr.1⟩, trivial, (hg 0 rfl), trivial, trivial, trivial, (hg 0 rfl), trivial⟩ ?_
  refine ax_lt (Q := fun ςς => ax_R G 2 0 0 (21, [(0, .inr (0, 25)), (1, .inl (.int (a1)))], [.inl (.int ((s.1 g 0 8))), .inr (g, 22)], ax_m (ςς) ρ)) h (fun s1 h => ?_)
  obtain ⟨b2, h⟩ := ax_gd h
  refine ax_bk hK (ax_fc (ax_v_ld (ax_r_iload_n (i := 1) d_R_put_21 rfl)) (ax_fc (ax_w_cast hal d_R_put_22) ax_fn)) (y := (23, [(0, .inr (0, 25)), (1, .inl (.int (a1)))], [], ax_m (ax_wI s1 g 22 ((s.1 g 0 8)).toNatClampNeg (vp_nar .char a1)) ρ)) rfl ⟨trivial, ⟨(hg 22 rfl), ax_inp b2⟩, trivial⟩ ?_
  refine ax_lt (Q := fun ςς => ax_R G 2 0 0 (23, [(0, .inr (0, 25)), (1, .inl (.int (a1)))], [], ax_m (ςς) ρ)) h (fun s3 h => ?_)
  cases h
  exact ax_vret hA d_R_put_23
def y_R_putSigns : MethodName := ⟨"CipherNotation$Reader", "putSigns", "(II)V"⟩
theorem d_R_putSigns_0 : decode prog_6_method_37_code 0 = .ok (.iconst 0, 1) := by decide +kernel
theorem d_R_putSigns_1 : decode prog_6_method_37_code 1 = .ok (.istore_n 3, 1) := by decide +kernel
theorem d_R_putSigns_2 : decode prog_6_method_37_code 2 = .ok (.iload_n 1, 1) := by decide +kernel
theorem d_R_putSigns_3 : decode prog_6_method_37_code 3 = .ok (.istore (4), 2) := by decide +kernel
theorem d_R_putSigns_5 : decode prog_6_method_37_code 5 = .ok (.iload (4), 2) := by decide +kernel
theorem d_R_putSigns_7 : decode prog_6_method_37_code 7 = .ok (.iload_n 2, 1) := by decide +kernel
theorem d_R_putSigns_8 : decode prog_6_method_37_code 8 = .ok (.if_icmp .ge (74), 3) := by decide +kernel
theorem d_R_putSigns_11 : decode prog_6_method_37_code 11 = .ok (.aload_n 0, 1) := by decide +kernel
theorem d_R_putSigns_12 : decode prog_6_method_37_code 12 = .ok (.getfield (11), 3) := by decide +kernel
theorem d_R_putSigns_15 : decode prog_6_method_37_code 15 = .ok (.iload (4), 2) := by decide +kernel
theorem d_R_putSigns_17 : decode prog_6_method_37_code 17 = .ok (.caload, 1) := by decide +kernel
theorem d_R_putSigns_18 : decode prog_6_method_37_code 18 = .ok (.bipush (48), 2) := by decide +kernel
theorem d_R_putSigns_20 : decode prog_6_method_37_code 20 = .ok (.if_icmp .ne (26), 3) := by decide +kernel
theorem d_R_putSigns_23 : decode prog_6_method_37_code 23 = .ok (.iload_n 3, 1) := by decide +kernel
theorem d_R_putSigns_24 : decode prog_6_method_37_code 24 = .ok (.ifCond .ne (22), 3) := by decide +kernel
theorem d_R_putSigns_27 : decode prog_6_method_37_code 27 = .ok (.aload_n 0, 1) := by decide +kernel
theorem d_R_putSigns_28 : decode prog_6_method_37_code 28 = .ok (.getfield (11), 3) := by decide +kernel
theorem d_R_putSigns_31 : decode prog_6_method_37_code 31 = .ok (.iload (4), 2) := by decide +kernel
theorem d_R_putSigns_33 : decode prog_6_method_37_code 33 = .ok (.iconst 1, 1) := by decide +kernel
theorem d_R_putSigns_34 : decode prog_6_method_37_code 34 = .ok (.iadd, 1) := by decide +kernel
theorem d_R_putSigns_35 : decode prog_6_method_37_code 35 = .ok (.caload, 1) := by decide +kernel
theorem d_R_putSigns_36 : decode prog_6_method_37_code 36 = .ok (.invokestatic (96), 3) := by decide +kernel
theorem d_R_putSigns_39 : decode prog_6_method_37_code 39 = .ok (.ifCond .eq (7), 3) := by decide +kernel
theorem d_R_putSigns_42 : decode prog_6_method_37_code 42 = .ok (.iconst 1, 1) := by decide +kernel
theorem d_R_putSigns_43 : decode prog_6_method_37_code 43 = .ok (.goto (4), 3) := by decide +kernel
theorem d_R_putSigns_46 : decode prog_6_method_37_code 46 = .ok (.iconst 0, 1) := by decide +kernel
theorem d_R_putSigns_47 : decode prog_6_method_37_code 47 = .ok (.istore (5), 2) := by decide +kernel
theorem d_R_putSigns_49 : decode prog_6_method_37_code 49 = .ok (.iload (5), 2) := by decide +kernel
theorem d_R_putSigns_51 : decode prog_6_method_37_code 51 = .ok (.ifCond .ne (25), 3) := by decide +kernel
theorem d_R_putSigns_54 : decode prog_6_method_37_code 54 = .ok (.aload_n 0, 1) := by decide +kernel
theorem d_R_putSigns_55 : decode prog_6_method_37_code 55 = .ok (.aload_n 0, 1) := by decide +kernel
theorem d_R_putSigns_56 : decode prog_6_method_37_code 56 = .ok (.getfield (11), 3) := by decide +kernel
theorem d_R_putSigns_59 : decode prog_6_method_37_code 59 = .ok (.iload (4), 2) := by decide +kernel
theorem d_R_putSigns_61 : decode prog_6_method_37_code 61 = .ok (.caload, 1) := by decide +kernel
theorem d_R_putSigns_62 : decode prog_6_method_37_code 62 = .ok (.invokevirtual (297), 3) := by decide +kernel
theorem d_R_putSigns_65 : decode prog_6_method_37_code 65 = .ok (.aload_n 0, 1) := by decide +kernel
theorem d_R_putSigns_66 : decode prog_6_method_37_code 66 = .ok (.getfield (11), 3) := by decide +kernel
theorem d_R_putSigns_69 : decode prog_6_method_37_code 69 = .ok (.iload (4), 2) := by decide +kernel
theorem d_R_putSigns_71 : decode prog_6_method_37_code 71 = .ok (.caload, 1) := by decide +kernel
theorem d_R_putSigns_72 : decode prog_6_method_37_code 72 = .ok (.invokestatic (96), 3) := by decide +kernel
theorem d_R_putSigns_75 : decode prog_6_method_37_code 75 = .ok (.istore_n 3, 1) := by decide +kernel
theorem d_R_putSigns_76 : decode prog_6_method_37_code 76 = .ok (.iinc 4 (1), 3) := by decide +kernel
theorem d_R_putSigns_79 : decode prog_6_method_37_code 79 = .ok (.goto (-74), 3) := by decide +kernel
theorem d_R_putSigns_82 : decode prog_6_method_37_code 82 = .ok (.return_, 1) := by decide +kernel
set_option maxRecDepth 100000 in
theorem cw_R_297 : ax_cw "CipherNotation$Reader" 297 y_R_put (.code y_R_put prog_6_method_38_code 2 none) 1 := ⟨nw_3 101 (by decide +kernel) rfl, nw_1 2 (by decide +kernel) rfl, nw_3 104 rfl rfl, by decide +kernel, by decide +kernel⟩
theorem im_R_put : Cond.instanceMethod y_R_put ∈ ax_tbl := nw_3 103 (by decide +kernel) rfl
theorem se_R_put : Cond.selects y_R_put.cls y_R_put y_R_put ∈ ax_tbl := nw_sel 32 (by decide +kernel) (by decide +kernel)
def lp_R_putSigns_5 (F : Nat) (g : Nat) (x2 : Int32) : Nat → Int32 → Int32 → ax_σ → Option (ax_σ)
  | 0, _, _, _ => none
  | n + 1, x3, x4, s =>
    if x2 ≤ x4 then
      some s
    else
      bif ax_in x4 241 then
      Option.bind (
        Option.bind (
          if (s.1 0 26 (x4).toNatClampNeg) = (48 : Int32) then
            if x3 = (0 : Int32) then
              bif ax_in (x4 + (1 : Int32)) 241 then
              Option.bind (f_R_isDigit (s.1 0 26 ((x4 + (1 : Int32))).toNatClampNeg)) (fun r3 =>
                if r3 = (0 : Int32) then
                  some true
                else
                  some false)
              else none
            else
              some true
          else
            some true) (fun w8 => bif w8 then
          some (0 : Int32)
        else
          some (1 : Int32))) (fun v9 =>
        if v9 = (0 : Int32) then
          bif ax_in x4 241 then
          Option.bind (f_R_put g (s.1 0 26 (x4).toNatClampNeg) s) (fun s11 =>
            bif ax_in x4 241 then
            Option.bind (f_R_isDigit (s11.1 0 26 (x4).toNatClampNeg)) (fun r14 =>
              lp_R_putSigns_5 F g x2 n r14 (x4 + (1 : Int32)) s11)
            else none)
          else none
        else
          lp_R_putSigns_5 F g x2 n x3 (x4 + (1 : Int32)) s)
      else none
set_option maxHeartbeats 4000000 in
set_option maxRecDepth 100000 in
theorem pl_R_putSigns_5 {D : va_G} {cA : Nat → ClassId} {ad : Nat → Nat → Nat} {al : List (Nat × Nat)} {θ : ax_Θ} {l : Launch} {ρ : ax_ρ} {G : ax_G} {F g : Nat} {x2 : Int32} (h0 : ax_M0 al) (hg : ax_Mg al g) (hr : ax_rd ρ g) (hB : ax_B D cA ad al θ l "CipherNotation$Reader" prog_6_method_37_code 6 1 G) : ∀ (n : Nat) {x3 : Int32} {x4 : Int32} {s : ax_σ} (out : ax_σ), lp_R_putSigns_5 F g x2 n x3 x4 s = some out → (∀ (es : ax_σ), out = es → ax_R G 6 0 0 (82, [], [], ax_m (es) ρ)) → ax_R G 6 0 0 (5, [(0, .inr (0, 25)), (2, .inl (.int (x2))), (3, .inl (.int (x3))), (4, .inl (.int (x4)))], [], ax_m (s) ρ) := by
  have hK := hB.K
  have hal := hB.la
  intro n
  induction n with
  | zero =>
    intro x3 x4 s out h
    cases h
  | succ n ih =>
    intro x3 x4 s out h KE
    rw [lp_R_putSigns_5] at h
    refine ax_bk hK (ax_fc (ax_v_ld (ax_r_iload d_R_putSigns_5)) (ax_fc (ax_v_ld (ax_r_iload_n (i := 2) d_R_putSigns_7 rfl)) ax_fn)) (y := (8, [(0, .inr (0, 25)), (2, .inl (.int (x2))), (3, .inl (.int (x3))), (4, .inl (.int (x4)))], [.inl (.int (x2)), .inl (.int (x4))], ax_m (s) ρ)) rfl ⟨trivial, trivial, trivial⟩ ?_
    refine ax_ic_ge (tgt := 82) hK d_R_putSigns_8 (by decide) (fun c17 => ?_) (fun c17 => ?_)
    · replace h := ax_it c17 h
      cases h
      exact ax_Lsub [] rfl (KE _ rfl)
    · replace h := ax_if c17 h
      obtain ⟨b1, h⟩ := ax_gd h
      refine ax_bk hK (ax_fc (ax_v_ld (ax_r_aload_n (i := 0) d_R_putSigns_11 rfl)) (ax_fc (ax_w_gf (e := none) hal d_R_putSigns_12 fd_R_11) (ax_fc (ax_v_ld (ax_r_iload d_R_putSigns_15)) (ax_fc (ax_w_cald hal d_R_putSigns_17) (ax_fc (ax_v_pu (ax_r_bipush (v := 48) d_R_putSigns_18 (by decide))) ax_fn))))) (y := (20, [(0, .inr (0, 25)), (2, .inl (.int (x2))), (3, .inl (.int (x3))), (4, .inl (.int (x4)))], [.inl (.int ((48 : Int32))), .inl (.int ((s.1 0 26 (x4).toNatClampNeg)))], ax_m (s) ρ)) rfl ⟨trivial, (h0 25 rfl), trivial, ⟨(h0 26 rfl), ax_inp b1⟩, trivial, trivial⟩ ?_
      obtain ⟨w18, hw18, h⟩ := ax_bd h
      have KEw18 : ∀ (v9 : Int32), w18 = v9 → ax_R G 6 0 0 (47, [(0, .inr (0, 25)), (2, .inl (.int (x2))), (3, .inl (.int (x3))), (4, .inl (.int (x4)))], [.inl (.int (v9))], ax_m (s) ρ) := by
        intro v9 e9
        subst w18
        try dsimp only at h
        refine ax_bk hK (ax_fc (ax_v_so (ax_r_istore d_R_putSigns_47)) (ax_fc (ax_v_ld (ax_r_iload d_R_putSigns_49)) ax_fn)) (y := (51, [(5, .inl (.int (v9))), (0, .inr (0, 25)), (2, .inl (.int (x2))), (3, .inl (.int (x3))), (4, .inl (.int (x4)))], [.inl (.int (v9))], ax_m (s) ρ)) rfl ⟨trivial, trivial, trivial⟩ ?_
        refine ax_if_ne (tgt := 76) hK d_R_putSigns_51 (by decide) (fun c16 => ?_) (fun c16 => ?_)
        · replace h := ax_if c16 h
          refine ax_bk hK (ax_fc (ax_v_ii (d := 1) d_R_putSigns_76 (by decide)) (ax_fc (ax_v_go (tgt := 5) d_R_putSigns_79 (by decide)) ax_fn)) (y := (5, [(4, .inl (.int ((x4 + (1 : Int32))))), (5, .inl (.int (v9))), (0, .inr (0, 25)), (2, .inl (.int (x2))), (3, .inl (.int (x3)))], [], ax_m (s) ρ)) rfl ⟨trivial, trivial, trivial⟩ ?_
          exact ax_Lsub [2, 3, 4, 0] rfl (ih _ h KE)
        · replace h := ax_it c16 h
          obtain ⟨b10, h⟩ := ax_gd h
          refine ax_bk hK (ax_fc (ax_v_ld (ax_r_aload_n (i := 0) d_R_putSigns_54 rfl)) (ax_fc (ax_v_ld (ax_r_aload_n (i := 0) d_R_putSigns_55 rfl)) (ax_fc (ax_w_gf (e := none) hal d_R_putSigns_56 fd_R_11) (ax_fc (ax_v_ld (ax_r_iload d_R_putSigns_59)) (ax_fc (ax_w_cald hal d_R_putSigns_61) ax_fn))))) (y := (62, [(5, .inl (.int (v9))), (0, .inr (0, 25)), (2, .inl (.int (x2))), (3, .inl (.int (x3))), (4, .inl (.int (x4)))], [.inl (.int ((s.1 0 26 (x4).toNatClampNeg))), .inr (0, 25)], ax_m (s) ρ)) rfl ⟨trivial, trivial, (h0 25 rfl), trivial, ⟨(h0 26 rfl), ax_inp b10⟩, trivial⟩ ?_
          obtain ⟨s11, q12, h⟩ := ax_bd h
          refine ax_bV (rest := []) hB (t_R_put h0 hg hr q12) cw_R_297 im_R_put se_R_put d_R_putSigns_62 (h0 25 rfl) rfl rfl (by decide) (by decide) rfl rfl (Nat.le_of_ble_eq_true rfl) ?_
          change ax_R G 6 0 0 (65, [(5, .inl (.int (v9))), (0, .inr (0, 25)), (2, .inl (.int (x2))), (3, .inl (.int (x3))), (4, .inl (.int (x4)))], [], ax_m (s11) ρ)
          obtain ⟨b13, h⟩ := ax_gd h
          refine ax_bk hK (ax_fc (ax_v_ld (ax_r_aload_n (i := 0) d_R_putSigns_65 rfl)) (ax_fc (ax_w_gf (e := none) hal d_R_putSigns_66 fd_R_11) (ax_fc (ax_v_ld (ax_r_iload d_R_putSigns_69)) (ax_fc (ax_w_cald hal d_R_putSigns_71) ax_fn)))) (y := (72, [(5, .inl (.int (v9))), (0, .inr (0, 25)), (2, .inl (.int (x2))), (3, .inl (.int (x3))), (4, .inl (.int (x4)))], [.inl (.int ((s11.1 0 26 (x4).toNatClampNeg)))], ax_m (s11) ρ)) rfl ⟨trivial, (h0 25 rfl), trivial, ⟨(h0 26 rfl), ax_inp b13⟩, trivial⟩ ?_
          obtain ⟨r14, q15, h⟩ := ax_bd h
          refine ax_bS (rest := []) hB (t_R_isDigit q15) cw_R_96 sm_R_isDigit d_R_putSigns_72 (by decide) (by decide) rfl rfl (Nat.le_of_ble_eq_true rfl) ?_
          change ax_R G 6 0 0 (75, [(5, .inl (.int (v9))), (0, .inr (0, 25)), (2, .inl (.int (x2))), (3, .inl (.int (x3))), (4, .inl (.int (x4)))], [.inl (.int (r14))], ax_m (s11) ρ)
          refine ax_bk hK (ax_fc (ax_v_so (ax_r_istore_n (i := 3) d_R_putSigns_75 rfl)) (ax_fc (ax_v_ii (d := 1) d_R_putSigns_76 (by decide)) (ax_fc (ax_v_go (tgt := 5) d_R_putSigns_79 (by decide)) ax_fn))) (y := (5, [(4, .inl (.int ((x4 + (1 : Int32))))), (3, .inl (.int (r14))), (5, .inl (.int (v9))), (0, .inr (0, 25)), (2, .inl (.int (x2)))], [], ax_m (s11) ρ)) rfl ⟨trivial, trivial, trivial, trivial⟩ ?_
          exact ax_Lsub [3, 4, 1, 0] rfl (ih _ h KE)
      clear h
      have h := hw18
      obtain ⟨w8, hw8, h⟩ := ax_bd h
      have KTw8 : w8 = true → ax_R G 6 0 0 (46, [(0, .inr (0, 25)), (2, .inl (.int (x2))), (3, .inl (.int (x3))), (4, .inl (.int (x4)))], [], ax_m (s) ρ) := by
        intro e9
        subst w8
        replace h := ax_ct h
        refine ax_bk hK (ax_fc (ax_v_pu (ax_r_iconst (v := 0) d_R_putSigns_46 (by decide))) ax_fn) (y := (47, [(0, .inr (0, 25)), (2, .inl (.int (x2))), (3, .inl (.int (x3))), (4, .inl (.int (x4)))], [.inl (.int ((0 : Int32)))], ax_m (s) ρ)) rfl ⟨trivial, trivial⟩ ?_
        cases h
        exact ax_Lsub [0, 1, 2, 3] rfl (KEw18 _ rfl)
      have KFw8 : w8 = false → ax_R G 6 0 0 (42, [(0, .inr (0, 25)), (2, .inl (.int (x2))), (3, .inl (.int (x3))), (4, .inl (.int (x4)))], [], ax_m (s) ρ) := by
        intro e9
        subst w8
        replace h := ax_cf h
        refine ax_bk hK (ax_fc (ax_v_pu (ax_r_iconst (v := 1) d_R_putSigns_42 (by decide))) (ax_fc (ax_v_go (tgt := 47) d_R_putSigns_43 (by decide)) ax_fn)) (y := (47, [(0, .inr (0, 25)), (2, .inl (.int (x2))), (3, .inl (.int (x3))), (4, .inl (.int (x4)))], [.inl (.int ((1 : Int32)))], ax_m (s) ρ)) rfl ⟨trivial, trivial, trivial⟩ ?_
        cases h
        exact ax_Lsub [0, 1, 2, 3] rfl (KEw18 _ rfl)
      clear h
      have h := hw8
      refine ax_ic_ne (tgt := 46) hK d_R_putSigns_20 (by decide) (fun c7 => ?_) (fun c7 => ?_)
      · replace h := ax_if c7 h
        cases h
        exact ax_Lsub [0, 1, 2, 3] rfl (KTw8 rfl)
      · replace h := ax_it c7 h
        refine ax_bk hK (ax_fc (ax_v_ld (ax_r_iload_n (i := 3) d_R_putSigns_23 rfl)) ax_fn) (y := (24, [(0, .inr (0, 25)), (2, .inl (.int (x2))), (3, .inl (.int (x3))), (4, .inl (.int (x4)))], [.inl (.int (x3))], ax_m (s) ρ)) rfl ⟨trivial, trivial⟩ ?_
        refine ax_if_ne (tgt := 46) hK d_R_putSigns_24 (by decide) (fun c6 => ?_) (fun c6 => ?_)
        · replace h := ax_if c6 h
          cases h
          exact ax_Lsub [0, 1, 2, 3] rfl (KTw8 rfl)
        · replace h := ax_it c6 h
          obtain ⟨b2, h⟩ := ax_gd h
          refine ax_bk hK (ax_fc (ax_v_ld (ax_r_aload_n (i := 0) d_R_putSigns_27 rfl)) (ax_fc (ax_w_gf (e := none) hal d_R_putSigns_28 fd_R_11) (ax_fc (ax_v_ld (ax_r_iload d_R_putSigns_31)) (ax_fc (ax_v_pu (ax_r_iconst (v := 1) d_R_putSigns_33 (by decide))) (ax_fc (ax_v_pu (ax_r_iadd d_R_putSigns_34)) (ax_fc (ax_w_cald hal d_R_putSigns_35) ax_fn)))))) (y := (36, [(0, .inr (0, 25)), (2, .inl (.int (x2))), (3, .inl (.int (x3))), (4, .inl (.int (x4)))], [.inl (.int ((s.1 0 26 ((x4 + (1 : Int32))).toNatClampNeg)))], ax_m (s) ρ)) rfl ⟨trivial, (h0 25 rfl), trivial, trivial, trivial, ⟨(h0 26 rfl), ax_inp b2⟩, trivial⟩ ?_
          obtain ⟨r3, q4, h⟩ := ax_bd h
          refine ax_bS (rest := []) hB (t_R_isDigit q4) cw_R_96 sm_R_isDigit d_R_putSigns_36 (by decide) (by decide) rfl rfl (Nat.le_of_ble_eq_true rfl) ?_
          change ax_R G 6 0 0 (39, [(0, .inr (0, 25)), (2, .inl (.int (x2))), (3, .inl (.int (x3))), (4, .inl (.int (x4)))], [.inl (.int (r3))], ax_m (s) ρ)
          refine ax_if_eq (tgt := 46) hK d_R_putSigns_39 (by decide) (fun c5 => ?_) (fun c5 => ?_)
          · replace h := ax_it c5 h
            cases h
            exact ax_Lsub [0, 1, 2, 3] rfl (KTw8 rfl)
          · replace h := ax_if c5 h
            cases h
            exact ax_Lsub [0, 1, 2, 3] rfl (KFw8 rfl)
def f_R_putSigns (F : Nat) (g : Nat) (a1 : Int32) (a2 : Int32) (s : ax_σ) : Option (ax_σ) :=
  Option.bind (lp_R_putSigns_5 F g a2 F (0 : Int32) a1 s) (fun s18 =>
    some (s18))
set_option maxHeartbeats 4000000 in
set_option maxRecDepth 100000 in
theorem t_R_putSigns {l : Launch} {D : va_G} {cA : Nat → ClassId} {ad : Nat → Nat → Nat} {al : List (Nat × Nat)} {θ : ax_Θ} {ρ : ax_ρ} {F : Nat} {g : Nat} (h0 : ax_M0 al) (hg : ax_Mg al g) (hr : ax_rd ρ g) {a1 : Int32} {a2 : Int32} {s : ax_σ} {s0 : ax_σ} (h : f_R_putSigns F g a1 a2 s = some s0) : ax_T l D cA ad al θ y_R_putSigns (.code y_R_putSigns prog_6_method_37_code 6 none) 1 [.inr (0, 25), .inl (.int (a1)), .inl (.int (a2))] (ax_m s ρ) none (ax_m s0 ρ) := by
  refine ax_T_of (own := "CipherNotation$Reader") (by decide) rfl (Nat.le_of_ble_eq_true rfl) [(0, .inr (0, 25)), (1, .inl (.int (a1))), (2, .inl (.int (a2)))] rfl ?_
  intro G hA
  have hB := hA.B
  have hK := hB.K
  have hal := hB.la
  unfold f_R_putSigns at h
  refine ax_bk hK (ax_fc (ax_v_pu (ax_r_iconst (v := 0) d_R_putSigns_0 (by decide))) (ax_fc (ax_v_so (ax_r_istore_n (i := 3) d_R_putSigns_1 rfl)) (ax_fc (ax_v_ld (ax_r_iload_n (i := 1) d_R_putSigns_2 rfl)) (ax_fc (ax_v_so (ax_r_istore d_R_putSigns_3)) ax_fn)))) (y := (5, [(4, .inl (.int (a1))), (3, .inl (.int ((0 : Int32)))), (0, .inr (0, 25)), (1, .inl (.int (a1))), (2, .inl (.int (a2)))], [], ax_m (s) ρ)) rfl ⟨trivial, trivial, trivial, trivial, trivial⟩ ?_
  obtain ⟨w19, hw19, h⟩ := ax_bd h
  refine ax_Lsub [2, 4, 1, 0] rfl (pl_R_putSigns_5 h0 hg hr hB F _ hw19 ?_)
  intro s18 e9
  subst w19
  try dsimp only at h
  change ax_R G 6 0 0 (82, [], [], ax_m (s18) ρ)
  cases h
  exact ax_vret hA d_R_putSigns_82
