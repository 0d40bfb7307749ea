/-! the constructor of CipherNotation$Code -/
def y_C_init : MethodName := ⟨"CipherNotation$Code", "<init>", "()V"⟩
theorem d_C_init_0 : decode prog_2_method_1_code 0 = .ok (.aload_n 0, 1) := by decide +kernel
theorem d_C_init_1 : decode prog_2_method_1_code 1 = .ok (.invokespecial (3), 3) := by decide +kernel
theorem d_C_init_4 : decode prog_2_method_1_code 4 = .ok (.aload_n 0, 1) := by decide +kernel
theorem d_C_init_5 : decode prog_2_method_1_code 5 = .ok (.sipush (240), 3) := by decide +kernel
theorem d_C_init_8 : decode prog_2_method_1_code 8 = .ok (.newarray .int, 2) := by decide +kernel
theorem d_C_init_10 : decode prog_2_method_1_code 10 = .ok (.putfield (9), 3) := by decide +kernel
theorem d_C_init_13 : decode prog_2_method_1_code 13 = .ok (.aload_n 0, 1) := by decide +kernel
theorem d_C_init_14 : decode prog_2_method_1_code 14 = .ok (.sipush (240), 3) := by decide +kernel
theorem d_C_init_17 : decode prog_2_method_1_code 17 = .ok (.newarray .long, 2) := by decide +kernel
theorem d_C_init_19 : decode prog_2_method_1_code 19 = .ok (.putfield (15), 3) := by decide +kernel
theorem d_C_init_22 : decode prog_2_method_1_code 22 = .ok (.aload_n 0, 1) := by decide +kernel
theorem d_C_init_23 : decode prog_2_method_1_code 23 = .ok (.sipush (240), 3) := by decide +kernel
theorem d_C_init_26 : decode prog_2_method_1_code 26 = .ok (.newarray .long, 2) := by decide +kernel
theorem d_C_init_28 : decode prog_2_method_1_code 28 = .ok (.putfield (19), 3) := by decide +kernel
theorem d_C_init_31 : decode prog_2_method_1_code 31 = .ok (.aload_n 0, 1) := by decide +kernel
theorem d_C_init_32 : decode prog_2_method_1_code 32 = .ok (.sipush (240), 3) := by decide +kernel
theorem d_C_init_35 : decode prog_2_method_1_code 35 = .ok (.newarray .long, 2) := by decide +kernel
theorem d_C_init_37 : decode prog_2_method_1_code 37 = .ok (.putfield (22), 3) := by decide +kernel
theorem d_C_init_40 : decode prog_2_method_1_code 40 = .ok (.aload_n 0, 1) := by decide +kernel
theorem d_C_init_41 : decode prog_2_method_1_code 41 = .ok (.sipush (240), 3) := by decide +kernel
theorem d_C_init_44 : decode prog_2_method_1_code 44 = .ok (.newarray .int, 2) := by decide +kernel
theorem d_C_init_46 : decode prog_2_method_1_code 46 = .ok (.putfield (25), 3) := by decide +kernel
theorem d_C_init_49 : decode prog_2_method_1_code 49 = .ok (.aload_n 0, 1) := by decide +kernel
theorem d_C_init_50 : decode prog_2_method_1_code 50 = .ok (.sipush (240), 3) := by decide +kernel
theorem d_C_init_53 : decode prog_2_method_1_code 53 = .ok (.newarray .int, 2) := by decide +kernel
theorem d_C_init_55 : decode prog_2_method_1_code 55 = .ok (.putfield (28), 3) := by decide +kernel
theorem d_C_init_58 : decode prog_2_method_1_code 58 = .ok (.aload_n 0, 1) := by decide +kernel
theorem d_C_init_59 : decode prog_2_method_1_code 59 = .ok (.sipush (240), 3) := by decide +kernel
theorem d_C_init_62 : decode prog_2_method_1_code 62 = .ok (.newarray .int, 2) := by decide +kernel
theorem d_C_init_64 : decode prog_2_method_1_code 64 = .ok (.putfield (31), 3) := by decide +kernel
theorem d_C_init_67 : decode prog_2_method_1_code 67 = .ok (.aload_n 0, 1) := by decide +kernel
theorem d_C_init_68 : decode prog_2_method_1_code 68 = .ok (.sipush (240), 3) := by decide +kernel
theorem d_C_init_71 : decode prog_2_method_1_code 71 = .ok (.newarray .int, 2) := by decide +kernel
theorem d_C_init_73 : decode prog_2_method_1_code 73 = .ok (.putfield (34), 3) := by decide +kernel
theorem d_C_init_76 : decode prog_2_method_1_code 76 = .ok (.aload_n 0, 1) := by decide +kernel
theorem d_C_init_77 : decode prog_2_method_1_code 77 = .ok (.iconst 0, 1) := by decide +kernel
theorem d_C_init_78 : decode prog_2_method_1_code 78 = .ok (.putfield (37), 3) := by decide +kernel
theorem d_C_init_81 : decode prog_2_method_1_code 81 = .ok (.return_, 1) := by decide +kernel
theorem ff_C_9 : bx_fF "CipherNotation$Code" 9 0 0 := ⟨nC0, nT0, 9, nY0, .array .int, rfl, nW0, by decide, nw_1 134 (by decide +kernel) rfl, nO0, nA0, by decide +kernel, by decide +kernel, by decide +kernel, Or.inr ⟨_, rfl⟩⟩
theorem ff_C_15 : bx_fF "CipherNotation$Code" 15 0 1 := ⟨nC0, nT0, 9, nY0, .array .long, rfl, nW0, by decide, nw_1 137 (by decide +kernel) rfl, nO0, nA0, by decide +kernel, by decide +kernel, by decide +kernel, Or.inr ⟨_, rfl⟩⟩
theorem ff_C_19 : bx_fF "CipherNotation$Code" 19 0 2 := ⟨nC0, nT0, 9, nY0, .array .long, rfl, nW0, by decide, nw_1 140 (by decide +kernel) rfl, nO0, nA0, by decide +kernel, by decide +kernel, by decide +kernel, Or.inr ⟨_, rfl⟩⟩
theorem ff_C_22 : bx_fF "CipherNotation$Code" 22 0 3 := ⟨nC0, nT0, 9, nY0, .array .long, rfl, nW0, by decide, nw_1 142 (by decide +kernel) rfl, nO0, nA0, by decide +kernel, by decide +kernel, by decide +kernel, Or.inr ⟨_, rfl⟩⟩
theorem ff_C_25 : bx_fF "CipherNotation$Code" 25 0 4 := ⟨nC0, nT0, 9, nY0, .array .int, rfl, nW0, by decide, nw_1 144 (by decide +kernel) rfl, nO0, nA0, by decide +kernel, by decide +kernel, by decide +kernel, Or.inr ⟨_, rfl⟩⟩
theorem ff_C_28 : bx_fF "CipherNotation$Code" 28 0 5 := ⟨nC0, nT0, 9, nY0, .array .int, rfl, nW0, by decide, nw_1 146 (by decide +kernel) rfl, nO0, nA0, by decide +kernel, by decide +kernel, by decide +kernel, Or.inr ⟨_, rfl⟩⟩
theorem ff_C_31 : bx_fF "CipherNotation$Code" 31 0 6 := ⟨nC0, nT0, 9, nY0, .array .int, rfl, nW0, by decide, nw_1 148 (by decide +kernel) rfl, nO0, nA0, by decide +kernel, by decide +kernel, by decide +kernel, Or.inr ⟨_, rfl⟩⟩
theorem ff_C_34 : bx_fF "CipherNotation$Code" 34 0 7 := ⟨nC0, nT0, 9, nY0, .array .int, rfl, nW0, by decide, nw_1 150 (by decide +kernel) rfl, nO0, nA0, by decide +kernel, by decide +kernel, by decide +kernel, Or.inr ⟨_, rfl⟩⟩
theorem gp_C_37 : ax_fp "CipherNotation$Code" 37 0 8 (.int) := ⟨nC0, nT0, 9, nY0, rfl, nW0, by decide, nw_1 152 (by decide +kernel) rfl, nO0, nA0, by decide +kernel, by decide +kernel⟩
abbrev al_C (g : Nat) : List (Nat × Nat) := [(g, 4), (g, 5), (g, 6), (g, 7), (g, 8), (g, 9), (g, 10), (g, 11), (g, 12)]
set_option maxHeartbeats 4000000 in
set_option maxRecDepth 100000 in
theorem t_C_init {l : Launch} {D : va_G} {cA : Nat → ClassId} (g : Nat) : bx_T l D cA y_C_init (.code y_C_init prog_2_method_1_code 1 none) 1 8 1920 0 (bx_dv nY0 9) (g, 4) (al_C g) := by
  refine bx_T_of (own := "CipherNotation$Code") (by decide) rfl rfl (by decide) ?_
  intro a0 G h
  refine bx_0 h d_C_init_0 d_C_init_1 (nw_1 133 (by decide +kernel) rfl) (nw_1 26 (by decide +kernel) rfl) (nw_1 27 rfl rfl) (by decide) ?_
  refine bx_a (k := 0) (t := 0) (N := 240) (pc := 4) (pc' := 13) (c' := 1) (s' := 240) h d_C_init_4 (ax_r_sipush (v := 240) d_C_init_5 (by decide)) d_C_init_8 d_C_init_10 (by decide) (nw_1 82 (by decide +kernel) rfl) (by decide) (by decide) (by decide) rfl rfl rfl (Nat.le_of_ble_eq_true rfl) (Nat.le_of_ble_eq_true rfl) ff_C_9 (Nat.le_of_ble_eq_true rfl) (fun q1 => ?_)
  refine bx_a (k := 1) (t := 2) (N := 240) (pc := 13) (pc' := 22) (c' := 2) (s' := 480) h d_C_init_13 (ax_r_sipush (v := 240) d_C_init_14 (by decide)) d_C_init_17 d_C_init_19 (by decide) (nw_1 121 (by decide +kernel) rfl) (by decide) (by decide) (by decide) rfl rfl rfl (Nat.le_of_ble_eq_true rfl) (Nat.le_of_ble_eq_true rfl) ff_C_15 (Nat.le_of_ble_eq_true rfl) (fun q2 => ?_)
  refine bx_a (k := 2) (t := 2) (N := 240) (pc := 22) (pc' := 31) (c' := 3) (s' := 720) h d_C_init_22 (ax_r_sipush (v := 240) d_C_init_23 (by decide)) d_C_init_26 d_C_init_28 (by decide) (nw_1 121 (by decide +kernel) rfl) (by decide) (by decide) (by decide) rfl rfl rfl (Nat.le_of_ble_eq_true rfl) (Nat.le_of_ble_eq_true rfl) ff_C_19 (Nat.le_of_ble_eq_true rfl) (fun q3 => ?_)
  refine bx_a (k := 3) (t := 2) (N := 240) (pc := 31) (pc' := 40) (c' := 4) (s' := 960) h d_C_init_31 (ax_r_sipush (v := 240) d_C_init_32 (by decide)) d_C_init_35 d_C_init_37 (by decide) (nw_1 121 (by decide +kernel) rfl) (by decide) (by decide) (by decide) rfl rfl rfl (Nat.le_of_ble_eq_true rfl) (Nat.le_of_ble_eq_true rfl) ff_C_22 (Nat.le_of_ble_eq_true rfl) (fun q4 => ?_)
  refine bx_a (k := 4) (t := 0) (N := 240) (pc := 40) (pc' := 49) (c' := 5) (s' := 1200) h d_C_init_40 (ax_r_sipush (v := 240) d_C_init_41 (by decide)) d_C_init_44 d_C_init_46 (by decide) (nw_1 82 (by decide +kernel) rfl) (by decide) (by decide) (by decide) rfl rfl rfl (Nat.le_of_ble_eq_true rfl) (Nat.le_of_ble_eq_true rfl) ff_C_25 (Nat.le_of_ble_eq_true rfl) (fun q5 => ?_)
  refine bx_a (k := 5) (t := 0) (N := 240) (pc := 49) (pc' := 58) (c' := 6) (s' := 1440) h d_C_init_49 (ax_r_sipush (v := 240) d_C_init_50 (by decide)) d_C_init_53 d_C_init_55 (by decide) (nw_1 82 (by decide +kernel) rfl) (by decide) (by decide) (by decide) rfl rfl rfl (Nat.le_of_ble_eq_true rfl) (Nat.le_of_ble_eq_true rfl) ff_C_28 (Nat.le_of_ble_eq_true rfl) (fun q6 => ?_)
  refine bx_a (k := 6) (t := 0) (N := 240) (pc := 58) (pc' := 67) (c' := 7) (s' := 1680) h d_C_init_58 (ax_r_sipush (v := 240) d_C_init_59 (by decide)) d_C_init_62 d_C_init_64 (by decide) (nw_1 82 (by decide +kernel) rfl) (by decide) (by decide) (by decide) rfl rfl rfl (Nat.le_of_ble_eq_true rfl) (Nat.le_of_ble_eq_true rfl) ff_C_31 (Nat.le_of_ble_eq_true rfl) (fun q7 => ?_)
  refine bx_a (k := 7) (t := 0) (N := 240) (pc := 67) (pc' := 76) (c' := 8) (s' := 1920) h d_C_init_67 (ax_r_sipush (v := 240) d_C_init_68 (by decide)) d_C_init_71 d_C_init_73 (by decide) (nw_1 82 (by decide +kernel) rfl) (by decide) (by decide) (by decide) rfl rfl rfl (Nat.le_of_ble_eq_true rfl) (Nat.le_of_ble_eq_true rfl) ff_C_34 (Nat.le_of_ble_eq_true rfl) (fun q8 => ?_)
  refine bx_i (k := 8) (pc := 76) (pc' := 81) (v := .int (0)) h d_C_init_76 (ax_r_iconst (v := 0) d_C_init_77 (by decide)) d_C_init_78 rfl gp_C_37 (by decide) (by decide) (Nat.le_of_ble_eq_true rfl) ?_
  exact bx_r h d_C_init_81 (fun g' r => match r with | 4 => a0 | 5 => q1 | 6 => q2 | 7 => q3 | 8 => q4 | 9 => q5 | 10 => q6 | 11 => q7 | 12 => q8 | _ => 0) rfl rfl rfl rfl
/-! the constructor of CipherNotation$Lines -/
def y_L_init : MethodName := ⟨"CipherNotation$Lines", "<init>", "()V"⟩
theorem d_L_init_0 : decode prog_3_method_1_code 0 = .ok (.aload_n 0, 1) := by decide +kernel
theorem d_L_init_1 : decode prog_3_method_1_code 1 = .ok (.invokespecial (3), 3) := by decide +kernel
theorem d_L_init_4 : decode prog_3_method_1_code 4 = .ok (.aload_n 0, 1) := by decide +kernel
theorem d_L_init_5 : decode prog_3_method_1_code 5 = .ok (.bipush (120), 2) := by decide +kernel
theorem d_L_init_7 : decode prog_3_method_1_code 7 = .ok (.newarray .int, 2) := by decide +kernel
theorem d_L_init_9 : decode prog_3_method_1_code 9 = .ok (.putfield (11), 3) := by decide +kernel
theorem d_L_init_12 : decode prog_3_method_1_code 12 = .ok (.aload_n 0, 1) := by decide +kernel
theorem d_L_init_13 : decode prog_3_method_1_code 13 = .ok (.bipush (120), 2) := by decide +kernel
theorem d_L_init_15 : decode prog_3_method_1_code 15 = .ok (.newarray .int, 2) := by decide +kernel
theorem d_L_init_17 : decode prog_3_method_1_code 17 = .ok (.putfield (15), 3) := by decide +kernel
theorem d_L_init_20 : decode prog_3_method_1_code 20 = .ok (.aload_n 0, 1) := by decide +kernel
theorem d_L_init_21 : decode prog_3_method_1_code 21 = .ok (.bipush (120), 2) := by decide +kernel
theorem d_L_init_23 : decode prog_3_method_1_code 23 = .ok (.newarray .int, 2) := by decide +kernel
theorem d_L_init_25 : decode prog_3_method_1_code 25 = .ok (.putfield (18), 3) := by decide +kernel
theorem d_L_init_28 : decode prog_3_method_1_code 28 = .ok (.aload_n 0, 1) := by decide +kernel
theorem d_L_init_29 : decode prog_3_method_1_code 29 = .ok (.bipush (120), 2) := by decide +kernel
theorem d_L_init_31 : decode prog_3_method_1_code 31 = .ok (.newarray .int, 2) := by decide +kernel
theorem d_L_init_33 : decode prog_3_method_1_code 33 = .ok (.putfield (21), 3) := by decide +kernel
theorem d_L_init_36 : decode prog_3_method_1_code 36 = .ok (.aload_n 0, 1) := by decide +kernel
theorem d_L_init_37 : decode prog_3_method_1_code 37 = .ok (.bipush (120), 2) := by decide +kernel
theorem d_L_init_39 : decode prog_3_method_1_code 39 = .ok (.newarray .int, 2) := by decide +kernel
theorem d_L_init_41 : decode prog_3_method_1_code 41 = .ok (.putfield (24), 3) := by decide +kernel
theorem d_L_init_44 : decode prog_3_method_1_code 44 = .ok (.aload_n 0, 1) := by decide +kernel
theorem d_L_init_45 : decode prog_3_method_1_code 45 = .ok (.bipush (120), 2) := by decide +kernel
theorem d_L_init_47 : decode prog_3_method_1_code 47 = .ok (.newarray .int, 2) := by decide +kernel
theorem d_L_init_49 : decode prog_3_method_1_code 49 = .ok (.putfield (27), 3) := by decide +kernel
theorem d_L_init_52 : decode prog_3_method_1_code 52 = .ok (.aload_n 0, 1) := by decide +kernel
theorem d_L_init_53 : decode prog_3_method_1_code 53 = .ok (.iconst 0, 1) := by decide +kernel
theorem d_L_init_54 : decode prog_3_method_1_code 54 = .ok (.putfield (30), 3) := by decide +kernel
theorem d_L_init_57 : decode prog_3_method_1_code 57 = .ok (.return_, 1) := by decide +kernel
theorem ff_L_11 : bx_fF "CipherNotation$Lines" 11 1 0 := ⟨nC1, nT1, 7, nY1, .array .int, rfl, nW1, by decide, nw_1 180 (by decide +kernel) rfl, nO1, nA1, by decide +kernel, by decide +kernel, by decide +kernel, Or.inr ⟨_, rfl⟩⟩
theorem ff_L_15 : bx_fF "CipherNotation$Lines" 15 1 1 := ⟨nC1, nT1, 7, nY1, .array .int, rfl, nW1, by decide, nw_1 184 (by decide +kernel) rfl, nO1, nA1, by decide +kernel, by decide +kernel, by decide +kernel, Or.inr ⟨_, rfl⟩⟩
theorem ff_L_18 : bx_fF "CipherNotation$Lines" 18 1 2 := ⟨nC1, nT1, 7, nY1, .array .int, rfl, nW1, by decide, nw_1 188 (by decide +kernel) rfl, nO1, nA1, by decide +kernel, by decide +kernel, by decide +kernel, Or.inr ⟨_, rfl⟩⟩
theorem ff_L_21 : bx_fF "CipherNotation$Lines" 21 1 3 := ⟨nC1, nT1, 7, nY1, .array .int, rfl, nW1, by decide, nw_1 192 (by decide +kernel) rfl, nO1, nA1, by decide +kernel, by decide +kernel, by decide +kernel, Or.inr ⟨_, rfl⟩⟩
theorem ff_L_24 : bx_fF "CipherNotation$Lines" 24 1 4 := ⟨nC1, nT1, 7, nY1, .array .int, rfl, nW1, by decide, nw_1 195 (by decide +kernel) rfl, nO1, nA1, by decide +kernel, by decide +kernel, by decide +kernel, Or.inr ⟨_, rfl⟩⟩
theorem ff_L_27 : bx_fF "CipherNotation$Lines" 27 1 5 := ⟨nC1, nT1, 7, nY1, .array .int, rfl, nW1, by decide, nw_1 198 (by decide +kernel) rfl, nO1, nA1, by decide +kernel, by decide +kernel, by decide +kernel, Or.inr ⟨_, rfl⟩⟩
theorem gp_L_30 : ax_fp "CipherNotation$Lines" 30 1 6 (.int) := ⟨nC1, nT1, 7, nY1, rfl, nW1, by decide, nw_1 200 (by decide +kernel) rfl, nO1, nA1, by decide +kernel, by decide +kernel⟩
abbrev al_L (g : Nat) : List (Nat × Nat) := [(g, 13), (g, 14), (g, 15), (g, 16), (g, 17), (g, 18), (g, 19)]
set_option maxHeartbeats 4000000 in
set_option maxRecDepth 100000 in
theorem t_L_init {l : Launch} {D : va_G} {cA : Nat → ClassId} (g : Nat) : bx_T l D cA y_L_init (.code y_L_init prog_3_method_1_code 1 none) 1 6 720 1 (bx_dv nY1 7) (g, 13) (al_L g) := by
  refine bx_T_of (own := "CipherNotation$Lines") (by decide) rfl rfl (by decide) ?_
  intro a0 G h
  refine bx_0 h d_L_init_0 d_L_init_1 (nw_1 179 (by decide +kernel) rfl) (nw_1 26 (by decide +kernel) rfl) (nw_1 27 rfl rfl) (by decide) ?_
  refine bx_a (k := 0) (t := 0) (N := 120) (pc := 4) (pc' := 12) (c' := 1) (s' := 120) h d_L_init_4 (ax_r_bipush (v := 120) d_L_init_5 (by decide)) d_L_init_7 d_L_init_9 (by decide) (nw_1 82 (by decide +kernel) rfl) (by decide) (by decide) (by decide) rfl rfl rfl (Nat.le_of_ble_eq_true rfl) (Nat.le_of_ble_eq_true rfl) ff_L_11 (Nat.le_of_ble_eq_true rfl) (fun q1 => ?_)
  refine bx_a (k := 1) (t := 0) (N := 120) (pc := 12) (pc' := 20) (c' := 2) (s' := 240) h d_L_init_12 (ax_r_bipush (v := 120) d_L_init_13 (by decide)) d_L_init_15 d_L_init_17 (by decide) (nw_1 82 (by decide +kernel) rfl) (by decide) (by decide) (by decide) rfl rfl rfl (Nat.le_of_ble_eq_true rfl) (Nat.le_of_ble_eq_true rfl) ff_L_15 (Nat.le_of_ble_eq_true rfl) (fun q2 => ?_)
  refine bx_a (k := 2) (t := 0) (N := 120) (pc := 20) (pc' := 28) (c' := 3) (s' := 360) h d_L_init_20 (ax_r_bipush (v := 120) d_L_init_21 (by decide)) d_L_init_23 d_L_init_25 (by decide) (nw_1 82 (by decide +kernel) rfl) (by decide) (by decide) (by decide) rfl rfl rfl (Nat.le_of_ble_eq_true rfl) (Nat.le_of_ble_eq_true rfl) ff_L_18 (Nat.le_of_ble_eq_true rfl) (fun q3 => ?_)
  refine bx_a (k := 3) (t := 0) (N := 120) (pc := 28) (pc' := 36) (c' := 4) (s' := 480) h d_L_init_28 (ax_r_bipush (v := 120) d_L_init_29 (by decide)) d_L_init_31 d_L_init_33 (by decide) (nw_1 82 (by decide +kernel) rfl) (by decide) (by decide) (by decide) rfl rfl rfl (Nat.le_of_ble_eq_true rfl) (Nat.le_of_ble_eq_true rfl) ff_L_21 (Nat.le_of_ble_eq_true rfl) (fun q4 => ?_)
  refine bx_a (k := 4) (t := 0) (N := 120) (pc := 36) (pc' := 44) (c' := 5) (s' := 600) h d_L_init_36 (ax_r_bipush (v := 120) d_L_init_37 (by decide)) d_L_init_39 d_L_init_41 (by decide) (nw_1 82 (by decide +kernel) rfl) (by decide) (by decide) (by decide) rfl rfl rfl (Nat.le_of_ble_eq_true rfl) (Nat.le_of_ble_eq_true rfl) ff_L_24 (Nat.le_of_ble_eq_true rfl) (fun q5 => ?_)
  refine bx_a (k := 5) (t := 0) (N := 120) (pc := 44) (pc' := 52) (c' := 6) (s' := 720) h d_L_init_44 (ax_r_bipush (v := 120) d_L_init_45 (by decide)) d_L_init_47 d_L_init_49 (by decide) (nw_1 82 (by decide +kernel) rfl) (by decide) (by decide) (by decide) rfl rfl rfl (Nat.le_of_ble_eq_true rfl) (Nat.le_of_ble_eq_true rfl) ff_L_27 (Nat.le_of_ble_eq_true rfl) (fun q6 => ?_)
  refine bx_i (k := 6) (pc := 52) (pc' := 57) (v := .int (0)) h d_L_init_52 (ax_r_iconst (v := 0) d_L_init_53 (by decide)) d_L_init_54 rfl gp_L_30 (by decide) (by decide) (Nat.le_of_ble_eq_true rfl) ?_
  exact bx_r h d_L_init_57 (fun g' r => match r with | 13 => a0 | 14 => q1 | 15 => q2 | 16 => q3 | 17 => q4 | 18 => q5 | 19 => q6 | _ => 0) rfl rfl rfl rfl
/-! the constructor of CipherNotation$Program -/
def y_P_init : MethodName := ⟨"CipherNotation$Program", "<init>", "()V"⟩
theorem d_P_init_0 : decode prog_5_method_1_code 0 = .ok (.aload_n 0, 1) := by decide +kernel
theorem d_P_init_1 : decode prog_5_method_1_code 1 = .ok (.invokespecial (3), 3) := by decide +kernel
theorem d_P_init_4 : decode prog_5_method_1_code 4 = .ok (.aload_n 0, 1) := by decide +kernel
theorem d_P_init_5 : decode prog_5_method_1_code 5 = .ok (.bipush (8), 2) := by decide +kernel
theorem d_P_init_7 : decode prog_5_method_1_code 7 = .ok (.newarray .int, 2) := by decide +kernel
theorem d_P_init_9 : decode prog_5_method_1_code 9 = .ok (.putfield (9), 3) := by decide +kernel
theorem d_P_init_12 : decode prog_5_method_1_code 12 = .ok (.aload_n 0, 1) := by decide +kernel
theorem d_P_init_13 : decode prog_5_method_1_code 13 = .ok (.bipush (32), 2) := by decide +kernel
theorem d_P_init_15 : decode prog_5_method_1_code 15 = .ok (.newarray .int, 2) := by decide +kernel
theorem d_P_init_17 : decode prog_5_method_1_code 17 = .ok (.putfield (15), 3) := by decide +kernel
theorem d_P_init_20 : decode prog_5_method_1_code 20 = .ok (.aload_n 0, 1) := by decide +kernel
theorem d_P_init_21 : decode prog_5_method_1_code 21 = .ok (.bipush (32), 2) := by decide +kernel
theorem d_P_init_23 : decode prog_5_method_1_code 23 = .ok (.newarray .int, 2) := by decide +kernel
theorem d_P_init_25 : decode prog_5_method_1_code 25 = .ok (.putfield (18), 3) := by decide +kernel
theorem d_P_init_28 : decode prog_5_method_1_code 28 = .ok (.aload_n 0, 1) := by decide +kernel
theorem d_P_init_29 : decode prog_5_method_1_code 29 = .ok (.new (21), 3) := by decide +kernel
theorem d_P_init_32 : decode prog_5_method_1_code 32 = .ok (.dup, 1) := by decide +kernel
theorem d_P_init_33 : decode prog_5_method_1_code 33 = .ok (.invokespecial (23), 3) := by decide +kernel
theorem d_P_init_36 : decode prog_5_method_1_code 36 = .ok (.putfield (24), 3) := by decide +kernel
theorem d_P_init_39 : decode prog_5_method_1_code 39 = .ok (.aload_n 0, 1) := by decide +kernel
theorem d_P_init_40 : decode prog_5_method_1_code 40 = .ok (.new (28), 3) := by decide +kernel
theorem d_P_init_43 : decode prog_5_method_1_code 43 = .ok (.dup, 1) := by decide +kernel
theorem d_P_init_44 : decode prog_5_method_1_code 44 = .ok (.invokespecial (30), 3) := by decide +kernel
theorem d_P_init_47 : decode prog_5_method_1_code 47 = .ok (.putfield (31), 3) := by decide +kernel
theorem d_P_init_50 : decode prog_5_method_1_code 50 = .ok (.aload_n 0, 1) := by decide +kernel
theorem d_P_init_51 : decode prog_5_method_1_code 51 = .ok (.sipush (400), 3) := by decide +kernel
theorem d_P_init_54 : decode prog_5_method_1_code 54 = .ok (.newarray .int, 2) := by decide +kernel
theorem d_P_init_56 : decode prog_5_method_1_code 56 = .ok (.putfield (35), 3) := by decide +kernel
theorem d_P_init_59 : decode prog_5_method_1_code 59 = .ok (.aload_n 0, 1) := by decide +kernel
theorem d_P_init_60 : decode prog_5_method_1_code 60 = .ok (.iconst 2, 1) := by decide +kernel
theorem d_P_init_61 : decode prog_5_method_1_code 61 = .ok (.newarray .int, 2) := by decide +kernel
theorem d_P_init_63 : decode prog_5_method_1_code 63 = .ok (.putfield (38), 3) := by decide +kernel
theorem d_P_init_66 : decode prog_5_method_1_code 66 = .ok (.aload_n 0, 1) := by decide +kernel
theorem d_P_init_67 : decode prog_5_method_1_code 67 = .ok (.sipush (264), 3) := by decide +kernel
theorem d_P_init_70 : decode prog_5_method_1_code 70 = .ok (.newarray .char, 2) := by decide +kernel
theorem d_P_init_72 : decode prog_5_method_1_code 72 = .ok (.putfield (41), 3) := by decide +kernel
theorem d_P_init_75 : decode prog_5_method_1_code 75 = .ok (.aload_n 0, 1) := by decide +kernel
theorem d_P_init_76 : decode prog_5_method_1_code 76 = .ok (.iconst 0, 1) := by decide +kernel
theorem d_P_init_77 : decode prog_5_method_1_code 77 = .ok (.putfield (45), 3) := by decide +kernel
theorem d_P_init_80 : decode prog_5_method_1_code 80 = .ok (.return_, 1) := by decide +kernel
theorem ff_P_9 : bx_fF "CipherNotation$Program" 9 3 0 := ⟨nC3, nT3, 9, nY3, .array .int, rfl, nW3, by decide, nw_1 218 (by decide +kernel) rfl, nO3, nA3, by decide +kernel, by decide +kernel, by decide +kernel, Or.inr ⟨_, rfl⟩⟩
theorem ff_P_15 : bx_fF "CipherNotation$Program" 15 3 1 := ⟨nC3, nT3, 9, nY3, .array .int, rfl, nW3, by decide, nw_1 222 (by decide +kernel) rfl, nO3, nA3, by decide +kernel, by decide +kernel, by decide +kernel, Or.inr ⟨_, rfl⟩⟩
theorem ff_P_18 : bx_fF "CipherNotation$Program" 18 3 2 := ⟨nC3, nT3, 9, nY3, .array .int, rfl, nW3, by decide, nw_1 226 (by decide +kernel) rfl, nO3, nA3, by decide +kernel, by decide +kernel, by decide +kernel, Or.inr ⟨_, rfl⟩⟩
theorem cwi_P_23 : ax_cw "CipherNotation$Program" 23 y_C_init (.code y_C_init prog_2_method_1_code 1 none) 0 := ⟨nw_1 130 (by decide +kernel) rfl, nw_1 5 (by decide +kernel) rfl, nw_1 132 rfl rfl, by decide, by decide +kernel⟩
theorem ff_P_24 : bx_fF "CipherNotation$Program" 24 3 3 := ⟨nC3, nT3, 9, nY3, .object "CipherNotation$Code", rfl, nW3, by decide, nw_1 229 (by decide +kernel) rfl, nO3, nA3, by decide +kernel, by decide +kernel, by decide +kernel, Or.inl ⟨_, rfl⟩⟩
theorem cwi_P_30 : ax_cw "CipherNotation$Program" 30 y_L_init (.code y_L_init prog_3_method_1_code 1 none) 0 := ⟨nw_1 176 (by decide +kernel) rfl, nw_1 6 (by decide +kernel) rfl, nw_1 178 rfl rfl, by decide, by decide +kernel⟩
theorem ff_P_31 : bx_fF "CipherNotation$Program" 31 3 4 := ⟨nC3, nT3, 9, nY3, .object "CipherNotation$Lines", rfl, nW3, by decide, nw_1 232 (by decide +kernel) rfl, nO3, nA3, by decide +kernel, by decide +kernel, by decide +kernel, Or.inl ⟨_, rfl⟩⟩
theorem ff_P_35 : bx_fF "CipherNotation$Program" 35 3 5 := ⟨nC3, nT3, 9, nY3, .array .int, rfl, nW3, by decide, nw_1 235 (by decide +kernel) rfl, nO3, nA3, by decide +kernel, by decide +kernel, by decide +kernel, Or.inr ⟨_, rfl⟩⟩
theorem ff_P_38 : bx_fF "CipherNotation$Program" 38 3 6 := ⟨nC3, nT3, 9, nY3, .array .int, rfl, nW3, by decide, nw_1 237 (by decide +kernel) rfl, nO3, nA3, by decide +kernel, by decide +kernel, by decide +kernel, Or.inr ⟨_, rfl⟩⟩
theorem ff_P_41 : bx_fF "CipherNotation$Program" 41 3 7 := ⟨nC3, nT3, 9, nY3, .array .char, rfl, nW3, by decide, nw_1 238 (by decide +kernel) rfl, nO3, nA3, by decide +kernel, by decide +kernel, by decide +kernel, Or.inr ⟨_, rfl⟩⟩
theorem gp_P_45 : ax_fp "CipherNotation$Program" 45 3 8 (.int) := ⟨nC3, nT3, 9, nY3, rfl, nW3, by decide, nw_2 1 (by decide +kernel) rfl, nO3, nA3, by decide +kernel, by decide +kernel⟩
abbrev al_P (g : Nat) : List (Nat × Nat) := [(g, 0), (g, 1), (g, 2), (g, 3), (g, 4), (g, 5), (g, 6), (g, 7), (g, 8), (g, 9), (g, 10), (g, 11), (g, 12), (g, 13), (g, 14), (g, 15), (g, 16), (g, 17), (g, 18), (g, 19), (g, 20), (g, 21), (g, 22)]
set_option maxHeartbeats 4000000 in
set_option maxRecDepth 100000 in
theorem t_P_init {l : Launch} {D : va_G} {cA : Nat → ClassId} (g : Nat) : bx_T l D cA y_P_init (.code y_P_init prog_5_method_1_code 1 none) 2 22 3394 3 (bx_dv nY3 9) (g, 0) (al_P g) := by
  refine bx_T_of (own := "CipherNotation$Program") (by decide) rfl rfl (by decide) ?_
  intro a0 G h
  refine bx_0 h d_P_init_0 d_P_init_1 (nw_1 127 (by decide +kernel) rfl) (nw_1 26 (by decide +kernel) rfl) (nw_1 27 rfl rfl) (by decide) ?_
  refine bx_a (k := 0) (t := 0) (N := 8) (pc := 4) (pc' := 12) (c' := 1) (s' := 8) h d_P_init_4 (ax_r_bipush (v := 8) d_P_init_5 (by decide)) d_P_init_7 d_P_init_9 (by decide) (nw_1 82 (by decide +kernel) rfl) (by decide) (by decide) (by decide) rfl rfl rfl (Nat.le_of_ble_eq_true rfl) (Nat.le_of_ble_eq_true rfl) ff_P_9 (Nat.le_of_ble_eq_true rfl) (fun q1 => ?_)
  refine bx_a (k := 1) (t := 0) (N := 32) (pc := 12) (pc' := 20) (c' := 2) (s' := 40) h d_P_init_12 (ax_r_bipush (v := 32) d_P_init_13 (by decide)) d_P_init_15 d_P_init_17 (by decide) (nw_1 82 (by decide +kernel) rfl) (by decide) (by decide) (by decide) rfl rfl rfl (Nat.le_of_ble_eq_true rfl) (Nat.le_of_ble_eq_true rfl) ff_P_15 (Nat.le_of_ble_eq_true rfl) (fun q2 => ?_)
  refine bx_a (k := 2) (t := 0) (N := 32) (pc := 20) (pc' := 28) (c' := 3) (s' := 72) h d_P_init_20 (ax_r_bipush (v := 32) d_P_init_21 (by decide)) d_P_init_23 d_P_init_25 (by decide) (nw_1 82 (by decide +kernel) rfl) (by decide) (by decide) (by decide) rfl rfl rfl (Nat.le_of_ble_eq_true rfl) (Nat.le_of_ble_eq_true rfl) ff_P_18 (Nat.le_of_ble_eq_true rfl) (fun q3 => ?_)
  refine bx_t h d_P_init_28 ?_
  refine bx_o (pc := 29) (pc' := 36) (c' := 12) (s' := 2001) h.1 (t_C_init g) cwi_P_23 (nw_1 131 (by decide +kernel) rfl) rfl rfl nW0 nO0 (nw_1 128 (by decide +kernel) rfl) (nw_1 129 (by decide +kernel) rfl) (nw_1 5 (by decide +kernel) rfl) d_P_init_29 d_P_init_32 d_P_init_33 rfl rfl rfl (Nat.le_of_ble_eq_true rfl) (Nat.le_of_ble_eq_true rfl) (Nat.le_of_ble_eq_true rfl) (Nat.le_of_ble_eq_true rfl) (Nat.le_of_ble_eq_true rfl) (fun q4 ad4 e4 => ?_)
  subst e4
  refine bx_F (k := 3) (q := ad4 g 4) h ff_P_24 (Nat.le_of_ble_eq_true rfl) d_P_init_36 ?_
  refine bx_t h d_P_init_39 ?_
  refine bx_o (pc := 40) (pc' := 47) (c' := 19) (s' := 2728) h.1 (t_L_init g) cwi_P_30 (nw_1 177 (by decide +kernel) rfl) rfl rfl nW1 nO1 (nw_1 174 (by decide +kernel) rfl) (nw_1 175 (by decide +kernel) rfl) (nw_1 6 (by decide +kernel) rfl) d_P_init_40 d_P_init_43 d_P_init_44 rfl rfl rfl (Nat.le_of_ble_eq_true rfl) (Nat.le_of_ble_eq_true rfl) (Nat.le_of_ble_eq_true rfl) (Nat.le_of_ble_eq_true rfl) (Nat.le_of_ble_eq_true rfl) (fun q5 ad5 e5 => ?_)
  subst e5
  refine bx_F (k := 4) (q := ad5 g 13) h ff_P_31 (Nat.le_of_ble_eq_true rfl) d_P_init_47 ?_
  refine bx_a (k := 5) (t := 0) (N := 400) (pc := 50) (pc' := 59) (c' := 20) (s' := 3128) h d_P_init_50 (ax_r_sipush (v := 400) d_P_init_51 (by decide)) d_P_init_54 d_P_init_56 (by decide) (nw_1 82 (by decide +kernel) rfl) (by decide) (by decide) (by decide) rfl rfl rfl (Nat.le_of_ble_eq_true rfl) (Nat.le_of_ble_eq_true rfl) ff_P_35 (Nat.le_of_ble_eq_true rfl) (fun q6 => ?_)
  refine bx_a (k := 6) (t := 0) (N := 2) (pc := 59) (pc' := 66) (c' := 21) (s' := 3130) h d_P_init_59 (ax_r_iconst (v := 2) d_P_init_60 (by decide)) d_P_init_61 d_P_init_63 (by decide) (nw_1 82 (by decide +kernel) rfl) (by decide) (by decide) (by decide) rfl rfl rfl (Nat.le_of_ble_eq_true rfl) (Nat.le_of_ble_eq_true rfl) ff_P_38 (Nat.le_of_ble_eq_true rfl) (fun q7 => ?_)
  refine bx_a (k := 7) (t := 1) (N := 264) (pc := 66) (pc' := 75) (c' := 22) (s' := 3394) h d_P_init_66 (ax_r_sipush (v := 264) d_P_init_67 (by decide)) d_P_init_70 d_P_init_72 (by decide) (nw_1 81 (by decide +kernel) rfl) (by decide) (by decide) (by decide) rfl rfl rfl (Nat.le_of_ble_eq_true rfl) (Nat.le_of_ble_eq_true rfl) ff_P_41 (Nat.le_of_ble_eq_true rfl) (fun q8 => ?_)
  refine bx_i (k := 8) (pc := 75) (pc' := 80) (v := .int (0)) h d_P_init_75 (ax_r_iconst (v := 0) d_P_init_76 (by decide)) d_P_init_77 rfl gp_P_45 (by decide) (by decide) (Nat.le_of_ble_eq_true rfl) ?_
  exact bx_r h d_P_init_80 (fun g' r => match r with | 0 => a0 | 1 => q1 | 2 => q2 | 3 => q3 | 4 => ad4 g' 4 | 5 => ad4 g' 5 | 6 => ad4 g' 6 | 7 => ad4 g' 7 | 8 => ad4 g' 8 | 9 => ad4 g' 9 | 10 => ad4 g' 10 | 11 => ad4 g' 11 | 12 => ad4 g' 12 | 13 => ad5 g' 13 | 14 => ad5 g' 14 | 15 => ad5 g' 15 | 16 => ad5 g' 16 | 17 => ad5 g' 17 | 18 => ad5 g' 18 | 19 => ad5 g' 19 | 20 => q6 | 21 => q7 | 22 => q8 | _ => 0) rfl rfl rfl rfl
/-! the constructor of CipherNotation$Reader -/
def y_R_init : MethodName := ⟨"CipherNotation$Reader", "<init>", "()V"⟩
theorem d_R_init_0 : decode prog_6_method_1_code 0 = .ok (.aload_n 0, 1) := by decide +kernel
theorem d_R_init_1 : decode prog_6_method_1_code 1 = .ok (.invokespecial (5), 3) := by decide +kernel
theorem d_R_init_4 : decode prog_6_method_1_code 4 = .ok (.aload_n 0, 1) := by decide +kernel
theorem d_R_init_5 : decode prog_6_method_1_code 5 = .ok (.sipush (241), 3) := by decide +kernel
theorem d_R_init_8 : decode prog_6_method_1_code 8 = .ok (.newarray .char, 2) := by decide +kernel
theorem d_R_init_10 : decode prog_6_method_1_code 10 = .ok (.putfield (11), 3) := by decide +kernel
theorem d_R_init_13 : decode prog_6_method_1_code 13 = .ok (.aload_n 0, 1) := by decide +kernel
theorem d_R_init_14 : decode prog_6_method_1_code 14 = .ok (.sipush (241), 3) := by decide +kernel
theorem d_R_init_17 : decode prog_6_method_1_code 17 = .ok (.newarray .int, 2) := by decide +kernel
theorem d_R_init_19 : decode prog_6_method_1_code 19 = .ok (.putfield (15), 3) := by decide +kernel
theorem d_R_init_22 : decode prog_6_method_1_code 22 = .ok (.aload_n 0, 1) := by decide +kernel
theorem d_R_init_23 : decode prog_6_method_1_code 23 = .ok (.iconst 2, 1) := by decide +kernel
theorem d_R_init_24 : decode prog_6_method_1_code 24 = .ok (.newarray .int, 2) := by decide +kernel
theorem d_R_init_26 : decode prog_6_method_1_code 26 = .ok (.putfield (19), 3) := by decide +kernel
theorem d_R_init_29 : decode prog_6_method_1_code 29 = .ok (.aload_n 0, 1) := by decide +kernel
theorem d_R_init_30 : decode prog_6_method_1_code 30 = .ok (.bipush (16), 2) := by decide +kernel
theorem d_R_init_32 : decode prog_6_method_1_code 32 = .ok (.newarray .int, 2) := by decide +kernel
theorem d_R_init_34 : decode prog_6_method_1_code 34 = .ok (.putfield (22), 3) := by decide +kernel
theorem d_R_init_37 : decode prog_6_method_1_code 37 = .ok (.aload_n 0, 1) := by decide +kernel
theorem d_R_init_38 : decode prog_6_method_1_code 38 = .ok (.iconst 2, 1) := by decide +kernel
theorem d_R_init_39 : decode prog_6_method_1_code 39 = .ok (.newarray .int, 2) := by decide +kernel
theorem d_R_init_41 : decode prog_6_method_1_code 41 = .ok (.putfield (25), 3) := by decide +kernel
theorem d_R_init_44 : decode prog_6_method_1_code 44 = .ok (.aload_n 0, 1) := by decide +kernel
theorem d_R_init_45 : decode prog_6_method_1_code 45 = .ok (.iconst 2, 1) := by decide +kernel
theorem d_R_init_46 : decode prog_6_method_1_code 46 = .ok (.newarray .int, 2) := by decide +kernel
theorem d_R_init_48 : decode prog_6_method_1_code 48 = .ok (.putfield (28), 3) := by decide +kernel
theorem d_R_init_51 : decode prog_6_method_1_code 51 = .ok (.aload_n 0, 1) := by decide +kernel
theorem d_R_init_52 : decode prog_6_method_1_code 52 = .ok (.iconst (-1), 1) := by decide +kernel
theorem d_R_init_53 : decode prog_6_method_1_code 53 = .ok (.putfield (31), 3) := by decide +kernel
theorem d_R_init_56 : decode prog_6_method_1_code 56 = .ok (.return_, 1) := by decide +kernel
theorem ff_R_11 : bx_fF "CipherNotation$Reader" 11 4 0 := ⟨nC4, nT4, 15, nY4, .array .char, rfl, nW4, by decide, nw_1 34 (by decide +kernel) rfl, nO4, nA4, by decide +kernel, by decide +kernel, by decide +kernel, Or.inr ⟨_, rfl⟩⟩
theorem ff_R_15 : bx_fF "CipherNotation$Reader" 15 4 1 := ⟨nC4, nT4, 15, nY4, .array .int, rfl, nW4, by decide, nw_1 35 (by decide +kernel) rfl, nO4, nA4, by decide +kernel, by decide +kernel, by decide +kernel, Or.inr ⟨_, rfl⟩⟩
theorem ff_R_19 : bx_fF "CipherNotation$Reader" 19 4 10 := ⟨nC4, nT4, 15, nY4, .array .int, rfl, nW4, by decide, nw_1 44 (by decide +kernel) rfl, nO4, nA4, by decide +kernel, by decide +kernel, by decide +kernel, Or.inr ⟨_, rfl⟩⟩
theorem ff_R_22 : bx_fF "CipherNotation$Reader" 22 4 11 := ⟨nC4, nT4, 15, nY4, .array .int, rfl, nW4, by decide, nw_1 45 (by decide +kernel) rfl, nO4, nA4, by decide +kernel, by decide +kernel, by decide +kernel, Or.inr ⟨_, rfl⟩⟩
theorem ff_R_25 : bx_fF "CipherNotation$Reader" 25 4 12 := ⟨nC4, nT4, 15, nY4, .array .int, rfl, nW4, by decide, nw_1 46 (by decide +kernel) rfl, nO4, nA4, by decide +kernel, by decide +kernel, by decide +kernel, Or.inr ⟨_, rfl⟩⟩
theorem ff_R_28 : bx_fF "CipherNotation$Reader" 28 4 13 := ⟨nC4, nT4, 15, nY4, .array .int, rfl, nW4, by decide, nw_1 47 (by decide +kernel) rfl, nO4, nA4, by decide +kernel, by decide +kernel, by decide +kernel, Or.inr ⟨_, rfl⟩⟩
theorem gp_R_31 : ax_fp "CipherNotation$Reader" 31 4 14 (.int) := ⟨nC4, nT4, 15, nY4, rfl, nW4, by decide, nw_1 48 (by decide +kernel) rfl, nO4, nA4, by decide +kernel, by decide +kernel⟩
abbrev al_R : List (Nat × Nat) := [(0, 25), (0, 26), (0, 27), (0, 28), (0, 29), (0, 30), (0, 31)]
set_option maxHeartbeats 4000000 in
set_option maxRecDepth 100000 in
theorem t_R_init {l : Launch} {D : va_G} {cA : Nat → ClassId} : bx_T l D cA y_R_init (.code y_R_init prog_6_method_1_code 1 none) 1 6 504 4 (bx_dv nY4 15) (0, 25) al_R := by
  refine bx_T_of (own := "CipherNotation$Reader") (by decide) rfl rfl (by decide) ?_
  intro a0 G h
  refine bx_0 h d_R_init_0 d_R_init_1 (nw_1 33 (by decide +kernel) rfl) (nw_1 26 (by decide +kernel) rfl) (nw_1 27 rfl rfl) (by decide) ?_
  refine bx_a (k := 0) (t := 1) (N := 241) (pc := 4) (pc' := 13) (c' := 1) (s' := 241) h d_R_init_4 (ax_r_sipush (v := 241) d_R_init_5 (by decide)) d_R_init_8 d_R_init_10 (by decide) (nw_1 81 (by decide +kernel) rfl) (by decide) (by decide) (by decide) rfl rfl rfl (Nat.le_of_ble_eq_true rfl) (Nat.le_of_ble_eq_true rfl) ff_R_11 (Nat.le_of_ble_eq_true rfl) (fun q1 => ?_)
  refine bx_a (k := 1) (t := 0) (N := 241) (pc := 13) (pc' := 22) (c' := 2) (s' := 482) h d_R_init_13 (ax_r_sipush (v := 241) d_R_init_14 (by decide)) d_R_init_17 d_R_init_19 (by decide) (nw_1 82 (by decide +kernel) rfl) (by decide) (by decide) (by decide) rfl rfl rfl (Nat.le_of_ble_eq_true rfl) (Nat.le_of_ble_eq_true rfl) ff_R_15 (Nat.le_of_ble_eq_true rfl) (fun q2 => ?_)
  refine bx_a (k := 10) (t := 0) (N := 2) (pc := 22) (pc' := 29) (c' := 3) (s' := 484) h d_R_init_22 (ax_r_iconst (v := 2) d_R_init_23 (by decide)) d_R_init_24 d_R_init_26 (by decide) (nw_1 82 (by decide +kernel) rfl) (by decide) (by decide) (by decide) rfl rfl rfl (Nat.le_of_ble_eq_true rfl) (Nat.le_of_ble_eq_true rfl) ff_R_19 (Nat.le_of_ble_eq_true rfl) (fun q3 => ?_)
  refine bx_a (k := 11) (t := 0) (N := 16) (pc := 29) (pc' := 37) (c' := 4) (s' := 500) h d_R_init_29 (ax_r_bipush (v := 16) d_R_init_30 (by decide)) d_R_init_32 d_R_init_34 (by decide) (nw_1 82 (by decide +kernel) rfl) (by decide) (by decide) (by decide) rfl rfl rfl (Nat.le_of_ble_eq_true rfl) (Nat.le_of_ble_eq_true rfl) ff_R_22 (Nat.le_of_ble_eq_true rfl) (fun q4 => ?_)
  refine bx_a (k := 12) (t := 0) (N := 2) (pc := 37) (pc' := 44) (c' := 5) (s' := 502) h d_R_init_37 (ax_r_iconst (v := 2) d_R_init_38 (by decide)) d_R_init_39 d_R_init_41 (by decide) (nw_1 82 (by decide +kernel) rfl) (by decide) (by decide) (by decide) rfl rfl rfl (Nat.le_of_ble_eq_true rfl) (Nat.le_of_ble_eq_true rfl) ff_R_25 (Nat.le_of_ble_eq_true rfl) (fun q5 => ?_)
  refine bx_a (k := 13) (t := 0) (N := 2) (pc := 44) (pc' := 51) (c' := 6) (s' := 504) h d_R_init_44 (ax_r_iconst (v := 2) d_R_init_45 (by decide)) d_R_init_46 d_R_init_48 (by decide) (nw_1 82 (by decide +kernel) rfl) (by decide) (by decide) (by decide) rfl rfl rfl (Nat.le_of_ble_eq_true rfl) (Nat.le_of_ble_eq_true rfl) ff_R_28 (Nat.le_of_ble_eq_true rfl) (fun q6 => ?_)
  refine bx_i (k := 14) (pc := 51) (pc' := 56) (v := .int (-1)) h d_R_init_51 (ax_r_iconst (v := -1) d_R_init_52 (by decide)) d_R_init_53 rfl gp_R_31 (by decide) (by decide) (Nat.le_of_ble_eq_true rfl) ?_
  exact bx_r h d_R_init_56 (fun g' r => match r with | 25 => a0 | 26 => q1 | 27 => q2 | 28 => q3 | 29 => q4 | 30 => q5 | 31 => q6 | _ => 0) rfl rfl rfl rfl
/-! the constructor of CipherNotation$Machine -/
def y_M_init : MethodName := ⟨"CipherNotation$Machine", "<init>", "()V"⟩
theorem d_M_init_0 : decode prog_4_method_1_code 0 = .ok (.aload_n 0, 1) := by decide +kernel
theorem d_M_init_1 : decode prog_4_method_1_code 1 = .ok (.invokespecial (3), 3) := by decide +kernel
theorem d_M_init_4 : decode prog_4_method_1_code 4 = .ok (.aload_n 0, 1) := by decide +kernel
theorem d_M_init_5 : decode prog_4_method_1_code 5 = .ok (.iconst 4, 1) := by decide +kernel
theorem d_M_init_6 : decode prog_4_method_1_code 6 = .ok (.newarray .long, 2) := by decide +kernel
theorem d_M_init_8 : decode prog_4_method_1_code 8 = .ok (.putfield (9), 3) := by decide +kernel
theorem d_M_init_11 : decode prog_4_method_1_code 11 = .ok (.aload_n 0, 1) := by decide +kernel
theorem d_M_init_12 : decode prog_4_method_1_code 12 = .ok (.iconst 4, 1) := by decide +kernel
theorem d_M_init_13 : decode prog_4_method_1_code 13 = .ok (.newarray .long, 2) := by decide +kernel
theorem d_M_init_15 : decode prog_4_method_1_code 15 = .ok (.putfield (15), 3) := by decide +kernel
theorem d_M_init_18 : decode prog_4_method_1_code 18 = .ok (.aload_n 0, 1) := by decide +kernel
theorem d_M_init_19 : decode prog_4_method_1_code 19 = .ok (.bipush (32), 2) := by decide +kernel
theorem d_M_init_21 : decode prog_4_method_1_code 21 = .ok (.newarray .long, 2) := by decide +kernel
theorem d_M_init_23 : decode prog_4_method_1_code 23 = .ok (.putfield (18), 3) := by decide +kernel
theorem d_M_init_26 : decode prog_4_method_1_code 26 = .ok (.aload_n 0, 1) := by decide +kernel
theorem d_M_init_27 : decode prog_4_method_1_code 27 = .ok (.bipush (13), 2) := by decide +kernel
theorem d_M_init_29 : decode prog_4_method_1_code 29 = .ok (.newarray .long, 2) := by decide +kernel
theorem d_M_init_31 : decode prog_4_method_1_code 31 = .ok (.putfield (21), 3) := by decide +kernel
theorem d_M_init_34 : decode prog_4_method_1_code 34 = .ok (.return_, 1) := by decide +kernel
theorem ff_M_9 : bx_fF "CipherNotation$Machine" 9 2 0 := ⟨nC2, nT2, 9, nY2, .array .long, rfl, nW2, by decide, nw_1 89 (by decide +kernel) rfl, nO2, nA2, by decide +kernel, by decide +kernel, by decide +kernel, Or.inr ⟨_, rfl⟩⟩
theorem ff_M_15 : bx_fF "CipherNotation$Machine" 15 2 1 := ⟨nC2, nT2, 9, nY2, .array .long, rfl, nW2, by decide, nw_1 91 (by decide +kernel) rfl, nO2, nA2, by decide +kernel, by decide +kernel, by decide +kernel, Or.inr ⟨_, rfl⟩⟩
theorem ff_M_18 : bx_fF "CipherNotation$Machine" 18 2 2 := ⟨nC2, nT2, 9, nY2, .array .long, rfl, nW2, by decide, nw_1 93 (by decide +kernel) rfl, nO2, nA2, by decide +kernel, by decide +kernel, by decide +kernel, Or.inr ⟨_, rfl⟩⟩
theorem ff_M_21 : bx_fF "CipherNotation$Machine" 21 2 3 := ⟨nC2, nT2, 9, nY2, .array .long, rfl, nW2, by decide, nw_1 95 (by decide +kernel) rfl, nO2, nA2, by decide +kernel, by decide +kernel, by decide +kernel, Or.inr ⟨_, rfl⟩⟩
abbrev al_M : List (Nat × Nat) := [(0, 32), (0, 33), (0, 34), (0, 35), (0, 36)]
set_option maxHeartbeats 4000000 in
set_option maxRecDepth 100000 in
theorem t_M_init {l : Launch} {D : va_G} {cA : Nat → ClassId} : bx_T l D cA y_M_init (.code y_M_init prog_4_method_1_code 1 none) 1 4 53 2 (bx_dv nY2 9) (0, 32) al_M := by
  refine bx_T_of (own := "CipherNotation$Machine") (by decide) rfl rfl (by decide) ?_
  intro a0 G h
  refine bx_0 h d_M_init_0 d_M_init_1 (nw_1 88 (by decide +kernel) rfl) (nw_1 26 (by decide +kernel) rfl) (nw_1 27 rfl rfl) (by decide) ?_
  refine bx_a (k := 0) (t := 2) (N := 4) (pc := 4) (pc' := 11) (c' := 1) (s' := 4) h d_M_init_4 (ax_r_iconst (v := 4) d_M_init_5 (by decide)) d_M_init_6 d_M_init_8 (by decide) (nw_1 121 (by decide +kernel) rfl) (by decide) (by decide) (by decide) rfl rfl rfl (Nat.le_of_ble_eq_true rfl) (Nat.le_of_ble_eq_true rfl) ff_M_9 (Nat.le_of_ble_eq_true rfl) (fun q1 => ?_)
  refine bx_a (k := 1) (t := 2) (N := 4) (pc := 11) (pc' := 18) (c' := 2) (s' := 8) h d_M_init_11 (ax_r_iconst (v := 4) d_M_init_12 (by decide)) d_M_init_13 d_M_init_15 (by decide) (nw_1 121 (by decide +kernel) rfl) (by decide) (by decide) (by decide) rfl rfl rfl (Nat.le_of_ble_eq_true rfl) (Nat.le_of_ble_eq_true rfl) ff_M_15 (Nat.le_of_ble_eq_true rfl) (fun q2 => ?_)
  refine bx_a (k := 2) (t := 2) (N := 32) (pc := 18) (pc' := 26) (c' := 3) (s' := 40) h d_M_init_18 (ax_r_bipush (v := 32) d_M_init_19 (by decide)) d_M_init_21 d_M_init_23 (by decide) (nw_1 121 (by decide +kernel) rfl) (by decide) (by decide) (by decide) rfl rfl rfl (Nat.le_of_ble_eq_true rfl) (Nat.le_of_ble_eq_true rfl) ff_M_18 (Nat.le_of_ble_eq_true rfl) (fun q3 => ?_)
  refine bx_a (k := 3) (t := 2) (N := 13) (pc := 26) (pc' := 34) (c' := 4) (s' := 53) h d_M_init_26 (ax_r_bipush (v := 13) d_M_init_27 (by decide)) d_M_init_29 d_M_init_31 (by decide) (nw_1 121 (by decide +kernel) rfl) (by decide) (by decide) (by decide) rfl rfl rfl (Nat.le_of_ble_eq_true rfl) (Nat.le_of_ble_eq_true rfl) ff_M_21 (Nat.le_of_ble_eq_true rfl) (fun q4 => ?_)
  exact bx_r h d_M_init_34 (fun g' r => match r with | 32 => a0 | 33 => q1 | 34 => q2 | 35 => q3 | 36 => q4 | _ => 0) rfl rfl rfl rfl
/-! the constructor of CipherNotation -/
def y_X_init : MethodName := ⟨"CipherNotation", "<init>", "()V"⟩
theorem d_X_init_0 : decode prog_1_method_1_code 0 = .ok (.aload_n 0, 1) := by decide +kernel
theorem d_X_init_1 : decode prog_1_method_1_code 1 = .ok (.invokespecial (1), 3) := by decide +kernel
theorem d_X_init_4 : decode prog_1_method_1_code 4 = .ok (.aload_n 0, 1) := by decide +kernel
theorem d_X_init_5 : decode prog_1_method_1_code 5 = .ok (.sipush (240), 3) := by decide +kernel
theorem d_X_init_8 : decode prog_1_method_1_code 8 = .ok (.newarray .char, 2) := by decide +kernel
theorem d_X_init_10 : decode prog_1_method_1_code 10 = .ok (.putfield (9), 3) := by decide +kernel
theorem d_X_init_13 : decode prog_1_method_1_code 13 = .ok (.aload_n 0, 1) := by decide +kernel
theorem d_X_init_14 : decode prog_1_method_1_code 14 = .ok (.iconst 0, 1) := by decide +kernel
theorem d_X_init_15 : decode prog_1_method_1_code 15 = .ok (.putfield (13), 3) := by decide +kernel
theorem d_X_init_18 : decode prog_1_method_1_code 18 = .ok (.aload_n 0, 1) := by decide +kernel
theorem d_X_init_19 : decode prog_1_method_1_code 19 = .ok (.iconst (-1), 1) := by decide +kernel
theorem d_X_init_20 : decode prog_1_method_1_code 20 = .ok (.putfield (17), 3) := by decide +kernel
theorem d_X_init_23 : decode prog_1_method_1_code 23 = .ok (.aload_n 0, 1) := by decide +kernel
theorem d_X_init_24 : decode prog_1_method_1_code 24 = .ok (.new (20), 3) := by decide +kernel
theorem d_X_init_27 : decode prog_1_method_1_code 27 = .ok (.dup, 1) := by decide +kernel
theorem d_X_init_28 : decode prog_1_method_1_code 28 = .ok (.invokespecial (22), 3) := by decide +kernel
theorem d_X_init_31 : decode prog_1_method_1_code 31 = .ok (.putfield (23), 3) := by decide +kernel
theorem d_X_init_34 : decode prog_1_method_1_code 34 = .ok (.aload_n 0, 1) := by decide +kernel
theorem d_X_init_35 : decode prog_1_method_1_code 35 = .ok (.new (27), 3) := by decide +kernel
theorem d_X_init_38 : decode prog_1_method_1_code 38 = .ok (.dup, 1) := by decide +kernel
theorem d_X_init_39 : decode prog_1_method_1_code 39 = .ok (.invokespecial (29), 3) := by decide +kernel
theorem d_X_init_42 : decode prog_1_method_1_code 42 = .ok (.putfield (30), 3) := by decide +kernel
theorem d_X_init_45 : decode prog_1_method_1_code 45 = .ok (.aload_n 0, 1) := by decide +kernel
theorem d_X_init_46 : decode prog_1_method_1_code 46 = .ok (.aconst_null, 1) := by decide +kernel
theorem d_X_init_47 : decode prog_1_method_1_code 47 = .ok (.putfield (34), 3) := by decide +kernel
theorem d_X_init_50 : decode prog_1_method_1_code 50 = .ok (.aload_n 0, 1) := by decide +kernel
theorem d_X_init_51 : decode prog_1_method_1_code 51 = .ok (.new (38), 3) := by decide +kernel
theorem d_X_init_54 : decode prog_1_method_1_code 54 = .ok (.dup, 1) := by decide +kernel
theorem d_X_init_55 : decode prog_1_method_1_code 55 = .ok (.invokespecial (40), 3) := by decide +kernel
theorem d_X_init_58 : decode prog_1_method_1_code 58 = .ok (.putfield (41), 3) := by decide +kernel
theorem d_X_init_61 : decode prog_1_method_1_code 61 = .ok (.return_, 1) := by decide +kernel
theorem ff_X_9 : bx_fF "CipherNotation" 9 5 0 := ⟨nC5, nT5, 7, nY5, .array .char, rfl, nW5, by decide, nw_2 23 (by decide +kernel) rfl, nO5, nA5, by decide +kernel, by decide +kernel, by decide +kernel, Or.inr ⟨_, rfl⟩⟩
theorem gp_X_13 : ax_fp "CipherNotation" 13 5 1 (.int) := ⟨nC5, nT5, 7, nY5, rfl, nW5, by decide, nw_2 24 (by decide +kernel) rfl, nO5, nA5, by decide +kernel, by decide +kernel⟩
theorem gp_X_17 : ax_fp "CipherNotation" 17 5 2 (.int) := ⟨nC5, nT5, 7, nY5, rfl, nW5, by decide, nw_2 25 (by decide +kernel) rfl, nO5, nA5, by decide +kernel, by decide +kernel⟩
theorem cwi_X_22 : ax_cw "CipherNotation" 22 y_R_init (.code y_R_init prog_6_method_1_code 1 none) 0 := ⟨nw_1 30 (by decide +kernel) rfl, nw_1 2 (by decide +kernel) rfl, nw_1 32 rfl rfl, by decide, by decide +kernel⟩
theorem ff_X_23 : bx_fF "CipherNotation" 23 5 3 := ⟨nC5, nT5, 7, nY5, .object "CipherNotation$Reader", rfl, nW5, by decide, nw_2 26 (by decide +kernel) rfl, nO5, nA5, by decide +kernel, by decide +kernel, by decide +kernel, Or.inl ⟨_, rfl⟩⟩
theorem cwi_X_29 : ax_cw "CipherNotation" 29 y_M_init (.code y_M_init prog_4_method_1_code 1 none) 0 := ⟨nw_1 85 (by decide +kernel) rfl, nw_1 3 (by decide +kernel) rfl, nw_1 87 rfl rfl, by decide, by decide +kernel⟩
theorem ff_X_30 : bx_fF "CipherNotation" 30 5 4 := ⟨nC5, nT5, 7, nY5, .object "CipherNotation$Machine", rfl, nW5, by decide, nw_2 27 (by decide +kernel) rfl, nO5, nA5, by decide +kernel, by decide +kernel, by decide +kernel, Or.inl ⟨_, rfl⟩⟩
theorem gp_X_34 : ax_fp "CipherNotation" 34 5 5 (.object "CipherNotation$Program") := ⟨nC5, nT5, 7, nY5, rfl, nW5, by decide, nw_2 28 (by decide +kernel) rfl, nO5, nA5, by decide +kernel, by decide +kernel⟩
theorem cwi_X_40 : ax_cw "CipherNotation" 40 y_P_init (.code y_P_init prog_5_method_1_code 1 none) 0 := ⟨nw_1 124 (by decide +kernel) rfl, nw_1 4 (by decide +kernel) rfl, nw_1 126 rfl rfl, by decide, by decide +kernel⟩
theorem gp_X_41 : ax_fp "CipherNotation" 41 5 6 (.object "CipherNotation$Program") := ⟨nC5, nT5, 7, nY5, rfl, nW5, by decide, nw_2 29 (by decide +kernel) rfl, nO5, nA5, by decide +kernel, by decide +kernel⟩
abbrev al_X : List (Nat × Nat) := [(0, 23), (0, 24), (0, 25), (0, 26), (0, 27), (0, 28), (0, 29), (0, 30), (0, 31), (0, 32), (0, 33), (0, 34), (0, 35), (0, 36), (0, 0), (0, 1), (0, 2), (0, 3), (0, 4), (0, 5), (0, 6), (0, 7), (0, 8), (0, 9), (0, 10), (0, 11), (0, 12), (0, 13), (0, 14), (0, 15), (0, 16), (0, 17), (0, 18), (0, 19), (0, 20), (0, 21), (0, 22)]
set_option maxHeartbeats 4000000 in
set_option maxRecDepth 100000 in
theorem t_X_init {l : Launch} {D : va_G} {cA : Nat → ClassId} : bx_T l D cA y_X_init (.code y_X_init prog_1_method_1_code 1 none) 3 36 4224 5 (bx_dv nY5 7) (0, 23) al_X := by
  refine bx_T_of (own := "CipherNotation") (by decide) rfl rfl (by decide) ?_
  intro a0 G h
  refine bx_0 h d_X_init_0 d_X_init_1 (nw_1 25 (by decide +kernel) rfl) (nw_1 26 (by decide +kernel) rfl) (nw_1 27 rfl rfl) (by decide) ?_
  refine bx_a (k := 0) (t := 1) (N := 240) (pc := 4) (pc' := 13) (c' := 1) (s' := 240) h d_X_init_4 (ax_r_sipush (v := 240) d_X_init_5 (by decide)) d_X_init_8 d_X_init_10 (by decide) (nw_1 81 (by decide +kernel) rfl) (by decide) (by decide) (by decide) rfl rfl rfl (Nat.le_of_ble_eq_true rfl) (Nat.le_of_ble_eq_true rfl) ff_X_9 (Nat.le_of_ble_eq_true rfl) (fun q1 => ?_)
  refine bx_i (k := 1) (pc := 13) (pc' := 18) (v := .int (0)) h d_X_init_13 (ax_r_iconst (v := 0) d_X_init_14 (by decide)) d_X_init_15 rfl gp_X_13 (by decide) (by decide) (Nat.le_of_ble_eq_true rfl) ?_
  refine bx_i (k := 2) (pc := 18) (pc' := 23) (v := .int (-1)) h d_X_init_18 (ax_r_iconst (v := -1) d_X_init_19 (by decide)) d_X_init_20 rfl gp_X_17 (by decide) (by decide) (Nat.le_of_ble_eq_true rfl) ?_
  refine bx_t h d_X_init_23 ?_
  refine bx_o (pc := 24) (pc' := 31) (c' := 8) (s' := 759) h.1 (t_R_init) cwi_X_22 (nw_1 31 (by decide +kernel) rfl) rfl rfl nW4 nO4 (nw_1 28 (by decide +kernel) rfl) (nw_1 29 (by decide +kernel) rfl) (nw_1 2 (by decide +kernel) rfl) d_X_init_24 d_X_init_27 d_X_init_28 rfl rfl rfl (Nat.le_of_ble_eq_true rfl) (Nat.le_of_ble_eq_true rfl) (Nat.le_of_ble_eq_true rfl) (Nat.le_of_ble_eq_true rfl) (Nat.le_of_ble_eq_true rfl) (fun q2 ad2 e2 => ?_)
  subst e2
  refine bx_F (k := 3) (q := ad2 0 25) h ff_X_23 (Nat.le_of_ble_eq_true rfl) d_X_init_31 ?_
  refine bx_t h d_X_init_34 ?_
  refine bx_o (pc := 35) (pc' := 42) (c' := 13) (s' := 821) h.1 (t_M_init) cwi_X_29 (nw_1 86 (by decide +kernel) rfl) rfl rfl nW2 nO2 (nw_1 83 (by decide +kernel) rfl) (nw_1 84 (by decide +kernel) rfl) (nw_1 3 (by decide +kernel) rfl) d_X_init_35 d_X_init_38 d_X_init_39 rfl rfl rfl (Nat.le_of_ble_eq_true rfl) (Nat.le_of_ble_eq_true rfl) (Nat.le_of_ble_eq_true rfl) (Nat.le_of_ble_eq_true rfl) (Nat.le_of_ble_eq_true rfl) (fun q3 ad3 e3 => ?_)
  subst e3
  refine bx_F (k := 4) (q := ad3 0 32) h ff_X_30 (Nat.le_of_ble_eq_true rfl) d_X_init_42 ?_
  refine bx_i (k := 5) (pc := 45) (pc' := 50) (v := .null) h d_X_init_45 (ax_r_null d_X_init_46) d_X_init_47 rfl gp_X_34 (by decide) (by decide) (Nat.le_of_ble_eq_true rfl) ?_
  refine bx_t h d_X_init_50 ?_
  refine bx_o (pc := 51) (pc' := 58) (c' := 36) (s' := 4224) h.1 (t_P_init 0) cwi_X_40 (nw_1 125 (by decide +kernel) rfl) rfl rfl nW3 nO3 (nw_1 122 (by decide +kernel) rfl) (nw_1 123 (by decide +kernel) rfl) (nw_1 4 (by decide +kernel) rfl) d_X_init_51 d_X_init_54 d_X_init_55 rfl rfl rfl (Nat.le_of_ble_eq_true rfl) (Nat.le_of_ble_eq_true rfl) (Nat.le_of_ble_eq_true rfl) (Nat.le_of_ble_eq_true rfl) (Nat.le_of_ble_eq_true rfl) (fun q4 ad4 e4 => ?_)
  subst e4
  refine bx_V (k := 6) (v := .ref (ad4 0 0)) h gp_X_41 rfl rfl (Nat.le_of_ble_eq_true rfl) d_X_init_58 ?_
  exact bx_r h d_X_init_61 (fun g' r => match r with | 0 => ad4 g' 0 | 1 => ad4 g' 1 | 2 => ad4 g' 2 | 3 => ad4 g' 3 | 4 => ad4 g' 4 | 5 => ad4 g' 5 | 6 => ad4 g' 6 | 7 => ad4 g' 7 | 8 => ad4 g' 8 | 9 => ad4 g' 9 | 10 => ad4 g' 10 | 11 => ad4 g' 11 | 12 => ad4 g' 12 | 13 => ad4 g' 13 | 14 => ad4 g' 14 | 15 => ad4 g' 15 | 16 => ad4 g' 16 | 17 => ad4 g' 17 | 18 => ad4 g' 18 | 19 => ad4 g' 19 | 20 => ad4 g' 20 | 21 => ad4 g' 21 | 22 => ad4 g' 22 | 23 => a0 | 24 => q1 | 25 => ad2 g' 25 | 26 => ad2 g' 26 | 27 => ad2 g' 27 | 28 => ad2 g' 28 | 29 => ad2 g' 29 | 30 => ad2 g' 30 | 31 => ad2 g' 31 | 32 => ad3 g' 32 | 33 => ad3 g' 33 | 34 => ad3 g' 34 | 35 => ad3 g' 35 | 36 => ad3 g' 36 | _ => 0) rfl rfl rfl rfl
