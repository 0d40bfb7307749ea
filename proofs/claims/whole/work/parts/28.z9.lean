def y_Z_cut : MethodName := ⟨"CipherNotationModel", "cut", "(J)J"⟩
theorem d_Z_cut_0 : decode prog_8_method_47_code 0 = .ok (.aload_n 0, 1) := by decide +kernel
theorem d_Z_cut_1 : decode prog_8_method_47_code 1 = .ok (.invokevirtual (391), 3) := by decide +kernel
theorem d_Z_cut_4 : decode prog_8_method_47_code 4 = .ok (.bipush (64), 2) := by decide +kernel
theorem d_Z_cut_6 : decode prog_8_method_47_code 6 = .ok (.if_icmp .ne (7), 3) := by decide +kernel
theorem d_Z_cut_9 : decode prog_8_method_47_code 9 = .ok (.lload_n 1, 1) := by decide +kernel
theorem d_Z_cut_10 : decode prog_8_method_47_code 10 = .ok (.goto (13), 3) := by decide +kernel
theorem d_Z_cut_13 : decode prog_8_method_47_code 13 = .ok (.lload_n 1, 1) := by decide +kernel
theorem d_Z_cut_14 : decode prog_8_method_47_code 14 = .ok (.lconst 1, 1) := by decide +kernel
theorem d_Z_cut_15 : decode prog_8_method_47_code 15 = .ok (.aload_n 0, 1) := by decide +kernel
theorem d_Z_cut_16 : decode prog_8_method_47_code 16 = .ok (.invokevirtual (391), 3) := by decide +kernel
theorem d_Z_cut_19 : decode prog_8_method_47_code 19 = .ok (.lshl, 1) := by decide +kernel
theorem d_Z_cut_20 : decode prog_8_method_47_code 20 = .ok (.lconst 1, 1) := by decide +kernel
theorem d_Z_cut_21 : decode prog_8_method_47_code 21 = .ok (.lsub, 1) := by decide +kernel
theorem d_Z_cut_22 : decode prog_8_method_47_code 22 = .ok (.land, 1) := by decide +kernel
theorem d_Z_cut_23 : decode prog_8_method_47_code 23 = .ok (.lreturn, 1) := by decide +kernel
set_option maxRecDepth 100000 in
theorem cw_Z_391 : ax_cw "CipherNotationModel" 391 y_Z_width (.code y_Z_width prog_8_method_29_code 1 (some .int)) 0 := ⟨nw_6 86 (by decide +kernel) rfl, nw_1 7 (by decide +kernel) rfl, nw_6 89 rfl rfl, by decide +kernel, by decide +kernel⟩
theorem im_Z_width : Cond.instanceMethod y_Z_width ∈ ax_tbl := nw_6 88 (by decide +kernel) rfl
theorem se_Z_width : Cond.selects y_Z_width.cls y_Z_width y_Z_width ∈ ax_tbl := nw_sel 81 (by decide +kernel) (by decide +kernel)
def f_Z_cut (a1 : Int64) (s : ax_σ) : Option (Int64) :=
  Option.bind (f_Z_width s) (fun r1 =>
    if r1 = (64 : Int32) then
      some (a1)
    else
      Option.bind (f_Z_width s) (fun r3 =>
        some ((a1 &&& (((1 : Int64) <<< ((r3).toInt64 &&& 63)) - (1 : Int64))))))
set_option maxHeartbeats 4000000 in
set_option maxRecDepth 100000 in
theorem t_Z_cut {l : Launch} {D : va_G} {cA : Nat → ClassId} {ad : Nat → Nat → Nat} {al : List (Nat × Nat)} {θ : ax_Θ} {ρ : ax_ρ} (h0 : ax_M0 al) {a1 : Int64} {s : ax_σ} {r0 : Int64} (h : f_Z_cut a1 s = some r0) : ax_T l D cA ad al θ y_Z_cut (.code y_Z_cut prog_8_method_47_code 3 (some .long)) 1 [.inr (0, 38), .inl (.long (a1))] (ax_m s ρ) (some (.inl (.long r0))) (ax_m s ρ) := by
  refine ax_T_of (own := "CipherNotationModel") (by decide) rfl (Nat.le_of_ble_eq_true rfl) [(0, .inr (0, 38)), (1, .inl (.long (a1)))] rfl ?_
  intro G hA
  have hB := hA.B
  have hK := hB.K
  have hal := hB.la
  unfold f_Z_cut at h
  refine ax_bk hK (ax_fc (ax_v_ld (ax_r_aload_n (i := 0) d_Z_cut_0 rfl)) ax_fn) (y := (1, [(0, .inr (0, 38)), (1, .inl (.long (a1)))], [.inr (0, 38)], ax_m (s) ρ)) rfl ⟨trivial, trivial⟩ ?_
  obtain ⟨r1, q2, h⟩ := ax_bd h
  refine ax_bV (rest := []) hB (t_Z_width h0 q2) cw_Z_391 im_Z_width se_Z_width d_Z_cut_1 (h0 38 rfl) rfl rfl (by decide) (by decide) rfl rfl (Nat.le_of_ble_eq_true rfl) ?_
  change ax_R G 3 0 0 (4, [(0, .inr (0, 38)), (1, .inl (.long (a1)))], [.inl (.int (r1))], ax_m (s) ρ)
  refine ax_bk hK (ax_fc (ax_v_pu (ax_r_bipush (v := 64) d_Z_cut_4 (by decide))) ax_fn) (y := (6, [(0, .inr (0, 38)), (1, .inl (.long (a1)))], [.inl (.int ((64 : Int32))), .inl (.int (r1))], ax_m (s) ρ)) rfl ⟨trivial, trivial⟩ ?_
  refine ax_ic_ne (tgt := 13) hK d_Z_cut_6 (by decide) (fun c5 => ?_) (fun c5 => ?_)
  · replace h := ax_if c5 h
    refine ax_bk hK (ax_fc (ax_v_ld (ax_r_lload_n (i := 1) d_Z_cut_13 rfl)) (ax_fc (ax_v_pu (ax_r_lconst (v := 1) d_Z_cut_14 (by decide))) (ax_fc (ax_v_ld (ax_r_aload_n (i := 0) d_Z_cut_15 rfl)) ax_fn))) (y := (16, [(0, .inr (0, 38)), (1, .inl (.long (a1)))], [.inr (0, 38), .inl (.long ((1 : Int64))), .inl (.long (a1))], ax_m (s) ρ)) rfl ⟨trivial, trivial, trivial, trivial⟩ ?_
    obtain ⟨r3, q4, h⟩ := ax_bd h
    refine ax_bV (rest := [.inl (.long ((1 : Int64))), .inl (.long (a1))]) hB (t_Z_width h0 q4) cw_Z_391 im_Z_width se_Z_width d_Z_cut_16 (h0 38 rfl) rfl rfl (by decide) (by decide) rfl rfl (Nat.le_of_ble_eq_true rfl) ?_
    change ax_R G 3 0 0 (19, [(0, .inr (0, 38)), (1, .inl (.long (a1)))], [.inl (.int (r3)), .inl (.long ((1 : Int64))), .inl (.long (a1))], ax_m (s) ρ)
    refine ax_bk hK (ax_fc (ax_v_pu (ax_r_lshl d_Z_cut_19)) (ax_fc (ax_v_pu (ax_r_lconst (v := 1) d_Z_cut_20 (by decide))) (ax_fc (ax_v_pu (ax_r_lsub d_Z_cut_21)) (ax_fc (ax_v_pu (ax_r_land d_Z_cut_22)) ax_fn)))) (y := (23, [(0, .inr (0, 38)), (1, .inl (.long (a1)))], [.inl (.long ((a1 &&& (((1 : Int64) <<< ((r3).toInt64 &&& 63)) - (1 : Int64)))))], ax_m (s) ρ)) rfl ⟨trivial, trivial, trivial, trivial, trivial⟩ ?_
    cases h
    exact ax_lret hA d_Z_cut_23
  · replace h := ax_it c5 h
    refine ax_bk hK (ax_fc (ax_v_ld (ax_r_lload_n (i := 1) d_Z_cut_9 rfl)) (ax_fc (ax_v_go (tgt := 23) d_Z_cut_10 (by decide)) ax_fn)) (y := (23, [(0, .inr (0, 38)), (1, .inl (.long (a1)))], [.inl (.long (a1))], ax_m (s) ρ)) rfl ⟨trivial, trivial, trivial⟩ ?_
    cases h
    exact ax_lret hA d_Z_cut_23
def y_Z_turned : MethodName := ⟨"CipherNotationModel", "turned", "(JJ)J"⟩
theorem d_Z_turned_0 : decode prog_8_method_48_code 0 = .ok (.lload_n 3, 1) := by decide +kernel
theorem d_Z_turned_1 : decode prog_8_method_48_code 1 = .ok (.aload_n 0, 1) := by decide +kernel
theorem d_Z_turned_2 : decode prog_8_method_48_code 2 = .ok (.invokevirtual (391), 3) := by decide +kernel
theorem d_Z_turned_5 : decode prog_8_method_48_code 5 = .ok (.iconst 1, 1) := by decide +kernel
theorem d_Z_turned_6 : decode prog_8_method_48_code 6 = .ok (.isub, 1) := by decide +kernel
theorem d_Z_turned_7 : decode prog_8_method_48_code 7 = .ok (.i2l, 1) := by decide +kernel
theorem d_Z_turned_8 : decode prog_8_method_48_code 8 = .ok (.land, 1) := by decide +kernel
theorem d_Z_turned_9 : decode prog_8_method_48_code 9 = .ok (.l2i, 1) := by decide +kernel
theorem d_Z_turned_10 : decode prog_8_method_48_code 10 = .ok (.istore (5), 2) := by decide +kernel
theorem d_Z_turned_12 : decode prog_8_method_48_code 12 = .ok (.iload (5), 2) := by decide +kernel
theorem d_Z_turned_14 : decode prog_8_method_48_code 14 = .ok (.ifCond .ne (7), 3) := by decide +kernel
theorem d_Z_turned_17 : decode prog_8_method_48_code 17 = .ok (.lload_n 1, 1) := by decide +kernel
theorem d_Z_turned_18 : decode prog_8_method_48_code 18 = .ok (.goto (21), 3) := by decide +kernel
theorem d_Z_turned_21 : decode prog_8_method_48_code 21 = .ok (.aload_n 0, 1) := by decide +kernel
theorem d_Z_turned_22 : decode prog_8_method_48_code 22 = .ok (.lload_n 1, 1) := by decide +kernel
theorem d_Z_turned_23 : decode prog_8_method_48_code 23 = .ok (.iload (5), 2) := by decide +kernel
theorem d_Z_turned_25 : decode prog_8_method_48_code 25 = .ok (.lshl, 1) := by decide +kernel
theorem d_Z_turned_26 : decode prog_8_method_48_code 26 = .ok (.lload_n 1, 1) := by decide +kernel
theorem d_Z_turned_27 : decode prog_8_method_48_code 27 = .ok (.aload_n 0, 1) := by decide +kernel
theorem d_Z_turned_28 : decode prog_8_method_48_code 28 = .ok (.invokevirtual (391), 3) := by decide +kernel
theorem d_Z_turned_31 : decode prog_8_method_48_code 31 = .ok (.iload (5), 2) := by decide +kernel
theorem d_Z_turned_33 : decode prog_8_method_48_code 33 = .ok (.isub, 1) := by decide +kernel
theorem d_Z_turned_34 : decode prog_8_method_48_code 34 = .ok (.lushr, 1) := by decide +kernel
theorem d_Z_turned_35 : decode prog_8_method_48_code 35 = .ok (.lor, 1) := by decide +kernel
theorem d_Z_turned_36 : decode prog_8_method_48_code 36 = .ok (.invokevirtual (395), 3) := by decide +kernel
theorem d_Z_turned_39 : decode prog_8_method_48_code 39 = .ok (.lreturn, 1) := by decide +kernel
set_option maxRecDepth 100000 in
theorem cw_Z_395 : ax_cw "CipherNotationModel" 395 y_Z_cut (.code y_Z_cut prog_8_method_47_code 3 (some .long)) 1 := ⟨nw_6 115 (by decide +kernel) rfl, nw_1 7 (by decide +kernel) rfl, nw_6 118 rfl rfl, by decide +kernel, by decide +kernel⟩
theorem im_Z_cut : Cond.instanceMethod y_Z_cut ∈ ax_tbl := nw_6 117 (by decide +kernel) rfl
theorem se_Z_cut : Cond.selects y_Z_cut.cls y_Z_cut y_Z_cut ∈ ax_tbl := nw_sel 84 (by decide +kernel) (by decide +kernel)
def f_Z_turned (a1 : Int64) (a2 : Int64) (s : ax_σ) : Option (Int64) :=
  Option.bind (f_Z_width s) (fun r1 =>
    if ((a2 &&& ((r1 - (1 : Int32))).toInt64)).toInt32 = (0 : Int32) then
      some (a1)
    else
      Option.bind (f_Z_width s) (fun r3 =>
        Option.bind (f_Z_cut ((a1 <<< ((((a2 &&& ((r1 - (1 : Int32))).toInt64)).toInt32).toInt64 &&& 63)) ||| ((a1).toUInt64 >>> (((r3 - ((a2 &&& ((r1 - (1 : Int32))).toInt64)).toInt32)).toInt64.toUInt64 &&& Int64.toUInt64 63)).toInt64) s) (fun r5 =>
          some (r5))))
set_option maxHeartbeats 4000000 in
set_option maxRecDepth 100000 in
theorem t_Z_turned {l : Launch} {D : va_G} {cA : Nat → ClassId} {ad : Nat → Nat → Nat} {al : List (Nat × Nat)} {θ : ax_Θ} {ρ : ax_ρ} (h0 : ax_M0 al) {a1 : Int64} {a2 : Int64} {s : ax_σ} {r0 : Int64} (h : f_Z_turned a1 a2 s = some r0) : ax_T l D cA ad al θ y_Z_turned (.code y_Z_turned prog_8_method_48_code 6 (some .long)) 2 [.inr (0, 38), .inl (.long (a1)), .inl (.long (a2))] (ax_m s ρ) (some (.inl (.long r0))) (ax_m s ρ) := by
  refine ax_T_of (own := "CipherNotationModel") (by decide) rfl (Nat.le_of_ble_eq_true rfl) [(0, .inr (0, 38)), (1, .inl (.long (a1))), (3, .inl (.long (a2)))] rfl ?_
  intro G hA
  have hB := hA.B
  have hK := hB.K
  have hal := hB.la
  unfold f_Z_turned at h
  refine ax_bk hK (ax_fc (ax_v_ld (ax_r_lload_n (i := 3) d_Z_turned_0 rfl)) (ax_fc (ax_v_ld (ax_r_aload_n (i := 0) d_Z_turned_1 rfl)) ax_fn)) (y := (2, [(0, .inr (0, 38)), (1, .inl (.long (a1))), (3, .inl (.long (a2)))], [.inr (0, 38), .inl (.long (a2))], ax_m (s) ρ)) rfl ⟨trivial, trivial, trivial⟩ ?_
  obtain ⟨r1, q2, h⟩ := ax_bd h
  refine ax_bV (rest := [.inl (.long (a2))]) hB (t_Z_width h0 q2) cw_Z_391 im_Z_width se_Z_width d_Z_turned_2 (h0 38 rfl) rfl rfl (by decide) (by decide) rfl rfl (Nat.le_of_ble_eq_true rfl) ?_
  change ax_R G 6 0 0 (5, [(0, .inr (0, 38)), (1, .inl (.long (a1))), (3, .inl (.long (a2)))], [.inl (.int (r1)), .inl (.long (a2))], ax_m (s) ρ)
  refine ax_bk hK (ax_fc (ax_v_pu (ax_r_iconst (v := 1) d_Z_turned_5 (by decide))) (ax_fc (ax_v_pu (ax_r_isub d_Z_turned_6)) (ax_fc (ax_v_pu (ax_r_i2l d_Z_turned_7)) (ax_fc (ax_v_pu (ax_r_land d_Z_turned_8)) (ax_fc (ax_v_pu (ax_r_l2i d_Z_turned_9)) (ax_fc (ax_v_so (ax_r_istore d_Z_turned_10)) (ax_fc (ax_v_ld (ax_r_iload d_Z_turned_12)) ax_fn))))))) (y := (14, [(5, .inl (.int (((a2 &&& ((r1 - (1 : Int32))).toInt64)).toInt32))), (0, .inr (0, 38)), (1, .inl (.long (a1))), (3, .inl (.long (a2)))], [.inl (.int (((a2 &&& ((r1 - (1 : Int32))).toInt64)).toInt32))], ax_m (s) ρ)) rfl ⟨trivial, trivial, trivial, trivial, trivial, trivial, trivial, trivial⟩ ?_
  refine ax_if_ne (tgt := 21) hK d_Z_turned_14 (by decide) (fun c7 => ?_) (fun c7 => ?_)
  · replace h := ax_if c7 h
    refine ax_bk hK (ax_fc (ax_v_ld (ax_r_aload_n (i := 0) d_Z_turned_21 rfl)) (ax_fc (ax_v_ld (ax_r_lload_n (i := 1) d_Z_turned_22 rfl)) (ax_fc (ax_v_ld (ax_r_iload d_Z_turned_23)) (ax_fc (ax_v_pu (ax_r_lshl d_Z_turned_25)) (ax_fc (ax_v_ld (ax_r_lload_n (i := 1) d_Z_turned_26 rfl)) (ax_fc (ax_v_ld (ax_r_aload_n (i := 0) d_Z_turned_27 rfl)) ax_fn)))))) (y := (28, [(5, .inl (.int (((a2 &&& ((r1 - (1 : Int32))).toInt64)).toInt32))), (0, .inr (0, 38)), (1, .inl (.long (a1))), (3, .inl (.long (a2)))], [.inr (0, 38), .inl (.long (a1)), .inl (.long ((a1 <<< ((((a2 &&& ((r1 - (1 : Int32))).toInt64)).toInt32).toInt64 &&& 63)))), .inr (0, 38)], ax_m (s) ρ)) rfl ⟨trivial, trivial, trivial, trivial, trivial, trivial, trivial⟩ ?_
    obtain ⟨r3, q4, h⟩ := ax_bd h
    refine ax_bV (rest := [.inl (.long (a1)), .inl (.long ((a1 <<< ((((a2 &&& ((r1 - (1 : Int32))).toInt64)).toInt32).toInt64 &&& 63)))), .inr (0, 38)]) hB (t_Z_width h0 q4) cw_Z_391 im_Z_width se_Z_width d_Z_turned_28 (h0 38 rfl) rfl rfl (by decide) (by decide) rfl rfl (Nat.le_of_ble_eq_true rfl) ?_
    change ax_R G 6 0 0 (31, [(5, .inl (.int (((a2 &&& ((r1 - (1 : Int32))).toInt64)).toInt32))), (0, .inr (0, 38)), (1, .inl (.long (a1))), (3, .inl (.long (a2)))], [.inl (.int (r3)), .inl (.long (a1)), .inl (.long ((a1 <<< ((((a2 &&& ((r1 - (1 : Int32))).toInt64)).toInt32).toInt64 &&& 63)))), .inr (0, 38)], ax_m (s) ρ)
    refine ax_bk hK (ax_fc (ax_v_ld (ax_r_iload d_Z_turned_31)) (ax_fc (ax_v_pu (ax_r_isub d_Z_turned_33)) (ax_fc (ax_v_pu (ax_r_lushr d_Z_turned_34)) (ax_fc (ax_v_pu (ax_r_lor d_Z_turned_35)) ax_fn)))) (y := (36, [(5, .inl (.int (((a2 &&& ((r1 - (1 : Int32))).toInt64)).toInt32))), (0, .inr (0, 38)), (1, .inl (.long (a1))), (3, .inl (.long (a2)))], [.inl (.long (((a1 <<< ((((a2 &&& ((r1 - (1 : Int32))).toInt64)).toInt32).toInt64 &&& 63)) ||| ((a1).toUInt64 >>> (((r3 - ((a2 &&& ((r1 - (1 : Int32))).toInt64)).toInt32)).toInt64.toUInt64 &&& Int64.toUInt64 63)).toInt64))), .inr (0, 38)], ax_m (s) ρ)) rfl ⟨trivial, trivial, trivial, trivial, trivial⟩ ?_
    obtain ⟨r5, q6, h⟩ := ax_bd h
    refine ax_bV (rest := []) hB (t_Z_cut h0 q6) cw_Z_395 im_Z_cut se_Z_cut d_Z_turned_36 (h0 38 rfl) rfl rfl (by decide) (by decide) rfl rfl (Nat.le_of_ble_eq_true rfl) ?_
    change ax_R G 6 0 0 (39, [(5, .inl (.int (((a2 &&& ((r1 - (1 : Int32))).toInt64)).toInt32))), (0, .inr (0, 38)), (1, .inl (.long (a1))), (3, .inl (.long (a2)))], [.inl (.long (r5))], ax_m (s) ρ)
    cases h
    exact ax_lret hA d_Z_turned_39
  · replace h := ax_it c7 h
    refine ax_bk hK (ax_fc (ax_v_ld (ax_r_lload_n (i := 1) d_Z_turned_17 rfl)) (ax_fc (ax_v_go (tgt := 39) d_Z_turned_18 (by decide)) ax_fn)) (y := (39, [(5, .inl (.int (((a2 &&& ((r1 - (1 : Int32))).toInt64)).toInt32))), (0, .inr (0, 38)), (1, .inl (.long (a1))), (3, .inl (.long (a2)))], [.inl (.long (a1))], ax_m (s) ρ)) rfl ⟨trivial, trivial, trivial⟩ ?_
    cases h
    exact ax_lret hA d_Z_turned_39
def y_Z_paired : MethodName := ⟨"CipherNotationModel", "paired", "(JJJ)J"⟩
theorem d_Z_paired_0 : decode prog_8_method_49_code 0 = .ok (.aload_n 0, 1) := by decide +kernel
theorem d_Z_paired_1 : decode prog_8_method_49_code 1 = .ok (.lload (5), 2) := by decide +kernel
theorem d_Z_paired_3 : decode prog_8_method_49_code 3 = .ok (.ldc2_w (399), 3) := by decide +kernel
theorem d_Z_paired_6 : decode prog_8_method_49_code 6 = .ok (.lcmp, 1) := by decide +kernel
theorem d_Z_paired_7 : decode prog_8_method_49_code 7 = .ok (.ifCond .ne (9), 3) := by decide +kernel
theorem d_Z_paired_10 : decode prog_8_method_49_code 10 = .ok (.lload_n 1, 1) := by decide +kernel
theorem d_Z_paired_11 : decode prog_8_method_49_code 11 = .ok (.lload_n 3, 1) := by decide +kernel
theorem d_Z_paired_12 : decode prog_8_method_49_code 12 = .ok (.lxor, 1) := by decide +kernel
theorem d_Z_paired_13 : decode prog_8_method_49_code 13 = .ok (.goto (66), 3) := by decide +kernel
theorem d_Z_paired_16 : decode prog_8_method_49_code 16 = .ok (.lload (5), 2) := by decide +kernel
theorem d_Z_paired_18 : decode prog_8_method_49_code 18 = .ok (.ldc2_w (401), 3) := by decide +kernel
theorem d_Z_paired_21 : decode prog_8_method_49_code 21 = .ok (.lcmp, 1) := by decide +kernel
theorem d_Z_paired_22 : decode prog_8_method_49_code 22 = .ok (.ifCond .ne (9), 3) := by decide +kernel
theorem d_Z_paired_25 : decode prog_8_method_49_code 25 = .ok (.lload_n 1, 1) := by decide +kernel
theorem d_Z_paired_26 : decode prog_8_method_49_code 26 = .ok (.lload_n 3, 1) := by decide +kernel
theorem d_Z_paired_27 : decode prog_8_method_49_code 27 = .ok (.land, 1) := by decide +kernel
theorem d_Z_paired_28 : decode prog_8_method_49_code 28 = .ok (.goto (51), 3) := by decide +kernel
theorem d_Z_paired_31 : decode prog_8_method_49_code 31 = .ok (.lload (5), 2) := by decide +kernel
theorem d_Z_paired_33 : decode prog_8_method_49_code 33 = .ok (.ldc2_w (403), 3) := by decide +kernel
theorem d_Z_paired_36 : decode prog_8_method_49_code 36 = .ok (.lcmp, 1) := by decide +kernel
theorem d_Z_paired_37 : decode prog_8_method_49_code 37 = .ok (.ifCond .ne (9), 3) := by decide +kernel
theorem d_Z_paired_40 : decode prog_8_method_49_code 40 = .ok (.lload_n 1, 1) := by decide +kernel
theorem d_Z_paired_41 : decode prog_8_method_49_code 41 = .ok (.lload_n 3, 1) := by decide +kernel
theorem d_Z_paired_42 : decode prog_8_method_49_code 42 = .ok (.lor, 1) := by decide +kernel
theorem d_Z_paired_43 : decode prog_8_method_49_code 43 = .ok (.goto (36), 3) := by decide +kernel
theorem d_Z_paired_46 : decode prog_8_method_49_code 46 = .ok (.lload (5), 2) := by decide +kernel
theorem d_Z_paired_48 : decode prog_8_method_49_code 48 = .ok (.ldc2_w (405), 3) := by decide +kernel
theorem d_Z_paired_51 : decode prog_8_method_49_code 51 = .ok (.lcmp, 1) := by decide +kernel
theorem d_Z_paired_52 : decode prog_8_method_49_code 52 = .ok (.ifCond .ne (9), 3) := by decide +kernel
theorem d_Z_paired_55 : decode prog_8_method_49_code 55 = .ok (.lload_n 1, 1) := by decide +kernel
theorem d_Z_paired_56 : decode prog_8_method_49_code 56 = .ok (.lload_n 3, 1) := by decide +kernel
theorem d_Z_paired_57 : decode prog_8_method_49_code 57 = .ok (.ladd, 1) := by decide +kernel
theorem d_Z_paired_58 : decode prog_8_method_49_code 58 = .ok (.goto (21), 3) := by decide +kernel
theorem d_Z_paired_61 : decode prog_8_method_49_code 61 = .ok (.lload (5), 2) := by decide +kernel
theorem d_Z_paired_63 : decode prog_8_method_49_code 63 = .ok (.ldc2_w (407), 3) := by decide +kernel
theorem d_Z_paired_66 : decode prog_8_method_49_code 66 = .ok (.lcmp, 1) := by decide +kernel
theorem d_Z_paired_67 : decode prog_8_method_49_code 67 = .ok (.ifCond .ne (9), 3) := by decide +kernel
theorem d_Z_paired_70 : decode prog_8_method_49_code 70 = .ok (.lload_n 1, 1) := by decide +kernel
theorem d_Z_paired_71 : decode prog_8_method_49_code 71 = .ok (.lload_n 3, 1) := by decide +kernel
theorem d_Z_paired_72 : decode prog_8_method_49_code 72 = .ok (.lsub, 1) := by decide +kernel
theorem d_Z_paired_73 : decode prog_8_method_49_code 73 = .ok (.goto (6), 3) := by decide +kernel
theorem d_Z_paired_76 : decode prog_8_method_49_code 76 = .ok (.lload_n 1, 1) := by decide +kernel
theorem d_Z_paired_77 : decode prog_8_method_49_code 77 = .ok (.lload_n 3, 1) := by decide +kernel
theorem d_Z_paired_78 : decode prog_8_method_49_code 78 = .ok (.lmul, 1) := by decide +kernel
theorem d_Z_paired_79 : decode prog_8_method_49_code 79 = .ok (.invokevirtual (395), 3) := by decide +kernel
theorem d_Z_paired_82 : decode prog_8_method_49_code 82 = .ok (.lreturn, 1) := by decide +kernel
def f_Z_paired (a1 : Int64) (a2 : Int64) (a3 : Int64) (s : ax_σ) : Option (Int64) :=
  Option.bind (
    if (lg_cmp a3 (94 : Int64)) = (0 : Int32) then
      some (a1 ^^^ a2)
    else
      if (lg_cmp a3 (38 : Int64)) = (0 : Int32) then
        some (a1 &&& a2)
      else
        if (lg_cmp a3 (124 : Int64)) = (0 : Int32) then
          some (a1 ||| a2)
        else
          if (lg_cmp a3 (43 : Int64)) = (0 : Int32) then
            some (a1 + a2)
          else
            if (lg_cmp a3 (45 : Int64)) = (0 : Int32) then
              some (a1 - a2)
            else
              some (a1 * a2)) (fun v6 =>
    Option.bind (f_Z_cut v6 s) (fun r7 =>
      some (r7)))
set_option maxHeartbeats 4000000 in
set_option maxRecDepth 100000 in
theorem t_Z_paired {l : Launch} {D : va_G} {cA : Nat → ClassId} {ad : Nat → Nat → Nat} {al : List (Nat × Nat)} {θ : ax_Θ} {ρ : ax_ρ} (h0 : ax_M0 al) {a1 : Int64} {a2 : Int64} {a3 : Int64} {s : ax_σ} {r0 : Int64} (h : f_Z_paired a1 a2 a3 s = some r0) : ax_T l D cA ad al θ y_Z_paired (.code y_Z_paired prog_8_method_49_code 7 (some .long)) 2 [.inr (0, 38), .inl (.long (a1)), .inl (.long (a2)), .inl (.long (a3))] (ax_m s ρ) (some (.inl (.long r0))) (ax_m s ρ) := by
  refine ax_T_of (own := "CipherNotationModel") (by decide) rfl (Nat.le_of_ble_eq_true rfl) [(0, .inr (0, 38)), (1, .inl (.long (a1))), (3, .inl (.long (a2))), (5, .inl (.long (a3)))] rfl ?_
  intro G hA
  have hB := hA.B
  have hK := hB.K
  have hal := hB.la
  unfold f_Z_paired at h
  refine ax_bk hK (ax_fc (ax_v_ld (ax_r_aload_n (i := 0) d_Z_paired_0 rfl)) (ax_fc (ax_v_ld (ax_r_lload d_Z_paired_1)) (ax_fc (ax_v_ldc2 (v := 94) d_Z_paired_3 (nw_6 127 (by decide +kernel) rfl)) (ax_fc (ax_v_pu (ax_r_lcmp d_Z_paired_6)) ax_fn)))) (y := (7, [(0, .inr (0, 38)), (1, .inl (.long (a1))), (3, .inl (.long (a2))), (5, .inl (.long (a3)))], [.inl (.int ((lg_cmp a3 (94 : Int64)))), .inr (0, 38)], ax_m (s) ρ)) rfl ⟨trivial, trivial, trivial, trivial, trivial⟩ ?_
  obtain ⟨w9, hw9, h⟩ := ax_bd h
  have KEw9 : ∀ (v6 : Int64), w9 = v6 → ax_R G 7 0 0 (79, [], [.inl (.long (v6)), .inr (0, 38)], ax_m (s) ρ) := by
    intro v6 e9
    subst w9
    try dsimp only at h
    obtain ⟨r7, q8, h⟩ := ax_bd h
    refine ax_bV (rest := []) hB (t_Z_cut h0 q8) cw_Z_395 im_Z_cut se_Z_cut d_Z_paired_79 (h0 38 rfl) rfl rfl (by decide) (by decide) rfl rfl (Nat.le_of_ble_eq_true rfl) ?_
    change ax_R G 7 0 0 (82, [], [.inl (.long (r7))], ax_m (s) ρ)
    cases h
    exact ax_lret hA d_Z_paired_82
  clear h
  have h := hw9
  refine ax_if_ne (tgt := 16) hK d_Z_paired_7 (by decide) (fun c5 => ?_) (fun c5 => ?_)
  · replace h := ax_if c5 h
    refine ax_bk hK (ax_fc (ax_v_ld (ax_r_lload d_Z_paired_16)) (ax_fc (ax_v_ldc2 (v := 38) d_Z_paired_18 (nw_6 128 (by decide +kernel) rfl)) (ax_fc (ax_v_pu (ax_r_lcmp d_Z_paired_21)) ax_fn))) (y := (22, [(0, .inr (0, 38)), (1, .inl (.long (a1))), (3, .inl (.long (a2))), (5, .inl (.long (a3)))], [.inl (.int ((lg_cmp a3 (38 : Int64)))), .inr (0, 38)], ax_m (s) ρ)) rfl ⟨trivial, trivial, trivial, trivial⟩ ?_
    refine ax_if_ne (tgt := 31) hK d_Z_paired_22 (by decide) (fun c4 => ?_) (fun c4 => ?_)
    · replace h := ax_if c4 h
      refine ax_bk hK (ax_fc (ax_v_ld (ax_r_lload d_Z_paired_31)) (ax_fc (ax_v_ldc2 (v := 124) d_Z_paired_33 (nw_6 129 (by decide +kernel) rfl)) (ax_fc (ax_v_pu (ax_r_lcmp d_Z_paired_36)) ax_fn))) (y := (37, [(0, .inr (0, 38)), (1, .inl (.long (a1))), (3, .inl (.long (a2))), (5, .inl (.long (a3)))], [.inl (.int ((lg_cmp a3 (124 : Int64)))), .inr (0, 38)], ax_m (s) ρ)) rfl ⟨trivial, trivial, trivial, trivial⟩ ?_
      refine ax_if_ne (tgt := 46) hK d_Z_paired_37 (by decide) (fun c3 => ?_) (fun c3 => ?_)
      · replace h := ax_if c3 h
        refine ax_bk hK (ax_fc (ax_v_ld (ax_r_lload d_Z_paired_46)) (ax_fc (ax_v_ldc2 (v := 43) d_Z_paired_48 (nw_6 130 (by decide +kernel) rfl)) (ax_fc (ax_v_pu (ax_r_lcmp d_Z_paired_51)) ax_fn))) (y := (52, [(0, .inr (0, 38)), (1, .inl (.long (a1))), (3, .inl (.long (a2))), (5, .inl (.long (a3)))], [.inl (.int ((lg_cmp a3 (43 : Int64)))), .inr (0, 38)], ax_m (s) ρ)) rfl ⟨trivial, trivial, trivial, trivial⟩ ?_
        refine ax_if_ne (tgt := 61) hK d_Z_paired_52 (by decide) (fun c2 => ?_) (fun c2 => ?_)
        · replace h := ax_if c2 h
          refine ax_bk hK (ax_fc (ax_v_ld (ax_r_lload d_Z_paired_61)) (ax_fc (ax_v_ldc2 (v := 45) d_Z_paired_63 (nw_6 131 (by decide +kernel) rfl)) (ax_fc (ax_v_pu (ax_r_lcmp d_Z_paired_66)) ax_fn))) (y := (67, [(0, .inr (0, 38)), (1, .inl (.long (a1))), (3, .inl (.long (a2))), (5, .inl (.long (a3)))], [.inl (.int ((lg_cmp a3 (45 : Int64)))), .inr (0, 38)], ax_m (s) ρ)) rfl ⟨trivial, trivial, trivial, trivial⟩ ?_
          refine ax_if_ne (tgt := 76) hK d_Z_paired_67 (by decide) (fun c1 => ?_) (fun c1 => ?_)
          · replace h := ax_if c1 h
            refine ax_bk hK (ax_fc (ax_v_ld (ax_r_lload_n (i := 1) d_Z_paired_76 rfl)) (ax_fc (ax_v_ld (ax_r_lload_n (i := 3) d_Z_paired_77 rfl)) (ax_fc (ax_v_pu (ax_r_lmul d_Z_paired_78)) ax_fn))) (y := (79, [(0, .inr (0, 38)), (1, .inl (.long (a1))), (3, .inl (.long (a2))), (5, .inl (.long (a3)))], [.inl (.long ((a1 * a2))), .inr (0, 38)], ax_m (s) ρ)) rfl ⟨trivial, trivial, trivial, trivial⟩ ?_
            cases h
            exact ax_Lsub [] rfl (KEw9 _ rfl)
          · replace h := ax_it c1 h
            refine ax_bk hK (ax_fc (ax_v_ld (ax_r_lload_n (i := 1) d_Z_paired_70 rfl)) (ax_fc (ax_v_ld (ax_r_lload_n (i := 3) d_Z_paired_71 rfl)) (ax_fc (ax_v_pu (ax_r_lsub d_Z_paired_72)) (ax_fc (ax_v_go (tgt := 79) d_Z_paired_73 (by decide)) ax_fn)))) (y := (79, [(0, .inr (0, 38)), (1, .inl (.long (a1))), (3, .inl (.long (a2))), (5, .inl (.long (a3)))], [.inl (.long ((a1 - a2))), .inr (0, 38)], ax_m (s) ρ)) rfl ⟨trivial, trivial, trivial, trivial, trivial⟩ ?_
            cases h
            exact ax_Lsub [] rfl (KEw9 _ rfl)
        · replace h := ax_it c2 h
          refine ax_bk hK (ax_fc (ax_v_ld (ax_r_lload_n (i := 1) d_Z_paired_55 rfl)) (ax_fc (ax_v_ld (ax_r_lload_n (i := 3) d_Z_paired_56 rfl)) (ax_fc (ax_v_pu (ax_r_ladd d_Z_paired_57)) (ax_fc (ax_v_go (tgt := 79) d_Z_paired_58 (by decide)) ax_fn)))) (y := (79, [(0, .inr (0, 38)), (1, .inl (.long (a1))), (3, .inl (.long (a2))), (5, .inl (.long (a3)))], [.inl (.long ((a1 + a2))), .inr (0, 38)], ax_m (s) ρ)) rfl ⟨trivial, trivial, trivial, trivial, trivial⟩ ?_
          cases h
          exact ax_Lsub [] rfl (KEw9 _ rfl)
      · replace h := ax_it c3 h
        refine ax_bk hK (ax_fc (ax_v_ld (ax_r_lload_n (i := 1) d_Z_paired_40 rfl)) (ax_fc (ax_v_ld (ax_r_lload_n (i := 3) d_Z_paired_41 rfl)) (ax_fc (ax_v_pu (ax_r_lor d_Z_paired_42)) (ax_fc (ax_v_go (tgt := 79) d_Z_paired_43 (by decide)) ax_fn)))) (y := (79, [(0, .inr (0, 38)), (1, .inl (.long (a1))), (3, .inl (.long (a2))), (5, .inl (.long (a3)))], [.inl (.long ((a1 ||| a2))), .inr (0, 38)], ax_m (s) ρ)) rfl ⟨trivial, trivial, trivial, trivial, trivial⟩ ?_
        cases h
        exact ax_Lsub [] rfl (KEw9 _ rfl)
    · replace h := ax_it c4 h
      refine ax_bk hK (ax_fc (ax_v_ld (ax_r_lload_n (i := 1) d_Z_paired_25 rfl)) (ax_fc (ax_v_ld (ax_r_lload_n (i := 3) d_Z_paired_26 rfl)) (ax_fc (ax_v_pu (ax_r_land d_Z_paired_27)) (ax_fc (ax_v_go (tgt := 79) d_Z_paired_28 (by decide)) ax_fn)))) (y := (79, [(0, .inr (0, 38)), (1, .inl (.long (a1))), (3, .inl (.long (a2))), (5, .inl (.long (a3)))], [.inl (.long ((a1 &&& a2))), .inr (0, 38)], ax_m (s) ρ)) rfl ⟨trivial, trivial, trivial, trivial, trivial⟩ ?_
      cases h
      exact ax_Lsub [] rfl (KEw9 _ rfl)
  · replace h := ax_it c5 h
    refine ax_bk hK (ax_fc (ax_v_ld (ax_r_lload_n (i := 1) d_Z_paired_10 rfl)) (ax_fc (ax_v_ld (ax_r_lload_n (i := 3) d_Z_paired_11 rfl)) (ax_fc (ax_v_pu (ax_r_lxor d_Z_paired_12)) (ax_fc (ax_v_go (tgt := 79) d_Z_paired_13 (by decide)) ax_fn)))) (y := (79, [(0, .inr (0, 38)), (1, .inl (.long (a1))), (3, .inl (.long (a2))), (5, .inl (.long (a3)))], [.inl (.long ((a1 ^^^ a2))), .inr (0, 38)], ax_m (s) ρ)) rfl ⟨trivial, trivial, trivial, trivial, trivial⟩ ?_
    cases h
    exact ax_Lsub [] rfl (KEw9 _ rfl)
def y_Z_valueOf : MethodName := ⟨"CipherNotationModel", "valueOf", "(III)J"⟩
theorem d_Z_valueOf_0 : decode prog_8_method_50_code 0 = .ok (.aload_n 0, 1) := by decide +kernel
theorem d_Z_valueOf_1 : decode prog_8_method_50_code 1 = .ok (.getfield (120), 3) := by decide +kernel
theorem d_Z_valueOf_4 : decode prog_8_method_50_code 4 = .ok (.iconst 0, 1) := by decide +kernel
theorem d_Z_valueOf_5 : decode prog_8_method_50_code 5 = .ok (.iload_n 2, 1) := by decide +kernel
theorem d_Z_valueOf_6 : decode prog_8_method_50_code 6 = .ok (.iastore, 1) := by decide +kernel
theorem d_Z_valueOf_7 : decode prog_8_method_50_code 7 = .ok (.aload_n 0, 1) := by decide +kernel
theorem d_Z_valueOf_8 : decode prog_8_method_50_code 8 = .ok (.getfield (120), 3) := by decide +kernel
theorem d_Z_valueOf_11 : decode prog_8_method_50_code 11 = .ok (.iconst 1, 1) := by decide +kernel
theorem d_Z_valueOf_12 : decode prog_8_method_50_code 12 = .ok (.iload_n 3, 1) := by decide +kernel
theorem d_Z_valueOf_13 : decode prog_8_method_50_code 13 = .ok (.iastore, 1) := by decide +kernel
theorem d_Z_valueOf_14 : decode prog_8_method_50_code 14 = .ok (.iconst 0, 1) := by decide +kernel
theorem d_Z_valueOf_15 : decode prog_8_method_50_code 15 = .ok (.istore (4), 2) := by decide +kernel
theorem d_Z_valueOf_17 : decode prog_8_method_50_code 17 = .ok (.aload_n 0, 1) := by decide +kernel
theorem d_Z_valueOf_18 : decode prog_8_method_50_code 18 = .ok (.getfield (60), 3) := by decide +kernel
theorem d_Z_valueOf_21 : decode prog_8_method_50_code 21 = .ok (.iload_n 1, 1) := by decide +kernel
theorem d_Z_valueOf_22 : decode prog_8_method_50_code 22 = .ok (.iaload, 1) := by decide +kernel
theorem d_Z_valueOf_23 : decode prog_8_method_50_code 23 = .ok (.istore (5), 2) := by decide +kernel
theorem d_Z_valueOf_25 : decode prog_8_method_50_code 25 = .ok (.iload (5), 2) := by decide +kernel
theorem d_Z_valueOf_27 : decode prog_8_method_50_code 27 = .ok (.aload_n 0, 1) := by decide +kernel
theorem d_Z_valueOf_28 : decode prog_8_method_50_code 28 = .ok (.getfield (63), 3) := by decide +kernel
theorem d_Z_valueOf_31 : decode prog_8_method_50_code 31 = .ok (.iload_n 1, 1) := by decide +kernel
theorem d_Z_valueOf_32 : decode prog_8_method_50_code 32 = .ok (.iaload, 1) := by decide +kernel
theorem d_Z_valueOf_33 : decode prog_8_method_50_code 33 = .ok (.if_icmp .ge (299), 3) := by decide +kernel
theorem d_Z_valueOf_36 : decode prog_8_method_50_code 36 = .ok (.aload_n 0, 1) := by decide +kernel
theorem d_Z_valueOf_37 : decode prog_8_method_50_code 37 = .ok (.getfield (72), 3) := by decide +kernel
theorem d_Z_valueOf_40 : decode prog_8_method_50_code 40 = .ok (.iload (5), 2) := by decide +kernel
theorem d_Z_valueOf_42 : decode prog_8_method_50_code 42 = .ok (.iaload, 1) := by decide +kernel
theorem d_Z_valueOf_43 : decode prog_8_method_50_code 43 = .ok (.istore (6), 2) := by decide +kernel
theorem d_Z_valueOf_45 : decode prog_8_method_50_code 45 = .ok (.iload (6), 2) := by decide +kernel
theorem d_Z_valueOf_47 : decode prog_8_method_50_code 47 = .ok (.bipush (8), 2) := by decide +kernel
theorem d_Z_valueOf_49 : decode prog_8_method_50_code 49 = .ok (.if_icmp .ne (10), 3) := by decide +kernel
theorem d_Z_valueOf_52 : decode prog_8_method_50_code 52 = .ok (.iload (4), 2) := by decide +kernel
theorem d_Z_valueOf_54 : decode prog_8_method_50_code 54 = .ok (.iconst 2, 1) := by decide +kernel
theorem d_Z_valueOf_55 : decode prog_8_method_50_code 55 = .ok (.isub, 1) := by decide +kernel
theorem d_Z_valueOf_56 : decode prog_8_method_50_code 56 = .ok (.goto (26), 3) := by decide +kernel
theorem d_Z_valueOf_59 : decode prog_8_method_50_code 59 = .ok (.iload (6), 2) := by decide +kernel
theorem d_Z_valueOf_61 : decode prog_8_method_50_code 61 = .ok (.bipush (6), 2) := by decide +kernel
theorem d_Z_valueOf_63 : decode prog_8_method_50_code 63 = .ok (.if_icmp .eq (10), 3) := by decide +kernel
theorem d_Z_valueOf_66 : decode prog_8_method_50_code 66 = .ok (.iload (6), 2) := by decide +kernel
theorem d_Z_valueOf_68 : decode prog_8_method_50_code 68 = .ok (.bipush (7), 2) := by decide +kernel
theorem d_Z_valueOf_70 : decode prog_8_method_50_code 70 = .ok (.if_icmp .ne (10), 3) := by decide +kernel
theorem d_Z_valueOf_73 : decode prog_8_method_50_code 73 = .ok (.iload (4), 2) := by decide +kernel
theorem d_Z_valueOf_75 : decode prog_8_method_50_code 75 = .ok (.iconst 1, 1) := by decide +kernel
theorem d_Z_valueOf_76 : decode prog_8_method_50_code 76 = .ok (.isub, 1) := by decide +kernel
theorem d_Z_valueOf_77 : decode prog_8_method_50_code 77 = .ok (.goto (5), 3) := by decide +kernel
theorem d_Z_valueOf_80 : decode prog_8_method_50_code 80 = .ok (.iload (4), 2) := by decide +kernel
theorem d_Z_valueOf_82 : decode prog_8_method_50_code 82 = .ok (.istore (4), 2) := by decide +kernel
theorem d_Z_valueOf_84 : decode prog_8_method_50_code 84 = .ok (.iload (6), 2) := by decide +kernel
theorem d_Z_valueOf_86 : decode prog_8_method_50_code 86 = .ok (.iconst 1, 1) := by decide +kernel
theorem d_Z_valueOf_87 : decode prog_8_method_50_code 87 = .ok (.if_icmp .ne (26), 3) := by decide +kernel
theorem d_Z_valueOf_90 : decode prog_8_method_50_code 90 = .ok (.aload_n 0, 1) := by decide +kernel
theorem d_Z_valueOf_91 : decode prog_8_method_50_code 91 = .ok (.getfield (123), 3) := by decide +kernel
theorem d_Z_valueOf_94 : decode prog_8_method_50_code 94 = .ok (.iload (4), 2) := by decide +kernel
theorem d_Z_valueOf_96 : decode prog_8_method_50_code 96 = .ok (.aload_n 0, 1) := by decide +kernel
theorem d_Z_valueOf_97 : decode prog_8_method_50_code 97 = .ok (.getfield (139), 3) := by decide +kernel
theorem d_Z_valueOf_100 : decode prog_8_method_50_code 100 = .ok (.aload_n 0, 1) := by decide +kernel
theorem d_Z_valueOf_101 : decode prog_8_method_50_code 101 = .ok (.getfield (75), 3) := by decide +kernel
theorem d_Z_valueOf_104 : decode prog_8_method_50_code 104 = .ok (.iload (5), 2) := by decide +kernel
theorem d_Z_valueOf_106 : decode prog_8_method_50_code 106 = .ok (.laload, 1) := by decide +kernel
theorem d_Z_valueOf_107 : decode prog_8_method_50_code 107 = .ok (.l2i, 1) := by decide +kernel
theorem d_Z_valueOf_108 : decode prog_8_method_50_code 108 = .ok (.laload, 1) := by decide +kernel
theorem d_Z_valueOf_109 : decode prog_8_method_50_code 109 = .ok (.lastore, 1) := by decide +kernel
theorem d_Z_valueOf_110 : decode prog_8_method_50_code 110 = .ok (.goto (213), 3) := by decide +kernel
theorem d_Z_valueOf_113 : decode prog_8_method_50_code 113 = .ok (.iload (6), 2) := by decide +kernel
theorem d_Z_valueOf_115 : decode prog_8_method_50_code 115 = .ok (.iconst 2, 1) := by decide +kernel
theorem d_Z_valueOf_116 : decode prog_8_method_50_code 116 = .ok (.if_icmp .ne (25), 3) := by decide +kernel
theorem d_Z_valueOf_119 : decode prog_8_method_50_code 119 = .ok (.aload_n 0, 1) := by decide +kernel
theorem d_Z_valueOf_120 : decode prog_8_method_50_code 120 = .ok (.getfield (123), 3) := by decide +kernel
theorem d_Z_valueOf_123 : decode prog_8_method_50_code 123 = .ok (.iload (4), 2) := by decide +kernel
theorem d_Z_valueOf_125 : decode prog_8_method_50_code 125 = .ok (.aload_n 0, 1) := by decide +kernel
theorem d_Z_valueOf_126 : decode prog_8_method_50_code 126 = .ok (.getfield (136), 3) := by decide +kernel
theorem d_Z_valueOf_129 : decode prog_8_method_50_code 129 = .ok (.aload_n 0, 1) := by decide +kernel
theorem d_Z_valueOf_130 : decode prog_8_method_50_code 130 = .ok (.iload (5), 2) := by decide +kernel
theorem d_Z_valueOf_132 : decode prog_8_method_50_code 132 = .ok (.invokevirtual (309), 3) := by decide +kernel
theorem d_Z_valueOf_135 : decode prog_8_method_50_code 135 = .ok (.l2i, 1) := by decide +kernel
theorem d_Z_valueOf_136 : decode prog_8_method_50_code 136 = .ok (.laload, 1) := by decide +kernel
theorem d_Z_valueOf_137 : decode prog_8_method_50_code 137 = .ok (.lastore, 1) := by decide +kernel
theorem d_Z_valueOf_138 : decode prog_8_method_50_code 138 = .ok (.goto (185), 3) := by decide +kernel
theorem d_Z_valueOf_141 : decode prog_8_method_50_code 141 = .ok (.iload (6), 2) := by decide +kernel
theorem d_Z_valueOf_143 : decode prog_8_method_50_code 143 = .ok (.iconst 3, 1) := by decide +kernel
theorem d_Z_valueOf_144 : decode prog_8_method_50_code 144 = .ok (.if_icmp .ne (25), 3) := by decide +kernel
theorem d_Z_valueOf_147 : decode prog_8_method_50_code 147 = .ok (.aload_n 0, 1) := by decide +kernel
theorem d_Z_valueOf_148 : decode prog_8_method_50_code 148 = .ok (.getfield (123), 3) := by decide +kernel
theorem d_Z_valueOf_151 : decode prog_8_method_50_code 151 = .ok (.iload (4), 2) := by decide +kernel
theorem d_Z_valueOf_153 : decode prog_8_method_50_code 153 = .ok (.aload_n 0, 1) := by decide +kernel
theorem d_Z_valueOf_154 : decode prog_8_method_50_code 154 = .ok (.getfield (142), 3) := by decide +kernel
theorem d_Z_valueOf_157 : decode prog_8_method_50_code 157 = .ok (.aload_n 0, 1) := by decide +kernel
theorem d_Z_valueOf_158 : decode prog_8_method_50_code 158 = .ok (.iload (5), 2) := by decide +kernel
theorem d_Z_valueOf_160 : decode prog_8_method_50_code 160 = .ok (.invokevirtual (309), 3) := by decide +kernel
theorem d_Z_valueOf_163 : decode prog_8_method_50_code 163 = .ok (.l2i, 1) := by decide +kernel
theorem d_Z_valueOf_164 : decode prog_8_method_50_code 164 = .ok (.laload, 1) := by decide +kernel
theorem d_Z_valueOf_165 : decode prog_8_method_50_code 165 = .ok (.lastore, 1) := by decide +kernel
theorem d_Z_valueOf_166 : decode prog_8_method_50_code 166 = .ok (.goto (157), 3) := by decide +kernel
theorem d_Z_valueOf_169 : decode prog_8_method_50_code 169 = .ok (.iload (6), 2) := by decide +kernel
theorem d_Z_valueOf_171 : decode prog_8_method_50_code 171 = .ok (.iconst 4, 1) := by decide +kernel
theorem d_Z_valueOf_172 : decode prog_8_method_50_code 172 = .ok (.if_icmp .ne (20), 3) := by decide +kernel
theorem d_Z_valueOf_175 : decode prog_8_method_50_code 175 = .ok (.aload_n 0, 1) := by decide +kernel
theorem d_Z_valueOf_176 : decode prog_8_method_50_code 176 = .ok (.getfield (123), 3) := by decide +kernel
theorem d_Z_valueOf_179 : decode prog_8_method_50_code 179 = .ok (.iload (4), 2) := by decide +kernel
theorem d_Z_valueOf_181 : decode prog_8_method_50_code 181 = .ok (.aload_n 0, 1) := by decide +kernel
theorem d_Z_valueOf_182 : decode prog_8_method_50_code 182 = .ok (.getfield (75), 3) := by decide +kernel
theorem d_Z_valueOf_185 : decode prog_8_method_50_code 185 = .ok (.iload (5), 2) := by decide +kernel
theorem d_Z_valueOf_187 : decode prog_8_method_50_code 187 = .ok (.laload, 1) := by decide +kernel
theorem d_Z_valueOf_188 : decode prog_8_method_50_code 188 = .ok (.lastore, 1) := by decide +kernel
theorem d_Z_valueOf_189 : decode prog_8_method_50_code 189 = .ok (.goto (134), 3) := by decide +kernel
theorem d_Z_valueOf_192 : decode prog_8_method_50_code 192 = .ok (.iload (6), 2) := by decide +kernel
theorem d_Z_valueOf_194 : decode prog_8_method_50_code 194 = .ok (.iconst 5, 1) := by decide +kernel
theorem d_Z_valueOf_195 : decode prog_8_method_50_code 195 = .ok (.if_icmp .ne (27), 3) := by decide +kernel
theorem d_Z_valueOf_198 : decode prog_8_method_50_code 198 = .ok (.aload_n 0, 1) := by decide +kernel
theorem d_Z_valueOf_199 : decode prog_8_method_50_code 199 = .ok (.getfield (123), 3) := by decide +kernel
theorem d_Z_valueOf_202 : decode prog_8_method_50_code 202 = .ok (.iload (4), 2) := by decide +kernel
theorem d_Z_valueOf_204 : decode prog_8_method_50_code 204 = .ok (.aload_n 0, 1) := by decide +kernel
theorem d_Z_valueOf_205 : decode prog_8_method_50_code 205 = .ok (.getfield (120), 3) := by decide +kernel
theorem d_Z_valueOf_208 : decode prog_8_method_50_code 208 = .ok (.aload_n 0, 1) := by decide +kernel
theorem d_Z_valueOf_209 : decode prog_8_method_50_code 209 = .ok (.getfield (75), 3) := by decide +kernel
theorem d_Z_valueOf_212 : decode prog_8_method_50_code 212 = .ok (.iload (5), 2) := by decide +kernel
theorem d_Z_valueOf_214 : decode prog_8_method_50_code 214 = .ok (.laload, 1) := by decide +kernel
theorem d_Z_valueOf_215 : decode prog_8_method_50_code 215 = .ok (.l2i, 1) := by decide +kernel
theorem d_Z_valueOf_216 : decode prog_8_method_50_code 216 = .ok (.iaload, 1) := by decide +kernel
theorem d_Z_valueOf_217 : decode prog_8_method_50_code 217 = .ok (.i2l, 1) := by decide +kernel
theorem d_Z_valueOf_218 : decode prog_8_method_50_code 218 = .ok (.lastore, 1) := by decide +kernel
theorem d_Z_valueOf_219 : decode prog_8_method_50_code 219 = .ok (.goto (104), 3) := by decide +kernel
theorem d_Z_valueOf_222 : decode prog_8_method_50_code 222 = .ok (.iload (6), 2) := by decide +kernel
theorem d_Z_valueOf_224 : decode prog_8_method_50_code 224 = .ok (.bipush (6), 2) := by decide +kernel
theorem d_Z_valueOf_226 : decode prog_8_method_50_code 226 = .ok (.if_icmp .ne (28), 3) := by decide +kernel
theorem d_Z_valueOf_229 : decode prog_8_method_50_code 229 = .ok (.aload_n 0, 1) := by decide +kernel
theorem d_Z_valueOf_230 : decode prog_8_method_50_code 230 = .ok (.getfield (123), 3) := by decide +kernel
theorem d_Z_valueOf_233 : decode prog_8_method_50_code 233 = .ok (.iload (4), 2) := by decide +kernel
theorem d_Z_valueOf_235 : decode prog_8_method_50_code 235 = .ok (.aload_n 0, 1) := by decide +kernel
theorem d_Z_valueOf_236 : decode prog_8_method_50_code 236 = .ok (.aload_n 0, 1) := by decide +kernel
theorem d_Z_valueOf_237 : decode prog_8_method_50_code 237 = .ok (.getfield (123), 3) := by decide +kernel
theorem d_Z_valueOf_240 : decode prog_8_method_50_code 240 = .ok (.iload (4), 2) := by decide +kernel
theorem d_Z_valueOf_242 : decode prog_8_method_50_code 242 = .ok (.laload, 1) := by decide +kernel
theorem d_Z_valueOf_243 : decode prog_8_method_50_code 243 = .ok (.ldc2_w (409), 3) := by decide +kernel
theorem d_Z_valueOf_246 : decode prog_8_method_50_code 246 = .ok (.lxor, 1) := by decide +kernel
theorem d_Z_valueOf_247 : decode prog_8_method_50_code 247 = .ok (.invokevirtual (395), 3) := by decide +kernel
theorem d_Z_valueOf_250 : decode prog_8_method_50_code 250 = .ok (.lastore, 1) := by decide +kernel
theorem d_Z_valueOf_251 : decode prog_8_method_50_code 251 = .ok (.goto (72), 3) := by decide +kernel
theorem d_Z_valueOf_254 : decode prog_8_method_50_code 254 = .ok (.iload (6), 2) := by decide +kernel
theorem d_Z_valueOf_256 : decode prog_8_method_50_code 256 = .ok (.bipush (7), 2) := by decide +kernel
theorem d_Z_valueOf_258 : decode prog_8_method_50_code 258 = .ok (.if_icmp .ne (31), 3) := by decide +kernel
theorem d_Z_valueOf_261 : decode prog_8_method_50_code 261 = .ok (.aload_n 0, 1) := by decide +kernel
theorem d_Z_valueOf_262 : decode prog_8_method_50_code 262 = .ok (.getfield (123), 3) := by decide +kernel
theorem d_Z_valueOf_265 : decode prog_8_method_50_code 265 = .ok (.iload (4), 2) := by decide +kernel
theorem d_Z_valueOf_267 : decode prog_8_method_50_code 267 = .ok (.aload_n 0, 1) := by decide +kernel
theorem d_Z_valueOf_268 : decode prog_8_method_50_code 268 = .ok (.aload_n 0, 1) := by decide +kernel
theorem d_Z_valueOf_269 : decode prog_8_method_50_code 269 = .ok (.getfield (123), 3) := by decide +kernel
theorem d_Z_valueOf_272 : decode prog_8_method_50_code 272 = .ok (.iload (4), 2) := by decide +kernel
theorem d_Z_valueOf_274 : decode prog_8_method_50_code 274 = .ok (.laload, 1) := by decide +kernel
theorem d_Z_valueOf_275 : decode prog_8_method_50_code 275 = .ok (.aload_n 0, 1) := by decide +kernel
theorem d_Z_valueOf_276 : decode prog_8_method_50_code 276 = .ok (.getfield (75), 3) := by decide +kernel
theorem d_Z_valueOf_279 : decode prog_8_method_50_code 279 = .ok (.iload (5), 2) := by decide +kernel
theorem d_Z_valueOf_281 : decode prog_8_method_50_code 281 = .ok (.laload, 1) := by decide +kernel
theorem d_Z_valueOf_282 : decode prog_8_method_50_code 282 = .ok (.invokevirtual (411), 3) := by decide +kernel
theorem d_Z_valueOf_285 : decode prog_8_method_50_code 285 = .ok (.lastore, 1) := by decide +kernel
theorem d_Z_valueOf_286 : decode prog_8_method_50_code 286 = .ok (.goto (37), 3) := by decide +kernel
theorem d_Z_valueOf_289 : decode prog_8_method_50_code 289 = .ok (.aload_n 0, 1) := by decide +kernel
theorem d_Z_valueOf_290 : decode prog_8_method_50_code 290 = .ok (.getfield (123), 3) := by decide +kernel
theorem d_Z_valueOf_293 : decode prog_8_method_50_code 293 = .ok (.iload (4), 2) := by decide +kernel
theorem d_Z_valueOf_295 : decode prog_8_method_50_code 295 = .ok (.aload_n 0, 1) := by decide +kernel
theorem d_Z_valueOf_296 : decode prog_8_method_50_code 296 = .ok (.aload_n 0, 1) := by decide +kernel
theorem d_Z_valueOf_297 : decode prog_8_method_50_code 297 = .ok (.getfield (123), 3) := by decide +kernel
theorem d_Z_valueOf_300 : decode prog_8_method_50_code 300 = .ok (.iload (4), 2) := by decide +kernel
theorem d_Z_valueOf_302 : decode prog_8_method_50_code 302 = .ok (.laload, 1) := by decide +kernel
theorem d_Z_valueOf_303 : decode prog_8_method_50_code 303 = .ok (.aload_n 0, 1) := by decide +kernel
theorem d_Z_valueOf_304 : decode prog_8_method_50_code 304 = .ok (.getfield (123), 3) := by decide +kernel
theorem d_Z_valueOf_307 : decode prog_8_method_50_code 307 = .ok (.iload (4), 2) := by decide +kernel
theorem d_Z_valueOf_309 : decode prog_8_method_50_code 309 = .ok (.iconst 1, 1) := by decide +kernel
theorem d_Z_valueOf_310 : decode prog_8_method_50_code 310 = .ok (.iadd, 1) := by decide +kernel
theorem d_Z_valueOf_311 : decode prog_8_method_50_code 311 = .ok (.laload, 1) := by decide +kernel
theorem d_Z_valueOf_312 : decode prog_8_method_50_code 312 = .ok (.aload_n 0, 1) := by decide +kernel
theorem d_Z_valueOf_313 : decode prog_8_method_50_code 313 = .ok (.getfield (75), 3) := by decide +kernel
theorem d_Z_valueOf_316 : decode prog_8_method_50_code 316 = .ok (.iload (5), 2) := by decide +kernel
theorem d_Z_valueOf_318 : decode prog_8_method_50_code 318 = .ok (.laload, 1) := by decide +kernel
theorem d_Z_valueOf_319 : decode prog_8_method_50_code 319 = .ok (.invokevirtual (415), 3) := by decide +kernel
theorem d_Z_valueOf_322 : decode prog_8_method_50_code 322 = .ok (.lastore, 1) := by decide +kernel
theorem d_Z_valueOf_323 : decode prog_8_method_50_code 323 = .ok (.iinc 4 (1), 3) := by decide +kernel
theorem d_Z_valueOf_326 : decode prog_8_method_50_code 326 = .ok (.iinc 5 (1), 3) := by decide +kernel
theorem d_Z_valueOf_329 : decode prog_8_method_50_code 329 = .ok (.goto (-304), 3) := by decide +kernel
theorem d_Z_valueOf_332 : decode prog_8_method_50_code 332 = .ok (.aload_n 0, 1) := by decide +kernel
theorem d_Z_valueOf_333 : decode prog_8_method_50_code 333 = .ok (.getfield (123), 3) := by decide +kernel
theorem d_Z_valueOf_336 : decode prog_8_method_50_code 336 = .ok (.iconst 0, 1) := by decide +kernel
theorem d_Z_valueOf_337 : decode prog_8_method_50_code 337 = .ok (.laload, 1) := by decide +kernel
theorem d_Z_valueOf_338 : decode prog_8_method_50_code 338 = .ok (.lreturn, 1) := by decide +kernel
theorem fd_Z_123 : ax_fd "CipherNotationModel" 123 6 66 := ⟨nC6, nT6, 73, nY6, rfl, nW6, by decide, nw_4 203 (by decide +kernel) rfl, nO6, nA6⟩
set_option maxRecDepth 100000 in
theorem cw_Z_415 : ax_cw "CipherNotationModel" 415 y_Z_paired (.code y_Z_paired prog_8_method_49_code 7 (some .long)) 3 := ⟨nw_6 123 (by decide +kernel) rfl, nw_1 7 (by decide +kernel) rfl, nw_6 126 rfl rfl, by decide +kernel, by decide +kernel⟩
theorem im_Z_paired : Cond.instanceMethod y_Z_paired ∈ ax_tbl := nw_6 125 (by decide +kernel) rfl
theorem se_Z_paired : Cond.selects y_Z_paired.cls y_Z_paired y_Z_paired ∈ ax_tbl := nw_sel 86 (by decide +kernel) (by decide +kernel)
set_option maxRecDepth 100000 in
theorem cw_Z_411 : ax_cw "CipherNotationModel" 411 y_Z_turned (.code y_Z_turned prog_8_method_48_code 6 (some .long)) 2 := ⟨nw_6 119 (by decide +kernel) rfl, nw_1 7 (by decide +kernel) rfl, nw_6 122 rfl rfl, by decide +kernel, by decide +kernel⟩
theorem im_Z_turned : Cond.instanceMethod y_Z_turned ∈ ax_tbl := nw_6 121 (by decide +kernel) rfl
theorem se_Z_turned : Cond.selects y_Z_turned.cls y_Z_turned y_Z_turned ∈ ax_tbl := nw_sel 85 (by decide +kernel) (by decide +kernel)
theorem fd_Z_142 : ax_fd "CipherNotationModel" 142 6 72 := ⟨nC6, nT6, 73, nY6, rfl, nW6, by decide, nw_4 209 (by decide +kernel) rfl, nO6, nA6⟩
def lp_Z_valueOf_25 (F : Nat) (x1 : Int32) : Nat → Int32 → Int32 → ax_σ → Option (ax_σ)
  | 0, _, _, _ => none
  | n + 1, x4, x5, s =>
    bif ax_in x1 240 then
    if (s.1 0 55 (x1).toNatClampNeg) ≤ x5 then
      some s
    else
      bif ax_in x5 240 then
      Option.bind (
        if (s.1 0 58 (x5).toNatClampNeg) = (8 : Int32) then
          some (x4 - (2 : Int32))
        else
          Option.bind (
            if (s.1 0 58 (x5).toNatClampNeg) = (6 : Int32) then
              some true
            else
              if (s.1 0 58 (x5).toNatClampNeg) = (7 : Int32) then
                some true
              else
                some false) (fun w10 => bif w10 then
            some (x4 - (1 : Int32))
          else
            some x4)) (fun v12 =>
        if (s.1 0 58 (x5).toNatClampNeg) = (1 : Int32) then
          bif ax_in x5 240 then
          bif ax_in (((s.2 0 59 (x5).toNatClampNeg)).toInt32) 4 then
          bif ax_in v12 16 then
          ax_let (ax_wL s 0 75 (v12).toNatClampNeg (s.2 0 80 (((s.2 0 59 (x5).toNatClampNeg)).toInt32).toNatClampNeg)) (fun s57 =>
            lp_Z_valueOf_25 F x1 n (v12 + (1 : Int32)) (x5 + (1 : Int32)) s57)
          else none
          else none
          else none
        else
          if (s.1 0 58 (x5).toNatClampNeg) = (2 : Int32) then
            Option.bind (f_Z_index F x5 s) (fun r48 =>
              bif ax_in ((r48).toInt32) 4 then
              bif ax_in v12 16 then
              ax_let (ax_wL s 0 75 (v12).toNatClampNeg (s.2 0 79 ((r48).toInt32).toNatClampNeg)) (fun s52 =>
                lp_Z_valueOf_25 F x1 n (v12 + (1 : Int32)) (x5 + (1 : Int32)) s52)
              else none
              else none)
          else
            if (s.1 0 58 (x5).toNatClampNeg) = (3 : Int32) then
              Option.bind (f_Z_index F x5 s) (fun r42 =>
                bif ax_in ((r42).toInt32) 32 then
                bif ax_in v12 16 then
                ax_let (ax_wL s 0 75 (v12).toNatClampNeg (s.2 0 81 ((r42).toInt32).toNatClampNeg)) (fun s46 =>
                  lp_Z_valueOf_25 F x1 n (v12 + (1 : Int32)) (x5 + (1 : Int32)) s46)
                else none
                else none)
            else
              if (s.1 0 58 (x5).toNatClampNeg) = (4 : Int32) then
                bif ax_in x5 240 then
                bif ax_in v12 16 then
                ax_let (ax_wL s 0 75 (v12).toNatClampNeg (s.2 0 59 (x5).toNatClampNeg)) (fun s40 =>
                  lp_Z_valueOf_25 F x1 n (v12 + (1 : Int32)) (x5 + (1 : Int32)) s40)
                else none
                else none
              else
                if (s.1 0 58 (x5).toNatClampNeg) = (5 : Int32) then
                  bif ax_in x5 240 then
                  bif ax_in (((s.2 0 59 (x5).toNatClampNeg)).toInt32) 2 then
                  bif ax_in v12 16 then
                  ax_let (ax_wL s 0 75 (v12).toNatClampNeg (((s.1 0 74 (((s.2 0 59 (x5).toNatClampNeg)).toInt32).toNatClampNeg)).toInt64)) (fun s36 =>
                    lp_Z_valueOf_25 F x1 n (v12 + (1 : Int32)) (x5 + (1 : Int32)) s36)
                  else none
                  else none
                  else none
                else
                  if (s.1 0 58 (x5).toNatClampNeg) = (6 : Int32) then
                    bif ax_in v12 16 then
                    Option.bind (f_Z_cut ((s.2 0 75 (v12).toNatClampNeg) ^^^ (-1 : Int64)) s) (fun r28 =>
                      bif ax_in v12 16 then
                      ax_let (ax_wL s 0 75 (v12).toNatClampNeg r28) (fun s31 =>
                        lp_Z_valueOf_25 F x1 n (v12 + (1 : Int32)) (x5 + (1 : Int32)) s31)
                      else none)
                    else none
                  else
                    if (s.1 0 58 (x5).toNatClampNeg) = (7 : Int32) then
                      bif ax_in v12 16 then
                      bif ax_in x5 240 then
                      Option.bind (f_Z_turned (s.2 0 75 (v12).toNatClampNeg) (s.2 0 59 (x5).toNatClampNeg) s) (fun r22 =>
                        bif ax_in v12 16 then
                        ax_let (ax_wL s 0 75 (v12).toNatClampNeg r22) (fun s25 =>
                          lp_Z_valueOf_25 F x1 n (v12 + (1 : Int32)) (x5 + (1 : Int32)) s25)
                        else none)
                      else none
                      else none
                    else
                      bif ax_in v12 16 then
                      bif ax_in (v12 + (1 : Int32)) 16 then
                      bif ax_in x5 240 then
                      Option.bind (f_Z_paired (s.2 0 75 (v12).toNatClampNeg) (s.2 0 75 ((v12 + (1 : Int32))).toNatClampNeg) (s.2 0 59 (x5).toNatClampNeg) s) (fun r16 =>
                        bif ax_in v12 16 then
                        ax_let (ax_wL s 0 75 (v12).toNatClampNeg r16) (fun s19 =>
                          lp_Z_valueOf_25 F x1 n (v12 + (1 : Int32)) (x5 + (1 : Int32)) s19)
                        else none)
                      else none
                      else none
                      else none)
      else none
    else none
set_option maxHeartbeats 4000000 in
set_option maxRecDepth 100000 in
theorem pl_Z_valueOf_25 {D : va_G} {cA : Nat → ClassId} {ad : Nat → Nat → Nat} {al : List (Nat × Nat)} {θ : ax_Θ} {l : Launch} {ρ : ax_ρ} {G : ax_G} {F : Nat} {x1 : Int32} (h0 : ax_M0 al) (hB : ax_B D cA ad al θ l "CipherNotationModel" prog_8_method_50_code 7 3 G) : ∀ (n : Nat) {x4 : Int32} {x5 : Int32} {s : ax_σ} (out : ax_σ), lp_Z_valueOf_25 F x1 n x4 x5 s = some out → (∀ (es : ax_σ), out = es → ax_R G 7 0 0 (332, [(0, .inr (0, 38))], [], ax_m (es) ρ)) → ax_R G 7 0 0 (25, [(0, .inr (0, 38)), (1, .inl (.int (x1))), (4, .inl (.int (x4))), (5, .inl (.int (x5)))], [], ax_m (s) ρ) := by
  have hK := hB.K
  have hal := hB.la
  intro n
  induction n with
  | zero =>
    intro x4 x5 s out h
    cases h
  | succ n ih =>
    intro x4 x5 s out h KE
    rw [lp_Z_valueOf_25] at h
    obtain ⟨b6, h⟩ := ax_gd h
    refine ax_bk hK (ax_fc (ax_v_ld (ax_r_iload d_Z_valueOf_25)) (ax_fc (ax_v_ld (ax_r_aload_n (i := 0) d_Z_valueOf_27 rfl)) (ax_fc (ax_w_gf (e := none) hal d_Z_valueOf_28 fd_Z_63) (ax_fc (ax_v_ld (ax_r_iload_n (i := 1) d_Z_valueOf_31 rfl)) (ax_fc (ax_w_iald hal d_Z_valueOf_32) ax_fn))))) (y := (33, [(0, .inr (0, 38)), (1, .inl (.int (x1))), (4, .inl (.int (x4))), (5, .inl (.int (x5)))], [.inl (.int ((s.1 0 55 (x1).toNatClampNeg))), .inl (.int (x5))], ax_m (s) ρ)) rfl ⟨trivial, trivial, (h0 38 rfl), trivial, ⟨(h0 55 rfl), ax_inp b6⟩, trivial⟩ ?_
    refine ax_ic_ge (tgt := 332) hK d_Z_valueOf_33 (by decide) (fun c59 => ?_) (fun c59 => ?_)
    · replace h := ax_it c59 h
      cases h
      exact ax_Lsub [0] rfl (KE _ rfl)
    · replace h := ax_if c59 h
      obtain ⟨b7, h⟩ := ax_gd h
      refine ax_bk hK (ax_fc (ax_v_ld (ax_r_aload_n (i := 0) d_Z_valueOf_36 rfl)) (ax_fc (ax_w_gf (e := none) hal d_Z_valueOf_37 fd_Z_72) (ax_fc (ax_v_ld (ax_r_iload d_Z_valueOf_40)) (ax_fc (ax_w_iald hal d_Z_valueOf_42) (ax_fc (ax_v_so (ax_r_istore d_Z_valueOf_43)) (ax_fc (ax_v_ld (ax_r_iload d_Z_valueOf_45)) (ax_fc (ax_v_pu (ax_r_bipush (v := 8) d_Z_valueOf_47 (by decide))) ax_fn))))))) (y := (49, [(6, .inl (.int ((s.1 0 58 (x5).toNatClampNeg)))), (0, .inr (0, 38)), (1, .inl (.int (x1))), (4, .inl (.int (x4))), (5, .inl (.int (x5)))], [.inl (.int ((8 : Int32))), .inl (.int ((s.1 0 58 (x5).toNatClampNeg)))], ax_m (s) ρ)) rfl ⟨trivial, (h0 38 rfl), trivial, ⟨(h0 58 rfl), ax_inp b7⟩, trivial, trivial, trivial, trivial⟩ ?_
      obtain ⟨w60, hw60, h⟩ := ax_bd h
      have KEw60 : ∀ (v12 : Int32), w60 = v12 → ax_R G 7 0 0 (82, [(0, .inr (0, 38)), (1, .inl (.int (x1))), (5, .inl (.int (x5))), (6, .inl (.int ((s.1 0 58 (x5).toNatClampNeg))))], [.inl (.int (v12))], ax_m (s) ρ) := by
        intro v12 e9
        subst w60
        try dsimp only at h
        refine ax_bk hK (ax_fc (ax_v_so (ax_r_istore d_Z_valueOf_82)) (ax_fc (ax_v_ld (ax_r_iload d_Z_valueOf_84)) (ax_fc (ax_v_pu (ax_r_iconst (v := 1) d_Z_valueOf_86 (by decide))) ax_fn))) (y := (87, [(4, .inl (.int (v12))), (0, .inr (0, 38)), (1, .inl (.int (x1))), (5, .inl (.int (x5))), (6, .inl (.int ((s.1 0 58 (x5).toNatClampNeg))))], [.inl (.int ((1 : Int32))), .inl (.int ((s.1 0 58 (x5).toNatClampNeg)))], ax_m (s) ρ)) rfl ⟨trivial, trivial, trivial, trivial⟩ ?_
        refine ax_ic_ne (tgt := 113) hK d_Z_valueOf_87 (by decide) (fun c58 => ?_) (fun c58 => ?_)
        · replace h := ax_if c58 h
          refine ax_bk hK (ax_fc (ax_v_ld (ax_r_iload d_Z_valueOf_113)) (ax_fc (ax_v_pu (ax_r_iconst (v := 2) d_Z_valueOf_115 (by decide))) ax_fn)) (y := (116, [(4, .inl (.int (v12))), (0, .inr (0, 38)), (1, .inl (.int (x1))), (5, .inl (.int (x5))), (6, .inl (.int ((s.1 0 58 (x5).toNatClampNeg))))], [.inl (.int ((2 : Int32))), .inl (.int ((s.1 0 58 (x5).toNatClampNeg)))], ax_m (s) ρ)) rfl ⟨trivial, trivial, trivial⟩ ?_
          refine ax_ic_ne (tgt := 141) hK d_Z_valueOf_116 (by decide) (fun c53 => ?_) (fun c53 => ?_)
          · replace h := ax_if c53 h
            refine ax_bk hK (ax_fc (ax_v_ld (ax_r_iload d_Z_valueOf_141)) (ax_fc (ax_v_pu (ax_r_iconst (v := 3) d_Z_valueOf_143 (by decide))) ax_fn)) (y := (144, [(4, .inl (.int (v12))), (0, .inr (0, 38)), (1, .inl (.int (x1))), (5, .inl (.int (x5))), (6, .inl (.int ((s.1 0 58 (x5).toNatClampNeg))))], [.inl (.int ((3 : Int32))), .inl (.int ((s.1 0 58 (x5).toNatClampNeg)))], ax_m (s) ρ)) rfl ⟨trivial, trivial, trivial⟩ ?_
            refine ax_ic_ne (tgt := 169) hK d_Z_valueOf_144 (by decide) (fun c47 => ?_) (fun c47 => ?_)
            · replace h := ax_if c47 h
              refine ax_bk hK (ax_fc (ax_v_ld (ax_r_iload d_Z_valueOf_169)) (ax_fc (ax_v_pu (ax_r_iconst (v := 4) d_Z_valueOf_171 (by decide))) ax_fn)) (y := (172, [(4, .inl (.int (v12))), (0, .inr (0, 38)), (1, .inl (.int (x1))), (5, .inl (.int (x5))), (6, .inl (.int ((s.1 0 58 (x5).toNatClampNeg))))], [.inl (.int ((4 : Int32))), .inl (.int ((s.1 0 58 (x5).toNatClampNeg)))], ax_m (s) ρ)) rfl ⟨trivial, trivial, trivial⟩ ?_
              refine ax_ic_ne (tgt := 192) hK d_Z_valueOf_172 (by decide) (fun c41 => ?_) (fun c41 => ?_)
              · replace h := ax_if c41 h
                refine ax_bk hK (ax_fc (ax_v_ld (ax_r_iload d_Z_valueOf_192)) (ax_fc (ax_v_pu (ax_r_iconst (v := 5) d_Z_valueOf_194 (by decide))) ax_fn)) (y := (195, [(4, .inl (.int (v12))), (0, .inr (0, 38)), (1, .inl (.int (x1))), (5, .inl (.int (x5))), (6, .inl (.int ((s.1 0 58 (x5).toNatClampNeg))))], [.inl (.int ((5 : Int32))), .inl (.int ((s.1 0 58 (x5).toNatClampNeg)))], ax_m (s) ρ)) rfl ⟨trivial, trivial, trivial⟩ ?_
                refine ax_ic_ne (tgt := 222) hK d_Z_valueOf_195 (by decide) (fun c37 => ?_) (fun c37 => ?_)
                · replace h := ax_if c37 h
                  refine ax_bk hK (ax_fc (ax_v_ld (ax_r_iload d_Z_valueOf_222)) (ax_fc (ax_v_pu (ax_r_bipush (v := 6) d_Z_valueOf_224 (by decide))) ax_fn)) (y := (226, [(4, .inl (.int (v12))), (0, .inr (0, 38)), (1, .inl (.int (x1))), (5, .inl (.int (x5))), (6, .inl (.int ((s.1 0 58 (x5).toNatClampNeg))))], [.inl (.int ((6 : Int32))), .inl (.int ((s.1 0 58 (x5).toNatClampNeg)))], ax_m (s) ρ)) rfl ⟨trivial, trivial, trivial⟩ ?_
                  refine ax_ic_ne (tgt := 254) hK d_Z_valueOf_226 (by decide) (fun c32 => ?_) (fun c32 => ?_)
                  · replace h := ax_if c32 h
                    refine ax_bk hK (ax_fc (ax_v_ld (ax_r_iload d_Z_valueOf_254)) (ax_fc (ax_v_pu (ax_r_bipush (v := 7) d_Z_valueOf_256 (by decide))) ax_fn)) (y := (258, [(4, .inl (.int (v12))), (0, .inr (0, 38)), (1, .inl (.int (x1))), (5, .inl (.int (x5))), (6, .inl (.int ((s.1 0 58 (x5).toNatClampNeg))))], [.inl (.int ((7 : Int32))), .inl (.int ((s.1 0 58 (x5).toNatClampNeg)))], ax_m (s) ρ)) rfl ⟨trivial, trivial, trivial⟩ ?_
                    refine ax_ic_ne (tgt := 289) hK d_Z_valueOf_258 (by decide) (fun c26 => ?_) (fun c26 => ?_)
                    · replace h := ax_if c26 h
                      obtain ⟨b13, h⟩ := ax_gd h
                      obtain ⟨b14, h⟩ := ax_gd h
                      obtain ⟨b15, h⟩ := ax_gd h
                      refine ax_bk hK (ax_fc (ax_v_ld (ax_r_aload_n (i := 0) d_Z_valueOf_289 rfl)) (ax_fc (ax_w_gf (e := none) hal d_Z_valueOf_290 fd_Z_123) (ax_fc (ax_v_ld (ax_r_iload d_Z_valueOf_293)) (ax_fc (ax_v_ld (ax_r_aload_n (i := 0) d_Z_valueOf_295 rfl)) (ax_fc (ax_v_ld (ax_r_aload_n (i := 0) d_Z_valueOf_296 rfl)) (ax_fc (ax_w_gf (e := none) hal d_Z_valueOf_297 fd_Z_123) (ax_fc (ax_v_ld (ax_r_iload d_Z_valueOf_300)) (ax_fc (ax_w_lald hal d_Z_valueOf_302) (ax_fc (ax_v_ld (ax_r_aload_n (i := 0) d_Z_valueOf_303 rfl)) (ax_fc (ax_w_gf (e := none) hal d_Z_valueOf_304 fd_Z_123) (ax_fc (ax_v_ld (ax_r_iload d_Z_valueOf_307)) (ax_fc (ax_v_pu (ax_r_iconst (v := 1) d_Z_valueOf_309 (by decide))) (ax_fc (ax_v_pu (ax_r_iadd d_Z_valueOf_310)) (ax_fc (ax_w_lald hal d_Z_valueOf_311) (ax_fc (ax_v_ld (ax_r_aload_n (i := 0) d_Z_valueOf_312 rfl)) (ax_fc (ax_w_gf (e := none) hal d_Z_valueOf_313 fd_Z_75) (ax_fc (ax_v_ld (ax_r_iload d_Z_valueOf_316)) (ax_fc (ax_w_lald hal d_Z_valueOf_318) ax_fn)))))))))))))))))) (y := (319, [(4, .inl (.int (v12))), (0, .inr (0, 38)), (1, .inl (.int (x1))), (5, .inl (.int (x5))), (6, .inl (.int ((s.1 0 58 (x5).toNatClampNeg))))], [.inl (.long ((s.2 0 59 (x5).toNatClampNeg))), .inl (.long ((s.2 0 75 ((v12 + (1 : Int32))).toNatClampNeg))), .inl (.long ((s.2 0 75 (v12).toNatClampNeg))), .inr (0, 38), .inl (.int (v12)), .inr (0, 75)], ax_m (s) ρ)) rfl ⟨trivial, (h0 38 rfl), trivial, trivial, trivial, (h0 38 rfl), trivial, ⟨(h0 75 rfl), ax_inp b13⟩, trivial, (h0 38 rfl), trivial, trivial, trivial, ⟨(h0 75 rfl), ax_inp b14⟩, trivial, (h0 38 rfl), trivial, ⟨(h0 59 rfl), ax_inp b15⟩, trivial⟩ ?_
                      obtain ⟨r16, q17, h⟩ := ax_bd h
                      refine ax_bV (rest := [.inl (.int (v12)), .inr (0, 75)]) hB (t_Z_paired h0 q17) cw_Z_415 im_Z_paired se_Z_paired d_Z_valueOf_319 (h0 38 rfl) rfl rfl (by decide) (by decide) rfl rfl (Nat.le_of_ble_eq_true rfl) ?_
                      change ax_R G 7 0 0 (322, [(4, .inl (.int (v12))), (0, .inr (0, 38)), (1, .inl (.int (x1))), (5, .inl (.int (x5))), (6, .inl (.int ((s.1 0 58 (x5).toNatClampNeg))))], [.inl (.long (r16)), .inl (.int (v12)), .inr (0, 75)], ax_m (s) ρ)
                      obtain ⟨b18, h⟩ := ax_gd h
                      refine ax_bk hK (ax_fc (ax_w_last hal d_Z_valueOf_322) ax_fn) (y := (323, [(4, .inl (.int (v12))), (0, .inr (0, 38)), (1, .inl (.int (x1))), (5, .inl (.int (x5))), (6, .inl (.int ((s.1 0 58 (x5).toNatClampNeg))))], [], ax_m (ax_wL s 0 75 (v12).toNatClampNeg r16) ρ)) rfl ⟨⟨(h0 75 rfl), ax_inp b18⟩, trivial⟩ ?_
                      refine ax_lt (Q := fun ςς => ax_R G 7 0 0 (323, [(4, .inl (.int (v12))), (0, .inr (0, 38)), (1, .inl (.int (x1))), (5, .inl (.int (x5))), (6, .inl (.int ((s.1 0 58 (x5).toNatClampNeg))))], [], ax_m (ςς) ρ)) h (fun s19 h => ?_)
                      refine ax_bk hK (ax_fc (ax_v_ii (d := 1) d_Z_valueOf_323 (by decide)) (ax_fc (ax_v_ii (d := 1) d_Z_valueOf_326 (by decide)) (ax_fc (ax_v_go (tgt := 25) d_Z_valueOf_329 (by decide)) ax_fn))) (y := (25, [(5, .inl (.int ((x5 + (1 : Int32))))), (4, .inl (.int ((v12 + (1 : Int32))))), (0, .inr (0, 38)), (1, .inl (.int (x1))), (6, .inl (.int ((s.1 0 58 (x5).toNatClampNeg))))], [], ax_m (s19) ρ)) rfl ⟨trivial, trivial, trivial, trivial⟩ ?_
                      exact ax_Lsub [2, 3, 1, 0] rfl (ih _ h KE)
                    · replace h := ax_it c26 h
                      obtain ⟨b20, h⟩ := ax_gd h
                      obtain ⟨b21, h⟩ := ax_gd h
                      refine ax_bk hK (ax_fc (ax_v_ld (ax_r_aload_n (i := 0) d_Z_valueOf_261 rfl)) (ax_fc (ax_w_gf (e := none) hal d_Z_valueOf_262 fd_Z_123) (ax_fc (ax_v_ld (ax_r_iload d_Z_valueOf_265)) (ax_fc (ax_v_ld (ax_r_aload_n (i := 0) d_Z_valueOf_267 rfl)) (ax_fc (ax_v_ld (ax_r_aload_n (i := 0) d_Z_valueOf_268 rfl)) (ax_fc (ax_w_gf (e := none) hal d_Z_valueOf_269 fd_Z_123) (ax_fc (ax_v_ld (ax_r_iload d_Z_valueOf_272)) (ax_fc (ax_w_lald hal d_Z_valueOf_274) (ax_fc (ax_v_ld (ax_r_aload_n (i := 0) d_Z_valueOf_275 rfl)) (ax_fc (ax_w_gf (e := none) hal d_Z_valueOf_276 fd_Z_75) (ax_fc (ax_v_ld (ax_r_iload d_Z_valueOf_279)) (ax_fc (ax_w_lald hal d_Z_valueOf_281) ax_fn)))))))))))) (y := (282, [(4, .inl (.int (v12))), (0, .inr (0, 38)), (1, .inl (.int (x1))), (5, .inl (.int (x5))), (6, .inl (.int ((s.1 0 58 (x5).toNatClampNeg))))], [.inl (.long ((s.2 0 59 (x5).toNatClampNeg))), .inl (.long ((s.2 0 75 (v12).toNatClampNeg))), .inr (0, 38), .inl (.int (v12)), .inr (0, 75)], ax_m (s) ρ)) rfl ⟨trivial, (h0 38 rfl), trivial, trivial, trivial, (h0 38 rfl), trivial, ⟨(h0 75 rfl), ax_inp b20⟩, trivial, (h0 38 rfl), trivial, ⟨(h0 59 rfl), ax_inp b21⟩, trivial⟩ ?_
                      obtain ⟨r22, q23, h⟩ := ax_bd h
                      refine ax_bV (rest := [.inl (.int (v12)), .inr (0, 75)]) hB (t_Z_turned h0 q23) cw_Z_411 im_Z_turned se_Z_turned d_Z_valueOf_282 (h0 38 rfl) rfl rfl (by decide) (by decide) rfl rfl (Nat.le_of_ble_eq_true rfl) ?_
                      change ax_R G 7 0 0 (285, [(4, .inl (.int (v12))), (0, .inr (0, 38)), (1, .inl (.int (x1))), (5, .inl (.int (x5))), (6, .inl (.int ((s.1 0 58 (x5).toNatClampNeg))))], [.inl (.long (r22)), .inl (.int (v12)), .inr (0, 75)], ax_m (s) ρ)
                      obtain ⟨b24, h⟩ := ax_gd h
                      refine ax_bk hK (ax_fc (ax_w_last hal d_Z_valueOf_285) ax_fn) (y := (286, [(4, .inl (.int (v12))), (0, .inr (0, 38)), (1, .inl (.int (x1))), (5, .inl (.int (x5))), (6, .inl (.int ((s.1 0 58 (x5).toNatClampNeg))))], [], ax_m (ax_wL s 0 75 (v12).toNatClampNeg r22) ρ)) rfl ⟨⟨(h0 75 rfl), ax_inp b24⟩, trivial⟩ ?_
                      refine ax_lt (Q := fun ςς => ax_R G 7 0 0 (286, [(4, .inl (.int (v12))), (0, .inr (0, 38)), (1, .inl (.int (x1))), (5, .inl (.int (x5))), (6, .inl (.int ((s.1 0 58 (x5).toNatClampNeg))))], [], ax_m (ςς) ρ)) h (fun s25 h => ?_)
                      refine ax_bk hK (ax_fc (ax_v_go (tgt := 323) d_Z_valueOf_286 (by decide)) ax_fn) (y := (323, [(4, .inl (.int (v12))), (0, .inr (0, 38)), (1, .inl (.int (x1))), (5, .inl (.int (x5))), (6, .inl (.int ((s.1 0 58 (x5).toNatClampNeg))))], [], ax_m (s25) ρ)) rfl ⟨trivial, trivial⟩ ?_
                      refine ax_bk hK (ax_fc (ax_v_ii (d := 1) d_Z_valueOf_323 (by decide)) (ax_fc (ax_v_ii (d := 1) d_Z_valueOf_326 (by decide)) (ax_fc (ax_v_go (tgt := 25) d_Z_valueOf_329 (by decide)) ax_fn))) (y := (25, [(5, .inl (.int ((x5 + (1 : Int32))))), (4, .inl (.int ((v12 + (1 : Int32))))), (0, .inr (0, 38)), (1, .inl (.int (x1))), (6, .inl (.int ((s.1 0 58 (x5).toNatClampNeg))))], [], ax_m (s25) ρ)) rfl ⟨trivial, trivial, trivial, trivial⟩ ?_
                      exact ax_Lsub [2, 3, 1, 0] rfl (ih _ h KE)
                  · replace h := ax_it c32 h
                    obtain ⟨b27, h⟩ := ax_gd h
                    refine ax_bk hK (ax_fc (ax_v_ld (ax_r_aload_n (i := 0) d_Z_valueOf_229 rfl)) (ax_fc (ax_w_gf (e := none) hal d_Z_valueOf_230 fd_Z_123) (ax_fc (ax_v_ld (ax_r_iload d_Z_valueOf_233)) (ax_fc (ax_v_ld (ax_r_aload_n (i := 0) d_Z_valueOf_235 rfl)) (ax_fc (ax_v_ld (ax_r_aload_n (i := 0) d_Z_valueOf_236 rfl)) (ax_fc (ax_w_gf (e := none) hal d_Z_valueOf_237 fd_Z_123) (ax_fc (ax_v_ld (ax_r_iload d_Z_valueOf_240)) (ax_fc (ax_w_lald hal d_Z_valueOf_242) (ax_fc (ax_v_ldc2 (v := -1) d_Z_valueOf_243 (nw_6 114 (by decide +kernel) rfl)) (ax_fc (ax_v_pu (ax_r_lxor d_Z_valueOf_246)) ax_fn)))))))))) (y := (247, [(4, .inl (.int (v12))), (0, .inr (0, 38)), (1, .inl (.int (x1))), (5, .inl (.int (x5))), (6, .inl (.int ((s.1 0 58 (x5).toNatClampNeg))))], [.inl (.long (((s.2 0 75 (v12).toNatClampNeg) ^^^ (-1 : Int64)))), .inr (0, 38), .inl (.int (v12)), .inr (0, 75)], ax_m (s) ρ)) rfl ⟨trivial, (h0 38 rfl), trivial, trivial, trivial, (h0 38 rfl), trivial, ⟨(h0 75 rfl), ax_inp b27⟩, trivial, trivial, trivial⟩ ?_
                    obtain ⟨r28, q29, h⟩ := ax_bd h
                    refine ax_bV (rest := [.inl (.int (v12)), .inr (0, 75)]) hB (t_Z_cut h0 q29) cw_Z_395 im_Z_cut se_Z_cut d_Z_valueOf_247 (h0 38 rfl) rfl rfl (by decide) (by decide) rfl rfl (Nat.le_of_ble_eq_true rfl) ?_
                    change ax_R G 7 0 0 (250, [(4, .inl (.int (v12))), (0, .inr (0, 38)), (1, .inl (.int (x1))), (5, .inl (.int (x5))), (6, .inl (.int ((s.1 0 58 (x5).toNatClampNeg))))], [.inl (.long (r28)), .inl (.int (v12)), .inr (0, 75)], ax_m (s) ρ)
                    obtain ⟨b30, h⟩ := ax_gd h
                    refine ax_bk hK (ax_fc (ax_w_last hal d_Z_valueOf_250) ax_fn) (y := (251, [(4, .inl (.int (v12))), (0, .inr (0, 38)), (1, .inl (.int (x1))), (5, .inl (.int (x5))), (6, .inl (.int ((s.1 0 58 (x5).toNatClampNeg))))], [], ax_m (ax_wL s 0 75 (v12).toNatClampNeg r28) ρ)) rfl ⟨⟨(h0 75 rfl), ax_inp b30⟩, trivial⟩ ?_
                    refine ax_lt (Q := fun ςς => ax_R G 7 0 0 (251, [(4, .inl (.int (v12))), (0, .inr (0, 38)), (1, .inl (.int (x1))), (5, .inl (.int (x5))), (6, .inl (.int ((s.1 0 58 (x5).toNatClampNeg))))], [], ax_m (ςς) ρ)) h (fun s31 h => ?_)
                    refine ax_bk hK (ax_fc (ax_v_go (tgt := 323) d_Z_valueOf_251 (by decide)) ax_fn) (y := (323, [(4, .inl (.int (v12))), (0, .inr (0, 38)), (1, .inl (.int (x1))), (5, .inl (.int (x5))), (6, .inl (.int ((s.1 0 58 (x5).toNatClampNeg))))], [], ax_m (s31) ρ)) rfl ⟨trivial, trivial⟩ ?_
                    refine ax_bk hK (ax_fc (ax_v_ii (d := 1) d_Z_valueOf_323 (by decide)) (ax_fc (ax_v_ii (d := 1) d_Z_valueOf_326 (by decide)) (ax_fc (ax_v_go (tgt := 25) d_Z_valueOf_329 (by decide)) ax_fn))) (y := (25, [(5, .inl (.int ((x5 + (1 : Int32))))), (4, .inl (.int ((v12 + (1 : Int32))))), (0, .inr (0, 38)), (1, .inl (.int (x1))), (6, .inl (.int ((s.1 0 58 (x5).toNatClampNeg))))], [], ax_m (s31) ρ)) rfl ⟨trivial, trivial, trivial, trivial⟩ ?_
                    exact ax_Lsub [2, 3, 1, 0] rfl (ih _ h KE)
                · replace h := ax_it c37 h
                  obtain ⟨b33, h⟩ := ax_gd h
                  obtain ⟨b34, h⟩ := ax_gd h
                  obtain ⟨b35, h⟩ := ax_gd h
                  refine ax_bk hK (ax_fc (ax_v_ld (ax_r_aload_n (i := 0) d_Z_valueOf_198 rfl)) (ax_fc (ax_w_gf (e := none) hal d_Z_valueOf_199 fd_Z_123) (ax_fc (ax_v_ld (ax_r_iload d_Z_valueOf_202)) (ax_fc (ax_v_ld (ax_r_aload_n (i := 0) d_Z_valueOf_204 rfl)) (ax_fc (ax_w_gf (e := none) hal d_Z_valueOf_205 fd_Z_120) (ax_fc (ax_v_ld (ax_r_aload_n (i := 0) d_Z_valueOf_208 rfl)) (ax_fc (ax_w_gf (e := none) hal d_Z_valueOf_209 fd_Z_75) (ax_fc (ax_v_ld (ax_r_iload d_Z_valueOf_212)) (ax_fc (ax_w_lald hal d_Z_valueOf_214) (ax_fc (ax_v_pu (ax_r_l2i d_Z_valueOf_215)) (ax_fc (ax_w_iald hal d_Z_valueOf_216) (ax_fc (ax_v_pu (ax_r_i2l d_Z_valueOf_217)) (ax_fc (ax_w_last hal d_Z_valueOf_218) ax_fn))))))))))))) (y := (219, [(4, .inl (.int (v12))), (0, .inr (0, 38)), (1, .inl (.int (x1))), (5, .inl (.int (x5))), (6, .inl (.int ((s.1 0 58 (x5).toNatClampNeg))))], [], ax_m (ax_wL s 0 75 (v12).toNatClampNeg (((s.1 0 74 (((s.2 0 59 (x5).toNatClampNeg)).toInt32).toNatClampNeg)).toInt64)) ρ)) rfl ⟨trivial, (h0 38 rfl), trivial, trivial, (h0 38 rfl), trivial, (h0 38 rfl), trivial, ⟨(h0 59 rfl), ax_inp b33⟩, trivial, ⟨(h0 74 rfl), ax_inp b34⟩, trivial, ⟨(h0 75 rfl), ax_inp b35⟩, trivial⟩ ?_
                  refine ax_lt (Q := fun ςς => ax_R G 7 0 0 (219, [(4, .inl (.int (v12))), (0, .inr (0, 38)), (1, .inl (.int (x1))), (5, .inl (.int (x5))), (6, .inl (.int ((s.1 0 58 (x5).toNatClampNeg))))], [], ax_m (ςς) ρ)) h (fun s36 h => ?_)
                  refine ax_bk hK (ax_fc (ax_v_go (tgt := 323) d_Z_valueOf_219 (by decide)) ax_fn) (y := (323, [(4, .inl (.int (v12))), (0, .inr (0, 38)), (1, .inl (.int (x1))), (5, .inl (.int (x5))), (6, .inl (.int ((s.1 0 58 (x5).toNatClampNeg))))], [], ax_m (s36) ρ)) rfl ⟨trivial, trivial⟩ ?_
                  refine ax_bk hK (ax_fc (ax_v_ii (d := 1) d_Z_valueOf_323 (by decide)) (ax_fc (ax_v_ii (d := 1) d_Z_valueOf_326 (by decide)) (ax_fc (ax_v_go (tgt := 25) d_Z_valueOf_329 (by decide)) ax_fn))) (y := (25, [(5, .inl (.int ((x5 + (1 : Int32))))), (4, .inl (.int ((v12 + (1 : Int32))))), (0, .inr (0, 38)), (1, .inl (.int (x1))), (6, .inl (.int ((s.1 0 58 (x5).toNatClampNeg))))], [], ax_m (s36) ρ)) rfl ⟨trivial, trivial, trivial, trivial⟩ ?_
                  exact ax_Lsub [2, 3, 1, 0] rfl (ih _ h KE)
              · replace h := ax_it c41 h
                obtain ⟨b38, h⟩ := ax_gd h
                obtain ⟨b39, h⟩ := ax_gd h
                refine ax_bk hK (ax_fc (ax_v_ld (ax_r_aload_n (i := 0) d_Z_valueOf_175 rfl)) (ax_fc (ax_w_gf (e := none) hal d_Z_valueOf_176 fd_Z_123) (ax_fc (ax_v_ld (ax_r_iload d_Z_valueOf_179)) (ax_fc (ax_v_ld (ax_r_aload_n (i := 0) d_Z_valueOf_181 rfl)) (ax_fc (ax_w_gf (e := none) hal d_Z_valueOf_182 fd_Z_75) (ax_fc (ax_v_ld (ax_r_iload d_Z_valueOf_185)) (ax_fc (ax_w_lald hal d_Z_valueOf_187) (ax_fc (ax_w_last hal d_Z_valueOf_188) ax_fn)))))))) (y := (189, [(4, .inl (.int (v12))), (0, .inr (0, 38)), (1, .inl (.int (x1))), (5, .inl (.int (x5))), (6, .inl (.int ((s.1 0 58 (x5).toNatClampNeg))))], [], ax_m (ax_wL s 0 75 (v12).toNatClampNeg (s.2 0 59 (x5).toNatClampNeg)) ρ)) rfl ⟨trivial, (h0 38 rfl), trivial, trivial, (h0 38 rfl), trivial, ⟨(h0 59 rfl), ax_inp b38⟩, ⟨(h0 75 rfl), ax_inp b39⟩, trivial⟩ ?_
                refine ax_lt (Q := fun ςς => ax_R G 7 0 0 (189, [(4, .inl (.int (v12))), (0, .inr (0, 38)), (1, .inl (.int (x1))), (5, .inl (.int (x5))), (6, .inl (.int ((s.1 0 58 (x5).toNatClampNeg))))], [], ax_m (ςς) ρ)) h (fun s40 h => ?_)
                refine ax_bk hK (ax_fc (ax_v_go (tgt := 323) d_Z_valueOf_189 (by decide)) ax_fn) (y := (323, [(4, .inl (.int (v12))), (0, .inr (0, 38)), (1, .inl (.int (x1))), (5, .inl (.int (x5))), (6, .inl (.int ((s.1 0 58 (x5).toNatClampNeg))))], [], ax_m (s40) ρ)) rfl ⟨trivial, trivial⟩ ?_
                refine ax_bk hK (ax_fc (ax_v_ii (d := 1) d_Z_valueOf_323 (by decide)) (ax_fc (ax_v_ii (d := 1) d_Z_valueOf_326 (by decide)) (ax_fc (ax_v_go (tgt := 25) d_Z_valueOf_329 (by decide)) ax_fn))) (y := (25, [(5, .inl (.int ((x5 + (1 : Int32))))), (4, .inl (.int ((v12 + (1 : Int32))))), (0, .inr (0, 38)), (1, .inl (.int (x1))), (6, .inl (.int ((s.1 0 58 (x5).toNatClampNeg))))], [], ax_m (s40) ρ)) rfl ⟨trivial, trivial, trivial, trivial⟩ ?_
                exact ax_Lsub [2, 3, 1, 0] rfl (ih _ h KE)
            · replace h := ax_it c47 h
              refine ax_bk hK (ax_fc (ax_v_ld (ax_r_aload_n (i := 0) d_Z_valueOf_147 rfl)) (ax_fc (ax_w_gf (e := none) hal d_Z_valueOf_148 fd_Z_123) (ax_fc (ax_v_ld (ax_r_iload d_Z_valueOf_151)) (ax_fc (ax_v_ld (ax_r_aload_n (i := 0) d_Z_valueOf_153 rfl)) (ax_fc (ax_w_gf (e := none) hal d_Z_valueOf_154 fd_Z_142) (ax_fc (ax_v_ld (ax_r_aload_n (i := 0) d_Z_valueOf_157 rfl)) (ax_fc (ax_v_ld (ax_r_iload d_Z_valueOf_158)) ax_fn))))))) (y := (160, [(4, .inl (.int (v12))), (0, .inr (0, 38)), (1, .inl (.int (x1))), (5, .inl (.int (x5))), (6, .inl (.int ((s.1 0 58 (x5).toNatClampNeg))))], [.inl (.int (x5)), .inr (0, 38), .inr (0, 81), .inl (.int (v12)), .inr (0, 75)], ax_m (s) ρ)) rfl ⟨trivial, (h0 38 rfl), trivial, trivial, (h0 38 rfl), trivial, trivial, trivial⟩ ?_
              obtain ⟨r42, q43, h⟩ := ax_bd h
              refine ax_bV (rest := [.inr (0, 81), .inl (.int (v12)), .inr (0, 75)]) hB (t_Z_index h0 q43) cw_Z_309 im_Z_index se_Z_index d_Z_valueOf_160 (h0 38 rfl) rfl rfl (by decide) (by decide) rfl rfl (Nat.le_of_ble_eq_true rfl) ?_
              change ax_R G 7 0 0 (163, [(4, .inl (.int (v12))), (0, .inr (0, 38)), (1, .inl (.int (x1))), (5, .inl (.int (x5))), (6, .inl (.int ((s.1 0 58 (x5).toNatClampNeg))))], [.inl (.long (r42)), .inr (0, 81), .inl (.int (v12)), .inr (0, 75)], ax_m (s) ρ)
              obtain ⟨b44, h⟩ := ax_gd h
              obtain ⟨b45, h⟩ := ax_gd h
              refine ax_bk hK (ax_fc (ax_v_pu (ax_r_l2i d_Z_valueOf_163)) (ax_fc (ax_w_lald hal d_Z_valueOf_164) (ax_fc (ax_w_last hal d_Z_valueOf_165) ax_fn))) (y := (166, [(4, .inl (.int (v12))), (0, .inr (0, 38)), (1, .inl (.int (x1))), (5, .inl (.int (x5))), (6, .inl (.int ((s.1 0 58 (x5).toNatClampNeg))))], [], ax_m (ax_wL s 0 75 (v12).toNatClampNeg (s.2 0 81 ((r42).toInt32).toNatClampNeg)) ρ)) rfl ⟨trivial, ⟨(h0 81 rfl), ax_inp b44⟩, ⟨(h0 75 rfl), ax_inp b45⟩, trivial⟩ ?_
              refine ax_lt (Q := fun ςς => ax_R G 7 0 0 (166, [(4, .inl (.int (v12))), (0, .inr (0, 38)), (1, .inl (.int (x1))), (5, .inl (.int (x5))), (6, .inl (.int ((s.1 0 58 (x5).toNatClampNeg))))], [], ax_m (ςς) ρ)) h (fun s46 h => ?_)
              refine ax_bk hK (ax_fc (ax_v_go (tgt := 323) d_Z_valueOf_166 (by decide)) ax_fn) (y := (323, [(4, .inl (.int (v12))), (0, .inr (0, 38)), (1, .inl (.int (x1))), (5, .inl (.int (x5))), (6, .inl (.int ((s.1 0 58 (x5).toNatClampNeg))))], [], ax_m (s46) ρ)) rfl ⟨trivial, trivial⟩ ?_
              refine ax_bk hK (ax_fc (ax_v_ii (d := 1) d_Z_valueOf_323 (by decide)) (ax_fc (ax_v_ii (d := 1) d_Z_valueOf_326 (by decide)) (ax_fc (ax_v_go (tgt := 25) d_Z_valueOf_329 (by decide)) ax_fn))) (y := (25, [(5, .inl (.int ((x5 + (1 : Int32))))), (4, .inl (.int ((v12 + (1 : Int32))))), (0, .inr (0, 38)), (1, .inl (.int (x1))), (6, .inl (.int ((s.1 0 58 (x5).toNatClampNeg))))], [], ax_m (s46) ρ)) rfl ⟨trivial, trivial, trivial, trivial⟩ ?_
              exact ax_Lsub [2, 3, 1, 0] rfl (ih _ h KE)
          · replace h := ax_it c53 h
            refine ax_bk hK (ax_fc (ax_v_ld (ax_r_aload_n (i := 0) d_Z_valueOf_119 rfl)) (ax_fc (ax_w_gf (e := none) hal d_Z_valueOf_120 fd_Z_123) (ax_fc (ax_v_ld (ax_r_iload d_Z_valueOf_123)) (ax_fc (ax_v_ld (ax_r_aload_n (i := 0) d_Z_valueOf_125 rfl)) (ax_fc (ax_w_gf (e := none) hal d_Z_valueOf_126 fd_Z_136) (ax_fc (ax_v_ld (ax_r_aload_n (i := 0) d_Z_valueOf_129 rfl)) (ax_fc (ax_v_ld (ax_r_iload d_Z_valueOf_130)) ax_fn))))))) (y := (132, [(4, .inl (.int (v12))), (0, .inr (0, 38)), (1, .inl (.int (x1))), (5, .inl (.int (x5))), (6, .inl (.int ((s.1 0 58 (x5).toNatClampNeg))))], [.inl (.int (x5)), .inr (0, 38), .inr (0, 79), .inl (.int (v12)), .inr (0, 75)], ax_m (s) ρ)) rfl ⟨trivial, (h0 38 rfl), trivial, trivial, (h0 38 rfl), trivial, trivial, trivial⟩ ?_
            obtain ⟨r48, q49, h⟩ := ax_bd h
            refine ax_bV (rest := [.inr (0, 79), .inl (.int (v12)), .inr (0, 75)]) hB (t_Z_index h0 q49) cw_Z_309 im_Z_index se_Z_index d_Z_valueOf_132 (h0 38 rfl) rfl rfl (by decide) (by decide) rfl rfl (Nat.le_of_ble_eq_true rfl) ?_
            change ax_R G 7 0 0 (135, [(4, .inl (.int (v12))), (0, .inr (0, 38)), (1, .inl (.int (x1))), (5, .inl (.int (x5))), (6, .inl (.int ((s.1 0 58 (x5).toNatClampNeg))))], [.inl (.long (r48)), .inr (0, 79), .inl (.int (v12)), .inr (0, 75)], ax_m (s) ρ)
            obtain ⟨b50, h⟩ := ax_gd h
            obtain ⟨b51, h⟩ := ax_gd h
            refine ax_bk hK (ax_fc (ax_v_pu (ax_r_l2i d_Z_valueOf_135)) (ax_fc (ax_w_lald hal d_Z_valueOf_136) (ax_fc (ax_w_last hal d_Z_valueOf_137) ax_fn))) (y := (138, [(4, .inl (.int (v12))), (0, .inr (0, 38)), (1, .inl (.int (x1))), (5, .inl (.int (x5))), (6, .inl (.int ((s.1 0 58 (x5).toNatClampNeg))))], [], ax_m (ax_wL s 0 75 (v12).toNatClampNeg (s.2 0 79 ((r48).toInt32).toNatClampNeg)) ρ)) rfl ⟨trivial, ⟨(h0 79 rfl), ax_inp b50⟩, ⟨(h0 75 rfl), ax_inp b51⟩, trivial⟩ ?_
            refine ax_lt (Q := fun ςς => ax_R G 7 0 0 (138, [(4, .inl (.int (v12))), (0, .inr (0, 38)), (1, .inl (.int (x1))), (5, .inl (.int (x5))), (6, .inl (.int ((s.1 0 58 (x5).toNatClampNeg))))], [], ax_m (ςς) ρ)) h (fun s52 h => ?_)
            refine ax_bk hK (ax_fc (ax_v_go (tgt := 323) d_Z_valueOf_138 (by decide)) ax_fn) (y := (323, [(4, .inl (.int (v12))), (0, .inr (0, 38)), (1, .inl (.int (x1))), (5, .inl (.int (x5))), (6, .inl (.int ((s.1 0 58 (x5).toNatClampNeg))))], [], ax_m (s52) ρ)) rfl ⟨trivial, trivial⟩ ?_
            refine ax_bk hK (ax_fc (ax_v_ii (d := 1) d_Z_valueOf_323 (by decide)) (ax_fc (ax_v_ii (d := 1) d_Z_valueOf_326 (by decide)) (ax_fc (ax_v_go (tgt := 25) d_Z_valueOf_329 (by decide)) ax_fn))) (y := (25, [(5, .inl (.int ((x5 + (1 : Int32))))), (4, .inl (.int ((v12 + (1 : Int32))))), (0, .inr (0, 38)), (1, .inl (.int (x1))), (6, .inl (.int ((s.1 0 58 (x5).toNatClampNeg))))], [], ax_m (s52) ρ)) rfl ⟨trivial, trivial, trivial, trivial⟩ ?_
            exact ax_Lsub [2, 3, 1, 0] rfl (ih _ h KE)
        · replace h := ax_it c58 h
          obtain ⟨b54, h⟩ := ax_gd h
          obtain ⟨b55, h⟩ := ax_gd h
          obtain ⟨b56, h⟩ := ax_gd h
          refine ax_bk hK (ax_fc (ax_v_ld (ax_r_aload_n (i := 0) d_Z_valueOf_90 rfl)) (ax_fc (ax_w_gf (e := none) hal d_Z_valueOf_91 fd_Z_123) (ax_fc (ax_v_ld (ax_r_iload d_Z_valueOf_94)) (ax_fc (ax_v_ld (ax_r_aload_n (i := 0) d_Z_valueOf_96 rfl)) (ax_fc (ax_w_gf (e := none) hal d_Z_valueOf_97 fd_Z_139) (ax_fc (ax_v_ld (ax_r_aload_n (i := 0) d_Z_valueOf_100 rfl)) (ax_fc (ax_w_gf (e := none) hal d_Z_valueOf_101 fd_Z_75) (ax_fc (ax_v_ld (ax_r_iload d_Z_valueOf_104)) (ax_fc (ax_w_lald hal d_Z_valueOf_106) (ax_fc (ax_v_pu (ax_r_l2i d_Z_valueOf_107)) (ax_fc (ax_w_lald hal d_Z_valueOf_108) (ax_fc (ax_w_last hal d_Z_valueOf_109) ax_fn)))))))))))) (y := (110, [(4, .inl (.int (v12))), (0, .inr (0, 38)), (1, .inl (.int (x1))), (5, .inl (.int (x5))), (6, .inl (.int ((s.1 0 58 (x5).toNatClampNeg))))], [], ax_m (ax_wL s 0 75 (v12).toNatClampNeg (s.2 0 80 (((s.2 0 59 (x5).toNatClampNeg)).toInt32).toNatClampNeg)) ρ)) rfl ⟨trivial, (h0 38 rfl), trivial, trivial, (h0 38 rfl), trivial, (h0 38 rfl), trivial, ⟨(h0 59 rfl), ax_inp b54⟩, trivial, ⟨(h0 80 rfl), ax_inp b55⟩, ⟨(h0 75 rfl), ax_inp b56⟩, trivial⟩ ?_
          refine ax_lt (Q := fun ςς => ax_R G 7 0 0 (110, [(4, .inl (.int (v12))), (0, .inr (0, 38)), (1, .inl (.int (x1))), (5, .inl (.int (x5))), (6, .inl (.int ((s.1 0 58 (x5).toNatClampNeg))))], [], ax_m (ςς) ρ)) h (fun s57 h => ?_)
          refine ax_bk hK (ax_fc (ax_v_go (tgt := 323) d_Z_valueOf_110 (by decide)) ax_fn) (y := (323, [(4, .inl (.int (v12))), (0, .inr (0, 38)), (1, .inl (.int (x1))), (5, .inl (.int (x5))), (6, .inl (.int ((s.1 0 58 (x5).toNatClampNeg))))], [], ax_m (s57) ρ)) rfl ⟨trivial, trivial⟩ ?_
          refine ax_bk hK (ax_fc (ax_v_ii (d := 1) d_Z_valueOf_323 (by decide)) (ax_fc (ax_v_ii (d := 1) d_Z_valueOf_326 (by decide)) (ax_fc (ax_v_go (tgt := 25) d_Z_valueOf_329 (by decide)) ax_fn))) (y := (25, [(5, .inl (.int ((x5 + (1 : Int32))))), (4, .inl (.int ((v12 + (1 : Int32))))), (0, .inr (0, 38)), (1, .inl (.int (x1))), (6, .inl (.int ((s.1 0 58 (x5).toNatClampNeg))))], [], ax_m (s57) ρ)) rfl ⟨trivial, trivial, trivial, trivial⟩ ?_
          exact ax_Lsub [2, 3, 1, 0] rfl (ih _ h KE)
      clear h
      have h := hw60
      refine ax_ic_ne (tgt := 59) hK d_Z_valueOf_49 (by decide) (fun c11 => ?_) (fun c11 => ?_)
      · replace h := ax_if c11 h
        refine ax_bk hK (ax_fc (ax_v_ld (ax_r_iload d_Z_valueOf_59)) (ax_fc (ax_v_pu (ax_r_bipush (v := 6) d_Z_valueOf_61 (by decide))) ax_fn)) (y := (63, [(6, .inl (.int ((s.1 0 58 (x5).toNatClampNeg)))), (0, .inr (0, 38)), (1, .inl (.int (x1))), (4, .inl (.int (x4))), (5, .inl (.int (x5)))], [.inl (.int ((6 : Int32))), .inl (.int ((s.1 0 58 (x5).toNatClampNeg)))], ax_m (s) ρ)) rfl ⟨trivial, trivial, trivial⟩ ?_
        obtain ⟨w10, hw10, h⟩ := ax_bd h
        have KTw10 : w10 = true → ax_R G 7 0 0 (73, [(0, .inr (0, 38)), (1, .inl (.int (x1))), (4, .inl (.int (x4))), (5, .inl (.int (x5))), (6, .inl (.int ((s.1 0 58 (x5).toNatClampNeg))))], [], ax_m (s) ρ) := by
          intro e9
          subst w10
          replace h := ax_ct h
          refine ax_bk hK (ax_fc (ax_v_ld (ax_r_iload d_Z_valueOf_73)) (ax_fc (ax_v_pu (ax_r_iconst (v := 1) d_Z_valueOf_75 (by decide))) (ax_fc (ax_v_pu (ax_r_isub d_Z_valueOf_76)) (ax_fc (ax_v_go (tgt := 82) d_Z_valueOf_77 (by decide)) ax_fn)))) (y := (82, [(0, .inr (0, 38)), (1, .inl (.int (x1))), (4, .inl (.int (x4))), (5, .inl (.int (x5))), (6, .inl (.int ((s.1 0 58 (x5).toNatClampNeg))))], [.inl (.int ((x4 - (1 : Int32))))], ax_m (s) ρ)) rfl ⟨trivial, trivial, trivial, trivial, trivial⟩ ?_
          cases h
          exact ax_Lsub [0, 1, 3, 4] rfl (KEw60 _ rfl)
        have KFw10 : w10 = false → ax_R G 7 0 0 (80, [(0, .inr (0, 38)), (1, .inl (.int (x1))), (4, .inl (.int (x4))), (5, .inl (.int (x5))), (6, .inl (.int ((s.1 0 58 (x5).toNatClampNeg))))], [], ax_m (s) ρ) := by
          intro e9
          subst w10
          replace h := ax_cf h
          refine ax_bk hK (ax_fc (ax_v_ld (ax_r_iload d_Z_valueOf_80)) ax_fn) (y := (82, [(0, .inr (0, 38)), (1, .inl (.int (x1))), (4, .inl (.int (x4))), (5, .inl (.int (x5))), (6, .inl (.int ((s.1 0 58 (x5).toNatClampNeg))))], [.inl (.int (x4))], ax_m (s) ρ)) rfl ⟨trivial, trivial⟩ ?_
          cases h
          exact ax_Lsub [0, 1, 3, 4] rfl (KEw60 _ rfl)
        clear h
        have h := hw10
        refine ax_ic_eq (tgt := 73) hK d_Z_valueOf_63 (by decide) (fun c9 => ?_) (fun c9 => ?_)
        · replace h := ax_it c9 h
          cases h
          exact ax_Lsub [1, 2, 3, 4, 0] rfl (KTw10 rfl)
        · replace h := ax_if c9 h
          refine ax_bk hK (ax_fc (ax_v_ld (ax_r_iload d_Z_valueOf_66)) (ax_fc (ax_v_pu (ax_r_bipush (v := 7) d_Z_valueOf_68 (by decide))) ax_fn)) (y := (70, [(6, .inl (.int ((s.1 0 58 (x5).toNatClampNeg)))), (0, .inr (0, 38)), (1, .inl (.int (x1))), (4, .inl (.int (x4))), (5, .inl (.int (x5)))], [.inl (.int ((7 : Int32))), .inl (.int ((s.1 0 58 (x5).toNatClampNeg)))], ax_m (s) ρ)) rfl ⟨trivial, trivial, trivial⟩ ?_
          refine ax_ic_ne (tgt := 80) hK d_Z_valueOf_70 (by decide) (fun c8 => ?_) (fun c8 => ?_)
          · replace h := ax_if c8 h
            cases h
            exact ax_Lsub [1, 2, 3, 4, 0] rfl (KFw10 rfl)
          · replace h := ax_it c8 h
            cases h
            exact ax_Lsub [1, 2, 3, 4, 0] rfl (KTw10 rfl)
      · replace h := ax_it c11 h
        refine ax_bk hK (ax_fc (ax_v_ld (ax_r_iload d_Z_valueOf_52)) (ax_fc (ax_v_pu (ax_r_iconst (v := 2) d_Z_valueOf_54 (by decide))) (ax_fc (ax_v_pu (ax_r_isub d_Z_valueOf_55)) (ax_fc (ax_v_go (tgt := 82) d_Z_valueOf_56 (by decide)) ax_fn)))) (y := (82, [(6, .inl (.int ((s.1 0 58 (x5).toNatClampNeg)))), (0, .inr (0, 38)), (1, .inl (.int (x1))), (4, .inl (.int (x4))), (5, .inl (.int (x5)))], [.inl (.int ((x4 - (2 : Int32))))], ax_m (s) ρ)) rfl ⟨trivial, trivial, trivial, trivial, trivial⟩ ?_
        cases h
        exact ax_Lsub [1, 2, 4, 0] rfl (KEw60 _ rfl)
def f_Z_valueOf (F : Nat) (a1 : Int32) (a2 : Int32) (a3 : Int32) (s : ax_σ) : Option (Int64 × ax_σ) :=
  bif ax_in (0 : Int32) 2 then
  ax_let (ax_wI s 0 74 ((0 : Int32)).toNatClampNeg a2) (fun s2 =>
    bif ax_in (1 : Int32) 2 then
    ax_let (ax_wI s2 0 74 ((1 : Int32)).toNatClampNeg a3) (fun s4 =>
      bif ax_in a1 240 then
      Option.bind (lp_Z_valueOf_25 F a1 F (0 : Int32) (s4.1 0 54 (a1).toNatClampNeg) s4) (fun s60 =>
        bif ax_in (0 : Int32) 16 then
        some (((s60.2 0 75 ((0 : Int32)).toNatClampNeg), s60))
        else none)
      else none)
    else none)
  else none
set_option maxHeartbeats 4000000 in
set_option maxRecDepth 100000 in
theorem t_Z_valueOf {l : Launch} {D : va_G} {cA : Nat → ClassId} {ad : Nat → Nat → Nat} {al : List (Nat × Nat)} {θ : ax_Θ} {ρ : ax_ρ} {F : Nat} (h0 : ax_M0 al) {a1 : Int32} {a2 : Int32} {a3 : Int32} {s : ax_σ} {r0 : Int64} {s0 : ax_σ} (h : f_Z_valueOf F a1 a2 a3 s = some (r0, s0)) : ax_T l D cA ad al θ y_Z_valueOf (.code y_Z_valueOf prog_8_method_50_code 7 (some .long)) 3 [.inr (0, 38), .inl (.int (a1)), .inl (.int (a2)), .inl (.int (a3))] (ax_m s ρ) (some (.inl (.long r0))) (ax_m s0 ρ) := by
  refine ax_T_of (own := "CipherNotationModel") (by decide) rfl (Nat.le_of_ble_eq_true rfl) [(0, .inr (0, 38)), (1, .inl (.int (a1))), (2, .inl (.int (a2))), (3, .inl (.int (a3)))] rfl ?_
  intro G hA
  have hB := hA.B
  have hK := hB.K
  have hal := hB.la
  unfold f_Z_valueOf at h
  obtain ⟨b1, h⟩ := ax_gd h
  refine ax_bk hK (ax_fc (ax_v_ld (ax_r_aload_n (i := 0) d_Z_valueOf_0 rfl)) (ax_fc (ax_w_gf (e := none) hal d_Z_valueOf_1 fd_Z_120) (ax_fc (ax_v_pu (ax_r_iconst (v := 0) d_Z_valueOf_4 (by decide))) (ax_fc (ax_v_ld (ax_r_iload_n (i := 2) d_Z_valueOf_5 rfl)) (ax_fc (ax_w_iast hal d_Z_valueOf_6) ax_fn))))) (y := (7, [(0, .inr (0, 38)), (1, .inl (.int (a1))), (2, .inl (.int (a2))), (3, .inl (.int (a3)))], [], ax_m (ax_wI s 0 74 ((0 : Int32)).toNatClampNeg a2) ρ)) rfl ⟨trivial, (h0 38 rfl), trivial, trivial, ⟨(h0 74 rfl), ax_inp b1⟩, trivial⟩ ?_
  refine ax_lt (Q := fun ςς => ax_R G 7 0 0 (7, [(0, .inr (0, 38)), (1, .inl (.int (a1))), (2, .inl (.int (a2))), (3, .inl (.int (a3)))], [], ax_m (ςς) ρ)) h (fun s2 h => ?_)
  obtain ⟨b3, h⟩ := ax_gd h
  refine ax_bk hK (ax_fc (ax_v_ld (ax_r_aload_n (i := 0) d_Z_valueOf_7 rfl)) (ax_fc (ax_w_gf (e := none) hal d_Z_valueOf_8 fd_Z_120) (ax_fc (ax_v_pu (ax_r_iconst (v := 1) d_Z_valueOf_11 (by decide))) (ax_fc (ax_v_ld (ax_r_iload_n (i := 3) d_Z_valueOf_12 rfl)) (ax_fc (ax_w_iast hal d_Z_valueOf_13) ax_fn))))) (y := (14, [(0, .inr (0, 38)), (1, .inl (.int (a1))), (2, .inl (.int (a2))), (3, .inl (.int (a3)))], [], ax_m (ax_wI s2 0 74 ((1 : Int32)).toNatClampNeg a3) ρ)) rfl ⟨trivial, (h0 38 rfl), trivial, trivial, ⟨(h0 74 rfl), ax_inp b3⟩, trivial⟩ ?_
  refine ax_lt (Q := fun ςς => ax_R G 7 0 0 (14, [(0, .inr (0, 38)), (1, .inl (.int (a1))), (2, .inl (.int (a2))), (3, .inl (.int (a3)))], [], ax_m (ςς) ρ)) h (fun s4 h => ?_)
  obtain ⟨b5, h⟩ := ax_gd h
  refine ax_bk hK (ax_fc (ax_v_pu (ax_r_iconst (v := 0) d_Z_valueOf_14 (by decide))) (ax_fc (ax_v_so (ax_r_istore d_Z_valueOf_15)) (ax_fc (ax_v_ld (ax_r_aload_n (i := 0) d_Z_valueOf_17 rfl)) (ax_fc (ax_w_gf (e := none) hal d_Z_valueOf_18 fd_Z_60) (ax_fc (ax_v_ld (ax_r_iload_n (i := 1) d_Z_valueOf_21 rfl)) (ax_fc (ax_w_iald hal d_Z_valueOf_22) (ax_fc (ax_v_so (ax_r_istore d_Z_valueOf_23)) ax_fn))))))) (y := (25, [(5, .inl (.int ((s4.1 0 54 (a1).toNatClampNeg)))), (4, .inl (.int ((0 : Int32)))), (0, .inr (0, 38)), (1, .inl (.int (a1))), (2, .inl (.int (a2))), (3, .inl (.int (a3)))], [], ax_m (s4) ρ)) rfl ⟨trivial, trivial, trivial, (h0 38 rfl), trivial, ⟨(h0 54 rfl), ax_inp b5⟩, trivial, trivial⟩ ?_
  obtain ⟨w62, hw62, h⟩ := ax_bd h
  refine ax_Lsub [2, 3, 1, 0] rfl (pl_Z_valueOf_25 h0 hB F _ hw62 ?_)
  intro s60 e9
  subst w62
  try dsimp only at h
  change ax_R G 7 0 0 (332, [(0, .inr (0, 38))], [], ax_m (s60) ρ)
  obtain ⟨b61, h⟩ := ax_gd h
  refine ax_bk hK (ax_fc (ax_v_ld (ax_r_aload_n (i := 0) d_Z_valueOf_332 rfl)) (ax_fc (ax_w_gf (e := none) hal d_Z_valueOf_333 fd_Z_123) (ax_fc (ax_v_pu (ax_r_iconst (v := 0) d_Z_valueOf_336 (by decide))) (ax_fc (ax_w_lald hal d_Z_valueOf_337) ax_fn)))) (y := (338, [(0, .inr (0, 38))], [.inl (.long ((s60.2 0 75 ((0 : Int32)).toNatClampNeg)))], ax_m (s60) ρ)) rfl ⟨trivial, (h0 38 rfl), trivial, ⟨(h0 75 rfl), ax_inp b61⟩, trivial⟩ ?_
  cases h
  exact ax_lret hA d_Z_valueOf_338
def y_Z_makeSubkeys : MethodName := ⟨"CipherNotationModel", "makeSubkeys", "()V"⟩
theorem d_Z_makeSubkeys_0 : decode prog_8_method_51_code 0 = .ok (.iconst 0, 1) := by decide +kernel
theorem d_Z_makeSubkeys_1 : decode prog_8_method_51_code 1 = .ok (.istore_n 1, 1) := by decide +kernel
theorem d_Z_makeSubkeys_2 : decode prog_8_method_51_code 2 = .ok (.iload_n 1, 1) := by decide +kernel
theorem d_Z_makeSubkeys_3 : decode prog_8_method_51_code 3 = .ok (.aload_n 0, 1) := by decide +kernel
theorem d_Z_makeSubkeys_4 : decode prog_8_method_51_code 4 = .ok (.getfield (359), 3) := by decide +kernel
theorem d_Z_makeSubkeys_7 : decode prog_8_method_51_code 7 = .ok (.if_icmp .ge (37), 3) := by decide +kernel
theorem d_Z_makeSubkeys_10 : decode prog_8_method_51_code 10 = .ok (.aload_n 0, 1) := by decide +kernel
theorem d_Z_makeSubkeys_11 : decode prog_8_method_51_code 11 = .ok (.getfield (142), 3) := by decide +kernel
theorem d_Z_makeSubkeys_14 : decode prog_8_method_51_code 14 = .ok (.iload_n 1, 1) := by decide +kernel
theorem d_Z_makeSubkeys_15 : decode prog_8_method_51_code 15 = .ok (.aload_n 0, 1) := by decide +kernel
theorem d_Z_makeSubkeys_16 : decode prog_8_method_51_code 16 = .ok (.aload_n 0, 1) := by decide +kernel
theorem d_Z_makeSubkeys_17 : decode prog_8_method_51_code 17 = .ok (.getfield (102), 3) := by decide +kernel
theorem d_Z_makeSubkeys_20 : decode prog_8_method_51_code 20 = .ok (.iload_n 1, 1) := by decide +kernel
theorem d_Z_makeSubkeys_21 : decode prog_8_method_51_code 21 = .ok (.iaload, 1) := by decide +kernel
theorem d_Z_makeSubkeys_22 : decode prog_8_method_51_code 22 = .ok (.aload_n 0, 1) := by decide +kernel
theorem d_Z_makeSubkeys_23 : decode prog_8_method_51_code 23 = .ok (.getfield (105), 3) := by decide +kernel
theorem d_Z_makeSubkeys_26 : decode prog_8_method_51_code 26 = .ok (.iload_n 1, 1) := by decide +kernel
theorem d_Z_makeSubkeys_27 : decode prog_8_method_51_code 27 = .ok (.iaload, 1) := by decide +kernel
theorem d_Z_makeSubkeys_28 : decode prog_8_method_51_code 28 = .ok (.aload_n 0, 1) := by decide +kernel
theorem d_Z_makeSubkeys_29 : decode prog_8_method_51_code 29 = .ok (.getfield (108), 3) := by decide +kernel
theorem d_Z_makeSubkeys_32 : decode prog_8_method_51_code 32 = .ok (.iload_n 1, 1) := by decide +kernel
theorem d_Z_makeSubkeys_33 : decode prog_8_method_51_code 33 = .ok (.iaload, 1) := by decide +kernel
theorem d_Z_makeSubkeys_34 : decode prog_8_method_51_code 34 = .ok (.invokevirtual (419), 3) := by decide +kernel
theorem d_Z_makeSubkeys_37 : decode prog_8_method_51_code 37 = .ok (.lastore, 1) := by decide +kernel
theorem d_Z_makeSubkeys_38 : decode prog_8_method_51_code 38 = .ok (.iinc 1 (1), 3) := by decide +kernel
theorem d_Z_makeSubkeys_41 : decode prog_8_method_51_code 41 = .ok (.goto (-39), 3) := by decide +kernel
theorem d_Z_makeSubkeys_44 : decode prog_8_method_51_code 44 = .ok (.return_, 1) := by decide +kernel
set_option maxRecDepth 100000 in
theorem cw_Z_419 : ax_cw "CipherNotationModel" 419 y_Z_valueOf (.code y_Z_valueOf prog_8_method_50_code 7 (some .long)) 3 := ⟨nw_6 110 (by decide +kernel) rfl, nw_1 7 (by decide +kernel) rfl, nw_6 113 rfl rfl, by decide +kernel, by decide +kernel⟩
theorem im_Z_valueOf : Cond.instanceMethod y_Z_valueOf ∈ ax_tbl := nw_6 112 (by decide +kernel) rfl
theorem se_Z_valueOf : Cond.selects y_Z_valueOf.cls y_Z_valueOf y_Z_valueOf ∈ ax_tbl := nw_sel 83 (by decide +kernel) (by decide +kernel)
def lp_Z_makeSubkeys_2 (F : Nat) : Nat → Int32 → ax_σ → Option (ax_σ)
  | 0, _, _ => none
  | n + 1, x1, s =>
    if (s.1 0 38 55) ≤ x1 then
      some s
    else
      bif ax_in x1 32 then
      bif ax_in x1 32 then
      bif ax_in x1 32 then
      Option.bind (f_Z_valueOf F (s.1 0 68 (x1).toNatClampNeg) (s.1 0 69 (x1).toNatClampNeg) (s.1 0 70 (x1).toNatClampNeg) s) (fun (r4, s5) =>
        bif ax_in x1 32 then
        ax_let (ax_wL s5 0 81 (x1).toNatClampNeg r4) (fun s8 =>
          lp_Z_makeSubkeys_2 F n (x1 + (1 : Int32)) s8)
        else none)
      else none
      else none
      else none
set_option maxHeartbeats 4000000 in
set_option maxRecDepth 100000 in
theorem pl_Z_makeSubkeys_2 {D : va_G} {cA : Nat → ClassId} {ad : Nat → Nat → Nat} {al : List (Nat × Nat)} {θ : ax_Θ} {l : Launch} {ρ : ax_ρ} {G : ax_G} {F : Nat}  (h0 : ax_M0 al) (hB : ax_B D cA ad al θ l "CipherNotationModel" prog_8_method_51_code 2 4 G) : ∀ (n : Nat) {x1 : Int32} {s : ax_σ} (out : ax_σ), lp_Z_makeSubkeys_2 F n x1 s = some out → (∀ (es : ax_σ), out = es → ax_R G 2 0 0 (44, [], [], ax_m (es) ρ)) → ax_R G 2 0 0 (2, [(0, .inr (0, 38)), (1, .inl (.int (x1)))], [], ax_m (s) ρ) := by
  have hK := hB.K
  have hal := hB.la
  intro n
  induction n with
  | zero =>
    intro x1 s out h
    cases h
  | succ n ih =>
    intro x1 s out h KE
    rw [lp_Z_makeSubkeys_2] at h
    refine ax_bk hK (ax_fc (ax_v_ld (ax_r_iload_n (i := 1) d_Z_makeSubkeys_2 rfl)) (ax_fc (ax_v_ld (ax_r_aload_n (i := 0) d_Z_makeSubkeys_3 rfl)) (ax_fc (ax_w_gf (e := none) hal d_Z_makeSubkeys_4 fd_Z_359) ax_fn))) (y := (7, [(0, .inr (0, 38)), (1, .inl (.int (x1)))], [.inl (.int ((s.1 0 38 55))), .inl (.int (x1))], ax_m (s) ρ)) rfl ⟨trivial, trivial, (h0 38 rfl), trivial⟩ ?_
    refine ax_ic_ge (tgt := 44) hK d_Z_makeSubkeys_7 (by decide) (fun c9 => ?_) (fun c9 => ?_)
    · replace h := ax_it c9 h
      cases h
      exact ax_Lsub [] rfl (KE _ rfl)
    · replace h := ax_if c9 h
      obtain ⟨b1, h⟩ := ax_gd h
      obtain ⟨b2, h⟩ := ax_gd h
      obtain ⟨b3, h⟩ := ax_gd h
      refine ax_bk hK (ax_fc (ax_v_ld (ax_r_aload_n (i := 0) d_Z_makeSubkeys_10 rfl)) (ax_fc (ax_w_gf (e := none) hal d_Z_makeSubkeys_11 fd_Z_142) (ax_fc (ax_v_ld (ax_r_iload_n (i := 1) d_Z_makeSubkeys_14 rfl)) (ax_fc (ax_v_ld (ax_r_aload_n (i := 0) d_Z_makeSubkeys_15 rfl)) (ax_fc (ax_v_ld (ax_r_aload_n (i := 0) d_Z_makeSubkeys_16 rfl)) (ax_fc (ax_w_gf (e := none) hal d_Z_makeSubkeys_17 fd_Z_102) (ax_fc (ax_v_ld (ax_r_iload_n (i := 1) d_Z_makeSubkeys_20 rfl)) (ax_fc (ax_w_iald hal d_Z_makeSubkeys_21) (ax_fc (ax_v_ld (ax_r_aload_n (i := 0) d_Z_makeSubkeys_22 rfl)) (ax_fc (ax_w_gf (e := none) hal d_Z_makeSubkeys_23 fd_Z_105) (ax_fc (ax_v_ld (ax_r_iload_n (i := 1) d_Z_makeSubkeys_26 rfl)) (ax_fc (ax_w_iald hal d_Z_makeSubkeys_27) (ax_fc (ax_v_ld (ax_r_aload_n (i := 0) d_Z_makeSubkeys_28 rfl)) (ax_fc (ax_w_gf (e := none) hal d_Z_makeSubkeys_29 fd_Z_108) (ax_fc (ax_v_ld (ax_r_iload_n (i := 1) d_Z_makeSubkeys_32 rfl)) (ax_fc (ax_w_iald hal d_Z_makeSubkeys_33) ax_fn)))))))))))))))) (y := (34, [(0, .inr (0, 38)), (1, .inl (.int (x1)))], [.inl (.int ((s.1 0 70 (x1).toNatClampNeg))), .inl (.int ((s.1 0 69 (x1).toNatClampNeg))), .inl (.int ((s.1 0 68 (x1).toNatClampNeg))), .inr (0, 38), .inl (.int (x1)), .inr (0, 81)], ax_m (s) ρ)) rfl ⟨trivial, (h0 38 rfl), trivial, trivial, trivial, (h0 38 rfl), trivial, ⟨(h0 68 rfl), ax_inp b1⟩, trivial, (h0 38 rfl), trivial, ⟨(h0 69 rfl), ax_inp b2⟩, trivial, (h0 38 rfl), trivial, ⟨(h0 70 rfl), ax_inp b3⟩, trivial⟩ ?_
      obtain ⟨⟨r4, s5⟩, q6, h⟩ := ax_bd h
      dsimp only at h
      refine ax_bV (rest := [.inl (.int (x1)), .inr (0, 81)]) hB (t_Z_valueOf h0 q6) cw_Z_419 im_Z_valueOf se_Z_valueOf d_Z_makeSubkeys_34 (h0 38 rfl) rfl rfl (by decide) (by decide) rfl rfl (Nat.le_of_ble_eq_true rfl) ?_
      change ax_R G 2 0 0 (37, [(0, .inr (0, 38)), (1, .inl (.int (x1)))], [.inl (.long (r4)), .inl (.int (x1)), .inr (0, 81)], ax_m (s5) ρ)
      obtain ⟨b7, h⟩ := ax_gd h
      refine ax_bk hK (ax_fc (ax_w_last hal d_Z_makeSubkeys_37) ax_fn) (y := (38, [(0, .inr (0, 38)), (1, .inl (.int (x1)))], [], ax_m (ax_wL s5 0 81 (x1).toNatClampNeg r4) ρ)) rfl ⟨⟨(h0 81 rfl), ax_inp b7⟩, trivial⟩ ?_
      refine ax_lt (Q := fun ςς => ax_R G 2 0 0 (38, [(0, .inr (0, 38)), (1, .inl (.int (x1)))], [], ax_m (ςς) ρ)) h (fun s8 h => ?_)
      refine ax_bk hK (ax_fc (ax_v_ii (d := 1) d_Z_makeSubkeys_38 (by decide)) (ax_fc (ax_v_go (tgt := 2) d_Z_makeSubkeys_41 (by decide)) ax_fn)) (y := (2, [(1, .inl (.int ((x1 + (1 : Int32))))), (0, .inr (0, 38))], [], ax_m (s8) ρ)) rfl ⟨trivial, trivial, trivial⟩ ?_
      exact ax_Lsub [1, 0] rfl (ih _ h KE)
def f_Z_makeSubkeys (F : Nat) (s : ax_σ) : Option (ax_σ) :=
  Option.bind (lp_Z_makeSubkeys_2 F F (0 : Int32) s) (fun s10 =>
    some (s10))
set_option maxHeartbeats 4000000 in
set_option maxRecDepth 100000 in
theorem t_Z_makeSubkeys {l : Launch} {D : va_G} {cA : Nat → ClassId} {ad : Nat → Nat → Nat} {al : List (Nat × Nat)} {θ : ax_Θ} {ρ : ax_ρ} {F : Nat} (h0 : ax_M0 al)  {s : ax_σ} {s0 : ax_σ} (h : f_Z_makeSubkeys F s = some s0) : ax_T l D cA ad al θ y_Z_makeSubkeys (.code y_Z_makeSubkeys prog_8_method_51_code 2 none) 4 [.inr (0, 38)] (ax_m s ρ) none (ax_m s0 ρ) := by
  refine ax_T_of (own := "CipherNotationModel") (by decide) rfl (Nat.le_of_ble_eq_true rfl) [(0, .inr (0, 38))] rfl ?_
  intro G hA
  have hB := hA.B
  have hK := hB.K
  have hal := hB.la
  unfold f_Z_makeSubkeys at h
  refine ax_bk hK (ax_fc (ax_v_pu (ax_r_iconst (v := 0) d_Z_makeSubkeys_0 (by decide))) (ax_fc (ax_v_so (ax_r_istore_n (i := 1) d_Z_makeSubkeys_1 rfl)) ax_fn)) (y := (2, [(1, .inl (.int ((0 : Int32)))), (0, .inr (0, 38))], [], ax_m (s) ρ)) rfl ⟨trivial, trivial, trivial⟩ ?_
  obtain ⟨w11, hw11, h⟩ := ax_bd h
  refine ax_Lsub [1, 0] rfl (pl_Z_makeSubkeys_2 h0 hB F _ hw11 ?_)
  intro s10 e9
  subst w11
  try dsimp only at h
  change ax_R G 2 0 0 (44, [], [], ax_m (s10) ρ)
  cases h
  exact ax_vret hA d_Z_makeSubkeys_44
def y_Z_spread : MethodName := ⟨"CipherNotationModel", "spread", "(IJ)J"⟩
theorem d_Z_spread_0 : decode prog_8_method_52_code 0 = .ok (.lconst 0, 1) := by decide +kernel
theorem d_Z_spread_1 : decode prog_8_method_52_code 1 = .ok (.lstore (4), 2) := by decide +kernel
theorem d_Z_spread_3 : decode prog_8_method_52_code 3 = .ok (.aload_n 0, 1) := by decide +kernel
theorem d_Z_spread_4 : decode prog_8_method_52_code 4 = .ok (.getfield (60), 3) := by decide +kernel
theorem d_Z_spread_7 : decode prog_8_method_52_code 7 = .ok (.iload_n 1, 1) := by decide +kernel
theorem d_Z_spread_8 : decode prog_8_method_52_code 8 = .ok (.iaload, 1) := by decide +kernel
theorem d_Z_spread_9 : decode prog_8_method_52_code 9 = .ok (.istore (6), 2) := by decide +kernel
theorem d_Z_spread_11 : decode prog_8_method_52_code 11 = .ok (.iload (6), 2) := by decide +kernel
theorem d_Z_spread_13 : decode prog_8_method_52_code 13 = .ok (.aload_n 0, 1) := by decide +kernel
theorem d_Z_spread_14 : decode prog_8_method_52_code 14 = .ok (.getfield (63), 3) := by decide +kernel
theorem d_Z_spread_17 : decode prog_8_method_52_code 17 = .ok (.iload_n 1, 1) := by decide +kernel
theorem d_Z_spread_18 : decode prog_8_method_52_code 18 = .ok (.iaload, 1) := by decide +kernel
theorem d_Z_spread_19 : decode prog_8_method_52_code 19 = .ok (.if_icmp .ge (26), 3) := by decide +kernel
theorem d_Z_spread_22 : decode prog_8_method_52_code 22 = .ok (.lload (4), 2) := by decide +kernel
theorem d_Z_spread_24 : decode prog_8_method_52_code 24 = .ok (.aload_n 0, 1) := by decide +kernel
theorem d_Z_spread_25 : decode prog_8_method_52_code 25 = .ok (.lload_n 2, 1) := by decide +kernel
theorem d_Z_spread_26 : decode prog_8_method_52_code 26 = .ok (.aload_n 0, 1) := by decide +kernel
theorem d_Z_spread_27 : decode prog_8_method_52_code 27 = .ok (.getfield (66), 3) := by decide +kernel
theorem d_Z_spread_30 : decode prog_8_method_52_code 30 = .ok (.iload (6), 2) := by decide +kernel
theorem d_Z_spread_32 : decode prog_8_method_52_code 32 = .ok (.laload, 1) := by decide +kernel
theorem d_Z_spread_33 : decode prog_8_method_52_code 33 = .ok (.invokevirtual (411), 3) := by decide +kernel
theorem d_Z_spread_36 : decode prog_8_method_52_code 36 = .ok (.lxor, 1) := by decide +kernel
theorem d_Z_spread_37 : decode prog_8_method_52_code 37 = .ok (.lstore (4), 2) := by decide +kernel
theorem d_Z_spread_39 : decode prog_8_method_52_code 39 = .ok (.iinc 6 (1), 3) := by decide +kernel
theorem d_Z_spread_42 : decode prog_8_method_52_code 42 = .ok (.goto (-31), 3) := by decide +kernel
theorem d_Z_spread_45 : decode prog_8_method_52_code 45 = .ok (.lload (4), 2) := by decide +kernel
theorem d_Z_spread_47 : decode prog_8_method_52_code 47 = .ok (.lreturn, 1) := by decide +kernel
def lp_Z_spread_11 (F : Nat) (x1 : Int32) (x2 : Int64) (s : ax_σ) : Nat → Int64 → Int32 → Option (Int64)
  | 0, _, _ => none
  | n + 1, x4, x6 =>
    bif ax_in x1 240 then
    if (s.1 0 55 (x1).toNatClampNeg) ≤ x6 then
      some x4
    else
      bif ax_in x6 240 then
      Option.bind (f_Z_turned x2 (s.2 0 56 (x6).toNatClampNeg) s) (fun r4 =>
        lp_Z_spread_11 F x1 x2 s n (x4 ^^^ r4) (x6 + (1 : Int32)))
      else none
    else none
set_option maxHeartbeats 4000000 in
set_option maxRecDepth 100000 in
theorem pl_Z_spread_11 {D : va_G} {cA : Nat → ClassId} {ad : Nat → Nat → Nat} {al : List (Nat × Nat)} {θ : ax_Θ} {l : Launch} {ρ : ax_ρ} {G : ax_G} {F : Nat} {x1 : Int32} {x2 : Int64} {s : ax_σ} (h0 : ax_M0 al) (hB : ax_B D cA ad al θ l "CipherNotationModel" prog_8_method_52_code 7 3 G) : ∀ (n : Nat) {x4 : Int64} {x6 : Int32} (out : Int64), lp_Z_spread_11 F x1 x2 s n x4 x6 = some out → (∀ (e4 : Int64), out = e4 → ax_R G 7 0 0 (45, [(4, .inl (.long (e4)))], [], ax_m (s) ρ)) → ax_R G 7 0 0 (11, [(0, .inr (0, 38)), (1, .inl (.int (x1))), (2, .inl (.long (x2))), (4, .inl (.long (x4))), (6, .inl (.int (x6)))], [], ax_m (s) ρ) := by
  have hK := hB.K
  have hal := hB.la
  intro n
  induction n with
  | zero =>
    intro x4 x6 out h
    cases h
  | succ n ih =>
    intro x4 x6 out h KE
    rw [lp_Z_spread_11] at h
    obtain ⟨b2, h⟩ := ax_gd h
    refine ax_bk hK (ax_fc (ax_v_ld (ax_r_iload d_Z_spread_11)) (ax_fc (ax_v_ld (ax_r_aload_n (i := 0) d_Z_spread_13 rfl)) (ax_fc (ax_w_gf (e := none) hal d_Z_spread_14 fd_Z_63) (ax_fc (ax_v_ld (ax_r_iload_n (i := 1) d_Z_spread_17 rfl)) (ax_fc (ax_w_iald hal d_Z_spread_18) ax_fn))))) (y := (19, [(0, .inr (0, 38)), (1, .inl (.int (x1))), (2, .inl (.long (x2))), (4, .inl (.long (x4))), (6, .inl (.int (x6)))], [.inl (.int ((s.1 0 55 (x1).toNatClampNeg))), .inl (.int (x6))], ax_m (s) ρ)) rfl ⟨trivial, trivial, (h0 38 rfl), trivial, ⟨(h0 55 rfl), ax_inp b2⟩, trivial⟩ ?_
    refine ax_ic_ge (tgt := 45) hK d_Z_spread_19 (by decide) (fun c6 => ?_) (fun c6 => ?_)
    · replace h := ax_it c6 h
      cases h
      exact ax_Lsub [3] rfl (KE _ rfl)
    · replace h := ax_if c6 h
      obtain ⟨b3, h⟩ := ax_gd h
      refine ax_bk hK (ax_fc (ax_v_ld (ax_r_lload d_Z_spread_22)) (ax_fc (ax_v_ld (ax_r_aload_n (i := 0) d_Z_spread_24 rfl)) (ax_fc (ax_v_ld (ax_r_lload_n (i := 2) d_Z_spread_25 rfl)) (ax_fc (ax_v_ld (ax_r_aload_n (i := 0) d_Z_spread_26 rfl)) (ax_fc (ax_w_gf (e := none) hal d_Z_spread_27 fd_Z_66) (ax_fc (ax_v_ld (ax_r_iload d_Z_spread_30)) (ax_fc (ax_w_lald hal d_Z_spread_32) ax_fn))))))) (y := (33, [(0, .inr (0, 38)), (1, .inl (.int (x1))), (2, .inl (.long (x2))), (4, .inl (.long (x4))), (6, .inl (.int (x6)))], [.inl (.long ((s.2 0 56 (x6).toNatClampNeg))), .inl (.long (x2)), .inr (0, 38), .inl (.long (x4))], ax_m (s) ρ)) rfl ⟨trivial, trivial, trivial, trivial, (h0 38 rfl), trivial, ⟨(h0 56 rfl), ax_inp b3⟩, trivial⟩ ?_
      obtain ⟨r4, q5, h⟩ := ax_bd h
      refine ax_bV (rest := [.inl (.long (x4))]) hB (t_Z_turned h0 q5) cw_Z_411 im_Z_turned se_Z_turned d_Z_spread_33 (h0 38 rfl) rfl rfl (by decide) (by decide) rfl rfl (Nat.le_of_ble_eq_true rfl) ?_
      change ax_R G 7 0 0 (36, [(0, .inr (0, 38)), (1, .inl (.int (x1))), (2, .inl (.long (x2))), (4, .inl (.long (x4))), (6, .inl (.int (x6)))], [.inl (.long (r4)), .inl (.long (x4))], ax_m (s) ρ)
      refine ax_bk hK (ax_fc (ax_v_pu (ax_r_lxor d_Z_spread_36)) (ax_fc (ax_v_so (ax_r_lstore d_Z_spread_37)) (ax_fc (ax_v_ii (d := 1) d_Z_spread_39 (by decide)) (ax_fc (ax_v_go (tgt := 11) d_Z_spread_42 (by decide)) ax_fn)))) (y := (11, [(6, .inl (.int ((x6 + (1 : Int32))))), (4, .inl (.long ((x4 ^^^ r4)))), (0, .inr (0, 38)), (1, .inl (.int (x1))), (2, .inl (.long (x2)))], [], ax_m (s) ρ)) rfl ⟨trivial, trivial, trivial, trivial, trivial⟩ ?_
      exact ax_Lsub [2, 3, 4, 1, 0] rfl (ih _ h KE)
def f_Z_spread (F : Nat) (a1 : Int32) (a2 : Int64) (s : ax_σ) : Option (Int64) :=
  bif ax_in a1 240 then
  Option.bind (lp_Z_spread_11 F a1 a2 s F (0 : Int64) (s.1 0 54 (a1).toNatClampNeg)) (fun v7 =>
    some (v7))
  else none
set_option maxHeartbeats 4000000 in
set_option maxRecDepth 100000 in
theorem t_Z_spread {l : Launch} {D : va_G} {cA : Nat → ClassId} {ad : Nat → Nat → Nat} {al : List (Nat × Nat)} {θ : ax_Θ} {ρ : ax_ρ} {F : Nat} (h0 : ax_M0 al) {a1 : Int32} {a2 : Int64} {s : ax_σ} {r0 : Int64} (h : f_Z_spread F a1 a2 s = some r0) : ax_T l D cA ad al θ y_Z_spread (.code y_Z_spread prog_8_method_52_code 7 (some .long)) 3 [.inr (0, 38), .inl (.int (a1)), .inl (.long (a2))] (ax_m s ρ) (some (.inl (.long r0))) (ax_m s ρ) := by
  refine ax_T_of (own := "CipherNotationModel") (by decide) rfl (Nat.le_of_ble_eq_true rfl) [(0, .inr (0, 38)), (1, .inl (.int (a1))), (2, .inl (.long (a2)))] rfl ?_
  intro G hA
  have hB := hA.B
  have hK := hB.K
  have hal := hB.la
  unfold f_Z_spread at h
  obtain ⟨b1, h⟩ := ax_gd h
  refine ax_bk hK (ax_fc (ax_v_pu (ax_r_lconst (v := 0) d_Z_spread_0 (by decide))) (ax_fc (ax_v_so (ax_r_lstore d_Z_spread_1)) (ax_fc (ax_v_ld (ax_r_aload_n (i := 0) d_Z_spread_3 rfl)) (ax_fc (ax_w_gf (e := none) hal d_Z_spread_4 fd_Z_60) (ax_fc (ax_v_ld (ax_r_iload_n (i := 1) d_Z_spread_7 rfl)) (ax_fc (ax_w_iald hal d_Z_spread_8) (ax_fc (ax_v_so (ax_r_istore d_Z_spread_9)) ax_fn))))))) (y := (11, [(6, .inl (.int ((s.1 0 54 (a1).toNatClampNeg)))), (4, .inl (.long ((0 : Int64)))), (0, .inr (0, 38)), (1, .inl (.int (a1))), (2, .inl (.long (a2)))], [], ax_m (s) ρ)) rfl ⟨trivial, trivial, trivial, (h0 38 rfl), trivial, ⟨(h0 54 rfl), ax_inp b1⟩, trivial, trivial⟩ ?_
  obtain ⟨w8, hw8, h⟩ := ax_bd h
  refine ax_Lsub [2, 3, 4, 1, 0] rfl (pl_Z_spread_11 h0 hB F _ hw8 ?_)
  intro v7 e9
  subst w8
  try dsimp only at h
  change ax_R G 7 0 0 (45, [(4, .inl (.long (v7)))], [], ax_m (s) ρ)
  refine ax_bk hK (ax_fc (ax_v_ld (ax_r_lload d_Z_spread_45)) ax_fn) (y := (47, [(4, .inl (.long (v7)))], [.inl (.long (v7))], ax_m (s) ρ)) rfl ⟨trivial, trivial⟩ ?_
  cases h
  exact ax_lret hA d_Z_spread_47
def y_Z_entry : MethodName := ⟨"CipherNotationModel", "entry", "(IIZ)I"⟩
theorem d_Z_entry_0 : decode prog_8_method_53_code 0 = .ok (.iload_n 3, 1) := by decide +kernel
theorem d_Z_entry_1 : decode prog_8_method_53_code 1 = .ok (.ifCond .ne (15), 3) := by decide +kernel
theorem d_Z_entry_4 : decode prog_8_method_53_code 4 = .ok (.aload_n 0, 1) := by decide +kernel
theorem d_Z_entry_5 : decode prog_8_method_53_code 5 = .ok (.getfield (27), 3) := by decide +kernel
theorem d_Z_entry_8 : decode prog_8_method_53_code 8 = .ok (.bipush (16), 2) := by decide +kernel
theorem d_Z_entry_10 : decode prog_8_method_53_code 10 = .ok (.iload_n 1, 1) := by decide +kernel
theorem d_Z_entry_11 : decode prog_8_method_53_code 11 = .ok (.imul, 1) := by decide +kernel
theorem d_Z_entry_12 : decode prog_8_method_53_code 12 = .ok (.iload_n 2, 1) := by decide +kernel
theorem d_Z_entry_13 : decode prog_8_method_53_code 13 = .ok (.iadd, 1) := by decide +kernel
theorem d_Z_entry_14 : decode prog_8_method_53_code 14 = .ok (.iaload, 1) := by decide +kernel
theorem d_Z_entry_15 : decode prog_8_method_53_code 15 = .ok (.ireturn, 1) := by decide +kernel
theorem d_Z_entry_16 : decode prog_8_method_53_code 16 = .ok (.iconst (-1), 1) := by decide +kernel
theorem d_Z_entry_17 : decode prog_8_method_53_code 17 = .ok (.istore (4), 2) := by decide +kernel
theorem d_Z_entry_19 : decode prog_8_method_53_code 19 = .ok (.bipush (15), 2) := by decide +kernel
theorem d_Z_entry_21 : decode prog_8_method_53_code 21 = .ok (.istore (5), 2) := by decide +kernel
theorem d_Z_entry_23 : decode prog_8_method_53_code 23 = .ok (.iload (5), 2) := by decide +kernel
theorem d_Z_entry_25 : decode prog_8_method_53_code 25 = .ok (.ifCond .lt (34), 3) := by decide +kernel
theorem d_Z_entry_28 : decode prog_8_method_53_code 28 = .ok (.aload_n 0, 1) := by decide +kernel
theorem d_Z_entry_29 : decode prog_8_method_53_code 29 = .ok (.getfield (27), 3) := by decide +kernel
theorem d_Z_entry_32 : decode prog_8_method_53_code 32 = .ok (.bipush (16), 2) := by decide +kernel
theorem d_Z_entry_34 : decode prog_8_method_53_code 34 = .ok (.iload_n 1, 1) := by decide +kernel
theorem d_Z_entry_35 : decode prog_8_method_53_code 35 = .ok (.imul, 1) := by decide +kernel
theorem d_Z_entry_36 : decode prog_8_method_53_code 36 = .ok (.iload (5), 2) := by decide +kernel
theorem d_Z_entry_38 : decode prog_8_method_53_code 38 = .ok (.iadd, 1) := by decide +kernel
theorem d_Z_entry_39 : decode prog_8_method_53_code 39 = .ok (.iaload, 1) := by decide +kernel
theorem d_Z_entry_40 : decode prog_8_method_53_code 40 = .ok (.iload_n 2, 1) := by decide +kernel
theorem d_Z_entry_41 : decode prog_8_method_53_code 41 = .ok (.if_icmp .ne (8), 3) := by decide +kernel
theorem d_Z_entry_44 : decode prog_8_method_53_code 44 = .ok (.iload (5), 2) := by decide +kernel
theorem d_Z_entry_46 : decode prog_8_method_53_code 46 = .ok (.goto (5), 3) := by decide +kernel
theorem d_Z_entry_49 : decode prog_8_method_53_code 49 = .ok (.iload (4), 2) := by decide +kernel
theorem d_Z_entry_51 : decode prog_8_method_53_code 51 = .ok (.istore (4), 2) := by decide +kernel
theorem d_Z_entry_53 : decode prog_8_method_53_code 53 = .ok (.iinc 5 (-1), 3) := by decide +kernel
theorem d_Z_entry_56 : decode prog_8_method_53_code 56 = .ok (.goto (-33), 3) := by decide +kernel
theorem d_Z_entry_59 : decode prog_8_method_53_code 59 = .ok (.iload (4), 2) := by decide +kernel
theorem d_Z_entry_61 : decode prog_8_method_53_code 61 = .ok (.ireturn, 1) := by decide +kernel
def lp_Z_entry_23 (F : Nat) (x1 : Int32) (x2 : Int32) (s : ax_σ) : Nat → Int32 → Int32 → Option (Int32)
  | 0, _, _ => none
  | n + 1, x4, x5 =>
    if x5 < (0 : Int32) then
      some x4
    else
      bif ax_in (((16 : Int32) * x1) + x5) 32 then
      if (s.1 0 43 ((((16 : Int32) * x1) + x5)).toNatClampNeg) = x2 then
        lp_Z_entry_23 F x1 x2 s n x5 (x5 + (-1 : Int32))
      else
        lp_Z_entry_23 F x1 x2 s n x4 (x5 + (-1 : Int32))
      else none
set_option maxHeartbeats 4000000 in
set_option maxRecDepth 100000 in
theorem pl_Z_entry_23 {D : va_G} {cA : Nat → ClassId} {ad : Nat → Nat → Nat} {al : List (Nat × Nat)} {θ : ax_Θ} {l : Launch} {ρ : ax_ρ} {G : ax_G} {F : Nat} {x1 : Int32} {x2 : Int32} {s : ax_σ} (h0 : ax_M0 al) (hB : ax_B D cA ad al θ l "CipherNotationModel" prog_8_method_53_code 6 0 G) : ∀ (n : Nat) {x4 : Int32} {x5 : Int32} (out : Int32), lp_Z_entry_23 F x1 x2 s n x4 x5 = some out → (∀ (e4 : Int32), out = e4 → ax_R G 6 0 0 (59, [(4, .inl (.int (e4)))], [], ax_m (s) ρ)) → ax_R G 6 0 0 (23, [(0, .inr (0, 38)), (1, .inl (.int (x1))), (2, .inl (.int (x2))), (4, .inl (.int (x4))), (5, .inl (.int (x5)))], [], ax_m (s) ρ) := by
  have hK := hB.K
  have hal := hB.la
  intro n
  induction n with
  | zero =>
    intro x4 x5 out h
    cases h
  | succ n ih =>
    intro x4 x5 out h KE
    rw [lp_Z_entry_23] at h
    refine ax_bk hK (ax_fc (ax_v_ld (ax_r_iload d_Z_entry_23)) ax_fn) (y := (25, [(0, .inr (0, 38)), (1, .inl (.int (x1))), (2, .inl (.int (x2))), (4, .inl (.int (x4))), (5, .inl (.int (x5)))], [.inl (.int (x5))], ax_m (s) ρ)) rfl ⟨trivial, trivial⟩ ?_
    refine ax_if_lt (tgt := 59) hK d_Z_entry_25 (by decide) (fun c3 => ?_) (fun c3 => ?_)
    · replace h := ax_it c3 h
      cases h
      exact ax_Lsub [3] rfl (KE _ rfl)
    · replace h := ax_if c3 h
      obtain ⟨b1, h⟩ := ax_gd h
      refine ax_bk hK (ax_fc (ax_v_ld (ax_r_aload_n (i := 0) d_Z_entry_28 rfl)) (ax_fc (ax_w_gf (e := none) hal d_Z_entry_29 fd_Z_27) (ax_fc (ax_v_pu (ax_r_bipush (v := 16) d_Z_entry_32 (by decide))) (ax_fc (ax_v_ld (ax_r_iload_n (i := 1) d_Z_entry_34 rfl)) (ax_fc (ax_v_pu (ax_r_imul d_Z_entry_35)) (ax_fc (ax_v_ld (ax_r_iload d_Z_entry_36)) (ax_fc (ax_v_pu (ax_r_iadd d_Z_entry_38)) (ax_fc (ax_w_iald hal d_Z_entry_39) (ax_fc (ax_v_ld (ax_r_iload_n (i := 2) d_Z_entry_40 rfl)) ax_fn))))))))) (y := (41, [(0, .inr (0, 38)), (1, .inl (.int (x1))), (2, .inl (.int (x2))), (4, .inl (.int (x4))), (5, .inl (.int (x5)))], [.inl (.int (x2)), .inl (.int ((s.1 0 43 ((((16 : Int32) * x1) + x5)).toNatClampNeg)))], ax_m (s) ρ)) rfl ⟨trivial, (h0 38 rfl), trivial, trivial, trivial, trivial, trivial, ⟨(h0 43 rfl), ax_inp b1⟩, trivial, trivial⟩ ?_
      refine ax_ic_ne (tgt := 49) hK d_Z_entry_41 (by decide) (fun c2 => ?_) (fun c2 => ?_)
      · replace h := ax_if c2 h
        refine ax_bk hK (ax_fc (ax_v_ld (ax_r_iload d_Z_entry_49)) (ax_fc (ax_v_so (ax_r_istore d_Z_entry_51)) (ax_fc (ax_v_ii (d := -1) d_Z_entry_53 (by decide)) (ax_fc (ax_v_go (tgt := 23) d_Z_entry_56 (by decide)) ax_fn)))) (y := (23, [(5, .inl (.int ((x5 + (-1 : Int32))))), (4, .inl (.int (x4))), (0, .inr (0, 38)), (1, .inl (.int (x1))), (2, .inl (.int (x2)))], [], ax_m (s) ρ)) rfl ⟨trivial, trivial, trivial, trivial, trivial⟩ ?_
        exact ax_Lsub [2, 3, 4, 1, 0] rfl (ih _ h KE)
      · replace h := ax_it c2 h
        refine ax_bk hK (ax_fc (ax_v_ld (ax_r_iload d_Z_entry_44)) (ax_fc (ax_v_go (tgt := 51) d_Z_entry_46 (by decide)) ax_fn)) (y := (51, [(0, .inr (0, 38)), (1, .inl (.int (x1))), (2, .inl (.int (x2))), (4, .inl (.int (x4))), (5, .inl (.int (x5)))], [.inl (.int (x5))], ax_m (s) ρ)) rfl ⟨trivial, trivial, trivial⟩ ?_
        refine ax_bk hK (ax_fc (ax_v_so (ax_r_istore d_Z_entry_51)) (ax_fc (ax_v_ii (d := -1) d_Z_entry_53 (by decide)) (ax_fc (ax_v_go (tgt := 23) d_Z_entry_56 (by decide)) ax_fn))) (y := (23, [(5, .inl (.int ((x5 + (-1 : Int32))))), (4, .inl (.int (x5))), (0, .inr (0, 38)), (1, .inl (.int (x1))), (2, .inl (.int (x2)))], [], ax_m (s) ρ)) rfl ⟨trivial, trivial, trivial, trivial⟩ ?_
        exact ax_Lsub [2, 3, 4, 1, 0] rfl (ih _ h KE)
def f_Z_entry (F : Nat) (a1 : Int32) (a2 : Int32) (a3 : Int32) (s : ax_σ) : Option (Int32) :=
  if a3 = (0 : Int32) then
    bif ax_in (((16 : Int32) * a1) + a2) 32 then
    some ((s.1 0 43 ((((16 : Int32) * a1) + a2)).toNatClampNeg))
    else none
  else
    Option.bind (lp_Z_entry_23 F a1 a2 s F (-1 : Int32) (15 : Int32)) (fun v4 =>
      some (v4))
set_option maxHeartbeats 4000000 in
set_option maxRecDepth 100000 in
theorem t_Z_entry {l : Launch} {D : va_G} {cA : Nat → ClassId} {ad : Nat → Nat → Nat} {al : List (Nat × Nat)} {θ : ax_Θ} {ρ : ax_ρ} {F : Nat} (h0 : ax_M0 al) {a1 : Int32} {a2 : Int32} {a3 : Int32} {s : ax_σ} {r0 : Int32} (h : f_Z_entry F a1 a2 a3 s = some r0) : ax_T l D cA ad al θ y_Z_entry (.code y_Z_entry prog_8_method_53_code 6 (some .int)) 0 [.inr (0, 38), .inl (.int (a1)), .inl (.int (a2)), .inl (.int (a3))] (ax_m s ρ) (some (.inl (.int r0))) (ax_m s ρ) := by
  refine ax_T_of (own := "CipherNotationModel") (by decide) rfl (Nat.le_of_ble_eq_true rfl) [(0, .inr (0, 38)), (1, .inl (.int (a1))), (2, .inl (.int (a2))), (3, .inl (.int (a3)))] rfl ?_
  intro G hA
  have hB := hA.B
  have hK := hB.K
  have hal := hB.la
  unfold f_Z_entry at h
  refine ax_bk hK (ax_fc (ax_v_ld (ax_r_iload_n (i := 3) d_Z_entry_0 rfl)) ax_fn) (y := (1, [(0, .inr (0, 38)), (1, .inl (.int (a1))), (2, .inl (.int (a2))), (3, .inl (.int (a3)))], [.inl (.int (a3))], ax_m (s) ρ)) rfl ⟨trivial, trivial⟩ ?_
  refine ax_if_ne (tgt := 16) hK d_Z_entry_1 (by decide) (fun c6 => ?_) (fun c6 => ?_)
  · replace h := ax_if c6 h
    refine ax_bk hK (ax_fc (ax_v_pu (ax_r_iconst (v := -1) d_Z_entry_16 (by decide))) (ax_fc (ax_v_so (ax_r_istore d_Z_entry_17)) (ax_fc (ax_v_pu (ax_r_bipush (v := 15) d_Z_entry_19 (by decide))) (ax_fc (ax_v_so (ax_r_istore d_Z_entry_21)) ax_fn)))) (y := (23, [(5, .inl (.int ((15 : Int32)))), (4, .inl (.int ((-1 : Int32)))), (0, .inr (0, 38)), (1, .inl (.int (a1))), (2, .inl (.int (a2))), (3, .inl (.int (a3)))], [], ax_m (s) ρ)) rfl ⟨trivial, trivial, trivial, trivial, trivial⟩ ?_
    obtain ⟨w7, hw7, h⟩ := ax_bd h
    refine ax_Lsub [2, 3, 4, 1, 0] rfl (pl_Z_entry_23 h0 hB F _ hw7 ?_)
    intro v4 e9
    subst w7
    try dsimp only at h
    change ax_R G 6 0 0 (59, [(4, .inl (.int (v4)))], [], ax_m (s) ρ)
    refine ax_bk hK (ax_fc (ax_v_ld (ax_r_iload d_Z_entry_59)) ax_fn) (y := (61, [(4, .inl (.int (v4)))], [.inl (.int (v4))], ax_m (s) ρ)) rfl ⟨trivial, trivial⟩ ?_
    cases h
    exact ax_iret hA d_Z_entry_61
  · replace h := ax_it c6 h
    obtain ⟨b5, h⟩ := ax_gd h
    refine ax_bk hK (ax_fc (ax_v_ld (ax_r_aload_n (i := 0) d_Z_entry_4 rfl)) (ax_fc (ax_w_gf (e := none) hal d_Z_entry_5 fd_Z_27) (ax_fc (ax_v_pu (ax_r_bipush (v := 16) d_Z_entry_8 (by decide))) (ax_fc (ax_v_ld (ax_r_iload_n (i := 1) d_Z_entry_10 rfl)) (ax_fc (ax_v_pu (ax_r_imul d_Z_entry_11)) (ax_fc (ax_v_ld (ax_r_iload_n (i := 2) d_Z_entry_12 rfl)) (ax_fc (ax_v_pu (ax_r_iadd d_Z_entry_13)) (ax_fc (ax_w_iald hal d_Z_entry_14) ax_fn)))))))) (y := (15, [(0, .inr (0, 38)), (1, .inl (.int (a1))), (2, .inl (.int (a2))), (3, .inl (.int (a3)))], [.inl (.int ((s.1 0 43 ((((16 : Int32) * a1) + a2)).toNatClampNeg)))], ax_m (s) ρ)) rfl ⟨trivial, (h0 38 rfl), trivial, trivial, trivial, trivial, trivial, ⟨(h0 43 rfl), ax_inp b5⟩, trivial⟩ ?_
    cases h
    exact ax_iret hA d_Z_entry_15
def y_Z_replaced : MethodName := ⟨"CipherNotationModel", "replaced", "(IJZ)J"⟩
theorem d_Z_replaced_0 : decode prog_8_method_54_code 0 = .ok (.lconst 0, 1) := by decide +kernel
theorem d_Z_replaced_1 : decode prog_8_method_54_code 1 = .ok (.lstore (5), 2) := by decide +kernel
theorem d_Z_replaced_3 : decode prog_8_method_54_code 3 = .ok (.iconst 0, 1) := by decide +kernel
theorem d_Z_replaced_4 : decode prog_8_method_54_code 4 = .ok (.istore (7), 2) := by decide +kernel
theorem d_Z_replaced_6 : decode prog_8_method_54_code 6 = .ok (.iload (7), 2) := by decide +kernel
theorem d_Z_replaced_8 : decode prog_8_method_54_code 8 = .ok (.aload_n 0, 1) := by decide +kernel
theorem d_Z_replaced_9 : decode prog_8_method_54_code 9 = .ok (.invokevirtual (391), 3) := by decide +kernel
theorem d_Z_replaced_12 : decode prog_8_method_54_code 12 = .ok (.if_icmp .ge (37), 3) := by decide +kernel
theorem d_Z_replaced_15 : decode prog_8_method_54_code 15 = .ok (.lload (5), 2) := by decide +kernel
theorem d_Z_replaced_17 : decode prog_8_method_54_code 17 = .ok (.aload_n 0, 1) := by decide +kernel
theorem d_Z_replaced_18 : decode prog_8_method_54_code 18 = .ok (.iload_n 1, 1) := by decide +kernel
theorem d_Z_replaced_19 : decode prog_8_method_54_code 19 = .ok (.lload_n 2, 1) := by decide +kernel
theorem d_Z_replaced_20 : decode prog_8_method_54_code 20 = .ok (.iload (7), 2) := by decide +kernel
theorem d_Z_replaced_22 : decode prog_8_method_54_code 22 = .ok (.lshr, 1) := by decide +kernel
theorem d_Z_replaced_23 : decode prog_8_method_54_code 23 = .ok (.ldc2_w (348), 3) := by decide +kernel
theorem d_Z_replaced_26 : decode prog_8_method_54_code 26 = .ok (.land, 1) := by decide +kernel
theorem d_Z_replaced_27 : decode prog_8_method_54_code 27 = .ok (.l2i, 1) := by decide +kernel
theorem d_Z_replaced_28 : decode prog_8_method_54_code 28 = .ok (.iload (4), 2) := by decide +kernel
theorem d_Z_replaced_30 : decode prog_8_method_54_code 30 = .ok (.invokevirtual (423), 3) := by decide +kernel
theorem d_Z_replaced_33 : decode prog_8_method_54_code 33 = .ok (.i2l, 1) := by decide +kernel
theorem d_Z_replaced_34 : decode prog_8_method_54_code 34 = .ok (.iload (7), 2) := by decide +kernel
theorem d_Z_replaced_36 : decode prog_8_method_54_code 36 = .ok (.lshl, 1) := by decide +kernel
theorem d_Z_replaced_37 : decode prog_8_method_54_code 37 = .ok (.lor, 1) := by decide +kernel
theorem d_Z_replaced_38 : decode prog_8_method_54_code 38 = .ok (.lstore (5), 2) := by decide +kernel
theorem d_Z_replaced_40 : decode prog_8_method_54_code 40 = .ok (.iload (7), 2) := by decide +kernel
theorem d_Z_replaced_42 : decode prog_8_method_54_code 42 = .ok (.iconst 4, 1) := by decide +kernel
theorem d_Z_replaced_43 : decode prog_8_method_54_code 43 = .ok (.iadd, 1) := by decide +kernel
theorem d_Z_replaced_44 : decode prog_8_method_54_code 44 = .ok (.istore (7), 2) := by decide +kernel
theorem d_Z_replaced_46 : decode prog_8_method_54_code 46 = .ok (.goto (-40), 3) := by decide +kernel
theorem d_Z_replaced_49 : decode prog_8_method_54_code 49 = .ok (.lload (5), 2) := by decide +kernel
theorem d_Z_replaced_51 : decode prog_8_method_54_code 51 = .ok (.lreturn, 1) := by decide +kernel
set_option maxRecDepth 100000 in
theorem cw_Z_423 : ax_cw "CipherNotationModel" 423 y_Z_entry (.code y_Z_entry prog_8_method_53_code 6 (some .int)) 3 := ⟨nw_6 74 (by decide +kernel) rfl, nw_1 7 (by decide +kernel) rfl, nw_6 77 rfl rfl, by decide +kernel, by decide +kernel⟩
theorem im_Z_entry : Cond.instanceMethod y_Z_entry ∈ ax_tbl := nw_6 76 (by decide +kernel) rfl
theorem se_Z_entry : Cond.selects y_Z_entry.cls y_Z_entry y_Z_entry ∈ ax_tbl := nw_sel 79 (by decide +kernel) (by decide +kernel)
def lp_Z_replaced_6 (F : Nat) (x1 : Int32) (x2 : Int64) (x4 : Int32) (s : ax_σ) : Nat → Int64 → Int32 → Option (Int64)
  | 0, _, _ => none
  | n + 1, x5, x7 =>
    Option.bind (f_Z_width s) (fun r1 =>
      if r1 ≤ x7 then
        some x5
      else
        Option.bind (f_Z_entry F x1 ((((x2 >>> ((x7).toInt64 &&& 63)) &&& (15 : Int64))).toInt32) x4 s) (fun r3 =>
          lp_Z_replaced_6 F x1 x2 x4 s n (x5 ||| ((r3).toInt64 <<< ((x7).toInt64 &&& 63))) (x7 + (4 : Int32))))
set_option maxHeartbeats 4000000 in
set_option maxRecDepth 100000 in
theorem pl_Z_replaced_6 {D : va_G} {cA : Nat → ClassId} {ad : Nat → Nat → Nat} {al : List (Nat × Nat)} {θ : ax_Θ} {l : Launch} {ρ : ax_ρ} {G : ax_G} {F : Nat} {x1 : Int32} {x2 : Int64} {x4 : Int32} {s : ax_σ} (h0 : ax_M0 al) (hB : ax_B D cA ad al θ l "CipherNotationModel" prog_8_method_54_code 8 1 G) : ∀ (n : Nat) {x5 : Int64} {x7 : Int32} (out : Int64), lp_Z_replaced_6 F x1 x2 x4 s n x5 x7 = some out → (∀ (e5 : Int64), out = e5 → ax_R G 8 0 0 (49, [(5, .inl (.long (e5)))], [], ax_m (s) ρ)) → ax_R G 8 0 0 (6, [(0, .inr (0, 38)), (1, .inl (.int (x1))), (2, .inl (.long (x2))), (4, .inl (.int (x4))), (5, .inl (.long (x5))), (7, .inl (.int (x7)))], [], ax_m (s) ρ) := by
  have hK := hB.K
  have hal := hB.la
  intro n
  induction n with
  | zero =>
    intro x5 x7 out h
    cases h
  | succ n ih =>
    intro x5 x7 out h KE
    rw [lp_Z_replaced_6] at h
    refine ax_bk hK (ax_fc (ax_v_ld (ax_r_iload d_Z_replaced_6)) (ax_fc (ax_v_ld (ax_r_aload_n (i := 0) d_Z_replaced_8 rfl)) ax_fn)) (y := (9, [(0, .inr (0, 38)), (1, .inl (.int (x1))), (2, .inl (.long (x2))), (4, .inl (.int (x4))), (5, .inl (.long (x5))), (7, .inl (.int (x7)))], [.inr (0, 38), .inl (.int (x7))], ax_m (s) ρ)) rfl ⟨trivial, trivial, trivial⟩ ?_
    obtain ⟨r1, q2, h⟩ := ax_bd h
    refine ax_bV (rest := [.inl (.int (x7))]) hB (t_Z_width h0 q2) cw_Z_391 im_Z_width se_Z_width d_Z_replaced_9 (h0 38 rfl) rfl rfl (by decide) (by decide) rfl rfl (Nat.le_of_ble_eq_true rfl) ?_
    change ax_R G 8 0 0 (12, [(0, .inr (0, 38)), (1, .inl (.int (x1))), (2, .inl (.long (x2))), (4, .inl (.int (x4))), (5, .inl (.long (x5))), (7, .inl (.int (x7)))], [.inl (.int (r1)), .inl (.int (x7))], ax_m (s) ρ)
    refine ax_ic_ge (tgt := 49) hK d_Z_replaced_12 (by decide) (fun c5 => ?_) (fun c5 => ?_)
    · replace h := ax_it c5 h
      cases h
      exact ax_Lsub [4] rfl (KE _ rfl)
    · replace h := ax_if c5 h
      refine ax_bk hK (ax_fc (ax_v_ld (ax_r_lload d_Z_replaced_15)) (ax_fc (ax_v_ld (ax_r_aload_n (i := 0) d_Z_replaced_17 rfl)) (ax_fc (ax_v_ld (ax_r_iload_n (i := 1) d_Z_replaced_18 rfl)) (ax_fc (ax_v_ld (ax_r_lload_n (i := 2) d_Z_replaced_19 rfl)) (ax_fc (ax_v_ld (ax_r_iload d_Z_replaced_20)) (ax_fc (ax_v_pu (ax_r_lshr d_Z_replaced_22)) (ax_fc (ax_v_ldc2 (v := 15) d_Z_replaced_23 (nw_6 0 (by decide +kernel) rfl)) (ax_fc (ax_v_pu (ax_r_land d_Z_replaced_26)) (ax_fc (ax_v_pu (ax_r_l2i d_Z_replaced_27)) (ax_fc (ax_v_ld (ax_r_iload d_Z_replaced_28)) ax_fn)))))))))) (y := (30, [(0, .inr (0, 38)), (1, .inl (.int (x1))), (2, .inl (.long (x2))), (4, .inl (.int (x4))), (5, .inl (.long (x5))), (7, .inl (.int (x7)))], [.inl (.int (x4)), .inl (.int ((((x2 >>> ((x7).toInt64 &&& 63)) &&& (15 : Int64))).toInt32)), .inl (.int (x1)), .inr (0, 38), .inl (.long (x5))], ax_m (s) ρ)) rfl ⟨trivial, trivial, trivial, trivial, trivial, trivial, trivial, trivial, trivial, trivial, trivial⟩ ?_
      obtain ⟨r3, q4, h⟩ := ax_bd h
      refine ax_bV (rest := [.inl (.long (x5))]) hB (t_Z_entry h0 q4) cw_Z_423 im_Z_entry se_Z_entry d_Z_replaced_30 (h0 38 rfl) rfl rfl (by decide) (by decide) rfl rfl (Nat.le_of_ble_eq_true rfl) ?_
      change ax_R G 8 0 0 (33, [(0, .inr (0, 38)), (1, .inl (.int (x1))), (2, .inl (.long (x2))), (4, .inl (.int (x4))), (5, .inl (.long (x5))), (7, .inl (.int (x7)))], [.inl (.int (r3)), .inl (.long (x5))], ax_m (s) ρ)
      refine ax_bk hK (ax_fc (ax_v_pu (ax_r_i2l d_Z_replaced_33)) (ax_fc (ax_v_ld (ax_r_iload d_Z_replaced_34)) (ax_fc (ax_v_pu (ax_r_lshl d_Z_replaced_36)) (ax_fc (ax_v_pu (ax_r_lor d_Z_replaced_37)) (ax_fc (ax_v_so (ax_r_lstore d_Z_replaced_38)) (ax_fc (ax_v_ld (ax_r_iload d_Z_replaced_40)) (ax_fc (ax_v_pu (ax_r_iconst (v := 4) d_Z_replaced_42 (by decide))) (ax_fc (ax_v_pu (ax_r_iadd d_Z_replaced_43)) (ax_fc (ax_v_so (ax_r_istore d_Z_replaced_44)) (ax_fc (ax_v_go (tgt := 6) d_Z_replaced_46 (by decide)) ax_fn)))))))))) (y := (6, [(7, .inl (.int ((x7 + (4 : Int32))))), (5, .inl (.long ((x5 ||| ((r3).toInt64 <<< ((x7).toInt64 &&& 63)))))), (0, .inr (0, 38)), (1, .inl (.int (x1))), (2, .inl (.long (x2))), (4, .inl (.int (x4)))], [], ax_m (s) ρ)) rfl ⟨trivial, trivial, trivial, trivial, trivial, trivial, trivial, trivial, trivial, trivial, trivial⟩ ?_
      exact ax_Lsub [2, 3, 4, 5, 1, 0] rfl (ih _ h KE)
def f_Z_replaced (F : Nat) (a1 : Int32) (a2 : Int64) (a3 : Int32) (s : ax_σ) : Option (Int64) :=
  Option.bind (lp_Z_replaced_6 F a1 a2 a3 s F (0 : Int64) (0 : Int32)) (fun v6 =>
    some (v6))
set_option maxHeartbeats 4000000 in
set_option maxRecDepth 100000 in
theorem t_Z_replaced {l : Launch} {D : va_G} {cA : Nat → ClassId} {ad : Nat → Nat → Nat} {al : List (Nat × Nat)} {θ : ax_Θ} {ρ : ax_ρ} {F : Nat} (h0 : ax_M0 al) {a1 : Int32} {a2 : Int64} {a3 : Int32} {s : ax_σ} {r0 : Int64} (h : f_Z_replaced F a1 a2 a3 s = some r0) : ax_T l D cA ad al θ y_Z_replaced (.code y_Z_replaced prog_8_method_54_code 8 (some .long)) 1 [.inr (0, 38), .inl (.int (a1)), .inl (.long (a2)), .inl (.int (a3))] (ax_m s ρ) (some (.inl (.long r0))) (ax_m s ρ) := by
  refine ax_T_of (own := "CipherNotationModel") (by decide) rfl (Nat.le_of_ble_eq_true rfl) [(0, .inr (0, 38)), (1, .inl (.int (a1))), (2, .inl (.long (a2))), (4, .inl (.int (a3)))] rfl ?_
  intro G hA
  have hB := hA.B
  have hK := hB.K
  have hal := hB.la
  unfold f_Z_replaced at h
  refine ax_bk hK (ax_fc (ax_v_pu (ax_r_lconst (v := 0) d_Z_replaced_0 (by decide))) (ax_fc (ax_v_so (ax_r_lstore d_Z_replaced_1)) (ax_fc (ax_v_pu (ax_r_iconst (v := 0) d_Z_replaced_3 (by decide))) (ax_fc (ax_v_so (ax_r_istore d_Z_replaced_4)) ax_fn)))) (y := (6, [(7, .inl (.int ((0 : Int32)))), (5, .inl (.long ((0 : Int64)))), (0, .inr (0, 38)), (1, .inl (.int (a1))), (2, .inl (.long (a2))), (4, .inl (.int (a3)))], [], ax_m (s) ρ)) rfl ⟨trivial, trivial, trivial, trivial, trivial⟩ ?_
  obtain ⟨w7, hw7, h⟩ := ax_bd h
  refine ax_Lsub [2, 3, 4, 5, 1, 0] rfl (pl_Z_replaced_6 h0 hB F _ hw7 ?_)
  intro v6 e9
  subst w7
  try dsimp only at h
  change ax_R G 8 0 0 (49, [(5, .inl (.long (v6)))], [], ax_m (s) ρ)
  refine ax_bk hK (ax_fc (ax_v_ld (ax_r_lload d_Z_replaced_49)) ax_fn) (y := (51, [(5, .inl (.long (v6)))], [.inl (.long (v6))], ax_m (s) ρ)) rfl ⟨trivial, trivial⟩ ?_
  cases h
  exact ax_lret hA d_Z_replaced_51
def y_Z_inverse : MethodName := ⟨"CipherNotationModel", "inverse", "(J)J"⟩
theorem d_Z_inverse_0 : decode prog_8_method_55_code 0 = .ok (.lload_n 0, 1) := by decide +kernel
theorem d_Z_inverse_1 : decode prog_8_method_55_code 1 = .ok (.lstore_n 2, 1) := by decide +kernel
theorem d_Z_inverse_2 : decode prog_8_method_55_code 2 = .ok (.iconst 0, 1) := by decide +kernel
theorem d_Z_inverse_3 : decode prog_8_method_55_code 3 = .ok (.istore (4), 2) := by decide +kernel
theorem d_Z_inverse_5 : decode prog_8_method_55_code 5 = .ok (.iload (4), 2) := by decide +kernel
theorem d_Z_inverse_7 : decode prog_8_method_55_code 7 = .ok (.bipush (6), 2) := by decide +kernel
theorem d_Z_inverse_9 : decode prog_8_method_55_code 9 = .ok (.if_icmp .ge (19), 3) := by decide +kernel
theorem d_Z_inverse_12 : decode prog_8_method_55_code 12 = .ok (.lload_n 2, 1) := by decide +kernel
theorem d_Z_inverse_13 : decode prog_8_method_55_code 13 = .ok (.ldc2_w (331), 3) := by decide +kernel
theorem d_Z_inverse_16 : decode prog_8_method_55_code 16 = .ok (.lload_n 0, 1) := by decide +kernel
theorem d_Z_inverse_17 : decode prog_8_method_55_code 17 = .ok (.lload_n 2, 1) := by decide +kernel
theorem d_Z_inverse_18 : decode prog_8_method_55_code 18 = .ok (.lmul, 1) := by decide +kernel
theorem d_Z_inverse_19 : decode prog_8_method_55_code 19 = .ok (.lsub, 1) := by decide +kernel
theorem d_Z_inverse_20 : decode prog_8_method_55_code 20 = .ok (.lmul, 1) := by decide +kernel
theorem d_Z_inverse_21 : decode prog_8_method_55_code 21 = .ok (.lstore_n 2, 1) := by decide +kernel
theorem d_Z_inverse_22 : decode prog_8_method_55_code 22 = .ok (.iinc 4 (1), 3) := by decide +kernel
theorem d_Z_inverse_25 : decode prog_8_method_55_code 25 = .ok (.goto (-20), 3) := by decide +kernel
theorem d_Z_inverse_28 : decode prog_8_method_55_code 28 = .ok (.lload_n 2, 1) := by decide +kernel
theorem d_Z_inverse_29 : decode prog_8_method_55_code 29 = .ok (.lreturn, 1) := by decide +kernel
def lp_Z_inverse_5 (F : Nat) (x0 : Int64) (s : ax_σ) : Nat → Int64 → Int32 → Option (Int64)
  | 0, _, _ => none
  | n + 1, x2, x4 =>
    if (6 : Int32) ≤ x4 then
      some x2
    else
      lp_Z_inverse_5 F x0 s n (x2 * ((2 : Int64) - (x0 * x2))) (x4 + (1 : Int32))
set_option maxHeartbeats 4000000 in
set_option maxRecDepth 100000 in
theorem pl_Z_inverse_5 {D : va_G} {cA : Nat → ClassId} {ad : Nat → Nat → Nat} {al : List (Nat × Nat)} {θ : ax_Θ} {l : Launch} {ρ : ax_ρ} {G : ax_G} {F : Nat} {x0 : Int64} {s : ax_σ}  (hB : ax_B D cA ad al θ l "CipherNotationModel" prog_8_method_55_code 5 0 G) : ∀ (n : Nat) {x2 : Int64} {x4 : Int32} (out : Int64), lp_Z_inverse_5 F x0 s n x2 x4 = some out → (∀ (e2 : Int64), out = e2 → ax_R G 5 0 0 (28, [(2, .inl (.long (e2)))], [], ax_m (s) ρ)) → ax_R G 5 0 0 (5, [(0, .inl (.long (x0))), (2, .inl (.long (x2))), (4, .inl (.int (x4)))], [], ax_m (s) ρ) := by
  have hK := hB.K
  have hal := hB.la
  intro n
  induction n with
  | zero =>
    intro x2 x4 out h
    cases h
  | succ n ih =>
    intro x2 x4 out h KE
    rw [lp_Z_inverse_5] at h
    refine ax_bk hK (ax_fc (ax_v_ld (ax_r_iload d_Z_inverse_5)) (ax_fc (ax_v_pu (ax_r_bipush (v := 6) d_Z_inverse_7 (by decide))) ax_fn)) (y := (9, [(0, .inl (.long (x0))), (2, .inl (.long (x2))), (4, .inl (.int (x4)))], [.inl (.int ((6 : Int32))), .inl (.int (x4))], ax_m (s) ρ)) rfl ⟨trivial, trivial, trivial⟩ ?_
    refine ax_ic_ge (tgt := 28) hK d_Z_inverse_9 (by decide) (fun c1 => ?_) (fun c1 => ?_)
    · replace h := ax_it c1 h
      cases h
      exact ax_Lsub [1] rfl (KE _ rfl)
    · replace h := ax_if c1 h
      refine ax_bk hK (ax_fc (ax_v_ld (ax_r_lload_n (i := 2) d_Z_inverse_12 rfl)) (ax_fc (ax_v_ldc2 (v := 2) d_Z_inverse_13 (nw_5 238 (by decide +kernel) rfl)) (ax_fc (ax_v_ld (ax_r_lload_n (i := 0) d_Z_inverse_16 rfl)) (ax_fc (ax_v_ld (ax_r_lload_n (i := 2) d_Z_inverse_17 rfl)) (ax_fc (ax_v_pu (ax_r_lmul d_Z_inverse_18)) (ax_fc (ax_v_pu (ax_r_lsub d_Z_inverse_19)) (ax_fc (ax_v_pu (ax_r_lmul d_Z_inverse_20)) (ax_fc (ax_v_so (ax_r_lstore_n (i := 2) d_Z_inverse_21 rfl)) (ax_fc (ax_v_ii (d := 1) d_Z_inverse_22 (by decide)) (ax_fc (ax_v_go (tgt := 5) d_Z_inverse_25 (by decide)) ax_fn)))))))))) (y := (5, [(4, .inl (.int ((x4 + (1 : Int32))))), (2, .inl (.long ((x2 * ((2 : Int64) - (x0 * x2)))))), (0, .inl (.long (x0)))], [], ax_m (s) ρ)) rfl ⟨trivial, trivial, trivial, trivial, trivial, trivial, trivial, trivial, trivial, trivial, trivial⟩ ?_
      exact ax_Lsub [2, 1, 0] rfl (ih _ h KE)
def f_Z_inverse (F : Nat) (a1 : Int64) (s : ax_σ) : Option (Int64) :=
  Option.bind (lp_Z_inverse_5 F a1 s F a1 (0 : Int32)) (fun v2 =>
    some (v2))
set_option maxHeartbeats 4000000 in
set_option maxRecDepth 100000 in
theorem t_Z_inverse {l : Launch} {D : va_G} {cA : Nat → ClassId} {ad : Nat → Nat → Nat} {al : List (Nat × Nat)} {θ : ax_Θ} {ρ : ax_ρ} {F : Nat}  {a1 : Int64} {s : ax_σ} {r0 : Int64} (h : f_Z_inverse F a1 s = some r0) : ax_T l D cA ad al θ y_Z_inverse (.code y_Z_inverse prog_8_method_55_code 5 (some .long)) 0 [.inl (.long (a1))] (ax_m s ρ) (some (.inl (.long r0))) (ax_m s ρ) := by
  refine ax_T_of (own := "CipherNotationModel") (by decide) rfl (Nat.le_of_ble_eq_true rfl) [(0, .inl (.long (a1)))] rfl ?_
  intro G hA
  have hB := hA.B
  have hK := hB.K
  have hal := hB.la
  unfold f_Z_inverse at h
  refine ax_bk hK (ax_fc (ax_v_ld (ax_r_lload_n (i := 0) d_Z_inverse_0 rfl)) (ax_fc (ax_v_so (ax_r_lstore_n (i := 2) d_Z_inverse_1 rfl)) (ax_fc (ax_v_pu (ax_r_iconst (v := 0) d_Z_inverse_2 (by decide))) (ax_fc (ax_v_so (ax_r_istore d_Z_inverse_3)) ax_fn)))) (y := (5, [(4, .inl (.int ((0 : Int32)))), (2, .inl (.long (a1))), (0, .inl (.long (a1)))], [], ax_m (s) ρ)) rfl ⟨trivial, trivial, trivial, trivial, trivial⟩ ?_
  obtain ⟨w3, hw3, h⟩ := ax_bd h
  refine ax_Lsub [2, 1, 0] rfl (pl_Z_inverse_5 hB F _ hw3 ?_)
  intro v2 e9
  subst w3
  try dsimp only at h
  change ax_R G 5 0 0 (28, [(2, .inl (.long (v2)))], [], ax_m (s) ρ)
  refine ax_bk hK (ax_fc (ax_v_ld (ax_r_lload_n (i := 2) d_Z_inverse_28 rfl)) ax_fn) (y := (29, [(2, .inl (.long (v2)))], [.inl (.long (v2))], ax_m (s) ρ)) rfl ⟨trivial, trivial⟩ ?_
  cases h
  exact ax_lret hA d_Z_inverse_29
def y_Z_doStep : MethodName := ⟨"CipherNotationModel", "doStep", "(IZ)V"⟩
theorem d_Z_doStep_0 : decode prog_8_method_56_code 0 = .ok (.aload_n 0, 1) := by decide +kernel
theorem d_Z_doStep_1 : decode prog_8_method_56_code 1 = .ok (.getfield (111), 3) := by decide +kernel
theorem d_Z_doStep_4 : decode prog_8_method_56_code 4 = .ok (.iload_n 1, 1) := by decide +kernel
theorem d_Z_doStep_5 : decode prog_8_method_56_code 5 = .ok (.iaload, 1) := by decide +kernel
theorem d_Z_doStep_6 : decode prog_8_method_56_code 6 = .ok (.istore_n 3, 1) := by decide +kernel
theorem d_Z_doStep_7 : decode prog_8_method_56_code 7 = .ok (.aload_n 0, 1) := by decide +kernel
theorem d_Z_doStep_8 : decode prog_8_method_56_code 8 = .ok (.getfield (45), 3) := by decide +kernel
theorem d_Z_doStep_11 : decode prog_8_method_56_code 11 = .ok (.iload_n 3, 1) := by decide +kernel
theorem d_Z_doStep_12 : decode prog_8_method_56_code 12 = .ok (.iaload, 1) := by decide +kernel
theorem d_Z_doStep_13 : decode prog_8_method_56_code 13 = .ok (.istore (4), 2) := by decide +kernel
theorem d_Z_doStep_15 : decode prog_8_method_56_code 15 = .ok (.aload_n 0, 1) := by decide +kernel
theorem d_Z_doStep_16 : decode prog_8_method_56_code 16 = .ok (.getfield (139), 3) := by decide +kernel
theorem d_Z_doStep_19 : decode prog_8_method_56_code 19 = .ok (.iload (4), 2) := by decide +kernel
theorem d_Z_doStep_21 : decode prog_8_method_56_code 21 = .ok (.laload, 1) := by decide +kernel
theorem d_Z_doStep_22 : decode prog_8_method_56_code 22 = .ok (.lstore (5), 2) := by decide +kernel
theorem d_Z_doStep_24 : decode prog_8_method_56_code 24 = .ok (.aload_n 0, 1) := by decide +kernel
theorem d_Z_doStep_25 : decode prog_8_method_56_code 25 = .ok (.getfield (39), 3) := by decide +kernel
theorem d_Z_doStep_28 : decode prog_8_method_56_code 28 = .ok (.iload_n 3, 1) := by decide +kernel
theorem d_Z_doStep_29 : decode prog_8_method_56_code 29 = .ok (.iaload, 1) := by decide +kernel
theorem d_Z_doStep_30 : decode prog_8_method_56_code 30 = .ok (.tableswitch (320) (4) (11) #[46, 76, 76, 141, 180, 216, 262, 296], 46) := by decide +kernel
theorem d_Z_doStep_76 : decode prog_8_method_56_code 76 = .ok (.aload_n 0, 1) := by decide +kernel
theorem d_Z_doStep_77 : decode prog_8_method_56_code 77 = .ok (.getfield (139), 3) := by decide +kernel
theorem d_Z_doStep_80 : decode prog_8_method_56_code 80 = .ok (.iload (4), 2) := by decide +kernel
theorem d_Z_doStep_82 : decode prog_8_method_56_code 82 = .ok (.lload (5), 2) := by decide +kernel
theorem d_Z_doStep_84 : decode prog_8_method_56_code 84 = .ok (.aload_n 0, 1) := by decide +kernel
theorem d_Z_doStep_85 : decode prog_8_method_56_code 85 = .ok (.iload_n 3, 1) := by decide +kernel
theorem d_Z_doStep_86 : decode prog_8_method_56_code 86 = .ok (.aload_n 0, 1) := by decide +kernel
theorem d_Z_doStep_87 : decode prog_8_method_56_code 87 = .ok (.getfield (114), 3) := by decide +kernel
theorem d_Z_doStep_90 : decode prog_8_method_56_code 90 = .ok (.iload_n 1, 1) := by decide +kernel
theorem d_Z_doStep_91 : decode prog_8_method_56_code 91 = .ok (.iaload, 1) := by decide +kernel
theorem d_Z_doStep_92 : decode prog_8_method_56_code 92 = .ok (.aload_n 0, 1) := by decide +kernel
theorem d_Z_doStep_93 : decode prog_8_method_56_code 93 = .ok (.getfield (117), 3) := by decide +kernel
theorem d_Z_doStep_96 : decode prog_8_method_56_code 96 = .ok (.iload_n 1, 1) := by decide +kernel
theorem d_Z_doStep_97 : decode prog_8_method_56_code 97 = .ok (.iaload, 1) := by decide +kernel
theorem d_Z_doStep_98 : decode prog_8_method_56_code 98 = .ok (.invokevirtual (419), 3) := by decide +kernel
theorem d_Z_doStep_101 : decode prog_8_method_56_code 101 = .ok (.lxor, 1) := by decide +kernel
theorem d_Z_doStep_102 : decode prog_8_method_56_code 102 = .ok (.lastore, 1) := by decide +kernel
theorem d_Z_doStep_103 : decode prog_8_method_56_code 103 = .ok (.goto (293), 3) := by decide +kernel
theorem d_Z_doStep_106 : decode prog_8_method_56_code 106 = .ok (.aload_n 0, 1) := by decide +kernel
theorem d_Z_doStep_107 : decode prog_8_method_56_code 107 = .ok (.iload_n 3, 1) := by decide +kernel
theorem d_Z_doStep_108 : decode prog_8_method_56_code 108 = .ok (.aload_n 0, 1) := by decide +kernel
theorem d_Z_doStep_109 : decode prog_8_method_56_code 109 = .ok (.getfield (114), 3) := by decide +kernel
theorem d_Z_doStep_112 : decode prog_8_method_56_code 112 = .ok (.iload_n 1, 1) := by decide +kernel
theorem d_Z_doStep_113 : decode prog_8_method_56_code 113 = .ok (.iaload, 1) := by decide +kernel
theorem d_Z_doStep_114 : decode prog_8_method_56_code 114 = .ok (.aload_n 0, 1) := by decide +kernel
theorem d_Z_doStep_115 : decode prog_8_method_56_code 115 = .ok (.getfield (117), 3) := by decide +kernel
theorem d_Z_doStep_118 : decode prog_8_method_56_code 118 = .ok (.iload_n 1, 1) := by decide +kernel
theorem d_Z_doStep_119 : decode prog_8_method_56_code 119 = .ok (.iaload, 1) := by decide +kernel
theorem d_Z_doStep_120 : decode prog_8_method_56_code 120 = .ok (.invokevirtual (419), 3) := by decide +kernel
theorem d_Z_doStep_123 : decode prog_8_method_56_code 123 = .ok (.lstore (7), 2) := by decide +kernel
theorem d_Z_doStep_125 : decode prog_8_method_56_code 125 = .ok (.aload_n 0, 1) := by decide +kernel
theorem d_Z_doStep_126 : decode prog_8_method_56_code 126 = .ok (.getfield (139), 3) := by decide +kernel
theorem d_Z_doStep_129 : decode prog_8_method_56_code 129 = .ok (.iload (4), 2) := by decide +kernel
theorem d_Z_doStep_131 : decode prog_8_method_56_code 131 = .ok (.aload_n 0, 1) := by decide +kernel
theorem d_Z_doStep_132 : decode prog_8_method_56_code 132 = .ok (.aload_n 0, 1) := by decide +kernel
theorem d_Z_doStep_133 : decode prog_8_method_56_code 133 = .ok (.getfield (39), 3) := by decide +kernel
theorem d_Z_doStep_136 : decode prog_8_method_56_code 136 = .ok (.iload_n 3, 1) := by decide +kernel
theorem d_Z_doStep_137 : decode prog_8_method_56_code 137 = .ok (.iaload, 1) := by decide +kernel
theorem d_Z_doStep_138 : decode prog_8_method_56_code 138 = .ok (.iconst 5, 1) := by decide +kernel
theorem d_Z_doStep_139 : decode prog_8_method_56_code 139 = .ok (.if_icmp .ne (7), 3) := by decide +kernel
theorem d_Z_doStep_142 : decode prog_8_method_56_code 142 = .ok (.iconst 1, 1) := by decide +kernel
theorem d_Z_doStep_143 : decode prog_8_method_56_code 143 = .ok (.goto (4), 3) := by decide +kernel
theorem d_Z_doStep_146 : decode prog_8_method_56_code 146 = .ok (.iconst 0, 1) := by decide +kernel
theorem d_Z_doStep_147 : decode prog_8_method_56_code 147 = .ok (.iload_n 2, 1) := by decide +kernel
theorem d_Z_doStep_148 : decode prog_8_method_56_code 148 = .ok (.if_icmp .eq (11), 3) := by decide +kernel
theorem d_Z_doStep_151 : decode prog_8_method_56_code 151 = .ok (.lload (5), 2) := by decide +kernel
theorem d_Z_doStep_153 : decode prog_8_method_56_code 153 = .ok (.lload (7), 2) := by decide +kernel
theorem d_Z_doStep_155 : decode prog_8_method_56_code 155 = .ok (.ladd, 1) := by decide +kernel
theorem d_Z_doStep_156 : decode prog_8_method_56_code 156 = .ok (.goto (8), 3) := by decide +kernel
theorem d_Z_doStep_159 : decode prog_8_method_56_code 159 = .ok (.lload (5), 2) := by decide +kernel
theorem d_Z_doStep_161 : decode prog_8_method_56_code 161 = .ok (.lload (7), 2) := by decide +kernel
theorem d_Z_doStep_163 : decode prog_8_method_56_code 163 = .ok (.lsub, 1) := by decide +kernel
theorem d_Z_doStep_164 : decode prog_8_method_56_code 164 = .ok (.invokevirtual (395), 3) := by decide +kernel
theorem d_Z_doStep_167 : decode prog_8_method_56_code 167 = .ok (.lastore, 1) := by decide +kernel
theorem d_Z_doStep_168 : decode prog_8_method_56_code 168 = .ok (.goto (228), 3) := by decide +kernel
theorem d_Z_doStep_171 : decode prog_8_method_56_code 171 = .ok (.aload_n 0, 1) := by decide +kernel
theorem d_Z_doStep_172 : decode prog_8_method_56_code 172 = .ok (.getfield (139), 3) := by decide +kernel
theorem d_Z_doStep_175 : decode prog_8_method_56_code 175 = .ok (.iload (4), 2) := by decide +kernel
theorem d_Z_doStep_177 : decode prog_8_method_56_code 177 = .ok (.aload_n 0, 1) := by decide +kernel
theorem d_Z_doStep_178 : decode prog_8_method_56_code 178 = .ok (.lload (5), 2) := by decide +kernel
theorem d_Z_doStep_180 : decode prog_8_method_56_code 180 = .ok (.iload_n 2, 1) := by decide +kernel
theorem d_Z_doStep_181 : decode prog_8_method_56_code 181 = .ok (.ifCond .eq (15), 3) := by decide +kernel
theorem d_Z_doStep_184 : decode prog_8_method_56_code 184 = .ok (.aload_n 0, 1) := by decide +kernel
theorem d_Z_doStep_185 : decode prog_8_method_56_code 185 = .ok (.getfield (54), 3) := by decide +kernel
theorem d_Z_doStep_188 : decode prog_8_method_56_code 188 = .ok (.iload_n 3, 1) := by decide +kernel
theorem d_Z_doStep_189 : decode prog_8_method_56_code 189 = .ok (.laload, 1) := by decide +kernel
theorem d_Z_doStep_190 : decode prog_8_method_56_code 190 = .ok (.invokestatic (427), 3) := by decide +kernel
theorem d_Z_doStep_193 : decode prog_8_method_56_code 193 = .ok (.goto (9), 3) := by decide +kernel
theorem d_Z_doStep_196 : decode prog_8_method_56_code 196 = .ok (.aload_n 0, 1) := by decide +kernel
theorem d_Z_doStep_197 : decode prog_8_method_56_code 197 = .ok (.getfield (54), 3) := by decide +kernel
theorem d_Z_doStep_200 : decode prog_8_method_56_code 200 = .ok (.iload_n 3, 1) := by decide +kernel
theorem d_Z_doStep_201 : decode prog_8_method_56_code 201 = .ok (.laload, 1) := by decide +kernel
theorem d_Z_doStep_202 : decode prog_8_method_56_code 202 = .ok (.lmul, 1) := by decide +kernel
theorem d_Z_doStep_203 : decode prog_8_method_56_code 203 = .ok (.invokevirtual (395), 3) := by decide +kernel
theorem d_Z_doStep_206 : decode prog_8_method_56_code 206 = .ok (.lastore, 1) := by decide +kernel
theorem d_Z_doStep_207 : decode prog_8_method_56_code 207 = .ok (.goto (189), 3) := by decide +kernel
theorem d_Z_doStep_210 : decode prog_8_method_56_code 210 = .ok (.aload_n 0, 1) := by decide +kernel
theorem d_Z_doStep_211 : decode prog_8_method_56_code 211 = .ok (.getfield (139), 3) := by decide +kernel
theorem d_Z_doStep_214 : decode prog_8_method_56_code 214 = .ok (.iload (4), 2) := by decide +kernel
theorem d_Z_doStep_216 : decode prog_8_method_56_code 216 = .ok (.aload_n 0, 1) := by decide +kernel
theorem d_Z_doStep_217 : decode prog_8_method_56_code 217 = .ok (.lload (5), 2) := by decide +kernel
theorem d_Z_doStep_219 : decode prog_8_method_56_code 219 = .ok (.iload_n 2, 1) := by decide +kernel
theorem d_Z_doStep_220 : decode prog_8_method_56_code 220 = .ok (.ifCond .eq (13), 3) := by decide +kernel
theorem d_Z_doStep_223 : decode prog_8_method_56_code 223 = .ok (.aload_n 0, 1) := by decide +kernel
theorem d_Z_doStep_224 : decode prog_8_method_56_code 224 = .ok (.getfield (54), 3) := by decide +kernel
theorem d_Z_doStep_227 : decode prog_8_method_56_code 227 = .ok (.iload_n 3, 1) := by decide +kernel
theorem d_Z_doStep_228 : decode prog_8_method_56_code 228 = .ok (.laload, 1) := by decide +kernel
theorem d_Z_doStep_229 : decode prog_8_method_56_code 229 = .ok (.lneg, 1) := by decide +kernel
theorem d_Z_doStep_230 : decode prog_8_method_56_code 230 = .ok (.goto (9), 3) := by decide +kernel
theorem d_Z_doStep_233 : decode prog_8_method_56_code 233 = .ok (.aload_n 0, 1) := by decide +kernel
theorem d_Z_doStep_234 : decode prog_8_method_56_code 234 = .ok (.getfield (54), 3) := by decide +kernel
theorem d_Z_doStep_237 : decode prog_8_method_56_code 237 = .ok (.iload_n 3, 1) := by decide +kernel
theorem d_Z_doStep_238 : decode prog_8_method_56_code 238 = .ok (.laload, 1) := by decide +kernel
theorem d_Z_doStep_239 : decode prog_8_method_56_code 239 = .ok (.invokevirtual (411), 3) := by decide +kernel
theorem d_Z_doStep_242 : decode prog_8_method_56_code 242 = .ok (.lastore, 1) := by decide +kernel
theorem d_Z_doStep_243 : decode prog_8_method_56_code 243 = .ok (.goto (153), 3) := by decide +kernel
theorem d_Z_doStep_246 : decode prog_8_method_56_code 246 = .ok (.aload_n 0, 1) := by decide +kernel
theorem d_Z_doStep_247 : decode prog_8_method_56_code 247 = .ok (.getfield (139), 3) := by decide +kernel
theorem d_Z_doStep_250 : decode prog_8_method_56_code 250 = .ok (.iload (4), 2) := by decide +kernel
theorem d_Z_doStep_252 : decode prog_8_method_56_code 252 = .ok (.aload_n 0, 1) := by decide +kernel
theorem d_Z_doStep_253 : decode prog_8_method_56_code 253 = .ok (.lload (5), 2) := by decide +kernel
theorem d_Z_doStep_255 : decode prog_8_method_56_code 255 = .ok (.iload_n 2, 1) := by decide +kernel
theorem d_Z_doStep_256 : decode prog_8_method_56_code 256 = .ok (.ifCond .eq (18), 3) := by decide +kernel
theorem d_Z_doStep_259 : decode prog_8_method_56_code 259 = .ok (.aload_n 0, 1) := by decide +kernel
theorem d_Z_doStep_260 : decode prog_8_method_56_code 260 = .ok (.getfield (139), 3) := by decide +kernel
theorem d_Z_doStep_263 : decode prog_8_method_56_code 263 = .ok (.aload_n 0, 1) := by decide +kernel
theorem d_Z_doStep_264 : decode prog_8_method_56_code 264 = .ok (.getfield (48), 3) := by decide +kernel
theorem d_Z_doStep_267 : decode prog_8_method_56_code 267 = .ok (.iload_n 3, 1) := by decide +kernel
theorem d_Z_doStep_268 : decode prog_8_method_56_code 268 = .ok (.iaload, 1) := by decide +kernel
theorem d_Z_doStep_269 : decode prog_8_method_56_code 269 = .ok (.laload, 1) := by decide +kernel
theorem d_Z_doStep_270 : decode prog_8_method_56_code 270 = .ok (.lneg, 1) := by decide +kernel
theorem d_Z_doStep_271 : decode prog_8_method_56_code 271 = .ok (.goto (14), 3) := by decide +kernel
theorem d_Z_doStep_274 : decode prog_8_method_56_code 274 = .ok (.aload_n 0, 1) := by decide +kernel
theorem d_Z_doStep_275 : decode prog_8_method_56_code 275 = .ok (.getfield (139), 3) := by decide +kernel
theorem d_Z_doStep_278 : decode prog_8_method_56_code 278 = .ok (.aload_n 0, 1) := by decide +kernel
theorem d_Z_doStep_279 : decode prog_8_method_56_code 279 = .ok (.getfield (48), 3) := by decide +kernel
theorem d_Z_doStep_282 : decode prog_8_method_56_code 282 = .ok (.iload_n 3, 1) := by decide +kernel
theorem d_Z_doStep_283 : decode prog_8_method_56_code 283 = .ok (.iaload, 1) := by decide +kernel
theorem d_Z_doStep_284 : decode prog_8_method_56_code 284 = .ok (.laload, 1) := by decide +kernel
theorem d_Z_doStep_285 : decode prog_8_method_56_code 285 = .ok (.invokevirtual (411), 3) := by decide +kernel
theorem d_Z_doStep_288 : decode prog_8_method_56_code 288 = .ok (.lastore, 1) := by decide +kernel
theorem d_Z_doStep_289 : decode prog_8_method_56_code 289 = .ok (.goto (107), 3) := by decide +kernel
theorem d_Z_doStep_292 : decode prog_8_method_56_code 292 = .ok (.aload_n 0, 1) := by decide +kernel
theorem d_Z_doStep_293 : decode prog_8_method_56_code 293 = .ok (.getfield (139), 3) := by decide +kernel
theorem d_Z_doStep_296 : decode prog_8_method_56_code 296 = .ok (.iload (4), 2) := by decide +kernel
theorem d_Z_doStep_298 : decode prog_8_method_56_code 298 = .ok (.aload_n 0, 1) := by decide +kernel
theorem d_Z_doStep_299 : decode prog_8_method_56_code 299 = .ok (.getfield (139), 3) := by decide +kernel
theorem d_Z_doStep_302 : decode prog_8_method_56_code 302 = .ok (.aload_n 0, 1) := by decide +kernel
theorem d_Z_doStep_303 : decode prog_8_method_56_code 303 = .ok (.getfield (48), 3) := by decide +kernel
theorem d_Z_doStep_306 : decode prog_8_method_56_code 306 = .ok (.iload_n 3, 1) := by decide +kernel
theorem d_Z_doStep_307 : decode prog_8_method_56_code 307 = .ok (.iaload, 1) := by decide +kernel
theorem d_Z_doStep_308 : decode prog_8_method_56_code 308 = .ok (.laload, 1) := by decide +kernel
theorem d_Z_doStep_309 : decode prog_8_method_56_code 309 = .ok (.lastore, 1) := by decide +kernel
theorem d_Z_doStep_310 : decode prog_8_method_56_code 310 = .ok (.aload_n 0, 1) := by decide +kernel
theorem d_Z_doStep_311 : decode prog_8_method_56_code 311 = .ok (.getfield (139), 3) := by decide +kernel
theorem d_Z_doStep_314 : decode prog_8_method_56_code 314 = .ok (.aload_n 0, 1) := by decide +kernel
theorem d_Z_doStep_315 : decode prog_8_method_56_code 315 = .ok (.getfield (48), 3) := by decide +kernel
theorem d_Z_doStep_318 : decode prog_8_method_56_code 318 = .ok (.iload_n 3, 1) := by decide +kernel
theorem d_Z_doStep_319 : decode prog_8_method_56_code 319 = .ok (.iaload, 1) := by decide +kernel
theorem d_Z_doStep_320 : decode prog_8_method_56_code 320 = .ok (.lload (5), 2) := by decide +kernel
theorem d_Z_doStep_322 : decode prog_8_method_56_code 322 = .ok (.lastore, 1) := by decide +kernel
theorem d_Z_doStep_323 : decode prog_8_method_56_code 323 = .ok (.goto (73), 3) := by decide +kernel
theorem d_Z_doStep_326 : decode prog_8_method_56_code 326 = .ok (.aload_n 0, 1) := by decide +kernel
theorem d_Z_doStep_327 : decode prog_8_method_56_code 327 = .ok (.getfield (139), 3) := by decide +kernel
theorem d_Z_doStep_330 : decode prog_8_method_56_code 330 = .ok (.iload (4), 2) := by decide +kernel
theorem d_Z_doStep_332 : decode prog_8_method_56_code 332 = .ok (.aload_n 0, 1) := by decide +kernel
theorem d_Z_doStep_333 : decode prog_8_method_56_code 333 = .ok (.aload_n 0, 1) := by decide +kernel
theorem d_Z_doStep_334 : decode prog_8_method_56_code 334 = .ok (.getfield (54), 3) := by decide +kernel
theorem d_Z_doStep_337 : decode prog_8_method_56_code 337 = .ok (.iload_n 3, 1) := by decide +kernel
theorem d_Z_doStep_338 : decode prog_8_method_56_code 338 = .ok (.laload, 1) := by decide +kernel
theorem d_Z_doStep_339 : decode prog_8_method_56_code 339 = .ok (.l2i, 1) := by decide +kernel
theorem d_Z_doStep_340 : decode prog_8_method_56_code 340 = .ok (.lload (5), 2) := by decide +kernel
theorem d_Z_doStep_342 : decode prog_8_method_56_code 342 = .ok (.iload_n 2, 1) := by decide +kernel
theorem d_Z_doStep_343 : decode prog_8_method_56_code 343 = .ok (.invokevirtual (430), 3) := by decide +kernel
theorem d_Z_doStep_346 : decode prog_8_method_56_code 346 = .ok (.lastore, 1) := by decide +kernel
theorem d_Z_doStep_347 : decode prog_8_method_56_code 347 = .ok (.goto (49), 3) := by decide +kernel
theorem d_Z_doStep_350 : decode prog_8_method_56_code 350 = .ok (.iconst 0, 1) := by decide +kernel
theorem d_Z_doStep_351 : decode prog_8_method_56_code 351 = .ok (.istore (9), 2) := by decide +kernel
theorem d_Z_doStep_353 : decode prog_8_method_56_code 353 = .ok (.iload (9), 2) := by decide +kernel
theorem d_Z_doStep_355 : decode prog_8_method_56_code 355 = .ok (.iload_n 2, 1) := by decide +kernel
theorem d_Z_doStep_356 : decode prog_8_method_56_code 356 = .ok (.ifCond .eq (12), 3) := by decide +kernel
theorem d_Z_doStep_359 : decode prog_8_method_56_code 359 = .ok (.aload_n 0, 1) := by decide +kernel
theorem d_Z_doStep_360 : decode prog_8_method_56_code 360 = .ok (.invokevirtual (391), 3) := by decide +kernel
theorem d_Z_doStep_363 : decode prog_8_method_56_code 363 = .ok (.iconst 1, 1) := by decide +kernel
theorem d_Z_doStep_364 : decode prog_8_method_56_code 364 = .ok (.isub, 1) := by decide +kernel
theorem d_Z_doStep_365 : decode prog_8_method_56_code 365 = .ok (.goto (4), 3) := by decide +kernel
theorem d_Z_doStep_368 : decode prog_8_method_56_code 368 = .ok (.iconst 1, 1) := by decide +kernel
theorem d_Z_doStep_369 : decode prog_8_method_56_code 369 = .ok (.if_icmp .ge (18), 3) := by decide +kernel
theorem d_Z_doStep_372 : decode prog_8_method_56_code 372 = .ok (.aload_n 0, 1) := by decide +kernel
theorem d_Z_doStep_373 : decode prog_8_method_56_code 373 = .ok (.iload_n 3, 1) := by decide +kernel
theorem d_Z_doStep_374 : decode prog_8_method_56_code 374 = .ok (.lload (5), 2) := by decide +kernel
theorem d_Z_doStep_376 : decode prog_8_method_56_code 376 = .ok (.invokevirtual (434), 3) := by decide +kernel
theorem d_Z_doStep_379 : decode prog_8_method_56_code 379 = .ok (.lstore (5), 2) := by decide +kernel
theorem d_Z_doStep_381 : decode prog_8_method_56_code 381 = .ok (.iinc 9 (1), 3) := by decide +kernel
theorem d_Z_doStep_384 : decode prog_8_method_56_code 384 = .ok (.goto (-31), 3) := by decide +kernel
theorem d_Z_doStep_387 : decode prog_8_method_56_code 387 = .ok (.aload_n 0, 1) := by decide +kernel
theorem d_Z_doStep_388 : decode prog_8_method_56_code 388 = .ok (.getfield (139), 3) := by decide +kernel
theorem d_Z_doStep_391 : decode prog_8_method_56_code 391 = .ok (.iload (4), 2) := by decide +kernel
theorem d_Z_doStep_393 : decode prog_8_method_56_code 393 = .ok (.lload (5), 2) := by decide +kernel
theorem d_Z_doStep_395 : decode prog_8_method_56_code 395 = .ok (.lastore, 1) := by decide +kernel
theorem d_Z_doStep_396 : decode prog_8_method_56_code 396 = .ok (.return_, 1) := by decide +kernel
set_option maxRecDepth 100000 in
theorem cw_Z_434 : ax_cw "CipherNotationModel" 434 y_Z_spread (.code y_Z_spread prog_8_method_52_code 7 (some .long)) 2 := ⟨nw_6 147 (by decide +kernel) rfl, nw_1 7 (by decide +kernel) rfl, nw_6 150 rfl rfl, by decide +kernel, by decide +kernel⟩
theorem im_Z_spread : Cond.instanceMethod y_Z_spread ∈ ax_tbl := nw_6 149 (by decide +kernel) rfl
theorem se_Z_spread : Cond.selects y_Z_spread.cls y_Z_spread y_Z_spread ∈ ax_tbl := nw_sel 89 (by decide +kernel) (by decide +kernel)
def lp_Z_doStep_353 (F : Nat) (x2 : Int32) (x3 : Int32) (x4 : Int32) (s : ax_σ) : Nat → Int64 → Int32 → Option (Int64)
  | 0, _, _ => none
  | n + 1, x5, x9 =>
    Option.bind (
      if x2 = (0 : Int32) then
        some (1 : Int32)
      else
        Option.bind (f_Z_width s) (fun r80 =>
          some (r80 - (1 : Int32)))) (fun v83 =>
      if v83 ≤ x9 then
        some x5
      else
        Option.bind (f_Z_spread F x3 x5 s) (fun r84 =>
          lp_Z_doStep_353 F x2 x3 x4 s n r84 (x9 + (1 : Int32))))
set_option maxHeartbeats 4000000 in
set_option maxRecDepth 100000 in
theorem pl_Z_doStep_353 {D : va_G} {cA : Nat → ClassId} {ad : Nat → Nat → Nat} {al : List (Nat × Nat)} {θ : ax_Θ} {l : Launch} {ρ : ax_ρ} {G : ax_G} {F : Nat} {x2 : Int32} {x3 : Int32} {x4 : Int32} {s : ax_σ} (h0 : ax_M0 al) (hB : ax_B D cA ad al θ l "CipherNotationModel" prog_8_method_56_code 10 4 G) : ∀ (n : Nat) {x5 : Int64} {x9 : Int32} (out : Int64), lp_Z_doStep_353 F x2 x3 x4 s n x5 x9 = some out → (∀ (e5 : Int64), out = e5 → ax_R G 10 0 0 (387, [(0, .inr (0, 38)), (4, .inl (.int (x4))), (5, .inl (.long (e5)))], [], ax_m (s) ρ)) → ax_R G 10 0 0 (353, [(0, .inr (0, 38)), (2, .inl (.int (x2))), (3, .inl (.int (x3))), (4, .inl (.int (x4))), (5, .inl (.long (x5))), (9, .inl (.int (x9)))], [], ax_m (s) ρ) := by
  have hK := hB.K
  have hal := hB.la
  intro n
  induction n with
  | zero =>
    intro x5 x9 out h
    cases h
  | succ n ih =>
    intro x5 x9 out h KE
    rw [lp_Z_doStep_353] at h
    refine ax_bk hK (ax_fc (ax_v_ld (ax_r_iload d_Z_doStep_353)) (ax_fc (ax_v_ld (ax_r_iload_n (i := 2) d_Z_doStep_355 rfl)) ax_fn)) (y := (356, [(0, .inr (0, 38)), (2, .inl (.int (x2))), (3, .inl (.int (x3))), (4, .inl (.int (x4))), (5, .inl (.long (x5))), (9, .inl (.int (x9)))], [.inl (.int (x2)), .inl (.int (x9))], ax_m (s) ρ)) rfl ⟨trivial, trivial, trivial⟩ ?_
    obtain ⟨w87, hw87, h⟩ := ax_bd h
    have KEw87 : ∀ (v83 : Int32), w87 = v83 → ax_R G 10 0 0 (369, [(0, .inr (0, 38)), (2, .inl (.int (x2))), (3, .inl (.int (x3))), (4, .inl (.int (x4))), (5, .inl (.long (x5))), (9, .inl (.int (x9)))], [.inl (.int (v83)), .inl (.int (x9))], ax_m (s) ρ) := by
      intro v83 e9
      subst w87
      try dsimp only at h
      refine ax_ic_ge (tgt := 387) hK d_Z_doStep_369 (by decide) (fun c86 => ?_) (fun c86 => ?_)
      · replace h := ax_it c86 h
        cases h
        exact ax_Lsub [0, 3, 4] rfl (KE _ rfl)
      · replace h := ax_if c86 h
        refine ax_bk hK (ax_fc (ax_v_ld (ax_r_aload_n (i := 0) d_Z_doStep_372 rfl)) (ax_fc (ax_v_ld (ax_r_iload_n (i := 3) d_Z_doStep_373 rfl)) (ax_fc (ax_v_ld (ax_r_lload d_Z_doStep_374)) ax_fn))) (y := (376, [(0, .inr (0, 38)), (2, .inl (.int (x2))), (3, .inl (.int (x3))), (4, .inl (.int (x4))), (5, .inl (.long (x5))), (9, .inl (.int (x9)))], [.inl (.long (x5)), .inl (.int (x3)), .inr (0, 38)], ax_m (s) ρ)) rfl ⟨trivial, trivial, trivial, trivial⟩ ?_
        obtain ⟨r84, q85, h⟩ := ax_bd h
        refine ax_bV (rest := []) hB (t_Z_spread h0 q85) cw_Z_434 im_Z_spread se_Z_spread d_Z_doStep_376 (h0 38 rfl) rfl rfl (by decide) (by decide) rfl rfl (Nat.le_of_ble_eq_true rfl) ?_
        change ax_R G 10 0 0 (379, [(0, .inr (0, 38)), (2, .inl (.int (x2))), (3, .inl (.int (x3))), (4, .inl (.int (x4))), (5, .inl (.long (x5))), (9, .inl (.int (x9)))], [.inl (.long (r84))], ax_m (s) ρ)
        refine ax_bk hK (ax_fc (ax_v_so (ax_r_lstore d_Z_doStep_379)) (ax_fc (ax_v_ii (d := 1) d_Z_doStep_381 (by decide)) (ax_fc (ax_v_go (tgt := 353) d_Z_doStep_384 (by decide)) ax_fn))) (y := (353, [(9, .inl (.int ((x9 + (1 : Int32))))), (5, .inl (.long (r84))), (0, .inr (0, 38)), (2, .inl (.int (x2))), (3, .inl (.int (x3))), (4, .inl (.int (x4)))], [], ax_m (s) ρ)) rfl ⟨trivial, trivial, trivial, trivial⟩ ?_
        exact ax_Lsub [2, 3, 4, 5, 1, 0] rfl (ih _ h KE)
    clear h
    have h := hw87
    refine ax_if_eq (tgt := 368) hK d_Z_doStep_356 (by decide) (fun c82 => ?_) (fun c82 => ?_)
    · replace h := ax_it c82 h
      refine ax_bk hK (ax_fc (ax_v_pu (ax_r_iconst (v := 1) d_Z_doStep_368 (by decide))) ax_fn) (y := (369, [(0, .inr (0, 38)), (2, .inl (.int (x2))), (3, .inl (.int (x3))), (4, .inl (.int (x4))), (5, .inl (.long (x5))), (9, .inl (.int (x9)))], [.inl (.int ((1 : Int32))), .inl (.int (x9))], ax_m (s) ρ)) rfl ⟨trivial, trivial⟩ ?_
      cases h
      exact ax_Lsub [0, 1, 2, 3, 4, 5] rfl (KEw87 _ rfl)
    · replace h := ax_if c82 h
      refine ax_bk hK (ax_fc (ax_v_ld (ax_r_aload_n (i := 0) d_Z_doStep_359 rfl)) ax_fn) (y := (360, [(0, .inr (0, 38)), (2, .inl (.int (x2))), (3, .inl (.int (x3))), (4, .inl (.int (x4))), (5, .inl (.long (x5))), (9, .inl (.int (x9)))], [.inr (0, 38), .inl (.int (x9))], ax_m (s) ρ)) rfl ⟨trivial, trivial⟩ ?_
      obtain ⟨r80, q81, h⟩ := ax_bd h
      refine ax_bV (rest := [.inl (.int (x9))]) hB (t_Z_width h0 q81) cw_Z_391 im_Z_width se_Z_width d_Z_doStep_360 (h0 38 rfl) rfl rfl (by decide) (by decide) rfl rfl (Nat.le_of_ble_eq_true rfl) ?_
      change ax_R G 10 0 0 (363, [(0, .inr (0, 38)), (2, .inl (.int (x2))), (3, .inl (.int (x3))), (4, .inl (.int (x4))), (5, .inl (.long (x5))), (9, .inl (.int (x9)))], [.inl (.int (r80)), .inl (.int (x9))], ax_m (s) ρ)
      refine ax_bk hK (ax_fc (ax_v_pu (ax_r_iconst (v := 1) d_Z_doStep_363 (by decide))) (ax_fc (ax_v_pu (ax_r_isub d_Z_doStep_364)) (ax_fc (ax_v_go (tgt := 369) d_Z_doStep_365 (by decide)) ax_fn))) (y := (369, [(0, .inr (0, 38)), (2, .inl (.int (x2))), (3, .inl (.int (x3))), (4, .inl (.int (x4))), (5, .inl (.long (x5))), (9, .inl (.int (x9)))], [.inl (.int ((r80 - (1 : Int32)))), .inl (.int (x9))], ax_m (s) ρ)) rfl ⟨trivial, trivial, trivial, trivial⟩ ?_
      cases h
      exact ax_Lsub [0, 1, 2, 3, 4, 5] rfl (KEw87 _ rfl)
set_option maxRecDepth 100000 in
theorem cw_Z_427 : ax_cw "CipherNotationModel" 427 y_Z_inverse (.code y_Z_inverse prog_8_method_55_code 5 (some .long)) 1 := ⟨nw_6 140 (by decide +kernel) rfl, nw_1 7 (by decide +kernel) rfl, nw_6 142 rfl rfl, by decide +kernel, by decide +kernel⟩
theorem sm_Z_inverse : Cond.static y_Z_inverse ∈ ax_tbl := nw_6 141 (by decide +kernel) rfl
set_option maxRecDepth 100000 in
theorem cw_Z_430 : ax_cw "CipherNotationModel" 430 y_Z_replaced (.code y_Z_replaced prog_8_method_54_code 8 (some .long)) 3 := ⟨nw_6 143 (by decide +kernel) rfl, nw_1 7 (by decide +kernel) rfl, nw_6 146 rfl rfl, by decide +kernel, by decide +kernel⟩
theorem im_Z_replaced : Cond.instanceMethod y_Z_replaced ∈ ax_tbl := nw_6 145 (by decide +kernel) rfl
theorem se_Z_replaced : Cond.selects y_Z_replaced.cls y_Z_replaced y_Z_replaced ∈ ax_tbl := nw_sel 88 (by decide +kernel) (by decide +kernel)
def f_Z_doStep (F : Nat) (a1 : Int32) (a2 : Int32) (s : ax_σ) : Option (ax_σ) :=
  bif ax_in a1 400 then
  bif ax_in (s.1 0 71 (a1).toNatClampNeg) 240 then
  bif ax_in (s.1 0 49 ((s.1 0 71 (a1).toNatClampNeg)).toNatClampNeg) 4 then
  bif ax_in (s.1 0 71 (a1).toNatClampNeg) 240 then
  if (s.1 0 47 ((s.1 0 71 (a1).toNatClampNeg)).toNatClampNeg) = (4 : Int32) then
    bif ax_in a1 400 then
    bif ax_in a1 400 then
    Option.bind (f_Z_valueOf F (s.1 0 71 (a1).toNatClampNeg) (s.1 0 72 (a1).toNatClampNeg) (s.1 0 73 (a1).toNatClampNeg) s) (fun (r7, s8) =>
      bif ax_in (s.1 0 49 ((s.1 0 71 (a1).toNatClampNeg)).toNatClampNeg) 4 then
      ax_let (ax_wL s8 0 80 ((s.1 0 49 ((s.1 0 71 (a1).toNatClampNeg)).toNatClampNeg)).toNatClampNeg ((s.2 0 80 ((s.1 0 49 ((s.1 0 71 (a1).toNatClampNeg)).toNatClampNeg)).toNatClampNeg) ^^^ r7)) (fun s11 =>
        some (s11))
      else none)
    else none
    else none
  else
  if (s.1 0 47 ((s.1 0 71 (a1).toNatClampNeg)).toNatClampNeg) = (5 : Int32) then
    bif ax_in a1 400 then
    bif ax_in a1 400 then
    Option.bind (f_Z_valueOf F (s.1 0 71 (a1).toNatClampNeg) (s.1 0 72 (a1).toNatClampNeg) (s.1 0 73 (a1).toNatClampNeg) s) (fun (r14, s15) =>
      bif ax_in (s.1 0 71 (a1).toNatClampNeg) 240 then
      Option.bind (
        if (s15.1 0 47 ((s.1 0 71 (a1).toNatClampNeg)).toNatClampNeg) = (5 : Int32) then
          some (1 : Int32)
        else
          some (0 : Int32)) (fun v19 =>
        Option.bind (
          if v19 = a2 then
            some ((s.2 0 80 ((s.1 0 49 ((s.1 0 71 (a1).toNatClampNeg)).toNatClampNeg)).toNatClampNeg) - r14)
          else
            some ((s.2 0 80 ((s.1 0 49 ((s.1 0 71 (a1).toNatClampNeg)).toNatClampNeg)).toNatClampNeg) + r14)) (fun v21 =>
          Option.bind (f_Z_cut v21 s15) (fun r22 =>
            bif ax_in (s.1 0 49 ((s.1 0 71 (a1).toNatClampNeg)).toNatClampNeg) 4 then
            ax_let (ax_wL s15 0 80 ((s.1 0 49 ((s.1 0 71 (a1).toNatClampNeg)).toNatClampNeg)).toNatClampNeg r22) (fun s25 =>
              some (s25))
            else none)))
      else none)
    else none
    else none
  else
  if (s.1 0 47 ((s.1 0 71 (a1).toNatClampNeg)).toNatClampNeg) = (6 : Int32) then
    bif ax_in a1 400 then
    bif ax_in a1 400 then
    Option.bind (f_Z_valueOf F (s.1 0 71 (a1).toNatClampNeg) (s.1 0 72 (a1).toNatClampNeg) (s.1 0 73 (a1).toNatClampNeg) s) (fun (r28, s29) =>
      bif ax_in (s.1 0 71 (a1).toNatClampNeg) 240 then
      Option.bind (
        if (s29.1 0 47 ((s.1 0 71 (a1).toNatClampNeg)).toNatClampNeg) = (5 : Int32) then
          some (1 : Int32)
        else
          some (0 : Int32)) (fun v33 =>
        Option.bind (
          if v33 = a2 then
            some ((s.2 0 80 ((s.1 0 49 ((s.1 0 71 (a1).toNatClampNeg)).toNatClampNeg)).toNatClampNeg) - r28)
          else
            some ((s.2 0 80 ((s.1 0 49 ((s.1 0 71 (a1).toNatClampNeg)).toNatClampNeg)).toNatClampNeg) + r28)) (fun v35 =>
          Option.bind (f_Z_cut v35 s29) (fun r36 =>
            bif ax_in (s.1 0 49 ((s.1 0 71 (a1).toNatClampNeg)).toNatClampNeg) 4 then
            ax_let (ax_wL s29 0 80 ((s.1 0 49 ((s.1 0 71 (a1).toNatClampNeg)).toNatClampNeg)).toNatClampNeg r36) (fun s39 =>
              some (s39))
            else none)))
      else none)
    else none
    else none
  else
  if (s.1 0 47 ((s.1 0 71 (a1).toNatClampNeg)).toNatClampNeg) = (7 : Int32) then
    Option.bind (
      if a2 = (0 : Int32) then
        bif ax_in (s.1 0 71 (a1).toNatClampNeg) 240 then
        some (s.2 0 52 ((s.1 0 71 (a1).toNatClampNeg)).toNatClampNeg)
        else none
      else
        bif ax_in (s.1 0 71 (a1).toNatClampNeg) 240 then
        Option.bind (f_Z_inverse F (s.2 0 52 ((s.1 0 71 (a1).toNatClampNeg)).toNatClampNeg) s) (fun r42 =>
          some r42)
        else none) (fun v45 =>
      Option.bind (f_Z_cut ((s.2 0 80 ((s.1 0 49 ((s.1 0 71 (a1).toNatClampNeg)).toNatClampNeg)).toNatClampNeg) * v45) s) (fun r46 =>
        bif ax_in (s.1 0 49 ((s.1 0 71 (a1).toNatClampNeg)).toNatClampNeg) 4 then
        ax_let (ax_wL s 0 80 ((s.1 0 49 ((s.1 0 71 (a1).toNatClampNeg)).toNatClampNeg)).toNatClampNeg r46) (fun s49 =>
          some (s49))
        else none))
  else
  if (s.1 0 47 ((s.1 0 71 (a1).toNatClampNeg)).toNatClampNeg) = (8 : Int32) then
    Option.bind (
      if a2 = (0 : Int32) then
        bif ax_in (s.1 0 71 (a1).toNatClampNeg) 240 then
        some (s.2 0 52 ((s.1 0 71 (a1).toNatClampNeg)).toNatClampNeg)
        else none
      else
        bif ax_in (s.1 0 71 (a1).toNatClampNeg) 240 then
        some (-(s.2 0 52 ((s.1 0 71 (a1).toNatClampNeg)).toNatClampNeg))
        else none) (fun v53 =>
      Option.bind (f_Z_turned (s.2 0 80 ((s.1 0 49 ((s.1 0 71 (a1).toNatClampNeg)).toNatClampNeg)).toNatClampNeg) v53 s) (fun r54 =>
        bif ax_in (s.1 0 49 ((s.1 0 71 (a1).toNatClampNeg)).toNatClampNeg) 4 then
        ax_let (ax_wL s 0 80 ((s.1 0 49 ((s.1 0 71 (a1).toNatClampNeg)).toNatClampNeg)).toNatClampNeg r54) (fun s57 =>
          some (s57))
        else none))
  else
  if (s.1 0 47 ((s.1 0 71 (a1).toNatClampNeg)).toNatClampNeg) = (9 : Int32) then
    Option.bind (
      if a2 = (0 : Int32) then
        bif ax_in (s.1 0 71 (a1).toNatClampNeg) 240 then
        bif ax_in (s.1 0 50 ((s.1 0 71 (a1).toNatClampNeg)).toNatClampNeg) 4 then
        some (s.2 0 80 ((s.1 0 50 ((s.1 0 71 (a1).toNatClampNeg)).toNatClampNeg)).toNatClampNeg)
        else none
        else none
      else
        bif ax_in (s.1 0 71 (a1).toNatClampNeg) 240 then
        bif ax_in (s.1 0 50 ((s.1 0 71 (a1).toNatClampNeg)).toNatClampNeg) 4 then
        some (-(s.2 0 80 ((s.1 0 50 ((s.1 0 71 (a1).toNatClampNeg)).toNatClampNeg)).toNatClampNeg))
        else none
        else none) (fun v63 =>
      Option.bind (f_Z_turned (s.2 0 80 ((s.1 0 49 ((s.1 0 71 (a1).toNatClampNeg)).toNatClampNeg)).toNatClampNeg) v63 s) (fun r64 =>
        bif ax_in (s.1 0 49 ((s.1 0 71 (a1).toNatClampNeg)).toNatClampNeg) 4 then
        ax_let (ax_wL s 0 80 ((s.1 0 49 ((s.1 0 71 (a1).toNatClampNeg)).toNatClampNeg)).toNatClampNeg r64) (fun s67 =>
          some (s67))
        else none))
  else
  if (s.1 0 47 ((s.1 0 71 (a1).toNatClampNeg)).toNatClampNeg) = (10 : Int32) then
    bif ax_in (s.1 0 71 (a1).toNatClampNeg) 240 then
    bif ax_in (s.1 0 50 ((s.1 0 71 (a1).toNatClampNeg)).toNatClampNeg) 4 then
    bif ax_in (s.1 0 49 ((s.1 0 71 (a1).toNatClampNeg)).toNatClampNeg) 4 then
    ax_let (ax_wL s 0 80 ((s.1 0 49 ((s.1 0 71 (a1).toNatClampNeg)).toNatClampNeg)).toNatClampNeg (s.2 0 80 ((s.1 0 50 ((s.1 0 71 (a1).toNatClampNeg)).toNatClampNeg)).toNatClampNeg)) (fun s71 =>
      bif ax_in (s.1 0 71 (a1).toNatClampNeg) 240 then
      bif ax_in (s71.1 0 50 ((s.1 0 71 (a1).toNatClampNeg)).toNatClampNeg) 4 then
      ax_let (ax_wL s71 0 80 ((s71.1 0 50 ((s.1 0 71 (a1).toNatClampNeg)).toNatClampNeg)).toNatClampNeg (s.2 0 80 ((s.1 0 49 ((s.1 0 71 (a1).toNatClampNeg)).toNatClampNeg)).toNatClampNeg)) (fun s74 =>
        some (s74))
      else none
      else none)
    else none
    else none
    else none
  else
  if (s.1 0 47 ((s.1 0 71 (a1).toNatClampNeg)).toNatClampNeg) = (11 : Int32) then
    bif ax_in (s.1 0 71 (a1).toNatClampNeg) 240 then
    Option.bind (f_Z_replaced F (((s.2 0 52 ((s.1 0 71 (a1).toNatClampNeg)).toNatClampNeg)).toInt32) (s.2 0 80 ((s.1 0 49 ((s.1 0 71 (a1).toNatClampNeg)).toNatClampNeg)).toNatClampNeg) a2 s) (fun r76 =>
      bif ax_in (s.1 0 49 ((s.1 0 71 (a1).toNatClampNeg)).toNatClampNeg) 4 then
      ax_let (ax_wL s 0 80 ((s.1 0 49 ((s.1 0 71 (a1).toNatClampNeg)).toNatClampNeg)).toNatClampNeg r76) (fun s79 =>
        some (s79))
      else none)
    else none
  else
    Option.bind (lp_Z_doStep_353 F a2 (s.1 0 71 (a1).toNatClampNeg) (s.1 0 49 ((s.1 0 71 (a1).toNatClampNeg)).toNatClampNeg) s F (s.2 0 80 ((s.1 0 49 ((s.1 0 71 (a1).toNatClampNeg)).toNatClampNeg)).toNatClampNeg) (0 : Int32)) (fun v87 =>
      bif ax_in (s.1 0 49 ((s.1 0 71 (a1).toNatClampNeg)).toNatClampNeg) 4 then
      ax_let (ax_wL s 0 80 ((s.1 0 49 ((s.1 0 71 (a1).toNatClampNeg)).toNatClampNeg)).toNatClampNeg v87) (fun s89 =>
        some (s89))
      else none)
  else none
  else none
  else none
  else none
set_option maxHeartbeats 4000000 in
set_option maxRecDepth 100000 in
theorem t_Z_doStep {l : Launch} {D : va_G} {cA : Nat → ClassId} {ad : Nat → Nat → Nat} {al : List (Nat × Nat)} {θ : ax_Θ} {ρ : ax_ρ} {F : Nat} (h0 : ax_M0 al) {a1 : Int32} {a2 : Int32} {s : ax_σ} {s0 : ax_σ} (h : f_Z_doStep F a1 a2 s = some s0) : ax_T l D cA ad al θ y_Z_doStep (.code y_Z_doStep prog_8_method_56_code 10 none) 4 [.inr (0, 38), .inl (.int (a1)), .inl (.int (a2))] (ax_m s ρ) none (ax_m s0 ρ) := by
  refine ax_T_of (own := "CipherNotationModel") (by decide) rfl (Nat.le_of_ble_eq_true rfl) [(0, .inr (0, 38)), (1, .inl (.int (a1))), (2, .inl (.int (a2)))] rfl ?_
  intro G hA
  have hB := hA.B
  have hK := hB.K
  have hal := hB.la
  unfold f_Z_doStep at h
  obtain ⟨b1, h⟩ := ax_gd h
  obtain ⟨b2, h⟩ := ax_gd h
  obtain ⟨b3, h⟩ := ax_gd h
  obtain ⟨b4, h⟩ := ax_gd h
  refine ax_bk hK (ax_fc (ax_v_ld (ax_r_aload_n (i := 0) d_Z_doStep_0 rfl)) (ax_fc (ax_w_gf (e := none) hal d_Z_doStep_1 fd_Z_111) (ax_fc (ax_v_ld (ax_r_iload_n (i := 1) d_Z_doStep_4 rfl)) (ax_fc (ax_w_iald hal d_Z_doStep_5) (ax_fc (ax_v_so (ax_r_istore_n (i := 3) d_Z_doStep_6 rfl)) (ax_fc (ax_v_ld (ax_r_aload_n (i := 0) d_Z_doStep_7 rfl)) (ax_fc (ax_w_gf (e := none) hal d_Z_doStep_8 fd_Z_45) (ax_fc (ax_v_ld (ax_r_iload_n (i := 3) d_Z_doStep_11 rfl)) (ax_fc (ax_w_iald hal d_Z_doStep_12) (ax_fc (ax_v_so (ax_r_istore d_Z_doStep_13)) (ax_fc (ax_v_ld (ax_r_aload_n (i := 0) d_Z_doStep_15 rfl)) (ax_fc (ax_w_gf (e := none) hal d_Z_doStep_16 fd_Z_139) (ax_fc (ax_v_ld (ax_r_iload d_Z_doStep_19)) (ax_fc (ax_w_lald hal d_Z_doStep_21) (ax_fc (ax_v_so (ax_r_lstore d_Z_doStep_22)) (ax_fc (ax_v_ld (ax_r_aload_n (i := 0) d_Z_doStep_24 rfl)) (ax_fc (ax_w_gf (e := none) hal d_Z_doStep_25 fd_Z_39) (ax_fc (ax_v_ld (ax_r_iload_n (i := 3) d_Z_doStep_28 rfl)) (ax_fc (ax_w_iald hal d_Z_doStep_29) ax_fn))))))))))))))))))) (y := (30, [(5, .inl (.long ((s.2 0 80 ((s.1 0 49 ((s.1 0 71 (a1).toNatClampNeg)).toNatClampNeg)).toNatClampNeg)))), (4, .inl (.int ((s.1 0 49 ((s.1 0 71 (a1).toNatClampNeg)).toNatClampNeg)))), (3, .inl (.int ((s.1 0 71 (a1).toNatClampNeg)))), (0, .inr (0, 38)), (1, .inl (.int (a1))), (2, .inl (.int (a2)))], [.inl (.int ((s.1 0 47 ((s.1 0 71 (a1).toNatClampNeg)).toNatClampNeg)))], ax_m (s) ρ)) rfl ⟨trivial, (h0 38 rfl), trivial, ⟨(h0 71 rfl), ax_inp b1⟩, trivial, trivial, (h0 38 rfl), trivial, ⟨(h0 49 rfl), ax_inp b2⟩, trivial, trivial, (h0 38 rfl), trivial, ⟨(h0 80 rfl), ax_inp b3⟩, trivial, trivial, (h0 38 rfl), trivial, ⟨(h0 47 rfl), ax_inp b4⟩, trivial⟩ ?_
  refine ax_tsw (d := 350) (ks := [(4, 76), (5, 106), (6, 106), (7, 171), (8, 210), (9, 246), (10, 292), (11, 326)]) hK d_Z_doStep_30 (by decide) (by decide) (by decide) ?_
  refine And.intro (fun c90 => ?_) (fun c90 => ?_)
  · replace h := ax_it c90 h
    change ax_R G 10 0 0 (76, [(5, .inl (.long ((s.2 0 80 ((s.1 0 49 ((s.1 0 71 (a1).toNatClampNeg)).toNatClampNeg)).toNatClampNeg)))), (4, .inl (.int ((s.1 0 49 ((s.1 0 71 (a1).toNatClampNeg)).toNatClampNeg)))), (3, .inl (.int ((s.1 0 71 (a1).toNatClampNeg)))), (0, .inr (0, 38)), (1, .inl (.int (a1))), (2, .inl (.int (a2)))], [], ax_m (s) ρ)
    obtain ⟨b5, h⟩ := ax_gd h
    obtain ⟨b6, h⟩ := ax_gd h
    refine ax_bk hK (ax_fc (ax_v_ld (ax_r_aload_n (i := 0) d_Z_doStep_76 rfl)) (ax_fc (ax_w_gf (e := none) hal d_Z_doStep_77 fd_Z_139) (ax_fc (ax_v_ld (ax_r_iload d_Z_doStep_80)) (ax_fc (ax_v_ld (ax_r_lload d_Z_doStep_82)) (ax_fc (ax_v_ld (ax_r_aload_n (i := 0) d_Z_doStep_84 rfl)) (ax_fc (ax_v_ld (ax_r_iload_n (i := 3) d_Z_doStep_85 rfl)) (ax_fc (ax_v_ld (ax_r_aload_n (i := 0) d_Z_doStep_86 rfl)) (ax_fc (ax_w_gf (e := none) hal d_Z_doStep_87 fd_Z_114) (ax_fc (ax_v_ld (ax_r_iload_n (i := 1) d_Z_doStep_90 rfl)) (ax_fc (ax_w_iald hal d_Z_doStep_91) (ax_fc (ax_v_ld (ax_r_aload_n (i := 0) d_Z_doStep_92 rfl)) (ax_fc (ax_w_gf (e := none) hal d_Z_doStep_93 fd_Z_117) (ax_fc (ax_v_ld (ax_r_iload_n (i := 1) d_Z_doStep_96 rfl)) (ax_fc (ax_w_iald hal d_Z_doStep_97) ax_fn)))))))))))))) (y := (98, [(5, .inl (.long ((s.2 0 80 ((s.1 0 49 ((s.1 0 71 (a1).toNatClampNeg)).toNatClampNeg)).toNatClampNeg)))), (4, .inl (.int ((s.1 0 49 ((s.1 0 71 (a1).toNatClampNeg)).toNatClampNeg)))), (3, .inl (.int ((s.1 0 71 (a1).toNatClampNeg)))), (0, .inr (0, 38)), (1, .inl (.int (a1))), (2, .inl (.int (a2)))], [.inl (.int ((s.1 0 73 (a1).toNatClampNeg))), .inl (.int ((s.1 0 72 (a1).toNatClampNeg))), .inl (.int ((s.1 0 71 (a1).toNatClampNeg))), .inr (0, 38), .inl (.long ((s.2 0 80 ((s.1 0 49 ((s.1 0 71 (a1).toNatClampNeg)).toNatClampNeg)).toNatClampNeg))), .inl (.int ((s.1 0 49 ((s.1 0 71 (a1).toNatClampNeg)).toNatClampNeg))), .inr (0, 80)], ax_m (s) ρ)) rfl ⟨trivial, (h0 38 rfl), trivial, trivial, trivial, trivial, trivial, (h0 38 rfl), trivial, ⟨(h0 72 rfl), ax_inp b5⟩, trivial, (h0 38 rfl), trivial, ⟨(h0 73 rfl), ax_inp b6⟩, trivial⟩ ?_
    obtain ⟨⟨r7, s8⟩, q9, h⟩ := ax_bd h
    dsimp only at h
    refine ax_bV (rest := [.inl (.long ((s.2 0 80 ((s.1 0 49 ((s.1 0 71 (a1).toNatClampNeg)).toNatClampNeg)).toNatClampNeg))), .inl (.int ((s.1 0 49 ((s.1 0 71 (a1).toNatClampNeg)).toNatClampNeg))), .inr (0, 80)]) hB (t_Z_valueOf h0 q9) cw_Z_419 im_Z_valueOf se_Z_valueOf d_Z_doStep_98 (h0 38 rfl) rfl rfl (by decide) (by decide) rfl rfl (Nat.le_of_ble_eq_true rfl) ?_
    change ax_R G 10 0 0 (101, [(5, .inl (.long ((s.2 0 80 ((s.1 0 49 ((s.1 0 71 (a1).toNatClampNeg)).toNatClampNeg)).toNatClampNeg)))), (4, .inl (.int ((s.1 0 49 ((s.1 0 71 (a1).toNatClampNeg)).toNatClampNeg)))), (3, .inl (.int ((s.1 0 71 (a1).toNatClampNeg)))), (0, .inr (0, 38)), (1, .inl (.int (a1))), (2, .inl (.int (a2)))], [.inl (.long (r7)), .inl (.long ((s.2 0 80 ((s.1 0 49 ((s.1 0 71 (a1).toNatClampNeg)).toNatClampNeg)).toNatClampNeg))), .inl (.int ((s.1 0 49 ((s.1 0 71 (a1).toNatClampNeg)).toNatClampNeg))), .inr (0, 80)], ax_m (s8) ρ)
    obtain ⟨b10, h⟩ := ax_gd h
    refine ax_bk hK (ax_fc (ax_v_pu (ax_r_lxor d_Z_doStep_101)) (ax_fc (ax_w_last hal d_Z_doStep_102) ax_fn)) (y := (103, [(5, .inl (.long ((s.2 0 80 ((s.1 0 49 ((s.1 0 71 (a1).toNatClampNeg)).toNatClampNeg)).toNatClampNeg)))), (4, .inl (.int ((s.1 0 49 ((s.1 0 71 (a1).toNatClampNeg)).toNatClampNeg)))), (3, .inl (.int ((s.1 0 71 (a1).toNatClampNeg)))), (0, .inr (0, 38)), (1, .inl (.int (a1))), (2, .inl (.int (a2)))], [], ax_m (ax_wL s8 0 80 ((s.1 0 49 ((s.1 0 71 (a1).toNatClampNeg)).toNatClampNeg)).toNatClampNeg ((s.2 0 80 ((s.1 0 49 ((s.1 0 71 (a1).toNatClampNeg)).toNatClampNeg)).toNatClampNeg) ^^^ r7)) ρ)) rfl ⟨trivial, ⟨(h0 80 rfl), ax_inp b10⟩, trivial⟩ ?_
    refine ax_lt (Q := fun ςς => ax_R G 10 0 0 (103, [(5, .inl (.long ((s.2 0 80 ((s.1 0 49 ((s.1 0 71 (a1).toNatClampNeg)).toNatClampNeg)).toNatClampNeg)))), (4, .inl (.int ((s.1 0 49 ((s.1 0 71 (a1).toNatClampNeg)).toNatClampNeg)))), (3, .inl (.int ((s.1 0 71 (a1).toNatClampNeg)))), (0, .inr (0, 38)), (1, .inl (.int (a1))), (2, .inl (.int (a2)))], [], ax_m (ςς) ρ)) h (fun s11 h => ?_)
    refine ax_bk hK (ax_fc (ax_v_go (tgt := 396) d_Z_doStep_103 (by decide)) ax_fn) (y := (396, [(5, .inl (.long ((s.2 0 80 ((s.1 0 49 ((s.1 0 71 (a1).toNatClampNeg)).toNatClampNeg)).toNatClampNeg)))), (4, .inl (.int ((s.1 0 49 ((s.1 0 71 (a1).toNatClampNeg)).toNatClampNeg)))), (3, .inl (.int ((s.1 0 71 (a1).toNatClampNeg)))), (0, .inr (0, 38)), (1, .inl (.int (a1))), (2, .inl (.int (a2)))], [], ax_m (s11) ρ)) rfl ⟨trivial, trivial⟩ ?_
    cases h
    exact ax_vret hA d_Z_doStep_396
  replace h := ax_if c90 h
  refine And.intro (fun c90 => ?_) (fun c90 => ?_)
  · replace h := ax_it c90 h
    change ax_R G 10 0 0 (106, [(5, .inl (.long ((s.2 0 80 ((s.1 0 49 ((s.1 0 71 (a1).toNatClampNeg)).toNatClampNeg)).toNatClampNeg)))), (4, .inl (.int ((s.1 0 49 ((s.1 0 71 (a1).toNatClampNeg)).toNatClampNeg)))), (3, .inl (.int ((s.1 0 71 (a1).toNatClampNeg)))), (0, .inr (0, 38)), (1, .inl (.int (a1))), (2, .inl (.int (a2)))], [], ax_m (s) ρ)
    obtain ⟨b12, h⟩ := ax_gd h
    obtain ⟨b13, h⟩ := ax_gd h
    refine ax_bk hK (ax_fc (ax_v_ld (ax_r_aload_n (i := 0) d_Z_doStep_106 rfl)) (ax_fc (ax_v_ld (ax_r_iload_n (i := 3) d_Z_doStep_107 rfl)) (ax_fc (ax_v_ld (ax_r_aload_n (i := 0) d_Z_doStep_108 rfl)) (ax_fc (ax_w_gf (e := none) hal d_Z_doStep_109 fd_Z_114) (ax_fc (ax_v_ld (ax_r_iload_n (i := 1) d_Z_doStep_112 rfl)) (ax_fc (ax_w_iald hal d_Z_doStep_113) (ax_fc (ax_v_ld (ax_r_aload_n (i := 0) d_Z_doStep_114 rfl)) (ax_fc (ax_w_gf (e := none) hal d_Z_doStep_115 fd_Z_117) (ax_fc (ax_v_ld (ax_r_iload_n (i := 1) d_Z_doStep_118 rfl)) (ax_fc (ax_w_iald hal d_Z_doStep_119) ax_fn)))))))))) (y := (120, [(5, .inl (.long ((s.2 0 80 ((s.1 0 49 ((s.1 0 71 (a1).toNatClampNeg)).toNatClampNeg)).toNatClampNeg)))), (4, .inl (.int ((s.1 0 49 ((s.1 0 71 (a1).toNatClampNeg)).toNatClampNeg)))), (3, .inl (.int ((s.1 0 71 (a1).toNatClampNeg)))), (0, .inr (0, 38)), (1, .inl (.int (a1))), (2, .inl (.int (a2)))], [.inl (.int ((s.1 0 73 (a1).toNatClampNeg))), .inl (.int ((s.1 0 72 (a1).toNatClampNeg))), .inl (.int ((s.1 0 71 (a1).toNatClampNeg))), .inr (0, 38)], ax_m (s) ρ)) rfl ⟨trivial, trivial, trivial, (h0 38 rfl), trivial, ⟨(h0 72 rfl), ax_inp b12⟩, trivial, (h0 38 rfl), trivial, ⟨(h0 73 rfl), ax_inp b13⟩, trivial⟩ ?_
    obtain ⟨⟨r14, s15⟩, q16, h⟩ := ax_bd h
    dsimp only at h
    refine ax_bV (rest := []) hB (t_Z_valueOf h0 q16) cw_Z_419 im_Z_valueOf se_Z_valueOf d_Z_doStep_120 (h0 38 rfl) rfl rfl (by decide) (by decide) rfl rfl (Nat.le_of_ble_eq_true rfl) ?_
    change ax_R G 10 0 0 (123, [(5, .inl (.long ((s.2 0 80 ((s.1 0 49 ((s.1 0 71 (a1).toNatClampNeg)).toNatClampNeg)).toNatClampNeg)))), (4, .inl (.int ((s.1 0 49 ((s.1 0 71 (a1).toNatClampNeg)).toNatClampNeg)))), (3, .inl (.int ((s.1 0 71 (a1).toNatClampNeg)))), (0, .inr (0, 38)), (1, .inl (.int (a1))), (2, .inl (.int (a2)))], [.inl (.long (r14))], ax_m (s15) ρ)
    obtain ⟨b17, h⟩ := ax_gd h
    refine ax_bk hK (ax_fc (ax_v_so (ax_r_lstore d_Z_doStep_123)) (ax_fc (ax_v_ld (ax_r_aload_n (i := 0) d_Z_doStep_125 rfl)) (ax_fc (ax_w_gf (e := none) hal d_Z_doStep_126 fd_Z_139) (ax_fc (ax_v_ld (ax_r_iload d_Z_doStep_129)) (ax_fc (ax_v_ld (ax_r_aload_n (i := 0) d_Z_doStep_131 rfl)) (ax_fc (ax_v_ld (ax_r_aload_n (i := 0) d_Z_doStep_132 rfl)) (ax_fc (ax_w_gf (e := none) hal d_Z_doStep_133 fd_Z_39) (ax_fc (ax_v_ld (ax_r_iload_n (i := 3) d_Z_doStep_136 rfl)) (ax_fc (ax_w_iald hal d_Z_doStep_137) (ax_fc (ax_v_pu (ax_r_iconst (v := 5) d_Z_doStep_138 (by decide))) ax_fn)))))))))) (y := (139, [(7, .inl (.long (r14))), (5, .inl (.long ((s.2 0 80 ((s.1 0 49 ((s.1 0 71 (a1).toNatClampNeg)).toNatClampNeg)).toNatClampNeg)))), (4, .inl (.int ((s.1 0 49 ((s.1 0 71 (a1).toNatClampNeg)).toNatClampNeg)))), (3, .inl (.int ((s.1 0 71 (a1).toNatClampNeg)))), (0, .inr (0, 38)), (1, .inl (.int (a1))), (2, .inl (.int (a2)))], [.inl (.int ((5 : Int32))), .inl (.int ((s15.1 0 47 ((s.1 0 71 (a1).toNatClampNeg)).toNatClampNeg))), .inr (0, 38), .inl (.int ((s.1 0 49 ((s.1 0 71 (a1).toNatClampNeg)).toNatClampNeg))), .inr (0, 80)], ax_m (s15) ρ)) rfl ⟨trivial, trivial, (h0 38 rfl), trivial, trivial, trivial, (h0 38 rfl), trivial, ⟨(h0 47 rfl), ax_inp b17⟩, trivial, trivial⟩ ?_
    obtain ⟨w91, hw91, h⟩ := ax_bd h
    have KEw91 : ∀ (v19 : Int32), w91 = v19 → ax_R G 10 0 0 (147, [(2, .inl (.int (a2))), (5, .inl (.long ((s.2 0 80 ((s.1 0 49 ((s.1 0 71 (a1).toNatClampNeg)).toNatClampNeg)).toNatClampNeg)))), (7, .inl (.long (r14)))], [.inl (.int (v19)), .inr (0, 38), .inl (.int ((s.1 0 49 ((s.1 0 71 (a1).toNatClampNeg)).toNatClampNeg))), .inr (0, 80)], ax_m (s15) ρ) := by
      intro v19 e9
      subst w91
      try dsimp only at h
      refine ax_bk hK (ax_fc (ax_v_ld (ax_r_iload_n (i := 2) d_Z_doStep_147 rfl)) ax_fn) (y := (148, [(2, .inl (.int (a2))), (5, .inl (.long ((s.2 0 80 ((s.1 0 49 ((s.1 0 71 (a1).toNatClampNeg)).toNatClampNeg)).toNatClampNeg)))), (7, .inl (.long (r14)))], [.inl (.int (a2)), .inl (.int (v19)), .inr (0, 38), .inl (.int ((s.1 0 49 ((s.1 0 71 (a1).toNatClampNeg)).toNatClampNeg))), .inr (0, 80)], ax_m (s15) ρ)) rfl ⟨trivial, trivial⟩ ?_
      obtain ⟨w92, hw92, h⟩ := ax_bd h
      have KEw92 : ∀ (v21 : Int64), w92 = v21 → ax_R G 10 0 0 (164, [], [.inl (.long (v21)), .inr (0, 38), .inl (.int ((s.1 0 49 ((s.1 0 71 (a1).toNatClampNeg)).toNatClampNeg))), .inr (0, 80)], ax_m (s15) ρ) := by
        intro v21 e9
        subst w92
        try dsimp only at h
        obtain ⟨r22, q23, h⟩ := ax_bd h
        refine ax_bV (rest := [.inl (.int ((s.1 0 49 ((s.1 0 71 (a1).toNatClampNeg)).toNatClampNeg))), .inr (0, 80)]) hB (t_Z_cut h0 q23) cw_Z_395 im_Z_cut se_Z_cut d_Z_doStep_164 (h0 38 rfl) rfl rfl (by decide) (by decide) rfl rfl (Nat.le_of_ble_eq_true rfl) ?_
        change ax_R G 10 0 0 (167, [], [.inl (.long (r22)), .inl (.int ((s.1 0 49 ((s.1 0 71 (a1).toNatClampNeg)).toNatClampNeg))), .inr (0, 80)], ax_m (s15) ρ)
        obtain ⟨b24, h⟩ := ax_gd h
        refine ax_bk hK (ax_fc (ax_w_last hal d_Z_doStep_167) ax_fn) (y := (168, [], [], ax_m (ax_wL s15 0 80 ((s.1 0 49 ((s.1 0 71 (a1).toNatClampNeg)).toNatClampNeg)).toNatClampNeg r22) ρ)) rfl ⟨⟨(h0 80 rfl), ax_inp b24⟩, trivial⟩ ?_
        refine ax_lt (Q := fun ςς => ax_R G 10 0 0 (168, [], [], ax_m (ςς) ρ)) h (fun s25 h => ?_)
        refine ax_bk hK (ax_fc (ax_v_go (tgt := 396) d_Z_doStep_168 (by decide)) ax_fn) (y := (396, [], [], ax_m (s25) ρ)) rfl ⟨trivial, trivial⟩ ?_
        cases h
        exact ax_vret hA d_Z_doStep_396
      clear h
      have h := hw92
      refine ax_ic_eq (tgt := 159) hK d_Z_doStep_148 (by decide) (fun c20 => ?_) (fun c20 => ?_)
      · replace h := ax_it c20 h
        refine ax_bk hK (ax_fc (ax_v_ld (ax_r_lload d_Z_doStep_159)) (ax_fc (ax_v_ld (ax_r_lload d_Z_doStep_161)) (ax_fc (ax_v_pu (ax_r_lsub d_Z_doStep_163)) ax_fn))) (y := (164, [(2, .inl (.int (a2))), (5, .inl (.long ((s.2 0 80 ((s.1 0 49 ((s.1 0 71 (a1).toNatClampNeg)).toNatClampNeg)).toNatClampNeg)))), (7, .inl (.long (r14)))], [.inl (.long (((s.2 0 80 ((s.1 0 49 ((s.1 0 71 (a1).toNatClampNeg)).toNatClampNeg)).toNatClampNeg) - r14))), .inr (0, 38), .inl (.int ((s.1 0 49 ((s.1 0 71 (a1).toNatClampNeg)).toNatClampNeg))), .inr (0, 80)], ax_m (s15) ρ)) rfl ⟨trivial, trivial, trivial, trivial⟩ ?_
        cases h
        exact ax_Lsub [] rfl (KEw92 _ rfl)
      · replace h := ax_if c20 h
        refine ax_bk hK (ax_fc (ax_v_ld (ax_r_lload d_Z_doStep_151)) (ax_fc (ax_v_ld (ax_r_lload d_Z_doStep_153)) (ax_fc (ax_v_pu (ax_r_ladd d_Z_doStep_155)) (ax_fc (ax_v_go (tgt := 164) d_Z_doStep_156 (by decide)) ax_fn)))) (y := (164, [(2, .inl (.int (a2))), (5, .inl (.long ((s.2 0 80 ((s.1 0 49 ((s.1 0 71 (a1).toNatClampNeg)).toNatClampNeg)).toNatClampNeg)))), (7, .inl (.long (r14)))], [.inl (.long (((s.2 0 80 ((s.1 0 49 ((s.1 0 71 (a1).toNatClampNeg)).toNatClampNeg)).toNatClampNeg) + r14))), .inr (0, 38), .inl (.int ((s.1 0 49 ((s.1 0 71 (a1).toNatClampNeg)).toNatClampNeg))), .inr (0, 80)], ax_m (s15) ρ)) rfl ⟨trivial, trivial, trivial, trivial, trivial⟩ ?_
        cases h
        exact ax_Lsub [] rfl (KEw92 _ rfl)
    clear h
    have h := hw91
    refine ax_ic_ne (tgt := 146) hK d_Z_doStep_139 (by decide) (fun c18 => ?_) (fun c18 => ?_)
    · replace h := ax_if c18 h
      refine ax_bk hK (ax_fc (ax_v_pu (ax_r_iconst (v := 0) d_Z_doStep_146 (by decide))) ax_fn) (y := (147, [(7, .inl (.long (r14))), (5, .inl (.long ((s.2 0 80 ((s.1 0 49 ((s.1 0 71 (a1).toNatClampNeg)).toNatClampNeg)).toNatClampNeg)))), (4, .inl (.int ((s.1 0 49 ((s.1 0 71 (a1).toNatClampNeg)).toNatClampNeg)))), (3, .inl (.int ((s.1 0 71 (a1).toNatClampNeg)))), (0, .inr (0, 38)), (1, .inl (.int (a1))), (2, .inl (.int (a2)))], [.inl (.int ((0 : Int32))), .inr (0, 38), .inl (.int ((s.1 0 49 ((s.1 0 71 (a1).toNatClampNeg)).toNatClampNeg))), .inr (0, 80)], ax_m (s15) ρ)) rfl ⟨trivial, trivial⟩ ?_
      cases h
      exact ax_Lsub [6, 1, 0] rfl (KEw91 _ rfl)
    · replace h := ax_it c18 h
      refine ax_bk hK (ax_fc (ax_v_pu (ax_r_iconst (v := 1) d_Z_doStep_142 (by decide))) (ax_fc (ax_v_go (tgt := 147) d_Z_doStep_143 (by decide)) ax_fn)) (y := (147, [(7, .inl (.long (r14))), (5, .inl (.long ((s.2 0 80 ((s.1 0 49 ((s.1 0 71 (a1).toNatClampNeg)).toNatClampNeg)).toNatClampNeg)))), (4, .inl (.int ((s.1 0 49 ((s.1 0 71 (a1).toNatClampNeg)).toNatClampNeg)))), (3, .inl (.int ((s.1 0 71 (a1).toNatClampNeg)))), (0, .inr (0, 38)), (1, .inl (.int (a1))), (2, .inl (.int (a2)))], [.inl (.int ((1 : Int32))), .inr (0, 38), .inl (.int ((s.1 0 49 ((s.1 0 71 (a1).toNatClampNeg)).toNatClampNeg))), .inr (0, 80)], ax_m (s15) ρ)) rfl ⟨trivial, trivial, trivial⟩ ?_
      cases h
      exact ax_Lsub [6, 1, 0] rfl (KEw91 _ rfl)
  replace h := ax_if c90 h
  refine And.intro (fun c90 => ?_) (fun c90 => ?_)
  · replace h := ax_it c90 h
    change ax_R G 10 0 0 (106, [(5, .inl (.long ((s.2 0 80 ((s.1 0 49 ((s.1 0 71 (a1).toNatClampNeg)).toNatClampNeg)).toNatClampNeg)))), (4, .inl (.int ((s.1 0 49 ((s.1 0 71 (a1).toNatClampNeg)).toNatClampNeg)))), (3, .inl (.int ((s.1 0 71 (a1).toNatClampNeg)))), (0, .inr (0, 38)), (1, .inl (.int (a1))), (2, .inl (.int (a2)))], [], ax_m (s) ρ)
    obtain ⟨b26, h⟩ := ax_gd h
    obtain ⟨b27, h⟩ := ax_gd h
    refine ax_bk hK (ax_fc (ax_v_ld (ax_r_aload_n (i := 0) d_Z_doStep_106 rfl)) (ax_fc (ax_v_ld (ax_r_iload_n (i := 3) d_Z_doStep_107 rfl)) (ax_fc (ax_v_ld (ax_r_aload_n (i := 0) d_Z_doStep_108 rfl)) (ax_fc (ax_w_gf (e := none) hal d_Z_doStep_109 fd_Z_114) (ax_fc (ax_v_ld (ax_r_iload_n (i := 1) d_Z_doStep_112 rfl)) (ax_fc (ax_w_iald hal d_Z_doStep_113) (ax_fc (ax_v_ld (ax_r_aload_n (i := 0) d_Z_doStep_114 rfl)) (ax_fc (ax_w_gf (e := none) hal d_Z_doStep_115 fd_Z_117) (ax_fc (ax_v_ld (ax_r_iload_n (i := 1) d_Z_doStep_118 rfl)) (ax_fc (ax_w_iald hal d_Z_doStep_119) ax_fn)))))))))) (y := (120, [(5, .inl (.long ((s.2 0 80 ((s.1 0 49 ((s.1 0 71 (a1).toNatClampNeg)).toNatClampNeg)).toNatClampNeg)))), (4, .inl (.int ((s.1 0 49 ((s.1 0 71 (a1).toNatClampNeg)).toNatClampNeg)))), (3, .inl (.int ((s.1 0 71 (a1).toNatClampNeg)))), (0, .inr (0, 38)), (1, .inl (.int (a1))), (2, .inl (.int (a2)))], [.inl (.int ((s.1 0 73 (a1).toNatClampNeg))), .inl (.int ((s.1 0 72 (a1).toNatClampNeg))), .inl (.int ((s.1 0 71 (a1).toNatClampNeg))), .inr (0, 38)], ax_m (s) ρ)) rfl ⟨trivial, trivial, trivial, (h0 38 rfl), trivial, ⟨(h0 72 rfl), ax_inp b26⟩, trivial, (h0 38 rfl), trivial, ⟨(h0 73 rfl), ax_inp b27⟩, trivial⟩ ?_
    obtain ⟨⟨r28, s29⟩, q30, h⟩ := ax_bd h
    dsimp only at h
    refine ax_bV (rest := []) hB (t_Z_valueOf h0 q30) cw_Z_419 im_Z_valueOf se_Z_valueOf d_Z_doStep_120 (h0 38 rfl) rfl rfl (by decide) (by decide) rfl rfl (Nat.le_of_ble_eq_true rfl) ?_
    change ax_R G 10 0 0 (123, [(5, .inl (.long ((s.2 0 80 ((s.1 0 49 ((s.1 0 71 (a1).toNatClampNeg)).toNatClampNeg)).toNatClampNeg)))), (4, .inl (.int ((s.1 0 49 ((s.1 0 71 (a1).toNatClampNeg)).toNatClampNeg)))), (3, .inl (.int ((s.1 0 71 (a1).toNatClampNeg)))), (0, .inr (0, 38)), (1, .inl (.int (a1))), (2, .inl (.int (a2)))], [.inl (.long (r28))], ax_m (s29) ρ)
    obtain ⟨b31, h⟩ := ax_gd h
    refine ax_bk hK (ax_fc (ax_v_so (ax_r_lstore d_Z_doStep_123)) (ax_fc (ax_v_ld (ax_r_aload_n (i := 0) d_Z_doStep_125 rfl)) (ax_fc (ax_w_gf (e := none) hal d_Z_doStep_126 fd_Z_139) (ax_fc (ax_v_ld (ax_r_iload d_Z_doStep_129)) (ax_fc (ax_v_ld (ax_r_aload_n (i := 0) d_Z_doStep_131 rfl)) (ax_fc (ax_v_ld (ax_r_aload_n (i := 0) d_Z_doStep_132 rfl)) (ax_fc (ax_w_gf (e := none) hal d_Z_doStep_133 fd_Z_39) (ax_fc (ax_v_ld (ax_r_iload_n (i := 3) d_Z_doStep_136 rfl)) (ax_fc (ax_w_iald hal d_Z_doStep_137) (ax_fc (ax_v_pu (ax_r_iconst (v := 5) d_Z_doStep_138 (by decide))) ax_fn)))))))))) (y := (139, [(7, .inl (.long (r28))), (5, .inl (.long ((s.2 0 80 ((s.1 0 49 ((s.1 0 71 (a1).toNatClampNeg)).toNatClampNeg)).toNatClampNeg)))), (4, .inl (.int ((s.1 0 49 ((s.1 0 71 (a1).toNatClampNeg)).toNatClampNeg)))), (3, .inl (.int ((s.1 0 71 (a1).toNatClampNeg)))), (0, .inr (0, 38)), (1, .inl (.int (a1))), (2, .inl (.int (a2)))], [.inl (.int ((5 : Int32))), .inl (.int ((s29.1 0 47 ((s.1 0 71 (a1).toNatClampNeg)).toNatClampNeg))), .inr (0, 38), .inl (.int ((s.1 0 49 ((s.1 0 71 (a1).toNatClampNeg)).toNatClampNeg))), .inr (0, 80)], ax_m (s29) ρ)) rfl ⟨trivial, trivial, (h0 38 rfl), trivial, trivial, trivial, (h0 38 rfl), trivial, ⟨(h0 47 rfl), ax_inp b31⟩, trivial, trivial⟩ ?_
    obtain ⟨w93, hw93, h⟩ := ax_bd h
    have KEw93 : ∀ (v33 : Int32), w93 = v33 → ax_R G 10 0 0 (147, [(2, .inl (.int (a2))), (5, .inl (.long ((s.2 0 80 ((s.1 0 49 ((s.1 0 71 (a1).toNatClampNeg)).toNatClampNeg)).toNatClampNeg)))), (7, .inl (.long (r28)))], [.inl (.int (v33)), .inr (0, 38), .inl (.int ((s.1 0 49 ((s.1 0 71 (a1).toNatClampNeg)).toNatClampNeg))), .inr (0, 80)], ax_m (s29) ρ) := by
      intro v33 e9
      subst w93
      try dsimp only at h
      refine ax_bk hK (ax_fc (ax_v_ld (ax_r_iload_n (i := 2) d_Z_doStep_147 rfl)) ax_fn) (y := (148, [(2, .inl (.int (a2))), (5, .inl (.long ((s.2 0 80 ((s.1 0 49 ((s.1 0 71 (a1).toNatClampNeg)).toNatClampNeg)).toNatClampNeg)))), (7, .inl (.long (r28)))], [.inl (.int (a2)), .inl (.int (v33)), .inr (0, 38), .inl (.int ((s.1 0 49 ((s.1 0 71 (a1).toNatClampNeg)).toNatClampNeg))), .inr (0, 80)], ax_m (s29) ρ)) rfl ⟨trivial, trivial⟩ ?_
      obtain ⟨w94, hw94, h⟩ := ax_bd h
      have KEw94 : ∀ (v35 : Int64), w94 = v35 → ax_R G 10 0 0 (164, [], [.inl (.long (v35)), .inr (0, 38), .inl (.int ((s.1 0 49 ((s.1 0 71 (a1).toNatClampNeg)).toNatClampNeg))), .inr (0, 80)], ax_m (s29) ρ) := by
        intro v35 e9
        subst w94
        try dsimp only at h
        obtain ⟨r36, q37, h⟩ := ax_bd h
        refine ax_bV (rest := [.inl (.int ((s.1 0 49 ((s.1 0 71 (a1).toNatClampNeg)).toNatClampNeg))), .inr (0, 80)]) hB (t_Z_cut h0 q37) cw_Z_395 im_Z_cut se_Z_cut d_Z_doStep_164 (h0 38 rfl) rfl rfl (by decide) (by decide) rfl rfl (Nat.le_of_ble_eq_true rfl) ?_
        change ax_R G 10 0 0 (167, [], [.inl (.long (r36)), .inl (.int ((s.1 0 49 ((s.1 0 71 (a1).toNatClampNeg)).toNatClampNeg))), .inr (0, 80)], ax_m (s29) ρ)
        obtain ⟨b38, h⟩ := ax_gd h
        refine ax_bk hK (ax_fc (ax_w_last hal d_Z_doStep_167) ax_fn) (y := (168, [], [], ax_m (ax_wL s29 0 80 ((s.1 0 49 ((s.1 0 71 (a1).toNatClampNeg)).toNatClampNeg)).toNatClampNeg r36) ρ)) rfl ⟨⟨(h0 80 rfl), ax_inp b38⟩, trivial⟩ ?_
        refine ax_lt (Q := fun ςς => ax_R G 10 0 0 (168, [], [], ax_m (ςς) ρ)) h (fun s39 h => ?_)
        refine ax_bk hK (ax_fc (ax_v_go (tgt := 396) d_Z_doStep_168 (by decide)) ax_fn) (y := (396, [], [], ax_m (s39) ρ)) rfl ⟨trivial, trivial⟩ ?_
        cases h
        exact ax_vret hA d_Z_doStep_396
      clear h
      have h := hw94
      refine ax_ic_eq (tgt := 159) hK d_Z_doStep_148 (by decide) (fun c34 => ?_) (fun c34 => ?_)
      · replace h := ax_it c34 h
        refine ax_bk hK (ax_fc (ax_v_ld (ax_r_lload d_Z_doStep_159)) (ax_fc (ax_v_ld (ax_r_lload d_Z_doStep_161)) (ax_fc (ax_v_pu (ax_r_lsub d_Z_doStep_163)) ax_fn))) (y := (164, [(2, .inl (.int (a2))), (5, .inl (.long ((s.2 0 80 ((s.1 0 49 ((s.1 0 71 (a1).toNatClampNeg)).toNatClampNeg)).toNatClampNeg)))), (7, .inl (.long (r28)))], [.inl (.long (((s.2 0 80 ((s.1 0 49 ((s.1 0 71 (a1).toNatClampNeg)).toNatClampNeg)).toNatClampNeg) - r28))), .inr (0, 38), .inl (.int ((s.1 0 49 ((s.1 0 71 (a1).toNatClampNeg)).toNatClampNeg))), .inr (0, 80)], ax_m (s29) ρ)) rfl ⟨trivial, trivial, trivial, trivial⟩ ?_
        cases h
        exact ax_Lsub [] rfl (KEw94 _ rfl)
      · replace h := ax_if c34 h
        refine ax_bk hK (ax_fc (ax_v_ld (ax_r_lload d_Z_doStep_151)) (ax_fc (ax_v_ld (ax_r_lload d_Z_doStep_153)) (ax_fc (ax_v_pu (ax_r_ladd d_Z_doStep_155)) (ax_fc (ax_v_go (tgt := 164) d_Z_doStep_156 (by decide)) ax_fn)))) (y := (164, [(2, .inl (.int (a2))), (5, .inl (.long ((s.2 0 80 ((s.1 0 49 ((s.1 0 71 (a1).toNatClampNeg)).toNatClampNeg)).toNatClampNeg)))), (7, .inl (.long (r28)))], [.inl (.long (((s.2 0 80 ((s.1 0 49 ((s.1 0 71 (a1).toNatClampNeg)).toNatClampNeg)).toNatClampNeg) + r28))), .inr (0, 38), .inl (.int ((s.1 0 49 ((s.1 0 71 (a1).toNatClampNeg)).toNatClampNeg))), .inr (0, 80)], ax_m (s29) ρ)) rfl ⟨trivial, trivial, trivial, trivial, trivial⟩ ?_
        cases h
        exact ax_Lsub [] rfl (KEw94 _ rfl)
    clear h
    have h := hw93
    refine ax_ic_ne (tgt := 146) hK d_Z_doStep_139 (by decide) (fun c32 => ?_) (fun c32 => ?_)
    · replace h := ax_if c32 h
      refine ax_bk hK (ax_fc (ax_v_pu (ax_r_iconst (v := 0) d_Z_doStep_146 (by decide))) ax_fn) (y := (147, [(7, .inl (.long (r28))), (5, .inl (.long ((s.2 0 80 ((s.1 0 49 ((s.1 0 71 (a1).toNatClampNeg)).toNatClampNeg)).toNatClampNeg)))), (4, .inl (.int ((s.1 0 49 ((s.1 0 71 (a1).toNatClampNeg)).toNatClampNeg)))), (3, .inl (.int ((s.1 0 71 (a1).toNatClampNeg)))), (0, .inr (0, 38)), (1, .inl (.int (a1))), (2, .inl (.int (a2)))], [.inl (.int ((0 : Int32))), .inr (0, 38), .inl (.int ((s.1 0 49 ((s.1 0 71 (a1).toNatClampNeg)).toNatClampNeg))), .inr (0, 80)], ax_m (s29) ρ)) rfl ⟨trivial, trivial⟩ ?_
      cases h
      exact ax_Lsub [6, 1, 0] rfl (KEw93 _ rfl)
    · replace h := ax_it c32 h
      refine ax_bk hK (ax_fc (ax_v_pu (ax_r_iconst (v := 1) d_Z_doStep_142 (by decide))) (ax_fc (ax_v_go (tgt := 147) d_Z_doStep_143 (by decide)) ax_fn)) (y := (147, [(7, .inl (.long (r28))), (5, .inl (.long ((s.2 0 80 ((s.1 0 49 ((s.1 0 71 (a1).toNatClampNeg)).toNatClampNeg)).toNatClampNeg)))), (4, .inl (.int ((s.1 0 49 ((s.1 0 71 (a1).toNatClampNeg)).toNatClampNeg)))), (3, .inl (.int ((s.1 0 71 (a1).toNatClampNeg)))), (0, .inr (0, 38)), (1, .inl (.int (a1))), (2, .inl (.int (a2)))], [.inl (.int ((1 : Int32))), .inr (0, 38), .inl (.int ((s.1 0 49 ((s.1 0 71 (a1).toNatClampNeg)).toNatClampNeg))), .inr (0, 80)], ax_m (s29) ρ)) rfl ⟨trivial, trivial, trivial⟩ ?_
      cases h
      exact ax_Lsub [6, 1, 0] rfl (KEw93 _ rfl)
  replace h := ax_if c90 h
  refine And.intro (fun c90 => ?_) (fun c90 => ?_)
  · replace h := ax_it c90 h
    change ax_R G 10 0 0 (171, [(5, .inl (.long ((s.2 0 80 ((s.1 0 49 ((s.1 0 71 (a1).toNatClampNeg)).toNatClampNeg)).toNatClampNeg)))), (4, .inl (.int ((s.1 0 49 ((s.1 0 71 (a1).toNatClampNeg)).toNatClampNeg)))), (3, .inl (.int ((s.1 0 71 (a1).toNatClampNeg)))), (0, .inr (0, 38)), (1, .inl (.int (a1))), (2, .inl (.int (a2)))], [], ax_m (s) ρ)
    refine ax_bk hK (ax_fc (ax_v_ld (ax_r_aload_n (i := 0) d_Z_doStep_171 rfl)) (ax_fc (ax_w_gf (e := none) hal d_Z_doStep_172 fd_Z_139) (ax_fc (ax_v_ld (ax_r_iload d_Z_doStep_175)) (ax_fc (ax_v_ld (ax_r_aload_n (i := 0) d_Z_doStep_177 rfl)) (ax_fc (ax_v_ld (ax_r_lload d_Z_doStep_178)) (ax_fc (ax_v_ld (ax_r_iload_n (i := 2) d_Z_doStep_180 rfl)) ax_fn)))))) (y := (181, [(5, .inl (.long ((s.2 0 80 ((s.1 0 49 ((s.1 0 71 (a1).toNatClampNeg)).toNatClampNeg)).toNatClampNeg)))), (4, .inl (.int ((s.1 0 49 ((s.1 0 71 (a1).toNatClampNeg)).toNatClampNeg)))), (3, .inl (.int ((s.1 0 71 (a1).toNatClampNeg)))), (0, .inr (0, 38)), (1, .inl (.int (a1))), (2, .inl (.int (a2)))], [.inl (.int (a2)), .inl (.long ((s.2 0 80 ((s.1 0 49 ((s.1 0 71 (a1).toNatClampNeg)).toNatClampNeg)).toNatClampNeg))), .inr (0, 38), .inl (.int ((s.1 0 49 ((s.1 0 71 (a1).toNatClampNeg)).toNatClampNeg))), .inr (0, 80)], ax_m (s) ρ)) rfl ⟨trivial, (h0 38 rfl), trivial, trivial, trivial, trivial, trivial⟩ ?_
    obtain ⟨w95, hw95, h⟩ := ax_bd h
    have KEw95 : ∀ (v45 : Int64), w95 = v45 → ax_R G 10 0 0 (202, [], [.inl (.long (v45)), .inl (.long ((s.2 0 80 ((s.1 0 49 ((s.1 0 71 (a1).toNatClampNeg)).toNatClampNeg)).toNatClampNeg))), .inr (0, 38), .inl (.int ((s.1 0 49 ((s.1 0 71 (a1).toNatClampNeg)).toNatClampNeg))), .inr (0, 80)], ax_m (s) ρ) := by
      intro v45 e9
      subst w95
      try dsimp only at h
      refine ax_bk hK (ax_fc (ax_v_pu (ax_r_lmul d_Z_doStep_202)) ax_fn) (y := (203, [], [.inl (.long (((s.2 0 80 ((s.1 0 49 ((s.1 0 71 (a1).toNatClampNeg)).toNatClampNeg)).toNatClampNeg) * v45))), .inr (0, 38), .inl (.int ((s.1 0 49 ((s.1 0 71 (a1).toNatClampNeg)).toNatClampNeg))), .inr (0, 80)], ax_m (s) ρ)) rfl ⟨trivial, trivial⟩ ?_
      obtain ⟨r46, q47, h⟩ := ax_bd h
      refine ax_bV (rest := [.inl (.int ((s.1 0 49 ((s.1 0 71 (a1).toNatClampNeg)).toNatClampNeg))), .inr (0, 80)]) hB (t_Z_cut h0 q47) cw_Z_395 im_Z_cut se_Z_cut d_Z_doStep_203 (h0 38 rfl) rfl rfl (by decide) (by decide) rfl rfl (Nat.le_of_ble_eq_true rfl) ?_
      change ax_R G 10 0 0 (206, [], [.inl (.long (r46)), .inl (.int ((s.1 0 49 ((s.1 0 71 (a1).toNatClampNeg)).toNatClampNeg))), .inr (0, 80)], ax_m (s) ρ)
      obtain ⟨b48, h⟩ := ax_gd h
      refine ax_bk hK (ax_fc (ax_w_last hal d_Z_doStep_206) ax_fn) (y := (207, [], [], ax_m (ax_wL s 0 80 ((s.1 0 49 ((s.1 0 71 (a1).toNatClampNeg)).toNatClampNeg)).toNatClampNeg r46) ρ)) rfl ⟨⟨(h0 80 rfl), ax_inp b48⟩, trivial⟩ ?_
      refine ax_lt (Q := fun ςς => ax_R G 10 0 0 (207, [], [], ax_m (ςς) ρ)) h (fun s49 h => ?_)
      refine ax_bk hK (ax_fc (ax_v_go (tgt := 396) d_Z_doStep_207 (by decide)) ax_fn) (y := (396, [], [], ax_m (s49) ρ)) rfl ⟨trivial, trivial⟩ ?_
      cases h
      exact ax_vret hA d_Z_doStep_396
    clear h
    have h := hw95
    refine ax_if_eq (tgt := 196) hK d_Z_doStep_181 (by decide) (fun c44 => ?_) (fun c44 => ?_)
    · replace h := ax_it c44 h
      obtain ⟨b40, h⟩ := ax_gd h
      refine ax_bk hK (ax_fc (ax_v_ld (ax_r_aload_n (i := 0) d_Z_doStep_196 rfl)) (ax_fc (ax_w_gf (e := none) hal d_Z_doStep_197 fd_Z_54) (ax_fc (ax_v_ld (ax_r_iload_n (i := 3) d_Z_doStep_200 rfl)) (ax_fc (ax_w_lald hal d_Z_doStep_201) ax_fn)))) (y := (202, [(5, .inl (.long ((s.2 0 80 ((s.1 0 49 ((s.1 0 71 (a1).toNatClampNeg)).toNatClampNeg)).toNatClampNeg)))), (4, .inl (.int ((s.1 0 49 ((s.1 0 71 (a1).toNatClampNeg)).toNatClampNeg)))), (3, .inl (.int ((s.1 0 71 (a1).toNatClampNeg)))), (0, .inr (0, 38)), (1, .inl (.int (a1))), (2, .inl (.int (a2)))], [.inl (.long ((s.2 0 52 ((s.1 0 71 (a1).toNatClampNeg)).toNatClampNeg))), .inl (.long ((s.2 0 80 ((s.1 0 49 ((s.1 0 71 (a1).toNatClampNeg)).toNatClampNeg)).toNatClampNeg))), .inr (0, 38), .inl (.int ((s.1 0 49 ((s.1 0 71 (a1).toNatClampNeg)).toNatClampNeg))), .inr (0, 80)], ax_m (s) ρ)) rfl ⟨trivial, (h0 38 rfl), trivial, ⟨(h0 52 rfl), ax_inp b40⟩, trivial⟩ ?_
      cases h
      exact ax_Lsub [] rfl (KEw95 _ rfl)
    · replace h := ax_if c44 h
      obtain ⟨b41, h⟩ := ax_gd h
      refine ax_bk hK (ax_fc (ax_v_ld (ax_r_aload_n (i := 0) d_Z_doStep_184 rfl)) (ax_fc (ax_w_gf (e := none) hal d_Z_doStep_185 fd_Z_54) (ax_fc (ax_v_ld (ax_r_iload_n (i := 3) d_Z_doStep_188 rfl)) (ax_fc (ax_w_lald hal d_Z_doStep_189) ax_fn)))) (y := (190, [(5, .inl (.long ((s.2 0 80 ((s.1 0 49 ((s.1 0 71 (a1).toNatClampNeg)).toNatClampNeg)).toNatClampNeg)))), (4, .inl (.int ((s.1 0 49 ((s.1 0 71 (a1).toNatClampNeg)).toNatClampNeg)))), (3, .inl (.int ((s.1 0 71 (a1).toNatClampNeg)))), (0, .inr (0, 38)), (1, .inl (.int (a1))), (2, .inl (.int (a2)))], [.inl (.long ((s.2 0 52 ((s.1 0 71 (a1).toNatClampNeg)).toNatClampNeg))), .inl (.long ((s.2 0 80 ((s.1 0 49 ((s.1 0 71 (a1).toNatClampNeg)).toNatClampNeg)).toNatClampNeg))), .inr (0, 38), .inl (.int ((s.1 0 49 ((s.1 0 71 (a1).toNatClampNeg)).toNatClampNeg))), .inr (0, 80)], ax_m (s) ρ)) rfl ⟨trivial, (h0 38 rfl), trivial, ⟨(h0 52 rfl), ax_inp b41⟩, trivial⟩ ?_
      obtain ⟨r42, q43, h⟩ := ax_bd h
      refine ax_bS (rest := [.inl (.long ((s.2 0 80 ((s.1 0 49 ((s.1 0 71 (a1).toNatClampNeg)).toNatClampNeg)).toNatClampNeg))), .inr (0, 38), .inl (.int ((s.1 0 49 ((s.1 0 71 (a1).toNatClampNeg)).toNatClampNeg))), .inr (0, 80)]) hB (t_Z_inverse q43) cw_Z_427 sm_Z_inverse d_Z_doStep_190 (by decide) (by decide) rfl rfl (Nat.le_of_ble_eq_true rfl) ?_
      change ax_R G 10 0 0 (193, [(5, .inl (.long ((s.2 0 80 ((s.1 0 49 ((s.1 0 71 (a1).toNatClampNeg)).toNatClampNeg)).toNatClampNeg)))), (4, .inl (.int ((s.1 0 49 ((s.1 0 71 (a1).toNatClampNeg)).toNatClampNeg)))), (3, .inl (.int ((s.1 0 71 (a1).toNatClampNeg)))), (0, .inr (0, 38)), (1, .inl (.int (a1))), (2, .inl (.int (a2)))], [.inl (.long (r42)), .inl (.long ((s.2 0 80 ((s.1 0 49 ((s.1 0 71 (a1).toNatClampNeg)).toNatClampNeg)).toNatClampNeg))), .inr (0, 38), .inl (.int ((s.1 0 49 ((s.1 0 71 (a1).toNatClampNeg)).toNatClampNeg))), .inr (0, 80)], ax_m (s) ρ)
      refine ax_bk hK (ax_fc (ax_v_go (tgt := 202) d_Z_doStep_193 (by decide)) ax_fn) (y := (202, [(5, .inl (.long ((s.2 0 80 ((s.1 0 49 ((s.1 0 71 (a1).toNatClampNeg)).toNatClampNeg)).toNatClampNeg)))), (4, .inl (.int ((s.1 0 49 ((s.1 0 71 (a1).toNatClampNeg)).toNatClampNeg)))), (3, .inl (.int ((s.1 0 71 (a1).toNatClampNeg)))), (0, .inr (0, 38)), (1, .inl (.int (a1))), (2, .inl (.int (a2)))], [.inl (.long (r42)), .inl (.long ((s.2 0 80 ((s.1 0 49 ((s.1 0 71 (a1).toNatClampNeg)).toNatClampNeg)).toNatClampNeg))), .inr (0, 38), .inl (.int ((s.1 0 49 ((s.1 0 71 (a1).toNatClampNeg)).toNatClampNeg))), .inr (0, 80)], ax_m (s) ρ)) rfl ⟨trivial, trivial⟩ ?_
      cases h
      exact ax_Lsub [] rfl (KEw95 _ rfl)
  replace h := ax_if c90 h
  refine And.intro (fun c90 => ?_) (fun c90 => ?_)
  · replace h := ax_it c90 h
    change ax_R G 10 0 0 (210, [(5, .inl (.long ((s.2 0 80 ((s.1 0 49 ((s.1 0 71 (a1).toNatClampNeg)).toNatClampNeg)).toNatClampNeg)))), (4, .inl (.int ((s.1 0 49 ((s.1 0 71 (a1).toNatClampNeg)).toNatClampNeg)))), (3, .inl (.int ((s.1 0 71 (a1).toNatClampNeg)))), (0, .inr (0, 38)), (1, .inl (.int (a1))), (2, .inl (.int (a2)))], [], ax_m (s) ρ)
    refine ax_bk hK (ax_fc (ax_v_ld (ax_r_aload_n (i := 0) d_Z_doStep_210 rfl)) (ax_fc (ax_w_gf (e := none) hal d_Z_doStep_211 fd_Z_139) (ax_fc (ax_v_ld (ax_r_iload d_Z_doStep_214)) (ax_fc (ax_v_ld (ax_r_aload_n (i := 0) d_Z_doStep_216 rfl)) (ax_fc (ax_v_ld (ax_r_lload d_Z_doStep_217)) (ax_fc (ax_v_ld (ax_r_iload_n (i := 2) d_Z_doStep_219 rfl)) ax_fn)))))) (y := (220, [(5, .inl (.long ((s.2 0 80 ((s.1 0 49 ((s.1 0 71 (a1).toNatClampNeg)).toNatClampNeg)).toNatClampNeg)))), (4, .inl (.int ((s.1 0 49 ((s.1 0 71 (a1).toNatClampNeg)).toNatClampNeg)))), (3, .inl (.int ((s.1 0 71 (a1).toNatClampNeg)))), (0, .inr (0, 38)), (1, .inl (.int (a1))), (2, .inl (.int (a2)))], [.inl (.int (a2)), .inl (.long ((s.2 0 80 ((s.1 0 49 ((s.1 0 71 (a1).toNatClampNeg)).toNatClampNeg)).toNatClampNeg))), .inr (0, 38), .inl (.int ((s.1 0 49 ((s.1 0 71 (a1).toNatClampNeg)).toNatClampNeg))), .inr (0, 80)], ax_m (s) ρ)) rfl ⟨trivial, (h0 38 rfl), trivial, trivial, trivial, trivial, trivial⟩ ?_
    obtain ⟨w96, hw96, h⟩ := ax_bd h
    have KEw96 : ∀ (v53 : Int64), w96 = v53 → ax_R G 10 0 0 (239, [], [.inl (.long (v53)), .inl (.long ((s.2 0 80 ((s.1 0 49 ((s.1 0 71 (a1).toNatClampNeg)).toNatClampNeg)).toNatClampNeg))), .inr (0, 38), .inl (.int ((s.1 0 49 ((s.1 0 71 (a1).toNatClampNeg)).toNatClampNeg))), .inr (0, 80)], ax_m (s) ρ) := by
      intro v53 e9
      subst w96
      try dsimp only at h
      obtain ⟨r54, q55, h⟩ := ax_bd h
      refine ax_bV (rest := [.inl (.int ((s.1 0 49 ((s.1 0 71 (a1).toNatClampNeg)).toNatClampNeg))), .inr (0, 80)]) hB (t_Z_turned h0 q55) cw_Z_411 im_Z_turned se_Z_turned d_Z_doStep_239 (h0 38 rfl) rfl rfl (by decide) (by decide) rfl rfl (Nat.le_of_ble_eq_true rfl) ?_
      change ax_R G 10 0 0 (242, [], [.inl (.long (r54)), .inl (.int ((s.1 0 49 ((s.1 0 71 (a1).toNatClampNeg)).toNatClampNeg))), .inr (0, 80)], ax_m (s) ρ)
      obtain ⟨b56, h⟩ := ax_gd h
      refine ax_bk hK (ax_fc (ax_w_last hal d_Z_doStep_242) ax_fn) (y := (243, [], [], ax_m (ax_wL s 0 80 ((s.1 0 49 ((s.1 0 71 (a1).toNatClampNeg)).toNatClampNeg)).toNatClampNeg r54) ρ)) rfl ⟨⟨(h0 80 rfl), ax_inp b56⟩, trivial⟩ ?_
      refine ax_lt (Q := fun ςς => ax_R G 10 0 0 (243, [], [], ax_m (ςς) ρ)) h (fun s57 h => ?_)
      refine ax_bk hK (ax_fc (ax_v_go (tgt := 396) d_Z_doStep_243 (by decide)) ax_fn) (y := (396, [], [], ax_m (s57) ρ)) rfl ⟨trivial, trivial⟩ ?_
      cases h
      exact ax_vret hA d_Z_doStep_396
    clear h
    have h := hw96
    refine ax_if_eq (tgt := 233) hK d_Z_doStep_220 (by decide) (fun c52 => ?_) (fun c52 => ?_)
    · replace h := ax_it c52 h
      obtain ⟨b50, h⟩ := ax_gd h
      refine ax_bk hK (ax_fc (ax_v_ld (ax_r_aload_n (i := 0) d_Z_doStep_233 rfl)) (ax_fc (ax_w_gf (e := none) hal d_Z_doStep_234 fd_Z_54) (ax_fc (ax_v_ld (ax_r_iload_n (i := 3) d_Z_doStep_237 rfl)) (ax_fc (ax_w_lald hal d_Z_doStep_238) ax_fn)))) (y := (239, [(5, .inl (.long ((s.2 0 80 ((s.1 0 49 ((s.1 0 71 (a1).toNatClampNeg)).toNatClampNeg)).toNatClampNeg)))), (4, .inl (.int ((s.1 0 49 ((s.1 0 71 (a1).toNatClampNeg)).toNatClampNeg)))), (3, .inl (.int ((s.1 0 71 (a1).toNatClampNeg)))), (0, .inr (0, 38)), (1, .inl (.int (a1))), (2, .inl (.int (a2)))], [.inl (.long ((s.2 0 52 ((s.1 0 71 (a1).toNatClampNeg)).toNatClampNeg))), .inl (.long ((s.2 0 80 ((s.1 0 49 ((s.1 0 71 (a1).toNatClampNeg)).toNatClampNeg)).toNatClampNeg))), .inr (0, 38), .inl (.int ((s.1 0 49 ((s.1 0 71 (a1).toNatClampNeg)).toNatClampNeg))), .inr (0, 80)], ax_m (s) ρ)) rfl ⟨trivial, (h0 38 rfl), trivial, ⟨(h0 52 rfl), ax_inp b50⟩, trivial⟩ ?_
      cases h
      exact ax_Lsub [] rfl (KEw96 _ rfl)
    · replace h := ax_if c52 h
      obtain ⟨b51, h⟩ := ax_gd h
      refine ax_bk hK (ax_fc (ax_v_ld (ax_r_aload_n (i := 0) d_Z_doStep_223 rfl)) (ax_fc (ax_w_gf (e := none) hal d_Z_doStep_224 fd_Z_54) (ax_fc (ax_v_ld (ax_r_iload_n (i := 3) d_Z_doStep_227 rfl)) (ax_fc (ax_w_lald hal d_Z_doStep_228) (ax_fc (ax_v_pu (ax_r_lneg d_Z_doStep_229)) (ax_fc (ax_v_go (tgt := 239) d_Z_doStep_230 (by decide)) ax_fn)))))) (y := (239, [(5, .inl (.long ((s.2 0 80 ((s.1 0 49 ((s.1 0 71 (a1).toNatClampNeg)).toNatClampNeg)).toNatClampNeg)))), (4, .inl (.int ((s.1 0 49 ((s.1 0 71 (a1).toNatClampNeg)).toNatClampNeg)))), (3, .inl (.int ((s.1 0 71 (a1).toNatClampNeg)))), (0, .inr (0, 38)), (1, .inl (.int (a1))), (2, .inl (.int (a2)))], [.inl (.long ((-(s.2 0 52 ((s.1 0 71 (a1).toNatClampNeg)).toNatClampNeg)))), .inl (.long ((s.2 0 80 ((s.1 0 49 ((s.1 0 71 (a1).toNatClampNeg)).toNatClampNeg)).toNatClampNeg))), .inr (0, 38), .inl (.int ((s.1 0 49 ((s.1 0 71 (a1).toNatClampNeg)).toNatClampNeg))), .inr (0, 80)], ax_m (s) ρ)) rfl ⟨trivial, (h0 38 rfl), trivial, ⟨(h0 52 rfl), ax_inp b51⟩, trivial, trivial, trivial⟩ ?_
      cases h
      exact ax_Lsub [] rfl (KEw96 _ rfl)
  replace h := ax_if c90 h
  refine And.intro (fun c90 => ?_) (fun c90 => ?_)
  · replace h := ax_it c90 h
    change ax_R G 10 0 0 (246, [(5, .inl (.long ((s.2 0 80 ((s.1 0 49 ((s.1 0 71 (a1).toNatClampNeg)).toNatClampNeg)).toNatClampNeg)))), (4, .inl (.int ((s.1 0 49 ((s.1 0 71 (a1).toNatClampNeg)).toNatClampNeg)))), (3, .inl (.int ((s.1 0 71 (a1).toNatClampNeg)))), (0, .inr (0, 38)), (1, .inl (.int (a1))), (2, .inl (.int (a2)))], [], ax_m (s) ρ)
    refine ax_bk hK (ax_fc (ax_v_ld (ax_r_aload_n (i := 0) d_Z_doStep_246 rfl)) (ax_fc (ax_w_gf (e := none) hal d_Z_doStep_247 fd_Z_139) (ax_fc (ax_v_ld (ax_r_iload d_Z_doStep_250)) (ax_fc (ax_v_ld (ax_r_aload_n (i := 0) d_Z_doStep_252 rfl)) (ax_fc (ax_v_ld (ax_r_lload d_Z_doStep_253)) (ax_fc (ax_v_ld (ax_r_iload_n (i := 2) d_Z_doStep_255 rfl)) ax_fn)))))) (y := (256, [(5, .inl (.long ((s.2 0 80 ((s.1 0 49 ((s.1 0 71 (a1).toNatClampNeg)).toNatClampNeg)).toNatClampNeg)))), (4, .inl (.int ((s.1 0 49 ((s.1 0 71 (a1).toNatClampNeg)).toNatClampNeg)))), (3, .inl (.int ((s.1 0 71 (a1).toNatClampNeg)))), (0, .inr (0, 38)), (1, .inl (.int (a1))), (2, .inl (.int (a2)))], [.inl (.int (a2)), .inl (.long ((s.2 0 80 ((s.1 0 49 ((s.1 0 71 (a1).toNatClampNeg)).toNatClampNeg)).toNatClampNeg))), .inr (0, 38), .inl (.int ((s.1 0 49 ((s.1 0 71 (a1).toNatClampNeg)).toNatClampNeg))), .inr (0, 80)], ax_m (s) ρ)) rfl ⟨trivial, (h0 38 rfl), trivial, trivial, trivial, trivial, trivial⟩ ?_
    obtain ⟨w97, hw97, h⟩ := ax_bd h
    have KEw97 : ∀ (v63 : Int64), w97 = v63 → ax_R G 10 0 0 (285, [], [.inl (.long (v63)), .inl (.long ((s.2 0 80 ((s.1 0 49 ((s.1 0 71 (a1).toNatClampNeg)).toNatClampNeg)).toNatClampNeg))), .inr (0, 38), .inl (.int ((s.1 0 49 ((s.1 0 71 (a1).toNatClampNeg)).toNatClampNeg))), .inr (0, 80)], ax_m (s) ρ) := by
      intro v63 e9
      subst w97
      try dsimp only at h
      obtain ⟨r64, q65, h⟩ := ax_bd h
      refine ax_bV (rest := [.inl (.int ((s.1 0 49 ((s.1 0 71 (a1).toNatClampNeg)).toNatClampNeg))), .inr (0, 80)]) hB (t_Z_turned h0 q65) cw_Z_411 im_Z_turned se_Z_turned d_Z_doStep_285 (h0 38 rfl) rfl rfl (by decide) (by decide) rfl rfl (Nat.le_of_ble_eq_true rfl) ?_
      change ax_R G 10 0 0 (288, [], [.inl (.long (r64)), .inl (.int ((s.1 0 49 ((s.1 0 71 (a1).toNatClampNeg)).toNatClampNeg))), .inr (0, 80)], ax_m (s) ρ)
      obtain ⟨b66, h⟩ := ax_gd h
      refine ax_bk hK (ax_fc (ax_w_last hal d_Z_doStep_288) ax_fn) (y := (289, [], [], ax_m (ax_wL s 0 80 ((s.1 0 49 ((s.1 0 71 (a1).toNatClampNeg)).toNatClampNeg)).toNatClampNeg r64) ρ)) rfl ⟨⟨(h0 80 rfl), ax_inp b66⟩, trivial⟩ ?_
      refine ax_lt (Q := fun ςς => ax_R G 10 0 0 (289, [], [], ax_m (ςς) ρ)) h (fun s67 h => ?_)
      refine ax_bk hK (ax_fc (ax_v_go (tgt := 396) d_Z_doStep_289 (by decide)) ax_fn) (y := (396, [], [], ax_m (s67) ρ)) rfl ⟨trivial, trivial⟩ ?_
      cases h
      exact ax_vret hA d_Z_doStep_396
    clear h
    have h := hw97
    refine ax_if_eq (tgt := 274) hK d_Z_doStep_256 (by decide) (fun c62 => ?_) (fun c62 => ?_)
    · replace h := ax_it c62 h
      obtain ⟨b58, h⟩ := ax_gd h
      obtain ⟨b59, h⟩ := ax_gd h
      refine ax_bk hK (ax_fc (ax_v_ld (ax_r_aload_n (i := 0) d_Z_doStep_274 rfl)) (ax_fc (ax_w_gf (e := none) hal d_Z_doStep_275 fd_Z_139) (ax_fc (ax_v_ld (ax_r_aload_n (i := 0) d_Z_doStep_278 rfl)) (ax_fc (ax_w_gf (e := none) hal d_Z_doStep_279 fd_Z_48) (ax_fc (ax_v_ld (ax_r_iload_n (i := 3) d_Z_doStep_282 rfl)) (ax_fc (ax_w_iald hal d_Z_doStep_283) (ax_fc (ax_w_lald hal d_Z_doStep_284) ax_fn))))))) (y := (285, [(5, .inl (.long ((s.2 0 80 ((s.1 0 49 ((s.1 0 71 (a1).toNatClampNeg)).toNatClampNeg)).toNatClampNeg)))), (4, .inl (.int ((s.1 0 49 ((s.1 0 71 (a1).toNatClampNeg)).toNatClampNeg)))), (3, .inl (.int ((s.1 0 71 (a1).toNatClampNeg)))), (0, .inr (0, 38)), (1, .inl (.int (a1))), (2, .inl (.int (a2)))], [.inl (.long ((s.2 0 80 ((s.1 0 50 ((s.1 0 71 (a1).toNatClampNeg)).toNatClampNeg)).toNatClampNeg))), .inl (.long ((s.2 0 80 ((s.1 0 49 ((s.1 0 71 (a1).toNatClampNeg)).toNatClampNeg)).toNatClampNeg))), .inr (0, 38), .inl (.int ((s.1 0 49 ((s.1 0 71 (a1).toNatClampNeg)).toNatClampNeg))), .inr (0, 80)], ax_m (s) ρ)) rfl ⟨trivial, (h0 38 rfl), trivial, (h0 38 rfl), trivial, ⟨(h0 50 rfl), ax_inp b58⟩, ⟨(h0 80 rfl), ax_inp b59⟩, trivial⟩ ?_
      cases h
      exact ax_Lsub [] rfl (KEw97 _ rfl)
    · replace h := ax_if c62 h
      obtain ⟨b60, h⟩ := ax_gd h
      obtain ⟨b61, h⟩ := ax_gd h
      refine ax_bk hK (ax_fc (ax_v_ld (ax_r_aload_n (i := 0) d_Z_doStep_259 rfl)) (ax_fc (ax_w_gf (e := none) hal d_Z_doStep_260 fd_Z_139) (ax_fc (ax_v_ld (ax_r_aload_n (i := 0) d_Z_doStep_263 rfl)) (ax_fc (ax_w_gf (e := none) hal d_Z_doStep_264 fd_Z_48) (ax_fc (ax_v_ld (ax_r_iload_n (i := 3) d_Z_doStep_267 rfl)) (ax_fc (ax_w_iald hal d_Z_doStep_268) (ax_fc (ax_w_lald hal d_Z_doStep_269) (ax_fc (ax_v_pu (ax_r_lneg d_Z_doStep_270)) (ax_fc (ax_v_go (tgt := 285) d_Z_doStep_271 (by decide)) ax_fn))))))))) (y := (285, [(5, .inl (.long ((s.2 0 80 ((s.1 0 49 ((s.1 0 71 (a1).toNatClampNeg)).toNatClampNeg)).toNatClampNeg)))), (4, .inl (.int ((s.1 0 49 ((s.1 0 71 (a1).toNatClampNeg)).toNatClampNeg)))), (3, .inl (.int ((s.1 0 71 (a1).toNatClampNeg)))), (0, .inr (0, 38)), (1, .inl (.int (a1))), (2, .inl (.int (a2)))], [.inl (.long ((-(s.2 0 80 ((s.1 0 50 ((s.1 0 71 (a1).toNatClampNeg)).toNatClampNeg)).toNatClampNeg)))), .inl (.long ((s.2 0 80 ((s.1 0 49 ((s.1 0 71 (a1).toNatClampNeg)).toNatClampNeg)).toNatClampNeg))), .inr (0, 38), .inl (.int ((s.1 0 49 ((s.1 0 71 (a1).toNatClampNeg)).toNatClampNeg))), .inr (0, 80)], ax_m (s) ρ)) rfl ⟨trivial, (h0 38 rfl), trivial, (h0 38 rfl), trivial, ⟨(h0 50 rfl), ax_inp b60⟩, ⟨(h0 80 rfl), ax_inp b61⟩, trivial, trivial, trivial⟩ ?_
      cases h
      exact ax_Lsub [] rfl (KEw97 _ rfl)
  replace h := ax_if c90 h
  refine And.intro (fun c90 => ?_) (fun c90 => ?_)
  · replace h := ax_it c90 h
    change ax_R G 10 0 0 (292, [(5, .inl (.long ((s.2 0 80 ((s.1 0 49 ((s.1 0 71 (a1).toNatClampNeg)).toNatClampNeg)).toNatClampNeg)))), (4, .inl (.int ((s.1 0 49 ((s.1 0 71 (a1).toNatClampNeg)).toNatClampNeg)))), (3, .inl (.int ((s.1 0 71 (a1).toNatClampNeg)))), (0, .inr (0, 38)), (1, .inl (.int (a1))), (2, .inl (.int (a2)))], [], ax_m (s) ρ)
    obtain ⟨b68, h⟩ := ax_gd h
    obtain ⟨b69, h⟩ := ax_gd h
    obtain ⟨b70, h⟩ := ax_gd h
    refine ax_bk hK (ax_fc (ax_v_ld (ax_r_aload_n (i := 0) d_Z_doStep_292 rfl)) (ax_fc (ax_w_gf (e := none) hal d_Z_doStep_293 fd_Z_139) (ax_fc (ax_v_ld (ax_r_iload d_Z_doStep_296)) (ax_fc (ax_v_ld (ax_r_aload_n (i := 0) d_Z_doStep_298 rfl)) (ax_fc (ax_w_gf (e := none) hal d_Z_doStep_299 fd_Z_139) (ax_fc (ax_v_ld (ax_r_aload_n (i := 0) d_Z_doStep_302 rfl)) (ax_fc (ax_w_gf (e := none) hal d_Z_doStep_303 fd_Z_48) (ax_fc (ax_v_ld (ax_r_iload_n (i := 3) d_Z_doStep_306 rfl)) (ax_fc (ax_w_iald hal d_Z_doStep_307) (ax_fc (ax_w_lald hal d_Z_doStep_308) (ax_fc (ax_w_last hal d_Z_doStep_309) ax_fn))))))))))) (y := (310, [(5, .inl (.long ((s.2 0 80 ((s.1 0 49 ((s.1 0 71 (a1).toNatClampNeg)).toNatClampNeg)).toNatClampNeg)))), (4, .inl (.int ((s.1 0 49 ((s.1 0 71 (a1).toNatClampNeg)).toNatClampNeg)))), (3, .inl (.int ((s.1 0 71 (a1).toNatClampNeg)))), (0, .inr (0, 38)), (1, .inl (.int (a1))), (2, .inl (.int (a2)))], [], ax_m (ax_wL s 0 80 ((s.1 0 49 ((s.1 0 71 (a1).toNatClampNeg)).toNatClampNeg)).toNatClampNeg (s.2 0 80 ((s.1 0 50 ((s.1 0 71 (a1).toNatClampNeg)).toNatClampNeg)).toNatClampNeg)) ρ)) rfl ⟨trivial, (h0 38 rfl), trivial, trivial, (h0 38 rfl), trivial, (h0 38 rfl), trivial, ⟨(h0 50 rfl), ax_inp b68⟩, ⟨(h0 80 rfl), ax_inp b69⟩, ⟨(h0 80 rfl), ax_inp b70⟩, trivial⟩ ?_
    refine ax_lt (Q := fun ςς => ax_R G 10 0 0 (310, [(5, .inl (.long ((s.2 0 80 ((s.1 0 49 ((s.1 0 71 (a1).toNatClampNeg)).toNatClampNeg)).toNatClampNeg)))), (4, .inl (.int ((s.1 0 49 ((s.1 0 71 (a1).toNatClampNeg)).toNatClampNeg)))), (3, .inl (.int ((s.1 0 71 (a1).toNatClampNeg)))), (0, .inr (0, 38)), (1, .inl (.int (a1))), (2, .inl (.int (a2)))], [], ax_m (ςς) ρ)) h (fun s71 h => ?_)
    obtain ⟨b72, h⟩ := ax_gd h
    obtain ⟨b73, h⟩ := ax_gd h
    refine ax_bk hK (ax_fc (ax_v_ld (ax_r_aload_n (i := 0) d_Z_doStep_310 rfl)) (ax_fc (ax_w_gf (e := none) hal d_Z_doStep_311 fd_Z_139) (ax_fc (ax_v_ld (ax_r_aload_n (i := 0) d_Z_doStep_314 rfl)) (ax_fc (ax_w_gf (e := none) hal d_Z_doStep_315 fd_Z_48) (ax_fc (ax_v_ld (ax_r_iload_n (i := 3) d_Z_doStep_318 rfl)) (ax_fc (ax_w_iald hal d_Z_doStep_319) (ax_fc (ax_v_ld (ax_r_lload d_Z_doStep_320)) (ax_fc (ax_w_last hal d_Z_doStep_322) ax_fn)))))))) (y := (323, [(5, .inl (.long ((s.2 0 80 ((s.1 0 49 ((s.1 0 71 (a1).toNatClampNeg)).toNatClampNeg)).toNatClampNeg)))), (4, .inl (.int ((s.1 0 49 ((s.1 0 71 (a1).toNatClampNeg)).toNatClampNeg)))), (3, .inl (.int ((s.1 0 71 (a1).toNatClampNeg)))), (0, .inr (0, 38)), (1, .inl (.int (a1))), (2, .inl (.int (a2)))], [], ax_m (ax_wL s71 0 80 ((s71.1 0 50 ((s.1 0 71 (a1).toNatClampNeg)).toNatClampNeg)).toNatClampNeg (s.2 0 80 ((s.1 0 49 ((s.1 0 71 (a1).toNatClampNeg)).toNatClampNeg)).toNatClampNeg)) ρ)) rfl ⟨trivial, (h0 38 rfl), trivial, (h0 38 rfl), trivial, ⟨(h0 50 rfl), ax_inp b72⟩, trivial, ⟨(h0 80 rfl), ax_inp b73⟩, trivial⟩ ?_
    refine ax_lt (Q := fun ςς => ax_R G 10 0 0 (323, [(5, .inl (.long ((s.2 0 80 ((s.1 0 49 ((s.1 0 71 (a1).toNatClampNeg)).toNatClampNeg)).toNatClampNeg)))), (4, .inl (.int ((s.1 0 49 ((s.1 0 71 (a1).toNatClampNeg)).toNatClampNeg)))), (3, .inl (.int ((s.1 0 71 (a1).toNatClampNeg)))), (0, .inr (0, 38)), (1, .inl (.int (a1))), (2, .inl (.int (a2)))], [], ax_m (ςς) ρ)) h (fun s74 h => ?_)
    refine ax_bk hK (ax_fc (ax_v_go (tgt := 396) d_Z_doStep_323 (by decide)) ax_fn) (y := (396, [(5, .inl (.long ((s.2 0 80 ((s.1 0 49 ((s.1 0 71 (a1).toNatClampNeg)).toNatClampNeg)).toNatClampNeg)))), (4, .inl (.int ((s.1 0 49 ((s.1 0 71 (a1).toNatClampNeg)).toNatClampNeg)))), (3, .inl (.int ((s.1 0 71 (a1).toNatClampNeg)))), (0, .inr (0, 38)), (1, .inl (.int (a1))), (2, .inl (.int (a2)))], [], ax_m (s74) ρ)) rfl ⟨trivial, trivial⟩ ?_
    cases h
    exact ax_vret hA d_Z_doStep_396
  replace h := ax_if c90 h
  refine And.intro (fun c90 => ?_) (fun c90 => ?_)
  · replace h := ax_it c90 h
    change ax_R G 10 0 0 (326, [(5, .inl (.long ((s.2 0 80 ((s.1 0 49 ((s.1 0 71 (a1).toNatClampNeg)).toNatClampNeg)).toNatClampNeg)))), (4, .inl (.int ((s.1 0 49 ((s.1 0 71 (a1).toNatClampNeg)).toNatClampNeg)))), (3, .inl (.int ((s.1 0 71 (a1).toNatClampNeg)))), (0, .inr (0, 38)), (1, .inl (.int (a1))), (2, .inl (.int (a2)))], [], ax_m (s) ρ)
    obtain ⟨b75, h⟩ := ax_gd h
    refine ax_bk hK (ax_fc (ax_v_ld (ax_r_aload_n (i := 0) d_Z_doStep_326 rfl)) (ax_fc (ax_w_gf (e := none) hal d_Z_doStep_327 fd_Z_139) (ax_fc (ax_v_ld (ax_r_iload d_Z_doStep_330)) (ax_fc (ax_v_ld (ax_r_aload_n (i := 0) d_Z_doStep_332 rfl)) (ax_fc (ax_v_ld (ax_r_aload_n (i := 0) d_Z_doStep_333 rfl)) (ax_fc (ax_w_gf (e := none) hal d_Z_doStep_334 fd_Z_54) (ax_fc (ax_v_ld (ax_r_iload_n (i := 3) d_Z_doStep_337 rfl)) (ax_fc (ax_w_lald hal d_Z_doStep_338) (ax_fc (ax_v_pu (ax_r_l2i d_Z_doStep_339)) (ax_fc (ax_v_ld (ax_r_lload d_Z_doStep_340)) (ax_fc (ax_v_ld (ax_r_iload_n (i := 2) d_Z_doStep_342 rfl)) ax_fn))))))))))) (y := (343, [(5, .inl (.long ((s.2 0 80 ((s.1 0 49 ((s.1 0 71 (a1).toNatClampNeg)).toNatClampNeg)).toNatClampNeg)))), (4, .inl (.int ((s.1 0 49 ((s.1 0 71 (a1).toNatClampNeg)).toNatClampNeg)))), (3, .inl (.int ((s.1 0 71 (a1).toNatClampNeg)))), (0, .inr (0, 38)), (1, .inl (.int (a1))), (2, .inl (.int (a2)))], [.inl (.int (a2)), .inl (.long ((s.2 0 80 ((s.1 0 49 ((s.1 0 71 (a1).toNatClampNeg)).toNatClampNeg)).toNatClampNeg))), .inl (.int (((s.2 0 52 ((s.1 0 71 (a1).toNatClampNeg)).toNatClampNeg)).toInt32)), .inr (0, 38), .inl (.int ((s.1 0 49 ((s.1 0 71 (a1).toNatClampNeg)).toNatClampNeg))), .inr (0, 80)], ax_m (s) ρ)) rfl ⟨trivial, (h0 38 rfl), trivial, trivial, trivial, (h0 38 rfl), trivial, ⟨(h0 52 rfl), ax_inp b75⟩, trivial, trivial, trivial, trivial⟩ ?_
    obtain ⟨r76, q77, h⟩ := ax_bd h
    refine ax_bV (rest := [.inl (.int ((s.1 0 49 ((s.1 0 71 (a1).toNatClampNeg)).toNatClampNeg))), .inr (0, 80)]) hB (t_Z_replaced h0 q77) cw_Z_430 im_Z_replaced se_Z_replaced d_Z_doStep_343 (h0 38 rfl) rfl rfl (by decide) (by decide) rfl rfl (Nat.le_of_ble_eq_true rfl) ?_
    change ax_R G 10 0 0 (346, [(5, .inl (.long ((s.2 0 80 ((s.1 0 49 ((s.1 0 71 (a1).toNatClampNeg)).toNatClampNeg)).toNatClampNeg)))), (4, .inl (.int ((s.1 0 49 ((s.1 0 71 (a1).toNatClampNeg)).toNatClampNeg)))), (3, .inl (.int ((s.1 0 71 (a1).toNatClampNeg)))), (0, .inr (0, 38)), (1, .inl (.int (a1))), (2, .inl (.int (a2)))], [.inl (.long (r76)), .inl (.int ((s.1 0 49 ((s.1 0 71 (a1).toNatClampNeg)).toNatClampNeg))), .inr (0, 80)], ax_m (s) ρ)
    obtain ⟨b78, h⟩ := ax_gd h
    refine ax_bk hK (ax_fc (ax_w_last hal d_Z_doStep_346) ax_fn) (y := (347, [(5, .inl (.long ((s.2 0 80 ((s.1 0 49 ((s.1 0 71 (a1).toNatClampNeg)).toNatClampNeg)).toNatClampNeg)))), (4, .inl (.int ((s.1 0 49 ((s.1 0 71 (a1).toNatClampNeg)).toNatClampNeg)))), (3, .inl (.int ((s.1 0 71 (a1).toNatClampNeg)))), (0, .inr (0, 38)), (1, .inl (.int (a1))), (2, .inl (.int (a2)))], [], ax_m (ax_wL s 0 80 ((s.1 0 49 ((s.1 0 71 (a1).toNatClampNeg)).toNatClampNeg)).toNatClampNeg r76) ρ)) rfl ⟨⟨(h0 80 rfl), ax_inp b78⟩, trivial⟩ ?_
    refine ax_lt (Q := fun ςς => ax_R G 10 0 0 (347, [(5, .inl (.long ((s.2 0 80 ((s.1 0 49 ((s.1 0 71 (a1).toNatClampNeg)).toNatClampNeg)).toNatClampNeg)))), (4, .inl (.int ((s.1 0 49 ((s.1 0 71 (a1).toNatClampNeg)).toNatClampNeg)))), (3, .inl (.int ((s.1 0 71 (a1).toNatClampNeg)))), (0, .inr (0, 38)), (1, .inl (.int (a1))), (2, .inl (.int (a2)))], [], ax_m (ςς) ρ)) h (fun s79 h => ?_)
    refine ax_bk hK (ax_fc (ax_v_go (tgt := 396) d_Z_doStep_347 (by decide)) ax_fn) (y := (396, [(5, .inl (.long ((s.2 0 80 ((s.1 0 49 ((s.1 0 71 (a1).toNatClampNeg)).toNatClampNeg)).toNatClampNeg)))), (4, .inl (.int ((s.1 0 49 ((s.1 0 71 (a1).toNatClampNeg)).toNatClampNeg)))), (3, .inl (.int ((s.1 0 71 (a1).toNatClampNeg)))), (0, .inr (0, 38)), (1, .inl (.int (a1))), (2, .inl (.int (a2)))], [], ax_m (s79) ρ)) rfl ⟨trivial, trivial⟩ ?_
    cases h
    exact ax_vret hA d_Z_doStep_396
  replace h := ax_if c90 h
  change ax_R G 10 0 0 (350, [(5, .inl (.long ((s.2 0 80 ((s.1 0 49 ((s.1 0 71 (a1).toNatClampNeg)).toNatClampNeg)).toNatClampNeg)))), (4, .inl (.int ((s.1 0 49 ((s.1 0 71 (a1).toNatClampNeg)).toNatClampNeg)))), (3, .inl (.int ((s.1 0 71 (a1).toNatClampNeg)))), (0, .inr (0, 38)), (1, .inl (.int (a1))), (2, .inl (.int (a2)))], [], ax_m (s) ρ)
  refine ax_bk hK (ax_fc (ax_v_pu (ax_r_iconst (v := 0) d_Z_doStep_350 (by decide))) (ax_fc (ax_v_so (ax_r_istore d_Z_doStep_351)) ax_fn)) (y := (353, [(9, .inl (.int ((0 : Int32)))), (5, .inl (.long ((s.2 0 80 ((s.1 0 49 ((s.1 0 71 (a1).toNatClampNeg)).toNatClampNeg)).toNatClampNeg)))), (4, .inl (.int ((s.1 0 49 ((s.1 0 71 (a1).toNatClampNeg)).toNatClampNeg)))), (3, .inl (.int ((s.1 0 71 (a1).toNatClampNeg)))), (0, .inr (0, 38)), (1, .inl (.int (a1))), (2, .inl (.int (a2)))], [], ax_m (s) ρ)) rfl ⟨trivial, trivial, trivial⟩ ?_
  obtain ⟨w98, hw98, h⟩ := ax_bd h
  refine ax_Lsub [4, 6, 3, 2, 1, 0] rfl (pl_Z_doStep_353 h0 hB F _ hw98 ?_)
  intro v87 e9
  subst w98
  try dsimp only at h
  change ax_R G 10 0 0 (387, [(0, .inr (0, 38)), (4, .inl (.int ((s.1 0 49 ((s.1 0 71 (a1).toNatClampNeg)).toNatClampNeg)))), (5, .inl (.long (v87)))], [], ax_m (s) ρ)
  obtain ⟨b88, h⟩ := ax_gd h
  refine ax_bk hK (ax_fc (ax_v_ld (ax_r_aload_n (i := 0) d_Z_doStep_387 rfl)) (ax_fc (ax_w_gf (e := none) hal d_Z_doStep_388 fd_Z_139) (ax_fc (ax_v_ld (ax_r_iload d_Z_doStep_391)) (ax_fc (ax_v_ld (ax_r_lload d_Z_doStep_393)) (ax_fc (ax_w_last hal d_Z_doStep_395) ax_fn))))) (y := (396, [(0, .inr (0, 38)), (4, .inl (.int ((s.1 0 49 ((s.1 0 71 (a1).toNatClampNeg)).toNatClampNeg)))), (5, .inl (.long (v87)))], [], ax_m (ax_wL s 0 80 ((s.1 0 49 ((s.1 0 71 (a1).toNatClampNeg)).toNatClampNeg)).toNatClampNeg v87) ρ)) rfl ⟨trivial, (h0 38 rfl), trivial, trivial, ⟨(h0 80 rfl), ax_inp b88⟩, trivial⟩ ?_
  refine ax_lt (Q := fun ςς => ax_R G 10 0 0 (396, [(0, .inr (0, 38)), (4, .inl (.int ((s.1 0 49 ((s.1 0 71 (a1).toNatClampNeg)).toNatClampNeg)))), (5, .inl (.long (v87)))], [], ax_m (ςς) ρ)) h (fun s89 h => ?_)
  cases h
  exact ax_vret hA d_Z_doStep_396
