def y_Z_isDigit : MethodName := ⟨"CipherNotationModel", "isDigit", "(I)Z"⟩
theorem d_Z_isDigit_0 : decode prog_8_method_5_code 0 = .ok (.iload_n 0, 1) := by decide +kernel
theorem d_Z_isDigit_1 : decode prog_8_method_5_code 1 = .ok (.bipush (48), 2) := by decide +kernel
theorem d_Z_isDigit_3 : decode prog_8_method_5_code 3 = .ok (.if_icmp .lt (13), 3) := by decide +kernel
theorem d_Z_isDigit_6 : decode prog_8_method_5_code 6 = .ok (.iload_n 0, 1) := by decide +kernel
theorem d_Z_isDigit_7 : decode prog_8_method_5_code 7 = .ok (.bipush (57), 2) := by decide +kernel
theorem d_Z_isDigit_9 : decode prog_8_method_5_code 9 = .ok (.if_icmp .gt (7), 3) := by decide +kernel
theorem d_Z_isDigit_12 : decode prog_8_method_5_code 12 = .ok (.iconst 1, 1) := by decide +kernel
theorem d_Z_isDigit_13 : decode prog_8_method_5_code 13 = .ok (.goto (4), 3) := by decide +kernel
theorem d_Z_isDigit_16 : decode prog_8_method_5_code 16 = .ok (.iconst 0, 1) := by decide +kernel
theorem d_Z_isDigit_17 : decode prog_8_method_5_code 17 = .ok (.ireturn, 1) := by decide +kernel
def f_Z_isDigit (a1 : Int32) : Option (Int32) :=
  if a1 < (48 : Int32) then
    some ((0 : Int32))
  else
    if (57 : Int32) < a1 then
      some ((0 : Int32))
    else
      some ((1 : Int32))
set_option maxHeartbeats 4000000 in
set_option maxRecDepth 100000 in
theorem t_Z_isDigit {l : Launch} {D : va_G} {cA : Nat → ClassId} {ad : Nat → Nat → Nat} {al : List (Nat × Nat)} {θ : ax_Θ} {ρ : ax_ρ}  {a1 : Int32} {s : ax_σ} {r0 : Int32} (h : f_Z_isDigit a1 = some r0) : ax_T l D cA ad al θ y_Z_isDigit (.code y_Z_isDigit prog_8_method_5_code 1 (some .boolean)) 0 [.inl (.int (a1))] (ax_m s ρ) (some (.inl (.int r0))) (ax_m s ρ) := by
  refine ax_T_of (own := "CipherNotationModel") (by decide) rfl (Nat.le_of_ble_eq_true rfl) [(0, .inl (.int (a1)))] rfl ?_
  intro G hA
  have hB := hA.B
  have hK := hB.K
  have hal := hB.la
  unfold f_Z_isDigit at h
  refine ax_bk hK (ax_fc (ax_v_ld (ax_r_iload_n (i := 0) d_Z_isDigit_0 rfl)) (ax_fc (ax_v_pu (ax_r_bipush (v := 48) d_Z_isDigit_1 (by decide))) ax_fn)) (y := (3, [(0, .inl (.int (a1)))], [.inl (.int ((48 : Int32))), .inl (.int (a1))], ax_m (s) ρ)) rfl ⟨trivial, trivial, trivial⟩ ?_
  refine ax_ic_lt (tgt := 16) hK d_Z_isDigit_3 (by decide) (fun c2 => ?_) (fun c2 => ?_)
  · rw [if_pos c2] at h
    refine ax_bk hK (ax_fc (ax_v_pu (ax_r_iconst (v := 0) d_Z_isDigit_16 (by decide))) ax_fn) (y := (17, [(0, .inl (.int (a1)))], [.inl (.int ((0 : Int32)))], ax_m (s) ρ)) rfl ⟨trivial, trivial⟩ ?_
    cases h
    exact ax_zret hA (by decide) d_Z_isDigit_17
  · rw [if_neg c2] at h
    refine ax_bk hK (ax_fc (ax_v_ld (ax_r_iload_n (i := 0) d_Z_isDigit_6 rfl)) (ax_fc (ax_v_pu (ax_r_bipush (v := 57) d_Z_isDigit_7 (by decide))) ax_fn)) (y := (9, [(0, .inl (.int (a1)))], [.inl (.int ((57 : Int32))), .inl (.int (a1))], ax_m (s) ρ)) rfl ⟨trivial, trivial, trivial⟩ ?_
    refine ax_ic_gt (tgt := 16) hK d_Z_isDigit_9 (by decide) (fun c1 => ?_) (fun c1 => ?_)
    · rw [if_pos c1] at h
      refine ax_bk hK (ax_fc (ax_v_pu (ax_r_iconst (v := 0) d_Z_isDigit_16 (by decide))) ax_fn) (y := (17, [(0, .inl (.int (a1)))], [.inl (.int ((0 : Int32)))], ax_m (s) ρ)) rfl ⟨trivial, trivial⟩ ?_
      cases h
      exact ax_zret hA (by decide) d_Z_isDigit_17
    · rw [if_neg c1] at h
      refine ax_bk hK (ax_fc (ax_v_pu (ax_r_iconst (v := 1) d_Z_isDigit_12 (by decide))) (ax_fc (ax_v_go (tgt := 17) d_Z_isDigit_13 (by decide)) ax_fn)) (y := (17, [(0, .inl (.int (a1)))], [.inl (.int ((1 : Int32)))], ax_m (s) ρ)) rfl ⟨trivial, trivial, trivial⟩ ?_
      cases h
      exact ax_zret hA (by decide) d_Z_isDigit_17
def y_Z_hex : MethodName := ⟨"CipherNotationModel", "hex", "(I)I"⟩
theorem d_Z_hex_0 : decode prog_8_method_6_code 0 = .ok (.iload_n 0, 1) := by decide +kernel
theorem d_Z_hex_1 : decode prog_8_method_6_code 1 = .ok (.invokestatic (153), 3) := by decide +kernel
theorem d_Z_hex_4 : decode prog_8_method_6_code 4 = .ok (.ifCond .eq (10), 3) := by decide +kernel
theorem d_Z_hex_7 : decode prog_8_method_6_code 7 = .ok (.iload_n 0, 1) := by decide +kernel
theorem d_Z_hex_8 : decode prog_8_method_6_code 8 = .ok (.bipush (48), 2) := by decide +kernel
theorem d_Z_hex_10 : decode prog_8_method_6_code 10 = .ok (.isub, 1) := by decide +kernel
theorem d_Z_hex_11 : decode prog_8_method_6_code 11 = .ok (.goto (26), 3) := by decide +kernel
theorem d_Z_hex_14 : decode prog_8_method_6_code 14 = .ok (.iload_n 0, 1) := by decide +kernel
theorem d_Z_hex_15 : decode prog_8_method_6_code 15 = .ok (.bipush (97), 2) := by decide +kernel
theorem d_Z_hex_17 : decode prog_8_method_6_code 17 = .ok (.if_icmp .lt (19), 3) := by decide +kernel
theorem d_Z_hex_20 : decode prog_8_method_6_code 20 = .ok (.iload_n 0, 1) := by decide +kernel
theorem d_Z_hex_21 : decode prog_8_method_6_code 21 = .ok (.bipush (102), 2) := by decide +kernel
theorem d_Z_hex_23 : decode prog_8_method_6_code 23 = .ok (.if_icmp .gt (13), 3) := by decide +kernel
theorem d_Z_hex_26 : decode prog_8_method_6_code 26 = .ok (.iload_n 0, 1) := by decide +kernel
theorem d_Z_hex_27 : decode prog_8_method_6_code 27 = .ok (.bipush (97), 2) := by decide +kernel
theorem d_Z_hex_29 : decode prog_8_method_6_code 29 = .ok (.isub, 1) := by decide +kernel
theorem d_Z_hex_30 : decode prog_8_method_6_code 30 = .ok (.bipush (10), 2) := by decide +kernel
theorem d_Z_hex_32 : decode prog_8_method_6_code 32 = .ok (.iadd, 1) := by decide +kernel
theorem d_Z_hex_33 : decode prog_8_method_6_code 33 = .ok (.goto (4), 3) := by decide +kernel
theorem d_Z_hex_36 : decode prog_8_method_6_code 36 = .ok (.iconst (-1), 1) := by decide +kernel
theorem d_Z_hex_37 : decode prog_8_method_6_code 37 = .ok (.ireturn, 1) := by decide +kernel
theorem cw_Z_153 : ax_cw "CipherNotationModel" 153 y_Z_isDigit (.code y_Z_isDigit prog_8_method_5_code 1 (some .boolean)) 1 := ⟨nw_mem 1103 (by decide +kernel) (by decide +kernel), nw_mem 7 (by decide +kernel) (by decide +kernel), nw_mem 1105 (by decide +kernel) (by decide +kernel), by decide +kernel, by decide +kernel⟩
theorem sm_Z_isDigit : Cond.static y_Z_isDigit ∈ ax_tbl := nw_mem 1104 (by decide +kernel) (by decide +kernel)
def f_Z_hex (a1 : Int32) : Option (Int32) :=
  Option.bind (f_Z_isDigit a1) (fun r1 =>
    if r1 = (0 : Int32) then
      if a1 < (97 : Int32) then
        some ((-1 : Int32))
      else
        if (102 : Int32) < a1 then
          some ((-1 : Int32))
        else
          some (((a1 - (97 : Int32)) + (10 : Int32)))
    else
      some ((a1 - (48 : Int32))))
set_option maxHeartbeats 4000000 in
set_option maxRecDepth 100000 in
theorem t_Z_hex {l : Launch} {D : va_G} {cA : Nat → ClassId} {ad : Nat → Nat → Nat} {al : List (Nat × Nat)} {θ : ax_Θ} {ρ : ax_ρ}  {a1 : Int32} {s : ax_σ} {r0 : Int32} (h : f_Z_hex a1 = some r0) : ax_T l D cA ad al θ y_Z_hex (.code y_Z_hex prog_8_method_6_code 1 (some .int)) 1 [.inl (.int (a1))] (ax_m s ρ) (some (.inl (.int r0))) (ax_m s ρ) := by
  refine ax_T_of (own := "CipherNotationModel") (by decide) rfl (Nat.le_of_ble_eq_true rfl) [(0, .inl (.int (a1)))] rfl ?_
  intro G hA
  have hB := hA.B
  have hK := hB.K
  have hal := hB.la
  unfold f_Z_hex at h
  refine ax_bk hK (ax_fc (ax_v_ld (ax_r_iload_n (i := 0) d_Z_hex_0 rfl)) ax_fn) (y := (1, [(0, .inl (.int (a1)))], [.inl (.int (a1))], ax_m (s) ρ)) rfl ⟨trivial, trivial⟩ ?_
  obtain ⟨r1, q2, h⟩ := ax_bd h
  refine ax_bS (rest := []) hB (t_Z_isDigit q2) cw_Z_153 sm_Z_isDigit d_Z_hex_1 (by decide) (by decide) rfl rfl (by decide) ?_
  change ax_R G 1 0 0 (4, [(0, .inl (.int (a1)))], [.inl (.int (r1))], ax_m (s) ρ)
  refine ax_if_eq (tgt := 14) hK d_Z_hex_4 (by decide) (fun c5 => ?_) (fun c5 => ?_)
  · rw [if_pos c5] at h
    refine ax_bk hK (ax_fc (ax_v_ld (ax_r_iload_n (i := 0) d_Z_hex_14 rfl)) (ax_fc (ax_v_pu (ax_r_bipush (v := 97) d_Z_hex_15 (by decide))) ax_fn)) (y := (17, [(0, .inl (.int (a1)))], [.inl (.int ((97 : Int32))), .inl (.int (a1))], ax_m (s) ρ)) rfl ⟨trivial, trivial, trivial⟩ ?_
    refine ax_ic_lt (tgt := 36) hK d_Z_hex_17 (by decide) (fun c4 => ?_) (fun c4 => ?_)
    · rw [if_pos c4] at h
      refine ax_bk hK (ax_fc (ax_v_pu (ax_r_iconst (v := -1) d_Z_hex_36 (by decide))) ax_fn) (y := (37, [(0, .inl (.int (a1)))], [.inl (.int ((-1 : Int32)))], ax_m (s) ρ)) rfl ⟨trivial, trivial⟩ ?_
      cases h
      exact ax_iret hA d_Z_hex_37
    · rw [if_neg c4] at h
      refine ax_bk hK (ax_fc (ax_v_ld (ax_r_iload_n (i := 0) d_Z_hex_20 rfl)) (ax_fc (ax_v_pu (ax_r_bipush (v := 102) d_Z_hex_21 (by decide))) ax_fn)) (y := (23, [(0, .inl (.int (a1)))], [.inl (.int ((102 : Int32))), .inl (.int (a1))], ax_m (s) ρ)) rfl ⟨trivial, trivial, trivial⟩ ?_
      refine ax_ic_gt (tgt := 36) hK d_Z_hex_23 (by decide) (fun c3 => ?_) (fun c3 => ?_)
      · rw [if_pos c3] at h
        refine ax_bk hK (ax_fc (ax_v_pu (ax_r_iconst (v := -1) d_Z_hex_36 (by decide))) ax_fn) (y := (37, [(0, .inl (.int (a1)))], [.inl (.int ((-1 : Int32)))], ax_m (s) ρ)) rfl ⟨trivial, trivial⟩ ?_
        cases h
        exact ax_iret hA d_Z_hex_37
      · rw [if_neg c3] at h
        refine ax_bk hK (ax_fc (ax_v_ld (ax_r_iload_n (i := 0) d_Z_hex_26 rfl)) (ax_fc (ax_v_pu (ax_r_bipush (v := 97) d_Z_hex_27 (by decide))) (ax_fc (ax_v_pu (ax_r_isub d_Z_hex_29)) (ax_fc (ax_v_pu (ax_r_bipush (v := 10) d_Z_hex_30 (by decide))) (ax_fc (ax_v_pu (ax_r_iadd d_Z_hex_32)) (ax_fc (ax_v_go (tgt := 37) d_Z_hex_33 (by decide)) ax_fn)))))) (y := (37, [(0, .inl (.int (a1)))], [.inl (.int (((a1 - (97 : Int32)) + (10 : Int32))))], ax_m (s) ρ)) rfl ⟨trivial, trivial, trivial, trivial, trivial, trivial, trivial⟩ ?_
        cases h
        exact ax_iret hA d_Z_hex_37
  · rw [if_neg c5] at h
    refine ax_bk hK (ax_fc (ax_v_ld (ax_r_iload_n (i := 0) d_Z_hex_7 rfl)) (ax_fc (ax_v_pu (ax_r_bipush (v := 48) d_Z_hex_8 (by decide))) (ax_fc (ax_v_pu (ax_r_isub d_Z_hex_10)) (ax_fc (ax_v_go (tgt := 37) d_Z_hex_11 (by decide)) ax_fn)))) (y := (37, [(0, .inl (.int (a1)))], [.inl (.int ((a1 - (48 : Int32))))], ax_m (s) ρ)) rfl ⟨trivial, trivial, trivial, trivial, trivial⟩ ?_
    cases h
    exact ax_iret hA d_Z_hex_37
def y_Z_isState : MethodName := ⟨"CipherNotationModel", "isState", "(I)Z"⟩
theorem d_Z_isState_0 : decode prog_8_method_7_code 0 = .ok (.iload_n 0, 1) := by decide +kernel
theorem d_Z_isState_1 : decode prog_8_method_7_code 1 = .ok (.bipush (65), 2) := by decide +kernel
theorem d_Z_isState_3 : decode prog_8_method_7_code 3 = .ok (.if_icmp .lt (13), 3) := by decide +kernel
theorem d_Z_isState_6 : decode prog_8_method_7_code 6 = .ok (.iload_n 0, 1) := by decide +kernel
theorem d_Z_isState_7 : decode prog_8_method_7_code 7 = .ok (.bipush (68), 2) := by decide +kernel
theorem d_Z_isState_9 : decode prog_8_method_7_code 9 = .ok (.if_icmp .gt (7), 3) := by decide +kernel
theorem d_Z_isState_12 : decode prog_8_method_7_code 12 = .ok (.iconst 1, 1) := by decide +kernel
theorem d_Z_isState_13 : decode prog_8_method_7_code 13 = .ok (.goto (4), 3) := by decide +kernel
theorem d_Z_isState_16 : decode prog_8_method_7_code 16 = .ok (.iconst 0, 1) := by decide +kernel
theorem d_Z_isState_17 : decode prog_8_method_7_code 17 = .ok (.ireturn, 1) := by decide +kernel
def f_Z_isState (a1 : Int32) : Option (Int32) :=
  if a1 < (65 : Int32) then
    some ((0 : Int32))
  else
    if (68 : Int32) < a1 then
      some ((0 : Int32))
    else
      some ((1 : Int32))
set_option maxHeartbeats 4000000 in
set_option maxRecDepth 100000 in
theorem t_Z_isState {l : Launch} {D : va_G} {cA : Nat → ClassId} {ad : Nat → Nat → Nat} {al : List (Nat × Nat)} {θ : ax_Θ} {ρ : ax_ρ}  {a1 : Int32} {s : ax_σ} {r0 : Int32} (h : f_Z_isState a1 = some r0) : ax_T l D cA ad al θ y_Z_isState (.code y_Z_isState prog_8_method_7_code 1 (some .boolean)) 0 [.inl (.int (a1))] (ax_m s ρ) (some (.inl (.int r0))) (ax_m s ρ) := by
  refine ax_T_of (own := "CipherNotationModel") (by decide) rfl (Nat.le_of_ble_eq_true rfl) [(0, .inl (.int (a1)))] rfl ?_
  intro G hA
  have hB := hA.B
  have hK := hB.K
  have hal := hB.la
  unfold f_Z_isState at h
  refine ax_bk hK (ax_fc (ax_v_ld (ax_r_iload_n (i := 0) d_Z_isState_0 rfl)) (ax_fc (ax_v_pu (ax_r_bipush (v := 65) d_Z_isState_1 (by decide))) ax_fn)) (y := (3, [(0, .inl (.int (a1)))], [.inl (.int ((65 : Int32))), .inl (.int (a1))], ax_m (s) ρ)) rfl ⟨trivial, trivial, trivial⟩ ?_
  refine ax_ic_lt (tgt := 16) hK d_Z_isState_3 (by decide) (fun c2 => ?_) (fun c2 => ?_)
  · rw [if_pos c2] at h
    refine ax_bk hK (ax_fc (ax_v_pu (ax_r_iconst (v := 0) d_Z_isState_16 (by decide))) ax_fn) (y := (17, [(0, .inl (.int (a1)))], [.inl (.int ((0 : Int32)))], ax_m (s) ρ)) rfl ⟨trivial, trivial⟩ ?_
    cases h
    exact ax_zret hA (by decide) d_Z_isState_17
  · rw [if_neg c2] at h
    refine ax_bk hK (ax_fc (ax_v_ld (ax_r_iload_n (i := 0) d_Z_isState_6 rfl)) (ax_fc (ax_v_pu (ax_r_bipush (v := 68) d_Z_isState_7 (by decide))) ax_fn)) (y := (9, [(0, .inl (.int (a1)))], [.inl (.int ((68 : Int32))), .inl (.int (a1))], ax_m (s) ρ)) rfl ⟨trivial, trivial, trivial⟩ ?_
    refine ax_ic_gt (tgt := 16) hK d_Z_isState_9 (by decide) (fun c1 => ?_) (fun c1 => ?_)
    · rw [if_pos c1] at h
      refine ax_bk hK (ax_fc (ax_v_pu (ax_r_iconst (v := 0) d_Z_isState_16 (by decide))) ax_fn) (y := (17, [(0, .inl (.int (a1)))], [.inl (.int ((0 : Int32)))], ax_m (s) ρ)) rfl ⟨trivial, trivial⟩ ?_
      cases h
      exact ax_zret hA (by decide) d_Z_isState_17
    · rw [if_neg c1] at h
      refine ax_bk hK (ax_fc (ax_v_pu (ax_r_iconst (v := 1) d_Z_isState_12 (by decide))) (ax_fc (ax_v_go (tgt := 17) d_Z_isState_13 (by decide)) ax_fn)) (y := (17, [(0, .inl (.int (a1)))], [.inl (.int ((1 : Int32)))], ax_m (s) ρ)) rfl ⟨trivial, trivial, trivial⟩ ?_
      cases h
      exact ax_zret hA (by decide) d_Z_isState_17
def y_Z_isLetter : MethodName := ⟨"CipherNotationModel", "isLetter", "(I)Z"⟩
theorem d_Z_isLetter_0 : decode prog_8_method_8_code 0 = .ok (.iload_n 0, 1) := by decide +kernel
theorem d_Z_isLetter_1 : decode prog_8_method_8_code 1 = .ok (.bipush (105), 2) := by decide +kernel
theorem d_Z_isLetter_3 : decode prog_8_method_8_code 3 = .ok (.if_icmp .eq (9), 3) := by decide +kernel
theorem d_Z_isLetter_6 : decode prog_8_method_8_code 6 = .ok (.iload_n 0, 1) := by decide +kernel
theorem d_Z_isLetter_7 : decode prog_8_method_8_code 7 = .ok (.bipush (106), 2) := by decide +kernel
theorem d_Z_isLetter_9 : decode prog_8_method_8_code 9 = .ok (.if_icmp .ne (7), 3) := by decide +kernel
theorem d_Z_isLetter_12 : decode prog_8_method_8_code 12 = .ok (.iconst 1, 1) := by decide +kernel
theorem d_Z_isLetter_13 : decode prog_8_method_8_code 13 = .ok (.goto (4), 3) := by decide +kernel
theorem d_Z_isLetter_16 : decode prog_8_method_8_code 16 = .ok (.iconst 0, 1) := by decide +kernel
theorem d_Z_isLetter_17 : decode prog_8_method_8_code 17 = .ok (.ireturn, 1) := by decide +kernel
def f_Z_isLetter (a1 : Int32) : Option (Int32) :=
  if a1 = (105 : Int32) then
    some ((1 : Int32))
  else
    if a1 = (106 : Int32) then
      some ((1 : Int32))
    else
      some ((0 : Int32))
set_option maxHeartbeats 4000000 in
set_option maxRecDepth 100000 in
theorem t_Z_isLetter {l : Launch} {D : va_G} {cA : Nat → ClassId} {ad : Nat → Nat → Nat} {al : List (Nat × Nat)} {θ : ax_Θ} {ρ : ax_ρ}  {a1 : Int32} {s : ax_σ} {r0 : Int32} (h : f_Z_isLetter a1 = some r0) : ax_T l D cA ad al θ y_Z_isLetter (.code y_Z_isLetter prog_8_method_8_code 1 (some .boolean)) 0 [.inl (.int (a1))] (ax_m s ρ) (some (.inl (.int r0))) (ax_m s ρ) := by
  refine ax_T_of (own := "CipherNotationModel") (by decide) rfl (Nat.le_of_ble_eq_true rfl) [(0, .inl (.int (a1)))] rfl ?_
  intro G hA
  have hB := hA.B
  have hK := hB.K
  have hal := hB.la
  unfold f_Z_isLetter at h
  refine ax_bk hK (ax_fc (ax_v_ld (ax_r_iload_n (i := 0) d_Z_isLetter_0 rfl)) (ax_fc (ax_v_pu (ax_r_bipush (v := 105) d_Z_isLetter_1 (by decide))) ax_fn)) (y := (3, [(0, .inl (.int (a1)))], [.inl (.int ((105 : Int32))), .inl (.int (a1))], ax_m (s) ρ)) rfl ⟨trivial, trivial, trivial⟩ ?_
  refine ax_ic_eq (tgt := 12) hK d_Z_isLetter_3 (by decide) (fun c2 => ?_) (fun c2 => ?_)
  · rw [if_pos c2] at h
    refine ax_bk hK (ax_fc (ax_v_pu (ax_r_iconst (v := 1) d_Z_isLetter_12 (by decide))) (ax_fc (ax_v_go (tgt := 17) d_Z_isLetter_13 (by decide)) ax_fn)) (y := (17, [(0, .inl (.int (a1)))], [.inl (.int ((1 : Int32)))], ax_m (s) ρ)) rfl ⟨trivial, trivial, trivial⟩ ?_
    cases h
    exact ax_zret hA (by decide) d_Z_isLetter_17
  · rw [if_neg c2] at h
    refine ax_bk hK (ax_fc (ax_v_ld (ax_r_iload_n (i := 0) d_Z_isLetter_6 rfl)) (ax_fc (ax_v_pu (ax_r_bipush (v := 106) d_Z_isLetter_7 (by decide))) ax_fn)) (y := (9, [(0, .inl (.int (a1)))], [.inl (.int ((106 : Int32))), .inl (.int (a1))], ax_m (s) ρ)) rfl ⟨trivial, trivial, trivial⟩ ?_
    refine ax_ic_ne (tgt := 16) hK d_Z_isLetter_9 (by decide) (fun c1 => ?_) (fun c1 => ?_)
    · rw [if_neg c1] at h
      refine ax_bk hK (ax_fc (ax_v_pu (ax_r_iconst (v := 0) d_Z_isLetter_16 (by decide))) ax_fn) (y := (17, [(0, .inl (.int (a1)))], [.inl (.int ((0 : Int32)))], ax_m (s) ρ)) rfl ⟨trivial, trivial⟩ ?_
      cases h
      exact ax_zret hA (by decide) d_Z_isLetter_17
    · rw [if_pos c1] at h
      refine ax_bk hK (ax_fc (ax_v_pu (ax_r_iconst (v := 1) d_Z_isLetter_12 (by decide))) (ax_fc (ax_v_go (tgt := 17) d_Z_isLetter_13 (by decide)) ax_fn)) (y := (17, [(0, .inl (.int (a1)))], [.inl (.int ((1 : Int32)))], ax_m (s) ρ)) rfl ⟨trivial, trivial, trivial⟩ ?_
      cases h
      exact ax_zret hA (by decide) d_Z_isLetter_17
def y_Z_print_II : MethodName := ⟨"CipherNotationModel", "print", "(II)V"⟩
theorem d_Z_print_II_0 : decode prog_8_method_9_code 0 = .ok (.aload_n 0, 1) := by decide +kernel
theorem d_Z_print_II_1 : decode prog_8_method_9_code 1 = .ok (.getfield (99), 3) := by decide +kernel
theorem d_Z_print_II_4 : decode prog_8_method_9_code 4 = .ok (.aload_n 0, 1) := by decide +kernel
theorem d_Z_print_II_5 : decode prog_8_method_9_code 5 = .ok (.getfield (157), 3) := by decide +kernel
theorem d_Z_print_II_8 : decode prog_8_method_9_code 8 = .ok (.iload_n 1, 1) := by decide +kernel
theorem d_Z_print_II_9 : decode prog_8_method_9_code 9 = .ok (.iastore, 1) := by decide +kernel
theorem d_Z_print_II_10 : decode prog_8_method_9_code 10 = .ok (.aload_n 0, 1) := by decide +kernel
theorem d_Z_print_II_11 : decode prog_8_method_9_code 11 = .ok (.aload_n 0, 1) := by decide +kernel
theorem d_Z_print_II_12 : decode prog_8_method_9_code 12 = .ok (.getfield (157), 3) := by decide +kernel
theorem d_Z_print_II_15 : decode prog_8_method_9_code 15 = .ok (.iload_n 2, 1) := by decide +kernel
theorem d_Z_print_II_16 : decode prog_8_method_9_code 16 = .ok (.iadd, 1) := by decide +kernel
theorem d_Z_print_II_17 : decode prog_8_method_9_code 17 = .ok (.putfield (157), 3) := by decide +kernel
theorem d_Z_print_II_20 : decode prog_8_method_9_code 20 = .ok (.return_, 1) := by decide +kernel
theorem fd_Z_99 : ax_fd "CipherNotationModel" 99 6 52 := ⟨nC6, nT6, 73, nY6, rfl, nW6, by decide, nw_mem 909 (by decide +kernel) (by decide +kernel), nO6, nA6⟩
theorem fd_Z_157 : ax_fd "CipherNotationModel" 157 6 51 := ⟨nC6, nT6, 73, nY6, rfl, nW6, by decide, nw_mem 908 (by decide +kernel) (by decide +kernel), nO6, nA6⟩
theorem fp_Z_157 : ax_fp "CipherNotationModel" 157 6 51 (.int) := ⟨nC6, nT6, 73, nY6, rfl, nW6, by decide, nw_mem 908 (by decide +kernel) (by decide +kernel), nO6, nA6, by decide +kernel, by decide +kernel⟩
def f_Z_print_II (a1 : Int32) (a2 : Int32) (s : ax_σ) : Option (ax_σ) :=
  bif ax_in (s.1 0 38 51) 280 then
  ax_let (ax_wI s 0 67 ((s.1 0 38 51)).toNatClampNeg a1) (fun s2 =>
    ax_let (ax_wI s2 0 38 51 ((s2.1 0 38 51) + a2)) (fun s3 =>
      some (s3)))
  else none
set_option maxHeartbeats 4000000 in
set_option maxRecDepth 100000 in
theorem t_Z_print_II {l : Launch} {D : va_G} {cA : Nat → ClassId} {ad : Nat → Nat → Nat} {al : List (Nat × Nat)} {θ : ax_Θ} {ρ : ax_ρ} (h0 : ax_M0 al) {a1 : Int32} {a2 : Int32} {s : ax_σ} {s0 : ax_σ} (h : f_Z_print_II a1 a2 s = some s0) : ax_T l D cA ad al θ y_Z_print_II (.code y_Z_print_II prog_8_method_9_code 3 none) 0 [.inr (0, 38), .inl (.int (a1)), .inl (.int (a2))] (ax_m s ρ) none (ax_m s0 ρ) := by
  refine ax_T_of (own := "CipherNotationModel") (by decide) rfl (Nat.le_of_ble_eq_true rfl) [(0, .inr (0, 38)), (1, .inl (.int (a1))), (2, .inl (.int (a2)))] rfl ?_
  intro G hA
  have hB := hA.B
  have hK := hB.K
  have hal := hB.la
  unfold f_Z_print_II at h
  obtain ⟨b1, h⟩ := ax_gd h
  refine ax_bk hK (ax_fc (ax_v_ld (ax_r_aload_n (i := 0) d_Z_print_II_0 rfl)) (ax_fc (ax_w_gf (e := none) hal d_Z_print_II_1 fd_Z_99) (ax_fc (ax_v_ld (ax_r_aload_n (i := 0) d_Z_print_II_4 rfl)) (ax_fc (ax_w_gf (e := none) hal d_Z_print_II_5 fd_Z_157) (ax_fc (ax_v_ld (ax_r_iload_n (i := 1) d_Z_print_II_8 rfl)) (ax_fc (ax_w_iast hal d_Z_print_II_9) ax_fn)))))) (y := (10, [(0, .inr (0, 38)), (1, .inl (.int (a1))), (2, .inl (.int (a2)))], [], ax_m (ax_wI s 0 67 ((s.1 0 38 51)).toNatClampNeg a1) ρ)) rfl ⟨trivial, (h0 38 rfl), trivial, (h0 38 rfl), trivial, ⟨(h0 67 rfl), ax_inp b1⟩, trivial⟩ ?_
  refine ax_lt (Q := fun ςς => ax_R G 3 0 0 (10, [(0, .inr (0, 38)), (1, .inl (.int (a1))), (2, .inl (.int (a2)))], [], ax_m (ςς) ρ)) h (fun s2 h => ?_)
  refine ax_bk hK (ax_fc (ax_v_ld (ax_r_aload_n (i := 0) d_Z_print_II_10 rfl)) (ax_fc (ax_v_ld (ax_r_aload_n (i := 0) d_Z_print_II_11 rfl)) (ax_fc (ax_w_gf (e := none) hal d_Z_print_II_12 fd_Z_157) (ax_fc (ax_v_ld (ax_r_iload_n (i := 2) d_Z_print_II_15 rfl)) (ax_fc (ax_v_pu (ax_r_iadd d_Z_print_II_16)) (ax_fc (ax_w_pf (tc := 0) hal d_Z_print_II_17 fp_Z_157 rfl) ax_fn)))))) (y := (20, [(0, .inr (0, 38)), (1, .inl (.int (a1))), (2, .inl (.int (a2)))], [], ax_m (ax_wI s2 0 38 51 ((s2.1 0 38 51) + a2)) ρ)) rfl ⟨trivial, trivial, (h0 38 rfl), trivial, trivial, (h0 38 rfl), trivial⟩ ?_
  refine ax_lt (Q := fun ςς => ax_R G 3 0 0 (20, [(0, .inr (0, 38)), (1, .inl (.int (a1))), (2, .inl (.int (a2)))], [], ax_m (ςς) ρ)) h (fun s3 h => ?_)
  cases h
  exact ax_vret hA d_Z_print_II_20
def y_Z_printNumber : MethodName := ⟨"CipherNotationModel", "printNumber", "(J)V"⟩
theorem d_Z_printNumber_0 : decode prog_8_method_10_code 0 = .ok (.lconst 1, 1) := by decide +kernel
theorem d_Z_printNumber_1 : decode prog_8_method_10_code 1 = .ok (.lstore_n 3, 1) := by decide +kernel
theorem d_Z_printNumber_2 : decode prog_8_method_10_code 2 = .ok (.lload_n 1, 1) := by decide +kernel
theorem d_Z_printNumber_3 : decode prog_8_method_10_code 3 = .ok (.lload_n 3, 1) := by decide +kernel
theorem d_Z_printNumber_4 : decode prog_8_method_10_code 4 = .ok (.ldiv, 1) := by decide +kernel
theorem d_Z_printNumber_5 : decode prog_8_method_10_code 5 = .ok (.ldc2_w (160), 3) := by decide +kernel
theorem d_Z_printNumber_8 : decode prog_8_method_10_code 8 = .ok (.lcmp, 1) := by decide +kernel
theorem d_Z_printNumber_9 : decode prog_8_method_10_code 9 = .ok (.ifCond .le (12), 3) := by decide +kernel
theorem d_Z_printNumber_12 : decode prog_8_method_10_code 12 = .ok (.lload_n 3, 1) := by decide +kernel
theorem d_Z_printNumber_13 : decode prog_8_method_10_code 13 = .ok (.ldc2_w (162), 3) := by decide +kernel
theorem d_Z_printNumber_16 : decode prog_8_method_10_code 16 = .ok (.lmul, 1) := by decide +kernel
theorem d_Z_printNumber_17 : decode prog_8_method_10_code 17 = .ok (.lstore_n 3, 1) := by decide +kernel
theorem d_Z_printNumber_18 : decode prog_8_method_10_code 18 = .ok (.goto (-16), 3) := by decide +kernel
theorem d_Z_printNumber_21 : decode prog_8_method_10_code 21 = .ok (.lload_n 3, 1) := by decide +kernel
theorem d_Z_printNumber_22 : decode prog_8_method_10_code 22 = .ok (.lconst 0, 1) := by decide +kernel
theorem d_Z_printNumber_23 : decode prog_8_method_10_code 23 = .ok (.lcmp, 1) := by decide +kernel
theorem d_Z_printNumber_24 : decode prog_8_method_10_code 24 = .ok (.ifCond .le (28), 3) := by decide +kernel
theorem d_Z_printNumber_27 : decode prog_8_method_10_code 27 = .ok (.aload_n 0, 1) := by decide +kernel
theorem d_Z_printNumber_28 : decode prog_8_method_10_code 28 = .ok (.bipush (48), 2) := by decide +kernel
theorem d_Z_printNumber_30 : decode prog_8_method_10_code 30 = .ok (.lload_n 1, 1) := by decide +kernel
theorem d_Z_printNumber_31 : decode prog_8_method_10_code 31 = .ok (.lload_n 3, 1) := by decide +kernel
theorem d_Z_printNumber_32 : decode prog_8_method_10_code 32 = .ok (.ldiv, 1) := by decide +kernel
theorem d_Z_printNumber_33 : decode prog_8_method_10_code 33 = .ok (.ldc2_w (162), 3) := by decide +kernel
theorem d_Z_printNumber_36 : decode prog_8_method_10_code 36 = .ok (.lrem, 1) := by decide +kernel
theorem d_Z_printNumber_37 : decode prog_8_method_10_code 37 = .ok (.l2i, 1) := by decide +kernel
theorem d_Z_printNumber_38 : decode prog_8_method_10_code 38 = .ok (.iadd, 1) := by decide +kernel
theorem d_Z_printNumber_39 : decode prog_8_method_10_code 39 = .ok (.iconst 1, 1) := by decide +kernel
theorem d_Z_printNumber_40 : decode prog_8_method_10_code 40 = .ok (.invokevirtual (164), 3) := by decide +kernel
theorem d_Z_printNumber_43 : decode prog_8_method_10_code 43 = .ok (.lload_n 3, 1) := by decide +kernel
theorem d_Z_printNumber_44 : decode prog_8_method_10_code 44 = .ok (.ldc2_w (162), 3) := by decide +kernel
theorem d_Z_printNumber_47 : decode prog_8_method_10_code 47 = .ok (.ldiv, 1) := by decide +kernel
theorem d_Z_printNumber_48 : decode prog_8_method_10_code 48 = .ok (.lstore_n 3, 1) := by decide +kernel
theorem d_Z_printNumber_49 : decode prog_8_method_10_code 49 = .ok (.goto (-28), 3) := by decide +kernel
theorem d_Z_printNumber_52 : decode prog_8_method_10_code 52 = .ok (.return_, 1) := by decide +kernel
def lp_Z_printNumber_2 (F : Nat) (x1 : Int64) (s : ax_σ) : Nat → Int64 → Option (Int64)
  | 0, _ => none
  | n + 1, x3 =>
    bif !decide (x3 = 0) then
    if (lg_cmp (x1 / x3) (9 : Int64)) ≤ (0 : Int32) then
      some x3
    else
      lp_Z_printNumber_2 F x1 s n (x3 * (10 : Int64))
    else none
set_option maxHeartbeats 4000000 in
set_option maxRecDepth 100000 in
theorem pl_Z_printNumber_2 {D : va_G} {cA : Nat → ClassId} {ad : Nat → Nat → Nat} {al : List (Nat × Nat)} {θ : ax_Θ} {l : Launch} {ρ : ax_ρ} {G : ax_G} {F : Nat} {x1 : Int64} {s : ax_σ} (h0 : ax_M0 al) (hB : ax_B D cA ad al θ l "CipherNotationModel" prog_8_method_10_code 5 1 G) : ∀ (n : Nat) {x3 : Int64} (out : Int64), lp_Z_printNumber_2 F x1 s n x3 = some out → (∀ (e3 : Int64), out = e3 → ax_R G 5 0 0 (21, [(0, .inr (0, 38)), (1, .inl (.long (x1))), (3, .inl (.long (e3)))], [], ax_m (s) ρ)) → ax_R G 5 0 0 (2, [(0, .inr (0, 38)), (1, .inl (.long (x1))), (3, .inl (.long (x3)))], [], ax_m (s) ρ) := by
  have hK := hB.K
  have hal := hB.la
  intro n
  induction n with
  | zero =>
    intro x3 out h
    cases h
  | succ n ih =>
    intro x3 out h KE
    rw [lp_Z_printNumber_2] at h
    obtain ⟨b1, h⟩ := ax_gd h
    refine ax_bk hK (ax_fc (ax_v_ld (ax_r_lload_n (i := 1) d_Z_printNumber_2 rfl)) (ax_fc (ax_v_ld (ax_r_lload_n (i := 3) d_Z_printNumber_3 rfl)) (ax_fc (ax_v_ldiv d_Z_printNumber_4) (ax_fc (ax_v_ldc2 (v := 9) d_Z_printNumber_5 (nw_mem 1116 (by decide +kernel) (by decide +kernel))) (ax_fc (ax_v_pu (ax_r_lcmp d_Z_printNumber_8)) ax_fn))))) (y := (9, [(0, .inr (0, 38)), (1, .inl (.long (x1))), (3, .inl (.long (x3)))], [.inl (.int ((lg_cmp (x1 / x3) (9 : Int64))))], ax_m (s) ρ)) rfl ⟨trivial, trivial, (by simpa using b1), trivial, trivial, trivial⟩ ?_
    refine ax_if_le (tgt := 21) hK d_Z_printNumber_9 (by decide) (fun c2 => ?_) (fun c2 => ?_)
    · rw [if_pos c2] at h
      cases h
      exact ax_Lsub [0, 1, 2] rfl (KE _ rfl)
    · rw [if_neg c2] at h
      refine ax_bk hK (ax_fc (ax_v_ld (ax_r_lload_n (i := 3) d_Z_printNumber_12 rfl)) (ax_fc (ax_v_ldc2 (v := 10) d_Z_printNumber_13 (nw_mem 1106 (by decide +kernel) (by decide +kernel))) (ax_fc (ax_v_pu (ax_r_lmul d_Z_printNumber_16)) (ax_fc (ax_v_so (ax_r_lstore_n (i := 3) d_Z_printNumber_17 rfl)) (ax_fc (ax_v_go (tgt := 2) d_Z_printNumber_18 (by decide)) ax_fn))))) (y := (2, [(3, .inl (.long ((x3 * (10 : Int64))))), (0, .inr (0, 38)), (1, .inl (.long (x1)))], [], ax_m (s) ρ)) rfl ⟨trivial, trivial, trivial, trivial, trivial, trivial⟩ ?_
      exact ax_Lsub [1, 2, 0] rfl (ih _ h KE)
theorem cw_Z_164 : ax_cw "CipherNotationModel" 164 y_Z_print_II (.code y_Z_print_II prog_8_method_9_code 3 none) 2 := ⟨nw_mem 1117 (by decide +kernel) (by decide +kernel), nw_mem 7 (by decide +kernel) (by decide +kernel), nw_mem 1120 (by decide +kernel) (by decide +kernel), by decide +kernel, by decide +kernel⟩
theorem im_Z_print_II : Cond.instanceMethod y_Z_print_II ∈ ax_tbl := nw_mem 1119 (by decide +kernel) (by decide +kernel)
theorem se_Z_print_II : Cond.selects y_Z_print_II.cls y_Z_print_II y_Z_print_II ∈ ax_tbl := nw_sel 48 (by decide +kernel) (by decide +kernel)
def lp_Z_printNumber_21 (F : Nat) (x1 : Int64) : Nat → Int64 → ax_σ → Option (ax_σ)
  | 0, _, _ => none
  | n + 1, x3, s =>
    if (lg_cmp x3 (0 : Int64)) ≤ (0 : Int32) then
      some s
    else
      bif !decide (x3 = 0) then
      Option.bind (f_Z_print_II ((48 : Int32) + (((x1 / x3) - (x1 / x3) / (10 : Int64) * (10 : Int64))).toInt32) (1 : Int32) s) (fun s5 =>
        lp_Z_printNumber_21 F x1 n (x3 / (10 : Int64)) s5)
      else none
set_option maxHeartbeats 4000000 in
set_option maxRecDepth 100000 in
theorem pl_Z_printNumber_21 {D : va_G} {cA : Nat → ClassId} {ad : Nat → Nat → Nat} {al : List (Nat × Nat)} {θ : ax_Θ} {l : Launch} {ρ : ax_ρ} {G : ax_G} {F : Nat} {x1 : Int64} (h0 : ax_M0 al) (hB : ax_B D cA ad al θ l "CipherNotationModel" prog_8_method_10_code 5 1 G) : ∀ (n : Nat) {x3 : Int64} {s : ax_σ} (out : ax_σ), lp_Z_printNumber_21 F x1 n x3 s = some out → (∀ (es : ax_σ), out = es → ax_R G 5 0 0 (52, [], [], ax_m (es) ρ)) → ax_R G 5 0 0 (21, [(0, .inr (0, 38)), (1, .inl (.long (x1))), (3, .inl (.long (x3)))], [], ax_m (s) ρ) := by
  have hK := hB.K
  have hal := hB.la
  intro n
  induction n with
  | zero =>
    intro x3 s out h
    cases h
  | succ n ih =>
    intro x3 s out h KE
    rw [lp_Z_printNumber_21] at h
    refine ax_bk hK (ax_fc (ax_v_ld (ax_r_lload_n (i := 3) d_Z_printNumber_21 rfl)) (ax_fc (ax_v_pu (ax_r_lconst (v := 0) d_Z_printNumber_22 (by decide))) (ax_fc (ax_v_pu (ax_r_lcmp d_Z_printNumber_23)) ax_fn))) (y := (24, [(0, .inr (0, 38)), (1, .inl (.long (x1))), (3, .inl (.long (x3)))], [.inl (.int ((lg_cmp x3 (0 : Int64))))], ax_m (s) ρ)) rfl ⟨trivial, trivial, trivial, trivial⟩ ?_
    refine ax_if_le (tgt := 52) hK d_Z_printNumber_24 (by decide) (fun c7 => ?_) (fun c7 => ?_)
    · rw [if_pos c7] at h
      cases h
      exact ax_Lsub [] rfl (KE _ rfl)
    · rw [if_neg c7] at h
      obtain ⟨b4, h⟩ := ax_gd h
      refine ax_bk hK (ax_fc (ax_v_ld (ax_r_aload_n (i := 0) d_Z_printNumber_27 rfl)) (ax_fc (ax_v_pu (ax_r_bipush (v := 48) d_Z_printNumber_28 (by decide))) (ax_fc (ax_v_ld (ax_r_lload_n (i := 1) d_Z_printNumber_30 rfl)) (ax_fc (ax_v_ld (ax_r_lload_n (i := 3) d_Z_printNumber_31 rfl)) (ax_fc (ax_v_ldiv d_Z_printNumber_32) (ax_fc (ax_v_ldc2 (v := 10) d_Z_printNumber_33 (nw_mem 1106 (by decide +kernel) (by decide +kernel))) (ax_fc (ax_v_lrem d_Z_printNumber_36) (ax_fc (ax_v_pu (ax_r_l2i d_Z_printNumber_37)) (ax_fc (ax_v_pu (ax_r_iadd d_Z_printNumber_38)) (ax_fc (ax_v_pu (ax_r_iconst (v := 1) d_Z_printNumber_39 (by decide))) ax_fn)))))))))) (y := (40, [(0, .inr (0, 38)), (1, .inl (.long (x1))), (3, .inl (.long (x3)))], [.inl (.int ((1 : Int32))), .inl (.int (((48 : Int32) + (((x1 / x3) - (x1 / x3) / (10 : Int64) * (10 : Int64))).toInt32))), .inr (0, 38)], ax_m (s) ρ)) rfl ⟨trivial, trivial, trivial, trivial, (by simpa using b4), trivial, (by decide), trivial, trivial, trivial, trivial⟩ ?_
      obtain ⟨s5, q6, h⟩ := ax_bd h
      refine ax_bV (rest := []) hB (t_Z_print_II h0 q6) cw_Z_164 im_Z_print_II se_Z_print_II d_Z_printNumber_40 (h0 38 rfl) rfl rfl (by decide) (by decide) rfl rfl (by decide) ?_
      change ax_R G 5 0 0 (43, [(0, .inr (0, 38)), (1, .inl (.long (x1))), (3, .inl (.long (x3)))], [], ax_m (s5) ρ)
      refine ax_bk hK (ax_fc (ax_v_ld (ax_r_lload_n (i := 3) d_Z_printNumber_43 rfl)) (ax_fc (ax_v_ldc2 (v := 10) d_Z_printNumber_44 (nw_mem 1106 (by decide +kernel) (by decide +kernel))) (ax_fc (ax_v_ldiv d_Z_printNumber_47) (ax_fc (ax_v_so (ax_r_lstore_n (i := 3) d_Z_printNumber_48 rfl)) (ax_fc (ax_v_go (tgt := 21) d_Z_printNumber_49 (by decide)) ax_fn))))) (y := (21, [(3, .inl (.long ((x3 / (10 : Int64))))), (0, .inr (0, 38)), (1, .inl (.long (x1)))], [], ax_m (s5) ρ)) rfl ⟨trivial, trivial, (by decide), trivial, trivial, trivial⟩ ?_
      exact ax_Lsub [1, 2, 0] rfl (ih _ h KE)
def f_Z_printNumber (F : Nat) (a1 : Int64) (s : ax_σ) : Option (ax_σ) :=
  Option.bind (lp_Z_printNumber_2 F a1 s F (1 : Int64)) (fun v3 =>
    Option.bind (lp_Z_printNumber_21 F a1 F v3 s) (fun s8 =>
      some (s8)))
set_option maxHeartbeats 4000000 in
set_option maxRecDepth 100000 in
theorem t_Z_printNumber {l : Launch} {D : va_G} {cA : Nat → ClassId} {ad : Nat → Nat → Nat} {al : List (Nat × Nat)} {θ : ax_Θ} {ρ : ax_ρ} {F : Nat} (h0 : ax_M0 al) {a1 : Int64} {s : ax_σ} {s0 : ax_σ} (h : f_Z_printNumber F a1 s = some s0) : ax_T l D cA ad al θ y_Z_printNumber (.code y_Z_printNumber prog_8_method_10_code 5 none) 1 [.inr (0, 38), .inl (.long (a1))] (ax_m s ρ) none (ax_m s0 ρ) := by
  refine ax_T_of (own := "CipherNotationModel") (by decide) rfl (Nat.le_of_ble_eq_true rfl) [(0, .inr (0, 38)), (1, .inl (.long (a1)))] rfl ?_
  intro G hA
  have hB := hA.B
  have hK := hB.K
  have hal := hB.la
  unfold f_Z_printNumber at h
  refine ax_bk hK (ax_fc (ax_v_pu (ax_r_lconst (v := 1) d_Z_printNumber_0 (by decide))) (ax_fc (ax_v_so (ax_r_lstore_n (i := 3) d_Z_printNumber_1 rfl)) ax_fn)) (y := (2, [(3, .inl (.long ((1 : Int64)))), (0, .inr (0, 38)), (1, .inl (.long (a1)))], [], ax_m (s) ρ)) rfl ⟨trivial, trivial, trivial⟩ ?_
  obtain ⟨w9, hw9, h⟩ := ax_bd h
  refine ax_Lsub [1, 2, 0] rfl (pl_Z_printNumber_2 h0 hB F _ hw9 ?_)
  intro v3 e9
  subst w9
  try dsimp only at h
  change ax_R G 5 0 0 (21, [(0, .inr (0, 38)), (1, .inl (.long (a1))), (3, .inl (.long (v3)))], [], ax_m (s) ρ)
  obtain ⟨w10, hw10, h⟩ := ax_bd h
  refine ax_Lsub [0, 1, 2] rfl (pl_Z_printNumber_21 h0 hB F _ hw10 ?_)
  intro s8 e9
  subst w10
  try dsimp only at h
  change ax_R G 5 0 0 (52, [], [], ax_m (s8) ρ)
  cases h
  exact ax_vret hA d_Z_printNumber_52
def y_Z_restart : MethodName := ⟨"CipherNotationModel", "restart", "()V"⟩
theorem d_Z_restart_0 : decode prog_8_method_11_code 0 = .ok (.aload_n 0, 1) := by decide +kernel
theorem d_Z_restart_1 : decode prog_8_method_11_code 1 = .ok (.iconst 0, 1) := by decide +kernel
theorem d_Z_restart_2 : decode prog_8_method_11_code 2 = .ok (.putfield (168), 3) := by decide +kernel
theorem d_Z_restart_5 : decode prog_8_method_11_code 5 = .ok (.aload_n 0, 1) := by decide +kernel
theorem d_Z_restart_6 : decode prog_8_method_11_code 6 = .ok (.iconst 0, 1) := by decide +kernel
theorem d_Z_restart_7 : decode prog_8_method_11_code 7 = .ok (.putfield (171), 3) := by decide +kernel
theorem d_Z_restart_10 : decode prog_8_method_11_code 10 = .ok (.aload_n 0, 1) := by decide +kernel
theorem d_Z_restart_11 : decode prog_8_method_11_code 11 = .ok (.iconst 0, 1) := by decide +kernel
theorem d_Z_restart_12 : decode prog_8_method_11_code 12 = .ok (.putfield (174), 3) := by decide +kernel
theorem d_Z_restart_15 : decode prog_8_method_11_code 15 = .ok (.aload_n 0, 1) := by decide +kernel
theorem d_Z_restart_16 : decode prog_8_method_11_code 16 = .ok (.iconst 0, 1) := by decide +kernel
theorem d_Z_restart_17 : decode prog_8_method_11_code 17 = .ok (.putfield (177), 3) := by decide +kernel
theorem d_Z_restart_20 : decode prog_8_method_11_code 20 = .ok (.aload_n 0, 1) := by decide +kernel
theorem d_Z_restart_21 : decode prog_8_method_11_code 21 = .ok (.iconst 0, 1) := by decide +kernel
theorem d_Z_restart_22 : decode prog_8_method_11_code 22 = .ok (.putfield (180), 3) := by decide +kernel
theorem d_Z_restart_25 : decode prog_8_method_11_code 25 = .ok (.aload_n 0, 1) := by decide +kernel
theorem d_Z_restart_26 : decode prog_8_method_11_code 26 = .ok (.iconst 0, 1) := by decide +kernel
theorem d_Z_restart_27 : decode prog_8_method_11_code 27 = .ok (.putfield (183), 3) := by decide +kernel
theorem d_Z_restart_30 : decode prog_8_method_11_code 30 = .ok (.aload_n 0, 1) := by decide +kernel
theorem d_Z_restart_31 : decode prog_8_method_11_code 31 = .ok (.iconst 0, 1) := by decide +kernel
theorem d_Z_restart_32 : decode prog_8_method_11_code 32 = .ok (.putfield (186), 3) := by decide +kernel
theorem d_Z_restart_35 : decode prog_8_method_11_code 35 = .ok (.aload_n 0, 1) := by decide +kernel
theorem d_Z_restart_36 : decode prog_8_method_11_code 36 = .ok (.iconst 0, 1) := by decide +kernel
theorem d_Z_restart_37 : decode prog_8_method_11_code 37 = .ok (.putfield (189), 3) := by decide +kernel
theorem d_Z_restart_40 : decode prog_8_method_11_code 40 = .ok (.aload_n 0, 1) := by decide +kernel
theorem d_Z_restart_41 : decode prog_8_method_11_code 41 = .ok (.iconst 0, 1) := by decide +kernel
theorem d_Z_restart_42 : decode prog_8_method_11_code 42 = .ok (.putfield (192), 3) := by decide +kernel
theorem d_Z_restart_45 : decode prog_8_method_11_code 45 = .ok (.aload_n 0, 1) := by decide +kernel
theorem d_Z_restart_46 : decode prog_8_method_11_code 46 = .ok (.iconst 0, 1) := by decide +kernel
theorem d_Z_restart_47 : decode prog_8_method_11_code 47 = .ok (.putfield (195), 3) := by decide +kernel
theorem d_Z_restart_50 : decode prog_8_method_11_code 50 = .ok (.aload_n 0, 1) := by decide +kernel
theorem d_Z_restart_51 : decode prog_8_method_11_code 51 = .ok (.iconst 0, 1) := by decide +kernel
theorem d_Z_restart_52 : decode prog_8_method_11_code 52 = .ok (.putfield (198), 3) := by decide +kernel
theorem d_Z_restart_55 : decode prog_8_method_11_code 55 = .ok (.aload_n 0, 1) := by decide +kernel
theorem d_Z_restart_56 : decode prog_8_method_11_code 56 = .ok (.iconst 0, 1) := by decide +kernel
theorem d_Z_restart_57 : decode prog_8_method_11_code 57 = .ok (.putfield (201), 3) := by decide +kernel
theorem d_Z_restart_60 : decode prog_8_method_11_code 60 = .ok (.aload_n 0, 1) := by decide +kernel
theorem d_Z_restart_61 : decode prog_8_method_11_code 61 = .ok (.iconst 0, 1) := by decide +kernel
theorem d_Z_restart_62 : decode prog_8_method_11_code 62 = .ok (.putfield (157), 3) := by decide +kernel
theorem d_Z_restart_65 : decode prog_8_method_11_code 65 = .ok (.return_, 1) := by decide +kernel
theorem fp_Z_168 : ax_fp "CipherNotationModel" 168 6 7 (.int) := ⟨nC6, nT6, 73, nY6, rfl, nW6, by decide, nw_mem 864 (by decide +kernel) (by decide +kernel), nO6, nA6, by decide +kernel, by decide +kernel⟩
theorem fp_Z_171 : ax_fp "CipherNotationModel" 171 6 8 (.int) := ⟨nC6, nT6, 73, nY6, rfl, nW6, by decide, nw_mem 865 (by decide +kernel) (by decide +kernel), nO6, nA6, by decide +kernel, by decide +kernel⟩
theorem fp_Z_174 : ax_fp "CipherNotationModel" 174 6 11 (.int) := ⟨nC6, nT6, 73, nY6, rfl, nW6, by decide, nw_mem 868 (by decide +kernel) (by decide +kernel), nO6, nA6, by decide +kernel, by decide +kernel⟩
theorem fp_Z_177 : ax_fp "CipherNotationModel" 177 6 14 (.int) := ⟨nC6, nT6, 73, nY6, rfl, nW6, by decide, nw_mem 871 (by decide +kernel) (by decide +kernel), nO6, nA6, by decide +kernel, by decide +kernel⟩
theorem fp_Z_180 : ax_fp "CipherNotationModel" 180 6 19 (.int) := ⟨nC6, nT6, 73, nY6, rfl, nW6, by decide, nw_mem 876 (by decide +kernel) (by decide +kernel), nO6, nA6, by decide +kernel, by decide +kernel⟩
theorem fp_Z_183 : ax_fp "CipherNotationModel" 183 6 20 (.int) := ⟨nC6, nT6, 73, nY6, rfl, nW6, by decide, nw_mem 877 (by decide +kernel) (by decide +kernel), nO6, nA6, by decide +kernel, by decide +kernel⟩
theorem fp_Z_186 : ax_fp "CipherNotationModel" 186 6 22 (.int) := ⟨nC6, nT6, 73, nY6, rfl, nW6, by decide, nw_mem 879 (by decide +kernel) (by decide +kernel), nO6, nA6, by decide +kernel, by decide +kernel⟩
theorem fp_Z_189 : ax_fp "CipherNotationModel" 189 6 23 (.int) := ⟨nC6, nT6, 73, nY6, rfl, nW6, by decide, nw_mem 880 (by decide +kernel) (by decide +kernel), nO6, nA6, by decide +kernel, by decide +kernel⟩
theorem fp_Z_192 : ax_fp "CipherNotationModel" 192 6 33 (.int) := ⟨nC6, nT6, 73, nY6, rfl, nW6, by decide, nw_mem 890 (by decide +kernel) (by decide +kernel), nO6, nA6, by decide +kernel, by decide +kernel⟩
theorem fp_Z_195 : ax_fp "CipherNotationModel" 195 6 36 (.int) := ⟨nC6, nT6, 73, nY6, rfl, nW6, by decide, nw_mem 893 (by decide +kernel) (by decide +kernel), nO6, nA6, by decide +kernel, by decide +kernel⟩
theorem fp_Z_198 : ax_fp "CipherNotationModel" 198 6 42 (.int) := ⟨nC6, nT6, 73, nY6, rfl, nW6, by decide, nw_mem 899 (by decide +kernel) (by decide +kernel), nO6, nA6, by decide +kernel, by decide +kernel⟩
theorem fp_Z_201 : ax_fp "CipherNotationModel" 201 6 49 (.int) := ⟨nC6, nT6, 73, nY6, rfl, nW6, by decide, nw_mem 906 (by decide +kernel) (by decide +kernel), nO6, nA6, by decide +kernel, by decide +kernel⟩
def f_Z_restart (s : ax_σ) : Option (ax_σ) :=
  ax_let (ax_wI s 0 38 7 (0 : Int32)) (fun s1 =>
    ax_let (ax_wI s1 0 38 8 (0 : Int32)) (fun s2 =>
      ax_let (ax_wI s2 0 38 11 (0 : Int32)) (fun s3 =>
        ax_let (ax_wI s3 0 38 14 (0 : Int32)) (fun s4 =>
          ax_let (ax_wI s4 0 38 19 (0 : Int32)) (fun s5 =>
            ax_let (ax_wI s5 0 38 20 (0 : Int32)) (fun s6 =>
              ax_let (ax_wI s6 0 38 22 (0 : Int32)) (fun s7 =>
                ax_let (ax_wI s7 0 38 23 (0 : Int32)) (fun s8 =>
                  ax_let (ax_wI s8 0 38 33 (0 : Int32)) (fun s9 =>
                    ax_let (ax_wI s9 0 38 36 (0 : Int32)) (fun s10 =>
                      ax_let (ax_wI s10 0 38 42 (0 : Int32)) (fun s11 =>
                        ax_let (ax_wI s11 0 38 49 (0 : Int32)) (fun s12 =>
                          ax_let (ax_wI s12 0 38 51 (0 : Int32)) (fun s13 =>
                            some (s13))))))))))))))
set_option maxHeartbeats 4000000 in
set_option maxRecDepth 100000 in
theorem t_Z_restart {l : Launch} {D : va_G} {cA : Nat → ClassId} {ad : Nat → Nat → Nat} {al : List (Nat × Nat)} {θ : ax_Θ} {ρ : ax_ρ} (h0 : ax_M0 al)  {s : ax_σ} {s0 : ax_σ} (h : f_Z_restart s = some s0) : ax_T l D cA ad al θ y_Z_restart (.code y_Z_restart prog_8_method_11_code 1 none) 0 [.inr (0, 38)] (ax_m s ρ) none (ax_m s0 ρ) := by
  refine ax_T_of (own := "CipherNotationModel") (by decide) rfl (Nat.le_of_ble_eq_true rfl) [(0, .inr (0, 38))] rfl ?_
  intro G hA
  have hB := hA.B
  have hK := hB.K
  have hal := hB.la
  unfold f_Z_restart at h
  refine ax_bk hK (ax_fc (ax_v_ld (ax_r_aload_n (i := 0) d_Z_restart_0 rfl)) (ax_fc (ax_v_pu (ax_r_iconst (v := 0) d_Z_restart_1 (by decide))) (ax_fc (ax_w_pf (tc := 0) hal d_Z_restart_2 fp_Z_168 rfl) ax_fn))) (y := (5, [(0, .inr (0, 38))], [], ax_m (ax_wI s 0 38 7 (0 : Int32)) ρ)) rfl ⟨trivial, trivial, (h0 38 rfl), trivial⟩ ?_
  refine ax_lt (Q := fun ςς => ax_R G 1 0 0 (5, [(0, .inr (0, 38))], [], ax_m (ςς) ρ)) h (fun s1 h => ?_)
  refine ax_bk hK (ax_fc (ax_v_ld (ax_r_aload_n (i := 0) d_Z_restart_5 rfl)) (ax_fc (ax_v_pu (ax_r_iconst (v := 0) d_Z_restart_6 (by decide))) (ax_fc (ax_w_pf (tc := 0) hal d_Z_restart_7 fp_Z_171 rfl) ax_fn))) (y := (10, [(0, .inr (0, 38))], [], ax_m (ax_wI s1 0 38 8 (0 : Int32)) ρ)) rfl ⟨trivial, trivial, (h0 38 rfl), trivial⟩ ?_
  refine ax_lt (Q := fun ςς => ax_R G 1 0 0 (10, [(0, .inr (0, 38))], [], ax_m (ςς) ρ)) h (fun s2 h => ?_)
  refine ax_bk hK (ax_fc (ax_v_ld (ax_r_aload_n (i := 0) d_Z_restart_10 rfl)) (ax_fc (ax_v_pu (ax_r_iconst (v := 0) d_Z_restart_11 (by decide))) (ax_fc (ax_w_pf (tc := 0) hal d_Z_restart_12 fp_Z_174 rfl) ax_fn))) (y := (15, [(0, .inr (0, 38))], [], ax_m (ax_wI s2 0 38 11 (0 : Int32)) ρ)) rfl ⟨trivial, trivial, (h0 38 rfl), trivial⟩ ?_
  refine ax_lt (Q := fun ςς => ax_R G 1 0 0 (15, [(0, .inr (0, 38))], [], ax_m (ςς) ρ)) h (fun s3 h => ?_)
  refine ax_bk hK (ax_fc (ax_v_ld (ax_r_aload_n (i := 0) d_Z_restart_15 rfl)) (ax_fc (ax_v_pu (ax_r_iconst (v := 0) d_Z_restart_16 (by decide))) (ax_fc (ax_w_pf (tc := 0) hal d_Z_restart_17 fp_Z_177 rfl) ax_fn))) (y := (20, [(0, .inr (0, 38))], [], ax_m (ax_wI s3 0 38 14 (0 : Int32)) ρ)) rfl ⟨trivial, trivial, (h0 38 rfl), trivial⟩ ?_
  refine ax_lt (Q := fun ςς => ax_R G 1 0 0 (20, [(0, .inr (0, 38))], [], ax_m (ςς) ρ)) h (fun s4 h => ?_)
  refine ax_bk hK (ax_fc (ax_v_ld (ax_r_aload_n (i := 0) d_Z_restart_20 rfl)) (ax_fc (ax_v_pu (ax_r_iconst (v := 0) d_Z_restart_21 (by decide))) (ax_fc (ax_w_pf (tc := 0) hal d_Z_restart_22 fp_Z_180 rfl) ax_fn))) (y := (25, [(0, .inr (0, 38))], [], ax_m (ax_wI s4 0 38 19 (0 : Int32)) ρ)) rfl ⟨trivial, trivial, (h0 38 rfl), trivial⟩ ?_
  refine ax_lt (Q := fun ςς => ax_R G 1 0 0 (25, [(0, .inr (0, 38))], [], ax_m (ςς) ρ)) h (fun s5 h => ?_)
  refine ax_bk hK (ax_fc (ax_v_ld (ax_r_aload_n (i := 0) d_Z_restart_25 rfl)) (ax_fc (ax_v_pu (ax_r_iconst (v := 0) d_Z_restart_26 (by decide))) (ax_fc (ax_w_pf (tc := 0) hal d_Z_restart_27 fp_Z_183 rfl) ax_fn))) (y := (30, [(0, .inr (0, 38))], [], ax_m (ax_wI s5 0 38 20 (0 : Int32)) ρ)) rfl ⟨trivial, trivial, (h0 38 rfl), trivial⟩ ?_
  refine ax_lt (Q := fun ςς => ax_R G 1 0 0 (30, [(0, .inr (0, 38))], [], ax_m (ςς) ρ)) h (fun s6 h => ?_)
  refine ax_bk hK (ax_fc (ax_v_ld (ax_r_aload_n (i := 0) d_Z_restart_30 rfl)) (ax_fc (ax_v_pu (ax_r_iconst (v := 0) d_Z_restart_31 (by decide))) (ax_fc (ax_w_pf (tc := 0) hal d_Z_restart_32 fp_Z_186 rfl) ax_fn))) (y := (35, [(0, .inr (0, 38))], [], ax_m (ax_wI s6 0 38 22 (0 : Int32)) ρ)) rfl ⟨trivial, trivial, (h0 38 rfl), trivial⟩ ?_
  refine ax_lt (Q := fun ςς => ax_R G 1 0 0 (35, [(0, .inr (0, 38))], [], ax_m (ςς) ρ)) h (fun s7 h => ?_)
  refine ax_bk hK (ax_fc (ax_v_ld (ax_r_aload_n (i := 0) d_Z_restart_35 rfl)) (ax_fc (ax_v_pu (ax_r_iconst (v := 0) d_Z_restart_36 (by decide))) (ax_fc (ax_w_pf (tc := 0) hal d_Z_restart_37 fp_Z_189 rfl) ax_fn))) (y := (40, [(0, .inr (0, 38))], [], ax_m (ax_wI s7 0 38 23 (0 : Int32)) ρ)) rfl ⟨trivial, trivial, (h0 38 rfl), trivial⟩ ?_
  refine ax_lt (Q := fun ςς => ax_R G 1 0 0 (40, [(0, .inr (0, 38))], [], ax_m (ςς) ρ)) h (fun s8 h => ?_)
  refine ax_bk hK (ax_fc (ax_v_ld (ax_r_aload_n (i := 0) d_Z_restart_40 rfl)) (ax_fc (ax_v_pu (ax_r_iconst (v := 0) d_Z_restart_41 (by decide))) (ax_fc (ax_w_pf (tc := 0) hal d_Z_restart_42 fp_Z_192 rfl) ax_fn))) (y := (45, [(0, .inr (0, 38))], [], ax_m (ax_wI s8 0 38 33 (0 : Int32)) ρ)) rfl ⟨trivial, trivial, (h0 38 rfl), trivial⟩ ?_
  refine ax_lt (Q := fun ςς => ax_R G 1 0 0 (45, [(0, .inr (0, 38))], [], ax_m (ςς) ρ)) h (fun s9 h => ?_)
  refine ax_bk hK (ax_fc (ax_v_ld (ax_r_aload_n (i := 0) d_Z_restart_45 rfl)) (ax_fc (ax_v_pu (ax_r_iconst (v := 0) d_Z_restart_46 (by decide))) (ax_fc (ax_w_pf (tc := 0) hal d_Z_restart_47 fp_Z_195 rfl) ax_fn))) (y := (50, [(0, .inr (0, 38))], [], ax_m (ax_wI s9 0 38 36 (0 : Int32)) ρ)) rfl ⟨trivial, trivial, (h0 38 rfl), trivial⟩ ?_
  refine ax_lt (Q := fun ςς => ax_R G 1 0 0 (50, [(0, .inr (0, 38))], [], ax_m (ςς) ρ)) h (fun s10 h => ?_)
  refine ax_bk hK (ax_fc (ax_v_ld (ax_r_aload_n (i := 0) d_Z_restart_50 rfl)) (ax_fc (ax_v_pu (ax_r_iconst (v := 0) d_Z_restart_51 (by decide))) (ax_fc (ax_w_pf (tc := 0) hal d_Z_restart_52 fp_Z_198 rfl) ax_fn))) (y := (55, [(0, .inr (0, 38))], [], ax_m (ax_wI s10 0 38 42 (0 : Int32)) ρ)) rfl ⟨trivial, trivial, (h0 38 rfl), trivial⟩ ?_
  refine ax_lt (Q := fun ςς => ax_R G 1 0 0 (55, [(0, .inr (0, 38))], [], ax_m (ςς) ρ)) h (fun s11 h => ?_)
  refine ax_bk hK (ax_fc (ax_v_ld (ax_r_aload_n (i := 0) d_Z_restart_55 rfl)) (ax_fc (ax_v_pu (ax_r_iconst (v := 0) d_Z_restart_56 (by decide))) (ax_fc (ax_w_pf (tc := 0) hal d_Z_restart_57 fp_Z_201 rfl) ax_fn))) (y := (60, [(0, .inr (0, 38))], [], ax_m (ax_wI s11 0 38 49 (0 : Int32)) ρ)) rfl ⟨trivial, trivial, (h0 38 rfl), trivial⟩ ?_
  refine ax_lt (Q := fun ςς => ax_R G 1 0 0 (60, [(0, .inr (0, 38))], [], ax_m (ςς) ρ)) h (fun s12 h => ?_)
  refine ax_bk hK (ax_fc (ax_v_ld (ax_r_aload_n (i := 0) d_Z_restart_60 rfl)) (ax_fc (ax_v_pu (ax_r_iconst (v := 0) d_Z_restart_61 (by decide))) (ax_fc (ax_w_pf (tc := 0) hal d_Z_restart_62 fp_Z_157 rfl) ax_fn))) (y := (65, [(0, .inr (0, 38))], [], ax_m (ax_wI s12 0 38 51 (0 : Int32)) ρ)) rfl ⟨trivial, trivial, (h0 38 rfl), trivial⟩ ?_
  refine ax_lt (Q := fun ςς => ax_R G 1 0 0 (65, [(0, .inr (0, 38))], [], ax_m (ςς) ρ)) h (fun s13 h => ?_)
  cases h
  exact ax_vret hA d_Z_restart_65
