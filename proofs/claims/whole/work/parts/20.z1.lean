def y_Z_isDigit : MethodName := ⟨"CipherNotationModel", "isDigit", "(I)Z"⟩
theorem d_Z_isDigit_0 : decode prog_8_method_5_code 0 = .ok (.iload_n 0, 1) := by decide +kernel
theorem d_Z_isDigit_1 : decode prog_8_method_5_code 1 = .ok (.bipush (48), 2) := by decide +kernel
theorem d_Z_isDigit_3 : decode prog_8_method_5_code 3 = .ok (.if_icmp .lt (13), 3) := by decide +kernel
theorem d_Z_isDigit_6 : decode prog_8_method_5_code 6 = .ok (.iload_n 0, 1) := by decide +kernel
theorem d_Z_isDigit_7 : decode prog_8_method_5_code 7 = .ok (.bipush (57), 2) := by decide +kernel
theorem d_Z_isDigit_9 : decode prog_8_method_5_code 9 = .ok (.if_icmp .gt (7), 3) := by decide +kernel
theorem d_Z_isDigit_12 : decode prog_8_method_5_code 12 = .ok (.iconst 1, 1) := by decide +kernel
theorem d_Z_isDigit_13 : decode prog_8_method_5_code 13 = .ok (.goto (4), 3) := by decide +kernel
theorem d_Z_isDigit_16 : decode prog_8_method_5_code 16 = .ok (.iconst 0, 1) := by decide +kernel
theorem d_Z_isDigit_17 : decode prog_8_method_5_code 17 = .ok (.ireturn, 1) := by decide +kernel
def f_Z_isDigit (a1 : Int32) : Option (Int32) :=
  Option.bind (
    if a1 < (48 : Int32) then
      some true
    else
      if (57 : Int32) < a1 then
        some true
      else
        some false) (fun w3 => bif w3 then
    some ((0 : Int32))
  else
    some ((1 : Int32)))
set_option maxHeartbeats 4000000 in
set_option maxRecDepth 100000 in
theorem t_Z_isDigit {l : Launch} {D : va_G} {cA : Nat → ClassId} {ad : Nat → Nat → Nat} {al : List (Nat × Nat)} {θ : ax_Θ} {ρ : ax_ρ}  {a1 : Int32} {s : ax_σ} {r0 : Int32} (h : f_Z_isDigit a1 = some r0) : ax_T l D cA ad al θ y_Z_isDigit (.code y_Z_isDigit prog_8_method_5_code 1 (some .boolean)) 0 [.inl (.int (a1))] (ax_m s ρ) (some (.inl (.int r0))) (ax_m s ρ) := by
  refine ax_T_of (own := "CipherNotationModel") (by decide) rfl (Nat.le_of_ble_eq_true rfl) [(0, .inl (.int (a1)))] rfl ?_
  intro G hA
  have hB := hA.B
  have hK := hB.K
  have hal := hB.la
  unfold f_Z_isDigit at h
  refine ax_bk hK (ax_fc (ax_v_ld (ax_r_iload_n (i := 0) d_Z_isDigit_0 rfl)) (ax_fc (ax_v_pu (ax_r_bipush (v := 48) d_Z_isDigit_1 (by decide))) ax_fn)) (y := (3, [(0, .inl (.int (a1)))], [.inl (.int ((48 : Int32))), .inl (.int (a1))], ax_m (s) ρ)) rfl ⟨trivial, trivial, trivial⟩ ?_
  obtain ⟨w3, hw3, h⟩ := ax_bd h
  have KTw3 : w3 = true → ax_R G 1 0 0 (16, [], [], ax_m (s) ρ) := by
    intro e9
    subst w3
    replace h := ax_ct h
    refine ax_bk hK (ax_fc (ax_v_pu (ax_r_iconst (v := 0) d_Z_isDigit_16 (by decide))) ax_fn) (y := (17, [], [.inl (.int ((0 : Int32)))], ax_m (s) ρ)) rfl ⟨trivial, trivial⟩ ?_
    cases h
    exact ax_zret hA (by decide) d_Z_isDigit_17
  have KFw3 : w3 = false → ax_R G 1 0 0 (12, [], [], ax_m (s) ρ) := by
    intro e9
    subst w3
    replace h := ax_cf h
    refine ax_bk hK (ax_fc (ax_v_pu (ax_r_iconst (v := 1) d_Z_isDigit_12 (by decide))) (ax_fc (ax_v_go (tgt := 17) d_Z_isDigit_13 (by decide)) ax_fn)) (y := (17, [], [.inl (.int ((1 : Int32)))], ax_m (s) ρ)) rfl ⟨trivial, trivial, trivial⟩ ?_
    cases h
    exact ax_zret hA (by decide) d_Z_isDigit_17
  clear h
  have h := hw3
  refine ax_ic_lt (tgt := 16) hK d_Z_isDigit_3 (by decide) (fun c2 => ?_) (fun c2 => ?_)
  · replace h := ax_it c2 h
    cases h
    exact ax_Lsub [] rfl (KTw3 rfl)
  · replace h := ax_if c2 h
    refine ax_bk hK (ax_fc (ax_v_ld (ax_r_iload_n (i := 0) d_Z_isDigit_6 rfl)) (ax_fc (ax_v_pu (ax_r_bipush (v := 57) d_Z_isDigit_7 (by decide))) ax_fn)) (y := (9, [(0, .inl (.int (a1)))], [.inl (.int ((57 : Int32))), .inl (.int (a1))], ax_m (s) ρ)) rfl ⟨trivial, trivial, trivial⟩ ?_
    refine ax_ic_gt (tgt := 16) hK d_Z_isDigit_9 (by decide) (fun c1 => ?_) (fun c1 => ?_)
    · replace h := ax_it c1 h
      cases h
      exact ax_Lsub [] rfl (KTw3 rfl)
    · replace h := ax_if c1 h
      cases h
      exact ax_Lsub [] rfl (KFw3 rfl)
def y_Z_hex : MethodName := ⟨"CipherNotationModel", "hex", "(I)I"⟩
theorem d_Z_hex_0 : decode prog_8_method_6_code 0 = .ok (.iload_n 0, 1) := by decide +kernel
theorem d_Z_hex_1 : decode prog_8_method_6_code 1 = .ok (.invokestatic (153), 3) := by decide +kernel
theorem d_Z_hex_4 : decode prog_8_method_6_code 4 = .ok (.ifCond .eq (10), 3) := by decide +kernel
theorem d_Z_hex_7 : decode prog_8_method_6_code 7 = .ok (.iload_n 0, 1) := by decide +kernel
theorem d_Z_hex_8 : decode prog_8_method_6_code 8 = .ok (.bipush (48), 2) := by decide +kernel
theorem d_Z_hex_10 : decode prog_8_method_6_code 10 = .ok (.isub, 1) := by decide +kernel
theorem d_Z_hex_11 : decode prog_8_method_6_code 11 = .ok (.goto (26), 3) := by decide +kernel
theorem d_Z_hex_14 : decode prog_8_method_6_code 14 = .ok (.iload_n 0, 1) := by decide +kernel
theorem d_Z_hex_15 : decode prog_8_method_6_code 15 = .ok (.bipush (97), 2) := by decide +kernel
theorem d_Z_hex_17 : decode prog_8_method_6_code 17 = .ok (.if_icmp .lt (19), 3) := by decide +kernel
theorem d_Z_hex_20 : decode prog_8_method_6_code 20 = .ok (.iload_n 0, 1) := by decide +kernel
theorem d_Z_hex_21 : decode prog_8_method_6_code 21 = .ok (.bipush (102), 2) := by decide +kernel
theorem d_Z_hex_23 : decode prog_8_method_6_code 23 = .ok (.if_icmp .gt (13), 3) := by decide +kernel
theorem d_Z_hex_26 : decode prog_8_method_6_code 26 = .ok (.iload_n 0, 1) := by decide +kernel
theorem d_Z_hex_27 : decode prog_8_method_6_code 27 = .ok (.bipush (97), 2) := by decide +kernel
theorem d_Z_hex_29 : decode prog_8_method_6_code 29 = .ok (.isub, 1) := by decide +kernel
theorem d_Z_hex_30 : decode prog_8_method_6_code 30 = .ok (.bipush (10), 2) := by decide +kernel
theorem d_Z_hex_32 : decode prog_8_method_6_code 32 = .ok (.iadd, 1) := by decide +kernel
theorem d_Z_hex_33 : decode prog_8_method_6_code 33 = .ok (.goto (4), 3) := by decide +kernel
theorem d_Z_hex_36 : decode prog_8_method_6_code 36 = .ok (.iconst (-1), 1) := by decide +kernel
theorem d_Z_hex_37 : decode prog_8_method_6_code 37 = .ok (.ireturn, 1) := by decide +kernel
set_option maxRecDepth 100000 in
theorem cw_Z_153 : ax_cw "CipherNotationModel" 153 y_Z_isDigit (.code y_Z_isDigit prog_8_method_5_code 1 (some .boolean)) 1 := ⟨nw_5 143 (by decide +kernel) rfl, nw_1 7 (by decide +kernel) rfl, nw_5 145 rfl rfl, by decide +kernel, by decide +kernel⟩
theorem sm_Z_isDigit : Cond.static y_Z_isDigit ∈ ax_tbl := nw_5 144 (by decide +kernel) rfl
def f_Z_hex (a1 : Int32) : Option (Int32) :=
  Option.bind (f_Z_isDigit a1) (fun r1 =>
    if r1 = (0 : Int32) then
      Option.bind (
        if a1 < (97 : Int32) then
          some true
        else
          if (102 : Int32) < a1 then
            some true
          else
            some false) (fun w5 => bif w5 then
        some ((-1 : Int32))
      else
        some (((a1 - (97 : Int32)) + (10 : Int32))))
    else
      some ((a1 - (48 : Int32))))
set_option maxHeartbeats 4000000 in
set_option maxRecDepth 100000 in
theorem t_Z_hex {l : Launch} {D : va_G} {cA : Nat → ClassId} {ad : Nat → Nat → Nat} {al : List (Nat × Nat)} {θ : ax_Θ} {ρ : ax_ρ}  {a1 : Int32} {s : ax_σ} {r0 : Int32} (h : f_Z_hex a1 = some r0) : ax_T l D cA ad al θ y_Z_hex (.code y_Z_hex prog_8_method_6_code 1 (some .int)) 1 [.inl (.int (a1))] (ax_m s ρ) (some (.inl (.int r0))) (ax_m s ρ) := by
  refine ax_T_of (own := "CipherNotationModel") (by decide) rfl (Nat.le_of_ble_eq_true rfl) [(0, .inl (.int (a1)))] rfl ?_
  intro G hA
  have hB := hA.B
  have hK := hB.K
  have hal := hB.la
  unfold f_Z_hex at h
  refine ax_bk hK (ax_fc (ax_v_ld (ax_r_iload_n (i := 0) d_Z_hex_0 rfl)) ax_fn) (y := (1, [(0, .inl (.int (a1)))], [.inl (.int (a1))], ax_m (s) ρ)) rfl ⟨trivial, trivial⟩ ?_
  obtain ⟨r1, q2, h⟩ := ax_bd h
  refine ax_bS (rest := []) hB (t_Z_isDigit q2) cw_Z_153 sm_Z_isDigit d_Z_hex_1 (by decide) (by decide) rfl rfl (Nat.le_of_ble_eq_true rfl) ?_
  change ax_R G 1 0 0 (4, [(0, .inl (.int (a1)))], [.inl (.int (r1))], ax_m (s) ρ)
  refine ax_if_eq (tgt := 14) hK d_Z_hex_4 (by decide) (fun c6 => ?_) (fun c6 => ?_)
  · replace h := ax_it c6 h
    refine ax_bk hK (ax_fc (ax_v_ld (ax_r_iload_n (i := 0) d_Z_hex_14 rfl)) (ax_fc (ax_v_pu (ax_r_bipush (v := 97) d_Z_hex_15 (by decide))) ax_fn)) (y := (17, [(0, .inl (.int (a1)))], [.inl (.int ((97 : Int32))), .inl (.int (a1))], ax_m (s) ρ)) rfl ⟨trivial, trivial, trivial⟩ ?_
    obtain ⟨w5, hw5, h⟩ := ax_bd h
    have KTw5 : w5 = true → ax_R G 1 0 0 (36, [], [], ax_m (s) ρ) := by
      intro e9
      subst w5
      replace h := ax_ct h
      refine ax_bk hK (ax_fc (ax_v_pu (ax_r_iconst (v := -1) d_Z_hex_36 (by decide))) ax_fn) (y := (37, [], [.inl (.int ((-1 : Int32)))], ax_m (s) ρ)) rfl ⟨trivial, trivial⟩ ?_
      cases h
      exact ax_iret hA d_Z_hex_37
    have KFw5 : w5 = false → ax_R G 1 0 0 (26, [(0, .inl (.int (a1)))], [], ax_m (s) ρ) := by
      intro e9
      subst w5
      replace h := ax_cf h
      refine ax_bk hK (ax_fc (ax_v_ld (ax_r_iload_n (i := 0) d_Z_hex_26 rfl)) (ax_fc (ax_v_pu (ax_r_bipush (v := 97) d_Z_hex_27 (by decide))) (ax_fc (ax_v_pu (ax_r_isub d_Z_hex_29)) (ax_fc (ax_v_pu (ax_r_bipush (v := 10) d_Z_hex_30 (by decide))) (ax_fc (ax_v_pu (ax_r_iadd d_Z_hex_32)) (ax_fc (ax_v_go (tgt := 37) d_Z_hex_33 (by decide)) ax_fn)))))) (y := (37, [(0, .inl (.int (a1)))], [.inl (.int (((a1 - (97 : Int32)) + (10 : Int32))))], ax_m (s) ρ)) rfl ⟨trivial, trivial, trivial, trivial, trivial, trivial, trivial⟩ ?_
      cases h
      exact ax_iret hA d_Z_hex_37
    clear h
    have h := hw5
    refine ax_ic_lt (tgt := 36) hK d_Z_hex_17 (by decide) (fun c4 => ?_) (fun c4 => ?_)
    · replace h := ax_it c4 h
      cases h
      exact ax_Lsub [] rfl (KTw5 rfl)
    · replace h := ax_if c4 h
      refine ax_bk hK (ax_fc (ax_v_ld (ax_r_iload_n (i := 0) d_Z_hex_20 rfl)) (ax_fc (ax_v_pu (ax_r_bipush (v := 102) d_Z_hex_21 (by decide))) ax_fn)) (y := (23, [(0, .inl (.int (a1)))], [.inl (.int ((102 : Int32))), .inl (.int (a1))], ax_m (s) ρ)) rfl ⟨trivial, trivial, trivial⟩ ?_
      refine ax_ic_gt (tgt := 36) hK d_Z_hex_23 (by decide) (fun c3 => ?_) (fun c3 => ?_)
      · replace h := ax_it c3 h
        cases h
        exact ax_Lsub [] rfl (KTw5 rfl)
      · replace h := ax_if c3 h
        cases h
        exact ax_Lsub [0] rfl (KFw5 rfl)
  · replace h := ax_if c6 h
    refine ax_bk hK (ax_fc (ax_v_ld (ax_r_iload_n (i := 0) d_Z_hex_7 rfl)) (ax_fc (ax_v_pu (ax_r_bipush (v := 48) d_Z_hex_8 (by decide))) (ax_fc (ax_v_pu (ax_r_isub d_Z_hex_10)) (ax_fc (ax_v_go (tgt := 37) d_Z_hex_11 (by decide)) ax_fn)))) (y := (37, [(0, .inl (.int (a1)))], [.inl (.int ((a1 - (48 : Int32))))], ax_m (s) ρ)) rfl ⟨trivial, trivial, trivial, trivial, trivial⟩ ?_
    cases h
    exact ax_iret hA d_Z_hex_37
def y_Z_isState : MethodName := ⟨"CipherNotationModel", "isState", "(I)Z"⟩
theorem d_Z_isState_0 : decode prog_8_method_7_code 0 = .ok (.iload_n 0, 1) := by decide +kernel
theorem d_Z_isState_1 : decode prog_8_method_7_code 1 = .ok (.bipush (65), 2) := by decide +kernel
theorem d_Z_isState_3 : decode prog_8_method_7_code 3 = .ok (.if_icmp .lt (13), 3) := by decide +kernel
theorem d_Z_isState_6 : decode prog_8_method_7_code 6 = .ok (.iload_n 0, 1) := by decide +kernel
theorem d_Z_isState_7 : decode prog_8_method_7_code 7 = .ok (.bipush (68), 2) := by decide +kernel
theorem d_Z_isState_9 : decode prog_8_method_7_code 9 = .ok (.if_icmp .gt (7), 3) := by decide +kernel
theorem d_Z_isState_12 : decode prog_8_method_7_code 12 = .ok (.iconst 1, 1) := by decide +kernel
theorem d_Z_isState_13 : decode prog_8_method_7_code 13 = .ok (.goto (4), 3) := by decide +kernel
theorem d_Z_isState_16 : decode prog_8_method_7_code 16 = .ok (.iconst 0, 1) := by decide +kernel
theorem d_Z_isState_17 : decode prog_8_method_7_code 17 = .ok (.ireturn, 1) := by decide +kernel
def f_Z_isState (a1 : Int32) : Option (Int32) :=
  Option.bind (
    if a1 < (65 : Int32) then
      some true
    else
      if (68 : Int32) < a1 then
        some true
      else
        some false) (fun w3 => bif w3 then
    some ((0 : Int32))
  else
    some ((1 : Int32)))
set_option maxHeartbeats 4000000 in
set_option maxRecDepth 100000 in
theorem t_Z_isState {l : Launch} {D : va_G} {cA : Nat → ClassId} {ad : Nat → Nat → Nat} {al : List (Nat × Nat)} {θ : ax_Θ} {ρ : ax_ρ}  {a1 : Int32} {s : ax_σ} {r0 : Int32} (h : f_Z_isState a1 = some r0) : ax_T l D cA ad al θ y_Z_isState (.code y_Z_isState prog_8_method_7_code 1 (some .boolean)) 0 [.inl (.int (a1))] (ax_m s ρ) (some (.inl (.int r0))) (ax_m s ρ) := by
  refine ax_T_of (own := "CipherNotationModel") (by decide) rfl (Nat.le_of_ble_eq_true rfl) [(0, .inl (.int (a1)))] rfl ?_
  intro G hA
  have hB := hA.B
  have hK := hB.K
  have hal := hB.la
  unfold f_Z_isState at h
  refine ax_bk hK (ax_fc (ax_v_ld (ax_r_iload_n (i := 0) d_Z_isState_0 rfl)) (ax_fc (ax_v_pu (ax_r_bipush (v := 65) d_Z_isState_1 (by decide))) ax_fn)) (y := (3, [(0, .inl (.int (a1)))], [.inl (.int ((65 : Int32))), .inl (.int (a1))], ax_m (s) ρ)) rfl ⟨trivial, trivial, trivial⟩ ?_
  obtain ⟨w3, hw3, h⟩ := ax_bd h
  have KTw3 : w3 = true → ax_R G 1 0 0 (16, [], [], ax_m (s) ρ) := by
    intro e9
    subst w3
    replace h := ax_ct h
    refine ax_bk hK (ax_fc (ax_v_pu (ax_r_iconst (v := 0) d_Z_isState_16 (by decide))) ax_fn) (y := (17, [], [.inl (.int ((0 : Int32)))], ax_m (s) ρ)) rfl ⟨trivial, trivial⟩ ?_
    cases h
    exact ax_zret hA (by decide) d_Z_isState_17
  have KFw3 : w3 = false → ax_R G 1 0 0 (12, [], [], ax_m (s) ρ) := by
    intro e9
    subst w3
    replace h := ax_cf h
    refine ax_bk hK (ax_fc (ax_v_pu (ax_r_iconst (v := 1) d_Z_isState_12 (by decide))) (ax_fc (ax_v_go (tgt := 17) d_Z_isState_13 (by decide)) ax_fn)) (y := (17, [], [.inl (.int ((1 : Int32)))], ax_m (s) ρ)) rfl ⟨trivial, trivial, trivial⟩ ?_
    cases h
    exact ax_zret hA (by decide) d_Z_isState_17
  clear h
  have h := hw3
  refine ax_ic_lt (tgt := 16) hK d_Z_isState_3 (by decide) (fun c2 => ?_) (fun c2 => ?_)
  · replace h := ax_it c2 h
    cases h
    exact ax_Lsub [] rfl (KTw3 rfl)
  · replace h := ax_if c2 h
    refine ax_bk hK (ax_fc (ax_v_ld (ax_r_iload_n (i := 0) d_Z_isState_6 rfl)) (ax_fc (ax_v_pu (ax_r_bipush (v := 68) d_Z_isState_7 (by decide))) ax_fn)) (y := (9, [(0, .inl (.int (a1)))], [.inl (.int ((68 : Int32))), .inl (.int (a1))], ax_m (s) ρ)) rfl ⟨trivial, trivial, trivial⟩ ?_
    refine ax_ic_gt (tgt := 16) hK d_Z_isState_9 (by decide) (fun c1 => ?_) (fun c1 => ?_)
    · replace h := ax_it c1 h
      cases h
      exact ax_Lsub [] rfl (KTw3 rfl)
    · replace h := ax_if c1 h
      cases h
      exact ax_Lsub [] rfl (KFw3 rfl)
def y_Z_isLetter : MethodName := ⟨"CipherNotationModel", "isLetter", "(I)Z"⟩
theorem d_Z_isLetter_0 : decode prog_8_method_8_code 0 = .ok (.iload_n 0, 1) := by decide +kernel
theorem d_Z_isLetter_1 : decode prog_8_method_8_code 1 = .ok (.bipush (105), 2) := by decide +kernel
theorem d_Z_isLetter_3 : decode prog_8_method_8_code 3 = .ok (.if_icmp .eq (9), 3) := by decide +kernel
theorem d_Z_isLetter_6 : decode prog_8_method_8_code 6 = .ok (.iload_n 0, 1) := by decide +kernel
theorem d_Z_isLetter_7 : decode prog_8_method_8_code 7 = .ok (.bipush (106), 2) := by decide +kernel
theorem d_Z_isLetter_9 : decode prog_8_method_8_code 9 = .ok (.if_icmp .ne (7), 3) := by decide +kernel
theorem d_Z_isLetter_12 : decode prog_8_method_8_code 12 = .ok (.iconst 1, 1) := by decide +kernel
theorem d_Z_isLetter_13 : decode prog_8_method_8_code 13 = .ok (.goto (4), 3) := by decide +kernel
theorem d_Z_isLetter_16 : decode prog_8_method_8_code 16 = .ok (.iconst 0, 1) := by decide +kernel
theorem d_Z_isLetter_17 : decode prog_8_method_8_code 17 = .ok (.ireturn, 1) := by decide +kernel
def f_Z_isLetter (a1 : Int32) : Option (Int32) :=
  Option.bind (
    if a1 = (105 : Int32) then
      some true
    else
      if a1 = (106 : Int32) then
        some true
      else
        some false) (fun w3 => bif w3 then
    some ((1 : Int32))
  else
    some ((0 : Int32)))
set_option maxHeartbeats 4000000 in
set_option maxRecDepth 100000 in
theorem t_Z_isLetter {l : Launch} {D : va_G} {cA : Nat → ClassId} {ad : Nat → Nat → Nat} {al : List (Nat × Nat)} {θ : ax_Θ} {ρ : ax_ρ}  {a1 : Int32} {s : ax_σ} {r0 : Int32} (h : f_Z_isLetter a1 = some r0) : ax_T l D cA ad al θ y_Z_isLetter (.code y_Z_isLetter prog_8_method_8_code 1 (some .boolean)) 0 [.inl (.int (a1))] (ax_m s ρ) (some (.inl (.int r0))) (ax_m s ρ) := by
  refine ax_T_of (own := "CipherNotationModel") (by decide) rfl (Nat.le_of_ble_eq_true rfl) [(0, .inl (.int (a1)))] rfl ?_
  intro G hA
  have hB := hA.B
  have hK := hB.K
  have hal := hB.la
  unfold f_Z_isLetter at h
  refine ax_bk hK (ax_fc (ax_v_ld (ax_r_iload_n (i := 0) d_Z_isLetter_0 rfl)) (ax_fc (ax_v_pu (ax_r_bipush (v := 105) d_Z_isLetter_1 (by decide))) ax_fn)) (y := (3, [(0, .inl (.int (a1)))], [.inl (.int ((105 : Int32))), .inl (.int (a1))], ax_m (s) ρ)) rfl ⟨trivial, trivial, trivial⟩ ?_
  obtain ⟨w3, hw3, h⟩ := ax_bd h
  have KTw3 : w3 = true → ax_R G 1 0 0 (12, [], [], ax_m (s) ρ) := by
    intro e9
    subst w3
    replace h := ax_ct h
    refine ax_bk hK (ax_fc (ax_v_pu (ax_r_iconst (v := 1) d_Z_isLetter_12 (by decide))) (ax_fc (ax_v_go (tgt := 17) d_Z_isLetter_13 (by decide)) ax_fn)) (y := (17, [], [.inl (.int ((1 : Int32)))], ax_m (s) ρ)) rfl ⟨trivial, trivial, trivial⟩ ?_
    cases h
    exact ax_zret hA (by decide) d_Z_isLetter_17
  have KFw3 : w3 = false → ax_R G 1 0 0 (16, [], [], ax_m (s) ρ) := by
    intro e9
    subst w3
    replace h := ax_cf h
    refine ax_bk hK (ax_fc (ax_v_pu (ax_r_iconst (v := 0) d_Z_isLetter_16 (by decide))) ax_fn) (y := (17, [], [.inl (.int ((0 : Int32)))], ax_m (s) ρ)) rfl ⟨trivial, trivial⟩ ?_
    cases h
    exact ax_zret hA (by decide) d_Z_isLetter_17
  clear h
  have h := hw3
  refine ax_ic_eq (tgt := 12) hK d_Z_isLetter_3 (by decide) (fun c2 => ?_) (fun c2 => ?_)
  · replace h := ax_it c2 h
    cases h
    exact ax_Lsub [] rfl (KTw3 rfl)
  · replace h := ax_if c2 h
    refine ax_bk hK (ax_fc (ax_v_ld (ax_r_iload_n (i := 0) d_Z_isLetter_6 rfl)) (ax_fc (ax_v_pu (ax_r_bipush (v := 106) d_Z_isLetter_7 (by decide))) ax_fn)) (y := (9, [(0, .inl (.int (a1)))], [.inl (.int ((106 : Int32))), .inl (.int (a1))], ax_m (s) ρ)) rfl ⟨trivial, trivial, trivial⟩ ?_
    refine ax_ic_ne (tgt := 16) hK d_Z_isLetter_9 (by decide) (fun c1 => ?_) (fun c1 => ?_)
    · replace h := ax_if c1 h
      cases h
      exact ax_Lsub [] rfl (KFw3 rfl)
    · replace h := ax_it c1 h
      cases h
      exact ax_Lsub [] rfl (KTw3 rfl)
def y_Z_print_II : MethodName := ⟨"CipherNotationModel", "print", "(II)V"⟩
theorem d_Z_print_II_0 : decode prog_8_method_9_code 0 = .ok (.aload_n 0, 1) := by decide +kernel
theorem d_Z_print_II_1 : decode prog_8_method_9_code 1 = .ok (.getfield (99), 3) := by decide +kernel
theorem d_Z_print_II_4 : decode prog_8_method_9_code 4 = .ok (.aload_n 0, 1) := by decide +kernel
theorem d_Z_print_II_5 : decode prog_8_method_9_code 5 = .ok (.getfield (157), 3) := by decide +kernel
theorem d_Z_print_II_8 : decode prog_8_method_9_code 8 = .ok (.iload_n 1, 1) := by decide +kernel
theorem d_Z_print_II_9 : decode prog_8_method_9_code 9 = .ok (.iastore, 1) := by decide +kernel
theorem d_Z_print_II_10 : decode prog_8_method_9_code 10 = .ok (.aload_n 0, 1) := by decide +kernel
theorem d_Z_print_II_11 : decode prog_8_method_9_code 11 = .ok (.aload_n 0, 1) := by decide +kernel
theorem d_Z_print_II_12 : decode prog_8_method_9_code 12 = .ok (.getfield (157), 3) := by decide +kernel
theorem d_Z_print_II_15 : decode prog_8_method_9_code 15 = .ok (.iload_n 2, 1) := by decide +kernel
theorem d_Z_print_II_16 : decode prog_8_method_9_code 16 = .ok (.iadd, 1) := by decide +kernel
theorem d_Z_print_II_17 : decode prog_8_method_9_code 17 = .ok (.putfield (157), 3) := by decide +kernel
theorem d_Z_print_II_20 : decode prog_8_method_9_code 20 = .ok (.return_, 1) := by decide +kernel
theorem fd_Z_99 : ax_fd "CipherNotationModel" 99 6 52 := ⟨nC6, nT6, 73, nY6, rfl, nW6, by decide, nw_4 189 (by decide +kernel) rfl, nO6, nA6⟩
theorem fd_Z_157 : ax_fd "CipherNotationModel" 157 6 51 := ⟨nC6, nT6, 73, nY6, rfl, nW6, by decide, nw_4 188 (by decide +kernel) rfl, nO6, nA6⟩
theorem fp_Z_157 : ax_fp "CipherNotationModel" 157 6 51 (.int) := ⟨nC6, nT6, 73, nY6, rfl, nW6, by decide, nw_4 188 (by decide +kernel) rfl, nO6, nA6, by decide +kernel, by decide +kernel⟩
def f_Z_print_II (a1 : Int32) (a2 : Int32) (s : ax_σ) : Option (ax_σ) :=
  bif ax_in (s.1 0 38 51) 280 then
  ax_let (ax_wI s 0 67 ((s.1 0 38 51)).toNatClampNeg a1) (fun s2 =>
    ax_let (ax_wI s2 0 38 51 ((s2.1 0 38 51) + a2)) (fun s3 =>
      some (s3)))
  else none
set_option maxHeartbeats 4000000 in
set_option maxRecDepth 100000 in
theorem t_Z_print_II {l : Launch} {D : va_G} {cA : Nat → ClassId} {ad : Nat → Nat → Nat} {al : List (Nat × Nat)} {θ : ax_Θ} {ρ : ax_ρ} (h0 : ax_M0 al) {a1 : Int32} {a2 : Int32} {s : ax_σ} {s0 : ax_σ} (h : f_Z_print_II a1 a2 s = some s0) : ax_T l D cA ad al θ y_Z_print_II (.code y_Z_print_II prog_8_method_9_code 3 none) 0 [.inr (0, 38), .inl (.int (a1)), .inl (.int (a2))] (ax_m s ρ) none (ax_m s0 ρ) := by
  refine ax_T_of (own := "CipherNotationModel") (by decide) rfl (Nat.le_of_ble_eq_true rfl) [(0, .inr (0, 38)), (1, .inl (.int (a1))), (2, .inl (.int (a2)))] rfl ?_
  intro G hA
  have hB := hA.B
  have hK := hB.K
  have hal := hB.la
  unfold f_Z_print_II at h
  obtain ⟨b1, h⟩ := ax_gd h
  refine ax_bk hK (ax_fc (ax_v_ld (ax_r_aload_n (i := 0) d_Z_print_II_0 rfl)) (ax_fc (ax_w_gf (e := none) hal d_Z_print_II_1 fd_Z_99) (ax_fc (ax_v_ld (ax_r_aload_n (i := 0) d_Z_print_II_4 rfl)) (ax_fc (ax_w_gf (e := none) hal d_Z_print_II_5 fd_Z_157) (ax_fc (ax_v_ld (ax_r_iload_n (i := 1) d_Z_print_II_8 rfl)) (ax_fc (ax_w_iast hal d_Z_print_II_9) ax_fn)))))) (y := (10, [(0, .inr (0, 38)), (1, .inl (.int (a1))), (2, .inl (.int (a2)))], [], ax_m (ax_wI s 0 67 ((s.1 0 38 51)).toNatClampNeg a1) ρ)) rfl ⟨trivial, (h0 38 rfl), trivial, (h0 38 rfl), trivial, ⟨(h0 67 rfl), ax_inp b1⟩, trivial⟩ ?_
  refine ax_lt (Q := fun ςς => ax_R G 3 0 0 (10, [(0, .inr (0, 38)), (1, .inl (.int (a1))), (2, .inl (.int (a2)))], [], ax_m (ςς) ρ)) h (fun s2 h => ?_)
  refine ax_bk hK (ax_fc (ax_v_ld (ax_r_aload_n (i := 0) d_Z_print_II_10 rfl)) (ax_fc (ax_v_ld (ax_r_aload_n (i := 0) d_Z_print_II_11 rfl)) (ax_fc (ax_w_gf (e := none) hal d_Z_print_II_12 fd_Z_157) (ax_fc (ax_v_ld (ax_r_iload_n (i := 2) d_Z_print_II_15 rfl)) (ax_fc (ax_v_pu (ax_r_iadd d_Z_print_II_16)) (ax_fc (ax_w_pf (tc := 0) hal d_Z_print_II_17 fp_Z_157 rfl) ax_fn)))))) (y := (20, [(0, .inr (0, 38)), (1, .inl (.int (a1))), (2, .inl (.int (a2)))], [], ax_m (ax_wI s2 0 38 51 ((s2.1 0 38 51) + a2)) ρ)) rfl ⟨trivial, trivial, (h0 38 rfl), trivial, trivial, (h0 38 rfl), trivial⟩ ?_
  refine ax_lt (Q := fun ςς => ax_R G 3 0 0 (20, [(0, .inr (0, 38)), (1, .inl (.int (a1))), (2, .inl (.int (a2)))], [], ax_m (ςς) ρ)) h (fun s3 h => ?_)
  cases h
  exact ax_vret hA d_Z_print_II_20
def y_Z_printNumber : MethodName := ⟨"CipherNotationModel", "printNumber", "(J)V"⟩
theorem d_Z_printNumber_0 : decode prog_8_method_10_code 0 = .ok (.lconst 1, 1) := by decide +kernel
theorem d_Z_printNumber_1 : decode prog_8_method_10_code 1 = .ok (.lstore_n 3, 1) := by decide +kernel
theorem d_Z_printNumber_2 : decode prog_8_method_10_code 2 = .ok (.lload_n 1, 1) := by decide +kernel
theorem d_Z_printNumber_3 : decode prog_8_method_10_code 3 = .ok (.lload_n 3, 1) := by decide +kernel
theorem d_Z_printNumber_4 : decode prog_8_method_10_code 4 = .ok (.ldiv, 1) := by decide +kernel
theorem d_Z_printNumber_5 : decode prog_8_method_10_code 5 = .ok (.ldc2_w (160), 3) := by decide +kernel
theorem d_Z_printNumber_8 : decode prog_8_method_10_code 8 = .ok (.lcmp, 1) := by decide +kernel
theorem d_Z_printNumber_9 : decode prog_8_method_10_code 9 = .ok (.ifCond .le (12), 3) := by decide +kernel
theorem d_Z_printNumber_12 : decode prog_8_method_10_code 12 = .ok (.lload_n 3, 1) := by decide +kernel
theorem d_Z_printNumber_13 : decode prog_8_method_10_code 13 = .ok (.ldc2_w (162), 3) := by decide +kernel
theorem d_Z_printNumber_16 : decode prog_8_method_10_code 16 = .ok (.lmul, 1) := by decide +kernel
theorem d_Z_printNumber_17 : decode prog_8_method_10_code 17 = .ok (.lstore_n 3, 1) := by decide +kernel
theorem d_Z_printNumber_18 : decode prog_8_method_10_code 18 = .ok (.goto (-16), 3) := by decide +kernel
theorem d_Z_printNumber_21 : decode prog_8_method_10_code 21 = .ok (.lload_n 3, 1) := by decide +kernel
theorem d_Z_printNumber_22 : decode prog_8_method_10_code 22 = .ok (.lconst 0, 1) := by decide +kernel
theorem d_Z_printNumber_23 : decode prog_8_method_10_code 23 = .ok (.lcmp, 1) := by decide +kernel
theorem d_Z_printNumber_24 : decode prog_8_method_10_code 24 = .ok (.ifCond .le (28), 3) := by decide +kernel
theorem d_Z_printNumber_27 : decode prog_8_method_10_code 27 = .ok (.aload_n 0, 1) := by decide +kernel
theorem d_Z_printNumber_28 : decode prog_8_method_10_code 28 = .ok (.bipush (48), 2) := by decide +kernel
theorem d_Z_printNumber_30 : decode prog_8_method_10_code 30 = .ok (.lload_n 1, 1) := by decide +kernel
theorem d_Z_printNumber_31 : decode prog_8_method_10_code 31 = .ok (.lload_n 3, 1) := by decide +kernel
theorem d_Z_printNumber_32 : decode prog_8_method_10_code 32 = .ok (.ldiv, 1) := by decide +kernel
theorem d_Z_printNumber_33 : decode prog_8_method_10_code 33 = .ok (.ldc2_w (162), 3) := by decide +kernel
theorem d_Z_printNumber_36 : decode prog_8_method_10_code 36 = .ok (.lrem, 1) := by decide +kernel
theorem d_Z_printNumber_37 : decode prog_8_method_10_code 37 = .ok (.l2i, 1) := by decide +kernel
theorem d_Z_printNumber_38 : decode prog_8_method_10_code 38 = .ok (.iadd, 1) := by decide +kernel
theorem d_Z_printNumber_39 : decode prog_8_method_10_code 39 = .ok (.iconst 1, 1) := by decide +kernel
theorem d_Z_printNumber_40 : decode prog_8_method_10_code 40 = .ok (.invokevirtual (164), 3) := by decide +kernel
theorem d_Z_printNumber_43 : decode prog_8_method_10_code 43 = .ok (.lload_n 3, 1) := by decide +kernel
theorem d_Z_printNumber_44 : decode prog_8_method_10_code 44 = .ok (.ldc2_w (162), 3) := by decide +kernel
theorem d_Z_printNumber_47 : decode prog_8_method_10_code 47 = .ok (.ldiv, 1) := by decide +kernel
theorem d_Z_printNumber_48 : decode prog_8_method_10_code 48 = .ok (.lstore_n 3, 1) := by decide +kernel
theorem d_Z_printNumber_49 : decode prog_8_method_10_code 49 = .ok (.goto (-28), 3) := by decide +kernel
theorem d_Z_printNumber_52 : decode prog_8_method_10_code 52 = .ok (.return_, 1) := by decide +kernel
def lp_Z_printNumber_2 (F : Nat) (x1 : Int64) (s : ax_σ) : Nat → Int64 → Option (Int64)
  | 0, _ => none
  | n + 1, x3 =>
    bif !decide (x3 = 0) then
    if (lg_cmp (x1 / x3) (9 : Int64)) ≤ (0 : Int32) then
      some x3
    else
      lp_Z_printNumber_2 F x1 s n (x3 * (10 : Int64))
    else none
set_option maxHeartbeats 4000000 in
set_option maxRecDepth 100000 in
theorem pl_Z_printNumber_2 {D : va_G} {cA : Nat → ClassId} {ad : Nat → Nat → Nat} {al : List (Nat × Nat)} {θ : ax_Θ} {l : Launch} {ρ : ax_ρ} {G : ax_G} {F : Nat} {x1 : Int64} {s : ax_σ} (h0 : ax_M0 al) (hB : ax_B D cA ad al θ l "CipherNotationModel" prog_8_method_10_code 5 1 G) : ∀ (n : Nat) {x3 : Int64} (out : Int64), lp_Z_printNumber_2 F x1 s n x3 = some out → (∀ (e3 : Int64), out = e3 → ax_R G 5 0 0 (21, [(0, .inr (0, 38)), (1, .inl (.long (x1))), (3, .inl (.long (e3)))], [], ax_m (s) ρ)) → ax_R G 5 0 0 (2, [(0, .inr (0, 38)), (1, .inl (.long (x1))), (3, .inl (.long (x3)))], [], ax_m (s) ρ) := by
  have hK := hB.K
  have hal := hB.la
  intro n
  induction n with
  | zero =>
    intro x3 out h
    cases h
  | succ n ih =>
    intro x3 out h KE
    rw [lp_Z_printNumber_2] at h
    obtain ⟨b1, h⟩ := ax_gd h
    refine ax_bk hK (ax_fc (ax_v_ld (ax_r_lload_n (i := 1) d_Z_printNumber_2 rfl)) (ax_fc (ax_v_ld (ax_r_lload_n (i := 3) d_Z_printNumber_3 rfl)) (ax_fc (ax_v_ldiv d_Z_printNumber_4) (ax_fc (ax_v_ldc2 (v := 9) d_Z_printNumber_5 (nw_5 156 (by decide +kernel) rfl)) (ax_fc (ax_v_pu (ax_r_lcmp d_Z_printNumber_8)) ax_fn))))) (y := (9, [(0, .inr (0, 38)), (1, .inl (.long (x1))), (3, .inl (.long (x3)))], [.inl (.int ((lg_cmp (x1 / x3) (9 : Int64))))], ax_m (s) ρ)) rfl ⟨trivial, trivial, (by simpa using b1), trivial, trivial, trivial⟩ ?_
    refine ax_if_le (tgt := 21) hK d_Z_printNumber_9 (by decide) (fun c2 => ?_) (fun c2 => ?_)
    · replace h := ax_it c2 h
      cases h
      exact ax_Lsub [0, 1, 2] rfl (KE _ rfl)
    · replace h := ax_if c2 h
      refine ax_bk hK (ax_fc (ax_v_ld (ax_r_lload_n (i := 3) d_Z_printNumber_12 rfl)) (ax_fc (ax_v_ldc2 (v := 10) d_Z_printNumber_13 (nw_5 146 (by decide +kernel) rfl)) (ax_fc (ax_v_pu (ax_r_lmul d_Z_printNumber_16)) (ax_fc (ax_v_so (ax_r_lstore_n (i := 3) d_Z_printNumber_17 rfl)) (ax_fc (ax_v_go (tgt := 2) d_Z_printNumber_18 (by decide)) ax_fn))))) (y := (2, [(3, .inl (.long ((x3 * (10 : Int64))))), (0, .inr (0, 38)), (1, .inl (.long (x1)))], [], ax_m (s) ρ)) rfl ⟨trivial, trivial, trivial, trivial, trivial, trivial⟩ ?_
      exact ax_Lsub [1, 2, 0] rfl (ih _ h KE)
set_option maxRecDepth 100000 in
theorem cw_Z_164 : ax_cw "CipherNotationModel" 164 y_Z_print_II (.code y_Z_print_II prog_8_method_9_code 3 none) 2 := ⟨nw_5 157 (by decide +kernel) rfl, nw_1 7 (by decide +kernel) rfl, nw_5 160 rfl rfl, by decide +kernel, by decide +kernel⟩
theorem im_Z_print_II : Cond.instanceMethod y_Z_print_II ∈ ax_tbl := nw_5 159 (by decide +kernel) rfl
theorem se_Z_print_II : Cond.selects y_Z_print_II.cls y_Z_print_II y_Z_print_II ∈ ax_tbl := nw_sel 48 (by decide +kernel) (by decide +kernel)
def lp_Z_printNumber_21 (F : Nat) (x1 : Int64) : Nat → Int64 → ax_σ → Option (ax_σ)
  | 0, _, _ => none
  | n + 1, x3, s =>
    if (lg_cmp x3 (0 : Int64)) ≤ (0 : Int32) then
      some s
    else
      bif !decide (x3 = 0) then
      Option.bind (f_Z_print_II ((48 : Int32) + (((x1 / x3) - (x1 / x3) / (10 : Int64) * (10 : Int64))).toInt32) (1 : Int32) s) (fun s5 =>
        lp_Z_printNumber_21 F x1 n (x3 / (10 : Int64)) s5)
      else none
set_option maxHeartbeats 4000000 in
set_option maxRecDepth 100000 in
theorem pl_Z_printNumber_21 {D : va_G} {cA : Nat → ClassId} {ad : Nat → Nat → Nat} {al : List (Nat × Nat)} {θ : ax_Θ} {l : Launch} {ρ : ax_ρ} {G : ax_G} {F : Nat} {x1 : Int64} (h0 : ax_M0 al) (hB : ax_B D cA ad al θ l "CipherNotationModel" prog_8_method_10_code 5 1 G) : ∀ (n : Nat) {x3 : Int64} {s : ax_σ} (out : ax_σ), lp_Z_printNumber_21 F x1 n x3 s = some out → (∀ (es : ax_σ), out = es → ax_R G 5 0 0 (52, [], [], ax_m (es) ρ)) → ax_R G 5 0 0 (21, [(0, .inr (0, 38)), (1, .inl (.long (x1))), (3, .inl (.long (x3)))], [], ax_m (s) ρ) := by
  have hK := hB.K
  have hal := hB.la
  intro n
  induction n with
  | zero =>
    intro x3 s out h
    cases h
  | succ n ih =>
    intro x3 s out h KE
    rw [lp_Z_printNumber_21] at h
    refine ax_bk hK (ax_fc (ax_v_ld (ax_r_lload_n (i := 3) d_Z_printNumber_21 rfl)) (ax_fc (ax_v_pu (ax_r_lconst (v := 0) d_Z_printNumber_22 (by decide))) (ax_fc (ax_v_pu (ax_r_lcmp d_Z_printNumber_23)) ax_fn))) (y := (24, [(0, .inr (0, 38)), (1, .inl (.long (x1))), (3, .inl (.long (x3)))], [.inl (.int ((lg_cmp x3 (0 : Int64))))], ax_m (s) ρ)) rfl ⟨trivial, trivial, trivial, trivial⟩ ?_
    refine ax_if_le (tgt := 52) hK d_Z_printNumber_24 (by decide) (fun c7 => ?_) (fun c7 => ?_)
    · replace h := ax_it c7 h
      cases h
      exact ax_Lsub [] rfl (KE _ rfl)
    · replace h := ax_if c7 h
      obtain ⟨b4, h⟩ := ax_gd h
      refine ax_bk hK (ax_fc (ax_v_ld (ax_r_aload_n (i := 0) d_Z_printNumber_27 rfl)) (ax_fc (ax_v_pu (ax_r_bipush (v := 48) d_Z_printNumber_28 (by decide))) (ax_fc (ax_v_ld (ax_r_lload_n (i := 1) d_Z_printNumber_30 rfl)) (ax_fc (ax_v_ld (ax_r_lload_n (i := 3) d_Z_printNumber_31 rfl)) (ax_fc (ax_v_ldiv d_Z_printNumber_32) (ax_fc (ax_v_ldc2 (v := 10) d_Z_printNumber_33 (nw_5 146 (by decide +kernel) rfl)) (ax_fc (ax_v_lrem d_Z_printNumber_36) (ax_fc (ax_v_pu (ax_r_l2i d_Z_printNumber_37)) (ax_fc (ax_v_pu (ax_r_iadd d_Z_printNumber_38)) (ax_fc (ax_v_pu (ax_r_iconst (v := 1) d_Z_printNumber_39 (by decide))) ax_fn)))))))))) (y := (40, [(0, .inr (0, 38)), (1, .inl (.long (x1))), (3, .inl (.long (x3)))], [.inl (.int ((1 : Int32))), .inl (.int (((48 : Int32) + (((x1 / x3) - (x1 / x3) / (10 : Int64) * (10 : Int64))).toInt32))), .inr (0, 38)], ax_m (s) ρ)) rfl ⟨trivial, trivial, trivial, trivial, (by simpa using b4), trivial, (by decide), trivial, trivial, trivial, trivial⟩ ?_
      obtain ⟨s5, q6, h⟩ := ax_bd h
      refine ax_bV (rest := []) hB (t_Z_print_II h0 q6) cw_Z_164 im_Z_print_II se_Z_print_II d_Z_printNumber_40 (h0 38 rfl) rfl rfl (by decide) (by decide) rfl rfl (Nat.le_of_ble_eq_true rfl) ?_
      change ax_R G 5 0 0 (43, [(0, .inr (0, 38)), (1, .inl (.long (x1))), (3, .inl (.long (x3)))], [], ax_m (s5) ρ)
      refine ax_bk hK (ax_fc (ax_v_ld (ax_r_lload_n (i := 3) d_Z_printNumber_43 rfl)) (ax_fc (ax_v_ldc2 (v := 10) d_Z_printNumber_44 (nw_5 146 (by decide +kernel) rfl)) (ax_fc (ax_v_ldiv d_Z_printNumber_47) (ax_fc (ax_v_so (ax_r_lstore_n (i := 3) d_Z_printNumber_48 rfl)) (ax_fc (ax_v_go (tgt := 21) d_Z_printNumber_49 (by decide)) ax_fn))))) (y := (21, [(3, .inl (.long ((x3 / (10 : Int64))))), (0, .inr (0, 38)), (1, .inl (.long (x1)))], [], ax_m (s5) ρ)) rfl ⟨trivial, trivial, (by decide), trivial, trivial, trivial⟩ ?_
      exact ax_Lsub [1, 2, 0] rfl (ih _ h KE)
def f_Z_printNumber (F : Nat) (a1 : Int64) (s : ax_σ) : Option (ax_σ) :=
  Option.bind (lp_Z_printNumber_2 F a1 s F (1 : Int64)) (fun v3 =>
    Option.bind (lp_Z_printNumber_21 F a1 F v3 s) (fun s8 =>
      some (s8)))
set_option maxHeartbeats 4000000 in
set_option maxRecDepth 100000 in
theorem t_Z_printNumber {l : Launch} {D : va_G} {cA : Nat → ClassId} {ad : Nat → Nat → Nat} {al : List (Nat × Nat)} {θ : ax_Θ} {ρ : ax_ρ} {F : Nat} (h0 : ax_M0 al) {a1 : Int64} {s : ax_σ} {s0 : ax_σ} (h : f_Z_printNumber F a1 s = some s0) : ax_T l D cA ad al θ y_Z_printNumber (.code y_Z_printNumber prog_8_method_10_code 5 none) 1 [.inr (0, 38), .inl (.long (a1))] (ax_m s ρ) none (ax_m s0 ρ) := by
  refine ax_T_of (own := "CipherNotationModel") (by decide) rfl (Nat.le_of_ble_eq_true rfl) [(0, .inr (0, 38)), (1, .inl (.long (a1)))] rfl ?_
  intro G hA
  have hB := hA.B
  have hK := hB.K
  have hal := hB.la
  unfold f_Z_printNumber at h
  refine ax_bk hK (ax_fc (ax_v_pu (ax_r_lconst (v := 1) d_Z_printNumber_0 (by decide))) (ax_fc (ax_v_so (ax_r_lstore_n (i := 3) d_Z_printNumber_1 rfl)) ax_fn)) (y := (2, [(3, .inl (.long ((1 : Int64)))), (0, .inr (0, 38)), (1, .inl (.long (a1)))], [], ax_m (s) ρ)) rfl ⟨trivial, trivial, trivial⟩ ?_
  obtain ⟨w9, hw9, h⟩ := ax_bd h
  refine ax_Lsub [1, 2, 0] rfl (pl_Z_printNumber_2 h0 hB F _ hw9 ?_)
  intro v3 e9
  subst w9
  try dsimp only at h
  change ax_R G 5 0 0 (21, [(0, .inr (0, 38)), (1, .inl (.long (a1))), (3, .inl (.long (v3)))], [], ax_m (s) ρ)
  obtain ⟨w10, hw10, h⟩ := ax_bd h
  refine ax_Lsub [0, 1, 2] rfl (pl_Z_printNumber_21 h0 hB F _ hw10 ?_)
  intro s8 e9
  subst w10
  try dsimp only at h
  change ax_R G 5 0 0 (52, [], [], ax_m (s8) ρ)
  cases h
  exact ax_vret hA d_Z_printNumber_52
def y_Z_restart : MethodName := ⟨"CipherNotationModel", "restart", "()V"⟩
theorem d_Z_restart_0 : decode prog_8_method_11_code 0 = .ok (.aload_n 0, 1) := by decide +kernel
theorem d_Z_restart_1 : decode prog_8_method_11_code 1 = .ok (.iconst 0, 1) := by decide +kernel
theorem d_Z_restart_2 : decode prog_8_method_11_code 2 = .ok (.putfield (168), 3) := by decide +kernel
theorem d_Z_restart_5 : decode prog_8_method_11_code 5 = .ok (.aload_n 0, 1) := by decide +kernel
theorem d_Z_restart_6 : decode prog_8_method_11_code 6 = .ok (.iconst 0, 1) := by decide +kernel
theorem d_Z_restart_7 : decode prog_8_method_11_code 7 = .ok (.putfield (171), 3) := by decide +kernel
theorem d_Z_restart_10 : decode prog_8_method_11_code 10 = .ok (.aload_n 0, 1) := by decide +kernel
theorem d_Z_restart_11 : decode prog_8_method_11_code 11 = .ok (.iconst 0, 1) := by decide +kernel
theorem d_Z_restart_12 : decode prog_8_method_11_code 12 = .ok (.putfield (174), 3) := by decide +kernel
theorem d_Z_restart_15 : decode prog_8_method_11_code 15 = .ok (.aload_n 0, 1) := by decide +kernel
theorem d_Z_restart_16 : decode prog_8_method_11_code 16 = .ok (.iconst 0, 1) := by decide +kernel
theorem d_Z_restart_17 : decode prog_8_method_11_code 17 = .ok (.putfield (177), 3) := by decide +kernel
theorem d_Z_restart_20 : decode prog_8_method_11_code 20 = .ok (.aload_n 0, 1) := by decide +kernel
theorem d_Z_restart_21 : decode prog_8_method_11_code 21 = .ok (.iconst 0, 1) := by decide +kernel
theorem d_Z_restart_22 : decode prog_8_method_11_code 22 = .ok (.putfield (180), 3) := by decide +kernel
theorem d_Z_restart_25 : decode prog_8_method_11_code 25 = .ok (.aload_n 0, 1) := by decide +kernel
theorem d_Z_restart_26 : decode prog_8_method_11_code 26 = .ok (.iconst 0, 1) := by decide +kernel
theorem d_Z_restart_27 : decode prog_8_method_11_code 27 = .ok (.putfield (183), 3) := by decide +kernel
theorem d_Z_restart_30 : decode prog_8_method_11_code 30 = .ok (.aload_n 0, 1) := by decide +kernel
theorem d_Z_restart_31 : decode prog_8_method_11_code 31 = .ok (.iconst 0, 1) := by decide +kernel
theorem d_Z_restart_32 : decode prog_8_method_11_code 32 = .ok (.putfield (186), 3) := by decide +kernel
theorem d_Z_restart_35 : decode prog_8_method_11_code 35 = .ok (.aload_n 0, 1) := by decide +kernel
theorem d_Z_restart_36 : decode prog_8_method_11_code 36 = .ok (.iconst 0, 1) := by decide +kernel
theorem d_Z_restart_37 : decode prog_8_method_11_code 37 = .ok (.putfield (189), 3) := by decide +kernel
theorem d_Z_restart_40 : decode prog_8_method_11_code 40 = .ok (.aload_n 0, 1) := by decide +kernel
theorem d_Z_restart_41 : decode prog_8_method_11_code 41 = .ok (.iconst 0, 1) := by decide +kernel
theorem d_Z_restart_42 : decode prog_8_method_11_code 42 = .ok (.putfield (192), 3) := by decide +kernel
theorem d_Z_restart_45 : decode prog_8_method_11_code 45 = .ok (.aload_n 0, 1) := by decide +kernel
theorem d_Z_restart_46 : decode prog_8_method_11_code 46 = .ok (.iconst 0, 1) := by decide +kernel
theorem d_Z_restart_47 : decode prog_8_method_11_code 47 = .ok (.putfield (195), 3) := by decide +kernel
theorem d_Z_restart_50 : decode prog_8_method_11_code 50 = .ok (.aload_n 0, 1) := by decide +kernel
theorem d_Z_restart_51 : decode prog_8_method_11_code 51 = .ok (.iconst 0, 1) := by decide +kernel
theorem d_Z_restart_52 : decode prog_8_method_11_code 52 = .ok (.putfield (198), 3) := by decide +kernel
theorem d_Z_restart_55 : decode prog_8_method_11_code 55 = .ok (.aload_n 0, 1) := by decide +kernel
theorem d_Z_restart_56 : decode prog_8_method_11_code 56 = .ok (.iconst 0, 1) := by decide +kernel
theorem d_Z_restart_57 : decode prog_8_method_11_code 57 = .ok (.putfield (201), 3) := by decide +kernel
theorem d_Z_restart_60 : decode prog_8_method_11_code 60 = .ok (.aload_n 0, 1) := by decide +kernel
theorem d_Z_restart_61 : decode prog_8_method_11_code 61 = .ok (.iconst 0, 1) := by decide +kernel
theorem d_Z_restart_62 : decode prog_8_method_11_code 62 = .ok (.putfield (157), 3) := by decide +kernel
theorem d_Z_restart_65 : decode prog_8_method_11_code 65 = .ok (.return_, 1) := by decide +kernel
theorem fp_Z_168 : ax_fp "CipherNotationModel" 168 6 7 (.int) := ⟨nC6, nT6, 73, nY6, rfl, nW6, by decide, nw_4 144 (by decide +kernel) rfl, nO6, nA6, by decide +kernel, by decide +kernel⟩
theorem fp_Z_171 : ax_fp "CipherNotationModel" 171 6 8 (.int) := ⟨nC6, nT6, 73, nY6, rfl, nW6, by decide, nw_4 145 (by decide +kernel) rfl, nO6, nA6, by decide +kernel, by decide +kernel⟩
theorem fp_Z_174 : ax_fp "CipherNotationModel" 174 6 11 (.int) := ⟨nC6, nT6, 73, nY6, rfl, nW6, by decide, nw_4 148 (by decide +kernel) rfl, nO6, nA6, by decide +kernel, by decide +kernel⟩
theorem fp_Z_177 : ax_fp "CipherNotationModel" 177 6 14 (.int) := ⟨nC6, nT6, 73, nY6, rfl, nW6, by decide, nw_4 151 (by decide +kernel) rfl, nO6, nA6, by decide +kernel, by decide +kernel⟩
theorem fp_Z_180 : ax_fp "CipherNotationModel" 180 6 19 (.int) := ⟨nC6, nT6, 73, nY6, rfl, nW6, by decide, nw_4 156 (by decide +kernel) rfl, nO6, nA6, by decide +kernel, by decide +kernel⟩
theorem fp_Z_183 : ax_fp "CipherNotationModel" 183 6 20 (.int) := ⟨nC6, nT6, 73, nY6, rfl, nW6, by decide, nw_4 157 (by decide +kernel) rfl, nO6, nA6, by decide +kernel, by decide +kernel⟩
theorem fp_Z_186 : ax_fp "CipherNotationModel" 186 6 22 (.int) := ⟨nC6, nT6, 73, nY6, rfl, nW6, by decide, nw_4 159 (by decide +kernel) rfl, nO6, nA6, by decide +kernel, by decide +kernel⟩
theorem fp_Z_189 : ax_fp "CipherNotationModel" 189 6 23 (.int) := ⟨nC6, nT6, 73, nY6, rfl, nW6, by decide, nw_4 160 (by decide +kernel) rfl, nO6, nA6, by decide +kernel, by decide +kernel⟩
theorem fp_Z_192 : ax_fp "CipherNotationModel" 192 6 33 (.int) := ⟨nC6, nT6, 73, nY6, rfl, nW6, by decide, nw_4 170 (by decide +kernel) rfl, nO6, nA6, by decide +kernel, by decide +kernel⟩
theorem fp_Z_195 : ax_fp "CipherNotationModel" 195 6 36 (.int) := ⟨nC6, nT6, 73, nY6, rfl, nW6, by decide, nw_4 173 (by decide +kernel) rfl, nO6, nA6, by decide +kernel, by decide +kernel⟩
theorem fp_Z_198 : ax_fp "CipherNotationModel" 198 6 42 (.int) := ⟨nC6, nT6, 73, nY6, rfl, nW6, by decide, nw_4 179 (by decide +kernel) rfl, nO6, nA6, by decide +kernel, by decide +kernel⟩
theorem fp_Z_201 : ax_fp "CipherNotationModel" 201 6 49 (.int) := ⟨nC6, nT6, 73, nY6, rfl, nW6, by decide, nw_4 186 (by decide +kernel) rfl, nO6, nA6, by decide +kernel, by decide +kernel⟩
def f_Z_restart (s : ax_σ) : Option (ax_σ) :=
  ax_let (ax_wI s 0 38 7 (0 : Int32)) (fun s1 =>
    ax_let (ax_wI s1 0 38 8 (0 : Int32)) (fun s2 =>
      ax_let (ax_wI s2 0 38 11 (0 : Int32)) (fun s3 =>
        ax_let (ax_wI s3 0 38 14 (0 : Int32)) (fun s4 =>
          ax_let (ax_wI s4 0 38 19 (0 : Int32)) (fun s5 =>
            ax_let (ax_wI s5 0 38 20 (0 : Int32)) (fun s6 =>
              ax_let (ax_wI s6 0 38 22 (0 : Int32)) (fun s7 =>
                ax_let (ax_wI s7 0 38 23 (0 : Int32)) (fun s8 =>
                  ax_let (ax_wI s8 0 38 33 (0 : Int32)) (fun s9 =>
                    ax_let (ax_wI s9 0 38 36 (0 : Int32)) (fun s10 =>
                      ax_let (ax_wI s10 0 38 42 (0 : Int32)) (fun s11 =>
                        ax_let (ax_wI s11 0 38 49 (0 : Int32)) (fun s12 =>
                          ax_let (ax_wI s12 0 38 51 (0 : Int32)) (fun s13 =>
                            some (s13))))))))))))))
set_option maxHeartbeats 4000000 in
set_option maxRecDepth 100000 in
theorem t_Z_restart {l : Launch} {D : va_G} {cA : Nat → ClassId} {ad : Nat → Nat → Nat} {al : List (Nat × Nat)} {θ : ax_Θ} {ρ : ax_ρ} (h0 : ax_M0 al)  {s : ax_σ} {s0 : ax_σ} (h : f_Z_restart s = some s0) : ax_T l D cA ad al θ y_Z_restart (.code y_Z_restart prog_8_method_11_code 1 none) 0 [.inr (0, 38)] (ax_m s ρ) none (ax_m s0 ρ) := by
  refine ax_T_of (own := "CipherNotationModel") (by decide) rfl (Nat.le_of_ble_eq_true rfl) [(0, .inr (0, 38))] rfl ?_
  intro G hA
  have hB := hA.B
  have hK := hB.K
  have hal := hB.la
  unfold f_Z_restart at h
  refine ax_bk hK (ax_fc (ax_v_ld (ax_r_aload_n (i := 0) d_Z_restart_0 rfl)) (ax_fc (ax_v_pu (ax_r_iconst (v := 0) d_Z_restart_1 (by decide))) (ax_fc (ax_w_pf (tc := 0) hal d_Z_restart_2 fp_Z_168 rfl) ax_fn))) (y := (5, [(0, .inr (0, 38))], [], ax_m (ax_wI s 0 38 7 (0 : Int32)) ρ)) rfl ⟨trivial, trivial, (h0 38 rfl), trivial⟩ ?_
  refine ax_lt (Q := fun ςς => ax_R G 1 0 0 (5, [(0, .inr (0, 38))], [], ax_m (ςς) ρ)) h (fun s1 h => ?_)
  refine ax_bk hK (ax_fc (ax_v_ld (ax_r_aload_n (i := 0) d_Z_restart_5 rfl)) (ax_fc (ax_v_pu (ax_r_iconst (v := 0) d_Z_restart_6 (by decide))) (ax_fc (ax_w_pf (tc := 0) hal d_Z_restart_7 fp_Z_171 rfl) ax_fn))) (y := (10, [(0, .inr (0, 38))], [], ax_m (ax_wI s1 0 38 8 (0 : Int32)) ρ)) rfl ⟨trivial, trivial, (h0 38 rfl), trivial⟩ ?_
  refine ax_lt (Q := fun ςς => ax_R G 1 0 0 (10, [(0, .inr (0, 38))], [], ax_m (ςς) ρ)) h (fun s2 h => ?_)
  refine ax_bk hK (ax_fc (ax_v_ld (ax_r_aload_n (i := 0) d_Z_restart_10 rfl)) (ax_fc (ax_v_pu (ax_r_iconst (v := 0) d_Z_restart_11 (by decide))) (ax_fc (ax_w_pf (tc := 0) hal d_Z_restart_12 fp_Z_174 rfl) ax_fn))) (y := (15, [(0, .inr (0, 38))], [], ax_m (ax_wI s2 0 38 11 (0 : Int32)) ρ)) rfl ⟨trivial, trivial, (h0 38 rfl), trivial⟩ ?_
  refine ax_lt (Q := fun ςς => ax_R G 1 0 0 (15, [(0, .inr (0, 38))], [], ax_m (ςς) ρ)) h (fun s3 h => ?_)
  refine ax_bk hK (ax_fc (ax_v_ld (ax_r_aload_n (i := 0) d_Z_restart_15 rfl)) (ax_fc (ax_v_pu (ax_r_iconst (v := 0) d_Z_restart_16 (by decide))) (ax_fc (ax_w_pf (tc := 0) hal d_Z_restart_17 fp_Z_177 rfl) ax_fn))) (y := (20, [(0, .inr (0, 38))], [], ax_m (ax_wI s3 0 38 14 (0 : Int32)) ρ)) rfl ⟨trivial, trivial, (h0 38 rfl), trivial⟩ ?_
  refine ax_lt (Q := fun ςς => ax_R G 1 0 0 (20, [(0, .inr (0, 38))], [], ax_m (ςς) ρ)) h (fun s4 h => ?_)
  refine ax_bk hK (ax_fc (ax_v_ld (ax_r_aload_n (i := 0) d_Z_restart_20 rfl)) (ax_fc (ax_v_pu (ax_r_iconst (v := 0) d_Z_restart_21 (by decide))) (ax_fc (ax_w_pf (tc := 0) hal d_Z_restart_22 fp_Z_180 rfl) ax_fn))) (y := (25, [(0, .inr (0, 38))], [], ax_m (ax_wI s4 0 38 19 (0 : Int32)) ρ)) rfl ⟨trivial, trivial, (h0 38 rfl), trivial⟩ ?_
  refine ax_lt (Q := fun ςς => ax_R G 1 0 0 (25, [(0, .inr (0, 38))], [], ax_m (ςς) ρ)) h (fun s5 h => ?_)
  refine ax_bk hK (ax_fc (ax_v_ld (ax_r_aload_n (i := 0) d_Z_restart_25 rfl)) (ax_fc (ax_v_pu (ax_r_iconst (v := 0) d_Z_restart_26 (by decide))) (ax_fc (ax_w_pf (tc := 0) hal d_Z_restart_27 fp_Z_183 rfl) ax_fn))) (y := (30, [(0, .inr (0, 38))], [], ax_m (ax_wI s5 0 38 20 (0 : Int32)) ρ)) rfl ⟨trivial, trivial, (h0 38 rfl), trivial⟩ ?_
  refine ax_lt (Q := fun ςς => ax_R G 1 0 0 (30, [(0, .inr (0, 38))], [], ax_m (ςς) ρ)) h (fun s6 h => ?_)
  refine ax_bk hK (ax_fc (ax_v_ld (ax_r_aload_n (i := 0) d_Z_restart_30 rfl)) (ax_fc (ax_v_pu (ax_r_iconst (v := 0) d_Z_restart_31 (by decide))) (ax_fc (ax_w_pf (tc := 0) hal d_Z_restart_32 fp_Z_186 rfl) ax_fn))) (y := (35, [(0, .inr (0, 38))], [], ax_m (ax_wI s6 0 38 22 (0 : Int32)) ρ)) rfl ⟨trivial, trivial, (h0 38 rfl), trivial⟩ ?_
  refine ax_lt (Q := fun ςς => ax_R G 1 0 0 (35, [(0, .inr (0, 38))], [], ax_m (ςς) ρ)) h (fun s7 h => ?_)
  refine ax_bk hK (ax_fc (ax_v_ld (ax_r_aload_n (i := 0) d_Z_restart_35 rfl)) (ax_fc (ax_v_pu (ax_r_iconst (v := 0) d_Z_restart_36 (by decide))) (ax_fc (ax_w_pf (tc := 0) hal d_Z_restart_37 fp_Z_189 rfl) ax_fn))) (y := (40, [(0, .inr (0, 38))], [], ax_m (ax_wI s7 0 38 23 (0 : Int32)) ρ)) rfl ⟨trivial, trivial, (h0 38 rfl), trivial⟩ ?_
  refine ax_lt (Q := fun ςς => ax_R G 1 0 0 (40, [(0, .inr (0, 38))], [], ax_m (ςς) ρ)) h (fun s8 h => ?_)
  refine ax_bk hK (ax_fc (ax_v_ld (ax_r_aload_n (i := 0) d_Z_restart_40 rfl)) (ax_fc (ax_v_pu (ax_r_iconst (v := 0) d_Z_restart_41 (by decide))) (ax_fc (ax_w_pf (tc := 0) hal d_Z_restart_42 fp_Z_192 rfl) ax_fn))) (y := (45, [(0, .inr (0, 38))], [], ax_m (ax_wI s8 0 38 33 (0 : Int32)) ρ)) rfl ⟨trivial, trivial, (h0 38 rfl), trivial⟩ ?_
  refine ax_lt (Q := fun ςς => ax_R G 1 0 0 (45, [(0, .inr (0, 38))], [], ax_m (ςς) ρ)) h (fun s9 h => ?_)
  refine ax_bk hK (ax_fc (ax_v_ld (ax_r_aload_n (i := 0) d_Z_restart_45 rfl)) (ax_fc (ax_v_pu (ax_r_iconst (v := 0) d_Z_restart_46 (by decide))) (ax_fc (ax_w_pf (tc := 0) hal d_Z_restart_47 fp_Z_195 rfl) ax_fn))) (y := (50, [(0, .inr (0, 38))], [], ax_m (ax_wI s9 0 38 36 (0 : Int32)) ρ)) rfl ⟨trivial, trivial, (h0 38 rfl), trivial⟩ ?_
  refine ax_lt (Q := fun ςς => ax_R G 1 0 0 (50, [(0, .inr (0, 38))], [], ax_m (ςς) ρ)) h (fun s10 h => ?_)
  refine ax_bk hK (ax_fc (ax_v_ld (ax_r_aload_n (i := 0) d_Z_restart_50 rfl)) (ax_fc (ax_v_pu (ax_r_iconst (v := 0) d_Z_restart_51 (by decide))) (ax_fc (ax_w_pf (tc := 0) hal d_Z_restart_52 fp_Z_198 rfl) ax_fn))) (y := (55, [(0, .inr (0, 38))], [], ax_m (ax_wI s10 0 38 42 (0 : Int32)) ρ)) rfl ⟨trivial, trivial, (h0 38 rfl), trivial⟩ ?_
  refine ax_lt (Q := fun ςς => ax_R G 1 0 0 (55, [(0, .inr (0, 38))], [], ax_m (ςς) ρ)) h (fun s11 h => ?_)
  refine ax_bk hK (ax_fc (ax_v_ld (ax_r_aload_n (i := 0) d_Z_restart_55 rfl)) (ax_fc (ax_v_pu (ax_r_iconst (v := 0) d_Z_restart_56 (by decide))) (ax_fc (ax_w_pf (tc := 0) hal d_Z_restart_57 fp_Z_201 rfl) ax_fn))) (y := (60, [(0, .inr (0, 38))], [], ax_m (ax_wI s11 0 38 49 (0 : Int32)) ρ)) rfl ⟨trivial, trivial, (h0 38 rfl), trivial⟩ ?_
  refine ax_lt (Q := fun ςς => ax_R G 1 0 0 (60, [(0, .inr (0, 38))], [], ax_m (ςς) ρ)) h (fun s12 h => ?_)
  refine ax_bk hK (ax_fc (ax_v_ld (ax_r_aload_n (i := 0) d_Z_restart_60 rfl)) (ax_fc (ax_v_pu (ax_r_iconst (v := 0) d_Z_restart_61 (by decide))) (ax_fc (ax_w_pf (tc := 0) hal d_Z_restart_62 fp_Z_157 rfl) ax_fn))) (y := (65, [(0, .inr (0, 38))], [], ax_m (ax_wI s12 0 38 51 (0 : Int32)) ρ)) rfl ⟨trivial, trivial, (h0 38 rfl), trivial⟩ ?_
  refine ax_lt (Q := fun ςς => ax_R G 1 0 0 (65, [(0, .inr (0, 38))], [], ax_m (ςς) ρ)) h (fun s13 h => ?_)
  cases h
  exact ax_vret hA d_Z_restart_65
def y_Z_thrown : MethodName := ⟨"CipherNotationModel", "thrown", "()I"⟩
theorem d_Z_thrown_0 : decode prog_8_method_2_code 0 = .ok (.aload_n 0, 1) := by decide +kernel
theorem d_Z_thrown_1 : decode prog_8_method_2_code 1 = .ok (.getfield (145), 3) := by decide +kernel
theorem d_Z_thrown_4 : decode prog_8_method_2_code 4 = .ok (.ireturn, 1) := by decide +kernel
theorem fd_Z_145 : ax_fd "CipherNotationModel" 145 6 0 := ⟨nC6, nT6, 73, nY6, rfl, nW6, by decide, nw_4 137 (by decide +kernel) rfl, nO6, nA6⟩
def f_Z_thrown (s : ax_σ) : Option (Int32) :=
  some ((s.1 0 38 0))
set_option maxHeartbeats 4000000 in
set_option maxRecDepth 100000 in
theorem t_Z_thrown {l : Launch} {D : va_G} {cA : Nat → ClassId} {ad : Nat → Nat → Nat} {al : List (Nat × Nat)} {θ : ax_Θ} {ρ : ax_ρ} (h0 : ax_M0 al)  {s : ax_σ} {r0 : Int32} (h : f_Z_thrown s = some r0) : ax_T l D cA ad al θ y_Z_thrown (.code y_Z_thrown prog_8_method_2_code 1 (some .int)) 0 [.inr (0, 38)] (ax_m s ρ) (some (.inl (.int r0))) (ax_m s ρ) := by
  refine ax_T_of (own := "CipherNotationModel") (by decide) rfl (Nat.le_of_ble_eq_true rfl) [(0, .inr (0, 38))] rfl ?_
  intro G hA
  have hB := hA.B
  have hK := hB.K
  have hal := hB.la
  unfold f_Z_thrown at h
  refine ax_bk hK (ax_fc (ax_v_ld (ax_r_aload_n (i := 0) d_Z_thrown_0 rfl)) (ax_fc (ax_w_gf (e := none) hal d_Z_thrown_1 fd_Z_145) ax_fn)) (y := (4, [(0, .inr (0, 38))], [.inl (.int ((s.1 0 38 0)))], ax_m (s) ρ)) rfl ⟨trivial, (h0 38 rfl), trivial⟩ ?_
  cases h
  exact ax_iret hA d_Z_thrown_4
def y_Z_wipe : MethodName := ⟨"CipherNotationModel", "wipe", "()I"⟩
theorem d_Z_wipe_0 : decode prog_8_method_4_code 0 = .ok (.aload_n 0, 1) := by decide +kernel
theorem d_Z_wipe_1 : decode prog_8_method_4_code 1 = .ok (.iconst 0, 1) := by decide +kernel
theorem d_Z_wipe_2 : decode prog_8_method_4_code 2 = .ok (.putfield (145), 3) := by decide +kernel
theorem d_Z_wipe_5 : decode prog_8_method_4_code 5 = .ok (.aload_n 0, 1) := by decide +kernel
theorem d_Z_wipe_6 : decode prog_8_method_4_code 6 = .ok (.getfield (150), 3) := by decide +kernel
theorem d_Z_wipe_9 : decode prog_8_method_4_code 9 = .ok (.istore_n 1, 1) := by decide +kernel
theorem d_Z_wipe_10 : decode prog_8_method_4_code 10 = .ok (.aload_n 0, 1) := by decide +kernel
theorem d_Z_wipe_11 : decode prog_8_method_4_code 11 = .ok (.iconst 0, 1) := by decide +kernel
theorem d_Z_wipe_12 : decode prog_8_method_4_code 12 = .ok (.putfield (150), 3) := by decide +kernel
theorem d_Z_wipe_15 : decode prog_8_method_4_code 15 = .ok (.iload_n 1, 1) := by decide +kernel
theorem d_Z_wipe_16 : decode prog_8_method_4_code 16 = .ok (.ireturn, 1) := by decide +kernel
theorem fp_Z_145 : ax_fp "CipherNotationModel" 145 6 0 (.int) := ⟨nC6, nT6, 73, nY6, rfl, nW6, by decide, nw_4 137 (by decide +kernel) rfl, nO6, nA6, by decide +kernel, by decide +kernel⟩
theorem fd_Z_150 : ax_fd "CipherNotationModel" 150 6 2 := ⟨nC6, nT6, 73, nY6, rfl, nW6, by decide, nw_4 139 (by decide +kernel) rfl, nO6, nA6⟩
theorem fp_Z_150 : ax_fp "CipherNotationModel" 150 6 2 (.int) := ⟨nC6, nT6, 73, nY6, rfl, nW6, by decide, nw_4 139 (by decide +kernel) rfl, nO6, nA6, by decide +kernel, by decide +kernel⟩
def f_Z_wipe (s : ax_σ) : Option (Int32 × ax_σ) :=
  ax_let (ax_wI s 0 38 0 (0 : Int32)) (fun s1 =>
    ax_let (ax_wI s1 0 38 2 (0 : Int32)) (fun s2 =>
      some (((s1.1 0 38 2), s2))))
set_option maxHeartbeats 4000000 in
set_option maxRecDepth 100000 in
theorem t_Z_wipe {l : Launch} {D : va_G} {cA : Nat → ClassId} {ad : Nat → Nat → Nat} {al : List (Nat × Nat)} {θ : ax_Θ} {ρ : ax_ρ} (h0 : ax_M0 al)  {s : ax_σ} {r0 : Int32} {s0 : ax_σ} (h : f_Z_wipe s = some (r0, s0)) : ax_T l D cA ad al θ y_Z_wipe (.code y_Z_wipe prog_8_method_4_code 2 (some .int)) 0 [.inr (0, 38)] (ax_m s ρ) (some (.inl (.int r0))) (ax_m s0 ρ) := by
  refine ax_T_of (own := "CipherNotationModel") (by decide) rfl (Nat.le_of_ble_eq_true rfl) [(0, .inr (0, 38))] rfl ?_
  intro G hA
  have hB := hA.B
  have hK := hB.K
  have hal := hB.la
  unfold f_Z_wipe at h
  refine ax_bk hK (ax_fc (ax_v_ld (ax_r_aload_n (i := 0) d_Z_wipe_0 rfl)) (ax_fc (ax_v_pu (ax_r_iconst (v := 0) d_Z_wipe_1 (by decide))) (ax_fc (ax_w_pf (tc := 0) hal d_Z_wipe_2 fp_Z_145 rfl) ax_fn))) (y := (5, [(0, .inr (0, 38))], [], ax_m (ax_wI s 0 38 0 (0 : Int32)) ρ)) rfl ⟨trivial, trivial, (h0 38 rfl), trivial⟩ ?_
  refine ax_lt (Q := fun ςς => ax_R G 2 0 0 (5, [(0, .inr (0, 38))], [], ax_m (ςς) ρ)) h (fun s1 h => ?_)
  refine ax_bk hK (ax_fc (ax_v_ld (ax_r_aload_n (i := 0) d_Z_wipe_5 rfl)) (ax_fc (ax_w_gf (e := none) hal d_Z_wipe_6 fd_Z_150) (ax_fc (ax_v_so (ax_r_istore_n (i := 1) d_Z_wipe_9 rfl)) (ax_fc (ax_v_ld (ax_r_aload_n (i := 0) d_Z_wipe_10 rfl)) (ax_fc (ax_v_pu (ax_r_iconst (v := 0) d_Z_wipe_11 (by decide))) (ax_fc (ax_w_pf (tc := 0) hal d_Z_wipe_12 fp_Z_150 rfl) ax_fn)))))) (y := (15, [(1, .inl (.int ((s1.1 0 38 2)))), (0, .inr (0, 38))], [], ax_m (ax_wI s1 0 38 2 (0 : Int32)) ρ)) rfl ⟨trivial, (h0 38 rfl), trivial, trivial, trivial, (h0 38 rfl), trivial⟩ ?_
  refine ax_lt (Q := fun ςς => ax_R G 2 0 0 (15, [(1, .inl (.int ((s1.1 0 38 2)))), (0, .inr (0, 38))], [], ax_m (ςς) ρ)) h (fun s2 h => ?_)
  refine ax_bk hK (ax_fc (ax_v_ld (ax_r_iload_n (i := 1) d_Z_wipe_15 rfl)) ax_fn) (y := (16, [(1, .inl (.int ((s1.1 0 38 2)))), (0, .inr (0, 38))], [.inl (.int ((s1.1 0 38 2)))], ax_m (s2) ρ)) rfl ⟨trivial, trivial⟩ ?_
  cases h
  exact ax_iret hA d_Z_wipe_16
def y_Z_place : MethodName := ⟨"CipherNotationModel", "place", "()I"⟩
theorem d_Z_place_0 : decode prog_8_method_46_code 0 = .ok (.aload_n 0, 1) := by decide +kernel
theorem d_Z_place_1 : decode prog_8_method_46_code 1 = .ok (.iconst 0, 1) := by decide +kernel
theorem d_Z_place_2 : decode prog_8_method_46_code 2 = .ok (.putfield (145), 3) := by decide +kernel
theorem d_Z_place_5 : decode prog_8_method_46_code 5 = .ok (.aload_n 0, 1) := by decide +kernel
theorem d_Z_place_6 : decode prog_8_method_46_code 6 = .ok (.getfield (16), 3) := by decide +kernel
theorem d_Z_place_9 : decode prog_8_method_46_code 9 = .ok (.ireturn, 1) := by decide +kernel
theorem fd_Z_16 : ax_fd "CipherNotationModel" 16 6 6 := ⟨nC6, nT6, 73, nY6, rfl, nW6, by decide, nw_4 143 (by decide +kernel) rfl, nO6, nA6⟩
def f_Z_place (s : ax_σ) : Option (Int32 × ax_σ) :=
  ax_let (ax_wI s 0 38 0 (0 : Int32)) (fun s1 =>
    some (((s1.1 0 38 6), s1)))
set_option maxHeartbeats 4000000 in
set_option maxRecDepth 100000 in
theorem t_Z_place {l : Launch} {D : va_G} {cA : Nat → ClassId} {ad : Nat → Nat → Nat} {al : List (Nat × Nat)} {θ : ax_Θ} {ρ : ax_ρ} (h0 : ax_M0 al)  {s : ax_σ} {r0 : Int32} {s0 : ax_σ} (h : f_Z_place s = some (r0, s0)) : ax_T l D cA ad al θ y_Z_place (.code y_Z_place prog_8_method_46_code 1 (some .int)) 0 [.inr (0, 38)] (ax_m s ρ) (some (.inl (.int r0))) (ax_m s0 ρ) := by
  refine ax_T_of (own := "CipherNotationModel") (by decide) rfl (Nat.le_of_ble_eq_true rfl) [(0, .inr (0, 38))] rfl ?_
  intro G hA
  have hB := hA.B
  have hK := hB.K
  have hal := hB.la
  unfold f_Z_place at h
  refine ax_bk hK (ax_fc (ax_v_ld (ax_r_aload_n (i := 0) d_Z_place_0 rfl)) (ax_fc (ax_v_pu (ax_r_iconst (v := 0) d_Z_place_1 (by decide))) (ax_fc (ax_w_pf (tc := 0) hal d_Z_place_2 fp_Z_145 rfl) ax_fn))) (y := (5, [(0, .inr (0, 38))], [], ax_m (ax_wI s 0 38 0 (0 : Int32)) ρ)) rfl ⟨trivial, trivial, (h0 38 rfl), trivial⟩ ?_
  refine ax_lt (Q := fun ςς => ax_R G 1 0 0 (5, [(0, .inr (0, 38))], [], ax_m (ςς) ρ)) h (fun s1 h => ?_)
  refine ax_bk hK (ax_fc (ax_v_ld (ax_r_aload_n (i := 0) d_Z_place_5 rfl)) (ax_fc (ax_w_gf (e := none) hal d_Z_place_6 fd_Z_16) ax_fn)) (y := (9, [(0, .inr (0, 38))], [.inl (.int ((s1.1 0 38 6)))], ax_m (s1) ρ)) rfl ⟨trivial, (h0 38 rfl), trivial⟩ ?_
  cases h
  exact ax_iret hA d_Z_place_9
def y_Z_width : MethodName := ⟨"CipherNotationModel", "width", "()I"⟩
theorem d_Z_width_0 : decode prog_8_method_29_code 0 = .ok (.aload_n 0, 1) := by decide +kernel
theorem d_Z_width_1 : decode prog_8_method_29_code 1 = .ok (.getfield (20), 3) := by decide +kernel
theorem d_Z_width_4 : decode prog_8_method_29_code 4 = .ok (.iconst 0, 1) := by decide +kernel
theorem d_Z_width_5 : decode prog_8_method_29_code 5 = .ok (.laload, 1) := by decide +kernel
theorem d_Z_width_6 : decode prog_8_method_29_code 6 = .ok (.l2i, 1) := by decide +kernel
theorem d_Z_width_7 : decode prog_8_method_29_code 7 = .ok (.ireturn, 1) := by decide +kernel
theorem fd_Z_20 : ax_fd "CipherNotationModel" 20 6 12 := ⟨nC6, nT6, 73, nY6, rfl, nW6, by decide, nw_4 149 (by decide +kernel) rfl, nO6, nA6⟩
def f_Z_width (s : ax_σ) : Option (Int32) :=
  bif ax_in (0 : Int32) 3 then
  some ((((s.2 0 41 ((0 : Int32)).toNatClampNeg)).toInt32))
  else none
set_option maxHeartbeats 4000000 in
set_option maxRecDepth 100000 in
theorem t_Z_width {l : Launch} {D : va_G} {cA : Nat → ClassId} {ad : Nat → Nat → Nat} {al : List (Nat × Nat)} {θ : ax_Θ} {ρ : ax_ρ} (h0 : ax_M0 al)  {s : ax_σ} {r0 : Int32} (h : f_Z_width s = some r0) : ax_T l D cA ad al θ y_Z_width (.code y_Z_width prog_8_method_29_code 1 (some .int)) 0 [.inr (0, 38)] (ax_m s ρ) (some (.inl (.int r0))) (ax_m s ρ) := by
  refine ax_T_of (own := "CipherNotationModel") (by decide) rfl (Nat.le_of_ble_eq_true rfl) [(0, .inr (0, 38))] rfl ?_
  intro G hA
  have hB := hA.B
  have hK := hB.K
  have hal := hB.la
  unfold f_Z_width at h
  obtain ⟨b1, h⟩ := ax_gd h
  refine ax_bk hK (ax_fc (ax_v_ld (ax_r_aload_n (i := 0) d_Z_width_0 rfl)) (ax_fc (ax_w_gf (e := none) hal d_Z_width_1 fd_Z_20) (ax_fc (ax_v_pu (ax_r_iconst (v := 0) d_Z_width_4 (by decide))) (ax_fc (ax_w_lald hal d_Z_width_5) (ax_fc (ax_v_pu (ax_r_l2i d_Z_width_6)) ax_fn))))) (y := (7, [(0, .inr (0, 38))], [.inl (.int (((s.2 0 41 ((0 : Int32)).toNatClampNeg)).toInt32))], ax_m (s) ρ)) rfl ⟨trivial, (h0 38 rfl), trivial, ⟨(h0 41 rfl), ax_inp b1⟩, trivial, trivial⟩ ?_
  cases h
  exact ax_iret hA d_Z_width_7
def y_Z_wantsNumber : MethodName := ⟨"CipherNotationModel", "wantsNumber", "()Z"⟩
theorem d_Z_wantsNumber_0 : decode prog_8_method_13_code 0 = .ok (.aload_n 0, 1) := by decide +kernel
theorem d_Z_wantsNumber_1 : decode prog_8_method_13_code 1 = .ok (.getfield (168), 3) := by decide +kernel
theorem d_Z_wantsNumber_4 : decode prog_8_method_13_code 4 = .ok (.ifCond .eq (92), 3) := by decide +kernel
theorem d_Z_wantsNumber_7 : decode prog_8_method_13_code 7 = .ok (.aload_n 0, 1) := by decide +kernel
theorem d_Z_wantsNumber_8 : decode prog_8_method_13_code 8 = .ok (.getfield (168), 3) := by decide +kernel
theorem d_Z_wantsNumber_11 : decode prog_8_method_13_code 11 = .ok (.iconst 5, 1) := by decide +kernel
theorem d_Z_wantsNumber_12 : decode prog_8_method_13_code 12 = .ok (.if_icmp .eq (84), 3) := by decide +kernel
theorem d_Z_wantsNumber_15 : decode prog_8_method_13_code 15 = .ok (.aload_n 0, 1) := by decide +kernel
theorem d_Z_wantsNumber_16 : decode prog_8_method_13_code 16 = .ok (.getfield (168), 3) := by decide +kernel
theorem d_Z_wantsNumber_19 : decode prog_8_method_13_code 19 = .ok (.bipush (7), 2) := by decide +kernel
theorem d_Z_wantsNumber_21 : decode prog_8_method_13_code 21 = .ok (.if_icmp .eq (75), 3) := by decide +kernel
theorem d_Z_wantsNumber_24 : decode prog_8_method_13_code 24 = .ok (.aload_n 0, 1) := by decide +kernel
theorem d_Z_wantsNumber_25 : decode prog_8_method_13_code 25 = .ok (.getfield (168), 3) := by decide +kernel
theorem d_Z_wantsNumber_28 : decode prog_8_method_13_code 28 = .ok (.bipush (11), 2) := by decide +kernel
theorem d_Z_wantsNumber_30 : decode prog_8_method_13_code 30 = .ok (.if_icmp .eq (66), 3) := by decide +kernel
theorem d_Z_wantsNumber_33 : decode prog_8_method_13_code 33 = .ok (.aload_n 0, 1) := by decide +kernel
theorem d_Z_wantsNumber_34 : decode prog_8_method_13_code 34 = .ok (.getfield (168), 3) := by decide +kernel
theorem d_Z_wantsNumber_37 : decode prog_8_method_13_code 37 = .ok (.bipush (20), 2) := by decide +kernel
theorem d_Z_wantsNumber_39 : decode prog_8_method_13_code 39 = .ok (.if_icmp .eq (57), 3) := by decide +kernel
theorem d_Z_wantsNumber_42 : decode prog_8_method_13_code 42 = .ok (.aload_n 0, 1) := by decide +kernel
theorem d_Z_wantsNumber_43 : decode prog_8_method_13_code 43 = .ok (.getfield (168), 3) := by decide +kernel
theorem d_Z_wantsNumber_46 : decode prog_8_method_13_code 46 = .ok (.bipush (22), 2) := by decide +kernel
theorem d_Z_wantsNumber_48 : decode prog_8_method_13_code 48 = .ok (.if_icmp .eq (48), 3) := by decide +kernel
theorem d_Z_wantsNumber_51 : decode prog_8_method_13_code 51 = .ok (.aload_n 0, 1) := by decide +kernel
theorem d_Z_wantsNumber_52 : decode prog_8_method_13_code 52 = .ok (.getfield (168), 3) := by decide +kernel
theorem d_Z_wantsNumber_55 : decode prog_8_method_13_code 55 = .ok (.bipush (31), 2) := by decide +kernel
theorem d_Z_wantsNumber_57 : decode prog_8_method_13_code 57 = .ok (.if_icmp .eq (39), 3) := by decide +kernel
theorem d_Z_wantsNumber_60 : decode prog_8_method_13_code 60 = .ok (.aload_n 0, 1) := by decide +kernel
theorem d_Z_wantsNumber_61 : decode prog_8_method_13_code 61 = .ok (.getfield (168), 3) := by decide +kernel
theorem d_Z_wantsNumber_64 : decode prog_8_method_13_code 64 = .ok (.bipush (42), 2) := by decide +kernel
theorem d_Z_wantsNumber_66 : decode prog_8_method_13_code 66 = .ok (.if_icmp .eq (30), 3) := by decide +kernel
theorem d_Z_wantsNumber_69 : decode prog_8_method_13_code 69 = .ok (.aload_n 0, 1) := by decide +kernel
theorem d_Z_wantsNumber_70 : decode prog_8_method_13_code 70 = .ok (.getfield (168), 3) := by decide +kernel
theorem d_Z_wantsNumber_73 : decode prog_8_method_13_code 73 = .ok (.bipush (43), 2) := by decide +kernel
theorem d_Z_wantsNumber_75 : decode prog_8_method_13_code 75 = .ok (.if_icmp .eq (21), 3) := by decide +kernel
theorem d_Z_wantsNumber_78 : decode prog_8_method_13_code 78 = .ok (.aload_n 0, 1) := by decide +kernel
theorem d_Z_wantsNumber_79 : decode prog_8_method_13_code 79 = .ok (.getfield (168), 3) := by decide +kernel
theorem d_Z_wantsNumber_82 : decode prog_8_method_13_code 82 = .ok (.bipush (45), 2) := by decide +kernel
theorem d_Z_wantsNumber_84 : decode prog_8_method_13_code 84 = .ok (.if_icmp .eq (12), 3) := by decide +kernel
theorem d_Z_wantsNumber_87 : decode prog_8_method_13_code 87 = .ok (.aload_n 0, 1) := by decide +kernel
theorem d_Z_wantsNumber_88 : decode prog_8_method_13_code 88 = .ok (.getfield (168), 3) := by decide +kernel
theorem d_Z_wantsNumber_91 : decode prog_8_method_13_code 91 = .ok (.bipush (46), 2) := by decide +kernel
theorem d_Z_wantsNumber_93 : decode prog_8_method_13_code 93 = .ok (.if_icmp .ne (7), 3) := by decide +kernel
theorem d_Z_wantsNumber_96 : decode prog_8_method_13_code 96 = .ok (.iconst 1, 1) := by decide +kernel
theorem d_Z_wantsNumber_97 : decode prog_8_method_13_code 97 = .ok (.goto (4), 3) := by decide +kernel
theorem d_Z_wantsNumber_100 : decode prog_8_method_13_code 100 = .ok (.iconst 0, 1) := by decide +kernel
theorem d_Z_wantsNumber_101 : decode prog_8_method_13_code 101 = .ok (.ireturn, 1) := by decide +kernel
theorem fd_Z_168 : ax_fd "CipherNotationModel" 168 6 7 := ⟨nC6, nT6, 73, nY6, rfl, nW6, by decide, nw_4 144 (by decide +kernel) rfl, nO6, nA6⟩
def f_Z_wantsNumber (s : ax_σ) : Option (Int32) :=
  Option.bind (
    if (s.1 0 38 7) = (0 : Int32) then
      some true
    else
      if (s.1 0 38 7) = (5 : Int32) then
        some true
      else
        if (s.1 0 38 7) = (7 : Int32) then
          some true
        else
          if (s.1 0 38 7) = (11 : Int32) then
            some true
          else
            if (s.1 0 38 7) = (20 : Int32) then
              some true
            else
              if (s.1 0 38 7) = (22 : Int32) then
                some true
              else
                if (s.1 0 38 7) = (31 : Int32) then
                  some true
                else
                  if (s.1 0 38 7) = (42 : Int32) then
                    some true
                  else
                    if (s.1 0 38 7) = (43 : Int32) then
                      some true
                    else
                      if (s.1 0 38 7) = (45 : Int32) then
                        some true
                      else
                        if (s.1 0 38 7) = (46 : Int32) then
                          some true
                        else
                          some false) (fun w12 => bif w12 then
    some ((1 : Int32))
  else
    some ((0 : Int32)))
set_option maxHeartbeats 4000000 in
set_option maxRecDepth 100000 in
theorem t_Z_wantsNumber {l : Launch} {D : va_G} {cA : Nat → ClassId} {ad : Nat → Nat → Nat} {al : List (Nat × Nat)} {θ : ax_Θ} {ρ : ax_ρ} (h0 : ax_M0 al)  {s : ax_σ} {r0 : Int32} (h : f_Z_wantsNumber s = some r0) : ax_T l D cA ad al θ y_Z_wantsNumber (.code y_Z_wantsNumber prog_8_method_13_code 1 (some .boolean)) 0 [.inr (0, 38)] (ax_m s ρ) (some (.inl (.int r0))) (ax_m s ρ) := by
  refine ax_T_of (own := "CipherNotationModel") (by decide) rfl (Nat.le_of_ble_eq_true rfl) [(0, .inr (0, 38))] rfl ?_
  intro G hA
  have hB := hA.B
  have hK := hB.K
  have hal := hB.la
  unfold f_Z_wantsNumber at h
  refine ax_bk hK (ax_fc (ax_v_ld (ax_r_aload_n (i := 0) d_Z_wantsNumber_0 rfl)) (ax_fc (ax_w_gf (e := none) hal d_Z_wantsNumber_1 fd_Z_168) ax_fn)) (y := (4, [(0, .inr (0, 38))], [.inl (.int ((s.1 0 38 7)))], ax_m (s) ρ)) rfl ⟨trivial, (h0 38 rfl), trivial⟩ ?_
  obtain ⟨w12, hw12, h⟩ := ax_bd h
  have KTw12 : w12 = true → ax_R G 1 0 0 (96, [], [], ax_m (s) ρ) := by
    intro e9
    subst w12
    replace h := ax_ct h
    refine ax_bk hK (ax_fc (ax_v_pu (ax_r_iconst (v := 1) d_Z_wantsNumber_96 (by decide))) (ax_fc (ax_v_go (tgt := 101) d_Z_wantsNumber_97 (by decide)) ax_fn)) (y := (101, [], [.inl (.int ((1 : Int32)))], ax_m (s) ρ)) rfl ⟨trivial, trivial, trivial⟩ ?_
    cases h
    exact ax_zret hA (by decide) d_Z_wantsNumber_101
  have KFw12 : w12 = false → ax_R G 1 0 0 (100, [], [], ax_m (s) ρ) := by
    intro e9
    subst w12
    replace h := ax_cf h
    refine ax_bk hK (ax_fc (ax_v_pu (ax_r_iconst (v := 0) d_Z_wantsNumber_100 (by decide))) ax_fn) (y := (101, [], [.inl (.int ((0 : Int32)))], ax_m (s) ρ)) rfl ⟨trivial, trivial⟩ ?_
    cases h
    exact ax_zret hA (by decide) d_Z_wantsNumber_101
  clear h
  have h := hw12
  refine ax_if_eq (tgt := 96) hK d_Z_wantsNumber_4 (by decide) (fun c11 => ?_) (fun c11 => ?_)
  · replace h := ax_it c11 h
    cases h
    exact ax_Lsub [] rfl (KTw12 rfl)
  · replace h := ax_if c11 h
    refine ax_bk hK (ax_fc (ax_v_ld (ax_r_aload_n (i := 0) d_Z_wantsNumber_7 rfl)) (ax_fc (ax_w_gf (e := none) hal d_Z_wantsNumber_8 fd_Z_168) (ax_fc (ax_v_pu (ax_r_iconst (v := 5) d_Z_wantsNumber_11 (by decide))) ax_fn))) (y := (12, [(0, .inr (0, 38))], [.inl (.int ((5 : Int32))), .inl (.int ((s.1 0 38 7)))], ax_m (s) ρ)) rfl ⟨trivial, (h0 38 rfl), trivial, trivial⟩ ?_
    refine ax_ic_eq (tgt := 96) hK d_Z_wantsNumber_12 (by decide) (fun c10 => ?_) (fun c10 => ?_)
    · replace h := ax_it c10 h
      cases h
      exact ax_Lsub [] rfl (KTw12 rfl)
    · replace h := ax_if c10 h
      refine ax_bk hK (ax_fc (ax_v_ld (ax_r_aload_n (i := 0) d_Z_wantsNumber_15 rfl)) (ax_fc (ax_w_gf (e := none) hal d_Z_wantsNumber_16 fd_Z_168) (ax_fc (ax_v_pu (ax_r_bipush (v := 7) d_Z_wantsNumber_19 (by decide))) ax_fn))) (y := (21, [(0, .inr (0, 38))], [.inl (.int ((7 : Int32))), .inl (.int ((s.1 0 38 7)))], ax_m (s) ρ)) rfl ⟨trivial, (h0 38 rfl), trivial, trivial⟩ ?_
      refine ax_ic_eq (tgt := 96) hK d_Z_wantsNumber_21 (by decide) (fun c9 => ?_) (fun c9 => ?_)
      · replace h := ax_it c9 h
        cases h
        exact ax_Lsub [] rfl (KTw12 rfl)
      · replace h := ax_if c9 h
        refine ax_bk hK (ax_fc (ax_v_ld (ax_r_aload_n (i := 0) d_Z_wantsNumber_24 rfl)) (ax_fc (ax_w_gf (e := none) hal d_Z_wantsNumber_25 fd_Z_168) (ax_fc (ax_v_pu (ax_r_bipush (v := 11) d_Z_wantsNumber_28 (by decide))) ax_fn))) (y := (30, [(0, .inr (0, 38))], [.inl (.int ((11 : Int32))), .inl (.int ((s.1 0 38 7)))], ax_m (s) ρ)) rfl ⟨trivial, (h0 38 rfl), trivial, trivial⟩ ?_
        refine ax_ic_eq (tgt := 96) hK d_Z_wantsNumber_30 (by decide) (fun c8 => ?_) (fun c8 => ?_)
        · replace h := ax_it c8 h
          cases h
          exact ax_Lsub [] rfl (KTw12 rfl)
        · replace h := ax_if c8 h
          refine ax_bk hK (ax_fc (ax_v_ld (ax_r_aload_n (i := 0) d_Z_wantsNumber_33 rfl)) (ax_fc (ax_w_gf (e := none) hal d_Z_wantsNumber_34 fd_Z_168) (ax_fc (ax_v_pu (ax_r_bipush (v := 20) d_Z_wantsNumber_37 (by decide))) ax_fn))) (y := (39, [(0, .inr (0, 38))], [.inl (.int ((20 : Int32))), .inl (.int ((s.1 0 38 7)))], ax_m (s) ρ)) rfl ⟨trivial, (h0 38 rfl), trivial, trivial⟩ ?_
          refine ax_ic_eq (tgt := 96) hK d_Z_wantsNumber_39 (by decide) (fun c7 => ?_) (fun c7 => ?_)
          · replace h := ax_it c7 h
            cases h
            exact ax_Lsub [] rfl (KTw12 rfl)
          · replace h := ax_if c7 h
            refine ax_bk hK (ax_fc (ax_v_ld (ax_r_aload_n (i := 0) d_Z_wantsNumber_42 rfl)) (ax_fc (ax_w_gf (e := none) hal d_Z_wantsNumber_43 fd_Z_168) (ax_fc (ax_v_pu (ax_r_bipush (v := 22) d_Z_wantsNumber_46 (by decide))) ax_fn))) (y := (48, [(0, .inr (0, 38))], [.inl (.int ((22 : Int32))), .inl (.int ((s.1 0 38 7)))], ax_m (s) ρ)) rfl ⟨trivial, (h0 38 rfl), trivial, trivial⟩ ?_
            refine ax_ic_eq (tgt := 96) hK d_Z_wantsNumber_48 (by decide) (fun c6 => ?_) (fun c6 => ?_)
            · replace h := ax_it c6 h
              cases h
              exact ax_Lsub [] rfl (KTw12 rfl)
            · replace h := ax_if c6 h
              refine ax_bk hK (ax_fc (ax_v_ld (ax_r_aload_n (i := 0) d_Z_wantsNumber_51 rfl)) (ax_fc (ax_w_gf (e := none) hal d_Z_wantsNumber_52 fd_Z_168) (ax_fc (ax_v_pu (ax_r_bipush (v := 31) d_Z_wantsNumber_55 (by decide))) ax_fn))) (y := (57, [(0, .inr (0, 38))], [.inl (.int ((31 : Int32))), .inl (.int ((s.1 0 38 7)))], ax_m (s) ρ)) rfl ⟨trivial, (h0 38 rfl), trivial, trivial⟩ ?_
              refine ax_ic_eq (tgt := 96) hK d_Z_wantsNumber_57 (by decide) (fun c5 => ?_) (fun c5 => ?_)
              · replace h := ax_it c5 h
                cases h
                exact ax_Lsub [] rfl (KTw12 rfl)
              · replace h := ax_if c5 h
                refine ax_bk hK (ax_fc (ax_v_ld (ax_r_aload_n (i := 0) d_Z_wantsNumber_60 rfl)) (ax_fc (ax_w_gf (e := none) hal d_Z_wantsNumber_61 fd_Z_168) (ax_fc (ax_v_pu (ax_r_bipush (v := 42) d_Z_wantsNumber_64 (by decide))) ax_fn))) (y := (66, [(0, .inr (0, 38))], [.inl (.int ((42 : Int32))), .inl (.int ((s.1 0 38 7)))], ax_m (s) ρ)) rfl ⟨trivial, (h0 38 rfl), trivial, trivial⟩ ?_
                refine ax_ic_eq (tgt := 96) hK d_Z_wantsNumber_66 (by decide) (fun c4 => ?_) (fun c4 => ?_)
                · replace h := ax_it c4 h
                  cases h
                  exact ax_Lsub [] rfl (KTw12 rfl)
                · replace h := ax_if c4 h
                  refine ax_bk hK (ax_fc (ax_v_ld (ax_r_aload_n (i := 0) d_Z_wantsNumber_69 rfl)) (ax_fc (ax_w_gf (e := none) hal d_Z_wantsNumber_70 fd_Z_168) (ax_fc (ax_v_pu (ax_r_bipush (v := 43) d_Z_wantsNumber_73 (by decide))) ax_fn))) (y := (75, [(0, .inr (0, 38))], [.inl (.int ((43 : Int32))), .inl (.int ((s.1 0 38 7)))], ax_m (s) ρ)) rfl ⟨trivial, (h0 38 rfl), trivial, trivial⟩ ?_
                  refine ax_ic_eq (tgt := 96) hK d_Z_wantsNumber_75 (by decide) (fun c3 => ?_) (fun c3 => ?_)
                  · replace h := ax_it c3 h
                    cases h
                    exact ax_Lsub [] rfl (KTw12 rfl)
                  · replace h := ax_if c3 h
                    refine ax_bk hK (ax_fc (ax_v_ld (ax_r_aload_n (i := 0) d_Z_wantsNumber_78 rfl)) (ax_fc (ax_w_gf (e := none) hal d_Z_wantsNumber_79 fd_Z_168) (ax_fc (ax_v_pu (ax_r_bipush (v := 45) d_Z_wantsNumber_82 (by decide))) ax_fn))) (y := (84, [(0, .inr (0, 38))], [.inl (.int ((45 : Int32))), .inl (.int ((s.1 0 38 7)))], ax_m (s) ρ)) rfl ⟨trivial, (h0 38 rfl), trivial, trivial⟩ ?_
                    refine ax_ic_eq (tgt := 96) hK d_Z_wantsNumber_84 (by decide) (fun c2 => ?_) (fun c2 => ?_)
                    · replace h := ax_it c2 h
                      cases h
                      exact ax_Lsub [] rfl (KTw12 rfl)
                    · replace h := ax_if c2 h
                      refine ax_bk hK (ax_fc (ax_v_ld (ax_r_aload_n (i := 0) d_Z_wantsNumber_87 rfl)) (ax_fc (ax_w_gf (e := none) hal d_Z_wantsNumber_88 fd_Z_168) (ax_fc (ax_v_pu (ax_r_bipush (v := 46) d_Z_wantsNumber_91 (by decide))) ax_fn))) (y := (93, [(0, .inr (0, 38))], [.inl (.int ((46 : Int32))), .inl (.int ((s.1 0 38 7)))], ax_m (s) ρ)) rfl ⟨trivial, (h0 38 rfl), trivial, trivial⟩ ?_
                      refine ax_ic_ne (tgt := 100) hK d_Z_wantsNumber_93 (by decide) (fun c1 => ?_) (fun c1 => ?_)
                      · replace h := ax_if c1 h
                        cases h
                        exact ax_Lsub [] rfl (KFw12 rfl)
                      · replace h := ax_it c1 h
                        cases h
                        exact ax_Lsub [] rfl (KTw12 rfl)
def y_Z_begin : MethodName := ⟨"CipherNotationModel", "begin", "(II)V"⟩
theorem d_Z_begin_0 : decode prog_8_method_18_code 0 = .ok (.aload_n 0, 1) := by decide +kernel
theorem d_Z_begin_1 : decode prog_8_method_18_code 1 = .ok (.getfield (39), 3) := by decide +kernel
theorem d_Z_begin_4 : decode prog_8_method_18_code 4 = .ok (.aload_n 0, 1) := by decide +kernel
theorem d_Z_begin_5 : decode prog_8_method_18_code 5 = .ok (.getfield (186), 3) := by decide +kernel
theorem d_Z_begin_8 : decode prog_8_method_18_code 8 = .ok (.iload_n 1, 1) := by decide +kernel
theorem d_Z_begin_9 : decode prog_8_method_18_code 9 = .ok (.iastore, 1) := by decide +kernel
theorem d_Z_begin_10 : decode prog_8_method_18_code 10 = .ok (.aload_n 0, 1) := by decide +kernel
theorem d_Z_begin_11 : decode prog_8_method_18_code 11 = .ok (.getfield (42), 3) := by decide +kernel
theorem d_Z_begin_14 : decode prog_8_method_18_code 14 = .ok (.aload_n 0, 1) := by decide +kernel
theorem d_Z_begin_15 : decode prog_8_method_18_code 15 = .ok (.getfield (186), 3) := by decide +kernel
theorem d_Z_begin_18 : decode prog_8_method_18_code 18 = .ok (.iload_n 2, 1) := by decide +kernel
theorem d_Z_begin_19 : decode prog_8_method_18_code 19 = .ok (.iastore, 1) := by decide +kernel
theorem d_Z_begin_20 : decode prog_8_method_18_code 20 = .ok (.aload_n 0, 1) := by decide +kernel
theorem d_Z_begin_21 : decode prog_8_method_18_code 21 = .ok (.getfield (60), 3) := by decide +kernel
theorem d_Z_begin_24 : decode prog_8_method_18_code 24 = .ok (.aload_n 0, 1) := by decide +kernel
theorem d_Z_begin_25 : decode prog_8_method_18_code 25 = .ok (.getfield (186), 3) := by decide +kernel
theorem d_Z_begin_28 : decode prog_8_method_18_code 28 = .ok (.aload_n 0, 1) := by decide +kernel
theorem d_Z_begin_29 : decode prog_8_method_18_code 29 = .ok (.getfield (195), 3) := by decide +kernel
theorem d_Z_begin_32 : decode prog_8_method_18_code 32 = .ok (.iastore, 1) := by decide +kernel
theorem d_Z_begin_33 : decode prog_8_method_18_code 33 = .ok (.aload_n 0, 1) := by decide +kernel
theorem d_Z_begin_34 : decode prog_8_method_18_code 34 = .ok (.dup, 1) := by decide +kernel
theorem d_Z_begin_35 : decode prog_8_method_18_code 35 = .ok (.getfield (186), 3) := by decide +kernel
theorem d_Z_begin_38 : decode prog_8_method_18_code 38 = .ok (.iconst 1, 1) := by decide +kernel
theorem d_Z_begin_39 : decode prog_8_method_18_code 39 = .ok (.iadd, 1) := by decide +kernel
theorem d_Z_begin_40 : decode prog_8_method_18_code 40 = .ok (.putfield (186), 3) := by decide +kernel
theorem d_Z_begin_43 : decode prog_8_method_18_code 43 = .ok (.return_, 1) := by decide +kernel
theorem fd_Z_39 : ax_fd "CipherNotationModel" 39 6 24 := ⟨nC6, nT6, 73, nY6, rfl, nW6, by decide, nw_4 161 (by decide +kernel) rfl, nO6, nA6⟩
theorem fd_Z_186 : ax_fd "CipherNotationModel" 186 6 22 := ⟨nC6, nT6, 73, nY6, rfl, nW6, by decide, nw_4 159 (by decide +kernel) rfl, nO6, nA6⟩
theorem fd_Z_42 : ax_fd "CipherNotationModel" 42 6 25 := ⟨nC6, nT6, 73, nY6, rfl, nW6, by decide, nw_4 162 (by decide +kernel) rfl, nO6, nA6⟩
theorem fd_Z_60 : ax_fd "CipherNotationModel" 60 6 31 := ⟨nC6, nT6, 73, nY6, rfl, nW6, by decide, nw_4 168 (by decide +kernel) rfl, nO6, nA6⟩
theorem fd_Z_195 : ax_fd "CipherNotationModel" 195 6 36 := ⟨nC6, nT6, 73, nY6, rfl, nW6, by decide, nw_4 173 (by decide +kernel) rfl, nO6, nA6⟩
def f_Z_begin (a1 : Int32) (a2 : Int32) (s : ax_σ) : Option (ax_σ) :=
  bif ax_in (s.1 0 38 22) 240 then
  ax_let (ax_wI s 0 47 ((s.1 0 38 22)).toNatClampNeg a1) (fun s2 =>
    bif ax_in (s2.1 0 38 22) 240 then
    ax_let (ax_wI s2 0 48 ((s2.1 0 38 22)).toNatClampNeg a2) (fun s4 =>
      bif ax_in (s4.1 0 38 22) 240 then
      ax_let (ax_wI s4 0 54 ((s4.1 0 38 22)).toNatClampNeg (s4.1 0 38 36)) (fun s6 =>
        ax_let (ax_wI s6 0 38 22 ((s6.1 0 38 22) + (1 : Int32))) (fun s7 =>
          some (s7)))
      else none)
    else none)
  else none
set_option maxHeartbeats 4000000 in
set_option maxRecDepth 100000 in
theorem t_Z_begin {l : Launch} {D : va_G} {cA : Nat → ClassId} {ad : Nat → Nat → Nat} {al : List (Nat × Nat)} {θ : ax_Θ} {ρ : ax_ρ} (h0 : ax_M0 al) {a1 : Int32} {a2 : Int32} {s : ax_σ} {s0 : ax_σ} (h : f_Z_begin a1 a2 s = some s0) : ax_T l D cA ad al θ y_Z_begin (.code y_Z_begin prog_8_method_18_code 3 none) 0 [.inr (0, 38), .inl (.int (a1)), .inl (.int (a2))] (ax_m s ρ) none (ax_m s0 ρ) := by
  refine ax_T_of (own := "CipherNotationModel") (by decide) rfl (Nat.le_of_ble_eq_true rfl) [(0, .inr (0, 38)), (1, .inl (.int (a1))), (2, .inl (.int (a2)))] rfl ?_
  intro G hA
  have hB := hA.B
  have hK := hB.K
  have hal := hB.la
  unfold f_Z_begin at h
  obtain ⟨b1, h⟩ := ax_gd h
  refine ax_bk hK (ax_fc (ax_v_ld (ax_r_aload_n (i := 0) d_Z_begin_0 rfl)) (ax_fc (ax_w_gf (e := none) hal d_Z_begin_1 fd_Z_39) (ax_fc (ax_v_ld (ax_r_aload_n (i := 0) d_Z_begin_4 rfl)) (ax_fc (ax_w_gf (e := none) hal d_Z_begin_5 fd_Z_186) (ax_fc (ax_v_ld (ax_r_iload_n (i := 1) d_Z_begin_8 rfl)) (ax_fc (ax_w_iast hal d_Z_begin_9) ax_fn)))))) (y := (10, [(0, .inr (0, 38)), (1, .inl (.int (a1))), (2, .inl (.int (a2)))], [], ax_m (ax_wI s 0 47 ((s.1 0 38 22)).toNatClampNeg a1) ρ)) rfl ⟨trivial, (h0 38 rfl), trivial, (h0 38 rfl), trivial, ⟨(h0 47 rfl), ax_inp b1⟩, trivial⟩ ?_
  refine ax_lt (Q := fun ςς => ax_R G 3 0 0 (10, [(0, .inr (0, 38)), (1, .inl (.int (a1))), (2, .inl (.int (a2)))], [], ax_m (ςς) ρ)) h (fun s2 h => ?_)
  obtain ⟨b3, h⟩ := ax_gd h
  refine ax_bk hK (ax_fc (ax_v_ld (ax_r_aload_n (i := 0) d_Z_begin_10 rfl)) (ax_fc (ax_w_gf (e := none) hal d_Z_begin_11 fd_Z_42) (ax_fc (ax_v_ld (ax_r_aload_n (i := 0) d_Z_begin_14 rfl)) (ax_fc (ax_w_gf (e := none) hal d_Z_begin_15 fd_Z_186) (ax_fc (ax_v_ld (ax_r_iload_n (i := 2) d_Z_begin_18 rfl)) (ax_fc (ax_w_iast hal d_Z_begin_19) ax_fn)))))) (y := (20, [(0, .inr (0, 38)), (1, .inl (.int (a1))), (2, .inl (.int (a2)))], [], ax_m (ax_wI s2 0 48 ((s2.1 0 38 22)).toNatClampNeg a2) ρ)) rfl ⟨trivial, (h0 38 rfl), trivial, (h0 38 rfl), trivial, ⟨(h0 48 rfl), ax_inp b3⟩, trivial⟩ ?_
  refine ax_lt (Q := fun ςς => ax_R G 3 0 0 (20, [(0, .inr (0, 38)), (1, .inl (.int (a1))), (2, .inl (.int (a2)))], [], ax_m (ςς) ρ)) h (fun s4 h => ?_)
  obtain ⟨b5, h⟩ := ax_gd h
  refine ax_bk hK (ax_fc (ax_v_ld (ax_r_aload_n (i := 0) d_Z_begin_20 rfl)) (ax_fc (ax_w_gf (e := none) hal d_Z_begin_21 fd_Z_60) (ax_fc (ax_v_ld (ax_r_aload_n (i := 0) d_Z_begin_24 rfl)) (ax_fc (ax_w_gf (e := none) hal d_Z_begin_25 fd_Z_186) (ax_fc (ax_v_ld (ax_r_aload_n (i := 0) d_Z_begin_28 rfl)) (ax_fc (ax_w_gf (e := none) hal d_Z_begin_29 fd_Z_195) (ax_fc (ax_w_iast hal d_Z_begin_32) ax_fn))))))) (y := (33, [(0, .inr (0, 38)), (1, .inl (.int (a1))), (2, .inl (.int (a2)))], [], ax_m (ax_wI s4 0 54 ((s4.1 0 38 22)).toNatClampNeg (s4.1 0 38 36)) ρ)) rfl ⟨trivial, (h0 38 rfl), trivial, (h0 38 rfl), trivial, (h0 38 rfl), ⟨(h0 54 rfl), ax_inp b5⟩, trivial⟩ ?_
  refine ax_lt (Q := fun ςς => ax_R G 3 0 0 (33, [(0, .inr (0, 38)), (1, .inl (.int (a1))), (2, .inl (.int (a2)))], [], ax_m (ςς) ρ)) h (fun s6 h => ?_)
  refine ax_bk hK (ax_fc (ax_v_ld (ax_r_aload_n (i := 0) d_Z_begin_33 rfl)) (ax_fc (ax_v_pu (ax_r_dup d_Z_begin_34)) (ax_fc (ax_w_gf (e := none) hal d_Z_begin_35 fd_Z_186) (ax_fc (ax_v_pu (ax_r_iconst (v := 1) d_Z_begin_38 (by decide))) (ax_fc (ax_v_pu (ax_r_iadd d_Z_begin_39)) (ax_fc (ax_w_pf (tc := 0) hal d_Z_begin_40 fp_Z_186 rfl) ax_fn)))))) (y := (43, [(0, .inr (0, 38)), (1, .inl (.int (a1))), (2, .inl (.int (a2)))], [], ax_m (ax_wI s6 0 38 22 ((s6.1 0 38 22) + (1 : Int32))) ρ)) rfl ⟨trivial, trivial, (h0 38 rfl), trivial, trivial, (h0 38 rfl), trivial⟩ ?_
  refine ax_lt (Q := fun ςς => ax_R G 3 0 0 (43, [(0, .inr (0, 38)), (1, .inl (.int (a1))), (2, .inl (.int (a2)))], [], ax_m (ςς) ρ)) h (fun s7 h => ?_)
  cases h
  exact ax_vret hA d_Z_begin_43
def y_Z_emit : MethodName := ⟨"CipherNotationModel", "emit", "(IJI)V"⟩
theorem d_Z_emit_0 : decode prog_8_method_21_code 0 = .ok (.aload_n 0, 1) := by decide +kernel
theorem d_Z_emit_1 : decode prog_8_method_21_code 1 = .ok (.getfield (72), 3) := by decide +kernel
theorem d_Z_emit_4 : decode prog_8_method_21_code 4 = .ok (.aload_n 0, 1) := by decide +kernel
theorem d_Z_emit_5 : decode prog_8_method_21_code 5 = .ok (.getfield (195), 3) := by decide +kernel
theorem d_Z_emit_8 : decode prog_8_method_21_code 8 = .ok (.iload_n 1, 1) := by decide +kernel
theorem d_Z_emit_9 : decode prog_8_method_21_code 9 = .ok (.iastore, 1) := by decide +kernel
theorem d_Z_emit_10 : decode prog_8_method_21_code 10 = .ok (.aload_n 0, 1) := by decide +kernel
theorem d_Z_emit_11 : decode prog_8_method_21_code 11 = .ok (.getfield (75), 3) := by decide +kernel
theorem d_Z_emit_14 : decode prog_8_method_21_code 14 = .ok (.aload_n 0, 1) := by decide +kernel
theorem d_Z_emit_15 : decode prog_8_method_21_code 15 = .ok (.getfield (195), 3) := by decide +kernel
theorem d_Z_emit_18 : decode prog_8_method_21_code 18 = .ok (.lload_n 2, 1) := by decide +kernel
theorem d_Z_emit_19 : decode prog_8_method_21_code 19 = .ok (.lastore, 1) := by decide +kernel
theorem d_Z_emit_20 : decode prog_8_method_21_code 20 = .ok (.aload_n 0, 1) := by decide +kernel
theorem d_Z_emit_21 : decode prog_8_method_21_code 21 = .ok (.getfield (78), 3) := by decide +kernel
theorem d_Z_emit_24 : decode prog_8_method_21_code 24 = .ok (.aload_n 0, 1) := by decide +kernel
theorem d_Z_emit_25 : decode prog_8_method_21_code 25 = .ok (.getfield (195), 3) := by decide +kernel
theorem d_Z_emit_28 : decode prog_8_method_21_code 28 = .ok (.iload (4), 2) := by decide +kernel
theorem d_Z_emit_30 : decode prog_8_method_21_code 30 = .ok (.iastore, 1) := by decide +kernel
theorem d_Z_emit_31 : decode prog_8_method_21_code 31 = .ok (.aload_n 0, 1) := by decide +kernel
theorem d_Z_emit_32 : decode prog_8_method_21_code 32 = .ok (.dup, 1) := by decide +kernel
theorem d_Z_emit_33 : decode prog_8_method_21_code 33 = .ok (.getfield (195), 3) := by decide +kernel
theorem d_Z_emit_36 : decode prog_8_method_21_code 36 = .ok (.iconst 1, 1) := by decide +kernel
theorem d_Z_emit_37 : decode prog_8_method_21_code 37 = .ok (.iadd, 1) := by decide +kernel
theorem d_Z_emit_38 : decode prog_8_method_21_code 38 = .ok (.putfield (195), 3) := by decide +kernel
theorem d_Z_emit_41 : decode prog_8_method_21_code 41 = .ok (.return_, 1) := by decide +kernel
theorem fd_Z_72 : ax_fd "CipherNotationModel" 72 6 37 := ⟨nC6, nT6, 73, nY6, rfl, nW6, by decide, nw_4 174 (by decide +kernel) rfl, nO6, nA6⟩
theorem fd_Z_75 : ax_fd "CipherNotationModel" 75 6 38 := ⟨nC6, nT6, 73, nY6, rfl, nW6, by decide, nw_4 175 (by decide +kernel) rfl, nO6, nA6⟩
theorem fd_Z_78 : ax_fd "CipherNotationModel" 78 6 39 := ⟨nC6, nT6, 73, nY6, rfl, nW6, by decide, nw_4 176 (by decide +kernel) rfl, nO6, nA6⟩
def f_Z_emit (a1 : Int32) (a2 : Int64) (a3 : Int32) (s : ax_σ) : Option (ax_σ) :=
  bif ax_in (s.1 0 38 36) 240 then
  ax_let (ax_wI s 0 58 ((s.1 0 38 36)).toNatClampNeg a1) (fun s2 =>
    bif ax_in (s2.1 0 38 36) 240 then
    ax_let (ax_wL s2 0 59 ((s2.1 0 38 36)).toNatClampNeg a2) (fun s4 =>
      bif ax_in (s4.1 0 38 36) 240 then
      ax_let (ax_wI s4 0 60 ((s4.1 0 38 36)).toNatClampNeg a3) (fun s6 =>
        ax_let (ax_wI s6 0 38 36 ((s6.1 0 38 36) + (1 : Int32))) (fun s7 =>
          some (s7)))
      else none)
    else none)
  else none
set_option maxHeartbeats 4000000 in
set_option maxRecDepth 100000 in
theorem t_Z_emit {l : Launch} {D : va_G} {cA : Nat → ClassId} {ad : Nat → Nat → Nat} {al : List (Nat × Nat)} {θ : ax_Θ} {ρ : ax_ρ} (h0 : ax_M0 al) {a1 : Int32} {a2 : Int64} {a3 : Int32} {s : ax_σ} {s0 : ax_σ} (h : f_Z_emit a1 a2 a3 s = some s0) : ax_T l D cA ad al θ y_Z_emit (.code y_Z_emit prog_8_method_21_code 5 none) 0 [.inr (0, 38), .inl (.int (a1)), .inl (.long (a2)), .inl (.int (a3))] (ax_m s ρ) none (ax_m s0 ρ) := by
  refine ax_T_of (own := "CipherNotationModel") (by decide) rfl (Nat.le_of_ble_eq_true rfl) [(0, .inr (0, 38)), (1, .inl (.int (a1))), (2, .inl (.long (a2))), (4, .inl (.int (a3)))] rfl ?_
  intro G hA
  have hB := hA.B
  have hK := hB.K
  have hal := hB.la
  unfold f_Z_emit at h
  obtain ⟨b1, h⟩ := ax_gd h
  refine ax_bk hK (ax_fc (ax_v_ld (ax_r_aload_n (i := 0) d_Z_emit_0 rfl)) (ax_fc (ax_w_gf (e := none) hal d_Z_emit_1 fd_Z_72) (ax_fc (ax_v_ld (ax_r_aload_n (i := 0) d_Z_emit_4 rfl)) (ax_fc (ax_w_gf (e := none) hal d_Z_emit_5 fd_Z_195) (ax_fc (ax_v_ld (ax_r_iload_n (i := 1) d_Z_emit_8 rfl)) (ax_fc (ax_w_iast hal d_Z_emit_9) ax_fn)))))) (y := (10, [(0, .inr (0, 38)), (1, .inl (.int (a1))), (2, .inl (.long (a2))), (4, .inl (.int (a3)))], [], ax_m (ax_wI s 0 58 ((s.1 0 38 36)).toNatClampNeg a1) ρ)) rfl ⟨trivial, (h0 38 rfl), trivial, (h0 38 rfl), trivial, ⟨(h0 58 rfl), ax_inp b1⟩, trivial⟩ ?_
  refine ax_lt (Q := fun ςς => ax_R G 5 0 0 (10, [(0, .inr (0, 38)), (1, .inl (.int (a1))), (2, .inl (.long (a2))), (4, .inl (.int (a3)))], [], ax_m (ςς) ρ)) h (fun s2 h => ?_)
  obtain ⟨b3, h⟩ := ax_gd h
  refine ax_bk hK (ax_fc (ax_v_ld (ax_r_aload_n (i := 0) d_Z_emit_10 rfl)) (ax_fc (ax_w_gf (e := none) hal d_Z_emit_11 fd_Z_75) (ax_fc (ax_v_ld (ax_r_aload_n (i := 0) d_Z_emit_14 rfl)) (ax_fc (ax_w_gf (e := none) hal d_Z_emit_15 fd_Z_195) (ax_fc (ax_v_ld (ax_r_lload_n (i := 2) d_Z_emit_18 rfl)) (ax_fc (ax_w_last hal d_Z_emit_19) ax_fn)))))) (y := (20, [(0, .inr (0, 38)), (1, .inl (.int (a1))), (2, .inl (.long (a2))), (4, .inl (.int (a3)))], [], ax_m (ax_wL s2 0 59 ((s2.1 0 38 36)).toNatClampNeg a2) ρ)) rfl ⟨trivial, (h0 38 rfl), trivial, (h0 38 rfl), trivial, ⟨(h0 59 rfl), ax_inp b3⟩, trivial⟩ ?_
  refine ax_lt (Q := fun ςς => ax_R G 5 0 0 (20, [(0, .inr (0, 38)), (1, .inl (.int (a1))), (2, .inl (.long (a2))), (4, .inl (.int (a3)))], [], ax_m (ςς) ρ)) h (fun s4 h => ?_)
  obtain ⟨b5, h⟩ := ax_gd h
  refine ax_bk hK (ax_fc (ax_v_ld (ax_r_aload_n (i := 0) d_Z_emit_20 rfl)) (ax_fc (ax_w_gf (e := none) hal d_Z_emit_21 fd_Z_78) (ax_fc (ax_v_ld (ax_r_aload_n (i := 0) d_Z_emit_24 rfl)) (ax_fc (ax_w_gf (e := none) hal d_Z_emit_25 fd_Z_195) (ax_fc (ax_v_ld (ax_r_iload d_Z_emit_28)) (ax_fc (ax_w_iast hal d_Z_emit_30) ax_fn)))))) (y := (31, [(0, .inr (0, 38)), (1, .inl (.int (a1))), (2, .inl (.long (a2))), (4, .inl (.int (a3)))], [], ax_m (ax_wI s4 0 60 ((s4.1 0 38 36)).toNatClampNeg a3) ρ)) rfl ⟨trivial, (h0 38 rfl), trivial, (h0 38 rfl), trivial, ⟨(h0 60 rfl), ax_inp b5⟩, trivial⟩ ?_
  refine ax_lt (Q := fun ςς => ax_R G 5 0 0 (31, [(0, .inr (0, 38)), (1, .inl (.int (a1))), (2, .inl (.long (a2))), (4, .inl (.int (a3)))], [], ax_m (ςς) ρ)) h (fun s6 h => ?_)
  refine ax_bk hK (ax_fc (ax_v_ld (ax_r_aload_n (i := 0) d_Z_emit_31 rfl)) (ax_fc (ax_v_pu (ax_r_dup d_Z_emit_32)) (ax_fc (ax_w_gf (e := none) hal d_Z_emit_33 fd_Z_195) (ax_fc (ax_v_pu (ax_r_iconst (v := 1) d_Z_emit_36 (by decide))) (ax_fc (ax_v_pu (ax_r_iadd d_Z_emit_37)) (ax_fc (ax_w_pf (tc := 0) hal d_Z_emit_38 fp_Z_195 rfl) ax_fn)))))) (y := (41, [(0, .inr (0, 38)), (1, .inl (.int (a1))), (2, .inl (.long (a2))), (4, .inl (.int (a3)))], [], ax_m (ax_wI s6 0 38 36 ((s6.1 0 38 36) + (1 : Int32))) ρ)) rfl ⟨trivial, trivial, (h0 38 rfl), trivial, trivial, (h0 38 rfl), trivial⟩ ?_
  refine ax_lt (Q := fun ςς => ax_R G 5 0 0 (41, [(0, .inr (0, 38)), (1, .inl (.int (a1))), (2, .inl (.long (a2))), (4, .inl (.int (a3)))], [], ax_m (ςς) ρ)) h (fun s7 h => ?_)
  cases h
  exact ax_vret hA d_Z_emit_41
def y_Z_complete : MethodName := ⟨"CipherNotationModel", "complete", "()V"⟩
theorem d_Z_complete_0 : decode prog_8_method_22_code 0 = .ok (.aload_n 0, 1) := by decide +kernel
theorem d_Z_complete_1 : decode prog_8_method_22_code 1 = .ok (.getfield (201), 3) := by decide +kernel
theorem d_Z_complete_4 : decode prog_8_method_22_code 4 = .ok (.ifCond .le (38), 3) := by decide +kernel
theorem d_Z_complete_7 : decode prog_8_method_22_code 7 = .ok (.aload_n 0, 1) := by decide +kernel
theorem d_Z_complete_8 : decode prog_8_method_22_code 8 = .ok (.getfield (96), 3) := by decide +kernel
theorem d_Z_complete_11 : decode prog_8_method_22_code 11 = .ok (.aload_n 0, 1) := by decide +kernel
theorem d_Z_complete_12 : decode prog_8_method_22_code 12 = .ok (.getfield (201), 3) := by decide +kernel
theorem d_Z_complete_15 : decode prog_8_method_22_code 15 = .ok (.iconst 1, 1) := by decide +kernel
theorem d_Z_complete_16 : decode prog_8_method_22_code 16 = .ok (.isub, 1) := by decide +kernel
theorem d_Z_complete_17 : decode prog_8_method_22_code 17 = .ok (.iaload, 1) := by decide +kernel
theorem d_Z_complete_18 : decode prog_8_method_22_code 18 = .ok (.ifCond .ne (24), 3) := by decide +kernel
theorem d_Z_complete_21 : decode prog_8_method_22_code 21 = .ok (.aload_n 0, 1) := by decide +kernel
theorem d_Z_complete_22 : decode prog_8_method_22_code 22 = .ok (.dup, 1) := by decide +kernel
theorem d_Z_complete_23 : decode prog_8_method_22_code 23 = .ok (.getfield (201), 3) := by decide +kernel
theorem d_Z_complete_26 : decode prog_8_method_22_code 26 = .ok (.iconst 1, 1) := by decide +kernel
theorem d_Z_complete_27 : decode prog_8_method_22_code 27 = .ok (.isub, 1) := by decide +kernel
theorem d_Z_complete_28 : decode prog_8_method_22_code 28 = .ok (.putfield (201), 3) := by decide +kernel
theorem d_Z_complete_31 : decode prog_8_method_22_code 31 = .ok (.aload_n 0, 1) := by decide +kernel
theorem d_Z_complete_32 : decode prog_8_method_22_code 32 = .ok (.bipush (6), 2) := by decide +kernel
theorem d_Z_complete_34 : decode prog_8_method_22_code 34 = .ok (.lconst 0, 1) := by decide +kernel
theorem d_Z_complete_35 : decode prog_8_method_22_code 35 = .ok (.iconst (-1), 1) := by decide +kernel
theorem d_Z_complete_36 : decode prog_8_method_22_code 36 = .ok (.invokevirtual (243), 3) := by decide +kernel
theorem d_Z_complete_39 : decode prog_8_method_22_code 39 = .ok (.goto (-39), 3) := by decide +kernel
theorem d_Z_complete_42 : decode prog_8_method_22_code 42 = .ok (.aload_n 0, 1) := by decide +kernel
theorem d_Z_complete_43 : decode prog_8_method_22_code 43 = .ok (.aload_n 0, 1) := by decide +kernel
theorem d_Z_complete_44 : decode prog_8_method_22_code 44 = .ok (.getfield (201), 3) := by decide +kernel
theorem d_Z_complete_47 : decode prog_8_method_22_code 47 = .ok (.ifCond .ne (8), 3) := by decide +kernel
theorem d_Z_complete_50 : decode prog_8_method_22_code 50 = .ok (.bipush (25), 2) := by decide +kernel
theorem d_Z_complete_52 : decode prog_8_method_22_code 52 = .ok (.goto (25), 3) := by decide +kernel
theorem d_Z_complete_55 : decode prog_8_method_22_code 55 = .ok (.aload_n 0, 1) := by decide +kernel
theorem d_Z_complete_56 : decode prog_8_method_22_code 56 = .ok (.getfield (96), 3) := by decide +kernel
theorem d_Z_complete_59 : decode prog_8_method_22_code 59 = .ok (.aload_n 0, 1) := by decide +kernel
theorem d_Z_complete_60 : decode prog_8_method_22_code 60 = .ok (.getfield (201), 3) := by decide +kernel
theorem d_Z_complete_63 : decode prog_8_method_22_code 63 = .ok (.iconst 1, 1) := by decide +kernel
theorem d_Z_complete_64 : decode prog_8_method_22_code 64 = .ok (.isub, 1) := by decide +kernel
theorem d_Z_complete_65 : decode prog_8_method_22_code 65 = .ok (.iaload, 1) := by decide +kernel
theorem d_Z_complete_66 : decode prog_8_method_22_code 66 = .ok (.iconst 1, 1) := by decide +kernel
theorem d_Z_complete_67 : decode prog_8_method_22_code 67 = .ok (.if_icmp .ne (8), 3) := by decide +kernel
theorem d_Z_complete_70 : decode prog_8_method_22_code 70 = .ok (.bipush (21), 2) := by decide +kernel
theorem d_Z_complete_72 : decode prog_8_method_22_code 72 = .ok (.goto (5), 3) := by decide +kernel
theorem d_Z_complete_75 : decode prog_8_method_22_code 75 = .ok (.bipush (24), 2) := by decide +kernel
theorem d_Z_complete_77 : decode prog_8_method_22_code 77 = .ok (.putfield (168), 3) := by decide +kernel
theorem d_Z_complete_80 : decode prog_8_method_22_code 80 = .ok (.return_, 1) := by decide +kernel
theorem fd_Z_201 : ax_fd "CipherNotationModel" 201 6 49 := ⟨nC6, nT6, 73, nY6, rfl, nW6, by decide, nw_4 186 (by decide +kernel) rfl, nO6, nA6⟩
set_option maxRecDepth 100000 in
theorem cw_Z_243 : ax_cw "CipherNotationModel" 243 y_Z_emit (.code y_Z_emit prog_8_method_21_code 5 none) 3 := ⟨nw_5 161 (by decide +kernel) rfl, nw_1 7 (by decide +kernel) rfl, nw_5 164 rfl rfl, by decide +kernel, by decide +kernel⟩
theorem im_Z_emit : Cond.instanceMethod y_Z_emit ∈ ax_tbl := nw_5 163 (by decide +kernel) rfl
theorem se_Z_emit : Cond.selects y_Z_emit.cls y_Z_emit y_Z_emit ∈ ax_tbl := nw_sel 49 (by decide +kernel) (by decide +kernel)
theorem fd_Z_96 : ax_fd "CipherNotationModel" 96 6 50 := ⟨nC6, nT6, 73, nY6, rfl, nW6, by decide, nw_4 187 (by decide +kernel) rfl, nO6, nA6⟩
def lp_Z_complete_0 (F : Nat) : Nat → ax_σ → Option (ax_σ)
  | 0, _ => none
  | n + 1, s =>
    Option.bind (
      if (s.1 0 38 49) ≤ (0 : Int32) then
        some true
      else
        bif ax_in ((s.1 0 38 49) - (1 : Int32)) 12 then
        if (s.1 0 66 (((s.1 0 38 49) - (1 : Int32))).toNatClampNeg) = (0 : Int32) then
          some false
        else
          some true
        else none) (fun w7 => bif w7 then
      some s
    else
      ax_let (ax_wI s 0 38 49 ((s.1 0 38 49) - (1 : Int32))) (fun s4 =>
        Option.bind (f_Z_emit (6 : Int32) (0 : Int64) (-1 : Int32) s4) (fun s5 =>
          lp_Z_complete_0 F n s5)))
set_option maxHeartbeats 4000000 in
set_option maxRecDepth 100000 in
theorem pl_Z_complete_0 {D : va_G} {cA : Nat → ClassId} {ad : Nat → Nat → Nat} {al : List (Nat × Nat)} {θ : ax_Θ} {l : Launch} {ρ : ax_ρ} {G : ax_G} {F : Nat}  (h0 : ax_M0 al) (hB : ax_B D cA ad al θ l "CipherNotationModel" prog_8_method_22_code 1 1 G) : ∀ (n : Nat) {s : ax_σ} (out : ax_σ), lp_Z_complete_0 F n s = some out → (∀ (es : ax_σ), out = es → ax_R G 1 0 0 (42, [(0, .inr (0, 38))], [], ax_m (es) ρ)) → ax_R G 1 0 0 (0, [(0, .inr (0, 38))], [], ax_m (s) ρ) := by
  have hK := hB.K
  have hal := hB.la
  intro n
  induction n with
  | zero =>
    intro s out h
    cases h
  | succ n ih =>
    intro s out h KE
    rw [lp_Z_complete_0] at h
    refine ax_bk hK (ax_fc (ax_v_ld (ax_r_aload_n (i := 0) d_Z_complete_0 rfl)) (ax_fc (ax_w_gf (e := none) hal d_Z_complete_1 fd_Z_201) ax_fn)) (y := (4, [(0, .inr (0, 38))], [.inl (.int ((s.1 0 38 49)))], ax_m (s) ρ)) rfl ⟨trivial, (h0 38 rfl), trivial⟩ ?_
    obtain ⟨w7, hw7, h⟩ := ax_bd h
    have KTw7 : w7 = true → ax_R G 1 0 0 (42, [(0, .inr (0, 38))], [], ax_m (s) ρ) := by
      intro e9
      subst w7
      replace h := ax_ct h
      cases h
      exact ax_Lsub [0] rfl (KE _ rfl)
    have KFw7 : w7 = false → ax_R G 1 0 0 (21, [(0, .inr (0, 38))], [], ax_m (s) ρ) := by
      intro e9
      subst w7
      replace h := ax_cf h
      refine ax_bk hK (ax_fc (ax_v_ld (ax_r_aload_n (i := 0) d_Z_complete_21 rfl)) (ax_fc (ax_v_pu (ax_r_dup d_Z_complete_22)) (ax_fc (ax_w_gf (e := none) hal d_Z_complete_23 fd_Z_201) (ax_fc (ax_v_pu (ax_r_iconst (v := 1) d_Z_complete_26 (by decide))) (ax_fc (ax_v_pu (ax_r_isub d_Z_complete_27)) (ax_fc (ax_w_pf (tc := 0) hal d_Z_complete_28 fp_Z_201 rfl) ax_fn)))))) (y := (31, [(0, .inr (0, 38))], [], ax_m (ax_wI s 0 38 49 ((s.1 0 38 49) - (1 : Int32))) ρ)) rfl ⟨trivial, trivial, (h0 38 rfl), trivial, trivial, (h0 38 rfl), trivial⟩ ?_
      refine ax_lt (Q := fun ςς => ax_R G 1 0 0 (31, [(0, .inr (0, 38))], [], ax_m (ςς) ρ)) h (fun s4 h => ?_)
      refine ax_bk hK (ax_fc (ax_v_ld (ax_r_aload_n (i := 0) d_Z_complete_31 rfl)) (ax_fc (ax_v_pu (ax_r_bipush (v := 6) d_Z_complete_32 (by decide))) (ax_fc (ax_v_pu (ax_r_lconst (v := 0) d_Z_complete_34 (by decide))) (ax_fc (ax_v_pu (ax_r_iconst (v := -1) d_Z_complete_35 (by decide))) ax_fn)))) (y := (36, [(0, .inr (0, 38))], [.inl (.int ((-1 : Int32))), .inl (.long ((0 : Int64))), .inl (.int ((6 : Int32))), .inr (0, 38)], ax_m (s4) ρ)) rfl ⟨trivial, trivial, trivial, trivial, trivial⟩ ?_
      obtain ⟨s5, q6, h⟩ := ax_bd h
      refine ax_bV (rest := []) hB (t_Z_emit h0 q6) cw_Z_243 im_Z_emit se_Z_emit d_Z_complete_36 (h0 38 rfl) rfl rfl (by decide) (by decide) rfl rfl (Nat.le_of_ble_eq_true rfl) ?_
      change ax_R G 1 0 0 (39, [(0, .inr (0, 38))], [], ax_m (s5) ρ)
      refine ax_bk hK (ax_fc (ax_v_go (tgt := 0) d_Z_complete_39 (by decide)) ax_fn) (y := (0, [(0, .inr (0, 38))], [], ax_m (s5) ρ)) rfl ⟨trivial, trivial⟩ ?_
      exact ax_Lsub [0] rfl (ih _ h KE)
    clear h
    have h := hw7
    refine ax_if_le (tgt := 42) hK d_Z_complete_4 (by decide) (fun c3 => ?_) (fun c3 => ?_)
    · replace h := ax_it c3 h
      cases h
      exact ax_Lsub [0] rfl (KTw7 rfl)
    · replace h := ax_if c3 h
      obtain ⟨b1, h⟩ := ax_gd h
      refine ax_bk hK (ax_fc (ax_v_ld (ax_r_aload_n (i := 0) d_Z_complete_7 rfl)) (ax_fc (ax_w_gf (e := none) hal d_Z_complete_8 fd_Z_96) (ax_fc (ax_v_ld (ax_r_aload_n (i := 0) d_Z_complete_11 rfl)) (ax_fc (ax_w_gf (e := none) hal d_Z_complete_12 fd_Z_201) (ax_fc (ax_v_pu (ax_r_iconst (v := 1) d_Z_complete_15 (by decide))) (ax_fc (ax_v_pu (ax_r_isub d_Z_complete_16)) (ax_fc (ax_w_iald hal d_Z_complete_17) ax_fn))))))) (y := (18, [(0, .inr (0, 38))], [.inl (.int ((s.1 0 66 (((s.1 0 38 49) - (1 : Int32))).toNatClampNeg)))], ax_m (s) ρ)) rfl ⟨trivial, (h0 38 rfl), trivial, (h0 38 rfl), trivial, trivial, ⟨(h0 66 rfl), ax_inp b1⟩, trivial⟩ ?_
      refine ax_if_ne (tgt := 42) hK d_Z_complete_18 (by decide) (fun c2 => ?_) (fun c2 => ?_)
      · replace h := ax_if c2 h
        cases h
        exact ax_Lsub [0] rfl (KTw7 rfl)
      · replace h := ax_it c2 h
        cases h
        exact ax_Lsub [0] rfl (KFw7 rfl)
def f_Z_complete (F : Nat) (s : ax_σ) : Option (ax_σ) :=
  Option.bind (lp_Z_complete_0 F F s) (fun s8 =>
    Option.bind (
      if (s8.1 0 38 49) = (0 : Int32) then
        some (25 : Int32)
      else
        bif ax_in ((s8.1 0 38 49) - (1 : Int32)) 12 then
        if (s8.1 0 66 (((s8.1 0 38 49) - (1 : Int32))).toNatClampNeg) = (1 : Int32) then
          some (21 : Int32)
        else
          some (24 : Int32)
        else none) (fun v12 =>
      ax_let (ax_wI s8 0 38 7 v12) (fun s13 =>
        some (s13))))
set_option maxHeartbeats 4000000 in
set_option maxRecDepth 100000 in
theorem t_Z_complete {l : Launch} {D : va_G} {cA : Nat → ClassId} {ad : Nat → Nat → Nat} {al : List (Nat × Nat)} {θ : ax_Θ} {ρ : ax_ρ} {F : Nat} (h0 : ax_M0 al)  {s : ax_σ} {s0 : ax_σ} (h : f_Z_complete F s = some s0) : ax_T l D cA ad al θ y_Z_complete (.code y_Z_complete prog_8_method_22_code 1 none) 1 [.inr (0, 38)] (ax_m s ρ) none (ax_m s0 ρ) := by
  refine ax_T_of (own := "CipherNotationModel") (by decide) rfl (Nat.le_of_ble_eq_true rfl) [(0, .inr (0, 38))] rfl ?_
  intro G hA
  have hB := hA.B
  have hK := hB.K
  have hal := hB.la
  unfold f_Z_complete at h
  obtain ⟨w14, hw14, h⟩ := ax_bd h
  refine ax_Lsub [0] rfl (pl_Z_complete_0 h0 hB F _ hw14 ?_)
  intro s8 e9
  subst w14
  try dsimp only at h
  change ax_R G 1 0 0 (42, [(0, .inr (0, 38))], [], ax_m (s8) ρ)
  refine ax_bk hK (ax_fc (ax_v_ld (ax_r_aload_n (i := 0) d_Z_complete_42 rfl)) (ax_fc (ax_v_ld (ax_r_aload_n (i := 0) d_Z_complete_43 rfl)) (ax_fc (ax_w_gf (e := none) hal d_Z_complete_44 fd_Z_201) ax_fn))) (y := (47, [(0, .inr (0, 38))], [.inl (.int ((s8.1 0 38 49))), .inr (0, 38)], ax_m (s8) ρ)) rfl ⟨trivial, trivial, (h0 38 rfl), trivial⟩ ?_
  obtain ⟨w15, hw15, h⟩ := ax_bd h
  have KEw15 : ∀ (v12 : Int32), w15 = v12 → ax_R G 1 0 0 (77, [], [.inl (.int (v12)), .inr (0, 38)], ax_m (s8) ρ) := by
    intro v12 e9
    subst w15
    try dsimp only at h
    refine ax_bk hK (ax_fc (ax_w_pf (tc := 0) hal d_Z_complete_77 fp_Z_168 rfl) ax_fn) (y := (80, [], [], ax_m (ax_wI s8 0 38 7 v12) ρ)) rfl ⟨(h0 38 rfl), trivial⟩ ?_
    refine ax_lt (Q := fun ςς => ax_R G 1 0 0 (80, [], [], ax_m (ςς) ρ)) h (fun s13 h => ?_)
    cases h
    exact ax_vret hA d_Z_complete_80
  clear h
  have h := hw15
  refine ax_if_ne (tgt := 55) hK d_Z_complete_47 (by decide) (fun c11 => ?_) (fun c11 => ?_)
  · replace h := ax_if c11 h
    obtain ⟨b9, h⟩ := ax_gd h
    refine ax_bk hK (ax_fc (ax_v_ld (ax_r_aload_n (i := 0) d_Z_complete_55 rfl)) (ax_fc (ax_w_gf (e := none) hal d_Z_complete_56 fd_Z_96) (ax_fc (ax_v_ld (ax_r_aload_n (i := 0) d_Z_complete_59 rfl)) (ax_fc (ax_w_gf (e := none) hal d_Z_complete_60 fd_Z_201) (ax_fc (ax_v_pu (ax_r_iconst (v := 1) d_Z_complete_63 (by decide))) (ax_fc (ax_v_pu (ax_r_isub d_Z_complete_64)) (ax_fc (ax_w_iald hal d_Z_complete_65) (ax_fc (ax_v_pu (ax_r_iconst (v := 1) d_Z_complete_66 (by decide))) ax_fn)))))))) (y := (67, [(0, .inr (0, 38))], [.inl (.int ((1 : Int32))), .inl (.int ((s8.1 0 66 (((s8.1 0 38 49) - (1 : Int32))).toNatClampNeg))), .inr (0, 38)], ax_m (s8) ρ)) rfl ⟨trivial, (h0 38 rfl), trivial, (h0 38 rfl), trivial, trivial, ⟨(h0 66 rfl), ax_inp b9⟩, trivial, trivial⟩ ?_
    refine ax_ic_ne (tgt := 75) hK d_Z_complete_67 (by decide) (fun c10 => ?_) (fun c10 => ?_)
    · replace h := ax_if c10 h
      refine ax_bk hK (ax_fc (ax_v_pu (ax_r_bipush (v := 24) d_Z_complete_75 (by decide))) ax_fn) (y := (77, [(0, .inr (0, 38))], [.inl (.int ((24 : Int32))), .inr (0, 38)], ax_m (s8) ρ)) rfl ⟨trivial, trivial⟩ ?_
      cases h
      exact ax_Lsub [] rfl (KEw15 _ rfl)
    · replace h := ax_it c10 h
      refine ax_bk hK (ax_fc (ax_v_pu (ax_r_bipush (v := 21) d_Z_complete_70 (by decide))) (ax_fc (ax_v_go (tgt := 77) d_Z_complete_72 (by decide)) ax_fn)) (y := (77, [(0, .inr (0, 38))], [.inl (.int ((21 : Int32))), .inr (0, 38)], ax_m (s8) ρ)) rfl ⟨trivial, trivial, trivial⟩ ?_
      cases h
      exact ax_Lsub [] rfl (KEw15 _ rfl)
  · replace h := ax_it c11 h
    refine ax_bk hK (ax_fc (ax_v_pu (ax_r_bipush (v := 25) d_Z_complete_50 (by decide))) (ax_fc (ax_v_go (tgt := 77) d_Z_complete_52 (by decide)) ax_fn)) (y := (77, [(0, .inr (0, 38))], [.inl (.int ((25 : Int32))), .inr (0, 38)], ax_m (s8) ρ)) rfl ⟨trivial, trivial, trivial⟩ ?_
    cases h
    exact ax_Lsub [] rfl (KEw15 _ rfl)
def y_Z_opens : MethodName := ⟨"CipherNotationModel", "opens", "(I)Z"⟩
theorem d_Z_opens_0 : decode prog_8_method_23_code 0 = .ok (.aload_n 0, 1) := by decide +kernel
theorem d_Z_opens_1 : decode prog_8_method_23_code 1 = .ok (.getfield (201), 3) := by decide +kernel
theorem d_Z_opens_4 : decode prog_8_method_23_code 4 = .ok (.bipush (12), 2) := by decide +kernel
theorem d_Z_opens_6 : decode prog_8_method_23_code 6 = .ok (.if_icmp .ne (5), 3) := by decide +kernel
theorem d_Z_opens_9 : decode prog_8_method_23_code 9 = .ok (.iconst 0, 1) := by decide +kernel
theorem d_Z_opens_10 : decode prog_8_method_23_code 10 = .ok (.ireturn, 1) := by decide +kernel
theorem d_Z_opens_11 : decode prog_8_method_23_code 11 = .ok (.aload_n 0, 1) := by decide +kernel
theorem d_Z_opens_12 : decode prog_8_method_23_code 12 = .ok (.getfield (96), 3) := by decide +kernel
theorem d_Z_opens_15 : decode prog_8_method_23_code 15 = .ok (.aload_n 0, 1) := by decide +kernel
theorem d_Z_opens_16 : decode prog_8_method_23_code 16 = .ok (.getfield (201), 3) := by decide +kernel
theorem d_Z_opens_19 : decode prog_8_method_23_code 19 = .ok (.iload_n 1, 1) := by decide +kernel
theorem d_Z_opens_20 : decode prog_8_method_23_code 20 = .ok (.iastore, 1) := by decide +kernel
theorem d_Z_opens_21 : decode prog_8_method_23_code 21 = .ok (.aload_n 0, 1) := by decide +kernel
theorem d_Z_opens_22 : decode prog_8_method_23_code 22 = .ok (.dup, 1) := by decide +kernel
theorem d_Z_opens_23 : decode prog_8_method_23_code 23 = .ok (.getfield (201), 3) := by decide +kernel
theorem d_Z_opens_26 : decode prog_8_method_23_code 26 = .ok (.iconst 1, 1) := by decide +kernel
theorem d_Z_opens_27 : decode prog_8_method_23_code 27 = .ok (.iadd, 1) := by decide +kernel
theorem d_Z_opens_28 : decode prog_8_method_23_code 28 = .ok (.putfield (201), 3) := by decide +kernel
theorem d_Z_opens_31 : decode prog_8_method_23_code 31 = .ok (.iconst 1, 1) := by decide +kernel
theorem d_Z_opens_32 : decode prog_8_method_23_code 32 = .ok (.ireturn, 1) := by decide +kernel
def f_Z_opens (a1 : Int32) (s : ax_σ) : Option (Int32 × ax_σ) :=
  if (s.1 0 38 49) = (12 : Int32) then
    some (((0 : Int32), s))
  else
    bif ax_in (s.1 0 38 49) 12 then
    ax_let (ax_wI s 0 66 ((s.1 0 38 49)).toNatClampNeg a1) (fun s2 =>
      ax_let (ax_wI s2 0 38 49 ((s2.1 0 38 49) + (1 : Int32))) (fun s3 =>
        some (((1 : Int32), s3))))
    else none
set_option maxHeartbeats 4000000 in
set_option maxRecDepth 100000 in
theorem t_Z_opens {l : Launch} {D : va_G} {cA : Nat → ClassId} {ad : Nat → Nat → Nat} {al : List (Nat × Nat)} {θ : ax_Θ} {ρ : ax_ρ} (h0 : ax_M0 al) {a1 : Int32} {s : ax_σ} {r0 : Int32} {s0 : ax_σ} (h : f_Z_opens a1 s = some (r0, s0)) : ax_T l D cA ad al θ y_Z_opens (.code y_Z_opens prog_8_method_23_code 2 (some .boolean)) 0 [.inr (0, 38), .inl (.int (a1))] (ax_m s ρ) (some (.inl (.int r0))) (ax_m s0 ρ) := by
  refine ax_T_of (own := "CipherNotationModel") (by decide) rfl (Nat.le_of_ble_eq_true rfl) [(0, .inr (0, 38)), (1, .inl (.int (a1)))] rfl ?_
  intro G hA
  have hB := hA.B
  have hK := hB.K
  have hal := hB.la
  unfold f_Z_opens at h
  refine ax_bk hK (ax_fc (ax_v_ld (ax_r_aload_n (i := 0) d_Z_opens_0 rfl)) (ax_fc (ax_w_gf (e := none) hal d_Z_opens_1 fd_Z_201) (ax_fc (ax_v_pu (ax_r_bipush (v := 12) d_Z_opens_4 (by decide))) ax_fn))) (y := (6, [(0, .inr (0, 38)), (1, .inl (.int (a1)))], [.inl (.int ((12 : Int32))), .inl (.int ((s.1 0 38 49)))], ax_m (s) ρ)) rfl ⟨trivial, (h0 38 rfl), trivial, trivial⟩ ?_
  refine ax_ic_ne (tgt := 11) hK d_Z_opens_6 (by decide) (fun c4 => ?_) (fun c4 => ?_)
  · replace h := ax_if c4 h
    obtain ⟨b1, h⟩ := ax_gd h
    refine ax_bk hK (ax_fc (ax_v_ld (ax_r_aload_n (i := 0) d_Z_opens_11 rfl)) (ax_fc (ax_w_gf (e := none) hal d_Z_opens_12 fd_Z_96) (ax_fc (ax_v_ld (ax_r_aload_n (i := 0) d_Z_opens_15 rfl)) (ax_fc (ax_w_gf (e := none) hal d_Z_opens_16 fd_Z_201) (ax_fc (ax_v_ld (ax_r_iload_n (i := 1) d_Z_opens_19 rfl)) (ax_fc (ax_w_iast hal d_Z_opens_20) ax_fn)))))) (y := (21, [(0, .inr (0, 38)), (1, .inl (.int (a1)))], [], ax_m (ax_wI s 0 66 ((s.1 0 38 49)).toNatClampNeg a1) ρ)) rfl ⟨trivial, (h0 38 rfl), trivial, (h0 38 rfl), trivial, ⟨(h0 66 rfl), ax_inp b1⟩, trivial⟩ ?_
    refine ax_lt (Q := fun ςς => ax_R G 2 0 0 (21, [(0, .inr (0, 38)), (1, .inl (.int (a1)))], [], ax_m (ςς) ρ)) h (fun s2 h => ?_)
    refine ax_bk hK (ax_fc (ax_v_ld (ax_r_aload_n (i := 0) d_Z_opens_21 rfl)) (ax_fc (ax_v_pu (ax_r_dup d_Z_opens_22)) (ax_fc (ax_w_gf (e := none) hal d_Z_opens_23 fd_Z_201) (ax_fc (ax_v_pu (ax_r_iconst (v := 1) d_Z_opens_26 (by decide))) (ax_fc (ax_v_pu (ax_r_iadd d_Z_opens_27)) (ax_fc (ax_w_pf (tc := 0) hal d_Z_opens_28 fp_Z_201 rfl) ax_fn)))))) (y := (31, [(0, .inr (0, 38)), (1, .inl (.int (a1)))], [], ax_m (ax_wI s2 0 38 49 ((s2.1 0 38 49) + (1 : Int32))) ρ)) rfl ⟨trivial, trivial, (h0 38 rfl), trivial, trivial, (h0 38 rfl), trivial⟩ ?_
    refine ax_lt (Q := fun ςς => ax_R G 2 0 0 (31, [(0, .inr (0, 38)), (1, .inl (.int (a1)))], [], ax_m (ςς) ρ)) h (fun s3 h => ?_)
    refine ax_bk hK (ax_fc (ax_v_pu (ax_r_iconst (v := 1) d_Z_opens_31 (by decide))) ax_fn) (y := (32, [(0, .inr (0, 38)), (1, .inl (.int (a1)))], [.inl (.int ((1 : Int32)))], ax_m (s3) ρ)) rfl ⟨trivial, trivial⟩ ?_
    cases h
    exact ax_zret hA (by decide) d_Z_opens_32
  · replace h := ax_it c4 h
    refine ax_bk hK (ax_fc (ax_v_pu (ax_r_iconst (v := 0) d_Z_opens_9 (by decide))) ax_fn) (y := (10, [(0, .inr (0, 38)), (1, .inl (.int (a1)))], [.inl (.int ((0 : Int32)))], ax_m (s) ρ)) rfl ⟨trivial, trivial⟩ ?_
    cases h
    exact ax_zret hA (by decide) d_Z_opens_10
def y_Z_addTerm : MethodName := ⟨"CipherNotationModel", "addTerm", "(JII)V"⟩
theorem d_Z_addTerm_0 : decode prog_8_method_26_code 0 = .ok (.aload_n 0, 1) := by decide +kernel
theorem d_Z_addTerm_1 : decode prog_8_method_26_code 1 = .ok (.getfield (87), 3) := by decide +kernel
theorem d_Z_addTerm_4 : decode prog_8_method_26_code 4 = .ok (.aload_n 0, 1) := by decide +kernel
theorem d_Z_addTerm_5 : decode prog_8_method_26_code 5 = .ok (.getfield (198), 3) := by decide +kernel
theorem d_Z_addTerm_8 : decode prog_8_method_26_code 8 = .ok (.lload_n 1, 1) := by decide +kernel
theorem d_Z_addTerm_9 : decode prog_8_method_26_code 9 = .ok (.lastore, 1) := by decide +kernel
theorem d_Z_addTerm_10 : decode prog_8_method_26_code 10 = .ok (.aload_n 0, 1) := by decide +kernel
theorem d_Z_addTerm_11 : decode prog_8_method_26_code 11 = .ok (.getfield (90), 3) := by decide +kernel
theorem d_Z_addTerm_14 : decode prog_8_method_26_code 14 = .ok (.aload_n 0, 1) := by decide +kernel
theorem d_Z_addTerm_15 : decode prog_8_method_26_code 15 = .ok (.getfield (198), 3) := by decide +kernel
theorem d_Z_addTerm_18 : decode prog_8_method_26_code 18 = .ok (.iload_n 3, 1) := by decide +kernel
theorem d_Z_addTerm_19 : decode prog_8_method_26_code 19 = .ok (.iastore, 1) := by decide +kernel
theorem d_Z_addTerm_20 : decode prog_8_method_26_code 20 = .ok (.aload_n 0, 1) := by decide +kernel
theorem d_Z_addTerm_21 : decode prog_8_method_26_code 21 = .ok (.getfield (93), 3) := by decide +kernel
theorem d_Z_addTerm_24 : decode prog_8_method_26_code 24 = .ok (.aload_n 0, 1) := by decide +kernel
theorem d_Z_addTerm_25 : decode prog_8_method_26_code 25 = .ok (.getfield (198), 3) := by decide +kernel
theorem d_Z_addTerm_28 : decode prog_8_method_26_code 28 = .ok (.iload (4), 2) := by decide +kernel
theorem d_Z_addTerm_30 : decode prog_8_method_26_code 30 = .ok (.iastore, 1) := by decide +kernel
theorem d_Z_addTerm_31 : decode prog_8_method_26_code 31 = .ok (.aload_n 0, 1) := by decide +kernel
theorem d_Z_addTerm_32 : decode prog_8_method_26_code 32 = .ok (.dup, 1) := by decide +kernel
theorem d_Z_addTerm_33 : decode prog_8_method_26_code 33 = .ok (.getfield (198), 3) := by decide +kernel
theorem d_Z_addTerm_36 : decode prog_8_method_26_code 36 = .ok (.iconst 1, 1) := by decide +kernel
theorem d_Z_addTerm_37 : decode prog_8_method_26_code 37 = .ok (.iadd, 1) := by decide +kernel
theorem d_Z_addTerm_38 : decode prog_8_method_26_code 38 = .ok (.putfield (198), 3) := by decide +kernel
theorem d_Z_addTerm_41 : decode prog_8_method_26_code 41 = .ok (.return_, 1) := by decide +kernel
theorem fd_Z_87 : ax_fd "CipherNotationModel" 87 6 43 := ⟨nC6, nT6, 73, nY6, rfl, nW6, by decide, nw_4 180 (by decide +kernel) rfl, nO6, nA6⟩
theorem fd_Z_198 : ax_fd "CipherNotationModel" 198 6 42 := ⟨nC6, nT6, 73, nY6, rfl, nW6, by decide, nw_4 179 (by decide +kernel) rfl, nO6, nA6⟩
theorem fd_Z_90 : ax_fd "CipherNotationModel" 90 6 44 := ⟨nC6, nT6, 73, nY6, rfl, nW6, by decide, nw_4 181 (by decide +kernel) rfl, nO6, nA6⟩
theorem fd_Z_93 : ax_fd "CipherNotationModel" 93 6 45 := ⟨nC6, nT6, 73, nY6, rfl, nW6, by decide, nw_4 182 (by decide +kernel) rfl, nO6, nA6⟩
def f_Z_addTerm (a1 : Int64) (a2 : Int32) (a3 : Int32) (s : ax_σ) : Option (ax_σ) :=
  bif ax_in (s.1 0 38 42) 240 then
  ax_let (ax_wL s 0 63 ((s.1 0 38 42)).toNatClampNeg a1) (fun s2 =>
    bif ax_in (s2.1 0 38 42) 240 then
    ax_let (ax_wI s2 0 64 ((s2.1 0 38 42)).toNatClampNeg a2) (fun s4 =>
      bif ax_in (s4.1 0 38 42) 240 then
      ax_let (ax_wI s4 0 65 ((s4.1 0 38 42)).toNatClampNeg a3) (fun s6 =>
        ax_let (ax_wI s6 0 38 42 ((s6.1 0 38 42) + (1 : Int32))) (fun s7 =>
          some (s7)))
      else none)
    else none)
  else none
set_option maxHeartbeats 4000000 in
set_option maxRecDepth 100000 in
theorem t_Z_addTerm {l : Launch} {D : va_G} {cA : Nat → ClassId} {ad : Nat → Nat → Nat} {al : List (Nat × Nat)} {θ : ax_Θ} {ρ : ax_ρ} (h0 : ax_M0 al) {a1 : Int64} {a2 : Int32} {a3 : Int32} {s : ax_σ} {s0 : ax_σ} (h : f_Z_addTerm a1 a2 a3 s = some s0) : ax_T l D cA ad al θ y_Z_addTerm (.code y_Z_addTerm prog_8_method_26_code 5 none) 0 [.inr (0, 38), .inl (.long (a1)), .inl (.int (a2)), .inl (.int (a3))] (ax_m s ρ) none (ax_m s0 ρ) := by
  refine ax_T_of (own := "CipherNotationModel") (by decide) rfl (Nat.le_of_ble_eq_true rfl) [(0, .inr (0, 38)), (1, .inl (.long (a1))), (3, .inl (.int (a2))), (4, .inl (.int (a3)))] rfl ?_
  intro G hA
  have hB := hA.B
  have hK := hB.K
  have hal := hB.la
  unfold f_Z_addTerm at h
  obtain ⟨b1, h⟩ := ax_gd h
  refine ax_bk hK (ax_fc (ax_v_ld (ax_r_aload_n (i := 0) d_Z_addTerm_0 rfl)) (ax_fc (ax_w_gf (e := none) hal d_Z_addTerm_1 fd_Z_87) (ax_fc (ax_v_ld (ax_r_aload_n (i := 0) d_Z_addTerm_4 rfl)) (ax_fc (ax_w_gf (e := none) hal d_Z_addTerm_5 fd_Z_198) (ax_fc (ax_v_ld (ax_r_lload_n (i := 1) d_Z_addTerm_8 rfl)) (ax_fc (ax_w_last hal d_Z_addTerm_9) ax_fn)))))) (y := (10, [(0, .inr (0, 38)), (1, .inl (.long (a1))), (3, .inl (.int (a2))), (4, .inl (.int (a3)))], [], ax_m (ax_wL s 0 63 ((s.1 0 38 42)).toNatClampNeg a1) ρ)) rfl ⟨trivial, (h0 38 rfl), trivial, (h0 38 rfl), trivial, ⟨(h0 63 rfl), ax_inp b1⟩, trivial⟩ ?_
  refine ax_lt (Q := fun ςς => ax_R G 5 0 0 (10, [(0, .inr (0, 38)), (1, .inl (.long (a1))), (3, .inl (.int (a2))), (4, .inl (.int (a3)))], [], ax_m (ςς) ρ)) h (fun s2 h => ?_)
  obtain ⟨b3, h⟩ := ax_gd h
  refine ax_bk hK (ax_fc (ax_v_ld (ax_r_aload_n (i := 0) d_Z_addTerm_10 rfl)) (ax_fc (ax_w_gf (e := none) hal d_Z_addTerm_11 fd_Z_90) (ax_fc (ax_v_ld (ax_r_aload_n (i := 0) d_Z_addTerm_14 rfl)) (ax_fc (ax_w_gf (e := none) hal d_Z_addTerm_15 fd_Z_198) (ax_fc (ax_v_ld (ax_r_iload_n (i := 3) d_Z_addTerm_18 rfl)) (ax_fc (ax_w_iast hal d_Z_addTerm_19) ax_fn)))))) (y := (20, [(0, .inr (0, 38)), (1, .inl (.long (a1))), (3, .inl (.int (a2))), (4, .inl (.int (a3)))], [], ax_m (ax_wI s2 0 64 ((s2.1 0 38 42)).toNatClampNeg a2) ρ)) rfl ⟨trivial, (h0 38 rfl), trivial, (h0 38 rfl), trivial, ⟨(h0 64 rfl), ax_inp b3⟩, trivial⟩ ?_
  refine ax_lt (Q := fun ςς => ax_R G 5 0 0 (20, [(0, .inr (0, 38)), (1, .inl (.long (a1))), (3, .inl (.int (a2))), (4, .inl (.int (a3)))], [], ax_m (ςς) ρ)) h (fun s4 h => ?_)
  obtain ⟨b5, h⟩ := ax_gd h
  refine ax_bk hK (ax_fc (ax_v_ld (ax_r_aload_n (i := 0) d_Z_addTerm_20 rfl)) (ax_fc (ax_w_gf (e := none) hal d_Z_addTerm_21 fd_Z_93) (ax_fc (ax_v_ld (ax_r_aload_n (i := 0) d_Z_addTerm_24 rfl)) (ax_fc (ax_w_gf (e := none) hal d_Z_addTerm_25 fd_Z_198) (ax_fc (ax_v_ld (ax_r_iload d_Z_addTerm_28)) (ax_fc (ax_w_iast hal d_Z_addTerm_30) ax_fn)))))) (y := (31, [(0, .inr (0, 38)), (1, .inl (.long (a1))), (3, .inl (.int (a2))), (4, .inl (.int (a3)))], [], ax_m (ax_wI s4 0 65 ((s4.1 0 38 42)).toNatClampNeg a3) ρ)) rfl ⟨trivial, (h0 38 rfl), trivial, (h0 38 rfl), trivial, ⟨(h0 65 rfl), ax_inp b5⟩, trivial⟩ ?_
  refine ax_lt (Q := fun ςς => ax_R G 5 0 0 (31, [(0, .inr (0, 38)), (1, .inl (.long (a1))), (3, .inl (.int (a2))), (4, .inl (.int (a3)))], [], ax_m (ςς) ρ)) h (fun s6 h => ?_)
  refine ax_bk hK (ax_fc (ax_v_ld (ax_r_aload_n (i := 0) d_Z_addTerm_31 rfl)) (ax_fc (ax_v_pu (ax_r_dup d_Z_addTerm_32)) (ax_fc (ax_w_gf (e := none) hal d_Z_addTerm_33 fd_Z_198) (ax_fc (ax_v_pu (ax_r_iconst (v := 1) d_Z_addTerm_36 (by decide))) (ax_fc (ax_v_pu (ax_r_iadd d_Z_addTerm_37)) (ax_fc (ax_w_pf (tc := 0) hal d_Z_addTerm_38 fp_Z_198 rfl) ax_fn)))))) (y := (41, [(0, .inr (0, 38)), (1, .inl (.long (a1))), (3, .inl (.int (a2))), (4, .inl (.int (a3)))], [], ax_m (ax_wI s6 0 38 42 ((s6.1 0 38 42) + (1 : Int32))) ρ)) rfl ⟨trivial, trivial, (h0 38 rfl), trivial, trivial, (h0 38 rfl), trivial⟩ ?_
  refine ax_lt (Q := fun ςς => ax_R G 5 0 0 (41, [(0, .inr (0, 38)), (1, .inl (.long (a1))), (3, .inl (.int (a2))), (4, .inl (.int (a3)))], [], ax_m (ςς) ρ)) h (fun s7 h => ?_)
  cases h
  exact ax_vret hA d_Z_addTerm_41
def y_Z_consider : MethodName := ⟨"CipherNotationModel", "consider", "(ZII)V"⟩
theorem d_Z_consider_0 : decode prog_8_method_28_code 0 = .ok (.iload_n 1, 1) := by decide +kernel
theorem d_Z_consider_1 : decode prog_8_method_28_code 1 = .ok (.ifCond .eq (44), 3) := by decide +kernel
theorem d_Z_consider_4 : decode prog_8_method_28_code 4 = .ok (.aload_n 0, 1) := by decide +kernel
theorem d_Z_consider_5 : decode prog_8_method_28_code 5 = .ok (.getfield (293), 3) := by decide +kernel
theorem d_Z_consider_8 : decode prog_8_method_28_code 8 = .ok (.ifCond .eq (27), 3) := by decide +kernel
theorem d_Z_consider_11 : decode prog_8_method_28_code 11 = .ok (.iload_n 3, 1) := by decide +kernel
theorem d_Z_consider_12 : decode prog_8_method_28_code 12 = .ok (.aload_n 0, 1) := by decide +kernel
theorem d_Z_consider_13 : decode prog_8_method_28_code 13 = .ok (.getfield (296), 3) := by decide +kernel
theorem d_Z_consider_16 : decode prog_8_method_28_code 16 = .ok (.if_icmp .lt (19), 3) := by decide +kernel
theorem d_Z_consider_19 : decode prog_8_method_28_code 19 = .ok (.iload_n 3, 1) := by decide +kernel
theorem d_Z_consider_20 : decode prog_8_method_28_code 20 = .ok (.aload_n 0, 1) := by decide +kernel
theorem d_Z_consider_21 : decode prog_8_method_28_code 21 = .ok (.getfield (296), 3) := by decide +kernel
theorem d_Z_consider_24 : decode prog_8_method_28_code 24 = .ok (.if_icmp .ne (21), 3) := by decide +kernel
theorem d_Z_consider_27 : decode prog_8_method_28_code 27 = .ok (.iload_n 2, 1) := by decide +kernel
theorem d_Z_consider_28 : decode prog_8_method_28_code 28 = .ok (.aload_n 0, 1) := by decide +kernel
theorem d_Z_consider_29 : decode prog_8_method_28_code 29 = .ok (.getfield (293), 3) := by decide +kernel
theorem d_Z_consider_32 : decode prog_8_method_28_code 32 = .ok (.if_icmp .ge (13), 3) := by decide +kernel
theorem d_Z_consider_35 : decode prog_8_method_28_code 35 = .ok (.aload_n 0, 1) := by decide +kernel
theorem d_Z_consider_36 : decode prog_8_method_28_code 36 = .ok (.iload_n 2, 1) := by decide +kernel
theorem d_Z_consider_37 : decode prog_8_method_28_code 37 = .ok (.putfield (293), 3) := by decide +kernel
theorem d_Z_consider_40 : decode prog_8_method_28_code 40 = .ok (.aload_n 0, 1) := by decide +kernel
theorem d_Z_consider_41 : decode prog_8_method_28_code 41 = .ok (.iload_n 3, 1) := by decide +kernel
theorem d_Z_consider_42 : decode prog_8_method_28_code 42 = .ok (.putfield (296), 3) := by decide +kernel
theorem d_Z_consider_45 : decode prog_8_method_28_code 45 = .ok (.return_, 1) := by decide +kernel
theorem fd_Z_293 : ax_fd "CipherNotationModel" 293 6 53 := ⟨nC6, nT6, 73, nY6, rfl, nW6, by decide, nw_4 190 (by decide +kernel) rfl, nO6, nA6⟩
theorem fp_Z_293 : ax_fp "CipherNotationModel" 293 6 53 (.int) := ⟨nC6, nT6, 73, nY6, rfl, nW6, by decide, nw_4 190 (by decide +kernel) rfl, nO6, nA6, by decide +kernel, by decide +kernel⟩
theorem fp_Z_296 : ax_fp "CipherNotationModel" 296 6 54 (.int) := ⟨nC6, nT6, 73, nY6, rfl, nW6, by decide, nw_4 191 (by decide +kernel) rfl, nO6, nA6, by decide +kernel, by decide +kernel⟩
theorem fd_Z_296 : ax_fd "CipherNotationModel" 296 6 54 := ⟨nC6, nT6, 73, nY6, rfl, nW6, by decide, nw_4 191 (by decide +kernel) rfl, nO6, nA6⟩
def f_Z_consider (a1 : Int32) (a2 : Int32) (a3 : Int32) (s : ax_σ) : Option (ax_σ) :=
  if a1 = (0 : Int32) then
    some (s)
  else
    Option.bind (
      if (s.1 0 38 53) = (0 : Int32) then
        some true
      else
        if a3 < (s.1 0 38 54) then
          some true
        else
          some false) (fun w10 => bif w10 then
      ax_let (ax_wI s 0 38 53 a2) (fun s3 =>
        ax_let (ax_wI s3 0 38 54 a3) (fun s4 =>
          some (s4)))
    else
      Option.bind (
        if a3 = (s.1 0 38 54) then
          if (s.1 0 38 53) ≤ a2 then
            some true
          else
            some false
        else
          some true) (fun w9 => bif w9 then
        some (s)
      else
        ax_let (ax_wI s 0 38 53 a2) (fun s7 =>
          ax_let (ax_wI s7 0 38 54 a3) (fun s8 =>
            some (s8)))))
set_option maxHeartbeats 4000000 in
set_option maxRecDepth 100000 in
theorem t_Z_consider {l : Launch} {D : va_G} {cA : Nat → ClassId} {ad : Nat → Nat → Nat} {al : List (Nat × Nat)} {θ : ax_Θ} {ρ : ax_ρ} (h0 : ax_M0 al) {a1 : Int32} {a2 : Int32} {a3 : Int32} {s : ax_σ} {s0 : ax_σ} (h : f_Z_consider a1 a2 a3 s = some s0) : ax_T l D cA ad al θ y_Z_consider (.code y_Z_consider prog_8_method_28_code 4 none) 0 [.inr (0, 38), .inl (.int (a1)), .inl (.int (a2)), .inl (.int (a3))] (ax_m s ρ) none (ax_m s0 ρ) := by
  refine ax_T_of (own := "CipherNotationModel") (by decide) rfl (Nat.le_of_ble_eq_true rfl) [(0, .inr (0, 38)), (1, .inl (.int (a1))), (2, .inl (.int (a2))), (3, .inl (.int (a3)))] rfl ?_
  intro G hA
  have hB := hA.B
  have hK := hB.K
  have hal := hB.la
  unfold f_Z_consider at h
  refine ax_bk hK (ax_fc (ax_v_ld (ax_r_iload_n (i := 1) d_Z_consider_0 rfl)) ax_fn) (y := (1, [(0, .inr (0, 38)), (1, .inl (.int (a1))), (2, .inl (.int (a2))), (3, .inl (.int (a3)))], [.inl (.int (a1))], ax_m (s) ρ)) rfl ⟨trivial, trivial⟩ ?_
  refine ax_if_eq (tgt := 45) hK d_Z_consider_1 (by decide) (fun c11 => ?_) (fun c11 => ?_)
  · replace h := ax_it c11 h
    cases h
    exact ax_vret hA d_Z_consider_45
  · replace h := ax_if c11 h
    refine ax_bk hK (ax_fc (ax_v_ld (ax_r_aload_n (i := 0) d_Z_consider_4 rfl)) (ax_fc (ax_w_gf (e := none) hal d_Z_consider_5 fd_Z_293) ax_fn)) (y := (8, [(0, .inr (0, 38)), (1, .inl (.int (a1))), (2, .inl (.int (a2))), (3, .inl (.int (a3)))], [.inl (.int ((s.1 0 38 53)))], ax_m (s) ρ)) rfl ⟨trivial, (h0 38 rfl), trivial⟩ ?_
    obtain ⟨w10, hw10, h⟩ := ax_bd h
    have KTw10 : w10 = true → ax_R G 4 0 0 (35, [(0, .inr (0, 38)), (2, .inl (.int (a2))), (3, .inl (.int (a3)))], [], ax_m (s) ρ) := by
      intro e9
      subst w10
      replace h := ax_ct h
      refine ax_bk hK (ax_fc (ax_v_ld (ax_r_aload_n (i := 0) d_Z_consider_35 rfl)) (ax_fc (ax_v_ld (ax_r_iload_n (i := 2) d_Z_consider_36 rfl)) (ax_fc (ax_w_pf (tc := 0) hal d_Z_consider_37 fp_Z_293 rfl) ax_fn))) (y := (40, [(0, .inr (0, 38)), (2, .inl (.int (a2))), (3, .inl (.int (a3)))], [], ax_m (ax_wI s 0 38 53 a2) ρ)) rfl ⟨trivial, trivial, (h0 38 rfl), trivial⟩ ?_
      refine ax_lt (Q := fun ςς => ax_R G 4 0 0 (40, [(0, .inr (0, 38)), (2, .inl (.int (a2))), (3, .inl (.int (a3)))], [], ax_m (ςς) ρ)) h (fun s3 h => ?_)
      refine ax_bk hK (ax_fc (ax_v_ld (ax_r_aload_n (i := 0) d_Z_consider_40 rfl)) (ax_fc (ax_v_ld (ax_r_iload_n (i := 3) d_Z_consider_41 rfl)) (ax_fc (ax_w_pf (tc := 0) hal d_Z_consider_42 fp_Z_296 rfl) ax_fn))) (y := (45, [(0, .inr (0, 38)), (2, .inl (.int (a2))), (3, .inl (.int (a3)))], [], ax_m (ax_wI s3 0 38 54 a3) ρ)) rfl ⟨trivial, trivial, (h0 38 rfl), trivial⟩ ?_
      refine ax_lt (Q := fun ςς => ax_R G 4 0 0 (45, [(0, .inr (0, 38)), (2, .inl (.int (a2))), (3, .inl (.int (a3)))], [], ax_m (ςς) ρ)) h (fun s4 h => ?_)
      cases h
      exact ax_vret hA d_Z_consider_45
    have KFw10 : w10 = false → ax_R G 4 0 0 (19, [(0, .inr (0, 38)), (2, .inl (.int (a2))), (3, .inl (.int (a3)))], [], ax_m (s) ρ) := by
      intro e9
      subst w10
      replace h := ax_cf h
      refine ax_bk hK (ax_fc (ax_v_ld (ax_r_iload_n (i := 3) d_Z_consider_19 rfl)) (ax_fc (ax_v_ld (ax_r_aload_n (i := 0) d_Z_consider_20 rfl)) (ax_fc (ax_w_gf (e := none) hal d_Z_consider_21 fd_Z_296) ax_fn))) (y := (24, [(0, .inr (0, 38)), (2, .inl (.int (a2))), (3, .inl (.int (a3)))], [.inl (.int ((s.1 0 38 54))), .inl (.int (a3))], ax_m (s) ρ)) rfl ⟨trivial, trivial, (h0 38 rfl), trivial⟩ ?_
      obtain ⟨w9, hw9, h⟩ := ax_bd h
      have KTw9 : w9 = true → ax_R G 4 0 0 (45, [], [], ax_m (s) ρ) := by
        intro e9
        subst w9
        replace h := ax_ct h
        cases h
        exact ax_vret hA d_Z_consider_45
      have KFw9 : w9 = false → ax_R G 4 0 0 (35, [(0, .inr (0, 38)), (2, .inl (.int (a2))), (3, .inl (.int (a3)))], [], ax_m (s) ρ) := by
        intro e9
        subst w9
        replace h := ax_cf h
        refine ax_bk hK (ax_fc (ax_v_ld (ax_r_aload_n (i := 0) d_Z_consider_35 rfl)) (ax_fc (ax_v_ld (ax_r_iload_n (i := 2) d_Z_consider_36 rfl)) (ax_fc (ax_w_pf (tc := 0) hal d_Z_consider_37 fp_Z_293 rfl) ax_fn))) (y := (40, [(0, .inr (0, 38)), (2, .inl (.int (a2))), (3, .inl (.int (a3)))], [], ax_m (ax_wI s 0 38 53 a2) ρ)) rfl ⟨trivial, trivial, (h0 38 rfl), trivial⟩ ?_
        refine ax_lt (Q := fun ςς => ax_R G 4 0 0 (40, [(0, .inr (0, 38)), (2, .inl (.int (a2))), (3, .inl (.int (a3)))], [], ax_m (ςς) ρ)) h (fun s7 h => ?_)
        refine ax_bk hK (ax_fc (ax_v_ld (ax_r_aload_n (i := 0) d_Z_consider_40 rfl)) (ax_fc (ax_v_ld (ax_r_iload_n (i := 3) d_Z_consider_41 rfl)) (ax_fc (ax_w_pf (tc := 0) hal d_Z_consider_42 fp_Z_296 rfl) ax_fn))) (y := (45, [(0, .inr (0, 38)), (2, .inl (.int (a2))), (3, .inl (.int (a3)))], [], ax_m (ax_wI s7 0 38 54 a3) ρ)) rfl ⟨trivial, trivial, (h0 38 rfl), trivial⟩ ?_
        refine ax_lt (Q := fun ςς => ax_R G 4 0 0 (45, [(0, .inr (0, 38)), (2, .inl (.int (a2))), (3, .inl (.int (a3)))], [], ax_m (ςς) ρ)) h (fun s8 h => ?_)
        cases h
        exact ax_vret hA d_Z_consider_45
      clear h
      have h := hw9
      refine ax_ic_ne (tgt := 45) hK d_Z_consider_24 (by decide) (fun c6 => ?_) (fun c6 => ?_)
      · replace h := ax_if c6 h
        cases h
        exact ax_Lsub [] rfl (KTw9 rfl)
      · replace h := ax_it c6 h
        refine ax_bk hK (ax_fc (ax_v_ld (ax_r_iload_n (i := 2) d_Z_consider_27 rfl)) (ax_fc (ax_v_ld (ax_r_aload_n (i := 0) d_Z_consider_28 rfl)) (ax_fc (ax_w_gf (e := none) hal d_Z_consider_29 fd_Z_293) ax_fn))) (y := (32, [(0, .inr (0, 38)), (2, .inl (.int (a2))), (3, .inl (.int (a3)))], [.inl (.int ((s.1 0 38 53))), .inl (.int (a2))], ax_m (s) ρ)) rfl ⟨trivial, trivial, (h0 38 rfl), trivial⟩ ?_
        refine ax_ic_ge (tgt := 45) hK d_Z_consider_32 (by decide) (fun c5 => ?_) (fun c5 => ?_)
        · replace h := ax_it c5 h
          cases h
          exact ax_Lsub [] rfl (KTw9 rfl)
        · replace h := ax_if c5 h
          cases h
          exact ax_Lsub [0, 1, 2] rfl (KFw9 rfl)
    clear h
    have h := hw10
    refine ax_if_eq (tgt := 35) hK d_Z_consider_8 (by decide) (fun c2 => ?_) (fun c2 => ?_)
    · replace h := ax_it c2 h
      cases h
      exact ax_Lsub [0, 2, 3] rfl (KTw10 rfl)
    · replace h := ax_if c2 h
      refine ax_bk hK (ax_fc (ax_v_ld (ax_r_iload_n (i := 3) d_Z_consider_11 rfl)) (ax_fc (ax_v_ld (ax_r_aload_n (i := 0) d_Z_consider_12 rfl)) (ax_fc (ax_w_gf (e := none) hal d_Z_consider_13 fd_Z_296) ax_fn))) (y := (16, [(0, .inr (0, 38)), (1, .inl (.int (a1))), (2, .inl (.int (a2))), (3, .inl (.int (a3)))], [.inl (.int ((s.1 0 38 54))), .inl (.int (a3))], ax_m (s) ρ)) rfl ⟨trivial, trivial, (h0 38 rfl), trivial⟩ ?_
      refine ax_ic_lt (tgt := 35) hK d_Z_consider_16 (by decide) (fun c1 => ?_) (fun c1 => ?_)
      · replace h := ax_it c1 h
        cases h
        exact ax_Lsub [0, 2, 3] rfl (KTw10 rfl)
      · replace h := ax_if c1 h
        cases h
        exact ax_Lsub [0, 2, 3] rfl (KFw10 rfl)
def y_Z_isWide : MethodName := ⟨"CipherNotationModel", "isWide", "(J)Z"⟩
theorem d_Z_isWide_0 : decode prog_8_method_30_code 0 = .ok (.aload_n 0, 1) := by decide +kernel
theorem d_Z_isWide_1 : decode prog_8_method_30_code 1 = .ok (.getfield (20), 3) := by decide +kernel
theorem d_Z_isWide_4 : decode prog_8_method_30_code 4 = .ok (.iconst 0, 1) := by decide +kernel
theorem d_Z_isWide_5 : decode prog_8_method_30_code 5 = .ok (.laload, 1) := by decide +kernel
theorem d_Z_isWide_6 : decode prog_8_method_30_code 6 = .ok (.ldc2_w (299), 3) := by decide +kernel
theorem d_Z_isWide_9 : decode prog_8_method_30_code 9 = .ok (.lcmp, 1) := by decide +kernel
theorem d_Z_isWide_10 : decode prog_8_method_30_code 10 = .ok (.ifCond .ge (21), 3) := by decide +kernel
theorem d_Z_isWide_13 : decode prog_8_method_30_code 13 = .ok (.lload_n 1, 1) := by decide +kernel
theorem d_Z_isWide_14 : decode prog_8_method_30_code 14 = .ok (.aload_n 0, 1) := by decide +kernel
theorem d_Z_isWide_15 : decode prog_8_method_30_code 15 = .ok (.getfield (20), 3) := by decide +kernel
theorem d_Z_isWide_18 : decode prog_8_method_30_code 18 = .ok (.iconst 0, 1) := by decide +kernel
theorem d_Z_isWide_19 : decode prog_8_method_30_code 19 = .ok (.laload, 1) := by decide +kernel
theorem d_Z_isWide_20 : decode prog_8_method_30_code 20 = .ok (.l2i, 1) := by decide +kernel
theorem d_Z_isWide_21 : decode prog_8_method_30_code 21 = .ok (.lshr, 1) := by decide +kernel
theorem d_Z_isWide_22 : decode prog_8_method_30_code 22 = .ok (.lconst 0, 1) := by decide +kernel
theorem d_Z_isWide_23 : decode prog_8_method_30_code 23 = .ok (.lcmp, 1) := by decide +kernel
theorem d_Z_isWide_24 : decode prog_8_method_30_code 24 = .ok (.ifCond .le (7), 3) := by decide +kernel
theorem d_Z_isWide_27 : decode prog_8_method_30_code 27 = .ok (.iconst 1, 1) := by decide +kernel
theorem d_Z_isWide_28 : decode prog_8_method_30_code 28 = .ok (.goto (4), 3) := by decide +kernel
theorem d_Z_isWide_31 : decode prog_8_method_30_code 31 = .ok (.iconst 0, 1) := by decide +kernel
theorem d_Z_isWide_32 : decode prog_8_method_30_code 32 = .ok (.ireturn, 1) := by decide +kernel
def f_Z_isWide (a1 : Int64) (s : ax_σ) : Option (Int32) :=
  bif ax_in (0 : Int32) 3 then
  Option.bind (
    if (0 : Int32) ≤ (lg_cmp (s.2 0 41 ((0 : Int32)).toNatClampNeg) (63 : Int64)) then
      some true
    else
      bif ax_in (0 : Int32) 3 then
      if (lg_cmp (a1 >>> ((((s.2 0 41 ((0 : Int32)).toNatClampNeg)).toInt32).toInt64 &&& 63)) (0 : Int64)) ≤ (0 : Int32) then
        some true
      else
        some false
      else none) (fun w5 => bif w5 then
    some ((0 : Int32))
  else
    some ((1 : Int32)))
  else none
set_option maxHeartbeats 4000000 in
set_option maxRecDepth 100000 in
theorem t_Z_isWide {l : Launch} {D : va_G} {cA : Nat → ClassId} {ad : Nat → Nat → Nat} {al : List (Nat × Nat)} {θ : ax_Θ} {ρ : ax_ρ} (h0 : ax_M0 al) {a1 : Int64} {s : ax_σ} {r0 : Int32} (h : f_Z_isWide a1 s = some r0) : ax_T l D cA ad al θ y_Z_isWide (.code y_Z_isWide prog_8_method_30_code 3 (some .boolean)) 0 [.inr (0, 38), .inl (.long (a1))] (ax_m s ρ) (some (.inl (.int r0))) (ax_m s ρ) := by
  refine ax_T_of (own := "CipherNotationModel") (by decide) rfl (Nat.le_of_ble_eq_true rfl) [(0, .inr (0, 38)), (1, .inl (.long (a1)))] rfl ?_
  intro G hA
  have hB := hA.B
  have hK := hB.K
  have hal := hB.la
  unfold f_Z_isWide at h
  obtain ⟨b1, h⟩ := ax_gd h
  refine ax_bk hK (ax_fc (ax_v_ld (ax_r_aload_n (i := 0) d_Z_isWide_0 rfl)) (ax_fc (ax_w_gf (e := none) hal d_Z_isWide_1 fd_Z_20) (ax_fc (ax_v_pu (ax_r_iconst (v := 0) d_Z_isWide_4 (by decide))) (ax_fc (ax_w_lald hal d_Z_isWide_5) (ax_fc (ax_v_ldc2 (v := 63) d_Z_isWide_6 (nw_6 17 (by decide +kernel) rfl)) (ax_fc (ax_v_pu (ax_r_lcmp d_Z_isWide_9)) ax_fn)))))) (y := (10, [(0, .inr (0, 38)), (1, .inl (.long (a1)))], [.inl (.int ((lg_cmp (s.2 0 41 ((0 : Int32)).toNatClampNeg) (63 : Int64))))], ax_m (s) ρ)) rfl ⟨trivial, (h0 38 rfl), trivial, ⟨(h0 41 rfl), ax_inp b1⟩, trivial, trivial, trivial⟩ ?_
  obtain ⟨w5, hw5, h⟩ := ax_bd h
  have KTw5 : w5 = true → ax_R G 3 0 0 (31, [], [], ax_m (s) ρ) := by
    intro e9
    subst w5
    replace h := ax_ct h
    refine ax_bk hK (ax_fc (ax_v_pu (ax_r_iconst (v := 0) d_Z_isWide_31 (by decide))) ax_fn) (y := (32, [], [.inl (.int ((0 : Int32)))], ax_m (s) ρ)) rfl ⟨trivial, trivial⟩ ?_
    cases h
    exact ax_zret hA (by decide) d_Z_isWide_32
  have KFw5 : w5 = false → ax_R G 3 0 0 (27, [], [], ax_m (s) ρ) := by
    intro e9
    subst w5
    replace h := ax_cf h
    refine ax_bk hK (ax_fc (ax_v_pu (ax_r_iconst (v := 1) d_Z_isWide_27 (by decide))) (ax_fc (ax_v_go (tgt := 32) d_Z_isWide_28 (by decide)) ax_fn)) (y := (32, [], [.inl (.int ((1 : Int32)))], ax_m (s) ρ)) rfl ⟨trivial, trivial, trivial⟩ ?_
    cases h
    exact ax_zret hA (by decide) d_Z_isWide_32
  clear h
  have h := hw5
  refine ax_if_ge (tgt := 31) hK d_Z_isWide_10 (by decide) (fun c4 => ?_) (fun c4 => ?_)
  · replace h := ax_it c4 h
    cases h
    exact ax_Lsub [] rfl (KTw5 rfl)
  · replace h := ax_if c4 h
    obtain ⟨b2, h⟩ := ax_gd h
    refine ax_bk hK (ax_fc (ax_v_ld (ax_r_lload_n (i := 1) d_Z_isWide_13 rfl)) (ax_fc (ax_v_ld (ax_r_aload_n (i := 0) d_Z_isWide_14 rfl)) (ax_fc (ax_w_gf (e := none) hal d_Z_isWide_15 fd_Z_20) (ax_fc (ax_v_pu (ax_r_iconst (v := 0) d_Z_isWide_18 (by decide))) (ax_fc (ax_w_lald hal d_Z_isWide_19) (ax_fc (ax_v_pu (ax_r_l2i d_Z_isWide_20)) (ax_fc (ax_v_pu (ax_r_lshr d_Z_isWide_21)) (ax_fc (ax_v_pu (ax_r_lconst (v := 0) d_Z_isWide_22 (by decide))) (ax_fc (ax_v_pu (ax_r_lcmp d_Z_isWide_23)) ax_fn))))))))) (y := (24, [(0, .inr (0, 38)), (1, .inl (.long (a1)))], [.inl (.int ((lg_cmp (a1 >>> ((((s.2 0 41 ((0 : Int32)).toNatClampNeg)).toInt32).toInt64 &&& 63)) (0 : Int64))))], ax_m (s) ρ)) rfl ⟨trivial, trivial, (h0 38 rfl), trivial, ⟨(h0 41 rfl), ax_inp b2⟩, trivial, trivial, trivial, trivial, trivial⟩ ?_
    refine ax_if_le (tgt := 31) hK d_Z_isWide_24 (by decide) (fun c3 => ?_) (fun c3 => ?_)
    · replace h := ax_it c3 h
      cases h
      exact ax_Lsub [] rfl (KTw5 rfl)
    · replace h := ax_if c3 h
      cases h
      exact ax_Lsub [] rfl (KFw5 rfl)
