def y_Preconditions_checkIndex : MethodName := ⟨"jdk/internal/util/Preconditions", "checkIndex", "(IILjava/util/function/BiFunction;)I"⟩
theorem d_Preconditions_checkIndex_0 : decode prog_20_method_11_code 0 = .ok (.iload_n 0, 1) := by decide +kernel
theorem d_Preconditions_checkIndex_1 : decode prog_20_method_11_code 1 = .ok (.ifCond .lt (8), 3) := by decide +kernel
theorem d_Preconditions_checkIndex_4 : decode prog_20_method_11_code 4 = .ok (.iload_n 0, 1) := by decide +kernel
theorem d_Preconditions_checkIndex_5 : decode prog_20_method_11_code 5 = .ok (.iload_n 1, 1) := by decide +kernel
theorem d_Preconditions_checkIndex_6 : decode prog_20_method_11_code 6 = .ok (.if_icmp .lt (10), 3) := by decide +kernel
theorem d_Preconditions_checkIndex_9 : decode prog_20_method_11_code 9 = .ok (.aload_n 2, 1) := by decide +kernel
theorem d_Preconditions_checkIndex_10 : decode prog_20_method_11_code 10 = .ok (.iload_n 0, 1) := by decide +kernel
theorem d_Preconditions_checkIndex_11 : decode prog_20_method_11_code 11 = .ok (.iload_n 1, 1) := by decide +kernel
theorem d_Preconditions_checkIndex_12 : decode prog_20_method_11_code 12 = .ok (.invokestatic (95), 3) := by decide +kernel
theorem d_Preconditions_checkIndex_15 : decode prog_20_method_11_code 15 = .ok (.athrow, 1) := by decide +kernel
theorem d_Preconditions_checkIndex_16 : decode prog_20_method_11_code 16 = .ok (.iload_n 0, 1) := by decide +kernel
theorem d_Preconditions_checkIndex_17 : decode prog_20_method_11_code 17 = .ok (.ireturn, 1) := by decide +kernel
def f_Preconditions_checkIndex_n (a1 : Int32) (a2 : Int32) : Option (Int32) :=
  Option.bind (
    if a1 < (0 : Int32) then
      some true
    else
      if a1 < a2 then
        some false
      else
        some true) (fun w3 => bif w3 then
    none
  else
    some (a1))
set_option maxHeartbeats 4000000 in
set_option maxRecDepth 100000 in
theorem t_Preconditions_checkIndex_n {l : Launch} {D : va_G} {cA : Nat → ClassId} {ad : Nat → Nat → Nat} {al : List (Nat × Nat)} {θ : ax_Θ} {ρ : ax_ρ}  {a1 : Int32} {a2 : Int32} {s : ax_σ} {r0 : Int32} (h : f_Preconditions_checkIndex_n a1 a2 = some r0) : ax_T l D cA ad al θ y_Preconditions_checkIndex (.code y_Preconditions_checkIndex prog_20_method_11_code 3 (some .int)) 0 [.inl (.int (a1)), .inl (.int (a2)), .inl .null] (ax_m s ρ) (some (.inl (.int r0))) (ax_m s ρ) := by
  refine ax_T_ofF (own := "jdk/internal/util/Preconditions") (by decide +kernel) rfl (Nat.le_of_ble_eq_true rfl) [(0, .inl (.int (a1))), (1, .inl (.int (a2))), (2, .inl .null)] rfl ?_
  intro G hA
  have hB := hA.B
  have hK := hB.K
  have hal := hB.la
  unfold f_Preconditions_checkIndex_n at h
  refine ax_bk hK (ax_fc (ax_v_ld (ax_r_iload_n (i := 0) d_Preconditions_checkIndex_0 rfl)) ax_fn) (y := (1, [(0, .inl (.int (a1))), (1, .inl (.int (a2))), (2, .inl .null)], [.inl (.int (a1))], ax_m (s) ρ)) rfl ⟨trivial, trivial⟩ ?_
  obtain ⟨w3, hw3, h⟩ := ax_bd h
  have KTw3 : w3 = true → ax_R G 3 0 0 (9, [(0, .inl (.int (a1))), (1, .inl (.int (a2))), (2, .inl .null)], [], ax_m (s) ρ) := by
    intro e9
    subst w3
    replace h := ax_ct h
    refine ax_bk hK (ax_fc (ax_v_ld (ax_r_aload_n (i := 2) d_Preconditions_checkIndex_9 rfl)) (ax_fc (ax_v_ld (ax_r_iload_n (i := 0) d_Preconditions_checkIndex_10 rfl)) (ax_fc (ax_v_ld (ax_r_iload_n (i := 1) d_Preconditions_checkIndex_11 rfl)) ax_fn))) (y := (12, [(0, .inl (.int (a1))), (1, .inl (.int (a2))), (2, .inl .null)], [.inl (.int (a2)), .inl (.int (a1)), .inl .null], ax_m (s) ρ)) rfl ⟨trivial, trivial, trivial, trivial⟩ ?_
    cases h
  have KFw3 : w3 = false → ax_R G 3 0 0 (16, [(0, .inl (.int (a1)))], [], ax_m (s) ρ) := by
    intro e9
    subst w3
    replace h := ax_cf h
    refine ax_bk hK (ax_fc (ax_v_ld (ax_r_iload_n (i := 0) d_Preconditions_checkIndex_16 rfl)) ax_fn) (y := (17, [(0, .inl (.int (a1)))], [.inl (.int (a1))], ax_m (s) ρ)) rfl ⟨trivial, trivial⟩ ?_
    cases h
    exact ax_iret hA d_Preconditions_checkIndex_17
  clear h
  have h := hw3
  refine ax_if_lt (tgt := 9) hK d_Preconditions_checkIndex_1 (by decide) (fun c2 => ?_) (fun c2 => ?_)
  · replace h := ax_it c2 h
    cases h
    exact ax_Lsub [0, 1, 2] rfl (KTw3 rfl)
  · replace h := ax_if c2 h
    refine ax_bk hK (ax_fc (ax_v_ld (ax_r_iload_n (i := 0) d_Preconditions_checkIndex_4 rfl)) (ax_fc (ax_v_ld (ax_r_iload_n (i := 1) d_Preconditions_checkIndex_5 rfl)) ax_fn)) (y := (6, [(0, .inl (.int (a1))), (1, .inl (.int (a2))), (2, .inl .null)], [.inl (.int (a2)), .inl (.int (a1))], ax_m (s) ρ)) rfl ⟨trivial, trivial, trivial⟩ ?_
    refine ax_ic_lt (tgt := 16) hK d_Preconditions_checkIndex_6 (by decide) (fun c1 => ?_) (fun c1 => ?_)
    · replace h := ax_it c1 h
      cases h
      exact ax_Lsub [0] rfl (KFw3 rfl)
    · replace h := ax_if c1 h
      cases h
      exact ax_Lsub [0, 1, 2] rfl (KTw3 rfl)
def f_Preconditions_checkIndex_a (a1 : Int32) (a2 : Int32) (qa : Nat) : Option (Int32) :=
  Option.bind (
    if a1 < (0 : Int32) then
      some true
    else
      if a1 < a2 then
        some false
      else
        some true) (fun w3 => bif w3 then
    none
  else
    some (a1))
set_option maxHeartbeats 4000000 in
set_option maxRecDepth 100000 in
theorem t_Preconditions_checkIndex_a {l : Launch} {D : va_G} {cA : Nat → ClassId} {ad : Nat → Nat → Nat} {al : List (Nat × Nat)} {θ : ax_Θ} {ρ : ax_ρ}  {a1 : Int32} {a2 : Int32} {qa : Nat} {s : ax_σ} {r0 : Int32} (h : f_Preconditions_checkIndex_a a1 a2 qa = some r0) : ax_T l D cA ad al θ y_Preconditions_checkIndex (.code y_Preconditions_checkIndex prog_20_method_11_code 3 (some .int)) 0 [.inl (.int (a1)), .inl (.int (a2)), .inl (.ref qa)] (ax_m s ρ) (some (.inl (.int r0))) (ax_m s ρ) := by
  refine ax_T_ofF (own := "jdk/internal/util/Preconditions") (by decide +kernel) rfl (Nat.le_of_ble_eq_true rfl) [(0, .inl (.int (a1))), (1, .inl (.int (a2))), (2, .inl (.ref qa))] rfl ?_
  intro G hA
  have hB := hA.B
  have hK := hB.K
  have hal := hB.la
  unfold f_Preconditions_checkIndex_a at h
  refine ax_bk hK (ax_fc (ax_v_ld (ax_r_iload_n (i := 0) d_Preconditions_checkIndex_0 rfl)) ax_fn) (y := (1, [(0, .inl (.int (a1))), (1, .inl (.int (a2))), (2, .inl (.ref qa))], [.inl (.int (a1))], ax_m (s) ρ)) rfl ⟨trivial, trivial⟩ ?_
  obtain ⟨w3, hw3, h⟩ := ax_bd h
  have KTw3 : w3 = true → ax_R G 3 0 0 (9, [(0, .inl (.int (a1))), (1, .inl (.int (a2))), (2, .inl (.ref qa))], [], ax_m (s) ρ) := by
    intro e9
    subst w3
    replace h := ax_ct h
    refine ax_bk hK (ax_fc (ax_v_ld (ax_r_aload_n (i := 2) d_Preconditions_checkIndex_9 rfl)) (ax_fc (ax_v_ld (ax_r_iload_n (i := 0) d_Preconditions_checkIndex_10 rfl)) (ax_fc (ax_v_ld (ax_r_iload_n (i := 1) d_Preconditions_checkIndex_11 rfl)) ax_fn))) (y := (12, [(0, .inl (.int (a1))), (1, .inl (.int (a2))), (2, .inl (.ref qa))], [.inl (.int (a2)), .inl (.int (a1)), .inl (.ref qa)], ax_m (s) ρ)) rfl ⟨trivial, trivial, trivial, trivial⟩ ?_
    cases h
  have KFw3 : w3 = false → ax_R G 3 0 0 (16, [(0, .inl (.int (a1)))], [], ax_m (s) ρ) := by
    intro e9
    subst w3
    replace h := ax_cf h
    refine ax_bk hK (ax_fc (ax_v_ld (ax_r_iload_n (i := 0) d_Preconditions_checkIndex_16 rfl)) ax_fn) (y := (17, [(0, .inl (.int (a1)))], [.inl (.int (a1))], ax_m (s) ρ)) rfl ⟨trivial, trivial⟩ ?_
    cases h
    exact ax_iret hA d_Preconditions_checkIndex_17
  clear h
  have h := hw3
  refine ax_if_lt (tgt := 9) hK d_Preconditions_checkIndex_1 (by decide) (fun c2 => ?_) (fun c2 => ?_)
  · replace h := ax_it c2 h
    cases h
    exact ax_Lsub [0, 1, 2] rfl (KTw3 rfl)
  · replace h := ax_if c2 h
    refine ax_bk hK (ax_fc (ax_v_ld (ax_r_iload_n (i := 0) d_Preconditions_checkIndex_4 rfl)) (ax_fc (ax_v_ld (ax_r_iload_n (i := 1) d_Preconditions_checkIndex_5 rfl)) ax_fn)) (y := (6, [(0, .inl (.int (a1))), (1, .inl (.int (a2))), (2, .inl (.ref qa))], [.inl (.int (a2)), .inl (.int (a1))], ax_m (s) ρ)) rfl ⟨trivial, trivial, trivial⟩ ?_
    refine ax_ic_lt (tgt := 16) hK d_Preconditions_checkIndex_6 (by decide) (fun c1 => ?_) (fun c1 => ?_)
    · replace h := ax_it c1 h
      cases h
      exact ax_Lsub [0] rfl (KFw3 rfl)
    · replace h := ax_if c1 h
      cases h
      exact ax_Lsub [0, 1, 2] rfl (KTw3 rfl)
def y_String_checkIndex : MethodName := ⟨"java/lang/String", "checkIndex", "(II)V"⟩
theorem d_String_checkIndex_0 : decode prog_16_method_155_code 0 = .ok (.iload_n 0, 1) := by decide +kernel
theorem d_String_checkIndex_1 : decode prog_16_method_155_code 1 = .ok (.iload_n 1, 1) := by decide +kernel
theorem d_String_checkIndex_2 : decode prog_16_method_155_code 2 = .ok (.getstatic (1053), 3) := by decide +kernel
theorem d_String_checkIndex_5 : decode prog_16_method_155_code 5 = .ok (.invokestatic (1059), 3) := by decide +kernel
theorem d_String_checkIndex_8 : decode prog_16_method_155_code 8 = .ok (.pop, 1) := by decide +kernel
theorem d_String_checkIndex_9 : decode prog_16_method_155_code 9 = .ok (.return_, 1) := by decide +kernel
set_option maxRecDepth 100000 in
theorem cw_String_1059 : ax_cw "java/lang/String" 1059 y_Preconditions_checkIndex (.code y_Preconditions_checkIndex prog_20_method_11_code 3 (some .int)) 3 := ⟨nw_3 119 (by decide +kernel) rfl, nw_1 12 (by decide +kernel) rfl, nw_3 121 rfl rfl, by decide +kernel, by decide +kernel⟩
theorem sm_Preconditions_checkIndex : Cond.static y_Preconditions_checkIndex ∈ ax_tbl := nw_3 120 (by decide +kernel) rfl
def f_String_checkIndex (a1 : Int32) (a2 : Int32) : Option Unit := Option.bind (f_Preconditions_checkIndex_n a1 a2) (fun _ => some ())
set_option maxHeartbeats 4000000 in
set_option maxRecDepth 100000 in
theorem t_String_checkIndex {l : Launch} {D : va_G} {cA : Nat → ClassId} {ad : Nat → Nat → Nat} {al : List (Nat × Nat)} {θ : ax_Θ} {ρ : ax_ρ} {a1 : Int32} {a2 : Int32} {s : ax_σ} {r0 : Unit} (h : f_String_checkIndex a1 a2 = some r0) : ax_T l D cA ad al θ y_String_checkIndex (.code y_String_checkIndex prog_16_method_155_code 2 none) 1 [.inl (.int a1), .inl (.int a2)] (ax_m s ρ) none (ax_m s ρ) := by
  refine ax_T_ofF (own := "java/lang/String") (by decide +kernel) rfl (Nat.le_of_ble_eq_true rfl) [(0, .inl (.int a1)), (1, .inl (.int a2))] rfl ?_
  intro G hA
  have hB := hA.B
  have hK := hB.K
  unfold f_String_checkIndex at h
  refine ax_bk hK (ax_fc (ax_v_ld (ax_r_iload_n (i := 0) d_String_checkIndex_0 rfl)) (ax_fc (ax_v_ld (ax_r_iload_n (i := 1) d_String_checkIndex_1 rfl)) ax_fn)) (y := (2, [(0, .inl (.int a1)), (1, .inl (.int a2))], [.inl (.int a2), .inl (.int a1)], ax_m s ρ)) rfl ⟨trivial, trivial, trivial⟩ ?_
  obtain ⟨r1, q1, h⟩ := ax_bd h
  refine ax_gq hK d_String_checkIndex_2 (nw_2 161 (by decide +kernel) rfl) ?_ (fun t => ?_)
  · refine ax_bS (rest := []) hB (t_Preconditions_checkIndex_n q1) cw_String_1059 sm_Preconditions_checkIndex d_String_checkIndex_5 (by decide) (by decide) rfl rfl (Nat.le_of_ble_eq_true rfl) ?_
    refine ax_bk hK (ax_fc (ax_v_pu (ax_r_pop d_String_checkIndex_8)) ax_fn) (y := (9, [(0, .inl (.int a1)), (1, .inl (.int a2))], [], ax_m s ρ)) rfl ⟨trivial, trivial⟩ ?_
    exact ax_vret hA d_String_checkIndex_9
  · refine ax_bS (rest := []) hB (t_Preconditions_checkIndex_a (qa := t) (show f_Preconditions_checkIndex_a a1 a2 t = some r1 from q1)) cw_String_1059 sm_Preconditions_checkIndex d_String_checkIndex_5 (by decide) (by decide) rfl rfl (Nat.le_of_ble_eq_true rfl) ?_
    refine ax_bk hK (ax_fc (ax_v_pu (ax_r_pop d_String_checkIndex_8)) ax_fn) (y := (9, [(0, .inl (.int a1)), (1, .inl (.int a2))], [], ax_m s ρ)) rfl ⟨trivial, trivial⟩ ?_
    exact ax_vret hA d_String_checkIndex_9
def y_StringLatin1_charAt : MethodName := ⟨"java/lang/StringLatin1", "charAt", "([BI)C"⟩
theorem d_StringLatin1_charAt_0 : decode prog_17_method_2_code 0 = .ok (.iload_n 1, 1) := by decide +kernel
theorem d_StringLatin1_charAt_1 : decode prog_17_method_2_code 1 = .ok (.aload_n 0, 1) := by decide +kernel
theorem d_StringLatin1_charAt_2 : decode prog_17_method_2_code 2 = .ok (.arraylength, 1) := by decide +kernel
theorem d_StringLatin1_charAt_3 : decode prog_17_method_2_code 3 = .ok (.invokestatic (9), 3) := by decide +kernel
theorem d_StringLatin1_charAt_6 : decode prog_17_method_2_code 6 = .ok (.aload_n 0, 1) := by decide +kernel
theorem d_StringLatin1_charAt_7 : decode prog_17_method_2_code 7 = .ok (.iload_n 1, 1) := by decide +kernel
theorem d_StringLatin1_charAt_8 : decode prog_17_method_2_code 8 = .ok (.baload, 1) := by decide +kernel
theorem d_StringLatin1_charAt_9 : decode prog_17_method_2_code 9 = .ok (.sipush (255), 3) := by decide +kernel
theorem d_StringLatin1_charAt_12 : decode prog_17_method_2_code 12 = .ok (.iand, 1) := by decide +kernel
theorem d_StringLatin1_charAt_13 : decode prog_17_method_2_code 13 = .ok (.i2c, 1) := by decide +kernel
theorem d_StringLatin1_charAt_14 : decode prog_17_method_2_code 14 = .ok (.ireturn, 1) := by decide +kernel
set_option maxRecDepth 100000 in
theorem cw_StringLatin1_9 : ax_cw "java/lang/StringLatin1" 9 y_String_checkIndex (.code y_String_checkIndex prog_16_method_155_code 2 none) 2 := ⟨nw_3 116 (by decide +kernel) rfl, nw_1 9 (by decide +kernel) rfl, nw_3 118 rfl rfl, by decide +kernel, by decide +kernel⟩
theorem sm_String_checkIndex : Cond.static y_String_checkIndex ∈ ax_tbl := nw_3 117 (by decide +kernel) rfl
def f_StringLatin1_charAt (k : Nat) (a2 : Int32) : Option (Int32) :=
  Option.bind (f_String_checkIndex a2 (Int32.ofNat (ax_len.getD k 0))) (fun _ =>
    bif ax_in a2 (ax_len.getD k 0) then
    bif ax_nr .char ((((((ax_byt.getD k []).getD (a2).toNatClampNeg 0) &&& (255 : Int32))).toUInt32 % 65536).toInt32) then
      some (((((((ax_byt.getD k []).getD (a2).toNatClampNeg 0) &&& (255 : Int32))).toUInt32 % 65536).toInt32))
    else none
    else none)
set_option maxHeartbeats 4000000 in
set_option maxRecDepth 100000 in
theorem t_StringLatin1_charAt {l : Launch} {D : va_G} {cA : Nat → ClassId} {ad : Nat → Nat → Nat} {al : List (Nat × Nat)} {θ : ax_Θ} {ρ : ax_ρ} {k : Nat} (hk : k < 2) {a2 : Int32} {s : ax_σ} {r0 : Int32} (h : f_StringLatin1_charAt k a2 = some r0) : ax_T l D cA ad al θ y_StringLatin1_charAt (.code y_StringLatin1_charAt prog_17_method_2_code 2 (some .char)) 2 [.inl (.ref (θ.2.1 k)), .inl (.int (a2))] (ax_m s ρ) (some (.inl (.int r0))) (ax_m s ρ) := by
  refine ax_T_ofF (own := "java/lang/StringLatin1") (by decide +kernel) rfl (Nat.le_of_ble_eq_true rfl) [(0, .inl (.ref (θ.2.1 k))), (1, .inl (.int (a2)))] rfl ?_
  intro G hA
  have hB := hA.B
  have hK := hB.K
  have hal := hB.la
  unfold f_StringLatin1_charAt at h
  refine ax_bk hK (ax_fc (ax_v_ld (ax_r_iload_n (i := 1) d_StringLatin1_charAt_0 rfl)) (ax_fc (ax_v_ld (ax_r_aload_n (i := 0) d_StringLatin1_charAt_1 rfl)) (ax_fc (ax_w_kl (k := k) hB.ht d_StringLatin1_charAt_2) ax_fn))) (y := (3, [(0, .inl (.ref (θ.2.1 k))), (1, .inl (.int (a2)))], [.inl (.int ((Int32.ofNat (ax_len.getD k 0)))), .inl (.int (a2))], ax_m (s) ρ)) rfl ⟨trivial, trivial, ⟨rfl, hk⟩, trivial⟩ ?_
  obtain ⟨_, q1, h⟩ := ax_bd h
  refine ax_bS (rest := []) hB (t_String_checkIndex q1) cw_StringLatin1_9 sm_String_checkIndex d_StringLatin1_charAt_3 (by decide) (by decide) rfl rfl (Nat.le_of_ble_eq_true rfl) ?_
  change ax_R G 2 0 0 (6, [(0, .inl (.ref (θ.2.1 k))), (1, .inl (.int (a2)))], [], ax_m (s) ρ)
  obtain ⟨b2, h⟩ := ax_gd h
  refine ax_bk hK (ax_fc (ax_v_ld (ax_r_aload_n (i := 0) d_StringLatin1_charAt_6 rfl)) (ax_fc (ax_v_ld (ax_r_iload_n (i := 1) d_StringLatin1_charAt_7 rfl)) (ax_fc (ax_w_kb (k := k) hB.ht d_StringLatin1_charAt_8) (ax_fc (ax_v_pu (ax_r_sipush (v := 255) d_StringLatin1_charAt_9 (by decide))) (ax_fc (ax_v_pu (ax_r_iand d_StringLatin1_charAt_12)) (ax_fc (ax_v_pu (ax_r_i2c d_StringLatin1_charAt_13)) ax_fn)))))) (y := (14, [(0, .inl (.ref (θ.2.1 k))), (1, .inl (.int (a2)))], [.inl (.int ((((((ax_byt.getD k []).getD (a2).toNatClampNeg 0) &&& (255 : Int32))).toUInt32 % 65536).toInt32))], ax_m (s) ρ)) rfl ⟨trivial, trivial, ⟨rfl, hk, ax_inp b2⟩, trivial, trivial, trivial, trivial⟩ ?_
  obtain ⟨b3, h⟩ := ax_gd h
  cases h
  exact ax_zret hA (ax_nrp b3) d_StringLatin1_charAt_14
def y_String_charAt : MethodName := ⟨"java/lang/String", "charAt", "(I)C"⟩
theorem d_String_charAt_0 : decode prog_16_method_56_code 0 = .ok (.aload_n 0, 1) := by decide +kernel
theorem d_String_charAt_1 : decode prog_16_method_56_code 1 = .ok (.invokevirtual (492), 3) := by decide +kernel
theorem d_String_charAt_4 : decode prog_16_method_56_code 4 = .ok (.ifCond .eq (12), 3) := by decide +kernel
theorem d_String_charAt_7 : decode prog_16_method_56_code 7 = .ok (.aload_n 0, 1) := by decide +kernel
theorem d_String_charAt_8 : decode prog_16_method_56_code 8 = .ok (.getfield (9), 3) := by decide +kernel
theorem d_String_charAt_11 : decode prog_16_method_56_code 11 = .ok (.iload_n 1, 1) := by decide +kernel
theorem d_String_charAt_12 : decode prog_16_method_56_code 12 = .ok (.invokestatic (495), 3) := by decide +kernel
theorem d_String_charAt_15 : decode prog_16_method_56_code 15 = .ok (.ireturn, 1) := by decide +kernel
theorem d_String_charAt_16 : decode prog_16_method_56_code 16 = .ok (.aload_n 0, 1) := by decide +kernel
theorem d_String_charAt_17 : decode prog_16_method_56_code 17 = .ok (.getfield (9), 3) := by decide +kernel
theorem d_String_charAt_20 : decode prog_16_method_56_code 20 = .ok (.iload_n 1, 1) := by decide +kernel
theorem d_String_charAt_21 : decode prog_16_method_56_code 21 = .ok (.invokestatic (498), 3) := by decide +kernel
theorem d_String_charAt_24 : decode prog_16_method_56_code 24 = .ok (.ireturn, 1) := by decide +kernel
set_option maxRecDepth 100000 in
theorem cw_String_495 : ax_cw "java/lang/String" 495 y_StringLatin1_charAt (.code y_StringLatin1_charAt prog_17_method_2_code 2 (some .char)) 2 := ⟨nw_3 113 (by decide +kernel) rfl, nw_1 10 (by decide +kernel) rfl, nw_3 115 rfl rfl, by decide +kernel, by decide +kernel⟩
theorem sm_StringLatin1_charAt : Cond.static y_StringLatin1_charAt ∈ ax_tbl := nw_3 114 (by decide +kernel) rfl
def f_String_charAt (k : Nat) (a1 : Int32) : Option (Int32) :=
  Option.bind (f_String_isLatin1 k) (fun r1 =>
    if r1 = (0 : Int32) then
      none
    else
      Option.bind (f_StringLatin1_charAt k a1) (fun r3 =>
        bif ax_nr .char r3 then
          some (r3)
        else none))
set_option maxHeartbeats 4000000 in
set_option maxRecDepth 100000 in
theorem t_String_charAt {l : Launch} {D : va_G} {cA : Nat → ClassId} {ad : Nat → Nat → Nat} {al : List (Nat × Nat)} {θ : ax_Θ} {ρ : ax_ρ} {k : Nat} (hk : k < 2) {a1 : Int32} {s : ax_σ} {r0 : Int32} (h : f_String_charAt k a1 = some r0) : ax_T l D cA ad al θ y_String_charAt (.code y_String_charAt prog_16_method_56_code 2 (some .char)) 3 [.inl (.ref (θ.1 k)), .inl (.int (a1))] (ax_m s ρ) (some (.inl (.int r0))) (ax_m s ρ) := by
  refine ax_T_ofF (own := "java/lang/String") (by decide +kernel) rfl (Nat.le_of_ble_eq_true rfl) [(0, .inl (.ref (θ.1 k))), (1, .inl (.int (a1)))] rfl ?_
  intro G hA
  have hB := hA.B
  have hK := hB.K
  have hal := hB.la
  unfold f_String_charAt at h
  refine ax_bk hK (ax_fc (ax_v_ld (ax_r_aload_n (i := 0) d_String_charAt_0 rfl)) ax_fn) (y := (1, [(0, .inl (.ref (θ.1 k))), (1, .inl (.int (a1)))], [.inl (.ref (θ.1 k))], ax_m (s) ρ)) rfl ⟨trivial, trivial⟩ ?_
  obtain ⟨r1, q2, h⟩ := ax_bd h
  refine ax_bK (k := k) (rest := []) hB (t_String_isLatin1 hk q2) cw_String_492 im_String_isLatin1 se_String_isLatin1 d_String_charAt_1 hk rfl (by decide) (by decide) rfl rfl (Nat.le_of_ble_eq_true rfl) ?_
  change ax_R G 2 0 0 (4, [(0, .inl (.ref (θ.1 k))), (1, .inl (.int (a1)))], [.inl (.int (r1))], ax_m (s) ρ)
  refine ax_if_eq (tgt := 16) hK d_String_charAt_4 (by decide) (fun c5 => ?_) (fun c5 => ?_)
  · replace h := ax_it c5 h
    refine ax_bk hK (ax_fc (ax_v_ld (ax_r_aload_n (i := 0) d_String_charAt_16 rfl)) (ax_fc (ax_w_kv (k := k) hB.ht d_String_charAt_17 (nw_6 162 (by decide +kernel) rfl)) (ax_fc (ax_v_ld (ax_r_iload_n (i := 1) d_String_charAt_20 rfl)) ax_fn))) (y := (21, [(0, .inl (.ref (θ.1 k))), (1, .inl (.int (a1)))], [.inl (.int (a1)), .inl (.ref (θ.2.1 k))], ax_m (s) ρ)) rfl ⟨trivial, ⟨rfl, hk⟩, trivial, trivial⟩ ?_
    cases h
  · replace h := ax_if c5 h
    refine ax_bk hK (ax_fc (ax_v_ld (ax_r_aload_n (i := 0) d_String_charAt_7 rfl)) (ax_fc (ax_w_kv (k := k) hB.ht d_String_charAt_8 (nw_6 162 (by decide +kernel) rfl)) (ax_fc (ax_v_ld (ax_r_iload_n (i := 1) d_String_charAt_11 rfl)) ax_fn))) (y := (12, [(0, .inl (.ref (θ.1 k))), (1, .inl (.int (a1)))], [.inl (.int (a1)), .inl (.ref (θ.2.1 k))], ax_m (s) ρ)) rfl ⟨trivial, ⟨rfl, hk⟩, trivial, trivial⟩ ?_
    obtain ⟨r3, q4, h⟩ := ax_bd h
    refine ax_bS (rest := []) hB (t_StringLatin1_charAt hk q4) cw_String_495 sm_StringLatin1_charAt d_String_charAt_12 (by decide) (by decide) rfl rfl (Nat.le_of_ble_eq_true rfl) ?_
    change ax_R G 2 0 0 (15, [(0, .inl (.ref (θ.1 k))), (1, .inl (.int (a1)))], [.inl (.int (r3))], ax_m (s) ρ)
    obtain ⟨b6, h⟩ := ax_gd h
    cases h
    exact ax_zret hA (ax_nrp b6) d_String_charAt_15
def y_R_putTable : MethodName := ⟨"CipherNotation$Reader", "putTable", "(I)V"⟩
theorem d_R_putTable_0 : decode prog_6_method_36_code 0 = .ok (.aload_n 0, 1) := by decide +kernel
theorem d_R_putTable_1 : decode prog_6_method_36_code 1 = .ok (.bipush (35), 2) := by decide +kernel
theorem d_R_putTable_3 : decode prog_6_method_36_code 3 = .ok (.invokevirtual (297), 3) := by decide +kernel
theorem d_R_putTable_6 : decode prog_6_method_36_code 6 = .ok (.iconst 0, 1) := by decide +kernel
theorem d_R_putTable_7 : decode prog_6_method_36_code 7 = .ok (.istore_n 2, 1) := by decide +kernel
theorem d_R_putTable_8 : decode prog_6_method_36_code 8 = .ok (.iload_n 2, 1) := by decide +kernel
theorem d_R_putTable_9 : decode prog_6_method_36_code 9 = .ok (.bipush (16), 2) := by decide +kernel
theorem d_R_putTable_11 : decode prog_6_method_36_code 11 = .ok (.if_icmp .ge (32), 3) := by decide +kernel
theorem d_R_putTable_14 : decode prog_6_method_36_code 14 = .ok (.aload_n 0, 1) := by decide +kernel
theorem d_R_putTable_15 : decode prog_6_method_36_code 15 = .ok (.ldc (136), 2) := by decide +kernel
theorem d_R_putTable_17 : decode prog_6_method_36_code 17 = .ok (.aload_n 0, 1) := by decide +kernel
theorem d_R_putTable_18 : decode prog_6_method_36_code 18 = .ok (.getfield (35), 3) := by decide +kernel
theorem d_R_putTable_21 : decode prog_6_method_36_code 21 = .ok (.getfield (133), 3) := by decide +kernel
theorem d_R_putTable_24 : decode prog_6_method_36_code 24 = .ok (.iload_n 1, 1) := by decide +kernel
theorem d_R_putTable_25 : decode prog_6_method_36_code 25 = .ok (.bipush (16), 2) := by decide +kernel
theorem d_R_putTable_27 : decode prog_6_method_36_code 27 = .ok (.imul, 1) := by decide +kernel
theorem d_R_putTable_28 : decode prog_6_method_36_code 28 = .ok (.iload_n 2, 1) := by decide +kernel
theorem d_R_putTable_29 : decode prog_6_method_36_code 29 = .ok (.iadd, 1) := by decide +kernel
theorem d_R_putTable_30 : decode prog_6_method_36_code 30 = .ok (.iaload, 1) := by decide +kernel
theorem d_R_putTable_31 : decode prog_6_method_36_code 31 = .ok (.invokevirtual (301), 3) := by decide +kernel
theorem d_R_putTable_34 : decode prog_6_method_36_code 34 = .ok (.invokevirtual (297), 3) := by decide +kernel
theorem d_R_putTable_37 : decode prog_6_method_36_code 37 = .ok (.iinc 2 (1), 3) := by decide +kernel
theorem d_R_putTable_40 : decode prog_6_method_36_code 40 = .ok (.goto (-32), 3) := by decide +kernel
theorem d_R_putTable_43 : decode prog_6_method_36_code 43 = .ok (.aload_n 0, 1) := by decide +kernel
theorem d_R_putTable_44 : decode prog_6_method_36_code 44 = .ok (.bipush (59), 2) := by decide +kernel
theorem d_R_putTable_46 : decode prog_6_method_36_code 46 = .ok (.invokevirtual (297), 3) := by decide +kernel
theorem d_R_putTable_49 : decode prog_6_method_36_code 49 = .ok (.return_, 1) := by decide +kernel
set_option maxRecDepth 100000 in
theorem cw_R_301 : ax_cw "CipherNotation$Reader" 301 y_String_charAt (.code y_String_charAt prog_16_method_56_code 2 (some .char)) 1 := ⟨nw_3 109 (by decide +kernel) rfl, nw_1 9 (by decide +kernel) rfl, nw_3 112 rfl rfl, by decide +kernel, by decide +kernel⟩
theorem im_String_charAt : Cond.instanceMethod y_String_charAt ∈ ax_tbl := nw_3 110 (by decide +kernel) rfl
theorem se_String_charAt : Cond.selects y_String_charAt.cls y_String_charAt y_String_charAt ∈ ax_tbl := nw_3 111 (by decide +kernel) rfl
def lp_R_putTable_8 (F : Nat) (g : Nat) (x1 : Int32) : Nat → Int32 → ax_σ → Option (ax_σ)
  | 0, _, _ => none
  | n + 1, x2, s =>
    if (16 : Int32) ≤ x2 then
      some s
    else
      bif ax_in ((x1 * (16 : Int32)) + x2) 32 then
      Option.bind (f_String_charAt 0 (s.1 g 2 (((x1 * (16 : Int32)) + x2)).toNatClampNeg)) (fun r4 =>
        Option.bind (f_R_put g r4 s) (fun s6 =>
          lp_R_putTable_8 F g x1 n (x2 + (1 : Int32)) s6))
      else none
set_option maxHeartbeats 4000000 in
set_option maxRecDepth 100000 in
theorem pl_R_putTable_8 {D : va_G} {cA : Nat → ClassId} {ad : Nat → Nat → Nat} {al : List (Nat × Nat)} {θ : ax_Θ} {l : Launch} {ρ : ax_ρ} {G : ax_G} {F g : Nat} {x1 : Int32} (h0 : ax_M0 al) (hg : ax_Mg al g) (hr : ax_rd ρ g) (hB : ax_B D cA ad al θ l "CipherNotation$Reader" prog_6_method_36_code 3 4 G) : ∀ (n : Nat) {x2 : Int32} {s : ax_σ} (out : ax_σ), lp_R_putTable_8 F g x1 n x2 s = some out → (∀ (es : ax_σ), out = es → ax_R G 3 0 0 (43, [(0, .inr (0, 25))], [], ax_m (es) ρ)) → ax_R G 3 0 0 (8, [(0, .inr (0, 25)), (1, .inl (.int (x1))), (2, .inl (.int (x2)))], [], ax_m (s) ρ) := by
  have hK := hB.K
  have hal := hB.la
  intro n
  induction n with
  | zero =>
    intro x2 s out h
    cases h
  | succ n ih =>
    intro x2 s out h KE
    rw [lp_R_putTable_8] at h
    refine ax_bk hK (ax_fc (ax_v_ld (ax_r_iload_n (i := 2) d_R_putTable_8 rfl)) (ax_fc (ax_v_pu (ax_r_bipush (v := 16) d_R_putTable_9 (by decide))) ax_fn)) (y := (11, [(0, .inr (0, 25)), (1, .inl (.int (x1))), (2, .inl (.int (x2)))], [.inl (.int ((16 : Int32))), .inl (.int (x2))], ax_m (s) ρ)) rfl ⟨trivial, trivial, trivial⟩ ?_
    refine ax_ic_ge (tgt := 43) hK d_R_putTable_11 (by decide) (fun c8 => ?_) (fun c8 => ?_)
    · replace h := ax_it c8 h
      cases h
      exact ax_Lsub [0] rfl (KE _ rfl)
    · replace h := ax_if c8 h
      obtain ⟨b3, h⟩ := ax_gd h
      refine ax_bk hK (ax_fc (ax_v_ld (ax_r_aload_n (i := 0) d_R_putTable_14 rfl)) (ax_fc (ax_w_ks (tx := "0123456789abcdef") (a := θ.1 0) (fun A U H hZ => by rw [hB.ht] at hZ; exact hZ.2.2.1) d_R_putTable_15) (ax_fc (ax_v_ld (ax_r_aload_n (i := 0) d_R_putTable_17 rfl)) (ax_fc (ax_w_gf (e := (some (g, 0))) hal d_R_putTable_18 fd_R_35) (ax_fc (ax_w_gf (e := none) hal d_R_putTable_21 fd_R_133) (ax_fc (ax_v_ld (ax_r_iload_n (i := 1) d_R_putTable_24 rfl)) (ax_fc (ax_v_pu (ax_r_bipush (v := 16) d_R_putTable_25 (by decide))) (ax_fc (ax_v_pu (ax_r_imul d_R_putTable_27)) (ax_fc (ax_v_ld (ax_r_iload_n (i := 2) d_R_putTable_28 rfl)) (ax_fc (ax_v_pu (ax_r_iadd d_R_putTable_29)) (ax_fc (ax_w_iald hal d_R_putTable_30) ax_fn))))))))))) (y := (31, [(0, .inr (0, 25)), (1, .inl (.int (x1))), (2, .inl (.int (x2)))], [.inl (.int ((s.1 g 2 (((x1 * (16 : Int32)) + x2)).toNatClampNeg))), .inl (.ref (θ.1 0)), .inr (0, 25)], ax_m (s) ρ)) rfl ⟨trivial, trivial, trivial, ⟨(h0 25 rfl), hr.1⟩, (hg 0 rfl), trivial, trivial, trivial, trivial, trivial, ⟨(hg 2 rfl), ax_inp b3⟩, trivial⟩ ?_
      obtain ⟨r4, q5, h⟩ := ax_bd h
      refine ax_bK (k := 0) (rest := [.inr (0, 25)]) hB (t_String_charAt (by decide) q5) cw_R_301 im_String_charAt se_String_charAt d_R_putTable_31 (by decide) rfl (by decide) (by decide) rfl rfl (Nat.le_of_ble_eq_true rfl) ?_
      change ax_R G 3 0 0 (34, [(0, .inr (0, 25)), (1, .inl (.int (x1))), (2, .inl (.int (x2)))], [.inl (.int (r4)), .inr (0, 25)], ax_m (s) ρ)
      obtain ⟨s6, q7, h⟩ := ax_bd h
      refine ax_bV (rest := []) hB (t_R_put h0 hg hr q7) cw_R_297 im_R_put se_R_put d_R_putTable_34 (h0 25 rfl) rfl rfl (by decide) (by decide) rfl rfl (Nat.le_of_ble_eq_true rfl) ?_
      change ax_R G 3 0 0 (37, [(0, .inr (0, 25)), (1, .inl (.int (x1))), (2, .inl (.int (x2)))], [], ax_m (s6) ρ)
      refine ax_bk hK (ax_fc (ax_v_ii (d := 1) d_R_putTable_37 (by decide)) (ax_fc (ax_v_go (tgt := 8) d_R_putTable_40 (by decide)) ax_fn)) (y := (8, [(2, .inl (.int ((x2 + (1 : Int32))))), (0, .inr (0, 25)), (1, .inl (.int (x1)))], [], ax_m (s6) ρ)) rfl ⟨trivial, trivial, trivial⟩ ?_
      exact ax_Lsub [1, 2, 0] rfl (ih _ h KE)
def f_R_putTable (F : Nat) (g : Nat) (a1 : Int32) (s : ax_σ) : Option (ax_σ) :=
  Option.bind (f_R_put g (35 : Int32) s) (fun s1 =>
    Option.bind (lp_R_putTable_8 F g a1 F (0 : Int32) s1) (fun s9 =>
      Option.bind (f_R_put g (59 : Int32) s9) (fun s10 =>
        some (s10))))
set_option maxHeartbeats 4000000 in
set_option maxRecDepth 100000 in
theorem t_R_putTable {l : Launch} {D : va_G} {cA : Nat → ClassId} {ad : Nat → Nat → Nat} {al : List (Nat × Nat)} {θ : ax_Θ} {ρ : ax_ρ} {F : Nat} {g : Nat} (h0 : ax_M0 al) (hg : ax_Mg al g) (hr : ax_rd ρ g) {a1 : Int32} {s : ax_σ} {s0 : ax_σ} (h : f_R_putTable F g a1 s = some s0) : ax_T l D cA ad al θ y_R_putTable (.code y_R_putTable prog_6_method_36_code 3 none) 4 [.inr (0, 25), .inl (.int (a1))] (ax_m s ρ) none (ax_m s0 ρ) := by
  refine ax_T_of (own := "CipherNotation$Reader") (by decide) rfl (Nat.le_of_ble_eq_true rfl) [(0, .inr (0, 25)), (1, .inl (.int (a1)))] rfl ?_
  intro G hA
  have hB := hA.B
  have hK := hB.K
  have hal := hB.la
  unfold f_R_putTable at h
  refine ax_bk hK (ax_fc (ax_v_ld (ax_r_aload_n (i := 0) d_R_putTable_0 rfl)) (ax_fc (ax_v_pu (ax_r_bipush (v := 35) d_R_putTable_1 (by decide))) ax_fn)) (y := (3, [(0, .inr (0, 25)), (1, .inl (.int (a1)))], [.inl (.int ((35 : Int32))), .inr (0, 25)], ax_m (s) ρ)) rfl ⟨trivial, trivial, trivial⟩ ?_
  obtain ⟨s1, q2, h⟩ := ax_bd h
  refine ax_bV (rest := []) hB (t_R_put h0 hg hr q2) cw_R_297 im_R_put se_R_put d_R_putTable_3 (h0 25 rfl) rfl rfl (by decide) (by decide) rfl rfl (Nat.le_of_ble_eq_true rfl) ?_
  change ax_R G 3 0 0 (6, [(0, .inr (0, 25)), (1, .inl (.int (a1)))], [], ax_m (s1) ρ)
  refine ax_bk hK (ax_fc (ax_v_pu (ax_r_iconst (v := 0) d_R_putTable_6 (by decide))) (ax_fc (ax_v_so (ax_r_istore_n (i := 2) d_R_putTable_7 rfl)) ax_fn)) (y := (8, [(2, .inl (.int ((0 : Int32)))), (0, .inr (0, 25)), (1, .inl (.int (a1)))], [], ax_m (s1) ρ)) rfl ⟨trivial, trivial, trivial⟩ ?_
  obtain ⟨w12, hw12, h⟩ := ax_bd h
  refine ax_Lsub [1, 2, 0] rfl (pl_R_putTable_8 h0 hg hr hB F _ hw12 ?_)
  intro s9 e9
  subst w12
  try dsimp only at h
  change ax_R G 3 0 0 (43, [(0, .inr (0, 25))], [], ax_m (s9) ρ)
  refine ax_bk hK (ax_fc (ax_v_ld (ax_r_aload_n (i := 0) d_R_putTable_43 rfl)) (ax_fc (ax_v_pu (ax_r_bipush (v := 59) d_R_putTable_44 (by decide))) ax_fn)) (y := (46, [(0, .inr (0, 25))], [.inl (.int ((59 : Int32))), .inr (0, 25)], ax_m (s9) ρ)) rfl ⟨trivial, trivial, trivial⟩ ?_
  obtain ⟨s10, q11, h⟩ := ax_bd h
  refine ax_bV (rest := []) hB (t_R_put h0 hg hr q11) cw_R_297 im_R_put se_R_put d_R_putTable_46 (h0 25 rfl) rfl rfl (by decide) (by decide) rfl rfl (Nat.le_of_ble_eq_true rfl) ?_
  change ax_R G 3 0 0 (49, [(0, .inr (0, 25))], [], ax_m (s10) ρ)
  cases h
  exact ax_vret hA d_R_putTable_49
def y_R_putForm : MethodName := ⟨"CipherNotation$Reader", "putForm", "()V"⟩
theorem d_R_putForm_0 : decode prog_6_method_35_code 0 = .ok (.iconst 0, 1) := by decide +kernel
theorem d_R_putForm_1 : decode prog_6_method_35_code 1 = .ok (.istore_n 1, 1) := by decide +kernel
theorem d_R_putForm_2 : decode prog_6_method_35_code 2 = .ok (.iload_n 1, 1) := by decide +kernel
theorem d_R_putForm_3 : decode prog_6_method_35_code 3 = .ok (.aload_n 0, 1) := by decide +kernel
theorem d_R_putForm_4 : decode prog_6_method_35_code 4 = .ok (.getfield (75), 3) := by decide +kernel
theorem d_R_putForm_7 : decode prog_6_method_35_code 7 = .ok (.if_icmp .ge (31), 3) := by decide +kernel
theorem d_R_putForm_10 : decode prog_6_method_35_code 10 = .ok (.aload_n 0, 1) := by decide +kernel
theorem d_R_putForm_11 : decode prog_6_method_35_code 11 = .ok (.getfield (11), 3) := by decide +kernel
theorem d_R_putForm_14 : decode prog_6_method_35_code 14 = .ok (.iload_n 1, 1) := by decide +kernel
theorem d_R_putForm_15 : decode prog_6_method_35_code 15 = .ok (.caload, 1) := by decide +kernel
theorem d_R_putForm_16 : decode prog_6_method_35_code 16 = .ok (.bipush (35), 2) := by decide +kernel
theorem d_R_putForm_18 : decode prog_6_method_35_code 18 = .ok (.if_icmp .eq (20), 3) := by decide +kernel
theorem d_R_putForm_21 : decode prog_6_method_35_code 21 = .ok (.aload_n 0, 1) := by decide +kernel
theorem d_R_putForm_22 : decode prog_6_method_35_code 22 = .ok (.getfield (11), 3) := by decide +kernel
theorem d_R_putForm_25 : decode prog_6_method_35_code 25 = .ok (.iload_n 1, 1) := by decide +kernel
theorem d_R_putForm_26 : decode prog_6_method_35_code 26 = .ok (.caload, 1) := by decide +kernel
theorem d_R_putForm_27 : decode prog_6_method_35_code 27 = .ok (.bipush (123), 2) := by decide +kernel
theorem d_R_putForm_29 : decode prog_6_method_35_code 29 = .ok (.if_icmp .eq (9), 3) := by decide +kernel
theorem d_R_putForm_32 : decode prog_6_method_35_code 32 = .ok (.iinc 1 (1), 3) := by decide +kernel
theorem d_R_putForm_35 : decode prog_6_method_35_code 35 = .ok (.goto (-33), 3) := by decide +kernel
theorem d_R_putForm_38 : decode prog_6_method_35_code 38 = .ok (.aload_n 0, 1) := by decide +kernel
theorem d_R_putForm_39 : decode prog_6_method_35_code 39 = .ok (.iconst 0, 1) := by decide +kernel
theorem d_R_putForm_40 : decode prog_6_method_35_code 40 = .ok (.iload_n 1, 1) := by decide +kernel
theorem d_R_putForm_41 : decode prog_6_method_35_code 41 = .ok (.invokevirtual (291), 3) := by decide +kernel
theorem d_R_putForm_44 : decode prog_6_method_35_code 44 = .ok (.iconst 0, 1) := by decide +kernel
theorem d_R_putForm_45 : decode prog_6_method_35_code 45 = .ok (.istore_n 2, 1) := by decide +kernel
theorem d_R_putForm_46 : decode prog_6_method_35_code 46 = .ok (.iload_n 2, 1) := by decide +kernel
theorem d_R_putForm_47 : decode prog_6_method_35_code 47 = .ok (.aload_n 0, 1) := by decide +kernel
theorem d_R_putForm_48 : decode prog_6_method_35_code 48 = .ok (.getfield (35), 3) := by decide +kernel
theorem d_R_putForm_51 : decode prog_6_method_35_code 51 = .ok (.getfield (107), 3) := by decide +kernel
theorem d_R_putForm_54 : decode prog_6_method_35_code 54 = .ok (.iconst 3, 1) := by decide +kernel
theorem d_R_putForm_55 : decode prog_6_method_35_code 55 = .ok (.iaload, 1) := by decide +kernel
theorem d_R_putForm_56 : decode prog_6_method_35_code 56 = .ok (.if_icmp .ge (14), 3) := by decide +kernel
theorem d_R_putForm_59 : decode prog_6_method_35_code 59 = .ok (.aload_n 0, 1) := by decide +kernel
theorem d_R_putForm_60 : decode prog_6_method_35_code 60 = .ok (.iload_n 2, 1) := by decide +kernel
theorem d_R_putForm_61 : decode prog_6_method_35_code 61 = .ok (.invokevirtual (294), 3) := by decide +kernel
theorem d_R_putForm_64 : decode prog_6_method_35_code 64 = .ok (.iinc 2 (1), 3) := by decide +kernel
theorem d_R_putForm_67 : decode prog_6_method_35_code 67 = .ok (.goto (-21), 3) := by decide +kernel
theorem d_R_putForm_70 : decode prog_6_method_35_code 70 = .ok (.iload_n 1, 1) := by decide +kernel
theorem d_R_putForm_71 : decode prog_6_method_35_code 71 = .ok (.aload_n 0, 1) := by decide +kernel
theorem d_R_putForm_72 : decode prog_6_method_35_code 72 = .ok (.getfield (75), 3) := by decide +kernel
theorem d_R_putForm_75 : decode prog_6_method_35_code 75 = .ok (.if_icmp .ge (20), 3) := by decide +kernel
theorem d_R_putForm_78 : decode prog_6_method_35_code 78 = .ok (.aload_n 0, 1) := by decide +kernel
theorem d_R_putForm_79 : decode prog_6_method_35_code 79 = .ok (.getfield (11), 3) := by decide +kernel
theorem d_R_putForm_82 : decode prog_6_method_35_code 82 = .ok (.iload_n 1, 1) := by decide +kernel
theorem d_R_putForm_83 : decode prog_6_method_35_code 83 = .ok (.caload, 1) := by decide +kernel
theorem d_R_putForm_84 : decode prog_6_method_35_code 84 = .ok (.bipush (123), 2) := by decide +kernel
theorem d_R_putForm_86 : decode prog_6_method_35_code 86 = .ok (.if_icmp .eq (9), 3) := by decide +kernel
theorem d_R_putForm_89 : decode prog_6_method_35_code 89 = .ok (.iinc 1 (1), 3) := by decide +kernel
theorem d_R_putForm_92 : decode prog_6_method_35_code 92 = .ok (.goto (-22), 3) := by decide +kernel
theorem d_R_putForm_95 : decode prog_6_method_35_code 95 = .ok (.aload_n 0, 1) := by decide +kernel
theorem d_R_putForm_96 : decode prog_6_method_35_code 96 = .ok (.iload_n 1, 1) := by decide +kernel
theorem d_R_putForm_97 : decode prog_6_method_35_code 97 = .ok (.aload_n 0, 1) := by decide +kernel
theorem d_R_putForm_98 : decode prog_6_method_35_code 98 = .ok (.getfield (75), 3) := by decide +kernel
theorem d_R_putForm_101 : decode prog_6_method_35_code 101 = .ok (.invokevirtual (291), 3) := by decide +kernel
theorem d_R_putForm_104 : decode prog_6_method_35_code 104 = .ok (.return_, 1) := by decide +kernel
def lp_R_putForm_2 (F : Nat) (g : Nat) (s : ax_σ) : Nat → Int32 → Option (Int32)
  | 0, _ => none
  | n + 1, x1 =>
    Option.bind (
      if (s.1 0 25 2) ≤ x1 then
        some true
      else
        bif ax_in x1 241 then
        if (s.1 0 26 (x1).toNatClampNeg) = (35 : Int32) then
          some true
        else
          bif ax_in x1 241 then
          if (s.1 0 26 (x1).toNatClampNeg) = (123 : Int32) then
            some true
          else
            some false
          else none
        else none) (fun w6 => bif w6 then
      some x1
    else
      lp_R_putForm_2 F g s n (x1 + (1 : Int32)))
set_option maxHeartbeats 4000000 in
set_option maxRecDepth 100000 in
theorem pl_R_putForm_2 {D : va_G} {cA : Nat → ClassId} {ad : Nat → Nat → Nat} {al : List (Nat × Nat)} {θ : ax_Θ} {l : Launch} {ρ : ax_ρ} {G : ax_G} {F g : Nat} {s : ax_σ} (h0 : ax_M0 al) (hg : ax_Mg al g) (hr : ax_rd ρ g) (hB : ax_B D cA ad al θ l "CipherNotation$Reader" prog_6_method_35_code 3 5 G) : ∀ (n : Nat) {x1 : Int32} (out : Int32), lp_R_putForm_2 F g s n x1 = some out → (∀ (e1 : Int32), out = e1 → ax_R G 3 0 0 (38, [(0, .inr (0, 25)), (1, .inl (.int (e1)))], [], ax_m (s) ρ)) → ax_R G 3 0 0 (2, [(0, .inr (0, 25)), (1, .inl (.int (x1)))], [], ax_m (s) ρ) := by
  have hK := hB.K
  have hal := hB.la
  intro n
  induction n with
  | zero =>
    intro x1 out h
    cases h
  | succ n ih =>
    intro x1 out h KE
    rw [lp_R_putForm_2] at h
    refine ax_bk hK (ax_fc (ax_v_ld (ax_r_iload_n (i := 1) d_R_putForm_2 rfl)) (ax_fc (ax_v_ld (ax_r_aload_n (i := 0) d_R_putForm_3 rfl)) (ax_fc (ax_w_gf (e := none) hal d_R_putForm_4 fd_R_75) ax_fn))) (y := (7, [(0, .inr (0, 25)), (1, .inl (.int (x1)))], [.inl (.int ((s.1 0 25 2))), .inl (.int (x1))], ax_m (s) ρ)) rfl ⟨trivial, trivial, (h0 25 rfl), trivial⟩ ?_
    obtain ⟨w6, hw6, h⟩ := ax_bd h
    have KTw6 : w6 = true → ax_R G 3 0 0 (38, [(0, .inr (0, 25)), (1, .inl (.int (x1)))], [], ax_m (s) ρ) := by
      intro e9
      subst w6
      replace h := ax_ct h
      cases h
      exact ax_Lsub [0, 1] rfl (KE _ rfl)
    have KFw6 : w6 = false → ax_R G 3 0 0 (32, [(0, .inr (0, 25)), (1, .inl (.int (x1)))], [], ax_m (s) ρ) := by
      intro e9
      subst w6
      replace h := ax_cf h
      refine ax_bk hK (ax_fc (ax_v_ii (d := 1) d_R_putForm_32 (by decide)) (ax_fc (ax_v_go (tgt := 2) d_R_putForm_35 (by decide)) ax_fn)) (y := (2, [(1, .inl (.int ((x1 + (1 : Int32))))), (0, .inr (0, 25))], [], ax_m (s) ρ)) rfl ⟨trivial, trivial, trivial⟩ ?_
      exact ax_Lsub [1, 0] rfl (ih _ h KE)
    clear h
    have h := hw6
    refine ax_ic_ge (tgt := 38) hK d_R_putForm_7 (by decide) (fun c5 => ?_) (fun c5 => ?_)
    · replace h := ax_it c5 h
      cases h
      exact ax_Lsub [0, 1] rfl (KTw6 rfl)
    · replace h := ax_if c5 h
      obtain ⟨b1, h⟩ := ax_gd h
      refine ax_bk hK (ax_fc (ax_v_ld (ax_r_aload_n (i := 0) d_R_putForm_10 rfl)) (ax_fc (ax_w_gf (e := none) hal d_R_putForm_11 fd_R_11) (ax_fc (ax_v_ld (ax_r_iload_n (i := 1) d_R_putForm_14 rfl)) (ax_fc (ax_w_cald hal d_R_putForm_15) (ax_fc (ax_v_pu (ax_r_bipush (v := 35) d_R_putForm_16 (by decide))) ax_fn))))) (y := (18, [(0, .inr (0, 25)), (1, .inl (.int (x1)))], [.inl (.int ((35 : Int32))), .inl (.int ((s.1 0 26 (x1).toNatClampNeg)))], ax_m (s) ρ)) rfl ⟨trivial, (h0 25 rfl), trivial, ⟨(h0 26 rfl), ax_inp b1⟩, trivial, trivial⟩ ?_
      refine ax_ic_eq (tgt := 38) hK d_R_putForm_18 (by decide) (fun c4 => ?_) (fun c4 => ?_)
      · replace h := ax_it c4 h
        cases h
        exact ax_Lsub [0, 1] rfl (KTw6 rfl)
      · replace h := ax_if c4 h
        obtain ⟨b2, h⟩ := ax_gd h
        refine ax_bk hK (ax_fc (ax_v_ld (ax_r_aload_n (i := 0) d_R_putForm_21 rfl)) (ax_fc (ax_w_gf (e := none) hal d_R_putForm_22 fd_R_11) (ax_fc (ax_v_ld (ax_r_iload_n (i := 1) d_R_putForm_25 rfl)) (ax_fc (ax_w_cald hal d_R_putForm_26) (ax_fc (ax_v_pu (ax_r_bipush (v := 123) d_R_putForm_27 (by decide))) ax_fn))))) (y := (29, [(0, .inr (0, 25)), (1, .inl (.int (x1)))], [.inl (.int ((123 : Int32))), .inl (.int ((s.1 0 26 (x1).toNatClampNeg)))], ax_m (s) ρ)) rfl ⟨trivial, (h0 25 rfl), trivial, ⟨(h0 26 rfl), ax_inp b2⟩, trivial, trivial⟩ ?_
        refine ax_ic_eq (tgt := 38) hK d_R_putForm_29 (by decide) (fun c3 => ?_) (fun c3 => ?_)
        · replace h := ax_it c3 h
          cases h
          exact ax_Lsub [0, 1] rfl (KTw6 rfl)
        · replace h := ax_if c3 h
          cases h
          exact ax_Lsub [0, 1] rfl (KFw6 rfl)
set_option maxRecDepth 100000 in
theorem cw_R_294 : ax_cw "CipherNotation$Reader" 294 y_R_putTable (.code y_R_putTable prog_6_method_36_code 3 none) 1 := ⟨nw_3 105 (by decide +kernel) rfl, nw_1 2 (by decide +kernel) rfl, nw_3 108 rfl rfl, by decide +kernel, by decide +kernel⟩
theorem im_R_putTable : Cond.instanceMethod y_R_putTable ∈ ax_tbl := nw_3 107 (by decide +kernel) rfl
theorem se_R_putTable : Cond.selects y_R_putTable.cls y_R_putTable y_R_putTable ∈ ax_tbl := nw_sel 33 (by decide +kernel) (by decide +kernel)
def lp_R_putForm_46 (F : Nat) (g : Nat) (x1 : Int32) : Nat → Int32 → ax_σ → Option (ax_σ)
  | 0, _, _ => none
  | n + 1, x2, s =>
    bif ax_in (3 : Int32) 8 then
    if (s.1 g 1 ((3 : Int32)).toNatClampNeg) ≤ x2 then
      some s
    else
      Option.bind (f_R_putTable F g x2 s) (fun s11 =>
        lp_R_putForm_46 F g x1 n (x2 + (1 : Int32)) s11)
    else none
set_option maxHeartbeats 4000000 in
set_option maxRecDepth 100000 in
theorem pl_R_putForm_46 {D : va_G} {cA : Nat → ClassId} {ad : Nat → Nat → Nat} {al : List (Nat × Nat)} {θ : ax_Θ} {l : Launch} {ρ : ax_ρ} {G : ax_G} {F g : Nat} {x1 : Int32} (h0 : ax_M0 al) (hg : ax_Mg al g) (hr : ax_rd ρ g) (hB : ax_B D cA ad al θ l "CipherNotation$Reader" prog_6_method_35_code 3 5 G) : ∀ (n : Nat) {x2 : Int32} {s : ax_σ} (out : ax_σ), lp_R_putForm_46 F g x1 n x2 s = some out → (∀ (es : ax_σ), out = es → ax_R G 3 0 0 (70, [(0, .inr (0, 25)), (1, .inl (.int (x1)))], [], ax_m (es) ρ)) → ax_R G 3 0 0 (46, [(0, .inr (0, 25)), (1, .inl (.int (x1))), (2, .inl (.int (x2)))], [], ax_m (s) ρ) := by
  have hK := hB.K
  have hal := hB.la
  intro n
  induction n with
  | zero =>
    intro x2 s out h
    cases h
  | succ n ih =>
    intro x2 s out h KE
    rw [lp_R_putForm_46] at h
    obtain ⟨b10, h⟩ := ax_gd h
    refine ax_bk hK (ax_fc (ax_v_ld (ax_r_iload_n (i := 2) d_R_putForm_46 rfl)) (ax_fc (ax_v_ld (ax_r_aload_n (i := 0) d_R_putForm_47 rfl)) (ax_fc (ax_w_gf (e := (some (g, 0))) hal d_R_putForm_48 fd_R_35) (ax_fc (ax_w_gf (e := none) hal d_R_putForm_51 fd_R_107) (ax_fc (ax_v_pu (ax_r_iconst (v := 3) d_R_putForm_54 (by decide))) (ax_fc (ax_w_iald hal d_R_putForm_55) ax_fn)))))) (y := (56, [(0, .inr (0, 25)), (1, .inl (.int (x1))), (2, .inl (.int (x2)))], [.inl (.int ((s.1 g 1 ((3 : Int32)).toNatClampNeg))), .inl (.int (x2))], ax_m (s) ρ)) rfl ⟨trivial, trivial, ⟨(h0 25 rfl), hr.1⟩, (hg 0 rfl), trivial, ⟨(hg 1 rfl), ax_inp b10⟩, trivial⟩ ?_
    refine ax_ic_ge (tgt := 70) hK d_R_putForm_56 (by decide) (fun c13 => ?_) (fun c13 => ?_)
    · replace h := ax_it c13 h
      cases h
      exact ax_Lsub [0, 1] rfl (KE _ rfl)
    · replace h := ax_if c13 h
      refine ax_bk hK (ax_fc (ax_v_ld (ax_r_aload_n (i := 0) d_R_putForm_59 rfl)) (ax_fc (ax_v_ld (ax_r_iload_n (i := 2) d_R_putForm_60 rfl)) ax_fn)) (y := (61, [(0, .inr (0, 25)), (1, .inl (.int (x1))), (2, .inl (.int (x2)))], [.inl (.int (x2)), .inr (0, 25)], ax_m (s) ρ)) rfl ⟨trivial, trivial, trivial⟩ ?_
      obtain ⟨s11, q12, h⟩ := ax_bd h
      refine ax_bV (rest := []) hB (t_R_putTable h0 hg hr q12) cw_R_294 im_R_putTable se_R_putTable d_R_putForm_61 (h0 25 rfl) rfl rfl (by decide) (by decide) rfl rfl (Nat.le_of_ble_eq_true rfl) ?_
      change ax_R G 3 0 0 (64, [(0, .inr (0, 25)), (1, .inl (.int (x1))), (2, .inl (.int (x2)))], [], ax_m (s11) ρ)
      refine ax_bk hK (ax_fc (ax_v_ii (d := 1) d_R_putForm_64 (by decide)) (ax_fc (ax_v_go (tgt := 46) d_R_putForm_67 (by decide)) ax_fn)) (y := (46, [(2, .inl (.int ((x2 + (1 : Int32))))), (0, .inr (0, 25)), (1, .inl (.int (x1)))], [], ax_m (s11) ρ)) rfl ⟨trivial, trivial, trivial⟩ ?_
      exact ax_Lsub [1, 2, 0] rfl (ih _ h KE)
def lp_R_putForm_70 (F : Nat) (g : Nat) (s : ax_σ) : Nat → Int32 → Option (Int32)
  | 0, _ => none
  | n + 1, x1 =>
    Option.bind (
      if (s.1 0 25 2) ≤ x1 then
        some true
      else
        bif ax_in x1 241 then
        if (s.1 0 26 (x1).toNatClampNeg) = (123 : Int32) then
          some true
        else
          some false
        else none) (fun w18 => bif w18 then
      some x1
    else
      lp_R_putForm_70 F g s n (x1 + (1 : Int32)))
set_option maxHeartbeats 4000000 in
set_option maxRecDepth 100000 in
theorem pl_R_putForm_70 {D : va_G} {cA : Nat → ClassId} {ad : Nat → Nat → Nat} {al : List (Nat × Nat)} {θ : ax_Θ} {l : Launch} {ρ : ax_ρ} {G : ax_G} {F g : Nat} {s : ax_σ} (h0 : ax_M0 al) (hg : ax_Mg al g) (hr : ax_rd ρ g) (hB : ax_B D cA ad al θ l "CipherNotation$Reader" prog_6_method_35_code 3 5 G) : ∀ (n : Nat) {x1 : Int32} (out : Int32), lp_R_putForm_70 F g s n x1 = some out → (∀ (e1 : Int32), out = e1 → ax_R G 3 0 0 (95, [(0, .inr (0, 25)), (1, .inl (.int (e1)))], [], ax_m (s) ρ)) → ax_R G 3 0 0 (70, [(0, .inr (0, 25)), (1, .inl (.int (x1)))], [], ax_m (s) ρ) := by
  have hK := hB.K
  have hal := hB.la
  intro n
  induction n with
  | zero =>
    intro x1 out h
    cases h
  | succ n ih =>
    intro x1 out h KE
    rw [lp_R_putForm_70] at h
    refine ax_bk hK (ax_fc (ax_v_ld (ax_r_iload_n (i := 1) d_R_putForm_70 rfl)) (ax_fc (ax_v_ld (ax_r_aload_n (i := 0) d_R_putForm_71 rfl)) (ax_fc (ax_w_gf (e := none) hal d_R_putForm_72 fd_R_75) ax_fn))) (y := (75, [(0, .inr (0, 25)), (1, .inl (.int (x1)))], [.inl (.int ((s.1 0 25 2))), .inl (.int (x1))], ax_m (s) ρ)) rfl ⟨trivial, trivial, (h0 25 rfl), trivial⟩ ?_
    obtain ⟨w18, hw18, h⟩ := ax_bd h
    have KTw18 : w18 = true → ax_R G 3 0 0 (95, [(0, .inr (0, 25)), (1, .inl (.int (x1)))], [], ax_m (s) ρ) := by
      intro e9
      subst w18
      replace h := ax_ct h
      cases h
      exact ax_Lsub [0, 1] rfl (KE _ rfl)
    have KFw18 : w18 = false → ax_R G 3 0 0 (89, [(0, .inr (0, 25)), (1, .inl (.int (x1)))], [], ax_m (s) ρ) := by
      intro e9
      subst w18
      replace h := ax_cf h
      refine ax_bk hK (ax_fc (ax_v_ii (d := 1) d_R_putForm_89 (by decide)) (ax_fc (ax_v_go (tgt := 70) d_R_putForm_92 (by decide)) ax_fn)) (y := (70, [(1, .inl (.int ((x1 + (1 : Int32))))), (0, .inr (0, 25))], [], ax_m (s) ρ)) rfl ⟨trivial, trivial, trivial⟩ ?_
      exact ax_Lsub [1, 0] rfl (ih _ h KE)
    clear h
    have h := hw18
    refine ax_ic_ge (tgt := 95) hK d_R_putForm_75 (by decide) (fun c17 => ?_) (fun c17 => ?_)
    · replace h := ax_it c17 h
      cases h
      exact ax_Lsub [0, 1] rfl (KTw18 rfl)
    · replace h := ax_if c17 h
      obtain ⟨b15, h⟩ := ax_gd h
      refine ax_bk hK (ax_fc (ax_v_ld (ax_r_aload_n (i := 0) d_R_putForm_78 rfl)) (ax_fc (ax_w_gf (e := none) hal d_R_putForm_79 fd_R_11) (ax_fc (ax_v_ld (ax_r_iload_n (i := 1) d_R_putForm_82 rfl)) (ax_fc (ax_w_cald hal d_R_putForm_83) (ax_fc (ax_v_pu (ax_r_bipush (v := 123) d_R_putForm_84 (by decide))) ax_fn))))) (y := (86, [(0, .inr (0, 25)), (1, .inl (.int (x1)))], [.inl (.int ((123 : Int32))), .inl (.int ((s.1 0 26 (x1).toNatClampNeg)))], ax_m (s) ρ)) rfl ⟨trivial, (h0 25 rfl), trivial, ⟨(h0 26 rfl), ax_inp b15⟩, trivial, trivial⟩ ?_
      refine ax_ic_eq (tgt := 95) hK d_R_putForm_86 (by decide) (fun c16 => ?_) (fun c16 => ?_)
      · replace h := ax_it c16 h
        cases h
        exact ax_Lsub [0, 1] rfl (KTw18 rfl)
      · replace h := ax_if c16 h
        cases h
        exact ax_Lsub [0, 1] rfl (KFw18 rfl)
set_option maxRecDepth 100000 in
theorem cw_R_291 : ax_cw "CipherNotation$Reader" 291 y_R_putSigns (.code y_R_putSigns prog_6_method_37_code 6 none) 2 := ⟨nw_3 97 (by decide +kernel) rfl, nw_1 2 (by decide +kernel) rfl, nw_3 100 rfl rfl, by decide +kernel, by decide +kernel⟩
theorem im_R_putSigns : Cond.instanceMethod y_R_putSigns ∈ ax_tbl := nw_3 99 (by decide +kernel) rfl
theorem se_R_putSigns : Cond.selects y_R_putSigns.cls y_R_putSigns y_R_putSigns ∈ ax_tbl := nw_sel 31 (by decide +kernel) (by decide +kernel)
def f_R_putForm (F : Nat) (g : Nat) (s : ax_σ) : Option (ax_σ) :=
  Option.bind (lp_R_putForm_2 F g s F (0 : Int32)) (fun v7 =>
    Option.bind (f_R_putSigns F g (0 : Int32) v7 s) (fun s8 =>
      Option.bind (lp_R_putForm_46 F g v7 F (0 : Int32) s8) (fun s14 =>
        Option.bind (lp_R_putForm_70 F g s14 F v7) (fun v19 =>
          Option.bind (f_R_putSigns F g v19 (s14.1 0 25 2) s14) (fun s20 =>
            some (s20))))))
set_option maxHeartbeats 4000000 in
set_option maxRecDepth 100000 in
theorem t_R_putForm {l : Launch} {D : va_G} {cA : Nat → ClassId} {ad : Nat → Nat → Nat} {al : List (Nat × Nat)} {θ : ax_Θ} {ρ : ax_ρ} {F : Nat} {g : Nat} (h0 : ax_M0 al) (hg : ax_Mg al g) (hr : ax_rd ρ g)  {s : ax_σ} {s0 : ax_σ} (h : f_R_putForm F g s = some s0) : ax_T l D cA ad al θ y_R_putForm (.code y_R_putForm prog_6_method_35_code 3 none) 5 [.inr (0, 25)] (ax_m s ρ) none (ax_m s0 ρ) := by
  refine ax_T_of (own := "CipherNotation$Reader") (by decide) rfl (Nat.le_of_ble_eq_true rfl) [(0, .inr (0, 25))] rfl ?_
  intro G hA
  have hB := hA.B
  have hK := hB.K
  have hal := hB.la
  unfold f_R_putForm at h
  refine ax_bk hK (ax_fc (ax_v_pu (ax_r_iconst (v := 0) d_R_putForm_0 (by decide))) (ax_fc (ax_v_so (ax_r_istore_n (i := 1) d_R_putForm_1 rfl)) ax_fn)) (y := (2, [(1, .inl (.int ((0 : Int32)))), (0, .inr (0, 25))], [], ax_m (s) ρ)) rfl ⟨trivial, trivial, trivial⟩ ?_
  obtain ⟨w22, hw22, h⟩ := ax_bd h
  refine ax_Lsub [1, 0] rfl (pl_R_putForm_2 h0 hg hr hB F _ hw22 ?_)
  intro v7 e9
  subst w22
  try dsimp only at h
  change ax_R G 3 0 0 (38, [(0, .inr (0, 25)), (1, .inl (.int (v7)))], [], ax_m (s) ρ)
  refine ax_bk hK (ax_fc (ax_v_ld (ax_r_aload_n (i := 0) d_R_putForm_38 rfl)) (ax_fc (ax_v_pu (ax_r_iconst (v := 0) d_R_putForm_39 (by decide))) (ax_fc (ax_v_ld (ax_r_iload_n (i := 1) d_R_putForm_40 rfl)) ax_fn))) (y := (41, [(0, .inr (0, 25)), (1, .inl (.int (v7)))], [.inl (.int (v7)), .inl (.int ((0 : Int32))), .inr (0, 25)], ax_m (s) ρ)) rfl ⟨trivial, trivial, trivial, trivial⟩ ?_
  obtain ⟨s8, q9, h⟩ := ax_bd h
  refine ax_bV (rest := []) hB (t_R_putSigns h0 hg hr q9) cw_R_291 im_R_putSigns se_R_putSigns d_R_putForm_41 (h0 25 rfl) rfl rfl (by decide) (by decide) rfl rfl (Nat.le_of_ble_eq_true rfl) ?_
  change ax_R G 3 0 0 (44, [(0, .inr (0, 25)), (1, .inl (.int (v7)))], [], ax_m (s8) ρ)
  refine ax_bk hK (ax_fc (ax_v_pu (ax_r_iconst (v := 0) d_R_putForm_44 (by decide))) (ax_fc (ax_v_so (ax_r_istore_n (i := 2) d_R_putForm_45 rfl)) ax_fn)) (y := (46, [(2, .inl (.int ((0 : Int32)))), (0, .inr (0, 25)), (1, .inl (.int (v7)))], [], ax_m (s8) ρ)) rfl ⟨trivial, trivial, trivial⟩ ?_
  obtain ⟨w23, hw23, h⟩ := ax_bd h
  refine ax_Lsub [1, 2, 0] rfl (pl_R_putForm_46 h0 hg hr hB F _ hw23 ?_)
  intro s14 e9
  subst w23
  try dsimp only at h
  change ax_R G 3 0 0 (70, [(0, .inr (0, 25)), (1, .inl (.int (v7)))], [], ax_m (s14) ρ)
  obtain ⟨w24, hw24, h⟩ := ax_bd h
  refine ax_Lsub [0, 1] rfl (pl_R_putForm_70 h0 hg hr hB F _ hw24 ?_)
  intro v19 e9
  subst w24
  try dsimp only at h
  change ax_R G 3 0 0 (95, [(0, .inr (0, 25)), (1, .inl (.int (v19)))], [], ax_m (s14) ρ)
  refine ax_bk hK (ax_fc (ax_v_ld (ax_r_aload_n (i := 0) d_R_putForm_95 rfl)) (ax_fc (ax_v_ld (ax_r_iload_n (i := 1) d_R_putForm_96 rfl)) (ax_fc (ax_v_ld (ax_r_aload_n (i := 0) d_R_putForm_97 rfl)) (ax_fc (ax_w_gf (e := none) hal d_R_putForm_98 fd_R_75) ax_fn)))) (y := (101, [(0, .inr (0, 25)), (1, .inl (.int (v19)))], [.inl (.int ((s14.1 0 25 2))), .inl (.int (v19)), .inr (0, 25)], ax_m (s14) ρ)) rfl ⟨trivial, trivial, trivial, (h0 25 rfl), trivial⟩ ?_
  obtain ⟨s20, q21, h⟩ := ax_bd h
  refine ax_bV (rest := []) hB (t_R_putSigns h0 hg hr q21) cw_R_291 im_R_putSigns se_R_putSigns d_R_putForm_101 (h0 25 rfl) rfl rfl (by decide) (by decide) rfl rfl (Nat.le_of_ble_eq_true rfl) ?_
  change ax_R G 3 0 0 (104, [(0, .inr (0, 25)), (1, .inl (.int (v19)))], [], ax_m (s20) ρ)
  cases h
  exact ax_vret hA d_R_putForm_104
def y_R_read : MethodName := ⟨"CipherNotation$Reader", "read", "([CILCipherNotation$Program;)I"⟩
theorem d_R_read_0 : decode prog_6_method_2_code 0 = .ok (.aload_n 0, 1) := by decide +kernel
theorem d_R_read_1 : decode prog_6_method_2_code 1 = .ok (.aload_n 3, 1) := by decide +kernel
theorem d_R_read_2 : decode prog_6_method_2_code 2 = .ok (.putfield (35), 3) := by decide +kernel
theorem d_R_read_5 : decode prog_6_method_2_code 5 = .ok (.aload_n 0, 1) := by decide +kernel
theorem d_R_read_6 : decode prog_6_method_2_code 6 = .ok (.aload_n 3, 1) := by decide +kernel
theorem d_R_read_7 : decode prog_6_method_2_code 7 = .ok (.getfield (39), 3) := by decide +kernel
theorem d_R_read_10 : decode prog_6_method_2_code 10 = .ok (.putfield (45), 3) := by decide +kernel
theorem d_R_read_13 : decode prog_6_method_2_code 13 = .ok (.aload_n 0, 1) := by decide +kernel
theorem d_R_read_14 : decode prog_6_method_2_code 14 = .ok (.aload_n 3, 1) := by decide +kernel
theorem d_R_read_15 : decode prog_6_method_2_code 15 = .ok (.getfield (46), 3) := by decide +kernel
theorem d_R_read_18 : decode prog_6_method_2_code 18 = .ok (.putfield (50), 3) := by decide +kernel
theorem d_R_read_21 : decode prog_6_method_2_code 21 = .ok (.aload_n 3, 1) := by decide +kernel
theorem d_R_read_22 : decode prog_6_method_2_code 22 = .ok (.invokevirtual (51), 3) := by decide +kernel
theorem d_R_read_25 : decode prog_6_method_2_code 25 = .ok (.aload_n 0, 1) := by decide +kernel
theorem d_R_read_26 : decode prog_6_method_2_code 26 = .ok (.sipush (1928), 3) := by decide +kernel
theorem d_R_read_29 : decode prog_6_method_2_code 29 = .ok (.putfield (54), 3) := by decide +kernel
theorem d_R_read_32 : decode prog_6_method_2_code 32 = .ok (.aload_n 0, 1) := by decide +kernel
theorem d_R_read_33 : decode prog_6_method_2_code 33 = .ok (.aload_n 1, 1) := by decide +kernel
theorem d_R_read_34 : decode prog_6_method_2_code 34 = .ok (.iload_n 2, 1) := by decide +kernel
theorem d_R_read_35 : decode prog_6_method_2_code 35 = .ok (.invokevirtual (57), 3) := by decide +kernel
theorem d_R_read_38 : decode prog_6_method_2_code 38 = .ok (.aload_n 0, 1) := by decide +kernel
theorem d_R_read_39 : decode prog_6_method_2_code 39 = .ok (.invokevirtual (61), 3) := by decide +kernel
theorem d_R_read_42 : decode prog_6_method_2_code 42 = .ok (.ifCond .eq (37), 3) := by decide +kernel
theorem d_R_read_45 : decode prog_6_method_2_code 45 = .ok (.aload_n 0, 1) := by decide +kernel
theorem d_R_read_46 : decode prog_6_method_2_code 46 = .ok (.invokevirtual (65), 3) := by decide +kernel
theorem d_R_read_49 : decode prog_6_method_2_code 49 = .ok (.ifCond .eq (30), 3) := by decide +kernel
theorem d_R_read_52 : decode prog_6_method_2_code 52 = .ok (.aload_n 0, 1) := by decide +kernel
theorem d_R_read_53 : decode prog_6_method_2_code 53 = .ok (.iconst 1, 1) := by decide +kernel
theorem d_R_read_54 : decode prog_6_method_2_code 54 = .ok (.invokevirtual (68), 3) := by decide +kernel
theorem d_R_read_57 : decode prog_6_method_2_code 57 = .ok (.ifCond .eq (22), 3) := by decide +kernel
theorem d_R_read_60 : decode prog_6_method_2_code 60 = .ok (.aload_n 0, 1) := by decide +kernel
theorem d_R_read_61 : decode prog_6_method_2_code 61 = .ok (.iconst 0, 1) := by decide +kernel
theorem d_R_read_62 : decode prog_6_method_2_code 62 = .ok (.invokevirtual (68), 3) := by decide +kernel
theorem d_R_read_65 : decode prog_6_method_2_code 65 = .ok (.ifCond .eq (14), 3) := by decide +kernel
theorem d_R_read_68 : decode prog_6_method_2_code 68 = .ok (.aload_n 0, 1) := by decide +kernel
theorem d_R_read_69 : decode prog_6_method_2_code 69 = .ok (.getfield (72), 3) := by decide +kernel
theorem d_R_read_72 : decode prog_6_method_2_code 72 = .ok (.aload_n 0, 1) := by decide +kernel
theorem d_R_read_73 : decode prog_6_method_2_code 73 = .ok (.getfield (75), 3) := by decide +kernel
theorem d_R_read_76 : decode prog_6_method_2_code 76 = .ok (.if_icmp .eq (18), 3) := by decide +kernel
theorem d_R_read_79 : decode prog_6_method_2_code 79 = .ok (.aload_n 0, 1) := by decide +kernel
theorem d_R_read_80 : decode prog_6_method_2_code 80 = .ok (.aload_n 0, 1) := by decide +kernel
theorem d_R_read_81 : decode prog_6_method_2_code 81 = .ok (.getfield (15), 3) := by decide +kernel
theorem d_R_read_84 : decode prog_6_method_2_code 84 = .ok (.aload_n 0, 1) := by decide +kernel
theorem d_R_read_85 : decode prog_6_method_2_code 85 = .ok (.getfield (72), 3) := by decide +kernel
theorem d_R_read_88 : decode prog_6_method_2_code 88 = .ok (.iaload, 1) := by decide +kernel
theorem d_R_read_89 : decode prog_6_method_2_code 89 = .ok (.putfield (31), 3) := by decide +kernel
theorem d_R_read_92 : decode prog_6_method_2_code 92 = .ok (.iconst 1, 1) := by decide +kernel
theorem d_R_read_93 : decode prog_6_method_2_code 93 = .ok (.ireturn, 1) := by decide +kernel
theorem d_R_read_94 : decode prog_6_method_2_code 94 = .ok (.aload_n 0, 1) := by decide +kernel
theorem d_R_read_95 : decode prog_6_method_2_code 95 = .ok (.invokevirtual (78), 3) := by decide +kernel
theorem d_R_read_98 : decode prog_6_method_2_code 98 = .ok (.aload_n 0, 1) := by decide +kernel
theorem d_R_read_99 : decode prog_6_method_2_code 99 = .ok (.getfield (54), 3) := by decide +kernel
theorem d_R_read_102 : decode prog_6_method_2_code 102 = .ok (.sipush (1928), 3) := by decide +kernel
theorem d_R_read_105 : decode prog_6_method_2_code 105 = .ok (.if_icmp .eq (22), 3) := by decide +kernel
theorem d_R_read_108 : decode prog_6_method_2_code 108 = .ok (.aload_n 0, 1) := by decide +kernel
theorem d_R_read_109 : decode prog_6_method_2_code 109 = .ok (.aload_n 0, 1) := by decide +kernel
theorem d_R_read_110 : decode prog_6_method_2_code 110 = .ok (.getfield (54), 3) := by decide +kernel
theorem d_R_read_113 : decode prog_6_method_2_code 113 = .ok (.bipush (8), 2) := by decide +kernel
theorem d_R_read_115 : decode prog_6_method_2_code 115 = .ok (.idiv, 1) := by decide +kernel
theorem d_R_read_116 : decode prog_6_method_2_code 116 = .ok (.putfield (31), 3) := by decide +kernel
theorem d_R_read_119 : decode prog_6_method_2_code 119 = .ok (.aload_n 0, 1) := by decide +kernel
theorem d_R_read_120 : decode prog_6_method_2_code 120 = .ok (.getfield (54), 3) := by decide +kernel
theorem d_R_read_123 : decode prog_6_method_2_code 123 = .ok (.bipush (8), 2) := by decide +kernel
theorem d_R_read_125 : decode prog_6_method_2_code 125 = .ok (.irem, 1) := by decide +kernel
theorem d_R_read_126 : decode prog_6_method_2_code 126 = .ok (.ireturn, 1) := by decide +kernel
theorem d_R_read_127 : decode prog_6_method_2_code 127 = .ok (.aload_n 0, 1) := by decide +kernel
theorem d_R_read_128 : decode prog_6_method_2_code 128 = .ok (.iconst (-1), 1) := by decide +kernel
theorem d_R_read_129 : decode prog_6_method_2_code 129 = .ok (.putfield (31), 3) := by decide +kernel
theorem d_R_read_132 : decode prog_6_method_2_code 132 = .ok (.aload_n 3, 1) := by decide +kernel
theorem d_R_read_133 : decode prog_6_method_2_code 133 = .ok (.invokevirtual (81), 3) := by decide +kernel
theorem d_R_read_136 : decode prog_6_method_2_code 136 = .ok (.ifCond .eq (6), 3) := by decide +kernel
theorem d_R_read_139 : decode prog_6_method_2_code 139 = .ok (.bipush (6), 2) := by decide +kernel
theorem d_R_read_141 : decode prog_6_method_2_code 141 = .ok (.ireturn, 1) := by decide +kernel
theorem d_R_read_142 : decode prog_6_method_2_code 142 = .ok (.aload_n 3, 1) := by decide +kernel
theorem d_R_read_143 : decode prog_6_method_2_code 143 = .ok (.invokevirtual (84), 3) := by decide +kernel
theorem d_R_read_146 : decode prog_6_method_2_code 146 = .ok (.aload_n 0, 1) := by decide +kernel
theorem d_R_read_147 : decode prog_6_method_2_code 147 = .ok (.invokevirtual (87), 3) := by decide +kernel
theorem d_R_read_150 : decode prog_6_method_2_code 150 = .ok (.iconst 0, 1) := by decide +kernel
theorem d_R_read_151 : decode prog_6_method_2_code 151 = .ok (.ireturn, 1) := by decide +kernel
theorem fp_R_35 : ax_fp "CipherNotation$Reader" 35 4 4 (.object "CipherNotation$Program") := ⟨nC4, nT4, 15, nY4, rfl, nW4, by decide, nw_1 38 (by decide +kernel) rfl, nO4, nA4, by decide +kernel, by decide +kernel⟩
theorem fd_R_39 : ax_fd "CipherNotation$Reader" 39 3 3 := ⟨nC3, nT3, 9, nY3, rfl, nW3, by decide, nw_1 230 (by decide +kernel) rfl, nO3, nA3⟩
theorem fp_R_45 : ax_fp "CipherNotation$Reader" 45 4 5 (.object "CipherNotation$Code") := ⟨nC4, nT4, 15, nY4, rfl, nW4, by decide, nw_1 39 (by decide +kernel) rfl, nO4, nA4, by decide +kernel, by decide +kernel⟩
theorem fd_R_46 : ax_fd "CipherNotation$Reader" 46 3 4 := ⟨nC3, nT3, 9, nY3, rfl, nW3, by decide, nw_1 233 (by decide +kernel) rfl, nO3, nA3⟩
theorem fp_R_50 : ax_fp "CipherNotation$Reader" 50 4 6 (.object "CipherNotation$Lines") := ⟨nC4, nT4, 15, nY4, rfl, nW4, by decide, nw_1 40 (by decide +kernel) rfl, nO4, nA4, by decide +kernel, by decide +kernel⟩
set_option maxRecDepth 100000 in
theorem cw_R_51 : ax_cw "CipherNotation$Reader" 51 y_P_clear (.code y_P_clear prog_5_method_2_code 2 none) 0 := ⟨nw_2 61 (by decide +kernel) rfl, nw_1 4 (by decide +kernel) rfl, nw_2 64 rfl rfl, by decide +kernel, by decide +kernel⟩
theorem im_P_clear : Cond.instanceMethod y_P_clear ∈ ax_tbl := nw_2 62 (by decide +kernel) rfl
theorem se_P_clear : Cond.selects y_P_clear.cls y_P_clear y_P_clear ∈ ax_tbl := nw_2 63 (by decide +kernel) rfl
set_option maxRecDepth 100000 in
theorem cw_R_57 : ax_cw "CipherNotation$Reader" 57 y_R_leaveOutBlanks (.code y_R_leaveOutBlanks prog_6_method_3_code 4 none) 2 := ⟨nw_2 65 (by decide +kernel) rfl, nw_1 2 (by decide +kernel) rfl, nw_2 68 rfl rfl, by decide +kernel, by decide +kernel⟩
theorem im_R_leaveOutBlanks : Cond.instanceMethod y_R_leaveOutBlanks ∈ ax_tbl := nw_2 67 (by decide +kernel) rfl
theorem se_R_leaveOutBlanks : Cond.selects y_R_leaveOutBlanks.cls y_R_leaveOutBlanks y_R_leaveOutBlanks ∈ ax_tbl := nw_sel 0 (by decide +kernel) (by decide +kernel)
set_option maxRecDepth 100000 in
theorem cw_R_61 : ax_cw "CipherNotation$Reader" 61 y_R_sizes (.code y_R_sizes prog_6_method_11_code 4 (some .boolean)) 0 := ⟨nw_2 69 (by decide +kernel) rfl, nw_1 2 (by decide +kernel) rfl, nw_2 72 rfl rfl, by decide +kernel, by decide +kernel⟩
theorem im_R_sizes : Cond.instanceMethod y_R_sizes ∈ ax_tbl := nw_2 71 (by decide +kernel) rfl
theorem se_R_sizes : Cond.selects y_R_sizes.cls y_R_sizes y_R_sizes ∈ ax_tbl := nw_sel 1 (by decide +kernel) (by decide +kernel)
theorem fp_R_31 : ax_fp "CipherNotation$Reader" 31 4 14 (.int) := ⟨nC4, nT4, 15, nY4, rfl, nW4, by decide, nw_1 48 (by decide +kernel) rfl, nO4, nA4, by decide +kernel, by decide +kernel⟩
set_option maxRecDepth 100000 in
theorem cw_R_65 : ax_cw "CipherNotation$Reader" 65 y_R_tables (.code y_R_tables prog_6_method_13_code 3 (some .boolean)) 0 := ⟨nw_2 95 (by decide +kernel) rfl, nw_1 2 (by decide +kernel) rfl, nw_2 98 rfl rfl, by decide +kernel, by decide +kernel⟩
theorem im_R_tables : Cond.instanceMethod y_R_tables ∈ ax_tbl := nw_2 97 (by decide +kernel) rfl
theorem se_R_tables : Cond.selects y_R_tables.cls y_R_tables y_R_tables ∈ ax_tbl := nw_sel 5 (by decide +kernel) (by decide +kernel)
set_option maxRecDepth 100000 in
theorem cw_R_68 : ax_cw "CipherNotation$Reader" 68 y_R_block (.code y_R_block prog_6_method_16_code 4 (some .boolean)) 1 := ⟨nw_2 196 (by decide +kernel) rfl, nw_1 2 (by decide +kernel) rfl, nw_2 199 rfl rfl, by decide +kernel, by decide +kernel⟩
theorem im_R_block : Cond.instanceMethod y_R_block ∈ ax_tbl := nw_2 198 (by decide +kernel) rfl
theorem se_R_block : Cond.selects y_R_block.cls y_R_block y_R_block ∈ ax_tbl := nw_sel 8 (by decide +kernel) (by decide +kernel)
set_option maxRecDepth 100000 in
theorem cw_R_78 : ax_cw "CipherNotation$Reader" 78 y_R_checkIndexes (.code y_R_checkIndexes prog_6_method_32_code 3 none) 0 := ⟨nw_3 70 (by decide +kernel) rfl, nw_1 2 (by decide +kernel) rfl, nw_3 73 rfl rfl, by decide +kernel, by decide +kernel⟩
theorem im_R_checkIndexes : Cond.instanceMethod y_R_checkIndexes ∈ ax_tbl := nw_3 72 (by decide +kernel) rfl
theorem se_R_checkIndexes : Cond.selects y_R_checkIndexes.cls y_R_checkIndexes y_R_checkIndexes ∈ ax_tbl := nw_sel 27 (by decide +kernel) (by decide +kernel)
set_option maxRecDepth 100000 in
theorem cw_R_81 : ax_cw "CipherNotation$Reader" 81 y_P_isTooLarge (.code y_P_isTooLarge prog_5_method_3_code 1 (some .boolean)) 0 := ⟨nw_3 85 (by decide +kernel) rfl, nw_1 4 (by decide +kernel) rfl, nw_3 88 rfl rfl, by decide +kernel, by decide +kernel⟩
theorem im_P_isTooLarge : Cond.instanceMethod y_P_isTooLarge ∈ ax_tbl := nw_3 86 (by decide +kernel) rfl
theorem se_P_isTooLarge : Cond.selects y_P_isTooLarge.cls y_P_isTooLarge y_P_isTooLarge ∈ ax_tbl := nw_3 87 (by decide +kernel) rfl
set_option maxRecDepth 100000 in
theorem cw_R_84 : ax_cw "CipherNotation$Reader" 84 y_P_layOut (.code y_P_layOut prog_5_method_6_code 7 none) 0 := ⟨nw_3 89 (by decide +kernel) rfl, nw_1 4 (by decide +kernel) rfl, nw_3 92 rfl rfl, by decide +kernel, by decide +kernel⟩
theorem im_P_layOut : Cond.instanceMethod y_P_layOut ∈ ax_tbl := nw_3 90 (by decide +kernel) rfl
theorem se_P_layOut : Cond.selects y_P_layOut.cls y_P_layOut y_P_layOut ∈ ax_tbl := nw_3 91 (by decide +kernel) rfl
set_option maxRecDepth 100000 in
theorem cw_R_87 : ax_cw "CipherNotation$Reader" 87 y_R_putForm (.code y_R_putForm prog_6_method_35_code 3 none) 0 := ⟨nw_3 93 (by decide +kernel) rfl, nw_1 2 (by decide +kernel) rfl, nw_3 96 rfl rfl, by decide +kernel, by decide +kernel⟩
theorem im_R_putForm : Cond.instanceMethod y_R_putForm ∈ ax_tbl := nw_3 95 (by decide +kernel) rfl
theorem se_R_putForm : Cond.selects y_R_putForm.cls y_R_putForm y_R_putForm ∈ ax_tbl := nw_sel 30 (by decide +kernel) (by decide +kernel)
def f_R_read (F : Nat) (g : Nat) (a2 : Int32) (s : ax_σ) : Option (Int32 × ax_σ) :=
  Option.bind (f_P_clear F g s) (fun s1 =>
    ax_let (ax_wI s1 0 25 7 (1928 : Int32)) (fun s3 =>
      Option.bind (f_R_leaveOutBlanks F g a2 s3) (fun s4 =>
        Option.bind (f_R_sizes F g s4) (fun (r6, s7) =>
          if r6 = (0 : Int32) then
            bif ax_in (s7.1 0 25 3) 241 then
            ax_let (ax_wI s7 0 25 14 (s7.1 0 27 ((s7.1 0 25 3)).toNatClampNeg)) (fun s10 =>
              some (((1 : Int32), s10)))
            else none
          else
            Option.bind (f_R_tables F g s7) (fun (r11, s12) =>
              if r11 = (0 : Int32) then
                bif ax_in (s12.1 0 25 3) 241 then
                ax_let (ax_wI s12 0 25 14 (s12.1 0 27 ((s12.1 0 25 3)).toNatClampNeg)) (fun s15 =>
                  some (((1 : Int32), s15)))
                else none
              else
                Option.bind (f_R_block F g (1 : Int32) s12) (fun (r16, s17) =>
                  if r16 = (0 : Int32) then
                    bif ax_in (s17.1 0 25 3) 241 then
                    ax_let (ax_wI s17 0 25 14 (s17.1 0 27 ((s17.1 0 25 3)).toNatClampNeg)) (fun s20 =>
                      some (((1 : Int32), s20)))
                    else none
                  else
                    Option.bind (f_R_block F g (0 : Int32) s17) (fun (r21, s22) =>
                      Option.bind (
                        if r21 = (0 : Int32) then
                          some true
                        else
                          if (s22.1 0 25 3) = (s22.1 0 25 2) then
                            some false
                          else
                            some true) (fun w40 => bif w40 then
                        bif ax_in (s22.1 0 25 3) 241 then
                        ax_let (ax_wI s22 0 25 14 (s22.1 0 27 ((s22.1 0 25 3)).toNatClampNeg)) (fun s27 =>
                          some (((1 : Int32), s27)))
                        else none
                      else
                        Option.bind (f_R_checkIndexes F g s22) (fun s28 =>
                          if (s28.1 0 25 7) = (1928 : Int32) then
                            ax_let (ax_wI s28 0 25 14 (-1 : Int32)) (fun s30 =>
                              Option.bind (f_P_isTooLarge g s30) (fun r31 =>
                                if r31 = (0 : Int32) then
                                  Option.bind (f_P_layOut F g s30) (fun s33 =>
                                    Option.bind (f_R_putForm F g s33) (fun s35 =>
                                      some (((0 : Int32), s35))))
                                else
                                  some (((6 : Int32), s30))))
                          else
                            ax_let (ax_wI s28 0 25 14 ((s28.1 0 25 7) / (8 : Int32))) (fun s38 =>
                              some ((((s38.1 0 25 7) - (s38.1 0 25 7) / (8 : Int32) * (8 : Int32)), s38))))))))))))
set_option maxHeartbeats 4000000 in
set_option maxRecDepth 100000 in
theorem t_R_read {l : Launch} {D : va_G} {cA : Nat → ClassId} {ad : Nat → Nat → Nat} {al : List (Nat × Nat)} {θ : ax_Θ} {ρ : ax_ρ} {F : Nat} {g : Nat} (h0 : ax_M0 al) (hg : ax_Mg al g) {a2 : Int32} {s : ax_σ} {r0 : Int32} {s0 : ax_σ} (h : f_R_read F g a2 s = some (r0, s0)) : ax_T l D cA ad al θ y_R_read (.code y_R_read prog_6_method_2_code 4 (some .int)) 41 [.inr (0, 25), .inr (0, 24), .inl (.int (a2)), .inr (g, 0)] (ax_m s ρ) (some (.inl (.int r0))) (ax_m s0 (ax_uR (ax_uR (ax_uR ρ 0 25 4 (some (g, 0))) 0 25 5 (some (g, 4))) 0 25 6 (some (g, 13)))) := by
  refine ax_T_of (own := "CipherNotation$Reader") (by decide) rfl (Nat.le_of_ble_eq_true rfl) [(0, .inr (0, 25)), (1, .inr (0, 24)), (2, .inl (.int (a2))), (3, .inr (g, 0))] rfl ?_
  intro G hA
  have hB := hA.B
  have hK := hB.K
  have hal := hB.la
  unfold f_R_read at h
  refine ax_bk hK (ax_fc (ax_v_ld (ax_r_aload_n (i := 0) d_R_read_0 rfl)) (ax_fc (ax_v_ld (ax_r_aload_n (i := 3) d_R_read_1 rfl)) (ax_fc (ax_w_pf (tc := 3) hal d_R_read_2 fp_R_35 (Or.inl ⟨_, rfl⟩)) ax_fn))) (y := (5, [(0, .inr (0, 25)), (1, .inr (0, 24)), (2, .inl (.int (a2))), (3, .inr (g, 0))], [], ax_m (s) (ax_uR ρ 0 25 4 (some (g, 0))))) rfl ⟨trivial, trivial, (h0 25 rfl), trivial⟩ ?_
  refine ax_bk hK (ax_fc (ax_v_ld (ax_r_aload_n (i := 0) d_R_read_5 rfl)) (ax_fc (ax_v_ld (ax_r_aload_n (i := 3) d_R_read_6 rfl)) (ax_fc (ax_w_gf (e := none) hal d_R_read_7 fd_R_39) (ax_fc (ax_w_pf (tc := 3) hal d_R_read_10 fp_R_45 (Or.inl ⟨_, rfl⟩)) ax_fn)))) (y := (13, [(0, .inr (0, 25)), (1, .inr (0, 24)), (2, .inl (.int (a2))), (3, .inr (g, 0))], [], ax_m (s) (ax_uR (ax_uR ρ 0 25 4 (some (g, 0))) 0 25 5 (some (g, 4))))) rfl ⟨trivial, trivial, (hg 0 rfl), (h0 25 rfl), trivial⟩ ?_
  refine ax_bk hK (ax_fc (ax_v_ld (ax_r_aload_n (i := 0) d_R_read_13 rfl)) (ax_fc (ax_v_ld (ax_r_aload_n (i := 3) d_R_read_14 rfl)) (ax_fc (ax_w_gf (e := none) hal d_R_read_15 fd_R_46) (ax_fc (ax_w_pf (tc := 3) hal d_R_read_18 fp_R_50 (Or.inl ⟨_, rfl⟩)) ax_fn)))) (y := (21, [(0, .inr (0, 25)), (1, .inr (0, 24)), (2, .inl (.int (a2))), (3, .inr (g, 0))], [], ax_m (s) (ax_uR (ax_uR (ax_uR ρ 0 25 4 (some (g, 0))) 0 25 5 (some (g, 4))) 0 25 6 (some (g, 13))))) rfl ⟨trivial, trivial, (hg 0 rfl), (h0 25 rfl), trivial⟩ ?_
  have hr : ax_rd (ax_uR (ax_uR (ax_uR ρ 0 25 4 (some (g, 0))) 0 25 5 (some (g, 4))) 0 25 6 (some (g, 13))) g := ax_rd3
  refine ax_bk hK (ax_fc (ax_v_ld (ax_r_aload_n (i := 3) d_R_read_21 rfl)) ax_fn) (y := (22, [(0, .inr (0, 25)), (1, .inr (0, 24)), (2, .inl (.int (a2))), (3, .inr (g, 0))], [.inr (g, 0)], ax_m (s) (ax_uR (ax_uR (ax_uR ρ 0 25 4 (some (g, 0))) 0 25 5 (some (g, 4))) 0 25 6 (some (g, 13))))) rfl ⟨trivial, trivial⟩ ?_
  obtain ⟨s1, q2, h⟩ := ax_bd h
  refine ax_bV (rest := []) hB (t_P_clear hg q2) cw_R_51 im_P_clear se_P_clear d_R_read_22 (hg 0 rfl) rfl rfl (by decide) (by decide) rfl rfl (Nat.le_of_ble_eq_true rfl) ?_
  change ax_R G 4 0 0 (25, [(0, .inr (0, 25)), (1, .inr (0, 24)), (2, .inl (.int (a2))), (3, .inr (g, 0))], [], ax_m (s1) (ax_uR (ax_uR (ax_uR ρ 0 25 4 (some (g, 0))) 0 25 5 (some (g, 4))) 0 25 6 (some (g, 13))))
  refine ax_bk hK (ax_fc (ax_v_ld (ax_r_aload_n (i := 0) d_R_read_25 rfl)) (ax_fc (ax_v_pu (ax_r_sipush (v := 1928) d_R_read_26 (by decide))) (ax_fc (ax_w_pf (tc := 0) hal d_R_read_29 fp_R_54 rfl) ax_fn))) (y := (32, [(0, .inr (0, 25)), (1, .inr (0, 24)), (2, .inl (.int (a2))), (3, .inr (g, 0))], [], ax_m (ax_wI s1 0 25 7 (1928 : Int32)) (ax_uR (ax_uR (ax_uR ρ 0 25 4 (some (g, 0))) 0 25 5 (some (g, 4))) 0 25 6 (some (g, 13))))) rfl ⟨trivial, trivial, (h0 25 rfl), trivial⟩ ?_
  refine ax_lt (Q := fun ςς => ax_R G 4 0 0 (32, [(0, .inr (0, 25)), (1, .inr (0, 24)), (2, .inl (.int (a2))), (3, .inr (g, 0))], [], ax_m (ςς) (ax_uR (ax_uR (ax_uR ρ 0 25 4 (some (g, 0))) 0 25 5 (some (g, 4))) 0 25 6 (some (g, 13))))) h (fun s3 h => ?_)
  refine ax_bk hK (ax_fc (ax_v_ld (ax_r_aload_n (i := 0) d_R_read_32 rfl)) (ax_fc (ax_v_ld (ax_r_aload_n (i := 1) d_R_read_33 rfl)) (ax_fc (ax_v_ld (ax_r_iload_n (i := 2) d_R_read_34 rfl)) ax_fn))) (y := (35, [(0, .inr (0, 25)), (1, .inr (0, 24)), (2, .inl (.int (a2))), (3, .inr (g, 0))], [.inl (.int (a2)), .inr (0, 24), .inr (0, 25)], ax_m (s3) (ax_uR (ax_uR (ax_uR ρ 0 25 4 (some (g, 0))) 0 25 5 (some (g, 4))) 0 25 6 (some (g, 13))))) rfl ⟨trivial, trivial, trivial, trivial⟩ ?_
  obtain ⟨s4, q5, h⟩ := ax_bd h
  refine ax_bV (rest := []) hB (t_R_leaveOutBlanks h0 hg hr q5) cw_R_57 im_R_leaveOutBlanks se_R_leaveOutBlanks d_R_read_35 (h0 25 rfl) rfl rfl (by decide) (by decide) rfl rfl (Nat.le_of_ble_eq_true rfl) ?_
  change ax_R G 4 0 0 (38, [(0, .inr (0, 25)), (1, .inr (0, 24)), (2, .inl (.int (a2))), (3, .inr (g, 0))], [], ax_m (s4) (ax_uR (ax_uR (ax_uR ρ 0 25 4 (some (g, 0))) 0 25 5 (some (g, 4))) 0 25 6 (some (g, 13))))
  refine ax_bk hK (ax_fc (ax_v_ld (ax_r_aload_n (i := 0) d_R_read_38 rfl)) ax_fn) (y := (39, [(0, .inr (0, 25)), (1, .inr (0, 24)), (2, .inl (.int (a2))), (3, .inr (g, 0))], [.inr (0, 25)], ax_m (s4) (ax_uR (ax_uR (ax_uR ρ 0 25 4 (some (g, 0))) 0 25 5 (some (g, 4))) 0 25 6 (some (g, 13))))) rfl ⟨trivial, trivial⟩ ?_
  obtain ⟨⟨r6, s7⟩, q8, h⟩ := ax_bd h
  dsimp only at h
  refine ax_bV (rest := []) hB (t_R_sizes h0 hg hr q8) cw_R_61 im_R_sizes se_R_sizes d_R_read_39 (h0 25 rfl) rfl rfl (by decide) (by decide) rfl rfl (Nat.le_of_ble_eq_true rfl) ?_
  change ax_R G 4 0 0 (42, [(0, .inr (0, 25)), (1, .inr (0, 24)), (2, .inl (.int (a2))), (3, .inr (g, 0))], [.inl (.int (r6))], ax_m (s7) (ax_uR (ax_uR (ax_uR ρ 0 25 4 (some (g, 0))) 0 25 5 (some (g, 4))) 0 25 6 (some (g, 13))))
  refine ax_if_eq (tgt := 79) hK d_R_read_42 (by decide) (fun c43 => ?_) (fun c43 => ?_)
  · replace h := ax_it c43 h
    obtain ⟨b9, h⟩ := ax_gd h
    refine ax_bk hK (ax_fc (ax_v_ld (ax_r_aload_n (i := 0) d_R_read_79 rfl)) (ax_fc (ax_v_ld (ax_r_aload_n (i := 0) d_R_read_80 rfl)) (ax_fc (ax_w_gf (e := none) hal d_R_read_81 fd_R_15) (ax_fc (ax_v_ld (ax_r_aload_n (i := 0) d_R_read_84 rfl)) (ax_fc (ax_w_gf (e := none) hal d_R_read_85 fd_R_72) (ax_fc (ax_w_iald hal d_R_read_88) (ax_fc (ax_w_pf (tc := 0) hal d_R_read_89 fp_R_31 rfl) ax_fn))))))) (y := (92, [(0, .inr (0, 25)), (1, .inr (0, 24)), (2, .inl (.int (a2))), (3, .inr (g, 0))], [], ax_m (ax_wI s7 0 25 14 (s7.1 0 27 ((s7.1 0 25 3)).toNatClampNeg)) (ax_uR (ax_uR (ax_uR ρ 0 25 4 (some (g, 0))) 0 25 5 (some (g, 4))) 0 25 6 (some (g, 13))))) rfl ⟨trivial, trivial, (h0 25 rfl), trivial, (h0 25 rfl), ⟨(h0 27 rfl), ax_inp b9⟩, (h0 25 rfl), trivial⟩ ?_
    refine ax_lt (Q := fun ςς => ax_R G 4 0 0 (92, [(0, .inr (0, 25)), (1, .inr (0, 24)), (2, .inl (.int (a2))), (3, .inr (g, 0))], [], ax_m (ςς) (ax_uR (ax_uR (ax_uR ρ 0 25 4 (some (g, 0))) 0 25 5 (some (g, 4))) 0 25 6 (some (g, 13))))) h (fun s10 h => ?_)
    refine ax_bk hK (ax_fc (ax_v_pu (ax_r_iconst (v := 1) d_R_read_92 (by decide))) ax_fn) (y := (93, [(0, .inr (0, 25)), (1, .inr (0, 24)), (2, .inl (.int (a2))), (3, .inr (g, 0))], [.inl (.int ((1 : Int32)))], ax_m (s10) (ax_uR (ax_uR (ax_uR ρ 0 25 4 (some (g, 0))) 0 25 5 (some (g, 4))) 0 25 6 (some (g, 13))))) rfl ⟨trivial, trivial⟩ ?_
    cases h
    exact ax_iret hA d_R_read_93
  · replace h := ax_if c43 h
    refine ax_bk hK (ax_fc (ax_v_ld (ax_r_aload_n (i := 0) d_R_read_45 rfl)) ax_fn) (y := (46, [(0, .inr (0, 25)), (1, .inr (0, 24)), (2, .inl (.int (a2))), (3, .inr (g, 0))], [.inr (0, 25)], ax_m (s7) (ax_uR (ax_uR (ax_uR ρ 0 25 4 (some (g, 0))) 0 25 5 (some (g, 4))) 0 25 6 (some (g, 13))))) rfl ⟨trivial, trivial⟩ ?_
    obtain ⟨⟨r11, s12⟩, q13, h⟩ := ax_bd h
    dsimp only at h
    refine ax_bV (rest := []) hB (t_R_tables h0 hg hr q13) cw_R_65 im_R_tables se_R_tables d_R_read_46 (h0 25 rfl) rfl rfl (by decide) (by decide) rfl rfl (Nat.le_of_ble_eq_true rfl) ?_
    change ax_R G 4 0 0 (49, [(0, .inr (0, 25)), (1, .inr (0, 24)), (2, .inl (.int (a2))), (3, .inr (g, 0))], [.inl (.int (r11))], ax_m (s12) (ax_uR (ax_uR (ax_uR ρ 0 25 4 (some (g, 0))) 0 25 5 (some (g, 4))) 0 25 6 (some (g, 13))))
    refine ax_if_eq (tgt := 79) hK d_R_read_49 (by decide) (fun c42 => ?_) (fun c42 => ?_)
    · replace h := ax_it c42 h
      obtain ⟨b14, h⟩ := ax_gd h
      refine ax_bk hK (ax_fc (ax_v_ld (ax_r_aload_n (i := 0) d_R_read_79 rfl)) (ax_fc (ax_v_ld (ax_r_aload_n (i := 0) d_R_read_80 rfl)) (ax_fc (ax_w_gf (e := none) hal d_R_read_81 fd_R_15) (ax_fc (ax_v_ld (ax_r_aload_n (i := 0) d_R_read_84 rfl)) (ax_fc (ax_w_gf (e := none) hal d_R_read_85 fd_R_72) (ax_fc (ax_w_iald hal d_R_read_88) (ax_fc (ax_w_pf (tc := 0) hal d_R_read_89 fp_R_31 rfl) ax_fn))))))) (y := (92, [(0, .inr (0, 25)), (1, .inr (0, 24)), (2, .inl (.int (a2))), (3, .inr (g, 0))], [], ax_m (ax_wI s12 0 25 14 (s12.1 0 27 ((s12.1 0 25 3)).toNatClampNeg)) (ax_uR (ax_uR (ax_uR ρ 0 25 4 (some (g, 0))) 0 25 5 (some (g, 4))) 0 25 6 (some (g, 13))))) rfl ⟨trivial, trivial, (h0 25 rfl), trivial, (h0 25 rfl), ⟨(h0 27 rfl), ax_inp b14⟩, (h0 25 rfl), trivial⟩ ?_
      refine ax_lt (Q := fun ςς => ax_R G 4 0 0 (92, [(0, .inr (0, 25)), (1, .inr (0, 24)), (2, .inl (.int (a2))), (3, .inr (g, 0))], [], ax_m (ςς) (ax_uR (ax_uR (ax_uR ρ 0 25 4 (some (g, 0))) 0 25 5 (some (g, 4))) 0 25 6 (some (g, 13))))) h (fun s15 h => ?_)
      refine ax_bk hK (ax_fc (ax_v_pu (ax_r_iconst (v := 1) d_R_read_92 (by decide))) ax_fn) (y := (93, [(0, .inr (0, 25)), (1, .inr (0, 24)), (2, .inl (.int (a2))), (3, .inr (g, 0))], [.inl (.int ((1 : Int32)))], ax_m (s15) (ax_uR (ax_uR (ax_uR ρ 0 25 4 (some (g, 0))) 0 25 5 (some (g, 4))) 0 25 6 (some (g, 13))))) rfl ⟨trivial, trivial⟩ ?_
      cases h
      exact ax_iret hA d_R_read_93
    · replace h := ax_if c42 h
      refine ax_bk hK (ax_fc (ax_v_ld (ax_r_aload_n (i := 0) d_R_read_52 rfl)) (ax_fc (ax_v_pu (ax_r_iconst (v := 1) d_R_read_53 (by decide))) ax_fn)) (y := (54, [(0, .inr (0, 25)), (1, .inr (0, 24)), (2, .inl (.int (a2))), (3, .inr (g, 0))], [.inl (.int ((1 : Int32))), .inr (0, 25)], ax_m (s12) (ax_uR (ax_uR (ax_uR ρ 0 25 4 (some (g, 0))) 0 25 5 (some (g, 4))) 0 25 6 (some (g, 13))))) rfl ⟨trivial, trivial, trivial⟩ ?_
      obtain ⟨⟨r16, s17⟩, q18, h⟩ := ax_bd h
      dsimp only at h
      refine ax_bV (rest := []) hB (t_R_block h0 hg hr q18) cw_R_68 im_R_block se_R_block d_R_read_54 (h0 25 rfl) rfl rfl (by decide) (by decide) rfl rfl (Nat.le_of_ble_eq_true rfl) ?_
      change ax_R G 4 0 0 (57, [(0, .inr (0, 25)), (1, .inr (0, 24)), (2, .inl (.int (a2))), (3, .inr (g, 0))], [.inl (.int (r16))], ax_m (s17) (ax_uR (ax_uR (ax_uR ρ 0 25 4 (some (g, 0))) 0 25 5 (some (g, 4))) 0 25 6 (some (g, 13))))
      refine ax_if_eq (tgt := 79) hK d_R_read_57 (by decide) (fun c41 => ?_) (fun c41 => ?_)
      · replace h := ax_it c41 h
        obtain ⟨b19, h⟩ := ax_gd h
        refine ax_bk hK (ax_fc (ax_v_ld (ax_r_aload_n (i := 0) d_R_read_79 rfl)) (ax_fc (ax_v_ld (ax_r_aload_n (i := 0) d_R_read_80 rfl)) (ax_fc (ax_w_gf (e := none) hal d_R_read_81 fd_R_15) (ax_fc (ax_v_ld (ax_r_aload_n (i := 0) d_R_read_84 rfl)) (ax_fc (ax_w_gf (e := none) hal d_R_read_85 fd_R_72) (ax_fc (ax_w_iald hal d_R_read_88) (ax_fc (ax_w_pf (tc := 0) hal d_R_read_89 fp_R_31 rfl) ax_fn))))))) (y := (92, [(0, .inr (0, 25)), (1, .inr (0, 24)), (2, .inl (.int (a2))), (3, .inr (g, 0))], [], ax_m (ax_wI s17 0 25 14 (s17.1 0 27 ((s17.1 0 25 3)).toNatClampNeg)) (ax_uR (ax_uR (ax_uR ρ 0 25 4 (some (g, 0))) 0 25 5 (some (g, 4))) 0 25 6 (some (g, 13))))) rfl ⟨trivial, trivial, (h0 25 rfl), trivial, (h0 25 rfl), ⟨(h0 27 rfl), ax_inp b19⟩, (h0 25 rfl), trivial⟩ ?_
        refine ax_lt (Q := fun ςς => ax_R G 4 0 0 (92, [(0, .inr (0, 25)), (1, .inr (0, 24)), (2, .inl (.int (a2))), (3, .inr (g, 0))], [], ax_m (ςς) (ax_uR (ax_uR (ax_uR ρ 0 25 4 (some (g, 0))) 0 25 5 (some (g, 4))) 0 25 6 (some (g, 13))))) h (fun s20 h => ?_)
        refine ax_bk hK (ax_fc (ax_v_pu (ax_r_iconst (v := 1) d_R_read_92 (by decide))) ax_fn) (y := (93, [(0, .inr (0, 25)), (1, .inr (0, 24)), (2, .inl (.int (a2))), (3, .inr (g, 0))], [.inl (.int ((1 : Int32)))], ax_m (s20) (ax_uR (ax_uR (ax_uR ρ 0 25 4 (some (g, 0))) 0 25 5 (some (g, 4))) 0 25 6 (some (g, 13))))) rfl ⟨trivial, trivial⟩ ?_
        cases h
        exact ax_iret hA d_R_read_93
      · replace h := ax_if c41 h
        refine ax_bk hK (ax_fc (ax_v_ld (ax_r_aload_n (i := 0) d_R_read_60 rfl)) (ax_fc (ax_v_pu (ax_r_iconst (v := 0) d_R_read_61 (by decide))) ax_fn)) (y := (62, [(0, .inr (0, 25)), (1, .inr (0, 24)), (2, .inl (.int (a2))), (3, .inr (g, 0))], [.inl (.int ((0 : Int32))), .inr (0, 25)], ax_m (s17) (ax_uR (ax_uR (ax_uR ρ 0 25 4 (some (g, 0))) 0 25 5 (some (g, 4))) 0 25 6 (some (g, 13))))) rfl ⟨trivial, trivial, trivial⟩ ?_
        obtain ⟨⟨r21, s22⟩, q23, h⟩ := ax_bd h
        dsimp only at h
        refine ax_bV (rest := []) hB (t_R_block h0 hg hr q23) cw_R_68 im_R_block se_R_block d_R_read_62 (h0 25 rfl) rfl rfl (by decide) (by decide) rfl rfl (Nat.le_of_ble_eq_true rfl) ?_
        change ax_R G 4 0 0 (65, [(0, .inr (0, 25)), (1, .inr (0, 24)), (2, .inl (.int (a2))), (3, .inr (g, 0))], [.inl (.int (r21))], ax_m (s22) (ax_uR (ax_uR (ax_uR ρ 0 25 4 (some (g, 0))) 0 25 5 (some (g, 4))) 0 25 6 (some (g, 13))))
        obtain ⟨w40, hw40, h⟩ := ax_bd h
        have KTw40 : w40 = true → ax_R G 4 0 0 (79, [(0, .inr (0, 25))], [], ax_m (s22) (ax_uR (ax_uR (ax_uR ρ 0 25 4 (some (g, 0))) 0 25 5 (some (g, 4))) 0 25 6 (some (g, 13)))) := by
          intro e9
          subst w40
          replace h := ax_ct h
          obtain ⟨b26, h⟩ := ax_gd h
          refine ax_bk hK (ax_fc (ax_v_ld (ax_r_aload_n (i := 0) d_R_read_79 rfl)) (ax_fc (ax_v_ld (ax_r_aload_n (i := 0) d_R_read_80 rfl)) (ax_fc (ax_w_gf (e := none) hal d_R_read_81 fd_R_15) (ax_fc (ax_v_ld (ax_r_aload_n (i := 0) d_R_read_84 rfl)) (ax_fc (ax_w_gf (e := none) hal d_R_read_85 fd_R_72) (ax_fc (ax_w_iald hal d_R_read_88) (ax_fc (ax_w_pf (tc := 0) hal d_R_read_89 fp_R_31 rfl) ax_fn))))))) (y := (92, [(0, .inr (0, 25))], [], ax_m (ax_wI s22 0 25 14 (s22.1 0 27 ((s22.1 0 25 3)).toNatClampNeg)) (ax_uR (ax_uR (ax_uR ρ 0 25 4 (some (g, 0))) 0 25 5 (some (g, 4))) 0 25 6 (some (g, 13))))) rfl ⟨trivial, trivial, (h0 25 rfl), trivial, (h0 25 rfl), ⟨(h0 27 rfl), ax_inp b26⟩, (h0 25 rfl), trivial⟩ ?_
          refine ax_lt (Q := fun ςς => ax_R G 4 0 0 (92, [(0, .inr (0, 25))], [], ax_m (ςς) (ax_uR (ax_uR (ax_uR ρ 0 25 4 (some (g, 0))) 0 25 5 (some (g, 4))) 0 25 6 (some (g, 13))))) h (fun s27 h => ?_)
          refine ax_bk hK (ax_fc (ax_v_pu (ax_r_iconst (v := 1) d_R_read_92 (by decide))) ax_fn) (y := (93, [(0, .inr (0, 25))], [.inl (.int ((1 : Int32)))], ax_m (s27) (ax_uR (ax_uR (ax_uR ρ 0 25 4 (some (g, 0))) 0 25 5 (some (g, 4))) 0 25 6 (some (g, 13))))) rfl ⟨trivial, trivial⟩ ?_
          cases h
          exact ax_iret hA d_R_read_93
        have KFw40 : w40 = false → ax_R G 4 0 0 (94, [(0, .inr (0, 25)), (3, .inr (g, 0))], [], ax_m (s22) (ax_uR (ax_uR (ax_uR ρ 0 25 4 (some (g, 0))) 0 25 5 (some (g, 4))) 0 25 6 (some (g, 13)))) := by
          intro e9
          subst w40
          replace h := ax_cf h
          refine ax_bk hK (ax_fc (ax_v_ld (ax_r_aload_n (i := 0) d_R_read_94 rfl)) ax_fn) (y := (95, [(0, .inr (0, 25)), (3, .inr (g, 0))], [.inr (0, 25)], ax_m (s22) (ax_uR (ax_uR (ax_uR ρ 0 25 4 (some (g, 0))) 0 25 5 (some (g, 4))) 0 25 6 (some (g, 13))))) rfl ⟨trivial, trivial⟩ ?_
          obtain ⟨s28, q29, h⟩ := ax_bd h
          refine ax_bV (rest := []) hB (t_R_checkIndexes h0 hg hr q29) cw_R_78 im_R_checkIndexes se_R_checkIndexes d_R_read_95 (h0 25 rfl) rfl rfl (by decide) (by decide) rfl rfl (Nat.le_of_ble_eq_true rfl) ?_
          change ax_R G 4 0 0 (98, [(0, .inr (0, 25)), (3, .inr (g, 0))], [], ax_m (s28) (ax_uR (ax_uR (ax_uR ρ 0 25 4 (some (g, 0))) 0 25 5 (some (g, 4))) 0 25 6 (some (g, 13))))
          refine ax_bk hK (ax_fc (ax_v_ld (ax_r_aload_n (i := 0) d_R_read_98 rfl)) (ax_fc (ax_w_gf (e := none) hal d_R_read_99 fd_R_54) (ax_fc (ax_v_pu (ax_r_sipush (v := 1928) d_R_read_102 (by decide))) ax_fn))) (y := (105, [(0, .inr (0, 25)), (3, .inr (g, 0))], [.inl (.int ((1928 : Int32))), .inl (.int ((s28.1 0 25 7)))], ax_m (s28) (ax_uR (ax_uR (ax_uR ρ 0 25 4 (some (g, 0))) 0 25 5 (some (g, 4))) 0 25 6 (some (g, 13))))) rfl ⟨trivial, (h0 25 rfl), trivial, trivial⟩ ?_
          refine ax_ic_eq (tgt := 127) hK d_R_read_105 (by decide) (fun c39 => ?_) (fun c39 => ?_)
          · replace h := ax_it c39 h
            refine ax_bk hK (ax_fc (ax_v_ld (ax_r_aload_n (i := 0) d_R_read_127 rfl)) (ax_fc (ax_v_pu (ax_r_iconst (v := -1) d_R_read_128 (by decide))) (ax_fc (ax_w_pf (tc := 0) hal d_R_read_129 fp_R_31 rfl) ax_fn))) (y := (132, [(0, .inr (0, 25)), (3, .inr (g, 0))], [], ax_m (ax_wI s28 0 25 14 (-1 : Int32)) (ax_uR (ax_uR (ax_uR ρ 0 25 4 (some (g, 0))) 0 25 5 (some (g, 4))) 0 25 6 (some (g, 13))))) rfl ⟨trivial, trivial, (h0 25 rfl), trivial⟩ ?_
            refine ax_lt (Q := fun ςς => ax_R G 4 0 0 (132, [(0, .inr (0, 25)), (3, .inr (g, 0))], [], ax_m (ςς) (ax_uR (ax_uR (ax_uR ρ 0 25 4 (some (g, 0))) 0 25 5 (some (g, 4))) 0 25 6 (some (g, 13))))) h (fun s30 h => ?_)
            refine ax_bk hK (ax_fc (ax_v_ld (ax_r_aload_n (i := 3) d_R_read_132 rfl)) ax_fn) (y := (133, [(0, .inr (0, 25)), (3, .inr (g, 0))], [.inr (g, 0)], ax_m (s30) (ax_uR (ax_uR (ax_uR ρ 0 25 4 (some (g, 0))) 0 25 5 (some (g, 4))) 0 25 6 (some (g, 13))))) rfl ⟨trivial, trivial⟩ ?_
            obtain ⟨r31, q32, h⟩ := ax_bd h
            refine ax_bV (rest := []) hB (t_P_isTooLarge hg q32) cw_R_81 im_P_isTooLarge se_P_isTooLarge d_R_read_133 (hg 0 rfl) rfl rfl (by decide) (by decide) rfl rfl (Nat.le_of_ble_eq_true rfl) ?_
            change ax_R G 4 0 0 (136, [(0, .inr (0, 25)), (3, .inr (g, 0))], [.inl (.int (r31))], ax_m (s30) (ax_uR (ax_uR (ax_uR ρ 0 25 4 (some (g, 0))) 0 25 5 (some (g, 4))) 0 25 6 (some (g, 13))))
            refine ax_if_eq (tgt := 142) hK d_R_read_136 (by decide) (fun c37 => ?_) (fun c37 => ?_)
            · replace h := ax_it c37 h
              refine ax_bk hK (ax_fc (ax_v_ld (ax_r_aload_n (i := 3) d_R_read_142 rfl)) ax_fn) (y := (143, [(0, .inr (0, 25)), (3, .inr (g, 0))], [.inr (g, 0)], ax_m (s30) (ax_uR (ax_uR (ax_uR ρ 0 25 4 (some (g, 0))) 0 25 5 (some (g, 4))) 0 25 6 (some (g, 13))))) rfl ⟨trivial, trivial⟩ ?_
              obtain ⟨s33, q34, h⟩ := ax_bd h
              refine ax_bV (rest := []) hB (t_P_layOut hg q34) cw_R_84 im_P_layOut se_P_layOut d_R_read_143 (hg 0 rfl) rfl rfl (by decide) (by decide) rfl rfl (Nat.le_of_ble_eq_true rfl) ?_
              change ax_R G 4 0 0 (146, [(0, .inr (0, 25)), (3, .inr (g, 0))], [], ax_m (s33) (ax_uR (ax_uR (ax_uR ρ 0 25 4 (some (g, 0))) 0 25 5 (some (g, 4))) 0 25 6 (some (g, 13))))
              refine ax_bk hK (ax_fc (ax_v_ld (ax_r_aload_n (i := 0) d_R_read_146 rfl)) ax_fn) (y := (147, [(0, .inr (0, 25)), (3, .inr (g, 0))], [.inr (0, 25)], ax_m (s33) (ax_uR (ax_uR (ax_uR ρ 0 25 4 (some (g, 0))) 0 25 5 (some (g, 4))) 0 25 6 (some (g, 13))))) rfl ⟨trivial, trivial⟩ ?_
              obtain ⟨s35, q36, h⟩ := ax_bd h
              refine ax_bV (rest := []) hB (t_R_putForm h0 hg hr q36) cw_R_87 im_R_putForm se_R_putForm d_R_read_147 (h0 25 rfl) rfl rfl (by decide) (by decide) rfl rfl (Nat.le_of_ble_eq_true rfl) ?_
              change ax_R G 4 0 0 (150, [(0, .inr (0, 25)), (3, .inr (g, 0))], [], ax_m (s35) (ax_uR (ax_uR (ax_uR ρ 0 25 4 (some (g, 0))) 0 25 5 (some (g, 4))) 0 25 6 (some (g, 13))))
              refine ax_bk hK (ax_fc (ax_v_pu (ax_r_iconst (v := 0) d_R_read_150 (by decide))) ax_fn) (y := (151, [(0, .inr (0, 25)), (3, .inr (g, 0))], [.inl (.int ((0 : Int32)))], ax_m (s35) (ax_uR (ax_uR (ax_uR ρ 0 25 4 (some (g, 0))) 0 25 5 (some (g, 4))) 0 25 6 (some (g, 13))))) rfl ⟨trivial, trivial⟩ ?_
              cases h
              exact ax_iret hA d_R_read_151
            · replace h := ax_if c37 h
              refine ax_bk hK (ax_fc (ax_v_pu (ax_r_bipush (v := 6) d_R_read_139 (by decide))) ax_fn) (y := (141, [(0, .inr (0, 25)), (3, .inr (g, 0))], [.inl (.int ((6 : Int32)))], ax_m (s30) (ax_uR (ax_uR (ax_uR ρ 0 25 4 (some (g, 0))) 0 25 5 (some (g, 4))) 0 25 6 (some (g, 13))))) rfl ⟨trivial, trivial⟩ ?_
              cases h
              exact ax_iret hA d_R_read_141
          · replace h := ax_if c39 h
            refine ax_bk hK (ax_fc (ax_v_ld (ax_r_aload_n (i := 0) d_R_read_108 rfl)) (ax_fc (ax_v_ld (ax_r_aload_n (i := 0) d_R_read_109 rfl)) (ax_fc (ax_w_gf (e := none) hal d_R_read_110 fd_R_54) (ax_fc (ax_v_pu (ax_r_bipush (v := 8) d_R_read_113 (by decide))) (ax_fc (ax_v_idiv d_R_read_115) (ax_fc (ax_w_pf (tc := 0) hal d_R_read_116 fp_R_31 rfl) ax_fn)))))) (y := (119, [(0, .inr (0, 25)), (3, .inr (g, 0))], [], ax_m (ax_wI s28 0 25 14 ((s28.1 0 25 7) / (8 : Int32))) (ax_uR (ax_uR (ax_uR ρ 0 25 4 (some (g, 0))) 0 25 5 (some (g, 4))) 0 25 6 (some (g, 13))))) rfl ⟨trivial, trivial, (h0 25 rfl), trivial, (by decide), (h0 25 rfl), trivial⟩ ?_
            refine ax_lt (Q := fun ςς => ax_R G 4 0 0 (119, [(0, .inr (0, 25)), (3, .inr (g, 0))], [], ax_m (ςς) (ax_uR (ax_uR (ax_uR ρ 0 25 4 (some (g, 0))) 0 25 5 (some (g, 4))) 0 25 6 (some (g, 13))))) h (fun s38 h => ?_)
            refine ax_bk hK (ax_fc (ax_v_ld (ax_r_aload_n (i := 0) d_R_read_119 rfl)) (ax_fc (ax_w_gf (e := none) hal d_R_read_120 fd_R_54) (ax_fc (ax_v_pu (ax_r_bipush (v := 8) d_R_read_123 (by decide))) (ax_fc (ax_v_irem d_R_read_125) ax_fn)))) (y := (126, [(0, .inr (0, 25)), (3, .inr (g, 0))], [.inl (.int (((s38.1 0 25 7) - (s38.1 0 25 7) / (8 : Int32) * (8 : Int32))))], ax_m (s38) (ax_uR (ax_uR (ax_uR ρ 0 25 4 (some (g, 0))) 0 25 5 (some (g, 4))) 0 25 6 (some (g, 13))))) rfl ⟨trivial, (h0 25 rfl), trivial, (by decide), trivial⟩ ?_
            cases h
            exact ax_iret hA d_R_read_126
        clear h
        have h := hw40
        refine ax_if_eq (tgt := 79) hK d_R_read_65 (by decide) (fun c25 => ?_) (fun c25 => ?_)
        · replace h := ax_it c25 h
          cases h
          exact ax_Lsub [0] rfl (KTw40 rfl)
        · replace h := ax_if c25 h
          refine ax_bk hK (ax_fc (ax_v_ld (ax_r_aload_n (i := 0) d_R_read_68 rfl)) (ax_fc (ax_w_gf (e := none) hal d_R_read_69 fd_R_72) (ax_fc (ax_v_ld (ax_r_aload_n (i := 0) d_R_read_72 rfl)) (ax_fc (ax_w_gf (e := none) hal d_R_read_73 fd_R_75) ax_fn)))) (y := (76, [(0, .inr (0, 25)), (1, .inr (0, 24)), (2, .inl (.int (a2))), (3, .inr (g, 0))], [.inl (.int ((s22.1 0 25 2))), .inl (.int ((s22.1 0 25 3)))], ax_m (s22) (ax_uR (ax_uR (ax_uR ρ 0 25 4 (some (g, 0))) 0 25 5 (some (g, 4))) 0 25 6 (some (g, 13))))) rfl ⟨trivial, (h0 25 rfl), trivial, (h0 25 rfl), trivial⟩ ?_
          refine ax_ic_eq (tgt := 94) hK d_R_read_76 (by decide) (fun c24 => ?_) (fun c24 => ?_)
          · replace h := ax_it c24 h
            cases h
            exact ax_Lsub [0, 3] rfl (KFw40 rfl)
          · replace h := ax_if c24 h
            cases h
            exact ax_Lsub [0] rfl (KTw40 rfl)
def y_M_load : MethodName := ⟨"CipherNotation$Machine", "load", "(LCipherNotation$Program;)V"⟩
theorem d_M_load_0 : decode prog_4_method_2_code 0 = .ok (.aload_n 0, 1) := by decide +kernel
theorem d_M_load_1 : decode prog_4_method_2_code 1 = .ok (.aload_n 1, 1) := by decide +kernel
theorem d_M_load_2 : decode prog_4_method_2_code 2 = .ok (.putfield (24), 3) := by decide +kernel
theorem d_M_load_5 : decode prog_4_method_2_code 5 = .ok (.aload_n 0, 1) := by decide +kernel
theorem d_M_load_6 : decode prog_4_method_2_code 6 = .ok (.aload_n 1, 1) := by decide +kernel
theorem d_M_load_7 : decode prog_4_method_2_code 7 = .ok (.getfield (28), 3) := by decide +kernel
theorem d_M_load_10 : decode prog_4_method_2_code 10 = .ok (.putfield (34), 3) := by decide +kernel
theorem d_M_load_13 : decode prog_4_method_2_code 13 = .ok (.aload_n 0, 1) := by decide +kernel
theorem d_M_load_14 : decode prog_4_method_2_code 14 = .ok (.aload_n 1, 1) := by decide +kernel
theorem d_M_load_15 : decode prog_4_method_2_code 15 = .ok (.getfield (35), 3) := by decide +kernel
theorem d_M_load_18 : decode prog_4_method_2_code 18 = .ok (.putfield (39), 3) := by decide +kernel
theorem d_M_load_21 : decode prog_4_method_2_code 21 = .ok (.aload_n 0, 1) := by decide +kernel
theorem d_M_load_22 : decode prog_4_method_2_code 22 = .ok (.aload_n 1, 1) := by decide +kernel
theorem d_M_load_23 : decode prog_4_method_2_code 23 = .ok (.getfield (40), 3) := by decide +kernel
theorem d_M_load_26 : decode prog_4_method_2_code 26 = .ok (.iconst 0, 1) := by decide +kernel
theorem d_M_load_27 : decode prog_4_method_2_code 27 = .ok (.iaload, 1) := by decide +kernel
theorem d_M_load_28 : decode prog_4_method_2_code 28 = .ok (.putfield (44), 3) := by decide +kernel
theorem d_M_load_31 : decode prog_4_method_2_code 31 = .ok (.aload_n 0, 1) := by decide +kernel
theorem d_M_load_32 : decode prog_4_method_2_code 32 = .ok (.ldc2_w (48), 3) := by decide +kernel
theorem d_M_load_35 : decode prog_4_method_2_code 35 = .ok (.bipush (64), 2) := by decide +kernel
theorem d_M_load_37 : decode prog_4_method_2_code 37 = .ok (.aload_n 0, 1) := by decide +kernel
theorem d_M_load_38 : decode prog_4_method_2_code 38 = .ok (.getfield (44), 3) := by decide +kernel
theorem d_M_load_41 : decode prog_4_method_2_code 41 = .ok (.isub, 1) := by decide +kernel
theorem d_M_load_42 : decode prog_4_method_2_code 42 = .ok (.lushr, 1) := by decide +kernel
theorem d_M_load_43 : decode prog_4_method_2_code 43 = .ok (.putfield (50), 3) := by decide +kernel
theorem d_M_load_46 : decode prog_4_method_2_code 46 = .ok (.iconst 0, 1) := by decide +kernel
theorem d_M_load_47 : decode prog_4_method_2_code 47 = .ok (.istore_n 2, 1) := by decide +kernel
theorem d_M_load_48 : decode prog_4_method_2_code 48 = .ok (.iload_n 2, 1) := by decide +kernel
theorem d_M_load_49 : decode prog_4_method_2_code 49 = .ok (.iconst 4, 1) := by decide +kernel
theorem d_M_load_50 : decode prog_4_method_2_code 50 = .ok (.if_icmp .ge (16), 3) := by decide +kernel
theorem d_M_load_53 : decode prog_4_method_2_code 53 = .ok (.aload_n 0, 1) := by decide +kernel
theorem d_M_load_54 : decode prog_4_method_2_code 54 = .ok (.getfield (9), 3) := by decide +kernel
theorem d_M_load_57 : decode prog_4_method_2_code 57 = .ok (.iload_n 2, 1) := by decide +kernel
theorem d_M_load_58 : decode prog_4_method_2_code 58 = .ok (.lconst 0, 1) := by decide +kernel
theorem d_M_load_59 : decode prog_4_method_2_code 59 = .ok (.lastore, 1) := by decide +kernel
theorem d_M_load_60 : decode prog_4_method_2_code 60 = .ok (.iinc 2 (1), 3) := by decide +kernel
theorem d_M_load_63 : decode prog_4_method_2_code 63 = .ok (.goto (-15), 3) := by decide +kernel
theorem d_M_load_66 : decode prog_4_method_2_code 66 = .ok (.iconst 0, 1) := by decide +kernel
theorem d_M_load_67 : decode prog_4_method_2_code 67 = .ok (.istore_n 2, 1) := by decide +kernel
theorem d_M_load_68 : decode prog_4_method_2_code 68 = .ok (.iload_n 2, 1) := by decide +kernel
theorem d_M_load_69 : decode prog_4_method_2_code 69 = .ok (.iconst 4, 1) := by decide +kernel
theorem d_M_load_70 : decode prog_4_method_2_code 70 = .ok (.if_icmp .ge (16), 3) := by decide +kernel
theorem d_M_load_73 : decode prog_4_method_2_code 73 = .ok (.aload_n 0, 1) := by decide +kernel
theorem d_M_load_74 : decode prog_4_method_2_code 74 = .ok (.getfield (15), 3) := by decide +kernel
theorem d_M_load_77 : decode prog_4_method_2_code 77 = .ok (.iload_n 2, 1) := by decide +kernel
theorem d_M_load_78 : decode prog_4_method_2_code 78 = .ok (.lconst 0, 1) := by decide +kernel
theorem d_M_load_79 : decode prog_4_method_2_code 79 = .ok (.lastore, 1) := by decide +kernel
theorem d_M_load_80 : decode prog_4_method_2_code 80 = .ok (.iinc 2 (1), 3) := by decide +kernel
theorem d_M_load_83 : decode prog_4_method_2_code 83 = .ok (.goto (-15), 3) := by decide +kernel
theorem d_M_load_86 : decode prog_4_method_2_code 86 = .ok (.return_, 1) := by decide +kernel
def lp_M_load_48 (F : Nat) (g : Nat) : Nat → Int32 → ax_σ → Option (ax_σ)
  | 0, _, _ => none
  | n + 1, x2, s =>
    if (4 : Int32) ≤ x2 then
      some s
    else
      bif ax_in x2 4 then
      ax_let (ax_wL s 0 33 (x2).toNatClampNeg (0 : Int64)) (fun s5 =>
        lp_M_load_48 F g n (x2 + (1 : Int32)) s5)
      else none
set_option maxHeartbeats 4000000 in
set_option maxRecDepth 100000 in
theorem pl_M_load_48 {D : va_G} {cA : Nat → ClassId} {ad : Nat → Nat → Nat} {al : List (Nat × Nat)} {θ : ax_Θ} {l : Launch} {ρ : ax_ρ} {G : ax_G} {F g : Nat}  (h0 : ax_M0 al) (hg : ax_Mg al g) (hB : ax_B D cA ad al θ l "CipherNotation$Machine" prog_4_method_2_code 3 0 G) : ∀ (n : Nat) {x2 : Int32} {s : ax_σ} (out : ax_σ), lp_M_load_48 F g n x2 s = some out → (∀ (es : ax_σ), out = es → ax_R G 3 0 0 (66, [(0, .inr (0, 32))], [], ax_m (es) (ax_uR (ax_uR (ax_uR ρ 0 32 4 (some (g, 0))) 0 32 5 (some (g, 4))) 0 32 6 (some (g, 13))))) → ax_R G 3 0 0 (48, [(0, .inr (0, 32)), (2, .inl (.int (x2)))], [], ax_m (s) (ax_uR (ax_uR (ax_uR ρ 0 32 4 (some (g, 0))) 0 32 5 (some (g, 4))) 0 32 6 (some (g, 13)))) := by
  have hK := hB.K
  have hal := hB.la
  intro n
  induction n with
  | zero =>
    intro x2 s out h
    cases h
  | succ n ih =>
    intro x2 s out h KE
    rw [lp_M_load_48] at h
    refine ax_bk hK (ax_fc (ax_v_ld (ax_r_iload_n (i := 2) d_M_load_48 rfl)) (ax_fc (ax_v_pu (ax_r_iconst (v := 4) d_M_load_49 (by decide))) ax_fn)) (y := (50, [(0, .inr (0, 32)), (2, .inl (.int (x2)))], [.inl (.int ((4 : Int32))), .inl (.int (x2))], ax_m (s) (ax_uR (ax_uR (ax_uR ρ 0 32 4 (some (g, 0))) 0 32 5 (some (g, 4))) 0 32 6 (some (g, 13))))) rfl ⟨trivial, trivial, trivial⟩ ?_
    have hr : ax_md (ax_uR (ax_uR (ax_uR ρ 0 32 4 (some (g, 0))) 0 32 5 (some (g, 4))) 0 32 6 (some (g, 13))) g := ax_md3
    refine ax_ic_ge (tgt := 66) hK d_M_load_50 (by decide) (fun c6 => ?_) (fun c6 => ?_)
    · replace h := ax_it c6 h
      cases h
      exact ax_Lsub [0] rfl (KE _ rfl)
    · replace h := ax_if c6 h
      obtain ⟨b4, h⟩ := ax_gd h
      refine ax_bk hK (ax_fc (ax_v_ld (ax_r_aload_n (i := 0) d_M_load_53 rfl)) (ax_fc (ax_w_gf (e := none) hal d_M_load_54 fd_M_9) (ax_fc (ax_v_ld (ax_r_iload_n (i := 2) d_M_load_57 rfl)) (ax_fc (ax_v_pu (ax_r_lconst (v := 0) d_M_load_58 (by decide))) (ax_fc (ax_w_last hal d_M_load_59) ax_fn))))) (y := (60, [(0, .inr (0, 32)), (2, .inl (.int (x2)))], [], ax_m (ax_wL s 0 33 (x2).toNatClampNeg (0 : Int64)) (ax_uR (ax_uR (ax_uR ρ 0 32 4 (some (g, 0))) 0 32 5 (some (g, 4))) 0 32 6 (some (g, 13))))) rfl ⟨trivial, (h0 32 rfl), trivial, trivial, ⟨(h0 33 rfl), ax_inp b4⟩, trivial⟩ ?_
      refine ax_lt (Q := fun ςς => ax_R G 3 0 0 (60, [(0, .inr (0, 32)), (2, .inl (.int (x2)))], [], ax_m (ςς) (ax_uR (ax_uR (ax_uR ρ 0 32 4 (some (g, 0))) 0 32 5 (some (g, 4))) 0 32 6 (some (g, 13))))) h (fun s5 h => ?_)
      refine ax_bk hK (ax_fc (ax_v_ii (d := 1) d_M_load_60 (by decide)) (ax_fc (ax_v_go (tgt := 48) d_M_load_63 (by decide)) ax_fn)) (y := (48, [(2, .inl (.int ((x2 + (1 : Int32))))), (0, .inr (0, 32))], [], ax_m (s5) (ax_uR (ax_uR (ax_uR ρ 0 32 4 (some (g, 0))) 0 32 5 (some (g, 4))) 0 32 6 (some (g, 13))))) rfl ⟨trivial, trivial, trivial⟩ ?_
      exact ax_Lsub [1, 0] rfl (ih _ h KE)
def lp_M_load_68 (F : Nat) (g : Nat) : Nat → Int32 → ax_σ → Option (ax_σ)
  | 0, _, _ => none
  | n + 1, x2, s =>
    if (4 : Int32) ≤ x2 then
      some s
    else
      bif ax_in x2 4 then
      ax_let (ax_wL s 0 34 (x2).toNatClampNeg (0 : Int64)) (fun s9 =>
        lp_M_load_68 F g n (x2 + (1 : Int32)) s9)
      else none
set_option maxHeartbeats 4000000 in
set_option maxRecDepth 100000 in
theorem pl_M_load_68 {D : va_G} {cA : Nat → ClassId} {ad : Nat → Nat → Nat} {al : List (Nat × Nat)} {θ : ax_Θ} {l : Launch} {ρ : ax_ρ} {G : ax_G} {F g : Nat}  (h0 : ax_M0 al) (hg : ax_Mg al g) (hB : ax_B D cA ad al θ l "CipherNotation$Machine" prog_4_method_2_code 3 0 G) : ∀ (n : Nat) {x2 : Int32} {s : ax_σ} (out : ax_σ), lp_M_load_68 F g n x2 s = some out → (∀ (es : ax_σ), out = es → ax_R G 3 0 0 (86, [], [], ax_m (es) (ax_uR (ax_uR (ax_uR ρ 0 32 4 (some (g, 0))) 0 32 5 (some (g, 4))) 0 32 6 (some (g, 13))))) → ax_R G 3 0 0 (68, [(0, .inr (0, 32)), (2, .inl (.int (x2)))], [], ax_m (s) (ax_uR (ax_uR (ax_uR ρ 0 32 4 (some (g, 0))) 0 32 5 (some (g, 4))) 0 32 6 (some (g, 13)))) := by
  have hK := hB.K
  have hal := hB.la
  intro n
  induction n with
  | zero =>
    intro x2 s out h
    cases h
  | succ n ih =>
    intro x2 s out h KE
    rw [lp_M_load_68] at h
    refine ax_bk hK (ax_fc (ax_v_ld (ax_r_iload_n (i := 2) d_M_load_68 rfl)) (ax_fc (ax_v_pu (ax_r_iconst (v := 4) d_M_load_69 (by decide))) ax_fn)) (y := (70, [(0, .inr (0, 32)), (2, .inl (.int (x2)))], [.inl (.int ((4 : Int32))), .inl (.int (x2))], ax_m (s) (ax_uR (ax_uR (ax_uR ρ 0 32 4 (some (g, 0))) 0 32 5 (some (g, 4))) 0 32 6 (some (g, 13))))) rfl ⟨trivial, trivial, trivial⟩ ?_
    have hr : ax_md (ax_uR (ax_uR (ax_uR ρ 0 32 4 (some (g, 0))) 0 32 5 (some (g, 4))) 0 32 6 (some (g, 13))) g := ax_md3
    refine ax_ic_ge (tgt := 86) hK d_M_load_70 (by decide) (fun c10 => ?_) (fun c10 => ?_)
    · replace h := ax_it c10 h
      cases h
      exact ax_Lsub [] rfl (KE _ rfl)
    · replace h := ax_if c10 h
      obtain ⟨b8, h⟩ := ax_gd h
      refine ax_bk hK (ax_fc (ax_v_ld (ax_r_aload_n (i := 0) d_M_load_73 rfl)) (ax_fc (ax_w_gf (e := none) hal d_M_load_74 fd_M_15) (ax_fc (ax_v_ld (ax_r_iload_n (i := 2) d_M_load_77 rfl)) (ax_fc (ax_v_pu (ax_r_lconst (v := 0) d_M_load_78 (by decide))) (ax_fc (ax_w_last hal d_M_load_79) ax_fn))))) (y := (80, [(0, .inr (0, 32)), (2, .inl (.int (x2)))], [], ax_m (ax_wL s 0 34 (x2).toNatClampNeg (0 : Int64)) (ax_uR (ax_uR (ax_uR ρ 0 32 4 (some (g, 0))) 0 32 5 (some (g, 4))) 0 32 6 (some (g, 13))))) rfl ⟨trivial, (h0 32 rfl), trivial, trivial, ⟨(h0 34 rfl), ax_inp b8⟩, trivial⟩ ?_
      refine ax_lt (Q := fun ςς => ax_R G 3 0 0 (80, [(0, .inr (0, 32)), (2, .inl (.int (x2)))], [], ax_m (ςς) (ax_uR (ax_uR (ax_uR ρ 0 32 4 (some (g, 0))) 0 32 5 (some (g, 4))) 0 32 6 (some (g, 13))))) h (fun s9 h => ?_)
      refine ax_bk hK (ax_fc (ax_v_ii (d := 1) d_M_load_80 (by decide)) (ax_fc (ax_v_go (tgt := 68) d_M_load_83 (by decide)) ax_fn)) (y := (68, [(2, .inl (.int ((x2 + (1 : Int32))))), (0, .inr (0, 32))], [], ax_m (s9) (ax_uR (ax_uR (ax_uR ρ 0 32 4 (some (g, 0))) 0 32 5 (some (g, 4))) 0 32 6 (some (g, 13))))) rfl ⟨trivial, trivial, trivial⟩ ?_
      exact ax_Lsub [1, 0] rfl (ih _ h KE)
theorem fp_M_24 : ax_fp "CipherNotation$Machine" 24 2 4 (.object "CipherNotation$Program") := ⟨nC2, nT2, 9, nY2, rfl, nW2, by decide, nw_1 96 (by decide +kernel) rfl, nO2, nA2, by decide +kernel, by decide +kernel⟩
theorem fd_M_28 : ax_fd "CipherNotation$Machine" 28 3 3 := ⟨nC3, nT3, 9, nY3, rfl, nW3, by decide, nw_1 231 (by decide +kernel) rfl, nO3, nA3⟩
theorem fp_M_34 : ax_fp "CipherNotation$Machine" 34 2 5 (.object "CipherNotation$Code") := ⟨nC2, nT2, 9, nY2, rfl, nW2, by decide, nw_1 97 (by decide +kernel) rfl, nO2, nA2, by decide +kernel, by decide +kernel⟩
theorem fd_M_35 : ax_fd "CipherNotation$Machine" 35 3 4 := ⟨nC3, nT3, 9, nY3, rfl, nW3, by decide, nw_1 234 (by decide +kernel) rfl, nO3, nA3⟩
theorem fp_M_39 : ax_fp "CipherNotation$Machine" 39 2 6 (.object "CipherNotation$Lines") := ⟨nC2, nT2, 9, nY2, rfl, nW2, by decide, nw_1 98 (by decide +kernel) rfl, nO2, nA2, by decide +kernel, by decide +kernel⟩
theorem fp_M_44 : ax_fp "CipherNotation$Machine" 44 2 7 (.int) := ⟨nC2, nT2, 9, nY2, rfl, nW2, by decide, nw_1 99 (by decide +kernel) rfl, nO2, nA2, by decide +kernel, by decide +kernel⟩
theorem fp_M_50 : ax_fp "CipherNotation$Machine" 50 2 8 (.long) := ⟨nC2, nT2, 9, nY2, rfl, nW2, by decide, nw_1 100 (by decide +kernel) rfl, nO2, nA2, by decide +kernel, by decide +kernel⟩
def f_M_load (F : Nat) (g : Nat) (s : ax_σ) : Option (ax_σ) :=
  bif ax_in (0 : Int32) 8 then
  ax_let (ax_wI s 0 32 7 (s.1 g 1 ((0 : Int32)).toNatClampNeg)) (fun s2 =>
    ax_let (ax_wL s2 0 32 8 ((((-1 : Int64)).toUInt64 >>> ((((64 : Int32) - (s2.1 0 32 7))).toInt64.toUInt64 &&& Int64.toUInt64 63)).toInt64)) (fun s3 =>
      Option.bind (lp_M_load_48 F g F (0 : Int32) s3) (fun s7 =>
        Option.bind (lp_M_load_68 F g F (0 : Int32) s7) (fun s11 =>
          some (s11)))))
  else none
set_option maxHeartbeats 4000000 in
set_option maxRecDepth 100000 in
theorem t_M_load {l : Launch} {D : va_G} {cA : Nat → ClassId} {ad : Nat → Nat → Nat} {al : List (Nat × Nat)} {θ : ax_Θ} {ρ : ax_ρ} {F : Nat} {g : Nat} (h0 : ax_M0 al) (hg : ax_Mg al g)  {s : ax_σ} {s0 : ax_σ} (h : f_M_load F g s = some s0) : ax_T l D cA ad al θ y_M_load (.code y_M_load prog_4_method_2_code 3 none) 0 [.inr (0, 32), .inr (g, 0)] (ax_m s ρ) none (ax_m s0 (ax_uR (ax_uR (ax_uR ρ 0 32 4 (some (g, 0))) 0 32 5 (some (g, 4))) 0 32 6 (some (g, 13)))) := by
  refine ax_T_of (own := "CipherNotation$Machine") (by decide) rfl (Nat.le_of_ble_eq_true rfl) [(0, .inr (0, 32)), (1, .inr (g, 0))] rfl ?_
  intro G hA
  have hB := hA.B
  have hK := hB.K
  have hal := hB.la
  unfold f_M_load at h
  refine ax_bk hK (ax_fc (ax_v_ld (ax_r_aload_n (i := 0) d_M_load_0 rfl)) (ax_fc (ax_v_ld (ax_r_aload_n (i := 1) d_M_load_1 rfl)) (ax_fc (ax_w_pf (tc := 3) hal d_M_load_2 fp_M_24 (Or.inl ⟨_, rfl⟩)) ax_fn))) (y := (5, [(0, .inr (0, 32)), (1, .inr (g, 0))], [], ax_m (s) (ax_uR ρ 0 32 4 (some (g, 0))))) rfl ⟨trivial, trivial, (h0 32 rfl), trivial⟩ ?_
  refine ax_bk hK (ax_fc (ax_v_ld (ax_r_aload_n (i := 0) d_M_load_5 rfl)) (ax_fc (ax_v_ld (ax_r_aload_n (i := 1) d_M_load_6 rfl)) (ax_fc (ax_w_gf (e := none) hal d_M_load_7 fd_M_28) (ax_fc (ax_w_pf (tc := 3) hal d_M_load_10 fp_M_34 (Or.inl ⟨_, rfl⟩)) ax_fn)))) (y := (13, [(0, .inr (0, 32)), (1, .inr (g, 0))], [], ax_m (s) (ax_uR (ax_uR ρ 0 32 4 (some (g, 0))) 0 32 5 (some (g, 4))))) rfl ⟨trivial, trivial, (hg 0 rfl), (h0 32 rfl), trivial⟩ ?_
  refine ax_bk hK (ax_fc (ax_v_ld (ax_r_aload_n (i := 0) d_M_load_13 rfl)) (ax_fc (ax_v_ld (ax_r_aload_n (i := 1) d_M_load_14 rfl)) (ax_fc (ax_w_gf (e := none) hal d_M_load_15 fd_M_35) (ax_fc (ax_w_pf (tc := 3) hal d_M_load_18 fp_M_39 (Or.inl ⟨_, rfl⟩)) ax_fn)))) (y := (21, [(0, .inr (0, 32)), (1, .inr (g, 0))], [], ax_m (s) (ax_uR (ax_uR (ax_uR ρ 0 32 4 (some (g, 0))) 0 32 5 (some (g, 4))) 0 32 6 (some (g, 13))))) rfl ⟨trivial, trivial, (hg 0 rfl), (h0 32 rfl), trivial⟩ ?_
  have hr : ax_md (ax_uR (ax_uR (ax_uR ρ 0 32 4 (some (g, 0))) 0 32 5 (some (g, 4))) 0 32 6 (some (g, 13))) g := ax_md3
  obtain ⟨b1, h⟩ := ax_gd h
  refine ax_bk hK (ax_fc (ax_v_ld (ax_r_aload_n (i := 0) d_M_load_21 rfl)) (ax_fc (ax_v_ld (ax_r_aload_n (i := 1) d_M_load_22 rfl)) (ax_fc (ax_w_gf (e := none) hal d_M_load_23 fd_M_40) (ax_fc (ax_v_pu (ax_r_iconst (v := 0) d_M_load_26 (by decide))) (ax_fc (ax_w_iald hal d_M_load_27) (ax_fc (ax_w_pf (tc := 0) hal d_M_load_28 fp_M_44 rfl) ax_fn)))))) (y := (31, [(0, .inr (0, 32)), (1, .inr (g, 0))], [], ax_m (ax_wI s 0 32 7 (s.1 g 1 ((0 : Int32)).toNatClampNeg)) (ax_uR (ax_uR (ax_uR ρ 0 32 4 (some (g, 0))) 0 32 5 (some (g, 4))) 0 32 6 (some (g, 13))))) rfl ⟨trivial, trivial, (hg 0 rfl), trivial, ⟨(hg 1 rfl), ax_inp b1⟩, (h0 32 rfl), trivial⟩ ?_
  refine ax_lt (Q := fun ςς => ax_R G 3 0 0 (31, [(0, .inr (0, 32)), (1, .inr (g, 0))], [], ax_m (ςς) (ax_uR (ax_uR (ax_uR ρ 0 32 4 (some (g, 0))) 0 32 5 (some (g, 4))) 0 32 6 (some (g, 13))))) h (fun s2 h => ?_)
  refine ax_bk hK (ax_fc (ax_v_ld (ax_r_aload_n (i := 0) d_M_load_31 rfl)) (ax_fc (ax_v_ldc2 (v := -1) d_M_load_32 (nw_3 133 (by decide +kernel) rfl)) (ax_fc (ax_v_pu (ax_r_bipush (v := 64) d_M_load_35 (by decide))) (ax_fc (ax_v_ld (ax_r_aload_n (i := 0) d_M_load_37 rfl)) (ax_fc (ax_w_gf (e := none) hal d_M_load_38 fd_M_44) (ax_fc (ax_v_pu (ax_r_isub d_M_load_41)) (ax_fc (ax_v_pu (ax_r_lushr d_M_load_42)) (ax_fc (ax_w_pf (tc := 2) hal d_M_load_43 fp_M_50 rfl) ax_fn)))))))) (y := (46, [(0, .inr (0, 32)), (1, .inr (g, 0))], [], ax_m (ax_wL s2 0 32 8 ((((-1 : Int64)).toUInt64 >>> ((((64 : Int32) - (s2.1 0 32 7))).toInt64.toUInt64 &&& Int64.toUInt64 63)).toInt64)) (ax_uR (ax_uR (ax_uR ρ 0 32 4 (some (g, 0))) 0 32 5 (some (g, 4))) 0 32 6 (some (g, 13))))) rfl ⟨trivial, trivial, trivial, trivial, (h0 32 rfl), trivial, trivial, (h0 32 rfl), trivial⟩ ?_
  refine ax_lt (Q := fun ςς => ax_R G 3 0 0 (46, [(0, .inr (0, 32)), (1, .inr (g, 0))], [], ax_m (ςς) (ax_uR (ax_uR (ax_uR ρ 0 32 4 (some (g, 0))) 0 32 5 (some (g, 4))) 0 32 6 (some (g, 13))))) h (fun s3 h => ?_)
  refine ax_bk hK (ax_fc (ax_v_pu (ax_r_iconst (v := 0) d_M_load_46 (by decide))) (ax_fc (ax_v_so (ax_r_istore_n (i := 2) d_M_load_47 rfl)) ax_fn)) (y := (48, [(2, .inl (.int ((0 : Int32)))), (0, .inr (0, 32)), (1, .inr (g, 0))], [], ax_m (s3) (ax_uR (ax_uR (ax_uR ρ 0 32 4 (some (g, 0))) 0 32 5 (some (g, 4))) 0 32 6 (some (g, 13))))) rfl ⟨trivial, trivial, trivial⟩ ?_
  obtain ⟨w12, hw12, h⟩ := ax_bd h
  refine ax_Lsub [1, 0] rfl (pl_M_load_48 h0 hg hB F _ hw12 ?_)
  intro s7 e9
  subst w12
  try dsimp only at h
  change ax_R G 3 0 0 (66, [(0, .inr (0, 32))], [], ax_m (s7) (ax_uR (ax_uR (ax_uR ρ 0 32 4 (some (g, 0))) 0 32 5 (some (g, 4))) 0 32 6 (some (g, 13))))
  refine ax_bk hK (ax_fc (ax_v_pu (ax_r_iconst (v := 0) d_M_load_66 (by decide))) (ax_fc (ax_v_so (ax_r_istore_n (i := 2) d_M_load_67 rfl)) ax_fn)) (y := (68, [(2, .inl (.int ((0 : Int32)))), (0, .inr (0, 32))], [], ax_m (s7) (ax_uR (ax_uR (ax_uR ρ 0 32 4 (some (g, 0))) 0 32 5 (some (g, 4))) 0 32 6 (some (g, 13))))) rfl ⟨trivial, trivial, trivial⟩ ?_
  obtain ⟨w13, hw13, h⟩ := ax_bd h
  refine ax_Lsub [1, 0] rfl (pl_M_load_68 h0 hg hB F _ hw13 ?_)
  intro s11 e9
  subst w13
  try dsimp only at h
  change ax_R G 3 0 0 (86, [], [], ax_m (s11) (ax_uR (ax_uR (ax_uR ρ 0 32 4 (some (g, 0))) 0 32 5 (some (g, 4))) 0 32 6 (some (g, 13))))
  cases h
  exact ax_vret hA d_M_load_86
