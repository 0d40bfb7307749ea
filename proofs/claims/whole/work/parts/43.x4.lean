def y_String_coder : MethodName := ⟨"java/lang/String", "coder", "()B"⟩
theorem d_String_coder_0 : decode prog_16_method_152_code 0 = .ok (.getstatic (38), 3) := by decide +kernel
theorem d_String_coder_3 : decode prog_16_method_152_code 3 = .ok (.ifCond .eq (10), 3) := by decide +kernel
theorem d_String_coder_6 : decode prog_16_method_152_code 6 = .ok (.aload_n 0, 1) := by decide +kernel
theorem d_String_coder_7 : decode prog_16_method_152_code 7 = .ok (.getfield (15), 3) := by decide +kernel
theorem d_String_coder_10 : decode prog_16_method_152_code 10 = .ok (.goto (4), 3) := by decide +kernel
theorem d_String_coder_13 : decode prog_16_method_152_code 13 = .ok (.iconst 1, 1) := by decide +kernel
theorem d_String_coder_14 : decode prog_16_method_152_code 14 = .ok (.ireturn, 1) := by decide +kernel
def f_String_coder (k : Nat) : Option (Int32) :=
  if (1 : Int32) = (0 : Int32) then
    some ((1 : Int32))
  else
    some ((0 : Int32))
set_option maxHeartbeats 4000000 in
set_option maxRecDepth 100000 in
theorem t_String_coder {l : Launch} {D : va_G} {cA : Nat → ClassId} {ad : Nat → Nat → Nat} {al : List (Nat × Nat)} {θ : ax_Θ} {ρ : ax_ρ} {k : Nat} (hk : k < 2)  {s : ax_σ} {r0 : Int32} (h : f_String_coder k = some r0) : ax_T l D cA ad al θ y_String_coder (.code y_String_coder prog_16_method_152_code 1 (some .byte)) 0 [.inl (.ref (θ.1 k))] (ax_m s ρ) (some (.inl (.int r0))) (ax_m s ρ) := by
  refine ax_T_ofF (own := "java/lang/String") (by decide +kernel) rfl (Nat.le_of_ble_eq_true rfl) [(0, .inl (.ref (θ.1 k)))] rfl ?_
  intro G hA
  have hB := hA.B
  have hK := hB.K
  have hal := hB.la
  unfold f_String_coder at h
  refine ax_bk hK (ax_fc (ax_w_cs d_String_coder_0 (nw_2 120 (by decide +kernel) rfl)) ax_fn) (y := (3, [(0, .inl (.ref (θ.1 k)))], [.inl (.int ((1 : Int32)))], ax_m (s) ρ)) rfl ⟨trivial, trivial⟩ ?_
  refine ax_if_eq (tgt := 13) hK d_String_coder_3 (by decide) (fun c1 => ?_) (fun c1 => ?_)
  · replace h := ax_it c1 h
    refine ax_bk hK (ax_fc (ax_v_pu (ax_r_iconst (v := 1) d_String_coder_13 (by decide))) ax_fn) (y := (14, [(0, .inl (.ref (θ.1 k)))], [.inl (.int ((1 : Int32)))], ax_m (s) ρ)) rfl ⟨trivial, trivial⟩ ?_
    cases h
    exact ax_zret hA (by decide) d_String_coder_14
  · replace h := ax_if c1 h
    refine ax_bk hK (ax_fc (ax_v_ld (ax_r_aload_n (i := 0) d_String_coder_6 rfl)) (ax_fc (ax_w_kc (k := k) hB.ht d_String_coder_7 (nw_6 161 (by decide +kernel) rfl)) (ax_fc (ax_v_go (tgt := 14) d_String_coder_10 (by decide)) ax_fn))) (y := (14, [(0, .inl (.ref (θ.1 k)))], [.inl (.int ((0 : Int32)))], ax_m (s) ρ)) rfl ⟨trivial, ⟨rfl, hk⟩, trivial, trivial⟩ ?_
    cases h
    exact ax_zret hA (by decide) d_String_coder_14
def y_String_isLatin1 : MethodName := ⟨"java/lang/String", "isLatin1", "()Z"⟩
theorem d_String_isLatin1_0 : decode prog_16_method_154_code 0 = .ok (.getstatic (38), 3) := by decide +kernel
theorem d_String_isLatin1_3 : decode prog_16_method_154_code 3 = .ok (.ifCond .eq (14), 3) := by decide +kernel
theorem d_String_isLatin1_6 : decode prog_16_method_154_code 6 = .ok (.aload_n 0, 1) := by decide +kernel
theorem d_String_isLatin1_7 : decode prog_16_method_154_code 7 = .ok (.getfield (15), 3) := by decide +kernel
theorem d_String_isLatin1_10 : decode prog_16_method_154_code 10 = .ok (.ifCond .ne (7), 3) := by decide +kernel
theorem d_String_isLatin1_13 : decode prog_16_method_154_code 13 = .ok (.iconst 1, 1) := by decide +kernel
theorem d_String_isLatin1_14 : decode prog_16_method_154_code 14 = .ok (.goto (4), 3) := by decide +kernel
theorem d_String_isLatin1_17 : decode prog_16_method_154_code 17 = .ok (.iconst 0, 1) := by decide +kernel
theorem d_String_isLatin1_18 : decode prog_16_method_154_code 18 = .ok (.ireturn, 1) := by decide +kernel
def f_String_isLatin1 (k : Nat) : Option (Int32) :=
  Option.bind (
    if (1 : Int32) = (0 : Int32) then
      some true
    else
      if (0 : Int32) = (0 : Int32) then
        some false
      else
        some true) (fun w3 => bif w3 then
    some ((0 : Int32))
  else
    some ((1 : Int32)))
set_option maxHeartbeats 4000000 in
set_option maxRecDepth 100000 in
theorem t_String_isLatin1 {l : Launch} {D : va_G} {cA : Nat → ClassId} {ad : Nat → Nat → Nat} {al : List (Nat × Nat)} {θ : ax_Θ} {ρ : ax_ρ} {k : Nat} (hk : k < 2)  {s : ax_σ} {r0 : Int32} (h : f_String_isLatin1 k = some r0) : ax_T l D cA ad al θ y_String_isLatin1 (.code y_String_isLatin1 prog_16_method_154_code 1 (some .boolean)) 0 [.inl (.ref (θ.1 k))] (ax_m s ρ) (some (.inl (.int r0))) (ax_m s ρ) := by
  refine ax_T_ofF (own := "java/lang/String") (by decide +kernel) rfl (Nat.le_of_ble_eq_true rfl) [(0, .inl (.ref (θ.1 k)))] rfl ?_
  intro G hA
  have hB := hA.B
  have hK := hB.K
  have hal := hB.la
  unfold f_String_isLatin1 at h
  refine ax_bk hK (ax_fc (ax_w_cs d_String_isLatin1_0 (nw_2 120 (by decide +kernel) rfl)) ax_fn) (y := (3, [(0, .inl (.ref (θ.1 k)))], [.inl (.int ((1 : Int32)))], ax_m (s) ρ)) rfl ⟨trivial, trivial⟩ ?_
  obtain ⟨w3, hw3, h⟩ := ax_bd h
  have KTw3 : w3 = true → ax_R G 1 0 0 (17, [], [], ax_m (s) ρ) := by
    intro e9
    subst w3
    replace h := ax_ct h
    refine ax_bk hK (ax_fc (ax_v_pu (ax_r_iconst (v := 0) d_String_isLatin1_17 (by decide))) ax_fn) (y := (18, [], [.inl (.int ((0 : Int32)))], ax_m (s) ρ)) rfl ⟨trivial, trivial⟩ ?_
    cases h
    exact ax_zret hA (by decide) d_String_isLatin1_18
  have KFw3 : w3 = false → ax_R G 1 0 0 (13, [], [], ax_m (s) ρ) := by
    intro e9
    subst w3
    replace h := ax_cf h
    refine ax_bk hK (ax_fc (ax_v_pu (ax_r_iconst (v := 1) d_String_isLatin1_13 (by decide))) (ax_fc (ax_v_go (tgt := 18) d_String_isLatin1_14 (by decide)) ax_fn)) (y := (18, [], [.inl (.int ((1 : Int32)))], ax_m (s) ρ)) rfl ⟨trivial, trivial, trivial⟩ ?_
    cases h
    exact ax_zret hA (by decide) d_String_isLatin1_18
  clear h
  have h := hw3
  refine ax_if_eq (tgt := 17) hK d_String_isLatin1_3 (by decide) (fun c2 => ?_) (fun c2 => ?_)
  · replace h := ax_it c2 h
    cases h
    exact ax_Lsub [] rfl (KTw3 rfl)
  · replace h := ax_if c2 h
    refine ax_bk hK (ax_fc (ax_v_ld (ax_r_aload_n (i := 0) d_String_isLatin1_6 rfl)) (ax_fc (ax_w_kc (k := k) hB.ht d_String_isLatin1_7 (nw_6 161 (by decide +kernel) rfl)) ax_fn)) (y := (10, [(0, .inl (.ref (θ.1 k)))], [.inl (.int ((0 : Int32)))], ax_m (s) ρ)) rfl ⟨trivial, ⟨rfl, hk⟩, trivial⟩ ?_
    refine ax_if_ne (tgt := 17) hK d_String_isLatin1_10 (by decide) (fun c1 => ?_) (fun c1 => ?_)
    · replace h := ax_if c1 h
      cases h
      exact ax_Lsub [] rfl (KTw3 rfl)
    · replace h := ax_it c1 h
      cases h
      exact ax_Lsub [] rfl (KFw3 rfl)
def y_String_length : MethodName := ⟨"java/lang/String", "length", "()I"⟩
theorem d_String_length_0 : decode prog_16_method_54_code 0 = .ok (.aload_n 0, 1) := by decide +kernel
theorem d_String_length_1 : decode prog_16_method_54_code 1 = .ok (.getfield (9), 3) := by decide +kernel
theorem d_String_length_4 : decode prog_16_method_54_code 4 = .ok (.arraylength, 1) := by decide +kernel
theorem d_String_length_5 : decode prog_16_method_54_code 5 = .ok (.aload_n 0, 1) := by decide +kernel
theorem d_String_length_6 : decode prog_16_method_54_code 6 = .ok (.invokevirtual (335), 3) := by decide +kernel
theorem d_String_length_9 : decode prog_16_method_54_code 9 = .ok (.ishr, 1) := by decide +kernel
theorem d_String_length_10 : decode prog_16_method_54_code 10 = .ok (.ireturn, 1) := by decide +kernel
set_option maxRecDepth 100000 in
theorem cw_String_335 : ax_cw "java/lang/String" 335 y_String_coder (.code y_String_coder prog_16_method_152_code 1 (some .byte)) 0 := ⟨nw_2 126 (by decide +kernel) rfl, nw_1 9 (by decide +kernel) rfl, nw_2 129 rfl rfl, by decide +kernel, by decide +kernel⟩
theorem im_String_coder : Cond.instanceMethod y_String_coder ∈ ax_tbl := nw_2 127 (by decide +kernel) rfl
theorem se_String_coder : Cond.selects y_String_coder.cls y_String_coder y_String_coder ∈ ax_tbl := nw_2 128 (by decide +kernel) rfl
def f_String_length (k : Nat) : Option (Int32) :=
  Option.bind (f_String_coder k) (fun r1 =>
    some (((Int32.ofNat (ax_len.getD k 0)) >>> (r1 &&& 31))))
set_option maxHeartbeats 4000000 in
set_option maxRecDepth 100000 in
theorem t_String_length {l : Launch} {D : va_G} {cA : Nat → ClassId} {ad : Nat → Nat → Nat} {al : List (Nat × Nat)} {θ : ax_Θ} {ρ : ax_ρ} {k : Nat} (hk : k < 2)  {s : ax_σ} {r0 : Int32} (h : f_String_length k = some r0) : ax_T l D cA ad al θ y_String_length (.code y_String_length prog_16_method_54_code 1 (some .int)) 1 [.inl (.ref (θ.1 k))] (ax_m s ρ) (some (.inl (.int r0))) (ax_m s ρ) := by
  refine ax_T_ofF (own := "java/lang/String") (by decide +kernel) rfl (Nat.le_of_ble_eq_true rfl) [(0, .inl (.ref (θ.1 k)))] rfl ?_
  intro G hA
  have hB := hA.B
  have hK := hB.K
  have hal := hB.la
  unfold f_String_length at h
  refine ax_bk hK (ax_fc (ax_v_ld (ax_r_aload_n (i := 0) d_String_length_0 rfl)) (ax_fc (ax_w_kv (k := k) hB.ht d_String_length_1 (nw_6 162 (by decide +kernel) rfl)) (ax_fc (ax_w_kl (k := k) hB.ht d_String_length_4) (ax_fc (ax_v_ld (ax_r_aload_n (i := 0) d_String_length_5 rfl)) ax_fn)))) (y := (6, [(0, .inl (.ref (θ.1 k)))], [.inl (.ref (θ.1 k)), .inl (.int ((Int32.ofNat (ax_len.getD k 0))))], ax_m (s) ρ)) rfl ⟨trivial, ⟨rfl, hk⟩, ⟨rfl, hk⟩, trivial, trivial⟩ ?_
  obtain ⟨r1, q2, h⟩ := ax_bd h
  refine ax_bK (k := k) (rest := [.inl (.int ((Int32.ofNat (ax_len.getD k 0))))]) hB (t_String_coder hk q2) cw_String_335 im_String_coder se_String_coder d_String_length_6 hk rfl (by decide) (by decide) rfl rfl (Nat.le_of_ble_eq_true rfl) ?_
  change ax_R G 1 0 0 (9, [(0, .inl (.ref (θ.1 k)))], [.inl (.int (r1)), .inl (.int ((Int32.ofNat (ax_len.getD k 0))))], ax_m (s) ρ)
  refine ax_bk hK (ax_fc (ax_v_pu (ax_r_ishr d_String_length_9)) ax_fn) (y := (10, [(0, .inl (.ref (θ.1 k)))], [.inl (.int (((Int32.ofNat (ax_len.getD k 0)) >>> (r1 &&& 31))))], ax_m (s) ρ)) rfl ⟨trivial, trivial⟩ ?_
  cases h
  exact ax_iret hA d_String_length_10
def y_StringLatin1_canEncode : MethodName := ⟨"java/lang/StringLatin1", "canEncode", "(I)Z"⟩
theorem d_StringLatin1_canEncode_0 : decode prog_17_method_4_code 0 = .ok (.iload_n 0, 1) := by decide +kernel
theorem d_StringLatin1_canEncode_1 : decode prog_17_method_4_code 1 = .ok (.ifCond .lt (14), 3) := by decide +kernel
theorem d_StringLatin1_canEncode_4 : decode prog_17_method_4_code 4 = .ok (.iload_n 0, 1) := by decide +kernel
theorem d_StringLatin1_canEncode_5 : decode prog_17_method_4_code 5 = .ok (.sipush (255), 3) := by decide +kernel
theorem d_StringLatin1_canEncode_8 : decode prog_17_method_4_code 8 = .ok (.if_icmp .gt (7), 3) := by decide +kernel
theorem d_StringLatin1_canEncode_11 : decode prog_17_method_4_code 11 = .ok (.iconst 1, 1) := by decide +kernel
theorem d_StringLatin1_canEncode_12 : decode prog_17_method_4_code 12 = .ok (.goto (4), 3) := by decide +kernel
theorem d_StringLatin1_canEncode_15 : decode prog_17_method_4_code 15 = .ok (.iconst 0, 1) := by decide +kernel
theorem d_StringLatin1_canEncode_16 : decode prog_17_method_4_code 16 = .ok (.ireturn, 1) := by decide +kernel
def f_StringLatin1_canEncode (a1 : Int32) : Option (Int32) :=
  Option.bind (
    if a1 < (0 : Int32) then
      some true
    else
      if (255 : Int32) < a1 then
        some true
      else
        some false) (fun w3 => bif w3 then
    some ((0 : Int32))
  else
    some ((1 : Int32)))
set_option maxHeartbeats 4000000 in
set_option maxRecDepth 100000 in
theorem t_StringLatin1_canEncode {l : Launch} {D : va_G} {cA : Nat → ClassId} {ad : Nat → Nat → Nat} {al : List (Nat × Nat)} {θ : ax_Θ} {ρ : ax_ρ}  {a1 : Int32} {s : ax_σ} {r0 : Int32} (h : f_StringLatin1_canEncode a1 = some r0) : ax_T l D cA ad al θ y_StringLatin1_canEncode (.code y_StringLatin1_canEncode prog_17_method_4_code 1 (some .boolean)) 0 [.inl (.int (a1))] (ax_m s ρ) (some (.inl (.int r0))) (ax_m s ρ) := by
  refine ax_T_ofF (own := "java/lang/StringLatin1") (by decide +kernel) rfl (Nat.le_of_ble_eq_true rfl) [(0, .inl (.int (a1)))] rfl ?_
  intro G hA
  have hB := hA.B
  have hK := hB.K
  have hal := hB.la
  unfold f_StringLatin1_canEncode at h
  refine ax_bk hK (ax_fc (ax_v_ld (ax_r_iload_n (i := 0) d_StringLatin1_canEncode_0 rfl)) ax_fn) (y := (1, [(0, .inl (.int (a1)))], [.inl (.int (a1))], ax_m (s) ρ)) rfl ⟨trivial, trivial⟩ ?_
  obtain ⟨w3, hw3, h⟩ := ax_bd h
  have KTw3 : w3 = true → ax_R G 1 0 0 (15, [], [], ax_m (s) ρ) := by
    intro e9
    subst w3
    replace h := ax_ct h
    refine ax_bk hK (ax_fc (ax_v_pu (ax_r_iconst (v := 0) d_StringLatin1_canEncode_15 (by decide))) ax_fn) (y := (16, [], [.inl (.int ((0 : Int32)))], ax_m (s) ρ)) rfl ⟨trivial, trivial⟩ ?_
    cases h
    exact ax_zret hA (by decide) d_StringLatin1_canEncode_16
  have KFw3 : w3 = false → ax_R G 1 0 0 (11, [], [], ax_m (s) ρ) := by
    intro e9
    subst w3
    replace h := ax_cf h
    refine ax_bk hK (ax_fc (ax_v_pu (ax_r_iconst (v := 1) d_StringLatin1_canEncode_11 (by decide))) (ax_fc (ax_v_go (tgt := 16) d_StringLatin1_canEncode_12 (by decide)) ax_fn)) (y := (16, [], [.inl (.int ((1 : Int32)))], ax_m (s) ρ)) rfl ⟨trivial, trivial, trivial⟩ ?_
    cases h
    exact ax_zret hA (by decide) d_StringLatin1_canEncode_16
  clear h
  have h := hw3
  refine ax_if_lt (tgt := 15) hK d_StringLatin1_canEncode_1 (by decide) (fun c2 => ?_) (fun c2 => ?_)
  · replace h := ax_it c2 h
    cases h
    exact ax_Lsub [] rfl (KTw3 rfl)
  · replace h := ax_if c2 h
    refine ax_bk hK (ax_fc (ax_v_ld (ax_r_iload_n (i := 0) d_StringLatin1_canEncode_4 rfl)) (ax_fc (ax_v_pu (ax_r_sipush (v := 255) d_StringLatin1_canEncode_5 (by decide))) ax_fn)) (y := (8, [(0, .inl (.int (a1)))], [.inl (.int ((255 : Int32))), .inl (.int (a1))], ax_m (s) ρ)) rfl ⟨trivial, trivial, trivial⟩ ?_
    refine ax_ic_gt (tgt := 15) hK d_StringLatin1_canEncode_8 (by decide) (fun c1 => ?_) (fun c1 => ?_)
    · replace h := ax_it c1 h
      cases h
      exact ax_Lsub [] rfl (KTw3 rfl)
    · replace h := ax_if c1 h
      cases h
      exact ax_Lsub [] rfl (KFw3 rfl)
def y_StringLatin1_indexOfChar : MethodName := ⟨"java/lang/StringLatin1", "indexOfChar", "([BIII)I"⟩
theorem d_StringLatin1_indexOfChar_0 : decode prog_17_method_23_code 0 = .ok (.iload_n 1, 1) := by decide +kernel
theorem d_StringLatin1_indexOfChar_1 : decode prog_17_method_23_code 1 = .ok (.i2b, 1) := by decide +kernel
theorem d_StringLatin1_indexOfChar_2 : decode prog_17_method_23_code 2 = .ok (.istore (4), 2) := by decide +kernel
theorem d_StringLatin1_indexOfChar_4 : decode prog_17_method_23_code 4 = .ok (.iload_n 2, 1) := by decide +kernel
theorem d_StringLatin1_indexOfChar_5 : decode prog_17_method_23_code 5 = .ok (.istore (5), 2) := by decide +kernel
theorem d_StringLatin1_indexOfChar_7 : decode prog_17_method_23_code 7 = .ok (.iload (5), 2) := by decide +kernel
theorem d_StringLatin1_indexOfChar_9 : decode prog_17_method_23_code 9 = .ok (.iload_n 3, 1) := by decide +kernel
theorem d_StringLatin1_indexOfChar_10 : decode prog_17_method_23_code 10 = .ok (.if_icmp .ge (21), 3) := by decide +kernel
theorem d_StringLatin1_indexOfChar_13 : decode prog_17_method_23_code 13 = .ok (.aload_n 0, 1) := by decide +kernel
theorem d_StringLatin1_indexOfChar_14 : decode prog_17_method_23_code 14 = .ok (.iload (5), 2) := by decide +kernel
theorem d_StringLatin1_indexOfChar_16 : decode prog_17_method_23_code 16 = .ok (.baload, 1) := by decide +kernel
theorem d_StringLatin1_indexOfChar_17 : decode prog_17_method_23_code 17 = .ok (.iload (4), 2) := by decide +kernel
theorem d_StringLatin1_indexOfChar_19 : decode prog_17_method_23_code 19 = .ok (.if_icmp .ne (6), 3) := by decide +kernel
theorem d_StringLatin1_indexOfChar_22 : decode prog_17_method_23_code 22 = .ok (.iload (5), 2) := by decide +kernel
theorem d_StringLatin1_indexOfChar_24 : decode prog_17_method_23_code 24 = .ok (.ireturn, 1) := by decide +kernel
theorem d_StringLatin1_indexOfChar_25 : decode prog_17_method_23_code 25 = .ok (.iinc 5 (1), 3) := by decide +kernel
theorem d_StringLatin1_indexOfChar_28 : decode prog_17_method_23_code 28 = .ok (.goto (-21), 3) := by decide +kernel
theorem d_StringLatin1_indexOfChar_31 : decode prog_17_method_23_code 31 = .ok (.iconst (-1), 1) := by decide +kernel
theorem d_StringLatin1_indexOfChar_32 : decode prog_17_method_23_code 32 = .ok (.ireturn, 1) := by decide +kernel
def lp_StringLatin1_indexOfChar_7 (F : Nat) (k : Nat) (x3 : Int32) (x4 : Int32) (s : ax_σ) : Nat → Int32 → Option ((Int32) ⊕ (Unit))
  | 0, _ => none
  | n + 1, x5 =>
    if x3 ≤ x5 then
      some (.inr ())
    else
      bif ax_in x5 (ax_len.getD k 0) then
      if ((ax_byt.getD k []).getD (x5).toNatClampNeg 0) = x4 then
        some (.inl x5)
      else
        lp_StringLatin1_indexOfChar_7 F k x3 x4 s n (x5 + (1 : Int32))
      else none
set_option maxHeartbeats 4000000 in
set_option maxRecDepth 100000 in
theorem pl_StringLatin1_indexOfChar_7 {D : va_G} {cA : Nat → ClassId} {ad : Nat → Nat → Nat} {al : List (Nat × Nat)} {θ : ax_Θ} {l : Launch} {ρ : ax_ρ} {G : ax_G} {F k : Nat} {x3 : Int32} {x4 : Int32} {s : ax_σ} (hk : k < 2) (hB : ax_B D cA ad al θ l "java/lang/StringLatin1" prog_17_method_23_code 6 0 G) : ∀ (n : Nat) {x5 : Int32} (out : (Int32) ⊕ (Unit)), lp_StringLatin1_indexOfChar_7 F k x3 x4 s n x5 = some out → (∀ (r0 : Int32), out = .inl r0 → ax_At D cA ad al θ l "java/lang/StringLatin1" prog_17_method_23_code 6 0 (some .int) (some (.inl (.int r0))) (ax_m s ρ) G) → (out = .inr () → ax_R G 6 0 0 (31, [], [], ax_m (s) ρ)) → ax_R G 6 0 0 (7, [(0, .inl (.ref (θ.2.1 k))), (3, .inl (.int (x3))), (4, .inl (.int (x4))), (5, .inl (.int (x5)))], [], ax_m (s) ρ) := by
  have hK := hB.K
  have hal := hB.la
  intro n
  induction n with
  | zero =>
    intro x5 out h
    cases h
  | succ n ih =>
    intro x5 out h RT KE
    rw [lp_StringLatin1_indexOfChar_7] at h
    refine ax_bk hK (ax_fc (ax_v_ld (ax_r_iload d_StringLatin1_indexOfChar_7)) (ax_fc (ax_v_ld (ax_r_iload_n (i := 3) d_StringLatin1_indexOfChar_9 rfl)) ax_fn)) (y := (10, [(0, .inl (.ref (θ.2.1 k))), (3, .inl (.int (x3))), (4, .inl (.int (x4))), (5, .inl (.int (x5)))], [.inl (.int (x3)), .inl (.int (x5))], ax_m (s) ρ)) rfl ⟨trivial, trivial, trivial⟩ ?_
    refine ax_ic_ge (tgt := 31) hK d_StringLatin1_indexOfChar_10 (by decide) (fun c3 => ?_) (fun c3 => ?_)
    · replace h := ax_it c3 h
      cases h
      exact ax_Lsub [] rfl (KE rfl)
    · replace h := ax_if c3 h
      obtain ⟨b1, h⟩ := ax_gd h
      refine ax_bk hK (ax_fc (ax_v_ld (ax_r_aload_n (i := 0) d_StringLatin1_indexOfChar_13 rfl)) (ax_fc (ax_v_ld (ax_r_iload d_StringLatin1_indexOfChar_14)) (ax_fc (ax_w_kb (k := k) hB.ht d_StringLatin1_indexOfChar_16) (ax_fc (ax_v_ld (ax_r_iload d_StringLatin1_indexOfChar_17)) ax_fn)))) (y := (19, [(0, .inl (.ref (θ.2.1 k))), (3, .inl (.int (x3))), (4, .inl (.int (x4))), (5, .inl (.int (x5)))], [.inl (.int (x4)), .inl (.int (((ax_byt.getD k []).getD (x5).toNatClampNeg 0)))], ax_m (s) ρ)) rfl ⟨trivial, trivial, ⟨rfl, hk, ax_inp b1⟩, trivial, trivial⟩ ?_
      refine ax_ic_ne (tgt := 25) hK d_StringLatin1_indexOfChar_19 (by decide) (fun c2 => ?_) (fun c2 => ?_)
      · replace h := ax_if c2 h
        refine ax_bk hK (ax_fc (ax_v_ii (d := 1) d_StringLatin1_indexOfChar_25 (by decide)) (ax_fc (ax_v_go (tgt := 7) d_StringLatin1_indexOfChar_28 (by decide)) ax_fn)) (y := (7, [(5, .inl (.int ((x5 + (1 : Int32))))), (0, .inl (.ref (θ.2.1 k))), (3, .inl (.int (x3))), (4, .inl (.int (x4)))], [], ax_m (s) ρ)) rfl ⟨trivial, trivial, trivial⟩ ?_
        exact ax_Lsub [1, 2, 3, 0] rfl (ih _ h RT KE)
      · replace h := ax_it c2 h
        refine ax_bk hK (ax_fc (ax_v_ld (ax_r_iload d_StringLatin1_indexOfChar_22)) ax_fn) (y := (24, [(0, .inl (.ref (θ.2.1 k))), (3, .inl (.int (x3))), (4, .inl (.int (x4))), (5, .inl (.int (x5)))], [.inl (.int (x5))], ax_m (s) ρ)) rfl ⟨trivial, trivial⟩ ?_
        cases h
        exact ax_iret (RT _ rfl) d_StringLatin1_indexOfChar_24
def f_StringLatin1_indexOfChar (F : Nat) (k : Nat) (a2 : Int32) (a3 : Int32) (a4 : Int32) (s : ax_σ) : Option (Int32) :=
  Option.bind (lp_StringLatin1_indexOfChar_7 F k a4 ((a2).toInt8.toInt32) s F a3) (fun w => match w with
    | .inl w => some w
    | .inr _ =>
      some ((-1 : Int32)))
set_option maxHeartbeats 4000000 in
set_option maxRecDepth 100000 in
theorem t_StringLatin1_indexOfChar {l : Launch} {D : va_G} {cA : Nat → ClassId} {ad : Nat → Nat → Nat} {al : List (Nat × Nat)} {θ : ax_Θ} {ρ : ax_ρ} {F : Nat} {k : Nat} (hk : k < 2) {a2 : Int32} {a3 : Int32} {a4 : Int32} {s : ax_σ} {r0 : Int32} (h : f_StringLatin1_indexOfChar F k a2 a3 a4 s = some r0) : ax_T l D cA ad al θ y_StringLatin1_indexOfChar (.code y_StringLatin1_indexOfChar prog_17_method_23_code 6 (some .int)) 0 [.inl (.ref (θ.2.1 k)), .inl (.int (a2)), .inl (.int (a3)), .inl (.int (a4))] (ax_m s ρ) (some (.inl (.int r0))) (ax_m s ρ) := by
  refine ax_T_ofF (own := "java/lang/StringLatin1") (by decide +kernel) rfl (Nat.le_of_ble_eq_true rfl) [(0, .inl (.ref (θ.2.1 k))), (1, .inl (.int (a2))), (2, .inl (.int (a3))), (3, .inl (.int (a4)))] rfl ?_
  intro G hA
  have hB := hA.B
  have hK := hB.K
  have hal := hB.la
  unfold f_StringLatin1_indexOfChar at h
  refine ax_bk hK (ax_fc (ax_v_ld (ax_r_iload_n (i := 1) d_StringLatin1_indexOfChar_0 rfl)) (ax_fc (ax_v_pu (ax_r_i2b d_StringLatin1_indexOfChar_1)) (ax_fc (ax_v_so (ax_r_istore d_StringLatin1_indexOfChar_2)) (ax_fc (ax_v_ld (ax_r_iload_n (i := 2) d_StringLatin1_indexOfChar_4 rfl)) (ax_fc (ax_v_so (ax_r_istore d_StringLatin1_indexOfChar_5)) ax_fn))))) (y := (7, [(5, .inl (.int (a3))), (4, .inl (.int ((a2).toInt8.toInt32))), (0, .inl (.ref (θ.2.1 k))), (1, .inl (.int (a2))), (2, .inl (.int (a3))), (3, .inl (.int (a4)))], [], ax_m (s) ρ)) rfl ⟨trivial, trivial, trivial, trivial, trivial, trivial⟩ ?_
  obtain ⟨w4, hw4, h⟩ := ax_bd h
  have RTw4 : ∀ (r0 : Int32), w4 = .inl r0 → ax_At D cA ad al θ l "java/lang/StringLatin1" prog_17_method_23_code 6 0 (some .int) (some (.inl (.int r0))) (ax_m s ρ) G := by
    intro r0 e9
    subst w4
    try dsimp only at h
    cases h
    exact hA
  refine ax_Lsub [2, 5, 1, 0] rfl (pl_StringLatin1_indexOfChar_7 hk hB F _ hw4 RTw4 ?_)
  intro  e9
  subst w4
  try dsimp only at h
  change ax_R G 6 0 0 (31, [], [], ax_m (s) ρ)
  refine ax_bk hK (ax_fc (ax_v_pu (ax_r_iconst (v := -1) d_StringLatin1_indexOfChar_31 (by decide))) ax_fn) (y := (32, [], [.inl (.int ((-1 : Int32)))], ax_m (s) ρ)) rfl ⟨trivial, trivial⟩ ?_
  cases h
  exact ax_iret hA d_StringLatin1_indexOfChar_32
def y_StringLatin1_indexOf : MethodName := ⟨"java/lang/StringLatin1", "indexOf", "([BIII)I"⟩
theorem d_StringLatin1_indexOf_0 : decode prog_17_method_22_code 0 = .ok (.iload_n 1, 1) := by decide +kernel
theorem d_StringLatin1_indexOf_1 : decode prog_17_method_22_code 1 = .ok (.invokestatic (88), 3) := by decide +kernel
theorem d_StringLatin1_indexOf_4 : decode prog_17_method_22_code 4 = .ok (.ifCond .ne (5), 3) := by decide +kernel
theorem d_StringLatin1_indexOf_7 : decode prog_17_method_22_code 7 = .ok (.iconst (-1), 1) := by decide +kernel
theorem d_StringLatin1_indexOf_8 : decode prog_17_method_22_code 8 = .ok (.ireturn, 1) := by decide +kernel
theorem d_StringLatin1_indexOf_9 : decode prog_17_method_22_code 9 = .ok (.iload_n 2, 1) := by decide +kernel
theorem d_StringLatin1_indexOf_10 : decode prog_17_method_22_code 10 = .ok (.iconst 0, 1) := by decide +kernel
theorem d_StringLatin1_indexOf_11 : decode prog_17_method_22_code 11 = .ok (.invokestatic (92), 3) := by decide +kernel
theorem d_StringLatin1_indexOf_14 : decode prog_17_method_22_code 14 = .ok (.istore_n 2, 1) := by decide +kernel
theorem d_StringLatin1_indexOf_15 : decode prog_17_method_22_code 15 = .ok (.iload_n 3, 1) := by decide +kernel
theorem d_StringLatin1_indexOf_16 : decode prog_17_method_22_code 16 = .ok (.aload_n 0, 1) := by decide +kernel
theorem d_StringLatin1_indexOf_17 : decode prog_17_method_22_code 17 = .ok (.arraylength, 1) := by decide +kernel
theorem d_StringLatin1_indexOf_18 : decode prog_17_method_22_code 18 = .ok (.invokestatic (38), 3) := by decide +kernel
theorem d_StringLatin1_indexOf_21 : decode prog_17_method_22_code 21 = .ok (.istore_n 3, 1) := by decide +kernel
theorem d_StringLatin1_indexOf_22 : decode prog_17_method_22_code 22 = .ok (.iload_n 2, 1) := by decide +kernel
theorem d_StringLatin1_indexOf_23 : decode prog_17_method_22_code 23 = .ok (.iload_n 3, 1) := by decide +kernel
theorem d_StringLatin1_indexOf_24 : decode prog_17_method_22_code 24 = .ok (.if_icmp .lt (5), 3) := by decide +kernel
theorem d_StringLatin1_indexOf_27 : decode prog_17_method_22_code 27 = .ok (.iconst (-1), 1) := by decide +kernel
theorem d_StringLatin1_indexOf_28 : decode prog_17_method_22_code 28 = .ok (.ireturn, 1) := by decide +kernel
theorem d_StringLatin1_indexOf_29 : decode prog_17_method_22_code 29 = .ok (.aload_n 0, 1) := by decide +kernel
theorem d_StringLatin1_indexOf_30 : decode prog_17_method_22_code 30 = .ok (.iload_n 1, 1) := by decide +kernel
theorem d_StringLatin1_indexOf_31 : decode prog_17_method_22_code 31 = .ok (.iload_n 2, 1) := by decide +kernel
theorem d_StringLatin1_indexOf_32 : decode prog_17_method_22_code 32 = .ok (.iload_n 3, 1) := by decide +kernel
theorem d_StringLatin1_indexOf_33 : decode prog_17_method_22_code 33 = .ok (.invokestatic (95), 3) := by decide +kernel
theorem d_StringLatin1_indexOf_36 : decode prog_17_method_22_code 36 = .ok (.ireturn, 1) := by decide +kernel
set_option maxRecDepth 100000 in
theorem cw_StringLatin1_88 : ax_cw "java/lang/StringLatin1" 88 y_StringLatin1_canEncode (.code y_StringLatin1_canEncode prog_17_method_4_code 1 (some .boolean)) 1 := ⟨nw_2 133 (by decide +kernel) rfl, nw_1 10 (by decide +kernel) rfl, nw_2 135 rfl rfl, by decide +kernel, by decide +kernel⟩
theorem sm_StringLatin1_canEncode : Cond.static y_StringLatin1_canEncode ∈ ax_tbl := nw_2 134 (by decide +kernel) rfl
set_option maxRecDepth 100000 in
theorem cw_StringLatin1_92 : ax_cw "java/lang/StringLatin1" 92 y_Math_max_II (.code y_Math_max_II prog_14_method_65_code 2 (some .int)) 2 := ⟨nw_2 136 (by decide +kernel) rfl, nw_1 8 (by decide +kernel) rfl, nw_2 138 rfl rfl, by decide +kernel, by decide +kernel⟩
set_option maxRecDepth 100000 in
theorem cw_StringLatin1_38 : ax_cw "java/lang/StringLatin1" 38 y_Math_min (.code y_Math_min prog_14_method_69_code 2 (some .int)) 2 := ⟨nw_2 139 (by decide +kernel) rfl, nw_1 8 (by decide +kernel) rfl, nw_2 87 rfl rfl, by decide +kernel, by decide +kernel⟩
set_option maxRecDepth 100000 in
theorem cw_StringLatin1_95 : ax_cw "java/lang/StringLatin1" 95 y_StringLatin1_indexOfChar (.code y_StringLatin1_indexOfChar prog_17_method_23_code 6 (some .int)) 4 := ⟨nw_2 140 (by decide +kernel) rfl, nw_1 10 (by decide +kernel) rfl, nw_2 142 rfl rfl, by decide +kernel, by decide +kernel⟩
theorem sm_StringLatin1_indexOfChar : Cond.static y_StringLatin1_indexOfChar ∈ ax_tbl := nw_2 141 (by decide +kernel) rfl
def f_StringLatin1_indexOf (F : Nat) (k : Nat) (a2 : Int32) (a3 : Int32) (a4 : Int32) (s : ax_σ) : Option (Int32) :=
  Option.bind (f_StringLatin1_canEncode a2) (fun r1 =>
    if r1 = (0 : Int32) then
      some ((-1 : Int32))
    else
      Option.bind (f_Math_max_II a3 (0 : Int32)) (fun r3 =>
        Option.bind (f_Math_min a4 (Int32.ofNat (ax_len.getD k 0))) (fun r5 =>
          if r3 < r5 then
            Option.bind (f_StringLatin1_indexOfChar F k a2 r3 r5 s) (fun r7 =>
              some (r7))
          else
            some ((-1 : Int32)))))
set_option maxHeartbeats 4000000 in
set_option maxRecDepth 100000 in
theorem t_StringLatin1_indexOf {l : Launch} {D : va_G} {cA : Nat → ClassId} {ad : Nat → Nat → Nat} {al : List (Nat × Nat)} {θ : ax_Θ} {ρ : ax_ρ} {F : Nat} {k : Nat} (hk : k < 2) {a2 : Int32} {a3 : Int32} {a4 : Int32} {s : ax_σ} {r0 : Int32} (h : f_StringLatin1_indexOf F k a2 a3 a4 s = some r0) : ax_T l D cA ad al θ y_StringLatin1_indexOf (.code y_StringLatin1_indexOf prog_17_method_22_code 4 (some .int)) 1 [.inl (.ref (θ.2.1 k)), .inl (.int (a2)), .inl (.int (a3)), .inl (.int (a4))] (ax_m s ρ) (some (.inl (.int r0))) (ax_m s ρ) := by
  refine ax_T_ofF (own := "java/lang/StringLatin1") (by decide +kernel) rfl (Nat.le_of_ble_eq_true rfl) [(0, .inl (.ref (θ.2.1 k))), (1, .inl (.int (a2))), (2, .inl (.int (a3))), (3, .inl (.int (a4)))] rfl ?_
  intro G hA
  have hB := hA.B
  have hK := hB.K
  have hal := hB.la
  unfold f_StringLatin1_indexOf at h
  refine ax_bk hK (ax_fc (ax_v_ld (ax_r_iload_n (i := 1) d_StringLatin1_indexOf_0 rfl)) ax_fn) (y := (1, [(0, .inl (.ref (θ.2.1 k))), (1, .inl (.int (a2))), (2, .inl (.int (a3))), (3, .inl (.int (a4)))], [.inl (.int (a2))], ax_m (s) ρ)) rfl ⟨trivial, trivial⟩ ?_
  obtain ⟨r1, q2, h⟩ := ax_bd h
  refine ax_bS (rest := []) hB (t_StringLatin1_canEncode q2) cw_StringLatin1_88 sm_StringLatin1_canEncode d_StringLatin1_indexOf_1 (by decide) (by decide) rfl rfl (Nat.le_of_ble_eq_true rfl) ?_
  change ax_R G 4 0 0 (4, [(0, .inl (.ref (θ.2.1 k))), (1, .inl (.int (a2))), (2, .inl (.int (a3))), (3, .inl (.int (a4)))], [.inl (.int (r1))], ax_m (s) ρ)
  refine ax_if_ne (tgt := 9) hK d_StringLatin1_indexOf_4 (by decide) (fun c10 => ?_) (fun c10 => ?_)
  · replace h := ax_if c10 h
    refine ax_bk hK (ax_fc (ax_v_ld (ax_r_iload_n (i := 2) d_StringLatin1_indexOf_9 rfl)) (ax_fc (ax_v_pu (ax_r_iconst (v := 0) d_StringLatin1_indexOf_10 (by decide))) ax_fn)) (y := (11, [(0, .inl (.ref (θ.2.1 k))), (1, .inl (.int (a2))), (2, .inl (.int (a3))), (3, .inl (.int (a4)))], [.inl (.int ((0 : Int32))), .inl (.int (a3))], ax_m (s) ρ)) rfl ⟨trivial, trivial, trivial⟩ ?_
    obtain ⟨r3, q4, h⟩ := ax_bd h
    refine ax_bS (rest := []) hB (t_Math_max_II q4) cw_StringLatin1_92 sm_Math_max_II d_StringLatin1_indexOf_11 (by decide) (by decide) rfl rfl (Nat.le_of_ble_eq_true rfl) ?_
    change ax_R G 4 0 0 (14, [(0, .inl (.ref (θ.2.1 k))), (1, .inl (.int (a2))), (2, .inl (.int (a3))), (3, .inl (.int (a4)))], [.inl (.int (r3))], ax_m (s) ρ)
    refine ax_bk hK (ax_fc (ax_v_so (ax_r_istore_n (i := 2) d_StringLatin1_indexOf_14 rfl)) (ax_fc (ax_v_ld (ax_r_iload_n (i := 3) d_StringLatin1_indexOf_15 rfl)) (ax_fc (ax_v_ld (ax_r_aload_n (i := 0) d_StringLatin1_indexOf_16 rfl)) (ax_fc (ax_w_kl (k := k) hB.ht d_StringLatin1_indexOf_17) ax_fn)))) (y := (18, [(2, .inl (.int (r3))), (0, .inl (.ref (θ.2.1 k))), (1, .inl (.int (a2))), (3, .inl (.int (a4)))], [.inl (.int ((Int32.ofNat (ax_len.getD k 0)))), .inl (.int (a4))], ax_m (s) ρ)) rfl ⟨trivial, trivial, trivial, ⟨rfl, hk⟩, trivial⟩ ?_
    obtain ⟨r5, q6, h⟩ := ax_bd h
    refine ax_bS (rest := []) hB (t_Math_min q6) cw_StringLatin1_38 sm_Math_min d_StringLatin1_indexOf_18 (by decide) (by decide) rfl rfl (Nat.le_of_ble_eq_true rfl) ?_
    change ax_R G 4 0 0 (21, [(2, .inl (.int (r3))), (0, .inl (.ref (θ.2.1 k))), (1, .inl (.int (a2))), (3, .inl (.int (a4)))], [.inl (.int (r5))], ax_m (s) ρ)
    refine ax_bk hK (ax_fc (ax_v_so (ax_r_istore_n (i := 3) d_StringLatin1_indexOf_21 rfl)) (ax_fc (ax_v_ld (ax_r_iload_n (i := 2) d_StringLatin1_indexOf_22 rfl)) (ax_fc (ax_v_ld (ax_r_iload_n (i := 3) d_StringLatin1_indexOf_23 rfl)) ax_fn))) (y := (24, [(3, .inl (.int (r5))), (2, .inl (.int (r3))), (0, .inl (.ref (θ.2.1 k))), (1, .inl (.int (a2)))], [.inl (.int (r5)), .inl (.int (r3))], ax_m (s) ρ)) rfl ⟨trivial, trivial, trivial, trivial⟩ ?_
    refine ax_ic_lt (tgt := 29) hK d_StringLatin1_indexOf_24 (by decide) (fun c9 => ?_) (fun c9 => ?_)
    · replace h := ax_it c9 h
      refine ax_bk hK (ax_fc (ax_v_ld (ax_r_aload_n (i := 0) d_StringLatin1_indexOf_29 rfl)) (ax_fc (ax_v_ld (ax_r_iload_n (i := 1) d_StringLatin1_indexOf_30 rfl)) (ax_fc (ax_v_ld (ax_r_iload_n (i := 2) d_StringLatin1_indexOf_31 rfl)) (ax_fc (ax_v_ld (ax_r_iload_n (i := 3) d_StringLatin1_indexOf_32 rfl)) ax_fn)))) (y := (33, [(3, .inl (.int (r5))), (2, .inl (.int (r3))), (0, .inl (.ref (θ.2.1 k))), (1, .inl (.int (a2)))], [.inl (.int (r5)), .inl (.int (r3)), .inl (.int (a2)), .inl (.ref (θ.2.1 k))], ax_m (s) ρ)) rfl ⟨trivial, trivial, trivial, trivial, trivial⟩ ?_
      obtain ⟨r7, q8, h⟩ := ax_bd h
      refine ax_bS (rest := []) hB (t_StringLatin1_indexOfChar hk q8) cw_StringLatin1_95 sm_StringLatin1_indexOfChar d_StringLatin1_indexOf_33 (by decide) (by decide) rfl rfl (Nat.le_of_ble_eq_true rfl) ?_
      change ax_R G 4 0 0 (36, [(3, .inl (.int (r5))), (2, .inl (.int (r3))), (0, .inl (.ref (θ.2.1 k))), (1, .inl (.int (a2)))], [.inl (.int (r7))], ax_m (s) ρ)
      cases h
      exact ax_iret hA d_StringLatin1_indexOf_36
    · replace h := ax_if c9 h
      refine ax_bk hK (ax_fc (ax_v_pu (ax_r_iconst (v := -1) d_StringLatin1_indexOf_27 (by decide))) ax_fn) (y := (28, [(3, .inl (.int (r5))), (2, .inl (.int (r3))), (0, .inl (.ref (θ.2.1 k))), (1, .inl (.int (a2)))], [.inl (.int ((-1 : Int32)))], ax_m (s) ρ)) rfl ⟨trivial, trivial⟩ ?_
      cases h
      exact ax_iret hA d_StringLatin1_indexOf_28
  · replace h := ax_it c10 h
    refine ax_bk hK (ax_fc (ax_v_pu (ax_r_iconst (v := -1) d_StringLatin1_indexOf_7 (by decide))) ax_fn) (y := (8, [(0, .inl (.ref (θ.2.1 k))), (1, .inl (.int (a2))), (2, .inl (.int (a3))), (3, .inl (.int (a4)))], [.inl (.int ((-1 : Int32)))], ax_m (s) ρ)) rfl ⟨trivial, trivial⟩ ?_
    cases h
    exact ax_iret hA d_StringLatin1_indexOf_8
def y_String_indexOf_II : MethodName := ⟨"java/lang/String", "indexOf", "(II)I"⟩
theorem d_String_indexOf_II_0 : decode prog_16_method_80_code 0 = .ok (.aload_n 0, 1) := by decide +kernel
theorem d_String_indexOf_II_1 : decode prog_16_method_80_code 1 = .ok (.invokevirtual (492), 3) := by decide +kernel
theorem d_String_indexOf_II_4 : decode prog_16_method_80_code 4 = .ok (.ifCond .eq (19), 3) := by decide +kernel
theorem d_String_indexOf_II_7 : decode prog_16_method_80_code 7 = .ok (.aload_n 0, 1) := by decide +kernel
theorem d_String_indexOf_II_8 : decode prog_16_method_80_code 8 = .ok (.getfield (9), 3) := by decide +kernel
theorem d_String_indexOf_II_11 : decode prog_16_method_80_code 11 = .ok (.iload_n 1, 1) := by decide +kernel
theorem d_String_indexOf_II_12 : decode prog_16_method_80_code 12 = .ok (.iload_n 2, 1) := by decide +kernel
theorem d_String_indexOf_II_13 : decode prog_16_method_80_code 13 = .ok (.aload_n 0, 1) := by decide +kernel
theorem d_String_indexOf_II_14 : decode prog_16_method_80_code 14 = .ok (.invokevirtual (505), 3) := by decide +kernel
theorem d_String_indexOf_II_17 : decode prog_16_method_80_code 17 = .ok (.invokestatic (637), 3) := by decide +kernel
theorem d_String_indexOf_II_20 : decode prog_16_method_80_code 20 = .ok (.goto (16), 3) := by decide +kernel
theorem d_String_indexOf_II_23 : decode prog_16_method_80_code 23 = .ok (.aload_n 0, 1) := by decide +kernel
theorem d_String_indexOf_II_24 : decode prog_16_method_80_code 24 = .ok (.getfield (9), 3) := by decide +kernel
theorem d_String_indexOf_II_27 : decode prog_16_method_80_code 27 = .ok (.iload_n 1, 1) := by decide +kernel
theorem d_String_indexOf_II_28 : decode prog_16_method_80_code 28 = .ok (.iload_n 2, 1) := by decide +kernel
theorem d_String_indexOf_II_29 : decode prog_16_method_80_code 29 = .ok (.aload_n 0, 1) := by decide +kernel
theorem d_String_indexOf_II_30 : decode prog_16_method_80_code 30 = .ok (.invokevirtual (505), 3) := by decide +kernel
theorem d_String_indexOf_II_33 : decode prog_16_method_80_code 33 = .ok (.invokestatic (640), 3) := by decide +kernel
theorem d_String_indexOf_II_36 : decode prog_16_method_80_code 36 = .ok (.ireturn, 1) := by decide +kernel
set_option maxRecDepth 100000 in
theorem cw_String_492 : ax_cw "java/lang/String" 492 y_String_isLatin1 (.code y_String_isLatin1 prog_16_method_154_code 1 (some .boolean)) 0 := ⟨nw_2 116 (by decide +kernel) rfl, nw_1 9 (by decide +kernel) rfl, nw_2 119 rfl rfl, by decide +kernel, by decide +kernel⟩
theorem im_String_isLatin1 : Cond.instanceMethod y_String_isLatin1 ∈ ax_tbl := nw_2 117 (by decide +kernel) rfl
theorem se_String_isLatin1 : Cond.selects y_String_isLatin1.cls y_String_isLatin1 y_String_isLatin1 ∈ ax_tbl := nw_2 118 (by decide +kernel) rfl
set_option maxRecDepth 100000 in
theorem cw_String_505 : ax_cw "java/lang/String" 505 y_String_length (.code y_String_length prog_16_method_54_code 1 (some .int)) 0 := ⟨nw_2 122 (by decide +kernel) rfl, nw_1 9 (by decide +kernel) rfl, nw_2 125 rfl rfl, by decide +kernel, by decide +kernel⟩
theorem im_String_length : Cond.instanceMethod y_String_length ∈ ax_tbl := nw_2 123 (by decide +kernel) rfl
theorem se_String_length : Cond.selects y_String_length.cls y_String_length y_String_length ∈ ax_tbl := nw_2 124 (by decide +kernel) rfl
set_option maxRecDepth 100000 in
theorem cw_String_637 : ax_cw "java/lang/String" 637 y_StringLatin1_indexOf (.code y_StringLatin1_indexOf prog_17_method_22_code 4 (some .int)) 4 := ⟨nw_2 130 (by decide +kernel) rfl, nw_1 10 (by decide +kernel) rfl, nw_2 132 rfl rfl, by decide +kernel, by decide +kernel⟩
theorem sm_StringLatin1_indexOf : Cond.static y_StringLatin1_indexOf ∈ ax_tbl := nw_2 131 (by decide +kernel) rfl
def f_String_indexOf_II (F : Nat) (k : Nat) (a1 : Int32) (a2 : Int32) (s : ax_σ) : Option (Int32) :=
  Option.bind (f_String_isLatin1 k) (fun r1 =>
    if r1 = (0 : Int32) then
      Option.bind (f_String_length k) (fun r3 =>
        none)
    else
      Option.bind (f_String_length k) (fun r5 =>
        Option.bind (f_StringLatin1_indexOf F k a1 a2 r5 s) (fun r7 =>
          some (r7))))
set_option maxHeartbeats 4000000 in
set_option maxRecDepth 100000 in
theorem t_String_indexOf_II {l : Launch} {D : va_G} {cA : Nat → ClassId} {ad : Nat → Nat → Nat} {al : List (Nat × Nat)} {θ : ax_Θ} {ρ : ax_ρ} {F : Nat} {k : Nat} (hk : k < 2) {a1 : Int32} {a2 : Int32} {s : ax_σ} {r0 : Int32} (h : f_String_indexOf_II F k a1 a2 s = some r0) : ax_T l D cA ad al θ y_String_indexOf_II (.code y_String_indexOf_II prog_16_method_80_code 3 (some .int)) 2 [.inl (.ref (θ.1 k)), .inl (.int (a1)), .inl (.int (a2))] (ax_m s ρ) (some (.inl (.int r0))) (ax_m s ρ) := by
  refine ax_T_ofF (own := "java/lang/String") (by decide +kernel) rfl (Nat.le_of_ble_eq_true rfl) [(0, .inl (.ref (θ.1 k))), (1, .inl (.int (a1))), (2, .inl (.int (a2)))] rfl ?_
  intro G hA
  have hB := hA.B
  have hK := hB.K
  have hal := hB.la
  unfold f_String_indexOf_II at h
  refine ax_bk hK (ax_fc (ax_v_ld (ax_r_aload_n (i := 0) d_String_indexOf_II_0 rfl)) ax_fn) (y := (1, [(0, .inl (.ref (θ.1 k))), (1, .inl (.int (a1))), (2, .inl (.int (a2)))], [.inl (.ref (θ.1 k))], ax_m (s) ρ)) rfl ⟨trivial, trivial⟩ ?_
  obtain ⟨r1, q2, h⟩ := ax_bd h
  refine ax_bK (k := k) (rest := []) hB (t_String_isLatin1 hk q2) cw_String_492 im_String_isLatin1 se_String_isLatin1 d_String_indexOf_II_1 hk rfl (by decide) (by decide) rfl rfl (Nat.le_of_ble_eq_true rfl) ?_
  change ax_R G 3 0 0 (4, [(0, .inl (.ref (θ.1 k))), (1, .inl (.int (a1))), (2, .inl (.int (a2)))], [.inl (.int (r1))], ax_m (s) ρ)
  refine ax_if_eq (tgt := 23) hK d_String_indexOf_II_4 (by decide) (fun c9 => ?_) (fun c9 => ?_)
  · replace h := ax_it c9 h
    refine ax_bk hK (ax_fc (ax_v_ld (ax_r_aload_n (i := 0) d_String_indexOf_II_23 rfl)) (ax_fc (ax_w_kv (k := k) hB.ht d_String_indexOf_II_24 (nw_6 162 (by decide +kernel) rfl)) (ax_fc (ax_v_ld (ax_r_iload_n (i := 1) d_String_indexOf_II_27 rfl)) (ax_fc (ax_v_ld (ax_r_iload_n (i := 2) d_String_indexOf_II_28 rfl)) (ax_fc (ax_v_ld (ax_r_aload_n (i := 0) d_String_indexOf_II_29 rfl)) ax_fn))))) (y := (30, [(0, .inl (.ref (θ.1 k))), (1, .inl (.int (a1))), (2, .inl (.int (a2)))], [.inl (.ref (θ.1 k)), .inl (.int (a2)), .inl (.int (a1)), .inl (.ref (θ.2.1 k))], ax_m (s) ρ)) rfl ⟨trivial, ⟨rfl, hk⟩, trivial, trivial, trivial, trivial⟩ ?_
    obtain ⟨r3, q4, h⟩ := ax_bd h
    refine ax_bK (k := k) (rest := [.inl (.int (a2)), .inl (.int (a1)), .inl (.ref (θ.2.1 k))]) hB (t_String_length hk q4) cw_String_505 im_String_length se_String_length d_String_indexOf_II_30 hk rfl (by decide) (by decide) rfl rfl (Nat.le_of_ble_eq_true rfl) ?_
    change ax_R G 3 0 0 (33, [(0, .inl (.ref (θ.1 k))), (1, .inl (.int (a1))), (2, .inl (.int (a2)))], [.inl (.int (r3)), .inl (.int (a2)), .inl (.int (a1)), .inl (.ref (θ.2.1 k))], ax_m (s) ρ)
    cases h
  · replace h := ax_if c9 h
    refine ax_bk hK (ax_fc (ax_v_ld (ax_r_aload_n (i := 0) d_String_indexOf_II_7 rfl)) (ax_fc (ax_w_kv (k := k) hB.ht d_String_indexOf_II_8 (nw_6 162 (by decide +kernel) rfl)) (ax_fc (ax_v_ld (ax_r_iload_n (i := 1) d_String_indexOf_II_11 rfl)) (ax_fc (ax_v_ld (ax_r_iload_n (i := 2) d_String_indexOf_II_12 rfl)) (ax_fc (ax_v_ld (ax_r_aload_n (i := 0) d_String_indexOf_II_13 rfl)) ax_fn))))) (y := (14, [(0, .inl (.ref (θ.1 k))), (1, .inl (.int (a1))), (2, .inl (.int (a2)))], [.inl (.ref (θ.1 k)), .inl (.int (a2)), .inl (.int (a1)), .inl (.ref (θ.2.1 k))], ax_m (s) ρ)) rfl ⟨trivial, ⟨rfl, hk⟩, trivial, trivial, trivial, trivial⟩ ?_
    obtain ⟨r5, q6, h⟩ := ax_bd h
    refine ax_bK (k := k) (rest := [.inl (.int (a2)), .inl (.int (a1)), .inl (.ref (θ.2.1 k))]) hB (t_String_length hk q6) cw_String_505 im_String_length se_String_length d_String_indexOf_II_14 hk rfl (by decide) (by decide) rfl rfl (Nat.le_of_ble_eq_true rfl) ?_
    change ax_R G 3 0 0 (17, [(0, .inl (.ref (θ.1 k))), (1, .inl (.int (a1))), (2, .inl (.int (a2)))], [.inl (.int (r5)), .inl (.int (a2)), .inl (.int (a1)), .inl (.ref (θ.2.1 k))], ax_m (s) ρ)
    obtain ⟨r7, q8, h⟩ := ax_bd h
    refine ax_bS (rest := []) hB (t_StringLatin1_indexOf hk q8) cw_String_637 sm_StringLatin1_indexOf d_String_indexOf_II_17 (by decide) (by decide) rfl rfl (Nat.le_of_ble_eq_true rfl) ?_
    change ax_R G 3 0 0 (20, [(0, .inl (.ref (θ.1 k))), (1, .inl (.int (a1))), (2, .inl (.int (a2)))], [.inl (.int (r7))], ax_m (s) ρ)
    refine ax_bk hK (ax_fc (ax_v_go (tgt := 36) d_String_indexOf_II_20 (by decide)) ax_fn) (y := (36, [(0, .inl (.ref (θ.1 k))), (1, .inl (.int (a1))), (2, .inl (.int (a2)))], [.inl (.int (r7))], ax_m (s) ρ)) rfl ⟨trivial, trivial⟩ ?_
    cases h
    exact ax_iret hA d_String_indexOf_II_36
def y_String_indexOf_I : MethodName := ⟨"java/lang/String", "indexOf", "(I)I"⟩
theorem d_String_indexOf_I_0 : decode prog_16_method_79_code 0 = .ok (.aload_n 0, 1) := by decide +kernel
theorem d_String_indexOf_I_1 : decode prog_16_method_79_code 1 = .ok (.iload_n 1, 1) := by decide +kernel
theorem d_String_indexOf_I_2 : decode prog_16_method_79_code 2 = .ok (.iconst 0, 1) := by decide +kernel
theorem d_String_indexOf_I_3 : decode prog_16_method_79_code 3 = .ok (.invokevirtual (633), 3) := by decide +kernel
theorem d_String_indexOf_I_6 : decode prog_16_method_79_code 6 = .ok (.ireturn, 1) := by decide +kernel
set_option maxRecDepth 100000 in
theorem cw_String_633 : ax_cw "java/lang/String" 633 y_String_indexOf_II (.code y_String_indexOf_II prog_16_method_80_code 3 (some .int)) 2 := ⟨nw_2 112 (by decide +kernel) rfl, nw_1 9 (by decide +kernel) rfl, nw_2 115 rfl rfl, by decide +kernel, by decide +kernel⟩
theorem im_String_indexOf_II : Cond.instanceMethod y_String_indexOf_II ∈ ax_tbl := nw_2 113 (by decide +kernel) rfl
theorem se_String_indexOf_II : Cond.selects y_String_indexOf_II.cls y_String_indexOf_II y_String_indexOf_II ∈ ax_tbl := nw_2 114 (by decide +kernel) rfl
def f_String_indexOf_I (F : Nat) (k : Nat) (a1 : Int32) (s : ax_σ) : Option (Int32) :=
  Option.bind (f_String_indexOf_II F k a1 (0 : Int32) s) (fun r1 =>
    some (r1))
set_option maxHeartbeats 4000000 in
set_option maxRecDepth 100000 in
theorem t_String_indexOf_I {l : Launch} {D : va_G} {cA : Nat → ClassId} {ad : Nat → Nat → Nat} {al : List (Nat × Nat)} {θ : ax_Θ} {ρ : ax_ρ} {F : Nat} {k : Nat} (hk : k < 2) {a1 : Int32} {s : ax_σ} {r0 : Int32} (h : f_String_indexOf_I F k a1 s = some r0) : ax_T l D cA ad al θ y_String_indexOf_I (.code y_String_indexOf_I prog_16_method_79_code 2 (some .int)) 3 [.inl (.ref (θ.1 k)), .inl (.int (a1))] (ax_m s ρ) (some (.inl (.int r0))) (ax_m s ρ) := by
  refine ax_T_ofF (own := "java/lang/String") (by decide +kernel) rfl (Nat.le_of_ble_eq_true rfl) [(0, .inl (.ref (θ.1 k))), (1, .inl (.int (a1)))] rfl ?_
  intro G hA
  have hB := hA.B
  have hK := hB.K
  have hal := hB.la
  unfold f_String_indexOf_I at h
  refine ax_bk hK (ax_fc (ax_v_ld (ax_r_aload_n (i := 0) d_String_indexOf_I_0 rfl)) (ax_fc (ax_v_ld (ax_r_iload_n (i := 1) d_String_indexOf_I_1 rfl)) (ax_fc (ax_v_pu (ax_r_iconst (v := 0) d_String_indexOf_I_2 (by decide))) ax_fn))) (y := (3, [(0, .inl (.ref (θ.1 k))), (1, .inl (.int (a1)))], [.inl (.int ((0 : Int32))), .inl (.int (a1)), .inl (.ref (θ.1 k))], ax_m (s) ρ)) rfl ⟨trivial, trivial, trivial, trivial⟩ ?_
  obtain ⟨r1, q2, h⟩ := ax_bd h
  refine ax_bK (k := k) (rest := []) hB (t_String_indexOf_II hk q2) cw_String_633 im_String_indexOf_II se_String_indexOf_II d_String_indexOf_I_3 hk rfl (by decide) (by decide) rfl rfl (Nat.le_of_ble_eq_true rfl) ?_
  change ax_R G 2 0 0 (6, [(0, .inl (.ref (θ.1 k))), (1, .inl (.int (a1)))], [.inl (.int (r1))], ax_m (s) ρ)
  cases h
  exact ax_iret hA d_String_indexOf_I_6
