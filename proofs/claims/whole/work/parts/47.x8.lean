def y_M_rotated : MethodName := ⟨"CipherNotation$Machine", "rotated", "(JJ)J"⟩
theorem d_M_rotated_0 : decode prog_4_method_6_code 0 = .ok (.lload_n 3, 1) := by decide +kernel
theorem d_M_rotated_1 : decode prog_4_method_6_code 1 = .ok (.l2i, 1) := by decide +kernel
theorem d_M_rotated_2 : decode prog_4_method_6_code 2 = .ok (.aload_n 0, 1) := by decide +kernel
theorem d_M_rotated_3 : decode prog_4_method_6_code 3 = .ok (.getfield (44), 3) := by decide +kernel
theorem d_M_rotated_6 : decode prog_4_method_6_code 6 = .ok (.iconst 1, 1) := by decide +kernel
theorem d_M_rotated_7 : decode prog_4_method_6_code 7 = .ok (.isub, 1) := by decide +kernel
theorem d_M_rotated_8 : decode prog_4_method_6_code 8 = .ok (.iand, 1) := by decide +kernel
theorem d_M_rotated_9 : decode prog_4_method_6_code 9 = .ok (.istore (5), 2) := by decide +kernel
theorem d_M_rotated_11 : decode prog_4_method_6_code 11 = .ok (.lload_n 1, 1) := by decide +kernel
theorem d_M_rotated_12 : decode prog_4_method_6_code 12 = .ok (.iload (5), 2) := by decide +kernel
theorem d_M_rotated_14 : decode prog_4_method_6_code 14 = .ok (.lshl, 1) := by decide +kernel
theorem d_M_rotated_15 : decode prog_4_method_6_code 15 = .ok (.lload_n 1, 1) := by decide +kernel
theorem d_M_rotated_16 : decode prog_4_method_6_code 16 = .ok (.aload_n 0, 1) := by decide +kernel
theorem d_M_rotated_17 : decode prog_4_method_6_code 17 = .ok (.getfield (44), 3) := by decide +kernel
theorem d_M_rotated_20 : decode prog_4_method_6_code 20 = .ok (.iload (5), 2) := by decide +kernel
theorem d_M_rotated_22 : decode prog_4_method_6_code 22 = .ok (.isub, 1) := by decide +kernel
theorem d_M_rotated_23 : decode prog_4_method_6_code 23 = .ok (.lushr, 1) := by decide +kernel
theorem d_M_rotated_24 : decode prog_4_method_6_code 24 = .ok (.lor, 1) := by decide +kernel
theorem d_M_rotated_25 : decode prog_4_method_6_code 25 = .ok (.aload_n 0, 1) := by decide +kernel
theorem d_M_rotated_26 : decode prog_4_method_6_code 26 = .ok (.getfield (50), 3) := by decide +kernel
theorem d_M_rotated_29 : decode prog_4_method_6_code 29 = .ok (.land, 1) := by decide +kernel
theorem d_M_rotated_30 : decode prog_4_method_6_code 30 = .ok (.lreturn, 1) := by decide +kernel
theorem fd_M_44 : ax_fd "CipherNotation$Machine" 44 2 7 := ⟨nC2, nT2, 9, nY2, rfl, nW2, by decide, nw_1 99 (by decide +kernel) rfl, nO2, nA2⟩
theorem fd_M_50 : ax_fd "CipherNotation$Machine" 50 2 8 := ⟨nC2, nT2, 9, nY2, rfl, nW2, by decide, nw_1 100 (by decide +kernel) rfl, nO2, nA2⟩
def f_M_rotated (g : Nat) (a1 : Int64) (a2 : Int64) (s : ax_σ) : Option (Int64) :=
  some ((((a1 <<< ((((a2).toInt32 &&& ((s.1 0 32 7) - (1 : Int32)))).toInt64 &&& 63)) ||| ((a1).toUInt64 >>> ((((s.1 0 32 7) - ((a2).toInt32 &&& ((s.1 0 32 7) - (1 : Int32))))).toInt64.toUInt64 &&& Int64.toUInt64 63)).toInt64) &&& (s.2 0 32 8)))
set_option maxHeartbeats 4000000 in
set_option maxRecDepth 100000 in
theorem t_M_rotated {l : Launch} {D : va_G} {cA : Nat → ClassId} {ad : Nat → Nat → Nat} {al : List (Nat × Nat)} {θ : ax_Θ} {ρ : ax_ρ} {g : Nat} (h0 : ax_M0 al) (hg : ax_Mg al g) (hr : ax_md ρ g) {a1 : Int64} {a2 : Int64} {s : ax_σ} {r0 : Int64} (h : f_M_rotated g a1 a2 s = some r0) : ax_T l D cA ad al θ y_M_rotated (.code y_M_rotated prog_4_method_6_code 6 (some .long)) 0 [.inr (0, 32), .inl (.long (a1)), .inl (.long (a2))] (ax_m s ρ) (some (.inl (.long r0))) (ax_m s ρ) := by
  refine ax_T_of (own := "CipherNotation$Machine") (by decide) rfl (Nat.le_of_ble_eq_true rfl) [(0, .inr (0, 32)), (1, .inl (.long (a1))), (3, .inl (.long (a2)))] rfl ?_
  intro G hA
  have hB := hA.B
  have hK := hB.K
  have hal := hB.la
  unfold f_M_rotated at h
  refine ax_bk hK (ax_fc (ax_v_ld (ax_r_lload_n (i := 3) d_M_rotated_0 rfl)) (ax_fc (ax_v_pu (ax_r_l2i d_M_rotated_1)) (ax_fc (ax_v_ld (ax_r_aload_n (i := 0) d_M_rotated_2 rfl)) (ax_fc (ax_w_gf (e := none) hal d_M_rotated_3 fd_M_44) (ax_fc (ax_v_pu (ax_r_iconst (v := 1) d_M_rotated_6 (by decide))) (ax_fc (ax_v_pu (ax_r_isub d_M_rotated_7)) (ax_fc (ax_v_pu (ax_r_iand d_M_rotated_8)) (ax_fc (ax_v_so (ax_r_istore d_M_rotated_9)) (ax_fc (ax_v_ld (ax_r_lload_n (i := 1) d_M_rotated_11 rfl)) (ax_fc (ax_v_ld (ax_r_iload d_M_rotated_12)) (ax_fc (ax_v_pu (ax_r_lshl d_M_rotated_14)) (ax_fc (ax_v_ld (ax_r_lload_n (i := 1) d_M_rotated_15 rfl)) (ax_fc (ax_v_ld (ax_r_aload_n (i := 0) d_M_rotated_16 rfl)) (ax_fc (ax_w_gf (e := none) hal d_M_rotated_17 fd_M_44) (ax_fc (ax_v_ld (ax_r_iload d_M_rotated_20)) (ax_fc (ax_v_pu (ax_r_isub d_M_rotated_22)) (ax_fc (ax_v_pu (ax_r_lushr d_M_rotated_23)) (ax_fc (ax_v_pu (ax_r_lor d_M_rotated_24)) (ax_fc (ax_v_ld (ax_r_aload_n (i := 0) d_M_rotated_25 rfl)) (ax_fc (ax_w_gf (e := none) hal d_M_rotated_26 fd_M_50) (ax_fc (ax_v_pu (ax_r_land d_M_rotated_29)) ax_fn))))))))))))))))))))) (y := (30, [(5, .inl (.int (((a2).toInt32 &&& ((s.1 0 32 7) - (1 : Int32)))))), (0, .inr (0, 32)), (1, .inl (.long (a1))), (3, .inl (.long (a2)))], [.inl (.long ((((a1 <<< ((((a2).toInt32 &&& ((s.1 0 32 7) - (1 : Int32)))).toInt64 &&& 63)) ||| ((a1).toUInt64 >>> ((((s.1 0 32 7) - ((a2).toInt32 &&& ((s.1 0 32 7) - (1 : Int32))))).toInt64.toUInt64 &&& Int64.toUInt64 63)).toInt64) &&& (s.2 0 32 8))))], ax_m (s) ρ)) rfl ⟨trivial, trivial, trivial, (h0 32 rfl), trivial, trivial, trivial, trivial, trivial, trivial, trivial, trivial, trivial, (h0 32 rfl), trivial, trivial, trivial, trivial, trivial, (h0 32 rfl), trivial, trivial⟩ ?_
  cases h
  exact ax_lret hA d_M_rotated_30
def y_M_replaced : MethodName := ⟨"CipherNotation$Machine", "replaced", "(J[II)J"⟩
theorem d_M_replaced_0 : decode prog_4_method_7_code 0 = .ok (.lconst 0, 1) := by decide +kernel
theorem d_M_replaced_1 : decode prog_4_method_7_code 1 = .ok (.lstore (5), 2) := by decide +kernel
theorem d_M_replaced_3 : decode prog_4_method_7_code 3 = .ok (.iconst 0, 1) := by decide +kernel
theorem d_M_replaced_4 : decode prog_4_method_7_code 4 = .ok (.istore (7), 2) := by decide +kernel
theorem d_M_replaced_6 : decode prog_4_method_7_code 6 = .ok (.iload (7), 2) := by decide +kernel
theorem d_M_replaced_8 : decode prog_4_method_7_code 8 = .ok (.aload_n 0, 1) := by decide +kernel
theorem d_M_replaced_9 : decode prog_4_method_7_code 9 = .ok (.getfield (44), 3) := by decide +kernel
theorem d_M_replaced_12 : decode prog_4_method_7_code 12 = .ok (.if_icmp .ge (35), 3) := by decide +kernel
theorem d_M_replaced_15 : decode prog_4_method_7_code 15 = .ok (.lload_n 1, 1) := by decide +kernel
theorem d_M_replaced_16 : decode prog_4_method_7_code 16 = .ok (.iload (7), 2) := by decide +kernel
theorem d_M_replaced_18 : decode prog_4_method_7_code 18 = .ok (.lushr, 1) := by decide +kernel
theorem d_M_replaced_19 : decode prog_4_method_7_code 19 = .ok (.l2i, 1) := by decide +kernel
theorem d_M_replaced_20 : decode prog_4_method_7_code 20 = .ok (.bipush (15), 2) := by decide +kernel
theorem d_M_replaced_22 : decode prog_4_method_7_code 22 = .ok (.iand, 1) := by decide +kernel
theorem d_M_replaced_23 : decode prog_4_method_7_code 23 = .ok (.istore (8), 2) := by decide +kernel
theorem d_M_replaced_25 : decode prog_4_method_7_code 25 = .ok (.lload (5), 2) := by decide +kernel
theorem d_M_replaced_27 : decode prog_4_method_7_code 27 = .ok (.aload_n 3, 1) := by decide +kernel
theorem d_M_replaced_28 : decode prog_4_method_7_code 28 = .ok (.iload (4), 2) := by decide +kernel
theorem d_M_replaced_30 : decode prog_4_method_7_code 30 = .ok (.iload (8), 2) := by decide +kernel
theorem d_M_replaced_32 : decode prog_4_method_7_code 32 = .ok (.iadd, 1) := by decide +kernel
theorem d_M_replaced_33 : decode prog_4_method_7_code 33 = .ok (.iaload, 1) := by decide +kernel
theorem d_M_replaced_34 : decode prog_4_method_7_code 34 = .ok (.i2l, 1) := by decide +kernel
theorem d_M_replaced_35 : decode prog_4_method_7_code 35 = .ok (.iload (7), 2) := by decide +kernel
theorem d_M_replaced_37 : decode prog_4_method_7_code 37 = .ok (.lshl, 1) := by decide +kernel
theorem d_M_replaced_38 : decode prog_4_method_7_code 38 = .ok (.lor, 1) := by decide +kernel
theorem d_M_replaced_39 : decode prog_4_method_7_code 39 = .ok (.lstore (5), 2) := by decide +kernel
theorem d_M_replaced_41 : decode prog_4_method_7_code 41 = .ok (.iinc 7 (4), 3) := by decide +kernel
theorem d_M_replaced_44 : decode prog_4_method_7_code 44 = .ok (.goto (-38), 3) := by decide +kernel
theorem d_M_replaced_47 : decode prog_4_method_7_code 47 = .ok (.lload (5), 2) := by decide +kernel
theorem d_M_replaced_49 : decode prog_4_method_7_code 49 = .ok (.lreturn, 1) := by decide +kernel
def lp_M_replaced_e_6 (F : Nat) (g : Nat) (x1 : Int64) (x4 : Int32) (s : ax_σ) : Nat → Int64 → Int32 → Option (Int64)
  | 0, _, _ => none
  | n + 1, x5, x7 =>
    if (s.1 0 32 7) ≤ x7 then
      some x5
    else
      bif ax_in (x4 + ((((x1).toUInt64 >>> ((x7).toInt64.toUInt64 &&& Int64.toUInt64 63)).toInt64).toInt32 &&& (15 : Int32))) 32 then
      lp_M_replaced_e_6 F g x1 x4 s n (x5 ||| (((s.1 g 2 ((x4 + ((((x1).toUInt64 >>> ((x7).toInt64.toUInt64 &&& Int64.toUInt64 63)).toInt64).toInt32 &&& (15 : Int32)))).toNatClampNeg)).toInt64 <<< ((x7).toInt64 &&& 63))) (x7 + (4 : Int32))
      else none
set_option maxHeartbeats 4000000 in
set_option maxRecDepth 100000 in
theorem pl_M_replaced_e_6 {D : va_G} {cA : Nat → ClassId} {ad : Nat → Nat → Nat} {al : List (Nat × Nat)} {θ : ax_Θ} {l : Launch} {ρ : ax_ρ} {G : ax_G} {F g : Nat} {x1 : Int64} {x4 : Int32} {s : ax_σ} (h0 : ax_M0 al) (hg : ax_Mg al g) (hr : ax_md ρ g) (hB : ax_B D cA ad al θ l "CipherNotation$Machine" prog_4_method_7_code 9 0 G) : ∀ (n : Nat) {x5 : Int64} {x7 : Int32} (out : Int64), lp_M_replaced_e_6 F g x1 x4 s n x5 x7 = some out → (∀ (e5 : Int64), out = e5 → ax_R G 9 0 0 (47, [(5, .inl (.long (e5)))], [], ax_m (s) ρ)) → ax_R G 9 0 0 (6, [(0, .inr (0, 32)), (1, .inl (.long (x1))), (3, .inr (g, 2)), (4, .inl (.int (x4))), (5, .inl (.long (x5))), (7, .inl (.int (x7)))], [], ax_m (s) ρ) := by
  have hK := hB.K
  have hal := hB.la
  intro n
  induction n with
  | zero =>
    intro x5 x7 out h
    cases h
  | succ n ih =>
    intro x5 x7 out h KE
    rw [lp_M_replaced_e_6] at h
    refine ax_bk hK (ax_fc (ax_v_ld (ax_r_iload d_M_replaced_6)) (ax_fc (ax_v_ld (ax_r_aload_n (i := 0) d_M_replaced_8 rfl)) (ax_fc (ax_w_gf (e := none) hal d_M_replaced_9 fd_M_44) ax_fn))) (y := (12, [(0, .inr (0, 32)), (1, .inl (.long (x1))), (3, .inr (g, 2)), (4, .inl (.int (x4))), (5, .inl (.long (x5))), (7, .inl (.int (x7)))], [.inl (.int ((s.1 0 32 7))), .inl (.int (x7))], ax_m (s) ρ)) rfl ⟨trivial, trivial, (h0 32 rfl), trivial⟩ ?_
    refine ax_ic_ge (tgt := 47) hK d_M_replaced_12 (by decide) (fun c2 => ?_) (fun c2 => ?_)
    · replace h := ax_it c2 h
      cases h
      exact ax_Lsub [4] rfl (KE _ rfl)
    · replace h := ax_if c2 h
      obtain ⟨b1, h⟩ := ax_gd h
      refine ax_bk hK (ax_fc (ax_v_ld (ax_r_lload_n (i := 1) d_M_replaced_15 rfl)) (ax_fc (ax_v_ld (ax_r_iload d_M_replaced_16)) (ax_fc (ax_v_pu (ax_r_lushr d_M_replaced_18)) (ax_fc (ax_v_pu (ax_r_l2i d_M_replaced_19)) (ax_fc (ax_v_pu (ax_r_bipush (v := 15) d_M_replaced_20 (by decide))) (ax_fc (ax_v_pu (ax_r_iand d_M_replaced_22)) (ax_fc (ax_v_so (ax_r_istore d_M_replaced_23)) (ax_fc (ax_v_ld (ax_r_lload d_M_replaced_25)) (ax_fc (ax_v_ld (ax_r_aload_n (i := 3) d_M_replaced_27 rfl)) (ax_fc (ax_v_ld (ax_r_iload d_M_replaced_28)) (ax_fc (ax_v_ld (ax_r_iload d_M_replaced_30)) (ax_fc (ax_v_pu (ax_r_iadd d_M_replaced_32)) (ax_fc (ax_w_iald hal d_M_replaced_33) (ax_fc (ax_v_pu (ax_r_i2l d_M_replaced_34)) (ax_fc (ax_v_ld (ax_r_iload d_M_replaced_35)) (ax_fc (ax_v_pu (ax_r_lshl d_M_replaced_37)) (ax_fc (ax_v_pu (ax_r_lor d_M_replaced_38)) (ax_fc (ax_v_so (ax_r_lstore d_M_replaced_39)) (ax_fc (ax_v_ii (d := 4) d_M_replaced_41 (by decide)) (ax_fc (ax_v_go (tgt := 6) d_M_replaced_44 (by decide)) ax_fn)))))))))))))))))))) (y := (6, [(7, .inl (.int ((x7 + (4 : Int32))))), (5, .inl (.long ((x5 ||| (((s.1 g 2 ((x4 + ((((x1).toUInt64 >>> ((x7).toInt64.toUInt64 &&& Int64.toUInt64 63)).toInt64).toInt32 &&& (15 : Int32)))).toNatClampNeg)).toInt64 <<< ((x7).toInt64 &&& 63)))))), (8, .inl (.int (((((x1).toUInt64 >>> ((x7).toInt64.toUInt64 &&& Int64.toUInt64 63)).toInt64).toInt32 &&& (15 : Int32))))), (0, .inr (0, 32)), (1, .inl (.long (x1))), (3, .inr (g, 2)), (4, .inl (.int (x4)))], [], ax_m (s) ρ)) rfl ⟨trivial, trivial, trivial, trivial, trivial, trivial, trivial, trivial, trivial, trivial, trivial, trivial, ⟨(hg 2 rfl), ax_inp b1⟩, trivial, trivial, trivial, trivial, trivial, trivial, trivial, trivial⟩ ?_
      exact ax_Lsub [3, 4, 5, 6, 1, 0] rfl (ih _ h KE)
def f_M_replaced_e (F : Nat) (g : Nat) (a1 : Int64) (a3 : Int32) (s : ax_σ) : Option (Int64) :=
  Option.bind (lp_M_replaced_e_6 F g a1 a3 s F (0 : Int64) (0 : Int32)) (fun v3 =>
    some (v3))
set_option maxHeartbeats 4000000 in
set_option maxRecDepth 100000 in
theorem t_M_replaced_e {l : Launch} {D : va_G} {cA : Nat → ClassId} {ad : Nat → Nat → Nat} {al : List (Nat × Nat)} {θ : ax_Θ} {ρ : ax_ρ} {F : Nat} {g : Nat} (h0 : ax_M0 al) (hg : ax_Mg al g) (hr : ax_md ρ g) {a1 : Int64} {a3 : Int32} {s : ax_σ} {r0 : Int64} (h : f_M_replaced_e F g a1 a3 s = some r0) : ax_T l D cA ad al θ y_M_replaced (.code y_M_replaced prog_4_method_7_code 9 (some .long)) 0 [.inr (0, 32), .inl (.long (a1)), .inr (g, 2), .inl (.int (a3))] (ax_m s ρ) (some (.inl (.long r0))) (ax_m s ρ) := by
  refine ax_T_of (own := "CipherNotation$Machine") (by decide) rfl (Nat.le_of_ble_eq_true rfl) [(0, .inr (0, 32)), (1, .inl (.long (a1))), (3, .inr (g, 2)), (4, .inl (.int (a3)))] rfl ?_
  intro G hA
  have hB := hA.B
  have hK := hB.K
  have hal := hB.la
  unfold f_M_replaced_e at h
  refine ax_bk hK (ax_fc (ax_v_pu (ax_r_lconst (v := 0) d_M_replaced_0 (by decide))) (ax_fc (ax_v_so (ax_r_lstore d_M_replaced_1)) (ax_fc (ax_v_pu (ax_r_iconst (v := 0) d_M_replaced_3 (by decide))) (ax_fc (ax_v_so (ax_r_istore d_M_replaced_4)) ax_fn)))) (y := (6, [(7, .inl (.int ((0 : Int32)))), (5, .inl (.long ((0 : Int64)))), (0, .inr (0, 32)), (1, .inl (.long (a1))), (3, .inr (g, 2)), (4, .inl (.int (a3)))], [], ax_m (s) ρ)) rfl ⟨trivial, trivial, trivial, trivial, trivial⟩ ?_
  obtain ⟨w4, hw4, h⟩ := ax_bd h
  refine ax_Lsub [2, 3, 4, 5, 1, 0] rfl (pl_M_replaced_e_6 h0 hg hr hB F _ hw4 ?_)
  intro v3 e9
  subst w4
  try dsimp only at h
  change ax_R G 9 0 0 (47, [(5, .inl (.long (v3)))], [], ax_m (s) ρ)
  refine ax_bk hK (ax_fc (ax_v_ld (ax_r_lload d_M_replaced_47)) ax_fn) (y := (49, [(5, .inl (.long (v3)))], [.inl (.long (v3))], ax_m (s) ρ)) rfl ⟨trivial, trivial⟩ ?_
  cases h
  exact ax_lret hA d_M_replaced_49
def lp_M_replaced_b_6 (F : Nat) (g : Nat) (x1 : Int64) (x4 : Int32) (s : ax_σ) : Nat → Int64 → Int32 → Option (Int64)
  | 0, _, _ => none
  | n + 1, x5, x7 =>
    if (s.1 0 32 7) ≤ x7 then
      some x5
    else
      bif ax_in (x4 + ((((x1).toUInt64 >>> ((x7).toInt64.toUInt64 &&& Int64.toUInt64 63)).toInt64).toInt32 &&& (15 : Int32))) 32 then
      lp_M_replaced_b_6 F g x1 x4 s n (x5 ||| (((s.1 g 3 ((x4 + ((((x1).toUInt64 >>> ((x7).toInt64.toUInt64 &&& Int64.toUInt64 63)).toInt64).toInt32 &&& (15 : Int32)))).toNatClampNeg)).toInt64 <<< ((x7).toInt64 &&& 63))) (x7 + (4 : Int32))
      else none
set_option maxHeartbeats 4000000 in
set_option maxRecDepth 100000 in
theorem pl_M_replaced_b_6 {D : va_G} {cA : Nat → ClassId} {ad : Nat → Nat → Nat} {al : List (Nat × Nat)} {θ : ax_Θ} {l : Launch} {ρ : ax_ρ} {G : ax_G} {F g : Nat} {x1 : Int64} {x4 : Int32} {s : ax_σ} (h0 : ax_M0 al) (hg : ax_Mg al g) (hr : ax_md ρ g) (hB : ax_B D cA ad al θ l "CipherNotation$Machine" prog_4_method_7_code 9 0 G) : ∀ (n : Nat) {x5 : Int64} {x7 : Int32} (out : Int64), lp_M_replaced_b_6 F g x1 x4 s n x5 x7 = some out → (∀ (e5 : Int64), out = e5 → ax_R G 9 0 0 (47, [(5, .inl (.long (e5)))], [], ax_m (s) ρ)) → ax_R G 9 0 0 (6, [(0, .inr (0, 32)), (1, .inl (.long (x1))), (3, .inr (g, 3)), (4, .inl (.int (x4))), (5, .inl (.long (x5))), (7, .inl (.int (x7)))], [], ax_m (s) ρ) := by
  have hK := hB.K
  have hal := hB.la
  intro n
  induction n with
  | zero =>
    intro x5 x7 out h
    cases h
  | succ n ih =>
    intro x5 x7 out h KE
    rw [lp_M_replaced_b_6] at h
    refine ax_bk hK (ax_fc (ax_v_ld (ax_r_iload d_M_replaced_6)) (ax_fc (ax_v_ld (ax_r_aload_n (i := 0) d_M_replaced_8 rfl)) (ax_fc (ax_w_gf (e := none) hal d_M_replaced_9 fd_M_44) ax_fn))) (y := (12, [(0, .inr (0, 32)), (1, .inl (.long (x1))), (3, .inr (g, 3)), (4, .inl (.int (x4))), (5, .inl (.long (x5))), (7, .inl (.int (x7)))], [.inl (.int ((s.1 0 32 7))), .inl (.int (x7))], ax_m (s) ρ)) rfl ⟨trivial, trivial, (h0 32 rfl), trivial⟩ ?_
    refine ax_ic_ge (tgt := 47) hK d_M_replaced_12 (by decide) (fun c2 => ?_) (fun c2 => ?_)
    · replace h := ax_it c2 h
      cases h
      exact ax_Lsub [4] rfl (KE _ rfl)
    · replace h := ax_if c2 h
      obtain ⟨b1, h⟩ := ax_gd h
      refine ax_bk hK (ax_fc (ax_v_ld (ax_r_lload_n (i := 1) d_M_replaced_15 rfl)) (ax_fc (ax_v_ld (ax_r_iload d_M_replaced_16)) (ax_fc (ax_v_pu (ax_r_lushr d_M_replaced_18)) (ax_fc (ax_v_pu (ax_r_l2i d_M_replaced_19)) (ax_fc (ax_v_pu (ax_r_bipush (v := 15) d_M_replaced_20 (by decide))) (ax_fc (ax_v_pu (ax_r_iand d_M_replaced_22)) (ax_fc (ax_v_so (ax_r_istore d_M_replaced_23)) (ax_fc (ax_v_ld (ax_r_lload d_M_replaced_25)) (ax_fc (ax_v_ld (ax_r_aload_n (i := 3) d_M_replaced_27 rfl)) (ax_fc (ax_v_ld (ax_r_iload d_M_replaced_28)) (ax_fc (ax_v_ld (ax_r_iload d_M_replaced_30)) (ax_fc (ax_v_pu (ax_r_iadd d_M_replaced_32)) (ax_fc (ax_w_iald hal d_M_replaced_33) (ax_fc (ax_v_pu (ax_r_i2l d_M_replaced_34)) (ax_fc (ax_v_ld (ax_r_iload d_M_replaced_35)) (ax_fc (ax_v_pu (ax_r_lshl d_M_replaced_37)) (ax_fc (ax_v_pu (ax_r_lor d_M_replaced_38)) (ax_fc (ax_v_so (ax_r_lstore d_M_replaced_39)) (ax_fc (ax_v_ii (d := 4) d_M_replaced_41 (by decide)) (ax_fc (ax_v_go (tgt := 6) d_M_replaced_44 (by decide)) ax_fn)))))))))))))))))))) (y := (6, [(7, .inl (.int ((x7 + (4 : Int32))))), (5, .inl (.long ((x5 ||| (((s.1 g 3 ((x4 + ((((x1).toUInt64 >>> ((x7).toInt64.toUInt64 &&& Int64.toUInt64 63)).toInt64).toInt32 &&& (15 : Int32)))).toNatClampNeg)).toInt64 <<< ((x7).toInt64 &&& 63)))))), (8, .inl (.int (((((x1).toUInt64 >>> ((x7).toInt64.toUInt64 &&& Int64.toUInt64 63)).toInt64).toInt32 &&& (15 : Int32))))), (0, .inr (0, 32)), (1, .inl (.long (x1))), (3, .inr (g, 3)), (4, .inl (.int (x4)))], [], ax_m (s) ρ)) rfl ⟨trivial, trivial, trivial, trivial, trivial, trivial, trivial, trivial, trivial, trivial, trivial, trivial, ⟨(hg 3 rfl), ax_inp b1⟩, trivial, trivial, trivial, trivial, trivial, trivial, trivial, trivial⟩ ?_
      exact ax_Lsub [3, 4, 5, 6, 1, 0] rfl (ih _ h KE)
def f_M_replaced_b (F : Nat) (g : Nat) (a1 : Int64) (a3 : Int32) (s : ax_σ) : Option (Int64) :=
  Option.bind (lp_M_replaced_b_6 F g a1 a3 s F (0 : Int64) (0 : Int32)) (fun v3 =>
    some (v3))
set_option maxHeartbeats 4000000 in
set_option maxRecDepth 100000 in
theorem t_M_replaced_b {l : Launch} {D : va_G} {cA : Nat → ClassId} {ad : Nat → Nat → Nat} {al : List (Nat × Nat)} {θ : ax_Θ} {ρ : ax_ρ} {F : Nat} {g : Nat} (h0 : ax_M0 al) (hg : ax_Mg al g) (hr : ax_md ρ g) {a1 : Int64} {a3 : Int32} {s : ax_σ} {r0 : Int64} (h : f_M_replaced_b F g a1 a3 s = some r0) : ax_T l D cA ad al θ y_M_replaced (.code y_M_replaced prog_4_method_7_code 9 (some .long)) 0 [.inr (0, 32), .inl (.long (a1)), .inr (g, 3), .inl (.int (a3))] (ax_m s ρ) (some (.inl (.long r0))) (ax_m s ρ) := by
  refine ax_T_of (own := "CipherNotation$Machine") (by decide) rfl (Nat.le_of_ble_eq_true rfl) [(0, .inr (0, 32)), (1, .inl (.long (a1))), (3, .inr (g, 3)), (4, .inl (.int (a3)))] rfl ?_
  intro G hA
  have hB := hA.B
  have hK := hB.K
  have hal := hB.la
  unfold f_M_replaced_b at h
  refine ax_bk hK (ax_fc (ax_v_pu (ax_r_lconst (v := 0) d_M_replaced_0 (by decide))) (ax_fc (ax_v_so (ax_r_lstore d_M_replaced_1)) (ax_fc (ax_v_pu (ax_r_iconst (v := 0) d_M_replaced_3 (by decide))) (ax_fc (ax_v_so (ax_r_istore d_M_replaced_4)) ax_fn)))) (y := (6, [(7, .inl (.int ((0 : Int32)))), (5, .inl (.long ((0 : Int64)))), (0, .inr (0, 32)), (1, .inl (.long (a1))), (3, .inr (g, 3)), (4, .inl (.int (a3)))], [], ax_m (s) ρ)) rfl ⟨trivial, trivial, trivial, trivial, trivial⟩ ?_
  obtain ⟨w4, hw4, h⟩ := ax_bd h
  refine ax_Lsub [2, 3, 4, 5, 1, 0] rfl (pl_M_replaced_b_6 h0 hg hr hB F _ hw4 ?_)
  intro v3 e9
  subst w4
  try dsimp only at h
  change ax_R G 9 0 0 (47, [(5, .inl (.long (v3)))], [], ax_m (s) ρ)
  refine ax_bk hK (ax_fc (ax_v_ld (ax_r_lload d_M_replaced_47)) ax_fn) (y := (49, [(5, .inl (.long (v3)))], [.inl (.long (v3))], ax_m (s) ρ)) rfl ⟨trivial, trivial⟩ ?_
  cases h
  exact ax_lret hA d_M_replaced_49
def y_M_spread : MethodName := ⟨"CipherNotation$Machine", "spread", "(JII)J"⟩
theorem d_M_spread_0 : decode prog_4_method_8_code 0 = .ok (.lconst 0, 1) := by decide +kernel
theorem d_M_spread_1 : decode prog_4_method_8_code 1 = .ok (.lstore (5), 2) := by decide +kernel
theorem d_M_spread_3 : decode prog_4_method_8_code 3 = .ok (.aload_n 0, 1) := by decide +kernel
theorem d_M_spread_4 : decode prog_4_method_8_code 4 = .ok (.getfield (39), 3) := by decide +kernel
theorem d_M_spread_7 : decode prog_4_method_8_code 7 = .ok (.getfield (105), 3) := by decide +kernel
theorem d_M_spread_10 : decode prog_4_method_8_code 10 = .ok (.iload_n 3, 1) := by decide +kernel
theorem d_M_spread_11 : decode prog_4_method_8_code 11 = .ok (.iaload, 1) := by decide +kernel
theorem d_M_spread_12 : decode prog_4_method_8_code 12 = .ok (.istore (7), 2) := by decide +kernel
theorem d_M_spread_14 : decode prog_4_method_8_code 14 = .ok (.iload (7), 2) := by decide +kernel
theorem d_M_spread_16 : decode prog_4_method_8_code 16 = .ok (.aload_n 0, 1) := by decide +kernel
theorem d_M_spread_17 : decode prog_4_method_8_code 17 = .ok (.getfield (39), 3) := by decide +kernel
theorem d_M_spread_20 : decode prog_4_method_8_code 20 = .ok (.getfield (108), 3) := by decide +kernel
theorem d_M_spread_23 : decode prog_4_method_8_code 23 = .ok (.iload_n 3, 1) := by decide +kernel
theorem d_M_spread_24 : decode prog_4_method_8_code 24 = .ok (.iaload, 1) := by decide +kernel
theorem d_M_spread_25 : decode prog_4_method_8_code 25 = .ok (.if_icmp .ge (33), 3) := by decide +kernel
theorem d_M_spread_28 : decode prog_4_method_8_code 28 = .ok (.lload (5), 2) := by decide +kernel
theorem d_M_spread_30 : decode prog_4_method_8_code 30 = .ok (.aload_n 0, 1) := by decide +kernel
theorem d_M_spread_31 : decode prog_4_method_8_code 31 = .ok (.lload_n 1, 1) := by decide +kernel
theorem d_M_spread_32 : decode prog_4_method_8_code 32 = .ok (.aload_n 0, 1) := by decide +kernel
theorem d_M_spread_33 : decode prog_4_method_8_code 33 = .ok (.getfield (34), 3) := by decide +kernel
theorem d_M_spread_36 : decode prog_4_method_8_code 36 = .ok (.getfield (111), 3) := by decide +kernel
theorem d_M_spread_39 : decode prog_4_method_8_code 39 = .ok (.iload (7), 2) := by decide +kernel
theorem d_M_spread_41 : decode prog_4_method_8_code 41 = .ok (.laload, 1) := by decide +kernel
theorem d_M_spread_42 : decode prog_4_method_8_code 42 = .ok (.iload (4), 2) := by decide +kernel
theorem d_M_spread_44 : decode prog_4_method_8_code 44 = .ok (.i2l, 1) := by decide +kernel
theorem d_M_spread_45 : decode prog_4_method_8_code 45 = .ok (.lmul, 1) := by decide +kernel
theorem d_M_spread_46 : decode prog_4_method_8_code 46 = .ok (.invokevirtual (83), 3) := by decide +kernel
theorem d_M_spread_49 : decode prog_4_method_8_code 49 = .ok (.lxor, 1) := by decide +kernel
theorem d_M_spread_50 : decode prog_4_method_8_code 50 = .ok (.lstore (5), 2) := by decide +kernel
theorem d_M_spread_52 : decode prog_4_method_8_code 52 = .ok (.iinc 7 (1), 3) := by decide +kernel
theorem d_M_spread_55 : decode prog_4_method_8_code 55 = .ok (.goto (-41), 3) := by decide +kernel
theorem d_M_spread_58 : decode prog_4_method_8_code 58 = .ok (.lload (5), 2) := by decide +kernel
theorem d_M_spread_60 : decode prog_4_method_8_code 60 = .ok (.lreturn, 1) := by decide +kernel
theorem fd_M_39 : ax_fd "CipherNotation$Machine" 39 2 6 := ⟨nC2, nT2, 9, nY2, rfl, nW2, by decide, nw_1 98 (by decide +kernel) rfl, nO2, nA2⟩
theorem fd_M_108 : ax_fd "CipherNotation$Machine" 108 1 4 := ⟨nC1, nT1, 7, nY1, rfl, nW1, by decide, nw_1 196 (by decide +kernel) rfl, nO1, nA1⟩
theorem fd_M_34 : ax_fd "CipherNotation$Machine" 34 2 5 := ⟨nC2, nT2, 9, nY2, rfl, nW2, by decide, nw_1 97 (by decide +kernel) rfl, nO2, nA2⟩
theorem fd_M_111 : ax_fd "CipherNotation$Machine" 111 0 1 := ⟨nC0, nT0, 9, nY0, rfl, nW0, by decide, nw_1 138 (by decide +kernel) rfl, nO0, nA0⟩
set_option maxRecDepth 100000 in
theorem cw_M_83 : ax_cw "CipherNotation$Machine" 83 y_M_rotated (.code y_M_rotated prog_4_method_6_code 6 (some .long)) 2 := ⟨nw_4 68 (by decide +kernel) rfl, nw_1 3 (by decide +kernel) rfl, nw_4 71 rfl rfl, by decide +kernel, by decide +kernel⟩
theorem im_M_rotated : Cond.instanceMethod y_M_rotated ∈ ax_tbl := nw_4 70 (by decide +kernel) rfl
theorem se_M_rotated : Cond.selects y_M_rotated.cls y_M_rotated y_M_rotated ∈ ax_tbl := nw_sel 38 (by decide +kernel) (by decide +kernel)
def lp_M_spread_14 (F : Nat) (g : Nat) (x1 : Int64) (x3 : Int32) (x4 : Int32) (s : ax_σ) : Nat → Int64 → Int32 → Option (Int64)
  | 0, _, _ => none
  | n + 1, x5, x7 =>
    bif ax_in x3 120 then
    if (s.1 g 18 (x3).toNatClampNeg) ≤ x7 then
      some x5
    else
      bif ax_in x7 240 then
      Option.bind (f_M_rotated g x1 ((s.2 g 6 (x7).toNatClampNeg) * (x4).toInt64) s) (fun r4 =>
        lp_M_spread_14 F g x1 x3 x4 s n (x5 ^^^ r4) (x7 + (1 : Int32)))
      else none
    else none
set_option maxHeartbeats 4000000 in
set_option maxRecDepth 100000 in
theorem pl_M_spread_14 {D : va_G} {cA : Nat → ClassId} {ad : Nat → Nat → Nat} {al : List (Nat × Nat)} {θ : ax_Θ} {l : Launch} {ρ : ax_ρ} {G : ax_G} {F g : Nat} {x1 : Int64} {x3 : Int32} {x4 : Int32} {s : ax_σ} (h0 : ax_M0 al) (hg : ax_Mg al g) (hr : ax_md ρ g) (hB : ax_B D cA ad al θ l "CipherNotation$Machine" prog_4_method_8_code 8 1 G) : ∀ (n : Nat) {x5 : Int64} {x7 : Int32} (out : Int64), lp_M_spread_14 F g x1 x3 x4 s n x5 x7 = some out → (∀ (e5 : Int64), out = e5 → ax_R G 8 0 0 (58, [(5, .inl (.long (e5)))], [], ax_m (s) ρ)) → ax_R G 8 0 0 (14, [(0, .inr (0, 32)), (1, .inl (.long (x1))), (3, .inl (.int (x3))), (4, .inl (.int (x4))), (5, .inl (.long (x5))), (7, .inl (.int (x7)))], [], ax_m (s) ρ) := by
  have hK := hB.K
  have hal := hB.la
  intro n
  induction n with
  | zero =>
    intro x5 x7 out h
    cases h
  | succ n ih =>
    intro x5 x7 out h KE
    rw [lp_M_spread_14] at h
    obtain ⟨b2, h⟩ := ax_gd h
    refine ax_bk hK (ax_fc (ax_v_ld (ax_r_iload d_M_spread_14)) (ax_fc (ax_v_ld (ax_r_aload_n (i := 0) d_M_spread_16 rfl)) (ax_fc (ax_w_gf (e := (some (g, 13))) hal d_M_spread_17 fd_M_39) (ax_fc (ax_w_gf (e := none) hal d_M_spread_20 fd_M_108) (ax_fc (ax_v_ld (ax_r_iload_n (i := 3) d_M_spread_23 rfl)) (ax_fc (ax_w_iald hal d_M_spread_24) ax_fn)))))) (y := (25, [(0, .inr (0, 32)), (1, .inl (.long (x1))), (3, .inl (.int (x3))), (4, .inl (.int (x4))), (5, .inl (.long (x5))), (7, .inl (.int (x7)))], [.inl (.int ((s.1 g 18 (x3).toNatClampNeg))), .inl (.int (x7))], ax_m (s) ρ)) rfl ⟨trivial, trivial, ⟨(h0 32 rfl), hr.2.2⟩, (hg 13 rfl), trivial, ⟨(hg 18 rfl), ax_inp b2⟩, trivial⟩ ?_
    refine ax_ic_ge (tgt := 58) hK d_M_spread_25 (by decide) (fun c6 => ?_) (fun c6 => ?_)
    · replace h := ax_it c6 h
      cases h
      exact ax_Lsub [4] rfl (KE _ rfl)
    · replace h := ax_if c6 h
      obtain ⟨b3, h⟩ := ax_gd h
      refine ax_bk hK (ax_fc (ax_v_ld (ax_r_lload d_M_spread_28)) (ax_fc (ax_v_ld (ax_r_aload_n (i := 0) d_M_spread_30 rfl)) (ax_fc (ax_v_ld (ax_r_lload_n (i := 1) d_M_spread_31 rfl)) (ax_fc (ax_v_ld (ax_r_aload_n (i := 0) d_M_spread_32 rfl)) (ax_fc (ax_w_gf (e := (some (g, 4))) hal d_M_spread_33 fd_M_34) (ax_fc (ax_w_gf (e := none) hal d_M_spread_36 fd_M_111) (ax_fc (ax_v_ld (ax_r_iload d_M_spread_39)) (ax_fc (ax_w_lald hal d_M_spread_41) (ax_fc (ax_v_ld (ax_r_iload d_M_spread_42)) (ax_fc (ax_v_pu (ax_r_i2l d_M_spread_44)) (ax_fc (ax_v_pu (ax_r_lmul d_M_spread_45)) ax_fn))))))))))) (y := (46, [(0, .inr (0, 32)), (1, .inl (.long (x1))), (3, .inl (.int (x3))), (4, .inl (.int (x4))), (5, .inl (.long (x5))), (7, .inl (.int (x7)))], [.inl (.long (((s.2 g 6 (x7).toNatClampNeg) * (x4).toInt64))), .inl (.long (x1)), .inr (0, 32), .inl (.long (x5))], ax_m (s) ρ)) rfl ⟨trivial, trivial, trivial, trivial, ⟨(h0 32 rfl), hr.2.1⟩, (hg 4 rfl), trivial, ⟨(hg 6 rfl), ax_inp b3⟩, trivial, trivial, trivial, trivial⟩ ?_
      obtain ⟨r4, q5, h⟩ := ax_bd h
      refine ax_bV (rest := [.inl (.long (x5))]) hB (t_M_rotated h0 hg hr q5) cw_M_83 im_M_rotated se_M_rotated d_M_spread_46 (h0 32 rfl) rfl rfl (by decide) (by decide) rfl rfl (Nat.le_of_ble_eq_true rfl) ?_
      change ax_R G 8 0 0 (49, [(0, .inr (0, 32)), (1, .inl (.long (x1))), (3, .inl (.int (x3))), (4, .inl (.int (x4))), (5, .inl (.long (x5))), (7, .inl (.int (x7)))], [.inl (.long (r4)), .inl (.long (x5))], ax_m (s) ρ)
      refine ax_bk hK (ax_fc (ax_v_pu (ax_r_lxor d_M_spread_49)) (ax_fc (ax_v_so (ax_r_lstore d_M_spread_50)) (ax_fc (ax_v_ii (d := 1) d_M_spread_52 (by decide)) (ax_fc (ax_v_go (tgt := 14) d_M_spread_55 (by decide)) ax_fn)))) (y := (14, [(7, .inl (.int ((x7 + (1 : Int32))))), (5, .inl (.long ((x5 ^^^ r4)))), (0, .inr (0, 32)), (1, .inl (.long (x1))), (3, .inl (.int (x3))), (4, .inl (.int (x4)))], [], ax_m (s) ρ)) rfl ⟨trivial, trivial, trivial, trivial, trivial⟩ ?_
      exact ax_Lsub [2, 3, 4, 5, 1, 0] rfl (ih _ h KE)
theorem fd_M_105 : ax_fd "CipherNotation$Machine" 105 1 3 := ⟨nC1, nT1, 7, nY1, rfl, nW1, by decide, nw_1 193 (by decide +kernel) rfl, nO1, nA1⟩
def f_M_spread (F : Nat) (g : Nat) (a1 : Int64) (a2 : Int32) (a3 : Int32) (s : ax_σ) : Option (Int64) :=
  bif ax_in a2 120 then
  Option.bind (lp_M_spread_14 F g a1 a2 a3 s F (0 : Int64) (s.1 g 17 (a2).toNatClampNeg)) (fun v7 =>
    some (v7))
  else none
set_option maxHeartbeats 4000000 in
set_option maxRecDepth 100000 in
theorem t_M_spread {l : Launch} {D : va_G} {cA : Nat → ClassId} {ad : Nat → Nat → Nat} {al : List (Nat × Nat)} {θ : ax_Θ} {ρ : ax_ρ} {F : Nat} {g : Nat} (h0 : ax_M0 al) (hg : ax_Mg al g) (hr : ax_md ρ g) {a1 : Int64} {a2 : Int32} {a3 : Int32} {s : ax_σ} {r0 : Int64} (h : f_M_spread F g a1 a2 a3 s = some r0) : ax_T l D cA ad al θ y_M_spread (.code y_M_spread prog_4_method_8_code 8 (some .long)) 1 [.inr (0, 32), .inl (.long (a1)), .inl (.int (a2)), .inl (.int (a3))] (ax_m s ρ) (some (.inl (.long r0))) (ax_m s ρ) := by
  refine ax_T_of (own := "CipherNotation$Machine") (by decide) rfl (Nat.le_of_ble_eq_true rfl) [(0, .inr (0, 32)), (1, .inl (.long (a1))), (3, .inl (.int (a2))), (4, .inl (.int (a3)))] rfl ?_
  intro G hA
  have hB := hA.B
  have hK := hB.K
  have hal := hB.la
  unfold f_M_spread at h
  obtain ⟨b1, h⟩ := ax_gd h
  refine ax_bk hK (ax_fc (ax_v_pu (ax_r_lconst (v := 0) d_M_spread_0 (by decide))) (ax_fc (ax_v_so (ax_r_lstore d_M_spread_1)) (ax_fc (ax_v_ld (ax_r_aload_n (i := 0) d_M_spread_3 rfl)) (ax_fc (ax_w_gf (e := (some (g, 13))) hal d_M_spread_4 fd_M_39) (ax_fc (ax_w_gf (e := none) hal d_M_spread_7 fd_M_105) (ax_fc (ax_v_ld (ax_r_iload_n (i := 3) d_M_spread_10 rfl)) (ax_fc (ax_w_iald hal d_M_spread_11) (ax_fc (ax_v_so (ax_r_istore d_M_spread_12)) ax_fn)))))))) (y := (14, [(7, .inl (.int ((s.1 g 17 (a2).toNatClampNeg)))), (5, .inl (.long ((0 : Int64)))), (0, .inr (0, 32)), (1, .inl (.long (a1))), (3, .inl (.int (a2))), (4, .inl (.int (a3)))], [], ax_m (s) ρ)) rfl ⟨trivial, trivial, trivial, ⟨(h0 32 rfl), hr.2.2⟩, (hg 13 rfl), trivial, ⟨(hg 17 rfl), ax_inp b1⟩, trivial, trivial⟩ ?_
  obtain ⟨w8, hw8, h⟩ := ax_bd h
  refine ax_Lsub [2, 3, 4, 5, 1, 0] rfl (pl_M_spread_14 h0 hg hr hB F _ hw8 ?_)
  intro v7 e9
  subst w8
  try dsimp only at h
  change ax_R G 8 0 0 (58, [(5, .inl (.long (v7)))], [], ax_m (s) ρ)
  refine ax_bk hK (ax_fc (ax_v_ld (ax_r_lload d_M_spread_58)) ax_fn) (y := (60, [(5, .inl (.long (v7)))], [.inl (.long (v7))], ax_m (s) ρ)) rfl ⟨trivial, trivial⟩ ?_
  cases h
  exact ax_lret hA d_M_spread_60
def y_M_gathered : MethodName := ⟨"CipherNotation$Machine", "gathered", "(JI)J"⟩
theorem d_M_gathered_0 : decode prog_4_method_9_code 0 = .ok (.lload_n 1, 1) := by decide +kernel
theorem d_M_gathered_1 : decode prog_4_method_9_code 1 = .ok (.lstore (4), 2) := by decide +kernel
theorem d_M_gathered_3 : decode prog_4_method_9_code 3 = .ok (.iconst 1, 1) := by decide +kernel
theorem d_M_gathered_4 : decode prog_4_method_9_code 4 = .ok (.istore (6), 2) := by decide +kernel
theorem d_M_gathered_6 : decode prog_4_method_9_code 6 = .ok (.iload (6), 2) := by decide +kernel
theorem d_M_gathered_8 : decode prog_4_method_9_code 8 = .ok (.aload_n 0, 1) := by decide +kernel
theorem d_M_gathered_9 : decode prog_4_method_9_code 9 = .ok (.getfield (44), 3) := by decide +kernel
theorem d_M_gathered_12 : decode prog_4_method_9_code 12 = .ok (.if_icmp .ge (23), 3) := by decide +kernel
theorem d_M_gathered_15 : decode prog_4_method_9_code 15 = .ok (.aload_n 0, 1) := by decide +kernel
theorem d_M_gathered_16 : decode prog_4_method_9_code 16 = .ok (.lload (4), 2) := by decide +kernel
theorem d_M_gathered_18 : decode prog_4_method_9_code 18 = .ok (.iload_n 3, 1) := by decide +kernel
theorem d_M_gathered_19 : decode prog_4_method_9_code 19 = .ok (.iload (6), 2) := by decide +kernel
theorem d_M_gathered_21 : decode prog_4_method_9_code 21 = .ok (.invokevirtual (101), 3) := by decide +kernel
theorem d_M_gathered_24 : decode prog_4_method_9_code 24 = .ok (.lstore (4), 2) := by decide +kernel
theorem d_M_gathered_26 : decode prog_4_method_9_code 26 = .ok (.iload (6), 2) := by decide +kernel
theorem d_M_gathered_28 : decode prog_4_method_9_code 28 = .ok (.iconst 2, 1) := by decide +kernel
theorem d_M_gathered_29 : decode prog_4_method_9_code 29 = .ok (.imul, 1) := by decide +kernel
theorem d_M_gathered_30 : decode prog_4_method_9_code 30 = .ok (.istore (6), 2) := by decide +kernel
theorem d_M_gathered_32 : decode prog_4_method_9_code 32 = .ok (.goto (-26), 3) := by decide +kernel
theorem d_M_gathered_35 : decode prog_4_method_9_code 35 = .ok (.lload (4), 2) := by decide +kernel
theorem d_M_gathered_37 : decode prog_4_method_9_code 37 = .ok (.lreturn, 1) := by decide +kernel
set_option maxRecDepth 100000 in
theorem cw_M_101 : ax_cw "CipherNotation$Machine" 101 y_M_spread (.code y_M_spread prog_4_method_8_code 8 (some .long)) 3 := ⟨nw_4 113 (by decide +kernel) rfl, nw_1 3 (by decide +kernel) rfl, nw_4 116 rfl rfl, by decide +kernel, by decide +kernel⟩
theorem im_M_spread : Cond.instanceMethod y_M_spread ∈ ax_tbl := nw_4 115 (by decide +kernel) rfl
theorem se_M_spread : Cond.selects y_M_spread.cls y_M_spread y_M_spread ∈ ax_tbl := nw_sel 43 (by decide +kernel) (by decide +kernel)
def lp_M_gathered_6 (F : Nat) (g : Nat) (x3 : Int32) (s : ax_σ) : Nat → Int64 → Int32 → Option (Int64)
  | 0, _, _ => none
  | n + 1, x4, x6 =>
    if (s.1 0 32 7) ≤ x6 then
      some x4
    else
      Option.bind (f_M_spread F g x4 x3 x6 s) (fun r1 =>
        lp_M_gathered_6 F g x3 s n r1 (x6 * (2 : Int32)))
set_option maxHeartbeats 4000000 in
set_option maxRecDepth 100000 in
theorem pl_M_gathered_6 {D : va_G} {cA : Nat → ClassId} {ad : Nat → Nat → Nat} {al : List (Nat × Nat)} {θ : ax_Θ} {l : Launch} {ρ : ax_ρ} {G : ax_G} {F g : Nat} {x3 : Int32} {s : ax_σ} (h0 : ax_M0 al) (hg : ax_Mg al g) (hr : ax_md ρ g) (hB : ax_B D cA ad al θ l "CipherNotation$Machine" prog_4_method_9_code 7 2 G) : ∀ (n : Nat) {x4 : Int64} {x6 : Int32} (out : Int64), lp_M_gathered_6 F g x3 s n x4 x6 = some out → (∀ (e4 : Int64), out = e4 → ax_R G 7 0 0 (35, [(4, .inl (.long (e4)))], [], ax_m (s) ρ)) → ax_R G 7 0 0 (6, [(0, .inr (0, 32)), (3, .inl (.int (x3))), (4, .inl (.long (x4))), (6, .inl (.int (x6)))], [], ax_m (s) ρ) := by
  have hK := hB.K
  have hal := hB.la
  intro n
  induction n with
  | zero =>
    intro x4 x6 out h
    cases h
  | succ n ih =>
    intro x4 x6 out h KE
    rw [lp_M_gathered_6] at h
    refine ax_bk hK (ax_fc (ax_v_ld (ax_r_iload d_M_gathered_6)) (ax_fc (ax_v_ld (ax_r_aload_n (i := 0) d_M_gathered_8 rfl)) (ax_fc (ax_w_gf (e := none) hal d_M_gathered_9 fd_M_44) ax_fn))) (y := (12, [(0, .inr (0, 32)), (3, .inl (.int (x3))), (4, .inl (.long (x4))), (6, .inl (.int (x6)))], [.inl (.int ((s.1 0 32 7))), .inl (.int (x6))], ax_m (s) ρ)) rfl ⟨trivial, trivial, (h0 32 rfl), trivial⟩ ?_
    refine ax_ic_ge (tgt := 35) hK d_M_gathered_12 (by decide) (fun c3 => ?_) (fun c3 => ?_)
    · replace h := ax_it c3 h
      cases h
      exact ax_Lsub [2] rfl (KE _ rfl)
    · replace h := ax_if c3 h
      refine ax_bk hK (ax_fc (ax_v_ld (ax_r_aload_n (i := 0) d_M_gathered_15 rfl)) (ax_fc (ax_v_ld (ax_r_lload d_M_gathered_16)) (ax_fc (ax_v_ld (ax_r_iload_n (i := 3) d_M_gathered_18 rfl)) (ax_fc (ax_v_ld (ax_r_iload d_M_gathered_19)) ax_fn)))) (y := (21, [(0, .inr (0, 32)), (3, .inl (.int (x3))), (4, .inl (.long (x4))), (6, .inl (.int (x6)))], [.inl (.int (x6)), .inl (.int (x3)), .inl (.long (x4)), .inr (0, 32)], ax_m (s) ρ)) rfl ⟨trivial, trivial, trivial, trivial, trivial⟩ ?_
      obtain ⟨r1, q2, h⟩ := ax_bd h
      refine ax_bV (rest := []) hB (t_M_spread h0 hg hr q2) cw_M_101 im_M_spread se_M_spread d_M_gathered_21 (h0 32 rfl) rfl rfl (by decide) (by decide) rfl rfl (Nat.le_of_ble_eq_true rfl) ?_
      change ax_R G 7 0 0 (24, [(0, .inr (0, 32)), (3, .inl (.int (x3))), (4, .inl (.long (x4))), (6, .inl (.int (x6)))], [.inl (.long (r1))], ax_m (s) ρ)
      refine ax_bk hK (ax_fc (ax_v_so (ax_r_lstore d_M_gathered_24)) (ax_fc (ax_v_ld (ax_r_iload d_M_gathered_26)) (ax_fc (ax_v_pu (ax_r_iconst (v := 2) d_M_gathered_28 (by decide))) (ax_fc (ax_v_pu (ax_r_imul d_M_gathered_29)) (ax_fc (ax_v_so (ax_r_istore d_M_gathered_30)) (ax_fc (ax_v_go (tgt := 6) d_M_gathered_32 (by decide)) ax_fn)))))) (y := (6, [(6, .inl (.int ((x6 * (2 : Int32))))), (4, .inl (.long (r1))), (0, .inr (0, 32)), (3, .inl (.int (x3)))], [], ax_m (s) ρ)) rfl ⟨trivial, trivial, trivial, trivial, trivial, trivial, trivial⟩ ?_
      exact ax_Lsub [2, 3, 1, 0] rfl (ih _ h KE)
def f_M_gathered (F : Nat) (g : Nat) (a1 : Int64) (a2 : Int32) (s : ax_σ) : Option (Int64) :=
  Option.bind (lp_M_gathered_6 F g a2 s F a1 (1 : Int32)) (fun v4 =>
    some (v4))
set_option maxHeartbeats 4000000 in
set_option maxRecDepth 100000 in
theorem t_M_gathered {l : Launch} {D : va_G} {cA : Nat → ClassId} {ad : Nat → Nat → Nat} {al : List (Nat × Nat)} {θ : ax_Θ} {ρ : ax_ρ} {F : Nat} {g : Nat} (h0 : ax_M0 al) (hg : ax_Mg al g) (hr : ax_md ρ g) {a1 : Int64} {a2 : Int32} {s : ax_σ} {r0 : Int64} (h : f_M_gathered F g a1 a2 s = some r0) : ax_T l D cA ad al θ y_M_gathered (.code y_M_gathered prog_4_method_9_code 7 (some .long)) 2 [.inr (0, 32), .inl (.long (a1)), .inl (.int (a2))] (ax_m s ρ) (some (.inl (.long r0))) (ax_m s ρ) := by
  refine ax_T_of (own := "CipherNotation$Machine") (by decide) rfl (Nat.le_of_ble_eq_true rfl) [(0, .inr (0, 32)), (1, .inl (.long (a1))), (3, .inl (.int (a2)))] rfl ?_
  intro G hA
  have hB := hA.B
  have hK := hB.K
  have hal := hB.la
  unfold f_M_gathered at h
  refine ax_bk hK (ax_fc (ax_v_ld (ax_r_lload_n (i := 1) d_M_gathered_0 rfl)) (ax_fc (ax_v_so (ax_r_lstore d_M_gathered_1)) (ax_fc (ax_v_pu (ax_r_iconst (v := 1) d_M_gathered_3 (by decide))) (ax_fc (ax_v_so (ax_r_istore d_M_gathered_4)) ax_fn)))) (y := (6, [(6, .inl (.int ((1 : Int32)))), (4, .inl (.long (a1))), (0, .inr (0, 32)), (1, .inl (.long (a1))), (3, .inl (.int (a2)))], [], ax_m (s) ρ)) rfl ⟨trivial, trivial, trivial, trivial, trivial⟩ ?_
  obtain ⟨w5, hw5, h⟩ := ax_bd h
  refine ax_Lsub [2, 4, 1, 0] rfl (pl_M_gathered_6 h0 hg hr hB F _ hw5 ?_)
  intro v4 e9
  subst w5
  try dsimp only at h
  change ax_R G 7 0 0 (35, [(4, .inl (.long (v4)))], [], ax_m (s) ρ)
  refine ax_bk hK (ax_fc (ax_v_ld (ax_r_lload d_M_gathered_35)) ax_fn) (y := (37, [(4, .inl (.long (v4)))], [.inl (.long (v4))], ax_m (s) ρ)) rfl ⟨trivial, trivial⟩ ?_
  cases h
  exact ax_lret hA d_M_gathered_37
def y_M_inverse : MethodName := ⟨"CipherNotation$Machine", "inverse", "(J)J"⟩
theorem d_M_inverse_0 : decode prog_4_method_10_code 0 = .ok (.lload_n 0, 1) := by decide +kernel
theorem d_M_inverse_1 : decode prog_4_method_10_code 1 = .ok (.lstore_n 2, 1) := by decide +kernel
theorem d_M_inverse_2 : decode prog_4_method_10_code 2 = .ok (.iconst 3, 1) := by decide +kernel
theorem d_M_inverse_3 : decode prog_4_method_10_code 3 = .ok (.istore (4), 2) := by decide +kernel
theorem d_M_inverse_5 : decode prog_4_method_10_code 5 = .ok (.iload (4), 2) := by decide +kernel
theorem d_M_inverse_7 : decode prog_4_method_10_code 7 = .ok (.bipush (64), 2) := by decide +kernel
theorem d_M_inverse_9 : decode prog_4_method_10_code 9 = .ok (.if_icmp .ge (22), 3) := by decide +kernel
theorem d_M_inverse_12 : decode prog_4_method_10_code 12 = .ok (.lload_n 2, 1) := by decide +kernel
theorem d_M_inverse_13 : decode prog_4_method_10_code 13 = .ok (.ldc2_w (116), 3) := by decide +kernel
theorem d_M_inverse_16 : decode prog_4_method_10_code 16 = .ok (.lload_n 0, 1) := by decide +kernel
theorem d_M_inverse_17 : decode prog_4_method_10_code 17 = .ok (.lload_n 2, 1) := by decide +kernel
theorem d_M_inverse_18 : decode prog_4_method_10_code 18 = .ok (.lmul, 1) := by decide +kernel
theorem d_M_inverse_19 : decode prog_4_method_10_code 19 = .ok (.lsub, 1) := by decide +kernel
theorem d_M_inverse_20 : decode prog_4_method_10_code 20 = .ok (.lmul, 1) := by decide +kernel
theorem d_M_inverse_21 : decode prog_4_method_10_code 21 = .ok (.lstore_n 2, 1) := by decide +kernel
theorem d_M_inverse_22 : decode prog_4_method_10_code 22 = .ok (.iload (4), 2) := by decide +kernel
theorem d_M_inverse_24 : decode prog_4_method_10_code 24 = .ok (.iconst 2, 1) := by decide +kernel
theorem d_M_inverse_25 : decode prog_4_method_10_code 25 = .ok (.imul, 1) := by decide +kernel
theorem d_M_inverse_26 : decode prog_4_method_10_code 26 = .ok (.istore (4), 2) := by decide +kernel
theorem d_M_inverse_28 : decode prog_4_method_10_code 28 = .ok (.goto (-23), 3) := by decide +kernel
theorem d_M_inverse_31 : decode prog_4_method_10_code 31 = .ok (.lload_n 2, 1) := by decide +kernel
theorem d_M_inverse_32 : decode prog_4_method_10_code 32 = .ok (.lreturn, 1) := by decide +kernel
def lp_M_inverse_5 (F : Nat) (x0 : Int64) (s : ax_σ) : Nat → Int64 → Int32 → Option (Int64)
  | 0, _, _ => none
  | n + 1, x2, x4 =>
    if (64 : Int32) ≤ x4 then
      some x2
    else
      lp_M_inverse_5 F x0 s n (x2 * ((2 : Int64) - (x0 * x2))) (x4 * (2 : Int32))
set_option maxHeartbeats 4000000 in
set_option maxRecDepth 100000 in
theorem pl_M_inverse_5 {D : va_G} {cA : Nat → ClassId} {ad : Nat → Nat → Nat} {al : List (Nat × Nat)} {θ : ax_Θ} {l : Launch} {ρ : ax_ρ} {G : ax_G} {F : Nat} {x0 : Int64} {s : ax_σ}  (hB : ax_B D cA ad al θ l "CipherNotation$Machine" prog_4_method_10_code 5 0 G) : ∀ (n : Nat) {x2 : Int64} {x4 : Int32} (out : Int64), lp_M_inverse_5 F x0 s n x2 x4 = some out → (∀ (e2 : Int64), out = e2 → ax_R G 5 0 0 (31, [(2, .inl (.long (e2)))], [], ax_m (s) ρ)) → ax_R G 5 0 0 (5, [(0, .inl (.long (x0))), (2, .inl (.long (x2))), (4, .inl (.int (x4)))], [], ax_m (s) ρ) := by
  have hK := hB.K
  have hal := hB.la
  intro n
  induction n with
  | zero =>
    intro x2 x4 out h
    cases h
  | succ n ih =>
    intro x2 x4 out h KE
    rw [lp_M_inverse_5] at h
    refine ax_bk hK (ax_fc (ax_v_ld (ax_r_iload d_M_inverse_5)) (ax_fc (ax_v_pu (ax_r_bipush (v := 64) d_M_inverse_7 (by decide))) ax_fn)) (y := (9, [(0, .inl (.long (x0))), (2, .inl (.long (x2))), (4, .inl (.int (x4)))], [.inl (.int ((64 : Int32))), .inl (.int (x4))], ax_m (s) ρ)) rfl ⟨trivial, trivial, trivial⟩ ?_
    refine ax_ic_ge (tgt := 31) hK d_M_inverse_9 (by decide) (fun c1 => ?_) (fun c1 => ?_)
    · replace h := ax_it c1 h
      cases h
      exact ax_Lsub [1] rfl (KE _ rfl)
    · replace h := ax_if c1 h
      refine ax_bk hK (ax_fc (ax_v_ld (ax_r_lload_n (i := 2) d_M_inverse_12 rfl)) (ax_fc (ax_v_ldc2 (v := 2) d_M_inverse_13 (nw_4 104 (by decide +kernel) rfl)) (ax_fc (ax_v_ld (ax_r_lload_n (i := 0) d_M_inverse_16 rfl)) (ax_fc (ax_v_ld (ax_r_lload_n (i := 2) d_M_inverse_17 rfl)) (ax_fc (ax_v_pu (ax_r_lmul d_M_inverse_18)) (ax_fc (ax_v_pu (ax_r_lsub d_M_inverse_19)) (ax_fc (ax_v_pu (ax_r_lmul d_M_inverse_20)) (ax_fc (ax_v_so (ax_r_lstore_n (i := 2) d_M_inverse_21 rfl)) (ax_fc (ax_v_ld (ax_r_iload d_M_inverse_22)) (ax_fc (ax_v_pu (ax_r_iconst (v := 2) d_M_inverse_24 (by decide))) (ax_fc (ax_v_pu (ax_r_imul d_M_inverse_25)) (ax_fc (ax_v_so (ax_r_istore d_M_inverse_26)) (ax_fc (ax_v_go (tgt := 5) d_M_inverse_28 (by decide)) ax_fn))))))))))))) (y := (5, [(4, .inl (.int ((x4 * (2 : Int32))))), (2, .inl (.long ((x2 * ((2 : Int64) - (x0 * x2)))))), (0, .inl (.long (x0)))], [], ax_m (s) ρ)) rfl ⟨trivial, trivial, trivial, trivial, trivial, trivial, trivial, trivial, trivial, trivial, trivial, trivial, trivial, trivial⟩ ?_
      exact ax_Lsub [2, 1, 0] rfl (ih _ h KE)
def f_M_inverse (F : Nat) (a1 : Int64) (s : ax_σ) : Option (Int64) :=
  Option.bind (lp_M_inverse_5 F a1 s F a1 (3 : Int32)) (fun v2 =>
    some (v2))
set_option maxHeartbeats 4000000 in
set_option maxRecDepth 100000 in
theorem t_M_inverse {l : Launch} {D : va_G} {cA : Nat → ClassId} {ad : Nat → Nat → Nat} {al : List (Nat × Nat)} {θ : ax_Θ} {ρ : ax_ρ} {F : Nat}  {a1 : Int64} {s : ax_σ} {r0 : Int64} (h : f_M_inverse F a1 s = some r0) : ax_T l D cA ad al θ y_M_inverse (.code y_M_inverse prog_4_method_10_code 5 (some .long)) 0 [.inl (.long (a1))] (ax_m s ρ) (some (.inl (.long r0))) (ax_m s ρ) := by
  refine ax_T_of (own := "CipherNotation$Machine") (by decide) rfl (Nat.le_of_ble_eq_true rfl) [(0, .inl (.long (a1)))] rfl ?_
  intro G hA
  have hB := hA.B
  have hK := hB.K
  have hal := hB.la
  unfold f_M_inverse at h
  refine ax_bk hK (ax_fc (ax_v_ld (ax_r_lload_n (i := 0) d_M_inverse_0 rfl)) (ax_fc (ax_v_so (ax_r_lstore_n (i := 2) d_M_inverse_1 rfl)) (ax_fc (ax_v_pu (ax_r_iconst (v := 3) d_M_inverse_2 (by decide))) (ax_fc (ax_v_so (ax_r_istore d_M_inverse_3)) ax_fn)))) (y := (5, [(4, .inl (.int ((3 : Int32)))), (2, .inl (.long (a1))), (0, .inl (.long (a1)))], [], ax_m (s) ρ)) rfl ⟨trivial, trivial, trivial, trivial, trivial⟩ ?_
  obtain ⟨w3, hw3, h⟩ := ax_bd h
  refine ax_Lsub [2, 1, 0] rfl (pl_M_inverse_5 hB F _ hw3 ?_)
  intro v2 e9
  subst w3
  try dsimp only at h
  change ax_R G 5 0 0 (31, [(2, .inl (.long (v2)))], [], ax_m (s) ρ)
  refine ax_bk hK (ax_fc (ax_v_ld (ax_r_lload_n (i := 2) d_M_inverse_31 rfl)) ax_fn) (y := (32, [(2, .inl (.long (v2)))], [.inl (.long (v2))], ax_m (s) ρ)) rfl ⟨trivial, trivial⟩ ?_
  cases h
  exact ax_lret hA d_M_inverse_32
def y_M_joined : MethodName := ⟨"CipherNotation$Machine", "joined", "(IJJ)J"⟩
theorem d_M_joined_0 : decode prog_4_method_13_code 0 = .ok (.iload_n 0, 1) := by decide +kernel
theorem d_M_joined_1 : decode prog_4_method_13_code 1 = .ok (.lookupswitch (71) #[(38, 55), (43, 63), (45, 67), (94, 51), (124, 59)], 51) := by decide +kernel
theorem d_M_joined_52 : decode prog_4_method_13_code 52 = .ok (.lload_n 1, 1) := by decide +kernel
theorem d_M_joined_53 : decode prog_4_method_13_code 53 = .ok (.lload_n 3, 1) := by decide +kernel
theorem d_M_joined_54 : decode prog_4_method_13_code 54 = .ok (.lxor, 1) := by decide +kernel
theorem d_M_joined_55 : decode prog_4_method_13_code 55 = .ok (.lreturn, 1) := by decide +kernel
theorem d_M_joined_56 : decode prog_4_method_13_code 56 = .ok (.lload_n 1, 1) := by decide +kernel
theorem d_M_joined_57 : decode prog_4_method_13_code 57 = .ok (.lload_n 3, 1) := by decide +kernel
theorem d_M_joined_58 : decode prog_4_method_13_code 58 = .ok (.land, 1) := by decide +kernel
theorem d_M_joined_59 : decode prog_4_method_13_code 59 = .ok (.lreturn, 1) := by decide +kernel
theorem d_M_joined_60 : decode prog_4_method_13_code 60 = .ok (.lload_n 1, 1) := by decide +kernel
theorem d_M_joined_61 : decode prog_4_method_13_code 61 = .ok (.lload_n 3, 1) := by decide +kernel
theorem d_M_joined_62 : decode prog_4_method_13_code 62 = .ok (.lor, 1) := by decide +kernel
theorem d_M_joined_63 : decode prog_4_method_13_code 63 = .ok (.lreturn, 1) := by decide +kernel
theorem d_M_joined_64 : decode prog_4_method_13_code 64 = .ok (.lload_n 1, 1) := by decide +kernel
theorem d_M_joined_65 : decode prog_4_method_13_code 65 = .ok (.lload_n 3, 1) := by decide +kernel
theorem d_M_joined_66 : decode prog_4_method_13_code 66 = .ok (.ladd, 1) := by decide +kernel
theorem d_M_joined_67 : decode prog_4_method_13_code 67 = .ok (.lreturn, 1) := by decide +kernel
theorem d_M_joined_68 : decode prog_4_method_13_code 68 = .ok (.lload_n 1, 1) := by decide +kernel
theorem d_M_joined_69 : decode prog_4_method_13_code 69 = .ok (.lload_n 3, 1) := by decide +kernel
theorem d_M_joined_70 : decode prog_4_method_13_code 70 = .ok (.lsub, 1) := by decide +kernel
theorem d_M_joined_71 : decode prog_4_method_13_code 71 = .ok (.lreturn, 1) := by decide +kernel
theorem d_M_joined_72 : decode prog_4_method_13_code 72 = .ok (.lload_n 1, 1) := by decide +kernel
theorem d_M_joined_73 : decode prog_4_method_13_code 73 = .ok (.lload_n 3, 1) := by decide +kernel
theorem d_M_joined_74 : decode prog_4_method_13_code 74 = .ok (.lmul, 1) := by decide +kernel
theorem d_M_joined_75 : decode prog_4_method_13_code 75 = .ok (.lreturn, 1) := by decide +kernel
def f_M_joined (a1 : Int32) (a2 : Int64) (a3 : Int64) : Option (Int64) :=
  if a1 = (38 : Int32) then
    some ((a2 &&& a3))
  else
  if a1 = (43 : Int32) then
    some ((a2 + a3))
  else
  if a1 = (45 : Int32) then
    some ((a2 - a3))
  else
  if a1 = (94 : Int32) then
    some ((a2 ^^^ a3))
  else
  if a1 = (124 : Int32) then
    some ((a2 ||| a3))
  else
    some ((a2 * a3))
set_option maxHeartbeats 4000000 in
set_option maxRecDepth 100000 in
theorem t_M_joined {l : Launch} {D : va_G} {cA : Nat → ClassId} {ad : Nat → Nat → Nat} {al : List (Nat × Nat)} {θ : ax_Θ} {ρ : ax_ρ}  {a1 : Int32} {a2 : Int64} {a3 : Int64} {s : ax_σ} {r0 : Int64} (h : f_M_joined a1 a2 a3 = some r0) : ax_T l D cA ad al θ y_M_joined (.code y_M_joined prog_4_method_13_code 5 (some .long)) 0 [.inl (.int (a1)), .inl (.long (a2)), .inl (.long (a3))] (ax_m s ρ) (some (.inl (.long r0))) (ax_m s ρ) := by
  refine ax_T_of (own := "CipherNotation$Machine") (by decide) rfl (Nat.le_of_ble_eq_true rfl) [(0, .inl (.int (a1))), (1, .inl (.long (a2))), (3, .inl (.long (a3)))] rfl ?_
  intro G hA
  have hB := hA.B
  have hK := hB.K
  have hal := hB.la
  unfold f_M_joined at h
  refine ax_bk hK (ax_fc (ax_v_ld (ax_r_iload_n (i := 0) d_M_joined_0 rfl)) ax_fn) (y := (1, [(0, .inl (.int (a1))), (1, .inl (.long (a2))), (3, .inl (.long (a3)))], [.inl (.int (a1))], ax_m (s) ρ)) rfl ⟨trivial, trivial⟩ ?_
  refine ax_lsw (d := 72) (ks := [(38, 56), (43, 64), (45, 68), (94, 52), (124, 60)]) hK d_M_joined_1 (by decide) (by decide) (by decide) ?_
  refine And.intro (fun c1 => ?_) (fun c1 => ?_)
  · replace h := ax_it c1 h
    change ax_R G 5 0 0 (56, [(0, .inl (.int (a1))), (1, .inl (.long (a2))), (3, .inl (.long (a3)))], [], ax_m (s) ρ)
    refine ax_bk hK (ax_fc (ax_v_ld (ax_r_lload_n (i := 1) d_M_joined_56 rfl)) (ax_fc (ax_v_ld (ax_r_lload_n (i := 3) d_M_joined_57 rfl)) (ax_fc (ax_v_pu (ax_r_land d_M_joined_58)) ax_fn))) (y := (59, [(0, .inl (.int (a1))), (1, .inl (.long (a2))), (3, .inl (.long (a3)))], [.inl (.long ((a2 &&& a3)))], ax_m (s) ρ)) rfl ⟨trivial, trivial, trivial, trivial⟩ ?_
    cases h
    exact ax_lret hA d_M_joined_59
  replace h := ax_if c1 h
  refine And.intro (fun c1 => ?_) (fun c1 => ?_)
  · replace h := ax_it c1 h
    change ax_R G 5 0 0 (64, [(0, .inl (.int (a1))), (1, .inl (.long (a2))), (3, .inl (.long (a3)))], [], ax_m (s) ρ)
    refine ax_bk hK (ax_fc (ax_v_ld (ax_r_lload_n (i := 1) d_M_joined_64 rfl)) (ax_fc (ax_v_ld (ax_r_lload_n (i := 3) d_M_joined_65 rfl)) (ax_fc (ax_v_pu (ax_r_ladd d_M_joined_66)) ax_fn))) (y := (67, [(0, .inl (.int (a1))), (1, .inl (.long (a2))), (3, .inl (.long (a3)))], [.inl (.long ((a2 + a3)))], ax_m (s) ρ)) rfl ⟨trivial, trivial, trivial, trivial⟩ ?_
    cases h
    exact ax_lret hA d_M_joined_67
  replace h := ax_if c1 h
  refine And.intro (fun c1 => ?_) (fun c1 => ?_)
  · replace h := ax_it c1 h
    change ax_R G 5 0 0 (68, [(0, .inl (.int (a1))), (1, .inl (.long (a2))), (3, .inl (.long (a3)))], [], ax_m (s) ρ)
    refine ax_bk hK (ax_fc (ax_v_ld (ax_r_lload_n (i := 1) d_M_joined_68 rfl)) (ax_fc (ax_v_ld (ax_r_lload_n (i := 3) d_M_joined_69 rfl)) (ax_fc (ax_v_pu (ax_r_lsub d_M_joined_70)) ax_fn))) (y := (71, [(0, .inl (.int (a1))), (1, .inl (.long (a2))), (3, .inl (.long (a3)))], [.inl (.long ((a2 - a3)))], ax_m (s) ρ)) rfl ⟨trivial, trivial, trivial, trivial⟩ ?_
    cases h
    exact ax_lret hA d_M_joined_71
  replace h := ax_if c1 h
  refine And.intro (fun c1 => ?_) (fun c1 => ?_)
  · replace h := ax_it c1 h
    change ax_R G 5 0 0 (52, [(0, .inl (.int (a1))), (1, .inl (.long (a2))), (3, .inl (.long (a3)))], [], ax_m (s) ρ)
    refine ax_bk hK (ax_fc (ax_v_ld (ax_r_lload_n (i := 1) d_M_joined_52 rfl)) (ax_fc (ax_v_ld (ax_r_lload_n (i := 3) d_M_joined_53 rfl)) (ax_fc (ax_v_pu (ax_r_lxor d_M_joined_54)) ax_fn))) (y := (55, [(0, .inl (.int (a1))), (1, .inl (.long (a2))), (3, .inl (.long (a3)))], [.inl (.long ((a2 ^^^ a3)))], ax_m (s) ρ)) rfl ⟨trivial, trivial, trivial, trivial⟩ ?_
    cases h
    exact ax_lret hA d_M_joined_55
  replace h := ax_if c1 h
  refine And.intro (fun c1 => ?_) (fun c1 => ?_)
  · replace h := ax_it c1 h
    change ax_R G 5 0 0 (60, [(0, .inl (.int (a1))), (1, .inl (.long (a2))), (3, .inl (.long (a3)))], [], ax_m (s) ρ)
    refine ax_bk hK (ax_fc (ax_v_ld (ax_r_lload_n (i := 1) d_M_joined_60 rfl)) (ax_fc (ax_v_ld (ax_r_lload_n (i := 3) d_M_joined_61 rfl)) (ax_fc (ax_v_pu (ax_r_lor d_M_joined_62)) ax_fn))) (y := (63, [(0, .inl (.int (a1))), (1, .inl (.long (a2))), (3, .inl (.long (a3)))], [.inl (.long ((a2 ||| a3)))], ax_m (s) ρ)) rfl ⟨trivial, trivial, trivial, trivial⟩ ?_
    cases h
    exact ax_lret hA d_M_joined_63
  replace h := ax_if c1 h
  change ax_R G 5 0 0 (72, [(0, .inl (.int (a1))), (1, .inl (.long (a2))), (3, .inl (.long (a3)))], [], ax_m (s) ρ)
  refine ax_bk hK (ax_fc (ax_v_ld (ax_r_lload_n (i := 1) d_M_joined_72 rfl)) (ax_fc (ax_v_ld (ax_r_lload_n (i := 3) d_M_joined_73 rfl)) (ax_fc (ax_v_pu (ax_r_lmul d_M_joined_74)) ax_fn))) (y := (75, [(0, .inl (.int (a1))), (1, .inl (.long (a2))), (3, .inl (.long (a3)))], [.inl (.long ((a2 * a3)))], ax_m (s) ρ)) rfl ⟨trivial, trivial, trivial, trivial⟩ ?_
  cases h
  exact ax_lret hA d_M_joined_75
def y_M_wordOf : MethodName := ⟨"CipherNotation$Machine", "wordOf", "(II)J"⟩
theorem d_M_wordOf_0 : decode prog_4_method_12_code 0 = .ok (.iload_n 1, 1) := by decide +kernel
theorem d_M_wordOf_1 : decode prog_4_method_12_code 1 = .ok (.lookupswitch (56) #[(65, 35), (75, 42), (83, 49)], 35) := by decide +kernel
theorem d_M_wordOf_36 : decode prog_4_method_12_code 36 = .ok (.aload_n 0, 1) := by decide +kernel
theorem d_M_wordOf_37 : decode prog_4_method_12_code 37 = .ok (.getfield (15), 3) := by decide +kernel
theorem d_M_wordOf_40 : decode prog_4_method_12_code 40 = .ok (.iload_n 2, 1) := by decide +kernel
theorem d_M_wordOf_41 : decode prog_4_method_12_code 41 = .ok (.laload, 1) := by decide +kernel
theorem d_M_wordOf_42 : decode prog_4_method_12_code 42 = .ok (.lreturn, 1) := by decide +kernel
theorem d_M_wordOf_43 : decode prog_4_method_12_code 43 = .ok (.aload_n 0, 1) := by decide +kernel
theorem d_M_wordOf_44 : decode prog_4_method_12_code 44 = .ok (.getfield (9), 3) := by decide +kernel
theorem d_M_wordOf_47 : decode prog_4_method_12_code 47 = .ok (.iload_n 2, 1) := by decide +kernel
theorem d_M_wordOf_48 : decode prog_4_method_12_code 48 = .ok (.laload, 1) := by decide +kernel
theorem d_M_wordOf_49 : decode prog_4_method_12_code 49 = .ok (.lreturn, 1) := by decide +kernel
theorem d_M_wordOf_50 : decode prog_4_method_12_code 50 = .ok (.aload_n 0, 1) := by decide +kernel
theorem d_M_wordOf_51 : decode prog_4_method_12_code 51 = .ok (.getfield (18), 3) := by decide +kernel
theorem d_M_wordOf_54 : decode prog_4_method_12_code 54 = .ok (.iload_n 2, 1) := by decide +kernel
theorem d_M_wordOf_55 : decode prog_4_method_12_code 55 = .ok (.laload, 1) := by decide +kernel
theorem d_M_wordOf_56 : decode prog_4_method_12_code 56 = .ok (.lreturn, 1) := by decide +kernel
theorem d_M_wordOf_57 : decode prog_4_method_12_code 57 = .ok (.iload_n 2, 1) := by decide +kernel
theorem d_M_wordOf_58 : decode prog_4_method_12_code 58 = .ok (.i2l, 1) := by decide +kernel
theorem d_M_wordOf_59 : decode prog_4_method_12_code 59 = .ok (.lreturn, 1) := by decide +kernel
theorem fd_M_15 : ax_fd "CipherNotation$Machine" 15 2 1 := ⟨nC2, nT2, 9, nY2, rfl, nW2, by decide, nw_1 91 (by decide +kernel) rfl, nO2, nA2⟩
theorem fd_M_9 : ax_fd "CipherNotation$Machine" 9 2 0 := ⟨nC2, nT2, 9, nY2, rfl, nW2, by decide, nw_1 89 (by decide +kernel) rfl, nO2, nA2⟩
theorem fd_M_18 : ax_fd "CipherNotation$Machine" 18 2 2 := ⟨nC2, nT2, 9, nY2, rfl, nW2, by decide, nw_1 93 (by decide +kernel) rfl, nO2, nA2⟩
def f_M_wordOf (g : Nat) (a1 : Int32) (a2 : Int32) (s : ax_σ) : Option (Int64) :=
  if a1 = (65 : Int32) then
    bif ax_in a2 4 then
    some ((s.2 0 34 (a2).toNatClampNeg))
    else none
  else
  if a1 = (75 : Int32) then
    bif ax_in a2 4 then
    some ((s.2 0 33 (a2).toNatClampNeg))
    else none
  else
  if a1 = (83 : Int32) then
    bif ax_in a2 32 then
    some ((s.2 0 35 (a2).toNatClampNeg))
    else none
  else
    some (((a2).toInt64))
set_option maxHeartbeats 4000000 in
set_option maxRecDepth 100000 in
theorem t_M_wordOf {l : Launch} {D : va_G} {cA : Nat → ClassId} {ad : Nat → Nat → Nat} {al : List (Nat × Nat)} {θ : ax_Θ} {ρ : ax_ρ} {g : Nat} (h0 : ax_M0 al) (hg : ax_Mg al g) (hr : ax_md ρ g) {a1 : Int32} {a2 : Int32} {s : ax_σ} {r0 : Int64} (h : f_M_wordOf g a1 a2 s = some r0) : ax_T l D cA ad al θ y_M_wordOf (.code y_M_wordOf prog_4_method_12_code 3 (some .long)) 0 [.inr (0, 32), .inl (.int (a1)), .inl (.int (a2))] (ax_m s ρ) (some (.inl (.long r0))) (ax_m s ρ) := by
  refine ax_T_of (own := "CipherNotation$Machine") (by decide) rfl (Nat.le_of_ble_eq_true rfl) [(0, .inr (0, 32)), (1, .inl (.int (a1))), (2, .inl (.int (a2)))] rfl ?_
  intro G hA
  have hB := hA.B
  have hK := hB.K
  have hal := hB.la
  unfold f_M_wordOf at h
  refine ax_bk hK (ax_fc (ax_v_ld (ax_r_iload_n (i := 1) d_M_wordOf_0 rfl)) ax_fn) (y := (1, [(0, .inr (0, 32)), (1, .inl (.int (a1))), (2, .inl (.int (a2)))], [.inl (.int (a1))], ax_m (s) ρ)) rfl ⟨trivial, trivial⟩ ?_
  refine ax_lsw (d := 57) (ks := [(65, 36), (75, 43), (83, 50)]) hK d_M_wordOf_1 (by decide) (by decide) (by decide) ?_
  refine And.intro (fun c4 => ?_) (fun c4 => ?_)
  · replace h := ax_it c4 h
    change ax_R G 3 0 0 (36, [(0, .inr (0, 32)), (1, .inl (.int (a1))), (2, .inl (.int (a2)))], [], ax_m (s) ρ)
    obtain ⟨b1, h⟩ := ax_gd h
    refine ax_bk hK (ax_fc (ax_v_ld (ax_r_aload_n (i := 0) d_M_wordOf_36 rfl)) (ax_fc (ax_w_gf (e := none) hal d_M_wordOf_37 fd_M_15) (ax_fc (ax_v_ld (ax_r_iload_n (i := 2) d_M_wordOf_40 rfl)) (ax_fc (ax_w_lald hal d_M_wordOf_41) ax_fn)))) (y := (42, [(0, .inr (0, 32)), (1, .inl (.int (a1))), (2, .inl (.int (a2)))], [.inl (.long ((s.2 0 34 (a2).toNatClampNeg)))], ax_m (s) ρ)) rfl ⟨trivial, (h0 32 rfl), trivial, ⟨(h0 34 rfl), ax_inp b1⟩, trivial⟩ ?_
    cases h
    exact ax_lret hA d_M_wordOf_42
  replace h := ax_if c4 h
  refine And.intro (fun c4 => ?_) (fun c4 => ?_)
  · replace h := ax_it c4 h
    change ax_R G 3 0 0 (43, [(0, .inr (0, 32)), (1, .inl (.int (a1))), (2, .inl (.int (a2)))], [], ax_m (s) ρ)
    obtain ⟨b2, h⟩ := ax_gd h
    refine ax_bk hK (ax_fc (ax_v_ld (ax_r_aload_n (i := 0) d_M_wordOf_43 rfl)) (ax_fc (ax_w_gf (e := none) hal d_M_wordOf_44 fd_M_9) (ax_fc (ax_v_ld (ax_r_iload_n (i := 2) d_M_wordOf_47 rfl)) (ax_fc (ax_w_lald hal d_M_wordOf_48) ax_fn)))) (y := (49, [(0, .inr (0, 32)), (1, .inl (.int (a1))), (2, .inl (.int (a2)))], [.inl (.long ((s.2 0 33 (a2).toNatClampNeg)))], ax_m (s) ρ)) rfl ⟨trivial, (h0 32 rfl), trivial, ⟨(h0 33 rfl), ax_inp b2⟩, trivial⟩ ?_
    cases h
    exact ax_lret hA d_M_wordOf_49
  replace h := ax_if c4 h
  refine And.intro (fun c4 => ?_) (fun c4 => ?_)
  · replace h := ax_it c4 h
    change ax_R G 3 0 0 (50, [(0, .inr (0, 32)), (1, .inl (.int (a1))), (2, .inl (.int (a2)))], [], ax_m (s) ρ)
    obtain ⟨b3, h⟩ := ax_gd h
    refine ax_bk hK (ax_fc (ax_v_ld (ax_r_aload_n (i := 0) d_M_wordOf_50 rfl)) (ax_fc (ax_w_gf (e := none) hal d_M_wordOf_51 fd_M_18) (ax_fc (ax_v_ld (ax_r_iload_n (i := 2) d_M_wordOf_54 rfl)) (ax_fc (ax_w_lald hal d_M_wordOf_55) ax_fn)))) (y := (56, [(0, .inr (0, 32)), (1, .inl (.int (a1))), (2, .inl (.int (a2)))], [.inl (.long ((s.2 0 35 (a2).toNatClampNeg)))], ax_m (s) ρ)) rfl ⟨trivial, (h0 32 rfl), trivial, ⟨(h0 35 rfl), ax_inp b3⟩, trivial⟩ ?_
    cases h
    exact ax_lret hA d_M_wordOf_56
  replace h := ax_if c4 h
  change ax_R G 3 0 0 (57, [(0, .inr (0, 32)), (1, .inl (.int (a1))), (2, .inl (.int (a2)))], [], ax_m (s) ρ)
  refine ax_bk hK (ax_fc (ax_v_ld (ax_r_iload_n (i := 2) d_M_wordOf_57 rfl)) (ax_fc (ax_v_pu (ax_r_i2l d_M_wordOf_58)) ax_fn)) (y := (59, [(0, .inr (0, 32)), (1, .inl (.int (a1))), (2, .inl (.int (a2)))], [.inl (.long ((a2).toInt64))], ax_m (s) ρ)) rfl ⟨trivial, trivial, trivial⟩ ?_
  cases h
  exact ax_lret hA d_M_wordOf_59
def y_M_value : MethodName := ⟨"CipherNotation$Machine", "value", "(I)J"⟩
theorem d_M_value_0 : decode prog_4_method_11_code 0 = .ok (.iload_n 1, 1) := by decide +kernel
theorem d_M_value_1 : decode prog_4_method_11_code 1 = .ok (.sipush (256), 3) := by decide +kernel
theorem d_M_value_4 : decode prog_4_method_11_code 4 = .ok (.idiv, 1) := by decide +kernel
theorem d_M_value_5 : decode prog_4_method_11_code 5 = .ok (.istore_n 2, 1) := by decide +kernel
theorem d_M_value_6 : decode prog_4_method_11_code 6 = .ok (.iload_n 1, 1) := by decide +kernel
theorem d_M_value_7 : decode prog_4_method_11_code 7 = .ok (.bipush (16), 2) := by decide +kernel
theorem d_M_value_9 : decode prog_4_method_11_code 9 = .ok (.idiv, 1) := by decide +kernel
theorem d_M_value_10 : decode prog_4_method_11_code 10 = .ok (.bipush (16), 2) := by decide +kernel
theorem d_M_value_12 : decode prog_4_method_11_code 12 = .ok (.irem, 1) := by decide +kernel
theorem d_M_value_13 : decode prog_4_method_11_code 13 = .ok (.istore_n 3, 1) := by decide +kernel
theorem d_M_value_14 : decode prog_4_method_11_code 14 = .ok (.iload_n 1, 1) := by decide +kernel
theorem d_M_value_15 : decode prog_4_method_11_code 15 = .ok (.bipush (16), 2) := by decide +kernel
theorem d_M_value_17 : decode prog_4_method_11_code 17 = .ok (.irem, 1) := by decide +kernel
theorem d_M_value_18 : decode prog_4_method_11_code 18 = .ok (.istore (4), 2) := by decide +kernel
theorem d_M_value_20 : decode prog_4_method_11_code 20 = .ok (.iconst 0, 1) := by decide +kernel
theorem d_M_value_21 : decode prog_4_method_11_code 21 = .ok (.istore (5), 2) := by decide +kernel
theorem d_M_value_23 : decode prog_4_method_11_code 23 = .ok (.aload_n 0, 1) := by decide +kernel
theorem d_M_value_24 : decode prog_4_method_11_code 24 = .ok (.getfield (39), 3) := by decide +kernel
theorem d_M_value_27 : decode prog_4_method_11_code 27 = .ok (.getfield (105), 3) := by decide +kernel
theorem d_M_value_30 : decode prog_4_method_11_code 30 = .ok (.iload_n 2, 1) := by decide +kernel
theorem d_M_value_31 : decode prog_4_method_11_code 31 = .ok (.iaload, 1) := by decide +kernel
theorem d_M_value_32 : decode prog_4_method_11_code 32 = .ok (.istore (6), 2) := by decide +kernel
theorem d_M_value_34 : decode prog_4_method_11_code 34 = .ok (.iload (6), 2) := by decide +kernel
theorem d_M_value_36 : decode prog_4_method_11_code 36 = .ok (.aload_n 0, 1) := by decide +kernel
theorem d_M_value_37 : decode prog_4_method_11_code 37 = .ok (.getfield (39), 3) := by decide +kernel
theorem d_M_value_40 : decode prog_4_method_11_code 40 = .ok (.getfield (108), 3) := by decide +kernel
theorem d_M_value_43 : decode prog_4_method_11_code 43 = .ok (.iload_n 2, 1) := by decide +kernel
theorem d_M_value_44 : decode prog_4_method_11_code 44 = .ok (.iaload, 1) := by decide +kernel
theorem d_M_value_45 : decode prog_4_method_11_code 45 = .ok (.if_icmp .ge (181), 3) := by decide +kernel
theorem d_M_value_48 : decode prog_4_method_11_code 48 = .ok (.aload_n 0, 1) := by decide +kernel
theorem d_M_value_49 : decode prog_4_method_11_code 49 = .ok (.getfield (34), 3) := by decide +kernel
theorem d_M_value_52 : decode prog_4_method_11_code 52 = .ok (.getfield (118), 3) := by decide +kernel
theorem d_M_value_55 : decode prog_4_method_11_code 55 = .ok (.iload (6), 2) := by decide +kernel
theorem d_M_value_57 : decode prog_4_method_11_code 57 = .ok (.iaload, 1) := by decide +kernel
theorem d_M_value_58 : decode prog_4_method_11_code 58 = .ok (.istore (7), 2) := by decide +kernel
theorem d_M_value_60 : decode prog_4_method_11_code 60 = .ok (.iload (7), 2) := by decide +kernel
theorem d_M_value_62 : decode prog_4_method_11_code 62 = .ok (.bipush (126), 2) := by decide +kernel
theorem d_M_value_64 : decode prog_4_method_11_code 64 = .ok (.if_icmp .ne (33), 3) := by decide +kernel
theorem d_M_value_67 : decode prog_4_method_11_code 67 = .ok (.aload_n 0, 1) := by decide +kernel
theorem d_M_value_68 : decode prog_4_method_11_code 68 = .ok (.getfield (21), 3) := by decide +kernel
theorem d_M_value_71 : decode prog_4_method_11_code 71 = .ok (.iload (5), 2) := by decide +kernel
theorem d_M_value_73 : decode prog_4_method_11_code 73 = .ok (.iconst 1, 1) := by decide +kernel
theorem d_M_value_74 : decode prog_4_method_11_code 74 = .ok (.isub, 1) := by decide +kernel
theorem d_M_value_75 : decode prog_4_method_11_code 75 = .ok (.aload_n 0, 1) := by decide +kernel
theorem d_M_value_76 : decode prog_4_method_11_code 76 = .ok (.getfield (21), 3) := by decide +kernel
theorem d_M_value_79 : decode prog_4_method_11_code 79 = .ok (.iload (5), 2) := by decide +kernel
theorem d_M_value_81 : decode prog_4_method_11_code 81 = .ok (.iconst 1, 1) := by decide +kernel
theorem d_M_value_82 : decode prog_4_method_11_code 82 = .ok (.isub, 1) := by decide +kernel
theorem d_M_value_83 : decode prog_4_method_11_code 83 = .ok (.laload, 1) := by decide +kernel
theorem d_M_value_84 : decode prog_4_method_11_code 84 = .ok (.ldc2_w (48), 3) := by decide +kernel
theorem d_M_value_87 : decode prog_4_method_11_code 87 = .ok (.lxor, 1) := by decide +kernel
theorem d_M_value_88 : decode prog_4_method_11_code 88 = .ok (.aload_n 0, 1) := by decide +kernel
theorem d_M_value_89 : decode prog_4_method_11_code 89 = .ok (.getfield (50), 3) := by decide +kernel
theorem d_M_value_92 : decode prog_4_method_11_code 92 = .ok (.land, 1) := by decide +kernel
theorem d_M_value_93 : decode prog_4_method_11_code 93 = .ok (.lastore, 1) := by decide +kernel
theorem d_M_value_94 : decode prog_4_method_11_code 94 = .ok (.goto (126), 3) := by decide +kernel
theorem d_M_value_97 : decode prog_4_method_11_code 97 = .ok (.iload (7), 2) := by decide +kernel
theorem d_M_value_99 : decode prog_4_method_11_code 99 = .ok (.bipush (60), 2) := by decide +kernel
theorem d_M_value_101 : decode prog_4_method_11_code 101 = .ok (.if_icmp .ne (38), 3) := by decide +kernel
theorem d_M_value_104 : decode prog_4_method_11_code 104 = .ok (.aload_n 0, 1) := by decide +kernel
theorem d_M_value_105 : decode prog_4_method_11_code 105 = .ok (.getfield (21), 3) := by decide +kernel
theorem d_M_value_108 : decode prog_4_method_11_code 108 = .ok (.iload (5), 2) := by decide +kernel
theorem d_M_value_110 : decode prog_4_method_11_code 110 = .ok (.iconst 1, 1) := by decide +kernel
theorem d_M_value_111 : decode prog_4_method_11_code 111 = .ok (.isub, 1) := by decide +kernel
theorem d_M_value_112 : decode prog_4_method_11_code 112 = .ok (.aload_n 0, 1) := by decide +kernel
theorem d_M_value_113 : decode prog_4_method_11_code 113 = .ok (.aload_n 0, 1) := by decide +kernel
theorem d_M_value_114 : decode prog_4_method_11_code 114 = .ok (.getfield (21), 3) := by decide +kernel
theorem d_M_value_117 : decode prog_4_method_11_code 117 = .ok (.iload (5), 2) := by decide +kernel
theorem d_M_value_119 : decode prog_4_method_11_code 119 = .ok (.iconst 1, 1) := by decide +kernel
theorem d_M_value_120 : decode prog_4_method_11_code 120 = .ok (.isub, 1) := by decide +kernel
theorem d_M_value_121 : decode prog_4_method_11_code 121 = .ok (.laload, 1) := by decide +kernel
theorem d_M_value_122 : decode prog_4_method_11_code 122 = .ok (.aload_n 0, 1) := by decide +kernel
theorem d_M_value_123 : decode prog_4_method_11_code 123 = .ok (.getfield (34), 3) := by decide +kernel
theorem d_M_value_126 : decode prog_4_method_11_code 126 = .ok (.getfield (111), 3) := by decide +kernel
theorem d_M_value_129 : decode prog_4_method_11_code 129 = .ok (.iload (6), 2) := by decide +kernel
theorem d_M_value_131 : decode prog_4_method_11_code 131 = .ok (.laload, 1) := by decide +kernel
theorem d_M_value_132 : decode prog_4_method_11_code 132 = .ok (.invokevirtual (83), 3) := by decide +kernel
theorem d_M_value_135 : decode prog_4_method_11_code 135 = .ok (.lastore, 1) := by decide +kernel
theorem d_M_value_136 : decode prog_4_method_11_code 136 = .ok (.goto (84), 3) := by decide +kernel
theorem d_M_value_139 : decode prog_4_method_11_code 139 = .ok (.ldc (119), 2) := by decide +kernel
theorem d_M_value_141 : decode prog_4_method_11_code 141 = .ok (.iload (7), 2) := by decide +kernel
theorem d_M_value_143 : decode prog_4_method_11_code 143 = .ok (.i2c, 1) := by decide +kernel
theorem d_M_value_144 : decode prog_4_method_11_code 144 = .ok (.invokevirtual (121), 3) := by decide +kernel
theorem d_M_value_147 : decode prog_4_method_11_code 147 = .ok (.ifCond .lt (44), 3) := by decide +kernel
theorem d_M_value_150 : decode prog_4_method_11_code 150 = .ok (.iinc 5 (-1), 3) := by decide +kernel
theorem d_M_value_153 : decode prog_4_method_11_code 153 = .ok (.aload_n 0, 1) := by decide +kernel
theorem d_M_value_154 : decode prog_4_method_11_code 154 = .ok (.getfield (21), 3) := by decide +kernel
theorem d_M_value_157 : decode prog_4_method_11_code 157 = .ok (.iload (5), 2) := by decide +kernel
theorem d_M_value_159 : decode prog_4_method_11_code 159 = .ok (.iconst 1, 1) := by decide +kernel
theorem d_M_value_160 : decode prog_4_method_11_code 160 = .ok (.isub, 1) := by decide +kernel
theorem d_M_value_161 : decode prog_4_method_11_code 161 = .ok (.iload (7), 2) := by decide +kernel
theorem d_M_value_163 : decode prog_4_method_11_code 163 = .ok (.aload_n 0, 1) := by decide +kernel
theorem d_M_value_164 : decode prog_4_method_11_code 164 = .ok (.getfield (21), 3) := by decide +kernel
theorem d_M_value_167 : decode prog_4_method_11_code 167 = .ok (.iload (5), 2) := by decide +kernel
theorem d_M_value_169 : decode prog_4_method_11_code 169 = .ok (.iconst 1, 1) := by decide +kernel
theorem d_M_value_170 : decode prog_4_method_11_code 170 = .ok (.isub, 1) := by decide +kernel
theorem d_M_value_171 : decode prog_4_method_11_code 171 = .ok (.laload, 1) := by decide +kernel
theorem d_M_value_172 : decode prog_4_method_11_code 172 = .ok (.aload_n 0, 1) := by decide +kernel
theorem d_M_value_173 : decode prog_4_method_11_code 173 = .ok (.getfield (21), 3) := by decide +kernel
theorem d_M_value_176 : decode prog_4_method_11_code 176 = .ok (.iload (5), 2) := by decide +kernel
theorem d_M_value_178 : decode prog_4_method_11_code 178 = .ok (.laload, 1) := by decide +kernel
theorem d_M_value_179 : decode prog_4_method_11_code 179 = .ok (.invokestatic (127), 3) := by decide +kernel
theorem d_M_value_182 : decode prog_4_method_11_code 182 = .ok (.aload_n 0, 1) := by decide +kernel
theorem d_M_value_183 : decode prog_4_method_11_code 183 = .ok (.getfield (50), 3) := by decide +kernel
theorem d_M_value_186 : decode prog_4_method_11_code 186 = .ok (.land, 1) := by decide +kernel
theorem d_M_value_187 : decode prog_4_method_11_code 187 = .ok (.lastore, 1) := by decide +kernel
theorem d_M_value_188 : decode prog_4_method_11_code 188 = .ok (.goto (32), 3) := by decide +kernel
theorem d_M_value_191 : decode prog_4_method_11_code 191 = .ok (.aload_n 0, 1) := by decide +kernel
theorem d_M_value_192 : decode prog_4_method_11_code 192 = .ok (.getfield (21), 3) := by decide +kernel
theorem d_M_value_195 : decode prog_4_method_11_code 195 = .ok (.iload (5), 2) := by decide +kernel
theorem d_M_value_197 : decode prog_4_method_11_code 197 = .ok (.aload_n 0, 1) := by decide +kernel
theorem d_M_value_198 : decode prog_4_method_11_code 198 = .ok (.iload (7), 2) := by decide +kernel
theorem d_M_value_200 : decode prog_4_method_11_code 200 = .ok (.aload_n 0, 1) := by decide +kernel
theorem d_M_value_201 : decode prog_4_method_11_code 201 = .ok (.getfield (34), 3) := by decide +kernel
theorem d_M_value_204 : decode prog_4_method_11_code 204 = .ok (.iload (6), 2) := by decide +kernel
theorem d_M_value_206 : decode prog_4_method_11_code 206 = .ok (.iload_n 3, 1) := by decide +kernel
theorem d_M_value_207 : decode prog_4_method_11_code 207 = .ok (.iload (4), 2) := by decide +kernel
theorem d_M_value_209 : decode prog_4_method_11_code 209 = .ok (.invokevirtual (131), 3) := by decide +kernel
theorem d_M_value_212 : decode prog_4_method_11_code 212 = .ok (.l2i, 1) := by decide +kernel
theorem d_M_value_213 : decode prog_4_method_11_code 213 = .ok (.invokevirtual (135), 3) := by decide +kernel
theorem d_M_value_216 : decode prog_4_method_11_code 216 = .ok (.lastore, 1) := by decide +kernel
theorem d_M_value_217 : decode prog_4_method_11_code 217 = .ok (.iinc 5 (1), 3) := by decide +kernel
theorem d_M_value_220 : decode prog_4_method_11_code 220 = .ok (.iinc 6 (1), 3) := by decide +kernel
theorem d_M_value_223 : decode prog_4_method_11_code 223 = .ok (.goto (-189), 3) := by decide +kernel
theorem d_M_value_226 : decode prog_4_method_11_code 226 = .ok (.aload_n 0, 1) := by decide +kernel
theorem d_M_value_227 : decode prog_4_method_11_code 227 = .ok (.getfield (21), 3) := by decide +kernel
theorem d_M_value_230 : decode prog_4_method_11_code 230 = .ok (.iconst 0, 1) := by decide +kernel
theorem d_M_value_231 : decode prog_4_method_11_code 231 = .ok (.laload, 1) := by decide +kernel
theorem d_M_value_232 : decode prog_4_method_11_code 232 = .ok (.lreturn, 1) := by decide +kernel
theorem fd_M_118 : ax_fd "CipherNotation$Machine" 118 0 0 := ⟨nC0, nT0, 9, nY0, rfl, nW0, by decide, nw_1 135 (by decide +kernel) rfl, nO0, nA0⟩
set_option maxRecDepth 100000 in
theorem cw_M_121 : ax_cw "CipherNotation$Machine" 121 y_String_indexOf_I (.code y_String_indexOf_I prog_16_method_79_code 2 (some .int)) 1 := ⟨nw_4 73 (by decide +kernel) rfl, nw_1 9 (by decide +kernel) rfl, nw_2 111 rfl rfl, by decide +kernel, by decide +kernel⟩
theorem fd_M_21 : ax_fd "CipherNotation$Machine" 21 2 3 := ⟨nC2, nT2, 9, nY2, rfl, nW2, by decide, nw_1 95 (by decide +kernel) rfl, nO2, nA2⟩
set_option maxRecDepth 100000 in
theorem cw_M_131 : ax_cw "CipherNotation$Machine" 131 y_C_exact (.code y_C_exact prog_2_method_8_code 4 (some .long)) 3 := ⟨nw_4 77 (by decide +kernel) rfl, nw_1 5 (by decide +kernel) rfl, nw_4 80 rfl rfl, by decide +kernel, by decide +kernel⟩
theorem im_C_exact : Cond.instanceMethod y_C_exact ∈ ax_tbl := nw_4 78 (by decide +kernel) rfl
theorem se_C_exact : Cond.selects y_C_exact.cls y_C_exact y_C_exact ∈ ax_tbl := nw_4 79 (by decide +kernel) rfl
set_option maxRecDepth 100000 in
theorem cw_M_135 : ax_cw "CipherNotation$Machine" 135 y_M_wordOf (.code y_M_wordOf prog_4_method_12_code 3 (some .long)) 2 := ⟨nw_4 81 (by decide +kernel) rfl, nw_1 3 (by decide +kernel) rfl, nw_4 84 rfl rfl, by decide +kernel, by decide +kernel⟩
theorem im_M_wordOf : Cond.instanceMethod y_M_wordOf ∈ ax_tbl := nw_4 83 (by decide +kernel) rfl
theorem se_M_wordOf : Cond.selects y_M_wordOf.cls y_M_wordOf y_M_wordOf ∈ ax_tbl := nw_sel 39 (by decide +kernel) (by decide +kernel)
set_option maxRecDepth 100000 in
theorem cw_M_127 : ax_cw "CipherNotation$Machine" 127 y_M_joined (.code y_M_joined prog_4_method_13_code 5 (some .long)) 3 := ⟨nw_4 74 (by decide +kernel) rfl, nw_1 3 (by decide +kernel) rfl, nw_4 76 rfl rfl, by decide +kernel, by decide +kernel⟩
theorem sm_M_joined : Cond.static y_M_joined ∈ ax_tbl := nw_4 75 (by decide +kernel) rfl
def lp_M_value_34 (F : Nat) (g : Nat) (x2 : Int32) (x3 : Int32) (x4 : Int32) : Nat → Int32 → Int32 → ax_σ → Option (ax_σ)
  | 0, _, _, _ => none
  | n + 1, x5, x6, s =>
    bif ax_in x2 120 then
    if (s.1 g 18 (x2).toNatClampNeg) ≤ x6 then
      some s
    else
      bif ax_in x6 240 then
      if (s.1 g 5 (x6).toNatClampNeg) = (126 : Int32) then
        bif ax_in (x5 - (1 : Int32)) 13 then
        bif ax_in (x5 - (1 : Int32)) 13 then
        ax_let (ax_wL s 0 36 ((x5 - (1 : Int32))).toNatClampNeg (((s.2 0 36 ((x5 - (1 : Int32))).toNatClampNeg) ^^^ (-1 : Int64)) &&& (s.2 0 32 8))) (fun s28 =>
          lp_M_value_34 F g x2 x3 x4 n x5 (x6 + (1 : Int32)) s28)
        else none
        else none
      else
        if (s.1 g 5 (x6).toNatClampNeg) = (60 : Int32) then
          bif ax_in (x5 - (1 : Int32)) 13 then
          bif ax_in x6 240 then
          Option.bind (f_M_rotated g (s.2 0 36 ((x5 - (1 : Int32))).toNatClampNeg) (s.2 g 6 (x6).toNatClampNeg) s) (fun r21 =>
            bif ax_in (x5 - (1 : Int32)) 13 then
            ax_let (ax_wL s 0 36 ((x5 - (1 : Int32))).toNatClampNeg r21) (fun s24 =>
              lp_M_value_34 F g x2 x3 x4 n x5 (x6 + (1 : Int32)) s24)
            else none)
          else none
          else none
        else
          Option.bind (f_String_indexOf_I F 1 ((((s.1 g 5 (x6).toNatClampNeg)).toUInt32 % 65536).toInt32) s) (fun r4 =>
            if r4 < (0 : Int32) then
              Option.bind (f_C_exact g x6 x3 x4 s) (fun r6 =>
                Option.bind (f_M_wordOf g (s.1 g 5 (x6).toNatClampNeg) ((r6).toInt32) s) (fun r8 =>
                  bif ax_in x5 13 then
                  ax_let (ax_wL s 0 36 (x5).toNatClampNeg r8) (fun s11 =>
                    lp_M_value_34 F g x2 x3 x4 n (x5 + (1 : Int32)) (x6 + (1 : Int32)) s11)
                  else none))
            else
              bif ax_in ((x5 + (-1 : Int32)) - (1 : Int32)) 13 then
              bif ax_in (x5 + (-1 : Int32)) 13 then
              Option.bind (f_M_joined (s.1 g 5 (x6).toNatClampNeg) (s.2 0 36 (((x5 + (-1 : Int32)) - (1 : Int32))).toNatClampNeg) (s.2 0 36 ((x5 + (-1 : Int32))).toNatClampNeg)) (fun r14 =>
                bif ax_in ((x5 + (-1 : Int32)) - (1 : Int32)) 13 then
                ax_let (ax_wL s 0 36 (((x5 + (-1 : Int32)) - (1 : Int32))).toNatClampNeg (r14 &&& (s.2 0 32 8))) (fun s17 =>
                  lp_M_value_34 F g x2 x3 x4 n (x5 + (-1 : Int32)) (x6 + (1 : Int32)) s17)
                else none)
              else none
              else none)
      else none
    else none
set_option maxHeartbeats 4000000 in
set_option maxRecDepth 100000 in
theorem pl_M_value_34 {D : va_G} {cA : Nat → ClassId} {ad : Nat → Nat → Nat} {al : List (Nat × Nat)} {θ : ax_Θ} {l : Launch} {ρ : ax_ρ} {G : ax_G} {F g : Nat} {x2 : Int32} {x3 : Int32} {x4 : Int32} (h0 : ax_M0 al) (hg : ax_Mg al g) (hr : ax_md ρ g) (hB : ax_B D cA ad al θ l "CipherNotation$Machine" prog_4_method_11_code 8 4 G) : ∀ (n : Nat) {x5 : Int32} {x6 : Int32} {s : ax_σ} (out : ax_σ), lp_M_value_34 F g x2 x3 x4 n x5 x6 s = some out → (∀ (es : ax_σ), out = es → ax_R G 8 0 0 (226, [(0, .inr (0, 32))], [], ax_m (es) ρ)) → ax_R G 8 0 0 (34, [(0, .inr (0, 32)), (2, .inl (.int (x2))), (3, .inl (.int (x3))), (4, .inl (.int (x4))), (5, .inl (.int (x5))), (6, .inl (.int (x6)))], [], ax_m (s) ρ) := by
  have hK := hB.K
  have hal := hB.la
  intro n
  induction n with
  | zero =>
    intro x5 x6 s out h
    cases h
  | succ n ih =>
    intro x5 x6 s out h KE
    rw [lp_M_value_34] at h
    obtain ⟨b2, h⟩ := ax_gd h
    refine ax_bk hK (ax_fc (ax_v_ld (ax_r_iload d_M_value_34)) (ax_fc (ax_v_ld (ax_r_aload_n (i := 0) d_M_value_36 rfl)) (ax_fc (ax_w_gf (e := (some (g, 13))) hal d_M_value_37 fd_M_39) (ax_fc (ax_w_gf (e := none) hal d_M_value_40 fd_M_108) (ax_fc (ax_v_ld (ax_r_iload_n (i := 2) d_M_value_43 rfl)) (ax_fc (ax_w_iald hal d_M_value_44) ax_fn)))))) (y := (45, [(0, .inr (0, 32)), (2, .inl (.int (x2))), (3, .inl (.int (x3))), (4, .inl (.int (x4))), (5, .inl (.int (x5))), (6, .inl (.int (x6)))], [.inl (.int ((s.1 g 18 (x2).toNatClampNeg))), .inl (.int (x6))], ax_m (s) ρ)) rfl ⟨trivial, trivial, ⟨(h0 32 rfl), hr.2.2⟩, (hg 13 rfl), trivial, ⟨(hg 18 rfl), ax_inp b2⟩, trivial⟩ ?_
    refine ax_ic_ge (tgt := 226) hK d_M_value_45 (by decide) (fun c30 => ?_) (fun c30 => ?_)
    · replace h := ax_it c30 h
      cases h
      exact ax_Lsub [0] rfl (KE _ rfl)
    · replace h := ax_if c30 h
      obtain ⟨b3, h⟩ := ax_gd h
      refine ax_bk hK (ax_fc (ax_v_ld (ax_r_aload_n (i := 0) d_M_value_48 rfl)) (ax_fc (ax_w_gf (e := (some (g, 4))) hal d_M_value_49 fd_M_34) (ax_fc (ax_w_gf (e := none) hal d_M_value_52 fd_M_118) (ax_fc (ax_v_ld (ax_r_iload d_M_value_55)) (ax_fc (ax_w_iald hal d_M_value_57) (ax_fc (ax_v_so (ax_r_istore d_M_value_58)) (ax_fc (ax_v_ld (ax_r_iload d_M_value_60)) (ax_fc (ax_v_pu (ax_r_bipush (v := 126) d_M_value_62 (by decide))) ax_fn)))))))) (y := (64, [(7, .inl (.int ((s.1 g 5 (x6).toNatClampNeg)))), (0, .inr (0, 32)), (2, .inl (.int (x2))), (3, .inl (.int (x3))), (4, .inl (.int (x4))), (5, .inl (.int (x5))), (6, .inl (.int (x6)))], [.inl (.int ((126 : Int32))), .inl (.int ((s.1 g 5 (x6).toNatClampNeg)))], ax_m (s) ρ)) rfl ⟨trivial, ⟨(h0 32 rfl), hr.2.1⟩, (hg 4 rfl), trivial, ⟨(hg 5 rfl), ax_inp b3⟩, trivial, trivial, trivial, trivial⟩ ?_
      refine ax_ic_ne (tgt := 97) hK d_M_value_64 (by decide) (fun c29 => ?_) (fun c29 => ?_)
      · replace h := ax_if c29 h
        refine ax_bk hK (ax_fc (ax_v_ld (ax_r_iload d_M_value_97)) (ax_fc (ax_v_pu (ax_r_bipush (v := 60) d_M_value_99 (by decide))) ax_fn)) (y := (101, [(7, .inl (.int ((s.1 g 5 (x6).toNatClampNeg)))), (0, .inr (0, 32)), (2, .inl (.int (x2))), (3, .inl (.int (x3))), (4, .inl (.int (x4))), (5, .inl (.int (x5))), (6, .inl (.int (x6)))], [.inl (.int ((60 : Int32))), .inl (.int ((s.1 g 5 (x6).toNatClampNeg)))], ax_m (s) ρ)) rfl ⟨trivial, trivial, trivial⟩ ?_
        refine ax_ic_ne (tgt := 139) hK d_M_value_101 (by decide) (fun c25 => ?_) (fun c25 => ?_)
        · replace h := ax_if c25 h
          refine ax_bk hK (ax_fc (ax_w_ks (tx := "^&|+-*<") (a := θ.1 1) (fun A U H hZ => by rw [hB.ht] at hZ; exact hZ.2.2.2.2.1) d_M_value_139) (ax_fc (ax_v_ld (ax_r_iload d_M_value_141)) (ax_fc (ax_v_pu (ax_r_i2c d_M_value_143)) ax_fn))) (y := (144, [(7, .inl (.int ((s.1 g 5 (x6).toNatClampNeg)))), (0, .inr (0, 32)), (2, .inl (.int (x2))), (3, .inl (.int (x3))), (4, .inl (.int (x4))), (5, .inl (.int (x5))), (6, .inl (.int (x6)))], [.inl (.int ((((s.1 g 5 (x6).toNatClampNeg)).toUInt32 % 65536).toInt32)), .inl (.ref (θ.1 1))], ax_m (s) ρ)) rfl ⟨trivial, trivial, trivial, trivial⟩ ?_
          obtain ⟨r4, q5, h⟩ := ax_bd h
          refine ax_bK (k := 1) (rest := []) hB (t_String_indexOf_I (by decide) q5) cw_M_121 im_String_indexOf_I se_String_indexOf_I d_M_value_144 (by decide) rfl (by decide) (by decide) rfl rfl (Nat.le_of_ble_eq_true rfl) ?_
          change ax_R G 8 0 0 (147, [(7, .inl (.int ((s.1 g 5 (x6).toNatClampNeg)))), (0, .inr (0, 32)), (2, .inl (.int (x2))), (3, .inl (.int (x3))), (4, .inl (.int (x4))), (5, .inl (.int (x5))), (6, .inl (.int (x6)))], [.inl (.int (r4))], ax_m (s) ρ)
          refine ax_if_lt (tgt := 191) hK d_M_value_147 (by decide) (fun c18 => ?_) (fun c18 => ?_)
          · replace h := ax_it c18 h
            refine ax_bk hK (ax_fc (ax_v_ld (ax_r_aload_n (i := 0) d_M_value_191 rfl)) (ax_fc (ax_w_gf (e := none) hal d_M_value_192 fd_M_21) (ax_fc (ax_v_ld (ax_r_iload d_M_value_195)) (ax_fc (ax_v_ld (ax_r_aload_n (i := 0) d_M_value_197 rfl)) (ax_fc (ax_v_ld (ax_r_iload d_M_value_198)) (ax_fc (ax_v_ld (ax_r_aload_n (i := 0) d_M_value_200 rfl)) (ax_fc (ax_w_gf (e := (some (g, 4))) hal d_M_value_201 fd_M_34) (ax_fc (ax_v_ld (ax_r_iload d_M_value_204)) (ax_fc (ax_v_ld (ax_r_iload_n (i := 3) d_M_value_206 rfl)) (ax_fc (ax_v_ld (ax_r_iload d_M_value_207)) ax_fn)))))))))) (y := (209, [(7, .inl (.int ((s.1 g 5 (x6).toNatClampNeg)))), (0, .inr (0, 32)), (2, .inl (.int (x2))), (3, .inl (.int (x3))), (4, .inl (.int (x4))), (5, .inl (.int (x5))), (6, .inl (.int (x6)))], [.inl (.int (x4)), .inl (.int (x3)), .inl (.int (x6)), .inr (g, 4), .inl (.int ((s.1 g 5 (x6).toNatClampNeg))), .inr (0, 32), .inl (.int (x5)), .inr (0, 36)], ax_m (s) ρ)) rfl ⟨trivial, (h0 32 rfl), trivial, trivial, trivial, trivial, ⟨(h0 32 rfl), hr.2.1⟩, trivial, trivial, trivial, trivial⟩ ?_
            obtain ⟨r6, q7, h⟩ := ax_bd h
            refine ax_bV (rest := [.inl (.int ((s.1 g 5 (x6).toNatClampNeg))), .inr (0, 32), .inl (.int (x5)), .inr (0, 36)]) hB (t_C_exact hg q7) cw_M_131 im_C_exact se_C_exact d_M_value_209 (hg 4 rfl) rfl rfl (by decide) (by decide) rfl rfl (Nat.le_of_ble_eq_true rfl) ?_
            change ax_R G 8 0 0 (212, [(7, .inl (.int ((s.1 g 5 (x6).toNatClampNeg)))), (0, .inr (0, 32)), (2, .inl (.int (x2))), (3, .inl (.int (x3))), (4, .inl (.int (x4))), (5, .inl (.int (x5))), (6, .inl (.int (x6)))], [.inl (.long (r6)), .inl (.int ((s.1 g 5 (x6).toNatClampNeg))), .inr (0, 32), .inl (.int (x5)), .inr (0, 36)], ax_m (s) ρ)
            refine ax_bk hK (ax_fc (ax_v_pu (ax_r_l2i d_M_value_212)) ax_fn) (y := (213, [(7, .inl (.int ((s.1 g 5 (x6).toNatClampNeg)))), (0, .inr (0, 32)), (2, .inl (.int (x2))), (3, .inl (.int (x3))), (4, .inl (.int (x4))), (5, .inl (.int (x5))), (6, .inl (.int (x6)))], [.inl (.int ((r6).toInt32)), .inl (.int ((s.1 g 5 (x6).toNatClampNeg))), .inr (0, 32), .inl (.int (x5)), .inr (0, 36)], ax_m (s) ρ)) rfl ⟨trivial, trivial⟩ ?_
            obtain ⟨r8, q9, h⟩ := ax_bd h
            refine ax_bV (rest := [.inl (.int (x5)), .inr (0, 36)]) hB (t_M_wordOf h0 hg hr q9) cw_M_135 im_M_wordOf se_M_wordOf d_M_value_213 (h0 32 rfl) rfl rfl (by decide) (by decide) rfl rfl (Nat.le_of_ble_eq_true rfl) ?_
            change ax_R G 8 0 0 (216, [(7, .inl (.int ((s.1 g 5 (x6).toNatClampNeg)))), (0, .inr (0, 32)), (2, .inl (.int (x2))), (3, .inl (.int (x3))), (4, .inl (.int (x4))), (5, .inl (.int (x5))), (6, .inl (.int (x6)))], [.inl (.long (r8)), .inl (.int (x5)), .inr (0, 36)], ax_m (s) ρ)
            obtain ⟨b10, h⟩ := ax_gd h
            refine ax_bk hK (ax_fc (ax_w_last hal d_M_value_216) ax_fn) (y := (217, [(7, .inl (.int ((s.1 g 5 (x6).toNatClampNeg)))), (0, .inr (0, 32)), (2, .inl (.int (x2))), (3, .inl (.int (x3))), (4, .inl (.int (x4))), (5, .inl (.int (x5))), (6, .inl (.int (x6)))], [], ax_m (ax_wL s 0 36 (x5).toNatClampNeg r8) ρ)) rfl ⟨⟨(h0 36 rfl), ax_inp b10⟩, trivial⟩ ?_
            refine ax_lt (Q := fun ςς => ax_R G 8 0 0 (217, [(7, .inl (.int ((s.1 g 5 (x6).toNatClampNeg)))), (0, .inr (0, 32)), (2, .inl (.int (x2))), (3, .inl (.int (x3))), (4, .inl (.int (x4))), (5, .inl (.int (x5))), (6, .inl (.int (x6)))], [], ax_m (ςς) ρ)) h (fun s11 h => ?_)
            refine ax_bk hK (ax_fc (ax_v_ii (d := 1) d_M_value_217 (by decide)) (ax_fc (ax_v_ii (d := 1) d_M_value_220 (by decide)) (ax_fc (ax_v_go (tgt := 34) d_M_value_223 (by decide)) ax_fn))) (y := (34, [(6, .inl (.int ((x6 + (1 : Int32))))), (5, .inl (.int ((x5 + (1 : Int32))))), (7, .inl (.int ((s.1 g 5 (x6).toNatClampNeg)))), (0, .inr (0, 32)), (2, .inl (.int (x2))), (3, .inl (.int (x3))), (4, .inl (.int (x4)))], [], ax_m (s11) ρ)) rfl ⟨trivial, trivial, trivial, trivial⟩ ?_
            exact ax_Lsub [3, 4, 5, 6, 1, 0] rfl (ih _ h KE)
          · replace h := ax_if c18 h
            obtain ⟨b12, h⟩ := ax_gd h
            obtain ⟨b13, h⟩ := ax_gd h
            refine ax_bk hK (ax_fc (ax_v_ii (d := -1) d_M_value_150 (by decide)) (ax_fc (ax_v_ld (ax_r_aload_n (i := 0) d_M_value_153 rfl)) (ax_fc (ax_w_gf (e := none) hal d_M_value_154 fd_M_21) (ax_fc (ax_v_ld (ax_r_iload d_M_value_157)) (ax_fc (ax_v_pu (ax_r_iconst (v := 1) d_M_value_159 (by decide))) (ax_fc (ax_v_pu (ax_r_isub d_M_value_160)) (ax_fc (ax_v_ld (ax_r_iload d_M_value_161)) (ax_fc (ax_v_ld (ax_r_aload_n (i := 0) d_M_value_163 rfl)) (ax_fc (ax_w_gf (e := none) hal d_M_value_164 fd_M_21) (ax_fc (ax_v_ld (ax_r_iload d_M_value_167)) (ax_fc (ax_v_pu (ax_r_iconst (v := 1) d_M_value_169 (by decide))) (ax_fc (ax_v_pu (ax_r_isub d_M_value_170)) (ax_fc (ax_w_lald hal d_M_value_171) (ax_fc (ax_v_ld (ax_r_aload_n (i := 0) d_M_value_172 rfl)) (ax_fc (ax_w_gf (e := none) hal d_M_value_173 fd_M_21) (ax_fc (ax_v_ld (ax_r_iload d_M_value_176)) (ax_fc (ax_w_lald hal d_M_value_178) ax_fn))))))))))))))))) (y := (179, [(5, .inl (.int ((x5 + (-1 : Int32))))), (7, .inl (.int ((s.1 g 5 (x6).toNatClampNeg)))), (0, .inr (0, 32)), (2, .inl (.int (x2))), (3, .inl (.int (x3))), (4, .inl (.int (x4))), (6, .inl (.int (x6)))], [.inl (.long ((s.2 0 36 ((x5 + (-1 : Int32))).toNatClampNeg))), .inl (.long ((s.2 0 36 (((x5 + (-1 : Int32)) - (1 : Int32))).toNatClampNeg))), .inl (.int ((s.1 g 5 (x6).toNatClampNeg))), .inl (.int (((x5 + (-1 : Int32)) - (1 : Int32)))), .inr (0, 36)], ax_m (s) ρ)) rfl ⟨trivial, trivial, (h0 32 rfl), trivial, trivial, trivial, trivial, trivial, (h0 32 rfl), trivial, trivial, trivial, ⟨(h0 36 rfl), ax_inp b12⟩, trivial, (h0 32 rfl), trivial, ⟨(h0 36 rfl), ax_inp b13⟩, trivial⟩ ?_
            obtain ⟨r14, q15, h⟩ := ax_bd h
            refine ax_bS (rest := [.inl (.int (((x5 + (-1 : Int32)) - (1 : Int32)))), .inr (0, 36)]) hB (t_M_joined q15) cw_M_127 sm_M_joined d_M_value_179 (by decide) (by decide) rfl rfl (Nat.le_of_ble_eq_true rfl) ?_
            change ax_R G 8 0 0 (182, [(5, .inl (.int ((x5 + (-1 : Int32))))), (7, .inl (.int ((s.1 g 5 (x6).toNatClampNeg)))), (0, .inr (0, 32)), (2, .inl (.int (x2))), (3, .inl (.int (x3))), (4, .inl (.int (x4))), (6, .inl (.int (x6)))], [.inl (.long (r14)), .inl (.int (((x5 + (-1 : Int32)) - (1 : Int32)))), .inr (0, 36)], ax_m (s) ρ)
            obtain ⟨b16, h⟩ := ax_gd h
            refine ax_bk hK (ax_fc (ax_v_ld (ax_r_aload_n (i := 0) d_M_value_182 rfl)) (ax_fc (ax_w_gf (e := none) hal d_M_value_183 fd_M_50) (ax_fc (ax_v_pu (ax_r_land d_M_value_186)) (ax_fc (ax_w_last hal d_M_value_187) ax_fn)))) (y := (188, [(5, .inl (.int ((x5 + (-1 : Int32))))), (7, .inl (.int ((s.1 g 5 (x6).toNatClampNeg)))), (0, .inr (0, 32)), (2, .inl (.int (x2))), (3, .inl (.int (x3))), (4, .inl (.int (x4))), (6, .inl (.int (x6)))], [], ax_m (ax_wL s 0 36 (((x5 + (-1 : Int32)) - (1 : Int32))).toNatClampNeg (r14 &&& (s.2 0 32 8))) ρ)) rfl ⟨trivial, (h0 32 rfl), trivial, ⟨(h0 36 rfl), ax_inp b16⟩, trivial⟩ ?_
            refine ax_lt (Q := fun ςς => ax_R G 8 0 0 (188, [(5, .inl (.int ((x5 + (-1 : Int32))))), (7, .inl (.int ((s.1 g 5 (x6).toNatClampNeg)))), (0, .inr (0, 32)), (2, .inl (.int (x2))), (3, .inl (.int (x3))), (4, .inl (.int (x4))), (6, .inl (.int (x6)))], [], ax_m (ςς) ρ)) h (fun s17 h => ?_)
            refine ax_bk hK (ax_fc (ax_v_go (tgt := 220) d_M_value_188 (by decide)) ax_fn) (y := (220, [(5, .inl (.int ((x5 + (-1 : Int32))))), (7, .inl (.int ((s.1 g 5 (x6).toNatClampNeg)))), (0, .inr (0, 32)), (2, .inl (.int (x2))), (3, .inl (.int (x3))), (4, .inl (.int (x4))), (6, .inl (.int (x6)))], [], ax_m (s17) ρ)) rfl ⟨trivial, trivial⟩ ?_
            refine ax_bk hK (ax_fc (ax_v_ii (d := 1) d_M_value_220 (by decide)) (ax_fc (ax_v_go (tgt := 34) d_M_value_223 (by decide)) ax_fn)) (y := (34, [(6, .inl (.int ((x6 + (1 : Int32))))), (5, .inl (.int ((x5 + (-1 : Int32))))), (7, .inl (.int ((s.1 g 5 (x6).toNatClampNeg)))), (0, .inr (0, 32)), (2, .inl (.int (x2))), (3, .inl (.int (x3))), (4, .inl (.int (x4)))], [], ax_m (s17) ρ)) rfl ⟨trivial, trivial, trivial⟩ ?_
            exact ax_Lsub [3, 4, 5, 6, 1, 0] rfl (ih _ h KE)
        · replace h := ax_it c25 h
          obtain ⟨b19, h⟩ := ax_gd h
          obtain ⟨b20, h⟩ := ax_gd h
          refine ax_bk hK (ax_fc (ax_v_ld (ax_r_aload_n (i := 0) d_M_value_104 rfl)) (ax_fc (ax_w_gf (e := none) hal d_M_value_105 fd_M_21) (ax_fc (ax_v_ld (ax_r_iload d_M_value_108)) (ax_fc (ax_v_pu (ax_r_iconst (v := 1) d_M_value_110 (by decide))) (ax_fc (ax_v_pu (ax_r_isub d_M_value_111)) (ax_fc (ax_v_ld (ax_r_aload_n (i := 0) d_M_value_112 rfl)) (ax_fc (ax_v_ld (ax_r_aload_n (i := 0) d_M_value_113 rfl)) (ax_fc (ax_w_gf (e := none) hal d_M_value_114 fd_M_21) (ax_fc (ax_v_ld (ax_r_iload d_M_value_117)) (ax_fc (ax_v_pu (ax_r_iconst (v := 1) d_M_value_119 (by decide))) (ax_fc (ax_v_pu (ax_r_isub d_M_value_120)) (ax_fc (ax_w_lald hal d_M_value_121) (ax_fc (ax_v_ld (ax_r_aload_n (i := 0) d_M_value_122 rfl)) (ax_fc (ax_w_gf (e := (some (g, 4))) hal d_M_value_123 fd_M_34) (ax_fc (ax_w_gf (e := none) hal d_M_value_126 fd_M_111) (ax_fc (ax_v_ld (ax_r_iload d_M_value_129)) (ax_fc (ax_w_lald hal d_M_value_131) ax_fn))))))))))))))))) (y := (132, [(7, .inl (.int ((s.1 g 5 (x6).toNatClampNeg)))), (0, .inr (0, 32)), (2, .inl (.int (x2))), (3, .inl (.int (x3))), (4, .inl (.int (x4))), (5, .inl (.int (x5))), (6, .inl (.int (x6)))], [.inl (.long ((s.2 g 6 (x6).toNatClampNeg))), .inl (.long ((s.2 0 36 ((x5 - (1 : Int32))).toNatClampNeg))), .inr (0, 32), .inl (.int ((x5 - (1 : Int32)))), .inr (0, 36)], ax_m (s) ρ)) rfl ⟨trivial, (h0 32 rfl), trivial, trivial, trivial, trivial, trivial, (h0 32 rfl), trivial, trivial, trivial, ⟨(h0 36 rfl), ax_inp b19⟩, trivial, ⟨(h0 32 rfl), hr.2.1⟩, (hg 4 rfl), trivial, ⟨(hg 6 rfl), ax_inp b20⟩, trivial⟩ ?_
          obtain ⟨r21, q22, h⟩ := ax_bd h
          refine ax_bV (rest := [.inl (.int ((x5 - (1 : Int32)))), .inr (0, 36)]) hB (t_M_rotated h0 hg hr q22) cw_M_83 im_M_rotated se_M_rotated d_M_value_132 (h0 32 rfl) rfl rfl (by decide) (by decide) rfl rfl (Nat.le_of_ble_eq_true rfl) ?_
          change ax_R G 8 0 0 (135, [(7, .inl (.int ((s.1 g 5 (x6).toNatClampNeg)))), (0, .inr (0, 32)), (2, .inl (.int (x2))), (3, .inl (.int (x3))), (4, .inl (.int (x4))), (5, .inl (.int (x5))), (6, .inl (.int (x6)))], [.inl (.long (r21)), .inl (.int ((x5 - (1 : Int32)))), .inr (0, 36)], ax_m (s) ρ)
          obtain ⟨b23, h⟩ := ax_gd h
          refine ax_bk hK (ax_fc (ax_w_last hal d_M_value_135) ax_fn) (y := (136, [(7, .inl (.int ((s.1 g 5 (x6).toNatClampNeg)))), (0, .inr (0, 32)), (2, .inl (.int (x2))), (3, .inl (.int (x3))), (4, .inl (.int (x4))), (5, .inl (.int (x5))), (6, .inl (.int (x6)))], [], ax_m (ax_wL s 0 36 ((x5 - (1 : Int32))).toNatClampNeg r21) ρ)) rfl ⟨⟨(h0 36 rfl), ax_inp b23⟩, trivial⟩ ?_
          refine ax_lt (Q := fun ςς => ax_R G 8 0 0 (136, [(7, .inl (.int ((s.1 g 5 (x6).toNatClampNeg)))), (0, .inr (0, 32)), (2, .inl (.int (x2))), (3, .inl (.int (x3))), (4, .inl (.int (x4))), (5, .inl (.int (x5))), (6, .inl (.int (x6)))], [], ax_m (ςς) ρ)) h (fun s24 h => ?_)
          refine ax_bk hK (ax_fc (ax_v_go (tgt := 220) d_M_value_136 (by decide)) ax_fn) (y := (220, [(7, .inl (.int ((s.1 g 5 (x6).toNatClampNeg)))), (0, .inr (0, 32)), (2, .inl (.int (x2))), (3, .inl (.int (x3))), (4, .inl (.int (x4))), (5, .inl (.int (x5))), (6, .inl (.int (x6)))], [], ax_m (s24) ρ)) rfl ⟨trivial, trivial⟩ ?_
          refine ax_bk hK (ax_fc (ax_v_ii (d := 1) d_M_value_220 (by decide)) (ax_fc (ax_v_go (tgt := 34) d_M_value_223 (by decide)) ax_fn)) (y := (34, [(6, .inl (.int ((x6 + (1 : Int32))))), (7, .inl (.int ((s.1 g 5 (x6).toNatClampNeg)))), (0, .inr (0, 32)), (2, .inl (.int (x2))), (3, .inl (.int (x3))), (4, .inl (.int (x4))), (5, .inl (.int (x5)))], [], ax_m (s24) ρ)) rfl ⟨trivial, trivial, trivial⟩ ?_
          exact ax_Lsub [2, 3, 4, 5, 6, 0] rfl (ih _ h KE)
      · replace h := ax_it c29 h
        obtain ⟨b26, h⟩ := ax_gd h
        obtain ⟨b27, h⟩ := ax_gd h
        refine ax_bk hK (ax_fc (ax_v_ld (ax_r_aload_n (i := 0) d_M_value_67 rfl)) (ax_fc (ax_w_gf (e := none) hal d_M_value_68 fd_M_21) (ax_fc (ax_v_ld (ax_r_iload d_M_value_71)) (ax_fc (ax_v_pu (ax_r_iconst (v := 1) d_M_value_73 (by decide))) (ax_fc (ax_v_pu (ax_r_isub d_M_value_74)) (ax_fc (ax_v_ld (ax_r_aload_n (i := 0) d_M_value_75 rfl)) (ax_fc (ax_w_gf (e := none) hal d_M_value_76 fd_M_21) (ax_fc (ax_v_ld (ax_r_iload d_M_value_79)) (ax_fc (ax_v_pu (ax_r_iconst (v := 1) d_M_value_81 (by decide))) (ax_fc (ax_v_pu (ax_r_isub d_M_value_82)) (ax_fc (ax_w_lald hal d_M_value_83) (ax_fc (ax_v_ldc2 (v := -1) d_M_value_84 (nw_3 133 (by decide +kernel) rfl)) (ax_fc (ax_v_pu (ax_r_lxor d_M_value_87)) (ax_fc (ax_v_ld (ax_r_aload_n (i := 0) d_M_value_88 rfl)) (ax_fc (ax_w_gf (e := none) hal d_M_value_89 fd_M_50) (ax_fc (ax_v_pu (ax_r_land d_M_value_92)) (ax_fc (ax_w_last hal d_M_value_93) ax_fn))))))))))))))))) (y := (94, [(7, .inl (.int ((s.1 g 5 (x6).toNatClampNeg)))), (0, .inr (0, 32)), (2, .inl (.int (x2))), (3, .inl (.int (x3))), (4, .inl (.int (x4))), (5, .inl (.int (x5))), (6, .inl (.int (x6)))], [], ax_m (ax_wL s 0 36 ((x5 - (1 : Int32))).toNatClampNeg (((s.2 0 36 ((x5 - (1 : Int32))).toNatClampNeg) ^^^ (-1 : Int64)) &&& (s.2 0 32 8))) ρ)) rfl ⟨trivial, (h0 32 rfl), trivial, trivial, trivial, trivial, (h0 32 rfl), trivial, trivial, trivial, ⟨(h0 36 rfl), ax_inp b26⟩, trivial, trivial, trivial, (h0 32 rfl), trivial, ⟨(h0 36 rfl), ax_inp b27⟩, trivial⟩ ?_
        refine ax_lt (Q := fun ςς => ax_R G 8 0 0 (94, [(7, .inl (.int ((s.1 g 5 (x6).toNatClampNeg)))), (0, .inr (0, 32)), (2, .inl (.int (x2))), (3, .inl (.int (x3))), (4, .inl (.int (x4))), (5, .inl (.int (x5))), (6, .inl (.int (x6)))], [], ax_m (ςς) ρ)) h (fun s28 h => ?_)
        refine ax_bk hK (ax_fc (ax_v_go (tgt := 220) d_M_value_94 (by decide)) ax_fn) (y := (220, [(7, .inl (.int ((s.1 g 5 (x6).toNatClampNeg)))), (0, .inr (0, 32)), (2, .inl (.int (x2))), (3, .inl (.int (x3))), (4, .inl (.int (x4))), (5, .inl (.int (x5))), (6, .inl (.int (x6)))], [], ax_m (s28) ρ)) rfl ⟨trivial, trivial⟩ ?_
        refine ax_bk hK (ax_fc (ax_v_ii (d := 1) d_M_value_220 (by decide)) (ax_fc (ax_v_go (tgt := 34) d_M_value_223 (by decide)) ax_fn)) (y := (34, [(6, .inl (.int ((x6 + (1 : Int32))))), (7, .inl (.int ((s.1 g 5 (x6).toNatClampNeg)))), (0, .inr (0, 32)), (2, .inl (.int (x2))), (3, .inl (.int (x3))), (4, .inl (.int (x4))), (5, .inl (.int (x5)))], [], ax_m (s28) ρ)) rfl ⟨trivial, trivial, trivial⟩ ?_
        exact ax_Lsub [2, 3, 4, 5, 6, 0] rfl (ih _ h KE)
def f_M_value (F : Nat) (g : Nat) (a1 : Int32) (s : ax_σ) : Option (Int64 × ax_σ) :=
  bif ax_in (a1 / (256 : Int32)) 120 then
  Option.bind (lp_M_value_34 F g (a1 / (256 : Int32)) ((a1 / (16 : Int32)) - (a1 / (16 : Int32)) / (16 : Int32) * (16 : Int32)) (a1 - a1 / (16 : Int32) * (16 : Int32)) F (0 : Int32) (s.1 g 17 ((a1 / (256 : Int32))).toNatClampNeg) s) (fun s31 =>
    bif ax_in (0 : Int32) 13 then
    some (((s31.2 0 36 ((0 : Int32)).toNatClampNeg), s31))
    else none)
  else none
set_option maxHeartbeats 4000000 in
set_option maxRecDepth 100000 in
theorem t_M_value {l : Launch} {D : va_G} {cA : Nat → ClassId} {ad : Nat → Nat → Nat} {al : List (Nat × Nat)} {θ : ax_Θ} {ρ : ax_ρ} {F : Nat} {g : Nat} (h0 : ax_M0 al) (hg : ax_Mg al g) (hr : ax_md ρ g) {a1 : Int32} {s : ax_σ} {r0 : Int64} {s0 : ax_σ} (h : f_M_value F g a1 s = some (r0, s0)) : ax_T l D cA ad al θ y_M_value (.code y_M_value prog_4_method_11_code 8 (some .long)) 4 [.inr (0, 32), .inl (.int (a1))] (ax_m s ρ) (some (.inl (.long r0))) (ax_m s0 ρ) := by
  refine ax_T_of (own := "CipherNotation$Machine") (by decide) rfl (Nat.le_of_ble_eq_true rfl) [(0, .inr (0, 32)), (1, .inl (.int (a1)))] rfl ?_
  intro G hA
  have hB := hA.B
  have hK := hB.K
  have hal := hB.la
  unfold f_M_value at h
  obtain ⟨b1, h⟩ := ax_gd h
  refine ax_bk hK (ax_fc (ax_v_ld (ax_r_iload_n (i := 1) d_M_value_0 rfl)) (ax_fc (ax_v_pu (ax_r_sipush (v := 256) d_M_value_1 (by decide))) (ax_fc (ax_v_idiv d_M_value_4) (ax_fc (ax_v_so (ax_r_istore_n (i := 2) d_M_value_5 rfl)) (ax_fc (ax_v_ld (ax_r_iload_n (i := 1) d_M_value_6 rfl)) (ax_fc (ax_v_pu (ax_r_bipush (v := 16) d_M_value_7 (by decide))) (ax_fc (ax_v_idiv d_M_value_9) (ax_fc (ax_v_pu (ax_r_bipush (v := 16) d_M_value_10 (by decide))) (ax_fc (ax_v_irem d_M_value_12) (ax_fc (ax_v_so (ax_r_istore_n (i := 3) d_M_value_13 rfl)) (ax_fc (ax_v_ld (ax_r_iload_n (i := 1) d_M_value_14 rfl)) (ax_fc (ax_v_pu (ax_r_bipush (v := 16) d_M_value_15 (by decide))) (ax_fc (ax_v_irem d_M_value_17) (ax_fc (ax_v_so (ax_r_istore d_M_value_18)) (ax_fc (ax_v_pu (ax_r_iconst (v := 0) d_M_value_20 (by decide))) (ax_fc (ax_v_so (ax_r_istore d_M_value_21)) (ax_fc (ax_v_ld (ax_r_aload_n (i := 0) d_M_value_23 rfl)) (ax_fc (ax_w_gf (e := (some (g, 13))) hal d_M_value_24 fd_M_39) (ax_fc (ax_w_gf (e := none) hal d_M_value_27 fd_M_105) (ax_fc (ax_v_ld (ax_r_iload_n (i := 2) d_M_value_30 rfl)) (ax_fc (ax_w_iald hal d_M_value_31) (ax_fc (ax_v_so (ax_r_istore d_M_value_32)) ax_fn)))))))))))))))))))))) (y := (34, [(6, .inl (.int ((s.1 g 17 ((a1 / (256 : Int32))).toNatClampNeg)))), (5, .inl (.int ((0 : Int32)))), (4, .inl (.int ((a1 - a1 / (16 : Int32) * (16 : Int32))))), (3, .inl (.int (((a1 / (16 : Int32)) - (a1 / (16 : Int32)) / (16 : Int32) * (16 : Int32))))), (2, .inl (.int ((a1 / (256 : Int32))))), (0, .inr (0, 32)), (1, .inl (.int (a1)))], [], ax_m (s) ρ)) rfl ⟨trivial, trivial, (by decide), trivial, trivial, trivial, (by decide), trivial, (by decide), trivial, trivial, trivial, (by decide), trivial, trivial, trivial, trivial, ⟨(h0 32 rfl), hr.2.2⟩, (hg 13 rfl), trivial, ⟨(hg 17 rfl), ax_inp b1⟩, trivial, trivial⟩ ?_
  obtain ⟨w33, hw33, h⟩ := ax_bd h
  refine ax_Lsub [5, 4, 3, 2, 1, 0] rfl (pl_M_value_34 h0 hg hr hB F _ hw33 ?_)
  intro s31 e9
  subst w33
  try dsimp only at h
  change ax_R G 8 0 0 (226, [(0, .inr (0, 32))], [], ax_m (s31) ρ)
  obtain ⟨b32, h⟩ := ax_gd h
  refine ax_bk hK (ax_fc (ax_v_ld (ax_r_aload_n (i := 0) d_M_value_226 rfl)) (ax_fc (ax_w_gf (e := none) hal d_M_value_227 fd_M_21) (ax_fc (ax_v_pu (ax_r_iconst (v := 0) d_M_value_230 (by decide))) (ax_fc (ax_w_lald hal d_M_value_231) ax_fn)))) (y := (232, [(0, .inr (0, 32))], [.inl (.long ((s31.2 0 36 ((0 : Int32)).toNatClampNeg)))], ax_m (s31) ρ)) rfl ⟨trivial, (h0 32 rfl), trivial, ⟨(h0 36 rfl), ax_inp b32⟩, trivial⟩ ?_
  cases h
  exact ax_lret hA d_M_value_232
def y_M_makeSubkeys : MethodName := ⟨"CipherNotation$Machine", "makeSubkeys", "()V"⟩
theorem d_M_makeSubkeys_0 : decode prog_4_method_3_code 0 = .ok (.iconst 0, 1) := by decide +kernel
theorem d_M_makeSubkeys_1 : decode prog_4_method_3_code 1 = .ok (.istore_n 1, 1) := by decide +kernel
theorem d_M_makeSubkeys_2 : decode prog_4_method_3_code 2 = .ok (.iload_n 1, 1) := by decide +kernel
theorem d_M_makeSubkeys_3 : decode prog_4_method_3_code 3 = .ok (.aload_n 0, 1) := by decide +kernel
theorem d_M_makeSubkeys_4 : decode prog_4_method_3_code 4 = .ok (.getfield (24), 3) := by decide +kernel
theorem d_M_makeSubkeys_7 : decode prog_4_method_3_code 7 = .ok (.getfield (40), 3) := by decide +kernel
theorem d_M_makeSubkeys_10 : decode prog_4_method_3_code 10 = .ok (.iconst 4, 1) := by decide +kernel
theorem d_M_makeSubkeys_11 : decode prog_4_method_3_code 11 = .ok (.iaload, 1) := by decide +kernel
theorem d_M_makeSubkeys_12 : decode prog_4_method_3_code 12 = .ok (.if_icmp .ge (28), 3) := by decide +kernel
theorem d_M_makeSubkeys_15 : decode prog_4_method_3_code 15 = .ok (.aload_n 0, 1) := by decide +kernel
theorem d_M_makeSubkeys_16 : decode prog_4_method_3_code 16 = .ok (.getfield (18), 3) := by decide +kernel
theorem d_M_makeSubkeys_19 : decode prog_4_method_3_code 19 = .ok (.iload_n 1, 1) := by decide +kernel
theorem d_M_makeSubkeys_20 : decode prog_4_method_3_code 20 = .ok (.aload_n 0, 1) := by decide +kernel
theorem d_M_makeSubkeys_21 : decode prog_4_method_3_code 21 = .ok (.aload_n 0, 1) := by decide +kernel
theorem d_M_makeSubkeys_22 : decode prog_4_method_3_code 22 = .ok (.getfield (24), 3) := by decide +kernel
theorem d_M_makeSubkeys_25 : decode prog_4_method_3_code 25 = .ok (.getfield (54), 3) := by decide +kernel
theorem d_M_makeSubkeys_28 : decode prog_4_method_3_code 28 = .ok (.iload_n 1, 1) := by decide +kernel
theorem d_M_makeSubkeys_29 : decode prog_4_method_3_code 29 = .ok (.iaload, 1) := by decide +kernel
theorem d_M_makeSubkeys_30 : decode prog_4_method_3_code 30 = .ok (.invokevirtual (57), 3) := by decide +kernel
theorem d_M_makeSubkeys_33 : decode prog_4_method_3_code 33 = .ok (.lastore, 1) := by decide +kernel
theorem d_M_makeSubkeys_34 : decode prog_4_method_3_code 34 = .ok (.iinc 1 (1), 3) := by decide +kernel
theorem d_M_makeSubkeys_37 : decode prog_4_method_3_code 37 = .ok (.goto (-35), 3) := by decide +kernel
theorem d_M_makeSubkeys_40 : decode prog_4_method_3_code 40 = .ok (.return_, 1) := by decide +kernel
theorem fd_M_24 : ax_fd "CipherNotation$Machine" 24 2 4 := ⟨nC2, nT2, 9, nY2, rfl, nW2, by decide, nw_1 96 (by decide +kernel) rfl, nO2, nA2⟩
theorem fd_M_40 : ax_fd "CipherNotation$Machine" 40 3 0 := ⟨nC3, nT3, 9, nY3, rfl, nW3, by decide, nw_1 219 (by decide +kernel) rfl, nO3, nA3⟩
theorem fd_M_54 : ax_fd "CipherNotation$Machine" 54 3 5 := ⟨nC3, nT3, 9, nY3, rfl, nW3, by decide, nw_1 236 (by decide +kernel) rfl, nO3, nA3⟩
set_option maxRecDepth 100000 in
theorem cw_M_57 : ax_cw "CipherNotation$Machine" 57 y_M_value (.code y_M_value prog_4_method_11_code 8 (some .long)) 1 := ⟨nw_4 64 (by decide +kernel) rfl, nw_1 3 (by decide +kernel) rfl, nw_4 67 rfl rfl, by decide +kernel, by decide +kernel⟩
theorem im_M_value : Cond.instanceMethod y_M_value ∈ ax_tbl := nw_4 66 (by decide +kernel) rfl
theorem se_M_value : Cond.selects y_M_value.cls y_M_value y_M_value ∈ ax_tbl := nw_sel 37 (by decide +kernel) (by decide +kernel)
def lp_M_makeSubkeys_2 (F : Nat) (g : Nat) : Nat → Int32 → ax_σ → Option (ax_σ)
  | 0, _, _ => none
  | n + 1, x1, s =>
    bif ax_in (4 : Int32) 8 then
    if (s.1 g 1 ((4 : Int32)).toNatClampNeg) ≤ x1 then
      some s
    else
      bif ax_in x1 400 then
      Option.bind (f_M_value F g (s.1 g 20 (x1).toNatClampNeg) s) (fun (r3, s4) =>
        bif ax_in x1 32 then
        ax_let (ax_wL s4 0 35 (x1).toNatClampNeg r3) (fun s7 =>
          lp_M_makeSubkeys_2 F g n (x1 + (1 : Int32)) s7)
        else none)
      else none
    else none
set_option maxHeartbeats 4000000 in
set_option maxRecDepth 100000 in
theorem pl_M_makeSubkeys_2 {D : va_G} {cA : Nat → ClassId} {ad : Nat → Nat → Nat} {al : List (Nat × Nat)} {θ : ax_Θ} {l : Launch} {ρ : ax_ρ} {G : ax_G} {F g : Nat}  (h0 : ax_M0 al) (hg : ax_Mg al g) (hr : ax_md ρ g) (hB : ax_B D cA ad al θ l "CipherNotation$Machine" prog_4_method_3_code 2 5 G) : ∀ (n : Nat) {x1 : Int32} {s : ax_σ} (out : ax_σ), lp_M_makeSubkeys_2 F g n x1 s = some out → (∀ (es : ax_σ), out = es → ax_R G 2 0 0 (40, [], [], ax_m (es) ρ)) → ax_R G 2 0 0 (2, [(0, .inr (0, 32)), (1, .inl (.int (x1)))], [], ax_m (s) ρ) := by
  have hK := hB.K
  have hal := hB.la
  intro n
  induction n with
  | zero =>
    intro x1 s out h
    cases h
  | succ n ih =>
    intro x1 s out h KE
    rw [lp_M_makeSubkeys_2] at h
    obtain ⟨b1, h⟩ := ax_gd h
    refine ax_bk hK (ax_fc (ax_v_ld (ax_r_iload_n (i := 1) d_M_makeSubkeys_2 rfl)) (ax_fc (ax_v_ld (ax_r_aload_n (i := 0) d_M_makeSubkeys_3 rfl)) (ax_fc (ax_w_gf (e := (some (g, 0))) hal d_M_makeSubkeys_4 fd_M_24) (ax_fc (ax_w_gf (e := none) hal d_M_makeSubkeys_7 fd_M_40) (ax_fc (ax_v_pu (ax_r_iconst (v := 4) d_M_makeSubkeys_10 (by decide))) (ax_fc (ax_w_iald hal d_M_makeSubkeys_11) ax_fn)))))) (y := (12, [(0, .inr (0, 32)), (1, .inl (.int (x1)))], [.inl (.int ((s.1 g 1 ((4 : Int32)).toNatClampNeg))), .inl (.int (x1))], ax_m (s) ρ)) rfl ⟨trivial, trivial, ⟨(h0 32 rfl), hr.1⟩, (hg 0 rfl), trivial, ⟨(hg 1 rfl), ax_inp b1⟩, trivial⟩ ?_
    refine ax_ic_ge (tgt := 40) hK d_M_makeSubkeys_12 (by decide) (fun c8 => ?_) (fun c8 => ?_)
    · replace h := ax_it c8 h
      cases h
      exact ax_Lsub [] rfl (KE _ rfl)
    · replace h := ax_if c8 h
      obtain ⟨b2, h⟩ := ax_gd h
      refine ax_bk hK (ax_fc (ax_v_ld (ax_r_aload_n (i := 0) d_M_makeSubkeys_15 rfl)) (ax_fc (ax_w_gf (e := none) hal d_M_makeSubkeys_16 fd_M_18) (ax_fc (ax_v_ld (ax_r_iload_n (i := 1) d_M_makeSubkeys_19 rfl)) (ax_fc (ax_v_ld (ax_r_aload_n (i := 0) d_M_makeSubkeys_20 rfl)) (ax_fc (ax_v_ld (ax_r_aload_n (i := 0) d_M_makeSubkeys_21 rfl)) (ax_fc (ax_w_gf (e := (some (g, 0))) hal d_M_makeSubkeys_22 fd_M_24) (ax_fc (ax_w_gf (e := none) hal d_M_makeSubkeys_25 fd_M_54) (ax_fc (ax_v_ld (ax_r_iload_n (i := 1) d_M_makeSubkeys_28 rfl)) (ax_fc (ax_w_iald hal d_M_makeSubkeys_29) ax_fn))))))))) (y := (30, [(0, .inr (0, 32)), (1, .inl (.int (x1)))], [.inl (.int ((s.1 g 20 (x1).toNatClampNeg))), .inr (0, 32), .inl (.int (x1)), .inr (0, 35)], ax_m (s) ρ)) rfl ⟨trivial, (h0 32 rfl), trivial, trivial, trivial, ⟨(h0 32 rfl), hr.1⟩, (hg 0 rfl), trivial, ⟨(hg 20 rfl), ax_inp b2⟩, trivial⟩ ?_
      obtain ⟨⟨r3, s4⟩, q5, h⟩ := ax_bd h
      dsimp only at h
      refine ax_bV (rest := [.inl (.int (x1)), .inr (0, 35)]) hB (t_M_value h0 hg hr q5) cw_M_57 im_M_value se_M_value d_M_makeSubkeys_30 (h0 32 rfl) rfl rfl (by decide) (by decide) rfl rfl (Nat.le_of_ble_eq_true rfl) ?_
      change ax_R G 2 0 0 (33, [(0, .inr (0, 32)), (1, .inl (.int (x1)))], [.inl (.long (r3)), .inl (.int (x1)), .inr (0, 35)], ax_m (s4) ρ)
      obtain ⟨b6, h⟩ := ax_gd h
      refine ax_bk hK (ax_fc (ax_w_last hal d_M_makeSubkeys_33) ax_fn) (y := (34, [(0, .inr (0, 32)), (1, .inl (.int (x1)))], [], ax_m (ax_wL s4 0 35 (x1).toNatClampNeg r3) ρ)) rfl ⟨⟨(h0 35 rfl), ax_inp b6⟩, trivial⟩ ?_
      refine ax_lt (Q := fun ςς => ax_R G 2 0 0 (34, [(0, .inr (0, 32)), (1, .inl (.int (x1)))], [], ax_m (ςς) ρ)) h (fun s7 h => ?_)
      refine ax_bk hK (ax_fc (ax_v_ii (d := 1) d_M_makeSubkeys_34 (by decide)) (ax_fc (ax_v_go (tgt := 2) d_M_makeSubkeys_37 (by decide)) ax_fn)) (y := (2, [(1, .inl (.int ((x1 + (1 : Int32))))), (0, .inr (0, 32))], [], ax_m (s7) ρ)) rfl ⟨trivial, trivial, trivial⟩ ?_
      exact ax_Lsub [1, 0] rfl (ih _ h KE)
def f_M_makeSubkeys (F : Nat) (g : Nat) (s : ax_σ) : Option (ax_σ) :=
  Option.bind (lp_M_makeSubkeys_2 F g F (0 : Int32) s) (fun s9 =>
    some (s9))
set_option maxHeartbeats 4000000 in
set_option maxRecDepth 100000 in
theorem t_M_makeSubkeys {l : Launch} {D : va_G} {cA : Nat → ClassId} {ad : Nat → Nat → Nat} {al : List (Nat × Nat)} {θ : ax_Θ} {ρ : ax_ρ} {F : Nat} {g : Nat} (h0 : ax_M0 al) (hg : ax_Mg al g) (hr : ax_md ρ g)  {s : ax_σ} {s0 : ax_σ} (h : f_M_makeSubkeys F g s = some s0) : ax_T l D cA ad al θ y_M_makeSubkeys (.code y_M_makeSubkeys prog_4_method_3_code 2 none) 5 [.inr (0, 32)] (ax_m s ρ) none (ax_m s0 ρ) := by
  refine ax_T_of (own := "CipherNotation$Machine") (by decide) rfl (Nat.le_of_ble_eq_true rfl) [(0, .inr (0, 32))] rfl ?_
  intro G hA
  have hB := hA.B
  have hK := hB.K
  have hal := hB.la
  unfold f_M_makeSubkeys at h
  refine ax_bk hK (ax_fc (ax_v_pu (ax_r_iconst (v := 0) d_M_makeSubkeys_0 (by decide))) (ax_fc (ax_v_so (ax_r_istore_n (i := 1) d_M_makeSubkeys_1 rfl)) ax_fn)) (y := (2, [(1, .inl (.int ((0 : Int32)))), (0, .inr (0, 32))], [], ax_m (s) ρ)) rfl ⟨trivial, trivial, trivial⟩ ?_
  obtain ⟨w10, hw10, h⟩ := ax_bd h
  refine ax_Lsub [1, 0] rfl (pl_M_makeSubkeys_2 h0 hg hr hB F _ hw10 ?_)
  intro s9 e9
  subst w10
  try dsimp only at h
  change ax_R G 2 0 0 (40, [], [], ax_m (s9) ρ)
  cases h
  exact ax_vret hA d_M_makeSubkeys_40
def y_M_change : MethodName := ⟨"CipherNotation$Machine", "change", "(IZ)V"⟩
theorem d_M_change_0 : decode prog_4_method_5_code 0 = .ok (.iload_n 1, 1) := by decide +kernel
theorem d_M_change_1 : decode prog_4_method_5_code 1 = .ok (.sipush (256), 3) := by decide +kernel
theorem d_M_change_4 : decode prog_4_method_5_code 4 = .ok (.idiv, 1) := by decide +kernel
theorem d_M_change_5 : decode prog_4_method_5_code 5 = .ok (.istore_n 3, 1) := by decide +kernel
theorem d_M_change_6 : decode prog_4_method_5_code 6 = .ok (.aload_n 0, 1) := by decide +kernel
theorem d_M_change_7 : decode prog_4_method_5_code 7 = .ok (.getfield (39), 3) := by decide +kernel
theorem d_M_change_10 : decode prog_4_method_5_code 10 = .ok (.getfield (68), 3) := by decide +kernel
theorem d_M_change_13 : decode prog_4_method_5_code 13 = .ok (.iload_n 3, 1) := by decide +kernel
theorem d_M_change_14 : decode prog_4_method_5_code 14 = .ok (.iaload, 1) := by decide +kernel
theorem d_M_change_15 : decode prog_4_method_5_code 15 = .ok (.istore (4), 2) := by decide +kernel
theorem d_M_change_17 : decode prog_4_method_5_code 17 = .ok (.aload_n 0, 1) := by decide +kernel
theorem d_M_change_18 : decode prog_4_method_5_code 18 = .ok (.getfield (39), 3) := by decide +kernel
theorem d_M_change_21 : decode prog_4_method_5_code 21 = .ok (.getfield (73), 3) := by decide +kernel
theorem d_M_change_24 : decode prog_4_method_5_code 24 = .ok (.iload_n 3, 1) := by decide +kernel
theorem d_M_change_25 : decode prog_4_method_5_code 25 = .ok (.iaload, 1) := by decide +kernel
theorem d_M_change_26 : decode prog_4_method_5_code 26 = .ok (.istore (5), 2) := by decide +kernel
theorem d_M_change_28 : decode prog_4_method_5_code 28 = .ok (.aload_n 0, 1) := by decide +kernel
theorem d_M_change_29 : decode prog_4_method_5_code 29 = .ok (.getfield (15), 3) := by decide +kernel
theorem d_M_change_32 : decode prog_4_method_5_code 32 = .ok (.iload (4), 2) := by decide +kernel
theorem d_M_change_34 : decode prog_4_method_5_code 34 = .ok (.laload, 1) := by decide +kernel
theorem d_M_change_35 : decode prog_4_method_5_code 35 = .ok (.lstore (6), 2) := by decide +kernel
theorem d_M_change_37 : decode prog_4_method_5_code 37 = .ok (.aload_n 0, 1) := by decide +kernel
theorem d_M_change_38 : decode prog_4_method_5_code 38 = .ok (.getfield (39), 3) := by decide +kernel
theorem d_M_change_41 : decode prog_4_method_5_code 41 = .ok (.getfield (76), 3) := by decide +kernel
theorem d_M_change_44 : decode prog_4_method_5_code 44 = .ok (.iload_n 3, 1) := by decide +kernel
theorem d_M_change_45 : decode prog_4_method_5_code 45 = .ok (.iaload, 1) := by decide +kernel
theorem d_M_change_46 : decode prog_4_method_5_code 46 = .ok (.lookupswitch (284) #[(35, 247), (42, 139), (43, 87), (45, 113), (58, 221), (60, 163), (94, 74), (119, 188)], 74) := by decide +kernel
theorem d_M_change_120 : decode prog_4_method_5_code 120 = .ok (.lload (6), 2) := by decide +kernel
theorem d_M_change_122 : decode prog_4_method_5_code 122 = .ok (.aload_n 0, 1) := by decide +kernel
theorem d_M_change_123 : decode prog_4_method_5_code 123 = .ok (.iload_n 1, 1) := by decide +kernel
theorem d_M_change_124 : decode prog_4_method_5_code 124 = .ok (.invokevirtual (57), 3) := by decide +kernel
theorem d_M_change_127 : decode prog_4_method_5_code 127 = .ok (.lxor, 1) := by decide +kernel
theorem d_M_change_128 : decode prog_4_method_5_code 128 = .ok (.lstore (6), 2) := by decide +kernel
theorem d_M_change_130 : decode prog_4_method_5_code 130 = .ok (.goto (224), 3) := by decide +kernel
theorem d_M_change_133 : decode prog_4_method_5_code 133 = .ok (.lload (6), 2) := by decide +kernel
theorem d_M_change_135 : decode prog_4_method_5_code 135 = .ok (.iload_n 2, 1) := by decide +kernel
theorem d_M_change_136 : decode prog_4_method_5_code 136 = .ok (.ifCond .eq (12), 3) := by decide +kernel
theorem d_M_change_139 : decode prog_4_method_5_code 139 = .ok (.aload_n 0, 1) := by decide +kernel
theorem d_M_change_140 : decode prog_4_method_5_code 140 = .ok (.iload_n 1, 1) := by decide +kernel
theorem d_M_change_141 : decode prog_4_method_5_code 141 = .ok (.invokevirtual (57), 3) := by decide +kernel
theorem d_M_change_144 : decode prog_4_method_5_code 144 = .ok (.lneg, 1) := by decide +kernel
theorem d_M_change_145 : decode prog_4_method_5_code 145 = .ok (.goto (8), 3) := by decide +kernel
theorem d_M_change_148 : decode prog_4_method_5_code 148 = .ok (.aload_n 0, 1) := by decide +kernel
theorem d_M_change_149 : decode prog_4_method_5_code 149 = .ok (.iload_n 1, 1) := by decide +kernel
theorem d_M_change_150 : decode prog_4_method_5_code 150 = .ok (.invokevirtual (57), 3) := by decide +kernel
theorem d_M_change_153 : decode prog_4_method_5_code 153 = .ok (.ladd, 1) := by decide +kernel
theorem d_M_change_154 : decode prog_4_method_5_code 154 = .ok (.lstore (6), 2) := by decide +kernel
theorem d_M_change_156 : decode prog_4_method_5_code 156 = .ok (.goto (198), 3) := by decide +kernel
theorem d_M_change_159 : decode prog_4_method_5_code 159 = .ok (.lload (6), 2) := by decide +kernel
theorem d_M_change_161 : decode prog_4_method_5_code 161 = .ok (.iload_n 2, 1) := by decide +kernel
theorem d_M_change_162 : decode prog_4_method_5_code 162 = .ok (.ifCond .eq (12), 3) := by decide +kernel
theorem d_M_change_165 : decode prog_4_method_5_code 165 = .ok (.aload_n 0, 1) := by decide +kernel
theorem d_M_change_166 : decode prog_4_method_5_code 166 = .ok (.iload_n 1, 1) := by decide +kernel
theorem d_M_change_167 : decode prog_4_method_5_code 167 = .ok (.invokevirtual (57), 3) := by decide +kernel
theorem d_M_change_170 : decode prog_4_method_5_code 170 = .ok (.lneg, 1) := by decide +kernel
theorem d_M_change_171 : decode prog_4_method_5_code 171 = .ok (.goto (8), 3) := by decide +kernel
theorem d_M_change_174 : decode prog_4_method_5_code 174 = .ok (.aload_n 0, 1) := by decide +kernel
theorem d_M_change_175 : decode prog_4_method_5_code 175 = .ok (.iload_n 1, 1) := by decide +kernel
theorem d_M_change_176 : decode prog_4_method_5_code 176 = .ok (.invokevirtual (57), 3) := by decide +kernel
theorem d_M_change_179 : decode prog_4_method_5_code 179 = .ok (.lsub, 1) := by decide +kernel
theorem d_M_change_180 : decode prog_4_method_5_code 180 = .ok (.lstore (6), 2) := by decide +kernel
theorem d_M_change_182 : decode prog_4_method_5_code 182 = .ok (.goto (172), 3) := by decide +kernel
theorem d_M_change_185 : decode prog_4_method_5_code 185 = .ok (.lload (6), 2) := by decide +kernel
theorem d_M_change_187 : decode prog_4_method_5_code 187 = .ok (.iload_n 2, 1) := by decide +kernel
theorem d_M_change_188 : decode prog_4_method_5_code 188 = .ok (.ifCond .eq (12), 3) := by decide +kernel
theorem d_M_change_191 : decode prog_4_method_5_code 191 = .ok (.iload (5), 2) := by decide +kernel
theorem d_M_change_193 : decode prog_4_method_5_code 193 = .ok (.i2l, 1) := by decide +kernel
theorem d_M_change_194 : decode prog_4_method_5_code 194 = .ok (.invokestatic (79), 3) := by decide +kernel
theorem d_M_change_197 : decode prog_4_method_5_code 197 = .ok (.goto (6), 3) := by decide +kernel
theorem d_M_change_200 : decode prog_4_method_5_code 200 = .ok (.iload (5), 2) := by decide +kernel
theorem d_M_change_202 : decode prog_4_method_5_code 202 = .ok (.i2l, 1) := by decide +kernel
theorem d_M_change_203 : decode prog_4_method_5_code 203 = .ok (.lmul, 1) := by decide +kernel
theorem d_M_change_204 : decode prog_4_method_5_code 204 = .ok (.lstore (6), 2) := by decide +kernel
theorem d_M_change_206 : decode prog_4_method_5_code 206 = .ok (.goto (148), 3) := by decide +kernel
theorem d_M_change_209 : decode prog_4_method_5_code 209 = .ok (.aload_n 0, 1) := by decide +kernel
theorem d_M_change_210 : decode prog_4_method_5_code 210 = .ok (.lload (6), 2) := by decide +kernel
theorem d_M_change_212 : decode prog_4_method_5_code 212 = .ok (.iload_n 2, 1) := by decide +kernel
theorem d_M_change_213 : decode prog_4_method_5_code 213 = .ok (.ifCond .eq (10), 3) := by decide +kernel
theorem d_M_change_216 : decode prog_4_method_5_code 216 = .ok (.iload (5), 2) := by decide +kernel
theorem d_M_change_218 : decode prog_4_method_5_code 218 = .ok (.ineg, 1) := by decide +kernel
theorem d_M_change_219 : decode prog_4_method_5_code 219 = .ok (.i2l, 1) := by decide +kernel
theorem d_M_change_220 : decode prog_4_method_5_code 220 = .ok (.goto (6), 3) := by decide +kernel
theorem d_M_change_223 : decode prog_4_method_5_code 223 = .ok (.iload (5), 2) := by decide +kernel
theorem d_M_change_225 : decode prog_4_method_5_code 225 = .ok (.i2l, 1) := by decide +kernel
theorem d_M_change_226 : decode prog_4_method_5_code 226 = .ok (.invokevirtual (83), 3) := by decide +kernel
theorem d_M_change_229 : decode prog_4_method_5_code 229 = .ok (.lstore (6), 2) := by decide +kernel
theorem d_M_change_231 : decode prog_4_method_5_code 231 = .ok (.goto (123), 3) := by decide +kernel
theorem d_M_change_234 : decode prog_4_method_5_code 234 = .ok (.aload_n 0, 1) := by decide +kernel
theorem d_M_change_235 : decode prog_4_method_5_code 235 = .ok (.lload (6), 2) := by decide +kernel
theorem d_M_change_237 : decode prog_4_method_5_code 237 = .ok (.iload_n 2, 1) := by decide +kernel
theorem d_M_change_238 : decode prog_4_method_5_code 238 = .ok (.ifCond .eq (14), 3) := by decide +kernel
theorem d_M_change_241 : decode prog_4_method_5_code 241 = .ok (.aload_n 0, 1) := by decide +kernel
theorem d_M_change_242 : decode prog_4_method_5_code 242 = .ok (.getfield (15), 3) := by decide +kernel
theorem d_M_change_245 : decode prog_4_method_5_code 245 = .ok (.iload (5), 2) := by decide +kernel
theorem d_M_change_247 : decode prog_4_method_5_code 247 = .ok (.laload, 1) := by decide +kernel
theorem d_M_change_248 : decode prog_4_method_5_code 248 = .ok (.lneg, 1) := by decide +kernel
theorem d_M_change_249 : decode prog_4_method_5_code 249 = .ok (.goto (10), 3) := by decide +kernel
theorem d_M_change_252 : decode prog_4_method_5_code 252 = .ok (.aload_n 0, 1) := by decide +kernel
theorem d_M_change_253 : decode prog_4_method_5_code 253 = .ok (.getfield (15), 3) := by decide +kernel
theorem d_M_change_256 : decode prog_4_method_5_code 256 = .ok (.iload (5), 2) := by decide +kernel
theorem d_M_change_258 : decode prog_4_method_5_code 258 = .ok (.laload, 1) := by decide +kernel
theorem d_M_change_259 : decode prog_4_method_5_code 259 = .ok (.invokevirtual (83), 3) := by decide +kernel
theorem d_M_change_262 : decode prog_4_method_5_code 262 = .ok (.lstore (6), 2) := by decide +kernel
theorem d_M_change_264 : decode prog_4_method_5_code 264 = .ok (.goto (90), 3) := by decide +kernel
theorem d_M_change_267 : decode prog_4_method_5_code 267 = .ok (.aload_n 0, 1) := by decide +kernel
theorem d_M_change_268 : decode prog_4_method_5_code 268 = .ok (.getfield (15), 3) := by decide +kernel
theorem d_M_change_271 : decode prog_4_method_5_code 271 = .ok (.iload (5), 2) := by decide +kernel
theorem d_M_change_273 : decode prog_4_method_5_code 273 = .ok (.laload, 1) := by decide +kernel
theorem d_M_change_274 : decode prog_4_method_5_code 274 = .ok (.lstore (6), 2) := by decide +kernel
theorem d_M_change_276 : decode prog_4_method_5_code 276 = .ok (.aload_n 0, 1) := by decide +kernel
theorem d_M_change_277 : decode prog_4_method_5_code 277 = .ok (.getfield (15), 3) := by decide +kernel
theorem d_M_change_280 : decode prog_4_method_5_code 280 = .ok (.iload (5), 2) := by decide +kernel
theorem d_M_change_282 : decode prog_4_method_5_code 282 = .ok (.aload_n 0, 1) := by decide +kernel
theorem d_M_change_283 : decode prog_4_method_5_code 283 = .ok (.getfield (15), 3) := by decide +kernel
theorem d_M_change_286 : decode prog_4_method_5_code 286 = .ok (.iload (4), 2) := by decide +kernel
theorem d_M_change_288 : decode prog_4_method_5_code 288 = .ok (.laload, 1) := by decide +kernel
theorem d_M_change_289 : decode prog_4_method_5_code 289 = .ok (.lastore, 1) := by decide +kernel
theorem d_M_change_290 : decode prog_4_method_5_code 290 = .ok (.goto (64), 3) := by decide +kernel
theorem d_M_change_293 : decode prog_4_method_5_code 293 = .ok (.aload_n 0, 1) := by decide +kernel
theorem d_M_change_294 : decode prog_4_method_5_code 294 = .ok (.lload (6), 2) := by decide +kernel
theorem d_M_change_296 : decode prog_4_method_5_code 296 = .ok (.iload_n 2, 1) := by decide +kernel
theorem d_M_change_297 : decode prog_4_method_5_code 297 = .ok (.ifCond .eq (13), 3) := by decide +kernel
theorem d_M_change_300 : decode prog_4_method_5_code 300 = .ok (.aload_n 0, 1) := by decide +kernel
theorem d_M_change_301 : decode prog_4_method_5_code 301 = .ok (.getfield (24), 3) := by decide +kernel
theorem d_M_change_304 : decode prog_4_method_5_code 304 = .ok (.getfield (87), 3) := by decide +kernel
theorem d_M_change_307 : decode prog_4_method_5_code 307 = .ok (.goto (10), 3) := by decide +kernel
theorem d_M_change_310 : decode prog_4_method_5_code 310 = .ok (.aload_n 0, 1) := by decide +kernel
theorem d_M_change_311 : decode prog_4_method_5_code 311 = .ok (.getfield (24), 3) := by decide +kernel
theorem d_M_change_314 : decode prog_4_method_5_code 314 = .ok (.getfield (90), 3) := by decide +kernel
theorem d_M_change_317 : decode prog_4_method_5_code 317 = .ok (.iload (5), 2) := by decide +kernel
theorem d_M_change_319 : decode prog_4_method_5_code 319 = .ok (.bipush (16), 2) := by decide +kernel
theorem d_M_change_321 : decode prog_4_method_5_code 321 = .ok (.imul, 1) := by decide +kernel
theorem d_M_change_322 : decode prog_4_method_5_code 322 = .ok (.invokevirtual (93), 3) := by decide +kernel
theorem d_M_change_325 : decode prog_4_method_5_code 325 = .ok (.lstore (6), 2) := by decide +kernel
theorem d_M_change_327 : decode prog_4_method_5_code 327 = .ok (.goto (27), 3) := by decide +kernel
theorem d_M_change_330 : decode prog_4_method_5_code 330 = .ok (.iload_n 2, 1) := by decide +kernel
theorem d_M_change_331 : decode prog_4_method_5_code 331 = .ok (.ifCond .eq (13), 3) := by decide +kernel
theorem d_M_change_334 : decode prog_4_method_5_code 334 = .ok (.aload_n 0, 1) := by decide +kernel
theorem d_M_change_335 : decode prog_4_method_5_code 335 = .ok (.lload (6), 2) := by decide +kernel
theorem d_M_change_337 : decode prog_4_method_5_code 337 = .ok (.iload_n 3, 1) := by decide +kernel
theorem d_M_change_338 : decode prog_4_method_5_code 338 = .ok (.invokevirtual (97), 3) := by decide +kernel
theorem d_M_change_341 : decode prog_4_method_5_code 341 = .ok (.goto (11), 3) := by decide +kernel
theorem d_M_change_344 : decode prog_4_method_5_code 344 = .ok (.aload_n 0, 1) := by decide +kernel
theorem d_M_change_345 : decode prog_4_method_5_code 345 = .ok (.lload (6), 2) := by decide +kernel
theorem d_M_change_347 : decode prog_4_method_5_code 347 = .ok (.iload_n 3, 1) := by decide +kernel
theorem d_M_change_348 : decode prog_4_method_5_code 348 = .ok (.iconst 1, 1) := by decide +kernel
theorem d_M_change_349 : decode prog_4_method_5_code 349 = .ok (.invokevirtual (101), 3) := by decide +kernel
theorem d_M_change_352 : decode prog_4_method_5_code 352 = .ok (.lstore (6), 2) := by decide +kernel
theorem d_M_change_354 : decode prog_4_method_5_code 354 = .ok (.aload_n 0, 1) := by decide +kernel
theorem d_M_change_355 : decode prog_4_method_5_code 355 = .ok (.getfield (15), 3) := by decide +kernel
theorem d_M_change_358 : decode prog_4_method_5_code 358 = .ok (.iload (4), 2) := by decide +kernel
theorem d_M_change_360 : decode prog_4_method_5_code 360 = .ok (.lload (6), 2) := by decide +kernel
theorem d_M_change_362 : decode prog_4_method_5_code 362 = .ok (.aload_n 0, 1) := by decide +kernel
theorem d_M_change_363 : decode prog_4_method_5_code 363 = .ok (.getfield (50), 3) := by decide +kernel
theorem d_M_change_366 : decode prog_4_method_5_code 366 = .ok (.land, 1) := by decide +kernel
theorem d_M_change_367 : decode prog_4_method_5_code 367 = .ok (.lastore, 1) := by decide +kernel
theorem d_M_change_368 : decode prog_4_method_5_code 368 = .ok (.return_, 1) := by decide +kernel
theorem fd_M_68 : ax_fd "CipherNotation$Machine" 68 1 1 := ⟨nC1, nT1, 7, nY1, rfl, nW1, by decide, nw_1 185 (by decide +kernel) rfl, nO1, nA1⟩
theorem fd_M_73 : ax_fd "CipherNotation$Machine" 73 1 2 := ⟨nC1, nT1, 7, nY1, rfl, nW1, by decide, nw_1 189 (by decide +kernel) rfl, nO1, nA1⟩
theorem fd_M_76 : ax_fd "CipherNotation$Machine" 76 1 0 := ⟨nC1, nT1, 7, nY1, rfl, nW1, by decide, nw_1 181 (by decide +kernel) rfl, nO1, nA1⟩
theorem fd_M_90 : ax_fd "CipherNotation$Machine" 90 3 1 := ⟨nC3, nT3, 9, nY3, rfl, nW3, by decide, nw_1 223 (by decide +kernel) rfl, nO3, nA3⟩
set_option maxRecDepth 100000 in
theorem cw_M_93 : ax_cw "CipherNotation$Machine" 93 y_M_replaced (.code y_M_replaced prog_4_method_7_code 9 (some .long)) 3 := ⟨nw_4 105 (by decide +kernel) rfl, nw_1 3 (by decide +kernel) rfl, nw_4 108 rfl rfl, by decide +kernel, by decide +kernel⟩
theorem im_M_replaced : Cond.instanceMethod y_M_replaced ∈ ax_tbl := nw_4 107 (by decide +kernel) rfl
theorem se_M_replaced : Cond.selects y_M_replaced.cls y_M_replaced y_M_replaced ∈ ax_tbl := nw_sel 41 (by decide +kernel) (by decide +kernel)
theorem fd_M_87 : ax_fd "CipherNotation$Machine" 87 3 2 := ⟨nC3, nT3, 9, nY3, rfl, nW3, by decide, nw_1 227 (by decide +kernel) rfl, nO3, nA3⟩
set_option maxRecDepth 100000 in
theorem cw_M_79 : ax_cw "CipherNotation$Machine" 79 y_M_inverse (.code y_M_inverse prog_4_method_10_code 5 (some .long)) 1 := ⟨nw_4 101 (by decide +kernel) rfl, nw_1 3 (by decide +kernel) rfl, nw_4 103 rfl rfl, by decide +kernel, by decide +kernel⟩
theorem sm_M_inverse : Cond.static y_M_inverse ∈ ax_tbl := nw_4 102 (by decide +kernel) rfl
set_option maxRecDepth 100000 in
theorem cw_M_97 : ax_cw "CipherNotation$Machine" 97 y_M_gathered (.code y_M_gathered prog_4_method_9_code 7 (some .long)) 2 := ⟨nw_4 109 (by decide +kernel) rfl, nw_1 3 (by decide +kernel) rfl, nw_4 112 rfl rfl, by decide +kernel, by decide +kernel⟩
theorem im_M_gathered : Cond.instanceMethod y_M_gathered ∈ ax_tbl := nw_4 111 (by decide +kernel) rfl
theorem se_M_gathered : Cond.selects y_M_gathered.cls y_M_gathered y_M_gathered ∈ ax_tbl := nw_sel 42 (by decide +kernel) (by decide +kernel)
def f_M_change (F : Nat) (g : Nat) (a1 : Int32) (a2 : Int32) (s : ax_σ) : Option (ax_σ) :=
  bif ax_in (a1 / (256 : Int32)) 120 then
  bif ax_in (a1 / (256 : Int32)) 120 then
  bif ax_in (s.1 g 15 ((a1 / (256 : Int32))).toNatClampNeg) 4 then
  bif ax_in (a1 / (256 : Int32)) 120 then
  Option.bind (
    if (s.1 g 14 ((a1 / (256 : Int32))).toNatClampNeg) = (35 : Int32) then
      if a2 = (0 : Int32) then
        Option.bind (f_M_replaced_e F g (s.2 0 34 ((s.1 g 15 ((a1 / (256 : Int32))).toNatClampNeg)).toNatClampNeg) ((s.1 g 16 ((a1 / (256 : Int32))).toNatClampNeg) * (16 : Int32)) s) (fun r5 =>
          some (r5, s))
      else
        Option.bind (f_M_replaced_b F g (s.2 0 34 ((s.1 g 15 ((a1 / (256 : Int32))).toNatClampNeg)).toNatClampNeg) ((s.1 g 16 ((a1 / (256 : Int32))).toNatClampNeg) * (16 : Int32)) s) (fun r7 =>
          some (r7, s))
    else
    if (s.1 g 14 ((a1 / (256 : Int32))).toNatClampNeg) = (42 : Int32) then
      if a2 = (0 : Int32) then
        some (((s.2 0 34 ((s.1 g 15 ((a1 / (256 : Int32))).toNatClampNeg)).toNatClampNeg) * ((s.1 g 16 ((a1 / (256 : Int32))).toNatClampNeg)).toInt64), s)
      else
        Option.bind (f_M_inverse F (((s.1 g 16 ((a1 / (256 : Int32))).toNatClampNeg)).toInt64) s) (fun r10 =>
          some (((s.2 0 34 ((s.1 g 15 ((a1 / (256 : Int32))).toNatClampNeg)).toNatClampNeg) * r10), s))
    else
    if (s.1 g 14 ((a1 / (256 : Int32))).toNatClampNeg) = (43 : Int32) then
      if a2 = (0 : Int32) then
        Option.bind (f_M_value F g a1 s) (fun (r13, s14) =>
          some (((s.2 0 34 ((s.1 g 15 ((a1 / (256 : Int32))).toNatClampNeg)).toNatClampNeg) + r13), s14))
      else
        Option.bind (f_M_value F g a1 s) (fun (r16, s17) =>
          some (((s.2 0 34 ((s.1 g 15 ((a1 / (256 : Int32))).toNatClampNeg)).toNatClampNeg) + (-r16)), s17))
    else
    if (s.1 g 14 ((a1 / (256 : Int32))).toNatClampNeg) = (45 : Int32) then
      if a2 = (0 : Int32) then
        Option.bind (f_M_value F g a1 s) (fun (r20, s21) =>
          some (((s.2 0 34 ((s.1 g 15 ((a1 / (256 : Int32))).toNatClampNeg)).toNatClampNeg) - r20), s21))
      else
        Option.bind (f_M_value F g a1 s) (fun (r23, s24) =>
          some (((s.2 0 34 ((s.1 g 15 ((a1 / (256 : Int32))).toNatClampNeg)).toNatClampNeg) - (-r23)), s24))
    else
    if (s.1 g 14 ((a1 / (256 : Int32))).toNatClampNeg) = (58 : Int32) then
      bif ax_in (s.1 g 16 ((a1 / (256 : Int32))).toNatClampNeg) 4 then
      bif ax_in (s.1 g 15 ((a1 / (256 : Int32))).toNatClampNeg) 4 then
      bif ax_in (s.1 g 16 ((a1 / (256 : Int32))).toNatClampNeg) 4 then
      ax_let (ax_wL s 0 34 ((s.1 g 16 ((a1 / (256 : Int32))).toNatClampNeg)).toNatClampNeg (s.2 0 34 ((s.1 g 15 ((a1 / (256 : Int32))).toNatClampNeg)).toNatClampNeg)) (fun s30 =>
        some ((s.2 0 34 ((s.1 g 16 ((a1 / (256 : Int32))).toNatClampNeg)).toNatClampNeg), s30))
      else none
      else none
      else none
    else
    if (s.1 g 14 ((a1 / (256 : Int32))).toNatClampNeg) = (60 : Int32) then
      Option.bind (
        if a2 = (0 : Int32) then
          some (((s.1 g 16 ((a1 / (256 : Int32))).toNatClampNeg)).toInt64)
        else
          some (((-(s.1 g 16 ((a1 / (256 : Int32))).toNatClampNeg))).toInt64)) (fun v32 =>
        Option.bind (f_M_rotated g (s.2 0 34 ((s.1 g 15 ((a1 / (256 : Int32))).toNatClampNeg)).toNatClampNeg) v32 s) (fun r33 =>
          some (r33, s)))
    else
    if (s.1 g 14 ((a1 / (256 : Int32))).toNatClampNeg) = (94 : Int32) then
      Option.bind (f_M_value F g a1 s) (fun (r35, s36) =>
        some (((s.2 0 34 ((s.1 g 15 ((a1 / (256 : Int32))).toNatClampNeg)).toNatClampNeg) ^^^ r35), s36))
    else
    if (s.1 g 14 ((a1 / (256 : Int32))).toNatClampNeg) = (119 : Int32) then
      Option.bind (
        if a2 = (0 : Int32) then
          bif ax_in (s.1 g 16 ((a1 / (256 : Int32))).toNatClampNeg) 4 then
          some (s.2 0 34 ((s.1 g 16 ((a1 / (256 : Int32))).toNatClampNeg)).toNatClampNeg)
          else none
        else
          bif ax_in (s.1 g 16 ((a1 / (256 : Int32))).toNatClampNeg) 4 then
          some (-(s.2 0 34 ((s.1 g 16 ((a1 / (256 : Int32))).toNatClampNeg)).toNatClampNeg))
          else none) (fun v41 =>
        Option.bind (f_M_rotated g (s.2 0 34 ((s.1 g 15 ((a1 / (256 : Int32))).toNatClampNeg)).toNatClampNeg) v41 s) (fun r42 =>
          some (r42, s)))
    else
      if a2 = (0 : Int32) then
        Option.bind (f_M_spread F g (s.2 0 34 ((s.1 g 15 ((a1 / (256 : Int32))).toNatClampNeg)).toNatClampNeg) (a1 / (256 : Int32)) (1 : Int32) s) (fun r44 =>
          some (r44, s))
      else
        Option.bind (f_M_gathered F g (s.2 0 34 ((s.1 g 15 ((a1 / (256 : Int32))).toNatClampNeg)).toNatClampNeg) (a1 / (256 : Int32)) s) (fun r46 =>
          some (r46, s))) (fun (v50, s51) =>
    bif ax_in (s.1 g 15 ((a1 / (256 : Int32))).toNatClampNeg) 4 then
    ax_let (ax_wL s51 0 34 ((s.1 g 15 ((a1 / (256 : Int32))).toNatClampNeg)).toNatClampNeg (v50 &&& (s51.2 0 32 8))) (fun s53 =>
      some (s53))
    else none)
  else none
  else none
  else none
  else none
set_option maxHeartbeats 4000000 in
set_option maxRecDepth 100000 in
theorem t_M_change {l : Launch} {D : va_G} {cA : Nat → ClassId} {ad : Nat → Nat → Nat} {al : List (Nat × Nat)} {θ : ax_Θ} {ρ : ax_ρ} {F : Nat} {g : Nat} (h0 : ax_M0 al) (hg : ax_Mg al g) (hr : ax_md ρ g) {a1 : Int32} {a2 : Int32} {s : ax_σ} {s0 : ax_σ} (h : f_M_change F g a1 a2 s = some s0) : ax_T l D cA ad al θ y_M_change (.code y_M_change prog_4_method_5_code 8 none) 5 [.inr (0, 32), .inl (.int (a1)), .inl (.int (a2))] (ax_m s ρ) none (ax_m s0 ρ) := by
  refine ax_T_of (own := "CipherNotation$Machine") (by decide) rfl (Nat.le_of_ble_eq_true rfl) [(0, .inr (0, 32)), (1, .inl (.int (a1))), (2, .inl (.int (a2)))] rfl ?_
  intro G hA
  have hB := hA.B
  have hK := hB.K
  have hal := hB.la
  unfold f_M_change at h
  obtain ⟨b1, h⟩ := ax_gd h
  obtain ⟨b2, h⟩ := ax_gd h
  obtain ⟨b3, h⟩ := ax_gd h
  obtain ⟨b4, h⟩ := ax_gd h
  refine ax_bk hK (ax_fc (ax_v_ld (ax_r_iload_n (i := 1) d_M_change_0 rfl)) (ax_fc (ax_v_pu (ax_r_sipush (v := 256) d_M_change_1 (by decide))) (ax_fc (ax_v_idiv d_M_change_4) (ax_fc (ax_v_so (ax_r_istore_n (i := 3) d_M_change_5 rfl)) (ax_fc (ax_v_ld (ax_r_aload_n (i := 0) d_M_change_6 rfl)) (ax_fc (ax_w_gf (e := (some (g, 13))) hal d_M_change_7 fd_M_39) (ax_fc (ax_w_gf (e := none) hal d_M_change_10 fd_M_68) (ax_fc (ax_v_ld (ax_r_iload_n (i := 3) d_M_change_13 rfl)) (ax_fc (ax_w_iald hal d_M_change_14) (ax_fc (ax_v_so (ax_r_istore d_M_change_15)) (ax_fc (ax_v_ld (ax_r_aload_n (i := 0) d_M_change_17 rfl)) (ax_fc (ax_w_gf (e := (some (g, 13))) hal d_M_change_18 fd_M_39) (ax_fc (ax_w_gf (e := none) hal d_M_change_21 fd_M_73) (ax_fc (ax_v_ld (ax_r_iload_n (i := 3) d_M_change_24 rfl)) (ax_fc (ax_w_iald hal d_M_change_25) (ax_fc (ax_v_so (ax_r_istore d_M_change_26)) (ax_fc (ax_v_ld (ax_r_aload_n (i := 0) d_M_change_28 rfl)) (ax_fc (ax_w_gf (e := none) hal d_M_change_29 fd_M_15) (ax_fc (ax_v_ld (ax_r_iload d_M_change_32)) (ax_fc (ax_w_lald hal d_M_change_34) (ax_fc (ax_v_so (ax_r_lstore d_M_change_35)) (ax_fc (ax_v_ld (ax_r_aload_n (i := 0) d_M_change_37 rfl)) (ax_fc (ax_w_gf (e := (some (g, 13))) hal d_M_change_38 fd_M_39) (ax_fc (ax_w_gf (e := none) hal d_M_change_41 fd_M_76) (ax_fc (ax_v_ld (ax_r_iload_n (i := 3) d_M_change_44 rfl)) (ax_fc (ax_w_iald hal d_M_change_45) ax_fn)))))))))))))))))))))))))) (y := (46, [(6, .inl (.long ((s.2 0 34 ((s.1 g 15 ((a1 / (256 : Int32))).toNatClampNeg)).toNatClampNeg)))), (5, .inl (.int ((s.1 g 16 ((a1 / (256 : Int32))).toNatClampNeg)))), (4, .inl (.int ((s.1 g 15 ((a1 / (256 : Int32))).toNatClampNeg)))), (3, .inl (.int ((a1 / (256 : Int32))))), (0, .inr (0, 32)), (1, .inl (.int (a1))), (2, .inl (.int (a2)))], [.inl (.int ((s.1 g 14 ((a1 / (256 : Int32))).toNatClampNeg)))], ax_m (s) ρ)) rfl ⟨trivial, trivial, (by decide), trivial, trivial, ⟨(h0 32 rfl), hr.2.2⟩, (hg 13 rfl), trivial, ⟨(hg 15 rfl), ax_inp b1⟩, trivial, trivial, ⟨(h0 32 rfl), hr.2.2⟩, (hg 13 rfl), trivial, ⟨(hg 16 rfl), ax_inp b2⟩, trivial, trivial, (h0 32 rfl), trivial, ⟨(h0 34 rfl), ax_inp b3⟩, trivial, trivial, ⟨(h0 32 rfl), hr.2.2⟩, (hg 13 rfl), trivial, ⟨(hg 14 rfl), ax_inp b4⟩, trivial⟩ ?_
  obtain ⟨w54, hw54, h⟩ := ax_bd h
  have KEw54 : ∀ (v50 : Int64) (s51 : ax_σ), w54 = (v50, s51) → ax_R G 8 0 0 (354, [(0, .inr (0, 32)), (4, .inl (.int ((s.1 g 15 ((a1 / (256 : Int32))).toNatClampNeg)))), (6, .inl (.long (v50)))], [], ax_m (s51) ρ) := by
    intro v50 s51 e9
    subst w54
    try dsimp only at h
    obtain ⟨b52, h⟩ := ax_gd h
    refine ax_bk hK (ax_fc (ax_v_ld (ax_r_aload_n (i := 0) d_M_change_354 rfl)) (ax_fc (ax_w_gf (e := none) hal d_M_change_355 fd_M_15) (ax_fc (ax_v_ld (ax_r_iload d_M_change_358)) (ax_fc (ax_v_ld (ax_r_lload d_M_change_360)) (ax_fc (ax_v_ld (ax_r_aload_n (i := 0) d_M_change_362 rfl)) (ax_fc (ax_w_gf (e := none) hal d_M_change_363 fd_M_50) (ax_fc (ax_v_pu (ax_r_land d_M_change_366)) (ax_fc (ax_w_last hal d_M_change_367) ax_fn)))))))) (y := (368, [(0, .inr (0, 32)), (4, .inl (.int ((s.1 g 15 ((a1 / (256 : Int32))).toNatClampNeg)))), (6, .inl (.long (v50)))], [], ax_m (ax_wL s51 0 34 ((s.1 g 15 ((a1 / (256 : Int32))).toNatClampNeg)).toNatClampNeg (v50 &&& (s51.2 0 32 8))) ρ)) rfl ⟨trivial, (h0 32 rfl), trivial, trivial, trivial, (h0 32 rfl), trivial, ⟨(h0 34 rfl), ax_inp b52⟩, trivial⟩ ?_
    refine ax_lt (Q := fun ςς => ax_R G 8 0 0 (368, [(0, .inr (0, 32)), (4, .inl (.int ((s.1 g 15 ((a1 / (256 : Int32))).toNatClampNeg)))), (6, .inl (.long (v50)))], [], ax_m (ςς) ρ)) h (fun s53 h => ?_)
    cases h
    exact ax_vret hA d_M_change_368
  clear h
  have h := hw54
  refine ax_lsw (d := 330) (ks := [(35, 293), (42, 185), (43, 133), (45, 159), (58, 267), (60, 209), (94, 120), (119, 234)]) hK d_M_change_46 (by decide) (by decide) (by decide) ?_
  refine And.intro (fun c49 => ?_) (fun c49 => ?_)
  · replace h := ax_it c49 h
    change ax_R G 8 0 0 (293, [(6, .inl (.long ((s.2 0 34 ((s.1 g 15 ((a1 / (256 : Int32))).toNatClampNeg)).toNatClampNeg)))), (5, .inl (.int ((s.1 g 16 ((a1 / (256 : Int32))).toNatClampNeg)))), (4, .inl (.int ((s.1 g 15 ((a1 / (256 : Int32))).toNatClampNeg)))), (3, .inl (.int ((a1 / (256 : Int32))))), (0, .inr (0, 32)), (1, .inl (.int (a1))), (2, .inl (.int (a2)))], [], ax_m (s) ρ)
    refine ax_bk hK (ax_fc (ax_v_ld (ax_r_aload_n (i := 0) d_M_change_293 rfl)) (ax_fc (ax_v_ld (ax_r_lload d_M_change_294)) (ax_fc (ax_v_ld (ax_r_iload_n (i := 2) d_M_change_296 rfl)) ax_fn))) (y := (297, [(6, .inl (.long ((s.2 0 34 ((s.1 g 15 ((a1 / (256 : Int32))).toNatClampNeg)).toNatClampNeg)))), (5, .inl (.int ((s.1 g 16 ((a1 / (256 : Int32))).toNatClampNeg)))), (4, .inl (.int ((s.1 g 15 ((a1 / (256 : Int32))).toNatClampNeg)))), (3, .inl (.int ((a1 / (256 : Int32))))), (0, .inr (0, 32)), (1, .inl (.int (a1))), (2, .inl (.int (a2)))], [.inl (.int (a2)), .inl (.long ((s.2 0 34 ((s.1 g 15 ((a1 / (256 : Int32))).toNatClampNeg)).toNatClampNeg))), .inr (0, 32)], ax_m (s) ρ)) rfl ⟨trivial, trivial, trivial, trivial⟩ ?_
    refine ax_if_eq (tgt := 310) hK d_M_change_297 (by decide) (fun c9 => ?_) (fun c9 => ?_)
    · replace h := ax_it c9 h
      refine ax_bk hK (ax_fc (ax_v_ld (ax_r_aload_n (i := 0) d_M_change_310 rfl)) (ax_fc (ax_w_gf (e := (some (g, 0))) hal d_M_change_311 fd_M_24) (ax_fc (ax_w_gf (e := none) hal d_M_change_314 fd_M_90) (ax_fc (ax_v_ld (ax_r_iload d_M_change_317)) (ax_fc (ax_v_pu (ax_r_bipush (v := 16) d_M_change_319 (by decide))) (ax_fc (ax_v_pu (ax_r_imul d_M_change_321)) ax_fn)))))) (y := (322, [(6, .inl (.long ((s.2 0 34 ((s.1 g 15 ((a1 / (256 : Int32))).toNatClampNeg)).toNatClampNeg)))), (5, .inl (.int ((s.1 g 16 ((a1 / (256 : Int32))).toNatClampNeg)))), (4, .inl (.int ((s.1 g 15 ((a1 / (256 : Int32))).toNatClampNeg)))), (3, .inl (.int ((a1 / (256 : Int32))))), (0, .inr (0, 32)), (1, .inl (.int (a1))), (2, .inl (.int (a2)))], [.inl (.int (((s.1 g 16 ((a1 / (256 : Int32))).toNatClampNeg) * (16 : Int32)))), .inr (g, 2), .inl (.long ((s.2 0 34 ((s.1 g 15 ((a1 / (256 : Int32))).toNatClampNeg)).toNatClampNeg))), .inr (0, 32)], ax_m (s) ρ)) rfl ⟨trivial, ⟨(h0 32 rfl), hr.1⟩, (hg 0 rfl), trivial, trivial, trivial, trivial⟩ ?_
      obtain ⟨r5, q6, h⟩ := ax_bd h
      refine ax_bV (rest := []) hB (t_M_replaced_e h0 hg hr q6) cw_M_93 im_M_replaced se_M_replaced d_M_change_322 (h0 32 rfl) rfl rfl (by decide) (by decide) rfl rfl (Nat.le_of_ble_eq_true rfl) ?_
      change ax_R G 8 0 0 (325, [(6, .inl (.long ((s.2 0 34 ((s.1 g 15 ((a1 / (256 : Int32))).toNatClampNeg)).toNatClampNeg)))), (5, .inl (.int ((s.1 g 16 ((a1 / (256 : Int32))).toNatClampNeg)))), (4, .inl (.int ((s.1 g 15 ((a1 / (256 : Int32))).toNatClampNeg)))), (3, .inl (.int ((a1 / (256 : Int32))))), (0, .inr (0, 32)), (1, .inl (.int (a1))), (2, .inl (.int (a2)))], [.inl (.long (r5))], ax_m (s) ρ)
      refine ax_bk hK (ax_fc (ax_v_so (ax_r_lstore d_M_change_325)) (ax_fc (ax_v_go (tgt := 354) d_M_change_327 (by decide)) ax_fn)) (y := (354, [(6, .inl (.long (r5))), (5, .inl (.int ((s.1 g 16 ((a1 / (256 : Int32))).toNatClampNeg)))), (4, .inl (.int ((s.1 g 15 ((a1 / (256 : Int32))).toNatClampNeg)))), (3, .inl (.int ((a1 / (256 : Int32))))), (0, .inr (0, 32)), (1, .inl (.int (a1))), (2, .inl (.int (a2)))], [], ax_m (s) ρ)) rfl ⟨trivial, trivial, trivial⟩ ?_
      cases h
      exact ax_Lsub [4, 2, 0] rfl (KEw54 _ _ rfl)
    · replace h := ax_if c9 h
      refine ax_bk hK (ax_fc (ax_v_ld (ax_r_aload_n (i := 0) d_M_change_300 rfl)) (ax_fc (ax_w_gf (e := (some (g, 0))) hal d_M_change_301 fd_M_24) (ax_fc (ax_w_gf (e := none) hal d_M_change_304 fd_M_87) (ax_fc (ax_v_go (tgt := 317) d_M_change_307 (by decide)) ax_fn)))) (y := (317, [(6, .inl (.long ((s.2 0 34 ((s.1 g 15 ((a1 / (256 : Int32))).toNatClampNeg)).toNatClampNeg)))), (5, .inl (.int ((s.1 g 16 ((a1 / (256 : Int32))).toNatClampNeg)))), (4, .inl (.int ((s.1 g 15 ((a1 / (256 : Int32))).toNatClampNeg)))), (3, .inl (.int ((a1 / (256 : Int32))))), (0, .inr (0, 32)), (1, .inl (.int (a1))), (2, .inl (.int (a2)))], [.inr (g, 3), .inl (.long ((s.2 0 34 ((s.1 g 15 ((a1 / (256 : Int32))).toNatClampNeg)).toNatClampNeg))), .inr (0, 32)], ax_m (s) ρ)) rfl ⟨trivial, ⟨(h0 32 rfl), hr.1⟩, (hg 0 rfl), trivial, trivial⟩ ?_
      refine ax_bk hK (ax_fc (ax_v_ld (ax_r_iload d_M_change_317)) (ax_fc (ax_v_pu (ax_r_bipush (v := 16) d_M_change_319 (by decide))) (ax_fc (ax_v_pu (ax_r_imul d_M_change_321)) ax_fn))) (y := (322, [(6, .inl (.long ((s.2 0 34 ((s.1 g 15 ((a1 / (256 : Int32))).toNatClampNeg)).toNatClampNeg)))), (5, .inl (.int ((s.1 g 16 ((a1 / (256 : Int32))).toNatClampNeg)))), (4, .inl (.int ((s.1 g 15 ((a1 / (256 : Int32))).toNatClampNeg)))), (3, .inl (.int ((a1 / (256 : Int32))))), (0, .inr (0, 32)), (1, .inl (.int (a1))), (2, .inl (.int (a2)))], [.inl (.int (((s.1 g 16 ((a1 / (256 : Int32))).toNatClampNeg) * (16 : Int32)))), .inr (g, 3), .inl (.long ((s.2 0 34 ((s.1 g 15 ((a1 / (256 : Int32))).toNatClampNeg)).toNatClampNeg))), .inr (0, 32)], ax_m (s) ρ)) rfl ⟨trivial, trivial, trivial, trivial⟩ ?_
      obtain ⟨r7, q8, h⟩ := ax_bd h
      refine ax_bV (rest := []) hB (t_M_replaced_b h0 hg hr q8) cw_M_93 im_M_replaced se_M_replaced d_M_change_322 (h0 32 rfl) rfl rfl (by decide) (by decide) rfl rfl (Nat.le_of_ble_eq_true rfl) ?_
      change ax_R G 8 0 0 (325, [(6, .inl (.long ((s.2 0 34 ((s.1 g 15 ((a1 / (256 : Int32))).toNatClampNeg)).toNatClampNeg)))), (5, .inl (.int ((s.1 g 16 ((a1 / (256 : Int32))).toNatClampNeg)))), (4, .inl (.int ((s.1 g 15 ((a1 / (256 : Int32))).toNatClampNeg)))), (3, .inl (.int ((a1 / (256 : Int32))))), (0, .inr (0, 32)), (1, .inl (.int (a1))), (2, .inl (.int (a2)))], [.inl (.long (r7))], ax_m (s) ρ)
      refine ax_bk hK (ax_fc (ax_v_so (ax_r_lstore d_M_change_325)) (ax_fc (ax_v_go (tgt := 354) d_M_change_327 (by decide)) ax_fn)) (y := (354, [(6, .inl (.long (r7))), (5, .inl (.int ((s.1 g 16 ((a1 / (256 : Int32))).toNatClampNeg)))), (4, .inl (.int ((s.1 g 15 ((a1 / (256 : Int32))).toNatClampNeg)))), (3, .inl (.int ((a1 / (256 : Int32))))), (0, .inr (0, 32)), (1, .inl (.int (a1))), (2, .inl (.int (a2)))], [], ax_m (s) ρ)) rfl ⟨trivial, trivial, trivial⟩ ?_
      cases h
      exact ax_Lsub [4, 2, 0] rfl (KEw54 _ _ rfl)
  replace h := ax_if c49 h
  refine And.intro (fun c49 => ?_) (fun c49 => ?_)
  · replace h := ax_it c49 h
    change ax_R G 8 0 0 (185, [(6, .inl (.long ((s.2 0 34 ((s.1 g 15 ((a1 / (256 : Int32))).toNatClampNeg)).toNatClampNeg)))), (5, .inl (.int ((s.1 g 16 ((a1 / (256 : Int32))).toNatClampNeg)))), (4, .inl (.int ((s.1 g 15 ((a1 / (256 : Int32))).toNatClampNeg)))), (3, .inl (.int ((a1 / (256 : Int32))))), (0, .inr (0, 32)), (1, .inl (.int (a1))), (2, .inl (.int (a2)))], [], ax_m (s) ρ)
    refine ax_bk hK (ax_fc (ax_v_ld (ax_r_lload d_M_change_185)) (ax_fc (ax_v_ld (ax_r_iload_n (i := 2) d_M_change_187 rfl)) ax_fn)) (y := (188, [(6, .inl (.long ((s.2 0 34 ((s.1 g 15 ((a1 / (256 : Int32))).toNatClampNeg)).toNatClampNeg)))), (5, .inl (.int ((s.1 g 16 ((a1 / (256 : Int32))).toNatClampNeg)))), (4, .inl (.int ((s.1 g 15 ((a1 / (256 : Int32))).toNatClampNeg)))), (3, .inl (.int ((a1 / (256 : Int32))))), (0, .inr (0, 32)), (1, .inl (.int (a1))), (2, .inl (.int (a2)))], [.inl (.int (a2)), .inl (.long ((s.2 0 34 ((s.1 g 15 ((a1 / (256 : Int32))).toNatClampNeg)).toNatClampNeg)))], ax_m (s) ρ)) rfl ⟨trivial, trivial, trivial⟩ ?_
    refine ax_if_eq (tgt := 200) hK d_M_change_188 (by decide) (fun c12 => ?_) (fun c12 => ?_)
    · replace h := ax_it c12 h
      refine ax_bk hK (ax_fc (ax_v_ld (ax_r_iload d_M_change_200)) (ax_fc (ax_v_pu (ax_r_i2l d_M_change_202)) (ax_fc (ax_v_pu (ax_r_lmul d_M_change_203)) (ax_fc (ax_v_so (ax_r_lstore d_M_change_204)) (ax_fc (ax_v_go (tgt := 354) d_M_change_206 (by decide)) ax_fn))))) (y := (354, [(6, .inl (.long (((s.2 0 34 ((s.1 g 15 ((a1 / (256 : Int32))).toNatClampNeg)).toNatClampNeg) * ((s.1 g 16 ((a1 / (256 : Int32))).toNatClampNeg)).toInt64)))), (5, .inl (.int ((s.1 g 16 ((a1 / (256 : Int32))).toNatClampNeg)))), (4, .inl (.int ((s.1 g 15 ((a1 / (256 : Int32))).toNatClampNeg)))), (3, .inl (.int ((a1 / (256 : Int32))))), (0, .inr (0, 32)), (1, .inl (.int (a1))), (2, .inl (.int (a2)))], [], ax_m (s) ρ)) rfl ⟨trivial, trivial, trivial, trivial, trivial, trivial⟩ ?_
      cases h
      exact ax_Lsub [4, 2, 0] rfl (KEw54 _ _ rfl)
    · replace h := ax_if c12 h
      refine ax_bk hK (ax_fc (ax_v_ld (ax_r_iload d_M_change_191)) (ax_fc (ax_v_pu (ax_r_i2l d_M_change_193)) ax_fn)) (y := (194, [(6, .inl (.long ((s.2 0 34 ((s.1 g 15 ((a1 / (256 : Int32))).toNatClampNeg)).toNatClampNeg)))), (5, .inl (.int ((s.1 g 16 ((a1 / (256 : Int32))).toNatClampNeg)))), (4, .inl (.int ((s.1 g 15 ((a1 / (256 : Int32))).toNatClampNeg)))), (3, .inl (.int ((a1 / (256 : Int32))))), (0, .inr (0, 32)), (1, .inl (.int (a1))), (2, .inl (.int (a2)))], [.inl (.long (((s.1 g 16 ((a1 / (256 : Int32))).toNatClampNeg)).toInt64)), .inl (.long ((s.2 0 34 ((s.1 g 15 ((a1 / (256 : Int32))).toNatClampNeg)).toNatClampNeg)))], ax_m (s) ρ)) rfl ⟨trivial, trivial, trivial⟩ ?_
      obtain ⟨r10, q11, h⟩ := ax_bd h
      refine ax_bS (rest := [.inl (.long ((s.2 0 34 ((s.1 g 15 ((a1 / (256 : Int32))).toNatClampNeg)).toNatClampNeg)))]) hB (t_M_inverse q11) cw_M_79 sm_M_inverse d_M_change_194 (by decide) (by decide) rfl rfl (Nat.le_of_ble_eq_true rfl) ?_
      change ax_R G 8 0 0 (197, [(6, .inl (.long ((s.2 0 34 ((s.1 g 15 ((a1 / (256 : Int32))).toNatClampNeg)).toNatClampNeg)))), (5, .inl (.int ((s.1 g 16 ((a1 / (256 : Int32))).toNatClampNeg)))), (4, .inl (.int ((s.1 g 15 ((a1 / (256 : Int32))).toNatClampNeg)))), (3, .inl (.int ((a1 / (256 : Int32))))), (0, .inr (0, 32)), (1, .inl (.int (a1))), (2, .inl (.int (a2)))], [.inl (.long (r10)), .inl (.long ((s.2 0 34 ((s.1 g 15 ((a1 / (256 : Int32))).toNatClampNeg)).toNatClampNeg)))], ax_m (s) ρ)
      refine ax_bk hK (ax_fc (ax_v_go (tgt := 203) d_M_change_197 (by decide)) ax_fn) (y := (203, [(6, .inl (.long ((s.2 0 34 ((s.1 g 15 ((a1 / (256 : Int32))).toNatClampNeg)).toNatClampNeg)))), (5, .inl (.int ((s.1 g 16 ((a1 / (256 : Int32))).toNatClampNeg)))), (4, .inl (.int ((s.1 g 15 ((a1 / (256 : Int32))).toNatClampNeg)))), (3, .inl (.int ((a1 / (256 : Int32))))), (0, .inr (0, 32)), (1, .inl (.int (a1))), (2, .inl (.int (a2)))], [.inl (.long (r10)), .inl (.long ((s.2 0 34 ((s.1 g 15 ((a1 / (256 : Int32))).toNatClampNeg)).toNatClampNeg)))], ax_m (s) ρ)) rfl ⟨trivial, trivial⟩ ?_
      refine ax_bk hK (ax_fc (ax_v_pu (ax_r_lmul d_M_change_203)) (ax_fc (ax_v_so (ax_r_lstore d_M_change_204)) (ax_fc (ax_v_go (tgt := 354) d_M_change_206 (by decide)) ax_fn))) (y := (354, [(6, .inl (.long (((s.2 0 34 ((s.1 g 15 ((a1 / (256 : Int32))).toNatClampNeg)).toNatClampNeg) * r10)))), (5, .inl (.int ((s.1 g 16 ((a1 / (256 : Int32))).toNatClampNeg)))), (4, .inl (.int ((s.1 g 15 ((a1 / (256 : Int32))).toNatClampNeg)))), (3, .inl (.int ((a1 / (256 : Int32))))), (0, .inr (0, 32)), (1, .inl (.int (a1))), (2, .inl (.int (a2)))], [], ax_m (s) ρ)) rfl ⟨trivial, trivial, trivial, trivial⟩ ?_
      cases h
      exact ax_Lsub [4, 2, 0] rfl (KEw54 _ _ rfl)
  replace h := ax_if c49 h
  refine And.intro (fun c49 => ?_) (fun c49 => ?_)
  · replace h := ax_it c49 h
    change ax_R G 8 0 0 (133, [(6, .inl (.long ((s.2 0 34 ((s.1 g 15 ((a1 / (256 : Int32))).toNatClampNeg)).toNatClampNeg)))), (5, .inl (.int ((s.1 g 16 ((a1 / (256 : Int32))).toNatClampNeg)))), (4, .inl (.int ((s.1 g 15 ((a1 / (256 : Int32))).toNatClampNeg)))), (3, .inl (.int ((a1 / (256 : Int32))))), (0, .inr (0, 32)), (1, .inl (.int (a1))), (2, .inl (.int (a2)))], [], ax_m (s) ρ)
    refine ax_bk hK (ax_fc (ax_v_ld (ax_r_lload d_M_change_133)) (ax_fc (ax_v_ld (ax_r_iload_n (i := 2) d_M_change_135 rfl)) ax_fn)) (y := (136, [(6, .inl (.long ((s.2 0 34 ((s.1 g 15 ((a1 / (256 : Int32))).toNatClampNeg)).toNatClampNeg)))), (5, .inl (.int ((s.1 g 16 ((a1 / (256 : Int32))).toNatClampNeg)))), (4, .inl (.int ((s.1 g 15 ((a1 / (256 : Int32))).toNatClampNeg)))), (3, .inl (.int ((a1 / (256 : Int32))))), (0, .inr (0, 32)), (1, .inl (.int (a1))), (2, .inl (.int (a2)))], [.inl (.int (a2)), .inl (.long ((s.2 0 34 ((s.1 g 15 ((a1 / (256 : Int32))).toNatClampNeg)).toNatClampNeg)))], ax_m (s) ρ)) rfl ⟨trivial, trivial, trivial⟩ ?_
    refine ax_if_eq (tgt := 148) hK d_M_change_136 (by decide) (fun c19 => ?_) (fun c19 => ?_)
    · replace h := ax_it c19 h
      refine ax_bk hK (ax_fc (ax_v_ld (ax_r_aload_n (i := 0) d_M_change_148 rfl)) (ax_fc (ax_v_ld (ax_r_iload_n (i := 1) d_M_change_149 rfl)) ax_fn)) (y := (150, [(6, .inl (.long ((s.2 0 34 ((s.1 g 15 ((a1 / (256 : Int32))).toNatClampNeg)).toNatClampNeg)))), (5, .inl (.int ((s.1 g 16 ((a1 / (256 : Int32))).toNatClampNeg)))), (4, .inl (.int ((s.1 g 15 ((a1 / (256 : Int32))).toNatClampNeg)))), (3, .inl (.int ((a1 / (256 : Int32))))), (0, .inr (0, 32)), (1, .inl (.int (a1))), (2, .inl (.int (a2)))], [.inl (.int (a1)), .inr (0, 32), .inl (.long ((s.2 0 34 ((s.1 g 15 ((a1 / (256 : Int32))).toNatClampNeg)).toNatClampNeg)))], ax_m (s) ρ)) rfl ⟨trivial, trivial, trivial⟩ ?_
      obtain ⟨⟨r13, s14⟩, q15, h⟩ := ax_bd h
      dsimp only at h
      refine ax_bV (rest := [.inl (.long ((s.2 0 34 ((s.1 g 15 ((a1 / (256 : Int32))).toNatClampNeg)).toNatClampNeg)))]) hB (t_M_value h0 hg hr q15) cw_M_57 im_M_value se_M_value d_M_change_150 (h0 32 rfl) rfl rfl (by decide) (by decide) rfl rfl (Nat.le_of_ble_eq_true rfl) ?_
      change ax_R G 8 0 0 (153, [(6, .inl (.long ((s.2 0 34 ((s.1 g 15 ((a1 / (256 : Int32))).toNatClampNeg)).toNatClampNeg)))), (5, .inl (.int ((s.1 g 16 ((a1 / (256 : Int32))).toNatClampNeg)))), (4, .inl (.int ((s.1 g 15 ((a1 / (256 : Int32))).toNatClampNeg)))), (3, .inl (.int ((a1 / (256 : Int32))))), (0, .inr (0, 32)), (1, .inl (.int (a1))), (2, .inl (.int (a2)))], [.inl (.long (r13)), .inl (.long ((s.2 0 34 ((s.1 g 15 ((a1 / (256 : Int32))).toNatClampNeg)).toNatClampNeg)))], ax_m (s14) ρ)
      refine ax_bk hK (ax_fc (ax_v_pu (ax_r_ladd d_M_change_153)) (ax_fc (ax_v_so (ax_r_lstore d_M_change_154)) (ax_fc (ax_v_go (tgt := 354) d_M_change_156 (by decide)) ax_fn))) (y := (354, [(6, .inl (.long (((s.2 0 34 ((s.1 g 15 ((a1 / (256 : Int32))).toNatClampNeg)).toNatClampNeg) + r13)))), (5, .inl (.int ((s.1 g 16 ((a1 / (256 : Int32))).toNatClampNeg)))), (4, .inl (.int ((s.1 g 15 ((a1 / (256 : Int32))).toNatClampNeg)))), (3, .inl (.int ((a1 / (256 : Int32))))), (0, .inr (0, 32)), (1, .inl (.int (a1))), (2, .inl (.int (a2)))], [], ax_m (s14) ρ)) rfl ⟨trivial, trivial, trivial, trivial⟩ ?_
      cases h
      exact ax_Lsub [4, 2, 0] rfl (KEw54 _ _ rfl)
    · replace h := ax_if c19 h
      refine ax_bk hK (ax_fc (ax_v_ld (ax_r_aload_n (i := 0) d_M_change_139 rfl)) (ax_fc (ax_v_ld (ax_r_iload_n (i := 1) d_M_change_140 rfl)) ax_fn)) (y := (141, [(6, .inl (.long ((s.2 0 34 ((s.1 g 15 ((a1 / (256 : Int32))).toNatClampNeg)).toNatClampNeg)))), (5, .inl (.int ((s.1 g 16 ((a1 / (256 : Int32))).toNatClampNeg)))), (4, .inl (.int ((s.1 g 15 ((a1 / (256 : Int32))).toNatClampNeg)))), (3, .inl (.int ((a1 / (256 : Int32))))), (0, .inr (0, 32)), (1, .inl (.int (a1))), (2, .inl (.int (a2)))], [.inl (.int (a1)), .inr (0, 32), .inl (.long ((s.2 0 34 ((s.1 g 15 ((a1 / (256 : Int32))).toNatClampNeg)).toNatClampNeg)))], ax_m (s) ρ)) rfl ⟨trivial, trivial, trivial⟩ ?_
      obtain ⟨⟨r16, s17⟩, q18, h⟩ := ax_bd h
      dsimp only at h
      refine ax_bV (rest := [.inl (.long ((s.2 0 34 ((s.1 g 15 ((a1 / (256 : Int32))).toNatClampNeg)).toNatClampNeg)))]) hB (t_M_value h0 hg hr q18) cw_M_57 im_M_value se_M_value d_M_change_141 (h0 32 rfl) rfl rfl (by decide) (by decide) rfl rfl (Nat.le_of_ble_eq_true rfl) ?_
      change ax_R G 8 0 0 (144, [(6, .inl (.long ((s.2 0 34 ((s.1 g 15 ((a1 / (256 : Int32))).toNatClampNeg)).toNatClampNeg)))), (5, .inl (.int ((s.1 g 16 ((a1 / (256 : Int32))).toNatClampNeg)))), (4, .inl (.int ((s.1 g 15 ((a1 / (256 : Int32))).toNatClampNeg)))), (3, .inl (.int ((a1 / (256 : Int32))))), (0, .inr (0, 32)), (1, .inl (.int (a1))), (2, .inl (.int (a2)))], [.inl (.long (r16)), .inl (.long ((s.2 0 34 ((s.1 g 15 ((a1 / (256 : Int32))).toNatClampNeg)).toNatClampNeg)))], ax_m (s17) ρ)
      refine ax_bk hK (ax_fc (ax_v_pu (ax_r_lneg d_M_change_144)) (ax_fc (ax_v_go (tgt := 153) d_M_change_145 (by decide)) ax_fn)) (y := (153, [(6, .inl (.long ((s.2 0 34 ((s.1 g 15 ((a1 / (256 : Int32))).toNatClampNeg)).toNatClampNeg)))), (5, .inl (.int ((s.1 g 16 ((a1 / (256 : Int32))).toNatClampNeg)))), (4, .inl (.int ((s.1 g 15 ((a1 / (256 : Int32))).toNatClampNeg)))), (3, .inl (.int ((a1 / (256 : Int32))))), (0, .inr (0, 32)), (1, .inl (.int (a1))), (2, .inl (.int (a2)))], [.inl (.long ((-r16))), .inl (.long ((s.2 0 34 ((s.1 g 15 ((a1 / (256 : Int32))).toNatClampNeg)).toNatClampNeg)))], ax_m (s17) ρ)) rfl ⟨trivial, trivial, trivial⟩ ?_
      refine ax_bk hK (ax_fc (ax_v_pu (ax_r_ladd d_M_change_153)) (ax_fc (ax_v_so (ax_r_lstore d_M_change_154)) (ax_fc (ax_v_go (tgt := 354) d_M_change_156 (by decide)) ax_fn))) (y := (354, [(6, .inl (.long (((s.2 0 34 ((s.1 g 15 ((a1 / (256 : Int32))).toNatClampNeg)).toNatClampNeg) + (-r16))))), (5, .inl (.int ((s.1 g 16 ((a1 / (256 : Int32))).toNatClampNeg)))), (4, .inl (.int ((s.1 g 15 ((a1 / (256 : Int32))).toNatClampNeg)))), (3, .inl (.int ((a1 / (256 : Int32))))), (0, .inr (0, 32)), (1, .inl (.int (a1))), (2, .inl (.int (a2)))], [], ax_m (s17) ρ)) rfl ⟨trivial, trivial, trivial, trivial⟩ ?_
      cases h
      exact ax_Lsub [4, 2, 0] rfl (KEw54 _ _ rfl)
  replace h := ax_if c49 h
  refine And.intro (fun c49 => ?_) (fun c49 => ?_)
  · replace h := ax_it c49 h
    change ax_R G 8 0 0 (159, [(6, .inl (.long ((s.2 0 34 ((s.1 g 15 ((a1 / (256 : Int32))).toNatClampNeg)).toNatClampNeg)))), (5, .inl (.int ((s.1 g 16 ((a1 / (256 : Int32))).toNatClampNeg)))), (4, .inl (.int ((s.1 g 15 ((a1 / (256 : Int32))).toNatClampNeg)))), (3, .inl (.int ((a1 / (256 : Int32))))), (0, .inr (0, 32)), (1, .inl (.int (a1))), (2, .inl (.int (a2)))], [], ax_m (s) ρ)
    refine ax_bk hK (ax_fc (ax_v_ld (ax_r_lload d_M_change_159)) (ax_fc (ax_v_ld (ax_r_iload_n (i := 2) d_M_change_161 rfl)) ax_fn)) (y := (162, [(6, .inl (.long ((s.2 0 34 ((s.1 g 15 ((a1 / (256 : Int32))).toNatClampNeg)).toNatClampNeg)))), (5, .inl (.int ((s.1 g 16 ((a1 / (256 : Int32))).toNatClampNeg)))), (4, .inl (.int ((s.1 g 15 ((a1 / (256 : Int32))).toNatClampNeg)))), (3, .inl (.int ((a1 / (256 : Int32))))), (0, .inr (0, 32)), (1, .inl (.int (a1))), (2, .inl (.int (a2)))], [.inl (.int (a2)), .inl (.long ((s.2 0 34 ((s.1 g 15 ((a1 / (256 : Int32))).toNatClampNeg)).toNatClampNeg)))], ax_m (s) ρ)) rfl ⟨trivial, trivial, trivial⟩ ?_
    refine ax_if_eq (tgt := 174) hK d_M_change_162 (by decide) (fun c26 => ?_) (fun c26 => ?_)
    · replace h := ax_it c26 h
      refine ax_bk hK (ax_fc (ax_v_ld (ax_r_aload_n (i := 0) d_M_change_174 rfl)) (ax_fc (ax_v_ld (ax_r_iload_n (i := 1) d_M_change_175 rfl)) ax_fn)) (y := (176, [(6, .inl (.long ((s.2 0 34 ((s.1 g 15 ((a1 / (256 : Int32))).toNatClampNeg)).toNatClampNeg)))), (5, .inl (.int ((s.1 g 16 ((a1 / (256 : Int32))).toNatClampNeg)))), (4, .inl (.int ((s.1 g 15 ((a1 / (256 : Int32))).toNatClampNeg)))), (3, .inl (.int ((a1 / (256 : Int32))))), (0, .inr (0, 32)), (1, .inl (.int (a1))), (2, .inl (.int (a2)))], [.inl (.int (a1)), .inr (0, 32), .inl (.long ((s.2 0 34 ((s.1 g 15 ((a1 / (256 : Int32))).toNatClampNeg)).toNatClampNeg)))], ax_m (s) ρ)) rfl ⟨trivial, trivial, trivial⟩ ?_
      obtain ⟨⟨r20, s21⟩, q22, h⟩ := ax_bd h
      dsimp only at h
      refine ax_bV (rest := [.inl (.long ((s.2 0 34 ((s.1 g 15 ((a1 / (256 : Int32))).toNatClampNeg)).toNatClampNeg)))]) hB (t_M_value h0 hg hr q22) cw_M_57 im_M_value se_M_value d_M_change_176 (h0 32 rfl) rfl rfl (by decide) (by decide) rfl rfl (Nat.le_of_ble_eq_true rfl) ?_
      change ax_R G 8 0 0 (179, [(6, .inl (.long ((s.2 0 34 ((s.1 g 15 ((a1 / (256 : Int32))).toNatClampNeg)).toNatClampNeg)))), (5, .inl (.int ((s.1 g 16 ((a1 / (256 : Int32))).toNatClampNeg)))), (4, .inl (.int ((s.1 g 15 ((a1 / (256 : Int32))).toNatClampNeg)))), (3, .inl (.int ((a1 / (256 : Int32))))), (0, .inr (0, 32)), (1, .inl (.int (a1))), (2, .inl (.int (a2)))], [.inl (.long (r20)), .inl (.long ((s.2 0 34 ((s.1 g 15 ((a1 / (256 : Int32))).toNatClampNeg)).toNatClampNeg)))], ax_m (s21) ρ)
      refine ax_bk hK (ax_fc (ax_v_pu (ax_r_lsub d_M_change_179)) (ax_fc (ax_v_so (ax_r_lstore d_M_change_180)) (ax_fc (ax_v_go (tgt := 354) d_M_change_182 (by decide)) ax_fn))) (y := (354, [(6, .inl (.long (((s.2 0 34 ((s.1 g 15 ((a1 / (256 : Int32))).toNatClampNeg)).toNatClampNeg) - r20)))), (5, .inl (.int ((s.1 g 16 ((a1 / (256 : Int32))).toNatClampNeg)))), (4, .inl (.int ((s.1 g 15 ((a1 / (256 : Int32))).toNatClampNeg)))), (3, .inl (.int ((a1 / (256 : Int32))))), (0, .inr (0, 32)), (1, .inl (.int (a1))), (2, .inl (.int (a2)))], [], ax_m (s21) ρ)) rfl ⟨trivial, trivial, trivial, trivial⟩ ?_
      cases h
      exact ax_Lsub [4, 2, 0] rfl (KEw54 _ _ rfl)
    · replace h := ax_if c26 h
      refine ax_bk hK (ax_fc (ax_v_ld (ax_r_aload_n (i := 0) d_M_change_165 rfl)) (ax_fc (ax_v_ld (ax_r_iload_n (i := 1) d_M_change_166 rfl)) ax_fn)) (y := (167, [(6, .inl (.long ((s.2 0 34 ((s.1 g 15 ((a1 / (256 : Int32))).toNatClampNeg)).toNatClampNeg)))), (5, .inl (.int ((s.1 g 16 ((a1 / (256 : Int32))).toNatClampNeg)))), (4, .inl (.int ((s.1 g 15 ((a1 / (256 : Int32))).toNatClampNeg)))), (3, .inl (.int ((a1 / (256 : Int32))))), (0, .inr (0, 32)), (1, .inl (.int (a1))), (2, .inl (.int (a2)))], [.inl (.int (a1)), .inr (0, 32), .inl (.long ((s.2 0 34 ((s.1 g 15 ((a1 / (256 : Int32))).toNatClampNeg)).toNatClampNeg)))], ax_m (s) ρ)) rfl ⟨trivial, trivial, trivial⟩ ?_
      obtain ⟨⟨r23, s24⟩, q25, h⟩ := ax_bd h
      dsimp only at h
      refine ax_bV (rest := [.inl (.long ((s.2 0 34 ((s.1 g 15 ((a1 / (256 : Int32))).toNatClampNeg)).toNatClampNeg)))]) hB (t_M_value h0 hg hr q25) cw_M_57 im_M_value se_M_value d_M_change_167 (h0 32 rfl) rfl rfl (by decide) (by decide) rfl rfl (Nat.le_of_ble_eq_true rfl) ?_
      change ax_R G 8 0 0 (170, [(6, .inl (.long ((s.2 0 34 ((s.1 g 15 ((a1 / (256 : Int32))).toNatClampNeg)).toNatClampNeg)))), (5, .inl (.int ((s.1 g 16 ((a1 / (256 : Int32))).toNatClampNeg)))), (4, .inl (.int ((s.1 g 15 ((a1 / (256 : Int32))).toNatClampNeg)))), (3, .inl (.int ((a1 / (256 : Int32))))), (0, .inr (0, 32)), (1, .inl (.int (a1))), (2, .inl (.int (a2)))], [.inl (.long (r23)), .inl (.long ((s.2 0 34 ((s.1 g 15 ((a1 / (256 : Int32))).toNatClampNeg)).toNatClampNeg)))], ax_m (s24) ρ)
      refine ax_bk hK (ax_fc (ax_v_pu (ax_r_lneg d_M_change_170)) (ax_fc (ax_v_go (tgt := 179) d_M_change_171 (by decide)) ax_fn)) (y := (179, [(6, .inl (.long ((s.2 0 34 ((s.1 g 15 ((a1 / (256 : Int32))).toNatClampNeg)).toNatClampNeg)))), (5, .inl (.int ((s.1 g 16 ((a1 / (256 : Int32))).toNatClampNeg)))), (4, .inl (.int ((s.1 g 15 ((a1 / (256 : Int32))).toNatClampNeg)))), (3, .inl (.int ((a1 / (256 : Int32))))), (0, .inr (0, 32)), (1, .inl (.int (a1))), (2, .inl (.int (a2)))], [.inl (.long ((-r23))), .inl (.long ((s.2 0 34 ((s.1 g 15 ((a1 / (256 : Int32))).toNatClampNeg)).toNatClampNeg)))], ax_m (s24) ρ)) rfl ⟨trivial, trivial, trivial⟩ ?_
      refine ax_bk hK (ax_fc (ax_v_pu (ax_r_lsub d_M_change_179)) (ax_fc (ax_v_so (ax_r_lstore d_M_change_180)) (ax_fc (ax_v_go (tgt := 354) d_M_change_182 (by decide)) ax_fn))) (y := (354, [(6, .inl (.long (((s.2 0 34 ((s.1 g 15 ((a1 / (256 : Int32))).toNatClampNeg)).toNatClampNeg) - (-r23))))), (5, .inl (.int ((s.1 g 16 ((a1 / (256 : Int32))).toNatClampNeg)))), (4, .inl (.int ((s.1 g 15 ((a1 / (256 : Int32))).toNatClampNeg)))), (3, .inl (.int ((a1 / (256 : Int32))))), (0, .inr (0, 32)), (1, .inl (.int (a1))), (2, .inl (.int (a2)))], [], ax_m (s24) ρ)) rfl ⟨trivial, trivial, trivial, trivial⟩ ?_
      cases h
      exact ax_Lsub [4, 2, 0] rfl (KEw54 _ _ rfl)
  replace h := ax_if c49 h
  refine And.intro (fun c49 => ?_) (fun c49 => ?_)
  · replace h := ax_it c49 h
    change ax_R G 8 0 0 (267, [(6, .inl (.long ((s.2 0 34 ((s.1 g 15 ((a1 / (256 : Int32))).toNatClampNeg)).toNatClampNeg)))), (5, .inl (.int ((s.1 g 16 ((a1 / (256 : Int32))).toNatClampNeg)))), (4, .inl (.int ((s.1 g 15 ((a1 / (256 : Int32))).toNatClampNeg)))), (3, .inl (.int ((a1 / (256 : Int32))))), (0, .inr (0, 32)), (1, .inl (.int (a1))), (2, .inl (.int (a2)))], [], ax_m (s) ρ)
    obtain ⟨b27, h⟩ := ax_gd h
    obtain ⟨b28, h⟩ := ax_gd h
    obtain ⟨b29, h⟩ := ax_gd h
    refine ax_bk hK (ax_fc (ax_v_ld (ax_r_aload_n (i := 0) d_M_change_267 rfl)) (ax_fc (ax_w_gf (e := none) hal d_M_change_268 fd_M_15) (ax_fc (ax_v_ld (ax_r_iload d_M_change_271)) (ax_fc (ax_w_lald hal d_M_change_273) (ax_fc (ax_v_so (ax_r_lstore d_M_change_274)) (ax_fc (ax_v_ld (ax_r_aload_n (i := 0) d_M_change_276 rfl)) (ax_fc (ax_w_gf (e := none) hal d_M_change_277 fd_M_15) (ax_fc (ax_v_ld (ax_r_iload d_M_change_280)) (ax_fc (ax_v_ld (ax_r_aload_n (i := 0) d_M_change_282 rfl)) (ax_fc (ax_w_gf (e := none) hal d_M_change_283 fd_M_15) (ax_fc (ax_v_ld (ax_r_iload d_M_change_286)) (ax_fc (ax_w_lald hal d_M_change_288) (ax_fc (ax_w_last hal d_M_change_289) ax_fn))))))))))))) (y := (290, [(6, .inl (.long ((s.2 0 34 ((s.1 g 16 ((a1 / (256 : Int32))).toNatClampNeg)).toNatClampNeg)))), (5, .inl (.int ((s.1 g 16 ((a1 / (256 : Int32))).toNatClampNeg)))), (4, .inl (.int ((s.1 g 15 ((a1 / (256 : Int32))).toNatClampNeg)))), (3, .inl (.int ((a1 / (256 : Int32))))), (0, .inr (0, 32)), (1, .inl (.int (a1))), (2, .inl (.int (a2)))], [], ax_m (ax_wL s 0 34 ((s.1 g 16 ((a1 / (256 : Int32))).toNatClampNeg)).toNatClampNeg (s.2 0 34 ((s.1 g 15 ((a1 / (256 : Int32))).toNatClampNeg)).toNatClampNeg)) ρ)) rfl ⟨trivial, (h0 32 rfl), trivial, ⟨(h0 34 rfl), ax_inp b27⟩, trivial, trivial, (h0 32 rfl), trivial, trivial, (h0 32 rfl), trivial, ⟨(h0 34 rfl), ax_inp b28⟩, ⟨(h0 34 rfl), ax_inp b29⟩, trivial⟩ ?_
    refine ax_lt (Q := fun ςς => ax_R G 8 0 0 (290, [(6, .inl (.long ((s.2 0 34 ((s.1 g 16 ((a1 / (256 : Int32))).toNatClampNeg)).toNatClampNeg)))), (5, .inl (.int ((s.1 g 16 ((a1 / (256 : Int32))).toNatClampNeg)))), (4, .inl (.int ((s.1 g 15 ((a1 / (256 : Int32))).toNatClampNeg)))), (3, .inl (.int ((a1 / (256 : Int32))))), (0, .inr (0, 32)), (1, .inl (.int (a1))), (2, .inl (.int (a2)))], [], ax_m (ςς) ρ)) h (fun s30 h => ?_)
    refine ax_bk hK (ax_fc (ax_v_go (tgt := 354) d_M_change_290 (by decide)) ax_fn) (y := (354, [(6, .inl (.long ((s.2 0 34 ((s.1 g 16 ((a1 / (256 : Int32))).toNatClampNeg)).toNatClampNeg)))), (5, .inl (.int ((s.1 g 16 ((a1 / (256 : Int32))).toNatClampNeg)))), (4, .inl (.int ((s.1 g 15 ((a1 / (256 : Int32))).toNatClampNeg)))), (3, .inl (.int ((a1 / (256 : Int32))))), (0, .inr (0, 32)), (1, .inl (.int (a1))), (2, .inl (.int (a2)))], [], ax_m (s30) ρ)) rfl ⟨trivial, trivial⟩ ?_
    cases h
    exact ax_Lsub [4, 2, 0] rfl (KEw54 _ _ rfl)
  replace h := ax_if c49 h
  refine And.intro (fun c49 => ?_) (fun c49 => ?_)
  · replace h := ax_it c49 h
    change ax_R G 8 0 0 (209, [(6, .inl (.long ((s.2 0 34 ((s.1 g 15 ((a1 / (256 : Int32))).toNatClampNeg)).toNatClampNeg)))), (5, .inl (.int ((s.1 g 16 ((a1 / (256 : Int32))).toNatClampNeg)))), (4, .inl (.int ((s.1 g 15 ((a1 / (256 : Int32))).toNatClampNeg)))), (3, .inl (.int ((a1 / (256 : Int32))))), (0, .inr (0, 32)), (1, .inl (.int (a1))), (2, .inl (.int (a2)))], [], ax_m (s) ρ)
    refine ax_bk hK (ax_fc (ax_v_ld (ax_r_aload_n (i := 0) d_M_change_209 rfl)) (ax_fc (ax_v_ld (ax_r_lload d_M_change_210)) (ax_fc (ax_v_ld (ax_r_iload_n (i := 2) d_M_change_212 rfl)) ax_fn))) (y := (213, [(6, .inl (.long ((s.2 0 34 ((s.1 g 15 ((a1 / (256 : Int32))).toNatClampNeg)).toNatClampNeg)))), (5, .inl (.int ((s.1 g 16 ((a1 / (256 : Int32))).toNatClampNeg)))), (4, .inl (.int ((s.1 g 15 ((a1 / (256 : Int32))).toNatClampNeg)))), (3, .inl (.int ((a1 / (256 : Int32))))), (0, .inr (0, 32)), (1, .inl (.int (a1))), (2, .inl (.int (a2)))], [.inl (.int (a2)), .inl (.long ((s.2 0 34 ((s.1 g 15 ((a1 / (256 : Int32))).toNatClampNeg)).toNatClampNeg))), .inr (0, 32)], ax_m (s) ρ)) rfl ⟨trivial, trivial, trivial, trivial⟩ ?_
    obtain ⟨w55, hw55, h⟩ := ax_bd h
    have KEw55 : ∀ (v32 : Int64), w55 = v32 → ax_R G 8 0 0 (226, [(0, .inr (0, 32)), (4, .inl (.int ((s.1 g 15 ((a1 / (256 : Int32))).toNatClampNeg))))], [.inl (.long (v32)), .inl (.long ((s.2 0 34 ((s.1 g 15 ((a1 / (256 : Int32))).toNatClampNeg)).toNatClampNeg))), .inr (0, 32)], ax_m (s) ρ) := by
      intro v32 e9
      subst w55
      try dsimp only at h
      obtain ⟨r33, q34, h⟩ := ax_bd h
      refine ax_bV (rest := []) hB (t_M_rotated h0 hg hr q34) cw_M_83 im_M_rotated se_M_rotated d_M_change_226 (h0 32 rfl) rfl rfl (by decide) (by decide) rfl rfl (Nat.le_of_ble_eq_true rfl) ?_
      change ax_R G 8 0 0 (229, [(0, .inr (0, 32)), (4, .inl (.int ((s.1 g 15 ((a1 / (256 : Int32))).toNatClampNeg))))], [.inl (.long (r33))], ax_m (s) ρ)
      refine ax_bk hK (ax_fc (ax_v_so (ax_r_lstore d_M_change_229)) (ax_fc (ax_v_go (tgt := 354) d_M_change_231 (by decide)) ax_fn)) (y := (354, [(6, .inl (.long (r33))), (0, .inr (0, 32)), (4, .inl (.int ((s.1 g 15 ((a1 / (256 : Int32))).toNatClampNeg))))], [], ax_m (s) ρ)) rfl ⟨trivial, trivial, trivial⟩ ?_
      cases h
      exact ax_Lsub [1, 2, 0] rfl (KEw54 _ _ rfl)
    clear h
    have h := hw55
    refine ax_if_eq (tgt := 223) hK d_M_change_213 (by decide) (fun c31 => ?_) (fun c31 => ?_)
    · replace h := ax_it c31 h
      refine ax_bk hK (ax_fc (ax_v_ld (ax_r_iload d_M_change_223)) (ax_fc (ax_v_pu (ax_r_i2l d_M_change_225)) ax_fn)) (y := (226, [(6, .inl (.long ((s.2 0 34 ((s.1 g 15 ((a1 / (256 : Int32))).toNatClampNeg)).toNatClampNeg)))), (5, .inl (.int ((s.1 g 16 ((a1 / (256 : Int32))).toNatClampNeg)))), (4, .inl (.int ((s.1 g 15 ((a1 / (256 : Int32))).toNatClampNeg)))), (3, .inl (.int ((a1 / (256 : Int32))))), (0, .inr (0, 32)), (1, .inl (.int (a1))), (2, .inl (.int (a2)))], [.inl (.long (((s.1 g 16 ((a1 / (256 : Int32))).toNatClampNeg)).toInt64)), .inl (.long ((s.2 0 34 ((s.1 g 15 ((a1 / (256 : Int32))).toNatClampNeg)).toNatClampNeg))), .inr (0, 32)], ax_m (s) ρ)) rfl ⟨trivial, trivial, trivial⟩ ?_
      cases h
      exact ax_Lsub [4, 2] rfl (KEw55 _ rfl)
    · replace h := ax_if c31 h
      refine ax_bk hK (ax_fc (ax_v_ld (ax_r_iload d_M_change_216)) (ax_fc (ax_v_pu (ax_r_ineg d_M_change_218)) (ax_fc (ax_v_pu (ax_r_i2l d_M_change_219)) (ax_fc (ax_v_go (tgt := 226) d_M_change_220 (by decide)) ax_fn)))) (y := (226, [(6, .inl (.long ((s.2 0 34 ((s.1 g 15 ((a1 / (256 : Int32))).toNatClampNeg)).toNatClampNeg)))), (5, .inl (.int ((s.1 g 16 ((a1 / (256 : Int32))).toNatClampNeg)))), (4, .inl (.int ((s.1 g 15 ((a1 / (256 : Int32))).toNatClampNeg)))), (3, .inl (.int ((a1 / (256 : Int32))))), (0, .inr (0, 32)), (1, .inl (.int (a1))), (2, .inl (.int (a2)))], [.inl (.long (((-(s.1 g 16 ((a1 / (256 : Int32))).toNatClampNeg))).toInt64)), .inl (.long ((s.2 0 34 ((s.1 g 15 ((a1 / (256 : Int32))).toNatClampNeg)).toNatClampNeg))), .inr (0, 32)], ax_m (s) ρ)) rfl ⟨trivial, trivial, trivial, trivial, trivial⟩ ?_
      cases h
      exact ax_Lsub [4, 2] rfl (KEw55 _ rfl)
  replace h := ax_if c49 h
  refine And.intro (fun c49 => ?_) (fun c49 => ?_)
  · replace h := ax_it c49 h
    change ax_R G 8 0 0 (120, [(6, .inl (.long ((s.2 0 34 ((s.1 g 15 ((a1 / (256 : Int32))).toNatClampNeg)).toNatClampNeg)))), (5, .inl (.int ((s.1 g 16 ((a1 / (256 : Int32))).toNatClampNeg)))), (4, .inl (.int ((s.1 g 15 ((a1 / (256 : Int32))).toNatClampNeg)))), (3, .inl (.int ((a1 / (256 : Int32))))), (0, .inr (0, 32)), (1, .inl (.int (a1))), (2, .inl (.int (a2)))], [], ax_m (s) ρ)
    refine ax_bk hK (ax_fc (ax_v_ld (ax_r_lload d_M_change_120)) (ax_fc (ax_v_ld (ax_r_aload_n (i := 0) d_M_change_122 rfl)) (ax_fc (ax_v_ld (ax_r_iload_n (i := 1) d_M_change_123 rfl)) ax_fn))) (y := (124, [(6, .inl (.long ((s.2 0 34 ((s.1 g 15 ((a1 / (256 : Int32))).toNatClampNeg)).toNatClampNeg)))), (5, .inl (.int ((s.1 g 16 ((a1 / (256 : Int32))).toNatClampNeg)))), (4, .inl (.int ((s.1 g 15 ((a1 / (256 : Int32))).toNatClampNeg)))), (3, .inl (.int ((a1 / (256 : Int32))))), (0, .inr (0, 32)), (1, .inl (.int (a1))), (2, .inl (.int (a2)))], [.inl (.int (a1)), .inr (0, 32), .inl (.long ((s.2 0 34 ((s.1 g 15 ((a1 / (256 : Int32))).toNatClampNeg)).toNatClampNeg)))], ax_m (s) ρ)) rfl ⟨trivial, trivial, trivial, trivial⟩ ?_
    obtain ⟨⟨r35, s36⟩, q37, h⟩ := ax_bd h
    dsimp only at h
    refine ax_bV (rest := [.inl (.long ((s.2 0 34 ((s.1 g 15 ((a1 / (256 : Int32))).toNatClampNeg)).toNatClampNeg)))]) hB (t_M_value h0 hg hr q37) cw_M_57 im_M_value se_M_value d_M_change_124 (h0 32 rfl) rfl rfl (by decide) (by decide) rfl rfl (Nat.le_of_ble_eq_true rfl) ?_
    change ax_R G 8 0 0 (127, [(6, .inl (.long ((s.2 0 34 ((s.1 g 15 ((a1 / (256 : Int32))).toNatClampNeg)).toNatClampNeg)))), (5, .inl (.int ((s.1 g 16 ((a1 / (256 : Int32))).toNatClampNeg)))), (4, .inl (.int ((s.1 g 15 ((a1 / (256 : Int32))).toNatClampNeg)))), (3, .inl (.int ((a1 / (256 : Int32))))), (0, .inr (0, 32)), (1, .inl (.int (a1))), (2, .inl (.int (a2)))], [.inl (.long (r35)), .inl (.long ((s.2 0 34 ((s.1 g 15 ((a1 / (256 : Int32))).toNatClampNeg)).toNatClampNeg)))], ax_m (s36) ρ)
    refine ax_bk hK (ax_fc (ax_v_pu (ax_r_lxor d_M_change_127)) (ax_fc (ax_v_so (ax_r_lstore d_M_change_128)) (ax_fc (ax_v_go (tgt := 354) d_M_change_130 (by decide)) ax_fn))) (y := (354, [(6, .inl (.long (((s.2 0 34 ((s.1 g 15 ((a1 / (256 : Int32))).toNatClampNeg)).toNatClampNeg) ^^^ r35)))), (5, .inl (.int ((s.1 g 16 ((a1 / (256 : Int32))).toNatClampNeg)))), (4, .inl (.int ((s.1 g 15 ((a1 / (256 : Int32))).toNatClampNeg)))), (3, .inl (.int ((a1 / (256 : Int32))))), (0, .inr (0, 32)), (1, .inl (.int (a1))), (2, .inl (.int (a2)))], [], ax_m (s36) ρ)) rfl ⟨trivial, trivial, trivial, trivial⟩ ?_
    cases h
    exact ax_Lsub [4, 2, 0] rfl (KEw54 _ _ rfl)
  replace h := ax_if c49 h
  refine And.intro (fun c49 => ?_) (fun c49 => ?_)
  · replace h := ax_it c49 h
    change ax_R G 8 0 0 (234, [(6, .inl (.long ((s.2 0 34 ((s.1 g 15 ((a1 / (256 : Int32))).toNatClampNeg)).toNatClampNeg)))), (5, .inl (.int ((s.1 g 16 ((a1 / (256 : Int32))).toNatClampNeg)))), (4, .inl (.int ((s.1 g 15 ((a1 / (256 : Int32))).toNatClampNeg)))), (3, .inl (.int ((a1 / (256 : Int32))))), (0, .inr (0, 32)), (1, .inl (.int (a1))), (2, .inl (.int (a2)))], [], ax_m (s) ρ)
    refine ax_bk hK (ax_fc (ax_v_ld (ax_r_aload_n (i := 0) d_M_change_234 rfl)) (ax_fc (ax_v_ld (ax_r_lload d_M_change_235)) (ax_fc (ax_v_ld (ax_r_iload_n (i := 2) d_M_change_237 rfl)) ax_fn))) (y := (238, [(6, .inl (.long ((s.2 0 34 ((s.1 g 15 ((a1 / (256 : Int32))).toNatClampNeg)).toNatClampNeg)))), (5, .inl (.int ((s.1 g 16 ((a1 / (256 : Int32))).toNatClampNeg)))), (4, .inl (.int ((s.1 g 15 ((a1 / (256 : Int32))).toNatClampNeg)))), (3, .inl (.int ((a1 / (256 : Int32))))), (0, .inr (0, 32)), (1, .inl (.int (a1))), (2, .inl (.int (a2)))], [.inl (.int (a2)), .inl (.long ((s.2 0 34 ((s.1 g 15 ((a1 / (256 : Int32))).toNatClampNeg)).toNatClampNeg))), .inr (0, 32)], ax_m (s) ρ)) rfl ⟨trivial, trivial, trivial, trivial⟩ ?_
    obtain ⟨w56, hw56, h⟩ := ax_bd h
    have KEw56 : ∀ (v41 : Int64), w56 = v41 → ax_R G 8 0 0 (259, [(0, .inr (0, 32)), (4, .inl (.int ((s.1 g 15 ((a1 / (256 : Int32))).toNatClampNeg))))], [.inl (.long (v41)), .inl (.long ((s.2 0 34 ((s.1 g 15 ((a1 / (256 : Int32))).toNatClampNeg)).toNatClampNeg))), .inr (0, 32)], ax_m (s) ρ) := by
      intro v41 e9
      subst w56
      try dsimp only at h
      obtain ⟨r42, q43, h⟩ := ax_bd h
      refine ax_bV (rest := []) hB (t_M_rotated h0 hg hr q43) cw_M_83 im_M_rotated se_M_rotated d_M_change_259 (h0 32 rfl) rfl rfl (by decide) (by decide) rfl rfl (Nat.le_of_ble_eq_true rfl) ?_
      change ax_R G 8 0 0 (262, [(0, .inr (0, 32)), (4, .inl (.int ((s.1 g 15 ((a1 / (256 : Int32))).toNatClampNeg))))], [.inl (.long (r42))], ax_m (s) ρ)
      refine ax_bk hK (ax_fc (ax_v_so (ax_r_lstore d_M_change_262)) (ax_fc (ax_v_go (tgt := 354) d_M_change_264 (by decide)) ax_fn)) (y := (354, [(6, .inl (.long (r42))), (0, .inr (0, 32)), (4, .inl (.int ((s.1 g 15 ((a1 / (256 : Int32))).toNatClampNeg))))], [], ax_m (s) ρ)) rfl ⟨trivial, trivial, trivial⟩ ?_
      cases h
      exact ax_Lsub [1, 2, 0] rfl (KEw54 _ _ rfl)
    clear h
    have h := hw56
    refine ax_if_eq (tgt := 252) hK d_M_change_238 (by decide) (fun c40 => ?_) (fun c40 => ?_)
    · replace h := ax_it c40 h
      obtain ⟨b38, h⟩ := ax_gd h
      refine ax_bk hK (ax_fc (ax_v_ld (ax_r_aload_n (i := 0) d_M_change_252 rfl)) (ax_fc (ax_w_gf (e := none) hal d_M_change_253 fd_M_15) (ax_fc (ax_v_ld (ax_r_iload d_M_change_256)) (ax_fc (ax_w_lald hal d_M_change_258) ax_fn)))) (y := (259, [(6, .inl (.long ((s.2 0 34 ((s.1 g 15 ((a1 / (256 : Int32))).toNatClampNeg)).toNatClampNeg)))), (5, .inl (.int ((s.1 g 16 ((a1 / (256 : Int32))).toNatClampNeg)))), (4, .inl (.int ((s.1 g 15 ((a1 / (256 : Int32))).toNatClampNeg)))), (3, .inl (.int ((a1 / (256 : Int32))))), (0, .inr (0, 32)), (1, .inl (.int (a1))), (2, .inl (.int (a2)))], [.inl (.long ((s.2 0 34 ((s.1 g 16 ((a1 / (256 : Int32))).toNatClampNeg)).toNatClampNeg))), .inl (.long ((s.2 0 34 ((s.1 g 15 ((a1 / (256 : Int32))).toNatClampNeg)).toNatClampNeg))), .inr (0, 32)], ax_m (s) ρ)) rfl ⟨trivial, (h0 32 rfl), trivial, ⟨(h0 34 rfl), ax_inp b38⟩, trivial⟩ ?_
      cases h
      exact ax_Lsub [4, 2] rfl (KEw56 _ rfl)
    · replace h := ax_if c40 h
      obtain ⟨b39, h⟩ := ax_gd h
      refine ax_bk hK (ax_fc (ax_v_ld (ax_r_aload_n (i := 0) d_M_change_241 rfl)) (ax_fc (ax_w_gf (e := none) hal d_M_change_242 fd_M_15) (ax_fc (ax_v_ld (ax_r_iload d_M_change_245)) (ax_fc (ax_w_lald hal d_M_change_247) (ax_fc (ax_v_pu (ax_r_lneg d_M_change_248)) (ax_fc (ax_v_go (tgt := 259) d_M_change_249 (by decide)) ax_fn)))))) (y := (259, [(6, .inl (.long ((s.2 0 34 ((s.1 g 15 ((a1 / (256 : Int32))).toNatClampNeg)).toNatClampNeg)))), (5, .inl (.int ((s.1 g 16 ((a1 / (256 : Int32))).toNatClampNeg)))), (4, .inl (.int ((s.1 g 15 ((a1 / (256 : Int32))).toNatClampNeg)))), (3, .inl (.int ((a1 / (256 : Int32))))), (0, .inr (0, 32)), (1, .inl (.int (a1))), (2, .inl (.int (a2)))], [.inl (.long ((-(s.2 0 34 ((s.1 g 16 ((a1 / (256 : Int32))).toNatClampNeg)).toNatClampNeg)))), .inl (.long ((s.2 0 34 ((s.1 g 15 ((a1 / (256 : Int32))).toNatClampNeg)).toNatClampNeg))), .inr (0, 32)], ax_m (s) ρ)) rfl ⟨trivial, (h0 32 rfl), trivial, ⟨(h0 34 rfl), ax_inp b39⟩, trivial, trivial, trivial⟩ ?_
      cases h
      exact ax_Lsub [4, 2] rfl (KEw56 _ rfl)
  replace h := ax_if c49 h
  change ax_R G 8 0 0 (330, [(6, .inl (.long ((s.2 0 34 ((s.1 g 15 ((a1 / (256 : Int32))).toNatClampNeg)).toNatClampNeg)))), (5, .inl (.int ((s.1 g 16 ((a1 / (256 : Int32))).toNatClampNeg)))), (4, .inl (.int ((s.1 g 15 ((a1 / (256 : Int32))).toNatClampNeg)))), (3, .inl (.int ((a1 / (256 : Int32))))), (0, .inr (0, 32)), (1, .inl (.int (a1))), (2, .inl (.int (a2)))], [], ax_m (s) ρ)
  refine ax_bk hK (ax_fc (ax_v_ld (ax_r_iload_n (i := 2) d_M_change_330 rfl)) ax_fn) (y := (331, [(6, .inl (.long ((s.2 0 34 ((s.1 g 15 ((a1 / (256 : Int32))).toNatClampNeg)).toNatClampNeg)))), (5, .inl (.int ((s.1 g 16 ((a1 / (256 : Int32))).toNatClampNeg)))), (4, .inl (.int ((s.1 g 15 ((a1 / (256 : Int32))).toNatClampNeg)))), (3, .inl (.int ((a1 / (256 : Int32))))), (0, .inr (0, 32)), (1, .inl (.int (a1))), (2, .inl (.int (a2)))], [.inl (.int (a2))], ax_m (s) ρ)) rfl ⟨trivial, trivial⟩ ?_
  refine ax_if_eq (tgt := 344) hK d_M_change_331 (by decide) (fun c48 => ?_) (fun c48 => ?_)
  · replace h := ax_it c48 h
    refine ax_bk hK (ax_fc (ax_v_ld (ax_r_aload_n (i := 0) d_M_change_344 rfl)) (ax_fc (ax_v_ld (ax_r_lload d_M_change_345)) (ax_fc (ax_v_ld (ax_r_iload_n (i := 3) d_M_change_347 rfl)) (ax_fc (ax_v_pu (ax_r_iconst (v := 1) d_M_change_348 (by decide))) ax_fn)))) (y := (349, [(6, .inl (.long ((s.2 0 34 ((s.1 g 15 ((a1 / (256 : Int32))).toNatClampNeg)).toNatClampNeg)))), (5, .inl (.int ((s.1 g 16 ((a1 / (256 : Int32))).toNatClampNeg)))), (4, .inl (.int ((s.1 g 15 ((a1 / (256 : Int32))).toNatClampNeg)))), (3, .inl (.int ((a1 / (256 : Int32))))), (0, .inr (0, 32)), (1, .inl (.int (a1))), (2, .inl (.int (a2)))], [.inl (.int ((1 : Int32))), .inl (.int ((a1 / (256 : Int32)))), .inl (.long ((s.2 0 34 ((s.1 g 15 ((a1 / (256 : Int32))).toNatClampNeg)).toNatClampNeg))), .inr (0, 32)], ax_m (s) ρ)) rfl ⟨trivial, trivial, trivial, trivial, trivial⟩ ?_
    obtain ⟨r44, q45, h⟩ := ax_bd h
    refine ax_bV (rest := []) hB (t_M_spread h0 hg hr q45) cw_M_101 im_M_spread se_M_spread d_M_change_349 (h0 32 rfl) rfl rfl (by decide) (by decide) rfl rfl (Nat.le_of_ble_eq_true rfl) ?_
    change ax_R G 8 0 0 (352, [(6, .inl (.long ((s.2 0 34 ((s.1 g 15 ((a1 / (256 : Int32))).toNatClampNeg)).toNatClampNeg)))), (5, .inl (.int ((s.1 g 16 ((a1 / (256 : Int32))).toNatClampNeg)))), (4, .inl (.int ((s.1 g 15 ((a1 / (256 : Int32))).toNatClampNeg)))), (3, .inl (.int ((a1 / (256 : Int32))))), (0, .inr (0, 32)), (1, .inl (.int (a1))), (2, .inl (.int (a2)))], [.inl (.long (r44))], ax_m (s) ρ)
    refine ax_bk hK (ax_fc (ax_v_so (ax_r_lstore d_M_change_352)) ax_fn) (y := (354, [(6, .inl (.long (r44))), (5, .inl (.int ((s.1 g 16 ((a1 / (256 : Int32))).toNatClampNeg)))), (4, .inl (.int ((s.1 g 15 ((a1 / (256 : Int32))).toNatClampNeg)))), (3, .inl (.int ((a1 / (256 : Int32))))), (0, .inr (0, 32)), (1, .inl (.int (a1))), (2, .inl (.int (a2)))], [], ax_m (s) ρ)) rfl ⟨trivial, trivial⟩ ?_
    cases h
    exact ax_Lsub [4, 2, 0] rfl (KEw54 _ _ rfl)
  · replace h := ax_if c48 h
    refine ax_bk hK (ax_fc (ax_v_ld (ax_r_aload_n (i := 0) d_M_change_334 rfl)) (ax_fc (ax_v_ld (ax_r_lload d_M_change_335)) (ax_fc (ax_v_ld (ax_r_iload_n (i := 3) d_M_change_337 rfl)) ax_fn))) (y := (338, [(6, .inl (.long ((s.2 0 34 ((s.1 g 15 ((a1 / (256 : Int32))).toNatClampNeg)).toNatClampNeg)))), (5, .inl (.int ((s.1 g 16 ((a1 / (256 : Int32))).toNatClampNeg)))), (4, .inl (.int ((s.1 g 15 ((a1 / (256 : Int32))).toNatClampNeg)))), (3, .inl (.int ((a1 / (256 : Int32))))), (0, .inr (0, 32)), (1, .inl (.int (a1))), (2, .inl (.int (a2)))], [.inl (.int ((a1 / (256 : Int32)))), .inl (.long ((s.2 0 34 ((s.1 g 15 ((a1 / (256 : Int32))).toNatClampNeg)).toNatClampNeg))), .inr (0, 32)], ax_m (s) ρ)) rfl ⟨trivial, trivial, trivial, trivial⟩ ?_
    obtain ⟨r46, q47, h⟩ := ax_bd h
    refine ax_bV (rest := []) hB (t_M_gathered h0 hg hr q47) cw_M_97 im_M_gathered se_M_gathered d_M_change_338 (h0 32 rfl) rfl rfl (by decide) (by decide) rfl rfl (Nat.le_of_ble_eq_true rfl) ?_
    change ax_R G 8 0 0 (341, [(6, .inl (.long ((s.2 0 34 ((s.1 g 15 ((a1 / (256 : Int32))).toNatClampNeg)).toNatClampNeg)))), (5, .inl (.int ((s.1 g 16 ((a1 / (256 : Int32))).toNatClampNeg)))), (4, .inl (.int ((s.1 g 15 ((a1 / (256 : Int32))).toNatClampNeg)))), (3, .inl (.int ((a1 / (256 : Int32))))), (0, .inr (0, 32)), (1, .inl (.int (a1))), (2, .inl (.int (a2)))], [.inl (.long (r46))], ax_m (s) ρ)
    refine ax_bk hK (ax_fc (ax_v_go (tgt := 352) d_M_change_341 (by decide)) ax_fn) (y := (352, [(6, .inl (.long ((s.2 0 34 ((s.1 g 15 ((a1 / (256 : Int32))).toNatClampNeg)).toNatClampNeg)))), (5, .inl (.int ((s.1 g 16 ((a1 / (256 : Int32))).toNatClampNeg)))), (4, .inl (.int ((s.1 g 15 ((a1 / (256 : Int32))).toNatClampNeg)))), (3, .inl (.int ((a1 / (256 : Int32))))), (0, .inr (0, 32)), (1, .inl (.int (a1))), (2, .inl (.int (a2)))], [.inl (.long (r46))], ax_m (s) ρ)) rfl ⟨trivial, trivial⟩ ?_
    refine ax_bk hK (ax_fc (ax_v_so (ax_r_lstore d_M_change_352)) ax_fn) (y := (354, [(6, .inl (.long (r46))), (5, .inl (.int ((s.1 g 16 ((a1 / (256 : Int32))).toNatClampNeg)))), (4, .inl (.int ((s.1 g 15 ((a1 / (256 : Int32))).toNatClampNeg)))), (3, .inl (.int ((a1 / (256 : Int32))))), (0, .inr (0, 32)), (1, .inl (.int (a1))), (2, .inl (.int (a2)))], [], ax_m (s) ρ)) rfl ⟨trivial, trivial⟩ ?_
    cases h
    exact ax_Lsub [4, 2, 0] rfl (KEw54 _ _ rfl)
def y_M_go : MethodName := ⟨"CipherNotation$Machine", "go", "(II)V"⟩
theorem d_M_go_0 : decode prog_4_method_4_code 0 = .ok (.aload_n 0, 1) := by decide +kernel
theorem d_M_go_1 : decode prog_4_method_4_code 1 = .ok (.invokevirtual (61), 3) := by decide +kernel
theorem d_M_go_4 : decode prog_4_method_4_code 4 = .ok (.aload_n 0, 1) := by decide +kernel
theorem d_M_go_5 : decode prog_4_method_4_code 5 = .ok (.getfield (24), 3) := by decide +kernel
theorem d_M_go_8 : decode prog_4_method_4_code 8 = .ok (.getfield (40), 3) := by decide +kernel
theorem d_M_go_11 : decode prog_4_method_4_code 11 = .ok (.iconst 4, 1) := by decide +kernel
theorem d_M_go_12 : decode prog_4_method_4_code 12 = .ok (.iaload, 1) := by decide +kernel
theorem d_M_go_13 : decode prog_4_method_4_code 13 = .ok (.istore_n 3, 1) := by decide +kernel
theorem d_M_go_14 : decode prog_4_method_4_code 14 = .ok (.iload_n 1, 1) := by decide +kernel
theorem d_M_go_15 : decode prog_4_method_4_code 15 = .ok (.istore (4), 2) := by decide +kernel
theorem d_M_go_17 : decode prog_4_method_4_code 17 = .ok (.iload (4), 2) := by decide +kernel
theorem d_M_go_19 : decode prog_4_method_4_code 19 = .ok (.iload_n 2, 1) := by decide +kernel
theorem d_M_go_20 : decode prog_4_method_4_code 20 = .ok (.if_icmp .ge (26), 3) := by decide +kernel
theorem d_M_go_23 : decode prog_4_method_4_code 23 = .ok (.aload_n 0, 1) := by decide +kernel
theorem d_M_go_24 : decode prog_4_method_4_code 24 = .ok (.aload_n 0, 1) := by decide +kernel
theorem d_M_go_25 : decode prog_4_method_4_code 25 = .ok (.getfield (24), 3) := by decide +kernel
theorem d_M_go_28 : decode prog_4_method_4_code 28 = .ok (.getfield (54), 3) := by decide +kernel
theorem d_M_go_31 : decode prog_4_method_4_code 31 = .ok (.iload_n 3, 1) := by decide +kernel
theorem d_M_go_32 : decode prog_4_method_4_code 32 = .ok (.iload (4), 2) := by decide +kernel
theorem d_M_go_34 : decode prog_4_method_4_code 34 = .ok (.iadd, 1) := by decide +kernel
theorem d_M_go_35 : decode prog_4_method_4_code 35 = .ok (.iaload, 1) := by decide +kernel
theorem d_M_go_36 : decode prog_4_method_4_code 36 = .ok (.iconst 0, 1) := by decide +kernel
theorem d_M_go_37 : decode prog_4_method_4_code 37 = .ok (.invokevirtual (64), 3) := by decide +kernel
theorem d_M_go_40 : decode prog_4_method_4_code 40 = .ok (.iinc 4 (1), 3) := by decide +kernel
theorem d_M_go_43 : decode prog_4_method_4_code 43 = .ok (.goto (-26), 3) := by decide +kernel
theorem d_M_go_46 : decode prog_4_method_4_code 46 = .ok (.iload_n 1, 1) := by decide +kernel
theorem d_M_go_47 : decode prog_4_method_4_code 47 = .ok (.iconst 1, 1) := by decide +kernel
theorem d_M_go_48 : decode prog_4_method_4_code 48 = .ok (.isub, 1) := by decide +kernel
theorem d_M_go_49 : decode prog_4_method_4_code 49 = .ok (.istore (4), 2) := by decide +kernel
theorem d_M_go_51 : decode prog_4_method_4_code 51 = .ok (.iload (4), 2) := by decide +kernel
theorem d_M_go_53 : decode prog_4_method_4_code 53 = .ok (.iload_n 2, 1) := by decide +kernel
theorem d_M_go_54 : decode prog_4_method_4_code 54 = .ok (.if_icmp .lt (26), 3) := by decide +kernel
theorem d_M_go_57 : decode prog_4_method_4_code 57 = .ok (.aload_n 0, 1) := by decide +kernel
theorem d_M_go_58 : decode prog_4_method_4_code 58 = .ok (.aload_n 0, 1) := by decide +kernel
theorem d_M_go_59 : decode prog_4_method_4_code 59 = .ok (.getfield (24), 3) := by decide +kernel
theorem d_M_go_62 : decode prog_4_method_4_code 62 = .ok (.getfield (54), 3) := by decide +kernel
theorem d_M_go_65 : decode prog_4_method_4_code 65 = .ok (.iload_n 3, 1) := by decide +kernel
theorem d_M_go_66 : decode prog_4_method_4_code 66 = .ok (.iload (4), 2) := by decide +kernel
theorem d_M_go_68 : decode prog_4_method_4_code 68 = .ok (.iadd, 1) := by decide +kernel
theorem d_M_go_69 : decode prog_4_method_4_code 69 = .ok (.iaload, 1) := by decide +kernel
theorem d_M_go_70 : decode prog_4_method_4_code 70 = .ok (.iconst 1, 1) := by decide +kernel
theorem d_M_go_71 : decode prog_4_method_4_code 71 = .ok (.invokevirtual (64), 3) := by decide +kernel
theorem d_M_go_74 : decode prog_4_method_4_code 74 = .ok (.iinc 4 (-1), 3) := by decide +kernel
theorem d_M_go_77 : decode prog_4_method_4_code 77 = .ok (.goto (-26), 3) := by decide +kernel
theorem d_M_go_80 : decode prog_4_method_4_code 80 = .ok (.return_, 1) := by decide +kernel
set_option maxRecDepth 100000 in
theorem cw_M_64 : ax_cw "CipherNotation$Machine" 64 y_M_change (.code y_M_change prog_4_method_5_code 8 none) 2 := ⟨nw_4 97 (by decide +kernel) rfl, nw_1 3 (by decide +kernel) rfl, nw_4 100 rfl rfl, by decide +kernel, by decide +kernel⟩
theorem im_M_change : Cond.instanceMethod y_M_change ∈ ax_tbl := nw_4 99 (by decide +kernel) rfl
theorem se_M_change : Cond.selects y_M_change.cls y_M_change y_M_change ∈ ax_tbl := nw_sel 40 (by decide +kernel) (by decide +kernel)
def lp_M_go_17 (F : Nat) (g : Nat) (x1 : Int32) (x2 : Int32) (x3 : Int32) : Nat → Int32 → ax_σ → Option (ax_σ)
  | 0, _, _ => none
  | n + 1, x4, s =>
    if x2 ≤ x4 then
      some s
    else
      bif ax_in (x3 + x4) 400 then
      Option.bind (f_M_change F g (s.1 g 20 ((x3 + x4)).toNatClampNeg) (0 : Int32) s) (fun s5 =>
        lp_M_go_17 F g x1 x2 x3 n (x4 + (1 : Int32)) s5)
      else none
set_option maxHeartbeats 4000000 in
set_option maxRecDepth 100000 in
theorem pl_M_go_17 {D : va_G} {cA : Nat → ClassId} {ad : Nat → Nat → Nat} {al : List (Nat × Nat)} {θ : ax_Θ} {l : Launch} {ρ : ax_ρ} {G : ax_G} {F g : Nat} {x1 : Int32} {x2 : Int32} {x3 : Int32} (h0 : ax_M0 al) (hg : ax_Mg al g) (hr : ax_md ρ g) (hB : ax_B D cA ad al θ l "CipherNotation$Machine" prog_4_method_4_code 5 6 G) : ∀ (n : Nat) {x4 : Int32} {s : ax_σ} (out : ax_σ), lp_M_go_17 F g x1 x2 x3 n x4 s = some out → (∀ (es : ax_σ), out = es → ax_R G 5 0 0 (46, [(0, .inr (0, 32)), (1, .inl (.int (x1))), (2, .inl (.int (x2))), (3, .inl (.int (x3)))], [], ax_m (es) ρ)) → ax_R G 5 0 0 (17, [(0, .inr (0, 32)), (1, .inl (.int (x1))), (2, .inl (.int (x2))), (3, .inl (.int (x3))), (4, .inl (.int (x4)))], [], ax_m (s) ρ) := by
  have hK := hB.K
  have hal := hB.la
  intro n
  induction n with
  | zero =>
    intro x4 s out h
    cases h
  | succ n ih =>
    intro x4 s out h KE
    rw [lp_M_go_17] at h
    refine ax_bk hK (ax_fc (ax_v_ld (ax_r_iload d_M_go_17)) (ax_fc (ax_v_ld (ax_r_iload_n (i := 2) d_M_go_19 rfl)) ax_fn)) (y := (20, [(0, .inr (0, 32)), (1, .inl (.int (x1))), (2, .inl (.int (x2))), (3, .inl (.int (x3))), (4, .inl (.int (x4)))], [.inl (.int (x2)), .inl (.int (x4))], ax_m (s) ρ)) rfl ⟨trivial, trivial, trivial⟩ ?_
    refine ax_ic_ge (tgt := 46) hK d_M_go_20 (by decide) (fun c7 => ?_) (fun c7 => ?_)
    · replace h := ax_it c7 h
      cases h
      exact ax_Lsub [0, 1, 2, 3] rfl (KE _ rfl)
    · replace h := ax_if c7 h
      obtain ⟨b4, h⟩ := ax_gd h
      refine ax_bk hK (ax_fc (ax_v_ld (ax_r_aload_n (i := 0) d_M_go_23 rfl)) (ax_fc (ax_v_ld (ax_r_aload_n (i := 0) d_M_go_24 rfl)) (ax_fc (ax_w_gf (e := (some (g, 0))) hal d_M_go_25 fd_M_24) (ax_fc (ax_w_gf (e := none) hal d_M_go_28 fd_M_54) (ax_fc (ax_v_ld (ax_r_iload_n (i := 3) d_M_go_31 rfl)) (ax_fc (ax_v_ld (ax_r_iload d_M_go_32)) (ax_fc (ax_v_pu (ax_r_iadd d_M_go_34)) (ax_fc (ax_w_iald hal d_M_go_35) (ax_fc (ax_v_pu (ax_r_iconst (v := 0) d_M_go_36 (by decide))) ax_fn))))))))) (y := (37, [(0, .inr (0, 32)), (1, .inl (.int (x1))), (2, .inl (.int (x2))), (3, .inl (.int (x3))), (4, .inl (.int (x4)))], [.inl (.int ((0 : Int32))), .inl (.int ((s.1 g 20 ((x3 + x4)).toNatClampNeg))), .inr (0, 32)], ax_m (s) ρ)) rfl ⟨trivial, trivial, ⟨(h0 32 rfl), hr.1⟩, (hg 0 rfl), trivial, trivial, trivial, ⟨(hg 20 rfl), ax_inp b4⟩, trivial, trivial⟩ ?_
      obtain ⟨s5, q6, h⟩ := ax_bd h
      refine ax_bV (rest := []) hB (t_M_change h0 hg hr q6) cw_M_64 im_M_change se_M_change d_M_go_37 (h0 32 rfl) rfl rfl (by decide) (by decide) rfl rfl (Nat.le_of_ble_eq_true rfl) ?_
      change ax_R G 5 0 0 (40, [(0, .inr (0, 32)), (1, .inl (.int (x1))), (2, .inl (.int (x2))), (3, .inl (.int (x3))), (4, .inl (.int (x4)))], [], ax_m (s5) ρ)
      refine ax_bk hK (ax_fc (ax_v_ii (d := 1) d_M_go_40 (by decide)) (ax_fc (ax_v_go (tgt := 17) d_M_go_43 (by decide)) ax_fn)) (y := (17, [(4, .inl (.int ((x4 + (1 : Int32))))), (0, .inr (0, 32)), (1, .inl (.int (x1))), (2, .inl (.int (x2))), (3, .inl (.int (x3)))], [], ax_m (s5) ρ)) rfl ⟨trivial, trivial, trivial⟩ ?_
      exact ax_Lsub [1, 2, 3, 4, 0] rfl (ih _ h KE)
def lp_M_go_51 (F : Nat) (g : Nat) (x2 : Int32) (x3 : Int32) : Nat → Int32 → ax_σ → Option (ax_σ)
  | 0, _, _ => none
  | n + 1, x4, s =>
    if x4 < x2 then
      some s
    else
      bif ax_in (x3 + x4) 400 then
      Option.bind (f_M_change F g (s.1 g 20 ((x3 + x4)).toNatClampNeg) (1 : Int32) s) (fun s10 =>
        lp_M_go_51 F g x2 x3 n (x4 + (-1 : Int32)) s10)
      else none
set_option maxHeartbeats 4000000 in
set_option maxRecDepth 100000 in
theorem pl_M_go_51 {D : va_G} {cA : Nat → ClassId} {ad : Nat → Nat → Nat} {al : List (Nat × Nat)} {θ : ax_Θ} {l : Launch} {ρ : ax_ρ} {G : ax_G} {F g : Nat} {x2 : Int32} {x3 : Int32} (h0 : ax_M0 al) (hg : ax_Mg al g) (hr : ax_md ρ g) (hB : ax_B D cA ad al θ l "CipherNotation$Machine" prog_4_method_4_code 5 6 G) : ∀ (n : Nat) {x4 : Int32} {s : ax_σ} (out : ax_σ), lp_M_go_51 F g x2 x3 n x4 s = some out → (∀ (es : ax_σ), out = es → ax_R G 5 0 0 (80, [], [], ax_m (es) ρ)) → ax_R G 5 0 0 (51, [(0, .inr (0, 32)), (2, .inl (.int (x2))), (3, .inl (.int (x3))), (4, .inl (.int (x4)))], [], ax_m (s) ρ) := by
  have hK := hB.K
  have hal := hB.la
  intro n
  induction n with
  | zero =>
    intro x4 s out h
    cases h
  | succ n ih =>
    intro x4 s out h KE
    rw [lp_M_go_51] at h
    refine ax_bk hK (ax_fc (ax_v_ld (ax_r_iload d_M_go_51)) (ax_fc (ax_v_ld (ax_r_iload_n (i := 2) d_M_go_53 rfl)) ax_fn)) (y := (54, [(0, .inr (0, 32)), (2, .inl (.int (x2))), (3, .inl (.int (x3))), (4, .inl (.int (x4)))], [.inl (.int (x2)), .inl (.int (x4))], ax_m (s) ρ)) rfl ⟨trivial, trivial, trivial⟩ ?_
    refine ax_ic_lt (tgt := 80) hK d_M_go_54 (by decide) (fun c12 => ?_) (fun c12 => ?_)
    · replace h := ax_it c12 h
      cases h
      exact ax_Lsub [] rfl (KE _ rfl)
    · replace h := ax_if c12 h
      obtain ⟨b9, h⟩ := ax_gd h
      refine ax_bk hK (ax_fc (ax_v_ld (ax_r_aload_n (i := 0) d_M_go_57 rfl)) (ax_fc (ax_v_ld (ax_r_aload_n (i := 0) d_M_go_58 rfl)) (ax_fc (ax_w_gf (e := (some (g, 0))) hal d_M_go_59 fd_M_24) (ax_fc (ax_w_gf (e := none) hal d_M_go_62 fd_M_54) (ax_fc (ax_v_ld (ax_r_iload_n (i := 3) d_M_go_65 rfl)) (ax_fc (ax_v_ld (ax_r_iload d_M_go_66)) (ax_fc (ax_v_pu (ax_r_iadd d_M_go_68)) (ax_fc (ax_w_iald hal d_M_go_69) (ax_fc (ax_v_pu (ax_r_iconst (v := 1) d_M_go_70 (by decide))) ax_fn))))))))) (y := (71, [(0, .inr (0, 32)), (2, .inl (.int (x2))), (3, .inl (.int (x3))), (4, .inl (.int (x4)))], [.inl (.int ((1 : Int32))), .inl (.int ((s.1 g 20 ((x3 + x4)).toNatClampNeg))), .inr (0, 32)], ax_m (s) ρ)) rfl ⟨trivial, trivial, ⟨(h0 32 rfl), hr.1⟩, (hg 0 rfl), trivial, trivial, trivial, ⟨(hg 20 rfl), ax_inp b9⟩, trivial, trivial⟩ ?_
      obtain ⟨s10, q11, h⟩ := ax_bd h
      refine ax_bV (rest := []) hB (t_M_change h0 hg hr q11) cw_M_64 im_M_change se_M_change d_M_go_71 (h0 32 rfl) rfl rfl (by decide) (by decide) rfl rfl (Nat.le_of_ble_eq_true rfl) ?_
      change ax_R G 5 0 0 (74, [(0, .inr (0, 32)), (2, .inl (.int (x2))), (3, .inl (.int (x3))), (4, .inl (.int (x4)))], [], ax_m (s10) ρ)
      refine ax_bk hK (ax_fc (ax_v_ii (d := -1) d_M_go_74 (by decide)) (ax_fc (ax_v_go (tgt := 51) d_M_go_77 (by decide)) ax_fn)) (y := (51, [(4, .inl (.int ((x4 + (-1 : Int32))))), (0, .inr (0, 32)), (2, .inl (.int (x2))), (3, .inl (.int (x3)))], [], ax_m (s10) ρ)) rfl ⟨trivial, trivial, trivial⟩ ?_
      exact ax_Lsub [1, 2, 3, 0] rfl (ih _ h KE)
set_option maxRecDepth 100000 in
theorem cw_M_61 : ax_cw "CipherNotation$Machine" 61 y_M_makeSubkeys (.code y_M_makeSubkeys prog_4_method_3_code 2 none) 0 := ⟨nw_4 96 (by decide +kernel) rfl, nw_1 3 (by decide +kernel) rfl, nw_4 63 rfl rfl, by decide +kernel, by decide +kernel⟩
theorem im_M_makeSubkeys : Cond.instanceMethod y_M_makeSubkeys ∈ ax_tbl := nw_4 61 (by decide +kernel) rfl
theorem se_M_makeSubkeys : Cond.selects y_M_makeSubkeys.cls y_M_makeSubkeys y_M_makeSubkeys ∈ ax_tbl := nw_4 62 (by decide +kernel) rfl
def f_M_go (F : Nat) (g : Nat) (a1 : Int32) (a2 : Int32) (s : ax_σ) : Option (ax_σ) :=
  Option.bind (f_M_makeSubkeys F g s) (fun s1 =>
    bif ax_in (4 : Int32) 8 then
    Option.bind (lp_M_go_17 F g a1 a2 (s1.1 g 1 ((4 : Int32)).toNatClampNeg) F a1 s1) (fun s8 =>
      Option.bind (lp_M_go_51 F g a2 (s1.1 g 1 ((4 : Int32)).toNatClampNeg) F (a1 - (1 : Int32)) s8) (fun s13 =>
        some (s13)))
    else none)
set_option maxHeartbeats 4000000 in
set_option maxRecDepth 100000 in
theorem t_M_go {l : Launch} {D : va_G} {cA : Nat → ClassId} {ad : Nat → Nat → Nat} {al : List (Nat × Nat)} {θ : ax_Θ} {ρ : ax_ρ} {F : Nat} {g : Nat} (h0 : ax_M0 al) (hg : ax_Mg al g) (hr : ax_md ρ g) {a1 : Int32} {a2 : Int32} {s : ax_σ} {s0 : ax_σ} (h : f_M_go F g a1 a2 s = some s0) : ax_T l D cA ad al θ y_M_go (.code y_M_go prog_4_method_4_code 5 none) 6 [.inr (0, 32), .inl (.int (a1)), .inl (.int (a2))] (ax_m s ρ) none (ax_m s0 ρ) := by
  refine ax_T_of (own := "CipherNotation$Machine") (by decide) rfl (Nat.le_of_ble_eq_true rfl) [(0, .inr (0, 32)), (1, .inl (.int (a1))), (2, .inl (.int (a2)))] rfl ?_
  intro G hA
  have hB := hA.B
  have hK := hB.K
  have hal := hB.la
  unfold f_M_go at h
  refine ax_bk hK (ax_fc (ax_v_ld (ax_r_aload_n (i := 0) d_M_go_0 rfl)) ax_fn) (y := (1, [(0, .inr (0, 32)), (1, .inl (.int (a1))), (2, .inl (.int (a2)))], [.inr (0, 32)], ax_m (s) ρ)) rfl ⟨trivial, trivial⟩ ?_
  obtain ⟨s1, q2, h⟩ := ax_bd h
  refine ax_bV (rest := []) hB (t_M_makeSubkeys h0 hg hr q2) cw_M_61 im_M_makeSubkeys se_M_makeSubkeys d_M_go_1 (h0 32 rfl) rfl rfl (by decide) (by decide) rfl rfl (Nat.le_of_ble_eq_true rfl) ?_
  change ax_R G 5 0 0 (4, [(0, .inr (0, 32)), (1, .inl (.int (a1))), (2, .inl (.int (a2)))], [], ax_m (s1) ρ)
  obtain ⟨b3, h⟩ := ax_gd h
  refine ax_bk hK (ax_fc (ax_v_ld (ax_r_aload_n (i := 0) d_M_go_4 rfl)) (ax_fc (ax_w_gf (e := (some (g, 0))) hal d_M_go_5 fd_M_24) (ax_fc (ax_w_gf (e := none) hal d_M_go_8 fd_M_40) (ax_fc (ax_v_pu (ax_r_iconst (v := 4) d_M_go_11 (by decide))) (ax_fc (ax_w_iald hal d_M_go_12) (ax_fc (ax_v_so (ax_r_istore_n (i := 3) d_M_go_13 rfl)) (ax_fc (ax_v_ld (ax_r_iload_n (i := 1) d_M_go_14 rfl)) (ax_fc (ax_v_so (ax_r_istore d_M_go_15)) ax_fn)))))))) (y := (17, [(4, .inl (.int (a1))), (3, .inl (.int ((s1.1 g 1 ((4 : Int32)).toNatClampNeg)))), (0, .inr (0, 32)), (1, .inl (.int (a1))), (2, .inl (.int (a2)))], [], ax_m (s1) ρ)) rfl ⟨trivial, ⟨(h0 32 rfl), hr.1⟩, (hg 0 rfl), trivial, ⟨(hg 1 rfl), ax_inp b3⟩, trivial, trivial, trivial, trivial⟩ ?_
  obtain ⟨w14, hw14, h⟩ := ax_bd h
  refine ax_Lsub [2, 3, 4, 1, 0] rfl (pl_M_go_17 h0 hg hr hB F _ hw14 ?_)
  intro s8 e9
  subst w14
  try dsimp only at h
  change ax_R G 5 0 0 (46, [(0, .inr (0, 32)), (1, .inl (.int (a1))), (2, .inl (.int (a2))), (3, .inl (.int ((s1.1 g 1 ((4 : Int32)).toNatClampNeg))))], [], ax_m (s8) ρ)
  refine ax_bk hK (ax_fc (ax_v_ld (ax_r_iload_n (i := 1) d_M_go_46 rfl)) (ax_fc (ax_v_pu (ax_r_iconst (v := 1) d_M_go_47 (by decide))) (ax_fc (ax_v_pu (ax_r_isub d_M_go_48)) (ax_fc (ax_v_so (ax_r_istore d_M_go_49)) ax_fn)))) (y := (51, [(4, .inl (.int ((a1 - (1 : Int32))))), (0, .inr (0, 32)), (1, .inl (.int (a1))), (2, .inl (.int (a2))), (3, .inl (.int ((s1.1 g 1 ((4 : Int32)).toNatClampNeg))))], [], ax_m (s8) ρ)) rfl ⟨trivial, trivial, trivial, trivial, trivial⟩ ?_
  obtain ⟨w15, hw15, h⟩ := ax_bd h
  refine ax_Lsub [1, 3, 4, 0] rfl (pl_M_go_51 h0 hg hr hB F _ hw15 ?_)
  intro s13 e9
  subst w15
  try dsimp only at h
  change ax_R G 5 0 0 (80, [], [], ax_m (s13) ρ)
  cases h
  exact ax_vret hA d_M_go_80
