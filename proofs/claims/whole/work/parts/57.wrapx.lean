def y_W_number : MethodName := ⟨"CipherNotationLaw", "number", "(LCipherNotation;I[J)I"⟩
theorem d_W_number_0 : decode method_3_code 0 = .ok (.aload_n 2, 1) := by decide +kernel
theorem d_W_number_1 : decode method_3_code 1 = .ok (.iconst 0, 1) := by decide +kernel
theorem d_W_number_2 : decode method_3_code 2 = .ok (.aload_n 0, 1) := by decide +kernel
theorem d_W_number_3 : decode method_3_code 3 = .ok (.iload_n 1, 1) := by decide +kernel
theorem d_W_number_4 : decode method_3_code 4 = .ok (.invokevirtual (7), 3) := by decide +kernel
theorem d_W_number_7 : decode method_3_code 7 = .ok (.i2l, 1) := by decide +kernel
theorem d_W_number_8 : decode method_3_code 8 = .ok (.lastore, 1) := by decide +kernel
theorem d_W_number_9 : decode method_3_code 9 = .ok (.goto (9), 3) := by decide +kernel
theorem d_W_number_12 : decode method_3_code 12 = .ok (.astore_n 3, 1) := by decide +kernel
theorem d_W_number_13 : decode method_3_code 13 = .ok (.iconst 1, 1) := by decide +kernel
theorem d_W_number_14 : decode method_3_code 14 = .ok (.ireturn, 1) := by decide +kernel
theorem d_W_number_15 : decode method_3_code 15 = .ok (.astore_n 3, 1) := by decide +kernel
theorem d_W_number_16 : decode method_3_code 16 = .ok (.iconst 2, 1) := by decide +kernel
theorem d_W_number_17 : decode method_3_code 17 = .ok (.ireturn, 1) := by decide +kernel
theorem d_W_number_18 : decode method_3_code 18 = .ok (.iconst 0, 1) := by decide +kernel
theorem d_W_number_19 : decode method_3_code 19 = .ok (.ireturn, 1) := by decide +kernel
theorem cw_W_7 : ax_cw "CipherNotationLaw" 7 y_X_number (.code y_X_number prog_1_method_6_code 2 (some .int)) 1 := ⟨nw_3 148 (by decide +kernel) rfl, nw_1 1 (by decide +kernel) rfl, nw_3 151 rfl rfl, by decide +kernel, by decide +kernel⟩
theorem imw_X_number : Cond.instanceMethod y_X_number ∈ ax_tbl := nw_3 149 (by decide +kernel) rfl
theorem sew_X_number : Cond.selects y_X_number.cls y_X_number y_X_number ∈ ax_tbl := nw_3 150 (by decide +kernel) rfl
set_option maxHeartbeats 4000000 in
set_option maxRecDepth 100000 in
theorem t_W_number {l : Launch} {D : va_G} {cA : Nat → ClassId} {ad : Nat → Nat → Nat} {al : List (Nat × Nat)} {θ : ax_Θ} {ρ : ax_ρ} {g : Nat} (h0 : ax_M0 al) (hg : ax_Mg al g) (hr : ax_md ρ g) (hx : ρ 0 23 5 = some (g, 0)) {a1 : Int32} {s : ax_σ} {r0 : Int32} (h : f_X_number g a1 s = some r0) : ax_U l D cA ad al θ y_W_number (.codeWith y_W_number method_3_code 4 (some .int) [(0, 9, 12, 13), (0, 9, 15, 15)]) 8 [.inr (0, 23), .inl (.int a1), .inr (0, 37)] (ax_m s ρ) (some (.inl (.int 0))) (ax_m (s.1, ax_uL s.2 0 37 ((0 : Int32)).toNatClampNeg (r0.toInt64)) ρ) := by
  refine ax_U_of (own := "CipherNotationLaw") (by decide) rfl (Nat.le_of_ble_eq_true rfl) [(0, .inr (0, 23)), (1, .inl (.int a1)), (2, .inr (0, 37))] rfl ?_
  intro G hA
  have hK := hA.K
  have hal := hA.la
  refine ax_bk hK (ax_fc (ax_v_ld (ax_r_aload_n (i := 2) d_W_number_0 rfl)) (ax_fc (ax_v_pu (ax_r_iconst (v := 0) d_W_number_1 (by decide))) (ax_fc (ax_v_ld (ax_r_aload_n (i := 0) d_W_number_2 rfl)) (ax_fc (ax_v_ld (ax_r_iload_n (i := 1) d_W_number_3 rfl)) ax_fn)))) (y := (4, [(0, .inr (0, 23)), (1, .inl (.int a1)), (2, .inr (0, 37))], [.inl (.int a1), .inr (0, 23), .inl (.int (0 : Int32)), .inr (0, 37)], ax_m s ρ)) rfl ⟨trivial, trivial, trivial, trivial, trivial⟩ ?_
  refine ax_wV (rest := [.inl (.int (0 : Int32)), .inr (0, 37)]) hA (t_X_number h0 hg hr hx h) cw_W_7 imw_X_number sew_X_number d_W_number_4 (h0 23 rfl) rfl rfl (by decide) (by decide) rfl rfl (Nat.le_of_ble_eq_true rfl) ?_
  refine ax_bk hK (ax_fc (ax_v_pu (ax_r_i2l d_W_number_7)) (ax_fc (ax_w_last hal d_W_number_8) (ax_fc (ax_v_go (tgt := 18) d_W_number_9 (by decide)) (ax_fc (ax_v_pu (ax_r_iconst (v := 0) d_W_number_18 (by decide))) ax_fn)))) (y := (19, [(0, .inr (0, 23)), (1, .inl (.int a1)), (2, .inr (0, 37))], [.inl (.int (0 : Int32))], (ax_m (s.1, ax_uL s.2 0 37 ((0 : Int32)).toNatClampNeg (r0.toInt64)) ρ))) rfl ⟨trivial, ⟨h0 37 rfl, ax_inp (by decide)⟩, trivial, trivial, trivial⟩ ?_
  exact ax_wr hA d_W_number_19 (by decide) (by decide)
set_option maxHeartbeats 4000000 in
set_option maxRecDepth 100000 in
theorem x_W_number_0 {l : Launch} {D : va_G} {cA : Nat → ClassId} {ad : Nat → Nat → Nat} {al : List (Nat × Nat)} {θ : ax_Θ} {ρ : ax_ρ} {g : Nat} (hfl : l.flags = flags0) (h0 : ax_M0 al) (hx : ρ 0 23 5 = none) {a1 : Int32} {s : ax_σ} : ax_U l D cA ad al θ y_W_number (.codeWith y_W_number method_3_code 4 (some .int) [(0, 9, 12, 13), (0, 9, 15, 15)]) 8 [.inr (0, 23), .inl (.int a1), .inr (0, 37)] (ax_m s ρ) (some (.inl (.int 1))) (ax_m s ρ) := by
  refine ax_U_of (own := "CipherNotationLaw") (by decide) rfl (Nat.le_of_ble_eq_true rfl) [(0, .inr (0, 23)), (1, .inl (.int a1)), (2, .inr (0, 37))] rfl ?_
  intro G hA
  have hK := hA.K
  have hal := hA.la
  refine ax_bk hK (ax_fc (ax_v_ld (ax_r_aload_n (i := 2) d_W_number_0 rfl)) (ax_fc (ax_v_pu (ax_r_iconst (v := 0) d_W_number_1 (by decide))) (ax_fc (ax_v_ld (ax_r_aload_n (i := 0) d_W_number_2 rfl)) (ax_fc (ax_v_ld (ax_r_iload_n (i := 1) d_W_number_3 rfl)) ax_fn)))) (y := (4, [(0, .inr (0, 23)), (1, .inl (.int a1)), (2, .inr (0, 37))], [.inl (.int a1), .inr (0, 23), .inl (.int (0 : Int32)), .inr (0, 37)], ax_m s ρ)) rfl ⟨trivial, trivial, trivial, trivial, trivial⟩ ?_
  refine ax_wX (rest := [.inl (.int (0 : Int32)), .inr (0, 37)]) hA 0 rfl (fun z hz => by cases hz) (by decide) (by decide) (nw_3 146 (by decide +kernel) rfl) (by decide) (x_X_number_0 (g := 0) hfl h0 hx) cw_W_7 imw_X_number sew_X_number d_W_number_4 (h0 23 rfl) rfl rfl (by decide) (by decide) rfl rfl (Nat.le_of_ble_eq_true rfl) (fun q9 => ?_)
  refine ax_bk hK (ax_fc (ax_v_so (ax_r_astore_n (i := 3) d_W_number_12 rfl)) (ax_fc (ax_v_pu (ax_r_iconst (v := 1) d_W_number_13 (by decide))) ax_fn)) (y := (14, [(3, .inl (.ref q9)), (0, .inr (0, 23)), (1, .inl (.int a1)), (2, .inr (0, 37))], [.inl (.int (1 : Int32))], ax_m s ρ)) rfl ⟨trivial, trivial, trivial⟩ ?_
  exact ax_wr hA d_W_number_14 (by decide) (by decide)
set_option maxHeartbeats 4000000 in
set_option maxRecDepth 100000 in
theorem x_W_number_1 {l : Launch} {D : va_G} {cA : Nat → ClassId} {ad : Nat → Nat → Nat} {al : List (Nat × Nat)} {θ : ax_Θ} {ρ : ax_ρ} {g : Nat} (hfl : l.flags = flags0) (h0 : ax_M0 al) (hg : ax_Mg al g) (hx : ρ 0 23 5 = some (g, 0)) {a1 : Int32} {s : ax_σ} (h : a1 < 0 ∨ ¬ a1 < 8) : ax_U l D cA ad al θ y_W_number (.codeWith y_W_number method_3_code 4 (some .int) [(0, 9, 12, 13), (0, 9, 15, 15)]) 8 [.inr (0, 23), .inl (.int a1), .inr (0, 37)] (ax_m s ρ) (some (.inl (.int 2))) (ax_m s ρ) := by
  refine ax_U_of (own := "CipherNotationLaw") (by decide) rfl (Nat.le_of_ble_eq_true rfl) [(0, .inr (0, 23)), (1, .inl (.int a1)), (2, .inr (0, 37))] rfl ?_
  intro G hA
  have hK := hA.K
  have hal := hA.la
  refine ax_bk hK (ax_fc (ax_v_ld (ax_r_aload_n (i := 2) d_W_number_0 rfl)) (ax_fc (ax_v_pu (ax_r_iconst (v := 0) d_W_number_1 (by decide))) (ax_fc (ax_v_ld (ax_r_aload_n (i := 0) d_W_number_2 rfl)) (ax_fc (ax_v_ld (ax_r_iload_n (i := 1) d_W_number_3 rfl)) ax_fn)))) (y := (4, [(0, .inr (0, 23)), (1, .inl (.int a1)), (2, .inr (0, 37))], [.inl (.int a1), .inr (0, 23), .inl (.int (0 : Int32)), .inr (0, 37)], ax_m s ρ)) rfl ⟨trivial, trivial, trivial, trivial, trivial⟩ ?_
  refine ax_wX (rest := [.inl (.int (0 : Int32)), .inr (0, 37)]) hA 1 rfl (fun z hz => by
    simp only [List.take, List.mem_cons, List.not_mem_nil, or_false] at hz
    rcases hz with rfl
    · exact ⟨"java/lang/IllegalStateException", by decide, nw_3 146 (by decide +kernel) rfl, by decide⟩) (by decide) (by decide) (nw_3 147 (by decide +kernel) rfl) (by decide) (x_X_number_1 hfl h0 hg hx h) cw_W_7 imw_X_number sew_X_number d_W_number_4 (h0 23 rfl) rfl rfl (by decide) (by decide) rfl rfl (Nat.le_of_ble_eq_true rfl) (fun q9 => ?_)
  refine ax_bk hK (ax_fc (ax_v_so (ax_r_astore_n (i := 3) d_W_number_15 rfl)) (ax_fc (ax_v_pu (ax_r_iconst (v := 2) d_W_number_16 (by decide))) ax_fn)) (y := (17, [(3, .inl (.ref q9)), (0, .inr (0, 23)), (1, .inl (.int a1)), (2, .inr (0, 37))], [.inl (.int (2 : Int32))], ax_m s ρ)) rfl ⟨trivial, trivial, trivial⟩ ?_
  exact ax_wr hA d_W_number_17 (by decide) (by decide)
def y_W_table : MethodName := ⟨"CipherNotationLaw", "table", "(LCipherNotation;IIZ[J)I"⟩
theorem d_W_table_0 : decode method_4_code 0 = .ok (.aload (4), 2) := by decide +kernel
theorem d_W_table_2 : decode method_4_code 2 = .ok (.iconst 0, 1) := by decide +kernel
theorem d_W_table_3 : decode method_4_code 3 = .ok (.aload_n 0, 1) := by decide +kernel
theorem d_W_table_4 : decode method_4_code 4 = .ok (.iload_n 1, 1) := by decide +kernel
theorem d_W_table_5 : decode method_4_code 5 = .ok (.iload_n 2, 1) := by decide +kernel
theorem d_W_table_6 : decode method_4_code 6 = .ok (.iload_n 3, 1) := by decide +kernel
theorem d_W_table_7 : decode method_4_code 7 = .ok (.invokevirtual (17), 3) := by decide +kernel
theorem d_W_table_10 : decode method_4_code 10 = .ok (.i2l, 1) := by decide +kernel
theorem d_W_table_11 : decode method_4_code 11 = .ok (.lastore, 1) := by decide +kernel
theorem d_W_table_12 : decode method_4_code 12 = .ok (.goto (11), 3) := by decide +kernel
theorem d_W_table_15 : decode method_4_code 15 = .ok (.astore (5), 2) := by decide +kernel
theorem d_W_table_17 : decode method_4_code 17 = .ok (.iconst 1, 1) := by decide +kernel
theorem d_W_table_18 : decode method_4_code 18 = .ok (.ireturn, 1) := by decide +kernel
theorem d_W_table_19 : decode method_4_code 19 = .ok (.astore (5), 2) := by decide +kernel
theorem d_W_table_21 : decode method_4_code 21 = .ok (.iconst 2, 1) := by decide +kernel
theorem d_W_table_22 : decode method_4_code 22 = .ok (.ireturn, 1) := by decide +kernel
theorem d_W_table_23 : decode method_4_code 23 = .ok (.iconst 0, 1) := by decide +kernel
theorem d_W_table_24 : decode method_4_code 24 = .ok (.ireturn, 1) := by decide +kernel
theorem cw_W_17 : ax_cw "CipherNotationLaw" 17 y_X_table (.code y_X_table prog_1_method_8_code 5 (some .int)) 3 := ⟨nw_3 238 (by decide +kernel) rfl, nw_1 1 (by decide +kernel) rfl, nw_4 1 rfl rfl, by decide +kernel, by decide +kernel⟩
theorem imw_X_table : Cond.instanceMethod y_X_table ∈ ax_tbl := nw_3 239 (by decide +kernel) rfl
theorem sew_X_table : Cond.selects y_X_table.cls y_X_table y_X_table ∈ ax_tbl := nw_4 0 (by decide +kernel) rfl
set_option maxHeartbeats 4000000 in
set_option maxRecDepth 100000 in
theorem t_W_table {l : Launch} {D : va_G} {cA : Nat → ClassId} {ad : Nat → Nat → Nat} {al : List (Nat × Nat)} {θ : ax_Θ} {ρ : ax_ρ} {g : Nat} (h0 : ax_M0 al) (hg : ax_Mg al g) (hr : ax_md ρ g) (hx : ρ 0 23 5 = some (g, 0)) {a1 : Int32} {a2 : Int32} {a3 : Int32} {s : ax_σ} {r0 : Int32} (h : f_X_table g a1 a2 a3 s = some r0) : ax_U l D cA ad al θ y_W_table (.codeWith y_W_table method_4_code 6 (some .int) [(0, 12, 15, 13), (0, 12, 19, 21)]) 8 [.inr (0, 23), .inl (.int a1), .inl (.int a2), .inl (.int a3), .inr (0, 37)] (ax_m s ρ) (some (.inl (.int 0))) (ax_m (s.1, ax_uL s.2 0 37 ((0 : Int32)).toNatClampNeg (r0.toInt64)) ρ) := by
  refine ax_U_of (own := "CipherNotationLaw") (by decide) rfl (Nat.le_of_ble_eq_true rfl) [(0, .inr (0, 23)), (1, .inl (.int a1)), (2, .inl (.int a2)), (3, .inl (.int a3)), (4, .inr (0, 37))] rfl ?_
  intro G hA
  have hK := hA.K
  have hal := hA.la
  refine ax_bk hK (ax_fc (ax_v_ld (ax_r_aload d_W_table_0)) (ax_fc (ax_v_pu (ax_r_iconst (v := 0) d_W_table_2 (by decide))) (ax_fc (ax_v_ld (ax_r_aload_n (i := 0) d_W_table_3 rfl)) (ax_fc (ax_v_ld (ax_r_iload_n (i := 1) d_W_table_4 rfl)) (ax_fc (ax_v_ld (ax_r_iload_n (i := 2) d_W_table_5 rfl)) (ax_fc (ax_v_ld (ax_r_iload_n (i := 3) d_W_table_6 rfl)) ax_fn)))))) (y := (7, [(0, .inr (0, 23)), (1, .inl (.int a1)), (2, .inl (.int a2)), (3, .inl (.int a3)), (4, .inr (0, 37))], [.inl (.int a3), .inl (.int a2), .inl (.int a1), .inr (0, 23), .inl (.int (0 : Int32)), .inr (0, 37)], ax_m s ρ)) rfl ⟨trivial, trivial, trivial, trivial, trivial, trivial, trivial⟩ ?_
  refine ax_wV (rest := [.inl (.int (0 : Int32)), .inr (0, 37)]) hA (t_X_table h0 hg hr hx h) cw_W_17 imw_X_table sew_X_table d_W_table_7 (h0 23 rfl) rfl rfl (by decide) (by decide) rfl rfl (Nat.le_of_ble_eq_true rfl) ?_
  refine ax_bk hK (ax_fc (ax_v_pu (ax_r_i2l d_W_table_10)) (ax_fc (ax_w_last hal d_W_table_11) (ax_fc (ax_v_go (tgt := 23) d_W_table_12 (by decide)) (ax_fc (ax_v_pu (ax_r_iconst (v := 0) d_W_table_23 (by decide))) ax_fn)))) (y := (24, [(0, .inr (0, 23)), (1, .inl (.int a1)), (2, .inl (.int a2)), (3, .inl (.int a3)), (4, .inr (0, 37))], [.inl (.int (0 : Int32))], (ax_m (s.1, ax_uL s.2 0 37 ((0 : Int32)).toNatClampNeg (r0.toInt64)) ρ))) rfl ⟨trivial, ⟨h0 37 rfl, ax_inp (by decide)⟩, trivial, trivial, trivial⟩ ?_
  exact ax_wr hA d_W_table_24 (by decide) (by decide)
set_option maxHeartbeats 4000000 in
set_option maxRecDepth 100000 in
theorem x_W_table_0 {l : Launch} {D : va_G} {cA : Nat → ClassId} {ad : Nat → Nat → Nat} {al : List (Nat × Nat)} {θ : ax_Θ} {ρ : ax_ρ} {g : Nat} (hfl : l.flags = flags0) (h0 : ax_M0 al) (hx : ρ 0 23 5 = none) {a1 : Int32} {a2 : Int32} {a3 : Int32} {s : ax_σ} : ax_U l D cA ad al θ y_W_table (.codeWith y_W_table method_4_code 6 (some .int) [(0, 12, 15, 13), (0, 12, 19, 21)]) 8 [.inr (0, 23), .inl (.int a1), .inl (.int a2), .inl (.int a3), .inr (0, 37)] (ax_m s ρ) (some (.inl (.int 1))) (ax_m s ρ) := by
  refine ax_U_of (own := "CipherNotationLaw") (by decide) rfl (Nat.le_of_ble_eq_true rfl) [(0, .inr (0, 23)), (1, .inl (.int a1)), (2, .inl (.int a2)), (3, .inl (.int a3)), (4, .inr (0, 37))] rfl ?_
  intro G hA
  have hK := hA.K
  have hal := hA.la
  refine ax_bk hK (ax_fc (ax_v_ld (ax_r_aload d_W_table_0)) (ax_fc (ax_v_pu (ax_r_iconst (v := 0) d_W_table_2 (by decide))) (ax_fc (ax_v_ld (ax_r_aload_n (i := 0) d_W_table_3 rfl)) (ax_fc (ax_v_ld (ax_r_iload_n (i := 1) d_W_table_4 rfl)) (ax_fc (ax_v_ld (ax_r_iload_n (i := 2) d_W_table_5 rfl)) (ax_fc (ax_v_ld (ax_r_iload_n (i := 3) d_W_table_6 rfl)) ax_fn)))))) (y := (7, [(0, .inr (0, 23)), (1, .inl (.int a1)), (2, .inl (.int a2)), (3, .inl (.int a3)), (4, .inr (0, 37))], [.inl (.int a3), .inl (.int a2), .inl (.int a1), .inr (0, 23), .inl (.int (0 : Int32)), .inr (0, 37)], ax_m s ρ)) rfl ⟨trivial, trivial, trivial, trivial, trivial, trivial, trivial⟩ ?_
  refine ax_wX (rest := [.inl (.int (0 : Int32)), .inr (0, 37)]) hA 0 rfl (fun z hz => by cases hz) (by decide) (by decide) (nw_3 146 (by decide +kernel) rfl) (by decide) (x_X_table_0 (g := 0) hfl h0 hx) cw_W_17 imw_X_table sew_X_table d_W_table_7 (h0 23 rfl) rfl rfl (by decide) (by decide) rfl rfl (Nat.le_of_ble_eq_true rfl) (fun q9 => ?_)
  refine ax_bk hK (ax_fc (ax_v_so (ax_r_astore d_W_table_15)) (ax_fc (ax_v_pu (ax_r_iconst (v := 1) d_W_table_17 (by decide))) ax_fn)) (y := (18, [(5, .inl (.ref q9)), (0, .inr (0, 23)), (1, .inl (.int a1)), (2, .inl (.int a2)), (3, .inl (.int a3)), (4, .inr (0, 37))], [.inl (.int (1 : Int32))], ax_m s ρ)) rfl ⟨trivial, trivial, trivial⟩ ?_
  exact ax_wr hA d_W_table_18 (by decide) (by decide)
set_option maxHeartbeats 4000000 in
set_option maxRecDepth 100000 in
theorem x_W_table_1 {l : Launch} {D : va_G} {cA : Nat → ClassId} {ad : Nat → Nat → Nat} {al : List (Nat × Nat)} {θ : ax_Θ} {ρ : ax_ρ} {g : Nat} (hfl : l.flags = flags0) (h0 : ax_M0 al) (hg : ax_Mg al g) (hx : ρ 0 23 5 = some (g, 0)) {a1 : Int32} {a2 : Int32} {a3 : Int32} {s : ax_σ} (h : f_X_needIndex a1 (s.1 g 1 ((3 : Int32)).toNatClampNeg) = none) : ax_U l D cA ad al θ y_W_table (.codeWith y_W_table method_4_code 6 (some .int) [(0, 12, 15, 13), (0, 12, 19, 21)]) 8 [.inr (0, 23), .inl (.int a1), .inl (.int a2), .inl (.int a3), .inr (0, 37)] (ax_m s ρ) (some (.inl (.int 2))) (ax_m s ρ) := by
  refine ax_U_of (own := "CipherNotationLaw") (by decide) rfl (Nat.le_of_ble_eq_true rfl) [(0, .inr (0, 23)), (1, .inl (.int a1)), (2, .inl (.int a2)), (3, .inl (.int a3)), (4, .inr (0, 37))] rfl ?_
  intro G hA
  have hK := hA.K
  have hal := hA.la
  refine ax_bk hK (ax_fc (ax_v_ld (ax_r_aload d_W_table_0)) (ax_fc (ax_v_pu (ax_r_iconst (v := 0) d_W_table_2 (by decide))) (ax_fc (ax_v_ld (ax_r_aload_n (i := 0) d_W_table_3 rfl)) (ax_fc (ax_v_ld (ax_r_iload_n (i := 1) d_W_table_4 rfl)) (ax_fc (ax_v_ld (ax_r_iload_n (i := 2) d_W_table_5 rfl)) (ax_fc (ax_v_ld (ax_r_iload_n (i := 3) d_W_table_6 rfl)) ax_fn)))))) (y := (7, [(0, .inr (0, 23)), (1, .inl (.int a1)), (2, .inl (.int a2)), (3, .inl (.int a3)), (4, .inr (0, 37))], [.inl (.int a3), .inl (.int a2), .inl (.int a1), .inr (0, 23), .inl (.int (0 : Int32)), .inr (0, 37)], ax_m s ρ)) rfl ⟨trivial, trivial, trivial, trivial, trivial, trivial, trivial⟩ ?_
  refine ax_wX (rest := [.inl (.int (0 : Int32)), .inr (0, 37)]) hA 1 rfl (fun z hz => by
    simp only [List.take, List.mem_cons, List.not_mem_nil, or_false] at hz
    rcases hz with rfl
    · exact ⟨"java/lang/IllegalStateException", by decide, nw_3 146 (by decide +kernel) rfl, by decide⟩) (by decide) (by decide) (nw_3 237 (by decide +kernel) rfl) (by decide) (x_X_table_1 hfl h0 hg hx h) cw_W_17 imw_X_table sew_X_table d_W_table_7 (h0 23 rfl) rfl rfl (by decide) (by decide) rfl rfl (Nat.le_of_ble_eq_true rfl) (fun q9 => ?_)
  refine ax_bk hK (ax_fc (ax_v_so (ax_r_astore d_W_table_19)) (ax_fc (ax_v_pu (ax_r_iconst (v := 2) d_W_table_21 (by decide))) ax_fn)) (y := (22, [(5, .inl (.ref q9)), (0, .inr (0, 23)), (1, .inl (.int a1)), (2, .inl (.int a2)), (3, .inl (.int a3)), (4, .inr (0, 37))], [.inl (.int (2 : Int32))], ax_m s ρ)) rfl ⟨trivial, trivial, trivial⟩ ?_
  exact ax_wr hA d_W_table_22 (by decide) (by decide)
set_option maxHeartbeats 4000000 in
set_option maxRecDepth 100000 in
theorem x_W_table_2 {l : Launch} {D : va_G} {cA : Nat → ClassId} {ad : Nat → Nat → Nat} {al : List (Nat × Nat)} {θ : ax_Θ} {ρ : ax_ρ} {g : Nat} (hfl : l.flags = flags0) (h0 : ax_M0 al) (hg : ax_Mg al g) (hx : ρ 0 23 5 = some (g, 0)) {a1 : Int32} {a2 : Int32} {a3 : Int32} {s : ax_σ} (h1 : f_X_needIndex a1 (s.1 g 1 ((3 : Int32)).toNatClampNeg) = some ()) (h : f_X_needIndex a2 16 = none) : ax_U l D cA ad al θ y_W_table (.codeWith y_W_table method_4_code 6 (some .int) [(0, 12, 15, 13), (0, 12, 19, 21)]) 8 [.inr (0, 23), .inl (.int a1), .inl (.int a2), .inl (.int a3), .inr (0, 37)] (ax_m s ρ) (some (.inl (.int 2))) (ax_m s ρ) := by
  refine ax_U_of (own := "CipherNotationLaw") (by decide) rfl (Nat.le_of_ble_eq_true rfl) [(0, .inr (0, 23)), (1, .inl (.int a1)), (2, .inl (.int a2)), (3, .inl (.int a3)), (4, .inr (0, 37))] rfl ?_
  intro G hA
  have hK := hA.K
  have hal := hA.la
  refine ax_bk hK (ax_fc (ax_v_ld (ax_r_aload d_W_table_0)) (ax_fc (ax_v_pu (ax_r_iconst (v := 0) d_W_table_2 (by decide))) (ax_fc (ax_v_ld (ax_r_aload_n (i := 0) d_W_table_3 rfl)) (ax_fc (ax_v_ld (ax_r_iload_n (i := 1) d_W_table_4 rfl)) (ax_fc (ax_v_ld (ax_r_iload_n (i := 2) d_W_table_5 rfl)) (ax_fc (ax_v_ld (ax_r_iload_n (i := 3) d_W_table_6 rfl)) ax_fn)))))) (y := (7, [(0, .inr (0, 23)), (1, .inl (.int a1)), (2, .inl (.int a2)), (3, .inl (.int a3)), (4, .inr (0, 37))], [.inl (.int a3), .inl (.int a2), .inl (.int a1), .inr (0, 23), .inl (.int (0 : Int32)), .inr (0, 37)], ax_m s ρ)) rfl ⟨trivial, trivial, trivial, trivial, trivial, trivial, trivial⟩ ?_
  refine ax_wX (rest := [.inl (.int (0 : Int32)), .inr (0, 37)]) hA 1 rfl (fun z hz => by
    simp only [List.take, List.mem_cons, List.not_mem_nil, or_false] at hz
    rcases hz with rfl
    · exact ⟨"java/lang/IllegalStateException", by decide, nw_3 146 (by decide +kernel) rfl, by decide⟩) (by decide) (by decide) (nw_3 237 (by decide +kernel) rfl) (by decide) (x_X_table_2 hfl h0 hg hx h1 h) cw_W_17 imw_X_table sew_X_table d_W_table_7 (h0 23 rfl) rfl rfl (by decide) (by decide) rfl rfl (Nat.le_of_ble_eq_true rfl) (fun q9 => ?_)
  refine ax_bk hK (ax_fc (ax_v_so (ax_r_astore d_W_table_19)) (ax_fc (ax_v_pu (ax_r_iconst (v := 2) d_W_table_21 (by decide))) ax_fn)) (y := (22, [(5, .inl (.ref q9)), (0, .inr (0, 23)), (1, .inl (.int a1)), (2, .inl (.int a2)), (3, .inl (.int a3)), (4, .inr (0, 37))], [.inl (.int (2 : Int32))], ax_m s ρ)) rfl ⟨trivial, trivial, trivial⟩ ?_
  exact ax_wr hA d_W_table_22 (by decide) (by decide)
def y_W_key : MethodName := ⟨"CipherNotationLaw", "key", "(LCipherNotation;IJ[J)I"⟩
theorem d_W_key_0 : decode method_5_code 0 = .ok (.aload (4), 2) := by decide +kernel
theorem d_W_key_2 : decode method_5_code 2 = .ok (.iconst 0, 1) := by decide +kernel
theorem d_W_key_3 : decode method_5_code 3 = .ok (.aload_n 0, 1) := by decide +kernel
theorem d_W_key_4 : decode method_5_code 4 = .ok (.iload_n 1, 1) := by decide +kernel
theorem d_W_key_5 : decode method_5_code 5 = .ok (.lload_n 2, 1) := by decide +kernel
theorem d_W_key_6 : decode method_5_code 6 = .ok (.invokevirtual (23), 3) := by decide +kernel
theorem d_W_key_9 : decode method_5_code 9 = .ok (.lastore, 1) := by decide +kernel
theorem d_W_key_10 : decode method_5_code 10 = .ok (.goto (15), 3) := by decide +kernel
theorem d_W_key_13 : decode method_5_code 13 = .ok (.astore (5), 2) := by decide +kernel
theorem d_W_key_15 : decode method_5_code 15 = .ok (.iconst 1, 1) := by decide +kernel
theorem d_W_key_16 : decode method_5_code 16 = .ok (.ireturn, 1) := by decide +kernel
theorem d_W_key_17 : decode method_5_code 17 = .ok (.astore (5), 2) := by decide +kernel
theorem d_W_key_19 : decode method_5_code 19 = .ok (.iconst 2, 1) := by decide +kernel
theorem d_W_key_20 : decode method_5_code 20 = .ok (.ireturn, 1) := by decide +kernel
theorem d_W_key_21 : decode method_5_code 21 = .ok (.astore (5), 2) := by decide +kernel
theorem d_W_key_23 : decode method_5_code 23 = .ok (.iconst 3, 1) := by decide +kernel
theorem d_W_key_24 : decode method_5_code 24 = .ok (.ireturn, 1) := by decide +kernel
theorem d_W_key_25 : decode method_5_code 25 = .ok (.iconst 0, 1) := by decide +kernel
theorem d_W_key_26 : decode method_5_code 26 = .ok (.ireturn, 1) := by decide +kernel
theorem cw_W_23 : ax_cw "CipherNotationLaw" 23 y_X_key (.code y_X_key prog_1_method_9_code 6 (some .long)) 2 := ⟨nw_4 23 (by decide +kernel) rfl, nw_1 1 (by decide +kernel) rfl, nw_4 26 rfl rfl, by decide +kernel, by decide +kernel⟩
theorem imw_X_key : Cond.instanceMethod y_X_key ∈ ax_tbl := nw_4 24 (by decide +kernel) rfl
theorem sew_X_key : Cond.selects y_X_key.cls y_X_key y_X_key ∈ ax_tbl := nw_4 25 (by decide +kernel) rfl
set_option maxHeartbeats 4000000 in
set_option maxRecDepth 100000 in
theorem t_W_key {l : Launch} {D : va_G} {cA : Nat → ClassId} {ad : Nat → Nat → Nat} {al : List (Nat × Nat)} {θ : ax_Θ} {ρ : ax_ρ} {g : Nat} (h0 : ax_M0 al) (hg : ax_Mg al g) (hr : ax_md ρ g) (hx : ρ 0 23 5 = some (g, 0)) {a1 : Int32} {a2 : Int64} {s : ax_σ} {r0 : Int64} {s0 : ax_σ} (h : f_X_key g a1 a2 s = some (r0, s0)) : ax_U l D cA ad al θ y_W_key (.codeWith y_W_key method_5_code 6 (some .int) [(0, 10, 13, 13), (0, 10, 17, 21), (0, 10, 21, 15)]) 8 [.inr (0, 23), .inl (.int a1), .inl (.long a2), .inr (0, 37)] (ax_m s ρ) (some (.inl (.int 0))) (ax_m (s0.1, ax_uL s0.2 0 37 ((0 : Int32)).toNatClampNeg (r0)) ρ) := by
  refine ax_U_of (own := "CipherNotationLaw") (by decide) rfl (Nat.le_of_ble_eq_true rfl) [(0, .inr (0, 23)), (1, .inl (.int a1)), (2, .inl (.long a2)), (4, .inr (0, 37))] rfl ?_
  intro G hA
  have hK := hA.K
  have hal := hA.la
  refine ax_bk hK (ax_fc (ax_v_ld (ax_r_aload d_W_key_0)) (ax_fc (ax_v_pu (ax_r_iconst (v := 0) d_W_key_2 (by decide))) (ax_fc (ax_v_ld (ax_r_aload_n (i := 0) d_W_key_3 rfl)) (ax_fc (ax_v_ld (ax_r_iload_n (i := 1) d_W_key_4 rfl)) (ax_fc (ax_v_ld (ax_r_lload_n (i := 2) d_W_key_5 rfl)) ax_fn))))) (y := (6, [(0, .inr (0, 23)), (1, .inl (.int a1)), (2, .inl (.long a2)), (4, .inr (0, 37))], [.inl (.long a2), .inl (.int a1), .inr (0, 23), .inl (.int (0 : Int32)), .inr (0, 37)], ax_m s ρ)) rfl ⟨trivial, trivial, trivial, trivial, trivial, trivial⟩ ?_
  refine ax_wV (rest := [.inl (.int (0 : Int32)), .inr (0, 37)]) hA (t_X_key h0 hg hr hx h) cw_W_23 imw_X_key sew_X_key d_W_key_6 (h0 23 rfl) rfl rfl (by decide) (by decide) rfl rfl (Nat.le_of_ble_eq_true rfl) ?_
  refine ax_bk hK (ax_fc (ax_w_last hal d_W_key_9) (ax_fc (ax_v_go (tgt := 25) d_W_key_10 (by decide)) (ax_fc (ax_v_pu (ax_r_iconst (v := 0) d_W_key_25 (by decide))) ax_fn))) (y := (26, [(0, .inr (0, 23)), (1, .inl (.int a1)), (2, .inl (.long a2)), (4, .inr (0, 37))], [.inl (.int (0 : Int32))], (ax_m (s0.1, ax_uL s0.2 0 37 ((0 : Int32)).toNatClampNeg (r0)) ρ))) rfl ⟨⟨h0 37 rfl, ax_inp (by decide)⟩, trivial, trivial, trivial⟩ ?_
  exact ax_wr hA d_W_key_26 (by decide) (by decide)
set_option maxHeartbeats 4000000 in
set_option maxRecDepth 100000 in
theorem x_W_key_0 {l : Launch} {D : va_G} {cA : Nat → ClassId} {ad : Nat → Nat → Nat} {al : List (Nat × Nat)} {θ : ax_Θ} {ρ : ax_ρ} {g : Nat} (hfl : l.flags = flags0) (h0 : ax_M0 al) (hx : ρ 0 23 5 = none) {a1 : Int32} {a2 : Int64} {s : ax_σ} : ax_U l D cA ad al θ y_W_key (.codeWith y_W_key method_5_code 6 (some .int) [(0, 10, 13, 13), (0, 10, 17, 21), (0, 10, 21, 15)]) 8 [.inr (0, 23), .inl (.int a1), .inl (.long a2), .inr (0, 37)] (ax_m s ρ) (some (.inl (.int 1))) (ax_m s ρ) := by
  refine ax_U_of (own := "CipherNotationLaw") (by decide) rfl (Nat.le_of_ble_eq_true rfl) [(0, .inr (0, 23)), (1, .inl (.int a1)), (2, .inl (.long a2)), (4, .inr (0, 37))] rfl ?_
  intro G hA
  have hK := hA.K
  have hal := hA.la
  refine ax_bk hK (ax_fc (ax_v_ld (ax_r_aload d_W_key_0)) (ax_fc (ax_v_pu (ax_r_iconst (v := 0) d_W_key_2 (by decide))) (ax_fc (ax_v_ld (ax_r_aload_n (i := 0) d_W_key_3 rfl)) (ax_fc (ax_v_ld (ax_r_iload_n (i := 1) d_W_key_4 rfl)) (ax_fc (ax_v_ld (ax_r_lload_n (i := 2) d_W_key_5 rfl)) ax_fn))))) (y := (6, [(0, .inr (0, 23)), (1, .inl (.int a1)), (2, .inl (.long a2)), (4, .inr (0, 37))], [.inl (.long a2), .inl (.int a1), .inr (0, 23), .inl (.int (0 : Int32)), .inr (0, 37)], ax_m s ρ)) rfl ⟨trivial, trivial, trivial, trivial, trivial, trivial⟩ ?_
  refine ax_wX (rest := [.inl (.int (0 : Int32)), .inr (0, 37)]) hA 0 rfl (fun z hz => by cases hz) (by decide) (by decide) (nw_3 146 (by decide +kernel) rfl) (by decide) (x_X_key_0 (g := 0) hfl h0 hx) cw_W_23 imw_X_key sew_X_key d_W_key_6 (h0 23 rfl) rfl rfl (by decide) (by decide) rfl rfl (Nat.le_of_ble_eq_true rfl) (fun q9 => ?_)
  refine ax_bk hK (ax_fc (ax_v_so (ax_r_astore d_W_key_13)) (ax_fc (ax_v_pu (ax_r_iconst (v := 1) d_W_key_15 (by decide))) ax_fn)) (y := (16, [(5, .inl (.ref q9)), (0, .inr (0, 23)), (1, .inl (.int a1)), (2, .inl (.long a2)), (4, .inr (0, 37))], [.inl (.int (1 : Int32))], ax_m s ρ)) rfl ⟨trivial, trivial, trivial⟩ ?_
  exact ax_wr hA d_W_key_16 (by decide) (by decide)
set_option maxHeartbeats 4000000 in
set_option maxRecDepth 100000 in
theorem x_W_key_1 {l : Launch} {D : va_G} {cA : Nat → ClassId} {ad : Nat → Nat → Nat} {al : List (Nat × Nat)} {θ : ax_Θ} {ρ : ax_ρ} {g : Nat} (hfl : l.flags = flags0) (h0 : ax_M0 al) (hg : ax_Mg al g) (hx : ρ 0 23 5 = some (g, 0)) {a1 : Int32} {a2 : Int64} {s : ax_σ} (h : f_X_needIndex a1 (s.1 g 1 ((2 : Int32)).toNatClampNeg) = none) : ax_U l D cA ad al θ y_W_key (.codeWith y_W_key method_5_code 6 (some .int) [(0, 10, 13, 13), (0, 10, 17, 21), (0, 10, 21, 15)]) 8 [.inr (0, 23), .inl (.int a1), .inl (.long a2), .inr (0, 37)] (ax_m s ρ) (some (.inl (.int 2))) (ax_m s ρ) := by
  refine ax_U_of (own := "CipherNotationLaw") (by decide) rfl (Nat.le_of_ble_eq_true rfl) [(0, .inr (0, 23)), (1, .inl (.int a1)), (2, .inl (.long a2)), (4, .inr (0, 37))] rfl ?_
  intro G hA
  have hK := hA.K
  have hal := hA.la
  refine ax_bk hK (ax_fc (ax_v_ld (ax_r_aload d_W_key_0)) (ax_fc (ax_v_pu (ax_r_iconst (v := 0) d_W_key_2 (by decide))) (ax_fc (ax_v_ld (ax_r_aload_n (i := 0) d_W_key_3 rfl)) (ax_fc (ax_v_ld (ax_r_iload_n (i := 1) d_W_key_4 rfl)) (ax_fc (ax_v_ld (ax_r_lload_n (i := 2) d_W_key_5 rfl)) ax_fn))))) (y := (6, [(0, .inr (0, 23)), (1, .inl (.int a1)), (2, .inl (.long a2)), (4, .inr (0, 37))], [.inl (.long a2), .inl (.int a1), .inr (0, 23), .inl (.int (0 : Int32)), .inr (0, 37)], ax_m s ρ)) rfl ⟨trivial, trivial, trivial, trivial, trivial, trivial⟩ ?_
  refine ax_wX (rest := [.inl (.int (0 : Int32)), .inr (0, 37)]) hA 1 rfl (fun z hz => by
    simp only [List.take, List.mem_cons, List.not_mem_nil, or_false] at hz
    rcases hz with rfl
    · exact ⟨"java/lang/IllegalStateException", by decide, nw_3 146 (by decide +kernel) rfl, by decide⟩) (by decide) (by decide) (nw_3 237 (by decide +kernel) rfl) (by decide) (x_X_key_1 hfl h0 hg hx h) cw_W_23 imw_X_key sew_X_key d_W_key_6 (h0 23 rfl) rfl rfl (by decide) (by decide) rfl rfl (Nat.le_of_ble_eq_true rfl) (fun q9 => ?_)
  refine ax_bk hK (ax_fc (ax_v_so (ax_r_astore d_W_key_17)) (ax_fc (ax_v_pu (ax_r_iconst (v := 2) d_W_key_19 (by decide))) ax_fn)) (y := (20, [(5, .inl (.ref q9)), (0, .inr (0, 23)), (1, .inl (.int a1)), (2, .inl (.long a2)), (4, .inr (0, 37))], [.inl (.int (2 : Int32))], ax_m s ρ)) rfl ⟨trivial, trivial, trivial⟩ ?_
  exact ax_wr hA d_W_key_20 (by decide) (by decide)
set_option maxHeartbeats 4000000 in
set_option maxRecDepth 100000 in
theorem x_W_key_2 {l : Launch} {D : va_G} {cA : Nat → ClassId} {ad : Nat → Nat → Nat} {al : List (Nat × Nat)} {θ : ax_Θ} {ρ : ax_ρ} {g : Nat} (hfl : l.flags = flags0) (h0 : ax_M0 al) (hg : ax_Mg al g) (hx : ρ 0 23 5 = some (g, 0)) {a1 : Int32} {a2 : Int64} {s : ax_σ} (h1 : f_X_needIndex a1 (s.1 g 1 ((2 : Int32)).toNatClampNeg) = some ()) (h : f_X_needWord a2 s = none) : ax_U l D cA ad al θ y_W_key (.codeWith y_W_key method_5_code 6 (some .int) [(0, 10, 13, 13), (0, 10, 17, 21), (0, 10, 21, 15)]) 8 [.inr (0, 23), .inl (.int a1), .inl (.long a2), .inr (0, 37)] (ax_m s ρ) (some (.inl (.int 3))) (ax_m s ρ) := by
  refine ax_U_of (own := "CipherNotationLaw") (by decide) rfl (Nat.le_of_ble_eq_true rfl) [(0, .inr (0, 23)), (1, .inl (.int a1)), (2, .inl (.long a2)), (4, .inr (0, 37))] rfl ?_
  intro G hA
  have hK := hA.K
  have hal := hA.la
  refine ax_bk hK (ax_fc (ax_v_ld (ax_r_aload d_W_key_0)) (ax_fc (ax_v_pu (ax_r_iconst (v := 0) d_W_key_2 (by decide))) (ax_fc (ax_v_ld (ax_r_aload_n (i := 0) d_W_key_3 rfl)) (ax_fc (ax_v_ld (ax_r_iload_n (i := 1) d_W_key_4 rfl)) (ax_fc (ax_v_ld (ax_r_lload_n (i := 2) d_W_key_5 rfl)) ax_fn))))) (y := (6, [(0, .inr (0, 23)), (1, .inl (.int a1)), (2, .inl (.long a2)), (4, .inr (0, 37))], [.inl (.long a2), .inl (.int a1), .inr (0, 23), .inl (.int (0 : Int32)), .inr (0, 37)], ax_m s ρ)) rfl ⟨trivial, trivial, trivial, trivial, trivial, trivial⟩ ?_
  refine ax_wX (rest := [.inl (.int (0 : Int32)), .inr (0, 37)]) hA 2 rfl (fun z hz => by
    simp only [List.take, List.mem_cons, List.not_mem_nil, or_false] at hz
    rcases hz with rfl | rfl
    · exact ⟨"java/lang/IllegalStateException", by decide, nw_3 146 (by decide +kernel) rfl, by decide⟩
    · exact ⟨"java/lang/IndexOutOfBoundsException", by decide, nw_3 237 (by decide +kernel) rfl, by decide⟩) (by decide) (by decide) (nw_3 147 (by decide +kernel) rfl) (by decide) (x_X_key_2 hfl h0 hg hx h1 h) cw_W_23 imw_X_key sew_X_key d_W_key_6 (h0 23 rfl) rfl rfl (by decide) (by decide) rfl rfl (Nat.le_of_ble_eq_true rfl) (fun q9 => ?_)
  refine ax_bk hK (ax_fc (ax_v_so (ax_r_astore d_W_key_21)) (ax_fc (ax_v_pu (ax_r_iconst (v := 3) d_W_key_23 (by decide))) ax_fn)) (y := (24, [(5, .inl (.ref q9)), (0, .inr (0, 23)), (1, .inl (.int a1)), (2, .inl (.long a2)), (4, .inr (0, 37))], [.inl (.int (3 : Int32))], ax_m s ρ)) rfl ⟨trivial, trivial, trivial⟩ ?_
  exact ax_wr hA d_W_key_24 (by decide) (by decide)
def y_W_state : MethodName := ⟨"CipherNotationLaw", "state", "(LCipherNotation;IJ[J)I"⟩
theorem d_W_state_0 : decode method_6_code 0 = .ok (.aload (4), 2) := by decide +kernel
theorem d_W_state_2 : decode method_6_code 2 = .ok (.iconst 0, 1) := by decide +kernel
theorem d_W_state_3 : decode method_6_code 3 = .ok (.aload_n 0, 1) := by decide +kernel
theorem d_W_state_4 : decode method_6_code 4 = .ok (.iload_n 1, 1) := by decide +kernel
theorem d_W_state_5 : decode method_6_code 5 = .ok (.lload_n 2, 1) := by decide +kernel
theorem d_W_state_6 : decode method_6_code 6 = .ok (.invokevirtual (27), 3) := by decide +kernel
theorem d_W_state_9 : decode method_6_code 9 = .ok (.lastore, 1) := by decide +kernel
theorem d_W_state_10 : decode method_6_code 10 = .ok (.goto (15), 3) := by decide +kernel
theorem d_W_state_13 : decode method_6_code 13 = .ok (.astore (5), 2) := by decide +kernel
theorem d_W_state_15 : decode method_6_code 15 = .ok (.iconst 1, 1) := by decide +kernel
theorem d_W_state_16 : decode method_6_code 16 = .ok (.ireturn, 1) := by decide +kernel
theorem d_W_state_17 : decode method_6_code 17 = .ok (.astore (5), 2) := by decide +kernel
theorem d_W_state_19 : decode method_6_code 19 = .ok (.iconst 2, 1) := by decide +kernel
theorem d_W_state_20 : decode method_6_code 20 = .ok (.ireturn, 1) := by decide +kernel
theorem d_W_state_21 : decode method_6_code 21 = .ok (.astore (5), 2) := by decide +kernel
theorem d_W_state_23 : decode method_6_code 23 = .ok (.iconst 3, 1) := by decide +kernel
theorem d_W_state_24 : decode method_6_code 24 = .ok (.ireturn, 1) := by decide +kernel
theorem d_W_state_25 : decode method_6_code 25 = .ok (.iconst 0, 1) := by decide +kernel
theorem d_W_state_26 : decode method_6_code 26 = .ok (.ireturn, 1) := by decide +kernel
theorem cw_W_27 : ax_cw "CipherNotationLaw" 27 y_X_state (.code y_X_state prog_1_method_10_code 6 (some .long)) 2 := ⟨nw_4 35 (by decide +kernel) rfl, nw_1 1 (by decide +kernel) rfl, nw_4 38 rfl rfl, by decide +kernel, by decide +kernel⟩
theorem imw_X_state : Cond.instanceMethod y_X_state ∈ ax_tbl := nw_4 36 (by decide +kernel) rfl
theorem sew_X_state : Cond.selects y_X_state.cls y_X_state y_X_state ∈ ax_tbl := nw_4 37 (by decide +kernel) rfl
set_option maxHeartbeats 4000000 in
set_option maxRecDepth 100000 in
theorem t_W_state {l : Launch} {D : va_G} {cA : Nat → ClassId} {ad : Nat → Nat → Nat} {al : List (Nat × Nat)} {θ : ax_Θ} {ρ : ax_ρ} {g : Nat} (h0 : ax_M0 al) (hg : ax_Mg al g) (hr : ax_md ρ g) (hx : ρ 0 23 5 = some (g, 0)) {a1 : Int32} {a2 : Int64} {s : ax_σ} {r0 : Int64} {s0 : ax_σ} (h : f_X_state g a1 a2 s = some (r0, s0)) : ax_U l D cA ad al θ y_W_state (.codeWith y_W_state method_6_code 6 (some .int) [(0, 10, 13, 13), (0, 10, 17, 21), (0, 10, 21, 15)]) 8 [.inr (0, 23), .inl (.int a1), .inl (.long a2), .inr (0, 37)] (ax_m s ρ) (some (.inl (.int 0))) (ax_m (s0.1, ax_uL s0.2 0 37 ((0 : Int32)).toNatClampNeg (r0)) ρ) := by
  refine ax_U_of (own := "CipherNotationLaw") (by decide) rfl (Nat.le_of_ble_eq_true rfl) [(0, .inr (0, 23)), (1, .inl (.int a1)), (2, .inl (.long a2)), (4, .inr (0, 37))] rfl ?_
  intro G hA
  have hK := hA.K
  have hal := hA.la
  refine ax_bk hK (ax_fc (ax_v_ld (ax_r_aload d_W_state_0)) (ax_fc (ax_v_pu (ax_r_iconst (v := 0) d_W_state_2 (by decide))) (ax_fc (ax_v_ld (ax_r_aload_n (i := 0) d_W_state_3 rfl)) (ax_fc (ax_v_ld (ax_r_iload_n (i := 1) d_W_state_4 rfl)) (ax_fc (ax_v_ld (ax_r_lload_n (i := 2) d_W_state_5 rfl)) ax_fn))))) (y := (6, [(0, .inr (0, 23)), (1, .inl (.int a1)), (2, .inl (.long a2)), (4, .inr (0, 37))], [.inl (.long a2), .inl (.int a1), .inr (0, 23), .inl (.int (0 : Int32)), .inr (0, 37)], ax_m s ρ)) rfl ⟨trivial, trivial, trivial, trivial, trivial, trivial⟩ ?_
  refine ax_wV (rest := [.inl (.int (0 : Int32)), .inr (0, 37)]) hA (t_X_state h0 hg hr hx h) cw_W_27 imw_X_state sew_X_state d_W_state_6 (h0 23 rfl) rfl rfl (by decide) (by decide) rfl rfl (Nat.le_of_ble_eq_true rfl) ?_
  refine ax_bk hK (ax_fc (ax_w_last hal d_W_state_9) (ax_fc (ax_v_go (tgt := 25) d_W_state_10 (by decide)) (ax_fc (ax_v_pu (ax_r_iconst (v := 0) d_W_state_25 (by decide))) ax_fn))) (y := (26, [(0, .inr (0, 23)), (1, .inl (.int a1)), (2, .inl (.long a2)), (4, .inr (0, 37))], [.inl (.int (0 : Int32))], (ax_m (s0.1, ax_uL s0.2 0 37 ((0 : Int32)).toNatClampNeg (r0)) ρ))) rfl ⟨⟨h0 37 rfl, ax_inp (by decide)⟩, trivial, trivial, trivial⟩ ?_
  exact ax_wr hA d_W_state_26 (by decide) (by decide)
set_option maxHeartbeats 4000000 in
set_option maxRecDepth 100000 in
theorem x_W_state_0 {l : Launch} {D : va_G} {cA : Nat → ClassId} {ad : Nat → Nat → Nat} {al : List (Nat × Nat)} {θ : ax_Θ} {ρ : ax_ρ} {g : Nat} (hfl : l.flags = flags0) (h0 : ax_M0 al) (hx : ρ 0 23 5 = none) {a1 : Int32} {a2 : Int64} {s : ax_σ} : ax_U l D cA ad al θ y_W_state (.codeWith y_W_state method_6_code 6 (some .int) [(0, 10, 13, 13), (0, 10, 17, 21), (0, 10, 21, 15)]) 8 [.inr (0, 23), .inl (.int a1), .inl (.long a2), .inr (0, 37)] (ax_m s ρ) (some (.inl (.int 1))) (ax_m s ρ) := by
  refine ax_U_of (own := "CipherNotationLaw") (by decide) rfl (Nat.le_of_ble_eq_true rfl) [(0, .inr (0, 23)), (1, .inl (.int a1)), (2, .inl (.long a2)), (4, .inr (0, 37))] rfl ?_
  intro G hA
  have hK := hA.K
  have hal := hA.la
  refine ax_bk hK (ax_fc (ax_v_ld (ax_r_aload d_W_state_0)) (ax_fc (ax_v_pu (ax_r_iconst (v := 0) d_W_state_2 (by decide))) (ax_fc (ax_v_ld (ax_r_aload_n (i := 0) d_W_state_3 rfl)) (ax_fc (ax_v_ld (ax_r_iload_n (i := 1) d_W_state_4 rfl)) (ax_fc (ax_v_ld (ax_r_lload_n (i := 2) d_W_state_5 rfl)) ax_fn))))) (y := (6, [(0, .inr (0, 23)), (1, .inl (.int a1)), (2, .inl (.long a2)), (4, .inr (0, 37))], [.inl (.long a2), .inl (.int a1), .inr (0, 23), .inl (.int (0 : Int32)), .inr (0, 37)], ax_m s ρ)) rfl ⟨trivial, trivial, trivial, trivial, trivial, trivial⟩ ?_
  refine ax_wX (rest := [.inl (.int (0 : Int32)), .inr (0, 37)]) hA 0 rfl (fun z hz => by cases hz) (by decide) (by decide) (nw_3 146 (by decide +kernel) rfl) (by decide) (x_X_state_0 (g := 0) hfl h0 hx) cw_W_27 imw_X_state sew_X_state d_W_state_6 (h0 23 rfl) rfl rfl (by decide) (by decide) rfl rfl (Nat.le_of_ble_eq_true rfl) (fun q9 => ?_)
  refine ax_bk hK (ax_fc (ax_v_so (ax_r_astore d_W_state_13)) (ax_fc (ax_v_pu (ax_r_iconst (v := 1) d_W_state_15 (by decide))) ax_fn)) (y := (16, [(5, .inl (.ref q9)), (0, .inr (0, 23)), (1, .inl (.int a1)), (2, .inl (.long a2)), (4, .inr (0, 37))], [.inl (.int (1 : Int32))], ax_m s ρ)) rfl ⟨trivial, trivial, trivial⟩ ?_
  exact ax_wr hA d_W_state_16 (by decide) (by decide)
set_option maxHeartbeats 4000000 in
set_option maxRecDepth 100000 in
theorem x_W_state_1 {l : Launch} {D : va_G} {cA : Nat → ClassId} {ad : Nat → Nat → Nat} {al : List (Nat × Nat)} {θ : ax_Θ} {ρ : ax_ρ} {g : Nat} (hfl : l.flags = flags0) (h0 : ax_M0 al) (hg : ax_Mg al g) (hx : ρ 0 23 5 = some (g, 0)) {a1 : Int32} {a2 : Int64} {s : ax_σ} (h : f_X_needIndex a1 (s.1 g 1 ((1 : Int32)).toNatClampNeg) = none) : ax_U l D cA ad al θ y_W_state (.codeWith y_W_state method_6_code 6 (some .int) [(0, 10, 13, 13), (0, 10, 17, 21), (0, 10, 21, 15)]) 8 [.inr (0, 23), .inl (.int a1), .inl (.long a2), .inr (0, 37)] (ax_m s ρ) (some (.inl (.int 2))) (ax_m s ρ) := by
  refine ax_U_of (own := "CipherNotationLaw") (by decide) rfl (Nat.le_of_ble_eq_true rfl) [(0, .inr (0, 23)), (1, .inl (.int a1)), (2, .inl (.long a2)), (4, .inr (0, 37))] rfl ?_
  intro G hA
  have hK := hA.K
  have hal := hA.la
  refine ax_bk hK (ax_fc (ax_v_ld (ax_r_aload d_W_state_0)) (ax_fc (ax_v_pu (ax_r_iconst (v := 0) d_W_state_2 (by decide))) (ax_fc (ax_v_ld (ax_r_aload_n (i := 0) d_W_state_3 rfl)) (ax_fc (ax_v_ld (ax_r_iload_n (i := 1) d_W_state_4 rfl)) (ax_fc (ax_v_ld (ax_r_lload_n (i := 2) d_W_state_5 rfl)) ax_fn))))) (y := (6, [(0, .inr (0, 23)), (1, .inl (.int a1)), (2, .inl (.long a2)), (4, .inr (0, 37))], [.inl (.long a2), .inl (.int a1), .inr (0, 23), .inl (.int (0 : Int32)), .inr (0, 37)], ax_m s ρ)) rfl ⟨trivial, trivial, trivial, trivial, trivial, trivial⟩ ?_
  refine ax_wX (rest := [.inl (.int (0 : Int32)), .inr (0, 37)]) hA 1 rfl (fun z hz => by
    simp only [List.take, List.mem_cons, List.not_mem_nil, or_false] at hz
    rcases hz with rfl
    · exact ⟨"java/lang/IllegalStateException", by decide, nw_3 146 (by decide +kernel) rfl, by decide⟩) (by decide) (by decide) (nw_3 237 (by decide +kernel) rfl) (by decide) (x_X_state_1 hfl h0 hg hx h) cw_W_27 imw_X_state sew_X_state d_W_state_6 (h0 23 rfl) rfl rfl (by decide) (by decide) rfl rfl (Nat.le_of_ble_eq_true rfl) (fun q9 => ?_)
  refine ax_bk hK (ax_fc (ax_v_so (ax_r_astore d_W_state_17)) (ax_fc (ax_v_pu (ax_r_iconst (v := 2) d_W_state_19 (by decide))) ax_fn)) (y := (20, [(5, .inl (.ref q9)), (0, .inr (0, 23)), (1, .inl (.int a1)), (2, .inl (.long a2)), (4, .inr (0, 37))], [.inl (.int (2 : Int32))], ax_m s ρ)) rfl ⟨trivial, trivial, trivial⟩ ?_
  exact ax_wr hA d_W_state_20 (by decide) (by decide)
set_option maxHeartbeats 4000000 in
set_option maxRecDepth 100000 in
theorem x_W_state_2 {l : Launch} {D : va_G} {cA : Nat → ClassId} {ad : Nat → Nat → Nat} {al : List (Nat × Nat)} {θ : ax_Θ} {ρ : ax_ρ} {g : Nat} (hfl : l.flags = flags0) (h0 : ax_M0 al) (hg : ax_Mg al g) (hx : ρ 0 23 5 = some (g, 0)) {a1 : Int32} {a2 : Int64} {s : ax_σ} (h1 : f_X_needIndex a1 (s.1 g 1 ((1 : Int32)).toNatClampNeg) = some ()) (h : f_X_needWord a2 s = none) : ax_U l D cA ad al θ y_W_state (.codeWith y_W_state method_6_code 6 (some .int) [(0, 10, 13, 13), (0, 10, 17, 21), (0, 10, 21, 15)]) 8 [.inr (0, 23), .inl (.int a1), .inl (.long a2), .inr (0, 37)] (ax_m s ρ) (some (.inl (.int 3))) (ax_m s ρ) := by
  refine ax_U_of (own := "CipherNotationLaw") (by decide) rfl (Nat.le_of_ble_eq_true rfl) [(0, .inr (0, 23)), (1, .inl (.int a1)), (2, .inl (.long a2)), (4, .inr (0, 37))] rfl ?_
  intro G hA
  have hK := hA.K
  have hal := hA.la
  refine ax_bk hK (ax_fc (ax_v_ld (ax_r_aload d_W_state_0)) (ax_fc (ax_v_pu (ax_r_iconst (v := 0) d_W_state_2 (by decide))) (ax_fc (ax_v_ld (ax_r_aload_n (i := 0) d_W_state_3 rfl)) (ax_fc (ax_v_ld (ax_r_iload_n (i := 1) d_W_state_4 rfl)) (ax_fc (ax_v_ld (ax_r_lload_n (i := 2) d_W_state_5 rfl)) ax_fn))))) (y := (6, [(0, .inr (0, 23)), (1, .inl (.int a1)), (2, .inl (.long a2)), (4, .inr (0, 37))], [.inl (.long a2), .inl (.int a1), .inr (0, 23), .inl (.int (0 : Int32)), .inr (0, 37)], ax_m s ρ)) rfl ⟨trivial, trivial, trivial, trivial, trivial, trivial⟩ ?_
  refine ax_wX (rest := [.inl (.int (0 : Int32)), .inr (0, 37)]) hA 2 rfl (fun z hz => by
    simp only [List.take, List.mem_cons, List.not_mem_nil, or_false] at hz
    rcases hz with rfl | rfl
    · exact ⟨"java/lang/IllegalStateException", by decide, nw_3 146 (by decide +kernel) rfl, by decide⟩
    · exact ⟨"java/lang/IndexOutOfBoundsException", by decide, nw_3 237 (by decide +kernel) rfl, by decide⟩) (by decide) (by decide) (nw_3 147 (by decide +kernel) rfl) (by decide) (x_X_state_2 hfl h0 hg hx h1 h) cw_W_27 imw_X_state sew_X_state d_W_state_6 (h0 23 rfl) rfl rfl (by decide) (by decide) rfl rfl (Nat.le_of_ble_eq_true rfl) (fun q9 => ?_)
  refine ax_bk hK (ax_fc (ax_v_so (ax_r_astore d_W_state_21)) (ax_fc (ax_v_pu (ax_r_iconst (v := 3) d_W_state_23 (by decide))) ax_fn)) (y := (24, [(5, .inl (.ref q9)), (0, .inr (0, 23)), (1, .inl (.int a1)), (2, .inl (.long a2)), (4, .inr (0, 37))], [.inl (.int (3 : Int32))], ax_m s ρ)) rfl ⟨trivial, trivial, trivial⟩ ?_
  exact ax_wr hA d_W_state_24 (by decide) (by decide)
def y_W_keyWord : MethodName := ⟨"CipherNotationLaw", "keyWord", "(LCipherNotation;I[J)I"⟩
theorem d_W_keyWord_0 : decode method_7_code 0 = .ok (.aload_n 2, 1) := by decide +kernel
theorem d_W_keyWord_1 : decode method_7_code 1 = .ok (.iconst 0, 1) := by decide +kernel
theorem d_W_keyWord_2 : decode method_7_code 2 = .ok (.aload_n 0, 1) := by decide +kernel
theorem d_W_keyWord_3 : decode method_7_code 3 = .ok (.iload_n 1, 1) := by decide +kernel
theorem d_W_keyWord_4 : decode method_7_code 4 = .ok (.invokevirtual (30), 3) := by decide +kernel
theorem d_W_keyWord_7 : decode method_7_code 7 = .ok (.lastore, 1) := by decide +kernel
theorem d_W_keyWord_8 : decode method_7_code 8 = .ok (.goto (9), 3) := by decide +kernel
theorem d_W_keyWord_11 : decode method_7_code 11 = .ok (.astore_n 3, 1) := by decide +kernel
theorem d_W_keyWord_12 : decode method_7_code 12 = .ok (.iconst 1, 1) := by decide +kernel
theorem d_W_keyWord_13 : decode method_7_code 13 = .ok (.ireturn, 1) := by decide +kernel
theorem d_W_keyWord_14 : decode method_7_code 14 = .ok (.astore_n 3, 1) := by decide +kernel
theorem d_W_keyWord_15 : decode method_7_code 15 = .ok (.iconst 2, 1) := by decide +kernel
theorem d_W_keyWord_16 : decode method_7_code 16 = .ok (.ireturn, 1) := by decide +kernel
theorem d_W_keyWord_17 : decode method_7_code 17 = .ok (.iconst 0, 1) := by decide +kernel
theorem d_W_keyWord_18 : decode method_7_code 18 = .ok (.ireturn, 1) := by decide +kernel
theorem cw_W_30 : ax_cw "CipherNotationLaw" 30 y_X_keyWord (.code y_X_keyWord prog_1_method_11_code 2 (some .long)) 1 := ⟨nw_4 42 (by decide +kernel) rfl, nw_1 1 (by decide +kernel) rfl, nw_4 45 rfl rfl, by decide +kernel, by decide +kernel⟩
theorem imw_X_keyWord : Cond.instanceMethod y_X_keyWord ∈ ax_tbl := nw_4 43 (by decide +kernel) rfl
theorem sew_X_keyWord : Cond.selects y_X_keyWord.cls y_X_keyWord y_X_keyWord ∈ ax_tbl := nw_4 44 (by decide +kernel) rfl
set_option maxHeartbeats 4000000 in
set_option maxRecDepth 100000 in
theorem t_W_keyWord {l : Launch} {D : va_G} {cA : Nat → ClassId} {ad : Nat → Nat → Nat} {al : List (Nat × Nat)} {θ : ax_Θ} {ρ : ax_ρ} {g : Nat} (h0 : ax_M0 al) (hg : ax_Mg al g) (hr : ax_md ρ g) (hx : ρ 0 23 5 = some (g, 0)) {a1 : Int32} {s : ax_σ} {r0 : Int64} (h : f_X_keyWord g a1 s = some r0) : ax_U l D cA ad al θ y_W_keyWord (.codeWith y_W_keyWord method_7_code 4 (some .int) [(0, 8, 11, 13), (0, 8, 14, 21)]) 8 [.inr (0, 23), .inl (.int a1), .inr (0, 37)] (ax_m s ρ) (some (.inl (.int 0))) (ax_m (s.1, ax_uL s.2 0 37 ((0 : Int32)).toNatClampNeg (r0)) ρ) := by
  refine ax_U_of (own := "CipherNotationLaw") (by decide) rfl (Nat.le_of_ble_eq_true rfl) [(0, .inr (0, 23)), (1, .inl (.int a1)), (2, .inr (0, 37))] rfl ?_
  intro G hA
  have hK := hA.K
  have hal := hA.la
  refine ax_bk hK (ax_fc (ax_v_ld (ax_r_aload_n (i := 2) d_W_keyWord_0 rfl)) (ax_fc (ax_v_pu (ax_r_iconst (v := 0) d_W_keyWord_1 (by decide))) (ax_fc (ax_v_ld (ax_r_aload_n (i := 0) d_W_keyWord_2 rfl)) (ax_fc (ax_v_ld (ax_r_iload_n (i := 1) d_W_keyWord_3 rfl)) ax_fn)))) (y := (4, [(0, .inr (0, 23)), (1, .inl (.int a1)), (2, .inr (0, 37))], [.inl (.int a1), .inr (0, 23), .inl (.int (0 : Int32)), .inr (0, 37)], ax_m s ρ)) rfl ⟨trivial, trivial, trivial, trivial, trivial⟩ ?_
  refine ax_wV (rest := [.inl (.int (0 : Int32)), .inr (0, 37)]) hA (t_X_keyWord h0 hg hr hx h) cw_W_30 imw_X_keyWord sew_X_keyWord d_W_keyWord_4 (h0 23 rfl) rfl rfl (by decide) (by decide) rfl rfl (Nat.le_of_ble_eq_true rfl) ?_
  refine ax_bk hK (ax_fc (ax_w_last hal d_W_keyWord_7) (ax_fc (ax_v_go (tgt := 17) d_W_keyWord_8 (by decide)) (ax_fc (ax_v_pu (ax_r_iconst (v := 0) d_W_keyWord_17 (by decide))) ax_fn))) (y := (18, [(0, .inr (0, 23)), (1, .inl (.int a1)), (2, .inr (0, 37))], [.inl (.int (0 : Int32))], (ax_m (s.1, ax_uL s.2 0 37 ((0 : Int32)).toNatClampNeg (r0)) ρ))) rfl ⟨⟨h0 37 rfl, ax_inp (by decide)⟩, trivial, trivial, trivial⟩ ?_
  exact ax_wr hA d_W_keyWord_18 (by decide) (by decide)
set_option maxHeartbeats 4000000 in
set_option maxRecDepth 100000 in
theorem x_W_keyWord_0 {l : Launch} {D : va_G} {cA : Nat → ClassId} {ad : Nat → Nat → Nat} {al : List (Nat × Nat)} {θ : ax_Θ} {ρ : ax_ρ} {g : Nat} (hfl : l.flags = flags0) (h0 : ax_M0 al) (hx : ρ 0 23 5 = none) {a1 : Int32} {s : ax_σ} : ax_U l D cA ad al θ y_W_keyWord (.codeWith y_W_keyWord method_7_code 4 (some .int) [(0, 8, 11, 13), (0, 8, 14, 21)]) 8 [.inr (0, 23), .inl (.int a1), .inr (0, 37)] (ax_m s ρ) (some (.inl (.int 1))) (ax_m s ρ) := by
  refine ax_U_of (own := "CipherNotationLaw") (by decide) rfl (Nat.le_of_ble_eq_true rfl) [(0, .inr (0, 23)), (1, .inl (.int a1)), (2, .inr (0, 37))] rfl ?_
  intro G hA
  have hK := hA.K
  have hal := hA.la
  refine ax_bk hK (ax_fc (ax_v_ld (ax_r_aload_n (i := 2) d_W_keyWord_0 rfl)) (ax_fc (ax_v_pu (ax_r_iconst (v := 0) d_W_keyWord_1 (by decide))) (ax_fc (ax_v_ld (ax_r_aload_n (i := 0) d_W_keyWord_2 rfl)) (ax_fc (ax_v_ld (ax_r_iload_n (i := 1) d_W_keyWord_3 rfl)) ax_fn)))) (y := (4, [(0, .inr (0, 23)), (1, .inl (.int a1)), (2, .inr (0, 37))], [.inl (.int a1), .inr (0, 23), .inl (.int (0 : Int32)), .inr (0, 37)], ax_m s ρ)) rfl ⟨trivial, trivial, trivial, trivial, trivial⟩ ?_
  refine ax_wX (rest := [.inl (.int (0 : Int32)), .inr (0, 37)]) hA 0 rfl (fun z hz => by cases hz) (by decide) (by decide) (nw_3 146 (by decide +kernel) rfl) (by decide) (x_X_keyWord_0 (g := 0) hfl h0 hx) cw_W_30 imw_X_keyWord sew_X_keyWord d_W_keyWord_4 (h0 23 rfl) rfl rfl (by decide) (by decide) rfl rfl (Nat.le_of_ble_eq_true rfl) (fun q9 => ?_)
  refine ax_bk hK (ax_fc (ax_v_so (ax_r_astore_n (i := 3) d_W_keyWord_11 rfl)) (ax_fc (ax_v_pu (ax_r_iconst (v := 1) d_W_keyWord_12 (by decide))) ax_fn)) (y := (13, [(3, .inl (.ref q9)), (0, .inr (0, 23)), (1, .inl (.int a1)), (2, .inr (0, 37))], [.inl (.int (1 : Int32))], ax_m s ρ)) rfl ⟨trivial, trivial, trivial⟩ ?_
  exact ax_wr hA d_W_keyWord_13 (by decide) (by decide)
set_option maxHeartbeats 4000000 in
set_option maxRecDepth 100000 in
theorem x_W_keyWord_1 {l : Launch} {D : va_G} {cA : Nat → ClassId} {ad : Nat → Nat → Nat} {al : List (Nat × Nat)} {θ : ax_Θ} {ρ : ax_ρ} {g : Nat} (hfl : l.flags = flags0) (h0 : ax_M0 al) (hg : ax_Mg al g) (hx : ρ 0 23 5 = some (g, 0)) {a1 : Int32} {s : ax_σ} (h : f_X_needIndex a1 (s.1 g 1 ((2 : Int32)).toNatClampNeg) = none) : ax_U l D cA ad al θ y_W_keyWord (.codeWith y_W_keyWord method_7_code 4 (some .int) [(0, 8, 11, 13), (0, 8, 14, 21)]) 8 [.inr (0, 23), .inl (.int a1), .inr (0, 37)] (ax_m s ρ) (some (.inl (.int 2))) (ax_m s ρ) := by
  refine ax_U_of (own := "CipherNotationLaw") (by decide) rfl (Nat.le_of_ble_eq_true rfl) [(0, .inr (0, 23)), (1, .inl (.int a1)), (2, .inr (0, 37))] rfl ?_
  intro G hA
  have hK := hA.K
  have hal := hA.la
  refine ax_bk hK (ax_fc (ax_v_ld (ax_r_aload_n (i := 2) d_W_keyWord_0 rfl)) (ax_fc (ax_v_pu (ax_r_iconst (v := 0) d_W_keyWord_1 (by decide))) (ax_fc (ax_v_ld (ax_r_aload_n (i := 0) d_W_keyWord_2 rfl)) (ax_fc (ax_v_ld (ax_r_iload_n (i := 1) d_W_keyWord_3 rfl)) ax_fn)))) (y := (4, [(0, .inr (0, 23)), (1, .inl (.int a1)), (2, .inr (0, 37))], [.inl (.int a1), .inr (0, 23), .inl (.int (0 : Int32)), .inr (0, 37)], ax_m s ρ)) rfl ⟨trivial, trivial, trivial, trivial, trivial⟩ ?_
  refine ax_wX (rest := [.inl (.int (0 : Int32)), .inr (0, 37)]) hA 1 rfl (fun z hz => by
    simp only [List.take, List.mem_cons, List.not_mem_nil, or_false] at hz
    rcases hz with rfl
    · exact ⟨"java/lang/IllegalStateException", by decide, nw_3 146 (by decide +kernel) rfl, by decide⟩) (by decide) (by decide) (nw_3 237 (by decide +kernel) rfl) (by decide) (x_X_keyWord_1 hfl h0 hg hx h) cw_W_30 imw_X_keyWord sew_X_keyWord d_W_keyWord_4 (h0 23 rfl) rfl rfl (by decide) (by decide) rfl rfl (Nat.le_of_ble_eq_true rfl) (fun q9 => ?_)
  refine ax_bk hK (ax_fc (ax_v_so (ax_r_astore_n (i := 3) d_W_keyWord_14 rfl)) (ax_fc (ax_v_pu (ax_r_iconst (v := 2) d_W_keyWord_15 (by decide))) ax_fn)) (y := (16, [(3, .inl (.ref q9)), (0, .inr (0, 23)), (1, .inl (.int a1)), (2, .inr (0, 37))], [.inl (.int (2 : Int32))], ax_m s ρ)) rfl ⟨trivial, trivial, trivial⟩ ?_
  exact ax_wr hA d_W_keyWord_16 (by decide) (by decide)
def y_W_word : MethodName := ⟨"CipherNotationLaw", "word", "(LCipherNotation;I[J)I"⟩
theorem d_W_word_0 : decode method_8_code 0 = .ok (.aload_n 2, 1) := by decide +kernel
theorem d_W_word_1 : decode method_8_code 1 = .ok (.iconst 0, 1) := by decide +kernel
theorem d_W_word_2 : decode method_8_code 2 = .ok (.aload_n 0, 1) := by decide +kernel
theorem d_W_word_3 : decode method_8_code 3 = .ok (.iload_n 1, 1) := by decide +kernel
theorem d_W_word_4 : decode method_8_code 4 = .ok (.invokevirtual (34), 3) := by decide +kernel
theorem d_W_word_7 : decode method_8_code 7 = .ok (.lastore, 1) := by decide +kernel
theorem d_W_word_8 : decode method_8_code 8 = .ok (.goto (9), 3) := by decide +kernel
theorem d_W_word_11 : decode method_8_code 11 = .ok (.astore_n 3, 1) := by decide +kernel
theorem d_W_word_12 : decode method_8_code 12 = .ok (.iconst 1, 1) := by decide +kernel
theorem d_W_word_13 : decode method_8_code 13 = .ok (.ireturn, 1) := by decide +kernel
theorem d_W_word_14 : decode method_8_code 14 = .ok (.astore_n 3, 1) := by decide +kernel
theorem d_W_word_15 : decode method_8_code 15 = .ok (.iconst 2, 1) := by decide +kernel
theorem d_W_word_16 : decode method_8_code 16 = .ok (.ireturn, 1) := by decide +kernel
theorem d_W_word_17 : decode method_8_code 17 = .ok (.iconst 0, 1) := by decide +kernel
theorem d_W_word_18 : decode method_8_code 18 = .ok (.ireturn, 1) := by decide +kernel
theorem cw_W_34 : ax_cw "CipherNotationLaw" 34 y_X_word (.code y_X_word prog_1_method_12_code 2 (some .long)) 1 := ⟨nw_4 49 (by decide +kernel) rfl, nw_1 1 (by decide +kernel) rfl, nw_4 52 rfl rfl, by decide +kernel, by decide +kernel⟩
theorem imw_X_word : Cond.instanceMethod y_X_word ∈ ax_tbl := nw_4 50 (by decide +kernel) rfl
theorem sew_X_word : Cond.selects y_X_word.cls y_X_word y_X_word ∈ ax_tbl := nw_4 51 (by decide +kernel) rfl
set_option maxHeartbeats 4000000 in
set_option maxRecDepth 100000 in
theorem t_W_word {l : Launch} {D : va_G} {cA : Nat → ClassId} {ad : Nat → Nat → Nat} {al : List (Nat × Nat)} {θ : ax_Θ} {ρ : ax_ρ} {g : Nat} (h0 : ax_M0 al) (hg : ax_Mg al g) (hr : ax_md ρ g) (hx : ρ 0 23 5 = some (g, 0)) {a1 : Int32} {s : ax_σ} {r0 : Int64} (h : f_X_word g a1 s = some r0) : ax_U l D cA ad al θ y_W_word (.codeWith y_W_word method_8_code 4 (some .int) [(0, 8, 11, 13), (0, 8, 14, 21)]) 8 [.inr (0, 23), .inl (.int a1), .inr (0, 37)] (ax_m s ρ) (some (.inl (.int 0))) (ax_m (s.1, ax_uL s.2 0 37 ((0 : Int32)).toNatClampNeg (r0)) ρ) := by
  refine ax_U_of (own := "CipherNotationLaw") (by decide) rfl (Nat.le_of_ble_eq_true rfl) [(0, .inr (0, 23)), (1, .inl (.int a1)), (2, .inr (0, 37))] rfl ?_
  intro G hA
  have hK := hA.K
  have hal := hA.la
  refine ax_bk hK (ax_fc (ax_v_ld (ax_r_aload_n (i := 2) d_W_word_0 rfl)) (ax_fc (ax_v_pu (ax_r_iconst (v := 0) d_W_word_1 (by decide))) (ax_fc (ax_v_ld (ax_r_aload_n (i := 0) d_W_word_2 rfl)) (ax_fc (ax_v_ld (ax_r_iload_n (i := 1) d_W_word_3 rfl)) ax_fn)))) (y := (4, [(0, .inr (0, 23)), (1, .inl (.int a1)), (2, .inr (0, 37))], [.inl (.int a1), .inr (0, 23), .inl (.int (0 : Int32)), .inr (0, 37)], ax_m s ρ)) rfl ⟨trivial, trivial, trivial, trivial, trivial⟩ ?_
  refine ax_wV (rest := [.inl (.int (0 : Int32)), .inr (0, 37)]) hA (t_X_word h0 hg hr hx h) cw_W_34 imw_X_word sew_X_word d_W_word_4 (h0 23 rfl) rfl rfl (by decide) (by decide) rfl rfl (Nat.le_of_ble_eq_true rfl) ?_
  refine ax_bk hK (ax_fc (ax_w_last hal d_W_word_7) (ax_fc (ax_v_go (tgt := 17) d_W_word_8 (by decide)) (ax_fc (ax_v_pu (ax_r_iconst (v := 0) d_W_word_17 (by decide))) ax_fn))) (y := (18, [(0, .inr (0, 23)), (1, .inl (.int a1)), (2, .inr (0, 37))], [.inl (.int (0 : Int32))], (ax_m (s.1, ax_uL s.2 0 37 ((0 : Int32)).toNatClampNeg (r0)) ρ))) rfl ⟨⟨h0 37 rfl, ax_inp (by decide)⟩, trivial, trivial, trivial⟩ ?_
  exact ax_wr hA d_W_word_18 (by decide) (by decide)
set_option maxHeartbeats 4000000 in
set_option maxRecDepth 100000 in
theorem x_W_word_0 {l : Launch} {D : va_G} {cA : Nat → ClassId} {ad : Nat → Nat → Nat} {al : List (Nat × Nat)} {θ : ax_Θ} {ρ : ax_ρ} {g : Nat} (hfl : l.flags = flags0) (h0 : ax_M0 al) (hx : ρ 0 23 5 = none) {a1 : Int32} {s : ax_σ} : ax_U l D cA ad al θ y_W_word (.codeWith y_W_word method_8_code 4 (some .int) [(0, 8, 11, 13), (0, 8, 14, 21)]) 8 [.inr (0, 23), .inl (.int a1), .inr (0, 37)] (ax_m s ρ) (some (.inl (.int 1))) (ax_m s ρ) := by
  refine ax_U_of (own := "CipherNotationLaw") (by decide) rfl (Nat.le_of_ble_eq_true rfl) [(0, .inr (0, 23)), (1, .inl (.int a1)), (2, .inr (0, 37))] rfl ?_
  intro G hA
  have hK := hA.K
  have hal := hA.la
  refine ax_bk hK (ax_fc (ax_v_ld (ax_r_aload_n (i := 2) d_W_word_0 rfl)) (ax_fc (ax_v_pu (ax_r_iconst (v := 0) d_W_word_1 (by decide))) (ax_fc (ax_v_ld (ax_r_aload_n (i := 0) d_W_word_2 rfl)) (ax_fc (ax_v_ld (ax_r_iload_n (i := 1) d_W_word_3 rfl)) ax_fn)))) (y := (4, [(0, .inr (0, 23)), (1, .inl (.int a1)), (2, .inr (0, 37))], [.inl (.int a1), .inr (0, 23), .inl (.int (0 : Int32)), .inr (0, 37)], ax_m s ρ)) rfl ⟨trivial, trivial, trivial, trivial, trivial⟩ ?_
  refine ax_wX (rest := [.inl (.int (0 : Int32)), .inr (0, 37)]) hA 0 rfl (fun z hz => by cases hz) (by decide) (by decide) (nw_3 146 (by decide +kernel) rfl) (by decide) (x_X_word_0 (g := 0) hfl h0 hx) cw_W_34 imw_X_word sew_X_word d_W_word_4 (h0 23 rfl) rfl rfl (by decide) (by decide) rfl rfl (Nat.le_of_ble_eq_true rfl) (fun q9 => ?_)
  refine ax_bk hK (ax_fc (ax_v_so (ax_r_astore_n (i := 3) d_W_word_11 rfl)) (ax_fc (ax_v_pu (ax_r_iconst (v := 1) d_W_word_12 (by decide))) ax_fn)) (y := (13, [(3, .inl (.ref q9)), (0, .inr (0, 23)), (1, .inl (.int a1)), (2, .inr (0, 37))], [.inl (.int (1 : Int32))], ax_m s ρ)) rfl ⟨trivial, trivial, trivial⟩ ?_
  exact ax_wr hA d_W_word_13 (by decide) (by decide)
set_option maxHeartbeats 4000000 in
set_option maxRecDepth 100000 in
theorem x_W_word_1 {l : Launch} {D : va_G} {cA : Nat → ClassId} {ad : Nat → Nat → Nat} {al : List (Nat × Nat)} {θ : ax_Θ} {ρ : ax_ρ} {g : Nat} (hfl : l.flags = flags0) (h0 : ax_M0 al) (hg : ax_Mg al g) (hx : ρ 0 23 5 = some (g, 0)) {a1 : Int32} {s : ax_σ} (h : f_X_needIndex a1 (s.1 g 1 ((1 : Int32)).toNatClampNeg) = none) : ax_U l D cA ad al θ y_W_word (.codeWith y_W_word method_8_code 4 (some .int) [(0, 8, 11, 13), (0, 8, 14, 21)]) 8 [.inr (0, 23), .inl (.int a1), .inr (0, 37)] (ax_m s ρ) (some (.inl (.int 2))) (ax_m s ρ) := by
  refine ax_U_of (own := "CipherNotationLaw") (by decide) rfl (Nat.le_of_ble_eq_true rfl) [(0, .inr (0, 23)), (1, .inl (.int a1)), (2, .inr (0, 37))] rfl ?_
  intro G hA
  have hK := hA.K
  have hal := hA.la
  refine ax_bk hK (ax_fc (ax_v_ld (ax_r_aload_n (i := 2) d_W_word_0 rfl)) (ax_fc (ax_v_pu (ax_r_iconst (v := 0) d_W_word_1 (by decide))) (ax_fc (ax_v_ld (ax_r_aload_n (i := 0) d_W_word_2 rfl)) (ax_fc (ax_v_ld (ax_r_iload_n (i := 1) d_W_word_3 rfl)) ax_fn)))) (y := (4, [(0, .inr (0, 23)), (1, .inl (.int a1)), (2, .inr (0, 37))], [.inl (.int a1), .inr (0, 23), .inl (.int (0 : Int32)), .inr (0, 37)], ax_m s ρ)) rfl ⟨trivial, trivial, trivial, trivial, trivial⟩ ?_
  refine ax_wX (rest := [.inl (.int (0 : Int32)), .inr (0, 37)]) hA 1 rfl (fun z hz => by
    simp only [List.take, List.mem_cons, List.not_mem_nil, or_false] at hz
    rcases hz with rfl
    · exact ⟨"java/lang/IllegalStateException", by decide, nw_3 146 (by decide +kernel) rfl, by decide⟩) (by decide) (by decide) (nw_3 237 (by decide +kernel) rfl) (by decide) (x_X_word_1 hfl h0 hg hx h) cw_W_34 imw_X_word sew_X_word d_W_word_4 (h0 23 rfl) rfl rfl (by decide) (by decide) rfl rfl (Nat.le_of_ble_eq_true rfl) (fun q9 => ?_)
  refine ax_bk hK (ax_fc (ax_v_so (ax_r_astore_n (i := 3) d_W_word_14 rfl)) (ax_fc (ax_v_pu (ax_r_iconst (v := 2) d_W_word_15 (by decide))) ax_fn)) (y := (16, [(3, .inl (.ref q9)), (0, .inr (0, 23)), (1, .inl (.int a1)), (2, .inr (0, 37))], [.inl (.int (2 : Int32))], ax_m s ρ)) rfl ⟨trivial, trivial, trivial⟩ ?_
  exact ax_wr hA d_W_word_16 (by decide) (by decide)
def y_W_subkey : MethodName := ⟨"CipherNotationLaw", "subkey", "(LCipherNotation;I[J)I"⟩
theorem d_W_subkey_0 : decode method_9_code 0 = .ok (.aload_n 2, 1) := by decide +kernel
theorem d_W_subkey_1 : decode method_9_code 1 = .ok (.iconst 0, 1) := by decide +kernel
theorem d_W_subkey_2 : decode method_9_code 2 = .ok (.aload_n 0, 1) := by decide +kernel
theorem d_W_subkey_3 : decode method_9_code 3 = .ok (.iload_n 1, 1) := by decide +kernel
theorem d_W_subkey_4 : decode method_9_code 4 = .ok (.invokevirtual (37), 3) := by decide +kernel
theorem d_W_subkey_7 : decode method_9_code 7 = .ok (.lastore, 1) := by decide +kernel
theorem d_W_subkey_8 : decode method_9_code 8 = .ok (.goto (9), 3) := by decide +kernel
theorem d_W_subkey_11 : decode method_9_code 11 = .ok (.astore_n 3, 1) := by decide +kernel
theorem d_W_subkey_12 : decode method_9_code 12 = .ok (.iconst 1, 1) := by decide +kernel
theorem d_W_subkey_13 : decode method_9_code 13 = .ok (.ireturn, 1) := by decide +kernel
theorem d_W_subkey_14 : decode method_9_code 14 = .ok (.astore_n 3, 1) := by decide +kernel
theorem d_W_subkey_15 : decode method_9_code 15 = .ok (.iconst 2, 1) := by decide +kernel
theorem d_W_subkey_16 : decode method_9_code 16 = .ok (.ireturn, 1) := by decide +kernel
theorem d_W_subkey_17 : decode method_9_code 17 = .ok (.iconst 0, 1) := by decide +kernel
theorem d_W_subkey_18 : decode method_9_code 18 = .ok (.ireturn, 1) := by decide +kernel
theorem cw_W_37 : ax_cw "CipherNotationLaw" 37 y_X_subkey (.code y_X_subkey prog_1_method_13_code 2 (some .long)) 1 := ⟨nw_4 56 (by decide +kernel) rfl, nw_1 1 (by decide +kernel) rfl, nw_4 59 rfl rfl, by decide +kernel, by decide +kernel⟩
theorem imw_X_subkey : Cond.instanceMethod y_X_subkey ∈ ax_tbl := nw_4 57 (by decide +kernel) rfl
theorem sew_X_subkey : Cond.selects y_X_subkey.cls y_X_subkey y_X_subkey ∈ ax_tbl := nw_4 58 (by decide +kernel) rfl
set_option maxHeartbeats 4000000 in
set_option maxRecDepth 100000 in
theorem t_W_subkey {l : Launch} {D : va_G} {cA : Nat → ClassId} {ad : Nat → Nat → Nat} {al : List (Nat × Nat)} {θ : ax_Θ} {ρ : ax_ρ} {F : Nat} {g : Nat} (h0 : ax_M0 al) (hg : ax_Mg al g) (hr : ax_md ρ g) (hx : ρ 0 23 5 = some (g, 0)) {a1 : Int32} {s : ax_σ} {r0 : Int64} {s0 : ax_σ} (h : f_X_subkey F g a1 s = some (r0, s0)) : ax_U l D cA ad al θ y_W_subkey (.codeWith y_W_subkey method_9_code 4 (some .int) [(0, 8, 11, 13), (0, 8, 14, 21)]) 8 [.inr (0, 23), .inl (.int a1), .inr (0, 37)] (ax_m s ρ) (some (.inl (.int 0))) (ax_m (s0.1, ax_uL s0.2 0 37 ((0 : Int32)).toNatClampNeg (r0)) ρ) := by
  refine ax_U_of (own := "CipherNotationLaw") (by decide) rfl (Nat.le_of_ble_eq_true rfl) [(0, .inr (0, 23)), (1, .inl (.int a1)), (2, .inr (0, 37))] rfl ?_
  intro G hA
  have hK := hA.K
  have hal := hA.la
  refine ax_bk hK (ax_fc (ax_v_ld (ax_r_aload_n (i := 2) d_W_subkey_0 rfl)) (ax_fc (ax_v_pu (ax_r_iconst (v := 0) d_W_subkey_1 (by decide))) (ax_fc (ax_v_ld (ax_r_aload_n (i := 0) d_W_subkey_2 rfl)) (ax_fc (ax_v_ld (ax_r_iload_n (i := 1) d_W_subkey_3 rfl)) ax_fn)))) (y := (4, [(0, .inr (0, 23)), (1, .inl (.int a1)), (2, .inr (0, 37))], [.inl (.int a1), .inr (0, 23), .inl (.int (0 : Int32)), .inr (0, 37)], ax_m s ρ)) rfl ⟨trivial, trivial, trivial, trivial, trivial⟩ ?_
  refine ax_wV (rest := [.inl (.int (0 : Int32)), .inr (0, 37)]) hA (t_X_subkey h0 hg hr hx h) cw_W_37 imw_X_subkey sew_X_subkey d_W_subkey_4 (h0 23 rfl) rfl rfl (by decide) (by decide) rfl rfl (Nat.le_of_ble_eq_true rfl) ?_
  refine ax_bk hK (ax_fc (ax_w_last hal d_W_subkey_7) (ax_fc (ax_v_go (tgt := 17) d_W_subkey_8 (by decide)) (ax_fc (ax_v_pu (ax_r_iconst (v := 0) d_W_subkey_17 (by decide))) ax_fn))) (y := (18, [(0, .inr (0, 23)), (1, .inl (.int a1)), (2, .inr (0, 37))], [.inl (.int (0 : Int32))], (ax_m (s0.1, ax_uL s0.2 0 37 ((0 : Int32)).toNatClampNeg (r0)) ρ))) rfl ⟨⟨h0 37 rfl, ax_inp (by decide)⟩, trivial, trivial, trivial⟩ ?_
  exact ax_wr hA d_W_subkey_18 (by decide) (by decide)
set_option maxHeartbeats 4000000 in
set_option maxRecDepth 100000 in
theorem x_W_subkey_0 {l : Launch} {D : va_G} {cA : Nat → ClassId} {ad : Nat → Nat → Nat} {al : List (Nat × Nat)} {θ : ax_Θ} {ρ : ax_ρ} {g : Nat} (hfl : l.flags = flags0) (h0 : ax_M0 al) (hx : ρ 0 23 5 = none) {a1 : Int32} {s : ax_σ} : ax_U l D cA ad al θ y_W_subkey (.codeWith y_W_subkey method_9_code 4 (some .int) [(0, 8, 11, 13), (0, 8, 14, 21)]) 8 [.inr (0, 23), .inl (.int a1), .inr (0, 37)] (ax_m s ρ) (some (.inl (.int 1))) (ax_m s ρ) := by
  refine ax_U_of (own := "CipherNotationLaw") (by decide) rfl (Nat.le_of_ble_eq_true rfl) [(0, .inr (0, 23)), (1, .inl (.int a1)), (2, .inr (0, 37))] rfl ?_
  intro G hA
  have hK := hA.K
  have hal := hA.la
  refine ax_bk hK (ax_fc (ax_v_ld (ax_r_aload_n (i := 2) d_W_subkey_0 rfl)) (ax_fc (ax_v_pu (ax_r_iconst (v := 0) d_W_subkey_1 (by decide))) (ax_fc (ax_v_ld (ax_r_aload_n (i := 0) d_W_subkey_2 rfl)) (ax_fc (ax_v_ld (ax_r_iload_n (i := 1) d_W_subkey_3 rfl)) ax_fn)))) (y := (4, [(0, .inr (0, 23)), (1, .inl (.int a1)), (2, .inr (0, 37))], [.inl (.int a1), .inr (0, 23), .inl (.int (0 : Int32)), .inr (0, 37)], ax_m s ρ)) rfl ⟨trivial, trivial, trivial, trivial, trivial⟩ ?_
  refine ax_wX (rest := [.inl (.int (0 : Int32)), .inr (0, 37)]) hA 0 rfl (fun z hz => by cases hz) (by decide) (by decide) (nw_3 146 (by decide +kernel) rfl) (by decide) (x_X_subkey_0 (g := 0) hfl h0 hx) cw_W_37 imw_X_subkey sew_X_subkey d_W_subkey_4 (h0 23 rfl) rfl rfl (by decide) (by decide) rfl rfl (Nat.le_of_ble_eq_true rfl) (fun q9 => ?_)
  refine ax_bk hK (ax_fc (ax_v_so (ax_r_astore_n (i := 3) d_W_subkey_11 rfl)) (ax_fc (ax_v_pu (ax_r_iconst (v := 1) d_W_subkey_12 (by decide))) ax_fn)) (y := (13, [(3, .inl (.ref q9)), (0, .inr (0, 23)), (1, .inl (.int a1)), (2, .inr (0, 37))], [.inl (.int (1 : Int32))], ax_m s ρ)) rfl ⟨trivial, trivial, trivial⟩ ?_
  exact ax_wr hA d_W_subkey_13 (by decide) (by decide)
set_option maxHeartbeats 4000000 in
set_option maxRecDepth 100000 in
theorem x_W_subkey_1 {l : Launch} {D : va_G} {cA : Nat → ClassId} {ad : Nat → Nat → Nat} {al : List (Nat × Nat)} {θ : ax_Θ} {ρ : ax_ρ} {g : Nat} (hfl : l.flags = flags0) (h0 : ax_M0 al) (hg : ax_Mg al g) (hx : ρ 0 23 5 = some (g, 0)) {a1 : Int32} {s : ax_σ} (h : f_X_needIndex a1 (s.1 g 1 ((4 : Int32)).toNatClampNeg) = none) : ax_U l D cA ad al θ y_W_subkey (.codeWith y_W_subkey method_9_code 4 (some .int) [(0, 8, 11, 13), (0, 8, 14, 21)]) 8 [.inr (0, 23), .inl (.int a1), .inr (0, 37)] (ax_m s ρ) (some (.inl (.int 2))) (ax_m s ρ) := by
  refine ax_U_of (own := "CipherNotationLaw") (by decide) rfl (Nat.le_of_ble_eq_true rfl) [(0, .inr (0, 23)), (1, .inl (.int a1)), (2, .inr (0, 37))] rfl ?_
  intro G hA
  have hK := hA.K
  have hal := hA.la
  refine ax_bk hK (ax_fc (ax_v_ld (ax_r_aload_n (i := 2) d_W_subkey_0 rfl)) (ax_fc (ax_v_pu (ax_r_iconst (v := 0) d_W_subkey_1 (by decide))) (ax_fc (ax_v_ld (ax_r_aload_n (i := 0) d_W_subkey_2 rfl)) (ax_fc (ax_v_ld (ax_r_iload_n (i := 1) d_W_subkey_3 rfl)) ax_fn)))) (y := (4, [(0, .inr (0, 23)), (1, .inl (.int a1)), (2, .inr (0, 37))], [.inl (.int a1), .inr (0, 23), .inl (.int (0 : Int32)), .inr (0, 37)], ax_m s ρ)) rfl ⟨trivial, trivial, trivial, trivial, trivial⟩ ?_
  refine ax_wX (rest := [.inl (.int (0 : Int32)), .inr (0, 37)]) hA 1 rfl (fun z hz => by
    simp only [List.take, List.mem_cons, List.not_mem_nil, or_false] at hz
    rcases hz with rfl
    · exact ⟨"java/lang/IllegalStateException", by decide, nw_3 146 (by decide +kernel) rfl, by decide⟩) (by decide) (by decide) (nw_3 237 (by decide +kernel) rfl) (by decide) (x_X_subkey_1 hfl h0 hg hx h) cw_W_37 imw_X_subkey sew_X_subkey d_W_subkey_4 (h0 23 rfl) rfl rfl (by decide) (by decide) rfl rfl (Nat.le_of_ble_eq_true rfl) (fun q9 => ?_)
  refine ax_bk hK (ax_fc (ax_v_so (ax_r_astore_n (i := 3) d_W_subkey_14 rfl)) (ax_fc (ax_v_pu (ax_r_iconst (v := 2) d_W_subkey_15 (by decide))) ax_fn)) (y := (16, [(3, .inl (.ref q9)), (0, .inr (0, 23)), (1, .inl (.int a1)), (2, .inr (0, 37))], [.inl (.int (2 : Int32))], ax_m s ρ)) rfl ⟨trivial, trivial, trivial⟩ ?_
  exact ax_wr hA d_W_subkey_16 (by decide) (by decide)
def y_W_encrypt : MethodName := ⟨"CipherNotationLaw", "encrypt", "(LCipherNotation;[J)I"⟩
theorem d_W_encrypt_0 : decode method_10_code 0 = .ok (.aload_n 1, 1) := by decide +kernel
theorem d_W_encrypt_1 : decode method_10_code 1 = .ok (.iconst 0, 1) := by decide +kernel
theorem d_W_encrypt_2 : decode method_10_code 2 = .ok (.aload_n 0, 1) := by decide +kernel
theorem d_W_encrypt_3 : decode method_10_code 3 = .ok (.invokevirtual (40), 3) := by decide +kernel
theorem d_W_encrypt_6 : decode method_10_code 6 = .ok (.i2l, 1) := by decide +kernel
theorem d_W_encrypt_7 : decode method_10_code 7 = .ok (.lastore, 1) := by decide +kernel
theorem d_W_encrypt_8 : decode method_10_code 8 = .ok (.goto (6), 3) := by decide +kernel
theorem d_W_encrypt_11 : decode method_10_code 11 = .ok (.astore_n 2, 1) := by decide +kernel
theorem d_W_encrypt_12 : decode method_10_code 12 = .ok (.iconst 1, 1) := by decide +kernel
theorem d_W_encrypt_13 : decode method_10_code 13 = .ok (.ireturn, 1) := by decide +kernel
theorem d_W_encrypt_14 : decode method_10_code 14 = .ok (.iconst 0, 1) := by decide +kernel
theorem d_W_encrypt_15 : decode method_10_code 15 = .ok (.ireturn, 1) := by decide +kernel
theorem cw_W_40 : ax_cw "CipherNotationLaw" 40 y_X_encrypt (.code y_X_encrypt prog_1_method_14_code 1 (some .int)) 0 := ⟨nw_4 88 (by decide +kernel) rfl, nw_1 1 (by decide +kernel) rfl, nw_4 91 rfl rfl, by decide +kernel, by decide +kernel⟩
theorem imw_X_encrypt : Cond.instanceMethod y_X_encrypt ∈ ax_tbl := nw_4 89 (by decide +kernel) rfl
theorem sew_X_encrypt : Cond.selects y_X_encrypt.cls y_X_encrypt y_X_encrypt ∈ ax_tbl := nw_4 90 (by decide +kernel) rfl
set_option maxHeartbeats 4000000 in
set_option maxRecDepth 100000 in
theorem t_W_encrypt {l : Launch} {D : va_G} {cA : Nat → ClassId} {ad : Nat → Nat → Nat} {al : List (Nat × Nat)} {θ : ax_Θ} {ρ : ax_ρ} {F : Nat} {g : Nat} (h0 : ax_M0 al) (hg : ax_Mg al g) (hr : ax_md ρ g) (hx : ρ 0 23 5 = some (g, 0))  {s : ax_σ} {r0 : Int32} {s0 : ax_σ} (h : f_X_encrypt F g s = some (r0, s0)) : ax_U l D cA ad al θ y_W_encrypt (.codeWith y_W_encrypt method_10_code 3 (some .int) [(0, 8, 11, 13)]) 8 [.inr (0, 23), .inr (0, 37)] (ax_m s ρ) (some (.inl (.int 0))) (ax_m (s0.1, ax_uL s0.2 0 37 ((0 : Int32)).toNatClampNeg (r0.toInt64)) ρ) := by
  refine ax_U_of (own := "CipherNotationLaw") (by decide) rfl (Nat.le_of_ble_eq_true rfl) [(0, .inr (0, 23)), (1, .inr (0, 37))] rfl ?_
  intro G hA
  have hK := hA.K
  have hal := hA.la
  refine ax_bk hK (ax_fc (ax_v_ld (ax_r_aload_n (i := 1) d_W_encrypt_0 rfl)) (ax_fc (ax_v_pu (ax_r_iconst (v := 0) d_W_encrypt_1 (by decide))) (ax_fc (ax_v_ld (ax_r_aload_n (i := 0) d_W_encrypt_2 rfl)) ax_fn))) (y := (3, [(0, .inr (0, 23)), (1, .inr (0, 37))], [.inr (0, 23), .inl (.int (0 : Int32)), .inr (0, 37)], ax_m s ρ)) rfl ⟨trivial, trivial, trivial, trivial⟩ ?_
  refine ax_wV (rest := [.inl (.int (0 : Int32)), .inr (0, 37)]) hA (t_X_encrypt h0 hg hr hx h) cw_W_40 imw_X_encrypt sew_X_encrypt d_W_encrypt_3 (h0 23 rfl) rfl rfl (by decide) (by decide) rfl rfl (Nat.le_of_ble_eq_true rfl) ?_
  refine ax_bk hK (ax_fc (ax_v_pu (ax_r_i2l d_W_encrypt_6)) (ax_fc (ax_w_last hal d_W_encrypt_7) (ax_fc (ax_v_go (tgt := 14) d_W_encrypt_8 (by decide)) (ax_fc (ax_v_pu (ax_r_iconst (v := 0) d_W_encrypt_14 (by decide))) ax_fn)))) (y := (15, [(0, .inr (0, 23)), (1, .inr (0, 37))], [.inl (.int (0 : Int32))], (ax_m (s0.1, ax_uL s0.2 0 37 ((0 : Int32)).toNatClampNeg (r0.toInt64)) ρ))) rfl ⟨trivial, ⟨h0 37 rfl, ax_inp (by decide)⟩, trivial, trivial, trivial⟩ ?_
  exact ax_wr hA d_W_encrypt_15 (by decide) (by decide)
set_option maxHeartbeats 4000000 in
set_option maxRecDepth 100000 in
theorem x_W_encrypt_0 {l : Launch} {D : va_G} {cA : Nat → ClassId} {ad : Nat → Nat → Nat} {al : List (Nat × Nat)} {θ : ax_Θ} {ρ : ax_ρ} {g : Nat} (hfl : l.flags = flags0) (h0 : ax_M0 al) (hx : ρ 0 23 5 = none)  {s : ax_σ} : ax_U l D cA ad al θ y_W_encrypt (.codeWith y_W_encrypt method_10_code 3 (some .int) [(0, 8, 11, 13)]) 8 [.inr (0, 23), .inr (0, 37)] (ax_m s ρ) (some (.inl (.int 1))) (ax_m s ρ) := by
  refine ax_U_of (own := "CipherNotationLaw") (by decide) rfl (Nat.le_of_ble_eq_true rfl) [(0, .inr (0, 23)), (1, .inr (0, 37))] rfl ?_
  intro G hA
  have hK := hA.K
  have hal := hA.la
  refine ax_bk hK (ax_fc (ax_v_ld (ax_r_aload_n (i := 1) d_W_encrypt_0 rfl)) (ax_fc (ax_v_pu (ax_r_iconst (v := 0) d_W_encrypt_1 (by decide))) (ax_fc (ax_v_ld (ax_r_aload_n (i := 0) d_W_encrypt_2 rfl)) ax_fn))) (y := (3, [(0, .inr (0, 23)), (1, .inr (0, 37))], [.inr (0, 23), .inl (.int (0 : Int32)), .inr (0, 37)], ax_m s ρ)) rfl ⟨trivial, trivial, trivial, trivial⟩ ?_
  refine ax_wX (rest := [.inl (.int (0 : Int32)), .inr (0, 37)]) hA 0 rfl (fun z hz => by cases hz) (by decide) (by decide) (nw_3 146 (by decide +kernel) rfl) (by decide) (x_X_encrypt_0 (g := 0) hfl h0 hx) cw_W_40 imw_X_encrypt sew_X_encrypt d_W_encrypt_3 (h0 23 rfl) rfl rfl (by decide) (by decide) rfl rfl (Nat.le_of_ble_eq_true rfl) (fun q9 => ?_)
  refine ax_bk hK (ax_fc (ax_v_so (ax_r_astore_n (i := 2) d_W_encrypt_11 rfl)) (ax_fc (ax_v_pu (ax_r_iconst (v := 1) d_W_encrypt_12 (by decide))) ax_fn)) (y := (13, [(2, .inl (.ref q9)), (0, .inr (0, 23)), (1, .inr (0, 37))], [.inl (.int (1 : Int32))], ax_m s ρ)) rfl ⟨trivial, trivial, trivial⟩ ?_
  exact ax_wr hA d_W_encrypt_13 (by decide) (by decide)
def y_W_decrypt : MethodName := ⟨"CipherNotationLaw", "decrypt", "(LCipherNotation;[J)I"⟩
theorem d_W_decrypt_0 : decode method_11_code 0 = .ok (.aload_n 1, 1) := by decide +kernel
theorem d_W_decrypt_1 : decode method_11_code 1 = .ok (.iconst 0, 1) := by decide +kernel
theorem d_W_decrypt_2 : decode method_11_code 2 = .ok (.aload_n 0, 1) := by decide +kernel
theorem d_W_decrypt_3 : decode method_11_code 3 = .ok (.invokevirtual (44), 3) := by decide +kernel
theorem d_W_decrypt_6 : decode method_11_code 6 = .ok (.i2l, 1) := by decide +kernel
theorem d_W_decrypt_7 : decode method_11_code 7 = .ok (.lastore, 1) := by decide +kernel
theorem d_W_decrypt_8 : decode method_11_code 8 = .ok (.goto (6), 3) := by decide +kernel
theorem d_W_decrypt_11 : decode method_11_code 11 = .ok (.astore_n 2, 1) := by decide +kernel
theorem d_W_decrypt_12 : decode method_11_code 12 = .ok (.iconst 1, 1) := by decide +kernel
theorem d_W_decrypt_13 : decode method_11_code 13 = .ok (.ireturn, 1) := by decide +kernel
theorem d_W_decrypt_14 : decode method_11_code 14 = .ok (.iconst 0, 1) := by decide +kernel
theorem d_W_decrypt_15 : decode method_11_code 15 = .ok (.ireturn, 1) := by decide +kernel
theorem cw_W_44 : ax_cw "CipherNotationLaw" 44 y_X_decrypt (.code y_X_decrypt prog_1_method_15_code 1 (some .int)) 0 := ⟨nw_4 120 (by decide +kernel) rfl, nw_1 1 (by decide +kernel) rfl, nw_4 123 rfl rfl, by decide +kernel, by decide +kernel⟩
theorem imw_X_decrypt : Cond.instanceMethod y_X_decrypt ∈ ax_tbl := nw_4 121 (by decide +kernel) rfl
theorem sew_X_decrypt : Cond.selects y_X_decrypt.cls y_X_decrypt y_X_decrypt ∈ ax_tbl := nw_4 122 (by decide +kernel) rfl
set_option maxHeartbeats 4000000 in
set_option maxRecDepth 100000 in
theorem t_W_decrypt {l : Launch} {D : va_G} {cA : Nat → ClassId} {ad : Nat → Nat → Nat} {al : List (Nat × Nat)} {θ : ax_Θ} {ρ : ax_ρ} {F : Nat} {g : Nat} (h0 : ax_M0 al) (hg : ax_Mg al g) (hr : ax_md ρ g) (hx : ρ 0 23 5 = some (g, 0))  {s : ax_σ} {r0 : Int32} {s0 : ax_σ} (h : f_X_decrypt F g s = some (r0, s0)) : ax_U l D cA ad al θ y_W_decrypt (.codeWith y_W_decrypt method_11_code 3 (some .int) [(0, 8, 11, 13)]) 8 [.inr (0, 23), .inr (0, 37)] (ax_m s ρ) (some (.inl (.int 0))) (ax_m (s0.1, ax_uL s0.2 0 37 ((0 : Int32)).toNatClampNeg (r0.toInt64)) ρ) := by
  refine ax_U_of (own := "CipherNotationLaw") (by decide) rfl (Nat.le_of_ble_eq_true rfl) [(0, .inr (0, 23)), (1, .inr (0, 37))] rfl ?_
  intro G hA
  have hK := hA.K
  have hal := hA.la
  refine ax_bk hK (ax_fc (ax_v_ld (ax_r_aload_n (i := 1) d_W_decrypt_0 rfl)) (ax_fc (ax_v_pu (ax_r_iconst (v := 0) d_W_decrypt_1 (by decide))) (ax_fc (ax_v_ld (ax_r_aload_n (i := 0) d_W_decrypt_2 rfl)) ax_fn))) (y := (3, [(0, .inr (0, 23)), (1, .inr (0, 37))], [.inr (0, 23), .inl (.int (0 : Int32)), .inr (0, 37)], ax_m s ρ)) rfl ⟨trivial, trivial, trivial, trivial⟩ ?_
  refine ax_wV (rest := [.inl (.int (0 : Int32)), .inr (0, 37)]) hA (t_X_decrypt h0 hg hr hx h) cw_W_44 imw_X_decrypt sew_X_decrypt d_W_decrypt_3 (h0 23 rfl) rfl rfl (by decide) (by decide) rfl rfl (Nat.le_of_ble_eq_true rfl) ?_
  refine ax_bk hK (ax_fc (ax_v_pu (ax_r_i2l d_W_decrypt_6)) (ax_fc (ax_w_last hal d_W_decrypt_7) (ax_fc (ax_v_go (tgt := 14) d_W_decrypt_8 (by decide)) (ax_fc (ax_v_pu (ax_r_iconst (v := 0) d_W_decrypt_14 (by decide))) ax_fn)))) (y := (15, [(0, .inr (0, 23)), (1, .inr (0, 37))], [.inl (.int (0 : Int32))], (ax_m (s0.1, ax_uL s0.2 0 37 ((0 : Int32)).toNatClampNeg (r0.toInt64)) ρ))) rfl ⟨trivial, ⟨h0 37 rfl, ax_inp (by decide)⟩, trivial, trivial, trivial⟩ ?_
  exact ax_wr hA d_W_decrypt_15 (by decide) (by decide)
set_option maxHeartbeats 4000000 in
set_option maxRecDepth 100000 in
theorem x_W_decrypt_0 {l : Launch} {D : va_G} {cA : Nat → ClassId} {ad : Nat → Nat → Nat} {al : List (Nat × Nat)} {θ : ax_Θ} {ρ : ax_ρ} {g : Nat} (hfl : l.flags = flags0) (h0 : ax_M0 al) (hx : ρ 0 23 5 = none)  {s : ax_σ} : ax_U l D cA ad al θ y_W_decrypt (.codeWith y_W_decrypt method_11_code 3 (some .int) [(0, 8, 11, 13)]) 8 [.inr (0, 23), .inr (0, 37)] (ax_m s ρ) (some (.inl (.int 1))) (ax_m s ρ) := by
  refine ax_U_of (own := "CipherNotationLaw") (by decide) rfl (Nat.le_of_ble_eq_true rfl) [(0, .inr (0, 23)), (1, .inr (0, 37))] rfl ?_
  intro G hA
  have hK := hA.K
  have hal := hA.la
  refine ax_bk hK (ax_fc (ax_v_ld (ax_r_aload_n (i := 1) d_W_decrypt_0 rfl)) (ax_fc (ax_v_pu (ax_r_iconst (v := 0) d_W_decrypt_1 (by decide))) (ax_fc (ax_v_ld (ax_r_aload_n (i := 0) d_W_decrypt_2 rfl)) ax_fn))) (y := (3, [(0, .inr (0, 23)), (1, .inr (0, 37))], [.inr (0, 23), .inl (.int (0 : Int32)), .inr (0, 37)], ax_m s ρ)) rfl ⟨trivial, trivial, trivial, trivial⟩ ?_
  refine ax_wX (rest := [.inl (.int (0 : Int32)), .inr (0, 37)]) hA 0 rfl (fun z hz => by cases hz) (by decide) (by decide) (nw_3 146 (by decide +kernel) rfl) (by decide) (x_X_decrypt_0 (g := 0) hfl h0 hx) cw_W_44 imw_X_decrypt sew_X_decrypt d_W_decrypt_3 (h0 23 rfl) rfl rfl (by decide) (by decide) rfl rfl (Nat.le_of_ble_eq_true rfl) (fun q9 => ?_)
  refine ax_bk hK (ax_fc (ax_v_so (ax_r_astore_n (i := 2) d_W_decrypt_11 rfl)) (ax_fc (ax_v_pu (ax_r_iconst (v := 1) d_W_decrypt_12 (by decide))) ax_fn)) (y := (13, [(2, .inl (.ref q9)), (0, .inr (0, 23)), (1, .inr (0, 37))], [.inl (.int (1 : Int32))], ax_m s ρ)) rfl ⟨trivial, trivial, trivial⟩ ?_
  exact ax_wr hA d_W_decrypt_13 (by decide) (by decide)
def y_W_apply : MethodName := ⟨"CipherNotationLaw", "apply", "(LCipherNotation;II[J)I"⟩
theorem d_W_apply_0 : decode method_12_code 0 = .ok (.aload_n 3, 1) := by decide +kernel
theorem d_W_apply_1 : decode method_12_code 1 = .ok (.iconst 0, 1) := by decide +kernel
theorem d_W_apply_2 : decode method_12_code 2 = .ok (.aload_n 0, 1) := by decide +kernel
theorem d_W_apply_3 : decode method_12_code 3 = .ok (.iload_n 1, 1) := by decide +kernel
theorem d_W_apply_4 : decode method_12_code 4 = .ok (.iload_n 2, 1) := by decide +kernel
theorem d_W_apply_5 : decode method_12_code 5 = .ok (.invokevirtual (47), 3) := by decide +kernel
theorem d_W_apply_8 : decode method_12_code 8 = .ok (.i2l, 1) := by decide +kernel
theorem d_W_apply_9 : decode method_12_code 9 = .ok (.lastore, 1) := by decide +kernel
theorem d_W_apply_10 : decode method_12_code 10 = .ok (.goto (11), 3) := by decide +kernel
theorem d_W_apply_13 : decode method_12_code 13 = .ok (.astore (4), 2) := by decide +kernel
theorem d_W_apply_15 : decode method_12_code 15 = .ok (.iconst 1, 1) := by decide +kernel
theorem d_W_apply_16 : decode method_12_code 16 = .ok (.ireturn, 1) := by decide +kernel
theorem d_W_apply_17 : decode method_12_code 17 = .ok (.astore (4), 2) := by decide +kernel
theorem d_W_apply_19 : decode method_12_code 19 = .ok (.iconst 2, 1) := by decide +kernel
theorem d_W_apply_20 : decode method_12_code 20 = .ok (.ireturn, 1) := by decide +kernel
theorem d_W_apply_21 : decode method_12_code 21 = .ok (.iconst 0, 1) := by decide +kernel
theorem d_W_apply_22 : decode method_12_code 22 = .ok (.ireturn, 1) := by decide +kernel
theorem cw_W_47 : ax_cw "CipherNotationLaw" 47 y_X_apply (.code y_X_apply prog_1_method_16_code 4 (some .int)) 2 := ⟨nw_4 127 (by decide +kernel) rfl, nw_1 1 (by decide +kernel) rfl, nw_4 130 rfl rfl, by decide +kernel, by decide +kernel⟩
theorem imw_X_apply : Cond.instanceMethod y_X_apply ∈ ax_tbl := nw_4 128 (by decide +kernel) rfl
theorem sew_X_apply : Cond.selects y_X_apply.cls y_X_apply y_X_apply ∈ ax_tbl := nw_4 129 (by decide +kernel) rfl
set_option maxHeartbeats 4000000 in
set_option maxRecDepth 100000 in
theorem t_W_apply {l : Launch} {D : va_G} {cA : Nat → ClassId} {ad : Nat → Nat → Nat} {al : List (Nat × Nat)} {θ : ax_Θ} {ρ : ax_ρ} {F : Nat} {g : Nat} (h0 : ax_M0 al) (hg : ax_Mg al g) (hr : ax_md ρ g) (hx : ρ 0 23 5 = some (g, 0)) {a1 : Int32} {a2 : Int32} {s : ax_σ} {r0 : Int32} {s0 : ax_σ} (h : f_X_apply F g a1 a2 s = some (r0, s0)) : ax_U l D cA ad al θ y_W_apply (.codeWith y_W_apply method_12_code 5 (some .int) [(0, 10, 13, 13), (0, 10, 17, 15)]) 8 [.inr (0, 23), .inl (.int a1), .inl (.int a2), .inr (0, 37)] (ax_m s ρ) (some (.inl (.int 0))) (ax_m (s0.1, ax_uL s0.2 0 37 ((0 : Int32)).toNatClampNeg (r0.toInt64)) ρ) := by
  refine ax_U_of (own := "CipherNotationLaw") (by decide) rfl (Nat.le_of_ble_eq_true rfl) [(0, .inr (0, 23)), (1, .inl (.int a1)), (2, .inl (.int a2)), (3, .inr (0, 37))] rfl ?_
  intro G hA
  have hK := hA.K
  have hal := hA.la
  refine ax_bk hK (ax_fc (ax_v_ld (ax_r_aload_n (i := 3) d_W_apply_0 rfl)) (ax_fc (ax_v_pu (ax_r_iconst (v := 0) d_W_apply_1 (by decide))) (ax_fc (ax_v_ld (ax_r_aload_n (i := 0) d_W_apply_2 rfl)) (ax_fc (ax_v_ld (ax_r_iload_n (i := 1) d_W_apply_3 rfl)) (ax_fc (ax_v_ld (ax_r_iload_n (i := 2) d_W_apply_4 rfl)) ax_fn))))) (y := (5, [(0, .inr (0, 23)), (1, .inl (.int a1)), (2, .inl (.int a2)), (3, .inr (0, 37))], [.inl (.int a2), .inl (.int a1), .inr (0, 23), .inl (.int (0 : Int32)), .inr (0, 37)], ax_m s ρ)) rfl ⟨trivial, trivial, trivial, trivial, trivial, trivial⟩ ?_
  refine ax_wV (rest := [.inl (.int (0 : Int32)), .inr (0, 37)]) hA (t_X_apply h0 hg hr hx h) cw_W_47 imw_X_apply sew_X_apply d_W_apply_5 (h0 23 rfl) rfl rfl (by decide) (by decide) rfl rfl (Nat.le_of_ble_eq_true rfl) ?_
  refine ax_bk hK (ax_fc (ax_v_pu (ax_r_i2l d_W_apply_8)) (ax_fc (ax_w_last hal d_W_apply_9) (ax_fc (ax_v_go (tgt := 21) d_W_apply_10 (by decide)) (ax_fc (ax_v_pu (ax_r_iconst (v := 0) d_W_apply_21 (by decide))) ax_fn)))) (y := (22, [(0, .inr (0, 23)), (1, .inl (.int a1)), (2, .inl (.int a2)), (3, .inr (0, 37))], [.inl (.int (0 : Int32))], (ax_m (s0.1, ax_uL s0.2 0 37 ((0 : Int32)).toNatClampNeg (r0.toInt64)) ρ))) rfl ⟨trivial, ⟨h0 37 rfl, ax_inp (by decide)⟩, trivial, trivial, trivial⟩ ?_
  exact ax_wr hA d_W_apply_22 (by decide) (by decide)
set_option maxHeartbeats 4000000 in
set_option maxRecDepth 100000 in
theorem x_W_apply_0 {l : Launch} {D : va_G} {cA : Nat → ClassId} {ad : Nat → Nat → Nat} {al : List (Nat × Nat)} {θ : ax_Θ} {ρ : ax_ρ} {g : Nat} (hfl : l.flags = flags0) (h0 : ax_M0 al) (hx : ρ 0 23 5 = none) {a1 : Int32} {a2 : Int32} {s : ax_σ} : ax_U l D cA ad al θ y_W_apply (.codeWith y_W_apply method_12_code 5 (some .int) [(0, 10, 13, 13), (0, 10, 17, 15)]) 8 [.inr (0, 23), .inl (.int a1), .inl (.int a2), .inr (0, 37)] (ax_m s ρ) (some (.inl (.int 1))) (ax_m s ρ) := by
  refine ax_U_of (own := "CipherNotationLaw") (by decide) rfl (Nat.le_of_ble_eq_true rfl) [(0, .inr (0, 23)), (1, .inl (.int a1)), (2, .inl (.int a2)), (3, .inr (0, 37))] rfl ?_
  intro G hA
  have hK := hA.K
  have hal := hA.la
  refine ax_bk hK (ax_fc (ax_v_ld (ax_r_aload_n (i := 3) d_W_apply_0 rfl)) (ax_fc (ax_v_pu (ax_r_iconst (v := 0) d_W_apply_1 (by decide))) (ax_fc (ax_v_ld (ax_r_aload_n (i := 0) d_W_apply_2 rfl)) (ax_fc (ax_v_ld (ax_r_iload_n (i := 1) d_W_apply_3 rfl)) (ax_fc (ax_v_ld (ax_r_iload_n (i := 2) d_W_apply_4 rfl)) ax_fn))))) (y := (5, [(0, .inr (0, 23)), (1, .inl (.int a1)), (2, .inl (.int a2)), (3, .inr (0, 37))], [.inl (.int a2), .inl (.int a1), .inr (0, 23), .inl (.int (0 : Int32)), .inr (0, 37)], ax_m s ρ)) rfl ⟨trivial, trivial, trivial, trivial, trivial, trivial⟩ ?_
  refine ax_wX (rest := [.inl (.int (0 : Int32)), .inr (0, 37)]) hA 0 rfl (fun z hz => by cases hz) (by decide) (by decide) (nw_3 146 (by decide +kernel) rfl) (by decide) (x_X_apply_0 (g := 0) hfl h0 hx) cw_W_47 imw_X_apply sew_X_apply d_W_apply_5 (h0 23 rfl) rfl rfl (by decide) (by decide) rfl rfl (Nat.le_of_ble_eq_true rfl) (fun q9 => ?_)
  refine ax_bk hK (ax_fc (ax_v_so (ax_r_astore d_W_apply_13)) (ax_fc (ax_v_pu (ax_r_iconst (v := 1) d_W_apply_15 (by decide))) ax_fn)) (y := (16, [(4, .inl (.ref q9)), (0, .inr (0, 23)), (1, .inl (.int a1)), (2, .inl (.int a2)), (3, .inr (0, 37))], [.inl (.int (1 : Int32))], ax_m s ρ)) rfl ⟨trivial, trivial, trivial⟩ ?_
  exact ax_wr hA d_W_apply_16 (by decide) (by decide)
set_option maxHeartbeats 4000000 in
set_option maxRecDepth 100000 in
theorem x_W_apply_1 {l : Launch} {D : va_G} {cA : Nat → ClassId} {ad : Nat → Nat → Nat} {al : List (Nat × Nat)} {θ : ax_Θ} {ρ : ax_ρ} {g : Nat} (hfl : l.flags = flags0) (h0 : ax_M0 al) (hg : ax_Mg al g) (hx : ρ 0 23 5 = some (g, 0)) {a1 : Int32} {a2 : Int32} {s : ax_σ} (h : a1 < 0 ∨ s.1 g 1 ((5 : Int32)).toNatClampNeg < a1 ∨ a2 < 0 ∨ s.1 g 1 ((5 : Int32)).toNatClampNeg < a2) : ax_U l D cA ad al θ y_W_apply (.codeWith y_W_apply method_12_code 5 (some .int) [(0, 10, 13, 13), (0, 10, 17, 15)]) 8 [.inr (0, 23), .inl (.int a1), .inl (.int a2), .inr (0, 37)] (ax_m s ρ) (some (.inl (.int 2))) (ax_m s ρ) := by
  refine ax_U_of (own := "CipherNotationLaw") (by decide) rfl (Nat.le_of_ble_eq_true rfl) [(0, .inr (0, 23)), (1, .inl (.int a1)), (2, .inl (.int a2)), (3, .inr (0, 37))] rfl ?_
  intro G hA
  have hK := hA.K
  have hal := hA.la
  refine ax_bk hK (ax_fc (ax_v_ld (ax_r_aload_n (i := 3) d_W_apply_0 rfl)) (ax_fc (ax_v_pu (ax_r_iconst (v := 0) d_W_apply_1 (by decide))) (ax_fc (ax_v_ld (ax_r_aload_n (i := 0) d_W_apply_2 rfl)) (ax_fc (ax_v_ld (ax_r_iload_n (i := 1) d_W_apply_3 rfl)) (ax_fc (ax_v_ld (ax_r_iload_n (i := 2) d_W_apply_4 rfl)) ax_fn))))) (y := (5, [(0, .inr (0, 23)), (1, .inl (.int a1)), (2, .inl (.int a2)), (3, .inr (0, 37))], [.inl (.int a2), .inl (.int a1), .inr (0, 23), .inl (.int (0 : Int32)), .inr (0, 37)], ax_m s ρ)) rfl ⟨trivial, trivial, trivial, trivial, trivial, trivial⟩ ?_
  refine ax_wX (rest := [.inl (.int (0 : Int32)), .inr (0, 37)]) hA 1 rfl (fun z hz => by
    simp only [List.take, List.mem_cons, List.not_mem_nil, or_false] at hz
    rcases hz with rfl
    · exact ⟨"java/lang/IllegalStateException", by decide, nw_3 146 (by decide +kernel) rfl, by decide⟩) (by decide) (by decide) (nw_3 147 (by decide +kernel) rfl) (by decide) (x_X_apply_1 hfl h0 hg hx h) cw_W_47 imw_X_apply sew_X_apply d_W_apply_5 (h0 23 rfl) rfl rfl (by decide) (by decide) rfl rfl (Nat.le_of_ble_eq_true rfl) (fun q9 => ?_)
  refine ax_bk hK (ax_fc (ax_v_so (ax_r_astore d_W_apply_17)) (ax_fc (ax_v_pu (ax_r_iconst (v := 2) d_W_apply_19 (by decide))) ax_fn)) (y := (20, [(4, .inl (.ref q9)), (0, .inr (0, 23)), (1, .inl (.int a1)), (2, .inl (.int a2)), (3, .inr (0, 37))], [.inl (.int (2 : Int32))], ax_m s ρ)) rfl ⟨trivial, trivial, trivial⟩ ?_
  exact ax_wr hA d_W_apply_20 (by decide) (by decide)
