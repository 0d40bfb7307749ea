/-! THE ROADS THAT THROW, method by method -/
set_option maxHeartbeats 4000000 in
set_option maxRecDepth 100000 in
theorem x_X_needProgram {l : Launch} {D : va_G} {cA : Nat → ClassId} {ad : Nat → Nat → Nat} {al : List (Nat × Nat)} {θ : ax_Θ} {ρ : ax_ρ} {g : Nat} (hfl : l.flags = flags0) (h0 : ax_M0 al) (hx : ρ 0 23 5 = none) {s : ax_σ} : ax_X l D cA ad al θ y_X_needProgram (.code y_X_needProgram prog_1_method_17_code 1 none) 6 [.inr (0, 23)] (ax_m s ρ) "java/lang/IllegalStateException" := by
  refine ax_X_of (own := "CipherNotation") (by decide) rfl (Nat.le_of_ble_eq_true rfl) [(0, .inr (0, 23))] rfl ?_
  intro G hA
  have hK := hA.K
  have hal := hA.la
  refine ax_bk hK (ax_fc (ax_v_ld (ax_r_aload_n (i := 0) d_X_needProgram_0 rfl)) (ax_fc (ax_w_gf (e := none) hal d_X_needProgram_1 fd_X_34) ax_fn)) (y := (4, [(0, .inr (0, 23))], [.inl .null], ax_m s ρ)) rfl ⟨trivial, ⟨(h0 23 rfl), hx⟩, trivial⟩ ?_
  refine ax_nnN hK d_X_needProgram_4 ?_
  exact ax_thr (names := ["java/lang/RuntimeException", "java/lang/Exception"]) hA hfl (by decide) (by decide) (nw_3 156 (by decide +kernel) rfl) (nw_1 17 (by decide +kernel) rfl) tw_IllegalStateException d_X_needProgram_7 d_X_needProgram_10 d_X_needProgram_11 d_X_needProgram_14 (by decide) (by decide) (by decide)
set_option maxHeartbeats 4000000 in
set_option maxRecDepth 100000 in
theorem x_X_needIndex {l : Launch} {D : va_G} {cA : Nat → ClassId} {ad : Nat → Nat → Nat} {al : List (Nat × Nat)} {θ : ax_Θ} {ρ : ax_ρ} {g : Nat} (hfl : l.flags = flags0) {a1 a2 : Int32} {s : ax_σ} (h : f_X_needIndex a1 a2 = none) : ax_X l D cA ad al θ y_X_needIndex (.code y_X_needIndex prog_1_method_18_code 2 none) 6 [.inl (.int a1), .inl (.int a2)] (ax_m s ρ) "java/lang/IndexOutOfBoundsException" := by
  refine ax_X_of (own := "CipherNotation") (by decide) rfl (Nat.le_of_ble_eq_true rfl) [(0, .inl (.int a1)), (1, .inl (.int a2))] rfl ?_
  intro G hA
  have hK := hA.K
  have hal := hA.la
  unfold f_X_needIndex at h
  refine ax_bk hK (ax_fc (ax_v_ld (ax_r_iload_n (i := 0) d_X_needIndex_0 rfl)) ax_fn) (y := (1, [(0, .inl (.int a1)), (1, .inl (.int a2))], [.inl (.int a1)], ax_m s ρ)) rfl ⟨trivial, trivial⟩ ?_
  refine ax_if_lt (tgt := 9) hK d_X_needIndex_1 (by decide) (fun c2 => ?_) (fun c2 => ?_)
  · exact ax_thr (names := ["java/lang/RuntimeException", "java/lang/Exception"]) hA hfl (by decide) (by decide) (nw_4 5 (by decide +kernel) rfl) (nw_1 19 (by decide +kernel) rfl) tw_IndexOutOfBoundsException d_X_needIndex_9 d_X_needIndex_12 d_X_needIndex_13 d_X_needIndex_16 (by decide) (by decide) (by decide)
  · refine ax_bk hK (ax_fc (ax_v_ld (ax_r_iload_n (i := 0) d_X_needIndex_4 rfl)) (ax_fc (ax_v_ld (ax_r_iload_n (i := 1) d_X_needIndex_5 rfl)) ax_fn)) (y := (6, [(0, .inl (.int a1)), (1, .inl (.int a2))], [.inl (.int a2), .inl (.int a1)], ax_m s ρ)) rfl ⟨trivial, trivial, trivial⟩ ?_
    refine ax_ic_lt (tgt := 17) hK d_X_needIndex_6 (by decide) (fun c1 => ?_) (fun c1 => ?_)
    · exfalso; rw [if_neg c2, if_pos c1] at h; exact Option.some_ne_none () (show (some () : Option Unit) = none from h)
    · exact ax_thr (names := ["java/lang/RuntimeException", "java/lang/Exception"]) hA hfl (by decide) (by decide) (nw_4 5 (by decide +kernel) rfl) (nw_1 19 (by decide +kernel) rfl) tw_IndexOutOfBoundsException d_X_needIndex_9 d_X_needIndex_12 d_X_needIndex_13 d_X_needIndex_16 (by decide) (by decide) (by decide)
set_option maxHeartbeats 4000000 in
set_option maxRecDepth 100000 in
theorem x_X_needWord {l : Launch} {D : va_G} {cA : Nat → ClassId} {ad : Nat → Nat → Nat} {al : List (Nat × Nat)} {θ : ax_Θ} {ρ : ax_ρ} {g : Nat} (hfl : l.flags = flags0) (h0 : ax_M0 al) {a1 : Int64} {s : ax_σ} (h : f_X_needWord a1 s = none) : ax_X l D cA ad al θ y_X_needWord (.code y_X_needWord prog_1_method_19_code 3 none) 6 [.inr (0, 23), .inl (.long a1)] (ax_m s ρ) "java/lang/IllegalArgumentException" := by
  refine ax_X_of (own := "CipherNotation") (by decide) rfl (Nat.le_of_ble_eq_true rfl) [(0, .inr (0, 23)), (1, .inl (.long a1))] rfl ?_
  intro G hA
  have hK := hA.K
  have hal := hA.la
  unfold f_X_needWord at h
  refine ax_bk hK (ax_fc (ax_v_ld (ax_r_lload_n (i := 1) d_X_needWord_0 rfl)) (ax_fc (ax_v_ld (ax_r_aload_n (i := 0) d_X_needWord_1 rfl)) (ax_fc (ax_w_gf (e := none) hal d_X_needWord_2 fd_X_30) (ax_fc (ax_w_gf (e := none) hal d_X_needWord_5 fd_X_105) (ax_fc (ax_v_ldc2 (v := -1) d_X_needWord_8 (nw_4 31 (by decide +kernel) rfl)) (ax_fc (ax_v_pu (ax_r_lxor d_X_needWord_11)) (ax_fc (ax_v_pu (ax_r_land d_X_needWord_12)) (ax_fc (ax_v_pu (ax_r_lconst (v := 0) d_X_needWord_13 (by decide))) (ax_fc (ax_v_pu (ax_r_lcmp d_X_needWord_14)) ax_fn))))))))) (y := (15, [(0, .inr (0, 23)), (1, .inl (.long a1))], [.inl (.int ((lg_cmp (a1 &&& ((s.2 0 32 8) ^^^ (-1 : Int64))) (0 : Int64))))], ax_m (s) ρ)) rfl ⟨trivial, trivial, (h0 23 rfl), (h0 32 rfl), trivial, trivial, trivial, trivial, trivial, trivial⟩ ?_
  refine ax_if_eq (tgt := 26) hK d_X_needWord_15 (by decide) (fun c1 => ?_) (fun c1 => ?_)
  · exfalso; rw [if_pos c1] at h; exact Option.some_ne_none () h
  · exact ax_thr (names := ["java/lang/RuntimeException", "java/lang/Exception"]) hA hfl (by decide) (by decide) (nw_3 219 (by decide +kernel) rfl) (nw_1 18 (by decide +kernel) rfl) tw_IllegalArgumentException d_X_needWord_18 d_X_needWord_21 d_X_needWord_22 d_X_needWord_25 (by decide) (by decide) (by decide)
set_option maxHeartbeats 4000000 in
set_option maxRecDepth 100000 in
theorem x_X_number_0 {l : Launch} {D : va_G} {cA : Nat → ClassId} {ad : Nat → Nat → Nat} {al : List (Nat × Nat)} {θ : ax_Θ} {ρ : ax_ρ} {g : Nat} (hfl : l.flags = flags0) (h0 : ax_M0 al) (hx : ρ 0 23 5 = none) {a1 : Int32} {s : ax_σ} : ax_X l D cA ad al θ y_X_number (.code y_X_number prog_1_method_6_code 2 (some .int)) 7 [.inr (0, 23), .inl (.int a1)] (ax_m s ρ) "java/lang/IllegalStateException" := by
  refine ax_X_of (own := "CipherNotation") (by decide) rfl (Nat.le_of_ble_eq_true rfl) [(0, .inr (0, 23)), (1, .inl (.int a1))] rfl ?_
  intro G hA
  have hK := hA.K
  have hal := hA.la
  refine ax_bk hK (ax_fc (ax_v_ld (ax_r_aload_n (i := 0) d_X_number_0 rfl)) ax_fn) (y := (1, [(0, .inr (0, 23)), (1, .inl (.int a1))], [.inr (0, 23)], ax_m s ρ)) rfl ⟨trivial, trivial⟩ ?_
  exact ax_pV (rest := []) hA (x_X_needProgram (g := 0) hfl h0 hx) cw_X_53 im_X_needProgram se_X_needProgram d_X_number_1 (h0 23 rfl) rfl rfl (by decide) (by decide) rfl rfl (Nat.le_of_ble_eq_true rfl)
set_option maxHeartbeats 4000000 in
set_option maxRecDepth 100000 in
theorem x_X_table_0 {l : Launch} {D : va_G} {cA : Nat → ClassId} {ad : Nat → Nat → Nat} {al : List (Nat × Nat)} {θ : ax_Θ} {ρ : ax_ρ} {g : Nat} (hfl : l.flags = flags0) (h0 : ax_M0 al) (hx : ρ 0 23 5 = none) {a1 : Int32} {a2 : Int32} {a3 : Int32} {s : ax_σ} : ax_X l D cA ad al θ y_X_table (.code y_X_table prog_1_method_8_code 5 (some .int)) 7 [.inr (0, 23), .inl (.int a1), .inl (.int a2), .inl (.int a3)] (ax_m s ρ) "java/lang/IllegalStateException" := by
  refine ax_X_of (own := "CipherNotation") (by decide) rfl (Nat.le_of_ble_eq_true rfl) [(0, .inr (0, 23)), (1, .inl (.int a1)), (2, .inl (.int a2)), (3, .inl (.int a3))] rfl ?_
  intro G hA
  have hK := hA.K
  have hal := hA.la
  refine ax_bk hK (ax_fc (ax_v_ld (ax_r_aload_n (i := 0) d_X_table_0 rfl)) ax_fn) (y := (1, [(0, .inr (0, 23)), (1, .inl (.int a1)), (2, .inl (.int a2)), (3, .inl (.int a3))], [.inr (0, 23)], ax_m s ρ)) rfl ⟨trivial, trivial⟩ ?_
  exact ax_pV (rest := []) hA (x_X_needProgram (g := 0) hfl h0 hx) cw_X_53 im_X_needProgram se_X_needProgram d_X_table_1 (h0 23 rfl) rfl rfl (by decide) (by decide) rfl rfl (Nat.le_of_ble_eq_true rfl)
set_option maxHeartbeats 4000000 in
set_option maxRecDepth 100000 in
theorem x_X_key_0 {l : Launch} {D : va_G} {cA : Nat → ClassId} {ad : Nat → Nat → Nat} {al : List (Nat × Nat)} {θ : ax_Θ} {ρ : ax_ρ} {g : Nat} (hfl : l.flags = flags0) (h0 : ax_M0 al) (hx : ρ 0 23 5 = none) {a1 : Int32} {a2 : Int64} {s : ax_σ} : ax_X l D cA ad al θ y_X_key (.code y_X_key prog_1_method_9_code 6 (some .long)) 7 [.inr (0, 23), .inl (.int a1), .inl (.long a2)] (ax_m s ρ) "java/lang/IllegalStateException" := by
  refine ax_X_of (own := "CipherNotation") (by decide) rfl (Nat.le_of_ble_eq_true rfl) [(0, .inr (0, 23)), (1, .inl (.int a1)), (2, .inl (.long a2))] rfl ?_
  intro G hA
  have hK := hA.K
  have hal := hA.la
  refine ax_bk hK (ax_fc (ax_v_ld (ax_r_aload_n (i := 0) d_X_key_0 rfl)) ax_fn) (y := (1, [(0, .inr (0, 23)), (1, .inl (.int a1)), (2, .inl (.long a2))], [.inr (0, 23)], ax_m s ρ)) rfl ⟨trivial, trivial⟩ ?_
  exact ax_pV (rest := []) hA (x_X_needProgram (g := 0) hfl h0 hx) cw_X_53 im_X_needProgram se_X_needProgram d_X_key_1 (h0 23 rfl) rfl rfl (by decide) (by decide) rfl rfl (Nat.le_of_ble_eq_true rfl)
set_option maxHeartbeats 4000000 in
set_option maxRecDepth 100000 in
theorem x_X_state_0 {l : Launch} {D : va_G} {cA : Nat → ClassId} {ad : Nat → Nat → Nat} {al : List (Nat × Nat)} {θ : ax_Θ} {ρ : ax_ρ} {g : Nat} (hfl : l.flags = flags0) (h0 : ax_M0 al) (hx : ρ 0 23 5 = none) {a1 : Int32} {a2 : Int64} {s : ax_σ} : ax_X l D cA ad al θ y_X_state (.code y_X_state prog_1_method_10_code 6 (some .long)) 7 [.inr (0, 23), .inl (.int a1), .inl (.long a2)] (ax_m s ρ) "java/lang/IllegalStateException" := by
  refine ax_X_of (own := "CipherNotation") (by decide) rfl (Nat.le_of_ble_eq_true rfl) [(0, .inr (0, 23)), (1, .inl (.int a1)), (2, .inl (.long a2))] rfl ?_
  intro G hA
  have hK := hA.K
  have hal := hA.la
  refine ax_bk hK (ax_fc (ax_v_ld (ax_r_aload_n (i := 0) d_X_state_0 rfl)) ax_fn) (y := (1, [(0, .inr (0, 23)), (1, .inl (.int a1)), (2, .inl (.long a2))], [.inr (0, 23)], ax_m s ρ)) rfl ⟨trivial, trivial⟩ ?_
  exact ax_pV (rest := []) hA (x_X_needProgram (g := 0) hfl h0 hx) cw_X_53 im_X_needProgram se_X_needProgram d_X_state_1 (h0 23 rfl) rfl rfl (by decide) (by decide) rfl rfl (Nat.le_of_ble_eq_true rfl)
set_option maxHeartbeats 4000000 in
set_option maxRecDepth 100000 in
theorem x_X_keyWord_0 {l : Launch} {D : va_G} {cA : Nat → ClassId} {ad : Nat → Nat → Nat} {al : List (Nat × Nat)} {θ : ax_Θ} {ρ : ax_ρ} {g : Nat} (hfl : l.flags = flags0) (h0 : ax_M0 al) (hx : ρ 0 23 5 = none) {a1 : Int32} {s : ax_σ} : ax_X l D cA ad al θ y_X_keyWord (.code y_X_keyWord prog_1_method_11_code 2 (some .long)) 7 [.inr (0, 23), .inl (.int a1)] (ax_m s ρ) "java/lang/IllegalStateException" := by
  refine ax_X_of (own := "CipherNotation") (by decide) rfl (Nat.le_of_ble_eq_true rfl) [(0, .inr (0, 23)), (1, .inl (.int a1))] rfl ?_
  intro G hA
  have hK := hA.K
  have hal := hA.la
  refine ax_bk hK (ax_fc (ax_v_ld (ax_r_aload_n (i := 0) d_X_keyWord_0 rfl)) ax_fn) (y := (1, [(0, .inr (0, 23)), (1, .inl (.int a1))], [.inr (0, 23)], ax_m s ρ)) rfl ⟨trivial, trivial⟩ ?_
  exact ax_pV (rest := []) hA (x_X_needProgram (g := 0) hfl h0 hx) cw_X_53 im_X_needProgram se_X_needProgram d_X_keyWord_1 (h0 23 rfl) rfl rfl (by decide) (by decide) rfl rfl (Nat.le_of_ble_eq_true rfl)
set_option maxHeartbeats 4000000 in
set_option maxRecDepth 100000 in
theorem x_X_word_0 {l : Launch} {D : va_G} {cA : Nat → ClassId} {ad : Nat → Nat → Nat} {al : List (Nat × Nat)} {θ : ax_Θ} {ρ : ax_ρ} {g : Nat} (hfl : l.flags = flags0) (h0 : ax_M0 al) (hx : ρ 0 23 5 = none) {a1 : Int32} {s : ax_σ} : ax_X l D cA ad al θ y_X_word (.code y_X_word prog_1_method_12_code 2 (some .long)) 7 [.inr (0, 23), .inl (.int a1)] (ax_m s ρ) "java/lang/IllegalStateException" := by
  refine ax_X_of (own := "CipherNotation") (by decide) rfl (Nat.le_of_ble_eq_true rfl) [(0, .inr (0, 23)), (1, .inl (.int a1))] rfl ?_
  intro G hA
  have hK := hA.K
  have hal := hA.la
  refine ax_bk hK (ax_fc (ax_v_ld (ax_r_aload_n (i := 0) d_X_word_0 rfl)) ax_fn) (y := (1, [(0, .inr (0, 23)), (1, .inl (.int a1))], [.inr (0, 23)], ax_m s ρ)) rfl ⟨trivial, trivial⟩ ?_
  exact ax_pV (rest := []) hA (x_X_needProgram (g := 0) hfl h0 hx) cw_X_53 im_X_needProgram se_X_needProgram d_X_word_1 (h0 23 rfl) rfl rfl (by decide) (by decide) rfl rfl (Nat.le_of_ble_eq_true rfl)
set_option maxHeartbeats 4000000 in
set_option maxRecDepth 100000 in
theorem x_X_subkey_0 {l : Launch} {D : va_G} {cA : Nat → ClassId} {ad : Nat → Nat → Nat} {al : List (Nat × Nat)} {θ : ax_Θ} {ρ : ax_ρ} {g : Nat} (hfl : l.flags = flags0) (h0 : ax_M0 al) (hx : ρ 0 23 5 = none) {a1 : Int32} {s : ax_σ} : ax_X l D cA ad al θ y_X_subkey (.code y_X_subkey prog_1_method_13_code 2 (some .long)) 7 [.inr (0, 23), .inl (.int a1)] (ax_m s ρ) "java/lang/IllegalStateException" := by
  refine ax_X_of (own := "CipherNotation") (by decide) rfl (Nat.le_of_ble_eq_true rfl) [(0, .inr (0, 23)), (1, .inl (.int a1))] rfl ?_
  intro G hA
  have hK := hA.K
  have hal := hA.la
  refine ax_bk hK (ax_fc (ax_v_ld (ax_r_aload_n (i := 0) d_X_subkey_0 rfl)) ax_fn) (y := (1, [(0, .inr (0, 23)), (1, .inl (.int a1))], [.inr (0, 23)], ax_m s ρ)) rfl ⟨trivial, trivial⟩ ?_
  exact ax_pV (rest := []) hA (x_X_needProgram (g := 0) hfl h0 hx) cw_X_53 im_X_needProgram se_X_needProgram d_X_subkey_1 (h0 23 rfl) rfl rfl (by decide) (by decide) rfl rfl (Nat.le_of_ble_eq_true rfl)
set_option maxHeartbeats 4000000 in
set_option maxRecDepth 100000 in
theorem x_X_encrypt_0 {l : Launch} {D : va_G} {cA : Nat → ClassId} {ad : Nat → Nat → Nat} {al : List (Nat × Nat)} {θ : ax_Θ} {ρ : ax_ρ} {g : Nat} (hfl : l.flags = flags0) (h0 : ax_M0 al) (hx : ρ 0 23 5 = none)  {s : ax_σ} : ax_X l D cA ad al θ y_X_encrypt (.code y_X_encrypt prog_1_method_14_code 1 (some .int)) 7 [.inr (0, 23)] (ax_m s ρ) "java/lang/IllegalStateException" := by
  refine ax_X_of (own := "CipherNotation") (by decide) rfl (Nat.le_of_ble_eq_true rfl) [(0, .inr (0, 23))] rfl ?_
  intro G hA
  have hK := hA.K
  have hal := hA.la
  refine ax_bk hK (ax_fc (ax_v_ld (ax_r_aload_n (i := 0) d_X_encrypt_0 rfl)) ax_fn) (y := (1, [(0, .inr (0, 23))], [.inr (0, 23)], ax_m s ρ)) rfl ⟨trivial, trivial⟩ ?_
  exact ax_pV (rest := []) hA (x_X_needProgram (g := 0) hfl h0 hx) cw_X_53 im_X_needProgram se_X_needProgram d_X_encrypt_1 (h0 23 rfl) rfl rfl (by decide) (by decide) rfl rfl (Nat.le_of_ble_eq_true rfl)
set_option maxHeartbeats 4000000 in
set_option maxRecDepth 100000 in
theorem x_X_decrypt_0 {l : Launch} {D : va_G} {cA : Nat → ClassId} {ad : Nat → Nat → Nat} {al : List (Nat × Nat)} {θ : ax_Θ} {ρ : ax_ρ} {g : Nat} (hfl : l.flags = flags0) (h0 : ax_M0 al) (hx : ρ 0 23 5 = none)  {s : ax_σ} : ax_X l D cA ad al θ y_X_decrypt (.code y_X_decrypt prog_1_method_15_code 1 (some .int)) 7 [.inr (0, 23)] (ax_m s ρ) "java/lang/IllegalStateException" := by
  refine ax_X_of (own := "CipherNotation") (by decide) rfl (Nat.le_of_ble_eq_true rfl) [(0, .inr (0, 23))] rfl ?_
  intro G hA
  have hK := hA.K
  have hal := hA.la
  refine ax_bk hK (ax_fc (ax_v_ld (ax_r_aload_n (i := 0) d_X_decrypt_0 rfl)) ax_fn) (y := (1, [(0, .inr (0, 23))], [.inr (0, 23)], ax_m s ρ)) rfl ⟨trivial, trivial⟩ ?_
  exact ax_pV (rest := []) hA (x_X_needProgram (g := 0) hfl h0 hx) cw_X_53 im_X_needProgram se_X_needProgram d_X_decrypt_1 (h0 23 rfl) rfl rfl (by decide) (by decide) rfl rfl (Nat.le_of_ble_eq_true rfl)
set_option maxHeartbeats 4000000 in
set_option maxRecDepth 100000 in
theorem x_X_apply_0 {l : Launch} {D : va_G} {cA : Nat → ClassId} {ad : Nat → Nat → Nat} {al : List (Nat × Nat)} {θ : ax_Θ} {ρ : ax_ρ} {g : Nat} (hfl : l.flags = flags0) (h0 : ax_M0 al) (hx : ρ 0 23 5 = none) {a1 : Int32} {a2 : Int32} {s : ax_σ} : ax_X l D cA ad al θ y_X_apply (.code y_X_apply prog_1_method_16_code 4 (some .int)) 7 [.inr (0, 23), .inl (.int a1), .inl (.int a2)] (ax_m s ρ) "java/lang/IllegalStateException" := by
  refine ax_X_of (own := "CipherNotation") (by decide) rfl (Nat.le_of_ble_eq_true rfl) [(0, .inr (0, 23)), (1, .inl (.int a1)), (2, .inl (.int a2))] rfl ?_
  intro G hA
  have hK := hA.K
  have hal := hA.la
  refine ax_bk hK (ax_fc (ax_v_ld (ax_r_aload_n (i := 0) d_X_apply_0 rfl)) ax_fn) (y := (1, [(0, .inr (0, 23)), (1, .inl (.int a1)), (2, .inl (.int a2))], [.inr (0, 23)], ax_m s ρ)) rfl ⟨trivial, trivial⟩ ?_
  exact ax_pV (rest := []) hA (x_X_needProgram (g := 0) hfl h0 hx) cw_X_53 im_X_needProgram se_X_needProgram d_X_apply_1 (h0 23 rfl) rfl rfl (by decide) (by decide) rfl rfl (Nat.le_of_ble_eq_true rfl)
set_option maxHeartbeats 4000000 in
set_option maxRecDepth 100000 in
theorem x_X_number_1 {l : Launch} {D : va_G} {cA : Nat → ClassId} {ad : Nat → Nat → Nat} {al : List (Nat × Nat)} {θ : ax_Θ} {ρ : ax_ρ} {g : Nat} (hfl : l.flags = flags0) (h0 : ax_M0 al) (hg : ax_Mg al g) (hx : ρ 0 23 5 = some (g, 0)) {a1 : Int32} {s : ax_σ} (h : a1 < 0 ∨ ¬ a1 < 8) : ax_X l D cA ad al θ y_X_number (.code y_X_number prog_1_method_6_code 2 (some .int)) 7 [.inr (0, 23), .inl (.int a1)] (ax_m s ρ) "java/lang/IllegalArgumentException" := by
  refine ax_X_of (own := "CipherNotation") (by decide) rfl (Nat.le_of_ble_eq_true rfl) [(0, .inr (0, 23)), (1, .inl (.int a1))] rfl ?_
  intro G hA
  have hK := hA.K
  have hal := hA.la
  refine ax_bk hK (ax_fc (ax_v_ld (ax_r_aload_n (i := 0) d_X_number_0 rfl)) ax_fn) (y := (1, [(0, .inr (0, 23)), (1, .inl (.int a1))], [.inr (0, 23)], ax_m s ρ)) rfl ⟨trivial, trivial⟩ ?_
  refine ax_yV (rest := []) hA (t_X_needProgram h0 hx rfl) cw_X_53 im_X_needProgram se_X_needProgram d_X_number_1 (h0 23 rfl) rfl rfl (by decide) (by decide) rfl rfl (Nat.le_of_ble_eq_true rfl) ?_
  change ax_R G 2 0 0 (4, [(0, .inr (0, 23)), (1, .inl (.int a1))], [], ax_m s ρ)
  refine ax_bk hK (ax_fc (ax_v_ld (ax_r_iload_n (i := 1) d_X_number_4 rfl)) ax_fn) (y := (5, [(0, .inr (0, 23)), (1, .inl (.int a1))], [.inl (.int a1)], ax_m s ρ)) rfl ⟨trivial, trivial⟩ ?_
  refine ax_if_lt (tgt := 14) hK d_X_number_5 (by decide) (fun c3 => ?_) (fun c3 => ?_)
  · exact ax_thr (names := ["java/lang/RuntimeException", "java/lang/Exception"]) hA hfl (by decide) (by decide) (nw_3 219 (by decide +kernel) rfl) (nw_1 18 (by decide +kernel) rfl) tw_IllegalArgumentException d_X_number_14 d_X_number_17 d_X_number_18 d_X_number_21 (by decide) (by decide) (by decide)
  · refine ax_bk hK (ax_fc (ax_v_ld (ax_r_iload_n (i := 1) d_X_number_8 rfl)) (ax_fc (ax_v_pu (ax_r_bipush (v := 8) d_X_number_9 (by decide))) ax_fn)) (y := (11, [(0, .inr (0, 23)), (1, .inl (.int a1))], [.inl (.int 8), .inl (.int a1)], ax_m s ρ)) rfl ⟨trivial, trivial, trivial⟩ ?_
    refine ax_ic_lt (tgt := 22) hK d_X_number_11 (by decide) (fun c2 => ?_) (fun c2 => ?_)
    · exfalso; rcases h with h | h; exact c3 h; exact h c2
    · exact ax_thr (names := ["java/lang/RuntimeException", "java/lang/Exception"]) hA hfl (by decide) (by decide) (nw_3 219 (by decide +kernel) rfl) (nw_1 18 (by decide +kernel) rfl) tw_IllegalArgumentException d_X_number_14 d_X_number_17 d_X_number_18 d_X_number_21 (by decide) (by decide) (by decide)
set_option maxHeartbeats 4000000 in
set_option maxRecDepth 100000 in
theorem x_X_table_1 {l : Launch} {D : va_G} {cA : Nat → ClassId} {ad : Nat → Nat → Nat} {al : List (Nat × Nat)} {θ : ax_Θ} {ρ : ax_ρ} {g : Nat} (hfl : l.flags = flags0) (h0 : ax_M0 al) (hg : ax_Mg al g) (hx : ρ 0 23 5 = some (g, 0)) {a1 : Int32} {a2 : Int32} {a3 : Int32} {s : ax_σ} (h : f_X_needIndex a1 (s.1 g 1 ((3 : Int32)).toNatClampNeg) = none) : ax_X l D cA ad al θ y_X_table (.code y_X_table prog_1_method_8_code 5 (some .int)) 7 [.inr (0, 23), .inl (.int a1), .inl (.int a2), .inl (.int a3)] (ax_m s ρ) "java/lang/IndexOutOfBoundsException" := by
  refine ax_X_of (own := "CipherNotation") (by decide) rfl (Nat.le_of_ble_eq_true rfl) [(0, .inr (0, 23)), (1, .inl (.int a1)), (2, .inl (.int a2)), (3, .inl (.int a3))] rfl ?_
  intro G hA
  have hK := hA.K
  have hal := hA.la
  refine ax_bk hK (ax_fc (ax_v_ld (ax_r_aload_n (i := 0) d_X_table_0 rfl)) ax_fn) (y := (1, [(0, .inr (0, 23)), (1, .inl (.int a1)), (2, .inl (.int a2)), (3, .inl (.int a3))], [.inr (0, 23)], ax_m s ρ)) rfl ⟨trivial, trivial⟩ ?_
  refine ax_yV (rest := []) hA (t_X_needProgram h0 hx rfl) cw_X_53 im_X_needProgram se_X_needProgram d_X_table_1 (h0 23 rfl) rfl rfl (by decide) (by decide) rfl rfl (Nat.le_of_ble_eq_true rfl) ?_
  change ax_R G 5 0 0 (4, [(0, .inr (0, 23)), (1, .inl (.int a1)), (2, .inl (.int a2)), (3, .inl (.int a3))], [], ax_m s ρ)
  refine ax_bk hK (ax_fc (ax_v_ld (ax_r_iload_n (i := 1) d_X_table_4 rfl)) (ax_fc (ax_v_ld (ax_r_aload_n (i := 0) d_X_table_5 rfl)) (ax_fc (ax_w_gf (e := (some (g, 0))) hal d_X_table_6 fd_X_34) (ax_fc (ax_w_gf (e := none) hal d_X_table_9 fd_X_59) (ax_fc (ax_v_pu (ax_r_iconst (v := 3) d_X_table_12 (by decide))) (ax_fc (ax_w_iald hal d_X_table_13) ax_fn)))))) (y := (14, [(0, .inr (0, 23)), (1, .inl (.int a1)), (2, .inl (.int a2)), (3, .inl (.int a3))], [.inl (.int (s.1 g 1 ((3 : Int32)).toNatClampNeg)), .inl (.int a1)], ax_m s ρ)) rfl ⟨trivial, trivial, ⟨(h0 23 rfl), hx⟩, (hg 0 rfl), trivial, ⟨(hg 1 rfl), ax_inp (by decide)⟩, trivial⟩ ?_
  exact ax_pS (rest := []) hA (x_X_needIndex (g := 0) hfl h) cw_X_69 sm_X_needIndex d_X_table_14 (by decide) (by decide) rfl rfl (Nat.le_of_ble_eq_true rfl)
set_option maxHeartbeats 4000000 in
set_option maxRecDepth 100000 in
theorem x_X_key_1 {l : Launch} {D : va_G} {cA : Nat → ClassId} {ad : Nat → Nat → Nat} {al : List (Nat × Nat)} {θ : ax_Θ} {ρ : ax_ρ} {g : Nat} (hfl : l.flags = flags0) (h0 : ax_M0 al) (hg : ax_Mg al g) (hx : ρ 0 23 5 = some (g, 0)) {a1 : Int32} {a2 : Int64} {s : ax_σ} (h : f_X_needIndex a1 (s.1 g 1 ((2 : Int32)).toNatClampNeg) = none) : ax_X l D cA ad al θ y_X_key (.code y_X_key prog_1_method_9_code 6 (some .long)) 7 [.inr (0, 23), .inl (.int a1), .inl (.long a2)] (ax_m s ρ) "java/lang/IndexOutOfBoundsException" := by
  refine ax_X_of (own := "CipherNotation") (by decide) rfl (Nat.le_of_ble_eq_true rfl) [(0, .inr (0, 23)), (1, .inl (.int a1)), (2, .inl (.long a2))] rfl ?_
  intro G hA
  have hK := hA.K
  have hal := hA.la
  refine ax_bk hK (ax_fc (ax_v_ld (ax_r_aload_n (i := 0) d_X_key_0 rfl)) ax_fn) (y := (1, [(0, .inr (0, 23)), (1, .inl (.int a1)), (2, .inl (.long a2))], [.inr (0, 23)], ax_m s ρ)) rfl ⟨trivial, trivial⟩ ?_
  refine ax_yV (rest := []) hA (t_X_needProgram h0 hx rfl) cw_X_53 im_X_needProgram se_X_needProgram d_X_key_1 (h0 23 rfl) rfl rfl (by decide) (by decide) rfl rfl (Nat.le_of_ble_eq_true rfl) ?_
  change ax_R G 6 0 0 (4, [(0, .inr (0, 23)), (1, .inl (.int a1)), (2, .inl (.long a2))], [], ax_m s ρ)
  refine ax_bk hK (ax_fc (ax_v_ld (ax_r_iload_n (i := 1) d_X_key_4 rfl)) (ax_fc (ax_v_ld (ax_r_aload_n (i := 0) d_X_key_5 rfl)) (ax_fc (ax_w_gf (e := (some (g, 0))) hal d_X_key_6 fd_X_34) (ax_fc (ax_w_gf (e := none) hal d_X_key_9 fd_X_59) (ax_fc (ax_v_pu (ax_r_iconst (v := 2) d_X_key_12 (by decide))) (ax_fc (ax_w_iald hal d_X_key_13) ax_fn)))))) (y := (14, [(0, .inr (0, 23)), (1, .inl (.int a1)), (2, .inl (.long a2))], [.inl (.int (s.1 g 1 ((2 : Int32)).toNatClampNeg)), .inl (.int a1)], ax_m s ρ)) rfl ⟨trivial, trivial, ⟨(h0 23 rfl), hx⟩, (hg 0 rfl), trivial, ⟨(hg 1 rfl), ax_inp (by decide)⟩, trivial⟩ ?_
  exact ax_pS (rest := []) hA (x_X_needIndex (g := 0) hfl h) cw_X_69 sm_X_needIndex d_X_key_14 (by decide) (by decide) rfl rfl (Nat.le_of_ble_eq_true rfl)
set_option maxHeartbeats 4000000 in
set_option maxRecDepth 100000 in
theorem x_X_state_1 {l : Launch} {D : va_G} {cA : Nat → ClassId} {ad : Nat → Nat → Nat} {al : List (Nat × Nat)} {θ : ax_Θ} {ρ : ax_ρ} {g : Nat} (hfl : l.flags = flags0) (h0 : ax_M0 al) (hg : ax_Mg al g) (hx : ρ 0 23 5 = some (g, 0)) {a1 : Int32} {a2 : Int64} {s : ax_σ} (h : f_X_needIndex a1 (s.1 g 1 ((1 : Int32)).toNatClampNeg) = none) : ax_X l D cA ad al θ y_X_state (.code y_X_state prog_1_method_10_code 6 (some .long)) 7 [.inr (0, 23), .inl (.int a1), .inl (.long a2)] (ax_m s ρ) "java/lang/IndexOutOfBoundsException" := by
  refine ax_X_of (own := "CipherNotation") (by decide) rfl (Nat.le_of_ble_eq_true rfl) [(0, .inr (0, 23)), (1, .inl (.int a1)), (2, .inl (.long a2))] rfl ?_
  intro G hA
  have hK := hA.K
  have hal := hA.la
  refine ax_bk hK (ax_fc (ax_v_ld (ax_r_aload_n (i := 0) d_X_state_0 rfl)) ax_fn) (y := (1, [(0, .inr (0, 23)), (1, .inl (.int a1)), (2, .inl (.long a2))], [.inr (0, 23)], ax_m s ρ)) rfl ⟨trivial, trivial⟩ ?_
  refine ax_yV (rest := []) hA (t_X_needProgram h0 hx rfl) cw_X_53 im_X_needProgram se_X_needProgram d_X_state_1 (h0 23 rfl) rfl rfl (by decide) (by decide) rfl rfl (Nat.le_of_ble_eq_true rfl) ?_
  change ax_R G 6 0 0 (4, [(0, .inr (0, 23)), (1, .inl (.int a1)), (2, .inl (.long a2))], [], ax_m s ρ)
  refine ax_bk hK (ax_fc (ax_v_ld (ax_r_iload_n (i := 1) d_X_state_4 rfl)) (ax_fc (ax_v_ld (ax_r_aload_n (i := 0) d_X_state_5 rfl)) (ax_fc (ax_w_gf (e := (some (g, 0))) hal d_X_state_6 fd_X_34) (ax_fc (ax_w_gf (e := none) hal d_X_state_9 fd_X_59) (ax_fc (ax_v_pu (ax_r_iconst (v := 1) d_X_state_12 (by decide))) (ax_fc (ax_w_iald hal d_X_state_13) ax_fn)))))) (y := (14, [(0, .inr (0, 23)), (1, .inl (.int a1)), (2, .inl (.long a2))], [.inl (.int (s.1 g 1 ((1 : Int32)).toNatClampNeg)), .inl (.int a1)], ax_m s ρ)) rfl ⟨trivial, trivial, ⟨(h0 23 rfl), hx⟩, (hg 0 rfl), trivial, ⟨(hg 1 rfl), ax_inp (by decide)⟩, trivial⟩ ?_
  exact ax_pS (rest := []) hA (x_X_needIndex (g := 0) hfl h) cw_X_69 sm_X_needIndex d_X_state_14 (by decide) (by decide) rfl rfl (Nat.le_of_ble_eq_true rfl)
set_option maxHeartbeats 4000000 in
set_option maxRecDepth 100000 in
theorem x_X_keyWord_1 {l : Launch} {D : va_G} {cA : Nat → ClassId} {ad : Nat → Nat → Nat} {al : List (Nat × Nat)} {θ : ax_Θ} {ρ : ax_ρ} {g : Nat} (hfl : l.flags = flags0) (h0 : ax_M0 al) (hg : ax_Mg al g) (hx : ρ 0 23 5 = some (g, 0)) {a1 : Int32} {s : ax_σ} (h : f_X_needIndex a1 (s.1 g 1 ((2 : Int32)).toNatClampNeg) = none) : ax_X l D cA ad al θ y_X_keyWord (.code y_X_keyWord prog_1_method_11_code 2 (some .long)) 7 [.inr (0, 23), .inl (.int a1)] (ax_m s ρ) "java/lang/IndexOutOfBoundsException" := by
  refine ax_X_of (own := "CipherNotation") (by decide) rfl (Nat.le_of_ble_eq_true rfl) [(0, .inr (0, 23)), (1, .inl (.int a1))] rfl ?_
  intro G hA
  have hK := hA.K
  have hal := hA.la
  refine ax_bk hK (ax_fc (ax_v_ld (ax_r_aload_n (i := 0) d_X_keyWord_0 rfl)) ax_fn) (y := (1, [(0, .inr (0, 23)), (1, .inl (.int a1))], [.inr (0, 23)], ax_m s ρ)) rfl ⟨trivial, trivial⟩ ?_
  refine ax_yV (rest := []) hA (t_X_needProgram h0 hx rfl) cw_X_53 im_X_needProgram se_X_needProgram d_X_keyWord_1 (h0 23 rfl) rfl rfl (by decide) (by decide) rfl rfl (Nat.le_of_ble_eq_true rfl) ?_
  change ax_R G 2 0 0 (4, [(0, .inr (0, 23)), (1, .inl (.int a1))], [], ax_m s ρ)
  refine ax_bk hK (ax_fc (ax_v_ld (ax_r_iload_n (i := 1) d_X_keyWord_4 rfl)) (ax_fc (ax_v_ld (ax_r_aload_n (i := 0) d_X_keyWord_5 rfl)) (ax_fc (ax_w_gf (e := (some (g, 0))) hal d_X_keyWord_6 fd_X_34) (ax_fc (ax_w_gf (e := none) hal d_X_keyWord_9 fd_X_59) (ax_fc (ax_v_pu (ax_r_iconst (v := 2) d_X_keyWord_12 (by decide))) (ax_fc (ax_w_iald hal d_X_keyWord_13) ax_fn)))))) (y := (14, [(0, .inr (0, 23)), (1, .inl (.int a1))], [.inl (.int (s.1 g 1 ((2 : Int32)).toNatClampNeg)), .inl (.int a1)], ax_m s ρ)) rfl ⟨trivial, trivial, ⟨(h0 23 rfl), hx⟩, (hg 0 rfl), trivial, ⟨(hg 1 rfl), ax_inp (by decide)⟩, trivial⟩ ?_
  exact ax_pS (rest := []) hA (x_X_needIndex (g := 0) hfl h) cw_X_69 sm_X_needIndex d_X_keyWord_14 (by decide) (by decide) rfl rfl (Nat.le_of_ble_eq_true rfl)
set_option maxHeartbeats 4000000 in
set_option maxRecDepth 100000 in
theorem x_X_word_1 {l : Launch} {D : va_G} {cA : Nat → ClassId} {ad : Nat → Nat → Nat} {al : List (Nat × Nat)} {θ : ax_Θ} {ρ : ax_ρ} {g : Nat} (hfl : l.flags = flags0) (h0 : ax_M0 al) (hg : ax_Mg al g) (hx : ρ 0 23 5 = some (g, 0)) {a1 : Int32} {s : ax_σ} (h : f_X_needIndex a1 (s.1 g 1 ((1 : Int32)).toNatClampNeg) = none) : ax_X l D cA ad al θ y_X_word (.code y_X_word prog_1_method_12_code 2 (some .long)) 7 [.inr (0, 23), .inl (.int a1)] (ax_m s ρ) "java/lang/IndexOutOfBoundsException" := by
  refine ax_X_of (own := "CipherNotation") (by decide) rfl (Nat.le_of_ble_eq_true rfl) [(0, .inr (0, 23)), (1, .inl (.int a1))] rfl ?_
  intro G hA
  have hK := hA.K
  have hal := hA.la
  refine ax_bk hK (ax_fc (ax_v_ld (ax_r_aload_n (i := 0) d_X_word_0 rfl)) ax_fn) (y := (1, [(0, .inr (0, 23)), (1, .inl (.int a1))], [.inr (0, 23)], ax_m s ρ)) rfl ⟨trivial, trivial⟩ ?_
  refine ax_yV (rest := []) hA (t_X_needProgram h0 hx rfl) cw_X_53 im_X_needProgram se_X_needProgram d_X_word_1 (h0 23 rfl) rfl rfl (by decide) (by decide) rfl rfl (Nat.le_of_ble_eq_true rfl) ?_
  change ax_R G 2 0 0 (4, [(0, .inr (0, 23)), (1, .inl (.int a1))], [], ax_m s ρ)
  refine ax_bk hK (ax_fc (ax_v_ld (ax_r_iload_n (i := 1) d_X_word_4 rfl)) (ax_fc (ax_v_ld (ax_r_aload_n (i := 0) d_X_word_5 rfl)) (ax_fc (ax_w_gf (e := (some (g, 0))) hal d_X_word_6 fd_X_34) (ax_fc (ax_w_gf (e := none) hal d_X_word_9 fd_X_59) (ax_fc (ax_v_pu (ax_r_iconst (v := 1) d_X_word_12 (by decide))) (ax_fc (ax_w_iald hal d_X_word_13) ax_fn)))))) (y := (14, [(0, .inr (0, 23)), (1, .inl (.int a1))], [.inl (.int (s.1 g 1 ((1 : Int32)).toNatClampNeg)), .inl (.int a1)], ax_m s ρ)) rfl ⟨trivial, trivial, ⟨(h0 23 rfl), hx⟩, (hg 0 rfl), trivial, ⟨(hg 1 rfl), ax_inp (by decide)⟩, trivial⟩ ?_
  exact ax_pS (rest := []) hA (x_X_needIndex (g := 0) hfl h) cw_X_69 sm_X_needIndex d_X_word_14 (by decide) (by decide) rfl rfl (Nat.le_of_ble_eq_true rfl)
set_option maxHeartbeats 4000000 in
set_option maxRecDepth 100000 in
theorem x_X_subkey_1 {l : Launch} {D : va_G} {cA : Nat → ClassId} {ad : Nat → Nat → Nat} {al : List (Nat × Nat)} {θ : ax_Θ} {ρ : ax_ρ} {g : Nat} (hfl : l.flags = flags0) (h0 : ax_M0 al) (hg : ax_Mg al g) (hx : ρ 0 23 5 = some (g, 0)) {a1 : Int32} {s : ax_σ} (h : f_X_needIndex a1 (s.1 g 1 ((4 : Int32)).toNatClampNeg) = none) : ax_X l D cA ad al θ y_X_subkey (.code y_X_subkey prog_1_method_13_code 2 (some .long)) 7 [.inr (0, 23), .inl (.int a1)] (ax_m s ρ) "java/lang/IndexOutOfBoundsException" := by
  refine ax_X_of (own := "CipherNotation") (by decide) rfl (Nat.le_of_ble_eq_true rfl) [(0, .inr (0, 23)), (1, .inl (.int a1))] rfl ?_
  intro G hA
  have hK := hA.K
  have hal := hA.la
  refine ax_bk hK (ax_fc (ax_v_ld (ax_r_aload_n (i := 0) d_X_subkey_0 rfl)) ax_fn) (y := (1, [(0, .inr (0, 23)), (1, .inl (.int a1))], [.inr (0, 23)], ax_m s ρ)) rfl ⟨trivial, trivial⟩ ?_
  refine ax_yV (rest := []) hA (t_X_needProgram h0 hx rfl) cw_X_53 im_X_needProgram se_X_needProgram d_X_subkey_1 (h0 23 rfl) rfl rfl (by decide) (by decide) rfl rfl (Nat.le_of_ble_eq_true rfl) ?_
  change ax_R G 2 0 0 (4, [(0, .inr (0, 23)), (1, .inl (.int a1))], [], ax_m s ρ)
  refine ax_bk hK (ax_fc (ax_v_ld (ax_r_iload_n (i := 1) d_X_subkey_4 rfl)) (ax_fc (ax_v_ld (ax_r_aload_n (i := 0) d_X_subkey_5 rfl)) (ax_fc (ax_w_gf (e := (some (g, 0))) hal d_X_subkey_6 fd_X_34) (ax_fc (ax_w_gf (e := none) hal d_X_subkey_9 fd_X_59) (ax_fc (ax_v_pu (ax_r_iconst (v := 4) d_X_subkey_12 (by decide))) (ax_fc (ax_w_iald hal d_X_subkey_13) ax_fn)))))) (y := (14, [(0, .inr (0, 23)), (1, .inl (.int a1))], [.inl (.int (s.1 g 1 ((4 : Int32)).toNatClampNeg)), .inl (.int a1)], ax_m s ρ)) rfl ⟨trivial, trivial, ⟨(h0 23 rfl), hx⟩, (hg 0 rfl), trivial, ⟨(hg 1 rfl), ax_inp (by decide)⟩, trivial⟩ ?_
  exact ax_pS (rest := []) hA (x_X_needIndex (g := 0) hfl h) cw_X_69 sm_X_needIndex d_X_subkey_14 (by decide) (by decide) rfl rfl (Nat.le_of_ble_eq_true rfl)
set_option maxHeartbeats 4000000 in
set_option maxRecDepth 100000 in
theorem x_X_table_2 {l : Launch} {D : va_G} {cA : Nat → ClassId} {ad : Nat → Nat → Nat} {al : List (Nat × Nat)} {θ : ax_Θ} {ρ : ax_ρ} {g : Nat} (hfl : l.flags = flags0) (h0 : ax_M0 al) (hg : ax_Mg al g) (hx : ρ 0 23 5 = some (g, 0)) {a1 : Int32} {a2 : Int32} {a3 : Int32} {s : ax_σ} (h1 : f_X_needIndex a1 (s.1 g 1 ((3 : Int32)).toNatClampNeg) = some ()) (h : f_X_needIndex a2 16 = none) : ax_X l D cA ad al θ y_X_table (.code y_X_table prog_1_method_8_code 5 (some .int)) 7 [.inr (0, 23), .inl (.int a1), .inl (.int a2), .inl (.int a3)] (ax_m s ρ) "java/lang/IndexOutOfBoundsException" := by
  refine ax_X_of (own := "CipherNotation") (by decide) rfl (Nat.le_of_ble_eq_true rfl) [(0, .inr (0, 23)), (1, .inl (.int a1)), (2, .inl (.int a2)), (3, .inl (.int a3))] rfl ?_
  intro G hA
  have hK := hA.K
  have hal := hA.la
  refine ax_bk hK (ax_fc (ax_v_ld (ax_r_aload_n (i := 0) d_X_table_0 rfl)) ax_fn) (y := (1, [(0, .inr (0, 23)), (1, .inl (.int a1)), (2, .inl (.int a2)), (3, .inl (.int a3))], [.inr (0, 23)], ax_m s ρ)) rfl ⟨trivial, trivial⟩ ?_
  refine ax_yV (rest := []) hA (t_X_needProgram h0 hx rfl) cw_X_53 im_X_needProgram se_X_needProgram d_X_table_1 (h0 23 rfl) rfl rfl (by decide) (by decide) rfl rfl (Nat.le_of_ble_eq_true rfl) ?_
  change ax_R G 5 0 0 (4, [(0, .inr (0, 23)), (1, .inl (.int a1)), (2, .inl (.int a2)), (3, .inl (.int a3))], [], ax_m s ρ)
  refine ax_bk hK (ax_fc (ax_v_ld (ax_r_iload_n (i := 1) d_X_table_4 rfl)) (ax_fc (ax_v_ld (ax_r_aload_n (i := 0) d_X_table_5 rfl)) (ax_fc (ax_w_gf (e := (some (g, 0))) hal d_X_table_6 fd_X_34) (ax_fc (ax_w_gf (e := none) hal d_X_table_9 fd_X_59) (ax_fc (ax_v_pu (ax_r_iconst (v := 3) d_X_table_12 (by decide))) (ax_fc (ax_w_iald hal d_X_table_13) ax_fn)))))) (y := (14, [(0, .inr (0, 23)), (1, .inl (.int a1)), (2, .inl (.int a2)), (3, .inl (.int a3))], [.inl (.int (s.1 g 1 ((3 : Int32)).toNatClampNeg)), .inl (.int a1)], ax_m s ρ)) rfl ⟨trivial, trivial, ⟨(h0 23 rfl), hx⟩, (hg 0 rfl), trivial, ⟨(hg 1 rfl), ax_inp (by decide)⟩, trivial⟩ ?_
  refine ax_yS (rest := []) hA (t_X_needIndex h1) cw_X_69 sm_X_needIndex d_X_table_14 (by decide) (by decide) rfl rfl (Nat.le_of_ble_eq_true rfl) ?_
  change ax_R G 5 0 0 (17, [(0, .inr (0, 23)), (1, .inl (.int a1)), (2, .inl (.int a2)), (3, .inl (.int a3))], [], ax_m s ρ)
  refine ax_bk hK (ax_fc (ax_v_ld (ax_r_iload_n (i := 2) d_X_table_17 rfl)) (ax_fc (ax_v_pu (ax_r_bipush (v := 16) d_X_table_18 (by decide))) ax_fn)) (y := (20, [(0, .inr (0, 23)), (1, .inl (.int a1)), (2, .inl (.int a2)), (3, .inl (.int a3))], [.inl (.int 16), .inl (.int a2)], ax_m s ρ)) rfl ⟨trivial, trivial, trivial⟩ ?_
  exact ax_pS (rest := []) hA (x_X_needIndex (g := 0) hfl h) cw_X_69 sm_X_needIndex d_X_table_20 (by decide) (by decide) rfl rfl (Nat.le_of_ble_eq_true rfl)
set_option maxHeartbeats 4000000 in
set_option maxRecDepth 100000 in
theorem x_X_key_2 {l : Launch} {D : va_G} {cA : Nat → ClassId} {ad : Nat → Nat → Nat} {al : List (Nat × Nat)} {θ : ax_Θ} {ρ : ax_ρ} {g : Nat} (hfl : l.flags = flags0) (h0 : ax_M0 al) (hg : ax_Mg al g) (hx : ρ 0 23 5 = some (g, 0)) {a1 : Int32} {a2 : Int64} {s : ax_σ} (h1 : f_X_needIndex a1 (s.1 g 1 ((2 : Int32)).toNatClampNeg) = some ()) (h : f_X_needWord a2 s = none) : ax_X l D cA ad al θ y_X_key (.code y_X_key prog_1_method_9_code 6 (some .long)) 7 [.inr (0, 23), .inl (.int a1), .inl (.long a2)] (ax_m s ρ) "java/lang/IllegalArgumentException" := by
  refine ax_X_of (own := "CipherNotation") (by decide) rfl (Nat.le_of_ble_eq_true rfl) [(0, .inr (0, 23)), (1, .inl (.int a1)), (2, .inl (.long a2))] rfl ?_
  intro G hA
  have hK := hA.K
  have hal := hA.la
  refine ax_bk hK (ax_fc (ax_v_ld (ax_r_aload_n (i := 0) d_X_key_0 rfl)) ax_fn) (y := (1, [(0, .inr (0, 23)), (1, .inl (.int a1)), (2, .inl (.long a2))], [.inr (0, 23)], ax_m s ρ)) rfl ⟨trivial, trivial⟩ ?_
  refine ax_yV (rest := []) hA (t_X_needProgram h0 hx rfl) cw_X_53 im_X_needProgram se_X_needProgram d_X_key_1 (h0 23 rfl) rfl rfl (by decide) (by decide) rfl rfl (Nat.le_of_ble_eq_true rfl) ?_
  change ax_R G 6 0 0 (4, [(0, .inr (0, 23)), (1, .inl (.int a1)), (2, .inl (.long a2))], [], ax_m s ρ)
  refine ax_bk hK (ax_fc (ax_v_ld (ax_r_iload_n (i := 1) d_X_key_4 rfl)) (ax_fc (ax_v_ld (ax_r_aload_n (i := 0) d_X_key_5 rfl)) (ax_fc (ax_w_gf (e := (some (g, 0))) hal d_X_key_6 fd_X_34) (ax_fc (ax_w_gf (e := none) hal d_X_key_9 fd_X_59) (ax_fc (ax_v_pu (ax_r_iconst (v := 2) d_X_key_12 (by decide))) (ax_fc (ax_w_iald hal d_X_key_13) ax_fn)))))) (y := (14, [(0, .inr (0, 23)), (1, .inl (.int a1)), (2, .inl (.long a2))], [.inl (.int (s.1 g 1 ((2 : Int32)).toNatClampNeg)), .inl (.int a1)], ax_m s ρ)) rfl ⟨trivial, trivial, ⟨(h0 23 rfl), hx⟩, (hg 0 rfl), trivial, ⟨(hg 1 rfl), ax_inp (by decide)⟩, trivial⟩ ?_
  refine ax_yS (rest := []) hA (t_X_needIndex h1) cw_X_69 sm_X_needIndex d_X_key_14 (by decide) (by decide) rfl rfl (Nat.le_of_ble_eq_true rfl) ?_
  change ax_R G 6 0 0 (17, [(0, .inr (0, 23)), (1, .inl (.int a1)), (2, .inl (.long a2))], [], ax_m s ρ)
  refine ax_bk hK (ax_fc (ax_v_ld (ax_r_aload_n (i := 0) d_X_key_17 rfl)) (ax_fc (ax_v_ld (ax_r_lload_n (i := 2) d_X_key_18 rfl)) ax_fn)) (y := (19, [(0, .inr (0, 23)), (1, .inl (.int a1)), (2, .inl (.long a2))], [.inl (.long a2), .inr (0, 23)], ax_m s ρ)) rfl ⟨trivial, trivial, trivial⟩ ?_
  exact ax_pV (rest := []) hA (x_X_needWord (g := 0) hfl h0 h) cw_X_79 im_X_needWord se_X_needWord d_X_key_19 (h0 23 rfl) rfl rfl (by decide) (by decide) rfl rfl (Nat.le_of_ble_eq_true rfl)
set_option maxHeartbeats 4000000 in
set_option maxRecDepth 100000 in
theorem x_X_state_2 {l : Launch} {D : va_G} {cA : Nat → ClassId} {ad : Nat → Nat → Nat} {al : List (Nat × Nat)} {θ : ax_Θ} {ρ : ax_ρ} {g : Nat} (hfl : l.flags = flags0) (h0 : ax_M0 al) (hg : ax_Mg al g) (hx : ρ 0 23 5 = some (g, 0)) {a1 : Int32} {a2 : Int64} {s : ax_σ} (h1 : f_X_needIndex a1 (s.1 g 1 ((1 : Int32)).toNatClampNeg) = some ()) (h : f_X_needWord a2 s = none) : ax_X l D cA ad al θ y_X_state (.code y_X_state prog_1_method_10_code 6 (some .long)) 7 [.inr (0, 23), .inl (.int a1), .inl (.long a2)] (ax_m s ρ) "java/lang/IllegalArgumentException" := by
  refine ax_X_of (own := "CipherNotation") (by decide) rfl (Nat.le_of_ble_eq_true rfl) [(0, .inr (0, 23)), (1, .inl (.int a1)), (2, .inl (.long a2))] rfl ?_
  intro G hA
  have hK := hA.K
  have hal := hA.la
  refine ax_bk hK (ax_fc (ax_v_ld (ax_r_aload_n (i := 0) d_X_state_0 rfl)) ax_fn) (y := (1, [(0, .inr (0, 23)), (1, .inl (.int a1)), (2, .inl (.long a2))], [.inr (0, 23)], ax_m s ρ)) rfl ⟨trivial, trivial⟩ ?_
  refine ax_yV (rest := []) hA (t_X_needProgram h0 hx rfl) cw_X_53 im_X_needProgram se_X_needProgram d_X_state_1 (h0 23 rfl) rfl rfl (by decide) (by decide) rfl rfl (Nat.le_of_ble_eq_true rfl) ?_
  change ax_R G 6 0 0 (4, [(0, .inr (0, 23)), (1, .inl (.int a1)), (2, .inl (.long a2))], [], ax_m s ρ)
  refine ax_bk hK (ax_fc (ax_v_ld (ax_r_iload_n (i := 1) d_X_state_4 rfl)) (ax_fc (ax_v_ld (ax_r_aload_n (i := 0) d_X_state_5 rfl)) (ax_fc (ax_w_gf (e := (some (g, 0))) hal d_X_state_6 fd_X_34) (ax_fc (ax_w_gf (e := none) hal d_X_state_9 fd_X_59) (ax_fc (ax_v_pu (ax_r_iconst (v := 1) d_X_state_12 (by decide))) (ax_fc (ax_w_iald hal d_X_state_13) ax_fn)))))) (y := (14, [(0, .inr (0, 23)), (1, .inl (.int a1)), (2, .inl (.long a2))], [.inl (.int (s.1 g 1 ((1 : Int32)).toNatClampNeg)), .inl (.int a1)], ax_m s ρ)) rfl ⟨trivial, trivial, ⟨(h0 23 rfl), hx⟩, (hg 0 rfl), trivial, ⟨(hg 1 rfl), ax_inp (by decide)⟩, trivial⟩ ?_
  refine ax_yS (rest := []) hA (t_X_needIndex h1) cw_X_69 sm_X_needIndex d_X_state_14 (by decide) (by decide) rfl rfl (Nat.le_of_ble_eq_true rfl) ?_
  change ax_R G 6 0 0 (17, [(0, .inr (0, 23)), (1, .inl (.int a1)), (2, .inl (.long a2))], [], ax_m s ρ)
  refine ax_bk hK (ax_fc (ax_v_ld (ax_r_aload_n (i := 0) d_X_state_17 rfl)) (ax_fc (ax_v_ld (ax_r_lload_n (i := 2) d_X_state_18 rfl)) ax_fn)) (y := (19, [(0, .inr (0, 23)), (1, .inl (.int a1)), (2, .inl (.long a2))], [.inl (.long a2), .inr (0, 23)], ax_m s ρ)) rfl ⟨trivial, trivial, trivial⟩ ?_
  exact ax_pV (rest := []) hA (x_X_needWord (g := 0) hfl h0 h) cw_X_79 im_X_needWord se_X_needWord d_X_state_19 (h0 23 rfl) rfl rfl (by decide) (by decide) rfl rfl (Nat.le_of_ble_eq_true rfl)
set_option maxHeartbeats 4000000 in
set_option maxRecDepth 100000 in
theorem x_X_apply_1 {l : Launch} {D : va_G} {cA : Nat → ClassId} {ad : Nat → Nat → Nat} {al : List (Nat × Nat)} {θ : ax_Θ} {ρ : ax_ρ} {g : Nat} (hfl : l.flags = flags0) (h0 : ax_M0 al) (hg : ax_Mg al g) (hx : ρ 0 23 5 = some (g, 0)) {a1 : Int32} {a2 : Int32} {s : ax_σ} (h : a1 < 0 ∨ s.1 g 1 ((5 : Int32)).toNatClampNeg < a1 ∨ a2 < 0 ∨ s.1 g 1 ((5 : Int32)).toNatClampNeg < a2) : ax_X l D cA ad al θ y_X_apply (.code y_X_apply prog_1_method_16_code 4 (some .int)) 7 [.inr (0, 23), .inl (.int a1), .inl (.int a2)] (ax_m s ρ) "java/lang/IllegalArgumentException" := by
  refine ax_X_of (own := "CipherNotation") (by decide) rfl (Nat.le_of_ble_eq_true rfl) [(0, .inr (0, 23)), (1, .inl (.int a1)), (2, .inl (.int a2))] rfl ?_
  intro G hA
  have hK := hA.K
  have hal := hA.la
  refine ax_bk hK (ax_fc (ax_v_ld (ax_r_aload_n (i := 0) d_X_apply_0 rfl)) ax_fn) (y := (1, [(0, .inr (0, 23)), (1, .inl (.int a1)), (2, .inl (.int a2))], [.inr (0, 23)], ax_m s ρ)) rfl ⟨trivial, trivial⟩ ?_
  refine ax_yV (rest := []) hA (t_X_needProgram h0 hx rfl) cw_X_53 im_X_needProgram se_X_needProgram d_X_apply_1 (h0 23 rfl) rfl rfl (by decide) (by decide) rfl rfl (Nat.le_of_ble_eq_true rfl) ?_
  change ax_R G 4 0 0 (4, [(0, .inr (0, 23)), (1, .inl (.int a1)), (2, .inl (.int a2))], [], ax_m s ρ)
  refine ax_bk hK (ax_fc (ax_v_ld (ax_r_aload_n (i := 0) d_X_apply_4 rfl)) (ax_fc (ax_w_gf (e := (some (g, 0))) hal d_X_apply_5 fd_X_34) (ax_fc (ax_w_gf (e := none) hal d_X_apply_8 fd_X_59) (ax_fc (ax_v_pu (ax_r_iconst (v := 5) d_X_apply_11 (by decide))) (ax_fc (ax_w_iald hal d_X_apply_12) (ax_fc (ax_v_so (ax_r_istore_n (i := 3) d_X_apply_13 rfl)) (ax_fc (ax_v_ld (ax_r_iload_n (i := 1) d_X_apply_14 rfl)) ax_fn))))))) (y := (15, [(3, .inl (.int (s.1 g 1 ((5 : Int32)).toNatClampNeg))), (0, .inr (0, 23)), (1, .inl (.int a1)), (2, .inl (.int a2))], [.inl (.int a1)], ax_m s ρ)) rfl ⟨trivial, ⟨(h0 23 rfl), hx⟩, (hg 0 rfl), trivial, ⟨(hg 1 rfl), ax_inp (by decide)⟩, trivial, trivial, trivial⟩ ?_
  refine ax_if_lt (tgt := 32) hK d_X_apply_15 (by decide) (fun c1 => ?_) (fun c1 => ?_)
  · exact ax_thr (names := ["java/lang/RuntimeException", "java/lang/Exception"]) hA hfl (by decide) (by decide) (nw_3 219 (by decide +kernel) rfl) (nw_1 18 (by decide +kernel) rfl) tw_IllegalArgumentException d_X_apply_32 d_X_apply_35 d_X_apply_36 d_X_apply_39 (by decide) (by decide) (by decide)
  refine ax_bk hK (ax_fc (ax_v_ld (ax_r_iload_n (i := 1) d_X_apply_18 rfl)) (ax_fc (ax_v_ld (ax_r_iload_n (i := 3) d_X_apply_19 rfl)) ax_fn)) (y := (20, [(3, .inl (.int (s.1 g 1 ((5 : Int32)).toNatClampNeg))), (0, .inr (0, 23)), (1, .inl (.int a1)), (2, .inl (.int a2))], [.inl (.int (s.1 g 1 ((5 : Int32)).toNatClampNeg)), .inl (.int a1)], ax_m s ρ)) rfl ⟨trivial, trivial, trivial⟩ ?_
  refine ax_ic_gt (tgt := 32) hK d_X_apply_20 (by decide) (fun c2 => ?_) (fun c2 => ?_)
  · exact ax_thr (names := ["java/lang/RuntimeException", "java/lang/Exception"]) hA hfl (by decide) (by decide) (nw_3 219 (by decide +kernel) rfl) (nw_1 18 (by decide +kernel) rfl) tw_IllegalArgumentException d_X_apply_32 d_X_apply_35 d_X_apply_36 d_X_apply_39 (by decide) (by decide) (by decide)
  refine ax_bk hK (ax_fc (ax_v_ld (ax_r_iload_n (i := 2) d_X_apply_23 rfl)) ax_fn) (y := (24, [(3, .inl (.int (s.1 g 1 ((5 : Int32)).toNatClampNeg))), (0, .inr (0, 23)), (1, .inl (.int a1)), (2, .inl (.int a2))], [.inl (.int a2)], ax_m s ρ)) rfl ⟨trivial, trivial⟩ ?_
  refine ax_if_lt (tgt := 32) hK d_X_apply_24 (by decide) (fun c3 => ?_) (fun c3 => ?_)
  · exact ax_thr (names := ["java/lang/RuntimeException", "java/lang/Exception"]) hA hfl (by decide) (by decide) (nw_3 219 (by decide +kernel) rfl) (nw_1 18 (by decide +kernel) rfl) tw_IllegalArgumentException d_X_apply_32 d_X_apply_35 d_X_apply_36 d_X_apply_39 (by decide) (by decide) (by decide)
  refine ax_bk hK (ax_fc (ax_v_ld (ax_r_iload_n (i := 2) d_X_apply_27 rfl)) (ax_fc (ax_v_ld (ax_r_iload_n (i := 3) d_X_apply_28 rfl)) ax_fn)) (y := (29, [(3, .inl (.int (s.1 g 1 ((5 : Int32)).toNatClampNeg))), (0, .inr (0, 23)), (1, .inl (.int a1)), (2, .inl (.int a2))], [.inl (.int (s.1 g 1 ((5 : Int32)).toNatClampNeg)), .inl (.int a2)], ax_m s ρ)) rfl ⟨trivial, trivial, trivial⟩ ?_
  refine ax_ic_le (tgt := 40) hK d_X_apply_29 (by decide) (fun c4 => ?_) (fun c4 => ?_)
  · exfalso; rcases h with h | h | h | h; exact c1 h; exact c2 h; exact c3 h; exact absurd h (Int32.not_lt.mpr c4)
  · exact ax_thr (names := ["java/lang/RuntimeException", "java/lang/Exception"]) hA hfl (by decide) (by decide) (nw_3 219 (by decide +kernel) rfl) (nw_1 18 (by decide +kernel) rfl) tw_IllegalArgumentException d_X_apply_32 d_X_apply_35 d_X_apply_36 d_X_apply_39 (by decide) (by decide) (by decide)
