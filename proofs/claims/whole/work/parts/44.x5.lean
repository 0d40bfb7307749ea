def y_R_tableByDigits : MethodName := ⟨"CipherNotation$Reader", "tableByDigits", "(I)Z"⟩
theorem d_R_tableByDigits_0 : decode prog_6_method_15_code 0 = .ok (.iconst 0, 1) := by decide +kernel
theorem d_R_tableByDigits_1 : decode prog_6_method_15_code 1 = .ok (.istore_n 2, 1) := by decide +kernel
theorem d_R_tableByDigits_2 : decode prog_6_method_15_code 2 = .ok (.iload_n 2, 1) := by decide +kernel
theorem d_R_tableByDigits_3 : decode prog_6_method_15_code 3 = .ok (.bipush (16), 2) := by decide +kernel
theorem d_R_tableByDigits_5 : decode prog_6_method_15_code 5 = .ok (.if_icmp .ge (55), 3) := by decide +kernel
theorem d_R_tableByDigits_8 : decode prog_6_method_15_code 8 = .ok (.ldc (136), 2) := by decide +kernel
theorem d_R_tableByDigits_10 : decode prog_6_method_15_code 10 = .ok (.aload_n 0, 1) := by decide +kernel
theorem d_R_tableByDigits_11 : decode prog_6_method_15_code 11 = .ok (.getfield (11), 3) := by decide +kernel
theorem d_R_tableByDigits_14 : decode prog_6_method_15_code 14 = .ok (.aload_n 0, 1) := by decide +kernel
theorem d_R_tableByDigits_15 : decode prog_6_method_15_code 15 = .ok (.getfield (72), 3) := by decide +kernel
theorem d_R_tableByDigits_18 : decode prog_6_method_15_code 18 = .ok (.caload, 1) := by decide +kernel
theorem d_R_tableByDigits_19 : decode prog_6_method_15_code 19 = .ok (.invokevirtual (138), 3) := by decide +kernel
theorem d_R_tableByDigits_22 : decode prog_6_method_15_code 22 = .ok (.istore_n 3, 1) := by decide +kernel
theorem d_R_tableByDigits_23 : decode prog_6_method_15_code 23 = .ok (.iload_n 3, 1) := by decide +kernel
theorem d_R_tableByDigits_24 : decode prog_6_method_15_code 24 = .ok (.ifCond .ge (5), 3) := by decide +kernel
theorem d_R_tableByDigits_27 : decode prog_6_method_15_code 27 = .ok (.iconst 0, 1) := by decide +kernel
theorem d_R_tableByDigits_28 : decode prog_6_method_15_code 28 = .ok (.ireturn, 1) := by decide +kernel
theorem d_R_tableByDigits_29 : decode prog_6_method_15_code 29 = .ok (.aload_n 0, 1) := by decide +kernel
theorem d_R_tableByDigits_30 : decode prog_6_method_15_code 30 = .ok (.getfield (35), 3) := by decide +kernel
theorem d_R_tableByDigits_33 : decode prog_6_method_15_code 33 = .ok (.getfield (133), 3) := by decide +kernel
theorem d_R_tableByDigits_36 : decode prog_6_method_15_code 36 = .ok (.iload_n 1, 1) := by decide +kernel
theorem d_R_tableByDigits_37 : decode prog_6_method_15_code 37 = .ok (.bipush (16), 2) := by decide +kernel
theorem d_R_tableByDigits_39 : decode prog_6_method_15_code 39 = .ok (.imul, 1) := by decide +kernel
theorem d_R_tableByDigits_40 : decode prog_6_method_15_code 40 = .ok (.iload_n 2, 1) := by decide +kernel
theorem d_R_tableByDigits_41 : decode prog_6_method_15_code 41 = .ok (.iadd, 1) := by decide +kernel
theorem d_R_tableByDigits_42 : decode prog_6_method_15_code 42 = .ok (.iload_n 3, 1) := by decide +kernel
theorem d_R_tableByDigits_43 : decode prog_6_method_15_code 43 = .ok (.iastore, 1) := by decide +kernel
theorem d_R_tableByDigits_44 : decode prog_6_method_15_code 44 = .ok (.aload_n 0, 1) := by decide +kernel
theorem d_R_tableByDigits_45 : decode prog_6_method_15_code 45 = .ok (.dup, 1) := by decide +kernel
theorem d_R_tableByDigits_46 : decode prog_6_method_15_code 46 = .ok (.getfield (72), 3) := by decide +kernel
theorem d_R_tableByDigits_49 : decode prog_6_method_15_code 49 = .ok (.iconst 1, 1) := by decide +kernel
theorem d_R_tableByDigits_50 : decode prog_6_method_15_code 50 = .ok (.iadd, 1) := by decide +kernel
theorem d_R_tableByDigits_51 : decode prog_6_method_15_code 51 = .ok (.putfield (72), 3) := by decide +kernel
theorem d_R_tableByDigits_54 : decode prog_6_method_15_code 54 = .ok (.iinc 2 (1), 3) := by decide +kernel
theorem d_R_tableByDigits_57 : decode prog_6_method_15_code 57 = .ok (.goto (-55), 3) := by decide +kernel
theorem d_R_tableByDigits_60 : decode prog_6_method_15_code 60 = .ok (.iconst 1, 1) := by decide +kernel
theorem d_R_tableByDigits_61 : decode prog_6_method_15_code 61 = .ok (.ireturn, 1) := by decide +kernel
set_option maxRecDepth 100000 in
theorem cw_R_138 : ax_cw "CipherNotation$Reader" 138 y_String_indexOf_I (.code y_String_indexOf_I prog_16_method_79_code 2 (some .int)) 1 := ⟨nw_2 108 (by decide +kernel) rfl, nw_1 9 (by decide +kernel) rfl, nw_2 111 rfl rfl, by decide +kernel, by decide +kernel⟩
theorem im_String_indexOf_I : Cond.instanceMethod y_String_indexOf_I ∈ ax_tbl := nw_2 109 (by decide +kernel) rfl
theorem se_String_indexOf_I : Cond.selects y_String_indexOf_I.cls y_String_indexOf_I y_String_indexOf_I ∈ ax_tbl := nw_2 110 (by decide +kernel) rfl
def lp_R_tableByDigits_2 (F : Nat) (g : Nat) (x1 : Int32) : Nat → Int32 → ax_σ → Option ((Int32 × ax_σ) ⊕ (ax_σ))
  | 0, _, _ => none
  | n + 1, x2, s =>
    if (16 : Int32) ≤ x2 then
      some (.inr s)
    else
      bif ax_in (s.1 0 25 3) 241 then
      Option.bind (f_String_indexOf_I F 0 (s.1 0 26 ((s.1 0 25 3)).toNatClampNeg) s) (fun r2 =>
        if (0 : Int32) ≤ r2 then
          bif ax_in ((x1 * (16 : Int32)) + x2) 32 then
          ax_let (ax_wI s g 2 (((x1 * (16 : Int32)) + x2)).toNatClampNeg r2) (fun s5 =>
            ax_let (ax_wI s5 0 25 3 ((s5.1 0 25 3) + (1 : Int32))) (fun s6 =>
              lp_R_tableByDigits_2 F g x1 n (x2 + (1 : Int32)) s6))
          else none
        else
          some (.inl ((0 : Int32), s)))
      else none
set_option maxHeartbeats 4000000 in
set_option maxRecDepth 100000 in
theorem pl_R_tableByDigits_2 {D : va_G} {cA : Nat → ClassId} {ad : Nat → Nat → Nat} {al : List (Nat × Nat)} {θ : ax_Θ} {l : Launch} {ρ : ax_ρ} {G : ax_G} {F g : Nat} {x1 : Int32} (h0 : ax_M0 al) (hg : ax_Mg al g) (hr : ax_rd ρ g) (hB : ax_B D cA ad al θ l "CipherNotation$Reader" prog_6_method_15_code 4 4 G) : ∀ (n : Nat) {x2 : Int32} {s : ax_σ} (out : (Int32 × ax_σ) ⊕ (ax_σ)), lp_R_tableByDigits_2 F g x1 n x2 s = some out → (∀ (r0 : Int32) (s0 : ax_σ), out = .inl (r0, s0) → ax_At D cA ad al θ l "CipherNotation$Reader" prog_6_method_15_code 4 4 (some .boolean) (some (.inl (.int r0))) (ax_m s0 ρ) G) → (∀ (es : ax_σ), out = .inr es → ax_R G 4 0 0 (60, [], [], ax_m (es) ρ)) → ax_R G 4 0 0 (2, [(0, .inr (0, 25)), (1, .inl (.int (x1))), (2, .inl (.int (x2)))], [], ax_m (s) ρ) := by
  have hK := hB.K
  have hal := hB.la
  intro n
  induction n with
  | zero =>
    intro x2 s out h
    cases h
  | succ n ih =>
    intro x2 s out h RT KE
    rw [lp_R_tableByDigits_2] at h
    refine ax_bk hK (ax_fc (ax_v_ld (ax_r_iload_n (i := 2) d_R_tableByDigits_2 rfl)) (ax_fc (ax_v_pu (ax_r_bipush (v := 16) d_R_tableByDigits_3 (by decide))) ax_fn)) (y := (5, [(0, .inr (0, 25)), (1, .inl (.int (x1))), (2, .inl (.int (x2)))], [.inl (.int ((16 : Int32))), .inl (.int (x2))], ax_m (s) ρ)) rfl ⟨trivial, trivial, trivial⟩ ?_
    refine ax_ic_ge (tgt := 60) hK d_R_tableByDigits_5 (by decide) (fun c8 => ?_) (fun c8 => ?_)
    · replace h := ax_it c8 h
      cases h
      exact ax_Lsub [] rfl (KE _ rfl)
    · replace h := ax_if c8 h
      obtain ⟨b1, h⟩ := ax_gd h
      refine ax_bk hK (ax_fc (ax_w_ks (tx := "0123456789abcdef") (a := θ.1 0) (fun A U H hZ => by rw [hB.ht] at hZ; exact hZ.2.2.1) d_R_tableByDigits_8) (ax_fc (ax_v_ld (ax_r_aload_n (i := 0) d_R_tableByDigits_10 rfl)) (ax_fc (ax_w_gf (e := none) hal d_R_tableByDigits_11 fd_R_11) (ax_fc (ax_v_ld (ax_r_aload_n (i := 0) d_R_tableByDigits_14 rfl)) (ax_fc (ax_w_gf (e := none) hal d_R_tableByDigits_15 fd_R_72) (ax_fc (ax_w_cald hal d_R_tableByDigits_18) ax_fn)))))) (y := (19, [(0, .inr (0, 25)), (1, .inl (.int (x1))), (2, .inl (.int (x2)))], [.inl (.int ((s.1 0 26 ((s.1 0 25 3)).toNatClampNeg))), .inl (.ref (θ.1 0))], ax_m (s) ρ)) rfl ⟨trivial, trivial, (h0 25 rfl), trivial, (h0 25 rfl), ⟨(h0 26 rfl), ax_inp b1⟩, trivial⟩ ?_
      obtain ⟨r2, q3, h⟩ := ax_bd h
      refine ax_bK (k := 0) (rest := []) hB (t_String_indexOf_I (by decide) q3) cw_R_138 im_String_indexOf_I se_String_indexOf_I d_R_tableByDigits_19 (by decide) rfl (by decide) (by decide) rfl rfl (Nat.le_of_ble_eq_true rfl) ?_
      change ax_R G 4 0 0 (22, [(0, .inr (0, 25)), (1, .inl (.int (x1))), (2, .inl (.int (x2)))], [.inl (.int (r2))], ax_m (s) ρ)
      refine ax_bk hK (ax_fc (ax_v_so (ax_r_istore_n (i := 3) d_R_tableByDigits_22 rfl)) (ax_fc (ax_v_ld (ax_r_iload_n (i := 3) d_R_tableByDigits_23 rfl)) ax_fn)) (y := (24, [(3, .inl (.int (r2))), (0, .inr (0, 25)), (1, .inl (.int (x1))), (2, .inl (.int (x2)))], [.inl (.int (r2))], ax_m (s) ρ)) rfl ⟨trivial, trivial, trivial⟩ ?_
      refine ax_if_ge (tgt := 29) hK d_R_tableByDigits_24 (by decide) (fun c7 => ?_) (fun c7 => ?_)
      · replace h := ax_it c7 h
        obtain ⟨b4, h⟩ := ax_gd h
        refine ax_bk hK (ax_fc (ax_v_ld (ax_r_aload_n (i := 0) d_R_tableByDigits_29 rfl)) (ax_fc (ax_w_gf (e := (some (g, 0))) hal d_R_tableByDigits_30 fd_R_35) (ax_fc (ax_w_gf (e := none) hal d_R_tableByDigits_33 fd_R_133) (ax_fc (ax_v_ld (ax_r_iload_n (i := 1) d_R_tableByDigits_36 rfl)) (ax_fc (ax_v_pu (ax_r_bipush (v := 16) d_R_tableByDigits_37 (by decide))) (ax_fc (ax_v_pu (ax_r_imul d_R_tableByDigits_39)) (ax_fc (ax_v_ld (ax_r_iload_n (i := 2) d_R_tableByDigits_40 rfl)) (ax_fc (ax_v_pu (ax_r_iadd d_R_tableByDigits_41)) (ax_fc (ax_v_ld (ax_r_iload_n (i := 3) d_R_tableByDigits_42 rfl)) (ax_fc (ax_w_iast hal d_R_tableByDigits_43) ax_fn)))))))))) (y := (44, [(3, .inl (.int (r2))), (0, .inr (0, 25)), (1, .inl (.int (x1))), (2, .inl (.int (x2)))], [], ax_m (ax_wI s g 2 (((x1 * (16 : Int32)) + x2)).toNatClampNeg r2) ρ)) rfl ⟨trivial, ⟨(h0 25 rfl), hr.1⟩, (hg 0 rfl), trivial, trivial, trivial, trivial, trivial, trivial, ⟨(hg 2 rfl), ax_inp b4⟩, trivial⟩ ?_
        refine ax_lt (Q := fun ςς => ax_R G 4 0 0 (44, [(3, .inl (.int (r2))), (0, .inr (0, 25)), (1, .inl (.int (x1))), (2, .inl (.int (x2)))], [], ax_m (ςς) ρ)) h (fun s5 h => ?_)
        refine ax_bk hK (ax_fc (ax_v_ld (ax_r_aload_n (i := 0) d_R_tableByDigits_44 rfl)) (ax_fc (ax_v_pu (ax_r_dup d_R_tableByDigits_45)) (ax_fc (ax_w_gf (e := none) hal d_R_tableByDigits_46 fd_R_72) (ax_fc (ax_v_pu (ax_r_iconst (v := 1) d_R_tableByDigits_49 (by decide))) (ax_fc (ax_v_pu (ax_r_iadd d_R_tableByDigits_50)) (ax_fc (ax_w_pf (tc := 0) hal d_R_tableByDigits_51 fp_R_72 rfl) ax_fn)))))) (y := (54, [(3, .inl (.int (r2))), (0, .inr (0, 25)), (1, .inl (.int (x1))), (2, .inl (.int (x2)))], [], ax_m (ax_wI s5 0 25 3 ((s5.1 0 25 3) + (1 : Int32))) ρ)) rfl ⟨trivial, trivial, (h0 25 rfl), trivial, trivial, (h0 25 rfl), trivial⟩ ?_
        refine ax_lt (Q := fun ςς => ax_R G 4 0 0 (54, [(3, .inl (.int (r2))), (0, .inr (0, 25)), (1, .inl (.int (x1))), (2, .inl (.int (x2)))], [], ax_m (ςς) ρ)) h (fun s6 h => ?_)
        refine ax_bk hK (ax_fc (ax_v_ii (d := 1) d_R_tableByDigits_54 (by decide)) (ax_fc (ax_v_go (tgt := 2) d_R_tableByDigits_57 (by decide)) ax_fn)) (y := (2, [(2, .inl (.int ((x2 + (1 : Int32))))), (3, .inl (.int (r2))), (0, .inr (0, 25)), (1, .inl (.int (x1)))], [], ax_m (s6) ρ)) rfl ⟨trivial, trivial, trivial⟩ ?_
        exact ax_Lsub [2, 3, 0] rfl (ih _ h RT KE)
      · replace h := ax_if c7 h
        refine ax_bk hK (ax_fc (ax_v_pu (ax_r_iconst (v := 0) d_R_tableByDigits_27 (by decide))) ax_fn) (y := (28, [(3, .inl (.int (r2))), (0, .inr (0, 25)), (1, .inl (.int (x1))), (2, .inl (.int (x2)))], [.inl (.int ((0 : Int32)))], ax_m (s) ρ)) rfl ⟨trivial, trivial⟩ ?_
        cases h
        exact ax_zret (RT _ _ rfl) (by decide) d_R_tableByDigits_28
def f_R_tableByDigits (F : Nat) (g : Nat) (a1 : Int32) (s : ax_σ) : Option (Int32 × ax_σ) :=
  Option.bind (lp_R_tableByDigits_2 F g a1 F (0 : Int32) s) (fun w => match w with
    | .inl w => some w
    | .inr s9 =>
      some (((1 : Int32), s9)))
set_option maxHeartbeats 4000000 in
set_option maxRecDepth 100000 in
theorem t_R_tableByDigits {l : Launch} {D : va_G} {cA : Nat → ClassId} {ad : Nat → Nat → Nat} {al : List (Nat × Nat)} {θ : ax_Θ} {ρ : ax_ρ} {F : Nat} {g : Nat} (h0 : ax_M0 al) (hg : ax_Mg al g) (hr : ax_rd ρ g) {a1 : Int32} {s : ax_σ} {r0 : Int32} {s0 : ax_σ} (h : f_R_tableByDigits F g a1 s = some (r0, s0)) : ax_T l D cA ad al θ y_R_tableByDigits (.code y_R_tableByDigits prog_6_method_15_code 4 (some .boolean)) 4 [.inr (0, 25), .inl (.int (a1))] (ax_m s ρ) (some (.inl (.int r0))) (ax_m s0 ρ) := by
  refine ax_T_of (own := "CipherNotation$Reader") (by decide) rfl (Nat.le_of_ble_eq_true rfl) [(0, .inr (0, 25)), (1, .inl (.int (a1)))] rfl ?_
  intro G hA
  have hB := hA.B
  have hK := hB.K
  have hal := hB.la
  unfold f_R_tableByDigits at h
  refine ax_bk hK (ax_fc (ax_v_pu (ax_r_iconst (v := 0) d_R_tableByDigits_0 (by decide))) (ax_fc (ax_v_so (ax_r_istore_n (i := 2) d_R_tableByDigits_1 rfl)) ax_fn)) (y := (2, [(2, .inl (.int ((0 : Int32)))), (0, .inr (0, 25)), (1, .inl (.int (a1)))], [], ax_m (s) ρ)) rfl ⟨trivial, trivial, trivial⟩ ?_
  obtain ⟨w10, hw10, h⟩ := ax_bd h
  have RTw10 : ∀ (r0 : Int32) (s0 : ax_σ), w10 = .inl (r0, s0) → ax_At D cA ad al θ l "CipherNotation$Reader" prog_6_method_15_code 4 4 (some .boolean) (some (.inl (.int r0))) (ax_m s0 ρ) G := by
    intro r0 s0 e9
    subst w10
    try dsimp only at h
    cases h
    exact hA
  refine ax_Lsub [1, 2, 0] rfl (pl_R_tableByDigits_2 h0 hg hr hB F _ hw10 RTw10 ?_)
  intro s9 e9
  subst w10
  try dsimp only at h
  change ax_R G 4 0 0 (60, [], [], ax_m (s9) ρ)
  refine ax_bk hK (ax_fc (ax_v_pu (ax_r_iconst (v := 1) d_R_tableByDigits_60 (by decide))) ax_fn) (y := (61, [], [.inl (.int ((1 : Int32)))], ax_m (s9) ρ)) rfl ⟨trivial, trivial⟩ ?_
  cases h
  exact ax_zret hA (by decide) d_R_tableByDigits_61
def y_R_tables : MethodName := ⟨"CipherNotation$Reader", "tables", "()Z"⟩
theorem d_R_tables_0 : decode prog_6_method_13_code 0 = .ok (.iconst 0, 1) := by decide +kernel
theorem d_R_tables_1 : decode prog_6_method_13_code 1 = .ok (.istore_n 1, 1) := by decide +kernel
theorem d_R_tables_2 : decode prog_6_method_13_code 2 = .ok (.iload_n 1, 1) := by decide +kernel
theorem d_R_tables_3 : decode prog_6_method_13_code 3 = .ok (.iconst 2, 1) := by decide +kernel
theorem d_R_tables_4 : decode prog_6_method_13_code 4 = .ok (.if_icmp .ge (97), 3) := by decide +kernel
theorem d_R_tables_7 : decode prog_6_method_13_code 7 = .ok (.aload_n 0, 1) := by decide +kernel
theorem d_R_tables_8 : decode prog_6_method_13_code 8 = .ok (.getfield (11), 3) := by decide +kernel
theorem d_R_tables_11 : decode prog_6_method_13_code 11 = .ok (.aload_n 0, 1) := by decide +kernel
theorem d_R_tables_12 : decode prog_6_method_13_code 12 = .ok (.getfield (72), 3) := by decide +kernel
theorem d_R_tables_15 : decode prog_6_method_13_code 15 = .ok (.caload, 1) := by decide +kernel
theorem d_R_tables_16 : decode prog_6_method_13_code 16 = .ok (.bipush (35), 2) := by decide +kernel
theorem d_R_tables_18 : decode prog_6_method_13_code 18 = .ok (.if_icmp .ne (83), 3) := by decide +kernel
theorem d_R_tables_21 : decode prog_6_method_13_code 21 = .ok (.aload_n 0, 1) := by decide +kernel
theorem d_R_tables_22 : decode prog_6_method_13_code 22 = .ok (.dup, 1) := by decide +kernel
theorem d_R_tables_23 : decode prog_6_method_13_code 23 = .ok (.getfield (72), 3) := by decide +kernel
theorem d_R_tables_26 : decode prog_6_method_13_code 26 = .ok (.iconst 1, 1) := by decide +kernel
theorem d_R_tables_27 : decode prog_6_method_13_code 27 = .ok (.iadd, 1) := by decide +kernel
theorem d_R_tables_28 : decode prog_6_method_13_code 28 = .ok (.putfield (72), 3) := by decide +kernel
theorem d_R_tables_31 : decode prog_6_method_13_code 31 = .ok (.aload_n 0, 1) := by decide +kernel
theorem d_R_tables_32 : decode prog_6_method_13_code 32 = .ok (.getfield (11), 3) := by decide +kernel
theorem d_R_tables_35 : decode prog_6_method_13_code 35 = .ok (.aload_n 0, 1) := by decide +kernel
theorem d_R_tables_36 : decode prog_6_method_13_code 36 = .ok (.getfield (72), 3) := by decide +kernel
theorem d_R_tables_39 : decode prog_6_method_13_code 39 = .ok (.caload, 1) := by decide +kernel
theorem d_R_tables_40 : decode prog_6_method_13_code 40 = .ok (.bipush (42), 2) := by decide +kernel
theorem d_R_tables_42 : decode prog_6_method_13_code 42 = .ok (.if_icmp .ne (11), 3) := by decide +kernel
theorem d_R_tables_45 : decode prog_6_method_13_code 45 = .ok (.aload_n 0, 1) := by decide +kernel
theorem d_R_tables_46 : decode prog_6_method_13_code 46 = .ok (.iload_n 1, 1) := by decide +kernel
theorem d_R_tables_47 : decode prog_6_method_13_code 47 = .ok (.invokevirtual (122), 3) := by decide +kernel
theorem d_R_tables_50 : decode prog_6_method_13_code 50 = .ok (.goto (8), 3) := by decide +kernel
theorem d_R_tables_53 : decode prog_6_method_13_code 53 = .ok (.aload_n 0, 1) := by decide +kernel
theorem d_R_tables_54 : decode prog_6_method_13_code 54 = .ok (.iload_n 1, 1) := by decide +kernel
theorem d_R_tables_55 : decode prog_6_method_13_code 55 = .ok (.invokevirtual (126), 3) := by decide +kernel
theorem d_R_tables_58 : decode prog_6_method_13_code 58 = .ok (.istore_n 2, 1) := by decide +kernel
theorem d_R_tables_59 : decode prog_6_method_13_code 59 = .ok (.iload_n 2, 1) := by decide +kernel
theorem d_R_tables_60 : decode prog_6_method_13_code 60 = .ok (.ifCond .eq (12), 3) := by decide +kernel
theorem d_R_tables_63 : decode prog_6_method_13_code 63 = .ok (.aload_n 0, 1) := by decide +kernel
theorem d_R_tables_64 : decode prog_6_method_13_code 64 = .ok (.bipush (59), 2) := by decide +kernel
theorem d_R_tables_66 : decode prog_6_method_13_code 66 = .ok (.invokevirtual (115), 3) := by decide +kernel
theorem d_R_tables_69 : decode prog_6_method_13_code 69 = .ok (.ifCond .ne (5), 3) := by decide +kernel
theorem d_R_tables_72 : decode prog_6_method_13_code 72 = .ok (.iconst 0, 1) := by decide +kernel
theorem d_R_tables_73 : decode prog_6_method_13_code 73 = .ok (.ireturn, 1) := by decide +kernel
theorem d_R_tables_74 : decode prog_6_method_13_code 74 = .ok (.aload_n 0, 1) := by decide +kernel
theorem d_R_tables_75 : decode prog_6_method_13_code 75 = .ok (.getfield (35), 3) := by decide +kernel
theorem d_R_tables_78 : decode prog_6_method_13_code 78 = .ok (.iload_n 1, 1) := by decide +kernel
theorem d_R_tables_79 : decode prog_6_method_13_code 79 = .ok (.invokevirtual (129), 3) := by decide +kernel
theorem d_R_tables_82 : decode prog_6_method_13_code 82 = .ok (.aload_n 0, 1) := by decide +kernel
theorem d_R_tables_83 : decode prog_6_method_13_code 83 = .ok (.getfield (35), 3) := by decide +kernel
theorem d_R_tables_86 : decode prog_6_method_13_code 86 = .ok (.getfield (107), 3) := by decide +kernel
theorem d_R_tables_89 : decode prog_6_method_13_code 89 = .ok (.iconst 3, 1) := by decide +kernel
theorem d_R_tables_90 : decode prog_6_method_13_code 90 = .ok (.dup2, 1) := by decide +kernel
theorem d_R_tables_91 : decode prog_6_method_13_code 91 = .ok (.iaload, 1) := by decide +kernel
theorem d_R_tables_92 : decode prog_6_method_13_code 92 = .ok (.iconst 1, 1) := by decide +kernel
theorem d_R_tables_93 : decode prog_6_method_13_code 93 = .ok (.iadd, 1) := by decide +kernel
theorem d_R_tables_94 : decode prog_6_method_13_code 94 = .ok (.iastore, 1) := by decide +kernel
theorem d_R_tables_95 : decode prog_6_method_13_code 95 = .ok (.iinc 1 (1), 3) := by decide +kernel
theorem d_R_tables_98 : decode prog_6_method_13_code 98 = .ok (.goto (-96), 3) := by decide +kernel
theorem d_R_tables_101 : decode prog_6_method_13_code 101 = .ok (.iconst 1, 1) := by decide +kernel
theorem d_R_tables_102 : decode prog_6_method_13_code 102 = .ok (.ireturn, 1) := by decide +kernel
set_option maxRecDepth 100000 in
theorem cw_R_129 : ax_cw "CipherNotation$Reader" 129 y_P_turnTableRound (.code y_P_turnTableRound prog_5_method_4_code 4 none) 1 := ⟨nw_2 192 (by decide +kernel) rfl, nw_1 4 (by decide +kernel) rfl, nw_2 195 rfl rfl, by decide +kernel, by decide +kernel⟩
theorem im_P_turnTableRound : Cond.instanceMethod y_P_turnTableRound ∈ ax_tbl := nw_2 193 (by decide +kernel) rfl
theorem se_P_turnTableRound : Cond.selects y_P_turnTableRound.cls y_P_turnTableRound y_P_turnTableRound ∈ ax_tbl := nw_2 194 (by decide +kernel) rfl
set_option maxRecDepth 100000 in
theorem cw_R_126 : ax_cw "CipherNotation$Reader" 126 y_R_tableByDigits (.code y_R_tableByDigits prog_6_method_15_code 4 (some .boolean)) 1 := ⟨nw_2 103 (by decide +kernel) rfl, nw_1 2 (by decide +kernel) rfl, nw_2 106 rfl rfl, by decide +kernel, by decide +kernel⟩
theorem im_R_tableByDigits : Cond.instanceMethod y_R_tableByDigits ∈ ax_tbl := nw_2 105 (by decide +kernel) rfl
theorem se_R_tableByDigits : Cond.selects y_R_tableByDigits.cls y_R_tableByDigits y_R_tableByDigits ∈ ax_tbl := nw_sel 7 (by decide +kernel) (by decide +kernel)
set_option maxRecDepth 100000 in
theorem cw_R_122 : ax_cw "CipherNotation$Reader" 122 y_R_tableByRule (.code y_R_tableByRule prog_6_method_14_code 5 (some .boolean)) 1 := ⟨nw_2 99 (by decide +kernel) rfl, nw_1 2 (by decide +kernel) rfl, nw_2 102 rfl rfl, by decide +kernel, by decide +kernel⟩
theorem im_R_tableByRule : Cond.instanceMethod y_R_tableByRule ∈ ax_tbl := nw_2 101 (by decide +kernel) rfl
theorem se_R_tableByRule : Cond.selects y_R_tableByRule.cls y_R_tableByRule y_R_tableByRule ∈ ax_tbl := nw_sel 6 (by decide +kernel) (by decide +kernel)
def lp_R_tables_2 (F : Nat) (g : Nat) : Nat → Int32 → ax_σ → Option ((Int32 × ax_σ) ⊕ (ax_σ))
  | 0, _, _ => none
  | n + 1, x1, s =>
    Option.bind (
      if (2 : Int32) ≤ x1 then
        some true
      else
        bif ax_in (s.1 0 25 3) 241 then
        if (s.1 0 26 ((s.1 0 25 3)).toNatClampNeg) = (35 : Int32) then
          some false
        else
          some true
        else none) (fun w25 => bif w25 then
      some (.inr s)
    else
      ax_let (ax_wI s 0 25 3 ((s.1 0 25 3) + (1 : Int32))) (fun s4 =>
        bif ax_in (s4.1 0 25 3) 241 then
        Option.bind (
          if (s4.1 0 26 ((s4.1 0 25 3)).toNatClampNeg) = (42 : Int32) then
            Option.bind (f_R_tableByRule F g x1 s4) (fun (r9, s10) =>
              some (r9, s10))
          else
            Option.bind (f_R_tableByDigits F g x1 s4) (fun (r6, s7) =>
              some (r6, s7))) (fun (v13, s14) =>
          if v13 = (0 : Int32) then
            some (.inl ((0 : Int32), s14))
          else
            Option.bind (f_R_take g (59 : Int32) s14) (fun (r15, s16) =>
              if r15 = (0 : Int32) then
                some (.inl ((0 : Int32), s16))
              else
                Option.bind (f_P_turnTableRound F g x1 s16) (fun s18 =>
                  bif ax_in (3 : Int32) 8 then
                  bif ax_in (3 : Int32) 8 then
                  ax_let (ax_wI s18 g 1 ((3 : Int32)).toNatClampNeg ((s18.1 g 1 ((3 : Int32)).toNatClampNeg) + (1 : Int32))) (fun s22 =>
                    lp_R_tables_2 F g n (x1 + (1 : Int32)) s22)
                  else none
                  else none)))
        else none))
set_option maxHeartbeats 4000000 in
set_option maxRecDepth 100000 in
theorem pl_R_tables_2 {D : va_G} {cA : Nat → ClassId} {ad : Nat → Nat → Nat} {al : List (Nat × Nat)} {θ : ax_Θ} {l : Launch} {ρ : ax_ρ} {G : ax_G} {F g : Nat}  (h0 : ax_M0 al) (hg : ax_Mg al g) (hr : ax_rd ρ g) (hB : ax_B D cA ad al θ l "CipherNotation$Reader" prog_6_method_13_code 3 5 G) : ∀ (n : Nat) {x1 : Int32} {s : ax_σ} (out : (Int32 × ax_σ) ⊕ (ax_σ)), lp_R_tables_2 F g n x1 s = some out → (∀ (r0 : Int32) (s0 : ax_σ), out = .inl (r0, s0) → ax_At D cA ad al θ l "CipherNotation$Reader" prog_6_method_13_code 3 5 (some .boolean) (some (.inl (.int r0))) (ax_m s0 ρ) G) → (∀ (es : ax_σ), out = .inr es → ax_R G 3 0 0 (101, [], [], ax_m (es) ρ)) → ax_R G 3 0 0 (2, [(0, .inr (0, 25)), (1, .inl (.int (x1)))], [], ax_m (s) ρ) := by
  have hK := hB.K
  have hal := hB.la
  intro n
  induction n with
  | zero =>
    intro x1 s out h
    cases h
  | succ n ih =>
    intro x1 s out h RT KE
    rw [lp_R_tables_2] at h
    refine ax_bk hK (ax_fc (ax_v_ld (ax_r_iload_n (i := 1) d_R_tables_2 rfl)) (ax_fc (ax_v_pu (ax_r_iconst (v := 2) d_R_tables_3 (by decide))) ax_fn)) (y := (4, [(0, .inr (0, 25)), (1, .inl (.int (x1)))], [.inl (.int ((2 : Int32))), .inl (.int (x1))], ax_m (s) ρ)) rfl ⟨trivial, trivial, trivial⟩ ?_
    obtain ⟨w25, hw25, h⟩ := ax_bd h
    have KTw25 : w25 = true → ax_R G 3 0 0 (101, [], [], ax_m (s) ρ) := by
      intro e9
      subst w25
      replace h := ax_ct h
      cases h
      exact ax_Lsub [] rfl (KE _ rfl)
    have KFw25 : w25 = false → ax_R G 3 0 0 (21, [(0, .inr (0, 25)), (1, .inl (.int (x1)))], [], ax_m (s) ρ) := by
      intro e9
      subst w25
      replace h := ax_cf h
      refine ax_bk hK (ax_fc (ax_v_ld (ax_r_aload_n (i := 0) d_R_tables_21 rfl)) (ax_fc (ax_v_pu (ax_r_dup d_R_tables_22)) (ax_fc (ax_w_gf (e := none) hal d_R_tables_23 fd_R_72) (ax_fc (ax_v_pu (ax_r_iconst (v := 1) d_R_tables_26 (by decide))) (ax_fc (ax_v_pu (ax_r_iadd d_R_tables_27)) (ax_fc (ax_w_pf (tc := 0) hal d_R_tables_28 fp_R_72 rfl) ax_fn)))))) (y := (31, [(0, .inr (0, 25)), (1, .inl (.int (x1)))], [], ax_m (ax_wI s 0 25 3 ((s.1 0 25 3) + (1 : Int32))) ρ)) rfl ⟨trivial, trivial, (h0 25 rfl), trivial, trivial, (h0 25 rfl), trivial⟩ ?_
      refine ax_lt (Q := fun ςς => ax_R G 3 0 0 (31, [(0, .inr (0, 25)), (1, .inl (.int (x1)))], [], ax_m (ςς) ρ)) h (fun s4 h => ?_)
      obtain ⟨b5, h⟩ := ax_gd h
      refine ax_bk hK (ax_fc (ax_v_ld (ax_r_aload_n (i := 0) d_R_tables_31 rfl)) (ax_fc (ax_w_gf (e := none) hal d_R_tables_32 fd_R_11) (ax_fc (ax_v_ld (ax_r_aload_n (i := 0) d_R_tables_35 rfl)) (ax_fc (ax_w_gf (e := none) hal d_R_tables_36 fd_R_72) (ax_fc (ax_w_cald hal d_R_tables_39) (ax_fc (ax_v_pu (ax_r_bipush (v := 42) d_R_tables_40 (by decide))) ax_fn)))))) (y := (42, [(0, .inr (0, 25)), (1, .inl (.int (x1)))], [.inl (.int ((42 : Int32))), .inl (.int ((s4.1 0 26 ((s4.1 0 25 3)).toNatClampNeg)))], ax_m (s4) ρ)) rfl ⟨trivial, (h0 25 rfl), trivial, (h0 25 rfl), ⟨(h0 26 rfl), ax_inp b5⟩, trivial, trivial⟩ ?_
      obtain ⟨w26, hw26, h⟩ := ax_bd h
      have KEw26 : ∀ (v13 : Int32) (s14 : ax_σ), w26 = (v13, s14) → ax_R G 3 0 0 (58, [(0, .inr (0, 25)), (1, .inl (.int (x1)))], [.inl (.int (v13))], ax_m (s14) ρ) := by
        intro v13 s14 e9
        subst w26
        try dsimp only at h
        refine ax_bk hK (ax_fc (ax_v_so (ax_r_istore_n (i := 2) d_R_tables_58 rfl)) (ax_fc (ax_v_ld (ax_r_iload_n (i := 2) d_R_tables_59 rfl)) ax_fn)) (y := (60, [(2, .inl (.int (v13))), (0, .inr (0, 25)), (1, .inl (.int (x1)))], [.inl (.int (v13))], ax_m (s14) ρ)) rfl ⟨trivial, trivial, trivial⟩ ?_
        refine ax_if_eq (tgt := 72) hK d_R_tables_60 (by decide) (fun c24 => ?_) (fun c24 => ?_)
        · replace h := ax_it c24 h
          refine ax_bk hK (ax_fc (ax_v_pu (ax_r_iconst (v := 0) d_R_tables_72 (by decide))) ax_fn) (y := (73, [(2, .inl (.int (v13))), (0, .inr (0, 25)), (1, .inl (.int (x1)))], [.inl (.int ((0 : Int32)))], ax_m (s14) ρ)) rfl ⟨trivial, trivial⟩ ?_
          cases h
          exact ax_zret (RT _ _ rfl) (by decide) d_R_tables_73
        · replace h := ax_if c24 h
          refine ax_bk hK (ax_fc (ax_v_ld (ax_r_aload_n (i := 0) d_R_tables_63 rfl)) (ax_fc (ax_v_pu (ax_r_bipush (v := 59) d_R_tables_64 (by decide))) ax_fn)) (y := (66, [(2, .inl (.int (v13))), (0, .inr (0, 25)), (1, .inl (.int (x1)))], [.inl (.int ((59 : Int32))), .inr (0, 25)], ax_m (s14) ρ)) rfl ⟨trivial, trivial, trivial⟩ ?_
          obtain ⟨⟨r15, s16⟩, q17, h⟩ := ax_bd h
          dsimp only at h
          refine ax_bV (rest := []) hB (t_R_take h0 hg hr q17) cw_R_115 im_R_take se_R_take d_R_tables_66 (h0 25 rfl) rfl rfl (by decide) (by decide) rfl rfl (Nat.le_of_ble_eq_true rfl) ?_
          change ax_R G 3 0 0 (69, [(2, .inl (.int (v13))), (0, .inr (0, 25)), (1, .inl (.int (x1)))], [.inl (.int (r15))], ax_m (s16) ρ)
          refine ax_if_ne (tgt := 74) hK d_R_tables_69 (by decide) (fun c23 => ?_) (fun c23 => ?_)
          · replace h := ax_if c23 h
            refine ax_bk hK (ax_fc (ax_v_ld (ax_r_aload_n (i := 0) d_R_tables_74 rfl)) (ax_fc (ax_w_gf (e := (some (g, 0))) hal d_R_tables_75 fd_R_35) (ax_fc (ax_v_ld (ax_r_iload_n (i := 1) d_R_tables_78 rfl)) ax_fn))) (y := (79, [(2, .inl (.int (v13))), (0, .inr (0, 25)), (1, .inl (.int (x1)))], [.inl (.int (x1)), .inr (g, 0)], ax_m (s16) ρ)) rfl ⟨trivial, ⟨(h0 25 rfl), hr.1⟩, trivial, trivial⟩ ?_
            obtain ⟨s18, q19, h⟩ := ax_bd h
            refine ax_bV (rest := []) hB (t_P_turnTableRound hg q19) cw_R_129 im_P_turnTableRound se_P_turnTableRound d_R_tables_79 (hg 0 rfl) rfl rfl (by decide) (by decide) rfl rfl (Nat.le_of_ble_eq_true rfl) ?_
            change ax_R G 3 0 0 (82, [(2, .inl (.int (v13))), (0, .inr (0, 25)), (1, .inl (.int (x1)))], [], ax_m (s18) ρ)
            obtain ⟨b20, h⟩ := ax_gd h
            obtain ⟨b21, h⟩ := ax_gd h
            refine ax_bk hK (ax_fc (ax_v_ld (ax_r_aload_n (i := 0) d_R_tables_82 rfl)) (ax_fc (ax_w_gf (e := (some (g, 0))) hal d_R_tables_83 fd_R_35) (ax_fc (ax_w_gf (e := none) hal d_R_tables_86 fd_R_107) (ax_fc (ax_v_pu (ax_r_iconst (v := 3) d_R_tables_89 (by decide))) (ax_fc (ax_v_pu (ax_r_dup2p d_R_tables_90)) (ax_fc (ax_w_iald hal d_R_tables_91) (ax_fc (ax_v_pu (ax_r_iconst (v := 1) d_R_tables_92 (by decide))) (ax_fc (ax_v_pu (ax_r_iadd d_R_tables_93)) (ax_fc (ax_w_iast hal d_R_tables_94) ax_fn))))))))) (y := (95, [(2, .inl (.int (v13))), (0, .inr (0, 25)), (1, .inl (.int (x1)))], [], ax_m (ax_wI s18 g 1 ((3 : Int32)).toNatClampNeg ((s18.1 g 1 ((3 : Int32)).toNatClampNeg) + (1 : Int32))) ρ)) rfl ⟨trivial, ⟨(h0 25 rfl), hr.1⟩, (hg 0 rfl), trivial, trivial, ⟨(hg 1 rfl), ax_inp b20⟩, trivial, trivial, ⟨(hg 1 rfl), ax_inp b21⟩, trivial⟩ ?_
            refine ax_lt (Q := fun ςς => ax_R G 3 0 0 (95, [(2, .inl (.int (v13))), (0, .inr (0, 25)), (1, .inl (.int (x1)))], [], ax_m (ςς) ρ)) h (fun s22 h => ?_)
            refine ax_bk hK (ax_fc (ax_v_ii (d := 1) d_R_tables_95 (by decide)) (ax_fc (ax_v_go (tgt := 2) d_R_tables_98 (by decide)) ax_fn)) (y := (2, [(1, .inl (.int ((x1 + (1 : Int32))))), (2, .inl (.int (v13))), (0, .inr (0, 25))], [], ax_m (s22) ρ)) rfl ⟨trivial, trivial, trivial⟩ ?_
            exact ax_Lsub [2, 0] rfl (ih _ h RT KE)
          · replace h := ax_it c23 h
            refine ax_bk hK (ax_fc (ax_v_pu (ax_r_iconst (v := 0) d_R_tables_72 (by decide))) ax_fn) (y := (73, [(2, .inl (.int (v13))), (0, .inr (0, 25)), (1, .inl (.int (x1)))], [.inl (.int ((0 : Int32)))], ax_m (s16) ρ)) rfl ⟨trivial, trivial⟩ ?_
            cases h
            exact ax_zret (RT _ _ rfl) (by decide) d_R_tables_73
      clear h
      have h := hw26
      refine ax_ic_ne (tgt := 53) hK d_R_tables_42 (by decide) (fun c12 => ?_) (fun c12 => ?_)
      · replace h := ax_if c12 h
        refine ax_bk hK (ax_fc (ax_v_ld (ax_r_aload_n (i := 0) d_R_tables_53 rfl)) (ax_fc (ax_v_ld (ax_r_iload_n (i := 1) d_R_tables_54 rfl)) ax_fn)) (y := (55, [(0, .inr (0, 25)), (1, .inl (.int (x1)))], [.inl (.int (x1)), .inr (0, 25)], ax_m (s4) ρ)) rfl ⟨trivial, trivial, trivial⟩ ?_
        obtain ⟨⟨r6, s7⟩, q8, h⟩ := ax_bd h
        dsimp only at h
        refine ax_bV (rest := []) hB (t_R_tableByDigits h0 hg hr q8) cw_R_126 im_R_tableByDigits se_R_tableByDigits d_R_tables_55 (h0 25 rfl) rfl rfl (by decide) (by decide) rfl rfl (Nat.le_of_ble_eq_true rfl) ?_
        change ax_R G 3 0 0 (58, [(0, .inr (0, 25)), (1, .inl (.int (x1)))], [.inl (.int (r6))], ax_m (s7) ρ)
        cases h
        exact ax_Lsub [0, 1] rfl (KEw26 _ _ rfl)
      · replace h := ax_it c12 h
        refine ax_bk hK (ax_fc (ax_v_ld (ax_r_aload_n (i := 0) d_R_tables_45 rfl)) (ax_fc (ax_v_ld (ax_r_iload_n (i := 1) d_R_tables_46 rfl)) ax_fn)) (y := (47, [(0, .inr (0, 25)), (1, .inl (.int (x1)))], [.inl (.int (x1)), .inr (0, 25)], ax_m (s4) ρ)) rfl ⟨trivial, trivial, trivial⟩ ?_
        obtain ⟨⟨r9, s10⟩, q11, h⟩ := ax_bd h
        dsimp only at h
        refine ax_bV (rest := []) hB (t_R_tableByRule h0 hg hr q11) cw_R_122 im_R_tableByRule se_R_tableByRule d_R_tables_47 (h0 25 rfl) rfl rfl (by decide) (by decide) rfl rfl (Nat.le_of_ble_eq_true rfl) ?_
        change ax_R G 3 0 0 (50, [(0, .inr (0, 25)), (1, .inl (.int (x1)))], [.inl (.int (r9))], ax_m (s10) ρ)
        refine ax_bk hK (ax_fc (ax_v_go (tgt := 58) d_R_tables_50 (by decide)) ax_fn) (y := (58, [(0, .inr (0, 25)), (1, .inl (.int (x1)))], [.inl (.int (r9))], ax_m (s10) ρ)) rfl ⟨trivial, trivial⟩ ?_
        cases h
        exact ax_Lsub [0, 1] rfl (KEw26 _ _ rfl)
    clear h
    have h := hw25
    refine ax_ic_ge (tgt := 101) hK d_R_tables_4 (by decide) (fun c3 => ?_) (fun c3 => ?_)
    · replace h := ax_it c3 h
      cases h
      exact ax_Lsub [] rfl (KTw25 rfl)
    · replace h := ax_if c3 h
      obtain ⟨b1, h⟩ := ax_gd h
      refine ax_bk hK (ax_fc (ax_v_ld (ax_r_aload_n (i := 0) d_R_tables_7 rfl)) (ax_fc (ax_w_gf (e := none) hal d_R_tables_8 fd_R_11) (ax_fc (ax_v_ld (ax_r_aload_n (i := 0) d_R_tables_11 rfl)) (ax_fc (ax_w_gf (e := none) hal d_R_tables_12 fd_R_72) (ax_fc (ax_w_cald hal d_R_tables_15) (ax_fc (ax_v_pu (ax_r_bipush (v := 35) d_R_tables_16 (by decide))) ax_fn)))))) (y := (18, [(0, .inr (0, 25)), (1, .inl (.int (x1)))], [.inl (.int ((35 : Int32))), .inl (.int ((s.1 0 26 ((s.1 0 25 3)).toNatClampNeg)))], ax_m (s) ρ)) rfl ⟨trivial, (h0 25 rfl), trivial, (h0 25 rfl), ⟨(h0 26 rfl), ax_inp b1⟩, trivial, trivial⟩ ?_
      refine ax_ic_ne (tgt := 101) hK d_R_tables_18 (by decide) (fun c2 => ?_) (fun c2 => ?_)
      · replace h := ax_if c2 h
        cases h
        exact ax_Lsub [] rfl (KTw25 rfl)
      · replace h := ax_it c2 h
        cases h
        exact ax_Lsub [0, 1] rfl (KFw25 rfl)
def f_R_tables (F : Nat) (g : Nat) (s : ax_σ) : Option (Int32 × ax_σ) :=
  Option.bind (lp_R_tables_2 F g F (0 : Int32) s) (fun w => match w with
    | .inl w => some w
    | .inr s26 =>
      some (((1 : Int32), s26)))
set_option maxHeartbeats 4000000 in
set_option maxRecDepth 100000 in
theorem t_R_tables {l : Launch} {D : va_G} {cA : Nat → ClassId} {ad : Nat → Nat → Nat} {al : List (Nat × Nat)} {θ : ax_Θ} {ρ : ax_ρ} {F : Nat} {g : Nat} (h0 : ax_M0 al) (hg : ax_Mg al g) (hr : ax_rd ρ g)  {s : ax_σ} {r0 : Int32} {s0 : ax_σ} (h : f_R_tables F g s = some (r0, s0)) : ax_T l D cA ad al θ y_R_tables (.code y_R_tables prog_6_method_13_code 3 (some .boolean)) 5 [.inr (0, 25)] (ax_m s ρ) (some (.inl (.int r0))) (ax_m s0 ρ) := by
  refine ax_T_of (own := "CipherNotation$Reader") (by decide) rfl (Nat.le_of_ble_eq_true rfl) [(0, .inr (0, 25))] rfl ?_
  intro G hA
  have hB := hA.B
  have hK := hB.K
  have hal := hB.la
  unfold f_R_tables at h
  refine ax_bk hK (ax_fc (ax_v_pu (ax_r_iconst (v := 0) d_R_tables_0 (by decide))) (ax_fc (ax_v_so (ax_r_istore_n (i := 1) d_R_tables_1 rfl)) ax_fn)) (y := (2, [(1, .inl (.int ((0 : Int32)))), (0, .inr (0, 25))], [], ax_m (s) ρ)) rfl ⟨trivial, trivial, trivial⟩ ?_
  obtain ⟨w27, hw27, h⟩ := ax_bd h
  have RTw27 : ∀ (r0 : Int32) (s0 : ax_σ), w27 = .inl (r0, s0) → ax_At D cA ad al θ l "CipherNotation$Reader" prog_6_method_13_code 3 5 (some .boolean) (some (.inl (.int r0))) (ax_m s0 ρ) G := by
    intro r0 s0 e9
    subst w27
    try dsimp only at h
    cases h
    exact hA
  refine ax_Lsub [1, 0] rfl (pl_R_tables_2 h0 hg hr hB F _ hw27 RTw27 ?_)
  intro s26 e9
  subst w27
  try dsimp only at h
  change ax_R G 3 0 0 (101, [], [], ax_m (s26) ρ)
  refine ax_bk hK (ax_fc (ax_v_pu (ax_r_iconst (v := 1) d_R_tables_101 (by decide))) ax_fn) (y := (102, [], [.inl (.int ((1 : Int32)))], ax_m (s26) ρ)) rfl ⟨trivial, trivial⟩ ?_
  cases h
  exact ax_zret hA (by decide) d_R_tables_102
def y_R_openLoop : MethodName := ⟨"CipherNotation$Reader", "openLoop", "()Z"⟩
theorem d_R_openLoop_0 : decode prog_6_method_18_code 0 = .ok (.aload_n 0, 1) := by decide +kernel
theorem d_R_openLoop_1 : decode prog_6_method_18_code 1 = .ok (.getfield (143), 3) := by decide +kernel
theorem d_R_openLoop_4 : decode prog_6_method_18_code 4 = .ok (.iconst 2, 1) := by decide +kernel
theorem d_R_openLoop_5 : decode prog_6_method_18_code 5 = .ok (.if_icmp .ne (5), 3) := by decide +kernel
theorem d_R_openLoop_8 : decode prog_6_method_18_code 8 = .ok (.iconst 0, 1) := by decide +kernel
theorem d_R_openLoop_9 : decode prog_6_method_18_code 9 = .ok (.ireturn, 1) := by decide +kernel
theorem d_R_openLoop_10 : decode prog_6_method_18_code 10 = .ok (.aload_n 0, 1) := by decide +kernel
theorem d_R_openLoop_11 : decode prog_6_method_18_code 11 = .ok (.getfield (11), 3) := by decide +kernel
theorem d_R_openLoop_14 : decode prog_6_method_18_code 14 = .ok (.aload_n 0, 1) := by decide +kernel
theorem d_R_openLoop_15 : decode prog_6_method_18_code 15 = .ok (.getfield (72), 3) := by decide +kernel
theorem d_R_openLoop_18 : decode prog_6_method_18_code 18 = .ok (.caload, 1) := by decide +kernel
theorem d_R_openLoop_19 : decode prog_6_method_18_code 19 = .ok (.bipush (105), 2) := by decide +kernel
theorem d_R_openLoop_21 : decode prog_6_method_18_code 21 = .ok (.isub, 1) := by decide +kernel
theorem d_R_openLoop_22 : decode prog_6_method_18_code 22 = .ok (.istore_n 1, 1) := by decide +kernel
theorem d_R_openLoop_23 : decode prog_6_method_18_code 23 = .ok (.aload_n 0, 1) := by decide +kernel
theorem d_R_openLoop_24 : decode prog_6_method_18_code 24 = .ok (.iload_n 1, 1) := by decide +kernel
theorem d_R_openLoop_25 : decode prog_6_method_18_code 25 = .ok (.invokevirtual (166), 3) := by decide +kernel
theorem d_R_openLoop_28 : decode prog_6_method_18_code 28 = .ok (.ifCond .eq (17), 3) := by decide +kernel
theorem d_R_openLoop_31 : decode prog_6_method_18_code 31 = .ok (.aload_n 0, 1) := by decide +kernel
theorem d_R_openLoop_32 : decode prog_6_method_18_code 32 = .ok (.aload_n 0, 1) := by decide +kernel
theorem d_R_openLoop_33 : decode prog_6_method_18_code 33 = .ok (.getfield (15), 3) := by decide +kernel
theorem d_R_openLoop_36 : decode prog_6_method_18_code 36 = .ok (.aload_n 0, 1) := by decide +kernel
theorem d_R_openLoop_37 : decode prog_6_method_18_code 37 = .ok (.getfield (72), 3) := by decide +kernel
theorem d_R_openLoop_40 : decode prog_6_method_18_code 40 = .ok (.iaload, 1) := by decide +kernel
theorem d_R_openLoop_41 : decode prog_6_method_18_code 41 = .ok (.iconst 4, 1) := by decide +kernel
theorem d_R_openLoop_42 : decode prog_6_method_18_code 42 = .ok (.invokevirtual (100), 3) := by decide +kernel
theorem d_R_openLoop_45 : decode prog_6_method_18_code 45 = .ok (.aload_n 0, 1) := by decide +kernel
theorem d_R_openLoop_46 : decode prog_6_method_18_code 46 = .ok (.dup, 1) := by decide +kernel
theorem d_R_openLoop_47 : decode prog_6_method_18_code 47 = .ok (.getfield (72), 3) := by decide +kernel
theorem d_R_openLoop_50 : decode prog_6_method_18_code 50 = .ok (.iconst 1, 1) := by decide +kernel
theorem d_R_openLoop_51 : decode prog_6_method_18_code 51 = .ok (.iadd, 1) := by decide +kernel
theorem d_R_openLoop_52 : decode prog_6_method_18_code 52 = .ok (.putfield (72), 3) := by decide +kernel
theorem d_R_openLoop_55 : decode prog_6_method_18_code 55 = .ok (.aload_n 0, 1) := by decide +kernel
theorem d_R_openLoop_56 : decode prog_6_method_18_code 56 = .ok (.getfield (15), 3) := by decide +kernel
theorem d_R_openLoop_59 : decode prog_6_method_18_code 59 = .ok (.aload_n 0, 1) := by decide +kernel
theorem d_R_openLoop_60 : decode prog_6_method_18_code 60 = .ok (.getfield (72), 3) := by decide +kernel
theorem d_R_openLoop_63 : decode prog_6_method_18_code 63 = .ok (.iaload, 1) := by decide +kernel
theorem d_R_openLoop_64 : decode prog_6_method_18_code 64 = .ok (.istore_n 2, 1) := by decide +kernel
theorem d_R_openLoop_65 : decode prog_6_method_18_code 65 = .ok (.aload_n 0, 1) := by decide +kernel
theorem d_R_openLoop_66 : decode prog_6_method_18_code 66 = .ok (.bipush (17), 2) := by decide +kernel
theorem d_R_openLoop_68 : decode prog_6_method_18_code 68 = .ok (.invokevirtual (111), 3) := by decide +kernel
theorem d_R_openLoop_71 : decode prog_6_method_18_code 71 = .ok (.istore_n 3, 1) := by decide +kernel
theorem d_R_openLoop_72 : decode prog_6_method_18_code 72 = .ok (.iload_n 3, 1) := by decide +kernel
theorem d_R_openLoop_73 : decode prog_6_method_18_code 73 = .ok (.iconst (-1), 1) := by decide +kernel
theorem d_R_openLoop_74 : decode prog_6_method_18_code 74 = .ok (.if_icmp .eq (12), 3) := by decide +kernel
theorem d_R_openLoop_77 : decode prog_6_method_18_code 77 = .ok (.aload_n 0, 1) := by decide +kernel
theorem d_R_openLoop_78 : decode prog_6_method_18_code 78 = .ok (.bipush (91), 2) := by decide +kernel
theorem d_R_openLoop_80 : decode prog_6_method_18_code 80 = .ok (.invokevirtual (115), 3) := by decide +kernel
theorem d_R_openLoop_83 : decode prog_6_method_18_code 83 = .ok (.ifCond .ne (5), 3) := by decide +kernel
theorem d_R_openLoop_86 : decode prog_6_method_18_code 86 = .ok (.iconst 0, 1) := by decide +kernel
theorem d_R_openLoop_87 : decode prog_6_method_18_code 87 = .ok (.ireturn, 1) := by decide +kernel
theorem d_R_openLoop_88 : decode prog_6_method_18_code 88 = .ok (.iload_n 3, 1) := by decide +kernel
theorem d_R_openLoop_89 : decode prog_6_method_18_code 89 = .ok (.iconst 1, 1) := by decide +kernel
theorem d_R_openLoop_90 : decode prog_6_method_18_code 90 = .ok (.if_icmp .ge (9), 3) := by decide +kernel
theorem d_R_openLoop_93 : decode prog_6_method_18_code 93 = .ok (.aload_n 0, 1) := by decide +kernel
theorem d_R_openLoop_94 : decode prog_6_method_18_code 94 = .ok (.iload_n 2, 1) := by decide +kernel
theorem d_R_openLoop_95 : decode prog_6_method_18_code 95 = .ok (.iconst 3, 1) := by decide +kernel
theorem d_R_openLoop_96 : decode prog_6_method_18_code 96 = .ok (.invokevirtual (100), 3) := by decide +kernel
theorem d_R_openLoop_99 : decode prog_6_method_18_code 99 = .ok (.aload_n 0, 1) := by decide +kernel
theorem d_R_openLoop_100 : decode prog_6_method_18_code 100 = .ok (.getfield (19), 3) := by decide +kernel
theorem d_R_openLoop_103 : decode prog_6_method_18_code 103 = .ok (.aload_n 0, 1) := by decide +kernel
theorem d_R_openLoop_104 : decode prog_6_method_18_code 104 = .ok (.getfield (143), 3) := by decide +kernel
theorem d_R_openLoop_107 : decode prog_6_method_18_code 107 = .ok (.aload_n 0, 1) := by decide +kernel
theorem d_R_openLoop_108 : decode prog_6_method_18_code 108 = .ok (.getfield (50), 3) := by decide +kernel
theorem d_R_openLoop_111 : decode prog_6_method_18_code 111 = .ok (.bipush (91), 2) := by decide +kernel
theorem d_R_openLoop_113 : decode prog_6_method_18_code 113 = .ok (.iload_n 1, 1) := by decide +kernel
theorem d_R_openLoop_114 : decode prog_6_method_18_code 114 = .ok (.iload_n 3, 1) := by decide +kernel
theorem d_R_openLoop_115 : decode prog_6_method_18_code 115 = .ok (.bipush (16), 2) := by decide +kernel
theorem d_R_openLoop_117 : decode prog_6_method_18_code 117 = .ok (.invokestatic (90), 3) := by decide +kernel
theorem d_R_openLoop_120 : decode prog_6_method_18_code 120 = .ok (.aload_n 0, 1) := by decide +kernel
theorem d_R_openLoop_121 : decode prog_6_method_18_code 121 = .ok (.getfield (45), 3) := by decide +kernel
theorem d_R_openLoop_124 : decode prog_6_method_18_code 124 = .ok (.getfield (169), 3) := by decide +kernel
theorem d_R_openLoop_127 : decode prog_6_method_18_code 127 = .ok (.invokevirtual (172), 3) := by decide +kernel
theorem d_R_openLoop_130 : decode prog_6_method_18_code 130 = .ok (.iastore, 1) := by decide +kernel
theorem d_R_openLoop_131 : decode prog_6_method_18_code 131 = .ok (.iconst 4, 1) := by decide +kernel
theorem d_R_openLoop_132 : decode prog_6_method_18_code 132 = .ok (.istore (4), 2) := by decide +kernel
theorem d_R_openLoop_134 : decode prog_6_method_18_code 134 = .ok (.iload (4), 2) := by decide +kernel
theorem d_R_openLoop_136 : decode prog_6_method_18_code 136 = .ok (.bipush (6), 2) := by decide +kernel
theorem d_R_openLoop_138 : decode prog_6_method_18_code 138 = .ok (.if_icmp .gt (34), 3) := by decide +kernel
theorem d_R_openLoop_141 : decode prog_6_method_18_code 141 = .ok (.aload_n 0, 1) := by decide +kernel
theorem d_R_openLoop_142 : decode prog_6_method_18_code 142 = .ok (.getfield (22), 3) := by decide +kernel
theorem d_R_openLoop_145 : decode prog_6_method_18_code 145 = .ok (.aload_n 0, 1) := by decide +kernel
theorem d_R_openLoop_146 : decode prog_6_method_18_code 146 = .ok (.getfield (143), 3) := by decide +kernel
theorem d_R_openLoop_149 : decode prog_6_method_18_code 149 = .ok (.bipush (8), 2) := by decide +kernel
theorem d_R_openLoop_151 : decode prog_6_method_18_code 151 = .ok (.imul, 1) := by decide +kernel
theorem d_R_openLoop_152 : decode prog_6_method_18_code 152 = .ok (.iload (4), 2) := by decide +kernel
theorem d_R_openLoop_154 : decode prog_6_method_18_code 154 = .ok (.iadd, 1) := by decide +kernel
theorem d_R_openLoop_155 : decode prog_6_method_18_code 155 = .ok (.aload_n 0, 1) := by decide +kernel
theorem d_R_openLoop_156 : decode prog_6_method_18_code 156 = .ok (.getfield (35), 3) := by decide +kernel
theorem d_R_openLoop_159 : decode prog_6_method_18_code 159 = .ok (.getfield (107), 3) := by decide +kernel
theorem d_R_openLoop_162 : decode prog_6_method_18_code 162 = .ok (.iload (4), 2) := by decide +kernel
theorem d_R_openLoop_164 : decode prog_6_method_18_code 164 = .ok (.iaload, 1) := by decide +kernel
theorem d_R_openLoop_165 : decode prog_6_method_18_code 165 = .ok (.iastore, 1) := by decide +kernel
theorem d_R_openLoop_166 : decode prog_6_method_18_code 166 = .ok (.iinc 4 (1), 3) := by decide +kernel
theorem d_R_openLoop_169 : decode prog_6_method_18_code 169 = .ok (.goto (-35), 3) := by decide +kernel
theorem d_R_openLoop_172 : decode prog_6_method_18_code 172 = .ok (.aload_n 0, 1) := by decide +kernel
theorem d_R_openLoop_173 : decode prog_6_method_18_code 173 = .ok (.dup, 1) := by decide +kernel
theorem d_R_openLoop_174 : decode prog_6_method_18_code 174 = .ok (.getfield (143), 3) := by decide +kernel
theorem d_R_openLoop_177 : decode prog_6_method_18_code 177 = .ok (.iconst 1, 1) := by decide +kernel
theorem d_R_openLoop_178 : decode prog_6_method_18_code 178 = .ok (.iadd, 1) := by decide +kernel
theorem d_R_openLoop_179 : decode prog_6_method_18_code 179 = .ok (.putfield (143), 3) := by decide +kernel
theorem d_R_openLoop_182 : decode prog_6_method_18_code 182 = .ok (.iconst 1, 1) := by decide +kernel
theorem d_R_openLoop_183 : decode prog_6_method_18_code 183 = .ok (.ireturn, 1) := by decide +kernel
theorem fd_R_22 : ax_fd "CipherNotation$Reader" 22 4 11 := ⟨nC4, nT4, 15, nY4, rfl, nW4, by decide, nw_1 45 (by decide +kernel) rfl, nO4, nA4⟩
def lp_R_openLoop_134 (F : Nat) (g : Nat) : Nat → Int32 → ax_σ → Option (ax_σ)
  | 0, _, _ => none
  | n + 1, x4, s =>
    if (6 : Int32) < x4 then
      some s
    else
      bif ax_in x4 8 then
      bif ax_in (((s.1 0 25 9) * (8 : Int32)) + x4) 16 then
      ax_let (ax_wI s 0 29 ((((s.1 0 25 9) * (8 : Int32)) + x4)).toNatClampNeg (s.1 g 1 (x4).toNatClampNeg)) (fun s30 =>
        lp_R_openLoop_134 F g n (x4 + (1 : Int32)) s30)
      else none
      else none
set_option maxHeartbeats 4000000 in
set_option maxRecDepth 100000 in
theorem pl_R_openLoop_134 {D : va_G} {cA : Nat → ClassId} {ad : Nat → Nat → Nat} {al : List (Nat × Nat)} {θ : ax_Θ} {l : Launch} {ρ : ax_ρ} {G : ax_G} {F g : Nat}  (h0 : ax_M0 al) (hg : ax_Mg al g) (hr : ax_rd ρ g) (hB : ax_B D cA ad al θ l "CipherNotation$Reader" prog_6_method_18_code 5 3 G) : ∀ (n : Nat) {x4 : Int32} {s : ax_σ} (out : ax_σ), lp_R_openLoop_134 F g n x4 s = some out → (∀ (es : ax_σ), out = es → ax_R G 5 0 0 (172, [(0, .inr (0, 25))], [], ax_m (es) ρ)) → ax_R G 5 0 0 (134, [(0, .inr (0, 25)), (4, .inl (.int (x4)))], [], ax_m (s) ρ) := by
  have hK := hB.K
  have hal := hB.la
  intro n
  induction n with
  | zero =>
    intro x4 s out h
    cases h
  | succ n ih =>
    intro x4 s out h KE
    rw [lp_R_openLoop_134] at h
    refine ax_bk hK (ax_fc (ax_v_ld (ax_r_iload d_R_openLoop_134)) (ax_fc (ax_v_pu (ax_r_bipush (v := 6) d_R_openLoop_136 (by decide))) ax_fn)) (y := (138, [(0, .inr (0, 25)), (4, .inl (.int (x4)))], [.inl (.int ((6 : Int32))), .inl (.int (x4))], ax_m (s) ρ)) rfl ⟨trivial, trivial, trivial⟩ ?_
    refine ax_ic_gt (tgt := 172) hK d_R_openLoop_138 (by decide) (fun c31 => ?_) (fun c31 => ?_)
    · replace h := ax_it c31 h
      cases h
      exact ax_Lsub [0] rfl (KE _ rfl)
    · replace h := ax_if c31 h
      obtain ⟨b28, h⟩ := ax_gd h
      obtain ⟨b29, h⟩ := ax_gd h
      refine ax_bk hK (ax_fc (ax_v_ld (ax_r_aload_n (i := 0) d_R_openLoop_141 rfl)) (ax_fc (ax_w_gf (e := none) hal d_R_openLoop_142 fd_R_22) (ax_fc (ax_v_ld (ax_r_aload_n (i := 0) d_R_openLoop_145 rfl)) (ax_fc (ax_w_gf (e := none) hal d_R_openLoop_146 fd_R_143) (ax_fc (ax_v_pu (ax_r_bipush (v := 8) d_R_openLoop_149 (by decide))) (ax_fc (ax_v_pu (ax_r_imul d_R_openLoop_151)) (ax_fc (ax_v_ld (ax_r_iload d_R_openLoop_152)) (ax_fc (ax_v_pu (ax_r_iadd d_R_openLoop_154)) (ax_fc (ax_v_ld (ax_r_aload_n (i := 0) d_R_openLoop_155 rfl)) (ax_fc (ax_w_gf (e := (some (g, 0))) hal d_R_openLoop_156 fd_R_35) (ax_fc (ax_w_gf (e := none) hal d_R_openLoop_159 fd_R_107) (ax_fc (ax_v_ld (ax_r_iload d_R_openLoop_162)) (ax_fc (ax_w_iald hal d_R_openLoop_164) (ax_fc (ax_w_iast hal d_R_openLoop_165) ax_fn)))))))))))))) (y := (166, [(0, .inr (0, 25)), (4, .inl (.int (x4)))], [], ax_m (ax_wI s 0 29 ((((s.1 0 25 9) * (8 : Int32)) + x4)).toNatClampNeg (s.1 g 1 (x4).toNatClampNeg)) ρ)) rfl ⟨trivial, (h0 25 rfl), trivial, (h0 25 rfl), trivial, trivial, trivial, trivial, trivial, ⟨(h0 25 rfl), hr.1⟩, (hg 0 rfl), trivial, ⟨(hg 1 rfl), ax_inp b28⟩, ⟨(h0 29 rfl), ax_inp b29⟩, trivial⟩ ?_
      refine ax_lt (Q := fun ςς => ax_R G 5 0 0 (166, [(0, .inr (0, 25)), (4, .inl (.int (x4)))], [], ax_m (ςς) ρ)) h (fun s30 h => ?_)
      refine ax_bk hK (ax_fc (ax_v_ii (d := 1) d_R_openLoop_166 (by decide)) (ax_fc (ax_v_go (tgt := 134) d_R_openLoop_169 (by decide)) ax_fn)) (y := (134, [(4, .inl (.int ((x4 + (1 : Int32))))), (0, .inr (0, 25))], [], ax_m (s30) ρ)) rfl ⟨trivial, trivial, trivial⟩ ?_
      exact ax_Lsub [1, 0] rfl (ih _ h KE)
set_option maxRecDepth 100000 in
theorem cw_R_166 : ax_cw "CipherNotation$Reader" 166 y_R_isOpen (.code y_R_isOpen prog_6_method_17_code 3 (some .boolean)) 1 := ⟨nw_2 207 (by decide +kernel) rfl, nw_1 2 (by decide +kernel) rfl, nw_2 210 rfl rfl, by decide +kernel, by decide +kernel⟩
theorem im_R_isOpen : Cond.instanceMethod y_R_isOpen ∈ ax_tbl := nw_2 209 (by decide +kernel) rfl
theorem se_R_isOpen : Cond.selects y_R_isOpen.cls y_R_isOpen y_R_isOpen ∈ ax_tbl := nw_sel 10 (by decide +kernel) (by decide +kernel)
theorem fd_R_45 : ax_fd "CipherNotation$Reader" 45 4 5 := ⟨nC4, nT4, 15, nY4, rfl, nW4, by decide, nw_1 39 (by decide +kernel) rfl, nO4, nA4⟩
theorem fd_R_169 : ax_fd "CipherNotation$Reader" 169 0 8 := ⟨nC0, nT0, 9, nY0, rfl, nW0, by decide, nw_1 154 (by decide +kernel) rfl, nO0, nA0⟩
set_option maxRecDepth 100000 in
theorem cw_R_172 : ax_cw "CipherNotation$Reader" 172 y_L_add (.code y_L_add prog_3_method_2_code 6 (some .int)) 4 := ⟨nw_2 211 (by decide +kernel) rfl, nw_1 6 (by decide +kernel) rfl, nw_2 214 rfl rfl, by decide +kernel, by decide +kernel⟩
theorem im_L_add : Cond.instanceMethod y_L_add ∈ ax_tbl := nw_2 212 (by decide +kernel) rfl
theorem se_L_add : Cond.selects y_L_add.cls y_L_add y_L_add ∈ ax_tbl := nw_2 213 (by decide +kernel) rfl
theorem fp_R_143 : ax_fp "CipherNotation$Reader" 143 4 9 (.int) := ⟨nC4, nT4, 15, nY4, rfl, nW4, by decide, nw_1 43 (by decide +kernel) rfl, nO4, nA4, by decide +kernel, by decide +kernel⟩
def f_R_openLoop (F : Nat) (g : Nat) (s : ax_σ) : Option (Int32 × ax_σ) :=
  if (s.1 0 25 9) = (2 : Int32) then
    some (((0 : Int32), s))
  else
    bif ax_in (s.1 0 25 3) 241 then
    Option.bind (f_R_isOpen F g ((s.1 0 26 ((s.1 0 25 3)).toNatClampNeg) - (105 : Int32)) s) (fun r2 =>
      Option.bind (
        if r2 = (0 : Int32) then
          some s
        else
          bif ax_in (s.1 0 25 3) 241 then
          Option.bind (f_R_note g (s.1 0 27 ((s.1 0 25 3)).toNatClampNeg) (4 : Int32) s) (fun s5 =>
            some s5)
          else none) (fun s8 =>
        ax_let (ax_wI s8 0 25 3 ((s8.1 0 25 3) + (1 : Int32))) (fun s9 =>
          bif ax_in (s9.1 0 25 3) 241 then
          Option.bind (f_R_takeNumber F g (17 : Int32) s9) (fun (r11, s12) =>
            if r11 = (-1 : Int32) then
              some (((0 : Int32), s12))
            else
              Option.bind (f_R_take g (91 : Int32) s12) (fun (r14, s15) =>
                if r14 = (0 : Int32) then
                  some (((0 : Int32), s15))
                else
                  Option.bind (
                    if (1 : Int32) ≤ r11 then
                      some s15
                    else
                      Option.bind (f_R_note g (s9.1 0 27 ((s9.1 0 25 3)).toNatClampNeg) (3 : Int32) s15) (fun s17 =>
                        some s17)) (fun s20 =>
                    Option.bind (f_Math_min r11 (16 : Int32)) (fun r21 =>
                      Option.bind (f_L_add g (91 : Int32) ((s.1 0 26 ((s.1 0 25 3)).toNatClampNeg) - (105 : Int32)) r21 (s20.1 g 4 8) s20) (fun (r23, s24) =>
                        bif ax_in (s20.1 0 25 9) 2 then
                        ax_let (ax_wI s24 0 28 ((s20.1 0 25 9)).toNatClampNeg r23) (fun s27 =>
                          Option.bind (lp_R_openLoop_134 F g F (4 : Int32) s27) (fun s32 =>
                            ax_let (ax_wI s32 0 25 9 ((s32.1 0 25 9) + (1 : Int32))) (fun s33 =>
                              some (((1 : Int32), s33)))))
                        else none)))))
          else none)))
    else none
set_option maxHeartbeats 4000000 in
set_option maxRecDepth 100000 in
theorem t_R_openLoop {l : Launch} {D : va_G} {cA : Nat → ClassId} {ad : Nat → Nat → Nat} {al : List (Nat × Nat)} {θ : ax_Θ} {ρ : ax_ρ} {F : Nat} {g : Nat} (h0 : ax_M0 al) (hg : ax_Mg al g) (hr : ax_rd ρ g)  {s : ax_σ} {r0 : Int32} {s0 : ax_σ} (h : f_R_openLoop F g s = some (r0, s0)) : ax_T l D cA ad al θ y_R_openLoop (.code y_R_openLoop prog_6_method_18_code 5 (some .boolean)) 3 [.inr (0, 25)] (ax_m s ρ) (some (.inl (.int r0))) (ax_m s0 ρ) := by
  refine ax_T_of (own := "CipherNotation$Reader") (by decide) rfl (Nat.le_of_ble_eq_true rfl) [(0, .inr (0, 25))] rfl ?_
  intro G hA
  have hB := hA.B
  have hK := hB.K
  have hal := hB.la
  unfold f_R_openLoop at h
  refine ax_bk hK (ax_fc (ax_v_ld (ax_r_aload_n (i := 0) d_R_openLoop_0 rfl)) (ax_fc (ax_w_gf (e := none) hal d_R_openLoop_1 fd_R_143) (ax_fc (ax_v_pu (ax_r_iconst (v := 2) d_R_openLoop_4 (by decide))) ax_fn))) (y := (5, [(0, .inr (0, 25))], [.inl (.int ((2 : Int32))), .inl (.int ((s.1 0 25 9)))], ax_m (s) ρ)) rfl ⟨trivial, (h0 25 rfl), trivial, trivial⟩ ?_
  refine ax_ic_ne (tgt := 10) hK d_R_openLoop_5 (by decide) (fun c36 => ?_) (fun c36 => ?_)
  · replace h := ax_if c36 h
    obtain ⟨b1, h⟩ := ax_gd h
    refine ax_bk hK (ax_fc (ax_v_ld (ax_r_aload_n (i := 0) d_R_openLoop_10 rfl)) (ax_fc (ax_w_gf (e := none) hal d_R_openLoop_11 fd_R_11) (ax_fc (ax_v_ld (ax_r_aload_n (i := 0) d_R_openLoop_14 rfl)) (ax_fc (ax_w_gf (e := none) hal d_R_openLoop_15 fd_R_72) (ax_fc (ax_w_cald hal d_R_openLoop_18) (ax_fc (ax_v_pu (ax_r_bipush (v := 105) d_R_openLoop_19 (by decide))) (ax_fc (ax_v_pu (ax_r_isub d_R_openLoop_21)) (ax_fc (ax_v_so (ax_r_istore_n (i := 1) d_R_openLoop_22 rfl)) (ax_fc (ax_v_ld (ax_r_aload_n (i := 0) d_R_openLoop_23 rfl)) (ax_fc (ax_v_ld (ax_r_iload_n (i := 1) d_R_openLoop_24 rfl)) ax_fn)))))))))) (y := (25, [(1, .inl (.int (((s.1 0 26 ((s.1 0 25 3)).toNatClampNeg) - (105 : Int32))))), (0, .inr (0, 25))], [.inl (.int (((s.1 0 26 ((s.1 0 25 3)).toNatClampNeg) - (105 : Int32)))), .inr (0, 25)], ax_m (s) ρ)) rfl ⟨trivial, (h0 25 rfl), trivial, (h0 25 rfl), ⟨(h0 26 rfl), ax_inp b1⟩, trivial, trivial, trivial, trivial, trivial, trivial⟩ ?_
    obtain ⟨r2, q3, h⟩ := ax_bd h
    refine ax_bV (rest := []) hB (t_R_isOpen h0 hg hr q3) cw_R_166 im_R_isOpen se_R_isOpen d_R_openLoop_25 (h0 25 rfl) rfl rfl (by decide) (by decide) rfl rfl (Nat.le_of_ble_eq_true rfl) ?_
    change ax_R G 5 0 0 (28, [(1, .inl (.int (((s.1 0 26 ((s.1 0 25 3)).toNatClampNeg) - (105 : Int32))))), (0, .inr (0, 25))], [.inl (.int (r2))], ax_m (s) ρ)
    obtain ⟨w37, hw37, h⟩ := ax_bd h
    have KEw37 : ∀ (s8 : ax_σ), w37 = s8 → ax_R G 5 0 0 (45, [(0, .inr (0, 25)), (1, .inl (.int (((s.1 0 26 ((s.1 0 25 3)).toNatClampNeg) - (105 : Int32)))))], [], ax_m (s8) ρ) := by
      intro s8 e9
      subst w37
      try dsimp only at h
      refine ax_bk hK (ax_fc (ax_v_ld (ax_r_aload_n (i := 0) d_R_openLoop_45 rfl)) (ax_fc (ax_v_pu (ax_r_dup d_R_openLoop_46)) (ax_fc (ax_w_gf (e := none) hal d_R_openLoop_47 fd_R_72) (ax_fc (ax_v_pu (ax_r_iconst (v := 1) d_R_openLoop_50 (by decide))) (ax_fc (ax_v_pu (ax_r_iadd d_R_openLoop_51)) (ax_fc (ax_w_pf (tc := 0) hal d_R_openLoop_52 fp_R_72 rfl) ax_fn)))))) (y := (55, [(0, .inr (0, 25)), (1, .inl (.int (((s.1 0 26 ((s.1 0 25 3)).toNatClampNeg) - (105 : Int32)))))], [], ax_m (ax_wI s8 0 25 3 ((s8.1 0 25 3) + (1 : Int32))) ρ)) rfl ⟨trivial, trivial, (h0 25 rfl), trivial, trivial, (h0 25 rfl), trivial⟩ ?_
      refine ax_lt (Q := fun ςς => ax_R G 5 0 0 (55, [(0, .inr (0, 25)), (1, .inl (.int (((s.1 0 26 ((s.1 0 25 3)).toNatClampNeg) - (105 : Int32)))))], [], ax_m (ςς) ρ)) h (fun s9 h => ?_)
      obtain ⟨b10, h⟩ := ax_gd h
      refine ax_bk hK (ax_fc (ax_v_ld (ax_r_aload_n (i := 0) d_R_openLoop_55 rfl)) (ax_fc (ax_w_gf (e := none) hal d_R_openLoop_56 fd_R_15) (ax_fc (ax_v_ld (ax_r_aload_n (i := 0) d_R_openLoop_59 rfl)) (ax_fc (ax_w_gf (e := none) hal d_R_openLoop_60 fd_R_72) (ax_fc (ax_w_iald hal d_R_openLoop_63) (ax_fc (ax_v_so (ax_r_istore_n (i := 2) d_R_openLoop_64 rfl)) (ax_fc (ax_v_ld (ax_r_aload_n (i := 0) d_R_openLoop_65 rfl)) (ax_fc (ax_v_pu (ax_r_bipush (v := 17) d_R_openLoop_66 (by decide))) ax_fn)))))))) (y := (68, [(2, .inl (.int ((s9.1 0 27 ((s9.1 0 25 3)).toNatClampNeg)))), (0, .inr (0, 25)), (1, .inl (.int (((s.1 0 26 ((s.1 0 25 3)).toNatClampNeg) - (105 : Int32)))))], [.inl (.int ((17 : Int32))), .inr (0, 25)], ax_m (s9) ρ)) rfl ⟨trivial, (h0 25 rfl), trivial, (h0 25 rfl), ⟨(h0 27 rfl), ax_inp b10⟩, trivial, trivial, trivial, trivial⟩ ?_
      obtain ⟨⟨r11, s12⟩, q13, h⟩ := ax_bd h
      dsimp only at h
      refine ax_bV (rest := []) hB (t_R_takeNumber h0 hg hr q13) cw_R_111 im_R_takeNumber se_R_takeNumber d_R_openLoop_68 (h0 25 rfl) rfl rfl (by decide) (by decide) rfl rfl (Nat.le_of_ble_eq_true rfl) ?_
      change ax_R G 5 0 0 (71, [(2, .inl (.int ((s9.1 0 27 ((s9.1 0 25 3)).toNatClampNeg)))), (0, .inr (0, 25)), (1, .inl (.int (((s.1 0 26 ((s.1 0 25 3)).toNatClampNeg) - (105 : Int32)))))], [.inl (.int (r11))], ax_m (s12) ρ)
      refine ax_bk hK (ax_fc (ax_v_so (ax_r_istore_n (i := 3) d_R_openLoop_71 rfl)) (ax_fc (ax_v_ld (ax_r_iload_n (i := 3) d_R_openLoop_72 rfl)) (ax_fc (ax_v_pu (ax_r_iconst (v := -1) d_R_openLoop_73 (by decide))) ax_fn))) (y := (74, [(3, .inl (.int (r11))), (2, .inl (.int ((s9.1 0 27 ((s9.1 0 25 3)).toNatClampNeg)))), (0, .inr (0, 25)), (1, .inl (.int (((s.1 0 26 ((s.1 0 25 3)).toNatClampNeg) - (105 : Int32)))))], [.inl (.int ((-1 : Int32))), .inl (.int (r11))], ax_m (s12) ρ)) rfl ⟨trivial, trivial, trivial, trivial⟩ ?_
      refine ax_ic_eq (tgt := 86) hK d_R_openLoop_74 (by decide) (fun c35 => ?_) (fun c35 => ?_)
      · replace h := ax_it c35 h
        refine ax_bk hK (ax_fc (ax_v_pu (ax_r_iconst (v := 0) d_R_openLoop_86 (by decide))) ax_fn) (y := (87, [(3, .inl (.int (r11))), (2, .inl (.int ((s9.1 0 27 ((s9.1 0 25 3)).toNatClampNeg)))), (0, .inr (0, 25)), (1, .inl (.int (((s.1 0 26 ((s.1 0 25 3)).toNatClampNeg) - (105 : Int32)))))], [.inl (.int ((0 : Int32)))], ax_m (s12) ρ)) rfl ⟨trivial, trivial⟩ ?_
        cases h
        exact ax_zret hA (by decide) d_R_openLoop_87
      · replace h := ax_if c35 h
        refine ax_bk hK (ax_fc (ax_v_ld (ax_r_aload_n (i := 0) d_R_openLoop_77 rfl)) (ax_fc (ax_v_pu (ax_r_bipush (v := 91) d_R_openLoop_78 (by decide))) ax_fn)) (y := (80, [(3, .inl (.int (r11))), (2, .inl (.int ((s9.1 0 27 ((s9.1 0 25 3)).toNatClampNeg)))), (0, .inr (0, 25)), (1, .inl (.int (((s.1 0 26 ((s.1 0 25 3)).toNatClampNeg) - (105 : Int32)))))], [.inl (.int ((91 : Int32))), .inr (0, 25)], ax_m (s12) ρ)) rfl ⟨trivial, trivial, trivial⟩ ?_
        obtain ⟨⟨r14, s15⟩, q16, h⟩ := ax_bd h
        dsimp only at h
        refine ax_bV (rest := []) hB (t_R_take h0 hg hr q16) cw_R_115 im_R_take se_R_take d_R_openLoop_80 (h0 25 rfl) rfl rfl (by decide) (by decide) rfl rfl (Nat.le_of_ble_eq_true rfl) ?_
        change ax_R G 5 0 0 (83, [(3, .inl (.int (r11))), (2, .inl (.int ((s9.1 0 27 ((s9.1 0 25 3)).toNatClampNeg)))), (0, .inr (0, 25)), (1, .inl (.int (((s.1 0 26 ((s.1 0 25 3)).toNatClampNeg) - (105 : Int32)))))], [.inl (.int (r14))], ax_m (s15) ρ)
        refine ax_if_ne (tgt := 88) hK d_R_openLoop_83 (by decide) (fun c34 => ?_) (fun c34 => ?_)
        · replace h := ax_if c34 h
          refine ax_bk hK (ax_fc (ax_v_ld (ax_r_iload_n (i := 3) d_R_openLoop_88 rfl)) (ax_fc (ax_v_pu (ax_r_iconst (v := 1) d_R_openLoop_89 (by decide))) ax_fn)) (y := (90, [(3, .inl (.int (r11))), (2, .inl (.int ((s9.1 0 27 ((s9.1 0 25 3)).toNatClampNeg)))), (0, .inr (0, 25)), (1, .inl (.int (((s.1 0 26 ((s.1 0 25 3)).toNatClampNeg) - (105 : Int32)))))], [.inl (.int ((1 : Int32))), .inl (.int (r11))], ax_m (s15) ρ)) rfl ⟨trivial, trivial, trivial⟩ ?_
          obtain ⟨w38, hw38, h⟩ := ax_bd h
          have KEw38 : ∀ (s20 : ax_σ), w38 = s20 → ax_R G 5 0 0 (99, [(0, .inr (0, 25)), (1, .inl (.int (((s.1 0 26 ((s.1 0 25 3)).toNatClampNeg) - (105 : Int32))))), (3, .inl (.int (r11)))], [], ax_m (s20) ρ) := by
            intro s20 e9
            subst w38
            try dsimp only at h
            refine ax_bk hK (ax_fc (ax_v_ld (ax_r_aload_n (i := 0) d_R_openLoop_99 rfl)) (ax_fc (ax_w_gf (e := none) hal d_R_openLoop_100 fd_R_19) (ax_fc (ax_v_ld (ax_r_aload_n (i := 0) d_R_openLoop_103 rfl)) (ax_fc (ax_w_gf (e := none) hal d_R_openLoop_104 fd_R_143) (ax_fc (ax_v_ld (ax_r_aload_n (i := 0) d_R_openLoop_107 rfl)) (ax_fc (ax_w_gf (e := (some (g, 13))) hal d_R_openLoop_108 fd_R_50) (ax_fc (ax_v_pu (ax_r_bipush (v := 91) d_R_openLoop_111 (by decide))) (ax_fc (ax_v_ld (ax_r_iload_n (i := 1) d_R_openLoop_113 rfl)) (ax_fc (ax_v_ld (ax_r_iload_n (i := 3) d_R_openLoop_114 rfl)) (ax_fc (ax_v_pu (ax_r_bipush (v := 16) d_R_openLoop_115 (by decide))) ax_fn)))))))))) (y := (117, [(0, .inr (0, 25)), (1, .inl (.int (((s.1 0 26 ((s.1 0 25 3)).toNatClampNeg) - (105 : Int32))))), (3, .inl (.int (r11)))], [.inl (.int ((16 : Int32))), .inl (.int (r11)), .inl (.int (((s.1 0 26 ((s.1 0 25 3)).toNatClampNeg) - (105 : Int32)))), .inl (.int ((91 : Int32))), .inr (g, 13), .inl (.int ((s20.1 0 25 9))), .inr (0, 28)], ax_m (s20) ρ)) rfl ⟨trivial, (h0 25 rfl), trivial, (h0 25 rfl), trivial, ⟨(h0 25 rfl), hr.2.2⟩, trivial, trivial, trivial, trivial, trivial⟩ ?_
            obtain ⟨r21, q22, h⟩ := ax_bd h
            refine ax_bS (rest := [.inl (.int (((s.1 0 26 ((s.1 0 25 3)).toNatClampNeg) - (105 : Int32)))), .inl (.int ((91 : Int32))), .inr (g, 13), .inl (.int ((s20.1 0 25 9))), .inr (0, 28)]) hB (t_Math_min q22) cw_R_90 sm_Math_min d_R_openLoop_117 (by decide) (by decide) rfl rfl (Nat.le_of_ble_eq_true rfl) ?_
            change ax_R G 5 0 0 (120, [(0, .inr (0, 25)), (1, .inl (.int (((s.1 0 26 ((s.1 0 25 3)).toNatClampNeg) - (105 : Int32))))), (3, .inl (.int (r11)))], [.inl (.int (r21)), .inl (.int (((s.1 0 26 ((s.1 0 25 3)).toNatClampNeg) - (105 : Int32)))), .inl (.int ((91 : Int32))), .inr (g, 13), .inl (.int ((s20.1 0 25 9))), .inr (0, 28)], ax_m (s20) ρ)
            refine ax_bk hK (ax_fc (ax_v_ld (ax_r_aload_n (i := 0) d_R_openLoop_120 rfl)) (ax_fc (ax_w_gf (e := (some (g, 4))) hal d_R_openLoop_121 fd_R_45) (ax_fc (ax_w_gf (e := none) hal d_R_openLoop_124 fd_R_169) ax_fn))) (y := (127, [(0, .inr (0, 25)), (1, .inl (.int (((s.1 0 26 ((s.1 0 25 3)).toNatClampNeg) - (105 : Int32))))), (3, .inl (.int (r11)))], [.inl (.int ((s20.1 g 4 8))), .inl (.int (r21)), .inl (.int (((s.1 0 26 ((s.1 0 25 3)).toNatClampNeg) - (105 : Int32)))), .inl (.int ((91 : Int32))), .inr (g, 13), .inl (.int ((s20.1 0 25 9))), .inr (0, 28)], ax_m (s20) ρ)) rfl ⟨trivial, ⟨(h0 25 rfl), hr.2.1⟩, (hg 4 rfl), trivial⟩ ?_
            obtain ⟨⟨r23, s24⟩, q25, h⟩ := ax_bd h
            dsimp only at h
            refine ax_bV (rest := [.inl (.int ((s20.1 0 25 9))), .inr (0, 28)]) hB (t_L_add hg q25) cw_R_172 im_L_add se_L_add d_R_openLoop_127 (hg 13 rfl) rfl rfl (by decide) (by decide) rfl rfl (Nat.le_of_ble_eq_true rfl) ?_
            change ax_R G 5 0 0 (130, [(0, .inr (0, 25)), (1, .inl (.int (((s.1 0 26 ((s.1 0 25 3)).toNatClampNeg) - (105 : Int32))))), (3, .inl (.int (r11)))], [.inl (.int (r23)), .inl (.int ((s20.1 0 25 9))), .inr (0, 28)], ax_m (s24) ρ)
            obtain ⟨b26, h⟩ := ax_gd h
            refine ax_bk hK (ax_fc (ax_w_iast hal d_R_openLoop_130) ax_fn) (y := (131, [(0, .inr (0, 25)), (1, .inl (.int (((s.1 0 26 ((s.1 0 25 3)).toNatClampNeg) - (105 : Int32))))), (3, .inl (.int (r11)))], [], ax_m (ax_wI s24 0 28 ((s20.1 0 25 9)).toNatClampNeg r23) ρ)) rfl ⟨⟨(h0 28 rfl), ax_inp b26⟩, trivial⟩ ?_
            refine ax_lt (Q := fun ςς => ax_R G 5 0 0 (131, [(0, .inr (0, 25)), (1, .inl (.int (((s.1 0 26 ((s.1 0 25 3)).toNatClampNeg) - (105 : Int32))))), (3, .inl (.int (r11)))], [], ax_m (ςς) ρ)) h (fun s27 h => ?_)
            refine ax_bk hK (ax_fc (ax_v_pu (ax_r_iconst (v := 4) d_R_openLoop_131 (by decide))) (ax_fc (ax_v_so (ax_r_istore d_R_openLoop_132)) ax_fn)) (y := (134, [(4, .inl (.int ((4 : Int32)))), (0, .inr (0, 25)), (1, .inl (.int (((s.1 0 26 ((s.1 0 25 3)).toNatClampNeg) - (105 : Int32))))), (3, .inl (.int (r11)))], [], ax_m (s27) ρ)) rfl ⟨trivial, trivial, trivial⟩ ?_
            obtain ⟨w39, hw39, h⟩ := ax_bd h
            refine ax_Lsub [1, 0] rfl (pl_R_openLoop_134 h0 hg hr hB F _ hw39 ?_)
            intro s32 e9
            subst w39
            try dsimp only at h
            change ax_R G 5 0 0 (172, [(0, .inr (0, 25))], [], ax_m (s32) ρ)
            refine ax_bk hK (ax_fc (ax_v_ld (ax_r_aload_n (i := 0) d_R_openLoop_172 rfl)) (ax_fc (ax_v_pu (ax_r_dup d_R_openLoop_173)) (ax_fc (ax_w_gf (e := none) hal d_R_openLoop_174 fd_R_143) (ax_fc (ax_v_pu (ax_r_iconst (v := 1) d_R_openLoop_177 (by decide))) (ax_fc (ax_v_pu (ax_r_iadd d_R_openLoop_178)) (ax_fc (ax_w_pf (tc := 0) hal d_R_openLoop_179 fp_R_143 rfl) ax_fn)))))) (y := (182, [(0, .inr (0, 25))], [], ax_m (ax_wI s32 0 25 9 ((s32.1 0 25 9) + (1 : Int32))) ρ)) rfl ⟨trivial, trivial, (h0 25 rfl), trivial, trivial, (h0 25 rfl), trivial⟩ ?_
            refine ax_lt (Q := fun ςς => ax_R G 5 0 0 (182, [(0, .inr (0, 25))], [], ax_m (ςς) ρ)) h (fun s33 h => ?_)
            refine ax_bk hK (ax_fc (ax_v_pu (ax_r_iconst (v := 1) d_R_openLoop_182 (by decide))) ax_fn) (y := (183, [(0, .inr (0, 25))], [.inl (.int ((1 : Int32)))], ax_m (s33) ρ)) rfl ⟨trivial, trivial⟩ ?_
            cases h
            exact ax_zret hA (by decide) d_R_openLoop_183
          clear h
          have h := hw38
          refine ax_ic_ge (tgt := 99) hK d_R_openLoop_90 (by decide) (fun c19 => ?_) (fun c19 => ?_)
          · replace h := ax_it c19 h
            cases h
            exact ax_Lsub [2, 3, 0] rfl (KEw38 _ rfl)
          · replace h := ax_if c19 h
            refine ax_bk hK (ax_fc (ax_v_ld (ax_r_aload_n (i := 0) d_R_openLoop_93 rfl)) (ax_fc (ax_v_ld (ax_r_iload_n (i := 2) d_R_openLoop_94 rfl)) (ax_fc (ax_v_pu (ax_r_iconst (v := 3) d_R_openLoop_95 (by decide))) ax_fn))) (y := (96, [(3, .inl (.int (r11))), (2, .inl (.int ((s9.1 0 27 ((s9.1 0 25 3)).toNatClampNeg)))), (0, .inr (0, 25)), (1, .inl (.int (((s.1 0 26 ((s.1 0 25 3)).toNatClampNeg) - (105 : Int32)))))], [.inl (.int ((3 : Int32))), .inl (.int ((s9.1 0 27 ((s9.1 0 25 3)).toNatClampNeg))), .inr (0, 25)], ax_m (s15) ρ)) rfl ⟨trivial, trivial, trivial, trivial⟩ ?_
            obtain ⟨s17, q18, h⟩ := ax_bd h
            refine ax_bV (rest := []) hB (t_R_note h0 hg hr q18) cw_R_100 im_R_note se_R_note d_R_openLoop_96 (h0 25 rfl) rfl rfl (by decide) (by decide) rfl rfl (Nat.le_of_ble_eq_true rfl) ?_
            change ax_R G 5 0 0 (99, [(3, .inl (.int (r11))), (2, .inl (.int ((s9.1 0 27 ((s9.1 0 25 3)).toNatClampNeg)))), (0, .inr (0, 25)), (1, .inl (.int (((s.1 0 26 ((s.1 0 25 3)).toNatClampNeg) - (105 : Int32)))))], [], ax_m (s17) ρ)
            cases h
            exact ax_Lsub [2, 3, 0] rfl (KEw38 _ rfl)
        · replace h := ax_it c34 h
          refine ax_bk hK (ax_fc (ax_v_pu (ax_r_iconst (v := 0) d_R_openLoop_86 (by decide))) ax_fn) (y := (87, [(3, .inl (.int (r11))), (2, .inl (.int ((s9.1 0 27 ((s9.1 0 25 3)).toNatClampNeg)))), (0, .inr (0, 25)), (1, .inl (.int (((s.1 0 26 ((s.1 0 25 3)).toNatClampNeg) - (105 : Int32)))))], [.inl (.int ((0 : Int32)))], ax_m (s15) ρ)) rfl ⟨trivial, trivial⟩ ?_
          cases h
          exact ax_zret hA (by decide) d_R_openLoop_87
    clear h
    have h := hw37
    refine ax_if_eq (tgt := 45) hK d_R_openLoop_28 (by decide) (fun c7 => ?_) (fun c7 => ?_)
    · replace h := ax_it c7 h
      cases h
      exact ax_Lsub [1, 0] rfl (KEw37 _ rfl)
    · replace h := ax_if c7 h
      obtain ⟨b4, h⟩ := ax_gd h
      refine ax_bk hK (ax_fc (ax_v_ld (ax_r_aload_n (i := 0) d_R_openLoop_31 rfl)) (ax_fc (ax_v_ld (ax_r_aload_n (i := 0) d_R_openLoop_32 rfl)) (ax_fc (ax_w_gf (e := none) hal d_R_openLoop_33 fd_R_15) (ax_fc (ax_v_ld (ax_r_aload_n (i := 0) d_R_openLoop_36 rfl)) (ax_fc (ax_w_gf (e := none) hal d_R_openLoop_37 fd_R_72) (ax_fc (ax_w_iald hal d_R_openLoop_40) (ax_fc (ax_v_pu (ax_r_iconst (v := 4) d_R_openLoop_41 (by decide))) ax_fn))))))) (y := (42, [(1, .inl (.int (((s.1 0 26 ((s.1 0 25 3)).toNatClampNeg) - (105 : Int32))))), (0, .inr (0, 25))], [.inl (.int ((4 : Int32))), .inl (.int ((s.1 0 27 ((s.1 0 25 3)).toNatClampNeg))), .inr (0, 25)], ax_m (s) ρ)) rfl ⟨trivial, trivial, (h0 25 rfl), trivial, (h0 25 rfl), ⟨(h0 27 rfl), ax_inp b4⟩, trivial, trivial⟩ ?_
      obtain ⟨s5, q6, h⟩ := ax_bd h
      refine ax_bV (rest := []) hB (t_R_note h0 hg hr q6) cw_R_100 im_R_note se_R_note d_R_openLoop_42 (h0 25 rfl) rfl rfl (by decide) (by decide) rfl rfl (Nat.le_of_ble_eq_true rfl) ?_
      change ax_R G 5 0 0 (45, [(1, .inl (.int (((s.1 0 26 ((s.1 0 25 3)).toNatClampNeg) - (105 : Int32))))), (0, .inr (0, 25))], [], ax_m (s5) ρ)
      cases h
      exact ax_Lsub [1, 0] rfl (KEw37 _ rfl)
  · replace h := ax_it c36 h
    refine ax_bk hK (ax_fc (ax_v_pu (ax_r_iconst (v := 0) d_R_openLoop_8 (by decide))) ax_fn) (y := (9, [(0, .inr (0, 25))], [.inl (.int ((0 : Int32)))], ax_m (s) ρ)) rfl ⟨trivial, trivial⟩ ?_
    cases h
    exact ax_zret hA (by decide) d_R_openLoop_9
def y_R_closeLoop : MethodName := ⟨"CipherNotation$Reader", "closeLoop", "()Z"⟩
theorem d_R_closeLoop_0 : decode prog_6_method_19_code 0 = .ok (.aload_n 0, 1) := by decide +kernel
theorem d_R_closeLoop_1 : decode prog_6_method_19_code 1 = .ok (.getfield (143), 3) := by decide +kernel
theorem d_R_closeLoop_4 : decode prog_6_method_19_code 4 = .ok (.ifCond .ne (5), 3) := by decide +kernel
theorem d_R_closeLoop_7 : decode prog_6_method_19_code 7 = .ok (.iconst 0, 1) := by decide +kernel
theorem d_R_closeLoop_8 : decode prog_6_method_19_code 8 = .ok (.ireturn, 1) := by decide +kernel
theorem d_R_closeLoop_9 : decode prog_6_method_19_code 9 = .ok (.aload_n 0, 1) := by decide +kernel
theorem d_R_closeLoop_10 : decode prog_6_method_19_code 10 = .ok (.dup, 1) := by decide +kernel
theorem d_R_closeLoop_11 : decode prog_6_method_19_code 11 = .ok (.getfield (72), 3) := by decide +kernel
theorem d_R_closeLoop_14 : decode prog_6_method_19_code 14 = .ok (.iconst 1, 1) := by decide +kernel
theorem d_R_closeLoop_15 : decode prog_6_method_19_code 15 = .ok (.iadd, 1) := by decide +kernel
theorem d_R_closeLoop_16 : decode prog_6_method_19_code 16 = .ok (.putfield (72), 3) := by decide +kernel
theorem d_R_closeLoop_19 : decode prog_6_method_19_code 19 = .ok (.aload_n 0, 1) := by decide +kernel
theorem d_R_closeLoop_20 : decode prog_6_method_19_code 20 = .ok (.dup, 1) := by decide +kernel
theorem d_R_closeLoop_21 : decode prog_6_method_19_code 21 = .ok (.getfield (143), 3) := by decide +kernel
theorem d_R_closeLoop_24 : decode prog_6_method_19_code 24 = .ok (.iconst 1, 1) := by decide +kernel
theorem d_R_closeLoop_25 : decode prog_6_method_19_code 25 = .ok (.isub, 1) := by decide +kernel
theorem d_R_closeLoop_26 : decode prog_6_method_19_code 26 = .ok (.putfield (143), 3) := by decide +kernel
theorem d_R_closeLoop_29 : decode prog_6_method_19_code 29 = .ok (.aload_n 0, 1) := by decide +kernel
theorem d_R_closeLoop_30 : decode prog_6_method_19_code 30 = .ok (.getfield (19), 3) := by decide +kernel
theorem d_R_closeLoop_33 : decode prog_6_method_19_code 33 = .ok (.aload_n 0, 1) := by decide +kernel
theorem d_R_closeLoop_34 : decode prog_6_method_19_code 34 = .ok (.getfield (143), 3) := by decide +kernel
theorem d_R_closeLoop_37 : decode prog_6_method_19_code 37 = .ok (.iaload, 1) := by decide +kernel
theorem d_R_closeLoop_38 : decode prog_6_method_19_code 38 = .ok (.istore_n 1, 1) := by decide +kernel
theorem d_R_closeLoop_39 : decode prog_6_method_19_code 39 = .ok (.iload_n 1, 1) := by decide +kernel
theorem d_R_closeLoop_40 : decode prog_6_method_19_code 40 = .ok (.aload_n 0, 1) := by decide +kernel
theorem d_R_closeLoop_41 : decode prog_6_method_19_code 41 = .ok (.getfield (50), 3) := by decide +kernel
theorem d_R_closeLoop_44 : decode prog_6_method_19_code 44 = .ok (.getfield (176), 3) := by decide +kernel
theorem d_R_closeLoop_47 : decode prog_6_method_19_code 47 = .ok (.iconst 1, 1) := by decide +kernel
theorem d_R_closeLoop_48 : decode prog_6_method_19_code 48 = .ok (.isub, 1) := by decide +kernel
theorem d_R_closeLoop_49 : decode prog_6_method_19_code 49 = .ok (.if_icmp .ne (13), 3) := by decide +kernel
theorem d_R_closeLoop_52 : decode prog_6_method_19_code 52 = .ok (.aload_n 0, 1) := by decide +kernel
theorem d_R_closeLoop_53 : decode prog_6_method_19_code 53 = .ok (.getfield (50), 3) := by decide +kernel
theorem d_R_closeLoop_56 : decode prog_6_method_19_code 56 = .ok (.iload_n 1, 1) := by decide +kernel
theorem d_R_closeLoop_57 : decode prog_6_method_19_code 57 = .ok (.putfield (176), 3) := by decide +kernel
theorem d_R_closeLoop_60 : decode prog_6_method_19_code 60 = .ok (.iconst 1, 1) := by decide +kernel
theorem d_R_closeLoop_61 : decode prog_6_method_19_code 61 = .ok (.ireturn, 1) := by decide +kernel
theorem d_R_closeLoop_62 : decode prog_6_method_19_code 62 = .ok (.aload_n 0, 1) := by decide +kernel
theorem d_R_closeLoop_63 : decode prog_6_method_19_code 63 = .ok (.getfield (50), 3) := by decide +kernel
theorem d_R_closeLoop_66 : decode prog_6_method_19_code 66 = .ok (.getfield (177), 3) := by decide +kernel
theorem d_R_closeLoop_69 : decode prog_6_method_19_code 69 = .ok (.iload_n 1, 1) := by decide +kernel
theorem d_R_closeLoop_70 : decode prog_6_method_19_code 70 = .ok (.aload_n 0, 1) := by decide +kernel
theorem d_R_closeLoop_71 : decode prog_6_method_19_code 71 = .ok (.getfield (35), 3) := by decide +kernel
theorem d_R_closeLoop_74 : decode prog_6_method_19_code 74 = .ok (.getfield (107), 3) := by decide +kernel
theorem d_R_closeLoop_77 : decode prog_6_method_19_code 77 = .ok (.iconst 4, 1) := by decide +kernel
theorem d_R_closeLoop_78 : decode prog_6_method_19_code 78 = .ok (.iaload, 1) := by decide +kernel
theorem d_R_closeLoop_79 : decode prog_6_method_19_code 79 = .ok (.aload_n 0, 1) := by decide +kernel
theorem d_R_closeLoop_80 : decode prog_6_method_19_code 80 = .ok (.getfield (22), 3) := by decide +kernel
theorem d_R_closeLoop_83 : decode prog_6_method_19_code 83 = .ok (.aload_n 0, 1) := by decide +kernel
theorem d_R_closeLoop_84 : decode prog_6_method_19_code 84 = .ok (.getfield (143), 3) := by decide +kernel
theorem d_R_closeLoop_87 : decode prog_6_method_19_code 87 = .ok (.bipush (8), 2) := by decide +kernel
theorem d_R_closeLoop_89 : decode prog_6_method_19_code 89 = .ok (.imul, 1) := by decide +kernel
theorem d_R_closeLoop_90 : decode prog_6_method_19_code 90 = .ok (.iconst 4, 1) := by decide +kernel
theorem d_R_closeLoop_91 : decode prog_6_method_19_code 91 = .ok (.iadd, 1) := by decide +kernel
theorem d_R_closeLoop_92 : decode prog_6_method_19_code 92 = .ok (.iaload, 1) := by decide +kernel
theorem d_R_closeLoop_93 : decode prog_6_method_19_code 93 = .ok (.isub, 1) := by decide +kernel
theorem d_R_closeLoop_94 : decode prog_6_method_19_code 94 = .ok (.iastore, 1) := by decide +kernel
theorem d_R_closeLoop_95 : decode prog_6_method_19_code 95 = .ok (.iconst 4, 1) := by decide +kernel
theorem d_R_closeLoop_96 : decode prog_6_method_19_code 96 = .ok (.istore_n 2, 1) := by decide +kernel
theorem d_R_closeLoop_97 : decode prog_6_method_19_code 97 = .ok (.iload_n 2, 1) := by decide +kernel
theorem d_R_closeLoop_98 : decode prog_6_method_19_code 98 = .ok (.bipush (6), 2) := by decide +kernel
theorem d_R_closeLoop_100 : decode prog_6_method_19_code 100 = .ok (.if_icmp .gt (59), 3) := by decide +kernel
theorem d_R_closeLoop_103 : decode prog_6_method_19_code 103 = .ok (.aload_n 0, 1) := by decide +kernel
theorem d_R_closeLoop_104 : decode prog_6_method_19_code 104 = .ok (.getfield (35), 3) := by decide +kernel
theorem d_R_closeLoop_107 : decode prog_6_method_19_code 107 = .ok (.getfield (107), 3) := by decide +kernel
theorem d_R_closeLoop_110 : decode prog_6_method_19_code 110 = .ok (.iload_n 2, 1) := by decide +kernel
theorem d_R_closeLoop_111 : decode prog_6_method_19_code 111 = .ok (.iaload, 1) := by decide +kernel
theorem d_R_closeLoop_112 : decode prog_6_method_19_code 112 = .ok (.aload_n 0, 1) := by decide +kernel
theorem d_R_closeLoop_113 : decode prog_6_method_19_code 113 = .ok (.getfield (22), 3) := by decide +kernel
theorem d_R_closeLoop_116 : decode prog_6_method_19_code 116 = .ok (.aload_n 0, 1) := by decide +kernel
theorem d_R_closeLoop_117 : decode prog_6_method_19_code 117 = .ok (.getfield (143), 3) := by decide +kernel
theorem d_R_closeLoop_120 : decode prog_6_method_19_code 120 = .ok (.bipush (8), 2) := by decide +kernel
theorem d_R_closeLoop_122 : decode prog_6_method_19_code 122 = .ok (.imul, 1) := by decide +kernel
theorem d_R_closeLoop_123 : decode prog_6_method_19_code 123 = .ok (.iload_n 2, 1) := by decide +kernel
theorem d_R_closeLoop_124 : decode prog_6_method_19_code 124 = .ok (.iadd, 1) := by decide +kernel
theorem d_R_closeLoop_125 : decode prog_6_method_19_code 125 = .ok (.iaload, 1) := by decide +kernel
theorem d_R_closeLoop_126 : decode prog_6_method_19_code 126 = .ok (.isub, 1) := by decide +kernel
theorem d_R_closeLoop_127 : decode prog_6_method_19_code 127 = .ok (.istore_n 3, 1) := by decide +kernel
theorem d_R_closeLoop_128 : decode prog_6_method_19_code 128 = .ok (.aload_n 0, 1) := by decide +kernel
theorem d_R_closeLoop_129 : decode prog_6_method_19_code 129 = .ok (.getfield (35), 3) := by decide +kernel
theorem d_R_closeLoop_132 : decode prog_6_method_19_code 132 = .ok (.getfield (107), 3) := by decide +kernel
theorem d_R_closeLoop_135 : decode prog_6_method_19_code 135 = .ok (.iload_n 2, 1) := by decide +kernel
theorem d_R_closeLoop_136 : decode prog_6_method_19_code 136 = .ok (.dup2, 1) := by decide +kernel
theorem d_R_closeLoop_137 : decode prog_6_method_19_code 137 = .ok (.iaload, 1) := by decide +kernel
theorem d_R_closeLoop_138 : decode prog_6_method_19_code 138 = .ok (.iload_n 3, 1) := by decide +kernel
theorem d_R_closeLoop_139 : decode prog_6_method_19_code 139 = .ok (.aload_n 0, 1) := by decide +kernel
theorem d_R_closeLoop_140 : decode prog_6_method_19_code 140 = .ok (.getfield (50), 3) := by decide +kernel
theorem d_R_closeLoop_143 : decode prog_6_method_19_code 143 = .ok (.getfield (180), 3) := by decide +kernel
theorem d_R_closeLoop_146 : decode prog_6_method_19_code 146 = .ok (.iload_n 1, 1) := by decide +kernel
theorem d_R_closeLoop_147 : decode prog_6_method_19_code 147 = .ok (.iaload, 1) := by decide +kernel
theorem d_R_closeLoop_148 : decode prog_6_method_19_code 148 = .ok (.iconst 1, 1) := by decide +kernel
theorem d_R_closeLoop_149 : decode prog_6_method_19_code 149 = .ok (.isub, 1) := by decide +kernel
theorem d_R_closeLoop_150 : decode prog_6_method_19_code 150 = .ok (.imul, 1) := by decide +kernel
theorem d_R_closeLoop_151 : decode prog_6_method_19_code 151 = .ok (.iadd, 1) := by decide +kernel
theorem d_R_closeLoop_152 : decode prog_6_method_19_code 152 = .ok (.iastore, 1) := by decide +kernel
theorem d_R_closeLoop_153 : decode prog_6_method_19_code 153 = .ok (.iinc 2 (1), 3) := by decide +kernel
theorem d_R_closeLoop_156 : decode prog_6_method_19_code 156 = .ok (.goto (-59), 3) := by decide +kernel
theorem d_R_closeLoop_159 : decode prog_6_method_19_code 159 = .ok (.aload_n 0, 1) := by decide +kernel
theorem d_R_closeLoop_160 : decode prog_6_method_19_code 160 = .ok (.getfield (50), 3) := by decide +kernel
theorem d_R_closeLoop_163 : decode prog_6_method_19_code 163 = .ok (.bipush (93), 2) := by decide +kernel
theorem d_R_closeLoop_165 : decode prog_6_method_19_code 165 = .ok (.aload_n 0, 1) := by decide +kernel
theorem d_R_closeLoop_166 : decode prog_6_method_19_code 166 = .ok (.getfield (50), 3) := by decide +kernel
theorem d_R_closeLoop_169 : decode prog_6_method_19_code 169 = .ok (.getfield (161), 3) := by decide +kernel
theorem d_R_closeLoop_172 : decode prog_6_method_19_code 172 = .ok (.iload_n 1, 1) := by decide +kernel
theorem d_R_closeLoop_173 : decode prog_6_method_19_code 173 = .ok (.iaload, 1) := by decide +kernel
theorem d_R_closeLoop_174 : decode prog_6_method_19_code 174 = .ok (.iload_n 1, 1) := by decide +kernel
theorem d_R_closeLoop_175 : decode prog_6_method_19_code 175 = .ok (.aload_n 0, 1) := by decide +kernel
theorem d_R_closeLoop_176 : decode prog_6_method_19_code 176 = .ok (.getfield (45), 3) := by decide +kernel
theorem d_R_closeLoop_179 : decode prog_6_method_19_code 179 = .ok (.getfield (169), 3) := by decide +kernel
theorem d_R_closeLoop_182 : decode prog_6_method_19_code 182 = .ok (.invokevirtual (172), 3) := by decide +kernel
theorem d_R_closeLoop_185 : decode prog_6_method_19_code 185 = .ok (.pop, 1) := by decide +kernel
theorem d_R_closeLoop_186 : decode prog_6_method_19_code 186 = .ok (.iconst 1, 1) := by decide +kernel
theorem d_R_closeLoop_187 : decode prog_6_method_19_code 187 = .ok (.ireturn, 1) := by decide +kernel
theorem fd_R_180 : ax_fd "CipherNotation$Reader" 180 1 2 := ⟨nC1, nT1, 7, nY1, rfl, nW1, by decide, nw_1 191 (by decide +kernel) rfl, nO1, nA1⟩
def lp_R_closeLoop_97 (F : Nat) (g : Nat) (x1 : Int32) : Nat → Int32 → ax_σ → Option (ax_σ)
  | 0, _, _ => none
  | n + 1, x2, s =>
    if (6 : Int32) < x2 then
      some s
    else
      bif ax_in x2 8 then
      bif ax_in (((s.1 0 25 9) * (8 : Int32)) + x2) 16 then
      bif ax_in x2 8 then
      bif ax_in x1 120 then
      bif ax_in x2 8 then
      ax_let (ax_wI s g 1 (x2).toNatClampNeg ((s.1 g 1 (x2).toNatClampNeg) + (((s.1 g 1 (x2).toNatClampNeg) - (s.1 0 29 ((((s.1 0 25 9) * (8 : Int32)) + x2)).toNatClampNeg)) * ((s.1 g 16 (x1).toNatClampNeg) - (1 : Int32))))) (fun s13 =>
        lp_R_closeLoop_97 F g x1 n (x2 + (1 : Int32)) s13)
      else none
      else none
      else none
      else none
      else none
set_option maxHeartbeats 4000000 in
set_option maxRecDepth 100000 in
theorem pl_R_closeLoop_97 {D : va_G} {cA : Nat → ClassId} {ad : Nat → Nat → Nat} {al : List (Nat × Nat)} {θ : ax_Θ} {l : Launch} {ρ : ax_ρ} {G : ax_G} {F g : Nat} {x1 : Int32} (h0 : ax_M0 al) (hg : ax_Mg al g) (hr : ax_rd ρ g) (hB : ax_B D cA ad al θ l "CipherNotation$Reader" prog_6_method_19_code 4 1 G) : ∀ (n : Nat) {x2 : Int32} {s : ax_σ} (out : ax_σ), lp_R_closeLoop_97 F g x1 n x2 s = some out → (∀ (es : ax_σ), out = es → ax_R G 4 0 0 (159, [(0, .inr (0, 25)), (1, .inl (.int (x1)))], [], ax_m (es) ρ)) → ax_R G 4 0 0 (97, [(0, .inr (0, 25)), (1, .inl (.int (x1))), (2, .inl (.int (x2)))], [], ax_m (s) ρ) := by
  have hK := hB.K
  have hal := hB.la
  intro n
  induction n with
  | zero =>
    intro x2 s out h
    cases h
  | succ n ih =>
    intro x2 s out h KE
    rw [lp_R_closeLoop_97] at h
    refine ax_bk hK (ax_fc (ax_v_ld (ax_r_iload_n (i := 2) d_R_closeLoop_97 rfl)) (ax_fc (ax_v_pu (ax_r_bipush (v := 6) d_R_closeLoop_98 (by decide))) ax_fn)) (y := (100, [(0, .inr (0, 25)), (1, .inl (.int (x1))), (2, .inl (.int (x2)))], [.inl (.int ((6 : Int32))), .inl (.int (x2))], ax_m (s) ρ)) rfl ⟨trivial, trivial, trivial⟩ ?_
    refine ax_ic_gt (tgt := 159) hK d_R_closeLoop_100 (by decide) (fun c14 => ?_) (fun c14 => ?_)
    · replace h := ax_it c14 h
      cases h
      exact ax_Lsub [0, 1] rfl (KE _ rfl)
    · replace h := ax_if c14 h
      obtain ⟨b8, h⟩ := ax_gd h
      obtain ⟨b9, h⟩ := ax_gd h
      obtain ⟨b10, h⟩ := ax_gd h
      obtain ⟨b11, h⟩ := ax_gd h
      obtain ⟨b12, h⟩ := ax_gd h
      refine ax_bk hK (ax_fc (ax_v_ld (ax_r_aload_n (i := 0) d_R_closeLoop_103 rfl)) (ax_fc (ax_w_gf (e := (some (g, 0))) hal d_R_closeLoop_104 fd_R_35) (ax_fc (ax_w_gf (e := none) hal d_R_closeLoop_107 fd_R_107) (ax_fc (ax_v_ld (ax_r_iload_n (i := 2) d_R_closeLoop_110 rfl)) (ax_fc (ax_w_iald hal d_R_closeLoop_111) (ax_fc (ax_v_ld (ax_r_aload_n (i := 0) d_R_closeLoop_112 rfl)) (ax_fc (ax_w_gf (e := none) hal d_R_closeLoop_113 fd_R_22) (ax_fc (ax_v_ld (ax_r_aload_n (i := 0) d_R_closeLoop_116 rfl)) (ax_fc (ax_w_gf (e := none) hal d_R_closeLoop_117 fd_R_143) (ax_fc (ax_v_pu (ax_r_bipush (v := 8) d_R_closeLoop_120 (by decide))) (ax_fc (ax_v_pu (ax_r_imul d_R_closeLoop_122)) (ax_fc (ax_v_ld (ax_r_iload_n (i := 2) d_R_closeLoop_123 rfl)) (ax_fc (ax_v_pu (ax_r_iadd d_R_closeLoop_124)) (ax_fc (ax_w_iald hal d_R_closeLoop_125) (ax_fc (ax_v_pu (ax_r_isub d_R_closeLoop_126)) (ax_fc (ax_v_so (ax_r_istore_n (i := 3) d_R_closeLoop_127 rfl)) (ax_fc (ax_v_ld (ax_r_aload_n (i := 0) d_R_closeLoop_128 rfl)) (ax_fc (ax_w_gf (e := (some (g, 0))) hal d_R_closeLoop_129 fd_R_35) (ax_fc (ax_w_gf (e := none) hal d_R_closeLoop_132 fd_R_107) (ax_fc (ax_v_ld (ax_r_iload_n (i := 2) d_R_closeLoop_135 rfl)) (ax_fc (ax_v_pu (ax_r_dup2p d_R_closeLoop_136)) (ax_fc (ax_w_iald hal d_R_closeLoop_137) (ax_fc (ax_v_ld (ax_r_iload_n (i := 3) d_R_closeLoop_138 rfl)) (ax_fc (ax_v_ld (ax_r_aload_n (i := 0) d_R_closeLoop_139 rfl)) (ax_fc (ax_w_gf (e := (some (g, 13))) hal d_R_closeLoop_140 fd_R_50) (ax_fc (ax_w_gf (e := none) hal d_R_closeLoop_143 fd_R_180) (ax_fc (ax_v_ld (ax_r_iload_n (i := 1) d_R_closeLoop_146 rfl)) (ax_fc (ax_w_iald hal d_R_closeLoop_147) (ax_fc (ax_v_pu (ax_r_iconst (v := 1) d_R_closeLoop_148 (by decide))) (ax_fc (ax_v_pu (ax_r_isub d_R_closeLoop_149)) (ax_fc (ax_v_pu (ax_r_imul d_R_closeLoop_150)) (ax_fc (ax_v_pu (ax_r_iadd d_R_closeLoop_151)) (ax_fc (ax_w_iast hal d_R_closeLoop_152) ax_fn))))))))))))))))))))))))))))))))) (y := (153, [(3, .inl (.int (((s.1 g 1 (x2).toNatClampNeg) - (s.1 0 29 ((((s.1 0 25 9) * (8 : Int32)) + x2)).toNatClampNeg))))), (0, .inr (0, 25)), (1, .inl (.int (x1))), (2, .inl (.int (x2)))], [], ax_m (ax_wI s g 1 (x2).toNatClampNeg ((s.1 g 1 (x2).toNatClampNeg) + (((s.1 g 1 (x2).toNatClampNeg) - (s.1 0 29 ((((s.1 0 25 9) * (8 : Int32)) + x2)).toNatClampNeg)) * ((s.1 g 16 (x1).toNatClampNeg) - (1 : Int32))))) ρ)) rfl ⟨trivial, ⟨(h0 25 rfl), hr.1⟩, (hg 0 rfl), trivial, ⟨(hg 1 rfl), ax_inp b8⟩, trivial, (h0 25 rfl), trivial, (h0 25 rfl), trivial, trivial, trivial, trivial, ⟨(h0 29 rfl), ax_inp b9⟩, trivial, trivial, trivial, ⟨(h0 25 rfl), hr.1⟩, (hg 0 rfl), trivial, trivial, ⟨(hg 1 rfl), ax_inp b10⟩, trivial, trivial, ⟨(h0 25 rfl), hr.2.2⟩, (hg 13 rfl), trivial, ⟨(hg 16 rfl), ax_inp b11⟩, trivial, trivial, trivial, trivial, ⟨(hg 1 rfl), ax_inp b12⟩, trivial⟩ ?_
      refine ax_lt (Q := fun ςς => ax_R G 4 0 0 (153, [(3, .inl (.int (((s.1 g 1 (x2).toNatClampNeg) - (s.1 0 29 ((((s.1 0 25 9) * (8 : Int32)) + x2)).toNatClampNeg))))), (0, .inr (0, 25)), (1, .inl (.int (x1))), (2, .inl (.int (x2)))], [], ax_m (ςς) ρ)) h (fun s13 h => ?_)
      refine ax_bk hK (ax_fc (ax_v_ii (d := 1) d_R_closeLoop_153 (by decide)) (ax_fc (ax_v_go (tgt := 97) d_R_closeLoop_156 (by decide)) ax_fn)) (y := (97, [(2, .inl (.int ((x2 + (1 : Int32))))), (3, .inl (.int (((s.1 g 1 (x2).toNatClampNeg) - (s.1 0 29 ((((s.1 0 25 9) * (8 : Int32)) + x2)).toNatClampNeg))))), (0, .inr (0, 25)), (1, .inl (.int (x1)))], [], ax_m (s13) ρ)) rfl ⟨trivial, trivial, trivial⟩ ?_
      exact ax_Lsub [2, 3, 0] rfl (ih _ h KE)
theorem fd_R_176 : ax_fd "CipherNotation$Reader" 176 1 6 := ⟨nC1, nT1, 7, nY1, rfl, nW1, by decide, nw_1 202 (by decide +kernel) rfl, nO1, nA1⟩
theorem fd_R_177 : ax_fd "CipherNotation$Reader" 177 1 5 := ⟨nC1, nT1, 7, nY1, rfl, nW1, by decide, nw_1 199 (by decide +kernel) rfl, nO1, nA1⟩
theorem fp_R_176 : ax_fp "CipherNotation$Reader" 176 1 6 (.int) := ⟨nC1, nT1, 7, nY1, rfl, nW1, by decide, nw_1 202 (by decide +kernel) rfl, nO1, nA1, by decide +kernel, by decide +kernel⟩
def f_R_closeLoop (F : Nat) (g : Nat) (s : ax_σ) : Option (Int32 × ax_σ) :=
  if (s.1 0 25 9) = (0 : Int32) then
    some (((0 : Int32), s))
  else
    ax_let (ax_wI s 0 25 3 ((s.1 0 25 3) + (1 : Int32))) (fun s1 =>
      ax_let (ax_wI s1 0 25 9 ((s1.1 0 25 9) - (1 : Int32))) (fun s2 =>
        bif ax_in (s2.1 0 25 9) 2 then
        if (s2.1 0 28 ((s2.1 0 25 9)).toNatClampNeg) = ((s2.1 g 13 6) - (1 : Int32)) then
          ax_let (ax_wI s2 g 13 6 (s2.1 0 28 ((s2.1 0 25 9)).toNatClampNeg)) (fun s20 =>
            some (((1 : Int32), s20)))
        else
          bif ax_in (4 : Int32) 8 then
          bif ax_in (((s2.1 0 25 9) * (8 : Int32)) + (4 : Int32)) 16 then
          bif ax_in (s2.1 0 28 ((s2.1 0 25 9)).toNatClampNeg) 120 then
          ax_let (ax_wI s2 g 19 ((s2.1 0 28 ((s2.1 0 25 9)).toNatClampNeg)).toNatClampNeg ((s2.1 g 1 ((4 : Int32)).toNatClampNeg) - (s2.1 0 29 ((((s2.1 0 25 9) * (8 : Int32)) + (4 : Int32))).toNatClampNeg))) (fun s7 =>
            Option.bind (lp_R_closeLoop_97 F g (s2.1 0 28 ((s2.1 0 25 9)).toNatClampNeg) F (4 : Int32) s7) (fun s15 =>
              bif ax_in (s2.1 0 28 ((s2.1 0 25 9)).toNatClampNeg) 120 then
              Option.bind (f_L_add g (93 : Int32) (s15.1 g 15 ((s2.1 0 28 ((s2.1 0 25 9)).toNatClampNeg)).toNatClampNeg) (s2.1 0 28 ((s2.1 0 25 9)).toNatClampNeg) (s15.1 g 4 8) s15) (fun (r17, s18) =>
                some (((1 : Int32), s18)))
              else none))
          else none
          else none
          else none
        else none))
set_option maxHeartbeats 4000000 in
set_option maxRecDepth 100000 in
theorem t_R_closeLoop {l : Launch} {D : va_G} {cA : Nat → ClassId} {ad : Nat → Nat → Nat} {al : List (Nat × Nat)} {θ : ax_Θ} {ρ : ax_ρ} {F : Nat} {g : Nat} (h0 : ax_M0 al) (hg : ax_Mg al g) (hr : ax_rd ρ g)  {s : ax_σ} {r0 : Int32} {s0 : ax_σ} (h : f_R_closeLoop F g s = some (r0, s0)) : ax_T l D cA ad al θ y_R_closeLoop (.code y_R_closeLoop prog_6_method_19_code 4 (some .boolean)) 1 [.inr (0, 25)] (ax_m s ρ) (some (.inl (.int r0))) (ax_m s0 ρ) := by
  refine ax_T_of (own := "CipherNotation$Reader") (by decide) rfl (Nat.le_of_ble_eq_true rfl) [(0, .inr (0, 25))] rfl ?_
  intro G hA
  have hB := hA.B
  have hK := hB.K
  have hal := hB.la
  unfold f_R_closeLoop at h
  refine ax_bk hK (ax_fc (ax_v_ld (ax_r_aload_n (i := 0) d_R_closeLoop_0 rfl)) (ax_fc (ax_w_gf (e := none) hal d_R_closeLoop_1 fd_R_143) ax_fn)) (y := (4, [(0, .inr (0, 25))], [.inl (.int ((s.1 0 25 9)))], ax_m (s) ρ)) rfl ⟨trivial, (h0 25 rfl), trivial⟩ ?_
  refine ax_if_ne (tgt := 9) hK d_R_closeLoop_4 (by decide) (fun c22 => ?_) (fun c22 => ?_)
  · replace h := ax_if c22 h
    refine ax_bk hK (ax_fc (ax_v_ld (ax_r_aload_n (i := 0) d_R_closeLoop_9 rfl)) (ax_fc (ax_v_pu (ax_r_dup d_R_closeLoop_10)) (ax_fc (ax_w_gf (e := none) hal d_R_closeLoop_11 fd_R_72) (ax_fc (ax_v_pu (ax_r_iconst (v := 1) d_R_closeLoop_14 (by decide))) (ax_fc (ax_v_pu (ax_r_iadd d_R_closeLoop_15)) (ax_fc (ax_w_pf (tc := 0) hal d_R_closeLoop_16 fp_R_72 rfl) ax_fn)))))) (y := (19, [(0, .inr (0, 25))], [], ax_m (ax_wI s 0 25 3 ((s.1 0 25 3) + (1 : Int32))) ρ)) rfl ⟨trivial, trivial, (h0 25 rfl), trivial, trivial, (h0 25 rfl), trivial⟩ ?_
    refine ax_lt (Q := fun ςς => ax_R G 4 0 0 (19, [(0, .inr (0, 25))], [], ax_m (ςς) ρ)) h (fun s1 h => ?_)
    refine ax_bk hK (ax_fc (ax_v_ld (ax_r_aload_n (i := 0) d_R_closeLoop_19 rfl)) (ax_fc (ax_v_pu (ax_r_dup d_R_closeLoop_20)) (ax_fc (ax_w_gf (e := none) hal d_R_closeLoop_21 fd_R_143) (ax_fc (ax_v_pu (ax_r_iconst (v := 1) d_R_closeLoop_24 (by decide))) (ax_fc (ax_v_pu (ax_r_isub d_R_closeLoop_25)) (ax_fc (ax_w_pf (tc := 0) hal d_R_closeLoop_26 fp_R_143 rfl) ax_fn)))))) (y := (29, [(0, .inr (0, 25))], [], ax_m (ax_wI s1 0 25 9 ((s1.1 0 25 9) - (1 : Int32))) ρ)) rfl ⟨trivial, trivial, (h0 25 rfl), trivial, trivial, (h0 25 rfl), trivial⟩ ?_
    refine ax_lt (Q := fun ςς => ax_R G 4 0 0 (29, [(0, .inr (0, 25))], [], ax_m (ςς) ρ)) h (fun s2 h => ?_)
    obtain ⟨b3, h⟩ := ax_gd h
    refine ax_bk hK (ax_fc (ax_v_ld (ax_r_aload_n (i := 0) d_R_closeLoop_29 rfl)) (ax_fc (ax_w_gf (e := none) hal d_R_closeLoop_30 fd_R_19) (ax_fc (ax_v_ld (ax_r_aload_n (i := 0) d_R_closeLoop_33 rfl)) (ax_fc (ax_w_gf (e := none) hal d_R_closeLoop_34 fd_R_143) (ax_fc (ax_w_iald hal d_R_closeLoop_37) (ax_fc (ax_v_so (ax_r_istore_n (i := 1) d_R_closeLoop_38 rfl)) (ax_fc (ax_v_ld (ax_r_iload_n (i := 1) d_R_closeLoop_39 rfl)) (ax_fc (ax_v_ld (ax_r_aload_n (i := 0) d_R_closeLoop_40 rfl)) (ax_fc (ax_w_gf (e := (some (g, 13))) hal d_R_closeLoop_41 fd_R_50) (ax_fc (ax_w_gf (e := none) hal d_R_closeLoop_44 fd_R_176) (ax_fc (ax_v_pu (ax_r_iconst (v := 1) d_R_closeLoop_47 (by decide))) (ax_fc (ax_v_pu (ax_r_isub d_R_closeLoop_48)) ax_fn)))))))))))) (y := (49, [(1, .inl (.int ((s2.1 0 28 ((s2.1 0 25 9)).toNatClampNeg)))), (0, .inr (0, 25))], [.inl (.int (((s2.1 g 13 6) - (1 : Int32)))), .inl (.int ((s2.1 0 28 ((s2.1 0 25 9)).toNatClampNeg)))], ax_m (s2) ρ)) rfl ⟨trivial, (h0 25 rfl), trivial, (h0 25 rfl), ⟨(h0 28 rfl), ax_inp b3⟩, trivial, trivial, trivial, ⟨(h0 25 rfl), hr.2.2⟩, (hg 13 rfl), trivial, trivial, trivial⟩ ?_
    refine ax_ic_ne (tgt := 62) hK d_R_closeLoop_49 (by decide) (fun c21 => ?_) (fun c21 => ?_)
    · replace h := ax_if c21 h
      obtain ⟨b4, h⟩ := ax_gd h
      obtain ⟨b5, h⟩ := ax_gd h
      obtain ⟨b6, h⟩ := ax_gd h
      refine ax_bk hK (ax_fc (ax_v_ld (ax_r_aload_n (i := 0) d_R_closeLoop_62 rfl)) (ax_fc (ax_w_gf (e := (some (g, 13))) hal d_R_closeLoop_63 fd_R_50) (ax_fc (ax_w_gf (e := none) hal d_R_closeLoop_66 fd_R_177) (ax_fc (ax_v_ld (ax_r_iload_n (i := 1) d_R_closeLoop_69 rfl)) (ax_fc (ax_v_ld (ax_r_aload_n (i := 0) d_R_closeLoop_70 rfl)) (ax_fc (ax_w_gf (e := (some (g, 0))) hal d_R_closeLoop_71 fd_R_35) (ax_fc (ax_w_gf (e := none) hal d_R_closeLoop_74 fd_R_107) (ax_fc (ax_v_pu (ax_r_iconst (v := 4) d_R_closeLoop_77 (by decide))) (ax_fc (ax_w_iald hal d_R_closeLoop_78) (ax_fc (ax_v_ld (ax_r_aload_n (i := 0) d_R_closeLoop_79 rfl)) (ax_fc (ax_w_gf (e := none) hal d_R_closeLoop_80 fd_R_22) (ax_fc (ax_v_ld (ax_r_aload_n (i := 0) d_R_closeLoop_83 rfl)) (ax_fc (ax_w_gf (e := none) hal d_R_closeLoop_84 fd_R_143) (ax_fc (ax_v_pu (ax_r_bipush (v := 8) d_R_closeLoop_87 (by decide))) (ax_fc (ax_v_pu (ax_r_imul d_R_closeLoop_89)) (ax_fc (ax_v_pu (ax_r_iconst (v := 4) d_R_closeLoop_90 (by decide))) (ax_fc (ax_v_pu (ax_r_iadd d_R_closeLoop_91)) (ax_fc (ax_w_iald hal d_R_closeLoop_92) (ax_fc (ax_v_pu (ax_r_isub d_R_closeLoop_93)) (ax_fc (ax_w_iast hal d_R_closeLoop_94) ax_fn)))))))))))))))))))) (y := (95, [(1, .inl (.int ((s2.1 0 28 ((s2.1 0 25 9)).toNatClampNeg)))), (0, .inr (0, 25))], [], ax_m (ax_wI s2 g 19 ((s2.1 0 28 ((s2.1 0 25 9)).toNatClampNeg)).toNatClampNeg ((s2.1 g 1 ((4 : Int32)).toNatClampNeg) - (s2.1 0 29 ((((s2.1 0 25 9) * (8 : Int32)) + (4 : Int32))).toNatClampNeg))) ρ)) rfl ⟨trivial, ⟨(h0 25 rfl), hr.2.2⟩, (hg 13 rfl), trivial, trivial, ⟨(h0 25 rfl), hr.1⟩, (hg 0 rfl), trivial, ⟨(hg 1 rfl), ax_inp b4⟩, trivial, (h0 25 rfl), trivial, (h0 25 rfl), trivial, trivial, trivial, trivial, ⟨(h0 29 rfl), ax_inp b5⟩, trivial, ⟨(hg 19 rfl), ax_inp b6⟩, trivial⟩ ?_
      refine ax_lt (Q := fun ςς => ax_R G 4 0 0 (95, [(1, .inl (.int ((s2.1 0 28 ((s2.1 0 25 9)).toNatClampNeg)))), (0, .inr (0, 25))], [], ax_m (ςς) ρ)) h (fun s7 h => ?_)
      refine ax_bk hK (ax_fc (ax_v_pu (ax_r_iconst (v := 4) d_R_closeLoop_95 (by decide))) (ax_fc (ax_v_so (ax_r_istore_n (i := 2) d_R_closeLoop_96 rfl)) ax_fn)) (y := (97, [(2, .inl (.int ((4 : Int32)))), (1, .inl (.int ((s2.1 0 28 ((s2.1 0 25 9)).toNatClampNeg)))), (0, .inr (0, 25))], [], ax_m (s7) ρ)) rfl ⟨trivial, trivial, trivial⟩ ?_
      obtain ⟨w23, hw23, h⟩ := ax_bd h
      refine ax_Lsub [2, 1, 0] rfl (pl_R_closeLoop_97 h0 hg hr hB F _ hw23 ?_)
      intro s15 e9
      subst w23
      try dsimp only at h
      change ax_R G 4 0 0 (159, [(0, .inr (0, 25)), (1, .inl (.int ((s2.1 0 28 ((s2.1 0 25 9)).toNatClampNeg))))], [], ax_m (s15) ρ)
      obtain ⟨b16, h⟩ := ax_gd h
      refine ax_bk hK (ax_fc (ax_v_ld (ax_r_aload_n (i := 0) d_R_closeLoop_159 rfl)) (ax_fc (ax_w_gf (e := (some (g, 13))) hal d_R_closeLoop_160 fd_R_50) (ax_fc (ax_v_pu (ax_r_bipush (v := 93) d_R_closeLoop_163 (by decide))) (ax_fc (ax_v_ld (ax_r_aload_n (i := 0) d_R_closeLoop_165 rfl)) (ax_fc (ax_w_gf (e := (some (g, 13))) hal d_R_closeLoop_166 fd_R_50) (ax_fc (ax_w_gf (e := none) hal d_R_closeLoop_169 fd_R_161) (ax_fc (ax_v_ld (ax_r_iload_n (i := 1) d_R_closeLoop_172 rfl)) (ax_fc (ax_w_iald hal d_R_closeLoop_173) (ax_fc (ax_v_ld (ax_r_iload_n (i := 1) d_R_closeLoop_174 rfl)) (ax_fc (ax_v_ld (ax_r_aload_n (i := 0) d_R_closeLoop_175 rfl)) (ax_fc (ax_w_gf (e := (some (g, 4))) hal d_R_closeLoop_176 fd_R_45) (ax_fc (ax_w_gf (e := none) hal d_R_closeLoop_179 fd_R_169) ax_fn)))))))))))) (y := (182, [(0, .inr (0, 25)), (1, .inl (.int ((s2.1 0 28 ((s2.1 0 25 9)).toNatClampNeg))))], [.inl (.int ((s15.1 g 4 8))), .inl (.int ((s2.1 0 28 ((s2.1 0 25 9)).toNatClampNeg))), .inl (.int ((s15.1 g 15 ((s2.1 0 28 ((s2.1 0 25 9)).toNatClampNeg)).toNatClampNeg))), .inl (.int ((93 : Int32))), .inr (g, 13)], ax_m (s15) ρ)) rfl ⟨trivial, ⟨(h0 25 rfl), hr.2.2⟩, trivial, trivial, ⟨(h0 25 rfl), hr.2.2⟩, (hg 13 rfl), trivial, ⟨(hg 15 rfl), ax_inp b16⟩, trivial, trivial, ⟨(h0 25 rfl), hr.2.1⟩, (hg 4 rfl), trivial⟩ ?_
      obtain ⟨⟨r17, s18⟩, q19, h⟩ := ax_bd h
      dsimp only at h
      refine ax_bV (rest := []) hB (t_L_add hg q19) cw_R_172 im_L_add se_L_add d_R_closeLoop_182 (hg 13 rfl) rfl rfl (by decide) (by decide) rfl rfl (Nat.le_of_ble_eq_true rfl) ?_
      change ax_R G 4 0 0 (185, [(0, .inr (0, 25)), (1, .inl (.int ((s2.1 0 28 ((s2.1 0 25 9)).toNatClampNeg))))], [.inl (.int (r17))], ax_m (s18) ρ)
      refine ax_bk hK (ax_fc (ax_v_pu (ax_r_pop d_R_closeLoop_185)) (ax_fc (ax_v_pu (ax_r_iconst (v := 1) d_R_closeLoop_186 (by decide))) ax_fn)) (y := (187, [(0, .inr (0, 25)), (1, .inl (.int ((s2.1 0 28 ((s2.1 0 25 9)).toNatClampNeg))))], [.inl (.int ((1 : Int32)))], ax_m (s18) ρ)) rfl ⟨trivial, trivial, trivial⟩ ?_
      cases h
      exact ax_zret hA (by decide) d_R_closeLoop_187
    · replace h := ax_it c21 h
      refine ax_bk hK (ax_fc (ax_v_ld (ax_r_aload_n (i := 0) d_R_closeLoop_52 rfl)) (ax_fc (ax_w_gf (e := (some (g, 13))) hal d_R_closeLoop_53 fd_R_50) (ax_fc (ax_v_ld (ax_r_iload_n (i := 1) d_R_closeLoop_56 rfl)) (ax_fc (ax_w_pf (tc := 0) hal d_R_closeLoop_57 fp_R_176 rfl) ax_fn)))) (y := (60, [(1, .inl (.int ((s2.1 0 28 ((s2.1 0 25 9)).toNatClampNeg)))), (0, .inr (0, 25))], [], ax_m (ax_wI s2 g 13 6 (s2.1 0 28 ((s2.1 0 25 9)).toNatClampNeg)) ρ)) rfl ⟨trivial, ⟨(h0 25 rfl), hr.2.2⟩, trivial, (hg 13 rfl), trivial⟩ ?_
      refine ax_lt (Q := fun ςς => ax_R G 4 0 0 (60, [(1, .inl (.int ((s2.1 0 28 ((s2.1 0 25 9)).toNatClampNeg)))), (0, .inr (0, 25))], [], ax_m (ςς) ρ)) h (fun s20 h => ?_)
      refine ax_bk hK (ax_fc (ax_v_pu (ax_r_iconst (v := 1) d_R_closeLoop_60 (by decide))) ax_fn) (y := (61, [(1, .inl (.int ((s2.1 0 28 ((s2.1 0 25 9)).toNatClampNeg)))), (0, .inr (0, 25))], [.inl (.int ((1 : Int32)))], ax_m (s20) ρ)) rfl ⟨trivial, trivial⟩ ?_
      cases h
      exact ax_zret hA (by decide) d_R_closeLoop_61
  · replace h := ax_it c22 h
    refine ax_bk hK (ax_fc (ax_v_pu (ax_r_iconst (v := 0) d_R_closeLoop_7 (by decide))) ax_fn) (y := (8, [(0, .inr (0, 25))], [.inl (.int ((0 : Int32)))], ax_m (s) ρ)) rfl ⟨trivial, trivial⟩ ?_
    cases h
    exact ax_zret hA (by decide) d_R_closeLoop_8
def y_R_rotation : MethodName := ⟨"CipherNotation$Reader", "rotation", "(I)I"⟩
theorem d_R_rotation_0 : decode prog_6_method_22_code 0 = .ok (.aload_n 0, 1) := by decide +kernel
theorem d_R_rotation_1 : decode prog_6_method_22_code 1 = .ok (.getfield (11), 3) := by decide +kernel
theorem d_R_rotation_4 : decode prog_6_method_22_code 4 = .ok (.aload_n 0, 1) := by decide +kernel
theorem d_R_rotation_5 : decode prog_6_method_22_code 5 = .ok (.getfield (72), 3) := by decide +kernel
theorem d_R_rotation_8 : decode prog_6_method_22_code 8 = .ok (.caload, 1) := by decide +kernel
theorem d_R_rotation_9 : decode prog_6_method_22_code 9 = .ok (.invokestatic (96), 3) := by decide +kernel
theorem d_R_rotation_12 : decode prog_6_method_22_code 12 = .ok (.ifCond .eq (17), 3) := by decide +kernel
theorem d_R_rotation_15 : decode prog_6_method_22_code 15 = .ok (.aload_n 0, 1) := by decide +kernel
theorem d_R_rotation_16 : decode prog_6_method_22_code 16 = .ok (.aload_n 0, 1) := by decide +kernel
theorem d_R_rotation_17 : decode prog_6_method_22_code 17 = .ok (.getfield (35), 3) := by decide +kernel
theorem d_R_rotation_20 : decode prog_6_method_22_code 20 = .ok (.getfield (107), 3) := by decide +kernel
theorem d_R_rotation_23 : decode prog_6_method_22_code 23 = .ok (.iconst 0, 1) := by decide +kernel
theorem d_R_rotation_24 : decode prog_6_method_22_code 24 = .ok (.iaload, 1) := by decide +kernel
theorem d_R_rotation_25 : decode prog_6_method_22_code 25 = .ok (.invokevirtual (111), 3) := by decide +kernel
theorem d_R_rotation_28 : decode prog_6_method_22_code 28 = .ok (.ireturn, 1) := by decide +kernel
theorem d_R_rotation_29 : decode prog_6_method_22_code 29 = .ok (.aload_n 0, 1) := by decide +kernel
theorem d_R_rotation_30 : decode prog_6_method_22_code 30 = .ok (.getfield (50), 3) := by decide +kernel
theorem d_R_rotation_33 : decode prog_6_method_22_code 33 = .ok (.getfield (214), 3) := by decide +kernel
theorem d_R_rotation_36 : decode prog_6_method_22_code 36 = .ok (.iload_n 1, 1) := by decide +kernel
theorem d_R_rotation_37 : decode prog_6_method_22_code 37 = .ok (.bipush (119), 2) := by decide +kernel
theorem d_R_rotation_39 : decode prog_6_method_22_code 39 = .ok (.iastore, 1) := by decide +kernel
theorem d_R_rotation_40 : decode prog_6_method_22_code 40 = .ok (.aload_n 0, 1) := by decide +kernel
theorem d_R_rotation_41 : decode prog_6_method_22_code 41 = .ok (.invokevirtual (192), 3) := by decide +kernel
theorem d_R_rotation_44 : decode prog_6_method_22_code 44 = .ok (.ireturn, 1) := by decide +kernel
theorem fd_R_214 : ax_fd "CipherNotation$Reader" 214 1 0 := ⟨nC1, nT1, 7, nY1, rfl, nW1, by decide, nw_1 183 (by decide +kernel) rfl, nO1, nA1⟩
set_option maxRecDepth 100000 in
theorem cw_R_192 : ax_cw "CipherNotation$Reader" 192 y_R_takeState (.code y_R_takeState prog_6_method_9_code 3 (some .int)) 0 := ⟨nw_3 29 (by decide +kernel) rfl, nw_1 2 (by decide +kernel) rfl, nw_3 32 rfl rfl, by decide +kernel, by decide +kernel⟩
theorem im_R_takeState : Cond.instanceMethod y_R_takeState ∈ ax_tbl := nw_3 31 (by decide +kernel) rfl
theorem se_R_takeState : Cond.selects y_R_takeState.cls y_R_takeState y_R_takeState ∈ ax_tbl := nw_sel 19 (by decide +kernel) (by decide +kernel)
def f_R_rotation (F : Nat) (g : Nat) (a1 : Int32) (s : ax_σ) : Option (Int32 × ax_σ) :=
  bif ax_in (s.1 0 25 3) 241 then
  Option.bind (f_R_isDigit (s.1 0 26 ((s.1 0 25 3)).toNatClampNeg)) (fun r2 =>
    if r2 = (0 : Int32) then
      bif ax_in a1 120 then
      ax_let (ax_wI s g 14 (a1).toNatClampNeg (119 : Int32)) (fun s5 =>
        Option.bind (f_R_takeState g s5) (fun (r6, s7) =>
          some ((r6, s7))))
      else none
    else
      bif ax_in (0 : Int32) 8 then
      Option.bind (f_R_takeNumber F g (s.1 g 1 ((0 : Int32)).toNatClampNeg) s) (fun (r10, s11) =>
        some ((r10, s11)))
      else none)
  else none
set_option maxHeartbeats 4000000 in
set_option maxRecDepth 100000 in
theorem t_R_rotation {l : Launch} {D : va_G} {cA : Nat → ClassId} {ad : Nat → Nat → Nat} {al : List (Nat × Nat)} {θ : ax_Θ} {ρ : ax_ρ} {F : Nat} {g : Nat} (h0 : ax_M0 al) (hg : ax_Mg al g) (hr : ax_rd ρ g) {a1 : Int32} {s : ax_σ} {r0 : Int32} {s0 : ax_σ} (h : f_R_rotation F g a1 s = some (r0, s0)) : ax_T l D cA ad al θ y_R_rotation (.code y_R_rotation prog_6_method_22_code 2 (some .int)) 3 [.inr (0, 25), .inl (.int (a1))] (ax_m s ρ) (some (.inl (.int r0))) (ax_m s0 ρ) := by
  refine ax_T_of (own := "CipherNotation$Reader") (by decide) rfl (Nat.le_of_ble_eq_true rfl) [(0, .inr (0, 25)), (1, .inl (.int (a1)))] rfl ?_
  intro G hA
  have hB := hA.B
  have hK := hB.K
  have hal := hB.la
  unfold f_R_rotation at h
  obtain ⟨b1, h⟩ := ax_gd h
  refine ax_bk hK (ax_fc (ax_v_ld (ax_r_aload_n (i := 0) d_R_rotation_0 rfl)) (ax_fc (ax_w_gf (e := none) hal d_R_rotation_1 fd_R_11) (ax_fc (ax_v_ld (ax_r_aload_n (i := 0) d_R_rotation_4 rfl)) (ax_fc (ax_w_gf (e := none) hal d_R_rotation_5 fd_R_72) (ax_fc (ax_w_cald hal d_R_rotation_8) ax_fn))))) (y := (9, [(0, .inr (0, 25)), (1, .inl (.int (a1)))], [.inl (.int ((s.1 0 26 ((s.1 0 25 3)).toNatClampNeg)))], ax_m (s) ρ)) rfl ⟨trivial, (h0 25 rfl), trivial, (h0 25 rfl), ⟨(h0 26 rfl), ax_inp b1⟩, trivial⟩ ?_
  obtain ⟨r2, q3, h⟩ := ax_bd h
  refine ax_bS (rest := []) hB (t_R_isDigit q3) cw_R_96 sm_R_isDigit d_R_rotation_9 (by decide) (by decide) rfl rfl (Nat.le_of_ble_eq_true rfl) ?_
  change ax_R G 2 0 0 (12, [(0, .inr (0, 25)), (1, .inl (.int (a1)))], [.inl (.int (r2))], ax_m (s) ρ)
  refine ax_if_eq (tgt := 29) hK d_R_rotation_12 (by decide) (fun c13 => ?_) (fun c13 => ?_)
  · replace h := ax_it c13 h
    obtain ⟨b4, h⟩ := ax_gd h
    refine ax_bk hK (ax_fc (ax_v_ld (ax_r_aload_n (i := 0) d_R_rotation_29 rfl)) (ax_fc (ax_w_gf (e := (some (g, 13))) hal d_R_rotation_30 fd_R_50) (ax_fc (ax_w_gf (e := none) hal d_R_rotation_33 fd_R_214) (ax_fc (ax_v_ld (ax_r_iload_n (i := 1) d_R_rotation_36 rfl)) (ax_fc (ax_v_pu (ax_r_bipush (v := 119) d_R_rotation_37 (by decide))) (ax_fc (ax_w_iast hal d_R_rotation_39) ax_fn)))))) (y := (40, [(0, .inr (0, 25)), (1, .inl (.int (a1)))], [], ax_m (ax_wI s g 14 (a1).toNatClampNeg (119 : Int32)) ρ)) rfl ⟨trivial, ⟨(h0 25 rfl), hr.2.2⟩, (hg 13 rfl), trivial, trivial, ⟨(hg 14 rfl), ax_inp b4⟩, trivial⟩ ?_
    refine ax_lt (Q := fun ςς => ax_R G 2 0 0 (40, [(0, .inr (0, 25)), (1, .inl (.int (a1)))], [], ax_m (ςς) ρ)) h (fun s5 h => ?_)
    refine ax_bk hK (ax_fc (ax_v_ld (ax_r_aload_n (i := 0) d_R_rotation_40 rfl)) ax_fn) (y := (41, [(0, .inr (0, 25)), (1, .inl (.int (a1)))], [.inr (0, 25)], ax_m (s5) ρ)) rfl ⟨trivial, trivial⟩ ?_
    obtain ⟨⟨r6, s7⟩, q8, h⟩ := ax_bd h
    dsimp only at h
    refine ax_bV (rest := []) hB (t_R_takeState h0 hg hr q8) cw_R_192 im_R_takeState se_R_takeState d_R_rotation_41 (h0 25 rfl) rfl rfl (by decide) (by decide) rfl rfl (Nat.le_of_ble_eq_true rfl) ?_
    change ax_R G 2 0 0 (44, [(0, .inr (0, 25)), (1, .inl (.int (a1)))], [.inl (.int (r6))], ax_m (s7) ρ)
    cases h
    exact ax_iret hA d_R_rotation_44
  · replace h := ax_if c13 h
    obtain ⟨b9, h⟩ := ax_gd h
    refine ax_bk hK (ax_fc (ax_v_ld (ax_r_aload_n (i := 0) d_R_rotation_15 rfl)) (ax_fc (ax_v_ld (ax_r_aload_n (i := 0) d_R_rotation_16 rfl)) (ax_fc (ax_w_gf (e := (some (g, 0))) hal d_R_rotation_17 fd_R_35) (ax_fc (ax_w_gf (e := none) hal d_R_rotation_20 fd_R_107) (ax_fc (ax_v_pu (ax_r_iconst (v := 0) d_R_rotation_23 (by decide))) (ax_fc (ax_w_iald hal d_R_rotation_24) ax_fn)))))) (y := (25, [(0, .inr (0, 25)), (1, .inl (.int (a1)))], [.inl (.int ((s.1 g 1 ((0 : Int32)).toNatClampNeg))), .inr (0, 25)], ax_m (s) ρ)) rfl ⟨trivial, trivial, ⟨(h0 25 rfl), hr.1⟩, (hg 0 rfl), trivial, ⟨(hg 1 rfl), ax_inp b9⟩, trivial⟩ ?_
    obtain ⟨⟨r10, s11⟩, q12, h⟩ := ax_bd h
    dsimp only at h
    refine ax_bV (rest := []) hB (t_R_takeNumber h0 hg hr q12) cw_R_111 im_R_takeNumber se_R_takeNumber d_R_rotation_25 (h0 25 rfl) rfl rfl (by decide) (by decide) rfl rfl (Nat.le_of_ble_eq_true rfl) ?_
    change ax_R G 2 0 0 (28, [(0, .inr (0, 25)), (1, .inl (.int (a1)))], [.inl (.int (r10))], ax_m (s11) ρ)
    cases h
    exact ax_iret hA d_R_rotation_28
def y_R_tableNumber : MethodName := ⟨"CipherNotation$Reader", "tableNumber", "()I"⟩
theorem d_R_tableNumber_0 : decode prog_6_method_23_code 0 = .ok (.aload_n 0, 1) := by decide +kernel
theorem d_R_tableNumber_1 : decode prog_6_method_23_code 1 = .ok (.getfield (15), 3) := by decide +kernel
theorem d_R_tableNumber_4 : decode prog_6_method_23_code 4 = .ok (.aload_n 0, 1) := by decide +kernel
theorem d_R_tableNumber_5 : decode prog_6_method_23_code 5 = .ok (.getfield (72), 3) := by decide +kernel
theorem d_R_tableNumber_8 : decode prog_6_method_23_code 8 = .ok (.iaload, 1) := by decide +kernel
theorem d_R_tableNumber_9 : decode prog_6_method_23_code 9 = .ok (.istore_n 1, 1) := by decide +kernel
theorem d_R_tableNumber_10 : decode prog_6_method_23_code 10 = .ok (.aload_n 0, 1) := by decide +kernel
theorem d_R_tableNumber_11 : decode prog_6_method_23_code 11 = .ok (.ldc (110), 2) := by decide +kernel
theorem d_R_tableNumber_13 : decode prog_6_method_23_code 13 = .ok (.invokevirtual (111), 3) := by decide +kernel
theorem d_R_tableNumber_16 : decode prog_6_method_23_code 16 = .ok (.istore_n 2, 1) := by decide +kernel
theorem d_R_tableNumber_17 : decode prog_6_method_23_code 17 = .ok (.iload_n 2, 1) := by decide +kernel
theorem d_R_tableNumber_18 : decode prog_6_method_23_code 18 = .ok (.aload_n 0, 1) := by decide +kernel
theorem d_R_tableNumber_19 : decode prog_6_method_23_code 19 = .ok (.getfield (35), 3) := by decide +kernel
theorem d_R_tableNumber_22 : decode prog_6_method_23_code 22 = .ok (.getfield (107), 3) := by decide +kernel
theorem d_R_tableNumber_25 : decode prog_6_method_23_code 25 = .ok (.iconst 3, 1) := by decide +kernel
theorem d_R_tableNumber_26 : decode prog_6_method_23_code 26 = .ok (.iaload, 1) := by decide +kernel
theorem d_R_tableNumber_27 : decode prog_6_method_23_code 27 = .ok (.if_icmp .lt (9), 3) := by decide +kernel
theorem d_R_tableNumber_30 : decode prog_6_method_23_code 30 = .ok (.aload_n 0, 1) := by decide +kernel
theorem d_R_tableNumber_31 : decode prog_6_method_23_code 31 = .ok (.iload_n 1, 1) := by decide +kernel
theorem d_R_tableNumber_32 : decode prog_6_method_23_code 32 = .ok (.iconst 4, 1) := by decide +kernel
theorem d_R_tableNumber_33 : decode prog_6_method_23_code 33 = .ok (.invokevirtual (100), 3) := by decide +kernel
theorem d_R_tableNumber_36 : decode prog_6_method_23_code 36 = .ok (.iload_n 2, 1) := by decide +kernel
theorem d_R_tableNumber_37 : decode prog_6_method_23_code 37 = .ok (.ireturn, 1) := by decide +kernel
def f_R_tableNumber (F : Nat) (g : Nat) (s : ax_σ) : Option (Int32 × ax_σ) :=
  bif ax_in (s.1 0 25 3) 241 then
  Option.bind (f_R_takeNumber F g (1000000000 : Int32) s) (fun (r2, s3) =>
    bif ax_in (3 : Int32) 8 then
    if r2 < (s3.1 g 1 ((3 : Int32)).toNatClampNeg) then
      some ((r2, s3))
    else
      Option.bind (f_R_note g (s.1 0 27 ((s.1 0 25 3)).toNatClampNeg) (4 : Int32) s3) (fun s6 =>
        some ((r2, s6)))
    else none)
  else none
set_option maxHeartbeats 4000000 in
set_option maxRecDepth 100000 in
theorem t_R_tableNumber {l : Launch} {D : va_G} {cA : Nat → ClassId} {ad : Nat → Nat → Nat} {al : List (Nat × Nat)} {θ : ax_Θ} {ρ : ax_ρ} {F : Nat} {g : Nat} (h0 : ax_M0 al) (hg : ax_Mg al g) (hr : ax_rd ρ g)  {s : ax_σ} {r0 : Int32} {s0 : ax_σ} (h : f_R_tableNumber F g s = some (r0, s0)) : ax_T l D cA ad al θ y_R_tableNumber (.code y_R_tableNumber prog_6_method_23_code 3 (some .int)) 3 [.inr (0, 25)] (ax_m s ρ) (some (.inl (.int r0))) (ax_m s0 ρ) := by
  refine ax_T_of (own := "CipherNotation$Reader") (by decide) rfl (Nat.le_of_ble_eq_true rfl) [(0, .inr (0, 25))] rfl ?_
  intro G hA
  have hB := hA.B
  have hK := hB.K
  have hal := hB.la
  unfold f_R_tableNumber at h
  obtain ⟨b1, h⟩ := ax_gd h
  refine ax_bk hK (ax_fc (ax_v_ld (ax_r_aload_n (i := 0) d_R_tableNumber_0 rfl)) (ax_fc (ax_w_gf (e := none) hal d_R_tableNumber_1 fd_R_15) (ax_fc (ax_v_ld (ax_r_aload_n (i := 0) d_R_tableNumber_4 rfl)) (ax_fc (ax_w_gf (e := none) hal d_R_tableNumber_5 fd_R_72) (ax_fc (ax_w_iald hal d_R_tableNumber_8) (ax_fc (ax_v_so (ax_r_istore_n (i := 1) d_R_tableNumber_9 rfl)) (ax_fc (ax_v_ld (ax_r_aload_n (i := 0) d_R_tableNumber_10 rfl)) (ax_fc (ax_v_ldc (v := 1000000000) d_R_tableNumber_11 (nw_2 73 (by decide +kernel) rfl)) ax_fn)))))))) (y := (13, [(1, .inl (.int ((s.1 0 27 ((s.1 0 25 3)).toNatClampNeg)))), (0, .inr (0, 25))], [.inl (.int ((1000000000 : Int32))), .inr (0, 25)], ax_m (s) ρ)) rfl ⟨trivial, (h0 25 rfl), trivial, (h0 25 rfl), ⟨(h0 27 rfl), ax_inp b1⟩, trivial, trivial, trivial, trivial⟩ ?_
  obtain ⟨⟨r2, s3⟩, q4, h⟩ := ax_bd h
  dsimp only at h
  refine ax_bV (rest := []) hB (t_R_takeNumber h0 hg hr q4) cw_R_111 im_R_takeNumber se_R_takeNumber d_R_tableNumber_13 (h0 25 rfl) rfl rfl (by decide) (by decide) rfl rfl (Nat.le_of_ble_eq_true rfl) ?_
  change ax_R G 3 0 0 (16, [(1, .inl (.int ((s.1 0 27 ((s.1 0 25 3)).toNatClampNeg)))), (0, .inr (0, 25))], [.inl (.int (r2))], ax_m (s3) ρ)
  obtain ⟨b5, h⟩ := ax_gd h
  refine ax_bk hK (ax_fc (ax_v_so (ax_r_istore_n (i := 2) d_R_tableNumber_16 rfl)) (ax_fc (ax_v_ld (ax_r_iload_n (i := 2) d_R_tableNumber_17 rfl)) (ax_fc (ax_v_ld (ax_r_aload_n (i := 0) d_R_tableNumber_18 rfl)) (ax_fc (ax_w_gf (e := (some (g, 0))) hal d_R_tableNumber_19 fd_R_35) (ax_fc (ax_w_gf (e := none) hal d_R_tableNumber_22 fd_R_107) (ax_fc (ax_v_pu (ax_r_iconst (v := 3) d_R_tableNumber_25 (by decide))) (ax_fc (ax_w_iald hal d_R_tableNumber_26) ax_fn))))))) (y := (27, [(2, .inl (.int (r2))), (1, .inl (.int ((s.1 0 27 ((s.1 0 25 3)).toNatClampNeg)))), (0, .inr (0, 25))], [.inl (.int ((s3.1 g 1 ((3 : Int32)).toNatClampNeg))), .inl (.int (r2))], ax_m (s3) ρ)) rfl ⟨trivial, trivial, trivial, ⟨(h0 25 rfl), hr.1⟩, (hg 0 rfl), trivial, ⟨(hg 1 rfl), ax_inp b5⟩, trivial⟩ ?_
  refine ax_ic_lt (tgt := 36) hK d_R_tableNumber_27 (by decide) (fun c8 => ?_) (fun c8 => ?_)
  · replace h := ax_it c8 h
    refine ax_bk hK (ax_fc (ax_v_ld (ax_r_iload_n (i := 2) d_R_tableNumber_36 rfl)) ax_fn) (y := (37, [(2, .inl (.int (r2))), (1, .inl (.int ((s.1 0 27 ((s.1 0 25 3)).toNatClampNeg)))), (0, .inr (0, 25))], [.inl (.int (r2))], ax_m (s3) ρ)) rfl ⟨trivial, trivial⟩ ?_
    cases h
    exact ax_iret hA d_R_tableNumber_37
  · replace h := ax_if c8 h
    refine ax_bk hK (ax_fc (ax_v_ld (ax_r_aload_n (i := 0) d_R_tableNumber_30 rfl)) (ax_fc (ax_v_ld (ax_r_iload_n (i := 1) d_R_tableNumber_31 rfl)) (ax_fc (ax_v_pu (ax_r_iconst (v := 4) d_R_tableNumber_32 (by decide))) ax_fn))) (y := (33, [(2, .inl (.int (r2))), (1, .inl (.int ((s.1 0 27 ((s.1 0 25 3)).toNatClampNeg)))), (0, .inr (0, 25))], [.inl (.int ((4 : Int32))), .inl (.int ((s.1 0 27 ((s.1 0 25 3)).toNatClampNeg))), .inr (0, 25)], ax_m (s3) ρ)) rfl ⟨trivial, trivial, trivial, trivial⟩ ?_
    obtain ⟨s6, q7, h⟩ := ax_bd h
    refine ax_bV (rest := []) hB (t_R_note h0 hg hr q7) cw_R_100 im_R_note se_R_note d_R_tableNumber_33 (h0 25 rfl) rfl rfl (by decide) (by decide) rfl rfl (Nat.le_of_ble_eq_true rfl) ?_
    change ax_R G 3 0 0 (36, [(2, .inl (.int (r2))), (1, .inl (.int ((s.1 0 27 ((s.1 0 25 3)).toNatClampNeg)))), (0, .inr (0, 25))], [], ax_m (s6) ρ)
    refine ax_bk hK (ax_fc (ax_v_ld (ax_r_iload_n (i := 2) d_R_tableNumber_36 rfl)) ax_fn) (y := (37, [(2, .inl (.int (r2))), (1, .inl (.int ((s.1 0 27 ((s.1 0 25 3)).toNatClampNeg)))), (0, .inr (0, 25))], [.inl (.int (r2))], ax_m (s6) ρ)) rfl ⟨trivial, trivial⟩ ?_
    cases h
    exact ax_iret hA d_R_tableNumber_37
def y_R_rotations : MethodName := ⟨"CipherNotation$Reader", "rotations", "()I"⟩
theorem d_R_rotations_0 : decode prog_6_method_24_code 0 = .ok (.iconst 1, 1) := by decide +kernel
theorem d_R_rotations_1 : decode prog_6_method_24_code 1 = .ok (.istore_n 1, 1) := by decide +kernel
theorem d_R_rotations_2 : decode prog_6_method_24_code 2 = .ok (.iload_n 1, 1) := by decide +kernel
theorem d_R_rotations_3 : decode prog_6_method_24_code 3 = .ok (.iconst 5, 1) := by decide +kernel
theorem d_R_rotations_4 : decode prog_6_method_24_code 4 = .ok (.if_icmp .gt (56), 3) := by decide +kernel
theorem d_R_rotations_7 : decode prog_6_method_24_code 7 = .ok (.aload_n 0, 1) := by decide +kernel
theorem d_R_rotations_8 : decode prog_6_method_24_code 8 = .ok (.aload_n 0, 1) := by decide +kernel
theorem d_R_rotations_9 : decode prog_6_method_24_code 9 = .ok (.getfield (35), 3) := by decide +kernel
theorem d_R_rotations_12 : decode prog_6_method_24_code 12 = .ok (.getfield (107), 3) := by decide +kernel
theorem d_R_rotations_15 : decode prog_6_method_24_code 15 = .ok (.iconst 0, 1) := by decide +kernel
theorem d_R_rotations_16 : decode prog_6_method_24_code 16 = .ok (.iaload, 1) := by decide +kernel
theorem d_R_rotations_17 : decode prog_6_method_24_code 17 = .ok (.invokevirtual (111), 3) := by decide +kernel
theorem d_R_rotations_20 : decode prog_6_method_24_code 20 = .ok (.istore_n 2, 1) := by decide +kernel
theorem d_R_rotations_21 : decode prog_6_method_24_code 21 = .ok (.iload_n 2, 1) := by decide +kernel
theorem d_R_rotations_22 : decode prog_6_method_24_code 22 = .ok (.iconst (-1), 1) := by decide +kernel
theorem d_R_rotations_23 : decode prog_6_method_24_code 23 = .ok (.if_icmp .ne (5), 3) := by decide +kernel
theorem d_R_rotations_26 : decode prog_6_method_24_code 26 = .ok (.iconst (-1), 1) := by decide +kernel
theorem d_R_rotations_27 : decode prog_6_method_24_code 27 = .ok (.ireturn, 1) := by decide +kernel
theorem d_R_rotations_28 : decode prog_6_method_24_code 28 = .ok (.aload_n 0, 1) := by decide +kernel
theorem d_R_rotations_29 : decode prog_6_method_24_code 29 = .ok (.getfield (45), 3) := by decide +kernel
theorem d_R_rotations_32 : decode prog_6_method_24_code 32 = .ok (.iload_n 2, 1) := by decide +kernel
theorem d_R_rotations_33 : decode prog_6_method_24_code 33 = .ok (.i2l, 1) := by decide +kernel
theorem d_R_rotations_34 : decode prog_6_method_24_code 34 = .ok (.invokevirtual (217), 3) := by decide +kernel
theorem d_R_rotations_37 : decode prog_6_method_24_code 37 = .ok (.pop, 1) := by decide +kernel
theorem d_R_rotations_38 : decode prog_6_method_24_code 38 = .ok (.iload_n 1, 1) := by decide +kernel
theorem d_R_rotations_39 : decode prog_6_method_24_code 39 = .ok (.iconst 5, 1) := by decide +kernel
theorem d_R_rotations_40 : decode prog_6_method_24_code 40 = .ok (.if_icmp .eq (12), 3) := by decide +kernel
theorem d_R_rotations_43 : decode prog_6_method_24_code 43 = .ok (.aload_n 0, 1) := by decide +kernel
theorem d_R_rotations_44 : decode prog_6_method_24_code 44 = .ok (.bipush (44), 2) := by decide +kernel
theorem d_R_rotations_46 : decode prog_6_method_24_code 46 = .ok (.invokevirtual (115), 3) := by decide +kernel
theorem d_R_rotations_49 : decode prog_6_method_24_code 49 = .ok (.ifCond .ne (5), 3) := by decide +kernel
theorem d_R_rotations_52 : decode prog_6_method_24_code 52 = .ok (.iload_n 1, 1) := by decide +kernel
theorem d_R_rotations_53 : decode prog_6_method_24_code 53 = .ok (.ireturn, 1) := by decide +kernel
theorem d_R_rotations_54 : decode prog_6_method_24_code 54 = .ok (.iinc 1 (1), 3) := by decide +kernel
theorem d_R_rotations_57 : decode prog_6_method_24_code 57 = .ok (.goto (-55), 3) := by decide +kernel
theorem d_R_rotations_60 : decode prog_6_method_24_code 60 = .ok (.iconst (-1), 1) := by decide +kernel
theorem d_R_rotations_61 : decode prog_6_method_24_code 61 = .ok (.ireturn, 1) := by decide +kernel
set_option maxRecDepth 100000 in
theorem cw_R_217 : ax_cw "CipherNotation$Reader" 217 y_C_addConstant (.code y_C_addConstant prog_2_method_2_code 3 (some .int)) 1 := ⟨nw_3 21 (by decide +kernel) rfl, nw_1 5 (by decide +kernel) rfl, nw_3 24 rfl rfl, by decide +kernel, by decide +kernel⟩
theorem im_C_addConstant : Cond.instanceMethod y_C_addConstant ∈ ax_tbl := nw_3 22 (by decide +kernel) rfl
theorem se_C_addConstant : Cond.selects y_C_addConstant.cls y_C_addConstant y_C_addConstant ∈ ax_tbl := nw_3 23 (by decide +kernel) rfl
def lp_R_rotations_2 (F : Nat) (g : Nat) : Nat → Int32 → ax_σ → Option ((Int32 × ax_σ) ⊕ (ax_σ))
  | 0, _, _ => none
  | n + 1, x1, s =>
    if (5 : Int32) < x1 then
      some (.inr s)
    else
      bif ax_in (0 : Int32) 8 then
      Option.bind (f_R_takeNumber F g (s.1 g 1 ((0 : Int32)).toNatClampNeg) s) (fun (r2, s3) =>
        if r2 = (-1 : Int32) then
          some (.inl ((-1 : Int32), s3))
        else
          Option.bind (f_C_addConstant g ((r2).toInt64) s3) (fun (r5, s6) =>
            if x1 = (5 : Int32) then
              some (.inl (x1, s6))
            else
              Option.bind (f_R_take g (44 : Int32) s6) (fun (r8, s9) =>
                if r8 = (0 : Int32) then
                  some (.inl (x1, s9))
                else
                  lp_R_rotations_2 F g n (x1 + (1 : Int32)) s9)))
      else none
set_option maxHeartbeats 4000000 in
set_option maxRecDepth 100000 in
theorem pl_R_rotations_2 {D : va_G} {cA : Nat → ClassId} {ad : Nat → Nat → Nat} {al : List (Nat × Nat)} {θ : ax_Θ} {l : Launch} {ρ : ax_ρ} {G : ax_G} {F g : Nat}  (h0 : ax_M0 al) (hg : ax_Mg al g) (hr : ax_rd ρ g) (hB : ax_B D cA ad al θ l "CipherNotation$Reader" prog_6_method_24_code 3 3 G) : ∀ (n : Nat) {x1 : Int32} {s : ax_σ} (out : (Int32 × ax_σ) ⊕ (ax_σ)), lp_R_rotations_2 F g n x1 s = some out → (∀ (r0 : Int32) (s0 : ax_σ), out = .inl (r0, s0) → ax_At D cA ad al θ l "CipherNotation$Reader" prog_6_method_24_code 3 3 (some .int) (some (.inl (.int r0))) (ax_m s0 ρ) G) → (∀ (es : ax_σ), out = .inr es → ax_R G 3 0 0 (60, [], [], ax_m (es) ρ)) → ax_R G 3 0 0 (2, [(0, .inr (0, 25)), (1, .inl (.int (x1)))], [], ax_m (s) ρ) := by
  have hK := hB.K
  have hal := hB.la
  intro n
  induction n with
  | zero =>
    intro x1 s out h
    cases h
  | succ n ih =>
    intro x1 s out h RT KE
    rw [lp_R_rotations_2] at h
    refine ax_bk hK (ax_fc (ax_v_ld (ax_r_iload_n (i := 1) d_R_rotations_2 rfl)) (ax_fc (ax_v_pu (ax_r_iconst (v := 5) d_R_rotations_3 (by decide))) ax_fn)) (y := (4, [(0, .inr (0, 25)), (1, .inl (.int (x1)))], [.inl (.int ((5 : Int32))), .inl (.int (x1))], ax_m (s) ρ)) rfl ⟨trivial, trivial, trivial⟩ ?_
    refine ax_ic_gt (tgt := 60) hK d_R_rotations_4 (by decide) (fun c14 => ?_) (fun c14 => ?_)
    · replace h := ax_it c14 h
      cases h
      exact ax_Lsub [] rfl (KE _ rfl)
    · replace h := ax_if c14 h
      obtain ⟨b1, h⟩ := ax_gd h
      refine ax_bk hK (ax_fc (ax_v_ld (ax_r_aload_n (i := 0) d_R_rotations_7 rfl)) (ax_fc (ax_v_ld (ax_r_aload_n (i := 0) d_R_rotations_8 rfl)) (ax_fc (ax_w_gf (e := (some (g, 0))) hal d_R_rotations_9 fd_R_35) (ax_fc (ax_w_gf (e := none) hal d_R_rotations_12 fd_R_107) (ax_fc (ax_v_pu (ax_r_iconst (v := 0) d_R_rotations_15 (by decide))) (ax_fc (ax_w_iald hal d_R_rotations_16) ax_fn)))))) (y := (17, [(0, .inr (0, 25)), (1, .inl (.int (x1)))], [.inl (.int ((s.1 g 1 ((0 : Int32)).toNatClampNeg))), .inr (0, 25)], ax_m (s) ρ)) rfl ⟨trivial, trivial, ⟨(h0 25 rfl), hr.1⟩, (hg 0 rfl), trivial, ⟨(hg 1 rfl), ax_inp b1⟩, trivial⟩ ?_
      obtain ⟨⟨r2, s3⟩, q4, h⟩ := ax_bd h
      dsimp only at h
      refine ax_bV (rest := []) hB (t_R_takeNumber h0 hg hr q4) cw_R_111 im_R_takeNumber se_R_takeNumber d_R_rotations_17 (h0 25 rfl) rfl rfl (by decide) (by decide) rfl rfl (Nat.le_of_ble_eq_true rfl) ?_
      change ax_R G 3 0 0 (20, [(0, .inr (0, 25)), (1, .inl (.int (x1)))], [.inl (.int (r2))], ax_m (s3) ρ)
      refine ax_bk hK (ax_fc (ax_v_so (ax_r_istore_n (i := 2) d_R_rotations_20 rfl)) (ax_fc (ax_v_ld (ax_r_iload_n (i := 2) d_R_rotations_21 rfl)) (ax_fc (ax_v_pu (ax_r_iconst (v := -1) d_R_rotations_22 (by decide))) ax_fn))) (y := (23, [(2, .inl (.int (r2))), (0, .inr (0, 25)), (1, .inl (.int (x1)))], [.inl (.int ((-1 : Int32))), .inl (.int (r2))], ax_m (s3) ρ)) rfl ⟨trivial, trivial, trivial, trivial⟩ ?_
      refine ax_ic_ne (tgt := 28) hK d_R_rotations_23 (by decide) (fun c13 => ?_) (fun c13 => ?_)
      · replace h := ax_if c13 h
        refine ax_bk hK (ax_fc (ax_v_ld (ax_r_aload_n (i := 0) d_R_rotations_28 rfl)) (ax_fc (ax_w_gf (e := (some (g, 4))) hal d_R_rotations_29 fd_R_45) (ax_fc (ax_v_ld (ax_r_iload_n (i := 2) d_R_rotations_32 rfl)) (ax_fc (ax_v_pu (ax_r_i2l d_R_rotations_33)) ax_fn)))) (y := (34, [(2, .inl (.int (r2))), (0, .inr (0, 25)), (1, .inl (.int (x1)))], [.inl (.long ((r2).toInt64)), .inr (g, 4)], ax_m (s3) ρ)) rfl ⟨trivial, ⟨(h0 25 rfl), hr.2.1⟩, trivial, trivial, trivial⟩ ?_
        obtain ⟨⟨r5, s6⟩, q7, h⟩ := ax_bd h
        dsimp only at h
        refine ax_bV (rest := []) hB (t_C_addConstant hg q7) cw_R_217 im_C_addConstant se_C_addConstant d_R_rotations_34 (hg 4 rfl) rfl rfl (by decide) (by decide) rfl rfl (Nat.le_of_ble_eq_true rfl) ?_
        change ax_R G 3 0 0 (37, [(2, .inl (.int (r2))), (0, .inr (0, 25)), (1, .inl (.int (x1)))], [.inl (.int (r5))], ax_m (s6) ρ)
        refine ax_bk hK (ax_fc (ax_v_pu (ax_r_pop d_R_rotations_37)) (ax_fc (ax_v_ld (ax_r_iload_n (i := 1) d_R_rotations_38 rfl)) (ax_fc (ax_v_pu (ax_r_iconst (v := 5) d_R_rotations_39 (by decide))) ax_fn))) (y := (40, [(2, .inl (.int (r2))), (0, .inr (0, 25)), (1, .inl (.int (x1)))], [.inl (.int ((5 : Int32))), .inl (.int (x1))], ax_m (s6) ρ)) rfl ⟨trivial, trivial, trivial, trivial⟩ ?_
        refine ax_ic_eq (tgt := 52) hK d_R_rotations_40 (by decide) (fun c12 => ?_) (fun c12 => ?_)
        · replace h := ax_it c12 h
          refine ax_bk hK (ax_fc (ax_v_ld (ax_r_iload_n (i := 1) d_R_rotations_52 rfl)) ax_fn) (y := (53, [(2, .inl (.int (r2))), (0, .inr (0, 25)), (1, .inl (.int (x1)))], [.inl (.int (x1))], ax_m (s6) ρ)) rfl ⟨trivial, trivial⟩ ?_
          cases h
          exact ax_iret (RT _ _ rfl) d_R_rotations_53
        · replace h := ax_if c12 h
          refine ax_bk hK (ax_fc (ax_v_ld (ax_r_aload_n (i := 0) d_R_rotations_43 rfl)) (ax_fc (ax_v_pu (ax_r_bipush (v := 44) d_R_rotations_44 (by decide))) ax_fn)) (y := (46, [(2, .inl (.int (r2))), (0, .inr (0, 25)), (1, .inl (.int (x1)))], [.inl (.int ((44 : Int32))), .inr (0, 25)], ax_m (s6) ρ)) rfl ⟨trivial, trivial, trivial⟩ ?_
          obtain ⟨⟨r8, s9⟩, q10, h⟩ := ax_bd h
          dsimp only at h
          refine ax_bV (rest := []) hB (t_R_take h0 hg hr q10) cw_R_115 im_R_take se_R_take d_R_rotations_46 (h0 25 rfl) rfl rfl (by decide) (by decide) rfl rfl (Nat.le_of_ble_eq_true rfl) ?_
          change ax_R G 3 0 0 (49, [(2, .inl (.int (r2))), (0, .inr (0, 25)), (1, .inl (.int (x1)))], [.inl (.int (r8))], ax_m (s9) ρ)
          refine ax_if_ne (tgt := 54) hK d_R_rotations_49 (by decide) (fun c11 => ?_) (fun c11 => ?_)
          · replace h := ax_if c11 h
            refine ax_bk hK (ax_fc (ax_v_ii (d := 1) d_R_rotations_54 (by decide)) (ax_fc (ax_v_go (tgt := 2) d_R_rotations_57 (by decide)) ax_fn)) (y := (2, [(1, .inl (.int ((x1 + (1 : Int32))))), (2, .inl (.int (r2))), (0, .inr (0, 25))], [], ax_m (s9) ρ)) rfl ⟨trivial, trivial, trivial⟩ ?_
            exact ax_Lsub [2, 0] rfl (ih _ h RT KE)
          · replace h := ax_it c11 h
            refine ax_bk hK (ax_fc (ax_v_ld (ax_r_iload_n (i := 1) d_R_rotations_52 rfl)) ax_fn) (y := (53, [(2, .inl (.int (r2))), (0, .inr (0, 25)), (1, .inl (.int (x1)))], [.inl (.int (x1))], ax_m (s9) ρ)) rfl ⟨trivial, trivial⟩ ?_
            cases h
            exact ax_iret (RT _ _ rfl) d_R_rotations_53
      · replace h := ax_it c13 h
        refine ax_bk hK (ax_fc (ax_v_pu (ax_r_iconst (v := -1) d_R_rotations_26 (by decide))) ax_fn) (y := (27, [(2, .inl (.int (r2))), (0, .inr (0, 25)), (1, .inl (.int (x1)))], [.inl (.int ((-1 : Int32)))], ax_m (s3) ρ)) rfl ⟨trivial, trivial⟩ ?_
        cases h
        exact ax_iret (RT _ _ rfl) d_R_rotations_27
def f_R_rotations (F : Nat) (g : Nat) (s : ax_σ) : Option (Int32 × ax_σ) :=
  Option.bind (lp_R_rotations_2 F g F (1 : Int32) s) (fun w => match w with
    | .inl w => some w
    | .inr s15 =>
      some (((-1 : Int32), s15)))
set_option maxHeartbeats 4000000 in
set_option maxRecDepth 100000 in
theorem t_R_rotations {l : Launch} {D : va_G} {cA : Nat → ClassId} {ad : Nat → Nat → Nat} {al : List (Nat × Nat)} {θ : ax_Θ} {ρ : ax_ρ} {F : Nat} {g : Nat} (h0 : ax_M0 al) (hg : ax_Mg al g) (hr : ax_rd ρ g)  {s : ax_σ} {r0 : Int32} {s0 : ax_σ} (h : f_R_rotations F g s = some (r0, s0)) : ax_T l D cA ad al θ y_R_rotations (.code y_R_rotations prog_6_method_24_code 3 (some .int)) 3 [.inr (0, 25)] (ax_m s ρ) (some (.inl (.int r0))) (ax_m s0 ρ) := by
  refine ax_T_of (own := "CipherNotation$Reader") (by decide) rfl (Nat.le_of_ble_eq_true rfl) [(0, .inr (0, 25))] rfl ?_
  intro G hA
  have hB := hA.B
  have hK := hB.K
  have hal := hB.la
  unfold f_R_rotations at h
  refine ax_bk hK (ax_fc (ax_v_pu (ax_r_iconst (v := 1) d_R_rotations_0 (by decide))) (ax_fc (ax_v_so (ax_r_istore_n (i := 1) d_R_rotations_1 rfl)) ax_fn)) (y := (2, [(1, .inl (.int ((1 : Int32)))), (0, .inr (0, 25))], [], ax_m (s) ρ)) rfl ⟨trivial, trivial, trivial⟩ ?_
  obtain ⟨w16, hw16, h⟩ := ax_bd h
  have RTw16 : ∀ (r0 : Int32) (s0 : ax_σ), w16 = .inl (r0, s0) → ax_At D cA ad al θ l "CipherNotation$Reader" prog_6_method_24_code 3 3 (some .int) (some (.inl (.int r0))) (ax_m s0 ρ) G := by
    intro r0 s0 e9
    subst w16
    try dsimp only at h
    cases h
    exact hA
  refine ax_Lsub [1, 0] rfl (pl_R_rotations_2 h0 hg hr hB F _ hw16 RTw16 ?_)
  intro s15 e9
  subst w16
  try dsimp only at h
  change ax_R G 3 0 0 (60, [], [], ax_m (s15) ρ)
  refine ax_bk hK (ax_fc (ax_v_pu (ax_r_iconst (v := -1) d_R_rotations_60 (by decide))) ax_fn) (y := (61, [], [.inl (.int ((-1 : Int32)))], ax_m (s15) ρ)) rfl ⟨trivial, trivial⟩ ?_
  cases h
  exact ax_iret hA d_R_rotations_61
def y_R_canBeUndone : MethodName := ⟨"CipherNotation$Reader", "canBeUndone", "(I)Z"⟩
theorem d_R_canBeUndone_0 : decode prog_6_method_25_code 0 = .ok (.aload_n 0, 1) := by decide +kernel
theorem d_R_canBeUndone_1 : decode prog_6_method_25_code 1 = .ok (.getfield (50), 3) := by decide +kernel
theorem d_R_canBeUndone_4 : decode prog_6_method_25_code 4 = .ok (.getfield (161), 3) := by decide +kernel
theorem d_R_canBeUndone_7 : decode prog_6_method_25_code 7 = .ok (.iload_n 1, 1) := by decide +kernel
theorem d_R_canBeUndone_8 : decode prog_6_method_25_code 8 = .ok (.iaload, 1) := by decide +kernel
theorem d_R_canBeUndone_9 : decode prog_6_method_25_code 9 = .ok (.istore_n 2, 1) := by decide +kernel
theorem d_R_canBeUndone_10 : decode prog_6_method_25_code 10 = .ok (.aload_n 0, 1) := by decide +kernel
theorem d_R_canBeUndone_11 : decode prog_6_method_25_code 11 = .ok (.getfield (50), 3) := by decide +kernel
theorem d_R_canBeUndone_14 : decode prog_6_method_25_code 14 = .ok (.getfield (180), 3) := by decide +kernel
theorem d_R_canBeUndone_17 : decode prog_6_method_25_code 17 = .ok (.iload_n 1, 1) := by decide +kernel
theorem d_R_canBeUndone_18 : decode prog_6_method_25_code 18 = .ok (.iaload, 1) := by decide +kernel
theorem d_R_canBeUndone_19 : decode prog_6_method_25_code 19 = .ok (.istore_n 3, 1) := by decide +kernel
theorem d_R_canBeUndone_20 : decode prog_6_method_25_code 20 = .ok (.aload_n 0, 1) := by decide +kernel
theorem d_R_canBeUndone_21 : decode prog_6_method_25_code 21 = .ok (.getfield (50), 3) := by decide +kernel
theorem d_R_canBeUndone_24 : decode prog_6_method_25_code 24 = .ok (.getfield (214), 3) := by decide +kernel
theorem d_R_canBeUndone_27 : decode prog_6_method_25_code 27 = .ok (.iload_n 1, 1) := by decide +kernel
theorem d_R_canBeUndone_28 : decode prog_6_method_25_code 28 = .ok (.iaload, 1) := by decide +kernel
theorem d_R_canBeUndone_29 : decode prog_6_method_25_code 29 = .ok (.lookupswitch (143) #[(35, 113), (42, 89), (43, 67), (45, 67), (64, 89), (94, 67), (119, 102)], 67) := by decide +kernel
theorem d_R_canBeUndone_96 : decode prog_6_method_25_code 96 = .ok (.aload_n 0, 1) := by decide +kernel
theorem d_R_canBeUndone_97 : decode prog_6_method_25_code 97 = .ok (.getfield (45), 3) := by decide +kernel
theorem d_R_canBeUndone_100 : decode prog_6_method_25_code 100 = .ok (.getfield (221), 3) := by decide +kernel
theorem d_R_canBeUndone_103 : decode prog_6_method_25_code 103 = .ok (.iload_n 3, 1) := by decide +kernel
theorem d_R_canBeUndone_104 : decode prog_6_method_25_code 104 = .ok (.iaload, 1) := by decide +kernel
theorem d_R_canBeUndone_105 : decode prog_6_method_25_code 105 = .ok (.iconst 1, 1) := by decide +kernel
theorem d_R_canBeUndone_106 : decode prog_6_method_25_code 106 = .ok (.iload_n 2, 1) := by decide +kernel
theorem d_R_canBeUndone_107 : decode prog_6_method_25_code 107 = .ok (.ishl, 1) := by decide +kernel
theorem d_R_canBeUndone_108 : decode prog_6_method_25_code 108 = .ok (.iand, 1) := by decide +kernel
theorem d_R_canBeUndone_109 : decode prog_6_method_25_code 109 = .ok (.ifCond .ne (7), 3) := by decide +kernel
theorem d_R_canBeUndone_112 : decode prog_6_method_25_code 112 = .ok (.iconst 1, 1) := by decide +kernel
theorem d_R_canBeUndone_113 : decode prog_6_method_25_code 113 = .ok (.goto (4), 3) := by decide +kernel
theorem d_R_canBeUndone_116 : decode prog_6_method_25_code 116 = .ok (.iconst 0, 1) := by decide +kernel
theorem d_R_canBeUndone_117 : decode prog_6_method_25_code 117 = .ok (.ireturn, 1) := by decide +kernel
theorem d_R_canBeUndone_118 : decode prog_6_method_25_code 118 = .ok (.iload_n 3, 1) := by decide +kernel
theorem d_R_canBeUndone_119 : decode prog_6_method_25_code 119 = .ok (.iconst 2, 1) := by decide +kernel
theorem d_R_canBeUndone_120 : decode prog_6_method_25_code 120 = .ok (.irem, 1) := by decide +kernel
theorem d_R_canBeUndone_121 : decode prog_6_method_25_code 121 = .ok (.iconst 1, 1) := by decide +kernel
theorem d_R_canBeUndone_122 : decode prog_6_method_25_code 122 = .ok (.if_icmp .ne (7), 3) := by decide +kernel
theorem d_R_canBeUndone_125 : decode prog_6_method_25_code 125 = .ok (.iconst 1, 1) := by decide +kernel
theorem d_R_canBeUndone_126 : decode prog_6_method_25_code 126 = .ok (.goto (4), 3) := by decide +kernel
theorem d_R_canBeUndone_129 : decode prog_6_method_25_code 129 = .ok (.iconst 0, 1) := by decide +kernel
theorem d_R_canBeUndone_130 : decode prog_6_method_25_code 130 = .ok (.ireturn, 1) := by decide +kernel
theorem d_R_canBeUndone_131 : decode prog_6_method_25_code 131 = .ok (.iload_n 3, 1) := by decide +kernel
theorem d_R_canBeUndone_132 : decode prog_6_method_25_code 132 = .ok (.iload_n 2, 1) := by decide +kernel
theorem d_R_canBeUndone_133 : decode prog_6_method_25_code 133 = .ok (.if_icmp .eq (7), 3) := by decide +kernel
theorem d_R_canBeUndone_136 : decode prog_6_method_25_code 136 = .ok (.iconst 1, 1) := by decide +kernel
theorem d_R_canBeUndone_137 : decode prog_6_method_25_code 137 = .ok (.goto (4), 3) := by decide +kernel
theorem d_R_canBeUndone_140 : decode prog_6_method_25_code 140 = .ok (.iconst 0, 1) := by decide +kernel
theorem d_R_canBeUndone_141 : decode prog_6_method_25_code 141 = .ok (.ireturn, 1) := by decide +kernel
theorem d_R_canBeUndone_142 : decode prog_6_method_25_code 142 = .ok (.iload_n 3, 1) := by decide +kernel
theorem d_R_canBeUndone_143 : decode prog_6_method_25_code 143 = .ok (.aload_n 0, 1) := by decide +kernel
theorem d_R_canBeUndone_144 : decode prog_6_method_25_code 144 = .ok (.getfield (35), 3) := by decide +kernel
theorem d_R_canBeUndone_147 : decode prog_6_method_25_code 147 = .ok (.getfield (107), 3) := by decide +kernel
theorem d_R_canBeUndone_150 : decode prog_6_method_25_code 150 = .ok (.iconst 3, 1) := by decide +kernel
theorem d_R_canBeUndone_151 : decode prog_6_method_25_code 151 = .ok (.iaload, 1) := by decide +kernel
theorem d_R_canBeUndone_152 : decode prog_6_method_25_code 152 = .ok (.if_icmp .ge (14), 3) := by decide +kernel
theorem d_R_canBeUndone_155 : decode prog_6_method_25_code 155 = .ok (.aload_n 0, 1) := by decide +kernel
theorem d_R_canBeUndone_156 : decode prog_6_method_25_code 156 = .ok (.getfield (35), 3) := by decide +kernel
theorem d_R_canBeUndone_159 : decode prog_6_method_25_code 159 = .ok (.iload_n 3, 1) := by decide +kernel
theorem d_R_canBeUndone_160 : decode prog_6_method_25_code 160 = .ok (.invokevirtual (224), 3) := by decide +kernel
theorem d_R_canBeUndone_163 : decode prog_6_method_25_code 163 = .ok (.ifCond .eq (7), 3) := by decide +kernel
theorem d_R_canBeUndone_166 : decode prog_6_method_25_code 166 = .ok (.iconst 1, 1) := by decide +kernel
theorem d_R_canBeUndone_167 : decode prog_6_method_25_code 167 = .ok (.goto (4), 3) := by decide +kernel
theorem d_R_canBeUndone_170 : decode prog_6_method_25_code 170 = .ok (.iconst 0, 1) := by decide +kernel
theorem d_R_canBeUndone_171 : decode prog_6_method_25_code 171 = .ok (.ireturn, 1) := by decide +kernel
theorem d_R_canBeUndone_172 : decode prog_6_method_25_code 172 = .ok (.iconst 1, 1) := by decide +kernel
theorem d_R_canBeUndone_173 : decode prog_6_method_25_code 173 = .ok (.ireturn, 1) := by decide +kernel
set_option maxRecDepth 100000 in
theorem cw_R_224 : ax_cw "CipherNotation$Reader" 224 y_P_canTableBeUndone (.code y_P_canTableBeUndone prog_5_method_5_code 3 (some .boolean)) 1 := ⟨nw_3 66 (by decide +kernel) rfl, nw_1 4 (by decide +kernel) rfl, nw_3 69 rfl rfl, by decide +kernel, by decide +kernel⟩
theorem im_P_canTableBeUndone : Cond.instanceMethod y_P_canTableBeUndone ∈ ax_tbl := nw_3 67 (by decide +kernel) rfl
theorem se_P_canTableBeUndone : Cond.selects y_P_canTableBeUndone.cls y_P_canTableBeUndone y_P_canTableBeUndone ∈ ax_tbl := nw_3 68 (by decide +kernel) rfl
theorem fd_R_221 : ax_fd "CipherNotation$Reader" 221 0 5 := ⟨nC0, nT0, 9, nY0, rfl, nW0, by decide, nw_1 147 (by decide +kernel) rfl, nO0, nA0⟩
def f_R_canBeUndone (F : Nat) (g : Nat) (a1 : Int32) (s : ax_σ) : Option (Int32) :=
  bif ax_in a1 120 then
  bif ax_in a1 120 then
  bif ax_in a1 120 then
  if (s.1 g 14 (a1).toNatClampNeg) = (35 : Int32) then
    bif ax_in (3 : Int32) 8 then
    Option.bind (
      if (s.1 g 1 ((3 : Int32)).toNatClampNeg) ≤ (s.1 g 16 (a1).toNatClampNeg) then
        some true
      else
        Option.bind (f_P_canTableBeUndone F g (s.1 g 16 (a1).toNatClampNeg) s) (fun r5 =>
          if r5 = (0 : Int32) then
            some false
          else
            some true)) (fun w9 => bif w9 then
      some ((1 : Int32))
    else
      some ((0 : Int32)))
    else none
  else
  if (s.1 g 14 (a1).toNatClampNeg) = (42 : Int32) then
    if ((s.1 g 16 (a1).toNatClampNeg) - (s.1 g 16 (a1).toNatClampNeg) / (2 : Int32) * (2 : Int32)) = (1 : Int32) then
      some ((1 : Int32))
    else
      some ((0 : Int32))
  else
  if (s.1 g 14 (a1).toNatClampNeg) = (43 : Int32) then
    bif ax_in (s.1 g 16 (a1).toNatClampNeg) 240 then
    if ((s.1 g 10 ((s.1 g 16 (a1).toNatClampNeg)).toNatClampNeg) &&& ((1 : Int32) <<< ((s.1 g 15 (a1).toNatClampNeg) &&& 31))) = (0 : Int32) then
      some ((1 : Int32))
    else
      some ((0 : Int32))
    else none
  else
  if (s.1 g 14 (a1).toNatClampNeg) = (45 : Int32) then
    bif ax_in (s.1 g 16 (a1).toNatClampNeg) 240 then
    if ((s.1 g 10 ((s.1 g 16 (a1).toNatClampNeg)).toNatClampNeg) &&& ((1 : Int32) <<< ((s.1 g 15 (a1).toNatClampNeg) &&& 31))) = (0 : Int32) then
      some ((1 : Int32))
    else
      some ((0 : Int32))
    else none
  else
  if (s.1 g 14 (a1).toNatClampNeg) = (64 : Int32) then
    if ((s.1 g 16 (a1).toNatClampNeg) - (s.1 g 16 (a1).toNatClampNeg) / (2 : Int32) * (2 : Int32)) = (1 : Int32) then
      some ((1 : Int32))
    else
      some ((0 : Int32))
  else
  if (s.1 g 14 (a1).toNatClampNeg) = (94 : Int32) then
    bif ax_in (s.1 g 16 (a1).toNatClampNeg) 240 then
    if ((s.1 g 10 ((s.1 g 16 (a1).toNatClampNeg)).toNatClampNeg) &&& ((1 : Int32) <<< ((s.1 g 15 (a1).toNatClampNeg) &&& 31))) = (0 : Int32) then
      some ((1 : Int32))
    else
      some ((0 : Int32))
    else none
  else
  if (s.1 g 14 (a1).toNatClampNeg) = (119 : Int32) then
    if (s.1 g 16 (a1).toNatClampNeg) = (s.1 g 15 (a1).toNatClampNeg) then
      some ((0 : Int32))
    else
      some ((1 : Int32))
  else
    some ((1 : Int32))
  else none
  else none
  else none
set_option maxHeartbeats 4000000 in
set_option maxRecDepth 100000 in
theorem t_R_canBeUndone {l : Launch} {D : va_G} {cA : Nat → ClassId} {ad : Nat → Nat → Nat} {al : List (Nat × Nat)} {θ : ax_Θ} {ρ : ax_ρ} {F : Nat} {g : Nat} (h0 : ax_M0 al) (hg : ax_Mg al g) (hr : ax_rd ρ g) {a1 : Int32} {s : ax_σ} {r0 : Int32} (h : f_R_canBeUndone F g a1 s = some r0) : ax_T l D cA ad al θ y_R_canBeUndone (.code y_R_canBeUndone prog_6_method_25_code 4 (some .boolean)) 1 [.inr (0, 25), .inl (.int (a1))] (ax_m s ρ) (some (.inl (.int r0))) (ax_m s ρ) := by
  refine ax_T_of (own := "CipherNotation$Reader") (by decide) rfl (Nat.le_of_ble_eq_true rfl) [(0, .inr (0, 25)), (1, .inl (.int (a1)))] rfl ?_
  intro G hA
  have hB := hA.B
  have hK := hB.K
  have hal := hB.la
  unfold f_R_canBeUndone at h
  obtain ⟨b1, h⟩ := ax_gd h
  obtain ⟨b2, h⟩ := ax_gd h
  obtain ⟨b3, h⟩ := ax_gd h
  refine ax_bk hK (ax_fc (ax_v_ld (ax_r_aload_n (i := 0) d_R_canBeUndone_0 rfl)) (ax_fc (ax_w_gf (e := (some (g, 13))) hal d_R_canBeUndone_1 fd_R_50) (ax_fc (ax_w_gf (e := none) hal d_R_canBeUndone_4 fd_R_161) (ax_fc (ax_v_ld (ax_r_iload_n (i := 1) d_R_canBeUndone_7 rfl)) (ax_fc (ax_w_iald hal d_R_canBeUndone_8) (ax_fc (ax_v_so (ax_r_istore_n (i := 2) d_R_canBeUndone_9 rfl)) (ax_fc (ax_v_ld (ax_r_aload_n (i := 0) d_R_canBeUndone_10 rfl)) (ax_fc (ax_w_gf (e := (some (g, 13))) hal d_R_canBeUndone_11 fd_R_50) (ax_fc (ax_w_gf (e := none) hal d_R_canBeUndone_14 fd_R_180) (ax_fc (ax_v_ld (ax_r_iload_n (i := 1) d_R_canBeUndone_17 rfl)) (ax_fc (ax_w_iald hal d_R_canBeUndone_18) (ax_fc (ax_v_so (ax_r_istore_n (i := 3) d_R_canBeUndone_19 rfl)) (ax_fc (ax_v_ld (ax_r_aload_n (i := 0) d_R_canBeUndone_20 rfl)) (ax_fc (ax_w_gf (e := (some (g, 13))) hal d_R_canBeUndone_21 fd_R_50) (ax_fc (ax_w_gf (e := none) hal d_R_canBeUndone_24 fd_R_214) (ax_fc (ax_v_ld (ax_r_iload_n (i := 1) d_R_canBeUndone_27 rfl)) (ax_fc (ax_w_iald hal d_R_canBeUndone_28) ax_fn))))))))))))))))) (y := (29, [(3, .inl (.int ((s.1 g 16 (a1).toNatClampNeg)))), (2, .inl (.int ((s.1 g 15 (a1).toNatClampNeg)))), (0, .inr (0, 25)), (1, .inl (.int (a1)))], [.inl (.int ((s.1 g 14 (a1).toNatClampNeg)))], ax_m (s) ρ)) rfl ⟨trivial, ⟨(h0 25 rfl), hr.2.2⟩, (hg 13 rfl), trivial, ⟨(hg 15 rfl), ax_inp b1⟩, trivial, trivial, ⟨(h0 25 rfl), hr.2.2⟩, (hg 13 rfl), trivial, ⟨(hg 16 rfl), ax_inp b2⟩, trivial, trivial, ⟨(h0 25 rfl), hr.2.2⟩, (hg 13 rfl), trivial, ⟨(hg 14 rfl), ax_inp b3⟩, trivial⟩ ?_
  refine ax_lsw (d := 172) (ks := [(35, 142), (42, 118), (43, 96), (45, 96), (64, 118), (94, 96), (119, 131)]) hK d_R_canBeUndone_29 (by decide) (by decide) (by decide) ?_
  refine And.intro (fun c19 => ?_) (fun c19 => ?_)
  · replace h := ax_it c19 h
    change ax_R G 4 0 0 (142, [(3, .inl (.int ((s.1 g 16 (a1).toNatClampNeg)))), (2, .inl (.int ((s.1 g 15 (a1).toNatClampNeg)))), (0, .inr (0, 25)), (1, .inl (.int (a1)))], [], ax_m (s) ρ)
    obtain ⟨b4, h⟩ := ax_gd h
    refine ax_bk hK (ax_fc (ax_v_ld (ax_r_iload_n (i := 3) d_R_canBeUndone_142 rfl)) (ax_fc (ax_v_ld (ax_r_aload_n (i := 0) d_R_canBeUndone_143 rfl)) (ax_fc (ax_w_gf (e := (some (g, 0))) hal d_R_canBeUndone_144 fd_R_35) (ax_fc (ax_w_gf (e := none) hal d_R_canBeUndone_147 fd_R_107) (ax_fc (ax_v_pu (ax_r_iconst (v := 3) d_R_canBeUndone_150 (by decide))) (ax_fc (ax_w_iald hal d_R_canBeUndone_151) ax_fn)))))) (y := (152, [(3, .inl (.int ((s.1 g 16 (a1).toNatClampNeg)))), (2, .inl (.int ((s.1 g 15 (a1).toNatClampNeg)))), (0, .inr (0, 25)), (1, .inl (.int (a1)))], [.inl (.int ((s.1 g 1 ((3 : Int32)).toNatClampNeg))), .inl (.int ((s.1 g 16 (a1).toNatClampNeg)))], ax_m (s) ρ)) rfl ⟨trivial, trivial, ⟨(h0 25 rfl), hr.1⟩, (hg 0 rfl), trivial, ⟨(hg 1 rfl), ax_inp b4⟩, trivial⟩ ?_
    obtain ⟨w9, hw9, h⟩ := ax_bd h
    have KTw9 : w9 = true → ax_R G 4 0 0 (166, [], [], ax_m (s) ρ) := by
      intro e9
      subst w9
      replace h := ax_ct h
      refine ax_bk hK (ax_fc (ax_v_pu (ax_r_iconst (v := 1) d_R_canBeUndone_166 (by decide))) (ax_fc (ax_v_go (tgt := 171) d_R_canBeUndone_167 (by decide)) ax_fn)) (y := (171, [], [.inl (.int ((1 : Int32)))], ax_m (s) ρ)) rfl ⟨trivial, trivial, trivial⟩ ?_
      cases h
      exact ax_zret hA (by decide) d_R_canBeUndone_171
    have KFw9 : w9 = false → ax_R G 4 0 0 (170, [], [], ax_m (s) ρ) := by
      intro e9
      subst w9
      replace h := ax_cf h
      refine ax_bk hK (ax_fc (ax_v_pu (ax_r_iconst (v := 0) d_R_canBeUndone_170 (by decide))) ax_fn) (y := (171, [], [.inl (.int ((0 : Int32)))], ax_m (s) ρ)) rfl ⟨trivial, trivial⟩ ?_
      cases h
      exact ax_zret hA (by decide) d_R_canBeUndone_171
    clear h
    have h := hw9
    refine ax_ic_ge (tgt := 166) hK d_R_canBeUndone_152 (by decide) (fun c8 => ?_) (fun c8 => ?_)
    · replace h := ax_it c8 h
      cases h
      exact ax_Lsub [] rfl (KTw9 rfl)
    · replace h := ax_if c8 h
      refine ax_bk hK (ax_fc (ax_v_ld (ax_r_aload_n (i := 0) d_R_canBeUndone_155 rfl)) (ax_fc (ax_w_gf (e := (some (g, 0))) hal d_R_canBeUndone_156 fd_R_35) (ax_fc (ax_v_ld (ax_r_iload_n (i := 3) d_R_canBeUndone_159 rfl)) ax_fn))) (y := (160, [(3, .inl (.int ((s.1 g 16 (a1).toNatClampNeg)))), (2, .inl (.int ((s.1 g 15 (a1).toNatClampNeg)))), (0, .inr (0, 25)), (1, .inl (.int (a1)))], [.inl (.int ((s.1 g 16 (a1).toNatClampNeg))), .inr (g, 0)], ax_m (s) ρ)) rfl ⟨trivial, ⟨(h0 25 rfl), hr.1⟩, trivial, trivial⟩ ?_
      obtain ⟨r5, q6, h⟩ := ax_bd h
      refine ax_bV (rest := []) hB (t_P_canTableBeUndone hg q6) cw_R_224 im_P_canTableBeUndone se_P_canTableBeUndone d_R_canBeUndone_160 (hg 0 rfl) rfl rfl (by decide) (by decide) rfl rfl (Nat.le_of_ble_eq_true rfl) ?_
      change ax_R G 4 0 0 (163, [(3, .inl (.int ((s.1 g 16 (a1).toNatClampNeg)))), (2, .inl (.int ((s.1 g 15 (a1).toNatClampNeg)))), (0, .inr (0, 25)), (1, .inl (.int (a1)))], [.inl (.int (r5))], ax_m (s) ρ)
      refine ax_if_eq (tgt := 170) hK d_R_canBeUndone_163 (by decide) (fun c7 => ?_) (fun c7 => ?_)
      · replace h := ax_it c7 h
        cases h
        exact ax_Lsub [] rfl (KFw9 rfl)
      · replace h := ax_if c7 h
        cases h
        exact ax_Lsub [] rfl (KTw9 rfl)
  replace h := ax_if c19 h
  refine And.intro (fun c19 => ?_) (fun c19 => ?_)
  · replace h := ax_it c19 h
    change ax_R G 4 0 0 (118, [(3, .inl (.int ((s.1 g 16 (a1).toNatClampNeg)))), (2, .inl (.int ((s.1 g 15 (a1).toNatClampNeg)))), (0, .inr (0, 25)), (1, .inl (.int (a1)))], [], ax_m (s) ρ)
    refine ax_bk hK (ax_fc (ax_v_ld (ax_r_iload_n (i := 3) d_R_canBeUndone_118 rfl)) (ax_fc (ax_v_pu (ax_r_iconst (v := 2) d_R_canBeUndone_119 (by decide))) (ax_fc (ax_v_irem d_R_canBeUndone_120) (ax_fc (ax_v_pu (ax_r_iconst (v := 1) d_R_canBeUndone_121 (by decide))) ax_fn)))) (y := (122, [(3, .inl (.int ((s.1 g 16 (a1).toNatClampNeg)))), (2, .inl (.int ((s.1 g 15 (a1).toNatClampNeg)))), (0, .inr (0, 25)), (1, .inl (.int (a1)))], [.inl (.int ((1 : Int32))), .inl (.int (((s.1 g 16 (a1).toNatClampNeg) - (s.1 g 16 (a1).toNatClampNeg) / (2 : Int32) * (2 : Int32))))], ax_m (s) ρ)) rfl ⟨trivial, trivial, (by decide), trivial, trivial⟩ ?_
    refine ax_ic_ne (tgt := 129) hK d_R_canBeUndone_122 (by decide) (fun c10 => ?_) (fun c10 => ?_)
    · replace h := ax_if c10 h
      refine ax_bk hK (ax_fc (ax_v_pu (ax_r_iconst (v := 0) d_R_canBeUndone_129 (by decide))) ax_fn) (y := (130, [(3, .inl (.int ((s.1 g 16 (a1).toNatClampNeg)))), (2, .inl (.int ((s.1 g 15 (a1).toNatClampNeg)))), (0, .inr (0, 25)), (1, .inl (.int (a1)))], [.inl (.int ((0 : Int32)))], ax_m (s) ρ)) rfl ⟨trivial, trivial⟩ ?_
      cases h
      exact ax_zret hA (by decide) d_R_canBeUndone_130
    · replace h := ax_it c10 h
      refine ax_bk hK (ax_fc (ax_v_pu (ax_r_iconst (v := 1) d_R_canBeUndone_125 (by decide))) (ax_fc (ax_v_go (tgt := 130) d_R_canBeUndone_126 (by decide)) ax_fn)) (y := (130, [(3, .inl (.int ((s.1 g 16 (a1).toNatClampNeg)))), (2, .inl (.int ((s.1 g 15 (a1).toNatClampNeg)))), (0, .inr (0, 25)), (1, .inl (.int (a1)))], [.inl (.int ((1 : Int32)))], ax_m (s) ρ)) rfl ⟨trivial, trivial, trivial⟩ ?_
      cases h
      exact ax_zret hA (by decide) d_R_canBeUndone_130
  replace h := ax_if c19 h
  refine And.intro (fun c19 => ?_) (fun c19 => ?_)
  · replace h := ax_it c19 h
    change ax_R G 4 0 0 (96, [(3, .inl (.int ((s.1 g 16 (a1).toNatClampNeg)))), (2, .inl (.int ((s.1 g 15 (a1).toNatClampNeg)))), (0, .inr (0, 25)), (1, .inl (.int (a1)))], [], ax_m (s) ρ)
    obtain ⟨b11, h⟩ := ax_gd h
    refine ax_bk hK (ax_fc (ax_v_ld (ax_r_aload_n (i := 0) d_R_canBeUndone_96 rfl)) (ax_fc (ax_w_gf (e := (some (g, 4))) hal d_R_canBeUndone_97 fd_R_45) (ax_fc (ax_w_gf (e := none) hal d_R_canBeUndone_100 fd_R_221) (ax_fc (ax_v_ld (ax_r_iload_n (i := 3) d_R_canBeUndone_103 rfl)) (ax_fc (ax_w_iald hal d_R_canBeUndone_104) (ax_fc (ax_v_pu (ax_r_iconst (v := 1) d_R_canBeUndone_105 (by decide))) (ax_fc (ax_v_ld (ax_r_iload_n (i := 2) d_R_canBeUndone_106 rfl)) (ax_fc (ax_v_pu (ax_r_ishl d_R_canBeUndone_107)) (ax_fc (ax_v_pu (ax_r_iand d_R_canBeUndone_108)) ax_fn))))))))) (y := (109, [(3, .inl (.int ((s.1 g 16 (a1).toNatClampNeg)))), (2, .inl (.int ((s.1 g 15 (a1).toNatClampNeg)))), (0, .inr (0, 25)), (1, .inl (.int (a1)))], [.inl (.int (((s.1 g 10 ((s.1 g 16 (a1).toNatClampNeg)).toNatClampNeg) &&& ((1 : Int32) <<< ((s.1 g 15 (a1).toNatClampNeg) &&& 31)))))], ax_m (s) ρ)) rfl ⟨trivial, ⟨(h0 25 rfl), hr.2.1⟩, (hg 4 rfl), trivial, ⟨(hg 10 rfl), ax_inp b11⟩, trivial, trivial, trivial, trivial, trivial⟩ ?_
    refine ax_if_ne (tgt := 116) hK d_R_canBeUndone_109 (by decide) (fun c12 => ?_) (fun c12 => ?_)
    · replace h := ax_if c12 h
      refine ax_bk hK (ax_fc (ax_v_pu (ax_r_iconst (v := 0) d_R_canBeUndone_116 (by decide))) ax_fn) (y := (117, [(3, .inl (.int ((s.1 g 16 (a1).toNatClampNeg)))), (2, .inl (.int ((s.1 g 15 (a1).toNatClampNeg)))), (0, .inr (0, 25)), (1, .inl (.int (a1)))], [.inl (.int ((0 : Int32)))], ax_m (s) ρ)) rfl ⟨trivial, trivial⟩ ?_
      cases h
      exact ax_zret hA (by decide) d_R_canBeUndone_117
    · replace h := ax_it c12 h
      refine ax_bk hK (ax_fc (ax_v_pu (ax_r_iconst (v := 1) d_R_canBeUndone_112 (by decide))) (ax_fc (ax_v_go (tgt := 117) d_R_canBeUndone_113 (by decide)) ax_fn)) (y := (117, [(3, .inl (.int ((s.1 g 16 (a1).toNatClampNeg)))), (2, .inl (.int ((s.1 g 15 (a1).toNatClampNeg)))), (0, .inr (0, 25)), (1, .inl (.int (a1)))], [.inl (.int ((1 : Int32)))], ax_m (s) ρ)) rfl ⟨trivial, trivial, trivial⟩ ?_
      cases h
      exact ax_zret hA (by decide) d_R_canBeUndone_117
  replace h := ax_if c19 h
  refine And.intro (fun c19 => ?_) (fun c19 => ?_)
  · replace h := ax_it c19 h
    change ax_R G 4 0 0 (96, [(3, .inl (.int ((s.1 g 16 (a1).toNatClampNeg)))), (2, .inl (.int ((s.1 g 15 (a1).toNatClampNeg)))), (0, .inr (0, 25)), (1, .inl (.int (a1)))], [], ax_m (s) ρ)
    obtain ⟨b13, h⟩ := ax_gd h
    refine ax_bk hK (ax_fc (ax_v_ld (ax_r_aload_n (i := 0) d_R_canBeUndone_96 rfl)) (ax_fc (ax_w_gf (e := (some (g, 4))) hal d_R_canBeUndone_97 fd_R_45) (ax_fc (ax_w_gf (e := none) hal d_R_canBeUndone_100 fd_R_221) (ax_fc (ax_v_ld (ax_r_iload_n (i := 3) d_R_canBeUndone_103 rfl)) (ax_fc (ax_w_iald hal d_R_canBeUndone_104) (ax_fc (ax_v_pu (ax_r_iconst (v := 1) d_R_canBeUndone_105 (by decide))) (ax_fc (ax_v_ld (ax_r_iload_n (i := 2) d_R_canBeUndone_106 rfl)) (ax_fc (ax_v_pu (ax_r_ishl d_R_canBeUndone_107)) (ax_fc (ax_v_pu (ax_r_iand d_R_canBeUndone_108)) ax_fn))))))))) (y := (109, [(3, .inl (.int ((s.1 g 16 (a1).toNatClampNeg)))), (2, .inl (.int ((s.1 g 15 (a1).toNatClampNeg)))), (0, .inr (0, 25)), (1, .inl (.int (a1)))], [.inl (.int (((s.1 g 10 ((s.1 g 16 (a1).toNatClampNeg)).toNatClampNeg) &&& ((1 : Int32) <<< ((s.1 g 15 (a1).toNatClampNeg) &&& 31)))))], ax_m (s) ρ)) rfl ⟨trivial, ⟨(h0 25 rfl), hr.2.1⟩, (hg 4 rfl), trivial, ⟨(hg 10 rfl), ax_inp b13⟩, trivial, trivial, trivial, trivial, trivial⟩ ?_
    refine ax_if_ne (tgt := 116) hK d_R_canBeUndone_109 (by decide) (fun c14 => ?_) (fun c14 => ?_)
    · replace h := ax_if c14 h
      refine ax_bk hK (ax_fc (ax_v_pu (ax_r_iconst (v := 0) d_R_canBeUndone_116 (by decide))) ax_fn) (y := (117, [(3, .inl (.int ((s.1 g 16 (a1).toNatClampNeg)))), (2, .inl (.int ((s.1 g 15 (a1).toNatClampNeg)))), (0, .inr (0, 25)), (1, .inl (.int (a1)))], [.inl (.int ((0 : Int32)))], ax_m (s) ρ)) rfl ⟨trivial, trivial⟩ ?_
      cases h
      exact ax_zret hA (by decide) d_R_canBeUndone_117
    · replace h := ax_it c14 h
      refine ax_bk hK (ax_fc (ax_v_pu (ax_r_iconst (v := 1) d_R_canBeUndone_112 (by decide))) (ax_fc (ax_v_go (tgt := 117) d_R_canBeUndone_113 (by decide)) ax_fn)) (y := (117, [(3, .inl (.int ((s.1 g 16 (a1).toNatClampNeg)))), (2, .inl (.int ((s.1 g 15 (a1).toNatClampNeg)))), (0, .inr (0, 25)), (1, .inl (.int (a1)))], [.inl (.int ((1 : Int32)))], ax_m (s) ρ)) rfl ⟨trivial, trivial, trivial⟩ ?_
      cases h
      exact ax_zret hA (by decide) d_R_canBeUndone_117
  replace h := ax_if c19 h
  refine And.intro (fun c19 => ?_) (fun c19 => ?_)
  · replace h := ax_it c19 h
    change ax_R G 4 0 0 (118, [(3, .inl (.int ((s.1 g 16 (a1).toNatClampNeg)))), (2, .inl (.int ((s.1 g 15 (a1).toNatClampNeg)))), (0, .inr (0, 25)), (1, .inl (.int (a1)))], [], ax_m (s) ρ)
    refine ax_bk hK (ax_fc (ax_v_ld (ax_r_iload_n (i := 3) d_R_canBeUndone_118 rfl)) (ax_fc (ax_v_pu (ax_r_iconst (v := 2) d_R_canBeUndone_119 (by decide))) (ax_fc (ax_v_irem d_R_canBeUndone_120) (ax_fc (ax_v_pu (ax_r_iconst (v := 1) d_R_canBeUndone_121 (by decide))) ax_fn)))) (y := (122, [(3, .inl (.int ((s.1 g 16 (a1).toNatClampNeg)))), (2, .inl (.int ((s.1 g 15 (a1).toNatClampNeg)))), (0, .inr (0, 25)), (1, .inl (.int (a1)))], [.inl (.int ((1 : Int32))), .inl (.int (((s.1 g 16 (a1).toNatClampNeg) - (s.1 g 16 (a1).toNatClampNeg) / (2 : Int32) * (2 : Int32))))], ax_m (s) ρ)) rfl ⟨trivial, trivial, (by decide), trivial, trivial⟩ ?_
    refine ax_ic_ne (tgt := 129) hK d_R_canBeUndone_122 (by decide) (fun c15 => ?_) (fun c15 => ?_)
    · replace h := ax_if c15 h
      refine ax_bk hK (ax_fc (ax_v_pu (ax_r_iconst (v := 0) d_R_canBeUndone_129 (by decide))) ax_fn) (y := (130, [(3, .inl (.int ((s.1 g 16 (a1).toNatClampNeg)))), (2, .inl (.int ((s.1 g 15 (a1).toNatClampNeg)))), (0, .inr (0, 25)), (1, .inl (.int (a1)))], [.inl (.int ((0 : Int32)))], ax_m (s) ρ)) rfl ⟨trivial, trivial⟩ ?_
      cases h
      exact ax_zret hA (by decide) d_R_canBeUndone_130
    · replace h := ax_it c15 h
      refine ax_bk hK (ax_fc (ax_v_pu (ax_r_iconst (v := 1) d_R_canBeUndone_125 (by decide))) (ax_fc (ax_v_go (tgt := 130) d_R_canBeUndone_126 (by decide)) ax_fn)) (y := (130, [(3, .inl (.int ((s.1 g 16 (a1).toNatClampNeg)))), (2, .inl (.int ((s.1 g 15 (a1).toNatClampNeg)))), (0, .inr (0, 25)), (1, .inl (.int (a1)))], [.inl (.int ((1 : Int32)))], ax_m (s) ρ)) rfl ⟨trivial, trivial, trivial⟩ ?_
      cases h
      exact ax_zret hA (by decide) d_R_canBeUndone_130
  replace h := ax_if c19 h
  refine And.intro (fun c19 => ?_) (fun c19 => ?_)
  · replace h := ax_it c19 h
    change ax_R G 4 0 0 (96, [(3, .inl (.int ((s.1 g 16 (a1).toNatClampNeg)))), (2, .inl (.int ((s.1 g 15 (a1).toNatClampNeg)))), (0, .inr (0, 25)), (1, .inl (.int (a1)))], [], ax_m (s) ρ)
    obtain ⟨b16, h⟩ := ax_gd h
    refine ax_bk hK (ax_fc (ax_v_ld (ax_r_aload_n (i := 0) d_R_canBeUndone_96 rfl)) (ax_fc (ax_w_gf (e := (some (g, 4))) hal d_R_canBeUndone_97 fd_R_45) (ax_fc (ax_w_gf (e := none) hal d_R_canBeUndone_100 fd_R_221) (ax_fc (ax_v_ld (ax_r_iload_n (i := 3) d_R_canBeUndone_103 rfl)) (ax_fc (ax_w_iald hal d_R_canBeUndone_104) (ax_fc (ax_v_pu (ax_r_iconst (v := 1) d_R_canBeUndone_105 (by decide))) (ax_fc (ax_v_ld (ax_r_iload_n (i := 2) d_R_canBeUndone_106 rfl)) (ax_fc (ax_v_pu (ax_r_ishl d_R_canBeUndone_107)) (ax_fc (ax_v_pu (ax_r_iand d_R_canBeUndone_108)) ax_fn))))))))) (y := (109, [(3, .inl (.int ((s.1 g 16 (a1).toNatClampNeg)))), (2, .inl (.int ((s.1 g 15 (a1).toNatClampNeg)))), (0, .inr (0, 25)), (1, .inl (.int (a1)))], [.inl (.int (((s.1 g 10 ((s.1 g 16 (a1).toNatClampNeg)).toNatClampNeg) &&& ((1 : Int32) <<< ((s.1 g 15 (a1).toNatClampNeg) &&& 31)))))], ax_m (s) ρ)) rfl ⟨trivial, ⟨(h0 25 rfl), hr.2.1⟩, (hg 4 rfl), trivial, ⟨(hg 10 rfl), ax_inp b16⟩, trivial, trivial, trivial, trivial, trivial⟩ ?_
    refine ax_if_ne (tgt := 116) hK d_R_canBeUndone_109 (by decide) (fun c17 => ?_) (fun c17 => ?_)
    · replace h := ax_if c17 h
      refine ax_bk hK (ax_fc (ax_v_pu (ax_r_iconst (v := 0) d_R_canBeUndone_116 (by decide))) ax_fn) (y := (117, [(3, .inl (.int ((s.1 g 16 (a1).toNatClampNeg)))), (2, .inl (.int ((s.1 g 15 (a1).toNatClampNeg)))), (0, .inr (0, 25)), (1, .inl (.int (a1)))], [.inl (.int ((0 : Int32)))], ax_m (s) ρ)) rfl ⟨trivial, trivial⟩ ?_
      cases h
      exact ax_zret hA (by decide) d_R_canBeUndone_117
    · replace h := ax_it c17 h
      refine ax_bk hK (ax_fc (ax_v_pu (ax_r_iconst (v := 1) d_R_canBeUndone_112 (by decide))) (ax_fc (ax_v_go (tgt := 117) d_R_canBeUndone_113 (by decide)) ax_fn)) (y := (117, [(3, .inl (.int ((s.1 g 16 (a1).toNatClampNeg)))), (2, .inl (.int ((s.1 g 15 (a1).toNatClampNeg)))), (0, .inr (0, 25)), (1, .inl (.int (a1)))], [.inl (.int ((1 : Int32)))], ax_m (s) ρ)) rfl ⟨trivial, trivial, trivial⟩ ?_
      cases h
      exact ax_zret hA (by decide) d_R_canBeUndone_117
  replace h := ax_if c19 h
  refine And.intro (fun c19 => ?_) (fun c19 => ?_)
  · replace h := ax_it c19 h
    change ax_R G 4 0 0 (131, [(3, .inl (.int ((s.1 g 16 (a1).toNatClampNeg)))), (2, .inl (.int ((s.1 g 15 (a1).toNatClampNeg)))), (0, .inr (0, 25)), (1, .inl (.int (a1)))], [], ax_m (s) ρ)
    refine ax_bk hK (ax_fc (ax_v_ld (ax_r_iload_n (i := 3) d_R_canBeUndone_131 rfl)) (ax_fc (ax_v_ld (ax_r_iload_n (i := 2) d_R_canBeUndone_132 rfl)) ax_fn)) (y := (133, [(3, .inl (.int ((s.1 g 16 (a1).toNatClampNeg)))), (2, .inl (.int ((s.1 g 15 (a1).toNatClampNeg)))), (0, .inr (0, 25)), (1, .inl (.int (a1)))], [.inl (.int ((s.1 g 15 (a1).toNatClampNeg))), .inl (.int ((s.1 g 16 (a1).toNatClampNeg)))], ax_m (s) ρ)) rfl ⟨trivial, trivial, trivial⟩ ?_
    refine ax_ic_eq (tgt := 140) hK d_R_canBeUndone_133 (by decide) (fun c18 => ?_) (fun c18 => ?_)
    · replace h := ax_it c18 h
      refine ax_bk hK (ax_fc (ax_v_pu (ax_r_iconst (v := 0) d_R_canBeUndone_140 (by decide))) ax_fn) (y := (141, [(3, .inl (.int ((s.1 g 16 (a1).toNatClampNeg)))), (2, .inl (.int ((s.1 g 15 (a1).toNatClampNeg)))), (0, .inr (0, 25)), (1, .inl (.int (a1)))], [.inl (.int ((0 : Int32)))], ax_m (s) ρ)) rfl ⟨trivial, trivial⟩ ?_
      cases h
      exact ax_zret hA (by decide) d_R_canBeUndone_141
    · replace h := ax_if c18 h
      refine ax_bk hK (ax_fc (ax_v_pu (ax_r_iconst (v := 1) d_R_canBeUndone_136 (by decide))) (ax_fc (ax_v_go (tgt := 141) d_R_canBeUndone_137 (by decide)) ax_fn)) (y := (141, [(3, .inl (.int ((s.1 g 16 (a1).toNatClampNeg)))), (2, .inl (.int ((s.1 g 15 (a1).toNatClampNeg)))), (0, .inr (0, 25)), (1, .inl (.int (a1)))], [.inl (.int ((1 : Int32)))], ax_m (s) ρ)) rfl ⟨trivial, trivial, trivial⟩ ?_
      cases h
      exact ax_zret hA (by decide) d_R_canBeUndone_141
  replace h := ax_if c19 h
  change ax_R G 4 0 0 (172, [(3, .inl (.int ((s.1 g 16 (a1).toNatClampNeg)))), (2, .inl (.int ((s.1 g 15 (a1).toNatClampNeg)))), (0, .inr (0, 25)), (1, .inl (.int (a1)))], [], ax_m (s) ρ)
  refine ax_bk hK (ax_fc (ax_v_pu (ax_r_iconst (v := 1) d_R_canBeUndone_172 (by decide))) ax_fn) (y := (173, [(3, .inl (.int ((s.1 g 16 (a1).toNatClampNeg)))), (2, .inl (.int ((s.1 g 15 (a1).toNatClampNeg)))), (0, .inr (0, 25)), (1, .inl (.int (a1)))], [.inl (.int ((1 : Int32)))], ax_m (s) ρ)) rfl ⟨trivial, trivial⟩ ?_
  cases h
  exact ax_zret hA (by decide) d_R_canBeUndone_173
def y_R_countExpression : MethodName := ⟨"CipherNotation$Reader", "countExpression", "(I)V"⟩
theorem d_R_countExpression_0 : decode prog_6_method_27_code 0 = .ok (.aload_n 0, 1) := by decide +kernel
theorem d_R_countExpression_1 : decode prog_6_method_27_code 1 = .ok (.getfield (35), 3) := by decide +kernel
theorem d_R_countExpression_4 : decode prog_6_method_27_code 4 = .ok (.getfield (107), 3) := by decide +kernel
theorem d_R_countExpression_7 : decode prog_6_method_27_code 7 = .ok (.bipush (6), 2) := by decide +kernel
theorem d_R_countExpression_9 : decode prog_6_method_27_code 9 = .ok (.dup2, 1) := by decide +kernel
theorem d_R_countExpression_10 : decode prog_6_method_27_code 10 = .ok (.iaload, 1) := by decide +kernel
theorem d_R_countExpression_11 : decode prog_6_method_27_code 11 = .ok (.aload_n 0, 1) := by decide +kernel
theorem d_R_countExpression_12 : decode prog_6_method_27_code 12 = .ok (.getfield (45), 3) := by decide +kernel
theorem d_R_countExpression_15 : decode prog_6_method_27_code 15 = .ok (.getfield (227), 3) := by decide +kernel
theorem d_R_countExpression_18 : decode prog_6_method_27_code 18 = .ok (.iload_n 1, 1) := by decide +kernel
theorem d_R_countExpression_19 : decode prog_6_method_27_code 19 = .ok (.iaload, 1) := by decide +kernel
theorem d_R_countExpression_20 : decode prog_6_method_27_code 20 = .ok (.iconst 1, 1) := by decide +kernel
theorem d_R_countExpression_21 : decode prog_6_method_27_code 21 = .ok (.iadd, 1) := by decide +kernel
theorem d_R_countExpression_22 : decode prog_6_method_27_code 22 = .ok (.iadd, 1) := by decide +kernel
theorem d_R_countExpression_23 : decode prog_6_method_27_code 23 = .ok (.iastore, 1) := by decide +kernel
theorem d_R_countExpression_24 : decode prog_6_method_27_code 24 = .ok (.aload_n 0, 1) := by decide +kernel
theorem d_R_countExpression_25 : decode prog_6_method_27_code 25 = .ok (.getfield (35), 3) := by decide +kernel
theorem d_R_countExpression_28 : decode prog_6_method_27_code 28 = .ok (.getfield (107), 3) := by decide +kernel
theorem d_R_countExpression_31 : decode prog_6_method_27_code 31 = .ok (.iconst 1, 1) := by decide +kernel
theorem d_R_countExpression_32 : decode prog_6_method_27_code 32 = .ok (.iaload, 1) := by decide +kernel
theorem d_R_countExpression_33 : decode prog_6_method_27_code 33 = .ok (.aload_n 0, 1) := by decide +kernel
theorem d_R_countExpression_34 : decode prog_6_method_27_code 34 = .ok (.getfield (45), 3) := by decide +kernel
theorem d_R_countExpression_37 : decode prog_6_method_27_code 37 = .ok (.getfield (230), 3) := by decide +kernel
theorem d_R_countExpression_40 : decode prog_6_method_27_code 40 = .ok (.iload_n 1, 1) := by decide +kernel
theorem d_R_countExpression_41 : decode prog_6_method_27_code 41 = .ok (.iaload, 1) := by decide +kernel
theorem d_R_countExpression_42 : decode prog_6_method_27_code 42 = .ok (.iadd, 1) := by decide +kernel
theorem d_R_countExpression_43 : decode prog_6_method_27_code 43 = .ok (.istore_n 2, 1) := by decide +kernel
theorem d_R_countExpression_44 : decode prog_6_method_27_code 44 = .ok (.aload_n 0, 1) := by decide +kernel
theorem d_R_countExpression_45 : decode prog_6_method_27_code 45 = .ok (.getfield (35), 3) := by decide +kernel
theorem d_R_countExpression_48 : decode prog_6_method_27_code 48 = .ok (.getfield (107), 3) := by decide +kernel
theorem d_R_countExpression_51 : decode prog_6_method_27_code 51 = .ok (.bipush (7), 2) := by decide +kernel
theorem d_R_countExpression_53 : decode prog_6_method_27_code 53 = .ok (.aload_n 0, 1) := by decide +kernel
theorem d_R_countExpression_54 : decode prog_6_method_27_code 54 = .ok (.getfield (35), 3) := by decide +kernel
theorem d_R_countExpression_57 : decode prog_6_method_27_code 57 = .ok (.getfield (107), 3) := by decide +kernel
theorem d_R_countExpression_60 : decode prog_6_method_27_code 60 = .ok (.bipush (7), 2) := by decide +kernel
theorem d_R_countExpression_62 : decode prog_6_method_27_code 62 = .ok (.iaload, 1) := by decide +kernel
theorem d_R_countExpression_63 : decode prog_6_method_27_code 63 = .ok (.iload_n 2, 1) := by decide +kernel
theorem d_R_countExpression_64 : decode prog_6_method_27_code 64 = .ok (.invokestatic (233), 3) := by decide +kernel
theorem d_R_countExpression_67 : decode prog_6_method_27_code 67 = .ok (.iastore, 1) := by decide +kernel
theorem d_R_countExpression_68 : decode prog_6_method_27_code 68 = .ok (.return_, 1) := by decide +kernel
theorem fd_R_227 : ax_fd "CipherNotation$Reader" 227 0 6 := ⟨nC0, nT0, 9, nY0, rfl, nW0, by decide, nw_1 149 (by decide +kernel) rfl, nO0, nA0⟩
theorem fd_R_230 : ax_fd "CipherNotation$Reader" 230 0 7 := ⟨nC0, nT0, 9, nY0, rfl, nW0, by decide, nw_1 151 (by decide +kernel) rfl, nO0, nA0⟩
set_option maxRecDepth 100000 in
theorem cw_R_233 : ax_cw "CipherNotation$Reader" 233 y_Math_max_II (.code y_Math_max_II prog_14_method_65_code 2 (some .int)) 2 := ⟨nw_3 41 (by decide +kernel) rfl, nw_1 8 (by decide +kernel) rfl, nw_2 138 rfl rfl, by decide +kernel, by decide +kernel⟩
def f_R_countExpression (g : Nat) (a1 : Int32) (s : ax_σ) : Option (ax_σ) :=
  bif ax_in (6 : Int32) 8 then
  bif ax_in a1 240 then
  bif ax_in (6 : Int32) 8 then
  ax_let (ax_wI s g 1 ((6 : Int32)).toNatClampNeg ((s.1 g 1 ((6 : Int32)).toNatClampNeg) + ((s.1 g 11 (a1).toNatClampNeg) + (1 : Int32)))) (fun s4 =>
    bif ax_in (1 : Int32) 8 then
    bif ax_in a1 240 then
    bif ax_in (7 : Int32) 8 then
    Option.bind (f_Math_max_II (s4.1 g 1 ((7 : Int32)).toNatClampNeg) ((s4.1 g 1 ((1 : Int32)).toNatClampNeg) + (s4.1 g 12 (a1).toNatClampNeg))) (fun r8 =>
      bif ax_in (7 : Int32) 8 then
      ax_let (ax_wI s4 g 1 ((7 : Int32)).toNatClampNeg r8) (fun s11 =>
        some (s11))
      else none)
    else none
    else none
    else none)
  else none
  else none
  else none
set_option maxHeartbeats 4000000 in
set_option maxRecDepth 100000 in
theorem t_R_countExpression {l : Launch} {D : va_G} {cA : Nat → ClassId} {ad : Nat → Nat → Nat} {al : List (Nat × Nat)} {θ : ax_Θ} {ρ : ax_ρ} {g : Nat} (h0 : ax_M0 al) (hg : ax_Mg al g) (hr : ax_rd ρ g) {a1 : Int32} {s : ax_σ} {s0 : ax_σ} (h : f_R_countExpression g a1 s = some s0) : ax_T l D cA ad al θ y_R_countExpression (.code y_R_countExpression prog_6_method_27_code 3 none) 1 [.inr (0, 25), .inl (.int (a1))] (ax_m s ρ) none (ax_m s0 ρ) := by
  refine ax_T_of (own := "CipherNotation$Reader") (by decide) rfl (Nat.le_of_ble_eq_true rfl) [(0, .inr (0, 25)), (1, .inl (.int (a1)))] rfl ?_
  intro G hA
  have hB := hA.B
  have hK := hB.K
  have hal := hB.la
  unfold f_R_countExpression at h
  obtain ⟨b1, h⟩ := ax_gd h
  obtain ⟨b2, h⟩ := ax_gd h
  obtain ⟨b3, h⟩ := ax_gd h
  refine ax_bk hK (ax_fc (ax_v_ld (ax_r_aload_n (i := 0) d_R_countExpression_0 rfl)) (ax_fc (ax_w_gf (e := (some (g, 0))) hal d_R_countExpression_1 fd_R_35) (ax_fc (ax_w_gf (e := none) hal d_R_countExpression_4 fd_R_107) (ax_fc (ax_v_pu (ax_r_bipush (v := 6) d_R_countExpression_7 (by decide))) (ax_fc (ax_v_pu (ax_r_dup2p d_R_countExpression_9)) (ax_fc (ax_w_iald hal d_R_countExpression_10) (ax_fc (ax_v_ld (ax_r_aload_n (i := 0) d_R_countExpression_11 rfl)) (ax_fc (ax_w_gf (e := (some (g, 4))) hal d_R_countExpression_12 fd_R_45) (ax_fc (ax_w_gf (e := none) hal d_R_countExpression_15 fd_R_227) (ax_fc (ax_v_ld (ax_r_iload_n (i := 1) d_R_countExpression_18 rfl)) (ax_fc (ax_w_iald hal d_R_countExpression_19) (ax_fc (ax_v_pu (ax_r_iconst (v := 1) d_R_countExpression_20 (by decide))) (ax_fc (ax_v_pu (ax_r_iadd d_R_countExpression_21)) (ax_fc (ax_v_pu (ax_r_iadd d_R_countExpression_22)) (ax_fc (ax_w_iast hal d_R_countExpression_23) ax_fn))))))))))))))) (y := (24, [(0, .inr (0, 25)), (1, .inl (.int (a1)))], [], ax_m (ax_wI s g 1 ((6 : Int32)).toNatClampNeg ((s.1 g 1 ((6 : Int32)).toNatClampNeg) + ((s.1 g 11 (a1).toNatClampNeg) + (1 : Int32)))) ρ)) rfl ⟨trivial, ⟨(h0 25 rfl), hr.1⟩, (hg 0 rfl), trivial, trivial, ⟨(hg 1 rfl), ax_inp b1⟩, trivial, ⟨(h0 25 rfl), hr.2.1⟩, (hg 4 rfl), trivial, ⟨(hg 11 rfl), ax_inp b2⟩, trivial, trivial, trivial, ⟨(hg 1 rfl), ax_inp b3⟩, trivial⟩ ?_
  refine ax_lt (Q := fun ςς => ax_R G 3 0 0 (24, [(0, .inr (0, 25)), (1, .inl (.int (a1)))], [], ax_m (ςς) ρ)) h (fun s4 h => ?_)
  obtain ⟨b5, h⟩ := ax_gd h
  obtain ⟨b6, h⟩ := ax_gd h
  obtain ⟨b7, h⟩ := ax_gd h
  refine ax_bk hK (ax_fc (ax_v_ld (ax_r_aload_n (i := 0) d_R_countExpression_24 rfl)) (ax_fc (ax_w_gf (e := (some (g, 0))) hal d_R_countExpression_25 fd_R_35) (ax_fc (ax_w_gf (e := none) hal d_R_countExpression_28 fd_R_107) (ax_fc (ax_v_pu (ax_r_iconst (v := 1) d_R_countExpression_31 (by decide))) (ax_fc (ax_w_iald hal d_R_countExpression_32) (ax_fc (ax_v_ld (ax_r_aload_n (i := 0) d_R_countExpression_33 rfl)) (ax_fc (ax_w_gf (e := (some (g, 4))) hal d_R_countExpression_34 fd_R_45) (ax_fc (ax_w_gf (e := none) hal d_R_countExpression_37 fd_R_230) (ax_fc (ax_v_ld (ax_r_iload_n (i := 1) d_R_countExpression_40 rfl)) (ax_fc (ax_w_iald hal d_R_countExpression_41) (ax_fc (ax_v_pu (ax_r_iadd d_R_countExpression_42)) (ax_fc (ax_v_so (ax_r_istore_n (i := 2) d_R_countExpression_43 rfl)) (ax_fc (ax_v_ld (ax_r_aload_n (i := 0) d_R_countExpression_44 rfl)) (ax_fc (ax_w_gf (e := (some (g, 0))) hal d_R_countExpression_45 fd_R_35) (ax_fc (ax_w_gf (e := none) hal d_R_countExpression_48 fd_R_107) (ax_fc (ax_v_pu (ax_r_bipush (v := 7) d_R_countExpression_51 (by decide))) (ax_fc (ax_v_ld (ax_r_aload_n (i := 0) d_R_countExpression_53 rfl)) (ax_fc (ax_w_gf (e := (some (g, 0))) hal d_R_countExpression_54 fd_R_35) (ax_fc (ax_w_gf (e := none) hal d_R_countExpression_57 fd_R_107) (ax_fc (ax_v_pu (ax_r_bipush (v := 7) d_R_countExpression_60 (by decide))) (ax_fc (ax_w_iald hal d_R_countExpression_62) (ax_fc (ax_v_ld (ax_r_iload_n (i := 2) d_R_countExpression_63 rfl)) ax_fn)))))))))))))))))))))) (y := (64, [(2, .inl (.int (((s4.1 g 1 ((1 : Int32)).toNatClampNeg) + (s4.1 g 12 (a1).toNatClampNeg))))), (0, .inr (0, 25)), (1, .inl (.int (a1)))], [.inl (.int (((s4.1 g 1 ((1 : Int32)).toNatClampNeg) + (s4.1 g 12 (a1).toNatClampNeg)))), .inl (.int ((s4.1 g 1 ((7 : Int32)).toNatClampNeg))), .inl (.int ((7 : Int32))), .inr (g, 1)], ax_m (s4) ρ)) rfl ⟨trivial, ⟨(h0 25 rfl), hr.1⟩, (hg 0 rfl), trivial, ⟨(hg 1 rfl), ax_inp b5⟩, trivial, ⟨(h0 25 rfl), hr.2.1⟩, (hg 4 rfl), trivial, ⟨(hg 12 rfl), ax_inp b6⟩, trivial, trivial, trivial, ⟨(h0 25 rfl), hr.1⟩, (hg 0 rfl), trivial, trivial, ⟨(h0 25 rfl), hr.1⟩, (hg 0 rfl), trivial, ⟨(hg 1 rfl), ax_inp b7⟩, trivial, trivial⟩ ?_
  obtain ⟨r8, q9, h⟩ := ax_bd h
  refine ax_bS (rest := [.inl (.int ((7 : Int32))), .inr (g, 1)]) hB (t_Math_max_II q9) cw_R_233 sm_Math_max_II d_R_countExpression_64 (by decide) (by decide) rfl rfl (Nat.le_of_ble_eq_true rfl) ?_
  change ax_R G 3 0 0 (67, [(2, .inl (.int (((s4.1 g 1 ((1 : Int32)).toNatClampNeg) + (s4.1 g 12 (a1).toNatClampNeg))))), (0, .inr (0, 25)), (1, .inl (.int (a1)))], [.inl (.int (r8)), .inl (.int ((7 : Int32))), .inr (g, 1)], ax_m (s4) ρ)
  obtain ⟨b10, h⟩ := ax_gd h
  refine ax_bk hK (ax_fc (ax_w_iast hal d_R_countExpression_67) ax_fn) (y := (68, [(2, .inl (.int (((s4.1 g 1 ((1 : Int32)).toNatClampNeg) + (s4.1 g 12 (a1).toNatClampNeg))))), (0, .inr (0, 25)), (1, .inl (.int (a1)))], [], ax_m (ax_wI s4 g 1 ((7 : Int32)).toNatClampNeg r8) ρ)) rfl ⟨⟨(hg 1 rfl), ax_inp b10⟩, trivial⟩ ?_
  refine ax_lt (Q := fun ςς => ax_R G 3 0 0 (68, [(2, .inl (.int (((s4.1 g 1 ((1 : Int32)).toNatClampNeg) + (s4.1 g 12 (a1).toNatClampNeg))))), (0, .inr (0, 25)), (1, .inl (.int (a1)))], [], ax_m (ςς) ρ)) h (fun s11 h => ?_)
  cases h
  exact ax_vret hA d_R_countExpression_68
def y_R_countStep : MethodName := ⟨"CipherNotation$Reader", "countStep", "(I)V"⟩
theorem d_R_countStep_0 : decode prog_6_method_26_code 0 = .ok (.aload_n 0, 1) := by decide +kernel
theorem d_R_countStep_1 : decode prog_6_method_26_code 1 = .ok (.getfield (35), 3) := by decide +kernel
theorem d_R_countStep_4 : decode prog_6_method_26_code 4 = .ok (.getfield (107), 3) := by decide +kernel
theorem d_R_countStep_7 : decode prog_6_method_26_code 7 = .ok (.iconst 5, 1) := by decide +kernel
theorem d_R_countStep_8 : decode prog_6_method_26_code 8 = .ok (.dup2, 1) := by decide +kernel
theorem d_R_countStep_9 : decode prog_6_method_26_code 9 = .ok (.iaload, 1) := by decide +kernel
theorem d_R_countStep_10 : decode prog_6_method_26_code 10 = .ok (.iconst 1, 1) := by decide +kernel
theorem d_R_countStep_11 : decode prog_6_method_26_code 11 = .ok (.iadd, 1) := by decide +kernel
theorem d_R_countStep_12 : decode prog_6_method_26_code 12 = .ok (.iastore, 1) := by decide +kernel
theorem d_R_countStep_13 : decode prog_6_method_26_code 13 = .ok (.aload_n 0, 1) := by decide +kernel
theorem d_R_countStep_14 : decode prog_6_method_26_code 14 = .ok (.getfield (50), 3) := by decide +kernel
theorem d_R_countStep_17 : decode prog_6_method_26_code 17 = .ok (.getfield (214), 3) := by decide +kernel
theorem d_R_countStep_20 : decode prog_6_method_26_code 20 = .ok (.iload_n 1, 1) := by decide +kernel
theorem d_R_countStep_21 : decode prog_6_method_26_code 21 = .ok (.iaload, 1) := by decide +kernel
theorem d_R_countStep_22 : decode prog_6_method_26_code 22 = .ok (.istore_n 2, 1) := by decide +kernel
theorem d_R_countStep_23 : decode prog_6_method_26_code 23 = .ok (.iload_n 2, 1) := by decide +kernel
theorem d_R_countStep_24 : decode prog_6_method_26_code 24 = .ok (.bipush (94), 2) := by decide +kernel
theorem d_R_countStep_26 : decode prog_6_method_26_code 26 = .ok (.if_icmp .eq (15), 3) := by decide +kernel
theorem d_R_countStep_29 : decode prog_6_method_26_code 29 = .ok (.iload_n 2, 1) := by decide +kernel
theorem d_R_countStep_30 : decode prog_6_method_26_code 30 = .ok (.bipush (43), 2) := by decide +kernel
theorem d_R_countStep_32 : decode prog_6_method_26_code 32 = .ok (.if_icmp .eq (9), 3) := by decide +kernel
theorem d_R_countStep_35 : decode prog_6_method_26_code 35 = .ok (.iload_n 2, 1) := by decide +kernel
theorem d_R_countStep_36 : decode prog_6_method_26_code 36 = .ok (.bipush (45), 2) := by decide +kernel
theorem d_R_countStep_38 : decode prog_6_method_26_code 38 = .ok (.if_icmp .ne (19), 3) := by decide +kernel
theorem d_R_countStep_41 : decode prog_6_method_26_code 41 = .ok (.aload_n 0, 1) := by decide +kernel
theorem d_R_countStep_42 : decode prog_6_method_26_code 42 = .ok (.aload_n 0, 1) := by decide +kernel
theorem d_R_countStep_43 : decode prog_6_method_26_code 43 = .ok (.getfield (50), 3) := by decide +kernel
theorem d_R_countStep_46 : decode prog_6_method_26_code 46 = .ok (.getfield (180), 3) := by decide +kernel
theorem d_R_countStep_49 : decode prog_6_method_26_code 49 = .ok (.iload_n 1, 1) := by decide +kernel
theorem d_R_countStep_50 : decode prog_6_method_26_code 50 = .ok (.iaload, 1) := by decide +kernel
theorem d_R_countStep_51 : decode prog_6_method_26_code 51 = .ok (.invokevirtual (189), 3) := by decide +kernel
theorem d_R_countStep_54 : decode prog_6_method_26_code 54 = .ok (.goto (17), 3) := by decide +kernel
theorem d_R_countStep_57 : decode prog_6_method_26_code 57 = .ok (.aload_n 0, 1) := by decide +kernel
theorem d_R_countStep_58 : decode prog_6_method_26_code 58 = .ok (.getfield (35), 3) := by decide +kernel
theorem d_R_countStep_61 : decode prog_6_method_26_code 61 = .ok (.getfield (107), 3) := by decide +kernel
theorem d_R_countStep_64 : decode prog_6_method_26_code 64 = .ok (.bipush (6), 2) := by decide +kernel
theorem d_R_countStep_66 : decode prog_6_method_26_code 66 = .ok (.dup2, 1) := by decide +kernel
theorem d_R_countStep_67 : decode prog_6_method_26_code 67 = .ok (.iaload, 1) := by decide +kernel
theorem d_R_countStep_68 : decode prog_6_method_26_code 68 = .ok (.iconst 1, 1) := by decide +kernel
theorem d_R_countStep_69 : decode prog_6_method_26_code 69 = .ok (.iadd, 1) := by decide +kernel
theorem d_R_countStep_70 : decode prog_6_method_26_code 70 = .ok (.iastore, 1) := by decide +kernel
theorem d_R_countStep_71 : decode prog_6_method_26_code 71 = .ok (.return_, 1) := by decide +kernel
set_option maxRecDepth 100000 in
theorem cw_R_189 : ax_cw "CipherNotation$Reader" 189 y_R_countExpression (.code y_R_countExpression prog_6_method_27_code 3 none) 1 := ⟨nw_3 37 (by decide +kernel) rfl, nw_1 2 (by decide +kernel) rfl, nw_3 40 rfl rfl, by decide +kernel, by decide +kernel⟩
theorem im_R_countExpression : Cond.instanceMethod y_R_countExpression ∈ ax_tbl := nw_3 39 (by decide +kernel) rfl
theorem se_R_countExpression : Cond.selects y_R_countExpression.cls y_R_countExpression y_R_countExpression ∈ ax_tbl := nw_sel 20 (by decide +kernel) (by decide +kernel)
def f_R_countStep (g : Nat) (a1 : Int32) (s : ax_σ) : Option (ax_σ) :=
  bif ax_in (5 : Int32) 8 then
  bif ax_in (5 : Int32) 8 then
  ax_let (ax_wI s g 1 ((5 : Int32)).toNatClampNeg ((s.1 g 1 ((5 : Int32)).toNatClampNeg) + (1 : Int32))) (fun s3 =>
    bif ax_in a1 120 then
    Option.bind (
      if (s3.1 g 14 (a1).toNatClampNeg) = (94 : Int32) then
        some true
      else
        if (s3.1 g 14 (a1).toNatClampNeg) = (43 : Int32) then
          some true
        else
          if (s3.1 g 14 (a1).toNatClampNeg) = (45 : Int32) then
            some true
          else
            some false) (fun w14 => bif w14 then
      bif ax_in a1 120 then
      Option.bind (f_R_countExpression g (s3.1 g 16 (a1).toNatClampNeg) s3) (fun s9 =>
        some (s9))
      else none
    else
      bif ax_in (6 : Int32) 8 then
      bif ax_in (6 : Int32) 8 then
      ax_let (ax_wI s3 g 1 ((6 : Int32)).toNatClampNeg ((s3.1 g 1 ((6 : Int32)).toNatClampNeg) + (1 : Int32))) (fun s13 =>
        some (s13))
      else none
      else none)
    else none)
  else none
  else none
set_option maxHeartbeats 4000000 in
set_option maxRecDepth 100000 in
theorem t_R_countStep {l : Launch} {D : va_G} {cA : Nat → ClassId} {ad : Nat → Nat → Nat} {al : List (Nat × Nat)} {θ : ax_Θ} {ρ : ax_ρ} {g : Nat} (h0 : ax_M0 al) (hg : ax_Mg al g) (hr : ax_rd ρ g) {a1 : Int32} {s : ax_σ} {s0 : ax_σ} (h : f_R_countStep g a1 s = some s0) : ax_T l D cA ad al θ y_R_countStep (.code y_R_countStep prog_6_method_26_code 3 none) 2 [.inr (0, 25), .inl (.int (a1))] (ax_m s ρ) none (ax_m s0 ρ) := by
  refine ax_T_of (own := "CipherNotation$Reader") (by decide) rfl (Nat.le_of_ble_eq_true rfl) [(0, .inr (0, 25)), (1, .inl (.int (a1)))] rfl ?_
  intro G hA
  have hB := hA.B
  have hK := hB.K
  have hal := hB.la
  unfold f_R_countStep at h
  obtain ⟨b1, h⟩ := ax_gd h
  obtain ⟨b2, h⟩ := ax_gd h
  refine ax_bk hK (ax_fc (ax_v_ld (ax_r_aload_n (i := 0) d_R_countStep_0 rfl)) (ax_fc (ax_w_gf (e := (some (g, 0))) hal d_R_countStep_1 fd_R_35) (ax_fc (ax_w_gf (e := none) hal d_R_countStep_4 fd_R_107) (ax_fc (ax_v_pu (ax_r_iconst (v := 5) d_R_countStep_7 (by decide))) (ax_fc (ax_v_pu (ax_r_dup2p d_R_countStep_8)) (ax_fc (ax_w_iald hal d_R_countStep_9) (ax_fc (ax_v_pu (ax_r_iconst (v := 1) d_R_countStep_10 (by decide))) (ax_fc (ax_v_pu (ax_r_iadd d_R_countStep_11)) (ax_fc (ax_w_iast hal d_R_countStep_12) ax_fn))))))))) (y := (13, [(0, .inr (0, 25)), (1, .inl (.int (a1)))], [], ax_m (ax_wI s g 1 ((5 : Int32)).toNatClampNeg ((s.1 g 1 ((5 : Int32)).toNatClampNeg) + (1 : Int32))) ρ)) rfl ⟨trivial, ⟨(h0 25 rfl), hr.1⟩, (hg 0 rfl), trivial, trivial, ⟨(hg 1 rfl), ax_inp b1⟩, trivial, trivial, ⟨(hg 1 rfl), ax_inp b2⟩, trivial⟩ ?_
  refine ax_lt (Q := fun ςς => ax_R G 3 0 0 (13, [(0, .inr (0, 25)), (1, .inl (.int (a1)))], [], ax_m (ςς) ρ)) h (fun s3 h => ?_)
  obtain ⟨b4, h⟩ := ax_gd h
  refine ax_bk hK (ax_fc (ax_v_ld (ax_r_aload_n (i := 0) d_R_countStep_13 rfl)) (ax_fc (ax_w_gf (e := (some (g, 13))) hal d_R_countStep_14 fd_R_50) (ax_fc (ax_w_gf (e := none) hal d_R_countStep_17 fd_R_214) (ax_fc (ax_v_ld (ax_r_iload_n (i := 1) d_R_countStep_20 rfl)) (ax_fc (ax_w_iald hal d_R_countStep_21) (ax_fc (ax_v_so (ax_r_istore_n (i := 2) d_R_countStep_22 rfl)) (ax_fc (ax_v_ld (ax_r_iload_n (i := 2) d_R_countStep_23 rfl)) (ax_fc (ax_v_pu (ax_r_bipush (v := 94) d_R_countStep_24 (by decide))) ax_fn)))))))) (y := (26, [(2, .inl (.int ((s3.1 g 14 (a1).toNatClampNeg)))), (0, .inr (0, 25)), (1, .inl (.int (a1)))], [.inl (.int ((94 : Int32))), .inl (.int ((s3.1 g 14 (a1).toNatClampNeg)))], ax_m (s3) ρ)) rfl ⟨trivial, ⟨(h0 25 rfl), hr.2.2⟩, (hg 13 rfl), trivial, ⟨(hg 14 rfl), ax_inp b4⟩, trivial, trivial, trivial, trivial⟩ ?_
  obtain ⟨w14, hw14, h⟩ := ax_bd h
  have KTw14 : w14 = true → ax_R G 3 0 0 (41, [(0, .inr (0, 25)), (1, .inl (.int (a1)))], [], ax_m (s3) ρ) := by
    intro e9
    subst w14
    replace h := ax_ct h
    obtain ⟨b8, h⟩ := ax_gd h
    refine ax_bk hK (ax_fc (ax_v_ld (ax_r_aload_n (i := 0) d_R_countStep_41 rfl)) (ax_fc (ax_v_ld (ax_r_aload_n (i := 0) d_R_countStep_42 rfl)) (ax_fc (ax_w_gf (e := (some (g, 13))) hal d_R_countStep_43 fd_R_50) (ax_fc (ax_w_gf (e := none) hal d_R_countStep_46 fd_R_180) (ax_fc (ax_v_ld (ax_r_iload_n (i := 1) d_R_countStep_49 rfl)) (ax_fc (ax_w_iald hal d_R_countStep_50) ax_fn)))))) (y := (51, [(0, .inr (0, 25)), (1, .inl (.int (a1)))], [.inl (.int ((s3.1 g 16 (a1).toNatClampNeg))), .inr (0, 25)], ax_m (s3) ρ)) rfl ⟨trivial, trivial, ⟨(h0 25 rfl), hr.2.2⟩, (hg 13 rfl), trivial, ⟨(hg 16 rfl), ax_inp b8⟩, trivial⟩ ?_
    obtain ⟨s9, q10, h⟩ := ax_bd h
    refine ax_bV (rest := []) hB (t_R_countExpression h0 hg hr q10) cw_R_189 im_R_countExpression se_R_countExpression d_R_countStep_51 (h0 25 rfl) rfl rfl (by decide) (by decide) rfl rfl (Nat.le_of_ble_eq_true rfl) ?_
    change ax_R G 3 0 0 (54, [(0, .inr (0, 25)), (1, .inl (.int (a1)))], [], ax_m (s9) ρ)
    refine ax_bk hK (ax_fc (ax_v_go (tgt := 71) d_R_countStep_54 (by decide)) ax_fn) (y := (71, [(0, .inr (0, 25)), (1, .inl (.int (a1)))], [], ax_m (s9) ρ)) rfl ⟨trivial, trivial⟩ ?_
    cases h
    exact ax_vret hA d_R_countStep_71
  have KFw14 : w14 = false → ax_R G 3 0 0 (57, [(0, .inr (0, 25))], [], ax_m (s3) ρ) := by
    intro e9
    subst w14
    replace h := ax_cf h
    obtain ⟨b11, h⟩ := ax_gd h
    obtain ⟨b12, h⟩ := ax_gd h
    refine ax_bk hK (ax_fc (ax_v_ld (ax_r_aload_n (i := 0) d_R_countStep_57 rfl)) (ax_fc (ax_w_gf (e := (some (g, 0))) hal d_R_countStep_58 fd_R_35) (ax_fc (ax_w_gf (e := none) hal d_R_countStep_61 fd_R_107) (ax_fc (ax_v_pu (ax_r_bipush (v := 6) d_R_countStep_64 (by decide))) (ax_fc (ax_v_pu (ax_r_dup2p d_R_countStep_66)) (ax_fc (ax_w_iald hal d_R_countStep_67) (ax_fc (ax_v_pu (ax_r_iconst (v := 1) d_R_countStep_68 (by decide))) (ax_fc (ax_v_pu (ax_r_iadd d_R_countStep_69)) (ax_fc (ax_w_iast hal d_R_countStep_70) ax_fn))))))))) (y := (71, [(0, .inr (0, 25))], [], ax_m (ax_wI s3 g 1 ((6 : Int32)).toNatClampNeg ((s3.1 g 1 ((6 : Int32)).toNatClampNeg) + (1 : Int32))) ρ)) rfl ⟨trivial, ⟨(h0 25 rfl), hr.1⟩, (hg 0 rfl), trivial, trivial, ⟨(hg 1 rfl), ax_inp b11⟩, trivial, trivial, ⟨(hg 1 rfl), ax_inp b12⟩, trivial⟩ ?_
    refine ax_lt (Q := fun ςς => ax_R G 3 0 0 (71, [(0, .inr (0, 25))], [], ax_m (ςς) ρ)) h (fun s13 h => ?_)
    cases h
    exact ax_vret hA d_R_countStep_71
  clear h
  have h := hw14
  refine ax_ic_eq (tgt := 41) hK d_R_countStep_26 (by decide) (fun c7 => ?_) (fun c7 => ?_)
  · replace h := ax_it c7 h
    cases h
    exact ax_Lsub [1, 2] rfl (KTw14 rfl)
  · replace h := ax_if c7 h
    refine ax_bk hK (ax_fc (ax_v_ld (ax_r_iload_n (i := 2) d_R_countStep_29 rfl)) (ax_fc (ax_v_pu (ax_r_bipush (v := 43) d_R_countStep_30 (by decide))) ax_fn)) (y := (32, [(2, .inl (.int ((s3.1 g 14 (a1).toNatClampNeg)))), (0, .inr (0, 25)), (1, .inl (.int (a1)))], [.inl (.int ((43 : Int32))), .inl (.int ((s3.1 g 14 (a1).toNatClampNeg)))], ax_m (s3) ρ)) rfl ⟨trivial, trivial, trivial⟩ ?_
    refine ax_ic_eq (tgt := 41) hK d_R_countStep_32 (by decide) (fun c6 => ?_) (fun c6 => ?_)
    · replace h := ax_it c6 h
      cases h
      exact ax_Lsub [1, 2] rfl (KTw14 rfl)
    · replace h := ax_if c6 h
      refine ax_bk hK (ax_fc (ax_v_ld (ax_r_iload_n (i := 2) d_R_countStep_35 rfl)) (ax_fc (ax_v_pu (ax_r_bipush (v := 45) d_R_countStep_36 (by decide))) ax_fn)) (y := (38, [(2, .inl (.int ((s3.1 g 14 (a1).toNatClampNeg)))), (0, .inr (0, 25)), (1, .inl (.int (a1)))], [.inl (.int ((45 : Int32))), .inl (.int ((s3.1 g 14 (a1).toNatClampNeg)))], ax_m (s3) ρ)) rfl ⟨trivial, trivial, trivial⟩ ?_
      refine ax_ic_ne (tgt := 57) hK d_R_countStep_38 (by decide) (fun c5 => ?_) (fun c5 => ?_)
      · replace h := ax_if c5 h
        cases h
        exact ax_Lsub [1] rfl (KFw14 rfl)
      · replace h := ax_it c5 h
        cases h
        exact ax_Lsub [1, 2] rfl (KTw14 rfl)
def y_R_takeLetter : MethodName := ⟨"CipherNotation$Reader", "takeLetter", "(II)V"⟩
theorem d_R_takeLetter_0 : decode prog_6_method_31_code 0 = .ok (.aload_n 0, 1) := by decide +kernel
theorem d_R_takeLetter_1 : decode prog_6_method_31_code 1 = .ok (.getfield (11), 3) := by decide +kernel
theorem d_R_takeLetter_4 : decode prog_6_method_31_code 4 = .ok (.aload_n 0, 1) := by decide +kernel
theorem d_R_takeLetter_5 : decode prog_6_method_31_code 5 = .ok (.getfield (72), 3) := by decide +kernel
theorem d_R_takeLetter_8 : decode prog_6_method_31_code 8 = .ok (.caload, 1) := by decide +kernel
theorem d_R_takeLetter_9 : decode prog_6_method_31_code 9 = .ok (.bipush (105), 2) := by decide +kernel
theorem d_R_takeLetter_11 : decode prog_6_method_31_code 11 = .ok (.isub, 1) := by decide +kernel
theorem d_R_takeLetter_12 : decode prog_6_method_31_code 12 = .ok (.istore_n 3, 1) := by decide +kernel
theorem d_R_takeLetter_13 : decode prog_6_method_31_code 13 = .ok (.aload_n 0, 1) := by decide +kernel
theorem d_R_takeLetter_14 : decode prog_6_method_31_code 14 = .ok (.iload_n 3, 1) := by decide +kernel
theorem d_R_takeLetter_15 : decode prog_6_method_31_code 15 = .ok (.invokevirtual (166), 3) := by decide +kernel
theorem d_R_takeLetter_18 : decode prog_6_method_31_code 18 = .ok (.ifCond .ne (27), 3) := by decide +kernel
theorem d_R_takeLetter_21 : decode prog_6_method_31_code 21 = .ok (.aload_n 0, 1) := by decide +kernel
theorem d_R_takeLetter_22 : decode prog_6_method_31_code 22 = .ok (.aload_n 0, 1) := by decide +kernel
theorem d_R_takeLetter_23 : decode prog_6_method_31_code 23 = .ok (.getfield (15), 3) := by decide +kernel
theorem d_R_takeLetter_26 : decode prog_6_method_31_code 26 = .ok (.aload_n 0, 1) := by decide +kernel
theorem d_R_takeLetter_27 : decode prog_6_method_31_code 27 = .ok (.getfield (72), 3) := by decide +kernel
theorem d_R_takeLetter_30 : decode prog_6_method_31_code 30 = .ok (.iaload, 1) := by decide +kernel
theorem d_R_takeLetter_31 : decode prog_6_method_31_code 31 = .ok (.iconst 4, 1) := by decide +kernel
theorem d_R_takeLetter_32 : decode prog_6_method_31_code 32 = .ok (.invokevirtual (100), 3) := by decide +kernel
theorem d_R_takeLetter_35 : decode prog_6_method_31_code 35 = .ok (.aload_n 0, 1) := by decide +kernel
theorem d_R_takeLetter_36 : decode prog_6_method_31_code 36 = .ok (.getfield (45), 3) := by decide +kernel
theorem d_R_takeLetter_39 : decode prog_6_method_31_code 39 = .ok (.getfield (264), 3) := by decide +kernel
theorem d_R_takeLetter_42 : decode prog_6_method_31_code 42 = .ok (.iload_n 1, 1) := by decide +kernel
theorem d_R_takeLetter_43 : decode prog_6_method_31_code 43 = .ok (.iconst (-1), 1) := by decide +kernel
theorem d_R_takeLetter_44 : decode prog_6_method_31_code 44 = .ok (.iastore, 1) := by decide +kernel
theorem d_R_takeLetter_45 : decode prog_6_method_31_code 45 = .ok (.aload_n 0, 1) := by decide +kernel
theorem d_R_takeLetter_46 : decode prog_6_method_31_code 46 = .ok (.getfield (45), 3) := by decide +kernel
theorem d_R_takeLetter_49 : decode prog_6_method_31_code 49 = .ok (.iload_n 1, 1) := by decide +kernel
theorem d_R_takeLetter_50 : decode prog_6_method_31_code 50 = .ok (.iload_n 3, 1) := by decide +kernel
theorem d_R_takeLetter_51 : decode prog_6_method_31_code 51 = .ok (.iload_n 2, 1) := by decide +kernel
theorem d_R_takeLetter_52 : decode prog_6_method_31_code 52 = .ok (.i2l, 1) := by decide +kernel
theorem d_R_takeLetter_53 : decode prog_6_method_31_code 53 = .ok (.invokevirtual (267), 3) := by decide +kernel
theorem d_R_takeLetter_56 : decode prog_6_method_31_code 56 = .ok (.aload_n 0, 1) := by decide +kernel
theorem d_R_takeLetter_57 : decode prog_6_method_31_code 57 = .ok (.dup, 1) := by decide +kernel
theorem d_R_takeLetter_58 : decode prog_6_method_31_code 58 = .ok (.getfield (72), 3) := by decide +kernel
theorem d_R_takeLetter_61 : decode prog_6_method_31_code 61 = .ok (.iconst 1, 1) := by decide +kernel
theorem d_R_takeLetter_62 : decode prog_6_method_31_code 62 = .ok (.iadd, 1) := by decide +kernel
theorem d_R_takeLetter_63 : decode prog_6_method_31_code 63 = .ok (.putfield (72), 3) := by decide +kernel
theorem d_R_takeLetter_66 : decode prog_6_method_31_code 66 = .ok (.return_, 1) := by decide +kernel
set_option maxRecDepth 100000 in
theorem cw_R_267 : ax_cw "CipherNotation$Reader" 267 y_C_addLetter (.code y_C_addLetter prog_2_method_7_code 5 none) 3 := ⟨nw_3 17 (by decide +kernel) rfl, nw_1 5 (by decide +kernel) rfl, nw_3 20 rfl rfl, by decide +kernel, by decide +kernel⟩
theorem im_C_addLetter : Cond.instanceMethod y_C_addLetter ∈ ax_tbl := nw_3 18 (by decide +kernel) rfl
theorem se_C_addLetter : Cond.selects y_C_addLetter.cls y_C_addLetter y_C_addLetter ∈ ax_tbl := nw_3 19 (by decide +kernel) rfl
theorem fd_R_264 : ax_fd "CipherNotation$Reader" 264 0 4 := ⟨nC0, nT0, 9, nY0, rfl, nW0, by decide, nw_1 145 (by decide +kernel) rfl, nO0, nA0⟩
def f_R_takeLetter (F : Nat) (g : Nat) (a1 : Int32) (a2 : Int32) (s : ax_σ) : Option (ax_σ) :=
  bif ax_in (s.1 0 25 3) 241 then
  Option.bind (f_R_isOpen F g ((s.1 0 26 ((s.1 0 25 3)).toNatClampNeg) - (105 : Int32)) s) (fun r2 =>
    Option.bind (
      if r2 = (0 : Int32) then
        bif ax_in (s.1 0 25 3) 241 then
        Option.bind (f_R_note g (s.1 0 27 ((s.1 0 25 3)).toNatClampNeg) (4 : Int32) s) (fun s5 =>
          bif ax_in a1 240 then
          ax_let (ax_wI s5 g 9 (a1).toNatClampNeg (-1 : Int32)) (fun s8 =>
            some s8)
          else none)
        else none
      else
        some s) (fun s10 =>
      Option.bind (f_C_addLetter g a1 ((s.1 0 26 ((s.1 0 25 3)).toNatClampNeg) - (105 : Int32)) ((a2).toInt64) s10) (fun s11 =>
        ax_let (ax_wI s11 0 25 3 ((s11.1 0 25 3) + (1 : Int32))) (fun s13 =>
          some (s13)))))
  else none
set_option maxHeartbeats 4000000 in
set_option maxRecDepth 100000 in
theorem t_R_takeLetter {l : Launch} {D : va_G} {cA : Nat → ClassId} {ad : Nat → Nat → Nat} {al : List (Nat × Nat)} {θ : ax_Θ} {ρ : ax_ρ} {F : Nat} {g : Nat} (h0 : ax_M0 al) (hg : ax_Mg al g) (hr : ax_rd ρ g) {a1 : Int32} {a2 : Int32} {s : ax_σ} {s0 : ax_σ} (h : f_R_takeLetter F g a1 a2 s = some s0) : ax_T l D cA ad al θ y_R_takeLetter (.code y_R_takeLetter prog_6_method_31_code 4 none) 2 [.inr (0, 25), .inl (.int (a1)), .inl (.int (a2))] (ax_m s ρ) none (ax_m s0 ρ) := by
  refine ax_T_of (own := "CipherNotation$Reader") (by decide) rfl (Nat.le_of_ble_eq_true rfl) [(0, .inr (0, 25)), (1, .inl (.int (a1))), (2, .inl (.int (a2)))] rfl ?_
  intro G hA
  have hB := hA.B
  have hK := hB.K
  have hal := hB.la
  unfold f_R_takeLetter at h
  obtain ⟨b1, h⟩ := ax_gd h
  refine ax_bk hK (ax_fc (ax_v_ld (ax_r_aload_n (i := 0) d_R_takeLetter_0 rfl)) (ax_fc (ax_w_gf (e := none) hal d_R_takeLetter_1 fd_R_11) (ax_fc (ax_v_ld (ax_r_aload_n (i := 0) d_R_takeLetter_4 rfl)) (ax_fc (ax_w_gf (e := none) hal d_R_takeLetter_5 fd_R_72) (ax_fc (ax_w_cald hal d_R_takeLetter_8) (ax_fc (ax_v_pu (ax_r_bipush (v := 105) d_R_takeLetter_9 (by decide))) (ax_fc (ax_v_pu (ax_r_isub d_R_takeLetter_11)) (ax_fc (ax_v_so (ax_r_istore_n (i := 3) d_R_takeLetter_12 rfl)) (ax_fc (ax_v_ld (ax_r_aload_n (i := 0) d_R_takeLetter_13 rfl)) (ax_fc (ax_v_ld (ax_r_iload_n (i := 3) d_R_takeLetter_14 rfl)) ax_fn)))))))))) (y := (15, [(3, .inl (.int (((s.1 0 26 ((s.1 0 25 3)).toNatClampNeg) - (105 : Int32))))), (0, .inr (0, 25)), (1, .inl (.int (a1))), (2, .inl (.int (a2)))], [.inl (.int (((s.1 0 26 ((s.1 0 25 3)).toNatClampNeg) - (105 : Int32)))), .inr (0, 25)], ax_m (s) ρ)) rfl ⟨trivial, (h0 25 rfl), trivial, (h0 25 rfl), ⟨(h0 26 rfl), ax_inp b1⟩, trivial, trivial, trivial, trivial, trivial, trivial⟩ ?_
  obtain ⟨r2, q3, h⟩ := ax_bd h
  refine ax_bV (rest := []) hB (t_R_isOpen h0 hg hr q3) cw_R_166 im_R_isOpen se_R_isOpen d_R_takeLetter_15 (h0 25 rfl) rfl rfl (by decide) (by decide) rfl rfl (Nat.le_of_ble_eq_true rfl) ?_
  change ax_R G 4 0 0 (18, [(3, .inl (.int (((s.1 0 26 ((s.1 0 25 3)).toNatClampNeg) - (105 : Int32))))), (0, .inr (0, 25)), (1, .inl (.int (a1))), (2, .inl (.int (a2)))], [.inl (.int (r2))], ax_m (s) ρ)
  obtain ⟨w14, hw14, h⟩ := ax_bd h
  have KEw14 : ∀ (s10 : ax_σ), w14 = s10 → ax_R G 4 0 0 (45, [(0, .inr (0, 25)), (1, .inl (.int (a1))), (2, .inl (.int (a2))), (3, .inl (.int (((s.1 0 26 ((s.1 0 25 3)).toNatClampNeg) - (105 : Int32)))))], [], ax_m (s10) ρ) := by
    intro s10 e9
    subst w14
    try dsimp only at h
    refine ax_bk hK (ax_fc (ax_v_ld (ax_r_aload_n (i := 0) d_R_takeLetter_45 rfl)) (ax_fc (ax_w_gf (e := (some (g, 4))) hal d_R_takeLetter_46 fd_R_45) (ax_fc (ax_v_ld (ax_r_iload_n (i := 1) d_R_takeLetter_49 rfl)) (ax_fc (ax_v_ld (ax_r_iload_n (i := 3) d_R_takeLetter_50 rfl)) (ax_fc (ax_v_ld (ax_r_iload_n (i := 2) d_R_takeLetter_51 rfl)) (ax_fc (ax_v_pu (ax_r_i2l d_R_takeLetter_52)) ax_fn)))))) (y := (53, [(0, .inr (0, 25)), (1, .inl (.int (a1))), (2, .inl (.int (a2))), (3, .inl (.int (((s.1 0 26 ((s.1 0 25 3)).toNatClampNeg) - (105 : Int32)))))], [.inl (.long ((a2).toInt64)), .inl (.int (((s.1 0 26 ((s.1 0 25 3)).toNatClampNeg) - (105 : Int32)))), .inl (.int (a1)), .inr (g, 4)], ax_m (s10) ρ)) rfl ⟨trivial, ⟨(h0 25 rfl), hr.2.1⟩, trivial, trivial, trivial, trivial, trivial⟩ ?_
    obtain ⟨s11, q12, h⟩ := ax_bd h
    refine ax_bV (rest := []) hB (t_C_addLetter hg q12) cw_R_267 im_C_addLetter se_C_addLetter d_R_takeLetter_53 (hg 4 rfl) rfl rfl (by decide) (by decide) rfl rfl (Nat.le_of_ble_eq_true rfl) ?_
    change ax_R G 4 0 0 (56, [(0, .inr (0, 25)), (1, .inl (.int (a1))), (2, .inl (.int (a2))), (3, .inl (.int (((s.1 0 26 ((s.1 0 25 3)).toNatClampNeg) - (105 : Int32)))))], [], ax_m (s11) ρ)
    refine ax_bk hK (ax_fc (ax_v_ld (ax_r_aload_n (i := 0) d_R_takeLetter_56 rfl)) (ax_fc (ax_v_pu (ax_r_dup d_R_takeLetter_57)) (ax_fc (ax_w_gf (e := none) hal d_R_takeLetter_58 fd_R_72) (ax_fc (ax_v_pu (ax_r_iconst (v := 1) d_R_takeLetter_61 (by decide))) (ax_fc (ax_v_pu (ax_r_iadd d_R_takeLetter_62)) (ax_fc (ax_w_pf (tc := 0) hal d_R_takeLetter_63 fp_R_72 rfl) ax_fn)))))) (y := (66, [(0, .inr (0, 25)), (1, .inl (.int (a1))), (2, .inl (.int (a2))), (3, .inl (.int (((s.1 0 26 ((s.1 0 25 3)).toNatClampNeg) - (105 : Int32)))))], [], ax_m (ax_wI s11 0 25 3 ((s11.1 0 25 3) + (1 : Int32))) ρ)) rfl ⟨trivial, trivial, (h0 25 rfl), trivial, trivial, (h0 25 rfl), trivial⟩ ?_
    refine ax_lt (Q := fun ςς => ax_R G 4 0 0 (66, [(0, .inr (0, 25)), (1, .inl (.int (a1))), (2, .inl (.int (a2))), (3, .inl (.int (((s.1 0 26 ((s.1 0 25 3)).toNatClampNeg) - (105 : Int32)))))], [], ax_m (ςς) ρ)) h (fun s13 h => ?_)
    cases h
    exact ax_vret hA d_R_takeLetter_66
  clear h
  have h := hw14
  refine ax_if_ne (tgt := 45) hK d_R_takeLetter_18 (by decide) (fun c9 => ?_) (fun c9 => ?_)
  · replace h := ax_if c9 h
    cases h
    exact ax_Lsub [1, 2, 3, 0] rfl (KEw14 _ rfl)
  · replace h := ax_it c9 h
    obtain ⟨b4, h⟩ := ax_gd h
    refine ax_bk hK (ax_fc (ax_v_ld (ax_r_aload_n (i := 0) d_R_takeLetter_21 rfl)) (ax_fc (ax_v_ld (ax_r_aload_n (i := 0) d_R_takeLetter_22 rfl)) (ax_fc (ax_w_gf (e := none) hal d_R_takeLetter_23 fd_R_15) (ax_fc (ax_v_ld (ax_r_aload_n (i := 0) d_R_takeLetter_26 rfl)) (ax_fc (ax_w_gf (e := none) hal d_R_takeLetter_27 fd_R_72) (ax_fc (ax_w_iald hal d_R_takeLetter_30) (ax_fc (ax_v_pu (ax_r_iconst (v := 4) d_R_takeLetter_31 (by decide))) ax_fn))))))) (y := (32, [(3, .inl (.int (((s.1 0 26 ((s.1 0 25 3)).toNatClampNeg) - (105 : Int32))))), (0, .inr (0, 25)), (1, .inl (.int (a1))), (2, .inl (.int (a2)))], [.inl (.int ((4 : Int32))), .inl (.int ((s.1 0 27 ((s.1 0 25 3)).toNatClampNeg))), .inr (0, 25)], ax_m (s) ρ)) rfl ⟨trivial, trivial, (h0 25 rfl), trivial, (h0 25 rfl), ⟨(h0 27 rfl), ax_inp b4⟩, trivial, trivial⟩ ?_
    obtain ⟨s5, q6, h⟩ := ax_bd h
    refine ax_bV (rest := []) hB (t_R_note h0 hg hr q6) cw_R_100 im_R_note se_R_note d_R_takeLetter_32 (h0 25 rfl) rfl rfl (by decide) (by decide) rfl rfl (Nat.le_of_ble_eq_true rfl) ?_
    change ax_R G 4 0 0 (35, [(3, .inl (.int (((s.1 0 26 ((s.1 0 25 3)).toNatClampNeg) - (105 : Int32))))), (0, .inr (0, 25)), (1, .inl (.int (a1))), (2, .inl (.int (a2)))], [], ax_m (s5) ρ)
    obtain ⟨b7, h⟩ := ax_gd h
    refine ax_bk hK (ax_fc (ax_v_ld (ax_r_aload_n (i := 0) d_R_takeLetter_35 rfl)) (ax_fc (ax_w_gf (e := (some (g, 4))) hal d_R_takeLetter_36 fd_R_45) (ax_fc (ax_w_gf (e := none) hal d_R_takeLetter_39 fd_R_264) (ax_fc (ax_v_ld (ax_r_iload_n (i := 1) d_R_takeLetter_42 rfl)) (ax_fc (ax_v_pu (ax_r_iconst (v := -1) d_R_takeLetter_43 (by decide))) (ax_fc (ax_w_iast hal d_R_takeLetter_44) ax_fn)))))) (y := (45, [(3, .inl (.int (((s.1 0 26 ((s.1 0 25 3)).toNatClampNeg) - (105 : Int32))))), (0, .inr (0, 25)), (1, .inl (.int (a1))), (2, .inl (.int (a2)))], [], ax_m (ax_wI s5 g 9 (a1).toNatClampNeg (-1 : Int32)) ρ)) rfl ⟨trivial, ⟨(h0 25 rfl), hr.2.1⟩, (hg 4 rfl), trivial, trivial, ⟨(hg 9 rfl), ax_inp b7⟩, trivial⟩ ?_
    refine ax_lt (Q := fun ςς => ax_R G 4 0 0 (45, [(3, .inl (.int (((s.1 0 26 ((s.1 0 25 3)).toNatClampNeg) - (105 : Int32))))), (0, .inr (0, 25)), (1, .inl (.int (a1))), (2, .inl (.int (a2)))], [], ax_m (ςς) ρ)) h (fun s8 h => ?_)
    cases h
    exact ax_Lsub [1, 2, 3, 0] rfl (KEw14 _ rfl)
def y_R_index : MethodName := ⟨"CipherNotation$Reader", "index", "(I)I"⟩
theorem d_R_index_0 : decode prog_6_method_30_code 0 = .ok (.aload_n 0, 1) := by decide +kernel
theorem d_R_index_1 : decode prog_6_method_30_code 1 = .ok (.bipush (40), 2) := by decide +kernel
theorem d_R_index_3 : decode prog_6_method_30_code 3 = .ok (.invokevirtual (115), 3) := by decide +kernel
theorem d_R_index_6 : decode prog_6_method_30_code 6 = .ok (.ifCond .ne (5), 3) := by decide +kernel
theorem d_R_index_9 : decode prog_6_method_30_code 9 = .ok (.iconst (-1), 1) := by decide +kernel
theorem d_R_index_10 : decode prog_6_method_30_code 10 = .ok (.ireturn, 1) := by decide +kernel
theorem d_R_index_11 : decode prog_6_method_30_code 11 = .ok (.iconst 0, 1) := by decide +kernel
theorem d_R_index_12 : decode prog_6_method_30_code 12 = .ok (.istore_n 2, 1) := by decide +kernel
theorem d_R_index_13 : decode prog_6_method_30_code 13 = .ok (.iload_n 2, 1) := by decide +kernel
theorem d_R_index_14 : decode prog_6_method_30_code 14 = .ok (.sipush (240), 3) := by decide +kernel
theorem d_R_index_17 : decode prog_6_method_30_code 17 = .ok (.if_icmp .ge (82), 3) := by decide +kernel
theorem d_R_index_20 : decode prog_6_method_30_code 20 = .ok (.aload_n 0, 1) := by decide +kernel
theorem d_R_index_21 : decode prog_6_method_30_code 21 = .ok (.ldc (110), 2) := by decide +kernel
theorem d_R_index_23 : decode prog_6_method_30_code 23 = .ok (.invokevirtual (111), 3) := by decide +kernel
theorem d_R_index_26 : decode prog_6_method_30_code 26 = .ok (.istore_n 3, 1) := by decide +kernel
theorem d_R_index_27 : decode prog_6_method_30_code 27 = .ok (.aload_n 0, 1) := by decide +kernel
theorem d_R_index_28 : decode prog_6_method_30_code 28 = .ok (.getfield (11), 3) := by decide +kernel
theorem d_R_index_31 : decode prog_6_method_30_code 31 = .ok (.aload_n 0, 1) := by decide +kernel
theorem d_R_index_32 : decode prog_6_method_30_code 32 = .ok (.getfield (72), 3) := by decide +kernel
theorem d_R_index_35 : decode prog_6_method_30_code 35 = .ok (.caload, 1) := by decide +kernel
theorem d_R_index_36 : decode prog_6_method_30_code 36 = .ok (.invokestatic (146), 3) := by decide +kernel
theorem d_R_index_39 : decode prog_6_method_30_code 39 = .ok (.ifCond .eq (21), 3) := by decide +kernel
theorem d_R_index_42 : decode prog_6_method_30_code 42 = .ok (.aload_n 0, 1) := by decide +kernel
theorem d_R_index_43 : decode prog_6_method_30_code 43 = .ok (.iload_n 1, 1) := by decide +kernel
theorem d_R_index_44 : decode prog_6_method_30_code 44 = .ok (.iload_n 3, 1) := by decide +kernel
theorem d_R_index_45 : decode prog_6_method_30_code 45 = .ok (.iconst (-1), 1) := by decide +kernel
theorem d_R_index_46 : decode prog_6_method_30_code 46 = .ok (.if_icmp .ne (7), 3) := by decide +kernel
theorem d_R_index_49 : decode prog_6_method_30_code 49 = .ok (.iconst 1, 1) := by decide +kernel
theorem d_R_index_50 : decode prog_6_method_30_code 50 = .ok (.goto (4), 3) := by decide +kernel
theorem d_R_index_53 : decode prog_6_method_30_code 53 = .ok (.iload_n 3, 1) := by decide +kernel
theorem d_R_index_54 : decode prog_6_method_30_code 54 = .ok (.invokevirtual (249), 3) := by decide +kernel
theorem d_R_index_57 : decode prog_6_method_30_code 57 = .ok (.goto (24), 3) := by decide +kernel
theorem d_R_index_60 : decode prog_6_method_30_code 60 = .ok (.iload_n 3, 1) := by decide +kernel
theorem d_R_index_61 : decode prog_6_method_30_code 61 = .ok (.iconst (-1), 1) := by decide +kernel
theorem d_R_index_62 : decode prog_6_method_30_code 62 = .ok (.if_icmp .ne (5), 3) := by decide +kernel
theorem d_R_index_65 : decode prog_6_method_30_code 65 = .ok (.iconst (-1), 1) := by decide +kernel
theorem d_R_index_66 : decode prog_6_method_30_code 66 = .ok (.ireturn, 1) := by decide +kernel
theorem d_R_index_67 : decode prog_6_method_30_code 67 = .ok (.aload_n 0, 1) := by decide +kernel
theorem d_R_index_68 : decode prog_6_method_30_code 68 = .ok (.getfield (45), 3) := by decide +kernel
theorem d_R_index_71 : decode prog_6_method_30_code 71 = .ok (.getfield (260), 3) := by decide +kernel
theorem d_R_index_74 : decode prog_6_method_30_code 74 = .ok (.iload_n 1, 1) := by decide +kernel
theorem d_R_index_75 : decode prog_6_method_30_code 75 = .ok (.dup2, 1) := by decide +kernel
theorem d_R_index_76 : decode prog_6_method_30_code 76 = .ok (.laload, 1) := by decide +kernel
theorem d_R_index_77 : decode prog_6_method_30_code 77 = .ok (.iload_n 3, 1) := by decide +kernel
theorem d_R_index_78 : decode prog_6_method_30_code 78 = .ok (.i2l, 1) := by decide +kernel
theorem d_R_index_79 : decode prog_6_method_30_code 79 = .ok (.ladd, 1) := by decide +kernel
theorem d_R_index_80 : decode prog_6_method_30_code 80 = .ok (.lastore, 1) := by decide +kernel
theorem d_R_index_81 : decode prog_6_method_30_code 81 = .ok (.aload_n 0, 1) := by decide +kernel
theorem d_R_index_82 : decode prog_6_method_30_code 82 = .ok (.bipush (43), 2) := by decide +kernel
theorem d_R_index_84 : decode prog_6_method_30_code 84 = .ok (.invokevirtual (115), 3) := by decide +kernel
theorem d_R_index_87 : decode prog_6_method_30_code 87 = .ok (.ifCond .ne (6), 3) := by decide +kernel
theorem d_R_index_90 : decode prog_6_method_30_code 90 = .ok (.goto (9), 3) := by decide +kernel
theorem d_R_index_93 : decode prog_6_method_30_code 93 = .ok (.iinc 2 (1), 3) := by decide +kernel
theorem d_R_index_96 : decode prog_6_method_30_code 96 = .ok (.goto (-83), 3) := by decide +kernel
theorem d_R_index_99 : decode prog_6_method_30_code 99 = .ok (.aload_n 0, 1) := by decide +kernel
theorem d_R_index_100 : decode prog_6_method_30_code 100 = .ok (.bipush (41), 2) := by decide +kernel
theorem d_R_index_102 : decode prog_6_method_30_code 102 = .ok (.invokevirtual (115), 3) := by decide +kernel
theorem d_R_index_105 : decode prog_6_method_30_code 105 = .ok (.ifCond .eq (7), 3) := by decide +kernel
theorem d_R_index_108 : decode prog_6_method_30_code 108 = .ok (.iload_n 1, 1) := by decide +kernel
theorem d_R_index_109 : decode prog_6_method_30_code 109 = .ok (.goto (4), 3) := by decide +kernel
theorem d_R_index_112 : decode prog_6_method_30_code 112 = .ok (.iconst (-1), 1) := by decide +kernel
theorem d_R_index_113 : decode prog_6_method_30_code 113 = .ok (.ireturn, 1) := by decide +kernel
set_option maxRecDepth 100000 in
theorem cw_R_146 : ax_cw "CipherNotation$Reader" 146 y_R_isLetter (.code y_R_isLetter prog_6_method_7_code 1 (some .boolean)) 1 := ⟨nw_2 200 (by decide +kernel) rfl, nw_1 2 (by decide +kernel) rfl, nw_2 202 rfl rfl, by decide +kernel, by decide +kernel⟩
theorem sm_R_isLetter : Cond.static y_R_isLetter ∈ ax_tbl := nw_2 201 (by decide +kernel) rfl
theorem fd_R_260 : ax_fd "CipherNotation$Reader" 260 0 1 := ⟨nC0, nT0, 9, nY0, rfl, nW0, by decide, nw_1 139 (by decide +kernel) rfl, nO0, nA0⟩
set_option maxRecDepth 100000 in
theorem cw_R_249 : ax_cw "CipherNotation$Reader" 249 y_R_takeLetter (.code y_R_takeLetter prog_6_method_31_code 4 none) 2 := ⟨nw_3 13 (by decide +kernel) rfl, nw_1 2 (by decide +kernel) rfl, nw_3 16 rfl rfl, by decide +kernel, by decide +kernel⟩
theorem im_R_takeLetter : Cond.instanceMethod y_R_takeLetter ∈ ax_tbl := nw_3 15 (by decide +kernel) rfl
theorem se_R_takeLetter : Cond.selects y_R_takeLetter.cls y_R_takeLetter y_R_takeLetter ∈ ax_tbl := nw_sel 17 (by decide +kernel) (by decide +kernel)
def lp_R_index_13 (F : Nat) (g : Nat) (x1 : Int32) : Nat → Int32 → ax_σ → Option ((Int32 × ax_σ) ⊕ (ax_σ))
  | 0, _, _ => none
  | n + 1, x2, s =>
    if (240 : Int32) ≤ x2 then
      some (.inr s)
    else
      Option.bind (f_R_takeNumber F g (1000000000 : Int32) s) (fun (r4, s5) =>
        bif ax_in (s5.1 0 25 3) 241 then
        Option.bind (f_R_isLetter (s5.1 0 26 ((s5.1 0 25 3)).toNatClampNeg)) (fun r8 =>
          if r8 = (0 : Int32) then
            if r4 = (-1 : Int32) then
              some (.inl ((-1 : Int32), s5))
            else
              bif ax_in x1 240 then
              bif ax_in x1 240 then
              ax_let (ax_wL s5 g 6 (x1).toNatClampNeg ((s5.2 g 6 (x1).toNatClampNeg) + (r4).toInt64)) (fun s12 =>
                Option.bind (f_R_take g (43 : Int32) s12) (fun (r13, s14) =>
                  if r13 = (0 : Int32) then
                    some (.inr s14)
                  else
                    lp_R_index_13 F g x1 n (x2 + (1 : Int32)) s14))
              else none
              else none
          else
            Option.bind (
              if r4 = (-1 : Int32) then
                some (1 : Int32)
              else
                some r4) (fun v19 =>
              Option.bind (f_R_takeLetter F g x1 v19 s5) (fun s20 =>
                Option.bind (f_R_take g (43 : Int32) s20) (fun (r22, s23) =>
                  if r22 = (0 : Int32) then
                    some (.inr s23)
                  else
                    lp_R_index_13 F g x1 n (x2 + (1 : Int32)) s23))))
        else none)
set_option maxHeartbeats 4000000 in
set_option maxRecDepth 100000 in
theorem pl_R_index_13 {D : va_G} {cA : Nat → ClassId} {ad : Nat → Nat → Nat} {al : List (Nat × Nat)} {θ : ax_Θ} {l : Launch} {ρ : ax_ρ} {G : ax_G} {F g : Nat} {x1 : Int32} (h0 : ax_M0 al) (hg : ax_Mg al g) (hr : ax_rd ρ g) (hB : ax_B D cA ad al θ l "CipherNotation$Reader" prog_6_method_30_code 4 3 G) : ∀ (n : Nat) {x2 : Int32} {s : ax_σ} (out : (Int32 × ax_σ) ⊕ (ax_σ)), lp_R_index_13 F g x1 n x2 s = some out → (∀ (r0 : Int32) (s0 : ax_σ), out = .inl (r0, s0) → ax_At D cA ad al θ l "CipherNotation$Reader" prog_6_method_30_code 4 3 (some .int) (some (.inl (.int r0))) (ax_m s0 ρ) G) → (∀ (es : ax_σ), out = .inr es → ax_R G 4 0 0 (99, [(0, .inr (0, 25)), (1, .inl (.int (x1)))], [], ax_m (es) ρ)) → ax_R G 4 0 0 (13, [(0, .inr (0, 25)), (1, .inl (.int (x1))), (2, .inl (.int (x2)))], [], ax_m (s) ρ) := by
  have hK := hB.K
  have hal := hB.la
  intro n
  induction n with
  | zero =>
    intro x2 s out h
    cases h
  | succ n ih =>
    intro x2 s out h RT KE
    rw [lp_R_index_13] at h
    refine ax_bk hK (ax_fc (ax_v_ld (ax_r_iload_n (i := 2) d_R_index_13 rfl)) (ax_fc (ax_v_pu (ax_r_sipush (v := 240) d_R_index_14 (by decide))) ax_fn)) (y := (17, [(0, .inr (0, 25)), (1, .inl (.int (x1))), (2, .inl (.int (x2)))], [.inl (.int ((240 : Int32))), .inl (.int (x2))], ax_m (s) ρ)) rfl ⟨trivial, trivial, trivial⟩ ?_
    refine ax_ic_ge (tgt := 99) hK d_R_index_17 (by decide) (fun c27 => ?_) (fun c27 => ?_)
    · replace h := ax_it c27 h
      cases h
      exact ax_Lsub [0, 1] rfl (KE _ rfl)
    · replace h := ax_if c27 h
      refine ax_bk hK (ax_fc (ax_v_ld (ax_r_aload_n (i := 0) d_R_index_20 rfl)) (ax_fc (ax_v_ldc (v := 1000000000) d_R_index_21 (nw_2 73 (by decide +kernel) rfl)) ax_fn)) (y := (23, [(0, .inr (0, 25)), (1, .inl (.int (x1))), (2, .inl (.int (x2)))], [.inl (.int ((1000000000 : Int32))), .inr (0, 25)], ax_m (s) ρ)) rfl ⟨trivial, trivial, trivial⟩ ?_
      obtain ⟨⟨r4, s5⟩, q6, h⟩ := ax_bd h
      dsimp only at h
      refine ax_bV (rest := []) hB (t_R_takeNumber h0 hg hr q6) cw_R_111 im_R_takeNumber se_R_takeNumber d_R_index_23 (h0 25 rfl) rfl rfl (by decide) (by decide) rfl rfl (Nat.le_of_ble_eq_true rfl) ?_
      change ax_R G 4 0 0 (26, [(0, .inr (0, 25)), (1, .inl (.int (x1))), (2, .inl (.int (x2)))], [.inl (.int (r4))], ax_m (s5) ρ)
      obtain ⟨b7, h⟩ := ax_gd h
      refine ax_bk hK (ax_fc (ax_v_so (ax_r_istore_n (i := 3) d_R_index_26 rfl)) (ax_fc (ax_v_ld (ax_r_aload_n (i := 0) d_R_index_27 rfl)) (ax_fc (ax_w_gf (e := none) hal d_R_index_28 fd_R_11) (ax_fc (ax_v_ld (ax_r_aload_n (i := 0) d_R_index_31 rfl)) (ax_fc (ax_w_gf (e := none) hal d_R_index_32 fd_R_72) (ax_fc (ax_w_cald hal d_R_index_35) ax_fn)))))) (y := (36, [(3, .inl (.int (r4))), (0, .inr (0, 25)), (1, .inl (.int (x1))), (2, .inl (.int (x2)))], [.inl (.int ((s5.1 0 26 ((s5.1 0 25 3)).toNatClampNeg)))], ax_m (s5) ρ)) rfl ⟨trivial, trivial, (h0 25 rfl), trivial, (h0 25 rfl), ⟨(h0 26 rfl), ax_inp b7⟩, trivial⟩ ?_
      obtain ⟨r8, q9, h⟩ := ax_bd h
      refine ax_bS (rest := []) hB (t_R_isLetter q9) cw_R_146 sm_R_isLetter d_R_index_36 (by decide) (by decide) rfl rfl (Nat.le_of_ble_eq_true rfl) ?_
      change ax_R G 4 0 0 (39, [(3, .inl (.int (r4))), (0, .inr (0, 25)), (1, .inl (.int (x1))), (2, .inl (.int (x2)))], [.inl (.int (r8))], ax_m (s5) ρ)
      refine ax_if_eq (tgt := 60) hK d_R_index_39 (by decide) (fun c26 => ?_) (fun c26 => ?_)
      · replace h := ax_it c26 h
        refine ax_bk hK (ax_fc (ax_v_ld (ax_r_iload_n (i := 3) d_R_index_60 rfl)) (ax_fc (ax_v_pu (ax_r_iconst (v := -1) d_R_index_61 (by decide))) ax_fn)) (y := (62, [(3, .inl (.int (r4))), (0, .inr (0, 25)), (1, .inl (.int (x1))), (2, .inl (.int (x2)))], [.inl (.int ((-1 : Int32))), .inl (.int (r4))], ax_m (s5) ρ)) rfl ⟨trivial, trivial, trivial⟩ ?_
        refine ax_ic_ne (tgt := 67) hK d_R_index_62 (by decide) (fun c17 => ?_) (fun c17 => ?_)
        · replace h := ax_if c17 h
          obtain ⟨b10, h⟩ := ax_gd h
          obtain ⟨b11, h⟩ := ax_gd h
          refine ax_bk hK (ax_fc (ax_v_ld (ax_r_aload_n (i := 0) d_R_index_67 rfl)) (ax_fc (ax_w_gf (e := (some (g, 4))) hal d_R_index_68 fd_R_45) (ax_fc (ax_w_gf (e := none) hal d_R_index_71 fd_R_260) (ax_fc (ax_v_ld (ax_r_iload_n (i := 1) d_R_index_74 rfl)) (ax_fc (ax_v_pu (ax_r_dup2p d_R_index_75)) (ax_fc (ax_w_lald hal d_R_index_76) (ax_fc (ax_v_ld (ax_r_iload_n (i := 3) d_R_index_77 rfl)) (ax_fc (ax_v_pu (ax_r_i2l d_R_index_78)) (ax_fc (ax_v_pu (ax_r_ladd d_R_index_79)) (ax_fc (ax_w_last hal d_R_index_80) ax_fn)))))))))) (y := (81, [(3, .inl (.int (r4))), (0, .inr (0, 25)), (1, .inl (.int (x1))), (2, .inl (.int (x2)))], [], ax_m (ax_wL s5 g 6 (x1).toNatClampNeg ((s5.2 g 6 (x1).toNatClampNeg) + (r4).toInt64)) ρ)) rfl ⟨trivial, ⟨(h0 25 rfl), hr.2.1⟩, (hg 4 rfl), trivial, trivial, ⟨(hg 6 rfl), ax_inp b10⟩, trivial, trivial, trivial, ⟨(hg 6 rfl), ax_inp b11⟩, trivial⟩ ?_
          refine ax_lt (Q := fun ςς => ax_R G 4 0 0 (81, [(3, .inl (.int (r4))), (0, .inr (0, 25)), (1, .inl (.int (x1))), (2, .inl (.int (x2)))], [], ax_m (ςς) ρ)) h (fun s12 h => ?_)
          refine ax_bk hK (ax_fc (ax_v_ld (ax_r_aload_n (i := 0) d_R_index_81 rfl)) (ax_fc (ax_v_pu (ax_r_bipush (v := 43) d_R_index_82 (by decide))) ax_fn)) (y := (84, [(3, .inl (.int (r4))), (0, .inr (0, 25)), (1, .inl (.int (x1))), (2, .inl (.int (x2)))], [.inl (.int ((43 : Int32))), .inr (0, 25)], ax_m (s12) ρ)) rfl ⟨trivial, trivial, trivial⟩ ?_
          obtain ⟨⟨r13, s14⟩, q15, h⟩ := ax_bd h
          dsimp only at h
          refine ax_bV (rest := []) hB (t_R_take h0 hg hr q15) cw_R_115 im_R_take se_R_take d_R_index_84 (h0 25 rfl) rfl rfl (by decide) (by decide) rfl rfl (Nat.le_of_ble_eq_true rfl) ?_
          change ax_R G 4 0 0 (87, [(3, .inl (.int (r4))), (0, .inr (0, 25)), (1, .inl (.int (x1))), (2, .inl (.int (x2)))], [.inl (.int (r13))], ax_m (s14) ρ)
          refine ax_if_ne (tgt := 93) hK d_R_index_87 (by decide) (fun c16 => ?_) (fun c16 => ?_)
          · replace h := ax_if c16 h
            refine ax_bk hK (ax_fc (ax_v_ii (d := 1) d_R_index_93 (by decide)) (ax_fc (ax_v_go (tgt := 13) d_R_index_96 (by decide)) ax_fn)) (y := (13, [(2, .inl (.int ((x2 + (1 : Int32))))), (3, .inl (.int (r4))), (0, .inr (0, 25)), (1, .inl (.int (x1)))], [], ax_m (s14) ρ)) rfl ⟨trivial, trivial, trivial⟩ ?_
            exact ax_Lsub [2, 3, 0] rfl (ih _ h RT KE)
          · replace h := ax_it c16 h
            refine ax_bk hK (ax_fc (ax_v_go (tgt := 99) d_R_index_90 (by decide)) ax_fn) (y := (99, [(3, .inl (.int (r4))), (0, .inr (0, 25)), (1, .inl (.int (x1))), (2, .inl (.int (x2)))], [], ax_m (s14) ρ)) rfl ⟨trivial, trivial⟩ ?_
            cases h
            exact ax_Lsub [1, 2] rfl (KE _ rfl)
        · replace h := ax_it c17 h
          refine ax_bk hK (ax_fc (ax_v_pu (ax_r_iconst (v := -1) d_R_index_65 (by decide))) ax_fn) (y := (66, [(3, .inl (.int (r4))), (0, .inr (0, 25)), (1, .inl (.int (x1))), (2, .inl (.int (x2)))], [.inl (.int ((-1 : Int32)))], ax_m (s5) ρ)) rfl ⟨trivial, trivial⟩ ?_
          cases h
          exact ax_iret (RT _ _ rfl) d_R_index_66
      · replace h := ax_if c26 h
        refine ax_bk hK (ax_fc (ax_v_ld (ax_r_aload_n (i := 0) d_R_index_42 rfl)) (ax_fc (ax_v_ld (ax_r_iload_n (i := 1) d_R_index_43 rfl)) (ax_fc (ax_v_ld (ax_r_iload_n (i := 3) d_R_index_44 rfl)) (ax_fc (ax_v_pu (ax_r_iconst (v := -1) d_R_index_45 (by decide))) ax_fn)))) (y := (46, [(3, .inl (.int (r4))), (0, .inr (0, 25)), (1, .inl (.int (x1))), (2, .inl (.int (x2)))], [.inl (.int ((-1 : Int32))), .inl (.int (r4)), .inl (.int (x1)), .inr (0, 25)], ax_m (s5) ρ)) rfl ⟨trivial, trivial, trivial, trivial, trivial⟩ ?_
        obtain ⟨w28, hw28, h⟩ := ax_bd h
        have KEw28 : ∀ (v19 : Int32), w28 = v19 → ax_R G 4 0 0 (54, [(0, .inr (0, 25)), (1, .inl (.int (x1))), (2, .inl (.int (x2)))], [.inl (.int (v19)), .inl (.int (x1)), .inr (0, 25)], ax_m (s5) ρ) := by
          intro v19 e9
          subst w28
          try dsimp only at h
          obtain ⟨s20, q21, h⟩ := ax_bd h
          refine ax_bV (rest := []) hB (t_R_takeLetter h0 hg hr q21) cw_R_249 im_R_takeLetter se_R_takeLetter d_R_index_54 (h0 25 rfl) rfl rfl (by decide) (by decide) rfl rfl (Nat.le_of_ble_eq_true rfl) ?_
          change ax_R G 4 0 0 (57, [(0, .inr (0, 25)), (1, .inl (.int (x1))), (2, .inl (.int (x2)))], [], ax_m (s20) ρ)
          refine ax_bk hK (ax_fc (ax_v_go (tgt := 81) d_R_index_57 (by decide)) ax_fn) (y := (81, [(0, .inr (0, 25)), (1, .inl (.int (x1))), (2, .inl (.int (x2)))], [], ax_m (s20) ρ)) rfl ⟨trivial, trivial⟩ ?_
          refine ax_bk hK (ax_fc (ax_v_ld (ax_r_aload_n (i := 0) d_R_index_81 rfl)) (ax_fc (ax_v_pu (ax_r_bipush (v := 43) d_R_index_82 (by decide))) ax_fn)) (y := (84, [(0, .inr (0, 25)), (1, .inl (.int (x1))), (2, .inl (.int (x2)))], [.inl (.int ((43 : Int32))), .inr (0, 25)], ax_m (s20) ρ)) rfl ⟨trivial, trivial, trivial⟩ ?_
          obtain ⟨⟨r22, s23⟩, q24, h⟩ := ax_bd h
          dsimp only at h
          refine ax_bV (rest := []) hB (t_R_take h0 hg hr q24) cw_R_115 im_R_take se_R_take d_R_index_84 (h0 25 rfl) rfl rfl (by decide) (by decide) rfl rfl (Nat.le_of_ble_eq_true rfl) ?_
          change ax_R G 4 0 0 (87, [(0, .inr (0, 25)), (1, .inl (.int (x1))), (2, .inl (.int (x2)))], [.inl (.int (r22))], ax_m (s23) ρ)
          refine ax_if_ne (tgt := 93) hK d_R_index_87 (by decide) (fun c25 => ?_) (fun c25 => ?_)
          · replace h := ax_if c25 h
            refine ax_bk hK (ax_fc (ax_v_ii (d := 1) d_R_index_93 (by decide)) (ax_fc (ax_v_go (tgt := 13) d_R_index_96 (by decide)) ax_fn)) (y := (13, [(2, .inl (.int ((x2 + (1 : Int32))))), (0, .inr (0, 25)), (1, .inl (.int (x1)))], [], ax_m (s23) ρ)) rfl ⟨trivial, trivial, trivial⟩ ?_
            exact ax_Lsub [1, 2, 0] rfl (ih _ h RT KE)
          · replace h := ax_it c25 h
            refine ax_bk hK (ax_fc (ax_v_go (tgt := 99) d_R_index_90 (by decide)) ax_fn) (y := (99, [(0, .inr (0, 25)), (1, .inl (.int (x1))), (2, .inl (.int (x2)))], [], ax_m (s23) ρ)) rfl ⟨trivial, trivial⟩ ?_
            cases h
            exact ax_Lsub [0, 1] rfl (KE _ rfl)
        clear h
        have h := hw28
        refine ax_ic_ne (tgt := 53) hK d_R_index_46 (by decide) (fun c18 => ?_) (fun c18 => ?_)
        · replace h := ax_if c18 h
          refine ax_bk hK (ax_fc (ax_v_ld (ax_r_iload_n (i := 3) d_R_index_53 rfl)) ax_fn) (y := (54, [(3, .inl (.int (r4))), (0, .inr (0, 25)), (1, .inl (.int (x1))), (2, .inl (.int (x2)))], [.inl (.int (r4)), .inl (.int (x1)), .inr (0, 25)], ax_m (s5) ρ)) rfl ⟨trivial, trivial⟩ ?_
          cases h
          exact ax_Lsub [1, 2, 3] rfl (KEw28 _ rfl)
        · replace h := ax_it c18 h
          refine ax_bk hK (ax_fc (ax_v_pu (ax_r_iconst (v := 1) d_R_index_49 (by decide))) (ax_fc (ax_v_go (tgt := 54) d_R_index_50 (by decide)) ax_fn)) (y := (54, [(3, .inl (.int (r4))), (0, .inr (0, 25)), (1, .inl (.int (x1))), (2, .inl (.int (x2)))], [.inl (.int ((1 : Int32))), .inl (.int (x1)), .inr (0, 25)], ax_m (s5) ρ)) rfl ⟨trivial, trivial, trivial⟩ ?_
          cases h
          exact ax_Lsub [1, 2, 3] rfl (KEw28 _ rfl)
def f_R_index (F : Nat) (g : Nat) (a1 : Int32) (s : ax_σ) : Option (Int32 × ax_σ) :=
  Option.bind (f_R_take g (40 : Int32) s) (fun (r1, s2) =>
    if r1 = (0 : Int32) then
      some (((-1 : Int32), s2))
    else
      Option.bind (lp_R_index_13 F g a1 F (0 : Int32) s2) (fun w => match w with
        | .inl w => some w
        | .inr s28 =>
          Option.bind (f_R_take g (41 : Int32) s28) (fun (r29, s30) =>
            if r29 = (0 : Int32) then
              some (((-1 : Int32), s30))
            else
              some ((a1, s30)))))
set_option maxHeartbeats 4000000 in
set_option maxRecDepth 100000 in
theorem t_R_index {l : Launch} {D : va_G} {cA : Nat → ClassId} {ad : Nat → Nat → Nat} {al : List (Nat × Nat)} {θ : ax_Θ} {ρ : ax_ρ} {F : Nat} {g : Nat} (h0 : ax_M0 al) (hg : ax_Mg al g) (hr : ax_rd ρ g) {a1 : Int32} {s : ax_σ} {r0 : Int32} {s0 : ax_σ} (h : f_R_index F g a1 s = some (r0, s0)) : ax_T l D cA ad al θ y_R_index (.code y_R_index prog_6_method_30_code 4 (some .int)) 3 [.inr (0, 25), .inl (.int (a1))] (ax_m s ρ) (some (.inl (.int r0))) (ax_m s0 ρ) := by
  refine ax_T_of (own := "CipherNotation$Reader") (by decide) rfl (Nat.le_of_ble_eq_true rfl) [(0, .inr (0, 25)), (1, .inl (.int (a1)))] rfl ?_
  intro G hA
  have hB := hA.B
  have hK := hB.K
  have hal := hB.la
  unfold f_R_index at h
  refine ax_bk hK (ax_fc (ax_v_ld (ax_r_aload_n (i := 0) d_R_index_0 rfl)) (ax_fc (ax_v_pu (ax_r_bipush (v := 40) d_R_index_1 (by decide))) ax_fn)) (y := (3, [(0, .inr (0, 25)), (1, .inl (.int (a1)))], [.inl (.int ((40 : Int32))), .inr (0, 25)], ax_m (s) ρ)) rfl ⟨trivial, trivial, trivial⟩ ?_
  obtain ⟨⟨r1, s2⟩, q3, h⟩ := ax_bd h
  dsimp only at h
  refine ax_bV (rest := []) hB (t_R_take h0 hg hr q3) cw_R_115 im_R_take se_R_take d_R_index_3 (h0 25 rfl) rfl rfl (by decide) (by decide) rfl rfl (Nat.le_of_ble_eq_true rfl) ?_
  change ax_R G 4 0 0 (6, [(0, .inr (0, 25)), (1, .inl (.int (a1)))], [.inl (.int (r1))], ax_m (s2) ρ)
  refine ax_if_ne (tgt := 11) hK d_R_index_6 (by decide) (fun c33 => ?_) (fun c33 => ?_)
  · replace h := ax_if c33 h
    refine ax_bk hK (ax_fc (ax_v_pu (ax_r_iconst (v := 0) d_R_index_11 (by decide))) (ax_fc (ax_v_so (ax_r_istore_n (i := 2) d_R_index_12 rfl)) ax_fn)) (y := (13, [(2, .inl (.int ((0 : Int32)))), (0, .inr (0, 25)), (1, .inl (.int (a1)))], [], ax_m (s2) ρ)) rfl ⟨trivial, trivial, trivial⟩ ?_
    obtain ⟨w34, hw34, h⟩ := ax_bd h
    have RTw34 : ∀ (r0 : Int32) (s0 : ax_σ), w34 = .inl (r0, s0) → ax_At D cA ad al θ l "CipherNotation$Reader" prog_6_method_30_code 4 3 (some .int) (some (.inl (.int r0))) (ax_m s0 ρ) G := by
      intro r0 s0 e9
      subst w34
      try dsimp only at h
      cases h
      exact hA
    refine ax_Lsub [1, 2, 0] rfl (pl_R_index_13 h0 hg hr hB F _ hw34 RTw34 ?_)
    intro s28 e9
    subst w34
    try dsimp only at h
    change ax_R G 4 0 0 (99, [(0, .inr (0, 25)), (1, .inl (.int (a1)))], [], ax_m (s28) ρ)
    refine ax_bk hK (ax_fc (ax_v_ld (ax_r_aload_n (i := 0) d_R_index_99 rfl)) (ax_fc (ax_v_pu (ax_r_bipush (v := 41) d_R_index_100 (by decide))) ax_fn)) (y := (102, [(0, .inr (0, 25)), (1, .inl (.int (a1)))], [.inl (.int ((41 : Int32))), .inr (0, 25)], ax_m (s28) ρ)) rfl ⟨trivial, trivial, trivial⟩ ?_
    obtain ⟨⟨r29, s30⟩, q31, h⟩ := ax_bd h
    dsimp only at h
    refine ax_bV (rest := []) hB (t_R_take h0 hg hr q31) cw_R_115 im_R_take se_R_take d_R_index_102 (h0 25 rfl) rfl rfl (by decide) (by decide) rfl rfl (Nat.le_of_ble_eq_true rfl) ?_
    change ax_R G 4 0 0 (105, [(0, .inr (0, 25)), (1, .inl (.int (a1)))], [.inl (.int (r29))], ax_m (s30) ρ)
    refine ax_if_eq (tgt := 112) hK d_R_index_105 (by decide) (fun c32 => ?_) (fun c32 => ?_)
    · replace h := ax_it c32 h
      refine ax_bk hK (ax_fc (ax_v_pu (ax_r_iconst (v := -1) d_R_index_112 (by decide))) ax_fn) (y := (113, [(0, .inr (0, 25)), (1, .inl (.int (a1)))], [.inl (.int ((-1 : Int32)))], ax_m (s30) ρ)) rfl ⟨trivial, trivial⟩ ?_
      cases h
      exact ax_iret hA d_R_index_113
    · replace h := ax_if c32 h
      refine ax_bk hK (ax_fc (ax_v_ld (ax_r_iload_n (i := 1) d_R_index_108 rfl)) (ax_fc (ax_v_go (tgt := 113) d_R_index_109 (by decide)) ax_fn)) (y := (113, [(0, .inr (0, 25)), (1, .inl (.int (a1)))], [.inl (.int (a1))], ax_m (s30) ρ)) rfl ⟨trivial, trivial, trivial⟩ ?_
      cases h
      exact ax_iret hA d_R_index_113
  · replace h := ax_it c33 h
    refine ax_bk hK (ax_fc (ax_v_pu (ax_r_iconst (v := -1) d_R_index_9 (by decide))) ax_fn) (y := (10, [(0, .inr (0, 25)), (1, .inl (.int (a1)))], [.inl (.int ((-1 : Int32)))], ax_m (s2) ρ)) rfl ⟨trivial, trivial⟩ ?_
    cases h
    exact ax_iret hA d_R_index_10
