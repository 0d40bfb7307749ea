def y_R_expression : MethodName := ⟨"CipherNotation$Reader", "expression", "(I)I"⟩
def y_R_restOfBracket : MethodName := ⟨"CipherNotation$Reader", "restOfBracket", "(II)I"⟩
theorem d_R_restOfBracket_0 : decode prog_6_method_29_code 0 = .ok (.aload_n 0, 1) := by decide +kernel
theorem d_R_restOfBracket_1 : decode prog_6_method_29_code 1 = .ok (.getfield (11), 3) := by decide +kernel
theorem d_R_restOfBracket_4 : decode prog_6_method_29_code 4 = .ok (.aload_n 0, 1) := by decide +kernel
theorem d_R_restOfBracket_5 : decode prog_6_method_29_code 5 = .ok (.getfield (72), 3) := by decide +kernel
theorem d_R_restOfBracket_8 : decode prog_6_method_29_code 8 = .ok (.caload, 1) := by decide +kernel
theorem d_R_restOfBracket_9 : decode prog_6_method_29_code 9 = .ok (.istore_n 3, 1) := by decide +kernel
theorem d_R_restOfBracket_10 : decode prog_6_method_29_code 10 = .ok (.ldc (255), 2) := by decide +kernel
theorem d_R_restOfBracket_12 : decode prog_6_method_29_code 12 = .ok (.iload_n 3, 1) := by decide +kernel
theorem d_R_restOfBracket_13 : decode prog_6_method_29_code 13 = .ok (.invokevirtual (138), 3) := by decide +kernel
theorem d_R_restOfBracket_16 : decode prog_6_method_29_code 16 = .ok (.ifCond .ge (5), 3) := by decide +kernel
theorem d_R_restOfBracket_19 : decode prog_6_method_29_code 19 = .ok (.iconst (-1), 1) := by decide +kernel
theorem d_R_restOfBracket_20 : decode prog_6_method_29_code 20 = .ok (.ireturn, 1) := by decide +kernel
theorem d_R_restOfBracket_21 : decode prog_6_method_29_code 21 = .ok (.aload_n 0, 1) := by decide +kernel
theorem d_R_restOfBracket_22 : decode prog_6_method_29_code 22 = .ok (.dup, 1) := by decide +kernel
theorem d_R_restOfBracket_23 : decode prog_6_method_29_code 23 = .ok (.getfield (72), 3) := by decide +kernel
theorem d_R_restOfBracket_26 : decode prog_6_method_29_code 26 = .ok (.iconst 1, 1) := by decide +kernel
theorem d_R_restOfBracket_27 : decode prog_6_method_29_code 27 = .ok (.iadd, 1) := by decide +kernel
theorem d_R_restOfBracket_28 : decode prog_6_method_29_code 28 = .ok (.putfield (72), 3) := by decide +kernel
theorem d_R_restOfBracket_31 : decode prog_6_method_29_code 31 = .ok (.iload_n 3, 1) := by decide +kernel
theorem d_R_restOfBracket_32 : decode prog_6_method_29_code 32 = .ok (.bipush (60), 2) := by decide +kernel
theorem d_R_restOfBracket_34 : decode prog_6_method_29_code 34 = .ok (.if_icmp .ne (50), 3) := by decide +kernel
theorem d_R_restOfBracket_37 : decode prog_6_method_29_code 37 = .ok (.aload_n 0, 1) := by decide +kernel
theorem d_R_restOfBracket_38 : decode prog_6_method_29_code 38 = .ok (.aload_n 0, 1) := by decide +kernel
theorem d_R_restOfBracket_39 : decode prog_6_method_29_code 39 = .ok (.getfield (35), 3) := by decide +kernel
theorem d_R_restOfBracket_42 : decode prog_6_method_29_code 42 = .ok (.getfield (107), 3) := by decide +kernel
theorem d_R_restOfBracket_45 : decode prog_6_method_29_code 45 = .ok (.iconst 0, 1) := by decide +kernel
theorem d_R_restOfBracket_46 : decode prog_6_method_29_code 46 = .ok (.iaload, 1) := by decide +kernel
theorem d_R_restOfBracket_47 : decode prog_6_method_29_code 47 = .ok (.invokevirtual (111), 3) := by decide +kernel
theorem d_R_restOfBracket_50 : decode prog_6_method_29_code 50 = .ok (.istore (4), 2) := by decide +kernel
theorem d_R_restOfBracket_52 : decode prog_6_method_29_code 52 = .ok (.iload (4), 2) := by decide +kernel
theorem d_R_restOfBracket_54 : decode prog_6_method_29_code 54 = .ok (.iconst (-1), 1) := by decide +kernel
theorem d_R_restOfBracket_55 : decode prog_6_method_29_code 55 = .ok (.if_icmp .eq (27), 3) := by decide +kernel
theorem d_R_restOfBracket_58 : decode prog_6_method_29_code 58 = .ok (.aload_n 0, 1) := by decide +kernel
theorem d_R_restOfBracket_59 : decode prog_6_method_29_code 59 = .ok (.bipush (41), 2) := by decide +kernel
theorem d_R_restOfBracket_61 : decode prog_6_method_29_code 61 = .ok (.invokevirtual (115), 3) := by decide +kernel
theorem d_R_restOfBracket_64 : decode prog_6_method_29_code 64 = .ok (.ifCond .eq (18), 3) := by decide +kernel
theorem d_R_restOfBracket_67 : decode prog_6_method_29_code 67 = .ok (.aload_n 0, 1) := by decide +kernel
theorem d_R_restOfBracket_68 : decode prog_6_method_29_code 68 = .ok (.getfield (45), 3) := by decide +kernel
theorem d_R_restOfBracket_71 : decode prog_6_method_29_code 71 = .ok (.bipush (60), 2) := by decide +kernel
theorem d_R_restOfBracket_73 : decode prog_6_method_29_code 73 = .ok (.iload_n 1, 1) := by decide +kernel
theorem d_R_restOfBracket_74 : decode prog_6_method_29_code 74 = .ok (.iload (4), 2) := by decide +kernel
theorem d_R_restOfBracket_76 : decode prog_6_method_29_code 76 = .ok (.invokevirtual (236), 3) := by decide +kernel
theorem d_R_restOfBracket_79 : decode prog_6_method_29_code 79 = .ok (.goto (4), 3) := by decide +kernel
theorem d_R_restOfBracket_82 : decode prog_6_method_29_code 82 = .ok (.iconst (-1), 1) := by decide +kernel
theorem d_R_restOfBracket_83 : decode prog_6_method_29_code 83 = .ok (.ireturn, 1) := by decide +kernel
theorem d_R_restOfBracket_84 : decode prog_6_method_29_code 84 = .ok (.aload_n 0, 1) := by decide +kernel
theorem d_R_restOfBracket_85 : decode prog_6_method_29_code 85 = .ok (.iload_n 2, 1) := by decide +kernel
theorem d_R_restOfBracket_86 : decode prog_6_method_29_code 86 = .ok (.iconst 1, 1) := by decide +kernel
theorem d_R_restOfBracket_87 : decode prog_6_method_29_code 87 = .ok (.iadd, 1) := by decide +kernel
theorem d_R_restOfBracket_88 : decode prog_6_method_29_code 88 = .ok (.invokevirtual (183), 3) := by decide +kernel
theorem d_R_restOfBracket_91 : decode prog_6_method_29_code 91 = .ok (.istore (4), 2) := by decide +kernel
theorem d_R_restOfBracket_93 : decode prog_6_method_29_code 93 = .ok (.iload (4), 2) := by decide +kernel
theorem d_R_restOfBracket_95 : decode prog_6_method_29_code 95 = .ok (.iconst (-1), 1) := by decide +kernel
theorem d_R_restOfBracket_96 : decode prog_6_method_29_code 96 = .ok (.if_icmp .eq (26), 3) := by decide +kernel
theorem d_R_restOfBracket_99 : decode prog_6_method_29_code 99 = .ok (.aload_n 0, 1) := by decide +kernel
theorem d_R_restOfBracket_100 : decode prog_6_method_29_code 100 = .ok (.bipush (41), 2) := by decide +kernel
theorem d_R_restOfBracket_102 : decode prog_6_method_29_code 102 = .ok (.invokevirtual (115), 3) := by decide +kernel
theorem d_R_restOfBracket_105 : decode prog_6_method_29_code 105 = .ok (.ifCond .eq (17), 3) := by decide +kernel
theorem d_R_restOfBracket_108 : decode prog_6_method_29_code 108 = .ok (.aload_n 0, 1) := by decide +kernel
theorem d_R_restOfBracket_109 : decode prog_6_method_29_code 109 = .ok (.getfield (45), 3) := by decide +kernel
theorem d_R_restOfBracket_112 : decode prog_6_method_29_code 112 = .ok (.iload_n 3, 1) := by decide +kernel
theorem d_R_restOfBracket_113 : decode prog_6_method_29_code 113 = .ok (.iload_n 1, 1) := by decide +kernel
theorem d_R_restOfBracket_114 : decode prog_6_method_29_code 114 = .ok (.iload (4), 2) := by decide +kernel
theorem d_R_restOfBracket_116 : decode prog_6_method_29_code 116 = .ok (.invokevirtual (257), 3) := by decide +kernel
theorem d_R_restOfBracket_119 : decode prog_6_method_29_code 119 = .ok (.goto (4), 3) := by decide +kernel
theorem d_R_restOfBracket_122 : decode prog_6_method_29_code 122 = .ok (.iconst (-1), 1) := by decide +kernel
theorem d_R_restOfBracket_123 : decode prog_6_method_29_code 123 = .ok (.ireturn, 1) := by decide +kernel
set_option maxRecDepth 100000 in
theorem cw_R_183 : ax_cw "CipherNotation$Reader" 183 y_R_expression (.code y_R_expression prog_6_method_28_code 5 (some .int)) 1 := ⟨nw_2 223 (by decide +kernel) rfl, nw_1 2 (by decide +kernel) rfl, nw_2 226 rfl rfl, by decide +kernel, by decide +kernel⟩
theorem im_R_expression : Cond.instanceMethod y_R_expression ∈ ax_tbl := nw_2 225 (by decide +kernel) rfl
theorem se_R_expression : Cond.selects y_R_expression.cls y_R_expression y_R_expression ∈ ax_tbl := nw_sel 13 (by decide +kernel) (by decide +kernel)
set_option maxRecDepth 100000 in
theorem cw_R_257 : ax_cw "CipherNotation$Reader" 257 y_C_addJoined (.code y_C_addJoined prog_2_method_6_code 6 (some .int)) 3 := ⟨nw_3 1 (by decide +kernel) rfl, nw_1 5 (by decide +kernel) rfl, nw_3 4 rfl rfl, by decide +kernel, by decide +kernel⟩
theorem im_C_addJoined : Cond.instanceMethod y_C_addJoined ∈ ax_tbl := nw_3 2 (by decide +kernel) rfl
theorem se_C_addJoined : Cond.selects y_C_addJoined.cls y_C_addJoined y_C_addJoined ∈ ax_tbl := nw_3 3 (by decide +kernel) rfl
set_option maxRecDepth 100000 in
theorem cw_R_236 : ax_cw "CipherNotation$Reader" 236 y_C_addOver (.code y_C_addOver prog_2_method_5_code 4 (some .int)) 3 := ⟨nw_2 227 (by decide +kernel) rfl, nw_1 5 (by decide +kernel) rfl, nw_2 230 rfl rfl, by decide +kernel, by decide +kernel⟩
theorem im_C_addOver : Cond.instanceMethod y_C_addOver ∈ ax_tbl := nw_2 228 (by decide +kernel) rfl
theorem se_C_addOver : Cond.selects y_C_addOver.cls y_C_addOver y_C_addOver ∈ ax_tbl := nw_2 229 (by decide +kernel) rfl
def f_R_restOfBracket (F : Nat) (rec : Int32 → ax_σ → Option (Int32 × ax_σ)) (g : Nat) (a1 : Int32) (a2 : Int32) (s : ax_σ) : Option (Int32 × ax_σ) :=
  bif ax_in (s.1 0 25 3) 241 then
  Option.bind (f_String_indexOf_I F 1 (s.1 0 26 ((s.1 0 25 3)).toNatClampNeg) s) (fun r2 =>
    if (0 : Int32) ≤ r2 then
      ax_let (ax_wI s 0 25 3 ((s.1 0 25 3) + (1 : Int32))) (fun s4 =>
        if (s.1 0 26 ((s.1 0 25 3)).toNatClampNeg) = (60 : Int32) then
          bif ax_in (0 : Int32) 8 then
          Option.bind (f_R_takeNumber F g (s4.1 g 1 ((0 : Int32)).toNatClampNeg) s4) (fun (r17, s18) =>
            if r17 = (-1 : Int32) then
              some (((-1 : Int32), s18))
            else
              Option.bind (f_R_take g (41 : Int32) s18) (fun (r20, s21) =>
                if r20 = (0 : Int32) then
                  some (((-1 : Int32), s21))
                else
                  Option.bind (f_C_addOver g (60 : Int32) a1 r17 s21) (fun (r23, s24) =>
                    some ((r23, s24)))))
          else none
        else
          Option.bind (rec (a2 + (1 : Int32)) s4) (fun (r5, s6) =>
            if r5 = (-1 : Int32) then
              some (((-1 : Int32), s6))
            else
              Option.bind (f_R_take g (41 : Int32) s6) (fun (r8, s9) =>
                if r8 = (0 : Int32) then
                  some (((-1 : Int32), s9))
                else
                  Option.bind (f_C_addJoined g (s.1 0 26 ((s.1 0 25 3)).toNatClampNeg) a1 r5 s9) (fun (r11, s12) =>
                    some ((r11, s12))))))
    else
      some (((-1 : Int32), s)))
  else none
set_option maxHeartbeats 4000000 in
set_option maxRecDepth 100000 in
theorem t_R_restOfBracket {l : Launch} {D : va_G} {cA : Nat → ClassId} {ad : Nat → Nat → Nat} {al : List (Nat × Nat)} {θ : ax_Θ} {ρ : ax_ρ} {F : Nat} {g : Nat} {n : Nat} {rec : Int32 → ax_σ → Option (Int32 × ax_σ)} (h0 : ax_M0 al) (hg : ax_Mg al g) (hr : ax_rd ρ g) (hrec : ∀ {a1 : Int32} {s : ax_σ} {r0 : Int32} {s0 : ax_σ}, rec a1 s = some (r0, s0) → ax_T l D cA ad al θ y_R_expression (.code y_R_expression prog_6_method_28_code 5 (some .int)) (10 + 2 * n) [.inr (0, 25), .inl (.int a1)] (ax_m s ρ) (some (.inl (.int r0))) (ax_m s0 ρ)) {a1 : Int32} {a2 : Int32} {s : ax_σ} {r0 : Int32} {s0 : ax_σ} (h : f_R_restOfBracket F rec g a1 a2 s = some (r0, s0)) : ax_T l D cA ad al θ y_R_restOfBracket (.code y_R_restOfBracket prog_6_method_29_code 5 (some .int)) (10 + 2 * n + 1) [.inr (0, 25), .inl (.int (a1)), .inl (.int (a2))] (ax_m s ρ) (some (.inl (.int r0))) (ax_m s0 ρ) := by
  refine ax_T_of (own := "CipherNotation$Reader") (by decide) rfl (Nat.le_of_ble_eq_true rfl) [(0, .inr (0, 25)), (1, .inl (.int (a1))), (2, .inl (.int (a2)))] rfl ?_
  intro G hA
  have hB := hA.B
  have hK := hB.K
  have hal := hB.la
  unfold f_R_restOfBracket at h
  obtain ⟨b1, h⟩ := ax_gd h
  refine ax_bk hK (ax_fc (ax_v_ld (ax_r_aload_n (i := 0) d_R_restOfBracket_0 rfl)) (ax_fc (ax_w_gf (e := none) hal d_R_restOfBracket_1 fd_R_11) (ax_fc (ax_v_ld (ax_r_aload_n (i := 0) d_R_restOfBracket_4 rfl)) (ax_fc (ax_w_gf (e := none) hal d_R_restOfBracket_5 fd_R_72) (ax_fc (ax_w_cald hal d_R_restOfBracket_8) (ax_fc (ax_v_so (ax_r_istore_n (i := 3) d_R_restOfBracket_9 rfl)) (ax_fc (ax_w_ks (tx := "^&|+-*<") (a := θ.1 1) (fun A U H hZ => by rw [hB.ht] at hZ; exact hZ.2.2.2.1) d_R_restOfBracket_10) (ax_fc (ax_v_ld (ax_r_iload_n (i := 3) d_R_restOfBracket_12 rfl)) ax_fn)))))))) (y := (13, [(3, .inl (.int ((s.1 0 26 ((s.1 0 25 3)).toNatClampNeg)))), (0, .inr (0, 25)), (1, .inl (.int (a1))), (2, .inl (.int (a2)))], [.inl (.int ((s.1 0 26 ((s.1 0 25 3)).toNatClampNeg))), .inl (.ref (θ.1 1))], ax_m (s) ρ)) rfl ⟨trivial, (h0 25 rfl), trivial, (h0 25 rfl), ⟨(h0 26 rfl), ax_inp b1⟩, trivial, trivial, trivial, trivial⟩ ?_
  obtain ⟨r2, q3, h⟩ := ax_bd h
  refine ax_bK (k := 1) (rest := []) hB (t_String_indexOf_I (by decide) q3) cw_R_138 im_String_indexOf_I se_String_indexOf_I d_R_restOfBracket_13 (by decide) rfl (by omega) (by decide) rfl rfl (Nat.le_of_ble_eq_true rfl) ?_
  change ax_R G 5 0 0 (16, [(3, .inl (.int ((s.1 0 26 ((s.1 0 25 3)).toNatClampNeg)))), (0, .inr (0, 25)), (1, .inl (.int (a1))), (2, .inl (.int (a2)))], [.inl (.int (r2))], ax_m (s) ρ)
  refine ax_if_ge (tgt := 21) hK d_R_restOfBracket_16 (by decide) (fun c29 => ?_) (fun c29 => ?_)
  · replace h := ax_it c29 h
    refine ax_bk hK (ax_fc (ax_v_ld (ax_r_aload_n (i := 0) d_R_restOfBracket_21 rfl)) (ax_fc (ax_v_pu (ax_r_dup d_R_restOfBracket_22)) (ax_fc (ax_w_gf (e := none) hal d_R_restOfBracket_23 fd_R_72) (ax_fc (ax_v_pu (ax_r_iconst (v := 1) d_R_restOfBracket_26 (by decide))) (ax_fc (ax_v_pu (ax_r_iadd d_R_restOfBracket_27)) (ax_fc (ax_w_pf (tc := 0) hal d_R_restOfBracket_28 fp_R_72 rfl) ax_fn)))))) (y := (31, [(3, .inl (.int ((s.1 0 26 ((s.1 0 25 3)).toNatClampNeg)))), (0, .inr (0, 25)), (1, .inl (.int (a1))), (2, .inl (.int (a2)))], [], ax_m (ax_wI s 0 25 3 ((s.1 0 25 3) + (1 : Int32))) ρ)) rfl ⟨trivial, trivial, (h0 25 rfl), trivial, trivial, (h0 25 rfl), trivial⟩ ?_
    refine ax_lt (Q := fun ςς => ax_R G 5 0 0 (31, [(3, .inl (.int ((s.1 0 26 ((s.1 0 25 3)).toNatClampNeg)))), (0, .inr (0, 25)), (1, .inl (.int (a1))), (2, .inl (.int (a2)))], [], ax_m (ςς) ρ)) h (fun s4 h => ?_)
    refine ax_bk hK (ax_fc (ax_v_ld (ax_r_iload_n (i := 3) d_R_restOfBracket_31 rfl)) (ax_fc (ax_v_pu (ax_r_bipush (v := 60) d_R_restOfBracket_32 (by decide))) ax_fn)) (y := (34, [(3, .inl (.int ((s.1 0 26 ((s.1 0 25 3)).toNatClampNeg)))), (0, .inr (0, 25)), (1, .inl (.int (a1))), (2, .inl (.int (a2)))], [.inl (.int ((60 : Int32))), .inl (.int ((s.1 0 26 ((s.1 0 25 3)).toNatClampNeg)))], ax_m (s4) ρ)) rfl ⟨trivial, trivial, trivial⟩ ?_
    refine ax_ic_ne (tgt := 84) hK d_R_restOfBracket_34 (by decide) (fun c28 => ?_) (fun c28 => ?_)
    · replace h := ax_if c28 h
      refine ax_bk hK (ax_fc (ax_v_ld (ax_r_aload_n (i := 0) d_R_restOfBracket_84 rfl)) (ax_fc (ax_v_ld (ax_r_iload_n (i := 2) d_R_restOfBracket_85 rfl)) (ax_fc (ax_v_pu (ax_r_iconst (v := 1) d_R_restOfBracket_86 (by decide))) (ax_fc (ax_v_pu (ax_r_iadd d_R_restOfBracket_87)) ax_fn)))) (y := (88, [(3, .inl (.int ((s.1 0 26 ((s.1 0 25 3)).toNatClampNeg)))), (0, .inr (0, 25)), (1, .inl (.int (a1))), (2, .inl (.int (a2)))], [.inl (.int ((a2 + (1 : Int32)))), .inr (0, 25)], ax_m (s4) ρ)) rfl ⟨trivial, trivial, trivial, trivial, trivial⟩ ?_
      obtain ⟨⟨r5, s6⟩, q7, h⟩ := ax_bd h
      dsimp only at h
      refine ax_bV (rest := []) hB (hrec q7) cw_R_183 im_R_expression se_R_expression d_R_restOfBracket_88 (h0 25 rfl) rfl rfl (by omega) (by decide) rfl rfl (Nat.le_of_ble_eq_true rfl) ?_
      change ax_R G 5 0 0 (91, [(3, .inl (.int ((s.1 0 26 ((s.1 0 25 3)).toNatClampNeg)))), (0, .inr (0, 25)), (1, .inl (.int (a1))), (2, .inl (.int (a2)))], [.inl (.int (r5))], ax_m (s6) ρ)
      refine ax_bk hK (ax_fc (ax_v_so (ax_r_istore d_R_restOfBracket_91)) (ax_fc (ax_v_ld (ax_r_iload d_R_restOfBracket_93)) (ax_fc (ax_v_pu (ax_r_iconst (v := -1) d_R_restOfBracket_95 (by decide))) ax_fn))) (y := (96, [(4, .inl (.int (r5))), (3, .inl (.int ((s.1 0 26 ((s.1 0 25 3)).toNatClampNeg)))), (0, .inr (0, 25)), (1, .inl (.int (a1))), (2, .inl (.int (a2)))], [.inl (.int ((-1 : Int32))), .inl (.int (r5))], ax_m (s6) ρ)) rfl ⟨trivial, trivial, trivial, trivial⟩ ?_
      refine ax_ic_eq (tgt := 122) hK d_R_restOfBracket_96 (by decide) (fun c15 => ?_) (fun c15 => ?_)
      · replace h := ax_it c15 h
        refine ax_bk hK (ax_fc (ax_v_pu (ax_r_iconst (v := -1) d_R_restOfBracket_122 (by decide))) ax_fn) (y := (123, [(4, .inl (.int (r5))), (3, .inl (.int ((s.1 0 26 ((s.1 0 25 3)).toNatClampNeg)))), (0, .inr (0, 25)), (1, .inl (.int (a1))), (2, .inl (.int (a2)))], [.inl (.int ((-1 : Int32)))], ax_m (s6) ρ)) rfl ⟨trivial, trivial⟩ ?_
        cases h
        exact ax_iret hA d_R_restOfBracket_123
      · replace h := ax_if c15 h
        refine ax_bk hK (ax_fc (ax_v_ld (ax_r_aload_n (i := 0) d_R_restOfBracket_99 rfl)) (ax_fc (ax_v_pu (ax_r_bipush (v := 41) d_R_restOfBracket_100 (by decide))) ax_fn)) (y := (102, [(4, .inl (.int (r5))), (3, .inl (.int ((s.1 0 26 ((s.1 0 25 3)).toNatClampNeg)))), (0, .inr (0, 25)), (1, .inl (.int (a1))), (2, .inl (.int (a2)))], [.inl (.int ((41 : Int32))), .inr (0, 25)], ax_m (s6) ρ)) rfl ⟨trivial, trivial, trivial⟩ ?_
        obtain ⟨⟨r8, s9⟩, q10, h⟩ := ax_bd h
        dsimp only at h
        refine ax_bV (rest := []) hB (t_R_take h0 hg hr q10) cw_R_115 im_R_take se_R_take d_R_restOfBracket_102 (h0 25 rfl) rfl rfl (by omega) (by decide) rfl rfl (Nat.le_of_ble_eq_true rfl) ?_
        change ax_R G 5 0 0 (105, [(4, .inl (.int (r5))), (3, .inl (.int ((s.1 0 26 ((s.1 0 25 3)).toNatClampNeg)))), (0, .inr (0, 25)), (1, .inl (.int (a1))), (2, .inl (.int (a2)))], [.inl (.int (r8))], ax_m (s9) ρ)
        refine ax_if_eq (tgt := 122) hK d_R_restOfBracket_105 (by decide) (fun c14 => ?_) (fun c14 => ?_)
        · replace h := ax_it c14 h
          refine ax_bk hK (ax_fc (ax_v_pu (ax_r_iconst (v := -1) d_R_restOfBracket_122 (by decide))) ax_fn) (y := (123, [(4, .inl (.int (r5))), (3, .inl (.int ((s.1 0 26 ((s.1 0 25 3)).toNatClampNeg)))), (0, .inr (0, 25)), (1, .inl (.int (a1))), (2, .inl (.int (a2)))], [.inl (.int ((-1 : Int32)))], ax_m (s9) ρ)) rfl ⟨trivial, trivial⟩ ?_
          cases h
          exact ax_iret hA d_R_restOfBracket_123
        · replace h := ax_if c14 h
          refine ax_bk hK (ax_fc (ax_v_ld (ax_r_aload_n (i := 0) d_R_restOfBracket_108 rfl)) (ax_fc (ax_w_gf (e := (some (g, 4))) hal d_R_restOfBracket_109 fd_R_45) (ax_fc (ax_v_ld (ax_r_iload_n (i := 3) d_R_restOfBracket_112 rfl)) (ax_fc (ax_v_ld (ax_r_iload_n (i := 1) d_R_restOfBracket_113 rfl)) (ax_fc (ax_v_ld (ax_r_iload d_R_restOfBracket_114)) ax_fn))))) (y := (116, [(4, .inl (.int (r5))), (3, .inl (.int ((s.1 0 26 ((s.1 0 25 3)).toNatClampNeg)))), (0, .inr (0, 25)), (1, .inl (.int (a1))), (2, .inl (.int (a2)))], [.inl (.int (r5)), .inl (.int (a1)), .inl (.int ((s.1 0 26 ((s.1 0 25 3)).toNatClampNeg))), .inr (g, 4)], ax_m (s9) ρ)) rfl ⟨trivial, ⟨(h0 25 rfl), hr.2.1⟩, trivial, trivial, trivial, trivial⟩ ?_
          obtain ⟨⟨r11, s12⟩, q13, h⟩ := ax_bd h
          dsimp only at h
          refine ax_bV (rest := []) hB (t_C_addJoined hg q13) cw_R_257 im_C_addJoined se_C_addJoined d_R_restOfBracket_116 (hg 4 rfl) rfl rfl (by omega) (by decide) rfl rfl (Nat.le_of_ble_eq_true rfl) ?_
          change ax_R G 5 0 0 (119, [(4, .inl (.int (r5))), (3, .inl (.int ((s.1 0 26 ((s.1 0 25 3)).toNatClampNeg)))), (0, .inr (0, 25)), (1, .inl (.int (a1))), (2, .inl (.int (a2)))], [.inl (.int (r11))], ax_m (s12) ρ)
          refine ax_bk hK (ax_fc (ax_v_go (tgt := 123) d_R_restOfBracket_119 (by decide)) ax_fn) (y := (123, [(4, .inl (.int (r5))), (3, .inl (.int ((s.1 0 26 ((s.1 0 25 3)).toNatClampNeg)))), (0, .inr (0, 25)), (1, .inl (.int (a1))), (2, .inl (.int (a2)))], [.inl (.int (r11))], ax_m (s12) ρ)) rfl ⟨trivial, trivial⟩ ?_
          cases h
          exact ax_iret hA d_R_restOfBracket_123
    · replace h := ax_it c28 h
      obtain ⟨b16, h⟩ := ax_gd h
      refine ax_bk hK (ax_fc (ax_v_ld (ax_r_aload_n (i := 0) d_R_restOfBracket_37 rfl)) (ax_fc (ax_v_ld (ax_r_aload_n (i := 0) d_R_restOfBracket_38 rfl)) (ax_fc (ax_w_gf (e := (some (g, 0))) hal d_R_restOfBracket_39 fd_R_35) (ax_fc (ax_w_gf (e := none) hal d_R_restOfBracket_42 fd_R_107) (ax_fc (ax_v_pu (ax_r_iconst (v := 0) d_R_restOfBracket_45 (by decide))) (ax_fc (ax_w_iald hal d_R_restOfBracket_46) ax_fn)))))) (y := (47, [(3, .inl (.int ((s.1 0 26 ((s.1 0 25 3)).toNatClampNeg)))), (0, .inr (0, 25)), (1, .inl (.int (a1))), (2, .inl (.int (a2)))], [.inl (.int ((s4.1 g 1 ((0 : Int32)).toNatClampNeg))), .inr (0, 25)], ax_m (s4) ρ)) rfl ⟨trivial, trivial, ⟨(h0 25 rfl), hr.1⟩, (hg 0 rfl), trivial, ⟨(hg 1 rfl), ax_inp b16⟩, trivial⟩ ?_
      obtain ⟨⟨r17, s18⟩, q19, h⟩ := ax_bd h
      dsimp only at h
      refine ax_bV (rest := []) hB (t_R_takeNumber h0 hg hr q19) cw_R_111 im_R_takeNumber se_R_takeNumber d_R_restOfBracket_47 (h0 25 rfl) rfl rfl (by omega) (by decide) rfl rfl (Nat.le_of_ble_eq_true rfl) ?_
      change ax_R G 5 0 0 (50, [(3, .inl (.int ((s.1 0 26 ((s.1 0 25 3)).toNatClampNeg)))), (0, .inr (0, 25)), (1, .inl (.int (a1))), (2, .inl (.int (a2)))], [.inl (.int (r17))], ax_m (s18) ρ)
      refine ax_bk hK (ax_fc (ax_v_so (ax_r_istore d_R_restOfBracket_50)) (ax_fc (ax_v_ld (ax_r_iload d_R_restOfBracket_52)) (ax_fc (ax_v_pu (ax_r_iconst (v := -1) d_R_restOfBracket_54 (by decide))) ax_fn))) (y := (55, [(4, .inl (.int (r17))), (3, .inl (.int ((s.1 0 26 ((s.1 0 25 3)).toNatClampNeg)))), (0, .inr (0, 25)), (1, .inl (.int (a1))), (2, .inl (.int (a2)))], [.inl (.int ((-1 : Int32))), .inl (.int (r17))], ax_m (s18) ρ)) rfl ⟨trivial, trivial, trivial, trivial⟩ ?_
      refine ax_ic_eq (tgt := 82) hK d_R_restOfBracket_55 (by decide) (fun c27 => ?_) (fun c27 => ?_)
      · replace h := ax_it c27 h
        refine ax_bk hK (ax_fc (ax_v_pu (ax_r_iconst (v := -1) d_R_restOfBracket_82 (by decide))) ax_fn) (y := (83, [(4, .inl (.int (r17))), (3, .inl (.int ((s.1 0 26 ((s.1 0 25 3)).toNatClampNeg)))), (0, .inr (0, 25)), (1, .inl (.int (a1))), (2, .inl (.int (a2)))], [.inl (.int ((-1 : Int32)))], ax_m (s18) ρ)) rfl ⟨trivial, trivial⟩ ?_
        cases h
        exact ax_iret hA d_R_restOfBracket_83
      · replace h := ax_if c27 h
        refine ax_bk hK (ax_fc (ax_v_ld (ax_r_aload_n (i := 0) d_R_restOfBracket_58 rfl)) (ax_fc (ax_v_pu (ax_r_bipush (v := 41) d_R_restOfBracket_59 (by decide))) ax_fn)) (y := (61, [(4, .inl (.int (r17))), (3, .inl (.int ((s.1 0 26 ((s.1 0 25 3)).toNatClampNeg)))), (0, .inr (0, 25)), (1, .inl (.int (a1))), (2, .inl (.int (a2)))], [.inl (.int ((41 : Int32))), .inr (0, 25)], ax_m (s18) ρ)) rfl ⟨trivial, trivial, trivial⟩ ?_
        obtain ⟨⟨r20, s21⟩, q22, h⟩ := ax_bd h
        dsimp only at h
        refine ax_bV (rest := []) hB (t_R_take h0 hg hr q22) cw_R_115 im_R_take se_R_take d_R_restOfBracket_61 (h0 25 rfl) rfl rfl (by omega) (by decide) rfl rfl (Nat.le_of_ble_eq_true rfl) ?_
        change ax_R G 5 0 0 (64, [(4, .inl (.int (r17))), (3, .inl (.int ((s.1 0 26 ((s.1 0 25 3)).toNatClampNeg)))), (0, .inr (0, 25)), (1, .inl (.int (a1))), (2, .inl (.int (a2)))], [.inl (.int (r20))], ax_m (s21) ρ)
        refine ax_if_eq (tgt := 82) hK d_R_restOfBracket_64 (by decide) (fun c26 => ?_) (fun c26 => ?_)
        · replace h := ax_it c26 h
          refine ax_bk hK (ax_fc (ax_v_pu (ax_r_iconst (v := -1) d_R_restOfBracket_82 (by decide))) ax_fn) (y := (83, [(4, .inl (.int (r17))), (3, .inl (.int ((s.1 0 26 ((s.1 0 25 3)).toNatClampNeg)))), (0, .inr (0, 25)), (1, .inl (.int (a1))), (2, .inl (.int (a2)))], [.inl (.int ((-1 : Int32)))], ax_m (s21) ρ)) rfl ⟨trivial, trivial⟩ ?_
          cases h
          exact ax_iret hA d_R_restOfBracket_83
        · replace h := ax_if c26 h
          refine ax_bk hK (ax_fc (ax_v_ld (ax_r_aload_n (i := 0) d_R_restOfBracket_67 rfl)) (ax_fc (ax_w_gf (e := (some (g, 4))) hal d_R_restOfBracket_68 fd_R_45) (ax_fc (ax_v_pu (ax_r_bipush (v := 60) d_R_restOfBracket_71 (by decide))) (ax_fc (ax_v_ld (ax_r_iload_n (i := 1) d_R_restOfBracket_73 rfl)) (ax_fc (ax_v_ld (ax_r_iload d_R_restOfBracket_74)) ax_fn))))) (y := (76, [(4, .inl (.int (r17))), (3, .inl (.int ((s.1 0 26 ((s.1 0 25 3)).toNatClampNeg)))), (0, .inr (0, 25)), (1, .inl (.int (a1))), (2, .inl (.int (a2)))], [.inl (.int (r17)), .inl (.int (a1)), .inl (.int ((60 : Int32))), .inr (g, 4)], ax_m (s21) ρ)) rfl ⟨trivial, ⟨(h0 25 rfl), hr.2.1⟩, trivial, trivial, trivial, trivial⟩ ?_
          obtain ⟨⟨r23, s24⟩, q25, h⟩ := ax_bd h
          dsimp only at h
          refine ax_bV (rest := []) hB (t_C_addOver hg q25) cw_R_236 im_C_addOver se_C_addOver d_R_restOfBracket_76 (hg 4 rfl) rfl rfl (by omega) (by decide) rfl rfl (Nat.le_of_ble_eq_true rfl) ?_
          change ax_R G 5 0 0 (79, [(4, .inl (.int (r17))), (3, .inl (.int ((s.1 0 26 ((s.1 0 25 3)).toNatClampNeg)))), (0, .inr (0, 25)), (1, .inl (.int (a1))), (2, .inl (.int (a2)))], [.inl (.int (r23))], ax_m (s24) ρ)
          refine ax_bk hK (ax_fc (ax_v_go (tgt := 83) d_R_restOfBracket_79 (by decide)) ax_fn) (y := (83, [(4, .inl (.int (r17))), (3, .inl (.int ((s.1 0 26 ((s.1 0 25 3)).toNatClampNeg)))), (0, .inr (0, 25)), (1, .inl (.int (a1))), (2, .inl (.int (a2)))], [.inl (.int (r23))], ax_m (s24) ρ)) rfl ⟨trivial, trivial⟩ ?_
          cases h
          exact ax_iret hA d_R_restOfBracket_83
  · replace h := ax_if c29 h
    refine ax_bk hK (ax_fc (ax_v_pu (ax_r_iconst (v := -1) d_R_restOfBracket_19 (by decide))) ax_fn) (y := (20, [(3, .inl (.int ((s.1 0 26 ((s.1 0 25 3)).toNatClampNeg)))), (0, .inr (0, 25)), (1, .inl (.int (a1))), (2, .inl (.int (a2)))], [.inl (.int ((-1 : Int32)))], ax_m (s) ρ)) rfl ⟨trivial, trivial⟩ ?_
    cases h
    exact ax_iret hA d_R_restOfBracket_20
theorem d_R_expression_0 : decode prog_6_method_28_code 0 = .ok (.aload_n 0, 1) := by decide +kernel
theorem d_R_expression_1 : decode prog_6_method_28_code 1 = .ok (.getfield (11), 3) := by decide +kernel
theorem d_R_expression_4 : decode prog_6_method_28_code 4 = .ok (.aload_n 0, 1) := by decide +kernel
theorem d_R_expression_5 : decode prog_6_method_28_code 5 = .ok (.getfield (72), 3) := by decide +kernel
theorem d_R_expression_8 : decode prog_6_method_28_code 8 = .ok (.caload, 1) := by decide +kernel
theorem d_R_expression_9 : decode prog_6_method_28_code 9 = .ok (.istore_n 2, 1) := by decide +kernel
theorem d_R_expression_10 : decode prog_6_method_28_code 10 = .ok (.aload_n 0, 1) := by decide +kernel
theorem d_R_expression_11 : decode prog_6_method_28_code 11 = .ok (.getfield (15), 3) := by decide +kernel
theorem d_R_expression_14 : decode prog_6_method_28_code 14 = .ok (.aload_n 0, 1) := by decide +kernel
theorem d_R_expression_15 : decode prog_6_method_28_code 15 = .ok (.getfield (72), 3) := by decide +kernel
theorem d_R_expression_18 : decode prog_6_method_28_code 18 = .ok (.iaload, 1) := by decide +kernel
theorem d_R_expression_19 : decode prog_6_method_28_code 19 = .ok (.istore_n 3, 1) := by decide +kernel
theorem d_R_expression_20 : decode prog_6_method_28_code 20 = .ok (.iload_n 2, 1) := by decide +kernel
theorem d_R_expression_21 : decode prog_6_method_28_code 21 = .ok (.bipush (126), 2) := by decide +kernel
theorem d_R_expression_23 : decode prog_6_method_28_code 23 = .ok (.if_icmp .eq (9), 3) := by decide +kernel
theorem d_R_expression_26 : decode prog_6_method_28_code 26 = .ok (.iload_n 2, 1) := by decide +kernel
theorem d_R_expression_27 : decode prog_6_method_28_code 27 = .ok (.bipush (40), 2) := by decide +kernel
theorem d_R_expression_29 : decode prog_6_method_28_code 29 = .ok (.if_icmp .ne (67), 3) := by decide +kernel
theorem d_R_expression_32 : decode prog_6_method_28_code 32 = .ok (.iload_n 1, 1) := by decide +kernel
theorem d_R_expression_33 : decode prog_6_method_28_code 33 = .ok (.bipush (12), 2) := by decide +kernel
theorem d_R_expression_35 : decode prog_6_method_28_code 35 = .ok (.if_icmp .ne (5), 3) := by decide +kernel
theorem d_R_expression_38 : decode prog_6_method_28_code 38 = .ok (.iconst (-1), 1) := by decide +kernel
theorem d_R_expression_39 : decode prog_6_method_28_code 39 = .ok (.ireturn, 1) := by decide +kernel
theorem d_R_expression_40 : decode prog_6_method_28_code 40 = .ok (.aload_n 0, 1) := by decide +kernel
theorem d_R_expression_41 : decode prog_6_method_28_code 41 = .ok (.dup, 1) := by decide +kernel
theorem d_R_expression_42 : decode prog_6_method_28_code 42 = .ok (.getfield (72), 3) := by decide +kernel
theorem d_R_expression_45 : decode prog_6_method_28_code 45 = .ok (.iconst 1, 1) := by decide +kernel
theorem d_R_expression_46 : decode prog_6_method_28_code 46 = .ok (.iadd, 1) := by decide +kernel
theorem d_R_expression_47 : decode prog_6_method_28_code 47 = .ok (.putfield (72), 3) := by decide +kernel
theorem d_R_expression_50 : decode prog_6_method_28_code 50 = .ok (.aload_n 0, 1) := by decide +kernel
theorem d_R_expression_51 : decode prog_6_method_28_code 51 = .ok (.iload_n 1, 1) := by decide +kernel
theorem d_R_expression_52 : decode prog_6_method_28_code 52 = .ok (.iconst 1, 1) := by decide +kernel
theorem d_R_expression_53 : decode prog_6_method_28_code 53 = .ok (.iadd, 1) := by decide +kernel
theorem d_R_expression_54 : decode prog_6_method_28_code 54 = .ok (.invokevirtual (183), 3) := by decide +kernel
theorem d_R_expression_57 : decode prog_6_method_28_code 57 = .ok (.istore (4), 2) := by decide +kernel
theorem d_R_expression_59 : decode prog_6_method_28_code 59 = .ok (.iload (4), 2) := by decide +kernel
theorem d_R_expression_61 : decode prog_6_method_28_code 61 = .ok (.iconst (-1), 1) := by decide +kernel
theorem d_R_expression_62 : decode prog_6_method_28_code 62 = .ok (.if_icmp .ne (5), 3) := by decide +kernel
theorem d_R_expression_65 : decode prog_6_method_28_code 65 = .ok (.iconst (-1), 1) := by decide +kernel
theorem d_R_expression_66 : decode prog_6_method_28_code 66 = .ok (.ireturn, 1) := by decide +kernel
theorem d_R_expression_67 : decode prog_6_method_28_code 67 = .ok (.iload_n 2, 1) := by decide +kernel
theorem d_R_expression_68 : decode prog_6_method_28_code 68 = .ok (.bipush (126), 2) := by decide +kernel
theorem d_R_expression_70 : decode prog_6_method_28_code 70 = .ok (.if_icmp .ne (18), 3) := by decide +kernel
theorem d_R_expression_73 : decode prog_6_method_28_code 73 = .ok (.aload_n 0, 1) := by decide +kernel
theorem d_R_expression_74 : decode prog_6_method_28_code 74 = .ok (.getfield (45), 3) := by decide +kernel
theorem d_R_expression_77 : decode prog_6_method_28_code 77 = .ok (.bipush (126), 2) := by decide +kernel
theorem d_R_expression_79 : decode prog_6_method_28_code 79 = .ok (.iload (4), 2) := by decide +kernel
theorem d_R_expression_81 : decode prog_6_method_28_code 81 = .ok (.iconst 0, 1) := by decide +kernel
theorem d_R_expression_82 : decode prog_6_method_28_code 82 = .ok (.invokevirtual (236), 3) := by decide +kernel
theorem d_R_expression_85 : decode prog_6_method_28_code 85 = .ok (.goto (10), 3) := by decide +kernel
theorem d_R_expression_88 : decode prog_6_method_28_code 88 = .ok (.aload_n 0, 1) := by decide +kernel
theorem d_R_expression_89 : decode prog_6_method_28_code 89 = .ok (.iload (4), 2) := by decide +kernel
theorem d_R_expression_91 : decode prog_6_method_28_code 91 = .ok (.iload_n 1, 1) := by decide +kernel
theorem d_R_expression_92 : decode prog_6_method_28_code 92 = .ok (.invokevirtual (240), 3) := by decide +kernel
theorem d_R_expression_95 : decode prog_6_method_28_code 95 = .ok (.ireturn, 1) := by decide +kernel
theorem d_R_expression_96 : decode prog_6_method_28_code 96 = .ok (.iload_n 2, 1) := by decide +kernel
theorem d_R_expression_97 : decode prog_6_method_28_code 97 = .ok (.bipush (75), 2) := by decide +kernel
theorem d_R_expression_99 : decode prog_6_method_28_code 99 = .ok (.if_icmp .eq (9), 3) := by decide +kernel
theorem d_R_expression_102 : decode prog_6_method_28_code 102 = .ok (.iload_n 2, 1) := by decide +kernel
theorem d_R_expression_103 : decode prog_6_method_28_code 103 = .ok (.bipush (83), 2) := by decide +kernel
theorem d_R_expression_105 : decode prog_6_method_28_code 105 = .ok (.if_icmp .ne (27), 3) := by decide +kernel
theorem d_R_expression_108 : decode prog_6_method_28_code 108 = .ok (.aload_n 0, 1) := by decide +kernel
theorem d_R_expression_109 : decode prog_6_method_28_code 109 = .ok (.dup, 1) := by decide +kernel
theorem d_R_expression_110 : decode prog_6_method_28_code 110 = .ok (.getfield (72), 3) := by decide +kernel
theorem d_R_expression_113 : decode prog_6_method_28_code 113 = .ok (.iconst 1, 1) := by decide +kernel
theorem d_R_expression_114 : decode prog_6_method_28_code 114 = .ok (.iadd, 1) := by decide +kernel
theorem d_R_expression_115 : decode prog_6_method_28_code 115 = .ok (.putfield (72), 3) := by decide +kernel
theorem d_R_expression_118 : decode prog_6_method_28_code 118 = .ok (.aload_n 0, 1) := by decide +kernel
theorem d_R_expression_119 : decode prog_6_method_28_code 119 = .ok (.aload_n 0, 1) := by decide +kernel
theorem d_R_expression_120 : decode prog_6_method_28_code 120 = .ok (.getfield (45), 3) := by decide +kernel
theorem d_R_expression_123 : decode prog_6_method_28_code 123 = .ok (.iload_n 2, 1) := by decide +kernel
theorem d_R_expression_124 : decode prog_6_method_28_code 124 = .ok (.iload_n 3, 1) := by decide +kernel
theorem d_R_expression_125 : decode prog_6_method_28_code 125 = .ok (.invokevirtual (243), 3) := by decide +kernel
theorem d_R_expression_128 : decode prog_6_method_28_code 128 = .ok (.invokevirtual (246), 3) := by decide +kernel
theorem d_R_expression_131 : decode prog_6_method_28_code 131 = .ok (.ireturn, 1) := by decide +kernel
theorem d_R_expression_132 : decode prog_6_method_28_code 132 = .ok (.iload_n 2, 1) := by decide +kernel
theorem d_R_expression_133 : decode prog_6_method_28_code 133 = .ok (.invokestatic (146), 3) := by decide +kernel
theorem d_R_expression_136 : decode prog_6_method_28_code 136 = .ok (.ifCond .eq (23), 3) := by decide +kernel
theorem d_R_expression_139 : decode prog_6_method_28_code 139 = .ok (.aload_n 0, 1) := by decide +kernel
theorem d_R_expression_140 : decode prog_6_method_28_code 140 = .ok (.getfield (45), 3) := by decide +kernel
theorem d_R_expression_143 : decode prog_6_method_28_code 143 = .ok (.lconst 0, 1) := by decide +kernel
theorem d_R_expression_144 : decode prog_6_method_28_code 144 = .ok (.invokevirtual (217), 3) := by decide +kernel
theorem d_R_expression_147 : decode prog_6_method_28_code 147 = .ok (.istore (4), 2) := by decide +kernel
theorem d_R_expression_149 : decode prog_6_method_28_code 149 = .ok (.aload_n 0, 1) := by decide +kernel
theorem d_R_expression_150 : decode prog_6_method_28_code 150 = .ok (.iload (4), 2) := by decide +kernel
theorem d_R_expression_152 : decode prog_6_method_28_code 152 = .ok (.iconst 1, 1) := by decide +kernel
theorem d_R_expression_153 : decode prog_6_method_28_code 153 = .ok (.invokevirtual (249), 3) := by decide +kernel
theorem d_R_expression_156 : decode prog_6_method_28_code 156 = .ok (.iload (4), 2) := by decide +kernel
theorem d_R_expression_158 : decode prog_6_method_28_code 158 = .ok (.ireturn, 1) := by decide +kernel
theorem d_R_expression_159 : decode prog_6_method_28_code 159 = .ok (.iload_n 2, 1) := by decide +kernel
theorem d_R_expression_160 : decode prog_6_method_28_code 160 = .ok (.invokestatic (96), 3) := by decide +kernel
theorem d_R_expression_163 : decode prog_6_method_28_code 163 = .ok (.ifCond .eq (20), 3) := by decide +kernel
theorem d_R_expression_166 : decode prog_6_method_28_code 166 = .ok (.aload_n 0, 1) := by decide +kernel
theorem d_R_expression_167 : decode prog_6_method_28_code 167 = .ok (.getfield (45), 3) := by decide +kernel
theorem d_R_expression_170 : decode prog_6_method_28_code 170 = .ok (.aload_n 0, 1) := by decide +kernel
theorem d_R_expression_171 : decode prog_6_method_28_code 171 = .ok (.aload_n 0, 1) := by decide +kernel
theorem d_R_expression_172 : decode prog_6_method_28_code 172 = .ok (.invokevirtual (196), 3) := by decide +kernel
theorem d_R_expression_175 : decode prog_6_method_28_code 175 = .ok (.invokevirtual (111), 3) := by decide +kernel
theorem d_R_expression_178 : decode prog_6_method_28_code 178 = .ok (.i2l, 1) := by decide +kernel
theorem d_R_expression_179 : decode prog_6_method_28_code 179 = .ok (.invokevirtual (217), 3) := by decide +kernel
theorem d_R_expression_182 : decode prog_6_method_28_code 182 = .ok (.ireturn, 1) := by decide +kernel
theorem d_R_expression_183 : decode prog_6_method_28_code 183 = .ok (.aload_n 0, 1) := by decide +kernel
theorem d_R_expression_184 : decode prog_6_method_28_code 184 = .ok (.invokevirtual (192), 3) := by decide +kernel
theorem d_R_expression_187 : decode prog_6_method_28_code 187 = .ok (.istore (4), 2) := by decide +kernel
theorem d_R_expression_189 : decode prog_6_method_28_code 189 = .ok (.iload (4), 2) := by decide +kernel
theorem d_R_expression_191 : decode prog_6_method_28_code 191 = .ok (.iconst (-1), 1) := by decide +kernel
theorem d_R_expression_192 : decode prog_6_method_28_code 192 = .ok (.if_icmp .ne (7), 3) := by decide +kernel
theorem d_R_expression_195 : decode prog_6_method_28_code 195 = .ok (.iconst (-1), 1) := by decide +kernel
theorem d_R_expression_196 : decode prog_6_method_28_code 196 = .ok (.goto (12), 3) := by decide +kernel
theorem d_R_expression_199 : decode prog_6_method_28_code 199 = .ok (.aload_n 0, 1) := by decide +kernel
theorem d_R_expression_200 : decode prog_6_method_28_code 200 = .ok (.getfield (45), 3) := by decide +kernel
theorem d_R_expression_203 : decode prog_6_method_28_code 203 = .ok (.iload (4), 2) := by decide +kernel
theorem d_R_expression_205 : decode prog_6_method_28_code 205 = .ok (.invokevirtual (252), 3) := by decide +kernel
theorem d_R_expression_208 : decode prog_6_method_28_code 208 = .ok (.ireturn, 1) := by decide +kernel
set_option maxRecDepth 100000 in
theorem cw_R_240 : ax_cw "CipherNotation$Reader" 240 y_R_restOfBracket (.code y_R_restOfBracket prog_6_method_29_code 5 (some .int)) 2 := ⟨nw_2 236 (by decide +kernel) rfl, nw_1 2 (by decide +kernel) rfl, nw_2 239 rfl rfl, by decide +kernel, by decide +kernel⟩
theorem im_R_restOfBracket : Cond.instanceMethod y_R_restOfBracket ∈ ax_tbl := nw_2 238 (by decide +kernel) rfl
theorem se_R_restOfBracket : Cond.selects y_R_restOfBracket.cls y_R_restOfBracket y_R_restOfBracket ∈ ax_tbl := nw_sel 15 (by decide +kernel) (by decide +kernel)
set_option maxRecDepth 100000 in
theorem cw_R_243 : ax_cw "CipherNotation$Reader" 243 y_C_addIndexed (.code y_C_addIndexed prog_2_method_4_code 4 (some .int)) 2 := ⟨nw_3 5 (by decide +kernel) rfl, nw_1 5 (by decide +kernel) rfl, nw_3 8 rfl rfl, by decide +kernel, by decide +kernel⟩
theorem im_C_addIndexed : Cond.instanceMethod y_C_addIndexed ∈ ax_tbl := nw_3 6 (by decide +kernel) rfl
theorem se_C_addIndexed : Cond.selects y_C_addIndexed.cls y_C_addIndexed y_C_addIndexed ∈ ax_tbl := nw_3 7 (by decide +kernel) rfl
set_option maxRecDepth 100000 in
theorem cw_R_246 : ax_cw "CipherNotation$Reader" 246 y_R_index (.code y_R_index prog_6_method_30_code 4 (some .int)) 1 := ⟨nw_3 9 (by decide +kernel) rfl, nw_1 2 (by decide +kernel) rfl, nw_3 12 rfl rfl, by decide +kernel, by decide +kernel⟩
theorem im_R_index : Cond.instanceMethod y_R_index ∈ ax_tbl := nw_3 11 (by decide +kernel) rfl
theorem se_R_index : Cond.selects y_R_index.cls y_R_index y_R_index ∈ ax_tbl := nw_sel 16 (by decide +kernel) (by decide +kernel)
set_option maxRecDepth 100000 in
theorem cw_R_252 : ax_cw "CipherNotation$Reader" 252 y_C_addState (.code y_C_addState prog_2_method_3_code 2 (some .int)) 1 := ⟨nw_3 33 (by decide +kernel) rfl, nw_1 5 (by decide +kernel) rfl, nw_3 36 rfl rfl, by decide +kernel, by decide +kernel⟩
theorem im_C_addState : Cond.instanceMethod y_C_addState ∈ ax_tbl := nw_3 34 (by decide +kernel) rfl
theorem se_C_addState : Cond.selects y_C_addState.cls y_C_addState y_C_addState ∈ ax_tbl := nw_3 35 (by decide +kernel) rfl
set_option maxRecDepth 100000 in
theorem cw_R_196 : ax_cw "CipherNotation$Reader" 196 y_R_wordBound (.code y_R_wordBound prog_6_method_10_code 2 (some .int)) 0 := ⟨nw_3 25 (by decide +kernel) rfl, nw_1 2 (by decide +kernel) rfl, nw_3 28 rfl rfl, by decide +kernel, by decide +kernel⟩
theorem im_R_wordBound : Cond.instanceMethod y_R_wordBound ∈ ax_tbl := nw_3 27 (by decide +kernel) rfl
theorem se_R_wordBound : Cond.selects y_R_wordBound.cls y_R_wordBound y_R_wordBound ∈ ax_tbl := nw_sel 18 (by decide +kernel) (by decide +kernel)
def f_R_expression (F : Nat) (g : Nat) : Nat → Int32 → ax_σ → Option (Int32 × ax_σ)
  | 0, _, _ => none
  | n + 1, a1, s =>
    bif ax_in (s.1 0 25 3) 241 then
    bif ax_in (s.1 0 25 3) 241 then
    Option.bind (
      if (s.1 0 26 ((s.1 0 25 3)).toNatClampNeg) = (126 : Int32) then
        some true
      else
        if (s.1 0 26 ((s.1 0 25 3)).toNatClampNeg) = (40 : Int32) then
          some true
        else
          some false) (fun w54 => bif w54 then
      if a1 = (12 : Int32) then
        some (((-1 : Int32), s))
      else
        ax_let (ax_wI s 0 25 3 ((s.1 0 25 3) + (1 : Int32))) (fun s5 =>
          Option.bind (f_R_expression F g n (a1 + (1 : Int32)) s5) (fun (r6, s7) =>
            if r6 = (-1 : Int32) then
              some (((-1 : Int32), s7))
            else
              if (s.1 0 26 ((s.1 0 25 3)).toNatClampNeg) = (126 : Int32) then
                Option.bind (f_C_addOver g (126 : Int32) r6 (0 : Int32) s7) (fun (r12, s13) =>
                  some ((r12, s13)))
              else
                Option.bind (f_R_restOfBracket F (f_R_expression F g n) g r6 a1 s7) (fun (r9, s10) =>
                  some ((r9, s10)))))
    else
      Option.bind (
        if (s.1 0 26 ((s.1 0 25 3)).toNatClampNeg) = (75 : Int32) then
          some true
        else
          if (s.1 0 26 ((s.1 0 25 3)).toNatClampNeg) = (83 : Int32) then
            some true
          else
            some false) (fun w53 => bif w53 then
        ax_let (ax_wI s 0 25 3 ((s.1 0 25 3) + (1 : Int32))) (fun s20 =>
          Option.bind (f_C_addIndexed g (s.1 0 26 ((s.1 0 25 3)).toNatClampNeg) (s.1 0 27 ((s.1 0 25 3)).toNatClampNeg) s20) (fun (r21, s22) =>
            Option.bind (f_R_index F g r21 s22) (fun (r24, s25) =>
              some ((r24, s25)))))
      else
        Option.bind (f_R_isLetter (s.1 0 26 ((s.1 0 25 3)).toNatClampNeg)) (fun r27 =>
          if r27 = (0 : Int32) then
            Option.bind (f_R_isDigit (s.1 0 26 ((s.1 0 25 3)).toNatClampNeg)) (fun r29 =>
              if r29 = (0 : Int32) then
                Option.bind (f_R_takeState g s) (fun (r31, s32) =>
                  if r31 = (-1 : Int32) then
                    some (((-1 : Int32), s32))
                  else
                    Option.bind (f_C_addState g r31 s32) (fun (r34, s35) =>
                      some ((r34, s35))))
              else
                Option.bind (f_R_wordBound g s) (fun r38 =>
                  Option.bind (f_R_takeNumber F g r38 s) (fun (r40, s41) =>
                    Option.bind (f_C_addConstant g ((r40).toInt64) s41) (fun (r43, s44) =>
                      some ((r43, s44))))))
          else
            Option.bind (f_C_addConstant g (0 : Int64) s) (fun (r47, s48) =>
              Option.bind (f_R_takeLetter F g r47 (1 : Int32) s48) (fun s50 =>
                some ((r47, s50)))))))
    else none
    else none
set_option maxHeartbeats 4000000 in
set_option maxRecDepth 100000 in
theorem t_R_expression {l : Launch} {D : va_G} {cA : Nat → ClassId} {ad : Nat → Nat → Nat} {al : List (Nat × Nat)} {θ : ax_Θ} {ρ : ax_ρ} {F : Nat} {g : Nat} (h0 : ax_M0 al) (hg : ax_Mg al g) (hr : ax_rd ρ g) : ∀ (n : Nat) {a1 : Int32} {s : ax_σ} {r0 : Int32} {s0 : ax_σ}, f_R_expression F g n a1 s = some (r0, s0) → ax_T l D cA ad al θ y_R_expression (.code y_R_expression prog_6_method_28_code 5 (some .int)) (10 + 2 * n) [.inr (0, 25), .inl (.int (a1))] (ax_m s ρ) (some (.inl (.int r0))) (ax_m s0 ρ) := by
  intro n
  induction n with
  | zero =>
    intro a1 s r0 s0 h
    cases h
  | succ n ih =>
    intro a1 s r0 s0 h
    rw [f_R_expression] at h
    refine ax_T_of (own := "CipherNotation$Reader") (by decide) rfl (Nat.le_of_ble_eq_true rfl) [(0, .inr (0, 25)), (1, .inl (.int (a1)))] rfl ?_
    intro G hA
    have hB := hA.B
    have hK := hB.K
    have hal := hB.la
    obtain ⟨b1, h⟩ := ax_gd h
    obtain ⟨b2, h⟩ := ax_gd h
    refine ax_bk hK (ax_fc (ax_v_ld (ax_r_aload_n (i := 0) d_R_expression_0 rfl)) (ax_fc (ax_w_gf (e := none) hal d_R_expression_1 fd_R_11) (ax_fc (ax_v_ld (ax_r_aload_n (i := 0) d_R_expression_4 rfl)) (ax_fc (ax_w_gf (e := none) hal d_R_expression_5 fd_R_72) (ax_fc (ax_w_cald hal d_R_expression_8) (ax_fc (ax_v_so (ax_r_istore_n (i := 2) d_R_expression_9 rfl)) (ax_fc (ax_v_ld (ax_r_aload_n (i := 0) d_R_expression_10 rfl)) (ax_fc (ax_w_gf (e := none) hal d_R_expression_11 fd_R_15) (ax_fc (ax_v_ld (ax_r_aload_n (i := 0) d_R_expression_14 rfl)) (ax_fc (ax_w_gf (e := none) hal d_R_expression_15 fd_R_72) (ax_fc (ax_w_iald hal d_R_expression_18) (ax_fc (ax_v_so (ax_r_istore_n (i := 3) d_R_expression_19 rfl)) (ax_fc (ax_v_ld (ax_r_iload_n (i := 2) d_R_expression_20 rfl)) (ax_fc (ax_v_pu (ax_r_bipush (v := 126) d_R_expression_21 (by decide))) ax_fn)))))))))))))) (y := (23, [(3, .inl (.int ((s.1 0 27 ((s.1 0 25 3)).toNatClampNeg)))), (2, .inl (.int ((s.1 0 26 ((s.1 0 25 3)).toNatClampNeg)))), (0, .inr (0, 25)), (1, .inl (.int (a1)))], [.inl (.int ((126 : Int32))), .inl (.int ((s.1 0 26 ((s.1 0 25 3)).toNatClampNeg)))], ax_m (s) ρ)) rfl ⟨trivial, (h0 25 rfl), trivial, (h0 25 rfl), ⟨(h0 26 rfl), ax_inp b1⟩, trivial, trivial, (h0 25 rfl), trivial, (h0 25 rfl), ⟨(h0 27 rfl), ax_inp b2⟩, trivial, trivial, trivial, trivial⟩ ?_
    obtain ⟨w54, hw54, h⟩ := ax_bd h
    have KTw54 : w54 = true → ax_R G 5 0 0 (32, [(0, .inr (0, 25)), (1, .inl (.int (a1))), (2, .inl (.int ((s.1 0 26 ((s.1 0 25 3)).toNatClampNeg))))], [], ax_m (s) ρ) := by
      intro e9
      subst w54
      replace h := ax_ct h
      refine ax_bk hK (ax_fc (ax_v_ld (ax_r_iload_n (i := 1) d_R_expression_32 rfl)) (ax_fc (ax_v_pu (ax_r_bipush (v := 12) d_R_expression_33 (by decide))) ax_fn)) (y := (35, [(0, .inr (0, 25)), (1, .inl (.int (a1))), (2, .inl (.int ((s.1 0 26 ((s.1 0 25 3)).toNatClampNeg))))], [.inl (.int ((12 : Int32))), .inl (.int (a1))], ax_m (s) ρ)) rfl ⟨trivial, trivial, trivial⟩ ?_
      refine ax_ic_ne (tgt := 40) hK d_R_expression_35 (by decide) (fun c17 => ?_) (fun c17 => ?_)
      · replace h := ax_if c17 h
        refine ax_bk hK (ax_fc (ax_v_ld (ax_r_aload_n (i := 0) d_R_expression_40 rfl)) (ax_fc (ax_v_pu (ax_r_dup d_R_expression_41)) (ax_fc (ax_w_gf (e := none) hal d_R_expression_42 fd_R_72) (ax_fc (ax_v_pu (ax_r_iconst (v := 1) d_R_expression_45 (by decide))) (ax_fc (ax_v_pu (ax_r_iadd d_R_expression_46)) (ax_fc (ax_w_pf (tc := 0) hal d_R_expression_47 fp_R_72 rfl) ax_fn)))))) (y := (50, [(0, .inr (0, 25)), (1, .inl (.int (a1))), (2, .inl (.int ((s.1 0 26 ((s.1 0 25 3)).toNatClampNeg))))], [], ax_m (ax_wI s 0 25 3 ((s.1 0 25 3) + (1 : Int32))) ρ)) rfl ⟨trivial, trivial, (h0 25 rfl), trivial, trivial, (h0 25 rfl), trivial⟩ ?_
        refine ax_lt (Q := fun ςς => ax_R G 5 0 0 (50, [(0, .inr (0, 25)), (1, .inl (.int (a1))), (2, .inl (.int ((s.1 0 26 ((s.1 0 25 3)).toNatClampNeg))))], [], ax_m (ςς) ρ)) h (fun s5 h => ?_)
        refine ax_bk hK (ax_fc (ax_v_ld (ax_r_aload_n (i := 0) d_R_expression_50 rfl)) (ax_fc (ax_v_ld (ax_r_iload_n (i := 1) d_R_expression_51 rfl)) (ax_fc (ax_v_pu (ax_r_iconst (v := 1) d_R_expression_52 (by decide))) (ax_fc (ax_v_pu (ax_r_iadd d_R_expression_53)) ax_fn)))) (y := (54, [(0, .inr (0, 25)), (1, .inl (.int (a1))), (2, .inl (.int ((s.1 0 26 ((s.1 0 25 3)).toNatClampNeg))))], [.inl (.int ((a1 + (1 : Int32)))), .inr (0, 25)], ax_m (s5) ρ)) rfl ⟨trivial, trivial, trivial, trivial, trivial⟩ ?_
        obtain ⟨⟨r6, s7⟩, q8, h⟩ := ax_bd h
        dsimp only at h
        refine ax_bV (rest := []) hB (ih q8) cw_R_183 im_R_expression se_R_expression d_R_expression_54 (h0 25 rfl) rfl rfl (by omega) (by decide) rfl rfl (Nat.le_of_ble_eq_true rfl) ?_
        change ax_R G 5 0 0 (57, [(0, .inr (0, 25)), (1, .inl (.int (a1))), (2, .inl (.int ((s.1 0 26 ((s.1 0 25 3)).toNatClampNeg))))], [.inl (.int (r6))], ax_m (s7) ρ)
        refine ax_bk hK (ax_fc (ax_v_so (ax_r_istore d_R_expression_57)) (ax_fc (ax_v_ld (ax_r_iload d_R_expression_59)) (ax_fc (ax_v_pu (ax_r_iconst (v := -1) d_R_expression_61 (by decide))) ax_fn))) (y := (62, [(4, .inl (.int (r6))), (0, .inr (0, 25)), (1, .inl (.int (a1))), (2, .inl (.int ((s.1 0 26 ((s.1 0 25 3)).toNatClampNeg))))], [.inl (.int ((-1 : Int32))), .inl (.int (r6))], ax_m (s7) ρ)) rfl ⟨trivial, trivial, trivial, trivial⟩ ?_
        refine ax_ic_ne (tgt := 67) hK d_R_expression_62 (by decide) (fun c16 => ?_) (fun c16 => ?_)
        · replace h := ax_if c16 h
          refine ax_bk hK (ax_fc (ax_v_ld (ax_r_iload_n (i := 2) d_R_expression_67 rfl)) (ax_fc (ax_v_pu (ax_r_bipush (v := 126) d_R_expression_68 (by decide))) ax_fn)) (y := (70, [(4, .inl (.int (r6))), (0, .inr (0, 25)), (1, .inl (.int (a1))), (2, .inl (.int ((s.1 0 26 ((s.1 0 25 3)).toNatClampNeg))))], [.inl (.int ((126 : Int32))), .inl (.int ((s.1 0 26 ((s.1 0 25 3)).toNatClampNeg)))], ax_m (s7) ρ)) rfl ⟨trivial, trivial, trivial⟩ ?_
          refine ax_ic_ne (tgt := 88) hK d_R_expression_70 (by decide) (fun c15 => ?_) (fun c15 => ?_)
          · replace h := ax_if c15 h
            refine ax_bk hK (ax_fc (ax_v_ld (ax_r_aload_n (i := 0) d_R_expression_88 rfl)) (ax_fc (ax_v_ld (ax_r_iload d_R_expression_89)) (ax_fc (ax_v_ld (ax_r_iload_n (i := 1) d_R_expression_91 rfl)) ax_fn))) (y := (92, [(4, .inl (.int (r6))), (0, .inr (0, 25)), (1, .inl (.int (a1))), (2, .inl (.int ((s.1 0 26 ((s.1 0 25 3)).toNatClampNeg))))], [.inl (.int (a1)), .inl (.int (r6)), .inr (0, 25)], ax_m (s7) ρ)) rfl ⟨trivial, trivial, trivial, trivial⟩ ?_
            obtain ⟨⟨r9, s10⟩, q11, h⟩ := ax_bd h
            dsimp only at h
            refine ax_bV (rest := []) hB (t_R_restOfBracket h0 hg hr (n := n) (fun {_ _ _ _} h9 => ih h9) q11) cw_R_240 im_R_restOfBracket se_R_restOfBracket d_R_expression_92 (h0 25 rfl) rfl rfl (by omega) (by decide) rfl rfl (Nat.le_of_ble_eq_true rfl) ?_
            change ax_R G 5 0 0 (95, [(4, .inl (.int (r6))), (0, .inr (0, 25)), (1, .inl (.int (a1))), (2, .inl (.int ((s.1 0 26 ((s.1 0 25 3)).toNatClampNeg))))], [.inl (.int (r9))], ax_m (s10) ρ)
            cases h
            exact ax_iret hA d_R_expression_95
          · replace h := ax_it c15 h
            refine ax_bk hK (ax_fc (ax_v_ld (ax_r_aload_n (i := 0) d_R_expression_73 rfl)) (ax_fc (ax_w_gf (e := (some (g, 4))) hal d_R_expression_74 fd_R_45) (ax_fc (ax_v_pu (ax_r_bipush (v := 126) d_R_expression_77 (by decide))) (ax_fc (ax_v_ld (ax_r_iload d_R_expression_79)) (ax_fc (ax_v_pu (ax_r_iconst (v := 0) d_R_expression_81 (by decide))) ax_fn))))) (y := (82, [(4, .inl (.int (r6))), (0, .inr (0, 25)), (1, .inl (.int (a1))), (2, .inl (.int ((s.1 0 26 ((s.1 0 25 3)).toNatClampNeg))))], [.inl (.int ((0 : Int32))), .inl (.int (r6)), .inl (.int ((126 : Int32))), .inr (g, 4)], ax_m (s7) ρ)) rfl ⟨trivial, ⟨(h0 25 rfl), hr.2.1⟩, trivial, trivial, trivial, trivial⟩ ?_
            obtain ⟨⟨r12, s13⟩, q14, h⟩ := ax_bd h
            dsimp only at h
            refine ax_bV (rest := []) hB (t_C_addOver hg q14) cw_R_236 im_C_addOver se_C_addOver d_R_expression_82 (hg 4 rfl) rfl rfl (by omega) (by decide) rfl rfl (Nat.le_of_ble_eq_true rfl) ?_
            change ax_R G 5 0 0 (85, [(4, .inl (.int (r6))), (0, .inr (0, 25)), (1, .inl (.int (a1))), (2, .inl (.int ((s.1 0 26 ((s.1 0 25 3)).toNatClampNeg))))], [.inl (.int (r12))], ax_m (s13) ρ)
            refine ax_bk hK (ax_fc (ax_v_go (tgt := 95) d_R_expression_85 (by decide)) ax_fn) (y := (95, [(4, .inl (.int (r6))), (0, .inr (0, 25)), (1, .inl (.int (a1))), (2, .inl (.int ((s.1 0 26 ((s.1 0 25 3)).toNatClampNeg))))], [.inl (.int (r12))], ax_m (s13) ρ)) rfl ⟨trivial, trivial⟩ ?_
            cases h
            exact ax_iret hA d_R_expression_95
        · replace h := ax_it c16 h
          refine ax_bk hK (ax_fc (ax_v_pu (ax_r_iconst (v := -1) d_R_expression_65 (by decide))) ax_fn) (y := (66, [(4, .inl (.int (r6))), (0, .inr (0, 25)), (1, .inl (.int (a1))), (2, .inl (.int ((s.1 0 26 ((s.1 0 25 3)).toNatClampNeg))))], [.inl (.int ((-1 : Int32)))], ax_m (s7) ρ)) rfl ⟨trivial, trivial⟩ ?_
          cases h
          exact ax_iret hA d_R_expression_66
      · replace h := ax_it c17 h
        refine ax_bk hK (ax_fc (ax_v_pu (ax_r_iconst (v := -1) d_R_expression_38 (by decide))) ax_fn) (y := (39, [(0, .inr (0, 25)), (1, .inl (.int (a1))), (2, .inl (.int ((s.1 0 26 ((s.1 0 25 3)).toNatClampNeg))))], [.inl (.int ((-1 : Int32)))], ax_m (s) ρ)) rfl ⟨trivial, trivial⟩ ?_
        cases h
        exact ax_iret hA d_R_expression_39
    have KFw54 : w54 = false → ax_R G 5 0 0 (96, [(0, .inr (0, 25)), (2, .inl (.int ((s.1 0 26 ((s.1 0 25 3)).toNatClampNeg)))), (3, .inl (.int ((s.1 0 27 ((s.1 0 25 3)).toNatClampNeg))))], [], ax_m (s) ρ) := by
      intro e9
      subst w54
      replace h := ax_cf h
      refine ax_bk hK (ax_fc (ax_v_ld (ax_r_iload_n (i := 2) d_R_expression_96 rfl)) (ax_fc (ax_v_pu (ax_r_bipush (v := 75) d_R_expression_97 (by decide))) ax_fn)) (y := (99, [(0, .inr (0, 25)), (2, .inl (.int ((s.1 0 26 ((s.1 0 25 3)).toNatClampNeg)))), (3, .inl (.int ((s.1 0 27 ((s.1 0 25 3)).toNatClampNeg))))], [.inl (.int ((75 : Int32))), .inl (.int ((s.1 0 26 ((s.1 0 25 3)).toNatClampNeg)))], ax_m (s) ρ)) rfl ⟨trivial, trivial, trivial⟩ ?_
      obtain ⟨w53, hw53, h⟩ := ax_bd h
      have KTw53 : w53 = true → ax_R G 5 0 0 (108, [(0, .inr (0, 25)), (2, .inl (.int ((s.1 0 26 ((s.1 0 25 3)).toNatClampNeg)))), (3, .inl (.int ((s.1 0 27 ((s.1 0 25 3)).toNatClampNeg))))], [], ax_m (s) ρ) := by
        intro e9
        subst w53
        replace h := ax_ct h
        refine ax_bk hK (ax_fc (ax_v_ld (ax_r_aload_n (i := 0) d_R_expression_108 rfl)) (ax_fc (ax_v_pu (ax_r_dup d_R_expression_109)) (ax_fc (ax_w_gf (e := none) hal d_R_expression_110 fd_R_72) (ax_fc (ax_v_pu (ax_r_iconst (v := 1) d_R_expression_113 (by decide))) (ax_fc (ax_v_pu (ax_r_iadd d_R_expression_114)) (ax_fc (ax_w_pf (tc := 0) hal d_R_expression_115 fp_R_72 rfl) ax_fn)))))) (y := (118, [(0, .inr (0, 25)), (2, .inl (.int ((s.1 0 26 ((s.1 0 25 3)).toNatClampNeg)))), (3, .inl (.int ((s.1 0 27 ((s.1 0 25 3)).toNatClampNeg))))], [], ax_m (ax_wI s 0 25 3 ((s.1 0 25 3) + (1 : Int32))) ρ)) rfl ⟨trivial, trivial, (h0 25 rfl), trivial, trivial, (h0 25 rfl), trivial⟩ ?_
        refine ax_lt (Q := fun ςς => ax_R G 5 0 0 (118, [(0, .inr (0, 25)), (2, .inl (.int ((s.1 0 26 ((s.1 0 25 3)).toNatClampNeg)))), (3, .inl (.int ((s.1 0 27 ((s.1 0 25 3)).toNatClampNeg))))], [], ax_m (ςς) ρ)) h (fun s20 h => ?_)
        refine ax_bk hK (ax_fc (ax_v_ld (ax_r_aload_n (i := 0) d_R_expression_118 rfl)) (ax_fc (ax_v_ld (ax_r_aload_n (i := 0) d_R_expression_119 rfl)) (ax_fc (ax_w_gf (e := (some (g, 4))) hal d_R_expression_120 fd_R_45) (ax_fc (ax_v_ld (ax_r_iload_n (i := 2) d_R_expression_123 rfl)) (ax_fc (ax_v_ld (ax_r_iload_n (i := 3) d_R_expression_124 rfl)) ax_fn))))) (y := (125, [(0, .inr (0, 25)), (2, .inl (.int ((s.1 0 26 ((s.1 0 25 3)).toNatClampNeg)))), (3, .inl (.int ((s.1 0 27 ((s.1 0 25 3)).toNatClampNeg))))], [.inl (.int ((s.1 0 27 ((s.1 0 25 3)).toNatClampNeg))), .inl (.int ((s.1 0 26 ((s.1 0 25 3)).toNatClampNeg))), .inr (g, 4), .inr (0, 25)], ax_m (s20) ρ)) rfl ⟨trivial, trivial, ⟨(h0 25 rfl), hr.2.1⟩, trivial, trivial, trivial⟩ ?_
        obtain ⟨⟨r21, s22⟩, q23, h⟩ := ax_bd h
        dsimp only at h
        refine ax_bV (rest := [.inr (0, 25)]) hB (t_C_addIndexed hg q23) cw_R_243 im_C_addIndexed se_C_addIndexed d_R_expression_125 (hg 4 rfl) rfl rfl (by omega) (by decide) rfl rfl (Nat.le_of_ble_eq_true rfl) ?_
        change ax_R G 5 0 0 (128, [(0, .inr (0, 25)), (2, .inl (.int ((s.1 0 26 ((s.1 0 25 3)).toNatClampNeg)))), (3, .inl (.int ((s.1 0 27 ((s.1 0 25 3)).toNatClampNeg))))], [.inl (.int (r21)), .inr (0, 25)], ax_m (s22) ρ)
        obtain ⟨⟨r24, s25⟩, q26, h⟩ := ax_bd h
        dsimp only at h
        refine ax_bV (rest := []) hB (t_R_index h0 hg hr q26) cw_R_246 im_R_index se_R_index d_R_expression_128 (h0 25 rfl) rfl rfl (by omega) (by decide) rfl rfl (Nat.le_of_ble_eq_true rfl) ?_
        change ax_R G 5 0 0 (131, [(0, .inr (0, 25)), (2, .inl (.int ((s.1 0 26 ((s.1 0 25 3)).toNatClampNeg)))), (3, .inl (.int ((s.1 0 27 ((s.1 0 25 3)).toNatClampNeg))))], [.inl (.int (r24))], ax_m (s25) ρ)
        cases h
        exact ax_iret hA d_R_expression_131
      have KFw53 : w53 = false → ax_R G 5 0 0 (132, [(0, .inr (0, 25)), (2, .inl (.int ((s.1 0 26 ((s.1 0 25 3)).toNatClampNeg))))], [], ax_m (s) ρ) := by
        intro e9
        subst w53
        replace h := ax_cf h
        refine ax_bk hK (ax_fc (ax_v_ld (ax_r_iload_n (i := 2) d_R_expression_132 rfl)) ax_fn) (y := (133, [(0, .inr (0, 25)), (2, .inl (.int ((s.1 0 26 ((s.1 0 25 3)).toNatClampNeg))))], [.inl (.int ((s.1 0 26 ((s.1 0 25 3)).toNatClampNeg)))], ax_m (s) ρ)) rfl ⟨trivial, trivial⟩ ?_
        obtain ⟨r27, q28, h⟩ := ax_bd h
        refine ax_bS (rest := []) hB (t_R_isLetter q28) cw_R_146 sm_R_isLetter d_R_expression_133 (by omega) (by decide) rfl rfl (Nat.le_of_ble_eq_true rfl) ?_
        change ax_R G 5 0 0 (136, [(0, .inr (0, 25)), (2, .inl (.int ((s.1 0 26 ((s.1 0 25 3)).toNatClampNeg))))], [.inl (.int (r27))], ax_m (s) ρ)
        refine ax_if_eq (tgt := 159) hK d_R_expression_136 (by decide) (fun c52 => ?_) (fun c52 => ?_)
        · replace h := ax_it c52 h
          refine ax_bk hK (ax_fc (ax_v_ld (ax_r_iload_n (i := 2) d_R_expression_159 rfl)) ax_fn) (y := (160, [(0, .inr (0, 25)), (2, .inl (.int ((s.1 0 26 ((s.1 0 25 3)).toNatClampNeg))))], [.inl (.int ((s.1 0 26 ((s.1 0 25 3)).toNatClampNeg)))], ax_m (s) ρ)) rfl ⟨trivial, trivial⟩ ?_
          obtain ⟨r29, q30, h⟩ := ax_bd h
          refine ax_bS (rest := []) hB (t_R_isDigit q30) cw_R_96 sm_R_isDigit d_R_expression_160 (by omega) (by decide) rfl rfl (Nat.le_of_ble_eq_true rfl) ?_
          change ax_R G 5 0 0 (163, [(0, .inr (0, 25)), (2, .inl (.int ((s.1 0 26 ((s.1 0 25 3)).toNatClampNeg))))], [.inl (.int (r29))], ax_m (s) ρ)
          refine ax_if_eq (tgt := 183) hK d_R_expression_163 (by decide) (fun c46 => ?_) (fun c46 => ?_)
          · replace h := ax_it c46 h
            refine ax_bk hK (ax_fc (ax_v_ld (ax_r_aload_n (i := 0) d_R_expression_183 rfl)) ax_fn) (y := (184, [(0, .inr (0, 25)), (2, .inl (.int ((s.1 0 26 ((s.1 0 25 3)).toNatClampNeg))))], [.inr (0, 25)], ax_m (s) ρ)) rfl ⟨trivial, trivial⟩ ?_
            obtain ⟨⟨r31, s32⟩, q33, h⟩ := ax_bd h
            dsimp only at h
            refine ax_bV (rest := []) hB (t_R_takeState h0 hg hr q33) cw_R_192 im_R_takeState se_R_takeState d_R_expression_184 (h0 25 rfl) rfl rfl (by omega) (by decide) rfl rfl (Nat.le_of_ble_eq_true rfl) ?_
            change ax_R G 5 0 0 (187, [(0, .inr (0, 25)), (2, .inl (.int ((s.1 0 26 ((s.1 0 25 3)).toNatClampNeg))))], [.inl (.int (r31))], ax_m (s32) ρ)
            refine ax_bk hK (ax_fc (ax_v_so (ax_r_istore d_R_expression_187)) (ax_fc (ax_v_ld (ax_r_iload d_R_expression_189)) (ax_fc (ax_v_pu (ax_r_iconst (v := -1) d_R_expression_191 (by decide))) ax_fn))) (y := (192, [(4, .inl (.int (r31))), (0, .inr (0, 25)), (2, .inl (.int ((s.1 0 26 ((s.1 0 25 3)).toNatClampNeg))))], [.inl (.int ((-1 : Int32))), .inl (.int (r31))], ax_m (s32) ρ)) rfl ⟨trivial, trivial, trivial, trivial⟩ ?_
            refine ax_ic_ne (tgt := 199) hK d_R_expression_192 (by decide) (fun c37 => ?_) (fun c37 => ?_)
            · replace h := ax_if c37 h
              refine ax_bk hK (ax_fc (ax_v_ld (ax_r_aload_n (i := 0) d_R_expression_199 rfl)) (ax_fc (ax_w_gf (e := (some (g, 4))) hal d_R_expression_200 fd_R_45) (ax_fc (ax_v_ld (ax_r_iload d_R_expression_203)) ax_fn))) (y := (205, [(4, .inl (.int (r31))), (0, .inr (0, 25)), (2, .inl (.int ((s.1 0 26 ((s.1 0 25 3)).toNatClampNeg))))], [.inl (.int (r31)), .inr (g, 4)], ax_m (s32) ρ)) rfl ⟨trivial, ⟨(h0 25 rfl), hr.2.1⟩, trivial, trivial⟩ ?_
              obtain ⟨⟨r34, s35⟩, q36, h⟩ := ax_bd h
              dsimp only at h
              refine ax_bV (rest := []) hB (t_C_addState hg q36) cw_R_252 im_C_addState se_C_addState d_R_expression_205 (hg 4 rfl) rfl rfl (by omega) (by decide) rfl rfl (Nat.le_of_ble_eq_true rfl) ?_
              change ax_R G 5 0 0 (208, [(4, .inl (.int (r31))), (0, .inr (0, 25)), (2, .inl (.int ((s.1 0 26 ((s.1 0 25 3)).toNatClampNeg))))], [.inl (.int (r34))], ax_m (s35) ρ)
              cases h
              exact ax_iret hA d_R_expression_208
            · replace h := ax_it c37 h
              refine ax_bk hK (ax_fc (ax_v_pu (ax_r_iconst (v := -1) d_R_expression_195 (by decide))) (ax_fc (ax_v_go (tgt := 208) d_R_expression_196 (by decide)) ax_fn)) (y := (208, [(4, .inl (.int (r31))), (0, .inr (0, 25)), (2, .inl (.int ((s.1 0 26 ((s.1 0 25 3)).toNatClampNeg))))], [.inl (.int ((-1 : Int32)))], ax_m (s32) ρ)) rfl ⟨trivial, trivial, trivial⟩ ?_
              cases h
              exact ax_iret hA d_R_expression_208
          · replace h := ax_if c46 h
            refine ax_bk hK (ax_fc (ax_v_ld (ax_r_aload_n (i := 0) d_R_expression_166 rfl)) (ax_fc (ax_w_gf (e := (some (g, 4))) hal d_R_expression_167 fd_R_45) (ax_fc (ax_v_ld (ax_r_aload_n (i := 0) d_R_expression_170 rfl)) (ax_fc (ax_v_ld (ax_r_aload_n (i := 0) d_R_expression_171 rfl)) ax_fn)))) (y := (172, [(0, .inr (0, 25)), (2, .inl (.int ((s.1 0 26 ((s.1 0 25 3)).toNatClampNeg))))], [.inr (0, 25), .inr (0, 25), .inr (g, 4)], ax_m (s) ρ)) rfl ⟨trivial, ⟨(h0 25 rfl), hr.2.1⟩, trivial, trivial, trivial⟩ ?_
            obtain ⟨r38, q39, h⟩ := ax_bd h
            refine ax_bV (rest := [.inr (0, 25), .inr (g, 4)]) hB (t_R_wordBound h0 hg hr q39) cw_R_196 im_R_wordBound se_R_wordBound d_R_expression_172 (h0 25 rfl) rfl rfl (by omega) (by decide) rfl rfl (Nat.le_of_ble_eq_true rfl) ?_
            change ax_R G 5 0 0 (175, [(0, .inr (0, 25)), (2, .inl (.int ((s.1 0 26 ((s.1 0 25 3)).toNatClampNeg))))], [.inl (.int (r38)), .inr (0, 25), .inr (g, 4)], ax_m (s) ρ)
            obtain ⟨⟨r40, s41⟩, q42, h⟩ := ax_bd h
            dsimp only at h
            refine ax_bV (rest := [.inr (g, 4)]) hB (t_R_takeNumber h0 hg hr q42) cw_R_111 im_R_takeNumber se_R_takeNumber d_R_expression_175 (h0 25 rfl) rfl rfl (by omega) (by decide) rfl rfl (Nat.le_of_ble_eq_true rfl) ?_
            change ax_R G 5 0 0 (178, [(0, .inr (0, 25)), (2, .inl (.int ((s.1 0 26 ((s.1 0 25 3)).toNatClampNeg))))], [.inl (.int (r40)), .inr (g, 4)], ax_m (s41) ρ)
            refine ax_bk hK (ax_fc (ax_v_pu (ax_r_i2l d_R_expression_178)) ax_fn) (y := (179, [(0, .inr (0, 25)), (2, .inl (.int ((s.1 0 26 ((s.1 0 25 3)).toNatClampNeg))))], [.inl (.long ((r40).toInt64)), .inr (g, 4)], ax_m (s41) ρ)) rfl ⟨trivial, trivial⟩ ?_
            obtain ⟨⟨r43, s44⟩, q45, h⟩ := ax_bd h
            dsimp only at h
            refine ax_bV (rest := []) hB (t_C_addConstant hg q45) cw_R_217 im_C_addConstant se_C_addConstant d_R_expression_179 (hg 4 rfl) rfl rfl (by omega) (by decide) rfl rfl (Nat.le_of_ble_eq_true rfl) ?_
            change ax_R G 5 0 0 (182, [(0, .inr (0, 25)), (2, .inl (.int ((s.1 0 26 ((s.1 0 25 3)).toNatClampNeg))))], [.inl (.int (r43))], ax_m (s44) ρ)
            cases h
            exact ax_iret hA d_R_expression_182
        · replace h := ax_if c52 h
          refine ax_bk hK (ax_fc (ax_v_ld (ax_r_aload_n (i := 0) d_R_expression_139 rfl)) (ax_fc (ax_w_gf (e := (some (g, 4))) hal d_R_expression_140 fd_R_45) (ax_fc (ax_v_pu (ax_r_lconst (v := 0) d_R_expression_143 (by decide))) ax_fn))) (y := (144, [(0, .inr (0, 25)), (2, .inl (.int ((s.1 0 26 ((s.1 0 25 3)).toNatClampNeg))))], [.inl (.long ((0 : Int64))), .inr (g, 4)], ax_m (s) ρ)) rfl ⟨trivial, ⟨(h0 25 rfl), hr.2.1⟩, trivial, trivial⟩ ?_
          obtain ⟨⟨r47, s48⟩, q49, h⟩ := ax_bd h
          dsimp only at h
          refine ax_bV (rest := []) hB (t_C_addConstant hg q49) cw_R_217 im_C_addConstant se_C_addConstant d_R_expression_144 (hg 4 rfl) rfl rfl (by omega) (by decide) rfl rfl (Nat.le_of_ble_eq_true rfl) ?_
          change ax_R G 5 0 0 (147, [(0, .inr (0, 25)), (2, .inl (.int ((s.1 0 26 ((s.1 0 25 3)).toNatClampNeg))))], [.inl (.int (r47))], ax_m (s48) ρ)
          refine ax_bk hK (ax_fc (ax_v_so (ax_r_istore d_R_expression_147)) (ax_fc (ax_v_ld (ax_r_aload_n (i := 0) d_R_expression_149 rfl)) (ax_fc (ax_v_ld (ax_r_iload d_R_expression_150)) (ax_fc (ax_v_pu (ax_r_iconst (v := 1) d_R_expression_152 (by decide))) ax_fn)))) (y := (153, [(4, .inl (.int (r47))), (0, .inr (0, 25)), (2, .inl (.int ((s.1 0 26 ((s.1 0 25 3)).toNatClampNeg))))], [.inl (.int ((1 : Int32))), .inl (.int (r47)), .inr (0, 25)], ax_m (s48) ρ)) rfl ⟨trivial, trivial, trivial, trivial, trivial⟩ ?_
          obtain ⟨s50, q51, h⟩ := ax_bd h
          refine ax_bV (rest := []) hB (t_R_takeLetter h0 hg hr q51) cw_R_249 im_R_takeLetter se_R_takeLetter d_R_expression_153 (h0 25 rfl) rfl rfl (by omega) (by decide) rfl rfl (Nat.le_of_ble_eq_true rfl) ?_
          change ax_R G 5 0 0 (156, [(4, .inl (.int (r47))), (0, .inr (0, 25)), (2, .inl (.int ((s.1 0 26 ((s.1 0 25 3)).toNatClampNeg))))], [], ax_m (s50) ρ)
          refine ax_bk hK (ax_fc (ax_v_ld (ax_r_iload d_R_expression_156)) ax_fn) (y := (158, [(4, .inl (.int (r47))), (0, .inr (0, 25)), (2, .inl (.int ((s.1 0 26 ((s.1 0 25 3)).toNatClampNeg))))], [.inl (.int (r47))], ax_m (s50) ρ)) rfl ⟨trivial, trivial⟩ ?_
          cases h
          exact ax_iret hA d_R_expression_158
      clear h
      have h := hw53
      refine ax_ic_eq (tgt := 108) hK d_R_expression_99 (by decide) (fun c19 => ?_) (fun c19 => ?_)
      · replace h := ax_it c19 h
        cases h
        exact ax_Lsub [0, 1, 2] rfl (KTw53 rfl)
      · replace h := ax_if c19 h
        refine ax_bk hK (ax_fc (ax_v_ld (ax_r_iload_n (i := 2) d_R_expression_102 rfl)) (ax_fc (ax_v_pu (ax_r_bipush (v := 83) d_R_expression_103 (by decide))) ax_fn)) (y := (105, [(0, .inr (0, 25)), (2, .inl (.int ((s.1 0 26 ((s.1 0 25 3)).toNatClampNeg)))), (3, .inl (.int ((s.1 0 27 ((s.1 0 25 3)).toNatClampNeg))))], [.inl (.int ((83 : Int32))), .inl (.int ((s.1 0 26 ((s.1 0 25 3)).toNatClampNeg)))], ax_m (s) ρ)) rfl ⟨trivial, trivial, trivial⟩ ?_
        refine ax_ic_ne (tgt := 132) hK d_R_expression_105 (by decide) (fun c18 => ?_) (fun c18 => ?_)
        · replace h := ax_if c18 h
          cases h
          exact ax_Lsub [0, 1] rfl (KFw53 rfl)
        · replace h := ax_it c18 h
          cases h
          exact ax_Lsub [0, 1, 2] rfl (KTw53 rfl)
    clear h
    have h := hw54
    refine ax_ic_eq (tgt := 32) hK d_R_expression_23 (by decide) (fun c4 => ?_) (fun c4 => ?_)
    · replace h := ax_it c4 h
      cases h
      exact ax_Lsub [2, 3, 1] rfl (KTw54 rfl)
    · replace h := ax_if c4 h
      refine ax_bk hK (ax_fc (ax_v_ld (ax_r_iload_n (i := 2) d_R_expression_26 rfl)) (ax_fc (ax_v_pu (ax_r_bipush (v := 40) d_R_expression_27 (by decide))) ax_fn)) (y := (29, [(3, .inl (.int ((s.1 0 27 ((s.1 0 25 3)).toNatClampNeg)))), (2, .inl (.int ((s.1 0 26 ((s.1 0 25 3)).toNatClampNeg)))), (0, .inr (0, 25)), (1, .inl (.int (a1)))], [.inl (.int ((40 : Int32))), .inl (.int ((s.1 0 26 ((s.1 0 25 3)).toNatClampNeg)))], ax_m (s) ρ)) rfl ⟨trivial, trivial, trivial⟩ ?_
      refine ax_ic_ne (tgt := 96) hK d_R_expression_29 (by decide) (fun c3 => ?_) (fun c3 => ?_)
      · replace h := ax_if c3 h
        cases h
        exact ax_Lsub [2, 1, 0] rfl (KFw54 rfl)
      · replace h := ax_it c3 h
        cases h
        exact ax_Lsub [2, 3, 1] rfl (KTw54 rfl)
def f_R_expression14 (F : Nat) (g : Nat) (a1 : Int32) (s : ax_σ) : Option (Int32 × ax_σ) := f_R_expression F g 14 a1 s
theorem t_R_expression14 {l : Launch} {D : va_G} {cA : Nat → ClassId} {ad : Nat → Nat → Nat} {al : List (Nat × Nat)} {θ : ax_Θ} {ρ : ax_ρ} {F : Nat} {g : Nat} (h0 : ax_M0 al) (hg : ax_Mg al g) (hr : ax_rd ρ g) {a1 : Int32} {s : ax_σ} {r0 : Int32} {s0 : ax_σ} (h : f_R_expression14 F g a1 s = some (r0, s0)) : ax_T l D cA ad al θ y_R_expression (.code y_R_expression prog_6_method_28_code 5 (some .int)) 38 [.inr (0, 25), .inl (.int a1)] (ax_m s ρ) (some (.inl (.int r0))) (ax_m s0 ρ) := t_R_expression h0 hg hr 14 h
