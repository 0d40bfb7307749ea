def y_Math_max_II : MethodName := ⟨"java/lang/Math", "max", "(II)I"⟩
theorem d_Math_max_II_0 : decode prog_14_method_65_code 0 = .ok (.iload_n 0, 1) := by decide +kernel
theorem d_Math_max_II_1 : decode prog_14_method_65_code 1 = .ok (.iload_n 1, 1) := by decide +kernel
theorem d_Math_max_II_2 : decode prog_14_method_65_code 2 = .ok (.if_icmp .lt (7), 3) := by decide +kernel
theorem d_Math_max_II_5 : decode prog_14_method_65_code 5 = .ok (.iload_n 0, 1) := by decide +kernel
theorem d_Math_max_II_6 : decode prog_14_method_65_code 6 = .ok (.goto (4), 3) := by decide +kernel
theorem d_Math_max_II_9 : decode prog_14_method_65_code 9 = .ok (.iload_n 1, 1) := by decide +kernel
theorem d_Math_max_II_10 : decode prog_14_method_65_code 10 = .ok (.ireturn, 1) := by decide +kernel
def f_Math_max_II (a1 : Int32) (a2 : Int32) : Option (Int32) :=
  if a1 < a2 then
    some (a2)
  else
    some (a1)
set_option maxHeartbeats 4000000 in
set_option maxRecDepth 100000 in
theorem t_Math_max_II {l : Launch} {D : va_G} {cA : Nat → ClassId} {ad : Nat → Nat → Nat} {al : List (Nat × Nat)} {θ : ax_Θ} {ρ : ax_ρ}  {a1 : Int32} {a2 : Int32} {s : ax_σ} {r0 : Int32} (h : f_Math_max_II a1 a2 = some r0) : ax_T l D cA ad al θ y_Math_max_II (.code y_Math_max_II prog_14_method_65_code 2 (some .int)) 0 [.inl (.int (a1)), .inl (.int (a2))] (ax_m s ρ) (some (.inl (.int r0))) (ax_m s ρ) := by
  refine ax_T_ofF (own := "java/lang/Math") (by decide +kernel) rfl (Nat.le_of_ble_eq_true rfl) [(0, .inl (.int (a1))), (1, .inl (.int (a2)))] rfl ?_
  intro G hA
  have hB := hA.B
  have hK := hB.K
  have hal := hB.la
  unfold f_Math_max_II at h
  refine ax_bk hK (ax_fc (ax_v_ld (ax_r_iload_n (i := 0) d_Math_max_II_0 rfl)) (ax_fc (ax_v_ld (ax_r_iload_n (i := 1) d_Math_max_II_1 rfl)) ax_fn)) (y := (2, [(0, .inl (.int (a1))), (1, .inl (.int (a2)))], [.inl (.int (a2)), .inl (.int (a1))], ax_m (s) ρ)) rfl ⟨trivial, trivial, trivial⟩ ?_
  refine ax_ic_lt (tgt := 9) hK d_Math_max_II_2 (by decide) (fun c1 => ?_) (fun c1 => ?_)
  · replace h := ax_it c1 h
    refine ax_bk hK (ax_fc (ax_v_ld (ax_r_iload_n (i := 1) d_Math_max_II_9 rfl)) ax_fn) (y := (10, [(0, .inl (.int (a1))), (1, .inl (.int (a2)))], [.inl (.int (a2))], ax_m (s) ρ)) rfl ⟨trivial, trivial⟩ ?_
    cases h
    exact ax_iret hA d_Math_max_II_10
  · replace h := ax_if c1 h
    refine ax_bk hK (ax_fc (ax_v_ld (ax_r_iload_n (i := 0) d_Math_max_II_5 rfl)) (ax_fc (ax_v_go (tgt := 10) d_Math_max_II_6 (by decide)) ax_fn)) (y := (10, [(0, .inl (.int (a1))), (1, .inl (.int (a2)))], [.inl (.int (a1))], ax_m (s) ρ)) rfl ⟨trivial, trivial, trivial⟩ ?_
    cases h
    exact ax_iret hA d_Math_max_II_10
def y_Math_min : MethodName := ⟨"java/lang/Math", "min", "(II)I"⟩
theorem d_Math_min_0 : decode prog_14_method_69_code 0 = .ok (.iload_n 0, 1) := by decide +kernel
theorem d_Math_min_1 : decode prog_14_method_69_code 1 = .ok (.iload_n 1, 1) := by decide +kernel
theorem d_Math_min_2 : decode prog_14_method_69_code 2 = .ok (.if_icmp .gt (7), 3) := by decide +kernel
theorem d_Math_min_5 : decode prog_14_method_69_code 5 = .ok (.iload_n 0, 1) := by decide +kernel
theorem d_Math_min_6 : decode prog_14_method_69_code 6 = .ok (.goto (4), 3) := by decide +kernel
theorem d_Math_min_9 : decode prog_14_method_69_code 9 = .ok (.iload_n 1, 1) := by decide +kernel
theorem d_Math_min_10 : decode prog_14_method_69_code 10 = .ok (.ireturn, 1) := by decide +kernel
def f_Math_min (a1 : Int32) (a2 : Int32) : Option (Int32) :=
  if a2 < a1 then
    some (a2)
  else
    some (a1)
set_option maxHeartbeats 4000000 in
set_option maxRecDepth 100000 in
theorem t_Math_min {l : Launch} {D : va_G} {cA : Nat → ClassId} {ad : Nat → Nat → Nat} {al : List (Nat × Nat)} {θ : ax_Θ} {ρ : ax_ρ}  {a1 : Int32} {a2 : Int32} {s : ax_σ} {r0 : Int32} (h : f_Math_min a1 a2 = some r0) : ax_T l D cA ad al θ y_Math_min (.code y_Math_min prog_14_method_69_code 2 (some .int)) 0 [.inl (.int (a1)), .inl (.int (a2))] (ax_m s ρ) (some (.inl (.int r0))) (ax_m s ρ) := by
  refine ax_T_ofF (own := "java/lang/Math") (by decide +kernel) rfl (Nat.le_of_ble_eq_true rfl) [(0, .inl (.int (a1))), (1, .inl (.int (a2)))] rfl ?_
  intro G hA
  have hB := hA.B
  have hK := hB.K
  have hal := hB.la
  unfold f_Math_min at h
  refine ax_bk hK (ax_fc (ax_v_ld (ax_r_iload_n (i := 0) d_Math_min_0 rfl)) (ax_fc (ax_v_ld (ax_r_iload_n (i := 1) d_Math_min_1 rfl)) ax_fn)) (y := (2, [(0, .inl (.int (a1))), (1, .inl (.int (a2)))], [.inl (.int (a2)), .inl (.int (a1))], ax_m (s) ρ)) rfl ⟨trivial, trivial, trivial⟩ ?_
  refine ax_ic_gt (tgt := 9) hK d_Math_min_2 (by decide) (fun c1 => ?_) (fun c1 => ?_)
  · replace h := ax_it c1 h
    refine ax_bk hK (ax_fc (ax_v_ld (ax_r_iload_n (i := 1) d_Math_min_9 rfl)) ax_fn) (y := (10, [(0, .inl (.int (a1))), (1, .inl (.int (a2)))], [.inl (.int (a2))], ax_m (s) ρ)) rfl ⟨trivial, trivial⟩ ?_
    cases h
    exact ax_iret hA d_Math_min_10
  · replace h := ax_if c1 h
    refine ax_bk hK (ax_fc (ax_v_ld (ax_r_iload_n (i := 0) d_Math_min_5 rfl)) (ax_fc (ax_v_go (tgt := 10) d_Math_min_6 (by decide)) ax_fn)) (y := (10, [(0, .inl (.int (a1))), (1, .inl (.int (a2)))], [.inl (.int (a1))], ax_m (s) ρ)) rfl ⟨trivial, trivial, trivial⟩ ?_
    cases h
    exact ax_iret hA d_Math_min_10
def y_Math_max_JJ : MethodName := ⟨"java/lang/Math", "max", "(JJ)J"⟩
theorem d_Math_max_JJ_0 : decode prog_14_method_66_code 0 = .ok (.lload_n 0, 1) := by decide +kernel
theorem d_Math_max_JJ_1 : decode prog_14_method_66_code 1 = .ok (.lload_n 2, 1) := by decide +kernel
theorem d_Math_max_JJ_2 : decode prog_14_method_66_code 2 = .ok (.lcmp, 1) := by decide +kernel
theorem d_Math_max_JJ_3 : decode prog_14_method_66_code 3 = .ok (.ifCond .lt (7), 3) := by decide +kernel
theorem d_Math_max_JJ_6 : decode prog_14_method_66_code 6 = .ok (.lload_n 0, 1) := by decide +kernel
theorem d_Math_max_JJ_7 : decode prog_14_method_66_code 7 = .ok (.goto (4), 3) := by decide +kernel
theorem d_Math_max_JJ_10 : decode prog_14_method_66_code 10 = .ok (.lload_n 2, 1) := by decide +kernel
theorem d_Math_max_JJ_11 : decode prog_14_method_66_code 11 = .ok (.lreturn, 1) := by decide +kernel
def f_Math_max_JJ (a1 : Int64) (a2 : Int64) : Option (Int64) :=
  if (lg_cmp a1 a2) < (0 : Int32) then
    some (a2)
  else
    some (a1)
set_option maxHeartbeats 4000000 in
set_option maxRecDepth 100000 in
theorem t_Math_max_JJ {l : Launch} {D : va_G} {cA : Nat → ClassId} {ad : Nat → Nat → Nat} {al : List (Nat × Nat)} {θ : ax_Θ} {ρ : ax_ρ}  {a1 : Int64} {a2 : Int64} {s : ax_σ} {r0 : Int64} (h : f_Math_max_JJ a1 a2 = some r0) : ax_T l D cA ad al θ y_Math_max_JJ (.code y_Math_max_JJ prog_14_method_66_code 4 (some .long)) 0 [.inl (.long (a1)), .inl (.long (a2))] (ax_m s ρ) (some (.inl (.long r0))) (ax_m s ρ) := by
  refine ax_T_ofF (own := "java/lang/Math") (by decide +kernel) rfl (Nat.le_of_ble_eq_true rfl) [(0, .inl (.long (a1))), (2, .inl (.long (a2)))] rfl ?_
  intro G hA
  have hB := hA.B
  have hK := hB.K
  have hal := hB.la
  unfold f_Math_max_JJ at h
  refine ax_bk hK (ax_fc (ax_v_ld (ax_r_lload_n (i := 0) d_Math_max_JJ_0 rfl)) (ax_fc (ax_v_ld (ax_r_lload_n (i := 2) d_Math_max_JJ_1 rfl)) (ax_fc (ax_v_pu (ax_r_lcmp d_Math_max_JJ_2)) ax_fn))) (y := (3, [(0, .inl (.long (a1))), (2, .inl (.long (a2)))], [.inl (.int ((lg_cmp a1 a2)))], ax_m (s) ρ)) rfl ⟨trivial, trivial, trivial, trivial⟩ ?_
  refine ax_if_lt (tgt := 10) hK d_Math_max_JJ_3 (by decide) (fun c1 => ?_) (fun c1 => ?_)
  · replace h := ax_it c1 h
    refine ax_bk hK (ax_fc (ax_v_ld (ax_r_lload_n (i := 2) d_Math_max_JJ_10 rfl)) ax_fn) (y := (11, [(0, .inl (.long (a1))), (2, .inl (.long (a2)))], [.inl (.long (a2))], ax_m (s) ρ)) rfl ⟨trivial, trivial⟩ ?_
    cases h
    exact ax_lret hA d_Math_max_JJ_11
  · replace h := ax_if c1 h
    refine ax_bk hK (ax_fc (ax_v_ld (ax_r_lload_n (i := 0) d_Math_max_JJ_6 rfl)) (ax_fc (ax_v_go (tgt := 11) d_Math_max_JJ_7 (by decide)) ax_fn)) (y := (11, [(0, .inl (.long (a1))), (2, .inl (.long (a2)))], [.inl (.long (a1))], ax_m (s) ρ)) rfl ⟨trivial, trivial, trivial⟩ ?_
    cases h
    exact ax_lret hA d_Math_max_JJ_11
def y_C_add : MethodName := ⟨"CipherNotation$Code", "add", "(IJIII)I"⟩
theorem d_C_add_0 : decode prog_2_method_9_code 0 = .ok (.aload_n 0, 1) := by decide +kernel
theorem d_C_add_1 : decode prog_2_method_9_code 1 = .ok (.dup, 1) := by decide +kernel
theorem d_C_add_2 : decode prog_2_method_9_code 2 = .ok (.getfield (37), 3) := by decide +kernel
theorem d_C_add_5 : decode prog_2_method_9_code 5 = .ok (.dup_x1, 1) := by decide +kernel
theorem d_C_add_6 : decode prog_2_method_9_code 6 = .ok (.iconst 1, 1) := by decide +kernel
theorem d_C_add_7 : decode prog_2_method_9_code 7 = .ok (.iadd, 1) := by decide +kernel
theorem d_C_add_8 : decode prog_2_method_9_code 8 = .ok (.putfield (37), 3) := by decide +kernel
theorem d_C_add_11 : decode prog_2_method_9_code 11 = .ok (.istore (7), 2) := by decide +kernel
theorem d_C_add_13 : decode prog_2_method_9_code 13 = .ok (.aload_n 0, 1) := by decide +kernel
theorem d_C_add_14 : decode prog_2_method_9_code 14 = .ok (.getfield (9), 3) := by decide +kernel
theorem d_C_add_17 : decode prog_2_method_9_code 17 = .ok (.iload (7), 2) := by decide +kernel
theorem d_C_add_19 : decode prog_2_method_9_code 19 = .ok (.iload_n 1, 1) := by decide +kernel
theorem d_C_add_20 : decode prog_2_method_9_code 20 = .ok (.iastore, 1) := by decide +kernel
theorem d_C_add_21 : decode prog_2_method_9_code 21 = .ok (.aload_n 0, 1) := by decide +kernel
theorem d_C_add_22 : decode prog_2_method_9_code 22 = .ok (.getfield (15), 3) := by decide +kernel
theorem d_C_add_25 : decode prog_2_method_9_code 25 = .ok (.iload (7), 2) := by decide +kernel
theorem d_C_add_27 : decode prog_2_method_9_code 27 = .ok (.lload_n 2, 1) := by decide +kernel
theorem d_C_add_28 : decode prog_2_method_9_code 28 = .ok (.lastore, 1) := by decide +kernel
theorem d_C_add_29 : decode prog_2_method_9_code 29 = .ok (.aload_n 0, 1) := by decide +kernel
theorem d_C_add_30 : decode prog_2_method_9_code 30 = .ok (.getfield (19), 3) := by decide +kernel
theorem d_C_add_33 : decode prog_2_method_9_code 33 = .ok (.iload (7), 2) := by decide +kernel
theorem d_C_add_35 : decode prog_2_method_9_code 35 = .ok (.lconst 0, 1) := by decide +kernel
theorem d_C_add_36 : decode prog_2_method_9_code 36 = .ok (.lastore, 1) := by decide +kernel
theorem d_C_add_37 : decode prog_2_method_9_code 37 = .ok (.aload_n 0, 1) := by decide +kernel
theorem d_C_add_38 : decode prog_2_method_9_code 38 = .ok (.getfield (22), 3) := by decide +kernel
theorem d_C_add_41 : decode prog_2_method_9_code 41 = .ok (.iload (7), 2) := by decide +kernel
theorem d_C_add_43 : decode prog_2_method_9_code 43 = .ok (.lconst 0, 1) := by decide +kernel
theorem d_C_add_44 : decode prog_2_method_9_code 44 = .ok (.lastore, 1) := by decide +kernel
theorem d_C_add_45 : decode prog_2_method_9_code 45 = .ok (.aload_n 0, 1) := by decide +kernel
theorem d_C_add_46 : decode prog_2_method_9_code 46 = .ok (.getfield (25), 3) := by decide +kernel
theorem d_C_add_49 : decode prog_2_method_9_code 49 = .ok (.iload (7), 2) := by decide +kernel
theorem d_C_add_51 : decode prog_2_method_9_code 51 = .ok (.iconst (-1), 1) := by decide +kernel
theorem d_C_add_52 : decode prog_2_method_9_code 52 = .ok (.iastore, 1) := by decide +kernel
theorem d_C_add_53 : decode prog_2_method_9_code 53 = .ok (.aload_n 0, 1) := by decide +kernel
theorem d_C_add_54 : decode prog_2_method_9_code 54 = .ok (.getfield (28), 3) := by decide +kernel
theorem d_C_add_57 : decode prog_2_method_9_code 57 = .ok (.iload (7), 2) := by decide +kernel
theorem d_C_add_59 : decode prog_2_method_9_code 59 = .ok (.iload (4), 2) := by decide +kernel
theorem d_C_add_61 : decode prog_2_method_9_code 61 = .ok (.iastore, 1) := by decide +kernel
theorem d_C_add_62 : decode prog_2_method_9_code 62 = .ok (.aload_n 0, 1) := by decide +kernel
theorem d_C_add_63 : decode prog_2_method_9_code 63 = .ok (.getfield (31), 3) := by decide +kernel
theorem d_C_add_66 : decode prog_2_method_9_code 66 = .ok (.iload (7), 2) := by decide +kernel
theorem d_C_add_68 : decode prog_2_method_9_code 68 = .ok (.iload (5), 2) := by decide +kernel
theorem d_C_add_70 : decode prog_2_method_9_code 70 = .ok (.iastore, 1) := by decide +kernel
theorem d_C_add_71 : decode prog_2_method_9_code 71 = .ok (.aload_n 0, 1) := by decide +kernel
theorem d_C_add_72 : decode prog_2_method_9_code 72 = .ok (.getfield (34), 3) := by decide +kernel
theorem d_C_add_75 : decode prog_2_method_9_code 75 = .ok (.iload (7), 2) := by decide +kernel
theorem d_C_add_77 : decode prog_2_method_9_code 77 = .ok (.iload (6), 2) := by decide +kernel
theorem d_C_add_79 : decode prog_2_method_9_code 79 = .ok (.iastore, 1) := by decide +kernel
theorem d_C_add_80 : decode prog_2_method_9_code 80 = .ok (.iload (7), 2) := by decide +kernel
theorem d_C_add_82 : decode prog_2_method_9_code 82 = .ok (.ireturn, 1) := by decide +kernel
theorem fd_C_37 : ax_fd "CipherNotation$Code" 37 0 8 := ⟨nC0, nT0, 9, nY0, rfl, nW0, by decide, nw_1 152 (by decide +kernel) rfl, nO0, nA0⟩
theorem fp_C_37 : ax_fp "CipherNotation$Code" 37 0 8 (.int) := ⟨nC0, nT0, 9, nY0, rfl, nW0, by decide, nw_1 152 (by decide +kernel) rfl, nO0, nA0, by decide +kernel, by decide +kernel⟩
theorem fd_C_9 : ax_fd "CipherNotation$Code" 9 0 0 := ⟨nC0, nT0, 9, nY0, rfl, nW0, by decide, nw_1 134 (by decide +kernel) rfl, nO0, nA0⟩
theorem fd_C_15 : ax_fd "CipherNotation$Code" 15 0 1 := ⟨nC0, nT0, 9, nY0, rfl, nW0, by decide, nw_1 137 (by decide +kernel) rfl, nO0, nA0⟩
theorem fd_C_19 : ax_fd "CipherNotation$Code" 19 0 2 := ⟨nC0, nT0, 9, nY0, rfl, nW0, by decide, nw_1 140 (by decide +kernel) rfl, nO0, nA0⟩
theorem fd_C_22 : ax_fd "CipherNotation$Code" 22 0 3 := ⟨nC0, nT0, 9, nY0, rfl, nW0, by decide, nw_1 142 (by decide +kernel) rfl, nO0, nA0⟩
theorem fd_C_25 : ax_fd "CipherNotation$Code" 25 0 4 := ⟨nC0, nT0, 9, nY0, rfl, nW0, by decide, nw_1 144 (by decide +kernel) rfl, nO0, nA0⟩
theorem fd_C_28 : ax_fd "CipherNotation$Code" 28 0 5 := ⟨nC0, nT0, 9, nY0, rfl, nW0, by decide, nw_1 146 (by decide +kernel) rfl, nO0, nA0⟩
theorem fd_C_31 : ax_fd "CipherNotation$Code" 31 0 6 := ⟨nC0, nT0, 9, nY0, rfl, nW0, by decide, nw_1 148 (by decide +kernel) rfl, nO0, nA0⟩
theorem fd_C_34 : ax_fd "CipherNotation$Code" 34 0 7 := ⟨nC0, nT0, 9, nY0, rfl, nW0, by decide, nw_1 150 (by decide +kernel) rfl, nO0, nA0⟩
def f_C_add (g : Nat) (a1 : Int32) (a2 : Int64) (a3 : Int32) (a4 : Int32) (a5 : Int32) (s : ax_σ) : Option (Int32 × ax_σ) :=
  ax_let (ax_wI s g 4 8 ((s.1 g 4 8) + (1 : Int32))) (fun s1 =>
    bif ax_in (s.1 g 4 8) 240 then
    ax_let (ax_wI s1 g 5 ((s.1 g 4 8)).toNatClampNeg a1) (fun s3 =>
      bif ax_in (s.1 g 4 8) 240 then
      ax_let (ax_wL s3 g 6 ((s.1 g 4 8)).toNatClampNeg a2) (fun s5 =>
        bif ax_in (s.1 g 4 8) 240 then
        ax_let (ax_wL s5 g 7 ((s.1 g 4 8)).toNatClampNeg (0 : Int64)) (fun s7 =>
          bif ax_in (s.1 g 4 8) 240 then
          ax_let (ax_wL s7 g 8 ((s.1 g 4 8)).toNatClampNeg (0 : Int64)) (fun s9 =>
            bif ax_in (s.1 g 4 8) 240 then
            ax_let (ax_wI s9 g 9 ((s.1 g 4 8)).toNatClampNeg (-1 : Int32)) (fun s11 =>
              bif ax_in (s.1 g 4 8) 240 then
              ax_let (ax_wI s11 g 10 ((s.1 g 4 8)).toNatClampNeg a3) (fun s13 =>
                bif ax_in (s.1 g 4 8) 240 then
                ax_let (ax_wI s13 g 11 ((s.1 g 4 8)).toNatClampNeg a4) (fun s15 =>
                  bif ax_in (s.1 g 4 8) 240 then
                  ax_let (ax_wI s15 g 12 ((s.1 g 4 8)).toNatClampNeg a5) (fun s17 =>
                    some (((s.1 g 4 8), s17)))
                  else none)
                else none)
              else none)
            else none)
          else none)
        else none)
      else none)
    else none)
set_option maxHeartbeats 4000000 in
set_option maxRecDepth 100000 in
theorem t_C_add {l : Launch} {D : va_G} {cA : Nat → ClassId} {ad : Nat → Nat → Nat} {al : List (Nat × Nat)} {θ : ax_Θ} {ρ : ax_ρ} {g : Nat} (hg : ax_Mg al g) {a1 : Int32} {a2 : Int64} {a3 : Int32} {a4 : Int32} {a5 : Int32} {s : ax_σ} {r0 : Int32} {s0 : ax_σ} (h : f_C_add g a1 a2 a3 a4 a5 s = some (r0, s0)) : ax_T l D cA ad al θ y_C_add (.code y_C_add prog_2_method_9_code 8 (some .int)) 0 [.inr (g, 4), .inl (.int (a1)), .inl (.long (a2)), .inl (.int (a3)), .inl (.int (a4)), .inl (.int (a5))] (ax_m s ρ) (some (.inl (.int r0))) (ax_m s0 ρ) := by
  refine ax_T_of (own := "CipherNotation$Code") (by decide) rfl (Nat.le_of_ble_eq_true rfl) [(0, .inr (g, 4)), (1, .inl (.int (a1))), (2, .inl (.long (a2))), (4, .inl (.int (a3))), (5, .inl (.int (a4))), (6, .inl (.int (a5)))] rfl ?_
  intro G hA
  have hB := hA.B
  have hK := hB.K
  have hal := hB.la
  unfold f_C_add at h
  refine ax_bk hK (ax_fc (ax_v_ld (ax_r_aload_n (i := 0) d_C_add_0 rfl)) (ax_fc (ax_v_pu (ax_r_dup d_C_add_1)) (ax_fc (ax_w_gf (e := none) hal d_C_add_2 fd_C_37) (ax_fc (ax_v_pu (ax_r_dupx1 d_C_add_5)) (ax_fc (ax_v_pu (ax_r_iconst (v := 1) d_C_add_6 (by decide))) (ax_fc (ax_v_pu (ax_r_iadd d_C_add_7)) (ax_fc (ax_w_pf (tc := 0) hal d_C_add_8 fp_C_37 rfl) ax_fn))))))) (y := (11, [(0, .inr (g, 4)), (1, .inl (.int (a1))), (2, .inl (.long (a2))), (4, .inl (.int (a3))), (5, .inl (.int (a4))), (6, .inl (.int (a5)))], [.inl (.int ((s.1 g 4 8)))], ax_m (ax_wI s g 4 8 ((s.1 g 4 8) + (1 : Int32))) ρ)) rfl ⟨trivial, trivial, (hg 4 rfl), trivial, trivial, trivial, (hg 4 rfl), trivial⟩ ?_
  refine ax_lt (Q := fun ςς => ax_R G 8 0 0 (11, [(0, .inr (g, 4)), (1, .inl (.int (a1))), (2, .inl (.long (a2))), (4, .inl (.int (a3))), (5, .inl (.int (a4))), (6, .inl (.int (a5)))], [.inl (.int ((s.1 g 4 8)))], ax_m (ςς) ρ)) h (fun s1 h => ?_)
  obtain ⟨b2, h⟩ := ax_gd h
  refine ax_bk hK (ax_fc (ax_v_so (ax_r_istore d_C_add_11)) (ax_fc (ax_v_ld (ax_r_aload_n (i := 0) d_C_add_13 rfl)) (ax_fc (ax_w_gf (e := none) hal d_C_add_14 fd_C_9) (ax_fc (ax_v_ld (ax_r_iload d_C_add_17)) (ax_fc (ax_v_ld (ax_r_iload_n (i := 1) d_C_add_19 rfl)) (ax_fc (ax_w_iast hal d_C_add_20) ax_fn)))))) (y := (21, [(7, .inl (.int ((s.1 g 4 8)))), (0, .inr (g, 4)), (1, .inl (.int (a1))), (2, .inl (.long (a2))), (4, .inl (.int (a3))), (5, .inl (.int (a4))), (6, .inl (.int (a5)))], [], ax_m (ax_wI s1 g 5 ((s.1 g 4 8)).toNatClampNeg a1) ρ)) rfl ⟨trivial, trivial, (hg 4 rfl), trivial, trivial, ⟨(hg 5 rfl), ax_inp b2⟩, trivial⟩ ?_
  refine ax_lt (Q := fun ςς => ax_R G 8 0 0 (21, [(7, .inl (.int ((s.1 g 4 8)))), (0, .inr (g, 4)), (1, .inl (.int (a1))), (2, .inl (.long (a2))), (4, .inl (.int (a3))), (5, .inl (.int (a4))), (6, .inl (.int (a5)))], [], ax_m (ςς) ρ)) h (fun s3 h => ?_)
  obtain ⟨b4, h⟩ := ax_gd h
  refine ax_bk hK (ax_fc (ax_v_ld (ax_r_aload_n (i := 0) d_C_add_21 rfl)) (ax_fc (ax_w_gf (e := none) hal d_C_add_22 fd_C_15) (ax_fc (ax_v_ld (ax_r_iload d_C_add_25)) (ax_fc (ax_v_ld (ax_r_lload_n (i := 2) d_C_add_27 rfl)) (ax_fc (ax_w_last hal d_C_add_28) ax_fn))))) (y := (29, [(7, .inl (.int ((s.1 g 4 8)))), (0, .inr (g, 4)), (1, .inl (.int (a1))), (2, .inl (.long (a2))), (4, .inl (.int (a3))), (5, .inl (.int (a4))), (6, .inl (.int (a5)))], [], ax_m (ax_wL s3 g 6 ((s.1 g 4 8)).toNatClampNeg a2) ρ)) rfl ⟨trivial, (hg 4 rfl), trivial, trivial, ⟨(hg 6 rfl), ax_inp b4⟩, trivial⟩ ?_
  refine ax_lt (Q := fun ςς => ax_R G 8 0 0 (29, [(7, .inl (.int ((s.1 g 4 8)))), (0, .inr (g, 4)), (1, .inl (.int (a1))), (2, .inl (.long (a2))), (4, .inl (.int (a3))), (5, .inl (.int (a4))), (6, .inl (.int (a5)))], [], ax_m (ςς) ρ)) h (fun s5 h => ?_)
  obtain ⟨b6, h⟩ := ax_gd h
  refine ax_bk hK (ax_fc (ax_v_ld (ax_r_aload_n (i := 0) d_C_add_29 rfl)) (ax_fc (ax_w_gf (e := none) hal d_C_add_30 fd_C_19) (ax_fc (ax_v_ld (ax_r_iload d_C_add_33)) (ax_fc (ax_v_pu (ax_r_lconst (v := 0) d_C_add_35 (by decide))) (ax_fc (ax_w_last hal d_C_add_36) ax_fn))))) (y := (37, [(7, .inl (.int ((s.1 g 4 8)))), (0, .inr (g, 4)), (1, .inl (.int (a1))), (2, .inl (.long (a2))), (4, .inl (.int (a3))), (5, .inl (.int (a4))), (6, .inl (.int (a5)))], [], ax_m (ax_wL s5 g 7 ((s.1 g 4 8)).toNatClampNeg (0 : Int64)) ρ)) rfl ⟨trivial, (hg 4 rfl), trivial, trivial, ⟨(hg 7 rfl), ax_inp b6⟩, trivial⟩ ?_
  refine ax_lt (Q := fun ςς => ax_R G 8 0 0 (37, [(7, .inl (.int ((s.1 g 4 8)))), (0, .inr (g, 4)), (1, .inl (.int (a1))), (2, .inl (.long (a2))), (4, .inl (.int (a3))), (5, .inl (.int (a4))), (6, .inl (.int (a5)))], [], ax_m (ςς) ρ)) h (fun s7 h => ?_)
  obtain ⟨b8, h⟩ := ax_gd h
  refine ax_bk hK (ax_fc (ax_v_ld (ax_r_aload_n (i := 0) d_C_add_37 rfl)) (ax_fc (ax_w_gf (e := none) hal d_C_add_38 fd_C_22) (ax_fc (ax_v_ld (ax_r_iload d_C_add_41)) (ax_fc (ax_v_pu (ax_r_lconst (v := 0) d_C_add_43 (by decide))) (ax_fc (ax_w_last hal d_C_add_44) ax_fn))))) (y := (45, [(7, .inl (.int ((s.1 g 4 8)))), (0, .inr (g, 4)), (1, .inl (.int (a1))), (2, .inl (.long (a2))), (4, .inl (.int (a3))), (5, .inl (.int (a4))), (6, .inl (.int (a5)))], [], ax_m (ax_wL s7 g 8 ((s.1 g 4 8)).toNatClampNeg (0 : Int64)) ρ)) rfl ⟨trivial, (hg 4 rfl), trivial, trivial, ⟨(hg 8 rfl), ax_inp b8⟩, trivial⟩ ?_
  refine ax_lt (Q := fun ςς => ax_R G 8 0 0 (45, [(7, .inl (.int ((s.1 g 4 8)))), (0, .inr (g, 4)), (1, .inl (.int (a1))), (2, .inl (.long (a2))), (4, .inl (.int (a3))), (5, .inl (.int (a4))), (6, .inl (.int (a5)))], [], ax_m (ςς) ρ)) h (fun s9 h => ?_)
  obtain ⟨b10, h⟩ := ax_gd h
  refine ax_bk hK (ax_fc (ax_v_ld (ax_r_aload_n (i := 0) d_C_add_45 rfl)) (ax_fc (ax_w_gf (e := none) hal d_C_add_46 fd_C_25) (ax_fc (ax_v_ld (ax_r_iload d_C_add_49)) (ax_fc (ax_v_pu (ax_r_iconst (v := -1) d_C_add_51 (by decide))) (ax_fc (ax_w_iast hal d_C_add_52) ax_fn))))) (y := (53, [(7, .inl (.int ((s.1 g 4 8)))), (0, .inr (g, 4)), (1, .inl (.int (a1))), (2, .inl (.long (a2))), (4, .inl (.int (a3))), (5, .inl (.int (a4))), (6, .inl (.int (a5)))], [], ax_m (ax_wI s9 g 9 ((s.1 g 4 8)).toNatClampNeg (-1 : Int32)) ρ)) rfl ⟨trivial, (hg 4 rfl), trivial, trivial, ⟨(hg 9 rfl), ax_inp b10⟩, trivial⟩ ?_
  refine ax_lt (Q := fun ςς => ax_R G 8 0 0 (53, [(7, .inl (.int ((s.1 g 4 8)))), (0, .inr (g, 4)), (1, .inl (.int (a1))), (2, .inl (.long (a2))), (4, .inl (.int (a3))), (5, .inl (.int (a4))), (6, .inl (.int (a5)))], [], ax_m (ςς) ρ)) h (fun s11 h => ?_)
  obtain ⟨b12, h⟩ := ax_gd h
  refine ax_bk hK (ax_fc (ax_v_ld (ax_r_aload_n (i := 0) d_C_add_53 rfl)) (ax_fc (ax_w_gf (e := none) hal d_C_add_54 fd_C_28) (ax_fc (ax_v_ld (ax_r_iload d_C_add_57)) (ax_fc (ax_v_ld (ax_r_iload d_C_add_59)) (ax_fc (ax_w_iast hal d_C_add_61) ax_fn))))) (y := (62, [(7, .inl (.int ((s.1 g 4 8)))), (0, .inr (g, 4)), (1, .inl (.int (a1))), (2, .inl (.long (a2))), (4, .inl (.int (a3))), (5, .inl (.int (a4))), (6, .inl (.int (a5)))], [], ax_m (ax_wI s11 g 10 ((s.1 g 4 8)).toNatClampNeg a3) ρ)) rfl ⟨trivial, (hg 4 rfl), trivial, trivial, ⟨(hg 10 rfl), ax_inp b12⟩, trivial⟩ ?_
  refine ax_lt (Q := fun ςς => ax_R G 8 0 0 (62, [(7, .inl (.int ((s.1 g 4 8)))), (0, .inr (g, 4)), (1, .inl (.int (a1))), (2, .inl (.long (a2))), (4, .inl (.int (a3))), (5, .inl (.int (a4))), (6, .inl (.int (a5)))], [], ax_m (ςς) ρ)) h (fun s13 h => ?_)
  obtain ⟨b14, h⟩ := ax_gd h
  refine ax_bk hK (ax_fc (ax_v_ld (ax_r_aload_n (i := 0) d_C_add_62 rfl)) (ax_fc (ax_w_gf (e := none) hal d_C_add_63 fd_C_31) (ax_fc (ax_v_ld (ax_r_iload d_C_add_66)) (ax_fc (ax_v_ld (ax_r_iload d_C_add_68)) (ax_fc (ax_w_iast hal d_C_add_70) ax_fn))))) (y := (71, [(7, .inl (.int ((s.1 g 4 8)))), (0, .inr (g, 4)), (1, .inl (.int (a1))), (2, .inl (.long (a2))), (4, .inl (.int (a3))), (5, .inl (.int (a4))), (6, .inl (.int (a5)))], [], ax_m (ax_wI s13 g 11 ((s.1 g 4 8)).toNatClampNeg a4) ρ)) rfl ⟨trivial, (hg 4 rfl), trivial, trivial, ⟨(hg 11 rfl), ax_inp b14⟩, trivial⟩ ?_
  refine ax_lt (Q := fun ςς => ax_R G 8 0 0 (71, [(7, .inl (.int ((s.1 g 4 8)))), (0, .inr (g, 4)), (1, .inl (.int (a1))), (2, .inl (.long (a2))), (4, .inl (.int (a3))), (5, .inl (.int (a4))), (6, .inl (.int (a5)))], [], ax_m (ςς) ρ)) h (fun s15 h => ?_)
  obtain ⟨b16, h⟩ := ax_gd h
  refine ax_bk hK (ax_fc (ax_v_ld (ax_r_aload_n (i := 0) d_C_add_71 rfl)) (ax_fc (ax_w_gf (e := none) hal d_C_add_72 fd_C_34) (ax_fc (ax_v_ld (ax_r_iload d_C_add_75)) (ax_fc (ax_v_ld (ax_r_iload d_C_add_77)) (ax_fc (ax_w_iast hal d_C_add_79) ax_fn))))) (y := (80, [(7, .inl (.int ((s.1 g 4 8)))), (0, .inr (g, 4)), (1, .inl (.int (a1))), (2, .inl (.long (a2))), (4, .inl (.int (a3))), (5, .inl (.int (a4))), (6, .inl (.int (a5)))], [], ax_m (ax_wI s15 g 12 ((s.1 g 4 8)).toNatClampNeg a5) ρ)) rfl ⟨trivial, (hg 4 rfl), trivial, trivial, ⟨(hg 12 rfl), ax_inp b16⟩, trivial⟩ ?_
  refine ax_lt (Q := fun ςς => ax_R G 8 0 0 (80, [(7, .inl (.int ((s.1 g 4 8)))), (0, .inr (g, 4)), (1, .inl (.int (a1))), (2, .inl (.long (a2))), (4, .inl (.int (a3))), (5, .inl (.int (a4))), (6, .inl (.int (a5)))], [], ax_m (ςς) ρ)) h (fun s17 h => ?_)
  refine ax_bk hK (ax_fc (ax_v_ld (ax_r_iload d_C_add_80)) ax_fn) (y := (82, [(7, .inl (.int ((s.1 g 4 8)))), (0, .inr (g, 4)), (1, .inl (.int (a1))), (2, .inl (.long (a2))), (4, .inl (.int (a3))), (5, .inl (.int (a4))), (6, .inl (.int (a5)))], [.inl (.int ((s.1 g 4 8)))], ax_m (s17) ρ)) rfl ⟨trivial, trivial⟩ ?_
  cases h
  exact ax_iret hA d_C_add_82
def y_C_addConstant : MethodName := ⟨"CipherNotation$Code", "addConstant", "(J)I"⟩
theorem d_C_addConstant_0 : decode prog_2_method_2_code 0 = .ok (.aload_n 0, 1) := by decide +kernel
theorem d_C_addConstant_1 : decode prog_2_method_2_code 1 = .ok (.bipush (110), 2) := by decide +kernel
theorem d_C_addConstant_3 : decode prog_2_method_2_code 3 = .ok (.lload_n 1, 1) := by decide +kernel
theorem d_C_addConstant_4 : decode prog_2_method_2_code 4 = .ok (.iconst 0, 1) := by decide +kernel
theorem d_C_addConstant_5 : decode prog_2_method_2_code 5 = .ok (.iconst 1, 1) := by decide +kernel
theorem d_C_addConstant_6 : decode prog_2_method_2_code 6 = .ok (.iconst 1, 1) := by decide +kernel
theorem d_C_addConstant_7 : decode prog_2_method_2_code 7 = .ok (.invokevirtual (41), 3) := by decide +kernel
theorem d_C_addConstant_10 : decode prog_2_method_2_code 10 = .ok (.ireturn, 1) := by decide +kernel
set_option maxRecDepth 100000 in
theorem cw_C_41 : ax_cw "CipherNotation$Code" 41 y_C_add (.code y_C_add prog_2_method_9_code 8 (some .int)) 5 := ⟨nw_2 231 (by decide +kernel) rfl, nw_1 5 (by decide +kernel) rfl, nw_2 234 rfl rfl, by decide +kernel, by decide +kernel⟩
theorem im_C_add : Cond.instanceMethod y_C_add ∈ ax_tbl := nw_2 233 (by decide +kernel) rfl
theorem se_C_add : Cond.selects y_C_add.cls y_C_add y_C_add ∈ ax_tbl := nw_sel 14 (by decide +kernel) (by decide +kernel)
def f_C_addConstant (g : Nat) (a1 : Int64) (s : ax_σ) : Option (Int32 × ax_σ) :=
  Option.bind (f_C_add g (110 : Int32) a1 (0 : Int32) (1 : Int32) (1 : Int32) s) (fun (r1, s2) =>
    some ((r1, s2)))
set_option maxHeartbeats 4000000 in
set_option maxRecDepth 100000 in
theorem t_C_addConstant {l : Launch} {D : va_G} {cA : Nat → ClassId} {ad : Nat → Nat → Nat} {al : List (Nat × Nat)} {θ : ax_Θ} {ρ : ax_ρ} {g : Nat} (hg : ax_Mg al g) {a1 : Int64} {s : ax_σ} {r0 : Int32} {s0 : ax_σ} (h : f_C_addConstant g a1 s = some (r0, s0)) : ax_T l D cA ad al θ y_C_addConstant (.code y_C_addConstant prog_2_method_2_code 3 (some .int)) 1 [.inr (g, 4), .inl (.long (a1))] (ax_m s ρ) (some (.inl (.int r0))) (ax_m s0 ρ) := by
  refine ax_T_of (own := "CipherNotation$Code") (by decide) rfl (Nat.le_of_ble_eq_true rfl) [(0, .inr (g, 4)), (1, .inl (.long (a1)))] rfl ?_
  intro G hA
  have hB := hA.B
  have hK := hB.K
  have hal := hB.la
  unfold f_C_addConstant at h
  refine ax_bk hK (ax_fc (ax_v_ld (ax_r_aload_n (i := 0) d_C_addConstant_0 rfl)) (ax_fc (ax_v_pu (ax_r_bipush (v := 110) d_C_addConstant_1 (by decide))) (ax_fc (ax_v_ld (ax_r_lload_n (i := 1) d_C_addConstant_3 rfl)) (ax_fc (ax_v_pu (ax_r_iconst (v := 0) d_C_addConstant_4 (by decide))) (ax_fc (ax_v_pu (ax_r_iconst (v := 1) d_C_addConstant_5 (by decide))) (ax_fc (ax_v_pu (ax_r_iconst (v := 1) d_C_addConstant_6 (by decide))) ax_fn)))))) (y := (7, [(0, .inr (g, 4)), (1, .inl (.long (a1)))], [.inl (.int ((1 : Int32))), .inl (.int ((1 : Int32))), .inl (.int ((0 : Int32))), .inl (.long (a1)), .inl (.int ((110 : Int32))), .inr (g, 4)], ax_m (s) ρ)) rfl ⟨trivial, trivial, trivial, trivial, trivial, trivial, trivial⟩ ?_
  obtain ⟨⟨r1, s2⟩, q3, h⟩ := ax_bd h
  dsimp only at h
  refine ax_bV (rest := []) hB (t_C_add hg q3) cw_C_41 im_C_add se_C_add d_C_addConstant_7 (hg 4 rfl) rfl rfl (by decide) (by decide) rfl rfl (Nat.le_of_ble_eq_true rfl) ?_
  change ax_R G 3 0 0 (10, [(0, .inr (g, 4)), (1, .inl (.long (a1)))], [.inl (.int (r1))], ax_m (s2) ρ)
  cases h
  exact ax_iret hA d_C_addConstant_10
def y_C_addState : MethodName := ⟨"CipherNotation$Code", "addState", "(I)I"⟩
theorem d_C_addState_0 : decode prog_2_method_3_code 0 = .ok (.aload_n 0, 1) := by decide +kernel
theorem d_C_addState_1 : decode prog_2_method_3_code 1 = .ok (.bipush (65), 2) := by decide +kernel
theorem d_C_addState_3 : decode prog_2_method_3_code 3 = .ok (.iload_n 1, 1) := by decide +kernel
theorem d_C_addState_4 : decode prog_2_method_3_code 4 = .ok (.i2l, 1) := by decide +kernel
theorem d_C_addState_5 : decode prog_2_method_3_code 5 = .ok (.iconst 1, 1) := by decide +kernel
theorem d_C_addState_6 : decode prog_2_method_3_code 6 = .ok (.iload_n 1, 1) := by decide +kernel
theorem d_C_addState_7 : decode prog_2_method_3_code 7 = .ok (.ishl, 1) := by decide +kernel
theorem d_C_addState_8 : decode prog_2_method_3_code 8 = .ok (.iconst 0, 1) := by decide +kernel
theorem d_C_addState_9 : decode prog_2_method_3_code 9 = .ok (.iconst 0, 1) := by decide +kernel
theorem d_C_addState_10 : decode prog_2_method_3_code 10 = .ok (.invokevirtual (41), 3) := by decide +kernel
theorem d_C_addState_13 : decode prog_2_method_3_code 13 = .ok (.ireturn, 1) := by decide +kernel
def f_C_addState (g : Nat) (a1 : Int32) (s : ax_σ) : Option (Int32 × ax_σ) :=
  Option.bind (f_C_add g (65 : Int32) ((a1).toInt64) ((1 : Int32) <<< (a1 &&& 31)) (0 : Int32) (0 : Int32) s) (fun (r1, s2) =>
    some ((r1, s2)))
set_option maxHeartbeats 4000000 in
set_option maxRecDepth 100000 in
theorem t_C_addState {l : Launch} {D : va_G} {cA : Nat → ClassId} {ad : Nat → Nat → Nat} {al : List (Nat × Nat)} {θ : ax_Θ} {ρ : ax_ρ} {g : Nat} (hg : ax_Mg al g) {a1 : Int32} {s : ax_σ} {r0 : Int32} {s0 : ax_σ} (h : f_C_addState g a1 s = some (r0, s0)) : ax_T l D cA ad al θ y_C_addState (.code y_C_addState prog_2_method_3_code 2 (some .int)) 1 [.inr (g, 4), .inl (.int (a1))] (ax_m s ρ) (some (.inl (.int r0))) (ax_m s0 ρ) := by
  refine ax_T_of (own := "CipherNotation$Code") (by decide) rfl (Nat.le_of_ble_eq_true rfl) [(0, .inr (g, 4)), (1, .inl (.int (a1)))] rfl ?_
  intro G hA
  have hB := hA.B
  have hK := hB.K
  have hal := hB.la
  unfold f_C_addState at h
  refine ax_bk hK (ax_fc (ax_v_ld (ax_r_aload_n (i := 0) d_C_addState_0 rfl)) (ax_fc (ax_v_pu (ax_r_bipush (v := 65) d_C_addState_1 (by decide))) (ax_fc (ax_v_ld (ax_r_iload_n (i := 1) d_C_addState_3 rfl)) (ax_fc (ax_v_pu (ax_r_i2l d_C_addState_4)) (ax_fc (ax_v_pu (ax_r_iconst (v := 1) d_C_addState_5 (by decide))) (ax_fc (ax_v_ld (ax_r_iload_n (i := 1) d_C_addState_6 rfl)) (ax_fc (ax_v_pu (ax_r_ishl d_C_addState_7)) (ax_fc (ax_v_pu (ax_r_iconst (v := 0) d_C_addState_8 (by decide))) (ax_fc (ax_v_pu (ax_r_iconst (v := 0) d_C_addState_9 (by decide))) ax_fn))))))))) (y := (10, [(0, .inr (g, 4)), (1, .inl (.int (a1)))], [.inl (.int ((0 : Int32))), .inl (.int ((0 : Int32))), .inl (.int (((1 : Int32) <<< (a1 &&& 31)))), .inl (.long ((a1).toInt64)), .inl (.int ((65 : Int32))), .inr (g, 4)], ax_m (s) ρ)) rfl ⟨trivial, trivial, trivial, trivial, trivial, trivial, trivial, trivial, trivial, trivial⟩ ?_
  obtain ⟨⟨r1, s2⟩, q3, h⟩ := ax_bd h
  dsimp only at h
  refine ax_bV (rest := []) hB (t_C_add hg q3) cw_C_41 im_C_add se_C_add d_C_addState_10 (hg 4 rfl) rfl rfl (by decide) (by decide) rfl rfl (Nat.le_of_ble_eq_true rfl) ?_
  change ax_R G 2 0 0 (13, [(0, .inr (g, 4)), (1, .inl (.int (a1)))], [.inl (.int (r1))], ax_m (s2) ρ)
  cases h
  exact ax_iret hA d_C_addState_13
def y_C_addIndexed : MethodName := ⟨"CipherNotation$Code", "addIndexed", "(II)I"⟩
theorem d_C_addIndexed_0 : decode prog_2_method_4_code 0 = .ok (.aload_n 0, 1) := by decide +kernel
theorem d_C_addIndexed_1 : decode prog_2_method_4_code 1 = .ok (.iload_n 1, 1) := by decide +kernel
theorem d_C_addIndexed_2 : decode prog_2_method_4_code 2 = .ok (.lconst 0, 1) := by decide +kernel
theorem d_C_addIndexed_3 : decode prog_2_method_4_code 3 = .ok (.bipush (16), 2) := by decide +kernel
theorem d_C_addIndexed_5 : decode prog_2_method_4_code 5 = .ok (.iconst 1, 1) := by decide +kernel
theorem d_C_addIndexed_6 : decode prog_2_method_4_code 6 = .ok (.iconst 1, 1) := by decide +kernel
theorem d_C_addIndexed_7 : decode prog_2_method_4_code 7 = .ok (.invokevirtual (41), 3) := by decide +kernel
theorem d_C_addIndexed_10 : decode prog_2_method_4_code 10 = .ok (.istore_n 3, 1) := by decide +kernel
theorem d_C_addIndexed_11 : decode prog_2_method_4_code 11 = .ok (.aload_n 0, 1) := by decide +kernel
theorem d_C_addIndexed_12 : decode prog_2_method_4_code 12 = .ok (.getfield (25), 3) := by decide +kernel
theorem d_C_addIndexed_15 : decode prog_2_method_4_code 15 = .ok (.iload_n 3, 1) := by decide +kernel
theorem d_C_addIndexed_16 : decode prog_2_method_4_code 16 = .ok (.iload_n 2, 1) := by decide +kernel
theorem d_C_addIndexed_17 : decode prog_2_method_4_code 17 = .ok (.iastore, 1) := by decide +kernel
theorem d_C_addIndexed_18 : decode prog_2_method_4_code 18 = .ok (.iload_n 3, 1) := by decide +kernel
theorem d_C_addIndexed_19 : decode prog_2_method_4_code 19 = .ok (.ireturn, 1) := by decide +kernel
def f_C_addIndexed (g : Nat) (a1 : Int32) (a2 : Int32) (s : ax_σ) : Option (Int32 × ax_σ) :=
  Option.bind (f_C_add g a1 (0 : Int64) (16 : Int32) (1 : Int32) (1 : Int32) s) (fun (r1, s2) =>
    bif ax_in r1 240 then
    ax_let (ax_wI s2 g 9 (r1).toNatClampNeg a2) (fun s5 =>
      some ((r1, s5)))
    else none)
set_option maxHeartbeats 4000000 in
set_option maxRecDepth 100000 in
theorem t_C_addIndexed {l : Launch} {D : va_G} {cA : Nat → ClassId} {ad : Nat → Nat → Nat} {al : List (Nat × Nat)} {θ : ax_Θ} {ρ : ax_ρ} {g : Nat} (hg : ax_Mg al g) {a1 : Int32} {a2 : Int32} {s : ax_σ} {r0 : Int32} {s0 : ax_σ} (h : f_C_addIndexed g a1 a2 s = some (r0, s0)) : ax_T l D cA ad al θ y_C_addIndexed (.code y_C_addIndexed prog_2_method_4_code 4 (some .int)) 1 [.inr (g, 4), .inl (.int (a1)), .inl (.int (a2))] (ax_m s ρ) (some (.inl (.int r0))) (ax_m s0 ρ) := by
  refine ax_T_of (own := "CipherNotation$Code") (by decide) rfl (Nat.le_of_ble_eq_true rfl) [(0, .inr (g, 4)), (1, .inl (.int (a1))), (2, .inl (.int (a2)))] rfl ?_
  intro G hA
  have hB := hA.B
  have hK := hB.K
  have hal := hB.la
  unfold f_C_addIndexed at h
  refine ax_bk hK (ax_fc (ax_v_ld (ax_r_aload_n (i := 0) d_C_addIndexed_0 rfl)) (ax_fc (ax_v_ld (ax_r_iload_n (i := 1) d_C_addIndexed_1 rfl)) (ax_fc (ax_v_pu (ax_r_lconst (v := 0) d_C_addIndexed_2 (by decide))) (ax_fc (ax_v_pu (ax_r_bipush (v := 16) d_C_addIndexed_3 (by decide))) (ax_fc (ax_v_pu (ax_r_iconst (v := 1) d_C_addIndexed_5 (by decide))) (ax_fc (ax_v_pu (ax_r_iconst (v := 1) d_C_addIndexed_6 (by decide))) ax_fn)))))) (y := (7, [(0, .inr (g, 4)), (1, .inl (.int (a1))), (2, .inl (.int (a2)))], [.inl (.int ((1 : Int32))), .inl (.int ((1 : Int32))), .inl (.int ((16 : Int32))), .inl (.long ((0 : Int64))), .inl (.int (a1)), .inr (g, 4)], ax_m (s) ρ)) rfl ⟨trivial, trivial, trivial, trivial, trivial, trivial, trivial⟩ ?_
  obtain ⟨⟨r1, s2⟩, q3, h⟩ := ax_bd h
  dsimp only at h
  refine ax_bV (rest := []) hB (t_C_add hg q3) cw_C_41 im_C_add se_C_add d_C_addIndexed_7 (hg 4 rfl) rfl rfl (by decide) (by decide) rfl rfl (Nat.le_of_ble_eq_true rfl) ?_
  change ax_R G 4 0 0 (10, [(0, .inr (g, 4)), (1, .inl (.int (a1))), (2, .inl (.int (a2)))], [.inl (.int (r1))], ax_m (s2) ρ)
  obtain ⟨b4, h⟩ := ax_gd h
  refine ax_bk hK (ax_fc (ax_v_so (ax_r_istore_n (i := 3) d_C_addIndexed_10 rfl)) (ax_fc (ax_v_ld (ax_r_aload_n (i := 0) d_C_addIndexed_11 rfl)) (ax_fc (ax_w_gf (e := none) hal d_C_addIndexed_12 fd_C_25) (ax_fc (ax_v_ld (ax_r_iload_n (i := 3) d_C_addIndexed_15 rfl)) (ax_fc (ax_v_ld (ax_r_iload_n (i := 2) d_C_addIndexed_16 rfl)) (ax_fc (ax_w_iast hal d_C_addIndexed_17) ax_fn)))))) (y := (18, [(3, .inl (.int (r1))), (0, .inr (g, 4)), (1, .inl (.int (a1))), (2, .inl (.int (a2)))], [], ax_m (ax_wI s2 g 9 (r1).toNatClampNeg a2) ρ)) rfl ⟨trivial, trivial, (hg 4 rfl), trivial, trivial, ⟨(hg 9 rfl), ax_inp b4⟩, trivial⟩ ?_
  refine ax_lt (Q := fun ςς => ax_R G 4 0 0 (18, [(3, .inl (.int (r1))), (0, .inr (g, 4)), (1, .inl (.int (a1))), (2, .inl (.int (a2)))], [], ax_m (ςς) ρ)) h (fun s5 h => ?_)
  refine ax_bk hK (ax_fc (ax_v_ld (ax_r_iload_n (i := 3) d_C_addIndexed_18 rfl)) ax_fn) (y := (19, [(3, .inl (.int (r1))), (0, .inr (g, 4)), (1, .inl (.int (a1))), (2, .inl (.int (a2)))], [.inl (.int (r1))], ax_m (s5) ρ)) rfl ⟨trivial, trivial⟩ ?_
  cases h
  exact ax_iret hA d_C_addIndexed_19
def y_C_addOver : MethodName := ⟨"CipherNotation$Code", "addOver", "(III)I"⟩
theorem d_C_addOver_0 : decode prog_2_method_5_code 0 = .ok (.aload_n 0, 1) := by decide +kernel
theorem d_C_addOver_1 : decode prog_2_method_5_code 1 = .ok (.getfield (28), 3) := by decide +kernel
theorem d_C_addOver_4 : decode prog_2_method_5_code 4 = .ok (.iload_n 2, 1) := by decide +kernel
theorem d_C_addOver_5 : decode prog_2_method_5_code 5 = .ok (.iaload, 1) := by decide +kernel
theorem d_C_addOver_6 : decode prog_2_method_5_code 6 = .ok (.ifCond .ne (14), 3) := by decide +kernel
theorem d_C_addOver_9 : decode prog_2_method_5_code 9 = .ok (.aload_n 0, 1) := by decide +kernel
theorem d_C_addOver_10 : decode prog_2_method_5_code 10 = .ok (.iload_n 1, 1) := by decide +kernel
theorem d_C_addOver_11 : decode prog_2_method_5_code 11 = .ok (.iload_n 3, 1) := by decide +kernel
theorem d_C_addOver_12 : decode prog_2_method_5_code 12 = .ok (.i2l, 1) := by decide +kernel
theorem d_C_addOver_13 : decode prog_2_method_5_code 13 = .ok (.iconst 0, 1) := by decide +kernel
theorem d_C_addOver_14 : decode prog_2_method_5_code 14 = .ok (.iconst 1, 1) := by decide +kernel
theorem d_C_addOver_15 : decode prog_2_method_5_code 15 = .ok (.iconst 1, 1) := by decide +kernel
theorem d_C_addOver_16 : decode prog_2_method_5_code 16 = .ok (.invokevirtual (41), 3) := by decide +kernel
theorem d_C_addOver_19 : decode prog_2_method_5_code 19 = .ok (.ireturn, 1) := by decide +kernel
theorem d_C_addOver_20 : decode prog_2_method_5_code 20 = .ok (.aload_n 0, 1) := by decide +kernel
theorem d_C_addOver_21 : decode prog_2_method_5_code 21 = .ok (.iload_n 1, 1) := by decide +kernel
theorem d_C_addOver_22 : decode prog_2_method_5_code 22 = .ok (.iload_n 3, 1) := by decide +kernel
theorem d_C_addOver_23 : decode prog_2_method_5_code 23 = .ok (.i2l, 1) := by decide +kernel
theorem d_C_addOver_24 : decode prog_2_method_5_code 24 = .ok (.aload_n 0, 1) := by decide +kernel
theorem d_C_addOver_25 : decode prog_2_method_5_code 25 = .ok (.getfield (28), 3) := by decide +kernel
theorem d_C_addOver_28 : decode prog_2_method_5_code 28 = .ok (.iload_n 2, 1) := by decide +kernel
theorem d_C_addOver_29 : decode prog_2_method_5_code 29 = .ok (.iaload, 1) := by decide +kernel
theorem d_C_addOver_30 : decode prog_2_method_5_code 30 = .ok (.aload_n 0, 1) := by decide +kernel
theorem d_C_addOver_31 : decode prog_2_method_5_code 31 = .ok (.getfield (31), 3) := by decide +kernel
theorem d_C_addOver_34 : decode prog_2_method_5_code 34 = .ok (.iload_n 2, 1) := by decide +kernel
theorem d_C_addOver_35 : decode prog_2_method_5_code 35 = .ok (.iaload, 1) := by decide +kernel
theorem d_C_addOver_36 : decode prog_2_method_5_code 36 = .ok (.iconst 1, 1) := by decide +kernel
theorem d_C_addOver_37 : decode prog_2_method_5_code 37 = .ok (.iadd, 1) := by decide +kernel
theorem d_C_addOver_38 : decode prog_2_method_5_code 38 = .ok (.iconst 1, 1) := by decide +kernel
theorem d_C_addOver_39 : decode prog_2_method_5_code 39 = .ok (.aload_n 0, 1) := by decide +kernel
theorem d_C_addOver_40 : decode prog_2_method_5_code 40 = .ok (.getfield (34), 3) := by decide +kernel
theorem d_C_addOver_43 : decode prog_2_method_5_code 43 = .ok (.iload_n 2, 1) := by decide +kernel
theorem d_C_addOver_44 : decode prog_2_method_5_code 44 = .ok (.iaload, 1) := by decide +kernel
theorem d_C_addOver_45 : decode prog_2_method_5_code 45 = .ok (.invokestatic (45), 3) := by decide +kernel
theorem d_C_addOver_48 : decode prog_2_method_5_code 48 = .ok (.invokevirtual (41), 3) := by decide +kernel
theorem d_C_addOver_51 : decode prog_2_method_5_code 51 = .ok (.ireturn, 1) := by decide +kernel
set_option maxRecDepth 100000 in
theorem cw_C_45 : ax_cw "CipherNotation$Code" 45 y_Math_max_II (.code y_Math_max_II prog_14_method_65_code 2 (some .int)) 2 := ⟨nw_2 235 (by decide +kernel) rfl, nw_1 8 (by decide +kernel) rfl, nw_2 138 rfl rfl, by decide +kernel, by decide +kernel⟩
theorem sm_Math_max_II : Cond.static y_Math_max_II ∈ ax_tbl := nw_2 137 (by decide +kernel) rfl
def f_C_addOver (g : Nat) (a1 : Int32) (a2 : Int32) (a3 : Int32) (s : ax_σ) : Option (Int32 × ax_σ) :=
  bif ax_in a2 240 then
  if (s.1 g 10 (a2).toNatClampNeg) = (0 : Int32) then
    Option.bind (f_C_add g a1 ((a3).toInt64) (0 : Int32) (1 : Int32) (1 : Int32) s) (fun (r10, s11) =>
      some ((r10, s11)))
  else
    bif ax_in a2 240 then
    bif ax_in a2 240 then
    bif ax_in a2 240 then
    Option.bind (f_Math_max_II (1 : Int32) (s.1 g 12 (a2).toNatClampNeg)) (fun r5 =>
      Option.bind (f_C_add g a1 ((a3).toInt64) (s.1 g 10 (a2).toNatClampNeg) ((s.1 g 11 (a2).toNatClampNeg) + (1 : Int32)) r5 s) (fun (r7, s8) =>
        some ((r7, s8))))
    else none
    else none
    else none
  else none
set_option maxHeartbeats 4000000 in
set_option maxRecDepth 100000 in
theorem t_C_addOver {l : Launch} {D : va_G} {cA : Nat → ClassId} {ad : Nat → Nat → Nat} {al : List (Nat × Nat)} {θ : ax_Θ} {ρ : ax_ρ} {g : Nat} (hg : ax_Mg al g) {a1 : Int32} {a2 : Int32} {a3 : Int32} {s : ax_σ} {r0 : Int32} {s0 : ax_σ} (h : f_C_addOver g a1 a2 a3 s = some (r0, s0)) : ax_T l D cA ad al θ y_C_addOver (.code y_C_addOver prog_2_method_5_code 4 (some .int)) 1 [.inr (g, 4), .inl (.int (a1)), .inl (.int (a2)), .inl (.int (a3))] (ax_m s ρ) (some (.inl (.int r0))) (ax_m s0 ρ) := by
  refine ax_T_of (own := "CipherNotation$Code") (by decide) rfl (Nat.le_of_ble_eq_true rfl) [(0, .inr (g, 4)), (1, .inl (.int (a1))), (2, .inl (.int (a2))), (3, .inl (.int (a3)))] rfl ?_
  intro G hA
  have hB := hA.B
  have hK := hB.K
  have hal := hB.la
  unfold f_C_addOver at h
  obtain ⟨b1, h⟩ := ax_gd h
  refine ax_bk hK (ax_fc (ax_v_ld (ax_r_aload_n (i := 0) d_C_addOver_0 rfl)) (ax_fc (ax_w_gf (e := none) hal d_C_addOver_1 fd_C_28) (ax_fc (ax_v_ld (ax_r_iload_n (i := 2) d_C_addOver_4 rfl)) (ax_fc (ax_w_iald hal d_C_addOver_5) ax_fn)))) (y := (6, [(0, .inr (g, 4)), (1, .inl (.int (a1))), (2, .inl (.int (a2))), (3, .inl (.int (a3)))], [.inl (.int ((s.1 g 10 (a2).toNatClampNeg)))], ax_m (s) ρ)) rfl ⟨trivial, (hg 4 rfl), trivial, ⟨(hg 10 rfl), ax_inp b1⟩, trivial⟩ ?_
  refine ax_if_ne (tgt := 20) hK d_C_addOver_6 (by decide) (fun c13 => ?_) (fun c13 => ?_)
  · replace h := ax_if c13 h
    obtain ⟨b2, h⟩ := ax_gd h
    obtain ⟨b3, h⟩ := ax_gd h
    obtain ⟨b4, h⟩ := ax_gd h
    refine ax_bk hK (ax_fc (ax_v_ld (ax_r_aload_n (i := 0) d_C_addOver_20 rfl)) (ax_fc (ax_v_ld (ax_r_iload_n (i := 1) d_C_addOver_21 rfl)) (ax_fc (ax_v_ld (ax_r_iload_n (i := 3) d_C_addOver_22 rfl)) (ax_fc (ax_v_pu (ax_r_i2l d_C_addOver_23)) (ax_fc (ax_v_ld (ax_r_aload_n (i := 0) d_C_addOver_24 rfl)) (ax_fc (ax_w_gf (e := none) hal d_C_addOver_25 fd_C_28) (ax_fc (ax_v_ld (ax_r_iload_n (i := 2) d_C_addOver_28 rfl)) (ax_fc (ax_w_iald hal d_C_addOver_29) (ax_fc (ax_v_ld (ax_r_aload_n (i := 0) d_C_addOver_30 rfl)) (ax_fc (ax_w_gf (e := none) hal d_C_addOver_31 fd_C_31) (ax_fc (ax_v_ld (ax_r_iload_n (i := 2) d_C_addOver_34 rfl)) (ax_fc (ax_w_iald hal d_C_addOver_35) (ax_fc (ax_v_pu (ax_r_iconst (v := 1) d_C_addOver_36 (by decide))) (ax_fc (ax_v_pu (ax_r_iadd d_C_addOver_37)) (ax_fc (ax_v_pu (ax_r_iconst (v := 1) d_C_addOver_38 (by decide))) (ax_fc (ax_v_ld (ax_r_aload_n (i := 0) d_C_addOver_39 rfl)) (ax_fc (ax_w_gf (e := none) hal d_C_addOver_40 fd_C_34) (ax_fc (ax_v_ld (ax_r_iload_n (i := 2) d_C_addOver_43 rfl)) (ax_fc (ax_w_iald hal d_C_addOver_44) ax_fn))))))))))))))))))) (y := (45, [(0, .inr (g, 4)), (1, .inl (.int (a1))), (2, .inl (.int (a2))), (3, .inl (.int (a3)))], [.inl (.int ((s.1 g 12 (a2).toNatClampNeg))), .inl (.int ((1 : Int32))), .inl (.int (((s.1 g 11 (a2).toNatClampNeg) + (1 : Int32)))), .inl (.int ((s.1 g 10 (a2).toNatClampNeg))), .inl (.long ((a3).toInt64)), .inl (.int (a1)), .inr (g, 4)], ax_m (s) ρ)) rfl ⟨trivial, trivial, trivial, trivial, trivial, (hg 4 rfl), trivial, ⟨(hg 10 rfl), ax_inp b2⟩, trivial, (hg 4 rfl), trivial, ⟨(hg 11 rfl), ax_inp b3⟩, trivial, trivial, trivial, trivial, (hg 4 rfl), trivial, ⟨(hg 12 rfl), ax_inp b4⟩, trivial⟩ ?_
    obtain ⟨r5, q6, h⟩ := ax_bd h
    refine ax_bS (rest := [.inl (.int (((s.1 g 11 (a2).toNatClampNeg) + (1 : Int32)))), .inl (.int ((s.1 g 10 (a2).toNatClampNeg))), .inl (.long ((a3).toInt64)), .inl (.int (a1)), .inr (g, 4)]) hB (t_Math_max_II q6) cw_C_45 sm_Math_max_II d_C_addOver_45 (by decide) (by decide) rfl rfl (Nat.le_of_ble_eq_true rfl) ?_
    change ax_R G 4 0 0 (48, [(0, .inr (g, 4)), (1, .inl (.int (a1))), (2, .inl (.int (a2))), (3, .inl (.int (a3)))], [.inl (.int (r5)), .inl (.int (((s.1 g 11 (a2).toNatClampNeg) + (1 : Int32)))), .inl (.int ((s.1 g 10 (a2).toNatClampNeg))), .inl (.long ((a3).toInt64)), .inl (.int (a1)), .inr (g, 4)], ax_m (s) ρ)
    obtain ⟨⟨r7, s8⟩, q9, h⟩ := ax_bd h
    dsimp only at h
    refine ax_bV (rest := []) hB (t_C_add hg q9) cw_C_41 im_C_add se_C_add d_C_addOver_48 (hg 4 rfl) rfl rfl (by decide) (by decide) rfl rfl (Nat.le_of_ble_eq_true rfl) ?_
    change ax_R G 4 0 0 (51, [(0, .inr (g, 4)), (1, .inl (.int (a1))), (2, .inl (.int (a2))), (3, .inl (.int (a3)))], [.inl (.int (r7))], ax_m (s8) ρ)
    cases h
    exact ax_iret hA d_C_addOver_51
  · replace h := ax_it c13 h
    refine ax_bk hK (ax_fc (ax_v_ld (ax_r_aload_n (i := 0) d_C_addOver_9 rfl)) (ax_fc (ax_v_ld (ax_r_iload_n (i := 1) d_C_addOver_10 rfl)) (ax_fc (ax_v_ld (ax_r_iload_n (i := 3) d_C_addOver_11 rfl)) (ax_fc (ax_v_pu (ax_r_i2l d_C_addOver_12)) (ax_fc (ax_v_pu (ax_r_iconst (v := 0) d_C_addOver_13 (by decide))) (ax_fc (ax_v_pu (ax_r_iconst (v := 1) d_C_addOver_14 (by decide))) (ax_fc (ax_v_pu (ax_r_iconst (v := 1) d_C_addOver_15 (by decide))) ax_fn))))))) (y := (16, [(0, .inr (g, 4)), (1, .inl (.int (a1))), (2, .inl (.int (a2))), (3, .inl (.int (a3)))], [.inl (.int ((1 : Int32))), .inl (.int ((1 : Int32))), .inl (.int ((0 : Int32))), .inl (.long ((a3).toInt64)), .inl (.int (a1)), .inr (g, 4)], ax_m (s) ρ)) rfl ⟨trivial, trivial, trivial, trivial, trivial, trivial, trivial, trivial⟩ ?_
    obtain ⟨⟨r10, s11⟩, q12, h⟩ := ax_bd h
    dsimp only at h
    refine ax_bV (rest := []) hB (t_C_add hg q12) cw_C_41 im_C_add se_C_add d_C_addOver_16 (hg 4 rfl) rfl rfl (by decide) (by decide) rfl rfl (Nat.le_of_ble_eq_true rfl) ?_
    change ax_R G 4 0 0 (19, [(0, .inr (g, 4)), (1, .inl (.int (a1))), (2, .inl (.int (a2))), (3, .inl (.int (a3)))], [.inl (.int (r10))], ax_m (s11) ρ)
    cases h
    exact ax_iret hA d_C_addOver_19
def y_C_addJoined : MethodName := ⟨"CipherNotation$Code", "addJoined", "(III)I"⟩
theorem d_C_addJoined_0 : decode prog_2_method_6_code 0 = .ok (.aload_n 0, 1) := by decide +kernel
theorem d_C_addJoined_1 : decode prog_2_method_6_code 1 = .ok (.getfield (28), 3) := by decide +kernel
theorem d_C_addJoined_4 : decode prog_2_method_6_code 4 = .ok (.iload_n 2, 1) := by decide +kernel
theorem d_C_addJoined_5 : decode prog_2_method_6_code 5 = .ok (.iaload, 1) := by decide +kernel
theorem d_C_addJoined_6 : decode prog_2_method_6_code 6 = .ok (.aload_n 0, 1) := by decide +kernel
theorem d_C_addJoined_7 : decode prog_2_method_6_code 7 = .ok (.getfield (28), 3) := by decide +kernel
theorem d_C_addJoined_10 : decode prog_2_method_6_code 10 = .ok (.iload_n 3, 1) := by decide +kernel
theorem d_C_addJoined_11 : decode prog_2_method_6_code 11 = .ok (.iaload, 1) := by decide +kernel
theorem d_C_addJoined_12 : decode prog_2_method_6_code 12 = .ok (.ior, 1) := by decide +kernel
theorem d_C_addJoined_13 : decode prog_2_method_6_code 13 = .ok (.istore (4), 2) := by decide +kernel
theorem d_C_addJoined_15 : decode prog_2_method_6_code 15 = .ok (.iload (4), 2) := by decide +kernel
theorem d_C_addJoined_17 : decode prog_2_method_6_code 17 = .ok (.ifCond .ne (13), 3) := by decide +kernel
theorem d_C_addJoined_20 : decode prog_2_method_6_code 20 = .ok (.aload_n 0, 1) := by decide +kernel
theorem d_C_addJoined_21 : decode prog_2_method_6_code 21 = .ok (.iload_n 1, 1) := by decide +kernel
theorem d_C_addJoined_22 : decode prog_2_method_6_code 22 = .ok (.lconst 0, 1) := by decide +kernel
theorem d_C_addJoined_23 : decode prog_2_method_6_code 23 = .ok (.iconst 0, 1) := by decide +kernel
theorem d_C_addJoined_24 : decode prog_2_method_6_code 24 = .ok (.iconst 1, 1) := by decide +kernel
theorem d_C_addJoined_25 : decode prog_2_method_6_code 25 = .ok (.iconst 1, 1) := by decide +kernel
theorem d_C_addJoined_26 : decode prog_2_method_6_code 26 = .ok (.invokevirtual (41), 3) := by decide +kernel
theorem d_C_addJoined_29 : decode prog_2_method_6_code 29 = .ok (.ireturn, 1) := by decide +kernel
theorem d_C_addJoined_30 : decode prog_2_method_6_code 30 = .ok (.aload_n 0, 1) := by decide +kernel
theorem d_C_addJoined_31 : decode prog_2_method_6_code 31 = .ok (.getfield (34), 3) := by decide +kernel
theorem d_C_addJoined_34 : decode prog_2_method_6_code 34 = .ok (.iload_n 2, 1) := by decide +kernel
theorem d_C_addJoined_35 : decode prog_2_method_6_code 35 = .ok (.iaload, 1) := by decide +kernel
theorem d_C_addJoined_36 : decode prog_2_method_6_code 36 = .ok (.aload_n 0, 1) := by decide +kernel
theorem d_C_addJoined_37 : decode prog_2_method_6_code 37 = .ok (.getfield (34), 3) := by decide +kernel
theorem d_C_addJoined_40 : decode prog_2_method_6_code 40 = .ok (.iload_n 3, 1) := by decide +kernel
theorem d_C_addJoined_41 : decode prog_2_method_6_code 41 = .ok (.iaload, 1) := by decide +kernel
theorem d_C_addJoined_42 : decode prog_2_method_6_code 42 = .ok (.if_icmp .ne (14), 3) := by decide +kernel
theorem d_C_addJoined_45 : decode prog_2_method_6_code 45 = .ok (.aload_n 0, 1) := by decide +kernel
theorem d_C_addJoined_46 : decode prog_2_method_6_code 46 = .ok (.getfield (34), 3) := by decide +kernel
theorem d_C_addJoined_49 : decode prog_2_method_6_code 49 = .ok (.iload_n 2, 1) := by decide +kernel
theorem d_C_addJoined_50 : decode prog_2_method_6_code 50 = .ok (.iaload, 1) := by decide +kernel
theorem d_C_addJoined_51 : decode prog_2_method_6_code 51 = .ok (.iconst 1, 1) := by decide +kernel
theorem d_C_addJoined_52 : decode prog_2_method_6_code 52 = .ok (.iadd, 1) := by decide +kernel
theorem d_C_addJoined_53 : decode prog_2_method_6_code 53 = .ok (.goto (18), 3) := by decide +kernel
theorem d_C_addJoined_56 : decode prog_2_method_6_code 56 = .ok (.aload_n 0, 1) := by decide +kernel
theorem d_C_addJoined_57 : decode prog_2_method_6_code 57 = .ok (.getfield (34), 3) := by decide +kernel
theorem d_C_addJoined_60 : decode prog_2_method_6_code 60 = .ok (.iload_n 2, 1) := by decide +kernel
theorem d_C_addJoined_61 : decode prog_2_method_6_code 61 = .ok (.iaload, 1) := by decide +kernel
theorem d_C_addJoined_62 : decode prog_2_method_6_code 62 = .ok (.aload_n 0, 1) := by decide +kernel
theorem d_C_addJoined_63 : decode prog_2_method_6_code 63 = .ok (.getfield (34), 3) := by decide +kernel
theorem d_C_addJoined_66 : decode prog_2_method_6_code 66 = .ok (.iload_n 3, 1) := by decide +kernel
theorem d_C_addJoined_67 : decode prog_2_method_6_code 67 = .ok (.iaload, 1) := by decide +kernel
theorem d_C_addJoined_68 : decode prog_2_method_6_code 68 = .ok (.invokestatic (45), 3) := by decide +kernel
theorem d_C_addJoined_71 : decode prog_2_method_6_code 71 = .ok (.istore (5), 2) := by decide +kernel
theorem d_C_addJoined_73 : decode prog_2_method_6_code 73 = .ok (.aload_n 0, 1) := by decide +kernel
theorem d_C_addJoined_74 : decode prog_2_method_6_code 74 = .ok (.iload_n 1, 1) := by decide +kernel
theorem d_C_addJoined_75 : decode prog_2_method_6_code 75 = .ok (.lconst 0, 1) := by decide +kernel
theorem d_C_addJoined_76 : decode prog_2_method_6_code 76 = .ok (.iload (4), 2) := by decide +kernel
theorem d_C_addJoined_78 : decode prog_2_method_6_code 78 = .ok (.aload_n 0, 1) := by decide +kernel
theorem d_C_addJoined_79 : decode prog_2_method_6_code 79 = .ok (.getfield (31), 3) := by decide +kernel
theorem d_C_addJoined_82 : decode prog_2_method_6_code 82 = .ok (.iload_n 2, 1) := by decide +kernel
theorem d_C_addJoined_83 : decode prog_2_method_6_code 83 = .ok (.iaload, 1) := by decide +kernel
theorem d_C_addJoined_84 : decode prog_2_method_6_code 84 = .ok (.aload_n 0, 1) := by decide +kernel
theorem d_C_addJoined_85 : decode prog_2_method_6_code 85 = .ok (.getfield (31), 3) := by decide +kernel
theorem d_C_addJoined_88 : decode prog_2_method_6_code 88 = .ok (.iload_n 3, 1) := by decide +kernel
theorem d_C_addJoined_89 : decode prog_2_method_6_code 89 = .ok (.iaload, 1) := by decide +kernel
theorem d_C_addJoined_90 : decode prog_2_method_6_code 90 = .ok (.iadd, 1) := by decide +kernel
theorem d_C_addJoined_91 : decode prog_2_method_6_code 91 = .ok (.iconst 1, 1) := by decide +kernel
theorem d_C_addJoined_92 : decode prog_2_method_6_code 92 = .ok (.iadd, 1) := by decide +kernel
theorem d_C_addJoined_93 : decode prog_2_method_6_code 93 = .ok (.iload (5), 2) := by decide +kernel
theorem d_C_addJoined_95 : decode prog_2_method_6_code 95 = .ok (.invokevirtual (41), 3) := by decide +kernel
theorem d_C_addJoined_98 : decode prog_2_method_6_code 98 = .ok (.ireturn, 1) := by decide +kernel
def f_C_addJoined (g : Nat) (a1 : Int32) (a2 : Int32) (a3 : Int32) (s : ax_σ) : Option (Int32 × ax_σ) :=
  bif ax_in a2 240 then
  bif ax_in a3 240 then
  if ((s.1 g 10 (a2).toNatClampNeg) ||| (s.1 g 10 (a3).toNatClampNeg)) = (0 : Int32) then
    Option.bind (f_C_add g a1 (0 : Int64) (0 : Int32) (1 : Int32) (1 : Int32) s) (fun (r17, s18) =>
      some ((r17, s18)))
  else
    bif ax_in a2 240 then
    bif ax_in a3 240 then
    Option.bind (
      if (s.1 g 12 (a2).toNatClampNeg) = (s.1 g 12 (a3).toNatClampNeg) then
        bif ax_in a2 240 then
        some ((s.1 g 12 (a2).toNatClampNeg) + (1 : Int32))
        else none
      else
        bif ax_in a2 240 then
        bif ax_in a3 240 then
        Option.bind (f_Math_max_II (s.1 g 12 (a2).toNatClampNeg) (s.1 g 12 (a3).toNatClampNeg)) (fun r7 =>
          some r7)
        else none
        else none) (fun v11 =>
      bif ax_in a2 240 then
      bif ax_in a3 240 then
      Option.bind (f_C_add g a1 (0 : Int64) ((s.1 g 10 (a2).toNatClampNeg) ||| (s.1 g 10 (a3).toNatClampNeg)) (((s.1 g 11 (a2).toNatClampNeg) + (s.1 g 11 (a3).toNatClampNeg)) + (1 : Int32)) v11 s) (fun (r14, s15) =>
        some ((r14, s15)))
      else none
      else none)
    else none
    else none
  else none
  else none
set_option maxHeartbeats 4000000 in
set_option maxRecDepth 100000 in
theorem t_C_addJoined {l : Launch} {D : va_G} {cA : Nat → ClassId} {ad : Nat → Nat → Nat} {al : List (Nat × Nat)} {θ : ax_Θ} {ρ : ax_ρ} {g : Nat} (hg : ax_Mg al g) {a1 : Int32} {a2 : Int32} {a3 : Int32} {s : ax_σ} {r0 : Int32} {s0 : ax_σ} (h : f_C_addJoined g a1 a2 a3 s = some (r0, s0)) : ax_T l D cA ad al θ y_C_addJoined (.code y_C_addJoined prog_2_method_6_code 6 (some .int)) 1 [.inr (g, 4), .inl (.int (a1)), .inl (.int (a2)), .inl (.int (a3))] (ax_m s ρ) (some (.inl (.int r0))) (ax_m s0 ρ) := by
  refine ax_T_of (own := "CipherNotation$Code") (by decide) rfl (Nat.le_of_ble_eq_true rfl) [(0, .inr (g, 4)), (1, .inl (.int (a1))), (2, .inl (.int (a2))), (3, .inl (.int (a3)))] rfl ?_
  intro G hA
  have hB := hA.B
  have hK := hB.K
  have hal := hB.la
  unfold f_C_addJoined at h
  obtain ⟨b1, h⟩ := ax_gd h
  obtain ⟨b2, h⟩ := ax_gd h
  refine ax_bk hK (ax_fc (ax_v_ld (ax_r_aload_n (i := 0) d_C_addJoined_0 rfl)) (ax_fc (ax_w_gf (e := none) hal d_C_addJoined_1 fd_C_28) (ax_fc (ax_v_ld (ax_r_iload_n (i := 2) d_C_addJoined_4 rfl)) (ax_fc (ax_w_iald hal d_C_addJoined_5) (ax_fc (ax_v_ld (ax_r_aload_n (i := 0) d_C_addJoined_6 rfl)) (ax_fc (ax_w_gf (e := none) hal d_C_addJoined_7 fd_C_28) (ax_fc (ax_v_ld (ax_r_iload_n (i := 3) d_C_addJoined_10 rfl)) (ax_fc (ax_w_iald hal d_C_addJoined_11) (ax_fc (ax_v_pu (ax_r_ior d_C_addJoined_12)) (ax_fc (ax_v_so (ax_r_istore d_C_addJoined_13)) (ax_fc (ax_v_ld (ax_r_iload d_C_addJoined_15)) ax_fn))))))))))) (y := (17, [(4, .inl (.int (((s.1 g 10 (a2).toNatClampNeg) ||| (s.1 g 10 (a3).toNatClampNeg))))), (0, .inr (g, 4)), (1, .inl (.int (a1))), (2, .inl (.int (a2))), (3, .inl (.int (a3)))], [.inl (.int (((s.1 g 10 (a2).toNatClampNeg) ||| (s.1 g 10 (a3).toNatClampNeg))))], ax_m (s) ρ)) rfl ⟨trivial, (hg 4 rfl), trivial, ⟨(hg 10 rfl), ax_inp b1⟩, trivial, (hg 4 rfl), trivial, ⟨(hg 10 rfl), ax_inp b2⟩, trivial, trivial, trivial, trivial⟩ ?_
  refine ax_if_ne (tgt := 30) hK d_C_addJoined_17 (by decide) (fun c20 => ?_) (fun c20 => ?_)
  · replace h := ax_if c20 h
    obtain ⟨b3, h⟩ := ax_gd h
    obtain ⟨b4, h⟩ := ax_gd h
    refine ax_bk hK (ax_fc (ax_v_ld (ax_r_aload_n (i := 0) d_C_addJoined_30 rfl)) (ax_fc (ax_w_gf (e := none) hal d_C_addJoined_31 fd_C_34) (ax_fc (ax_v_ld (ax_r_iload_n (i := 2) d_C_addJoined_34 rfl)) (ax_fc (ax_w_iald hal d_C_addJoined_35) (ax_fc (ax_v_ld (ax_r_aload_n (i := 0) d_C_addJoined_36 rfl)) (ax_fc (ax_w_gf (e := none) hal d_C_addJoined_37 fd_C_34) (ax_fc (ax_v_ld (ax_r_iload_n (i := 3) d_C_addJoined_40 rfl)) (ax_fc (ax_w_iald hal d_C_addJoined_41) ax_fn)))))))) (y := (42, [(4, .inl (.int (((s.1 g 10 (a2).toNatClampNeg) ||| (s.1 g 10 (a3).toNatClampNeg))))), (0, .inr (g, 4)), (1, .inl (.int (a1))), (2, .inl (.int (a2))), (3, .inl (.int (a3)))], [.inl (.int ((s.1 g 12 (a3).toNatClampNeg))), .inl (.int ((s.1 g 12 (a2).toNatClampNeg)))], ax_m (s) ρ)) rfl ⟨trivial, (hg 4 rfl), trivial, ⟨(hg 12 rfl), ax_inp b3⟩, trivial, (hg 4 rfl), trivial, ⟨(hg 12 rfl), ax_inp b4⟩, trivial⟩ ?_
    obtain ⟨w21, hw21, h⟩ := ax_bd h
    have KEw21 : ∀ (v11 : Int32), w21 = v11 → ax_R G 6 0 0 (71, [(0, .inr (g, 4)), (1, .inl (.int (a1))), (2, .inl (.int (a2))), (3, .inl (.int (a3))), (4, .inl (.int (((s.1 g 10 (a2).toNatClampNeg) ||| (s.1 g 10 (a3).toNatClampNeg)))))], [.inl (.int (v11))], ax_m (s) ρ) := by
      intro v11 e9
      subst w21
      try dsimp only at h
      obtain ⟨b12, h⟩ := ax_gd h
      obtain ⟨b13, h⟩ := ax_gd h
      refine ax_bk hK (ax_fc (ax_v_so (ax_r_istore d_C_addJoined_71)) (ax_fc (ax_v_ld (ax_r_aload_n (i := 0) d_C_addJoined_73 rfl)) (ax_fc (ax_v_ld (ax_r_iload_n (i := 1) d_C_addJoined_74 rfl)) (ax_fc (ax_v_pu (ax_r_lconst (v := 0) d_C_addJoined_75 (by decide))) (ax_fc (ax_v_ld (ax_r_iload d_C_addJoined_76)) (ax_fc (ax_v_ld (ax_r_aload_n (i := 0) d_C_addJoined_78 rfl)) (ax_fc (ax_w_gf (e := none) hal d_C_addJoined_79 fd_C_31) (ax_fc (ax_v_ld (ax_r_iload_n (i := 2) d_C_addJoined_82 rfl)) (ax_fc (ax_w_iald hal d_C_addJoined_83) (ax_fc (ax_v_ld (ax_r_aload_n (i := 0) d_C_addJoined_84 rfl)) (ax_fc (ax_w_gf (e := none) hal d_C_addJoined_85 fd_C_31) (ax_fc (ax_v_ld (ax_r_iload_n (i := 3) d_C_addJoined_88 rfl)) (ax_fc (ax_w_iald hal d_C_addJoined_89) (ax_fc (ax_v_pu (ax_r_iadd d_C_addJoined_90)) (ax_fc (ax_v_pu (ax_r_iconst (v := 1) d_C_addJoined_91 (by decide))) (ax_fc (ax_v_pu (ax_r_iadd d_C_addJoined_92)) (ax_fc (ax_v_ld (ax_r_iload d_C_addJoined_93)) ax_fn))))))))))))))))) (y := (95, [(5, .inl (.int (v11))), (0, .inr (g, 4)), (1, .inl (.int (a1))), (2, .inl (.int (a2))), (3, .inl (.int (a3))), (4, .inl (.int (((s.1 g 10 (a2).toNatClampNeg) ||| (s.1 g 10 (a3).toNatClampNeg)))))], [.inl (.int (v11)), .inl (.int ((((s.1 g 11 (a2).toNatClampNeg) + (s.1 g 11 (a3).toNatClampNeg)) + (1 : Int32)))), .inl (.int (((s.1 g 10 (a2).toNatClampNeg) ||| (s.1 g 10 (a3).toNatClampNeg)))), .inl (.long ((0 : Int64))), .inl (.int (a1)), .inr (g, 4)], ax_m (s) ρ)) rfl ⟨trivial, trivial, trivial, trivial, trivial, trivial, (hg 4 rfl), trivial, ⟨(hg 11 rfl), ax_inp b12⟩, trivial, (hg 4 rfl), trivial, ⟨(hg 11 rfl), ax_inp b13⟩, trivial, trivial, trivial, trivial, trivial⟩ ?_
      obtain ⟨⟨r14, s15⟩, q16, h⟩ := ax_bd h
      dsimp only at h
      refine ax_bV (rest := []) hB (t_C_add hg q16) cw_C_41 im_C_add se_C_add d_C_addJoined_95 (hg 4 rfl) rfl rfl (by decide) (by decide) rfl rfl (Nat.le_of_ble_eq_true rfl) ?_
      change ax_R G 6 0 0 (98, [(5, .inl (.int (v11))), (0, .inr (g, 4)), (1, .inl (.int (a1))), (2, .inl (.int (a2))), (3, .inl (.int (a3))), (4, .inl (.int (((s.1 g 10 (a2).toNatClampNeg) ||| (s.1 g 10 (a3).toNatClampNeg)))))], [.inl (.int (r14))], ax_m (s15) ρ)
      cases h
      exact ax_iret hA d_C_addJoined_98
    clear h
    have h := hw21
    refine ax_ic_ne (tgt := 56) hK d_C_addJoined_42 (by decide) (fun c10 => ?_) (fun c10 => ?_)
    · replace h := ax_if c10 h
      obtain ⟨b5, h⟩ := ax_gd h
      obtain ⟨b6, h⟩ := ax_gd h
      refine ax_bk hK (ax_fc (ax_v_ld (ax_r_aload_n (i := 0) d_C_addJoined_56 rfl)) (ax_fc (ax_w_gf (e := none) hal d_C_addJoined_57 fd_C_34) (ax_fc (ax_v_ld (ax_r_iload_n (i := 2) d_C_addJoined_60 rfl)) (ax_fc (ax_w_iald hal d_C_addJoined_61) (ax_fc (ax_v_ld (ax_r_aload_n (i := 0) d_C_addJoined_62 rfl)) (ax_fc (ax_w_gf (e := none) hal d_C_addJoined_63 fd_C_34) (ax_fc (ax_v_ld (ax_r_iload_n (i := 3) d_C_addJoined_66 rfl)) (ax_fc (ax_w_iald hal d_C_addJoined_67) ax_fn)))))))) (y := (68, [(4, .inl (.int (((s.1 g 10 (a2).toNatClampNeg) ||| (s.1 g 10 (a3).toNatClampNeg))))), (0, .inr (g, 4)), (1, .inl (.int (a1))), (2, .inl (.int (a2))), (3, .inl (.int (a3)))], [.inl (.int ((s.1 g 12 (a3).toNatClampNeg))), .inl (.int ((s.1 g 12 (a2).toNatClampNeg)))], ax_m (s) ρ)) rfl ⟨trivial, (hg 4 rfl), trivial, ⟨(hg 12 rfl), ax_inp b5⟩, trivial, (hg 4 rfl), trivial, ⟨(hg 12 rfl), ax_inp b6⟩, trivial⟩ ?_
      obtain ⟨r7, q8, h⟩ := ax_bd h
      refine ax_bS (rest := []) hB (t_Math_max_II q8) cw_C_45 sm_Math_max_II d_C_addJoined_68 (by decide) (by decide) rfl rfl (Nat.le_of_ble_eq_true rfl) ?_
      change ax_R G 6 0 0 (71, [(4, .inl (.int (((s.1 g 10 (a2).toNatClampNeg) ||| (s.1 g 10 (a3).toNatClampNeg))))), (0, .inr (g, 4)), (1, .inl (.int (a1))), (2, .inl (.int (a2))), (3, .inl (.int (a3)))], [.inl (.int (r7))], ax_m (s) ρ)
      cases h
      exact ax_Lsub [1, 2, 3, 4, 0] rfl (KEw21 _ rfl)
    · replace h := ax_it c10 h
      obtain ⟨b9, h⟩ := ax_gd h
      refine ax_bk hK (ax_fc (ax_v_ld (ax_r_aload_n (i := 0) d_C_addJoined_45 rfl)) (ax_fc (ax_w_gf (e := none) hal d_C_addJoined_46 fd_C_34) (ax_fc (ax_v_ld (ax_r_iload_n (i := 2) d_C_addJoined_49 rfl)) (ax_fc (ax_w_iald hal d_C_addJoined_50) (ax_fc (ax_v_pu (ax_r_iconst (v := 1) d_C_addJoined_51 (by decide))) (ax_fc (ax_v_pu (ax_r_iadd d_C_addJoined_52)) (ax_fc (ax_v_go (tgt := 71) d_C_addJoined_53 (by decide)) ax_fn))))))) (y := (71, [(4, .inl (.int (((s.1 g 10 (a2).toNatClampNeg) ||| (s.1 g 10 (a3).toNatClampNeg))))), (0, .inr (g, 4)), (1, .inl (.int (a1))), (2, .inl (.int (a2))), (3, .inl (.int (a3)))], [.inl (.int (((s.1 g 12 (a2).toNatClampNeg) + (1 : Int32))))], ax_m (s) ρ)) rfl ⟨trivial, (hg 4 rfl), trivial, ⟨(hg 12 rfl), ax_inp b9⟩, trivial, trivial, trivial, trivial⟩ ?_
      cases h
      exact ax_Lsub [1, 2, 3, 4, 0] rfl (KEw21 _ rfl)
  · replace h := ax_it c20 h
    refine ax_bk hK (ax_fc (ax_v_ld (ax_r_aload_n (i := 0) d_C_addJoined_20 rfl)) (ax_fc (ax_v_ld (ax_r_iload_n (i := 1) d_C_addJoined_21 rfl)) (ax_fc (ax_v_pu (ax_r_lconst (v := 0) d_C_addJoined_22 (by decide))) (ax_fc (ax_v_pu (ax_r_iconst (v := 0) d_C_addJoined_23 (by decide))) (ax_fc (ax_v_pu (ax_r_iconst (v := 1) d_C_addJoined_24 (by decide))) (ax_fc (ax_v_pu (ax_r_iconst (v := 1) d_C_addJoined_25 (by decide))) ax_fn)))))) (y := (26, [(4, .inl (.int (((s.1 g 10 (a2).toNatClampNeg) ||| (s.1 g 10 (a3).toNatClampNeg))))), (0, .inr (g, 4)), (1, .inl (.int (a1))), (2, .inl (.int (a2))), (3, .inl (.int (a3)))], [.inl (.int ((1 : Int32))), .inl (.int ((1 : Int32))), .inl (.int ((0 : Int32))), .inl (.long ((0 : Int64))), .inl (.int (a1)), .inr (g, 4)], ax_m (s) ρ)) rfl ⟨trivial, trivial, trivial, trivial, trivial, trivial, trivial⟩ ?_
    obtain ⟨⟨r17, s18⟩, q19, h⟩ := ax_bd h
    dsimp only at h
    refine ax_bV (rest := []) hB (t_C_add hg q19) cw_C_41 im_C_add se_C_add d_C_addJoined_26 (hg 4 rfl) rfl rfl (by decide) (by decide) rfl rfl (Nat.le_of_ble_eq_true rfl) ?_
    change ax_R G 6 0 0 (29, [(4, .inl (.int (((s.1 g 10 (a2).toNatClampNeg) ||| (s.1 g 10 (a3).toNatClampNeg))))), (0, .inr (g, 4)), (1, .inl (.int (a1))), (2, .inl (.int (a2))), (3, .inl (.int (a3)))], [.inl (.int (r17))], ax_m (s18) ρ)
    cases h
    exact ax_iret hA d_C_addJoined_29
def y_C_addLetter : MethodName := ⟨"CipherNotation$Code", "addLetter", "(IIJ)V"⟩
theorem d_C_addLetter_0 : decode prog_2_method_7_code 0 = .ok (.iload_n 2, 1) := by decide +kernel
theorem d_C_addLetter_1 : decode prog_2_method_7_code 1 = .ok (.ifCond .ne (16), 3) := by decide +kernel
theorem d_C_addLetter_4 : decode prog_2_method_7_code 4 = .ok (.aload_n 0, 1) := by decide +kernel
theorem d_C_addLetter_5 : decode prog_2_method_7_code 5 = .ok (.getfield (19), 3) := by decide +kernel
theorem d_C_addLetter_8 : decode prog_2_method_7_code 8 = .ok (.iload_n 1, 1) := by decide +kernel
theorem d_C_addLetter_9 : decode prog_2_method_7_code 9 = .ok (.dup2, 1) := by decide +kernel
theorem d_C_addLetter_10 : decode prog_2_method_7_code 10 = .ok (.laload, 1) := by decide +kernel
theorem d_C_addLetter_11 : decode prog_2_method_7_code 11 = .ok (.lload_n 3, 1) := by decide +kernel
theorem d_C_addLetter_12 : decode prog_2_method_7_code 12 = .ok (.ladd, 1) := by decide +kernel
theorem d_C_addLetter_13 : decode prog_2_method_7_code 13 = .ok (.lastore, 1) := by decide +kernel
theorem d_C_addLetter_14 : decode prog_2_method_7_code 14 = .ok (.goto (13), 3) := by decide +kernel
theorem d_C_addLetter_17 : decode prog_2_method_7_code 17 = .ok (.aload_n 0, 1) := by decide +kernel
theorem d_C_addLetter_18 : decode prog_2_method_7_code 18 = .ok (.getfield (22), 3) := by decide +kernel
theorem d_C_addLetter_21 : decode prog_2_method_7_code 21 = .ok (.iload_n 1, 1) := by decide +kernel
theorem d_C_addLetter_22 : decode prog_2_method_7_code 22 = .ok (.dup2, 1) := by decide +kernel
theorem d_C_addLetter_23 : decode prog_2_method_7_code 23 = .ok (.laload, 1) := by decide +kernel
theorem d_C_addLetter_24 : decode prog_2_method_7_code 24 = .ok (.lload_n 3, 1) := by decide +kernel
theorem d_C_addLetter_25 : decode prog_2_method_7_code 25 = .ok (.ladd, 1) := by decide +kernel
theorem d_C_addLetter_26 : decode prog_2_method_7_code 26 = .ok (.lastore, 1) := by decide +kernel
theorem d_C_addLetter_27 : decode prog_2_method_7_code 27 = .ok (.return_, 1) := by decide +kernel
def f_C_addLetter (g : Nat) (a1 : Int32) (a2 : Int32) (a3 : Int64) (s : ax_σ) : Option (ax_σ) :=
  if a2 = (0 : Int32) then
    bif ax_in a1 240 then
    bif ax_in a1 240 then
    ax_let (ax_wL s g 7 (a1).toNatClampNeg ((s.2 g 7 (a1).toNatClampNeg) + a3)) (fun s6 =>
      some (s6))
    else none
    else none
  else
    bif ax_in a1 240 then
    bif ax_in a1 240 then
    ax_let (ax_wL s g 8 (a1).toNatClampNeg ((s.2 g 8 (a1).toNatClampNeg) + a3)) (fun s3 =>
      some (s3))
    else none
    else none
set_option maxHeartbeats 4000000 in
set_option maxRecDepth 100000 in
theorem t_C_addLetter {l : Launch} {D : va_G} {cA : Nat → ClassId} {ad : Nat → Nat → Nat} {al : List (Nat × Nat)} {θ : ax_Θ} {ρ : ax_ρ} {g : Nat} (hg : ax_Mg al g) {a1 : Int32} {a2 : Int32} {a3 : Int64} {s : ax_σ} {s0 : ax_σ} (h : f_C_addLetter g a1 a2 a3 s = some s0) : ax_T l D cA ad al θ y_C_addLetter (.code y_C_addLetter prog_2_method_7_code 5 none) 0 [.inr (g, 4), .inl (.int (a1)), .inl (.int (a2)), .inl (.long (a3))] (ax_m s ρ) none (ax_m s0 ρ) := by
  refine ax_T_of (own := "CipherNotation$Code") (by decide) rfl (Nat.le_of_ble_eq_true rfl) [(0, .inr (g, 4)), (1, .inl (.int (a1))), (2, .inl (.int (a2))), (3, .inl (.long (a3)))] rfl ?_
  intro G hA
  have hB := hA.B
  have hK := hB.K
  have hal := hB.la
  unfold f_C_addLetter at h
  refine ax_bk hK (ax_fc (ax_v_ld (ax_r_iload_n (i := 2) d_C_addLetter_0 rfl)) ax_fn) (y := (1, [(0, .inr (g, 4)), (1, .inl (.int (a1))), (2, .inl (.int (a2))), (3, .inl (.long (a3)))], [.inl (.int (a2))], ax_m (s) ρ)) rfl ⟨trivial, trivial⟩ ?_
  refine ax_if_ne (tgt := 17) hK d_C_addLetter_1 (by decide) (fun c7 => ?_) (fun c7 => ?_)
  · replace h := ax_if c7 h
    obtain ⟨b1, h⟩ := ax_gd h
    obtain ⟨b2, h⟩ := ax_gd h
    refine ax_bk hK (ax_fc (ax_v_ld (ax_r_aload_n (i := 0) d_C_addLetter_17 rfl)) (ax_fc (ax_w_gf (e := none) hal d_C_addLetter_18 fd_C_22) (ax_fc (ax_v_ld (ax_r_iload_n (i := 1) d_C_addLetter_21 rfl)) (ax_fc (ax_v_pu (ax_r_dup2p d_C_addLetter_22)) (ax_fc (ax_w_lald hal d_C_addLetter_23) (ax_fc (ax_v_ld (ax_r_lload_n (i := 3) d_C_addLetter_24 rfl)) (ax_fc (ax_v_pu (ax_r_ladd d_C_addLetter_25)) (ax_fc (ax_w_last hal d_C_addLetter_26) ax_fn)))))))) (y := (27, [(0, .inr (g, 4)), (1, .inl (.int (a1))), (2, .inl (.int (a2))), (3, .inl (.long (a3)))], [], ax_m (ax_wL s g 8 (a1).toNatClampNeg ((s.2 g 8 (a1).toNatClampNeg) + a3)) ρ)) rfl ⟨trivial, (hg 4 rfl), trivial, trivial, ⟨(hg 8 rfl), ax_inp b1⟩, trivial, trivial, ⟨(hg 8 rfl), ax_inp b2⟩, trivial⟩ ?_
    refine ax_lt (Q := fun ςς => ax_R G 5 0 0 (27, [(0, .inr (g, 4)), (1, .inl (.int (a1))), (2, .inl (.int (a2))), (3, .inl (.long (a3)))], [], ax_m (ςς) ρ)) h (fun s3 h => ?_)
    cases h
    exact ax_vret hA d_C_addLetter_27
  · replace h := ax_it c7 h
    obtain ⟨b4, h⟩ := ax_gd h
    obtain ⟨b5, h⟩ := ax_gd h
    refine ax_bk hK (ax_fc (ax_v_ld (ax_r_aload_n (i := 0) d_C_addLetter_4 rfl)) (ax_fc (ax_w_gf (e := none) hal d_C_addLetter_5 fd_C_19) (ax_fc (ax_v_ld (ax_r_iload_n (i := 1) d_C_addLetter_8 rfl)) (ax_fc (ax_v_pu (ax_r_dup2p d_C_addLetter_9)) (ax_fc (ax_w_lald hal d_C_addLetter_10) (ax_fc (ax_v_ld (ax_r_lload_n (i := 3) d_C_addLetter_11 rfl)) (ax_fc (ax_v_pu (ax_r_ladd d_C_addLetter_12)) (ax_fc (ax_w_last hal d_C_addLetter_13) ax_fn)))))))) (y := (14, [(0, .inr (g, 4)), (1, .inl (.int (a1))), (2, .inl (.int (a2))), (3, .inl (.long (a3)))], [], ax_m (ax_wL s g 7 (a1).toNatClampNeg ((s.2 g 7 (a1).toNatClampNeg) + a3)) ρ)) rfl ⟨trivial, (hg 4 rfl), trivial, trivial, ⟨(hg 7 rfl), ax_inp b4⟩, trivial, trivial, ⟨(hg 7 rfl), ax_inp b5⟩, trivial⟩ ?_
    refine ax_lt (Q := fun ςς => ax_R G 5 0 0 (14, [(0, .inr (g, 4)), (1, .inl (.int (a1))), (2, .inl (.int (a2))), (3, .inl (.long (a3)))], [], ax_m (ςς) ρ)) h (fun s6 h => ?_)
    refine ax_bk hK (ax_fc (ax_v_go (tgt := 27) d_C_addLetter_14 (by decide)) ax_fn) (y := (27, [(0, .inr (g, 4)), (1, .inl (.int (a1))), (2, .inl (.int (a2))), (3, .inl (.long (a3)))], [], ax_m (s6) ρ)) rfl ⟨trivial, trivial⟩ ?_
    cases h
    exact ax_vret hA d_C_addLetter_27
def y_C_exact : MethodName := ⟨"CipherNotation$Code", "exact", "(III)J"⟩
theorem d_C_exact_0 : decode prog_2_method_8_code 0 = .ok (.aload_n 0, 1) := by decide +kernel
theorem d_C_exact_1 : decode prog_2_method_8_code 1 = .ok (.getfield (15), 3) := by decide +kernel
theorem d_C_exact_4 : decode prog_2_method_8_code 4 = .ok (.iload_n 1, 1) := by decide +kernel
theorem d_C_exact_5 : decode prog_2_method_8_code 5 = .ok (.laload, 1) := by decide +kernel
theorem d_C_exact_6 : decode prog_2_method_8_code 6 = .ok (.aload_n 0, 1) := by decide +kernel
theorem d_C_exact_7 : decode prog_2_method_8_code 7 = .ok (.getfield (19), 3) := by decide +kernel
theorem d_C_exact_10 : decode prog_2_method_8_code 10 = .ok (.iload_n 1, 1) := by decide +kernel
theorem d_C_exact_11 : decode prog_2_method_8_code 11 = .ok (.laload, 1) := by decide +kernel
theorem d_C_exact_12 : decode prog_2_method_8_code 12 = .ok (.iload_n 2, 1) := by decide +kernel
theorem d_C_exact_13 : decode prog_2_method_8_code 13 = .ok (.i2l, 1) := by decide +kernel
theorem d_C_exact_14 : decode prog_2_method_8_code 14 = .ok (.lmul, 1) := by decide +kernel
theorem d_C_exact_15 : decode prog_2_method_8_code 15 = .ok (.ladd, 1) := by decide +kernel
theorem d_C_exact_16 : decode prog_2_method_8_code 16 = .ok (.aload_n 0, 1) := by decide +kernel
theorem d_C_exact_17 : decode prog_2_method_8_code 17 = .ok (.getfield (22), 3) := by decide +kernel
theorem d_C_exact_20 : decode prog_2_method_8_code 20 = .ok (.iload_n 1, 1) := by decide +kernel
theorem d_C_exact_21 : decode prog_2_method_8_code 21 = .ok (.laload, 1) := by decide +kernel
theorem d_C_exact_22 : decode prog_2_method_8_code 22 = .ok (.iload_n 3, 1) := by decide +kernel
theorem d_C_exact_23 : decode prog_2_method_8_code 23 = .ok (.i2l, 1) := by decide +kernel
theorem d_C_exact_24 : decode prog_2_method_8_code 24 = .ok (.lmul, 1) := by decide +kernel
theorem d_C_exact_25 : decode prog_2_method_8_code 25 = .ok (.ladd, 1) := by decide +kernel
theorem d_C_exact_26 : decode prog_2_method_8_code 26 = .ok (.lreturn, 1) := by decide +kernel
def f_C_exact (g : Nat) (a1 : Int32) (a2 : Int32) (a3 : Int32) (s : ax_σ) : Option (Int64) :=
  bif ax_in a1 240 then
  bif ax_in a1 240 then
  bif ax_in a1 240 then
  some ((((s.2 g 6 (a1).toNatClampNeg) + ((s.2 g 7 (a1).toNatClampNeg) * (a2).toInt64)) + ((s.2 g 8 (a1).toNatClampNeg) * (a3).toInt64)))
  else none
  else none
  else none
set_option maxHeartbeats 4000000 in
set_option maxRecDepth 100000 in
theorem t_C_exact {l : Launch} {D : va_G} {cA : Nat → ClassId} {ad : Nat → Nat → Nat} {al : List (Nat × Nat)} {θ : ax_Θ} {ρ : ax_ρ} {g : Nat} (hg : ax_Mg al g) {a1 : Int32} {a2 : Int32} {a3 : Int32} {s : ax_σ} {r0 : Int64} (h : f_C_exact g a1 a2 a3 s = some r0) : ax_T l D cA ad al θ y_C_exact (.code y_C_exact prog_2_method_8_code 4 (some .long)) 0 [.inr (g, 4), .inl (.int (a1)), .inl (.int (a2)), .inl (.int (a3))] (ax_m s ρ) (some (.inl (.long r0))) (ax_m s ρ) := by
  refine ax_T_of (own := "CipherNotation$Code") (by decide) rfl (Nat.le_of_ble_eq_true rfl) [(0, .inr (g, 4)), (1, .inl (.int (a1))), (2, .inl (.int (a2))), (3, .inl (.int (a3)))] rfl ?_
  intro G hA
  have hB := hA.B
  have hK := hB.K
  have hal := hB.la
  unfold f_C_exact at h
  obtain ⟨b1, h⟩ := ax_gd h
  obtain ⟨b2, h⟩ := ax_gd h
  obtain ⟨b3, h⟩ := ax_gd h
  refine ax_bk hK (ax_fc (ax_v_ld (ax_r_aload_n (i := 0) d_C_exact_0 rfl)) (ax_fc (ax_w_gf (e := none) hal d_C_exact_1 fd_C_15) (ax_fc (ax_v_ld (ax_r_iload_n (i := 1) d_C_exact_4 rfl)) (ax_fc (ax_w_lald hal d_C_exact_5) (ax_fc (ax_v_ld (ax_r_aload_n (i := 0) d_C_exact_6 rfl)) (ax_fc (ax_w_gf (e := none) hal d_C_exact_7 fd_C_19) (ax_fc (ax_v_ld (ax_r_iload_n (i := 1) d_C_exact_10 rfl)) (ax_fc (ax_w_lald hal d_C_exact_11) (ax_fc (ax_v_ld (ax_r_iload_n (i := 2) d_C_exact_12 rfl)) (ax_fc (ax_v_pu (ax_r_i2l d_C_exact_13)) (ax_fc (ax_v_pu (ax_r_lmul d_C_exact_14)) (ax_fc (ax_v_pu (ax_r_ladd d_C_exact_15)) (ax_fc (ax_v_ld (ax_r_aload_n (i := 0) d_C_exact_16 rfl)) (ax_fc (ax_w_gf (e := none) hal d_C_exact_17 fd_C_22) (ax_fc (ax_v_ld (ax_r_iload_n (i := 1) d_C_exact_20 rfl)) (ax_fc (ax_w_lald hal d_C_exact_21) (ax_fc (ax_v_ld (ax_r_iload_n (i := 3) d_C_exact_22 rfl)) (ax_fc (ax_v_pu (ax_r_i2l d_C_exact_23)) (ax_fc (ax_v_pu (ax_r_lmul d_C_exact_24)) (ax_fc (ax_v_pu (ax_r_ladd d_C_exact_25)) ax_fn)))))))))))))))))))) (y := (26, [(0, .inr (g, 4)), (1, .inl (.int (a1))), (2, .inl (.int (a2))), (3, .inl (.int (a3)))], [.inl (.long ((((s.2 g 6 (a1).toNatClampNeg) + ((s.2 g 7 (a1).toNatClampNeg) * (a2).toInt64)) + ((s.2 g 8 (a1).toNatClampNeg) * (a3).toInt64))))], ax_m (s) ρ)) rfl ⟨trivial, (hg 4 rfl), trivial, ⟨(hg 6 rfl), ax_inp b1⟩, trivial, (hg 4 rfl), trivial, ⟨(hg 7 rfl), ax_inp b2⟩, trivial, trivial, trivial, trivial, trivial, (hg 4 rfl), trivial, ⟨(hg 8 rfl), ax_inp b3⟩, trivial, trivial, trivial, trivial, trivial⟩ ?_
  cases h
  exact ax_lret hA d_C_exact_26
def y_L_add : MethodName := ⟨"CipherNotation$Lines", "add", "(IIII)I"⟩
theorem d_L_add_0 : decode prog_3_method_2_code 0 = .ok (.aload_n 0, 1) := by decide +kernel
theorem d_L_add_1 : decode prog_3_method_2_code 1 = .ok (.dup, 1) := by decide +kernel
theorem d_L_add_2 : decode prog_3_method_2_code 2 = .ok (.getfield (30), 3) := by decide +kernel
theorem d_L_add_5 : decode prog_3_method_2_code 5 = .ok (.dup_x1, 1) := by decide +kernel
theorem d_L_add_6 : decode prog_3_method_2_code 6 = .ok (.iconst 1, 1) := by decide +kernel
theorem d_L_add_7 : decode prog_3_method_2_code 7 = .ok (.iadd, 1) := by decide +kernel
theorem d_L_add_8 : decode prog_3_method_2_code 8 = .ok (.putfield (30), 3) := by decide +kernel
theorem d_L_add_11 : decode prog_3_method_2_code 11 = .ok (.istore (5), 2) := by decide +kernel
theorem d_L_add_13 : decode prog_3_method_2_code 13 = .ok (.aload_n 0, 1) := by decide +kernel
theorem d_L_add_14 : decode prog_3_method_2_code 14 = .ok (.getfield (11), 3) := by decide +kernel
theorem d_L_add_17 : decode prog_3_method_2_code 17 = .ok (.iload (5), 2) := by decide +kernel
theorem d_L_add_19 : decode prog_3_method_2_code 19 = .ok (.iload_n 1, 1) := by decide +kernel
theorem d_L_add_20 : decode prog_3_method_2_code 20 = .ok (.iastore, 1) := by decide +kernel
theorem d_L_add_21 : decode prog_3_method_2_code 21 = .ok (.aload_n 0, 1) := by decide +kernel
theorem d_L_add_22 : decode prog_3_method_2_code 22 = .ok (.getfield (15), 3) := by decide +kernel
theorem d_L_add_25 : decode prog_3_method_2_code 25 = .ok (.iload (5), 2) := by decide +kernel
theorem d_L_add_27 : decode prog_3_method_2_code 27 = .ok (.iload_n 2, 1) := by decide +kernel
theorem d_L_add_28 : decode prog_3_method_2_code 28 = .ok (.iastore, 1) := by decide +kernel
theorem d_L_add_29 : decode prog_3_method_2_code 29 = .ok (.aload_n 0, 1) := by decide +kernel
theorem d_L_add_30 : decode prog_3_method_2_code 30 = .ok (.getfield (18), 3) := by decide +kernel
theorem d_L_add_33 : decode prog_3_method_2_code 33 = .ok (.iload (5), 2) := by decide +kernel
theorem d_L_add_35 : decode prog_3_method_2_code 35 = .ok (.iload_n 3, 1) := by decide +kernel
theorem d_L_add_36 : decode prog_3_method_2_code 36 = .ok (.iastore, 1) := by decide +kernel
theorem d_L_add_37 : decode prog_3_method_2_code 37 = .ok (.aload_n 0, 1) := by decide +kernel
theorem d_L_add_38 : decode prog_3_method_2_code 38 = .ok (.getfield (21), 3) := by decide +kernel
theorem d_L_add_41 : decode prog_3_method_2_code 41 = .ok (.iload (5), 2) := by decide +kernel
theorem d_L_add_43 : decode prog_3_method_2_code 43 = .ok (.iload (4), 2) := by decide +kernel
theorem d_L_add_45 : decode prog_3_method_2_code 45 = .ok (.iastore, 1) := by decide +kernel
theorem d_L_add_46 : decode prog_3_method_2_code 46 = .ok (.aload_n 0, 1) := by decide +kernel
theorem d_L_add_47 : decode prog_3_method_2_code 47 = .ok (.getfield (24), 3) := by decide +kernel
theorem d_L_add_50 : decode prog_3_method_2_code 50 = .ok (.iload (5), 2) := by decide +kernel
theorem d_L_add_52 : decode prog_3_method_2_code 52 = .ok (.iload (4), 2) := by decide +kernel
theorem d_L_add_54 : decode prog_3_method_2_code 54 = .ok (.iastore, 1) := by decide +kernel
theorem d_L_add_55 : decode prog_3_method_2_code 55 = .ok (.aload_n 0, 1) := by decide +kernel
theorem d_L_add_56 : decode prog_3_method_2_code 56 = .ok (.getfield (27), 3) := by decide +kernel
theorem d_L_add_59 : decode prog_3_method_2_code 59 = .ok (.iload (5), 2) := by decide +kernel
theorem d_L_add_61 : decode prog_3_method_2_code 61 = .ok (.iconst 0, 1) := by decide +kernel
theorem d_L_add_62 : decode prog_3_method_2_code 62 = .ok (.iastore, 1) := by decide +kernel
theorem d_L_add_63 : decode prog_3_method_2_code 63 = .ok (.iload (5), 2) := by decide +kernel
theorem d_L_add_65 : decode prog_3_method_2_code 65 = .ok (.ireturn, 1) := by decide +kernel
theorem fd_L_30 : ax_fd "CipherNotation$Lines" 30 1 6 := ⟨nC1, nT1, 7, nY1, rfl, nW1, by decide, nw_1 200 (by decide +kernel) rfl, nO1, nA1⟩
theorem fp_L_30 : ax_fp "CipherNotation$Lines" 30 1 6 (.int) := ⟨nC1, nT1, 7, nY1, rfl, nW1, by decide, nw_1 200 (by decide +kernel) rfl, nO1, nA1, by decide +kernel, by decide +kernel⟩
theorem fd_L_11 : ax_fd "CipherNotation$Lines" 11 1 0 := ⟨nC1, nT1, 7, nY1, rfl, nW1, by decide, nw_1 180 (by decide +kernel) rfl, nO1, nA1⟩
theorem fd_L_15 : ax_fd "CipherNotation$Lines" 15 1 1 := ⟨nC1, nT1, 7, nY1, rfl, nW1, by decide, nw_1 184 (by decide +kernel) rfl, nO1, nA1⟩
theorem fd_L_18 : ax_fd "CipherNotation$Lines" 18 1 2 := ⟨nC1, nT1, 7, nY1, rfl, nW1, by decide, nw_1 188 (by decide +kernel) rfl, nO1, nA1⟩
theorem fd_L_21 : ax_fd "CipherNotation$Lines" 21 1 3 := ⟨nC1, nT1, 7, nY1, rfl, nW1, by decide, nw_1 192 (by decide +kernel) rfl, nO1, nA1⟩
theorem fd_L_24 : ax_fd "CipherNotation$Lines" 24 1 4 := ⟨nC1, nT1, 7, nY1, rfl, nW1, by decide, nw_1 195 (by decide +kernel) rfl, nO1, nA1⟩
theorem fd_L_27 : ax_fd "CipherNotation$Lines" 27 1 5 := ⟨nC1, nT1, 7, nY1, rfl, nW1, by decide, nw_1 198 (by decide +kernel) rfl, nO1, nA1⟩
def f_L_add (g : Nat) (a1 : Int32) (a2 : Int32) (a3 : Int32) (a4 : Int32) (s : ax_σ) : Option (Int32 × ax_σ) :=
  ax_let (ax_wI s g 13 6 ((s.1 g 13 6) + (1 : Int32))) (fun s1 =>
    bif ax_in (s.1 g 13 6) 120 then
    ax_let (ax_wI s1 g 14 ((s.1 g 13 6)).toNatClampNeg a1) (fun s3 =>
      bif ax_in (s.1 g 13 6) 120 then
      ax_let (ax_wI s3 g 15 ((s.1 g 13 6)).toNatClampNeg a2) (fun s5 =>
        bif ax_in (s.1 g 13 6) 120 then
        ax_let (ax_wI s5 g 16 ((s.1 g 13 6)).toNatClampNeg a3) (fun s7 =>
          bif ax_in (s.1 g 13 6) 120 then
          ax_let (ax_wI s7 g 17 ((s.1 g 13 6)).toNatClampNeg a4) (fun s9 =>
            bif ax_in (s.1 g 13 6) 120 then
            ax_let (ax_wI s9 g 18 ((s.1 g 13 6)).toNatClampNeg a4) (fun s11 =>
              bif ax_in (s.1 g 13 6) 120 then
              ax_let (ax_wI s11 g 19 ((s.1 g 13 6)).toNatClampNeg (0 : Int32)) (fun s13 =>
                some (((s.1 g 13 6), s13)))
              else none)
            else none)
          else none)
        else none)
      else none)
    else none)
set_option maxHeartbeats 4000000 in
set_option maxRecDepth 100000 in
theorem t_L_add {l : Launch} {D : va_G} {cA : Nat → ClassId} {ad : Nat → Nat → Nat} {al : List (Nat × Nat)} {θ : ax_Θ} {ρ : ax_ρ} {g : Nat} (hg : ax_Mg al g) {a1 : Int32} {a2 : Int32} {a3 : Int32} {a4 : Int32} {s : ax_σ} {r0 : Int32} {s0 : ax_σ} (h : f_L_add g a1 a2 a3 a4 s = some (r0, s0)) : ax_T l D cA ad al θ y_L_add (.code y_L_add prog_3_method_2_code 6 (some .int)) 0 [.inr (g, 13), .inl (.int (a1)), .inl (.int (a2)), .inl (.int (a3)), .inl (.int (a4))] (ax_m s ρ) (some (.inl (.int r0))) (ax_m s0 ρ) := by
  refine ax_T_of (own := "CipherNotation$Lines") (by decide) rfl (Nat.le_of_ble_eq_true rfl) [(0, .inr (g, 13)), (1, .inl (.int (a1))), (2, .inl (.int (a2))), (3, .inl (.int (a3))), (4, .inl (.int (a4)))] rfl ?_
  intro G hA
  have hB := hA.B
  have hK := hB.K
  have hal := hB.la
  unfold f_L_add at h
  refine ax_bk hK (ax_fc (ax_v_ld (ax_r_aload_n (i := 0) d_L_add_0 rfl)) (ax_fc (ax_v_pu (ax_r_dup d_L_add_1)) (ax_fc (ax_w_gf (e := none) hal d_L_add_2 fd_L_30) (ax_fc (ax_v_pu (ax_r_dupx1 d_L_add_5)) (ax_fc (ax_v_pu (ax_r_iconst (v := 1) d_L_add_6 (by decide))) (ax_fc (ax_v_pu (ax_r_iadd d_L_add_7)) (ax_fc (ax_w_pf (tc := 0) hal d_L_add_8 fp_L_30 rfl) ax_fn))))))) (y := (11, [(0, .inr (g, 13)), (1, .inl (.int (a1))), (2, .inl (.int (a2))), (3, .inl (.int (a3))), (4, .inl (.int (a4)))], [.inl (.int ((s.1 g 13 6)))], ax_m (ax_wI s g 13 6 ((s.1 g 13 6) + (1 : Int32))) ρ)) rfl ⟨trivial, trivial, (hg 13 rfl), trivial, trivial, trivial, (hg 13 rfl), trivial⟩ ?_
  refine ax_lt (Q := fun ςς => ax_R G 6 0 0 (11, [(0, .inr (g, 13)), (1, .inl (.int (a1))), (2, .inl (.int (a2))), (3, .inl (.int (a3))), (4, .inl (.int (a4)))], [.inl (.int ((s.1 g 13 6)))], ax_m (ςς) ρ)) h (fun s1 h => ?_)
  obtain ⟨b2, h⟩ := ax_gd h
  refine ax_bk hK (ax_fc (ax_v_so (ax_r_istore d_L_add_11)) (ax_fc (ax_v_ld (ax_r_aload_n (i := 0) d_L_add_13 rfl)) (ax_fc (ax_w_gf (e := none) hal d_L_add_14 fd_L_11) (ax_fc (ax_v_ld (ax_r_iload d_L_add_17)) (ax_fc (ax_v_ld (ax_r_iload_n (i := 1) d_L_add_19 rfl)) (ax_fc (ax_w_iast hal d_L_add_20) ax_fn)))))) (y := (21, [(5, .inl (.int ((s.1 g 13 6)))), (0, .inr (g, 13)), (1, .inl (.int (a1))), (2, .inl (.int (a2))), (3, .inl (.int (a3))), (4, .inl (.int (a4)))], [], ax_m (ax_wI s1 g 14 ((s.1 g 13 6)).toNatClampNeg a1) ρ)) rfl ⟨trivial, trivial, (hg 13 rfl), trivial, trivial, ⟨(hg 14 rfl), ax_inp b2⟩, trivial⟩ ?_
  refine ax_lt (Q := fun ςς => ax_R G 6 0 0 (21, [(5, .inl (.int ((s.1 g 13 6)))), (0, .inr (g, 13)), (1, .inl (.int (a1))), (2, .inl (.int (a2))), (3, .inl (.int (a3))), (4, .inl (.int (a4)))], [], ax_m (ςς) ρ)) h (fun s3 h => ?_)
  obtain ⟨b4, h⟩ := ax_gd h
  refine ax_bk hK (ax_fc (ax_v_ld (ax_r_aload_n (i := 0) d_L_add_21 rfl)) (ax_fc (ax_w_gf (e := none) hal d_L_add_22 fd_L_15) (ax_fc (ax_v_ld (ax_r_iload d_L_add_25)) (ax_fc (ax_v_ld (ax_r_iload_n (i := 2) d_L_add_27 rfl)) (ax_fc (ax_w_iast hal d_L_add_28) ax_fn))))) (y := (29, [(5, .inl (.int ((s.1 g 13 6)))), (0, .inr (g, 13)), (1, .inl (.int (a1))), (2, .inl (.int (a2))), (3, .inl (.int (a3))), (4, .inl (.int (a4)))], [], ax_m (ax_wI s3 g 15 ((s.1 g 13 6)).toNatClampNeg a2) ρ)) rfl ⟨trivial, (hg 13 rfl), trivial, trivial, ⟨(hg 15 rfl), ax_inp b4⟩, trivial⟩ ?_
  refine ax_lt (Q := fun ςς => ax_R G 6 0 0 (29, [(5, .inl (.int ((s.1 g 13 6)))), (0, .inr (g, 13)), (1, .inl (.int (a1))), (2, .inl (.int (a2))), (3, .inl (.int (a3))), (4, .inl (.int (a4)))], [], ax_m (ςς) ρ)) h (fun s5 h => ?_)
  obtain ⟨b6, h⟩ := ax_gd h
  refine ax_bk hK (ax_fc (ax_v_ld (ax_r_aload_n (i := 0) d_L_add_29 rfl)) (ax_fc (ax_w_gf (e := none) hal d_L_add_30 fd_L_18) (ax_fc (ax_v_ld (ax_r_iload d_L_add_33)) (ax_fc (ax_v_ld (ax_r_iload_n (i := 3) d_L_add_35 rfl)) (ax_fc (ax_w_iast hal d_L_add_36) ax_fn))))) (y := (37, [(5, .inl (.int ((s.1 g 13 6)))), (0, .inr (g, 13)), (1, .inl (.int (a1))), (2, .inl (.int (a2))), (3, .inl (.int (a3))), (4, .inl (.int (a4)))], [], ax_m (ax_wI s5 g 16 ((s.1 g 13 6)).toNatClampNeg a3) ρ)) rfl ⟨trivial, (hg 13 rfl), trivial, trivial, ⟨(hg 16 rfl), ax_inp b6⟩, trivial⟩ ?_
  refine ax_lt (Q := fun ςς => ax_R G 6 0 0 (37, [(5, .inl (.int ((s.1 g 13 6)))), (0, .inr (g, 13)), (1, .inl (.int (a1))), (2, .inl (.int (a2))), (3, .inl (.int (a3))), (4, .inl (.int (a4)))], [], ax_m (ςς) ρ)) h (fun s7 h => ?_)
  obtain ⟨b8, h⟩ := ax_gd h
  refine ax_bk hK (ax_fc (ax_v_ld (ax_r_aload_n (i := 0) d_L_add_37 rfl)) (ax_fc (ax_w_gf (e := none) hal d_L_add_38 fd_L_21) (ax_fc (ax_v_ld (ax_r_iload d_L_add_41)) (ax_fc (ax_v_ld (ax_r_iload d_L_add_43)) (ax_fc (ax_w_iast hal d_L_add_45) ax_fn))))) (y := (46, [(5, .inl (.int ((s.1 g 13 6)))), (0, .inr (g, 13)), (1, .inl (.int (a1))), (2, .inl (.int (a2))), (3, .inl (.int (a3))), (4, .inl (.int (a4)))], [], ax_m (ax_wI s7 g 17 ((s.1 g 13 6)).toNatClampNeg a4) ρ)) rfl ⟨trivial, (hg 13 rfl), trivial, trivial, ⟨(hg 17 rfl), ax_inp b8⟩, trivial⟩ ?_
  refine ax_lt (Q := fun ςς => ax_R G 6 0 0 (46, [(5, .inl (.int ((s.1 g 13 6)))), (0, .inr (g, 13)), (1, .inl (.int (a1))), (2, .inl (.int (a2))), (3, .inl (.int (a3))), (4, .inl (.int (a4)))], [], ax_m (ςς) ρ)) h (fun s9 h => ?_)
  obtain ⟨b10, h⟩ := ax_gd h
  refine ax_bk hK (ax_fc (ax_v_ld (ax_r_aload_n (i := 0) d_L_add_46 rfl)) (ax_fc (ax_w_gf (e := none) hal d_L_add_47 fd_L_24) (ax_fc (ax_v_ld (ax_r_iload d_L_add_50)) (ax_fc (ax_v_ld (ax_r_iload d_L_add_52)) (ax_fc (ax_w_iast hal d_L_add_54) ax_fn))))) (y := (55, [(5, .inl (.int ((s.1 g 13 6)))), (0, .inr (g, 13)), (1, .inl (.int (a1))), (2, .inl (.int (a2))), (3, .inl (.int (a3))), (4, .inl (.int (a4)))], [], ax_m (ax_wI s9 g 18 ((s.1 g 13 6)).toNatClampNeg a4) ρ)) rfl ⟨trivial, (hg 13 rfl), trivial, trivial, ⟨(hg 18 rfl), ax_inp b10⟩, trivial⟩ ?_
  refine ax_lt (Q := fun ςς => ax_R G 6 0 0 (55, [(5, .inl (.int ((s.1 g 13 6)))), (0, .inr (g, 13)), (1, .inl (.int (a1))), (2, .inl (.int (a2))), (3, .inl (.int (a3))), (4, .inl (.int (a4)))], [], ax_m (ςς) ρ)) h (fun s11 h => ?_)
  obtain ⟨b12, h⟩ := ax_gd h
  refine ax_bk hK (ax_fc (ax_v_ld (ax_r_aload_n (i := 0) d_L_add_55 rfl)) (ax_fc (ax_w_gf (e := none) hal d_L_add_56 fd_L_27) (ax_fc (ax_v_ld (ax_r_iload d_L_add_59)) (ax_fc (ax_v_pu (ax_r_iconst (v := 0) d_L_add_61 (by decide))) (ax_fc (ax_w_iast hal d_L_add_62) ax_fn))))) (y := (63, [(5, .inl (.int ((s.1 g 13 6)))), (0, .inr (g, 13)), (1, .inl (.int (a1))), (2, .inl (.int (a2))), (3, .inl (.int (a3))), (4, .inl (.int (a4)))], [], ax_m (ax_wI s11 g 19 ((s.1 g 13 6)).toNatClampNeg (0 : Int32)) ρ)) rfl ⟨trivial, (hg 13 rfl), trivial, trivial, ⟨(hg 19 rfl), ax_inp b12⟩, trivial⟩ ?_
  refine ax_lt (Q := fun ςς => ax_R G 6 0 0 (63, [(5, .inl (.int ((s.1 g 13 6)))), (0, .inr (g, 13)), (1, .inl (.int (a1))), (2, .inl (.int (a2))), (3, .inl (.int (a3))), (4, .inl (.int (a4)))], [], ax_m (ςς) ρ)) h (fun s13 h => ?_)
  refine ax_bk hK (ax_fc (ax_v_ld (ax_r_iload d_L_add_63)) ax_fn) (y := (65, [(5, .inl (.int ((s.1 g 13 6)))), (0, .inr (g, 13)), (1, .inl (.int (a1))), (2, .inl (.int (a2))), (3, .inl (.int (a3))), (4, .inl (.int (a4)))], [.inl (.int ((s.1 g 13 6)))], ax_m (s13) ρ)) rfl ⟨trivial, trivial⟩ ?_
  cases h
  exact ax_iret hA d_L_add_65
