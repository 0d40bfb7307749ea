/-! THE LAW'S LOOP, ITS BEGINNING, THE CLAIM -/
theorem lw_cmp {Ln k : Nat} (hL : Ln ≤ 2048) (hk : k ≤ 512) (h : ¬ (Int32.ofNat Ln - (4 : Int32)) < nI (4 * k)) : 4 * k + 4 ≤ Ln := by
  by_cases h4 : Ln < 4
  · exfalso
    have h0 : ∀ L, L < 4 → Int32.ofNat L - (4 : Int32) < 0 := by decide
    have h1 := h0 Ln h4
    have h2 : (0 : Int32) ≤ nI (4 * k) := nI_pos' (by omega)
    refine h ?_
    rw [Int32.lt_iff_toInt_lt] at h1 ⊢
    rw [Int32.le_iff_toInt_le] at h2
    omega
  · have e : Int32.ofNat Ln - (4 : Int32) = nI (Ln - 4) := by
      have e1 : Int32.ofNat Ln = nI (Ln - 4) + 4 := by
        have e2 := nI_add (Ln - 4) 4
        rw [show Ln - 4 + 4 = Ln by omega] at e2
        exact e2.symm
      rw [e1]
      exact Int32.add_sub_cancel _ _
    rw [e, nI_ltI (by omega) (by omega)] at h
    omega
theorem law_end {p : Program} {l : Launch} {e : Env} {st : State} {m : MethodId} {below : List Frame} {meth : Method} {c : Code} {D : va_G} {cA : Nat → ClassId} {θ : ax_Θ} {b Ln : Nat} {xs : Nat → Int32} {ad : Nat → Nat → Nat} {al : List (Nat × Nat)} {cells slots : Nat} {L : List (Nat × ax_V)} {μ : ax_M} (hret : meth.sig.returnType = ret) (hK : ax_K "CipherNotationLaw" code 8 ((p, l, e, room_1, st, m, #[Value.ref b]), (below, meth, c), (lw_Z below #[Value.ref b] st, fun q : Nat => st.heap.size ≤ q), (D, cA, ad, al, θ))) (hc : cells ≤ 601024) (hs : slots ≤ 7293034) : ax_R ((p, l, e, room_1, st, m, #[Value.ref b]), (below, meth, c), (lw_Z below #[Value.ref b] st, fun q : Nat => st.heap.size ≤ q), (D, cA, ad, al, θ)) 8 cells slots (910, L, [], μ) := by
  refine ax_bk hK (ax_fc (ax_v_pu (ax_r_iconst (v := 1) d_W_law_910 (by decide))) ax_fn) (y := (911, L, [.inl (.int (1 : Int32))], μ)) rfl ⟨trivial, trivial⟩ ?_
  intro H locs ls hP hD hS hl
  obtain ⟨hx, hb, -, -, hlk, -⟩ := hK
  exact va_forget (fun q hq => hS.2.2 q hq) (W.widen hc hs (lw_ret hx hb hret hlk d_W_law_911))
set_option maxHeartbeats 4000000 in
set_option maxRecDepth 100000 in
theorem law_loop {Inv : Option Nat → ax_σ → Prop} (hOK : pr_OK Inv) {p : Program} {l : Launch} {e : Env} {st : State} {m : MethodId} {below : List Frame} {meth : Method} {c : Code} {D : va_G} {cA : Nat → ClassId} {θ : ax_Θ} {b Ln : Nat} {xs : Nat → Int32} (hfl : l.flags = flags0) (hLn : Ln ≤ 2048) (hret : meth.sig.returnType = ret) (hK0 : ∀ ad al, ax_K "CipherNotationLaw" code 8 ((p, l, e, room_1, st, m, #[Value.ref b]), (below, meth, c), (lw_Z below #[Value.ref b] st, fun q : Nat => st.heap.size ≤ q), (D, cA, ad, al, θ))) (hX0 : ∀ ad al, ax_scr b Ln xs ((p, l, e, room_1, st, m, #[Value.ref b]), (below, meth, c), (lw_Z below #[Value.ref b] st, fun q : Nat => st.heap.size ≤ q), (D, cA, ad, al, θ))) : ∀ (n k : Nat) (ph : Option Nat) (s : ax_σ) (ρ : ax_ρ) (ad : Nat → Nat → Nat) (al : List (Nat × Nat)) (cells slots : Nat), Ln ≤ 4 * (k + n) → k ≤ 512 → cells ≤ 200 + 24 * k → slots ≤ 20000 + 3500 * k → lw_I Inv al ρ s ph → ax_R ((p, l, e, room_1, st, m, #[Value.ref b]), (below, meth, c), (lw_Z below #[Value.ref b] st, fun q : Nat => st.heap.size ≤ q), (D, cA, ad, al, θ)) 8 cells slots (23, [(4, .inl (.int (nI (4 * k)))), (3, .inr (0, 37)), (2, .inr (0, 38)), (1, .inr (0, 23)), (0, .inl (.ref b))], [], ax_m s ρ) := by
  intro n
  induction n with
  | zero =>
    intro k ph s ρ ad al cells slots h1 h2 h3 h4 hI
    have hK := hK0 ad al
    refine ax_bk hK (ax_fc (ax_v_ld (ax_r_iload d_W_law_23)) (ax_fc (ax_v_ld (ax_r_aload_n (i := 0) d_W_law_25 rfl)) (ax_fc (ax_w_sn (hX0 ad al) d_W_law_26) (ax_fc (ax_v_pu (ax_r_iconst (v := 4) d_W_law_27 (by decide))) (ax_fc (ax_v_pu (ax_r_isub d_W_law_28)) ax_fn))))) (y := (29, [(4, .inl (.int (nI (4 * k)))), (3, .inr (0, 37)), (2, .inr (0, 38)), (1, .inr (0, 23)), (0, .inl (.ref b))], [.inl (.int (Int32.ofNat Ln - (4 : Int32))), .inl (.int (nI (4 * k)))], ax_m s ρ)) rfl ⟨trivial, trivial, rfl, trivial, trivial, trivial⟩ ?_
    refine ax_ic_gt (tgt := 910) hK d_W_law_29 (by decide) (fun _ => law_end (Ln := Ln) (xs := xs) hret hK (by omega) (by omega)) (fun c1 => ?_)
    have hq := lw_cmp hLn h2 c1
    exact absurd hq (by omega)
  | succ n ih =>
    intro k ph s ρ ad al cells slots h1 h2 h3 h4 hI
    have hK := hK0 ad al
    refine ax_bk hK (ax_fc (ax_v_ld (ax_r_iload d_W_law_23)) (ax_fc (ax_v_ld (ax_r_aload_n (i := 0) d_W_law_25 rfl)) (ax_fc (ax_w_sn (hX0 ad al) d_W_law_26) (ax_fc (ax_v_pu (ax_r_iconst (v := 4) d_W_law_27 (by decide))) (ax_fc (ax_v_pu (ax_r_isub d_W_law_28)) ax_fn))))) (y := (29, [(4, .inl (.int (nI (4 * k)))), (3, .inr (0, 37)), (2, .inr (0, 38)), (1, .inr (0, 23)), (0, .inl (.ref b))], [.inl (.int (Int32.ofNat Ln - (4 : Int32))), .inl (.int (nI (4 * k)))], ax_m s ρ)) rfl ⟨trivial, trivial, rfl, trivial, trivial, trivial⟩ ?_
    refine ax_ic_gt (tgt := 910) hK d_W_law_29 (by decide) (fun _ => law_end (Ln := Ln) (xs := xs) hret hK (by omega) (by omega)) (fun c1 => ?_)
    have hq := lw_cmp hLn h2 c1
    refine ax_bk hK (ax_fc (ax_v_ld (ax_r_aload_n (i := 0) d_W_law_32 rfl)) (ax_fc (ax_v_ld (ax_r_iload d_W_law_33)) (ax_fc (ax_w_sc (hX0 ad al) d_W_law_35) (ax_fc (ax_v_pu (ax_r_bipush (v := 15) d_W_law_36 (by decide))) (ax_fc (ax_v_pu (ax_r_iand d_W_law_38)) ax_fn))))) (y := (39, [(4, .inl (.int (nI (4 * k)))), (3, .inr (0, 37)), (2, .inr (0, 38)), (1, .inr (0, 23)), (0, .inl (.ref b))], [.inl (.int ((xs (nI (4 * k)).toNatClampNeg) &&& (15 : Int32)))], ax_m s ρ)) rfl ⟨trivial, trivial, ⟨rfl, nI_in (by omega) (by omega)⟩, trivial, trivial, trivial⟩ ?_
    have hk1 : vp_in (nI (4 * k) + (1 : Int32)) Ln := by
      rw [show nI (4 * k) + (1 : Int32) = nI (4 * k + 1) from nI_add (4 * k) 1]
      exact nI_in (by omega) (by omega)
    have hk2 : vp_in (nI (4 * k) + (2 : Int32)) Ln := by
      rw [show nI (4 * k) + (2 : Int32) = nI (4 * k + 2) from nI_add (4 * k) 2]
      exact nI_in (by omega) (by omega)
    have hk3 : vp_in (nI (4 * k) + (3 : Int32)) Ln := by
      rw [show nI (4 * k) + (3 : Int32) = nI (4 * k + 3) from nI_add (4 * k) 3]
      exact nI_in (by omega) (by omega)
    refine law_turn hOK hfl hK (hX0 ad al) hk1 hk2 hk3 hI (by omega) (by omega) _ (fun ph2 s2 ρ2 ad2 al2 c2 n2 hI2 hc2 hn2 => ?_)
    refine ax_bk (hK0 ad2 al2) (ax_fc (ax_v_ii (d := 4) d_W_law_904 (by decide)) (ax_fc (ax_v_go (tgt := 23) d_W_law_907 (by decide)) ax_fn)) (y := (23, [(4, .inl (.int (nI (4 * k) + (4 : Int32)))), (3, .inr (0, 37)), (2, .inr (0, 38)), (1, .inr (0, 23)), (0, .inl (.ref b))], [], ax_m s2 ρ2)) rfl ⟨trivial, trivial, trivial⟩ ?_
    rw [show nI (4 * k) + (4 : Int32) = nI (4 * (k + 1)) from nI_add (4 * k) 4]
    exact ih (k + 1) ph2 s2 ρ2 ad2 al2 c2 n2 (by omega) (by omega) (by omega) (by omega) hI2
theorem law_K {args : Array Value} {s : State} (hts : ∀ w ∈ ax_tbl, w.before args s = true) : ∃ (D : va_G) (cA : Nat → ClassId), va_K D ax_cl (ax_tys cA) s := by
  obtain ⟨c0, i0, k0⟩ := u_known (C := nC0) (T := nT0) (N := 9) (n := 9) hts nW0 (hts _ (show Cond.instantiable nC0 9 ∈ ax_tbl from nw_1 129 (by decide +kernel) rfl))
  obtain ⟨c1, i1, k1⟩ := u_known (C := nC1) (T := nT1) (N := 7) (n := 7) hts nW1 (hts _ (show Cond.instantiable nC1 7 ∈ ax_tbl from nw_1 175 (by decide +kernel) rfl))
  obtain ⟨c2, i2, k2⟩ := u_known (C := nC2) (T := nT2) (N := 9) (n := 9) hts nW2 (hts _ (show Cond.instantiable nC2 9 ∈ ax_tbl from nw_1 84 (by decide +kernel) rfl))
  obtain ⟨c3, i3, k3⟩ := u_known (C := nC3) (T := nT3) (N := 9) (n := 9) hts nW3 (hts _ (show Cond.instantiable nC3 9 ∈ ax_tbl from nw_1 123 (by decide +kernel) rfl))
  obtain ⟨c4, i4, k4⟩ := u_known (C := nC4) (T := nT4) (N := 15) (n := 15) hts nW4 (hts _ (show Cond.instantiable nC4 15 ∈ ax_tbl from nw_1 29 (by decide +kernel) rfl))
  obtain ⟨c5, i5, k5⟩ := u_known (C := nC5) (T := nT5) (N := 7) (n := 7) hts nW5 (hts _ (show Cond.instantiable nC5 7 ∈ ax_tbl from nw_1 21 (by decide +kernel) rfl))
  obtain ⟨c6, i6, k6⟩ := u_known (C := nC6) (T := nT6) (N := 73) (n := 73) hts nW6 (hts _ (show Cond.instantiable nC6 73 ∈ ax_tbl from nw_4 132 (by decide +kernel) rfl))
  obtain ⟨a0, ka0, co0, f0, g0, h0⟩ := Cond.arrayClass_spec (hts _ (show Cond.arrayClass .int ∈ ax_tbl from nw_1 82 (by decide +kernel) rfl))
  obtain ⟨a1, ka1, co1, f1, g1, h1⟩ := Cond.arrayClass_spec (hts _ (show Cond.arrayClass .char ∈ ax_tbl from nw_1 81 (by decide +kernel) rfl))
  obtain ⟨a2, ka2, co2, f2, g2, h2⟩ := Cond.arrayClass_spec (hts _ (show Cond.arrayClass .long ∈ ax_tbl from nw_1 121 (by decide +kernel) rfl))
  obtain ⟨a3, ka3, co3, f3, g3, h3⟩ := Cond.arrayClass_spec (hts _ (show Cond.arrayClass .boolean ∈ ax_tbl from nw_5 117 (by decide +kernel) rfl))
  refine ⟨(fun k => match k with | 0 => c0 | 1 => c1 | 2 => c2 | 3 => c3 | 4 => c4 | 5 => c5 | _ => c6, fun k => match k with | 0 => i0 | 1 => i1 | 2 => i2 | 3 => i3 | 4 => i4 | 5 => i5 | _ => i6), fun k => match k with | 0 => a0 | 1 => a1 | 2 => a2 | _ => a3, fun c q hq => ?_, fun k q hq => ?_⟩
  · match c, hq with
    | 0, hq => cases hq; exact k0
    | 1, hq => cases hq; exact k1
    | 2, hq => cases hq; exact k2
    | 3, hq => cases hq; exact k3
    | 4, hq => cases hq; exact k4
    | 5, hq => cases hq; exact k5
    | 6, hq => cases hq; exact k6
    | n + 7, hq => simp [ax_cl] at hq
  · match k, hq with
    | 0, hq => cases hq; exact ⟨fun n z => ⟨fun k h => (by cases h), ka0, g0, co0, h0⟩, f0⟩
    | 1, hq => cases hq; exact ⟨fun n z => ⟨fun k h => (by cases h), ka1, g1, co1, h1⟩, f1⟩
    | 2, hq => cases hq; exact ⟨fun n z => ⟨fun k h => (by cases h), ka2, g2, co2, h2⟩, f2⟩
    | 3, hq => cases hq; exact ⟨fun n z => ⟨fun k h => (by cases h), ka3, g3, co3, h3⟩, f3⟩
    | n + 4, hq => simp [ax_tys] at hq
theorem ax_LSof {args : Array Value} {s : State} {C n d : String} {A : Nat → Prop} (hl : (Cond.laysStatic C n d).before args s = true) (h : (Cond.isRef (.static C n d)).before args s = true) (hA : ∀ a : Nat, a < s.heap.size → ¬ A a) : ax_LS C n d A s s.heap := by
  cases hv : (Term.static C n d).eval args s none [] s with
  | none => simp [Cond.before, Cond.holds, Cond.value, hv] at h
  | some w =>
    simp only [Cond.before, Cond.holds, Cond.value, hv] at h
    obtain ⟨c, k, i, f, a, cell, hc, hi, hst, ha, hcell, hs, hcls, hlt, hty⟩ := Cond.laysStatic_spec hl
    obtain ⟨hst', a', cell', ha', hcell', -, hslot⟩ := Term.static_spec hi hv
    cases ha.symm.trans ha'
    cases hcell.symm.trans hcell'
    refine ⟨c, k, i, f, a, cell, w, hc, hi, hst, ha, hcell, hs, hcls, hlt, hty, hA a (Array.getElem?_eq_some_iff.mp hcell).1, hslot, ?_⟩
    cases w with
    | null => exact Or.inl rfl
    | ref t => exact Or.inr ⟨t, rfl⟩
    | _ => simp at h
theorem ax_NCof {args : Array Value} {s : State} {X Y : String} {cx cy : ClassId} (h : (Cond.not (.castable X Y)).before args s = true) (hx : s.vm.findClass X = some cx) (hy : s.vm.findClass Y = some cy) : s.vm.assignable cx cy = false := by
  have hv := Cond.holds_not_iff.mp h
  simp only [Cond.value, hx, hy] at hv
  exact Option.some.inj hv
def lw_tm (i : Nat) : Term := if i = 0 then .string "CipherNotation$Reader" 136 else .string "CipherNotation$Reader" 255
theorem lw_tm_el : ∀ i, i < 2 → ∀ j, j < ax_len.getD i 0 → Cond.eq (.elem (.field (lw_tm i) "java/lang/String" "value" "[B") (.int (Int32.ofNat j))) (.int ((ax_byt.getD i []).getD j 0)) ∈ flatC (Jvm.Cond.and given_1 narrow_1) := by decide +kernel
theorem lw_tm_ex : ∀ i, i < 2 → Cond.exactly (lw_tm i) "java/lang/String" ∈ flatC (Jvm.Cond.and given_1 narrow_1) := by decide +kernel
theorem lw_tm_co : ∀ i, i < 2 → Cond.eq (.field (lw_tm i) "java/lang/String" "coder" "B") (.int 0) ∈ flatC (Jvm.Cond.and given_1 narrow_1) := by decide +kernel
theorem lw_tm_ar : ∀ i, i < 2 → Cond.arrayOf (.field (lw_tm i) "java/lang/String" "value" "[B") .byte ∈ flatC (Jvm.Cond.and given_1 narrow_1) := by decide +kernel
theorem lw_tm_le : ∀ i, i < 2 → Cond.eq (.length (.field (lw_tm i) "java/lang/String" "value" "[B")) (.int (Int32.ofNat (ax_len.getD i 0))) ∈ flatC (Jvm.Cond.and given_1 narrow_1) := by decide +kernel
theorem lw_tm_ne : ∀ i, i < 2 → ∀ j, j < 2 → i ≠ j → Cond.not (Cond.eq (lw_tm i) (lw_tm j)) ∈ flatC (Jvm.Cond.and given_1 narrow_1) ∨ Cond.not (Cond.eq (lw_tm j) (lw_tm i)) ∈ flatC (Jvm.Cond.and given_1 narrow_1) := by decide +kernel
theorem lw_tm_N : ∀ i, i < 2 → ax_len.getD i 0 < 2 ^ 31 := by decide
set_option maxHeartbeats 4000000 in
set_option maxRecDepth 100000 in
theorem law_Z {b : Nat} {s : State} (hts0 : ∀ w ∈ lw_tbl, w.before #[Value.ref b] s = true) (hgv : (Jvm.Cond.and given_1 narrow_1).before #[Value.ref b] s = true) : ∃ θ : ax_Θ, ax_Z θ (fun q : Nat => s.heap.size ≤ q) s s.heap := by
  have hn := flat_of_before _ hgv
  have hnA : ∀ a : Nat, a < s.heap.size → ¬ (fun q : Nat => s.heap.size ≤ q) a := fun a h => Nat.not_le.mpr h
  obtain ⟨adK, adV, hS, hev⟩ := vk_Sof (N := 2) (tm := lw_tm) (len := ax_len) (byt := ax_byt) (A := fun q : Nat => s.heap.size ≤ q) (args := #[Value.ref b]) (s := s) lw_tm_N (fun i hi => hn _ (lw_tm_ex i hi)) (fun i hi => hn _ (lw_tm_co i hi)) (fun i hi => hn _ (lw_tm_ar i hi)) (fun i hi => hn _ (lw_tm_le i hi)) (fun i hi j hj => hn _ (lw_tm_el i hi j hj)) (fun i j hi hj hij => (lw_tm_ne i hi j hj hij).imp (fun h => hn _ h) (fun h => hn _ h)) hnA
  have e0 : (Term.string "CipherNotation$Reader" 136).eval #[Value.ref b] s none [] s = some (.ref (adK 0)) := hev 0 (by decide)
  have e1 : (Term.string "CipherNotation$Reader" 255).eval #[Value.ref b] s none [] s = some (.ref (adK 1)) := hev 1 (by decide)
  have e2 : (Term.string "CipherNotation$Machine" 119).eval #[Value.ref b] s none [] s = some (.ref (adK 1)) := va_eqR (hn (Cond.eq (.string "CipherNotation$Reader" 255) (.string "CipherNotation$Machine" 119)) (by decide +kernel)) e1
  have hcast : ∀ X ∈ ["java/lang/IllegalStateException", "java/lang/IllegalArgumentException", "java/lang/IndexOutOfBoundsException"], ∃ c, s.vm.findClass X = some c := by
    intro X hX
    simp only [List.mem_cons, List.not_mem_nil, or_false] at hX
    rcases hX with rfl | rfl | rfl
    · obtain ⟨c, -, h1, -, -⟩ := Cond.castable_spec (hts0 (.castable "java/lang/IllegalStateException" "java/lang/IllegalStateException") (List.mem_append_right _ (List.mem_of_getElem? (i := 638) (by decide +kernel)))); exact ⟨c, h1⟩
    · obtain ⟨c, -, h1, -, -⟩ := Cond.castable_spec (hts0 (.castable "java/lang/IllegalArgumentException" "java/lang/IllegalArgumentException") (List.mem_append_right _ (List.mem_of_getElem? (i := 701) (by decide +kernel)))); exact ⟨c, h1⟩
    · obtain ⟨c, -, h1, -, -⟩ := Cond.castable_spec (hts0 (.castable "java/lang/IndexOutOfBoundsException" "java/lang/IndexOutOfBoundsException") (List.mem_append_right _ (List.mem_of_getElem? (i := 727) (by decide +kernel)))); exact ⟨c, h1⟩
  refine ⟨(adK, adV, fun _ => .null), hS, va_Zof (hts0 (.laysStatic "java/lang/String" "COMPACT_STRINGS" "Z") (List.mem_append_right _ (List.mem_of_getElem? (i := 361) (by decide +kernel)))) (hts0 (.initialized "java/lang/String") (List.mem_append_right _ (List.mem_of_getElem? (i := 9) (by decide +kernel)))) (va_eqi (hn _ (show Cond.eq (.static "java/lang/String" "COMPACT_STRINGS" "Z") (.int 1) ∈ _ by decide +kernel))) hnA, ?_, ?_, ?_, va_Zqof (hts0 (.laysStatic "jdk/internal/util/Preconditions" "SIOOBE_FORMATTER" "Ljava/util/function/BiFunction;") (List.mem_append_right _ (List.mem_of_getElem? (i := 402) (by decide +kernel)))) (hts0 (.initialized "jdk/internal/util/Preconditions") (List.mem_append_right _ (List.mem_of_getElem? (i := 12) (by decide +kernel)))) (hn _ (show Cond.isRef (.static "jdk/internal/util/Preconditions" "SIOOBE_FORMATTER" "Ljava/util/function/BiFunction;") ∈ _ by decide +kernel)) hnA, ax_LSof (hts0 (.laysStatic "java/lang/Throwable" "UNASSIGNED_STACK" "[Ljava/lang/StackTraceElement;") (List.mem_append_right _ (List.mem_of_getElem? (i := 663) (by decide +kernel)))) (hn _ (show Cond.isRef (.static "java/lang/Throwable" "UNASSIGNED_STACK" "[Ljava/lang/StackTraceElement;") ∈ _ by decide +kernel)) hnA, ax_LSof (hts0 (.laysStatic "java/lang/Throwable" "SUPPRESSED_SENTINEL" "Ljava/util/List;") (List.mem_append_right _ (List.mem_of_getElem? (i := 665) (by decide +kernel)))) (hn _ (show Cond.isRef (.static "java/lang/Throwable" "SUPPRESSED_SENTINEL" "Ljava/util/List;") ∈ _ by decide +kernel)) hnA, fun c hc => ?_, ?_⟩
  · exact vk_R.of (hts0 (.stringRef "CipherNotation$Reader" 136 "0123456789abcdef") (List.mem_append_right _ (List.mem_of_getElem? (i := 347) (by decide +kernel)))) e0
  · exact vk_R.of (hts0 (.stringRef "CipherNotation$Reader" 255 "^&|+-*<") (List.mem_append_right _ (List.mem_of_getElem? (i := 480) (by decide +kernel)))) e1
  · exact vk_R.of (hts0 (.stringRef "CipherNotation$Machine" 119 "^&|+-*<") (List.mem_append_right _ (List.mem_of_getElem? (i := 792) (by decide +kernel)))) e2
  · simp only [ax_xw, List.mem_cons, List.not_mem_nil, or_false] at hc
    rcases hc with rfl | rfl | rfl | rfl | rfl | rfl
    · exact va_any rfl (hts0 (.castable "java/lang/IllegalStateException" "java/lang/IllegalStateException") (List.mem_append_right _ (List.mem_of_getElem? (i := 638) (by decide +kernel))))
    · exact va_any rfl (hts0 (.castable "java/lang/IllegalArgumentException" "java/lang/IllegalArgumentException") (List.mem_append_right _ (List.mem_of_getElem? (i := 701) (by decide +kernel))))
    · exact va_any rfl (hts0 (.castable "java/lang/IndexOutOfBoundsException" "java/lang/IndexOutOfBoundsException") (List.mem_append_right _ (List.mem_of_getElem? (i := 727) (by decide +kernel))))
    · exact va_any rfl (hts0 (.declares ⟨"java/lang/RuntimeException", "<init>", "()V"⟩) (List.mem_append_right _ (List.mem_of_getElem? (i := 639) (by decide +kernel))))
    · exact va_any rfl (hts0 (.declares ⟨"java/lang/Exception", "<init>", "()V"⟩) (List.mem_append_right _ (List.mem_of_getElem? (i := 641) (by decide +kernel))))
    · exact va_any rfl (hts0 (.declares ⟨"java/lang/Throwable", "<init>", "()V"⟩) (List.mem_append_right _ (List.mem_of_getElem? (i := 643) (by decide +kernel))))
  · obtain ⟨cS, hcS⟩ := hcast "java/lang/IllegalStateException" (by simp)
    obtain ⟨cG, hcG⟩ := hcast "java/lang/IllegalArgumentException" (by simp)
    obtain ⟨cI, hcI⟩ := hcast "java/lang/IndexOutOfBoundsException" (by simp)
    intro z hz
    simp only [ax_nc, List.mem_cons, List.not_mem_nil, or_false] at hz
    rcases hz with rfl | rfl | rfl
    · exact ⟨cG, cS, hcG, hcS, ax_NCof (hn (.not (.castable "java/lang/IllegalArgumentException" "java/lang/IllegalStateException")) (by decide +kernel)) hcG hcS⟩
    · exact ⟨cI, cS, hcI, hcS, ax_NCof (hn (.not (.castable "java/lang/IndexOutOfBoundsException" "java/lang/IllegalStateException")) (by decide +kernel)) hcI hcS⟩
    · exact ⟨cG, cI, hcG, hcI, ax_NCof (hn (.not (.castable "java/lang/IllegalArgumentException" "java/lang/IndexOutOfBoundsException")) (by decide +kernel)) hcG hcI⟩
theorem bx_fs_cong {ad ad' : Nat → Nat → Nat} {μ : ax_M} {g r : Nat} (h4 : ∀ k, ax_rv ad' (μ.2.2 g r k) = ax_rv ad (μ.2.2 g r k)) : ∀ (fk : List Nat) (k : Nat), (∀ t ∈ fk, ∀ t', t = t' + 3 → ad' g t' = ad g t') → bx_fs ad' μ g r k fk = bx_fs ad μ g r k fk
  | [], _, _ => rfl
  | t :: fk, k, h => by
    rw [bx_fs, bx_fs, bx_fs_cong h4 fk (k + 1) (fun x hx => h x (List.mem_cons_of_mem _ hx))]
    congr 1
    match t, h t List.mem_cons_self with
    | 0, _ => rfl
    | 1, _ => rfl
    | 2, _ => simp only [ax_fv, h4]
    | t' + 3, h' => simp only [ax_fv, h' t' rfl]
theorem ax_ws_cong {cA : Nat → ClassId} {ad ad' : Nat → Nat → Nat} {μ : ax_M} {al : List (Nat × Nat)} (h : ∀ q ∈ al, ad' q.1 q.2 = ad q.1 q.2 ∧ (∀ t ∈ (ax_ly q.2).2.2, ∀ t', t = t' + 3 → ad' q.1 t' = ad q.1 t') ∧ ∀ k, ax_rv ad' (μ.2.2 q.1 q.2 k) = ax_rv ad (μ.2.2 q.1 q.2 k)) : ax_ws cA ad' al μ = ax_ws cA ad al μ := by
  unfold ax_ws
  refine List.map_congr_left (fun q hq => ?_)
  obtain ⟨h1, h2, h3⟩ := h q hq
  have e : ax_cell cA ad' μ q.1 q.2 = ax_cell cA ad μ q.1 q.2 := by
    unfold ax_cell
    split
    · rename_i ci fk hly
      rw [hly] at h2
      rw [bx_fs_eq, bx_fs_eq, bx_fs_cong h3 fk 0 h2]
    · rfl
    · rfl
    · rfl
    · rfl
  rw [h1, e]
theorem lw_lX : ∀ q ∈ al_X, q.1 = 0 ∧ q.2 < 37 ∧ ∀ t ∈ (ax_ly q.2).2.2, t < 40 := by decide
theorem lw_lZ : ∀ q ∈ al_Z, q.1 = 0 ∧ 38 ≤ q.2 ∧ ∀ t ∈ (ax_ly q.2).2.2, t < 3 ∨ 41 ≤ t := by decide
theorem bx_μ_q : ∀ r k q, bx_μ.2.2 0 r k = some q → r = 23 ∧ q = (0, 0) := by
  intro r k q h
  unfold bx_μ at h
  simp only at h
  split at h
  · split at h
    · cases h; exact ⟨rfl, rfl⟩
    · cases h
  · cases h
def lw_ad (ad1 ad2 : Nat → Nat → Nat) (q3 : Nat) : Nat → Nat → Nat := fun g r => if r = 37 then q3 else if 38 ≤ r then ad2 g r else ad1 g r
theorem lw_ws {cA : Nat → ClassId} {ad1 ad2 : Nat → Nat → Nat} {q3 : Nat} : ax_ws cA (lw_ad ad1 ad2 q3) alA bx_μ = ax_ws cA ad1 al_X bx_μ ++ (ax_ws cA ad2 al_Z bx_μ ++ [(q3, bx_z cA 1 2)]) := by
  have eX : ax_ws cA (lw_ad ad1 ad2 q3) al_X bx_μ = ax_ws cA ad1 al_X bx_μ := by
    refine ax_ws_cong (fun q hq => ?_)
    obtain ⟨h1, h2, h3⟩ := lw_lX q hq
    have hlt : ∀ g r, r < 37 → lw_ad ad1 ad2 q3 g r = ad1 g r := fun g r h => by
      unfold lw_ad; rw [if_neg (by omega), if_neg (by omega)]
    refine ⟨hlt _ _ h2, fun t ht t' e => hlt _ _ (by have := h3 t ht; omega), fun k => ?_⟩
    cases hq2 : bx_μ.2.2 q.1 q.2 k with
    | none => rfl
    | some z =>
      rw [h1] at hq2
      rw [(bx_μ_q _ _ _ hq2).2]
      show Value.ref _ = Value.ref _
      rw [hlt 0 0 (by decide)]
  have eZ : ax_ws cA (lw_ad ad1 ad2 q3) al_Z bx_μ = ax_ws cA ad2 al_Z bx_μ := by
    refine ax_ws_cong (fun q hq => ?_)
    obtain ⟨h1, h2, h3⟩ := lw_lZ q hq
    have hge : ∀ g r, 38 ≤ r → lw_ad ad1 ad2 q3 g r = ad2 g r := fun g r h => by
      unfold lw_ad; rw [if_neg (by omega), if_pos h]
    refine ⟨hge _ _ h2, fun t ht t' e => hge _ _ (by have := h3 t ht; omega), fun k => ?_⟩
    cases hq2 : bx_μ.2.2 q.1 q.2 k with
    | none => rfl
    | some z =>
      rw [h1] at hq2
      have := (bx_μ_q _ _ _ hq2).1
      omega
  have e : ax_ws cA (lw_ad ad1 ad2 q3) alA bx_μ = ax_ws cA (lw_ad ad1 ad2 q3) al_X bx_μ ++ (ax_ws cA (lw_ad ad1 ad2 q3) al_Z bx_μ ++ ax_ws cA (lw_ad ad1 ad2 q3) [(0, 37)] bx_μ) := by
    unfold ax_ws alA
    rw [List.map_append, List.map_append]
  rw [e, eX, eZ]
  rfl
/-- a store of a reference, in a walk over growing cells -/
theorem bx_as {own : String} {cc : ByteArray} {nL : Nat} {l : Launch} {D : va_G} {cA : Nat → ClassId} {rm : Room} {G : bx_G} {cells slots pc i x : Nat} {k0 : Fin 4} {L L' : List (Nat × Value)} {rest : List Value} {ws : va_W} (hK : bx_K own cc nL l D cA rm G) (hd : decode cc pc = .ok (.astore_n k0, 1)) (hi : (k0 : Nat) = i) (hn : i < nL) (hL : (i, Value.ref x) :: L.filter (fun q => !(q.1 == i) && !(q.1 + 1 == i && q.2.category == 2)) = L') (kk : bx_R G nL cells slots (pc + 1) L' rest ws) : bx_R G nL cells slots pc L (.ref x :: rest) ws := by
  obtain ⟨⟨p, l0, e, R, s, m, args⟩, ⟨below, meth, c⟩, ⟨Q, A⟩, ⟨D0, cA0⟩⟩ := G
  obtain ⟨hx, hb, -⟩ := hK
  intro H locs ls hP hD hS hl
  exact lv_astore_n hx hb hd hi hl hn hL (fun ls' hl' => kk H locs ls' hP hD hS hl')
theorem bx_k {own : String} {cc : ByteArray} {nL : Nat} {l : Launch} {D : va_G} {cA : Nat → ClassId} {rm : Room} {G : bx_G} {cells slots pc n : Nat} {v : Value} {L : List (Nat × Value)} {ws : va_W} (hK : bx_K own cc nL l D cA rm G) (ho : ax_okp cc pc n (ax_s_k v)) (kk : bx_R G nL cells slots (pc + n) L [v] ws) : bx_R G nL cells slots pc L [] ws := by
  obtain ⟨⟨p, l0, e, R, s, m, args⟩, ⟨below, meth, c⟩, ⟨Q, A⟩, ⟨D0, cA0⟩⟩ := G
  obtain ⟨hx, hb, -⟩ := hK
  intro H locs ls hP hD hS hl
  exact ho p l0 e R s m args below meth c H locs cells slots Q ls (fun _ _ => 0) [] [.inl v] hx hb rfl (kk H locs ls hP hD hS hl)
theorem lcwi_51 : ax_cw "CipherNotationLaw" 51 y_X_init (.code y_X_init prog_1_method_1_code 1 none) 0 := ⟨nw_1 22 (by decide +kernel) rfl, nw_1 1 (by decide +kernel) rfl, nw_1 24 rfl rfl, by decide +kernel, by decide +kernel⟩
theorem lcwi_54 : ax_cw "CipherNotationLaw" 54 y_Z_init (.code y_Z_init prog_8_method_1_code 1 none) 0 := ⟨nw_4 133 (by decide +kernel) rfl, nw_1 7 (by decide +kernel) rfl, nw_4 135 rfl rfl, by decide +kernel, by decide +kernel⟩
set_option maxHeartbeats 4000000 in
set_option maxRecDepth 100000 in
/-- THE LAW, from its entry, out of what is to be shown of the functions -/
theorem law_begin {Inv : Option Nat → ax_σ → Prop} (hOK : pr_OK Inv) {p : Program} {e : Env} {s : State} {m : MethodId} {below : List Frame} {meth : Method} {c : Code} (l : Launch) (hfl : l.flags = flags0) {b L : Nat} {xs : Nat → Int32} (hL : L ≤ 2048) (C0 : lw_At p s m meth c b L xs) : W p l e room_1 s m #[Value.ref b] below meth c s.heap [] 0 0 (lw_Z below #[Value.ref b] s) (entryFrame m ([Value.ref b] : List Value).toArray 8) := by
  obtain ⟨hx, hb, hr, hml, hown, hts0, hX, hbl, hlocks, hgv⟩ := id C0
  have hts : ∀ w ∈ ax_tbl, w.before #[Value.ref b] s = true := fun w hw => hts0 w (List.mem_filter.mp hw).1
  have hA : ∀ q : Nat, s.heap.size ≤ q → (fun q : Nat => s.heap.size ≤ q) q := fun _ h => h
  have hbA : ¬ (fun q : Nat => s.heap.size ≤ q) b := Nat.not_le.mpr hbl
  obtain ⟨D, cA, hKK⟩ := law_K hts
  obtain ⟨θ, hZ⟩ := law_Z hts0 hgv
  have hl := lv_entry ([.ref b]) (n := 8) (Nat.le_of_ble_eq_true rfl)
  rw [lg_entry_eq]
  generalize (lg_sl ([.ref b]) ++ List.replicate (8 - (lg_sl ([.ref b])).length) Slot.unset).toArray = ls at hl ⊢
  have hl : lv_has ls 8 [(0, .ref b)] := hl
  have hP : va_P D ax_cl [] s.heap := fun k q h => by simp at h
  have hD : va_D (fun q : Nat => s.heap.size ≤ q) [] := ⟨fun i j p q h => by simp at h, fun k q h => by simp at h⟩
  have hK : bx_K "CipherNotationLaw" code 8 l D cA room_1 ((p, l, e, room_1, s, m, #[Value.ref b]), (below, meth, c), (lw_Z below #[Value.ref b] s, fun q : Nat => s.heap.size ≤ q), (D, cA)) := ⟨hx, hb, hown, hml, hts, hKK, hA, rfl, rfl, rfl, rfl⟩
  suffices hgo : bx_R ((p, l, e, room_1, s, m, #[Value.ref b]), (below, meth, c), (lw_Z below #[Value.ref b] s, fun q : Nat => s.heap.size ≤ q), (D, cA)) 8 0 0 0 [(0, .ref b)] [] [] from hgo s.heap [] ls hP hD va_S.rf hl
  refine bx_o (pc' := 7) (c' := 37) (s' := 4231) hK t_X_init lcwi_51 (nw_1 23 (by decide +kernel) rfl) rfl rfl nW5 nO5 (nw_1 20 (by decide +kernel) rfl) (nw_1 21 (by decide +kernel) rfl) (nw_1 1 (by decide +kernel) rfl) d_W_law_0 d_W_law_3 d_W_law_4 rfl rfl rfl (Nat.le_of_ble_eq_true rfl) (Nat.le_of_ble_eq_true rfl) (Nat.le_of_ble_eq_true rfl) (Nat.le_of_ble_eq_true rfl) (Nat.le_of_ble_eq_true rfl) (fun q1 ad1 e1 => ?_)
  refine bx_as hK d_W_law_7 rfl (by decide) rfl ?_
  refine bx_o (pc' := 15) (c' := 81) (s' := 11086) hK t_Z_init lcwi_54 (nw_4 134 (by decide +kernel) rfl) rfl rfl nW6 nO6 (nw_4 131 (by decide +kernel) rfl) (nw_4 132 (by decide +kernel) rfl) (nw_1 7 (by decide +kernel) rfl) d_W_law_8 d_W_law_11 d_W_law_12 rfl rfl rfl (Nat.le_of_ble_eq_true rfl) (Nat.le_of_ble_eq_true rfl) (Nat.le_of_ble_eq_true rfl) (Nat.le_of_ble_eq_true rfl) (Nat.le_of_ble_eq_true rfl) (fun q2 ad2 e2 => ?_)
  refine bx_as hK d_W_law_15 rfl (by decide) rfl ?_
  refine bx_k hK (ax_r_iconst (v := 1) d_W_law_16 (by decide)) ?_
  refine bx_n (t := 2) (N := 1) hK (by decide) (nw_1 121 (by decide +kernel) rfl) d_W_law_17 (by decide) (by decide) (by decide) (Nat.le_of_ble_eq_true rfl) (Nat.le_of_ble_eq_true rfl) (fun q3 => ?_)
  refine bx_as hK d_W_law_19 rfl (by decide) rfl ?_
  have hK0 : ∀ ad al, ax_K "CipherNotationLaw" code 8 ((p, l, e, room_1, s, m, #[Value.ref b]), (below, meth, c), (lw_Z below #[Value.ref b] s, fun q : Nat => s.heap.size ≤ q), (D, cA, ad, al, θ)) := fun _ _ => ⟨hx, hb, hown, hml, hlocks, hts, hKK, hA, hZ⟩
  have hX0 : ∀ ad al, ax_scr b L xs ((p, l, e, room_1, s, m, #[Value.ref b]), (below, meth, c), (lw_Z below #[Value.ref b] s, fun q : Nat => s.heap.size ≤ q), (D, cA, ad, al, θ)) := fun _ _ => ⟨hX, hbl, hbA⟩
  have hI : lw_I Inv alA bx_μ.2.2 (bx_μ.1, bx_μ.2.1) none := ⟨hOK.init, rfl, rfl, rfl, fun r k q h => by rw [(bx_μ_q r k q h).2]⟩
  have hgo := law_loop hOK hfl hL hr hK0 hX0 513 0 none (bx_μ.1, bx_μ.2.1) bx_μ.2.2 (lw_ad ad1 ad2 q3) alA 82 11087 (by omega) (by omega) (by omega) (by omega) hI
  have hg2 : ax_R ((p, l, e, room_1, s, m, #[Value.ref b]), (below, meth, c), (lw_Z below #[Value.ref b] s, fun q : Nat => s.heap.size ≤ q), (D, cA, lw_ad ad1 ad2 q3, alA, θ)) 8 82 11087 (20, [(3, .inr (0, 37)), (2, .inr (0, 38)), (1, .inr (0, 23)), (0, .inl (.ref b))], [], bx_μ) := by
    refine ax_bk (hK0 _ _) (ax_fc (ax_v_pu (ax_r_iconst (v := 0) d_W_law_20 (by decide))) (ax_fc (ax_v_so (ax_r_istore d_W_law_21)) ax_fn)) (y := (23, [(4, .inl (.int (0 : Int32))), (3, .inr (0, 37)), (2, .inr (0, 38)), (1, .inr (0, 23)), (0, .inl (.ref b))], [], bx_μ)) rfl ⟨trivial, trivial, trivial⟩ ?_
    exact hgo
  intro H locs ls hP hD hS hl
  refine hg2 H locs ls ?_ ?_ hS ?_
  · rw [lw_ws]; simpa using hP
  · rw [lw_ws]; simpa using hD
  · have f1 : lw_ad ad1 ad2 q3 0 23 = q1 := e1
    have f2 : lw_ad ad1 ad2 q3 0 38 = q2 := e2
    have f3 : lw_ad ad1 ad2 q3 0 37 = q3 := rfl
    have f4 : ax_L (lw_ad ad1 ad2 q3) [(3, .inr (0, 37)), (2, .inr (0, 38)), (1, .inr (0, 23)), (0, .inl (.ref b))] = [(3, .ref q3), (2, .ref q2), (1, .ref q1), (0, .ref b)] := by
      simp only [ax_L, List.map_cons, List.map_nil, ax_cv, f1, f2, f3]
    rw [f4]; exact hl
