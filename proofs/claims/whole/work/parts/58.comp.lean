/-! COMPILE -/
theorem ax_fv_cong {ad ad' : Nat → Nat → Nat} {μ μ' : ax_M} {g r : Nat} (h1 : ∀ t, ad' g t = ad g t) (h2 : μ'.1 g r = μ.1 g r) (h3 : μ'.2.1 g r = μ.2.1 g r) (h4 : ∀ k, ax_rv ad' (μ'.2.2 g r k) = ax_rv ad (μ.2.2 g r k)) : ∀ k t, ax_fv ad' μ' g r k t = ax_fv ad μ g r k t
  | k, 0 => by simp only [ax_fv, h2]
  | k, 1 => by simp only [ax_fv, h3]
  | k, 2 => by simp only [ax_fv, h4]
  | k, t + 3 => by simp only [ax_fv, h1]
theorem ax_cell_cong {cA : Nat → ClassId} {ad ad' : Nat → Nat → Nat} {μ μ' : ax_M} {g r : Nat} (h1 : ∀ t, ad' g t = ad g t) (h2 : μ'.1 g r = μ.1 g r) (h3 : μ'.2.1 g r = μ.2.1 g r) (h4 : ∀ k, ax_rv ad' (μ'.2.2 g r k) = ax_rv ad (μ.2.2 g r k)) : ax_cell cA ad' μ' g r = ax_cell cA ad μ g r := by
  have e : ∀ fk : List Nat, ax_fs ad' μ' g r fk = ax_fs ad μ g r fk := by
    intro fk
    unfold ax_fs
    congr 1
    funext k t
    exact ax_fv_cong h1 h2 h3 h4 k t
  unfold ax_cell
  split <;> simp only [e, h2, h3]
/-- the memory with a new program's cells -/
def bx_mix (μ : ax_M) : ax_M := (fun g r => if g = 1 then bx_μ.1 g r else μ.1 g r, fun g r => if g = 1 then bx_μ.2.1 g r else μ.2.1 g r, fun g r => if g = 1 then bx_μ.2.2 g r else μ.2.2 g r)
theorem al_P1 : ∀ q ∈ al_P 1, q.1 = 1 ∧ q.2 < 23 := by decide
theorem al_P1' : ∀ r, r < 23 → (1, r) ∈ al_P 1 := by decide
theorem bx_μ_none {r k : Nat} (h : r < 23) : bx_μ.2.2 1 r k = none := by
  have h2 : r ≠ 23 := by omega
  unfold bx_μ
  simp only
theorem ax_uRq {ρ : ax_ρ} {g' r' k' : Nat} {v : Nat × Nat} (hv : v.1 = 0) (h : ∀ r k q, ρ 0 r k = some q → q.1 = 0) : ∀ r k q, ax_uR ρ g' r' k' (some v) 0 r k = some q → q.1 = 0 := by
  intro r k q hq
  unfold ax_uR at hq
  split at hq
  · cases hq; exact hv
  · exact h r k q hq
theorem ax_mix_ws {cA : Nat → ClassId} {ad ad1 : Nat → Nat → Nat} {al : List (Nat × Nat)} {μ : ax_M} (ha : ∀ q ∈ al, q.1 = 0) (hρ : ∀ r k q, μ.2.2 0 r k = some q → q.1 = 0) : ax_ws cA (fun g r => if g = 1 then ad1 g r else ad g r) (al ++ al_P 1) (bx_mix μ) = ax_ws cA ad al μ ++ ax_ws cA ad1 (al_P 1) bx_μ := by
  have s0 : ∀ (f : Nat → Nat → Nat) (l1 l2 : List (Nat × Nat)) (ν : ax_M), ax_ws cA f (l1 ++ l2) ν = ax_ws cA f l1 ν ++ ax_ws cA f l2 ν := fun f l1 l2 ν => List.map_append
  have p1 : ax_ws cA (fun g r => if g = 1 then ad1 g r else ad g r) al (bx_mix μ) = ax_ws cA ad al μ := by
    refine List.map_congr_left (fun q hq => ?_)
    obtain ⟨g, r⟩ := q
    have hg : g = 0 := ha _ hq
    subst hg
    have e : ax_cell cA (fun g r => if g = 1 then ad1 g r else ad g r) (bx_mix μ) 0 r = ax_cell cA ad μ 0 r := by
      refine ax_cell_cong (fun t => by simp) (by simp [bx_mix]) (by simp [bx_mix]) (fun k => ?_)
      have h0 : (bx_mix μ).2.2 0 r k = μ.2.2 0 r k := by simp [bx_mix]
      rw [h0]
      cases hq2 : μ.2.2 0 r k with
      | none => rfl
      | some z => simp [ax_rv, hρ r k z hq2]
    simp only [e]
    simp
  have p2 : ax_ws cA (fun g r => if g = 1 then ad1 g r else ad g r) (al_P 1) (bx_mix μ) = ax_ws cA ad1 (al_P 1) bx_μ := by
    refine List.map_congr_left (fun q hq => ?_)
    obtain ⟨g, r⟩ := q
    obtain ⟨hg, hr⟩ := al_P1 _ hq
    have hg : g = 1 := hg
    subst hg
    have hr : r < 23 := hr
    have e : ax_cell cA (fun g r => if g = 1 then ad1 g r else ad g r) (bx_mix μ) 1 r = ax_cell cA ad1 bx_μ 1 r := by
      refine ax_cell_cong (fun t => by simp) (by simp [bx_mix]) (by simp [bx_mix]) (fun k => ?_)
      have h0 : (bx_mix μ).2.2 1 r k = none := by
        have : (bx_mix μ).2.2 1 r k = bx_μ.2.2 1 r k := by simp [bx_mix]
        rw [this]; exact bx_μ_none hr
      rw [h0, bx_μ_none hr]; rfl
    simp only [e]
    simp
  rw [s0, p1, p2]
/-- THE CONTRACT of a method that makes a new program -/
def ax_rn (d : Nat) : Room := { frames := d, cells := 23, slots := 3403, locals := 64 * d }
def ax_Qn (D : va_G) (cA : Nat → ClassId) (ad : Nat → Nat → Nat) (al al2 : List (Nat × Nat)) (rv : Option Value) (μ : ax_M) (sz : Nat) : Array Value → State → Outcome → State → Prop := fun _ st oc t => oc = .returned rv ∧ (∃ ad2 : Nat → Nat → Nat, (∀ r, ad2 0 r = ad 0 r) ∧ va_P D ax_cl (ax_ws cA ad2 al2 μ) t.heap ∧ va_D (ax_A ad al sz) (ax_ws cA ad2 al2 μ)) ∧ va_F (ax_A ad al sz) st t
def ax_N (l : Launch) (D : va_G) (cA : Nat → ClassId) (ad : Nat → Nat → Nat) (al : List (Nat × Nat)) (θ : ax_Θ) (y : MethodName) (w : Cond) (d : Nat) (av : List ax_V) (μ : ax_M) (al2 : List (Nat × Nat)) (rv : Option Value) (μ' : ax_M) : Prop :=
  ∀ sz : Nat, Met l y (w :: ax_tbl) (ax_rn d) (ax_Pc D cA ad al θ av μ sz) (ax_Qn D cA ad al al2 rv μ' sz) 23 3403 (ax_A ad al sz)
theorem ax_N_of {l : Launch} {D : va_G} {cA : Nat → ClassId} {ad : Nat → Nat → Nat} {al al2 : List (Nat × Nat)} {θ : ax_Θ} {y : MethodName} {own : String} {cc : ByteArray} {nL d : Nat} {ret : Option FieldType} {av : List ax_V} {μ : ax_M} {rv : Option Value} {μ' : ax_M} (hy : plainName y.cls = true) (hown : y.cls = own) (hn : (lg_sl (av.map (fun v => ax_cv ad v))).length ≤ nL) (L : List (Nat × ax_V)) (hL : ax_L ad L = lv_args 0 (av.map (ax_cv ad)))
    (body : ∀ (p : Program) (e : Env) (s : State) (m : MethodId) (args : Array Value) (below : List Frame) (meth : Method) (c : Code), ax_K own cc nL ((p, l, e, ax_rn d, s, m, args), (below, meth, c), (MQ below (ax_Qn D cA ad al al2 rv μ' s.heap.size) args s 23 3403 (ax_A ad al s.heap.size), ax_A ad al s.heap.size), (D, cA, ad, al, θ)) → meth.sig.returnType = ret → ax_R ((p, l, e, ax_rn d, s, m, args), (below, meth, c), (MQ below (ax_Qn D cA ad al al2 rv μ' s.heap.size) args s 23 3403 (ax_A ad al s.heap.size), ax_A ad al s.heap.size), (D, cA, ad, al, θ)) nL 0 0 (0, L, [], μ)) : ax_N l D cA ad al θ y (.code y cc nL ret) d av μ al2 rv μ' := by
  intro sz
  refine Met.ofW (cc := cc) (maxL := nL) (ret := ret) hy rfl ?_
  intro p e s m args below meth c s₁ B hml hv
  obtain ⟨rfl, hsz, hP, hK, hD0, hZ⟩ := hv
  have hts := atoms_spec (ws := .code y cc nL ret :: ax_tbl) B.pre
  have hfc : s.vm.findClass own = some m.cls := by rw [← hown]; exact findClass_of_methodNamed B.named
  subst hsz
  have hl := lv_entry (av.map (ax_cv ad)) (n := nL) hn
  rw [lg_entry_eq]
  generalize (lg_sl (av.map (ax_cv ad)) ++ List.replicate (nL - (lg_sl (av.map (ax_cv ad))).length) Slot.unset).toArray = ls at hl ⊢
  rw [← hL] at hl
  exact body p e s m _ below meth c ⟨B.exec, B.bytes, hfc, hml, B.notSynchronized, fun w hw => hts w (List.mem_cons_of_mem _ hw), hK, fun q h => Or.inr h, hZ⟩ B.returns s.heap [] ls hP (ax_D_of hD0) va_S.rf hl
theorem ax_iL {ad ad2 : Nat → Nat → Nat} (h : ∀ r, ad2 0 r = ad 0 r) : ∀ v : ax_V, (match v with
    | .inr q => q.1 = 0
    | _ => True) → ax_cv ad2 v = ax_cv ad v
  | .inl _, _ => rfl
  | .inr (g, r), hg => by
    have hg : g = 0 := hg
    subst hg
    simp only [ax_cv, h]
/-- new Program(), the second one -/
theorem ax_newP {own : String} {cc : ByteArray} {nL : Nat} {p : Program} {l : Launch} {e : Env} {d : Nat} {s : State} {m : MethodId} {args : Array Value} {below : List Frame} {meth : Method} {c : Code} {Q : State → Prop} {A : Nat → Prop} {D : va_G} {cA : Nat → ClassId} {ad : Nat → Nat → Nat} {al : List (Nat × Nat)} {θ : ax_Θ} {μ : ax_M} {L : List (Nat × ax_V)} {rest : List ax_V} {pc ic idx : Nat}
    (hK : ax_K own cc nL ((p, l, e, ax_rn d, s, m, args), (below, meth, c), (Q, A), (D, cA, ad, al, θ))) (hd3 : 3 ≤ d) (hw : ax_cw own idx y_P_init (.code y_P_init prog_5_method_1_code 1 none) 0) (hi : Cond.instanceMethod y_P_init ∈ ax_tbl) (hlink : Cond.classLink own ic nC3 ∈ ax_tbl) (hins : Cond.instantiable nC3 9 ∈ ax_tbl) (hini : Cond.initialized nC3 ∈ ax_tbl)
    (d1 : decode cc pc = .ok (.new ic, 3)) (d2 : decode cc (pc + 3) = .ok (.dup, 1)) (d3 : decode cc (pc + 4) = .ok (.invokespecial idx, 3)) (ha : ∀ q ∈ al, q.1 = 0) (hρ : ∀ r k q, μ.2.2 0 r k = some q → q.1 = 0) (hL : ∀ q ∈ L, match q.2 with
    | .inr z => z.1 = 0
    | _ => True) (hS0 : ∀ v ∈ rest, match v with
    | .inr z => z.1 = 0
    | _ => True) (hrs : (rest.map ax_cat).sum + 1 ≤ 8)
    (kk : ∀ ad2 : Nat → Nat → Nat, (∀ r, ad2 0 r = ad 0 r) → ax_R ((p, l, e, ax_rn d, s, m, args), (below, meth, c), (Q, A), (D, cA, ad2, al ++ al_P 1, θ)) nL 23 3403 (pc + 7, L, .inr (1, 0) :: rest, bx_mix μ)) : ax_R ((p, l, e, ax_rn d, s, m, args), (below, meth, c), (Q, A), (D, cA, ad, al, θ)) nL 0 0 (pc, L, rest, μ) := by
  obtain ⟨hx, hb, hown, hml, hlk, hts, hKK, hA, hZ⟩ := hK
  have hcat : ((rest.map (ax_cv ad)).map fun v => v.category).sum + 1 ≤ 8 := by
    rw [List.map_map]
    have : (rest.map ((fun v => v.category) ∘ ax_cv ad)) = rest.map ax_cat := List.map_congr_left (fun v _ => ax_cat_cv ad v)
    rw [this]; exact hrs
  refine bx_O (G := ((p, l, e, ax_rn d, s, m, args), (below, meth, c), (Q, A), (D, cA))) (own := own) (cc := cc) (rm := ax_rn d) (ws := ax_ws cA ad al μ) (L := ax_L ad L) (rest := rest.map (ax_cv ad)) (cells := 0) (slots := 0) ⟨hx, hb, hown, hml, hts, hKK, hA, rfl, rfl, rfl, rfl⟩ (t_P_init 1) hw hi rfl rfl nW3 nO3 hlink hins hini d1 d2 d3 (Nat.le_of_ble_eq_true rfl) (Nat.le_of_ble_eq_true rfl) hd3 (by simp only [ax_rn]; omega) hcat (fun q ad1 e1 => ?_)
  have h1 := kk (fun g r => if g = 1 then ad1 g r else ad g r) (fun r => by simp)
  intro H locs ls hP hD hS hl
  have e9 := ax_mix_ws (cA := cA) (ad := ad) (ad1 := ad1) ha hρ
  rw [← e9] at hP hD
  have e8 : ax_L (fun g r => if g = 1 then ad1 g r else ad g r) L = ax_L ad L := by
    unfold ax_L
    refine List.map_congr_left (fun q hq => ?_)
    rw [ax_iL (ad := ad) (fun r => by simp) q.2 (hL q hq)]
  have e7 : rest.map (ax_cv (fun g r => if g = 1 then ad1 g r else ad g r)) = rest.map (ax_cv ad) := List.map_congr_left (fun v hv => ax_iL (ad := ad) (fun r => by simp) v (hS0 v hv))
  have h2 := h1 H locs ls hP hD hS (by rw [e8]; exact hl)
  simp only [List.map_cons, e7] at h2
  have e6 : ax_cv (fun g r => if g = 1 then ad1 g r else ad g r) (.inr (1, 0)) = .ref q := by
    simp only [ax_cv]
    rw [← e1]; simp
  rw [e6] at h2
  exact h2
def y_X_compile : MethodName := ⟨"CipherNotation", "compile", "()I"⟩
theorem d_X_compile_0 : decode prog_1_method_4_code 0 = .ok (.aload_n 0, 1) := by decide +kernel
theorem d_X_compile_1 : decode prog_1_method_4_code 1 = .ok (.getfield (23), 3) := by decide +kernel
theorem d_X_compile_4 : decode prog_1_method_4_code 4 = .ok (.aload_n 0, 1) := by decide +kernel
theorem d_X_compile_5 : decode prog_1_method_4_code 5 = .ok (.getfield (9), 3) := by decide +kernel
theorem d_X_compile_8 : decode prog_1_method_4_code 8 = .ok (.aload_n 0, 1) := by decide +kernel
theorem d_X_compile_9 : decode prog_1_method_4_code 9 = .ok (.getfield (13), 3) := by decide +kernel
theorem d_X_compile_12 : decode prog_1_method_4_code 12 = .ok (.aload_n 0, 1) := by decide +kernel
theorem d_X_compile_13 : decode prog_1_method_4_code 13 = .ok (.getfield (41), 3) := by decide +kernel
theorem d_X_compile_16 : decode prog_1_method_4_code 16 = .ok (.invokevirtual (44), 3) := by decide +kernel
theorem d_X_compile_19 : decode prog_1_method_4_code 19 = .ok (.istore_n 1, 1) := by decide +kernel
theorem d_X_compile_20 : decode prog_1_method_4_code 20 = .ok (.aload_n 0, 1) := by decide +kernel
theorem d_X_compile_21 : decode prog_1_method_4_code 21 = .ok (.aload_n 0, 1) := by decide +kernel
theorem d_X_compile_22 : decode prog_1_method_4_code 22 = .ok (.getfield (23), 3) := by decide +kernel
theorem d_X_compile_25 : decode prog_1_method_4_code 25 = .ok (.getfield (48), 3) := by decide +kernel
theorem d_X_compile_28 : decode prog_1_method_4_code 28 = .ok (.putfield (17), 3) := by decide +kernel
theorem d_X_compile_31 : decode prog_1_method_4_code 31 = .ok (.iload_n 1, 1) := by decide +kernel
theorem d_X_compile_32 : decode prog_1_method_4_code 32 = .ok (.ifCond .ne (46), 3) := by decide +kernel
theorem d_X_compile_35 : decode prog_1_method_4_code 35 = .ok (.aload_n 0, 1) := by decide +kernel
theorem d_X_compile_36 : decode prog_1_method_4_code 36 = .ok (.getfield (34), 3) := by decide +kernel
theorem d_X_compile_39 : decode prog_1_method_4_code 39 = .ok (.astore_n 2, 1) := by decide +kernel
theorem d_X_compile_40 : decode prog_1_method_4_code 40 = .ok (.aload_n 0, 1) := by decide +kernel
theorem d_X_compile_41 : decode prog_1_method_4_code 41 = .ok (.aload_n 0, 1) := by decide +kernel
theorem d_X_compile_42 : decode prog_1_method_4_code 42 = .ok (.getfield (41), 3) := by decide +kernel
theorem d_X_compile_45 : decode prog_1_method_4_code 45 = .ok (.putfield (34), 3) := by decide +kernel
theorem d_X_compile_48 : decode prog_1_method_4_code 48 = .ok (.aload_n 0, 1) := by decide +kernel
theorem d_X_compile_49 : decode prog_1_method_4_code 49 = .ok (.aload_n 2, 1) := by decide +kernel
theorem d_X_compile_50 : decode prog_1_method_4_code 50 = .ok (.ifnonnull (13), 3) := by decide +kernel
theorem d_X_compile_53 : decode prog_1_method_4_code 53 = .ok (.new (38), 3) := by decide +kernel
theorem d_X_compile_56 : decode prog_1_method_4_code 56 = .ok (.dup, 1) := by decide +kernel
theorem d_X_compile_57 : decode prog_1_method_4_code 57 = .ok (.invokespecial (40), 3) := by decide +kernel
theorem d_X_compile_60 : decode prog_1_method_4_code 60 = .ok (.goto (4), 3) := by decide +kernel
theorem d_X_compile_63 : decode prog_1_method_4_code 63 = .ok (.aload_n 2, 1) := by decide +kernel
theorem d_X_compile_64 : decode prog_1_method_4_code 64 = .ok (.putfield (41), 3) := by decide +kernel
theorem d_X_compile_67 : decode prog_1_method_4_code 67 = .ok (.aload_n 0, 1) := by decide +kernel
theorem d_X_compile_68 : decode prog_1_method_4_code 68 = .ok (.getfield (30), 3) := by decide +kernel
theorem d_X_compile_71 : decode prog_1_method_4_code 71 = .ok (.aload_n 0, 1) := by decide +kernel
theorem d_X_compile_72 : decode prog_1_method_4_code 72 = .ok (.getfield (34), 3) := by decide +kernel
theorem d_X_compile_75 : decode prog_1_method_4_code 75 = .ok (.invokevirtual (49), 3) := by decide +kernel
theorem d_X_compile_78 : decode prog_1_method_4_code 78 = .ok (.iload_n 1, 1) := by decide +kernel
theorem d_X_compile_79 : decode prog_1_method_4_code 79 = .ok (.ireturn, 1) := by decide +kernel
theorem hd_X_23 : ax_fd "CipherNotation" 23 5 3 := ⟨nC5, nT5, 7, nY5, rfl, nW5, by decide, nw_2 26 (by decide +kernel) rfl, nO5, nA5⟩
theorem hd_X_9 : ax_fd "CipherNotation" 9 5 0 := ⟨nC5, nT5, 7, nY5, rfl, nW5, by decide, nw_2 23 (by decide +kernel) rfl, nO5, nA5⟩
theorem hd_X_13 : ax_fd "CipherNotation" 13 5 1 := ⟨nC5, nT5, 7, nY5, rfl, nW5, by decide, nw_2 24 (by decide +kernel) rfl, nO5, nA5⟩
theorem hd_X_41 : ax_fd "CipherNotation" 41 5 6 := ⟨nC5, nT5, 7, nY5, rfl, nW5, by decide, nw_2 29 (by decide +kernel) rfl, nO5, nA5⟩
theorem hd_X_48 : ax_fd "CipherNotation" 48 4 14 := ⟨nC4, nT4, 15, nY4, rfl, nW4, by decide, nw_1 49 (by decide +kernel) rfl, nO4, nA4⟩
theorem hp_X_17 : ax_fp "CipherNotation" 17 5 2 (.int) := ⟨nC5, nT5, 7, nY5, rfl, nW5, by decide, nw_2 25 (by decide +kernel) rfl, nO5, nA5, by decide +kernel, by decide +kernel⟩
theorem hd_X_34 : ax_fd "CipherNotation" 34 5 5 := ⟨nC5, nT5, 7, nY5, rfl, nW5, by decide, nw_2 28 (by decide +kernel) rfl, nO5, nA5⟩
theorem hp_X_34 : ax_fp "CipherNotation" 34 5 5 (.object "CipherNotation$Program") := ⟨nC5, nT5, 7, nY5, rfl, nW5, by decide, nw_2 28 (by decide +kernel) rfl, nO5, nA5, by decide +kernel, by decide +kernel⟩
theorem hp_X_41 : ax_fp "CipherNotation" 41 5 6 (.object "CipherNotation$Program") := ⟨nC5, nT5, 7, nY5, rfl, nW5, by decide, nw_2 29 (by decide +kernel) rfl, nO5, nA5, by decide +kernel, by decide +kernel⟩
theorem hd_X_30 : ax_fd "CipherNotation" 30 5 4 := ⟨nC5, nT5, 7, nY5, rfl, nW5, by decide, nw_2 27 (by decide +kernel) rfl, nO5, nA5⟩
theorem cwc_X_44 : ax_cw "CipherNotation" 44 y_R_read (.code y_R_read prog_6_method_2_code 4 (some .int)) 3 := ⟨nw_2 57 (by decide +kernel) rfl, nw_1 2 (by decide +kernel) rfl, nw_2 60 rfl rfl, by decide +kernel, by decide +kernel⟩
theorem imc_R_read : Cond.instanceMethod y_R_read ∈ ax_tbl := nw_2 58 (by decide +kernel) rfl
theorem sec_R_read : Cond.selects y_R_read.cls y_R_read y_R_read ∈ ax_tbl := nw_2 59 (by decide +kernel) rfl
theorem cwc_X_49 : ax_cw "CipherNotation" 49 y_M_load (.code y_M_load prog_4_method_2_code 3 none) 1 := ⟨nw_3 129 (by decide +kernel) rfl, nw_1 3 (by decide +kernel) rfl, nw_3 132 rfl rfl, by decide +kernel, by decide +kernel⟩
theorem imc_M_load : Cond.instanceMethod y_M_load ∈ ax_tbl := nw_3 130 (by decide +kernel) rfl
theorem sec_M_load : Cond.selects y_M_load.cls y_M_load y_M_load ∈ ax_tbl := nw_3 131 (by decide +kernel) rfl
theorem cwc_X_40 : ax_cw "CipherNotation" 40 y_P_init (.code y_P_init prog_5_method_1_code 1 none) 0 := ⟨nw_1 124 (by decide +kernel) rfl, nw_1 4 (by decide +kernel) rfl, nw_1 126 rfl rfl, by decide +kernel, by decide +kernel⟩
set_option maxHeartbeats 4000000 in
set_option maxRecDepth 100000 in
theorem t_X_compile_f {l : Launch} {D : va_G} {cA : Nat → ClassId} {ad : Nat → Nat → Nat} {al : List (Nat × Nat)} {θ : ax_Θ} {ρ : ax_ρ} {F : Nat} {g : Nat} (h0 : ax_M0 al) (hg : ax_Mg al g) (hs : ρ 0 23 6 = some (g, 0)) {s s1 : ax_σ} {r : Int32} (h : f_R_read F g (s.1 0 23 1) s = some (r, s1)) (hr : ¬ r = 0) : ax_T l D cA ad al θ y_X_compile (.code y_X_compile prog_1_method_4_code 3 (some .int)) 42 [.inr (0, 23)] (ax_m s ρ) (some (.inl (.int r))) (ax_m (ax_wI s1 0 23 2 (s1.1 0 25 14)) (ax_uR (ax_uR (ax_uR ρ 0 25 4 (some (g, 0))) 0 25 5 (some (g, 4))) 0 25 6 (some (g, 13)))) := by
  refine ax_T_of (own := "CipherNotation") (by decide) rfl (Nat.le_of_ble_eq_true rfl) [(0, .inr (0, 23))] rfl ?_
  intro G hA
  have hB := hA.B
  have hK := hB.K
  have hal := hB.la
  refine ax_bk hK (ax_fc (ax_v_ld (ax_r_aload_n (i := 0) d_X_compile_0 rfl)) (ax_fc (ax_w_gf (e := none) hal d_X_compile_1 hd_X_23) (ax_fc (ax_v_ld (ax_r_aload_n (i := 0) d_X_compile_4 rfl)) (ax_fc (ax_w_gf (e := none) hal d_X_compile_5 hd_X_9) (ax_fc (ax_v_ld (ax_r_aload_n (i := 0) d_X_compile_8 rfl)) (ax_fc (ax_w_gf (e := none) hal d_X_compile_9 hd_X_13) (ax_fc (ax_v_ld (ax_r_aload_n (i := 0) d_X_compile_12 rfl)) (ax_fc (ax_w_gf (e := (some (g, 0))) hal d_X_compile_13 hd_X_41) ax_fn)))))))) (y := (16, [(0, .inr (0, 23))], [.inr (g, 0), .inl (.int (s.1 0 23 1)), .inr (0, 24), .inr (0, 25)], ax_m s ρ)) rfl ⟨trivial, h0 23 rfl, trivial, h0 23 rfl, trivial, h0 23 rfl, trivial, ⟨h0 23 rfl, hs⟩, trivial⟩ ?_
  refine ax_bV (rest := []) hB (t_R_read h0 hg h) cwc_X_44 imc_R_read sec_R_read d_X_compile_16 (h0 25 rfl) rfl rfl (by decide) (by decide) rfl rfl (Nat.le_of_ble_eq_true rfl) ?_
  change ax_R G 3 0 0 (19, [(0, .inr (0, 23))], [.inl (.int r)], ax_m s1 (ax_uR (ax_uR (ax_uR ρ 0 25 4 (some (g, 0))) 0 25 5 (some (g, 4))) 0 25 6 (some (g, 13))))
  refine ax_bk hK (ax_fc (ax_v_so (ax_r_istore_n (i := 1) d_X_compile_19 rfl)) (ax_fc (ax_v_ld (ax_r_aload_n (i := 0) d_X_compile_20 rfl)) (ax_fc (ax_v_ld (ax_r_aload_n (i := 0) d_X_compile_21 rfl)) (ax_fc (ax_w_gf (e := none) hal d_X_compile_22 hd_X_23) (ax_fc (ax_w_gf (e := none) hal d_X_compile_25 hd_X_48) (ax_fc (ax_w_pf (tc := 0) hal d_X_compile_28 hp_X_17 rfl) (ax_fc (ax_v_ld (ax_r_iload_n (i := 1) d_X_compile_31 rfl)) ax_fn))))))) (y := (32, [(1, .inl (.int r)), (0, .inr (0, 23))], [.inl (.int r)], ax_m (ax_wI s1 0 23 2 (s1.1 0 25 14)) (ax_uR (ax_uR (ax_uR ρ 0 25 4 (some (g, 0))) 0 25 5 (some (g, 4))) 0 25 6 (some (g, 13))))) rfl ⟨trivial, trivial, trivial, h0 23 rfl, h0 25 rfl, h0 23 rfl, trivial, trivial⟩ ?_
  refine ax_if_ne (tgt := 78) hK d_X_compile_32 (by decide) (fun c1 => ?_) (fun c1 => absurd c1 hr)
  refine ax_bk hK (ax_fc (ax_v_ld (ax_r_iload_n (i := 1) d_X_compile_78 rfl)) ax_fn) (y := (79, [(1, .inl (.int r)), (0, .inr (0, 23))], [.inl (.int r)], ax_m (ax_wI s1 0 23 2 (s1.1 0 25 14)) (ax_uR (ax_uR (ax_uR ρ 0 25 4 (some (g, 0))) 0 25 5 (some (g, 4))) 0 25 6 (some (g, 13))))) rfl ⟨trivial, trivial⟩ ?_
  exact ax_iret hA d_X_compile_79
set_option maxHeartbeats 4000000 in
set_option maxRecDepth 100000 in
theorem t_X_compile_1 {l : Launch} {D : va_G} {cA : Nat → ClassId} {ad : Nat → Nat → Nat} {al : List (Nat × Nat)} {θ : ax_Θ} {ρ : ax_ρ} {F : Nat} {g g2 : Nat} (h0 : ax_M0 al) (hg : ax_Mg al g) (hs : ρ 0 23 6 = some (g, 0)) (hx : ρ 0 23 5 = some (g2, 0)) {s s1 s2 : ax_σ} (h : f_R_read F g (s.1 0 23 1) s = some (0, s1)) (h2 : f_M_load F g (ax_wI s1 0 23 2 (s1.1 0 25 14)) = some s2) : ax_T l D cA ad al θ y_X_compile (.code y_X_compile prog_1_method_4_code 3 (some .int)) 42 [.inr (0, 23)] (ax_m s ρ) (some (.inl (.int 0))) (ax_m s2 (ax_uR (ax_uR (ax_uR (ax_uR (ax_uR (ax_uR (ax_uR (ax_uR ρ 0 25 4 (some (g, 0))) 0 25 5 (some (g, 4))) 0 25 6 (some (g, 13))) 0 23 5 (some (g, 0))) 0 23 6 (some (g2, 0))) 0 32 4 (some (g, 0))) 0 32 5 (some (g, 4))) 0 32 6 (some (g, 13)))) := by
  refine ax_T_of (own := "CipherNotation") (by decide) rfl (Nat.le_of_ble_eq_true rfl) [(0, .inr (0, 23))] rfl ?_
  intro G hA
  have hB := hA.B
  have hK := hB.K
  have hal := hB.la
  refine ax_bk hK (ax_fc (ax_v_ld (ax_r_aload_n (i := 0) d_X_compile_0 rfl)) (ax_fc (ax_w_gf (e := none) hal d_X_compile_1 hd_X_23) (ax_fc (ax_v_ld (ax_r_aload_n (i := 0) d_X_compile_4 rfl)) (ax_fc (ax_w_gf (e := none) hal d_X_compile_5 hd_X_9) (ax_fc (ax_v_ld (ax_r_aload_n (i := 0) d_X_compile_8 rfl)) (ax_fc (ax_w_gf (e := none) hal d_X_compile_9 hd_X_13) (ax_fc (ax_v_ld (ax_r_aload_n (i := 0) d_X_compile_12 rfl)) (ax_fc (ax_w_gf (e := (some (g, 0))) hal d_X_compile_13 hd_X_41) ax_fn)))))))) (y := (16, [(0, .inr (0, 23))], [.inr (g, 0), .inl (.int (s.1 0 23 1)), .inr (0, 24), .inr (0, 25)], ax_m s ρ)) rfl ⟨trivial, h0 23 rfl, trivial, h0 23 rfl, trivial, h0 23 rfl, trivial, ⟨h0 23 rfl, hs⟩, trivial⟩ ?_
  refine ax_bV (rest := []) hB (t_R_read h0 hg h) cwc_X_44 imc_R_read sec_R_read d_X_compile_16 (h0 25 rfl) rfl rfl (by decide) (by decide) rfl rfl (Nat.le_of_ble_eq_true rfl) ?_
  change ax_R G 3 0 0 (19, [(0, .inr (0, 23))], [.inl (.int (0 : Int32))], ax_m s1 (ax_uR (ax_uR (ax_uR ρ 0 25 4 (some (g, 0))) 0 25 5 (some (g, 4))) 0 25 6 (some (g, 13))))
  refine ax_bk hK (ax_fc (ax_v_so (ax_r_istore_n (i := 1) d_X_compile_19 rfl)) (ax_fc (ax_v_ld (ax_r_aload_n (i := 0) d_X_compile_20 rfl)) (ax_fc (ax_v_ld (ax_r_aload_n (i := 0) d_X_compile_21 rfl)) (ax_fc (ax_w_gf (e := none) hal d_X_compile_22 hd_X_23) (ax_fc (ax_w_gf (e := none) hal d_X_compile_25 hd_X_48) (ax_fc (ax_w_pf (tc := 0) hal d_X_compile_28 hp_X_17 rfl) (ax_fc (ax_v_ld (ax_r_iload_n (i := 1) d_X_compile_31 rfl)) ax_fn))))))) (y := (32, [(1, .inl (.int (0 : Int32))), (0, .inr (0, 23))], [.inl (.int (0 : Int32))], ax_m (ax_wI s1 0 23 2 (s1.1 0 25 14)) (ax_uR (ax_uR (ax_uR ρ 0 25 4 (some (g, 0))) 0 25 5 (some (g, 4))) 0 25 6 (some (g, 13))))) rfl ⟨trivial, trivial, trivial, h0 23 rfl, h0 25 rfl, h0 23 rfl, trivial, trivial⟩ ?_
  refine ax_if_ne (tgt := 78) hK d_X_compile_32 (by decide) (fun c1 => absurd rfl c1) (fun c1 => ?_)
  refine ax_bk hK (ax_fc (ax_v_ld (ax_r_aload_n (i := 0) d_X_compile_35 rfl)) (ax_fc (ax_w_gf (e := (some (g2, 0))) hal d_X_compile_36 hd_X_34) (ax_fc (ax_v_so (ax_r_astore_n (i := 2) d_X_compile_39 rfl)) (ax_fc (ax_v_ld (ax_r_aload_n (i := 0) d_X_compile_40 rfl)) (ax_fc (ax_v_ld (ax_r_aload_n (i := 0) d_X_compile_41 rfl)) (ax_fc (ax_w_gf (e := (some (g, 0))) hal d_X_compile_42 hd_X_41) (ax_fc (ax_w_pf (tc := 3) hal d_X_compile_45 hp_X_34 (Or.inl ⟨_, rfl⟩)) (ax_fc (ax_v_ld (ax_r_aload_n (i := 0) d_X_compile_48 rfl)) (ax_fc (ax_v_ld (ax_r_aload_n (i := 2) d_X_compile_49 rfl)) ax_fn))))))))) (y := (50, [(2, .inr (g2, 0)), (1, .inl (.int (0 : Int32))), (0, .inr (0, 23))], [.inr (g2, 0), .inr (0, 23)], ax_m (ax_wI s1 0 23 2 (s1.1 0 25 14)) (ax_uR (ax_uR (ax_uR (ax_uR ρ 0 25 4 (some (g, 0))) 0 25 5 (some (g, 4))) 0 25 6 (some (g, 13))) 0 23 5 (some (g, 0))))) rfl ⟨trivial, ⟨h0 23 rfl, by simp [ax_m, ax_uR]; exact hx⟩, trivial, trivial, trivial, ⟨h0 23 rfl, by simp [ax_m, ax_uR]; exact hs⟩, h0 23 rfl, trivial, trivial, trivial⟩ ?_
  refine ax_nn (tgt := 63) hK d_X_compile_50 (by decide) ?_
  refine ax_bk hK (ax_fc (ax_v_ld (ax_r_aload_n (i := 2) d_X_compile_63 rfl)) (ax_fc (ax_w_pf (tc := 3) hal d_X_compile_64 hp_X_41 (Or.inl ⟨_, rfl⟩)) (ax_fc (ax_v_ld (ax_r_aload_n (i := 0) d_X_compile_67 rfl)) (ax_fc (ax_w_gf (e := none) hal d_X_compile_68 hd_X_30) (ax_fc (ax_v_ld (ax_r_aload_n (i := 0) d_X_compile_71 rfl)) (ax_fc (ax_w_gf (e := (some (g, 0))) hal d_X_compile_72 hd_X_34) ax_fn)))))) (y := (75, [(2, .inr (g2, 0)), (1, .inl (.int (0 : Int32))), (0, .inr (0, 23))], [.inr (g, 0), .inr (0, 32)], ax_m (ax_wI s1 0 23 2 (s1.1 0 25 14)) (ax_uR (ax_uR (ax_uR (ax_uR (ax_uR ρ 0 25 4 (some (g, 0))) 0 25 5 (some (g, 4))) 0 25 6 (some (g, 13))) 0 23 5 (some (g, 0))) 0 23 6 (some (g2, 0))))) rfl ⟨trivial, h0 23 rfl, trivial, h0 23 rfl, trivial, ⟨h0 23 rfl, by simp [ax_m, ax_uR]⟩, trivial⟩ ?_
  refine ax_bV (rest := []) hB (t_M_load h0 hg h2) cwc_X_49 imc_M_load sec_M_load d_X_compile_75 (h0 32 rfl) rfl rfl (by decide) (by decide) rfl rfl (Nat.le_of_ble_eq_true rfl) ?_
  change ax_R G 3 0 0 (78, [(2, .inr (g2, 0)), (1, .inl (.int (0 : Int32))), (0, .inr (0, 23))], [], ax_m s2 (ax_uR (ax_uR (ax_uR (ax_uR (ax_uR (ax_uR (ax_uR (ax_uR ρ 0 25 4 (some (g, 0))) 0 25 5 (some (g, 4))) 0 25 6 (some (g, 13))) 0 23 5 (some (g, 0))) 0 23 6 (some (g2, 0))) 0 32 4 (some (g, 0))) 0 32 5 (some (g, 4))) 0 32 6 (some (g, 13))))
  refine ax_bk hK (ax_fc (ax_v_ld (ax_r_iload_n (i := 1) d_X_compile_78 rfl)) ax_fn) (y := (79, [(2, .inr (g2, 0)), (1, .inl (.int (0 : Int32))), (0, .inr (0, 23))], [.inl (.int (0 : Int32))], ax_m s2 (ax_uR (ax_uR (ax_uR (ax_uR (ax_uR (ax_uR (ax_uR (ax_uR ρ 0 25 4 (some (g, 0))) 0 25 5 (some (g, 4))) 0 25 6 (some (g, 13))) 0 23 5 (some (g, 0))) 0 23 6 (some (g2, 0))) 0 32 4 (some (g, 0))) 0 32 5 (some (g, 4))) 0 32 6 (some (g, 13))))) rfl ⟨trivial, trivial⟩ ?_
  exact ax_iret hA d_X_compile_79
set_option maxHeartbeats 4000000 in
set_option maxRecDepth 100000 in
theorem t_X_compile_0 {l : Launch} {D : va_G} {cA : Nat → ClassId} {ad : Nat → Nat → Nat} {al : List (Nat × Nat)} {θ : ax_Θ} {ρ : ax_ρ} {F : Nat} (h0 : ax_M0 al) (hg : ax_Mg al 0) (ha : ∀ q ∈ al, q.1 = 0) (hρ : ∀ r k q, ρ 0 r k = some q → q.1 = 0) (hs : ρ 0 23 6 = some (0, 0)) (hx : ρ 0 23 5 = none) {s s1 s2 : ax_σ} (h : f_R_read F 0 (s.1 0 23 1) s = some (0, s1)) (h2 : f_M_load F 0 ((bx_mix (ax_m (ax_wI s1 0 23 2 (s1.1 0 25 14)) (ax_uR (ax_uR (ax_uR (ax_uR ρ 0 25 4 (some (0, 0))) 0 25 5 (some (0, 4))) 0 25 6 (some (0, 13))) 0 23 5 (some (0, 0))))).1, (bx_mix (ax_m (ax_wI s1 0 23 2 (s1.1 0 25 14)) (ax_uR (ax_uR (ax_uR (ax_uR ρ 0 25 4 (some (0, 0))) 0 25 5 (some (0, 4))) 0 25 6 (some (0, 13))) 0 23 5 (some (0, 0))))).2.1) = some s2) : ax_N l D cA ad al θ y_X_compile (.code y_X_compile prog_1_method_4_code 3 (some .int)) 42 [.inr (0, 23)] (ax_m s ρ) (al ++ al_P 1) (some (.int 0)) (ax_m s2 (ax_uR (ax_uR (ax_uR (ax_uR (bx_mix (ax_m (ax_wI s1 0 23 2 (s1.1 0 25 14)) (ax_uR (ax_uR (ax_uR (ax_uR ρ 0 25 4 (some (0, 0))) 0 25 5 (some (0, 4))) 0 25 6 (some (0, 13))) 0 23 5 (some (0, 0))))).2.2 0 23 6 (some (1, 0))) 0 32 4 (some (0, 0))) 0 32 5 (some (0, 4))) 0 32 6 (some (0, 13)))) := by
  refine ax_N_of (own := "CipherNotation") (by decide) rfl (Nat.le_of_ble_eq_true rfl) [(0, .inr (0, 23))] rfl ?_
  intro p e st m args below meth c hK hret
  have hal : ax_al ((p, l, e, ax_rn 42, st, m, args), (below, meth, c), (MQ below (ax_Qn D cA ad al (al ++ al_P 1) (some (.int 0)) (ax_m s2 (ax_uR (ax_uR (ax_uR (ax_uR (bx_mix (ax_m (ax_wI s1 0 23 2 (s1.1 0 25 14)) (ax_uR (ax_uR (ax_uR (ax_uR ρ 0 25 4 (some (0, 0))) 0 25 5 (some (0, 4))) 0 25 6 (some (0, 13))) 0 23 5 (some (0, 0))))).2.2 0 23 6 (some (1, 0))) 0 32 4 (some (0, 0))) 0 32 5 (some (0, 4))) 0 32 6 (some (0, 13)))) st.heap.size) args st 23 3403 (ax_A ad al st.heap.size), ax_A ad al st.heap.size), (D, cA, ad, al, θ)) = al := rfl
  refine ax_bk hK (ax_fc (ax_v_ld (ax_r_aload_n (i := 0) d_X_compile_0 rfl)) (ax_fc (ax_w_gf (e := none) hal d_X_compile_1 hd_X_23) (ax_fc (ax_v_ld (ax_r_aload_n (i := 0) d_X_compile_4 rfl)) (ax_fc (ax_w_gf (e := none) hal d_X_compile_5 hd_X_9) (ax_fc (ax_v_ld (ax_r_aload_n (i := 0) d_X_compile_8 rfl)) (ax_fc (ax_w_gf (e := none) hal d_X_compile_9 hd_X_13) (ax_fc (ax_v_ld (ax_r_aload_n (i := 0) d_X_compile_12 rfl)) (ax_fc (ax_w_gf (e := (some (0, 0))) hal d_X_compile_13 hd_X_41) ax_fn)))))))) (y := (16, [(0, .inr (0, 23))], [.inr (0, 0), .inl (.int (s.1 0 23 1)), .inr (0, 24), .inr (0, 25)], ax_m s ρ)) rfl ⟨trivial, h0 23 rfl, trivial, h0 23 rfl, trivial, h0 23 rfl, trivial, ⟨h0 23 rfl, hs⟩, trivial⟩ ?_
  refine ax_gV (rest := []) hK (Nat.le_of_ble_eq_true rfl) (Nat.le_of_ble_eq_true rfl) (t_R_read h0 hg h) cwc_X_44 imc_R_read sec_R_read d_X_compile_16 (h0 25 rfl) rfl rfl (by decide) rfl rfl (Nat.le_of_ble_eq_true rfl) (Nat.zero_le _) (Nat.zero_le _) ?_
  change ax_R _ 3 0 0 (19, [(0, .inr (0, 23))], [.inl (.int (0 : Int32))], ax_m s1 (ax_uR (ax_uR (ax_uR ρ 0 25 4 (some (0, 0))) 0 25 5 (some (0, 4))) 0 25 6 (some (0, 13))))
  refine ax_bk hK (ax_fc (ax_v_so (ax_r_istore_n (i := 1) d_X_compile_19 rfl)) (ax_fc (ax_v_ld (ax_r_aload_n (i := 0) d_X_compile_20 rfl)) (ax_fc (ax_v_ld (ax_r_aload_n (i := 0) d_X_compile_21 rfl)) (ax_fc (ax_w_gf (e := none) hal d_X_compile_22 hd_X_23) (ax_fc (ax_w_gf (e := none) hal d_X_compile_25 hd_X_48) (ax_fc (ax_w_pf (tc := 0) hal d_X_compile_28 hp_X_17 rfl) (ax_fc (ax_v_ld (ax_r_iload_n (i := 1) d_X_compile_31 rfl)) ax_fn))))))) (y := (32, [(1, .inl (.int (0 : Int32))), (0, .inr (0, 23))], [.inl (.int (0 : Int32))], ax_m (ax_wI s1 0 23 2 (s1.1 0 25 14)) (ax_uR (ax_uR (ax_uR ρ 0 25 4 (some (0, 0))) 0 25 5 (some (0, 4))) 0 25 6 (some (0, 13))))) rfl ⟨trivial, trivial, trivial, h0 23 rfl, h0 25 rfl, h0 23 rfl, trivial, trivial⟩ ?_
  refine ax_if_ne (tgt := 78) hK d_X_compile_32 (by decide) (fun c1 => absurd rfl c1) (fun c1 => ?_)
  refine ax_bk hK (ax_fc (ax_v_ld (ax_r_aload_n (i := 0) d_X_compile_35 rfl)) (ax_fc (ax_w_gf (e := none) hal d_X_compile_36 hd_X_34) (ax_fc (ax_v_so (ax_r_astore_n (i := 2) d_X_compile_39 rfl)) (ax_fc (ax_v_ld (ax_r_aload_n (i := 0) d_X_compile_40 rfl)) (ax_fc (ax_v_ld (ax_r_aload_n (i := 0) d_X_compile_41 rfl)) (ax_fc (ax_w_gf (e := (some (0, 0))) hal d_X_compile_42 hd_X_41) (ax_fc (ax_w_pf (tc := 3) hal d_X_compile_45 hp_X_34 (Or.inl ⟨_, rfl⟩)) (ax_fc (ax_v_ld (ax_r_aload_n (i := 0) d_X_compile_48 rfl)) (ax_fc (ax_v_ld (ax_r_aload_n (i := 2) d_X_compile_49 rfl)) ax_fn))))))))) (y := (50, [(2, .inl .null), (1, .inl (.int (0 : Int32))), (0, .inr (0, 23))], [.inl .null, .inr (0, 23)], ax_m (ax_wI s1 0 23 2 (s1.1 0 25 14)) (ax_uR (ax_uR (ax_uR (ax_uR ρ 0 25 4 (some (0, 0))) 0 25 5 (some (0, 4))) 0 25 6 (some (0, 13))) 0 23 5 (some (0, 0))))) rfl ⟨trivial, ⟨h0 23 rfl, by simp [ax_m, ax_uR]; exact hx⟩, trivial, trivial, trivial, ⟨h0 23 rfl, by simp [ax_m, ax_uR]; exact hs⟩, h0 23 rfl, trivial, trivial, trivial⟩ ?_
  refine ax_nnN hK d_X_compile_50 ?_
  have hρ2 : ∀ r k q, (ax_m (ax_wI s1 0 23 2 (s1.1 0 25 14)) (ax_uR (ax_uR (ax_uR (ax_uR ρ 0 25 4 (some (0, 0))) 0 25 5 (some (0, 4))) 0 25 6 (some (0, 13))) 0 23 5 (some (0, 0)))).2.2 0 r k = some q → q.1 = 0 := ax_uRq rfl (ax_uRq rfl (ax_uRq rfl (ax_uRq rfl hρ)))
  refine ax_newP hK (by decide) cwc_X_40 (nw_1 125 (by decide +kernel) rfl) (nw_1 122 (by decide +kernel) rfl) (nw_1 123 (by decide +kernel) rfl) (nw_1 4 (by decide +kernel) rfl) d_X_compile_53 d_X_compile_56 d_X_compile_57 ha hρ2 (by simp) (by simp) (by decide) (fun ad2 hd2 => ?_)
  have h02 : ax_M0 (al ++ al_P 1) := fun r hr => List.mem_append_left _ (h0 r hr)
  have hg2 : ax_Mg (al ++ al_P 1) 0 := fun r hr => List.mem_append_left _ (hg r hr)
  have hK2 : ax_K "CipherNotation" prog_1_method_4_code 3 ((p, l, e, ax_rn 42, st, m, args), (below, meth, c), (MQ below (ax_Qn D cA ad al (al ++ al_P 1) (some (.int 0)) (ax_m s2 (ax_uR (ax_uR (ax_uR (ax_uR (bx_mix (ax_m (ax_wI s1 0 23 2 (s1.1 0 25 14)) (ax_uR (ax_uR (ax_uR (ax_uR ρ 0 25 4 (some (0, 0))) 0 25 5 (some (0, 4))) 0 25 6 (some (0, 13))) 0 23 5 (some (0, 0))))).2.2 0 23 6 (some (1, 0))) 0 32 4 (some (0, 0))) 0 32 5 (some (0, 4))) 0 32 6 (some (0, 13)))) st.heap.size) args st 23 3403 (ax_A ad al st.heap.size), ax_A ad al st.heap.size), (D, cA, ad2, al ++ al_P 1, θ)) := hK
  have hal2 : ax_al ((p, l, e, ax_rn 42, st, m, args), (below, meth, c), (MQ below (ax_Qn D cA ad al (al ++ al_P 1) (some (.int 0)) (ax_m s2 (ax_uR (ax_uR (ax_uR (ax_uR (bx_mix (ax_m (ax_wI s1 0 23 2 (s1.1 0 25 14)) (ax_uR (ax_uR (ax_uR (ax_uR ρ 0 25 4 (some (0, 0))) 0 25 5 (some (0, 4))) 0 25 6 (some (0, 13))) 0 23 5 (some (0, 0))))).2.2 0 23 6 (some (1, 0))) 0 32 4 (some (0, 0))) 0 32 5 (some (0, 4))) 0 32 6 (some (0, 13)))) st.heap.size) args st 23 3403 (ax_A ad al st.heap.size), ax_A ad al st.heap.size), (D, cA, ad2, al ++ al_P 1, θ)) = al ++ al_P 1 := rfl
  refine ax_bk hK2 (ax_fc (ax_v_go (tgt := 64) d_X_compile_60 (by decide)) (ax_fc (ax_w_pf (tc := 3) hal2 d_X_compile_64 hp_X_41 (Or.inl ⟨_, rfl⟩)) (ax_fc (ax_v_ld (ax_r_aload_n (i := 0) d_X_compile_67 rfl)) (ax_fc (ax_w_gf (e := none) hal2 d_X_compile_68 hd_X_30) (ax_fc (ax_v_ld (ax_r_aload_n (i := 0) d_X_compile_71 rfl)) (ax_fc (ax_w_gf (e := (some (0, 0))) hal2 d_X_compile_72 hd_X_34) ax_fn)))))) (y := (75, [(2, .inl .null), (1, .inl (.int (0 : Int32))), (0, .inr (0, 23))], [.inr (0, 0), .inr (0, 32)], ax_m ((bx_mix (ax_m (ax_wI s1 0 23 2 (s1.1 0 25 14)) (ax_uR (ax_uR (ax_uR (ax_uR ρ 0 25 4 (some (0, 0))) 0 25 5 (some (0, 4))) 0 25 6 (some (0, 13))) 0 23 5 (some (0, 0))))).1, (bx_mix (ax_m (ax_wI s1 0 23 2 (s1.1 0 25 14)) (ax_uR (ax_uR (ax_uR (ax_uR ρ 0 25 4 (some (0, 0))) 0 25 5 (some (0, 4))) 0 25 6 (some (0, 13))) 0 23 5 (some (0, 0))))).2.1) (ax_uR (bx_mix (ax_m (ax_wI s1 0 23 2 (s1.1 0 25 14)) (ax_uR (ax_uR (ax_uR (ax_uR ρ 0 25 4 (some (0, 0))) 0 25 5 (some (0, 4))) 0 25 6 (some (0, 13))) 0 23 5 (some (0, 0))))).2.2 0 23 6 (some (1, 0))))) rfl ⟨trivial, h02 23 rfl, trivial, h02 23 rfl, trivial, ⟨h02 23 rfl, by simp [ax_m, ax_uR, bx_mix]⟩, trivial⟩ ?_
  refine ax_gV (rest := []) hK2 (Nat.le_of_ble_eq_true rfl) (Nat.le_of_ble_eq_true rfl) (t_M_load h02 hg2 h2) cwc_X_49 imc_M_load sec_M_load d_X_compile_75 (h02 32 rfl) rfl rfl (by decide) rfl rfl (Nat.le_of_ble_eq_true rfl) (Nat.le_of_ble_eq_true rfl) (Nat.le_of_ble_eq_true rfl) ?_
  refine ax_bk hK2 (ax_fc (ax_v_ld (ax_r_iload_n (i := 1) d_X_compile_78 rfl)) ax_fn) (y := (79, [(2, .inl .null), (1, .inl (.int (0 : Int32))), (0, .inr (0, 23))], [.inl (.int (0 : Int32))], ax_m s2 (ax_uR (ax_uR (ax_uR (ax_uR (bx_mix (ax_m (ax_wI s1 0 23 2 (s1.1 0 25 14)) (ax_uR (ax_uR (ax_uR (ax_uR ρ 0 25 4 (some (0, 0))) 0 25 5 (some (0, 4))) 0 25 6 (some (0, 13))) 0 23 5 (some (0, 0))))).2.2 0 23 6 (some (1, 0))) 0 32 4 (some (0, 0))) 0 32 5 (some (0, 4))) 0 32 6 (some (0, 13))))) rfl ⟨trivial, trivial⟩ ?_
  intro H locs ls hP hD hS hl
  obtain ⟨hx9, hb9, -, -, hlk9, -⟩ := hK
  exact W.iret hx9 hb9 hret (fun t ht hW => ⟨rfl, ⟨ad2, hd2, by rw [ht]; exact hP, hD⟩, hS.F ht⟩) hS.2.2 d_X_compile_79 hlk9
