/-! WHAT THE LAW'S WALK USES -/
/-- a call of one of the law's own static methods -/
theorem ax_gU {own : String} {cc cy : ByteArray} {nL cells slots pc idx n nLy dy : Nat} {ry : Option FieldType} {hh : List (Nat × Nat × Nat × Nat)} {y : MethodName} {p : Program} {l : Launch} {e : Env} {R : Room} {s : State} {m : MethodId} {args : Array Value} {below : List Frame} {meth : Method} {c : Code} {Q : State → Prop} {A : Nat → Prop} {D : va_G} {cA : Nat → ClassId} {ad : Nat → Nat → Nat} {al : List (Nat × Nat)} {θ : ax_Θ} {av rest st : List ax_V} {rv : Option ax_V} {μ μ' : ax_M} {L : List (Nat × ax_V)}
    (hK : ax_K own cc nL ((p, l, e, R, s, m, args), (below, meth, c), (Q, A), (D, cA, ad, al, θ))) (hfr : dy + 1 ≤ R.frames) (hlo : 64 + 64 * dy ≤ R.locals) (hT : ax_U l D cA ad al θ y (.codeWith y cy nLy ry hh) dy av μ rv μ') (w1 : Cond.methodLink own idx y ∈ ax_tbl) (w2 : Cond.initialized y.cls ∈ ax_tbl) (w3 : Cond.codeWith y cy nLy ry hh ∈ ax_tbl) (w4 : y.cls ≠ "java/lang/invoke/MethodHandle" ∧ y.cls ≠ "java/lang/invoke/VarHandle") (w5 : (parseMethodDescriptor y.desc).map (fun d => d.parameters.length) = some n) (hsm : Cond.static y ∈ ax_tbl) (hd : decode cc pc = .ok (.invokestatic idx, 3)) (hnl : nLy ≤ 45) (hn : av.length = n) (hst : st = av.reverse ++ rest) (hrs : (rest.map ax_cat).sum ≤ 8) (hc0 : cells + 1 ≤ R.cells) (hs0 : slots + 6 ≤ R.slots)
    (kk : ax_R ((p, l, e, R, s, m, args), (below, meth, c), (Q, A), (D, cA, ad, al, θ)) nL (cells + 1) (slots + 6) (pc + 3, L, rv.toList ++ rest, μ')) : ax_R ((p, l, e, R, s, m, args), (below, meth, c), (Q, A), (D, cA, ad, al, θ)) nL cells slots (pc, L, st, μ) := by
  obtain ⟨hx, hb, hown, hml, -, hts, hKK, hA, hZ⟩ := hK
  intro H locs ls hP hD hS hl T hT0 X
  subst hT0
  subst hst
  have hcat : ((rest.map (ax_cv ad)).map fun v => v.category).sum ≤ 8 := by
    rw [List.map_map]
    have : (rest.map ((fun v => v.category) ∘ ax_cv ad)) = rest.map ax_cat := List.map_congr_left (fun v _ => ax_cat_cv ad v)
    rw [this]; exact hrs
  have hBk : Back l R p e below s args y 3 8 (PreOf R 1 6 (ax_Pc D cA ad al θ av μ T.heap.size)) (PostOf (ax_Qc D cA ad al rv μ' T.heap.size) 1 6 (ax_A ad al T.heap.size)) :=
    va_backW (hh := hh) (bytes := cy) (maxL := nLy) (ret := ry) (hT T.heap.size) ax_blind rfl rfl (by simp only [ax_rx]; omega) (by simp only [ax_rx]; omega) (pay_in hts (ax_goodIn w3)) List.mem_cons_self (fun a' U hW => word_at hW (good_of_word (List.all_eq_true.mp ax_good _ w2)) (hts _ w2))
  obtain ⟨mk, methM, cM, hnamed, hmethM, -, -, -, -, -, -, hsigM⟩ := Cond.codeWith_spec (hts _ w3)
  have hstatic : methM.isStatic = true := Cond.static_spec hnamed hmethM (hts _ hsm)
  obtain ⟨kP, hkP, -⟩ := className_of_methodNamed hnamed
  have hinitP : kP.init = .initialized := Cond.initialized_spec (findClass_of_methodNamed hnamed) hkP (hts _ w2)
  have hlen : (av.map (ax_cv ad)).length = methM.sig.parameters.length := by
    rw [hsigM] at w5
    have := Option.some.inj w5
    rw [List.length_map, hn]; exact this.symm
  obtain ⟨vm₁, X₁, hstep₁⟩ := X.invokestatic hx hown (hts _ w1) hnamed hmethM hstatic hkP hinitP w4 (g := F0 m pc ls ((av.reverse ++ rest).map (ax_cv ad))) rfl (argsL := av.map (ax_cv ad)) (rest := rest.map (ax_cv ad)) hlen (by simp) (by rw [hb]; exact hd)
  obtain ⟨v, ⟨U', l2, c2, s2⟩, X', ⟨g', mk', t, L1, e1, e2, ⟨hv, hP1, hD1, hz, hk⟩, h1, hL, h2, h3⟩, hsteps⟩ := hBk m meth c ⟨T.setVm vm₁, locs, cells, slots⟩ (F0 m pc ls (rest.map (ax_cv ad))) (.invokestatic idx) mk (av.map (ax_cv ad)).toArray X₁ rfl (hl.1.trans hml.symm) (by rw [hb]; exact hd) (lv_room hcat) (X₁.named hnamed) ⟨hc0, hs0, rfl, rfl, hP, va_K.moved X₁.warmed.alike hKK, hD.weaken (fun _ _ _ _ => trivial), ((hZ.kept (fun q h1 h2 => hS.2.1 q h1 h2)).narrow (ax_sub hA hD hS)).warm X₁.warmed |> ax_Zh rfl⟩
  dsimp only [Pt.U, Pt.locs, Pt.cells, Pt.slots] at X' e1 e2 h1 h2 h3 hsteps
  subst h1; subst h2; subst h3
  have hv' : v = rv.map (ax_cv ad) := by injection hv
  subst hv'
  have hF : ∀ q, ax_A ad al T.heap.size q → A q := ax_sub hA hD hS
  have hz' : T.heap.size ≤ t.heap.size := hz
  have hk' : ∀ q : Nat, q < T.heap.size → ¬ ax_A ad al T.heap.size q → t.heap[q]? = T.heap[q]? := hk
  have hS' : va_S A s.heap U'.heap (locs ++ L1) := by
    refine ⟨Nat.le_trans hS.1 (by rw [e1]; exact hz'), fun q g1 g2 => ?_, fun q hq => ?_⟩
    · rw [e1, hk' q (Nat.lt_of_lt_of_le g1 hS.1) (fun z => g2 (hF q z))]
      exact hS.2.1 q g1 g2
    · rcases List.mem_append.mp hq with h | h
      · exact hS.2.2 q h
      · exact hF _ (hL q h)
  have k1 := kk U'.heap (locs ++ L1) ls (by rw [e1]; exact hP1) (hD1.weaken (fun _ q _ h => hF q.1 h)) hS' hl
  have e9 : (rv.toList ++ rest).map (ax_cv ad) = (rv.map (ax_cv ad)).toList ++ rest.map (ax_cv ad) := by cases rv <;> rfl
  simp only [e9] at k1
  obtain ⟨t2, a1, b1⟩ := k1 U' rfl X'
  exact ⟨t2, hstep₁ _ (fun acts => by rw [doInvoke_state]; exact hsteps.trans a1), b1⟩
/-- a call of a method that makes a new program -/
theorem ax_gN {own : String} {cc cy : ByteArray} {nL cells slots pc idx n nLy dy g r ci : Nat} {fk : List Nat} {ry : Option FieldType} {y : MethodName} {p : Program} {l : Launch} {e : Env} {R : Room} {s : State} {m : MethodId} {args : Array Value} {below : List Frame} {meth : Method} {c : Code} {Q : State → Prop} {A : Nat → Prop} {D : va_G} {cA : Nat → ClassId} {ad : Nat → Nat → Nat} {al al2 : List (Nat × Nat)} {θ : ax_Θ} {av rest st : List ax_V} {z : Value} {μ μ' : ax_M} {L : List (Nat × ax_V)} {T0 : u_T} {N0 : Nat}
    (hK : ax_K own cc nL ((p, l, e, R, s, m, args), (below, meth, c), (Q, A), (D, cA, ad, al, θ))) (hfr : dy + 1 ≤ R.frames) (hlo : 64 + 64 * dy ≤ R.locals) (hT : ax_N l D cA ad al θ y (.code y cy nLy ry) dy (.inr (g, r) :: av) μ al2 (some z) μ') (hw : ax_cw own idx y (.code y cy nLy ry) n) (hi : Cond.instanceMethod y ∈ ax_tbl) (hse : Cond.selects y.cls y y ∈ ax_tbl) (hd : decode cc pc = .ok (.invokevirtual idx, 3)) (hm : (g, r) ∈ al) (hly : ax_ly r = (0, ci, fk)) (hci : ax_cl[ci]? = some (y.cls, T0, N0)) (hnl : nLy ≤ 45) (hn : av.length = n) (hst : st = av.reverse ++ .inr (g, r) :: rest) (hrs : (rest.map ax_cat).sum ≤ 8) (hc0 : cells + 23 ≤ R.cells) (hs0 : slots + 3403 ≤ R.slots) (hL0 : ∀ q ∈ L, match q.2 with
    | .inr z => z.1 = 0
    | _ => True) (hS0 : ∀ v ∈ rest, match v with
    | .inr z => z.1 = 0
    | _ => True)
    (kk : ∀ ad2 : Nat → Nat → Nat, ax_R ((p, l, e, R, s, m, args), (below, meth, c), (Q, A), (D, cA, ad2, al2, θ)) nL (cells + 23) (slots + 3403) (pc + 3, L, .inl z :: rest, μ')) : ax_R ((p, l, e, R, s, m, args), (below, meth, c), (Q, A), (D, cA, ad, al, θ)) nL cells slots (pc, L, st, μ) := by
  intro H locs ls hP hD hS hl
  obtain ⟨hx, hb, hown, hml, -, hts, hKK, hA, hZ⟩ := hK
  obtain ⟨w1, w2, w3, w4, w5⟩ := hw
  subst hst
  obtain ⟨q0, h0, h1⟩ := ax_at (cA := cA) (ad := ad) hm
  have he := h1 μ
  rw [ax_cell_obj hly] at he
  have hGd : GoodIn ax_tbl (wsV own idx y.cls y (.code y cy nLy ry :: ax_tbl)) := by
    intro x hx'
    unfold wsV at hx'
    rcases List.mem_append.mp hx' with h | h
    · have hxm : x ∈ ax_tbl := by
        simp only [List.mem_cons, List.not_mem_nil, or_false] at h
        rcases h with rfl | rfl | rfl | rfl
        · exact w1
        · exact hi
        · exact hse
        · exact w2
      exact ⟨hxm, good_of_word (List.all_eq_true.mp ax_good x hxm)⟩
    · exact ax_goodIn w3 x h
  have hcat : ((rest.map (ax_cv ad)).map fun v => v.category).sum ≤ 8 := by
    rw [List.map_map]
    have : (rest.map ((fun v => v.category) ∘ ax_cv ad)) = rest.map ax_cat := List.map_congr_left (fun v _ => ax_cat_cv ad v)
    rw [this]; exact hrs
  intro T hT0 X
  obtain ⟨v, st₀, t, T', L1, g0, X', hLf, e1, e2, ⟨hv, ⟨ad2, had, hP1, hD1⟩, hz, hk⟩, stp⟩ := va_runV (As := av.map (ax_cv ad)) (n := n) (C := y.cls) (b := ad g r) (g := F0 m pc ls ((av.reverse ++ .inr (g, r) :: rest).map (ax_cv ad))) (rest := rest.map (ax_cv ad)) ⟨hx, hb, hml, hown, hts⟩ (hT H.size) (cwV n hts (Ts := ax_tbl) hGd rfl rfl rfl ⟨rfl, w4.1, w4.2, w5⟩ ⟨by simp only [ax_rn]; omega, by simp only [ax_rn]; omega⟩) ⟨ax_blind, va_recv hKK hP hci he, fun U hU hW => ⟨rfl, by rw [hU], by rw [hU]; exact hP, va_K.moved hW.alike hKK, hD.weaken (fun _ _ _ _ => trivial), ((hZ.kept (fun q h1 h2 => hS.2.1 q h1 h2)).narrow (ax_sub hA hD hS)).warm hW |> ax_Zh hU⟩⟩ rfl (by simp [hn]) hl.1 (by simp [ax_cv]) (lv_room hcat) hd ⟨hc0, hs0⟩ T hT0 X
  have hv' : v = some z := by injection hv
  subst hv'
  rw [g0] at hz hk
  have hF : ∀ q, ax_A ad al H.size q → A q := ax_sub hA hD hS
  have hS' : va_S A s.heap T'.heap (locs ++ L1) := by
    refine ⟨Nat.le_trans hS.1 (by rw [e1]; exact hz), fun q h1 h2 => ?_, fun q hq => ?_⟩
    · rw [e1, hk q (Nat.lt_of_lt_of_le h1 hS.1) (fun z => h2 (hF q z))]
      exact hS.2.1 q h1 h2
    · rcases List.mem_append.mp hq with h | h
      · exact hS.2.2 q h
      · exact hF _ (hLf q h)
  have e8 : ax_L ad2 L = ax_L ad L := by
    unfold ax_L
    refine List.map_congr_left (fun q hq => ?_)
    rw [ax_iL (ad := ad) had q.2 (hL0 q hq)]
  have e7 : rest.map (ax_cv ad2) = rest.map (ax_cv ad) := List.map_congr_left (fun v hv => ax_iL (ad := ad) had v (hS0 v hv))
  have k1 := kk ad2 T'.heap (locs ++ L1) ls (by rw [e1]; exact hP1) (hD1.weaken (fun _ q _ h => hF q.1 h)) hS' (by rw [e8]; exact hl)
  simp only [List.map_cons, e7] at k1
  obtain ⟨t2, a1, b1⟩ := k1 T' rfl X'
  exact ⟨t2, stp t2 a1, b1⟩
/-- the law's script -/
def ax_scr (b Ln : Nat) (xs : Nat → Int32) (G : ax_G) : Prop := match G with
  | ((_, _, _, _, s, _, _), _, (_, A), _) => va_X b Ln xs s s.heap ∧ b < s.heap.size ∧ ¬ A b
def ax_sc (b Ln : Nat) (xs : Nat → Int32) (pc : Nat) : ax_F := fun x => bif Nat.beq x.1 pc then (match x.2.2.1 with
  | .inl (.int i) :: .inl (.ref a) :: st => some ((pc + 1, x.2.1, .inl (.int (xs i.toNatClampNeg)) :: st, x.2.2.2), a = b ∧ vp_in i Ln)
  | _ => none) else none
def ax_sn (b Ln : Nat) (pc : Nat) : ax_F := fun x => bif Nat.beq x.1 pc then (match x.2.2.1 with
  | .inl (.ref a) :: st => some ((pc + 1, x.2.1, .inl (.int (Int32.ofNat Ln)) :: st, x.2.2.2), a = b)
  | _ => none) else none
section
variable {own : String} {cc : ByteArray} {nL : Nat} {G : ax_G} {b Ln pc : Nat} {xs : Nat → Int32}
theorem ax_w_sc (hX : ax_scr b Ln xs G) (hd : decode cc pc = .ok (.iaload, 1)) : ax_v own cc nL G (ax_sc b Ln xs pc) := by
  obtain ⟨⟨p, l, e, R, s, m, args⟩, ⟨below, meth, c⟩, ⟨Q, A⟩, ⟨D, cA, ad, al, θ0⟩⟩ := G
  intro hK x y P cells slots hf hP0 kk
  obtain ⟨q, L, st, μ⟩ := x
  obtain ⟨hx, hb, -⟩ := hK
  unfold ax_sc at hf
  cases hq : Nat.beq q pc with
  | false => simp only [hq, cond_false] at hf; cases hf
  | true =>
    simp only [hq, cond_true] at hf
    have hq' : q = pc := Nat.eq_of_beq_eq_true hq
    subst hq'
    match st, hf with
    | .inl (.int i) :: .inl (.ref a) :: st', hf =>
      cases hf
      obtain ⟨rfl, hin⟩ := hP0
      intro H locs ls hP hD hS hl
      exact va_sld hx hb hX.1 hX.2.1 hX.2.2 hS hin hd (kk H locs ls hP hD hS hl)
theorem ax_w_sn (hX : ax_scr b Ln xs G) (hd : decode cc pc = .ok (.arraylength, 1)) : ax_v own cc nL G (ax_sn b Ln pc) := by
  obtain ⟨⟨p, l, e, R, s, m, args⟩, ⟨below, meth, c⟩, ⟨Q, A⟩, ⟨D, cA, ad, al, θ0⟩⟩ := G
  intro hK x y P cells slots hf hP0 kk
  obtain ⟨q, L, st, μ⟩ := x
  obtain ⟨hx, hb, -⟩ := hK
  unfold ax_sn at hf
  cases hq : Nat.beq q pc with
  | false => simp only [hq, cond_false] at hf; cases hf
  | true =>
    simp only [hq, cond_true] at hf
    have hq' : q = pc := Nat.eq_of_beq_eq_true hq
    subst hq'
    match st, hf with
    | .inl (.ref a) :: st', hf =>
      cases hf
      have hP0 : a = b := hP0
      subst hP0
      intro H locs ls hP hD hS hl
      exact va_slen hx hb hX.1 hX.2.1 hX.2.2 hS hd (kk H locs ls hP hD hS hl)
end
