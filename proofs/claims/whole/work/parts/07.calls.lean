/-! CONTRACTS, CALLS, RETURNS -/
theorem ax_good : ax_tbl.all goodWord = true := List.all_eq_true.mpr (fun _ h => (List.mem_filter.mp h).2)
/-- what a method may write: the cells that are there, and new ones -/
def ax_A (ad : Nat → Nat → Nat) (al : List (Nat × Nat)) (sz : Nat) : Nat → Prop := fun q => (∃ g r : Nat, (g, r) ∈ al ∧ q = ad g r) ∨ sz ≤ q
def ax_Pc (D : va_G) (cA : Nat → ClassId) (ad : Nat → Nat → Nat) (al : List (Nat × Nat)) (θ : ax_Θ) (av : List ax_V) (μ : ax_M) (sz : Nat) : Array Value → State → Prop := va_Pc (av.map (ax_cv ad)) (fun U => U.heap.size = sz ∧ va_P D ax_cl (ax_ws cA ad al μ) U.heap ∧ va_K D ax_cl (ax_tys cA) U ∧ va_D (fun _ => True) (ax_ws cA ad al μ) ∧ ax_Z θ (ax_A ad al sz) U U.heap)
def ax_Qc (D : va_G) (cA : Nat → ClassId) (ad : Nat → Nat → Nat) (al : List (Nat × Nat)) (rv : Option ax_V) (μ : ax_M) (sz : Nat) : Array Value → State → Outcome → State → Prop := fun _ st oc t => oc = .returned (rv.map (ax_cv ad)) ∧ va_P D ax_cl (ax_ws cA ad al μ) t.heap ∧ va_D (ax_A ad al sz) (ax_ws cA ad al μ) ∧ va_F (ax_A ad al sz) st t
/-- the room of a method at depth d of calls -/
def ax_rm (d : Nat) : Room := { frames := d, cells := 0, slots := 0, locals := 64 * d }
/-- THE CONTRACT of method y (its word w): called with av in memory μ it returns rv, in memory μ' -/
def ax_T (l : Launch) (D : va_G) (cA : Nat → ClassId) (ad : Nat → Nat → Nat) (al : List (Nat × Nat)) (θ : ax_Θ) (y : MethodName) (w : Cond) (d : Nat) (av : List ax_V) (μ : ax_M) (rv : Option ax_V) (μ' : ax_M) : Prop :=
  ∀ sz : Nat, Met l y (w :: ax_tbl) (ax_rm d) (ax_Pc D cA ad al θ av μ sz) (ax_Qc D cA ad al rv μ' sz) 0 0 (ax_A ad al sz)
/-- a frame of a walk of method y -/
def ax_At (D : va_G) (cA : Nat → ClassId) (ad : Nat → Nat → Nat) (al : List (Nat × Nat)) (θ : ax_Θ) (l : Launch) (own : String) (cc : ByteArray) (nL d : Nat) (ret : Option FieldType) (rv : Option ax_V) (μ' : ax_M) (G : ax_G) : Prop := match G with
  | ((p, l0, e, R, s, m, args), (below, meth, c), (Q, A), (D0, cA0, ad0, al0, θ0)) =>
    ax_K own cc nL G ∧ R = ax_rm d ∧ l0 = l ∧ D0 = D ∧ cA0 = cA ∧ ad0 = ad ∧ al0 = al ∧ θ0 = θ ∧ meth.sig.returnType = ret ∧ A = ax_A ad al s.heap.size ∧ Q = MQ below (ax_Qc D cA ad al rv μ' s.heap.size) args s 0 0 (ax_A ad al s.heap.size)
theorem ax_D_of {A : Nat → Prop} {cA : Nat → ClassId} {ad : Nat → Nat → Nat} {al : List (Nat × Nat)} {μ : ax_M} {sz : Nat} (h : va_D A (ax_ws cA ad al μ)) : va_D (ax_A ad al sz) (ax_ws cA ad al μ) := by
  refine h.weaken (fun k q hk _ => Or.inl ?_)
  simp only [ax_ws, List.getElem?_map] at hk
  cases hq : al[k]? with
  | none => rw [hq] at hk; cases hk
  | some q' => rw [hq] at hk; cases hk; exact ⟨q'.1, q'.2, List.mem_of_getElem? hq, rfl⟩
/-- the contract out of a walk of the body -/
theorem ax_T_of {l : Launch} {D : va_G} {cA : Nat → ClassId} {ad : Nat → Nat → Nat} {al : List (Nat × Nat)} {θ : ax_Θ} {y : MethodName} {own : String} {cc : ByteArray} {nL d : Nat} {ret : Option FieldType} {av : List ax_V} {μ : ax_M} {rv : Option ax_V} {μ' : ax_M} (hy : plainName y.cls = true) (hown : y.cls = own) (hn : (lg_sl (av.map (fun v => ax_cv ad v))).length ≤ nL) (L : List (Nat × ax_V)) (hL : ax_L ad L = lv_args 0 (av.map (ax_cv ad)))
    (body : ∀ G : ax_G, ax_At D cA ad al θ l own cc nL d ret rv μ' G → ax_R G nL 0 0 (0, L, [], μ)) : ax_T l D cA ad al θ y (.code y cc nL ret) d av μ rv μ' := by
  intro sz
  refine Met.ofW (cc := cc) (maxL := nL) (ret := ret) hy rfl ?_
  intro p e s m args below meth c s₁ B hml hv
  obtain ⟨rfl, hsz, hP, hK, hD0, hZ⟩ := hv
  have hts := atoms_spec (ws := .code y cc nL ret :: ax_tbl) B.pre
  have hfc : s.vm.findClass own = some m.cls := by rw [← hown]; exact findClass_of_methodNamed B.named
  subst hsz
  have hl := lv_entry (av.map (ax_cv ad)) (n := nL) hn
  rw [lg_entry_eq]
  generalize (lg_sl (av.map (ax_cv ad)) ++ List.replicate (nL - (lg_sl (av.map (ax_cv ad))).length) Slot.unset).toArray = ls at hl ⊢
  rw [← hL] at hl
  exact body ((p, l, e, ax_rm d, s, m, (av.map (ax_cv ad)).toArray), (below, meth, c), (MQ below (ax_Qc D cA ad al rv μ' s.heap.size) (av.map (ax_cv ad)).toArray s 0 0 (ax_A ad al s.heap.size), ax_A ad al s.heap.size), (D, cA, ad, al, θ))
    ⟨⟨B.exec, B.bytes, hfc, hml, B.notSynchronized, fun w hw => hts w (List.mem_cons_of_mem _ hw), hK, fun q h => Or.inr h, hZ⟩, rfl, rfl, rfl, rfl, rfl, rfl, rfl, B.returns, rfl, rfl⟩ s.heap [] ls hP (ax_D_of hD0) va_S.rf hl
section
variable {D : va_G} {cA : Nat → ClassId} {ad : Nat → Nat → Nat} {al : List (Nat × Nat)} {θ : ax_Θ} {l : Launch} {own : String} {cc : ByteArray} {nL d : Nat} {μ' : ax_M} {G : ax_G}
theorem ax_iret {v : Int32} (h : ax_At D cA ad al θ l own cc nL d (some .int) (some (.inl (.int v))) μ' G) {pc : Nat} {L : List (Nat × ax_V)} (hd : decode cc pc = .ok (.ireturn, 1)) : ax_R G nL 0 0 (pc, L, [.inl (.int v)], μ') := by
  obtain ⟨⟨p, l0, e, R, s, m, args⟩, ⟨below, meth, c⟩, ⟨Q, A⟩, ⟨D0, cA0, ad0, al0, θ0⟩⟩ := G
  obtain ⟨⟨hx, hb, -, -, hlk, -⟩, rfl, rfl, rfl, rfl, rfl, rfl, rfl, hr, rfl, rfl⟩ := h
  intro H locs ls hP hD hS hl
  exact W.iret hx hb hr (fun t ht hW => ⟨rfl, by rw [ht]; exact hP, hD, hS.F ht⟩) hS.2.2 hd hlk
theorem ax_zret {v : Int32} {ty : FieldType} (h : ax_At D cA ad al θ l own cc nL d (some ty) (some (.inl (.int v))) μ' G) (hn : narrow ty (.int v) = .int v) {pc : Nat} {L : List (Nat × ax_V)} (hd : decode cc pc = .ok (.ireturn, 1)) : ax_R G nL 0 0 (pc, L, [.inl (.int v)], μ') := by
  obtain ⟨⟨p, l0, e, R, s, m, args⟩, ⟨below, meth, c⟩, ⟨Q, A⟩, ⟨D0, cA0, ad0, al0, θ0⟩⟩ := G
  obtain ⟨⟨hx, hb, -, -, hlk, -⟩, rfl, rfl, rfl, rfl, rfl, rfl, rfl, hr, rfl, rfl⟩ := h
  intro H locs ls hP hD hS hl
  exact W.zret hx hb hr hn (fun t ht hW => ⟨rfl, by rw [ht]; exact hP, hD, hS.F ht⟩) hS.2.2 hd hlk
theorem ax_lret {v : Int64} (h : ax_At D cA ad al θ l own cc nL d (some .long) (some (.inl (.long v))) μ' G) {pc : Nat} {L : List (Nat × ax_V)} (hd : decode cc pc = .ok (.lreturn, 1)) : ax_R G nL 0 0 (pc, L, [.inl (.long v)], μ') := by
  obtain ⟨⟨p, l0, e, R, s, m, args⟩, ⟨below, meth, c⟩, ⟨Q, A⟩, ⟨D0, cA0, ad0, al0, θ0⟩⟩ := G
  obtain ⟨⟨hx, hb, -, -, hlk, -⟩, rfl, rfl, rfl, rfl, rfl, rfl, rfl, hr, rfl, rfl⟩ := h
  intro H locs ls hP hD hS hl
  exact W.lret hx hb hr (fun t ht hW => ⟨rfl, by rw [ht]; exact hP, hD, hS.F ht⟩) hS.2.2 hd hlk
theorem ax_vret (h : ax_At D cA ad al θ l own cc nL d none none μ' G) {pc : Nat} {L : List (Nat × ax_V)} (hd : decode cc pc = .ok (.return_, 1)) : ax_R G nL 0 0 (pc, L, [], μ') := by
  obtain ⟨⟨p, l0, e, R, s, m, args⟩, ⟨below, meth, c⟩, ⟨Q, A⟩, ⟨D0, cA0, ad0, al0, θ0⟩⟩ := G
  obtain ⟨⟨hx, hb, -, -, hlk, -⟩, rfl, rfl, rfl, rfl, rfl, rfl, rfl, hr, rfl, rfl⟩ := h
  intro H locs ls hP hD hS hl
  exact W.vret hx hb hr (fun t ht hW => ⟨rfl, by rw [ht]; exact hP, hD, hS.F ht⟩) hS.2.2 hd hlk
end
theorem ax_blind {D : va_G} {cA : Nat → ClassId} {ad : Nat → Nat → Nat} {al : List (Nat × Nat)} {θ : ax_Θ} {av : List ax_V} {μ : ax_M} {sz : Nat} : FrameBlind (ax_Pc D cA ad al θ av μ sz) := by
  intro a U g mk q
  obtain ⟨q0, q1, qP, qK, qD, qZ⟩ := q
  exact ⟨q0, q1, qP, va_K.moved (u := U) (U := U.calling g mk a) (Vm.Alike.refl U.vm) qK, qD, ax_Z.same (u := U) rfl qZ⟩
theorem ax_sub {s : State} {H : Heap} {locs : List Loc} {A : Nat → Prop} {cA : Nat → ClassId} {ad : Nat → Nat → Nat} {al : List (Nat × Nat)} {μ : ax_M} (hA : ∀ q, s.heap.size ≤ q → A q) (hD : va_D A (ax_ws cA ad al μ)) (hS : va_S A s.heap H locs) : ∀ q, ax_A ad al H.size q → A q := by
  rintro q (⟨g, r, hm, rfl⟩ | h)
  · obtain ⟨i, hi⟩ := List.getElem?_of_mem hm
    exact hD.2 i (ad g r, ax_cell cA ad μ g r) (by simp only [ax_ws, List.getElem?_map, hi, Option.map_some])
  · exact hA q (Nat.le_trans hS.1 h)
theorem ax_Zh {θ : ax_Θ} {A : Nat → Prop} {U : State} {H : Heap} (hU : U.heap = H) (h : ax_Z θ A U H) : ax_Z θ A U U.heap := by rw [hU]; exact h
/-- behind a call -/
theorem ax_end {p : Program} {l : Launch} {e : Env} {R : Room} {s : State} {m : MethodId} {args : Array Value} {below : List Frame} {meth : Method} {c : Code} {Q : State → Prop} {A : Nat → Prop} {D : va_G} {cA : Nat → ClassId} {ad : Nat → Nat → Nat} {al : List (Nat × Nat)} {θ : ax_Θ} {nL cells slots pc : Nat} {L : List (Nat × ax_V)} {st0 : List Value} {rest : List ax_V} {rv : Option ax_V} {μ μ' : ax_M} {H : Heap} {locs : List Loc} {ls : Array Slot} {a : Array Value}
    (hA : ∀ q, s.heap.size ≤ q → A q) (hD : va_D A (ax_ws cA ad al μ)) (hS : va_S A s.heap H locs) (hl : lv_has ls nL (ax_L ad L))
    (hr : va_Run p l e R s m args below meth c H locs cells slots 0 0 (F0 m pc ls st0) (rest.map (ax_cv ad)) (ax_Qc D cA ad al rv μ' H.size a) (ax_A ad al H.size))
    (kk : ax_R ((p, l, e, R, s, m, args), (below, meth, c), (Q, A), (D, cA, ad, al, θ)) nL cells slots (pc + 3, L, rv.toList ++ rest, μ')) : W p l e R s m args below meth c H locs cells slots Q (F0 m pc ls st0) := by
  intro T hT X
  obtain ⟨v, st₀, t, T', L1, h0, X', hL, e1, e2, ⟨hv, hP1, hD1, hz, hk⟩, st⟩ := hr T hT X
  have hv' : v = rv.map (ax_cv ad) := by injection hv
  subst hv'
  rw [h0] at hz hk
  have hF : ∀ q, ax_A ad al H.size q → A q := ax_sub hA hD hS
  have hS' : va_S A s.heap T'.heap (locs ++ L1) := by
    refine ⟨Nat.le_trans hS.1 (by rw [e1]; exact hz), fun q h1 h2 => ?_, fun q hq => ?_⟩
    · rw [e1, hk q (Nat.lt_of_lt_of_le h1 hS.1) (fun z => h2 (hF q z))]
      exact hS.2.1 q h1 h2
    · rcases List.mem_append.mp hq with h | h
      · exact hS.2.2 q h
      · exact hF _ (hL q h)
  have k1 := kk T'.heap (locs ++ L1) ls (by rw [e1]; exact hP1) (hD1.weaken (fun _ q _ h => hF q.1 h)) hS' hl
  have e9 : (rv.toList ++ rest).map (ax_cv ad) = (rv.map (ax_cv ad)).toList ++ rest.map (ax_cv ad) := by cases rv <;> rfl
  simp only [e9] at k1
  obtain ⟨t2, a1, b1⟩ := k1 T' rfl X'
  exact ⟨t2, st t2 a1, b1⟩
/-- the words of a call -/
def ax_cw (own : String) (idx : Nat) (y : MethodName) (w : Cond) (n : Nat) : Prop := Cond.methodLink own idx y ∈ ax_tbl ∧ Cond.initialized y.cls ∈ ax_tbl ∧ w ∈ ax_tbl ∧ (y.cls ≠ "java/lang/invoke/MethodHandle" ∧ y.cls ≠ "java/lang/invoke/VarHandle") ∧ (parseMethodDescriptor y.desc).map (fun d => d.parameters.length) = some n
theorem ax_goodIn {w : Cond} (h : w ∈ ax_tbl) : GoodIn ax_tbl (w :: ax_tbl) := by
  intro x hx
  have hx' : x ∈ ax_tbl := by rcases List.mem_cons.mp hx with rfl | h1; exact h; exact h1
  exact ⟨hx', good_of_word (List.all_eq_true.mp ax_good x hx')⟩
/-- invokestatic -/
theorem ax_callS {own : String} {cc cy : ByteArray} {nL cells slots pc idx n nLy dy d : Nat} {ry : Option FieldType} {y : MethodName} {p : Program} {l : Launch} {e : Env} {R : Room} {s : State} {m : MethodId} {args : Array Value} {below : List Frame} {meth : Method} {c : Code} {Q : State → Prop} {A : Nat → Prop} {D : va_G} {cA : Nat → ClassId} {ad : Nat → Nat → Nat} {al : List (Nat × Nat)} {θ : ax_Θ} {av rest st : List ax_V} {rv : Option ax_V} {μ μ' : ax_M} {L : List (Nat × ax_V)}
    (hK : ax_K own cc nL ((p, l, e, R, s, m, args), (below, meth, c), (Q, A), (D, cA, ad, al, θ))) (hR : R = ax_rm d) (hT : ax_T l D cA ad al θ y (.code y cy nLy ry) dy av μ rv μ') (hw : ax_cw own idx y (.code y cy nLy ry) n) (hs : Cond.static y ∈ ax_tbl) (hd : decode cc pc = .ok (.invokestatic idx, 3)) (hdd : dy + 1 ≤ d) (hnl : nLy ≤ 45) (hn : av.length = n) (hst : st = av.reverse ++ rest) (hrs : (rest.map ax_cat).sum ≤ 8) (hc0 : cells ≤ R.cells) (hs0 : slots ≤ R.slots)
    (kk : ax_R ((p, l, e, R, s, m, args), (below, meth, c), (Q, A), (D, cA, ad, al, θ)) nL cells slots (pc + 3, L, rv.toList ++ rest, μ')) : ax_R ((p, l, e, R, s, m, args), (below, meth, c), (Q, A), (D, cA, ad, al, θ)) nL cells slots (pc, L, st, μ) := by
  intro H locs ls hP hD hS hl
  obtain ⟨hx, hb, hown, hml, -, hts, hKK, hA, hZ⟩ := hK
  obtain ⟨w1, w2, w3, w4, w5⟩ := hw
  subst hst
  refine ax_end (a := (av.map (ax_cv ad)).toArray) hA hD hS hl (va_runS (As := av.map (ax_cv ad)) (n := n) ⟨hx, hb, hml, hown, hts⟩ (hT H.size) (va_cwS n hts (Ts := ax_tbl) ?_ rfl rfl rfl ⟨w4.1, w4.2, w5⟩ ?_) ⟨ax_blind, fun U hU hW => ⟨rfl, by rw [hU], by rw [hU]; exact hP, va_K.moved hW.alike hKK, hD.weaken (fun _ _ _ _ => trivial), ((hZ.kept (fun q h1 h2 => hS.2.1 q h1 h2)).narrow (ax_sub hA hD hS)).warm hW |> ax_Zh hU⟩⟩ rfl (by simp [hn]) hl.1 (by simp) ?_ hd ⟨by omega, by omega⟩) kk
  · intro x hx'
    unfold va_wsS at hx'
    rcases List.mem_append.mp hx' with h | h
    · have hxm : x ∈ ax_tbl := by
        simp only [List.mem_cons, List.not_mem_nil, or_false] at h
        rcases h with rfl | rfl | rfl
        · exact w1
        · exact hs
        · exact w2
      exact ⟨hxm, good_of_word (List.all_eq_true.mp ax_good x hxm)⟩
    · exact ax_goodIn w3 x h
  · rw [hR]; simp only [ax_rm]; omega
  · refine lv_room ?_
    rw [List.map_map]
    have : (rest.map ((fun v => v.category) ∘ ax_cv ad)) = rest.map ax_cat := List.map_congr_left (fun v _ => ax_cat_cv ad v)
    rw [this]; exact hrs
/-- invokevirtual -/
theorem ax_callV {own : String} {cc cy : ByteArray} {nL cells slots pc idx n nLy dy d g r ci : Nat} {fk : List Nat} {ry : Option FieldType} {y : MethodName} {p : Program} {l : Launch} {e : Env} {R : Room} {s : State} {m : MethodId} {args : Array Value} {below : List Frame} {meth : Method} {c : Code} {Q : State → Prop} {A : Nat → Prop} {D : va_G} {cA : Nat → ClassId} {ad : Nat → Nat → Nat} {al : List (Nat × Nat)} {θ : ax_Θ} {av rest st : List ax_V} {rv : Option ax_V} {μ μ' : ax_M} {L : List (Nat × ax_V)} {T0 : u_T} {N0 : Nat}
    (hK : ax_K own cc nL ((p, l, e, R, s, m, args), (below, meth, c), (Q, A), (D, cA, ad, al, θ))) (hR : R = ax_rm d) (hT : ax_T l D cA ad al θ y (.code y cy nLy ry) dy (.inr (g, r) :: av) μ rv μ') (hw : ax_cw own idx y (.code y cy nLy ry) n) (hi : Cond.instanceMethod y ∈ ax_tbl) (hse : Cond.selects y.cls y y ∈ ax_tbl) (hd : decode cc pc = .ok (.invokevirtual idx, 3)) (hm : (g, r) ∈ al) (hly : ax_ly r = (0, ci, fk)) (hci : ax_cl[ci]? = some (y.cls, T0, N0)) (hdd : dy + 1 ≤ d) (hnl : nLy ≤ 45) (hn : av.length = n) (hst : st = av.reverse ++ .inr (g, r) :: rest) (hrs : (rest.map ax_cat).sum ≤ 8) (hc0 : cells ≤ R.cells) (hs0 : slots ≤ R.slots)
    (kk : ax_R ((p, l, e, R, s, m, args), (below, meth, c), (Q, A), (D, cA, ad, al, θ)) nL cells slots (pc + 3, L, rv.toList ++ rest, μ')) : ax_R ((p, l, e, R, s, m, args), (below, meth, c), (Q, A), (D, cA, ad, al, θ)) nL cells slots (pc, L, st, μ) := by
  intro H locs ls hP hD hS hl
  obtain ⟨hx, hb, hown, hml, -, hts, hKK, hA, hZ⟩ := hK
  obtain ⟨w1, w2, w3, w4, w5⟩ := hw
  subst hst
  obtain ⟨q0, h0, h1⟩ := ax_at (cA := cA) (ad := ad) hm
  have he := h1 μ
  rw [ax_cell_obj hly] at he
  refine ax_end (a := (Value.ref (ad g r) :: av.map (ax_cv ad)).toArray) hA hD hS hl (va_runV (As := av.map (ax_cv ad)) (n := n) (C := y.cls) (b := ad g r) ⟨hx, hb, hml, hown, hts⟩ (hT H.size) (cwV n hts (Ts := ax_tbl) ?_ rfl rfl rfl ⟨rfl, w4.1, w4.2, w5⟩ ?_) ⟨ax_blind, va_recv hKK hP hci he, fun U hU hW => ⟨rfl, by rw [hU], by rw [hU]; exact hP, va_K.moved hW.alike hKK, hD.weaken (fun _ _ _ _ => trivial), ((hZ.kept (fun q h1 h2 => hS.2.1 q h1 h2)).narrow (ax_sub hA hD hS)).warm hW |> ax_Zh hU⟩⟩ rfl (by simp [hn]) hl.1 (by simp [ax_cv]) ?_ hd ⟨by omega, by omega⟩) kk
  · intro x hx'
    unfold wsV at hx'
    rcases List.mem_append.mp hx' with h | h
    · have hxm : x ∈ ax_tbl := by
        simp only [List.mem_cons, List.not_mem_nil, or_false] at h
        rcases h with rfl | rfl | rfl | rfl
        · exact w1
        · exact hi
        · exact hse
        · exact w2
      exact ⟨hxm, good_of_word (List.all_eq_true.mp ax_good x hxm)⟩
    · exact ax_goodIn w3 x h
  · rw [hR]; simp only [ax_rm]; omega
  · refine lv_room ?_
    rw [List.map_map]
    have : (rest.map ((fun v => v.category) ∘ ax_cv ad)) = rest.map ax_cat := List.map_congr_left (fun v _ => ax_cat_cv ad v)
    rw [this]; exact hrs
