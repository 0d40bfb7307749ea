/-! CALLS THAT THROW -/
/-- a call by a contract, up to its end, whatever that is -/
theorem ax_tcore {p : Program} {l : Launch} {e : Env} {R : Room} {s : State} {m : MethodId} {args : Array Value} {below : List Frame} {meth : Method} {c : Code} {U : State} {locs : List Loc} {cells slots : Nat} (X : Stand p l e R s m args below meth c U locs cells slots) {y : MethodName} {cy : ByteArray} {nLy dy : Nat} {ry : Option FieldType} {Pc : Array Value → State → Prop} {Qx : Array Value → State → Outcome → State → Prop}
    (hM : MetFree l y (headSpec (.code y cy nLy ry :: ax_tbl) (ax_rx dy)) Pc (fun _ _ _ _ _ => True) Qx) {g : JFrame} {ig : Instr} {mk : MethodId} {a : Array Value} (hg : g.method = m) (hsize : g.locals.size = c.maxLocals) (hdg : decode c.code g.pc = .ok (ig, 3)) (hWs : 2 * g.monitorRoom + (g.stack.map fun v => v.category).sum ≤ 8) (hn : U.methodNamed? y = some mk)
    (hws : ∀ w ∈ (Cond.code y cy nLy ry :: ax_tbl), w.before a U = true) (hini : (Cond.initialized y.cls).before a U = true) (hfr : dy + 1 ≤ R.frames) (hlo : 8 + (nLy + 11) + 64 * dy ≤ R.locals) (hc : cells + 1 ≤ R.cells) (hs : slots + 6 ≤ R.slots) (hPc : Pc a (U.calling g mk a)) :
    ∃ (o : Outcome) (s₂ : State), Steps p.tables e below (doInvoke e (U.setTop g) [] mk a).1 s₂ ∧ s₂.status = .running ∧ Ended s₂ (.java g :: below) o ∧ Qx a (U.calling g mk a) o s₂ := by
  obtain ⟨methY, cY, hmY, hcY, -, hlY, -, -, -, -⟩ := Cond.code_spec hn (hws _ List.mem_cons_self)
  obtain ⟨kY, hkY, -⟩ := className_of_methodNamed hn
  have hinitY : kY.init = .initialized := Cond.initialized_spec (findClass_of_methodNamed hn) hkY hini
  have h : At U g.method c below := by rw [hg]; exact X.here
  have happ : (headSpec (Cond.code y cy nLy ry :: ax_tbl) (ax_rx dy)).appliesLoose y e.platform (U.calling g mk a) = true :=
    Spec.appliesLoose_calling (g := g) h hdg hn hkY hinitY (X.room_calling (g := g) (R' := ax_rx dy) hsize hmY hcY hfr (by rw [hlY]; simp only [ax_rx]; omega) hc hs) (atoms_intro hws)
  obtain ⟨mid, hmid⟩ := h.above
  have hfr' : (U.setTop g).frames = (.java g :: mid) ++ below := by rw [State.frames_setTop' g h.top, hmid]; rfl
  obtain ⟨o, s₂, hsteps, hrun, hend, hq⟩ := Steps.callFree hM p X.admits X.cas X.clock (acts := []) hfr' happ hPc trivial
  rw [State.frames_setTop' g h.top, X.tail] at hend
  exact ⟨o, s₂, hsteps, hrun, hend, hq⟩
/-- behind a call that threw: the walk stands with the note of the throw on its frame -/
theorem ax_tback {p : Program} {l : Launch} {e : Env} {R : Room} {s : State} {m : MethodId} {args : Array Value} {below : List Frame} {meth : Method} {c : Code} {U : State} {locs : List Loc} {cells slots : Nat} (X : Stand p l e R s m args below meth c U locs cells slots) {D : va_G} {cA : Nat → ClassId} {ad : Nat → Nat → Nat} {al : List (Nat × Nat)} {cls : String} {μ : ax_M} {g : JFrame} {mk : MethodId} {a : Array Value} (hg : g.method = m) {o : Outcome} {s₂ : State} (hend : Ended s₂ (.java g :: below) o) (hq : ax_Qx D cA ad al cls μ U.heap.size a (U.calling g mk a) o s₂) :
    ∃ (q : Nat) (L : List Loc) (T' : State), Stand p l e R s m args below meth c T' (locs ++ L) (cells + 1) (slots + 6) ∧ s₂ = (T'.setTop g).pushFrame (.throwing q) ∧ T'.heap = s₂.heap ∧ U.heap.size ≤ q ∧ ax_Ex cls U s₂ q ∧ U.WarmedH T'.vm ∧ (∀ x ∈ L, ax_A ad al U.heap.size x.base) ∧ va_P D ax_cl (ax_ws cA ad al μ) s₂.heap ∧ va_D (ax_A ad al U.heap.size) (ax_ws cA ad al μ) ∧ va_F (ax_A ad al U.heap.size) U s₂ := by
  obtain ⟨q, L, rfl, h1, h2, h3, h4, h5, h6, h7, h8⟩ := hq
  obtain ⟨T', X', hW', -, ht⟩ := X.outOfThrown hg hend h3 h4
  refine ⟨q, L, T', X', ht, ?_, h1, h2, hW', h5, h6, h7, h8⟩
  rw [ht, Stand.throwing_heap]
section
variable {D : va_G} {cA : Nat → ClassId} {ad : Nat → Nat → Nat} {al : List (Nat × Nat)} {θ : ax_Θ} {l : Launch} {own : String} {cc cy : ByteArray} {nL d pc idx n nLy dy : Nat} {ry : Option FieldType} {y : MethodName} {cls : String} {μ : ax_M} {G : ax_G} {av rest st : List ax_V} {L : List (Nat × ax_V)}
/-- the end of a method whose call threw: it throws the same -/
theorem ax_pend {p : Program} {e : Env} {R : Room} {s : State} {m : MethodId} {args : Array Value} {below : List Frame} {meth : Method} {c : Code} {T U : State} {locs : List Loc} {vm₁ : Vm} (hU : U = T.setVm vm₁) (X : Stand p l e R s m args below meth c U locs 0 0) (hlk : meth.locks = false) (hnh : c.exceptionTable.isEmpty = true) {g : JFrame} (hg : g.method = m) (hlo : g.locked = none) (hen : g.entered = []) {o : Outcome} {s₂ : State} {mk : MethodId} {a : Array Value} (hrun : s₂.status = .running) (hend : Ended s₂ (.java g :: below) o) (hq : ax_Qx D cA ad al cls μ U.heap.size a (U.calling g mk a) o s₂) (hA : ∀ q, s.heap.size ≤ q → ax_A ad al s.heap.size q) (hD : va_D (ax_A ad al s.heap.size) (ax_ws cA ad al μ)) (hS : va_S (ax_A ad al s.heap.size) s.heap T.heap locs) :
    ∃ t, Steps p.tables e below s₂ t ∧ ∃ o, t.status = .running ∧ Ended t below o ∧ ax_Qx D cA ad al cls μ s.heap.size args s o t := by
  have hUh : U.heap = T.heap := by rw [hU]; rfl
  obtain ⟨q, L', T', X', ht, hh, h1, h2, hW', h5, h6, h7, h8⟩ := ax_tback X hg hend hq
  have hemp : c.exceptionTable.toList = [] := by simpa using hnh
  obtain ⟨hwalk, hrun', hend', hWf, hsame⟩ := X'.leaveThrown q (g := g) hg hlo hen (fun x hx => by rw [hemp] at hx; cases hx) hlk
  have hsub : ∀ x, ax_A ad al U.heap.size x → ax_A ad al s.heap.size x := by rw [hUh]; exact ax_sub hA hD hS
  rw [hUh] at h1 h8
  obtain ⟨ce, c1, c2, c3⟩ := h2
  refine ⟨_, by rw [ht]; exact hwalk, .threw q, hrun', hend', q, locs ++ L', rfl, Nat.le_trans hS.1 h1, ⟨ce, ?_, c2, ?_⟩, hWf, hsame, ?_, ?_, hD, ?_⟩
  · show T'.heap[q]? = some ce
    rw [hh]; exact c1
  · have c4 : U.vm.findClass cls = some ce.cls := c3
    rw [X.warmed.alike.findClass] at c4; exact c4
  · intro x hx
    rcases List.mem_append.mp hx with h | h
    · exact hS.2.2 x h
    · exact hsub _ (h5 x h)
  · show va_P D ax_cl (ax_ws cA ad al μ) T'.heap
    rw [hh]; exact h6
  · refine ⟨?_, fun x hx1 hx2 => ?_⟩
    · show s.heap.size ≤ T'.heap.size
      rw [hh]; exact Nat.le_trans hS.1 (by have := h8.1; rw [hUh] at this; exact this)
    · show T'.heap[x]? = s.heap[x]?
      rw [hh]
      have h9 := h8.2 x (by rw [hUh]; exact Nat.lt_of_lt_of_le hx1 hS.1) (fun z => hx2 (hsub x (by rw [hUh]; exact z)))
      rw [h9, hUh]
      exact hS.2.1 x hx1 hx2
end
/-- a call of a method that throws, in a method that then throws too -/
theorem ax_pV {D : va_G} {cA : Nat → ClassId} {ad : Nat → Nat → Nat} {al : List (Nat × Nat)} {θ : ax_Θ} {l : Launch} {own : String} {cc cy : ByteArray} {nL d pc idx n nLy dy g r ci : Nat} {fk : List Nat} {T0 : u_T} {N0 : Nat} {ry : Option FieldType} {y : MethodName} {cls : String} {μ : ax_M} {G : ax_G} {av rest st : List ax_V} {L : List (Nat × ax_V)} (h : ax_Ax D cA ad al θ l own cc nL d cls μ G) (hX : ax_X l D cA ad al θ y (.code y cy nLy ry) dy (.inr (g, r) :: av) μ cls) (hw : ax_cw own idx y (.code y cy nLy ry) n) (hi : Cond.instanceMethod y ∈ ax_tbl) (hse : Cond.selects y.cls y y ∈ ax_tbl) (hd : decode cc pc = .ok (.invokevirtual idx, 3)) (hm : (g, r) ∈ al) (hly : ax_ly r = (0, ci, fk)) (hci : ax_cl[ci]? = some (y.cls, T0, N0)) (hdd : dy + 1 ≤ d) (hnl : nLy ≤ 45) (hn : av.length = n) (hst : st = av.reverse ++ .inr (g, r) :: rest) (hrs : (rest.map ax_cat).sum ≤ 8) : ax_R G nL 0 0 (pc, L, st, μ) := by
  obtain ⟨⟨p, l0, e, R, s, m, args⟩, ⟨below, meth, c⟩, ⟨Q, A⟩, ⟨D0, cA0, ad0, al0, θ0⟩⟩ := G
  obtain ⟨⟨hx, hb, hown, hml, hlk, hts, hKK, hA, hZ⟩, rfl, rfl, rfl, rfl, rfl, rfl, rfl, hnh, rfl, rfl⟩ := h
  intro H locs ls hP hD hS hl T hT X
  subst hT
  subst hst
  obtain ⟨w1, w2, w3, w4, w5⟩ := hw
  obtain ⟨q0, h0, hq0⟩ := ax_at (cA := cA0) (ad := ad0) hm
  have he := hq0 μ
  rw [ax_cell_obj hly] at he
  obtain ⟨cellB, hcell, hobj, hcls⟩ := va_recv hKK hP hci he
  obtain ⟨mk, methM, hnamed, hmethM, hstM, habM⟩ := Cond.instanceMethod_spec (hts _ hi)
  obtain ⟨methM', cM, hmethM', -, -, -, -, -, -, hsigM⟩ := Cond.code_spec hnamed (hts _ w3)
  cases hmethM.symm.trans hmethM'
  obtain ⟨c2, r2, m2, q1, q2, q3, q4, kP, hkP, hkPi⟩ := Cond.selects_spec (hts _ hse)
  cases hcls.symm.trans q1
  cases (State.methodFound?_of_named hnamed w4).symm.trans q2
  cases hnamed.symm.trans q3
  have hselP : selectMethod e.platform s.vm cellB.cls mk = .method mk := by rw [Launch.admits_selectMethod X.admits]; exact q4
  have hlen : (av.map (ax_cv ad0)).length = methM.sig.parameters.length := by
    rw [hsigM] at w5
    have := Option.some.inj w5
    rw [List.length_map, hn]; exact this.symm
  obtain ⟨vm₁, X₁, hstep₁⟩ := X.invokevirtual hx hown (hts _ w1) hnamed hmethM hstM hkP hkPi w4 (a := ad0 g r) (cell := cellB) hcell (fun z hz => by rw [hz] at hobj; cases hobj) hselP hmethM habM hkP hkPi (g := F0 m pc ls ((av.reverse ++ .inr (g, r) :: rest).map (ax_cv ad0))) rfl (argsL := av.map (ax_cv ad0)) (rest := rest.map (ax_cv ad0)) hlen (by simp [ax_cv]) (by rw [hb]; exact hd)
  have hcat : ((rest.map (ax_cv ad0)).map fun v => v.category).sum ≤ 8 := by
    rw [List.map_map]
    have : (rest.map ((fun v => v.category) ∘ ax_cv ad0)) = rest.map ax_cat := List.map_congr_left (fun v _ => ax_cat_cv ad0 v)
    rw [this]; exact hrs
  have hws : ∀ w ∈ (Cond.code y cy nLy ry :: ax_tbl), w.before (Value.ref (ad0 g r) :: av.map (ax_cv ad0)).toArray (T.setVm vm₁) = true := fun w hw' => word_at X₁.warmed (ax_goodIn w3 w hw').2 (hts w (ax_goodIn w3 w hw').1)
  obtain ⟨o, s₂, hs2, hrun, hend, hq⟩ := ax_tcore X₁ (hX (T.setVm vm₁).heap.size) (g := F0 m pc ls (rest.map (ax_cv ad0))) (ig := .invokevirtual idx) (mk := mk) (a := (Value.ref (ad0 g r) :: av.map (ax_cv ad0)).toArray) rfl (hl.1.trans hml.symm) (by rw [hb]; exact hd) (lv_room hcat) (X₁.named hnamed) hws (word_at X₁.warmed (good_of_word (List.all_eq_true.mp ax_good _ w2)) (hts _ w2)) (by simp only [ax_rx]; omega) (by simp only [ax_rx]; omega) (by simp [ax_rx]) (by simp [ax_rx])
    (ax_blind _ (T.setVm vm₁) _ _ ⟨rfl, rfl, hP, va_K.moved X₁.warmed.alike hKK, hD.weaken (fun _ _ _ _ => trivial), ((hZ.kept (fun q h1 h2 => hS.2.1 q h1 h2)).narrow (ax_sub hA hD hS)).warm X₁.warmed |> ax_Zh rfl⟩)
  obtain ⟨t, a1, b1⟩ := ax_pend (T := T) rfl X₁ hlk hnh (g := F0 m pc ls (rest.map (ax_cv ad0))) rfl rfl rfl hrun hend hq hA hD hS
  exact ⟨t, hstep₁ _ (fun acts => by rw [doInvoke_state]; exact hs2.trans a1), b1⟩
/-- the same of a static method -/
theorem ax_pS {D : va_G} {cA : Nat → ClassId} {ad : Nat → Nat → Nat} {al : List (Nat × Nat)} {θ : ax_Θ} {l : Launch} {own : String} {cc cy : ByteArray} {nL d pc idx n nLy dy : Nat} {ry : Option FieldType} {y : MethodName} {cls : String} {μ : ax_M} {G : ax_G} {av rest st : List ax_V} {L : List (Nat × ax_V)} (h : ax_Ax D cA ad al θ l own cc nL d cls μ G) (hX : ax_X l D cA ad al θ y (.code y cy nLy ry) dy av μ cls) (hw : ax_cw own idx y (.code y cy nLy ry) n) (hsm : Cond.static y ∈ ax_tbl) (hd : decode cc pc = .ok (.invokestatic idx, 3)) (hdd : dy + 1 ≤ d) (hnl : nLy ≤ 45) (hn : av.length = n) (hst : st = av.reverse ++ rest) (hrs : (rest.map ax_cat).sum ≤ 8) : ax_R G nL 0 0 (pc, L, st, μ) := by
  obtain ⟨⟨p, l0, e, R, s, m, args⟩, ⟨below, meth, c⟩, ⟨Q, A⟩, ⟨D0, cA0, ad0, al0, θ0⟩⟩ := G
  obtain ⟨⟨hx, hb, hown, hml, hlk, hts, hKK, hA, hZ⟩, rfl, rfl, rfl, rfl, rfl, rfl, rfl, hnh, rfl, rfl⟩ := h
  intro H locs ls hP hD hS hl T hT X
  subst hT
  subst hst
  obtain ⟨w1, w2, w3, w4, w5⟩ := hw
  obtain ⟨mk, hnamed⟩ := Cond.code_named (hts _ w3)
  obtain ⟨methM, cM, hmethM, -, -, -, -, -, -, hsigM⟩ := Cond.code_spec hnamed (hts _ w3)
  have hstatic : methM.isStatic = true := Cond.static_spec hnamed hmethM (hts _ hsm)
  obtain ⟨kP, hkP, -⟩ := className_of_methodNamed hnamed
  have hinitP : kP.init = .initialized := Cond.initialized_spec (findClass_of_methodNamed hnamed) hkP (hts _ w2)
  have hlen : (av.map (ax_cv ad0)).length = methM.sig.parameters.length := by
    rw [hsigM] at w5
    have := Option.some.inj w5
    rw [List.length_map, hn]; exact this.symm
  obtain ⟨vm₁, X₁, hstep₁⟩ := X.invokestatic hx hown (hts _ w1) hnamed hmethM hstatic hkP hinitP w4 (g := F0 m pc ls ((av.reverse ++ rest).map (ax_cv ad0))) rfl (argsL := av.map (ax_cv ad0)) (rest := rest.map (ax_cv ad0)) hlen (by simp) (by rw [hb]; exact hd)
  have hcat : ((rest.map (ax_cv ad0)).map fun v => v.category).sum ≤ 8 := by
    rw [List.map_map]
    have : (rest.map ((fun v => v.category) ∘ ax_cv ad0)) = rest.map ax_cat := List.map_congr_left (fun v _ => ax_cat_cv ad0 v)
    rw [this]; exact hrs
  have hws : ∀ w ∈ (Cond.code y cy nLy ry :: ax_tbl), w.before (av.map (ax_cv ad0)).toArray (T.setVm vm₁) = true := fun w hw' => word_at X₁.warmed (ax_goodIn w3 w hw').2 (hts w (ax_goodIn w3 w hw').1)
  obtain ⟨o, s₂, hs2, hrun, hend, hq⟩ := ax_tcore X₁ (hX (T.setVm vm₁).heap.size) (g := F0 m pc ls (rest.map (ax_cv ad0))) (ig := .invokestatic idx) (mk := mk) (a := (av.map (ax_cv ad0)).toArray) rfl (hl.1.trans hml.symm) (by rw [hb]; exact hd) (lv_room hcat) (X₁.named hnamed) hws (word_at X₁.warmed (good_of_word (List.all_eq_true.mp ax_good _ w2)) (hts _ w2)) (by simp only [ax_rx]; omega) (by simp only [ax_rx]; omega) (by simp [ax_rx]) (by simp [ax_rx])
    (ax_blind _ (T.setVm vm₁) _ _ ⟨rfl, rfl, hP, va_K.moved X₁.warmed.alike hKK, hD.weaken (fun _ _ _ _ => trivial), ((hZ.kept (fun q h1 h2 => hS.2.1 q h1 h2)).narrow (ax_sub hA hD hS)).warm X₁.warmed |> ax_Zh rfl⟩)
  obtain ⟨t, a1, b1⟩ := ax_pend (T := T) rfl X₁ hlk hnh (g := F0 m pc ls (rest.map (ax_cv ad0))) rfl rfl rfl hrun hend hq hA hD hS
  exact ⟨t, hstep₁ _ (fun acts => by rw [doInvoke_state]; exact hs2.trans a1), b1⟩
