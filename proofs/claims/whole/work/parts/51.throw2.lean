/-! CALLS THAT THROW -/
/-- a call by a contract, up to its end, whatever that is -/
theorem ax_tcore {p : Program} {l : Launch} {e : Env} {R : Room} {s : State} {m : MethodId} {args : Array Value} {below : List Frame} {meth : Method} {c : Code} {U : State} {locs : List Loc} {cells slots : Nat} (X : Stand p l e R s m args below meth c U locs cells slots) {y : MethodName} {cy : ByteArray} {nLy dy : Nat} {ry : Option FieldType} {Pc : Array Value → State → Prop} {Qx : Array Value → State → Outcome → State → Prop}
    (hM : MetFree l y (headSpec (.code y cy nLy ry :: ax_tbl) (ax_rx dy)) Pc (fun _ _ _ _ _ => True) Qx) {g : JFrame} {ig : Instr} {mk : MethodId} {a : Array Value} (hg : g.method = m) (hsize : g.locals.size = c.maxLocals) (hdg : decode c.code g.pc = .ok (ig, 3)) (hWs : 2 * g.monitorRoom + (g.stack.map fun v => v.category).sum ≤ 8) (hn : U.methodNamed? y = some mk)
    (hws : ∀ w ∈ (Cond.code y cy nLy ry :: ax_tbl), w.before a U = true) (hini : (Cond.initialized y.cls).before a U = true) (hfr : dy + 1 ≤ R.frames) (hlo : 8 + (nLy + 11) + 64 * dy ≤ R.locals) (hc : cells + 1 ≤ R.cells) (hs : slots + 6 ≤ R.slots) (hPc : Pc a (U.calling g mk a)) :
    ∃ (o : Outcome) (s₂ : State), Steps p.tables e below (doInvoke e (U.setTop g) [] mk a).1 s₂ ∧ s₂.status = .running ∧ Ended s₂ (.java g :: below) o ∧ Qx a (U.calling g mk a) o s₂ := by
  obtain ⟨methY, cY, hmY, hcY, -, hlY, -, -, -, -⟩ := Cond.code_spec hn (hws _ List.mem_cons_self)
  obtain ⟨kY, hkY, -⟩ := className_of_methodNamed hn
  have hinitY : kY.init = .initialized := Cond.initialized_spec (findClass_of_methodNamed hn) hkY hini
  have h : At U g.method c below := by rw [hg]; exact X.here
  have happ : (headSpec (Cond.code y cy nLy ry :: ax_tbl) (ax_rx dy)).appliesLoose y e.platform (U.calling g mk a) = true :=
    Spec.appliesLoose_calling (g := g) h hdg hn hkY hinitY (X.room_calling (g := g) (R' := ax_rx dy) hsize hmY hcY hfr (by rw [hlY]; simp only [ax_rx]; omega) hc hs) (atoms_intro hws)
  obtain ⟨mid, hmid⟩ := h.above
  have hfr' : (U.setTop g).frames = (.java g :: mid) ++ below := by rw [State.frames_setTop' g h.top, hmid]; rfl
  obtain ⟨o, s₂, hsteps, hrun, hend, hq⟩ := Steps.callFree hM p X.admits X.cas X.clock (acts := []) hfr' happ hPc trivial
  rw [State.frames_setTop' g h.top, X.tail] at hend
  exact ⟨o, s₂, hsteps, hrun, hend, hq⟩
/-- behind a call that threw: the walk stands with the note of the throw on its frame -/
theorem ax_tback {p : Program} {l : Launch} {e : Env} {R : Room} {s : State} {m : MethodId} {args : Array Value} {below : List Frame} {meth : Method} {c : Code} {U : State} {locs : List Loc} {cells slots : Nat} (X : Stand p l e R s m args below meth c U locs cells slots) {D : va_G} {cA : Nat → ClassId} {ad : Nat → Nat → Nat} {al : List (Nat × Nat)} {cls : String} {μ : ax_M} {g : JFrame} {mk : MethodId} {a : Array Value} (hg : g.method = m) {o : Outcome} {s₂ : State} (hend : Ended s₂ (.java g :: below) o) (hq : ax_Qx D cA ad al cls μ U.heap.size a (U.calling g mk a) o s₂) :
    ∃ (q : Nat) (L : List Loc) (T' : State), Stand p l e R s m args below meth c T' (locs ++ L) (cells + 1) (slots + 6) ∧ s₂ = (T'.setTop g).pushFrame (.throwing q) ∧ T'.heap = s₂.heap ∧ U.heap.size ≤ q ∧ ax_Ex cls U s₂ q ∧ U.WarmedH T'.vm ∧ (∀ x ∈ L, ax_A ad al U.heap.size x.base) ∧ va_P D ax_cl (ax_ws cA ad al μ) s₂.heap ∧ va_D (ax_A ad al U.heap.size) (ax_ws cA ad al μ) ∧ va_F (ax_A ad al U.heap.size) U s₂ := by
  obtain ⟨q, L, rfl, h1, h2, h3, h4, h5, h6, h7, h8⟩ := hq
  obtain ⟨T', X', hW', -, ht⟩ := X.outOfThrown hg hend h3 h4
  refine ⟨q, L, T', X', ht, ?_, h1, h2, hW', h5, h6, h7, h8⟩
  rw [ht, Stand.throwing_heap]
