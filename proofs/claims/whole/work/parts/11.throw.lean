/-! THROWS -/
/-- a walk seen from where it stands: as if the invocation had begun with the heap as it is now -/
def ax_reb (s T : State) : State := { s with heap := T.heap, slotsUsed := T.slotsUsed }
theorem ax_rebase {p : Program} {l : Launch} {e : Env} {R : Room} {s : State} {m : MethodId} {args : Array Value} {below : List Frame} {meth : Method} {c : Code} {T : State} {locs : List Loc} {cells slots : Nat} (X : Stand p l e R s m args below meth c T locs cells slots) (hc : cells ≤ R.cells) (hs : slots ≤ R.slots) :
    Stand p l e { R with cells := R.cells - cells, slots := R.slots - slots } (ax_reb s T) m args below meth c T [] 0 0 := by
  have hbook := X.book
  have hsz := X.heapSize
  have hus := X.used
  have hdrop : T.heap.toList.drop T.heap.size = [] := List.drop_eq_nil_of_le (by simp)
  refine ⟨X.admits, X.cas, X.clock, X.frames, ?_, X.hears, X.method, X.code, X.here, X.tail, X.warmed, X.limits, X.bytes, ?_⟩
  · have h := X.room
    simp only [State.hasRoom, Bool.and_eq_true, decide_eq_true_eq] at h ⊢
    obtain ⟨⟨⟨⟨h1, h2⟩, h3⟩, h4⟩, h5⟩ := h
    refine ⟨⟨⟨⟨h1, h2⟩, ?_⟩, ?_⟩, hbook⟩
    · show T.heap.size + (R.cells - cells) ≤ e.platform.maxCells
      omega
    · show T.slotsUsed + (R.slots - slots) ≤ e.platform.maxSlots
      omega
  · refine ⟨X.same.1, Nat.le_refl _, Nat.le_refl _, ?_, ?_, fun a c' h => ⟨c', h, rfl, rfl, fun _ _ => rfl⟩⟩
    · show T.slotsUsed = T.slotsUsed + ((T.heap.toList.drop T.heap.size).map (·.slots.size)).sum
      rw [hdrop]; rfl
    · show ((T.heap.toList.drop T.heap.size).map (·.slots.size)).sum ≤ 0
      rw [hdrop]; exact Nat.le_refl _
/-- where nothing old is written the old cells are as they were -/
theorem ax_same_old {s U : State} {cells slots : Nat} (h : s.sameButNew U [] cells slots) {a : Nat} (ha : a < s.heap.size) : U.heap[a]? = s.heap[a]? := by
  have hc : s.heap[a]? = some s.heap[a] := Array.getElem?_eq_getElem ha
  obtain ⟨c', h1, h2, h3, h4⟩ := h.2.2.2.2.2 a _ hc
  rw [h1, hc, h2]
  have e : c'.slots = s.heap[a].slots := by
    apply Array.ext h3
    intro i hi1 hi2
    have h5 := h4 i (by simp)
    rw [Array.getElem?_eq_getElem hi1, Array.getElem?_eq_getElem hi2] at h5
    exact Option.some.inj h5
  rw [e]
/-- the thrown object: of a class, by its name -/
def ax_Ex (cls : String) (st t : State) (q : Nat) : Prop := ∃ ce : Cell, t.heap[q]? = some ce ∧ ce.vm = .none ∧ st.vm.findClass cls = some ce.cls
def ax_Qx (D : va_G) (cA : Nat → ClassId) (ad : Nat → Nat → Nat) (al : List (Nat × Nat)) (cls : String) (μ : ax_M) (sz : Nat) : Array Value → State → Outcome → State → Prop := fun _ st oc t =>
  ∃ (q : Nat) (L : List Loc), oc = .threw q ∧ st.heap.size ≤ q ∧ ax_Ex cls st t q ∧ st.WarmedH t.vm ∧ st.sameButNew ({ t with vm := st.vm } : State) L 1 6 ∧ (∀ x ∈ L, ax_A ad al sz x.base) ∧ va_P D ax_cl (ax_ws cA ad al μ) t.heap ∧ va_D (ax_A ad al sz) (ax_ws cA ad al μ) ∧ va_F (ax_A ad al sz) st t
def ax_rx (d : Nat) : Room := { frames := d, cells := 1, slots := 6, locals := 64 * d }
/-- THE CONTRACT of a method that throws: nothing is changed, one cell of six slots comes -/
def ax_X (l : Launch) (D : va_G) (cA : Nat → ClassId) (ad : Nat → Nat → Nat) (al : List (Nat × Nat)) (θ : ax_Θ) (y : MethodName) (w : Cond) (d : Nat) (av : List ax_V) (μ : ax_M) (cls : String) : Prop :=
  ∀ sz : Nat, MetFree l y (headSpec (w :: ax_tbl) (ax_rx d)) (ax_Pc D cA ad al θ av μ sz) (fun _ _ _ _ _ => True) (ax_Qx D cA ad al cls μ sz)
def ax_Ax (D : va_G) (cA : Nat → ClassId) (ad : Nat → Nat → Nat) (al : List (Nat × Nat)) (θ : ax_Θ) (l : Launch) (own : String) (cc : ByteArray) (nL d : Nat) (cls : String) (μ : ax_M) (G : ax_G) : Prop := match G with
  | ((_, l0, _, R, s, _, args), (below, _, c), (Q, A), (D0, cA0, ad0, al0, θ0)) =>
    ax_K own cc nL G ∧ R = ax_rx d ∧ l0 = l ∧ D0 = D ∧ cA0 = cA ∧ ad0 = ad ∧ al0 = al ∧ θ0 = θ ∧ c.exceptionTable.isEmpty = true ∧ A = ax_A ad al s.heap.size ∧ Q = (fun t => ∃ o, t.status = .running ∧ Ended t below o ∧ ax_Qx D cA ad al cls μ s.heap.size args s o t)
theorem ax_X_of {l : Launch} {D : va_G} {cA : Nat → ClassId} {ad : Nat → Nat → Nat} {al : List (Nat × Nat)} {θ : ax_Θ} {y : MethodName} {own : String} {cc : ByteArray} {nL d : Nat} {ret : Option FieldType} {av : List ax_V} {μ : ax_M} {cls : String} (hy : plainName y.cls = true) (hown : y.cls = own) (hn : (lg_sl (av.map (fun v => ax_cv ad v))).length ≤ nL) (L : List (Nat × ax_V)) (hL : ax_L ad L = lv_args 0 (av.map (ax_cv ad)))
    (body : ∀ G : ax_G, ax_Ax D cA ad al θ l own cc nL d cls μ G → ax_R G nL 0 0 (0, L, [], μ)) : ax_X l D cA ad al θ y (.code y cc nL ret) d av μ cls := by
  intro sz
  refine MetFree.of_bodyS (code := cc) (maxLocals := nL) (ret := ret) hy ?_ ?_
  · intro args s m h hn
    obtain ⟨meth, c, h1, h2, h3, h4, h5, h6, -, -⟩ := Cond.code_spec hn (atoms_spec (ws := .code y cc nL ret :: ax_tbl) h _ List.mem_cons_self)
    exact ⟨meth, c, h1, h2, h3, h4, h5, h6⟩
  · intro p e s m args below meth c s₁ B hml hv _
    obtain ⟨rfl, hsz, hP, hK, hD0, hZ⟩ := hv
    have hts := atoms_spec (ws := .code y cc nL ret :: ax_tbl) B.pre
    have hfc : s.vm.findClass own = some m.cls := by rw [← hown]; exact findClass_of_methodNamed B.named
    subst hsz
    have hh0 : s₁.heap = s.heap := by rw [B.state]; rfl
    have hl := lv_entry (av.map (ax_cv ad)) (n := nL) hn
    rw [lg_entry_eq]
    generalize (lg_sl (av.map (ax_cv ad)) ++ List.replicate (nL - (lg_sl (av.map (ax_cv ad))).length) Slot.unset).toArray = ls at hl ⊢
    rw [← hL] at hl
    have K := body ((p, l, e, ax_rx d, s, m, (av.map (ax_cv ad)).toArray), (below, meth, c), ((fun t => ∃ o, t.status = .running ∧ Ended t below o ∧ ax_Qx D cA ad al cls μ s.heap.size (av.map (ax_cv ad)).toArray s o t), ax_A ad al s.heap.size), (D, cA, ad, al, θ))
      ⟨⟨B.exec, B.bytes, hfc, hml, B.notSynchronized, fun w hw => hts w (List.mem_cons_of_mem _ hw), hK, fun q h => Or.inr h, hZ⟩, rfl, rfl, rfl, rfl, rfl, rfl, rfl, B.noHandlers (hts _ List.mem_cons_self), rfl, rfl⟩ s.heap [] ls hP (ax_D_of hD0) va_S.rf hl
    obtain ⟨t, a1, o, b1, b2, b3⟩ := K s₁ hh0 (Stand.of_body B)
    exact ⟨t, o, a1, b1, b2, b3⟩
/-- the words of 'throw new cls()': each among the tables', or of the two statics -/
def ax_tw (own : String) (ic : Nat) (cls : String) (names : List String) : Prop := ∀ a ∈ Bundle.ownAtoms0 own ic cls names, a ∈ ax_tbl ∨ a ∈ ax_xw ∨ a = .laysStatic "java/lang/Throwable" "UNASSIGNED_STACK" "[Ljava/lang/StackTraceElement;" ∨ a = .laysStatic "java/lang/Throwable" "SUPPRESSED_SENTINEL" "Ljava/util/List;" ∨ a = .isRef (.static "java/lang/Throwable" "UNASSIGNED_STACK" "[Ljava/lang/StackTraceElement;") ∨ a = .isRef (.static "java/lang/Throwable" "SUPPRESSED_SENTINEL" "Ljava/util/List;")
theorem ax_thr {l : Launch} {D : va_G} {cA : Nat → ClassId} {ad : Nat → Nat → Nat} {al : List (Nat × Nat)} {θ : ax_Θ} {own : String} {cc : ByteArray} {nL d pc ik ic : Nat} {cls : String} {names : List String} {μ : ax_M} {G : ax_G} {L : List (Nat × ax_V)} {st : List ax_V} (h : ax_Ax D cA ad al θ l own cc nL d cls μ G) (hfl : l.flags = flags0) (hcls : Bundle.fit cls = true) (hnames : ∀ n ∈ names, Bundle.fit n = true) (hk : Cond.classLink own ik cls ∈ ax_tbl) (hini : Cond.initialized cls ∈ ax_tbl) (hw : ax_tw own ic cls names)
    (d0 : decode cc pc = .ok (.new ik, 3)) (d3 : decode cc (pc + 3) = .ok (.dup, 1)) (d4 : decode cc (pc + 4) = .ok (.invokespecial ic, 3)) (d7 : decode cc (pc + 7) = .ok (.athrow, 1)) (hst : (st.map ax_cat).sum ≤ 8) (hd : names.length + 4 ≤ d) (hdl : names.length ≤ 3) : ax_R G nL 0 0 (pc, L, st, μ) := by
  obtain ⟨⟨p, l0, e, R, s, m, args⟩, ⟨below, meth, c⟩, ⟨Q, A⟩, ⟨D0, cA0, ad0, al0, θ0⟩⟩ := G
  obtain ⟨⟨hx, hb, hown, hml, hlk, hts, hKK, hA, hZ⟩, rfl, rfl, rfl, rfl, rfl, rfl, rfl, hnh, rfl, rfl⟩ := h
  intro H locs ls hP hD hS hl T hT X
  subst hT
  have X' := ax_rebase X (Nat.zero_le _) (Nat.zero_le _)
  have hW0 : s.WarmedH (ax_reb s T).vm := State.WarmedH.refl s
  have hts' : ∀ w ∈ ax_tbl, w.before args (ax_reb s T) = true := fun w h => word_at hW0 (good_of_word (List.all_eq_true.mp ax_good w h)) (hts w h)
  have hZ' : ax_Z θ0 (ax_A ad0 al0 s.heap.size) (ax_reb s T) (ax_reb s T).heap := ax_Z.same (u := s) rfl (hZ.kept (fun q h1 h2 => hS.2.1 q h1 h2))
  have hat : ∀ a ∈ Bundle.ownAtoms0 own ic cls names, a.before args (ax_reb s T) = true := by
    intro a ha
    rcases hw a ha with h1 | h1 | rfl | rfl | rfl | rfl
    · exact hts' a h1
    · exact hZ'.2.2.2.2.2.2.2.2.args args h1
    · exact hZ'.2.2.2.2.2.2.1.lays args
    · exact hZ'.2.2.2.2.2.2.2.1.lays args
    · exact hZ'.2.2.2.2.2.2.1.isRef args
    · exact hZ'.2.2.2.2.2.2.2.1.isRef args
  have hcat : ((st.map (ax_cv ad0)).map fun v => v.category).sum ≤ 8 := by
    rw [List.map_map]
    have : (st.map ((fun v => v.category) ∘ ax_cv ad0)) = st.map ax_cat := List.map_congr_left (fun v _ => ax_cat_cv ad0 v)
    rw [this]; exact hst
  obtain ⟨vm₁, cX, kX, hfX, hkX, -, -, X₁, st1⟩ := X'.newCold hx (own := own) (C := cls) (index := ik) (n := 6) hown (hts' _ hk) (hat (.instantiable cls 6) (by simp [Bundle.ownAtoms0])) (hts' _ hini) (g := F0 m pc ls (st.map (ax_cv ad0))) rfl (by rw [hb]; exact d0) (by simp [ax_rx]) (by simp [ax_rx])
  have K : W p l0 e { (ax_rx d) with cells := (ax_rx d).cells - 0, slots := (ax_rx d).slots - 0 } (ax_reb s T) m args below meth c ((T.setVm vm₁).pushCell { cls := cX, slots := kX.instanceTypes.map defaultValue, vm := .none }).heap [] (0 + 1) (0 + 6) (fun t => ∃ o, t.status = .running ∧ Ended t below o ∧ ax_Qx D0 cA0 ad0 al0 cls μ s.heap.size args s o t) (F0 m (pc + 3) ls (.ref T.heap.size :: st.map (ax_cv ad0))) := by
    refine lv_dup hx hb d3 rfl ?_
    intro T2 hT2 X2
    have hemp : c.exceptionTable.toList = [] := by simpa using hnh
    obtain ⟨U, hstp, hrun, hend, hWU, hsame, ce, hce, hcl⟩ := X2.ctorThrow0 hx (Launch.traces_off hfl X2.admits) (own := own) (cls := cls) (names := names) (ic := ic) hown hcls hnames hat (fun x hx => by cases hx) hfX hkX (a := T.heap.size) (by rw [hT2]; simp [State.pushCell, State.setVm, freshCell]) (Nat.le_refl _) (g := F0 m (pc + 3 + 1) ls (.ref T.heap.size :: .ref T.heap.size :: st.map (ax_cv ad0))) rfl (hl.1.trans hml.symm) rfl rfl (rest := st.map (ax_cv ad0)) rfl (by rw [hb]; exact d4) (by rw [hb]; exact d7) (fun x hx => by rw [hemp] at hx; cases hx) (by simp only [ax_rx]; omega) (by
      show 2 * 0 + ((Value.ref T.heap.size :: st.map (ax_cv ad0)).map fun v => v.category).sum + (13 * (names.length + 1) + 41) ≤ 64 * d
      have h7 : ((Value.ref T.heap.size :: st.map (ax_cv ad0)).map fun v => v.category).sum = 1 + ((st.map (ax_cv ad0)).map fun v => v.category).sum := by rw [List.map_cons, List.sum_cons]; rfl
      rw [h7]
      omega) hlk
    have hsz : T.heap.size ≤ U.heap.size := hsame.2.1
    refine ⟨U, hstp, .threw T.heap.size, hrun, hend, T.heap.size, locs, rfl, hS.1, ⟨ce, hce, hcl.vm, hcl.cls⟩, hWU, ?_, hS.2.2, hP.kept (fun k q hk => ax_same_old hsame ((hP k q hk).lt)), hD, Nat.le_trans hS.1 hsz, fun q h1 h2 => (ax_same_old hsame (Nat.lt_of_lt_of_le h1 hS.1)).trans (hS.2.1 q h1 h2)⟩
    have hh : (T.setVm s.vm).sameButNew ({ U with vm := s.vm } : State) [] 1 6 := by
      obtain ⟨e1, e2, e3, e4, e5, e6⟩ := hsame
      refine ⟨?_, e2, e3, e4, e5, e6⟩
      refine e1.trans ?_
      have h1 : T.setVm s.vm = { s.setFrames (T.setVm s.vm).frames with heap := T.heap, slotsUsed := T.slotsUsed } := X.same.1
      show ({ s.setFrames ({ U with vm := s.vm } : State).frames with heap := U.heap, slotsUsed := U.slotsUsed } : State) = { (T.setVm s.vm).setFrames ({ U with vm := s.vm } : State).frames with heap := U.heap, slotsUsed := U.slotsUsed }
      generalize ({ U with vm := s.vm } : State).frames = fs
      generalize (T.setVm s.vm).frames = gs at h1
      rw [h1]
      show _ = ({ (s.setFrames gs).setFrames fs with heap := U.heap, slotsUsed := U.slotsUsed } : State)
      rw [State.setFrames_setFrames]
    have h9 := X.same.trans hh
    rw [List.append_nil] at h9
    exact h9
  obtain ⟨t, a1, b1⟩ := K _ rfl X₁
  exact ⟨t, st1 t a1, b1⟩
