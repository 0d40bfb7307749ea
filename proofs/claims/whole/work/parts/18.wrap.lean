/-! THE LAW'S OWN STATIC METHODS: they catch what the class throws -/
/-- THE CONTRACT of one: at most one cell of six slots comes -/
def ax_U (l : Launch) (D : va_G) (cA : Nat → ClassId) (ad : Nat → Nat → Nat) (al : List (Nat × Nat)) (θ : ax_Θ) (y : MethodName) (w : Cond) (d : Nat) (av : List ax_V) (μ : ax_M) (rv : Option ax_V) (μ' : ax_M) : Prop :=
  ∀ sz : Nat, Met l y (w :: ax_tbl) (ax_rx d) (ax_Pc D cA ad al θ av μ sz) (ax_Qc D cA ad al rv μ' sz) 1 6 (ax_A ad al sz)
abbrev ax_hx (c : Code) : List (Nat × Nat × Nat × Nat) := c.exceptionTable.toList.map (fun h => (h.startPc, h.endPc, h.handlerPc, h.catchType))
def ax_Aw (D : va_G) (cA : Nat → ClassId) (ad : Nat → Nat → Nat) (al : List (Nat × Nat)) (θ : ax_Θ) (l : Launch) (own : String) (cc : ByteArray) (nL d : Nat) (ret : Option FieldType) (hh : List (Nat × Nat × Nat × Nat)) (rv : Option ax_V) (μ' : ax_M) (G : ax_G) : Prop := match G with
  | ((_, l0, _, R, s, _, args), (below, meth, c), (Q, A), (D0, cA0, ad0, al0, θ0)) =>
    ax_K own cc nL G ∧ R = ax_rx d ∧ l0 = l ∧ D0 = D ∧ cA0 = cA ∧ ad0 = ad ∧ al0 = al ∧ θ0 = θ ∧ meth.sig.returnType = ret ∧ ax_hx c = hh ∧ A = ax_A ad al s.heap.size ∧ Q = MQ below (ax_Qc D cA ad al rv μ' s.heap.size) args s 1 6 (ax_A ad al s.heap.size)
theorem ax_U_of {l : Launch} {D : va_G} {cA : Nat → ClassId} {ad : Nat → Nat → Nat} {al : List (Nat × Nat)} {θ : ax_Θ} {y : MethodName} {own : String} {cc : ByteArray} {nL d : Nat} {ret : Option FieldType} {hh : List (Nat × Nat × Nat × Nat)} {av : List ax_V} {μ : ax_M} {rv : Option ax_V} {μ' : ax_M} (hy : plainName y.cls = true) (hown : y.cls = own) (hn : (lg_sl (av.map (fun v => ax_cv ad v))).length ≤ nL) (L : List (Nat × ax_V)) (hL : ax_L ad L = lv_args 0 (av.map (ax_cv ad)))
    (body : ∀ G : ax_G, ax_Aw D cA ad al θ l own cc nL d ret hh rv μ' G → ax_R G nL 0 0 (0, L, [], μ)) : ax_U l D cA ad al θ y (.codeWith y cc nL ret hh) d av μ rv μ' := by
  intro sz
  refine va_MetW (cc := cc) (maxL := nL) (ret := ret) (hh := hh) hy rfl ?_
  intro p e s m args below meth c s₁ B hml hv
  obtain ⟨rfl, hsz, hP, hK, hD0, hZ⟩ := hv
  have hts := atoms_spec (ws := .codeWith y cc nL ret hh :: ax_tbl) B.pre
  have hfc : s.vm.findClass own = some m.cls := by rw [← hown]; exact findClass_of_methodNamed B.named
  obtain ⟨m9, meth9, c9, hn9, hm9, hc9, -, -, hex, -⟩ := Cond.codeWith_spec (hts _ List.mem_cons_self)
  cases B.named.symm.trans hn9
  cases B.method.symm.trans hm9
  cases (Stand.of_body B).code.symm.trans hc9
  subst hsz
  have hl := lv_entry (av.map (ax_cv ad)) (n := nL) hn
  rw [lg_entry_eq]
  generalize (lg_sl (av.map (ax_cv ad)) ++ List.replicate (nL - (lg_sl (av.map (ax_cv ad))).length) Slot.unset).toArray = ls at hl ⊢
  rw [← hL] at hl
  exact body ((p, l, e, ax_rx d, s, m, (av.map (ax_cv ad)).toArray), (below, meth, c), (MQ below (ax_Qc D cA ad al rv μ' s.heap.size) (av.map (ax_cv ad)).toArray s 1 6 (ax_A ad al s.heap.size), ax_A ad al s.heap.size), (D, cA, ad, al, θ))
    ⟨⟨B.exec, B.bytes, hfc, hml, B.notSynchronized, fun w hw => hts w (List.mem_cons_of_mem _ hw), hK, fun q h => Or.inr h, hZ⟩, rfl, rfl, rfl, rfl, rfl, rfl, rfl, B.returns, hex, rfl, rfl⟩ s.heap [] ls hP (ax_D_of hD0) va_S.rf hl
/-- a call that throws, caught behind rows that are passed -/
theorem ax_kV {own : String} {cc cy : ByteArray} {nL cells slots pc idx n nLy dy g r ci : Nat} {fk : List Nat} {ry : Option FieldType} {y : MethodName} {cls : String} {p : Program} {l : Launch} {e : Env} {R : Room} {s : State} {m : MethodId} {args : Array Value} {below : List Frame} {meth : Method} {c : Code} {Q : State → Prop} {A : Nat → Prop} {D : va_G} {cA : Nat → ClassId} {ad : Nat → Nat → Nat} {al : List (Nat × Nat)} {θ : ax_Θ} {av rest st : List ax_V} {μ : ax_M} {L : List (Nat × ax_V)} {T0 : u_T} {N0 : Nat}
    (hK : ax_K own cc nL ((p, l, e, R, s, m, args), (below, meth, c), (Q, A), (D, cA, ad, al, θ))) (pre : List ClassFile.ExceptionTableEntry) (x : ClassFile.ExceptionTableEntry) (post : List ClassFile.ExceptionTableEntry) (hsp : c.exceptionTable.toList = pre ++ x :: post) (hpass : ∀ z ∈ pre, covers z pc = false ∨ ∃ nm, z.catchType ≠ 0 ∧ Cond.classLink own z.catchType nm ∈ ax_tbl ∧ (cls, nm) ∈ ax_nc) (hx1 : covers x pc = true) (hx0 : x.catchType ≠ 0) (hxl : Cond.classLink own x.catchType cls ∈ ax_tbl) (hxc : Cond.castable cls cls ∈ ax_xw)
    (hfr : dy + 1 ≤ R.frames) (hlo : 64 + 64 * dy ≤ R.locals) (hX : ax_X l D cA ad al θ y (.code y cy nLy ry) dy (.inr (g, r) :: av) μ cls) (hw : ax_cw own idx y (.code y cy nLy ry) n) (hi : Cond.instanceMethod y ∈ ax_tbl) (hse : Cond.selects y.cls y y ∈ ax_tbl) (hd : decode cc pc = .ok (.invokevirtual idx, 3)) (hm : (g, r) ∈ al) (hly : ax_ly r = (0, ci, fk)) (hci : ax_cl[ci]? = some (y.cls, T0, N0)) (hnl : nLy ≤ 45) (hn : av.length = n) (hst : st = av.reverse ++ .inr (g, r) :: rest) (hrs : (rest.map ax_cat).sum ≤ 8) (hc0 : cells + 1 ≤ R.cells) (hs0 : slots + 6 ≤ R.slots)
    (kk : ∀ q : Nat, ax_R ((p, l, e, R, s, m, args), (below, meth, c), (Q, A), (D, cA, ad, al, θ)) nL (cells + 1) (slots + 6) (x.handlerPc, L, [.inl (.ref q)], μ)) : ax_R ((p, l, e, R, s, m, args), (below, meth, c), (Q, A), (D, cA, ad, al, θ)) nL cells slots (pc, L, st, μ) := by
  obtain ⟨hx, hb, hown, hml, hlk, hts, hKK, hA, hZ⟩ := hK
  intro H locs ls hP hD hS hl T hT X
  subst hT
  subst hst
  obtain ⟨w1, w2, w3, w4, w5⟩ := hw
  obtain ⟨q0, h0, hq0⟩ := ax_at (cA := cA) (ad := ad) hm
  have he := hq0 μ
  rw [ax_cell_obj hly] at he
  obtain ⟨cellB, hcell, hobj, hcls⟩ := va_recv hKK hP hci he
  obtain ⟨mk, methM, hnamed, hmethM, hstM, habM⟩ := Cond.instanceMethod_spec (hts _ hi)
  obtain ⟨methM', cM, hmethM', -, -, -, -, -, -, hsigM⟩ := Cond.code_spec hnamed (hts _ w3)
  cases hmethM.symm.trans hmethM'
  obtain ⟨c2, r2, m2, q1, q2, q3, q4, kP, hkP, hkPi⟩ := Cond.selects_spec (hts _ hse)
  cases hcls.symm.trans q1
  cases (State.methodFound?_of_named hnamed w4).symm.trans q2
  cases hnamed.symm.trans q3
  have hselP : selectMethod e.platform s.vm cellB.cls mk = .method mk := by rw [Launch.admits_selectMethod X.admits]; exact q4
  have hlen : (av.map (ax_cv ad)).length = methM.sig.parameters.length := by
    rw [hsigM] at w5
    have := Option.some.inj w5
    rw [List.length_map, hn]; exact this.symm
  obtain ⟨vm₁, X₁, hstep₁⟩ := X.invokevirtual hx hown (hts _ w1) hnamed hmethM hstM hkP hkPi w4 (a := ad g r) (cell := cellB) hcell (fun z hz => by rw [hz] at hobj; cases hobj) hselP hmethM habM hkP hkPi (g := F0 m pc ls ((av.reverse ++ .inr (g, r) :: rest).map (ax_cv ad))) rfl (argsL := av.map (ax_cv ad)) (rest := rest.map (ax_cv ad)) hlen (by simp [ax_cv]) (by rw [hb]; exact hd)
  have hcat : ((rest.map (ax_cv ad)).map fun v => v.category).sum ≤ 8 := by
    rw [List.map_map]
    have : (rest.map ((fun v => v.category) ∘ ax_cv ad)) = rest.map ax_cat := List.map_congr_left (fun v _ => ax_cat_cv ad v)
    rw [this]; exact hrs
  have hws : ∀ w ∈ (Cond.code y cy nLy ry :: ax_tbl), w.before (Value.ref (ad g r) :: av.map (ax_cv ad)).toArray (T.setVm vm₁) = true := fun w hw' => word_at X₁.warmed (ax_goodIn w3 w hw').2 (hts w (ax_goodIn w3 w hw').1)
  obtain ⟨o, s₂, hs2, hrun, hend, hq⟩ := ax_tcore X₁ (hX (T.setVm vm₁).heap.size) (g := F0 m pc ls (rest.map (ax_cv ad))) (ig := .invokevirtual idx) (mk := mk) (a := (Value.ref (ad g r) :: av.map (ax_cv ad)).toArray) rfl (hl.1.trans hml.symm) (by rw [hb]; exact hd) (lv_room hcat) (X₁.named hnamed) hws (word_at X₁.warmed (good_of_word (List.all_eq_true.mp ax_good _ w2)) (hts _ w2)) hfr (by omega) hc0 hs0
    (ax_blind _ (T.setVm vm₁) _ _ ⟨rfl, rfl, hP, va_K.moved X₁.warmed.alike hKK, hD.weaken (fun _ _ _ _ => trivial), ((hZ.kept (fun q h1 h2 => hS.2.1 q h1 h2)).narrow (ax_sub hA hD hS)).warm X₁.warmed |> ax_Zh rfl⟩)
  obtain ⟨q, L', T', X', ht, hh, h1, ⟨ce, c1, c2, c3⟩, hW', h5, h6, h7, h8⟩ := ax_tback X₁ (g := F0 m pc ls (rest.map (ax_cv ad))) rfl hend hq
  have hUh : (T.setVm vm₁).heap = T.heap := rfl
  rw [hUh] at h1 h5 h8
  have hsub : ∀ z, ax_A ad al T.heap.size z → A z := ax_sub hA hD hS
  have c4 : s.vm.findClass cls = some ce.cls := by
    have c5 : (T.setVm vm₁).vm.findClass cls = some ce.cls := c3
    rw [X₁.warmed.alike.findClass] at c5; exact c5
  have hfit : s.vm.assignable ce.cls ce.cls = true := by
    obtain ⟨z1, z2, e1, e2, e3⟩ := Cond.castable_spec (hZ.2.2.2.2.2.2.2.2.args args hxc)
    cases c4.symm.trans e1
    cases c4.symm.trans e2
    exact e3
  have hpl : e.platform.magicAccessors = ({} : Platform).magicAccessors := by rw [X.admits.platform]
  obtain ⟨hcat2, hk0⟩ := X'.catches_of_link (x := x) hown hx0 (hts _ hxl) c4 hfit
  have hpass' : ∀ z ∈ pre, RowPassed e.platform s m.cls pc ce.cls z := by
    intro z hz
    rcases hpass z hz with h | ⟨nm, z0, zl, zn⟩
    · exact Or.inl h
    · obtain ⟨c', hc', hcl⟩ := Cond.classLink_spec hown (hts _ zl) e.platform hpl
      obtain ⟨cx, cy', e1, e2, e3⟩ := hZ.2.2.2.2.2.2.2.2.2 _ zn
      cases c4.symm.trans e1
      cases hc'.symm.trans e2
      exact Or.inr ⟨z0, c', hcl, e3⟩
  obtain ⟨vm', XV, stp⟩ := X'.caughtThrough q (g := F0 m pc ls (rest.map (ax_cv ad))) rfl (cell := ce) (by rw [hh]; exact c1) (by rw [c2]; rfl) hk0 pre x post hsp hpass' hx1 hcat2
  have hS' : va_S A s.heap T'.heap (locs ++ L') := by
    refine ⟨?_, fun z g1 g2 => ?_, fun z hz => ?_⟩
    · rw [hh]; exact Nat.le_trans hS.1 h8.1
    · rw [hh]
      have h9 := h8.2 z (Nat.lt_of_lt_of_le g1 hS.1) (fun w => g2 (hsub z w))
      rw [h9]
      exact hS.2.1 z g1 g2
    · rcases List.mem_append.mp hz with h | h
      · exact hS.2.2 z h
      · exact hsub _ (h5 z h)
  obtain ⟨t, a1, b1⟩ := kk q T'.heap (locs ++ L') ls (by rw [hh]; exact h6) hD hS' hl (T'.setVm vm') rfl XV
  have hfin : Steps p.tables e below s₂ t := by
    rw [ht, X'.pushThrowing_eq]
    exact stp t a1
  exact ⟨t, hstep₁ _ (fun acts => by rw [doInvoke_state]; exact hs2.trans hfin), b1⟩
theorem ax_R.wide {G : ax_G} {nL c s c' s' : Nat} {x : ax_S} (h : ax_R G nL c' s' x) (h1 : c ≤ c') (h2 : s ≤ s') : ax_R G nL c s x := by
  obtain ⟨⟨p, l0, e, R, st, m, args⟩, ⟨below, meth, c0⟩, ⟨Q, A⟩, ⟨D0, cA0, ad0, al0, θ0⟩⟩ := G
  intro H locs ls hP hD hS hl
  exact W.widen h1 h2 (h H locs ls hP hD hS hl)
theorem ax_etab : ∀ (xs : List ClassFile.ExceptionTableEntry) (hh : List (Nat × Nat × Nat × Nat)), xs.map (fun h => (h.startPc, h.endPc, h.handlerPc, h.catchType)) = hh → xs = hh.map (fun q => ⟨q.1, q.2.1, q.2.2.1, q.2.2.2⟩)
  | [], hh, h => by subst h; rfl
  | x :: xs, hh, h => by
    subst h
    simp only [List.map_cons, List.map_map]
    congr 1
    exact (List.map_id'' (fun z => rfl) xs).symm
section
variable {D : va_G} {cA : Nat → ClassId} {ad : Nat → Nat → Nat} {al : List (Nat × Nat)} {θ : ax_Θ} {l : Launch} {own : String} {cc cy : ByteArray} {nL d pc idx n nLy dy g r ci cells slots : Nat} {fk : List Nat} {T0 : u_T} {N0 : Nat} {ret ry : Option FieldType} {y : MethodName} {hh : List (Nat × Nat × Nat × Nat)} {rv0 rv : Option ax_V} {cls : String} {μ0 μ μ' : ax_M} {G : ax_G} {av rest st : List ax_V} {L : List (Nat × ax_V)}
theorem ax_Aw.K (h : ax_Aw D cA ad al θ l own cc nL d ret hh rv0 μ0 G) : ax_K own cc nL G := by
  obtain ⟨⟨p, l0, e, R, s, m, args⟩, ⟨below, meth, c⟩, ⟨Q, A⟩, ⟨D0, cA0, ad0, al0, θ0⟩⟩ := G
  exact h.1
theorem ax_Aw.la (h : ax_Aw D cA ad al θ l own cc nL d ret hh rv0 μ0 G) : ax_al G = al := by
  obtain ⟨⟨p, l0, e, R, s, m, args⟩, ⟨below, meth, c⟩, ⟨Q, A⟩, ⟨D0, cA0, ad0, al0, θ0⟩⟩ := G
  exact h.2.2.2.2.2.2.1
theorem ax_wV (h : ax_Aw D cA ad al θ l own cc nL d ret hh rv0 μ0 G) (hT : ax_T l D cA ad al θ y (.code y cy nLy ry) dy (.inr (g, r) :: av) μ rv μ') (hw : ax_cw own idx y (.code y cy nLy ry) n) (hi : Cond.instanceMethod y ∈ ax_tbl) (hse : Cond.selects y.cls y y ∈ ax_tbl) (hd : decode cc pc = .ok (.invokevirtual idx, 3)) (hm : (g, r) ∈ al) (hly : ax_ly r = (0, ci, fk)) (hci : ax_cl[ci]? = some (y.cls, T0, N0)) (hdd : dy + 1 ≤ d) (hnl : nLy ≤ 45) (hn : av.length = n) (hst : st = av.reverse ++ .inr (g, r) :: rest) (hrs : (rest.map ax_cat).sum ≤ 8) (kk : ax_R G nL 0 0 (pc + 3, L, rv.toList ++ rest, μ')) : ax_R G nL 0 0 (pc, L, st, μ) := by
  obtain ⟨⟨p, l0, e, R, s, m, args⟩, ⟨below, meth, c⟩, ⟨Q, A⟩, ⟨D0, cA0, ad0, al0, θ0⟩⟩ := G
  obtain ⟨hK, rfl, rfl, rfl, rfl, rfl, rfl, rfl, -⟩ := h
  exact ax_gV hK (by simp only [ax_rx]; omega) (by simp only [ax_rx]; omega) hT hw hi hse hd hm hly hci hnl hn hst hrs (Nat.zero_le _) (Nat.zero_le _) kk
/-- the call throws: on at the handler, the k-th of the rows -/
theorem ax_wX (h : ax_Aw D cA ad al θ l own cc nL d ret hh rv0 μ0 G) (k : Nat) {x : Nat × Nat × Nat × Nat} (hx : hh[k]? = some x) (hpass : ∀ z ∈ hh.take k, ∃ nm, z.2.2.2 ≠ 0 ∧ Cond.classLink own z.2.2.2 nm ∈ ax_tbl ∧ (cls, nm) ∈ ax_nc) (hx1 : covers ⟨x.1, x.2.1, x.2.2.1, x.2.2.2⟩ pc = true) (hx0 : x.2.2.2 ≠ 0) (hxl : Cond.classLink own x.2.2.2 cls ∈ ax_tbl) (hxc : Cond.castable cls cls ∈ ax_xw)
    (hX : ax_X l D cA ad al θ y (.code y cy nLy ry) dy (.inr (g, r) :: av) μ cls) (hw : ax_cw own idx y (.code y cy nLy ry) n) (hi : Cond.instanceMethod y ∈ ax_tbl) (hse : Cond.selects y.cls y y ∈ ax_tbl) (hd : decode cc pc = .ok (.invokevirtual idx, 3)) (hm : (g, r) ∈ al) (hly : ax_ly r = (0, ci, fk)) (hci : ax_cl[ci]? = some (y.cls, T0, N0)) (hdd : dy + 1 ≤ d) (hnl : nLy ≤ 45) (hn : av.length = n) (hst : st = av.reverse ++ .inr (g, r) :: rest) (hrs : (rest.map ax_cat).sum ≤ 8) (kk : ∀ q : Nat, ax_R G nL 1 6 (x.2.2.1, L, [.inl (.ref q)], μ)) : ax_R G nL 0 0 (pc, L, st, μ) := by
  obtain ⟨⟨p, l0, e, R, s, m, args⟩, ⟨below, meth, c⟩, ⟨Q, A⟩, ⟨D0, cA0, ad0, al0, θ0⟩⟩ := G
  obtain ⟨hK, rfl, rfl, rfl, rfl, rfl, rfl, rfl, -, hex, -⟩ := h
  have e0 := ax_etab _ _ hex
  have e1 : hh = hh.take k ++ x :: hh.drop (k + 1) := by
    obtain ⟨hk, hxe⟩ := List.getElem?_eq_some_iff.mp hx
    rw [← hxe, List.getElem_cons_drop, List.take_append_drop]
  have e2 : c.exceptionTable.toList = (hh.take k).map (fun q => (⟨q.1, q.2.1, q.2.2.1, q.2.2.2⟩ : ClassFile.ExceptionTableEntry)) ++ ⟨x.1, x.2.1, x.2.2.1, x.2.2.2⟩ :: (hh.drop (k + 1)).map (fun q => ⟨q.1, q.2.1, q.2.2.1, q.2.2.2⟩) := by
    rw [e0]
    conv => lhs; rw [e1]
    rw [List.map_append, List.map_cons]
  refine ax_kV hK _ _ _ e2 (fun z hz => ?_) hx1 hx0 hxl hxc (by simp only [ax_rx]; omega) (by simp only [ax_rx]; omega) hX hw hi hse hd hm hly hci hnl hn hst hrs (by simp [ax_rx]) (by simp [ax_rx]) kk
  obtain ⟨z', h1, rfl⟩ := List.mem_map.mp hz
  exact Or.inr (hpass z' h1)
/-- and back -/
theorem ax_wr {v : Int32} (h : ax_Aw D cA ad al θ l own cc nL d (some .int) hh (some (.inl (.int v))) μ G) (hd : decode cc pc = .ok (.ireturn, 1)) (hc : cells ≤ 1) (hs : slots ≤ 6) : ax_R G nL cells slots (pc, L, [.inl (.int v)], μ) := by
  refine ax_R.wide ?_ hc hs
  obtain ⟨⟨p, l0, e, R, s, m, args⟩, ⟨below, meth, c⟩, ⟨Q, A⟩, ⟨D0, cA0, ad0, al0, θ0⟩⟩ := G
  obtain ⟨⟨hx, hb, -, -, hlk, -⟩, rfl, rfl, rfl, rfl, rfl, rfl, rfl, hr, -, rfl, rfl⟩ := h
  intro H locs ls hP hD hS hl
  exact W.iret hx hb hr (fun t ht hW => ⟨rfl, by rw [ht]; exact hP, hD, hS.F ht⟩) hS.2.2 hd hlk
end
