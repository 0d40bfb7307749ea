/-! CONSTRUCTORS: walks over a list of cells that grows -/
/-- what the cells hold when they are made -/
def bx_μ : ax_M := (fun _ r k => match r with
  | 23 => (match k with
    | 2 => -1
    | _ => 0)
  | 25 => (match k with
    | 14 => -1
    | _ => 0)
  | 38 => (match k with
    | 6 => -1
    | _ => 0)
  | _ => 0, fun _ _ _ => 0, fun _ r k => match r with
  | 23 => (match k with
    | 6 => some (0, 0)
    | _ => none)
  | _ => none)
abbrev bx_G : Type := (Program × Launch × Env × Room × State × MethodId × Array Value) × (List Frame × Method × Code) × ((State → Prop) × (Nat → Prop)) × (va_G × (Nat → ClassId))
def bx_R (G : bx_G) (nL cells slots pc : Nat) (L : List (Nat × Value)) (st : List Value) (ws : va_W) : Prop := match G with
  | ((p, l, e, R, s, m, args), (below, meth, c), (Q, A), (D, _)) =>
    ∀ (H : Heap) (locs : List Loc) (ls : Array Slot), va_P D ax_cl ws H → va_D A ws → va_S A s.heap H locs → lv_has ls nL L → W p l e R s m args below meth c H locs cells slots Q (F0 m pc ls st)
def bx_K (own : String) (cc : ByteArray) (nL : Nat) (l : Launch) (D : va_G) (cA : Nat → ClassId) (rm : Room) (G : bx_G) : Prop := match G with
  | ((p, l0, _, R, s, m, args), (_, _, c), (_, A), (D0, cA0)) =>
    p.tables.exec = Jvm.exec ∧ c.code = cc ∧ s.vm.findClass own = some m.cls ∧ c.maxLocals = nL ∧ (∀ w ∈ ax_tbl, w.before args s = true) ∧ va_K D0 ax_cl (ax_tys cA0) s ∧ (∀ q, s.heap.size ≤ q → A q) ∧ R = rm ∧ l0 = l ∧ D0 = D ∧ cA0 = cA
/-- what a constructor may write -/
def bx_A (a0 sz : Nat) : Nat → Prop := fun q => q = a0 ∨ sz ≤ q
def bx_Pc (D : va_G) (cA : Nat → ClassId) (a0 ci : Nat) (fs : List Value) (sz : Nat) : Array Value → State → Prop := va_Pc [.ref a0] (fun U => U.heap.size = sz ∧ va_P D ax_cl [(a0, .inr (ci, fs))] U.heap ∧ va_K D ax_cl (ax_tys cA) U)
def bx_Qc (D : va_G) (cA : Nat → ClassId) (a0 : Nat) (q0 : Nat × Nat) (al : List (Nat × Nat)) (sz : Nat) : Array Value → State → Outcome → State → Prop := fun _ st oc t => oc = .returned none ∧ (∃ ad : Nat → Nat → Nat, ad q0.1 q0.2 = a0 ∧ va_P D ax_cl (ax_ws cA ad al bx_μ) t.heap ∧ va_D (bx_A a0 sz) (ax_ws cA ad al bx_μ)) ∧ va_F (bx_A a0 sz) st t
def bx_rm (d nc ns : Nat) : Room := { frames := d, cells := nc, slots := ns, locals := 64 * d }
/-- THE CONTRACT of a constructor: of the new object q0 it makes the cells al -/
def bx_T (l : Launch) (D : va_G) (cA : Nat → ClassId) (y : MethodName) (w : Cond) (d nc ns ci : Nat) (fs : List Value) (q0 : Nat × Nat) (al : List (Nat × Nat)) : Prop :=
  ∀ a0 sz : Nat, Met l y (w :: ax_tbl) (bx_rm d nc ns) (bx_Pc D cA a0 ci fs sz) (bx_Qc D cA a0 q0 al sz) nc ns (bx_A a0 sz)
def bx_At (own : String) (cc : ByteArray) (nL : Nat) (l : Launch) (D : va_G) (cA : Nat → ClassId) (d nc ns a0 : Nat) (q0 : Nat × Nat) (al : List (Nat × Nat)) (G : bx_G) : Prop := bx_K own cc nL l D cA (bx_rm d nc ns) G ∧ match G with
  | ((_, _, _, _, s, _, args), (below, meth, _), (Q, A), _) => meth.name = "<init>" ∧ meth.locks = false ∧ meth.sig.returnType = none ∧ A = bx_A a0 s.heap.size ∧ Q = MQ below (bx_Qc D cA a0 q0 al s.heap.size) args s nc ns (bx_A a0 s.heap.size)
theorem bx_one {a : Nat} {e : va_E} {k : Nat} {q : Nat × va_E} (h : [(a, e)][k]? = some q) : k = 0 ∧ q = (a, e) := by
  have hz : k < 1 := (List.getElem?_eq_some_iff.mp h).1
  have hk : k = 0 := by omega
  subst hk
  exact ⟨rfl, (Option.some.inj h).symm⟩
theorem bx_T_of {l : Launch} {D : va_G} {cA : Nat → ClassId} {y : MethodName} {own : String} {cc : ByteArray} {nL d nc ns ci : Nat} {fs : List Value} {q0 : Nat × Nat} {al : List (Nat × Nat)} (hy : plainName y.cls = true) (hown : y.cls = own) (hyn : y.name = "<init>") (hn : 1 ≤ nL)
    (body : ∀ (a0 : Nat) (G : bx_G), bx_At own cc nL l D cA d nc ns a0 q0 al G → bx_R G nL 0 0 0 [(0, .ref a0)] [] [(a0, .inr (ci, fs))]) : bx_T l D cA y (.code y cc nL none) d nc ns ci fs q0 al := by
  intro a0 sz
  refine Met.ofW (cc := cc) (maxL := nL) (ret := none) hy rfl ?_
  intro p e s m args below meth c s₁ B hml hv
  obtain ⟨rfl, hsz, hP, hK⟩ := hv
  have hts := atoms_spec (ws := .code y cc nL none :: ax_tbl) B.pre
  have hfc : s.vm.findClass own = some m.cls := by rw [← hown]; exact findClass_of_methodNamed B.named
  have hin : meth.name = "<init>" := (name_of_methodNamed B.named B.method).1.trans hyn
  subst hsz
  have hl := lv_entry ([Value.ref a0]) (n := nL) hn
  rw [lg_entry_eq]
  generalize (lg_sl ([Value.ref a0]) ++ List.replicate (nL - (lg_sl ([Value.ref a0])).length) Slot.unset).toArray = ls at hl ⊢
  have hl : lv_has ls nL [(0, .ref a0)] := hl
  have hD : va_D (bx_A a0 s.heap.size) [(a0, (.inr (ci, fs) : va_E))] := ⟨fun i j p q hi hj _ => by rw [(bx_one hi).1, (bx_one hj).1], fun k q hk => by rw [(bx_one hk).2]; exact Or.inl rfl⟩
  exact body a0 ((p, l, e, bx_rm d nc ns, s, m, [Value.ref a0].toArray), (below, meth, c), (MQ below (bx_Qc D cA a0 q0 al s.heap.size) [Value.ref a0].toArray s nc ns (bx_A a0 s.heap.size), bx_A a0 s.heap.size), (D, cA))
    ⟨⟨B.exec, B.bytes, hfc, hml, fun w hw => hts w (List.mem_cons_of_mem _ hw), hK, fun q h => Or.inr h, rfl, rfl, rfl, rfl⟩, hin, B.notSynchronized, B.returns, rfl, rfl⟩ s.heap [] ls hP hD va_S.rf hl
theorem bx_left {α : Type} {l1 l2 : List α} {k : Nat} {q : α} (h : l1[k]? = some q) : (l1 ++ l2)[k]? = some q := by
  rw [List.getElem?_append_left (List.getElem?_eq_some_iff.mp h).1]; exact h
/-- behind the call of a constructor: the cells before it, and those that it made -/
theorem bx_join {A0 : Nat → Prop} {D : va_G} {ws w1 : va_W} {q : Nat} {e0 : va_E} {H H1 : Heap} (hP : va_P D ax_cl (ws ++ [(q, e0)]) H) (hD : va_D A0 (ws ++ [(q, e0)])) (hk : ∀ x : Nat, x < H.size → ¬ bx_A q H.size x → H1[x]? = H[x]?) (hF : ∀ x, bx_A q H.size x → A0 x) (hP1 : va_P D ax_cl w1 H1) (hD1 : va_D (bx_A q H.size) w1) : va_P D ax_cl (ws ++ w1) H1 ∧ va_D A0 (ws ++ w1) := by
  have hq : (ws ++ [(q, e0)])[ws.length]? = some (q, e0) := by simp
  have apart : ∀ (k : Nat) (x : Nat × va_E), ws[k]? = some x → x.1 < H.size ∧ ¬ bx_A q H.size x.1 := by
    intro k x hx
    have hl := (hP k x (bx_left hx)).lt
    refine ⟨hl, fun h => ?_⟩
    rcases h with h | h
    · have hij := hD.1 k ws.length x (q, e0) (bx_left hx) hq h
      have := (List.getElem?_eq_some_iff.mp hx).1
      omega
    · omega
  refine ⟨va_P.app (fun k x hx => (hP k x (bx_left hx)).kept (hk x.1 (apart k x hx).1 (apart k x hx).2)) hP1, va_D.app ⟨fun i j a b hi hj h => hD.1 i j a b (bx_left hi) (bx_left hj) h, fun k x hx => hD.2 k x (bx_left hx)⟩ (hD1.weaken (fun k x _ h => hF x.1 h)) (fun i j a b ha hb hab => ?_)⟩
  exact (apart i a ha).2 (by rw [hab]; exact hD1.2 j b hb)
def bx_dv (Y : Nat → FieldType) (N : Nat) : List Value := (List.range N).map (fun k => defaultValue (Y k))
theorem bx_dv_at {Y : Nat → FieldType} {N : Nat} : ∀ j, j < N → defaultValue (Y j) = vp_V (bx_dv Y N) j := by
  intro j h
  simp [vp_V, bx_dv, h]
theorem bx_blind {D : va_G} {cA : Nat → ClassId} {a0 ci : Nat} {fs : List Value} {sz : Nat} : FrameBlind (bx_Pc D cA a0 ci fs sz) := by
  intro a U g mk q
  obtain ⟨q0, q1, qP, qK⟩ := q
  exact ⟨q0, q1, qP, va_K.moved (u := U) (U := U.calling g mk a) (Vm.Alike.refl U.vm) qK⟩
/-- new C(), the reference on the stack -/
theorem bx_O {own : String} {cc cy : ByteArray} {nL : Nat} {l : Launch} {D : va_G} {cA : Nat → ClassId} {rm : Room} {G : bx_G} {y : MethodName} {nLy dy nc ns ci N ic idx pc cells slots : Nat} {q0 : Nat × Nat} {al : List (Nat × Nat)} {C : String} {T0 : u_T} {Y : Nat → FieldType} {L : List (Nat × Value)} {rest : List Value} {ws : va_W} (hK : bx_K own cc nL l D cA rm G)
    (hT : bx_T l D cA y (.code y cy nLy none) dy nc ns ci (bx_dv Y N) q0 al) (hw : ax_cw own idx y (.code y cy nLy none) 0) (hi : Cond.instanceMethod y ∈ ax_tbl) (hyn : y.name = "<init>") (hcl : ax_cl[ci]? = some (C, T0, N)) (hws : ∀ w ∈ u_ws C T0 N, w ∈ ax_tbl) (hty : ∀ k, k < N → parseFieldDescriptor (T0 k).2.2.1 = some (Y k)) (hlink : Cond.classLink own ic C ∈ ax_tbl) (hins : Cond.instantiable C N ∈ ax_tbl) (hini : Cond.initialized C ∈ ax_tbl)
    (d1 : decode cc pc = .ok (.new ic, 3)) (d2 : decode cc (pc + 3) = .ok (.dup, 1)) (d3 : decode cc (pc + 4) = .ok (.invokespecial idx, 3)) (hc : cells + 1 + nc ≤ rm.cells) (hs : slots + N + ns ≤ rm.slots) (hf : dy + 1 ≤ rm.frames) (hlo : 8 + (nLy + 11) + 64 * dy ≤ rm.locals) (hrs : (rest.map fun v => v.category).sum + 1 ≤ 8)
    (kk : ∀ (q : Nat) (ad : Nat → Nat → Nat), ad q0.1 q0.2 = q → bx_R G nL (cells + 1 + nc) (slots + N + ns) (pc + 7) L (.ref q :: rest) (ws ++ ax_ws cA ad al bx_μ)) : bx_R G nL cells slots pc L rest ws := by
  obtain ⟨⟨p, l0, e, R, s, m, args⟩, ⟨below, meth, c⟩, ⟨Q, A⟩, ⟨D0, cA0⟩⟩ := G
  obtain ⟨hx, hb, hown, hml, hts, hKK, hA, rfl, rfl, rfl, rfl⟩ := hK
  obtain ⟨w1, w2, w3, w4, w5⟩ := hw
  intro H locs ls hP hD hS hl
  refine va_new (cl := ax_cl) (ci := ci) (C := C) (T := T0) (N := N) (Ts := ax_tbl) hx hb hts hws Y hty hown (hts _ hlink) (hts _ hins) (hts _ hini) hKK hP hD hS hA hcl (fs := bx_dv Y N) bx_dv_at (by omega) (by omega) d1 (fun q H1 hP1 hD1 hS1 => ?_)
  refine lv_dup hx hb d2 rfl ?_
  have hq : (ws ++ [(q, (.inr (ci, bx_dv Y N) : va_E))])[ws.length]? = some (q, .inr (ci, bx_dv Y N)) := by simp
  have hPq : va_P D0 ax_cl [(q, .inr (ci, bx_dv Y N))] H1 := fun k x hx => by
    obtain ⟨rfl, rfl⟩ := bx_one hx
    exact hP1 ws.length _ hq
  intro T1 hT1 X
  obtain ⟨v, st₀, t, T', L1, h0, X', hL, e1, e2, ⟨hv, ⟨ad, had, hP2, hD2⟩, hz, hk⟩, st⟩ := va_runI (As := []) (n := 0) (b := q) (rest := .ref q :: rest) (g := F0 m (pc + 3 + 1) ls (.ref q :: .ref q :: rest)) ⟨hx, hb, hml, hown, hts⟩ (hT q H1.size) (cwI 0 hts (ax_goodIn w3) rfl rfl rfl (hts _ w2) (hts _ w1) (hts _ hi) hyn ⟨w4.1, w4.2, w5⟩ ⟨by simp only [bx_rm]; omega, by simp only [bx_rm]; omega⟩) ⟨bx_blind, fun U hU hW => ⟨rfl, by rw [hU], by rw [hU]; exact hPq, va_K.moved hW.alike hKK⟩⟩ rfl rfl hl.1 rfl (lv_room (by simp only [List.map_cons, List.sum_cons]; show 1 + _ ≤ 8; omega)) d3 ⟨by omega, by omega⟩ T1 hT1 X
  have hv' : v = none := by injection hv
  subst hv'
  rw [h0] at hz hk
  have hF : ∀ x, bx_A q H1.size x → A x := by
    rintro x (rfl | h)
    · exact hD1.2 ws.length _ hq
    · exact hA x (Nat.le_trans hS1.1 h)
  obtain ⟨hP3, hD3⟩ := bx_join hP1 hD1 hk hF hP2 hD2
  rw [← e1] at hP3 hz hk
  have hS3 : va_S A s.heap T'.heap (locs ++ L1) := by
    refine ⟨Nat.le_trans hS1.1 hz, fun x h1 h2 => ?_, fun x hx => ?_⟩
    · rw [hk x (Nat.lt_of_lt_of_le h1 hS1.1) (fun z => h2 (hF x z))]
      exact hS1.2.1 x h1 h2
    · rcases List.mem_append.mp hx with h | h
      · exact hS1.2.2 x h
      · exact hF _ (hL x h)
  obtain ⟨t2, a1, b1⟩ := kk q ad had T'.heap (locs ++ L1) ls hP3 hD3 hS3 hl T' rfl X'
  exact ⟨t2, st t2 a1, b1⟩
/-- a final field, as its constructor names it -/
def bx_fF (own : String) (idx ci k : Nat) : Prop := ∃ (C : String) (T : u_T) (N : Nat) (ty0 : Nat → FieldType) (ty : FieldType), ax_cl[ci]? = some (C, T, N) ∧ (∀ w ∈ u_ws C T N, w ∈ ax_tbl) ∧ k < N ∧ Cond.fieldLink own idx (T k).1 (T k).2.1 (T k).2.2.1 ∈ ax_tbl ∧ (∀ j, j < N → parseFieldDescriptor (T j).2.2.1 = some (ty0 j)) ∧ (∀ a, a < N → ∀ b, b < N → a ≠ b → (T a).2.1 ≠ (T b).2.1) ∧ (T k).2.2.2 = true ∧ (T k).1 = own ∧ parseFieldDescriptor (T k).2.2.1 = some ty ∧ ((∃ n, ty = .object n) ∨ ∃ t', ty = .array t')
section
variable {own : String} {cc : ByteArray} {nL : Nat} {l : Launch} {D : va_G} {cA : Nat → ClassId} {d nc ns a0 : Nat} {q0 : Nat × Nat} {al : List (Nat × Nat)} {G : bx_G} {cells slots pc idx ci k : Nat} {fs : List Value} {rest : va_W} {ws : va_W}
/-- this, and Object's constructor -/
theorem bx_0 (h : bx_At own cc nL l D cA d nc ns a0 q0 al G) (d0 : decode cc 0 = .ok (.aload_n 0, 1)) (d1 : decode cc 1 = .ok (.invokespecial idx, 3)) (w1 : Cond.methodLink own idx Lib.objectInit ∈ ax_tbl) (w2 : Cond.instanceMethod Lib.objectInit ∈ ax_tbl) (w3 : Cond.code Lib.objectInit ⟨#[0xb1]⟩ 1 none ∈ ax_tbl) (hd : 1 ≤ d) (kk : bx_R G nL cells slots 4 [(0, .ref a0)] [] ws) : bx_R G nL cells slots 0 [(0, .ref a0)] [] ws := by
  obtain ⟨⟨p, l0, e, R, s, m, args⟩, ⟨below, meth, c⟩, ⟨Q, A⟩, ⟨D0, cA0⟩⟩ := G
  obtain ⟨⟨hx, hb, hown, hml, hts, hKK, hA, rfl, rfl, rfl, rfl⟩, -⟩ := h
  intro H locs ls hP hD hS hl
  refine lv_aload_n hx hb d0 rfl (lv_at hl 0 rfl) ?_
  refine W.objInit (a := a0) (rest := []) hx hb hown (hts _ w1) (hts _ w2) (hts _ w3) rfl (hl.1.trans hml.symm) rfl d1 hd (show 2 * 0 + 0 + 12 ≤ 64 * d by omega) ?_
  exact kk H locs ls hP hD hS hl
/-- the reference on the stack into a final field of this -/
theorem bx_F {q : Nat} (h : bx_At own cc nL l D cA d nc ns a0 q0 al G) (hf : bx_fF own idx ci k) (hk : k < fs.length) (hd : decode cc pc = .ok (.putfield idx, 3)) (kk : bx_R G nL cells slots (pc + 3) [(0, .ref a0)] [] ((a0, .inr (ci, fs.set k (.ref q))) :: rest)) : bx_R G nL cells slots pc [(0, .ref a0)] [.ref q, .ref a0] ((a0, .inr (ci, fs)) :: rest) := by
  obtain ⟨⟨p, l0, e, R, s, m, args⟩, ⟨below, meth, c⟩, ⟨Q, A⟩, ⟨D0, cA0⟩⟩ := G
  obtain ⟨⟨hx, hb, hown, hml, hts, hKK, hA, rfl, rfl, rfl, rfl⟩, hin, -⟩ := h
  obtain ⟨C, T, N, ty0, ty, hc, hin0, hkN, hlink, hty, hnm, hfin, hdecl, hpd, hr⟩ := hf
  intro H locs ls hP hD hS hl
  have hn : narrow ty (.ref q) = .ref q := by rcases hr with ⟨n, h7⟩ | ⟨n, h7⟩ <;> (rw [h7]; rfl)
  have hfi : fits ty (.ref q) = true := by rcases hr with ⟨n, h7⟩ | ⟨n, h7⟩ <;> (rw [h7]; rfl)
  exact va_putF hx hb hts hin0 ty0 hty hnm hown hKK hP hD hS 0 rfl hc k hkN (hts _ hlink) (fun _ h => h) hfin hin hdecl hpd hn hfi hk hd (fun H1 locs1 hP1 hD1 hS1 => kk H1 locs1 ls hP1 hD1 hS1 hl)
/-- what is on the stack into another field of this -/
theorem bx_V {v : Value} {ty : FieldType} (h : bx_At own cc nL l D cA d nc ns a0 q0 al G) (hf : ax_fp own idx ci k ty) (hn : narrow ty v = v) (hfi : fits ty v = true) (hk : k < fs.length) (hd : decode cc pc = .ok (.putfield idx, 3)) (kk : bx_R G nL cells slots (pc + 3) [(0, .ref a0)] [] ((a0, .inr (ci, fs.set k v)) :: rest)) : bx_R G nL cells slots pc [(0, .ref a0)] [v, .ref a0] ((a0, .inr (ci, fs)) :: rest) := by
  obtain ⟨⟨p, l0, e, R, s, m, args⟩, ⟨below, meth, c⟩, ⟨Q, A⟩, ⟨D0, cA0⟩⟩ := G
  obtain ⟨⟨hx, hb, hown, hml, hts, hKK, hA, rfl, rfl, rfl, rfl⟩, -⟩ := h
  obtain ⟨C, T, N, ty0, hc, hin0, hkN, hlink, hty, hnm, hfin, hpd⟩ := hf
  intro H locs ls hP hD hS hl
  exact va_put hx hb hts hin0 ty0 hty hnm hown hKK hP hD hS 0 rfl hc k hkN (hts _ hlink) (fun _ h => h) hfin hpd hn hfi hk hd (fun H1 locs1 hP1 hD1 hS1 => kk H1 locs1 ls hP1 hD1 hS1 hl)
/-- this -/
theorem bx_t {st : List Value} (h : bx_At own cc nL l D cA d nc ns a0 q0 al G) (hd : decode cc pc = .ok (.aload_n 0, 1)) (kk : bx_R G nL cells slots (pc + 1) [(0, .ref a0)] (.ref a0 :: st) ws) : bx_R G nL cells slots pc [(0, .ref a0)] st ws := by
  obtain ⟨⟨p, l0, e, R, s, m, args⟩, ⟨below, meth, c⟩, ⟨Q, A⟩, ⟨D0, cA0⟩⟩ := G
  obtain ⟨⟨hx, hb, -⟩, -⟩ := h
  intro H locs ls hP hD hS hl
  exact lv_aload_n hx hb hd rfl (lv_at hl 0 rfl) (kk H locs ls hP hD hS hl)
/-- a constant -/
theorem bx_c {v : Value} {n : Nat} (h : bx_At own cc nL l D cA d nc ns a0 q0 al G) (ho : ax_okp cc pc n (ax_s_k v)) (kk : bx_R G nL cells slots (pc + n) [(0, .ref a0)] [v, .ref a0] ws) : bx_R G nL cells slots pc [(0, .ref a0)] [.ref a0] ws := by
  obtain ⟨⟨p, l0, e, R, s, m, args⟩, ⟨below, meth, c⟩, ⟨Q, A⟩, ⟨D0, cA0⟩⟩ := G
  obtain ⟨⟨hx, hb, -⟩, -⟩ := h
  intro H locs ls hP hD hS hl
  exact ho p l0 e R s m args below meth c H locs cells slots Q ls (fun _ _ => 0) [.inl (.ref a0)] [.inl v, .inl (.ref a0)] hx hb rfl (kk H locs ls hP hD hS hl)
/-- and back -/
theorem bx_r (h : bx_At own cc nL l D cA d nc ns a0 q0 al G) (hd : decode cc pc = .ok (.return_, 1)) (ad : Nat → Nat → Nat) (h0 : ad q0.1 q0.2 = a0) (hws : ws = ax_ws cA ad al bx_μ) (hc : cells = nc) (hs : slots = ns) : bx_R G nL cells slots pc [(0, .ref a0)] [] ws := by
  obtain ⟨⟨p, l0, e, R, s, m, args⟩, ⟨below, meth, c⟩, ⟨Q, A⟩, ⟨D0, cA0⟩⟩ := G
  obtain ⟨⟨hx, hb, hown, hml, hts, hKK, hA, rfl, rfl, rfl, rfl⟩, hin, hlk, hr, rfl, rfl⟩ := h
  subst hc
  subst hs
  intro H locs ls hP hD hS hl
  rw [hws] at hP hD
  exact W.vret hx hb hr (fun t ht hW => ⟨rfl, ⟨ad, h0, by rw [ht]; exact hP, hD⟩, hS.F ht⟩) hS.2.2 hd hlk
end
/-- a new array: of ints, chars, longs, booleans -/
def bx_z (cA : Nat → ClassId) (N : Nat) : Nat → va_E
  | 2 => .inl (cA 2, N, .inr (.inl (fun _ => 0)))
  | t => .inl (cA t, N, .inl (fun _ => 0))
def bx_at : Nat → ArrayType
  | 0 => .int
  | 1 => .char
  | 2 => .long
  | _ => .boolean
theorem bx_n {own : String} {cc : ByteArray} {nL : Nat} {l : Launch} {D : va_G} {cA : Nat → ClassId} {rm : Room} {G : bx_G} {cells slots pc t N : Nat} {n : Int32} {L : List (Nat × Value)} {st : List Value} {ws : va_W} (hK : bx_K own cc nL l D cA rm G) (ht : t < 4) (hwd : Cond.arrayClass (newarray.typeOf (bx_at t)) ∈ ax_tbl) (hd : decode cc pc = .ok (.newarray (bx_at t), 2)) (hn : ¬ n < 0) (hN : n.toNatClampNeg = N) (hb8 : N * 8 ≤ 536870912) (hc : cells + 1 ≤ rm.cells) (hs : slots + N ≤ rm.slots)
    (kk : ∀ q : Nat, bx_R G nL (cells + 1) (slots + N) (pc + 2) L (.ref q :: st) (ws ++ [(q, bx_z cA N t)])) : bx_R G nL cells slots pc L (.int n :: st) ws := by
  obtain ⟨⟨p, l0, e, R, s, m, args⟩, ⟨below, meth, c⟩, ⟨Q, A⟩, ⟨D0, cA0⟩⟩ := G
  obtain ⟨hx, hb, hown, hml, hts, hKK, hA, rfl, rfl, rfl, rfl⟩ := hK
  intro H locs ls hP hD hS hl
  have hby : N * componentBytes (newarray.typeOf (bx_at t)) ≤ 536870912 := by
    refine Nat.le_trans (Nat.mul_le_mul_left N ?_) hb8
    match t, ht with
    | 0, _ => decide
    | 1, _ => decide
    | 2, _ => decide
    | 3, _ => decide
  refine va_newaK hx hb (hts _ hwd) rfl hd rfl hn hN hby hc hs rfl fun H1 cA' e1 z1 o1 hAr hNm => ?_
  have hk : ∀ (k : Nat) (x : Nat × va_E), ws[k]? = some x → H1[x.1]? = H[x.1]? := fun k x hx => o1 x.1 ((hP k x hx).lt)
  have he : va_at D0 ax_cl (H.size, bx_z cA0 N t) H1 := by
    match t, ht with
    | 0, _ =>
      have h9 : s.vm.findClass ("[" ++ FieldType.int.toString) = some (cA0 0) := (hKK.2 0 _ rfl).2
      have : cA' = cA0 0 := Option.some.inj (hNm.symm.trans h9)
      subst this
      exact e1
    | 1, _ =>
      have h9 : s.vm.findClass ("[" ++ FieldType.char.toString) = some (cA0 1) := (hKK.2 1 _ rfl).2
      have : cA' = cA0 1 := Option.some.inj (hNm.symm.trans h9)
      subst this
      exact e1
    | 2, _ =>
      have h9 : s.vm.findClass ("[" ++ FieldType.long.toString) = some (cA0 2) := (hKK.2 2 _ rfl).2
      have : cA' = cA0 2 := Option.some.inj (hNm.symm.trans h9)
      subst this
      exact e1
    | 3, _ =>
      have h9 : s.vm.findClass ("[" ++ FieldType.boolean.toString) = some (cA0 3) := (hKK.2 3 _ rfl).2
      have : cA' = cA0 3 := Option.some.inj (hNm.symm.trans h9)
      subst this
      exact e1
  refine kk H.size H1 locs ls ((hP.kept hk).app (fun k x hx => ?_)) (hD.push hP rfl (hA _ hS.1)) ⟨Nat.le_trans hS.1 (by omega), fun x h1 h2 => (o1 x (Nat.lt_of_lt_of_le h1 hS.1)).trans (hS.2.1 x h1 h2), hS.2.2⟩ hl
  obtain ⟨-, rfl⟩ := bx_one hx
  exact he
section
variable {own : String} {cc : ByteArray} {nL : Nat} {l : Launch} {D : va_G} {cA : Nat → ClassId} {d nc ns a0 : Nat} {q0 : Nat × Nat} {al : List (Nat × Nat)} {G : bx_G} {cells slots pc idx ci k : Nat} {fs : List Value} {rest : va_W} {ws : va_W}
/-- this.k = new T[N] -/
theorem bx_a {t N n pc' c' s' : Nat} {z : Int32} (h : bx_At own cc nL l D cA d nc ns a0 q0 al G) (d0 : decode cc pc = .ok (.aload_n 0, 1)) (ho : ax_okp cc (pc + 1) n (ax_s_k (.int z))) (d2 : decode cc (pc + 1 + n) = .ok (.newarray (bx_at t), 2)) (d3 : decode cc (pc + 1 + n + 2) = .ok (.putfield idx, 3)) (ht : t < 4) (hwd : Cond.arrayClass (newarray.typeOf (bx_at t)) ∈ ax_tbl) (hn : ¬ z < 0) (hN : z.toNatClampNeg = N) (hb8 : N * 8 ≤ 536870912) (hp : pc + 1 + n + 2 + 3 = pc') (hcc : cells + 1 = c') (hss : slots + N = s') (hc : c' ≤ nc) (hs : s' ≤ ns) (hf : bx_fF own idx ci k) (hk : k < fs.length)
    (kk : ∀ q : Nat, bx_R G nL c' s' pc' [(0, .ref a0)] [] ((a0, .inr (ci, fs.set k (.ref q))) :: (rest ++ [(q, bx_z cA N t)]))) : bx_R G nL cells slots pc [(0, .ref a0)] [] ((a0, .inr (ci, fs)) :: rest) := by
  subst hp
  subst hcc
  subst hss
  exact bx_t h d0 (bx_c h ho (bx_n h.1 ht hwd d2 hn hN hb8 hc hs (fun q => bx_F (rest := rest ++ [(q, bx_z cA N t)]) h hf hk d3 (kk q))))
/-- this.k = a constant -/
theorem bx_i {n pc' : Nat} {v : Value} {ty : FieldType} (h : bx_At own cc nL l D cA d nc ns a0 q0 al G) (d0 : decode cc pc = .ok (.aload_n 0, 1)) (ho : ax_okp cc (pc + 1) n (ax_s_k v)) (d3 : decode cc (pc + 1 + n) = .ok (.putfield idx, 3)) (hp : pc + 1 + n + 3 = pc') (hf : ax_fp own idx ci k ty) (hn : narrow ty v = v) (hfi : fits ty v = true) (hk : k < fs.length) (kk : bx_R G nL cells slots pc' [(0, .ref a0)] [] ((a0, .inr (ci, fs.set k v)) :: rest)) : bx_R G nL cells slots pc [(0, .ref a0)] [] ((a0, .inr (ci, fs)) :: rest) := by
  subst hp
  exact bx_t h d0 (bx_c h ho (bx_V h hf hn hfi hk d3 kk))
end
/-- new C() of a walk in a constructor, the counts named -/
theorem bx_o {own : String} {cc cy : ByteArray} {nL : Nat} {l : Launch} {D : va_G} {cA : Nat → ClassId} {rm : Room} {G : bx_G} {y : MethodName} {nLy dy nc ns ci N ic idx pc cells slots pc' c' s' : Nat} {q0 : Nat × Nat} {al : List (Nat × Nat)} {C : String} {T0 : u_T} {Y : Nat → FieldType} {L : List (Nat × Value)} {rest : List Value} {ws : va_W} (hK : bx_K own cc nL l D cA rm G)
    (hT : bx_T l D cA y (.code y cy nLy none) dy nc ns ci (bx_dv Y N) q0 al) (hw : ax_cw own idx y (.code y cy nLy none) 0) (hi : Cond.instanceMethod y ∈ ax_tbl) (hyn : y.name = "<init>") (hcl : ax_cl[ci]? = some (C, T0, N)) (hws : ∀ w ∈ u_ws C T0 N, w ∈ ax_tbl) (hty : ∀ k, k < N → parseFieldDescriptor (T0 k).2.2.1 = some (Y k)) (hlink : Cond.classLink own ic C ∈ ax_tbl) (hins : Cond.instantiable C N ∈ ax_tbl) (hini : Cond.initialized C ∈ ax_tbl)
    (d1 : decode cc pc = .ok (.new ic, 3)) (d2 : decode cc (pc + 3) = .ok (.dup, 1)) (d3 : decode cc (pc + 4) = .ok (.invokespecial idx, 3)) (hp : pc + 7 = pc') (hcc : cells + 1 + nc = c') (hss : slots + N + ns = s') (hc : c' ≤ rm.cells) (hs : s' ≤ rm.slots) (hf : dy + 1 ≤ rm.frames) (hlo : 8 + (nLy + 11) + 64 * dy ≤ rm.locals) (hrs : (rest.map fun v => v.category).sum + 1 ≤ 8)
    (kk : ∀ (q : Nat) (ad : Nat → Nat → Nat), ad q0.1 q0.2 = q → bx_R G nL c' s' pc' L (.ref q :: rest) (ws ++ ax_ws cA ad al bx_μ)) : bx_R G nL cells slots pc L rest ws := by
  subst hp
  subst hcc
  subst hss
  exact bx_O hK hT hw hi hyn hcl hws hty hlink hins hini d1 d2 d3 hc hs hf hlo hrs kk
