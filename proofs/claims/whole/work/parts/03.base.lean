/-! A WALK OVER NUMBERED CELLS. A cell is named by (instance, role); what it holds is read off a memory of three functions (ints, longs, references that change). A state of a walk is a pc, locals, a stack and a memory; a step is a function on such states. -/
abbrev ax_V : Type := Value ⊕ (Nat × Nat)
abbrev ax_M : Type := (Nat → Nat → Nat → Int32) × (Nat → Nat → Nat → Int64) × (Nat → Nat → Nat → Option (Nat × Nat))
abbrev ax_S : Type := Nat × List (Nat × ax_V) × List ax_V × ax_M
def ax_cv (ad : Nat → Nat → Nat) : ax_V → Value
  | .inl v => v
  | .inr q => .ref (ad q.1 q.2)
def ax_rv (ad : Nat → Nat → Nat) : Option (Nat × Nat) → Value
  | none => .null
  | some q => .ref (ad q.1 q.2)
def ax_ov : Option (Nat × Nat) → ax_V
  | none => .inl .null
  | some q => .inr q
theorem ax_cv_ov (ad : Nat → Nat → Nat) (x : Option (Nat × Nat)) : ax_cv ad (ax_ov x) = ax_rv ad x := by cases x <;> rfl
def ax_fv (ad : Nat → Nat → Nat) (μ : ax_M) (g r k : Nat) : Nat → Value
  | 0 => .int (μ.1 g r k)
  | 1 => .long (μ.2.1 g r k)
  | 2 => ax_rv ad (μ.2.2 g r k)
  | t + 3 => .ref (ad g t)
def ax_fs (ad : Nat → Nat → Nat) (μ : ax_M) (g r : Nat) (fk : List Nat) : List Value := fk.mapIdx (fun k t => ax_fv ad μ g r k t)
/-- array classes: int, char, long, boolean -/
def ax_cell (cA : Nat → ClassId) (ad : Nat → Nat → Nat) (μ : ax_M) (g r : Nat) : va_E := match ax_ly r with
  | (0, ci, fk) => .inr (ci, ax_fs ad μ g r fk)
  | (1, n, _) => .inl (cA 0, n, .inl (μ.1 g r))
  | (2, n, _) => .inl (cA 1, n, .inl (μ.1 g r))
  | (3, n, _) => .inl (cA 2, n, .inr (.inl (μ.2.1 g r)))
  | (_, n, _) => .inl (cA 3, n, .inl (μ.1 g r))
def ax_ws (cA : Nat → ClassId) (ad : Nat → Nat → Nat) (al : List (Nat × Nat)) (μ : ax_M) : va_W := al.map (fun q => (ad q.1 q.2, ax_cell cA ad μ q.1 q.2))
abbrev ax_tys (cA : Nat → ClassId) : List (ClassId × FieldType) := [(cA 0, .int), (cA 1, .char), (cA 2, .long), (cA 3, .boolean)]
def ax_uI (f : Nat → Nat → Nat → Int32) (g r k : Nat) (v : Int32) : Nat → Nat → Nat → Int32 := fun g' r' k' => if g' = g ∧ r' = r ∧ k' = k then v else f g' r' k'
def ax_uL (f : Nat → Nat → Nat → Int64) (g r k : Nat) (v : Int64) : Nat → Nat → Nat → Int64 := fun g' r' k' => if g' = g ∧ r' = r ∧ k' = k then v else f g' r' k'
def ax_uR (f : Nat → Nat → Nat → Option (Nat × Nat)) (g r k : Nat) (v : Option (Nat × Nat)) : Nat → Nat → Nat → Option (Nat × Nat) := fun g' r' k' => if g' = g ∧ r' = r ∧ k' = k then v else f g' r' k'
/-- what is read of the JDK: two String constants (their cells, their bytes' cells), values of statics -/
abbrev ax_Θ : Type := (Nat → Nat) × (Nat → Nat) × (Nat → Value)
def ax_len : List Nat := [16, 7]
def ax_byt : List (List Int32) := [[48, 49, 50, 51, 52, 53, 54, 55, 56, 57, 97, 98, 99, 100, 101, 102], [94, 38, 124, 43, 45, 42, 60]]
/-- a static of the JDK that holds a reference or null: its cell, where it lies -/
def ax_LS (C n d : String) (A : Nat → Prop) (U : State) (H : Heap) : Prop := ∃ (c : ClassId) (k : Class) (i : Nat) (f : Field) (a : Nat) (cell : Cell) (v : Value), U.vm.findClass C = some c ∧ U.fieldFound? C n d = some (c, k, i, f) ∧ f.isStatic = true ∧ k.statics = some a ∧ H[a]? = some cell ∧ cell.vm.isStatics = true ∧ cell.cls = c ∧ f.slot < cell.slots.size ∧ k.staticTypes[f.slot]? = some f.type ∧ ¬ A a ∧ cell.slots[f.slot]? = some v ∧ (v = .null ∨ ∃ q, v = .ref q)
theorem ax_LS.moved {C n d : String} {A : Nat → Prop} {u U : State} {H : Heap} (hvm : u.vm.Alike U.vm) (h : ax_LS C n d A u H) : ax_LS C n d A U H := by
  obtain ⟨c, k, i, f, a, cell, v, h1, h2, h3, h4, h5, h6, h7, h8, h9, h10⟩ := h
  obtain ⟨k', hi', he⟩ := State.fieldFound?_setVm hvm h2
  exact ⟨c, k', i, f, a, cell, v, by rw [hvm.findClass]; exact h1, hi', h3, by rw [he]; exact h4, h5, h6, h7, h8, by rw [he]; exact h9, h10⟩
theorem ax_LS.kept {C n d : String} {A : Nat → Prop} {U : State} {H H1 : Heap} (h : ax_LS C n d A U H) (hq : ∀ a : Nat, a < H.size → ¬ A a → H1[a]? = H[a]?) : ax_LS C n d A U H1 := by
  obtain ⟨c, k, i, f, a, cell, v, h1, h2, h3, h4, h5, h6, h7, h8, h9, h10, h11⟩ := h
  exact ⟨c, k, i, f, a, cell, v, h1, h2, h3, h4, by rw [hq a (Array.getElem?_eq_some_iff.mp h5).1 h10]; exact h5, h6, h7, h8, h9, h10, h11⟩
theorem ax_LS.narrow {C n d : String} {A B : Nat → Prop} {U : State} {H : Heap} (h : ax_LS C n d A U H) (hAB : ∀ q, B q → A q) : ax_LS C n d B U H := by
  obtain ⟨c, k, i, f, a, cell, v, h1, h2, h3, h4, h5, h6, h7, h8, h9, h10, h11⟩ := h
  exact ⟨c, k, i, f, a, cell, v, h1, h2, h3, h4, h5, h6, h7, h8, h9, fun z => h10 (hAB a z), h11⟩
/-- the two words of it, at a state -/
theorem ax_LS.lays {C n d : String} {A : Nat → Prop} {U : State} (args : Array Value) (h : ax_LS C n d A U U.heap) : (Cond.laysStatic C n d).before args U = true := by
  obtain ⟨c, k, i, f, a, cell, v, h1, h2, h3, h4, h5, h6, h7, h8, h9, h10, h11⟩ := h
  simp [Cond.before, Cond.holds, Cond.value, h1, h2, h3, h4, h5, h6, h7, h8, h9]
theorem ax_LS.isRef {C n d : String} {A : Nat → Prop} {U : State} (args : Array Value) (h : ax_LS C n d A U U.heap) : (Cond.isRef (.static C n d)).before args U = true := by
  obtain ⟨c, k, i, f, a, cell, v, h1, h2, h3, h4, h5, h6, h7, h8, h9, h10, h11, h12⟩ := h
  have hnu : cell.vm ≠ .unknown := fun e => by rw [e] at h6; cases h6
  have he : (Term.static C n d).eval args U none [] U = some v := by
    simp only [Term.eval, State.fieldNamed?, h2, Option.bind_eq_bind, Option.bind_some, h3, beq_self_eq_true, if_true, Option.pure_def, h4, h5, h6]
    first | (simp [h11, hnu]; done) | (simp [h11]; done)
  rcases h12 with rfl | ⟨q, rfl⟩ <;> simp [Cond.before, Cond.holds, Cond.value, he]
/-- words that hold on and that no callee may ask for by itself -/
def ax_xw : List Cond := [.castable "java/lang/IllegalStateException" "java/lang/IllegalStateException", .castable "java/lang/IllegalArgumentException" "java/lang/IllegalArgumentException", .castable "java/lang/IndexOutOfBoundsException" "java/lang/IndexOutOfBoundsException", .declares ⟨"java/lang/RuntimeException", "<init>", "()V"⟩, .declares ⟨"java/lang/Exception", "<init>", "()V"⟩, .declares ⟨"java/lang/Throwable", "<init>", "()V"⟩]
/-- classes of exceptions that are none of another -/
def ax_nc : List (String × String) := [("java/lang/IllegalArgumentException", "java/lang/IllegalStateException"), ("java/lang/IndexOutOfBoundsException", "java/lang/IllegalStateException"), ("java/lang/IllegalArgumentException", "java/lang/IndexOutOfBoundsException")]
def ax_NC (U : State) : Prop := ∀ q ∈ ax_nc, ∃ cx cy : ClassId, U.vm.findClass q.1 = some cx ∧ U.vm.findClass q.2 = some cy ∧ U.vm.assignable cx cy = false
theorem ax_NC.moved {u U : State} (h : u.vm.Alike U.vm) (hn : ax_NC u) : ax_NC U := by
  intro q hq
  obtain ⟨cx, cy, h1, h2, h3⟩ := hn q hq
  exact ⟨cx, cy, by rw [h.findClass]; exact h1, by rw [h.findClass]; exact h2, by rw [h.assignable]; exact h3⟩
def ax_XW (U : State) : Prop := (∀ c ∈ ax_xw, c.before #[] U = true) ∧ ax_NC U
theorem ax_xw_ok : ∀ c ∈ ax_xw, c.keepsFace = true ∧ c.onTables = true := by
  intro c hc
  simp only [ax_xw, List.mem_cons, List.not_mem_nil, or_false] at hc
  rcases hc with rfl | rfl | rfl | rfl | rfl | rfl <;> exact ⟨rfl, rfl⟩
theorem ax_XW.warm {u U : State} (hW : u.WarmedH U.vm) (h : ax_XW u) : ax_XW U := by
  refine ⟨fun c hc => ?_, h.2.moved hW.alike⟩
  have h2 : c.before #[] (u.setVm U.vm) = true := Cond.before_shiftedFace (State.Shifted.of_warmed hW) c (ax_xw_ok c hc).1 (h.1 c hc)
  have e := Cond.onTables_vm (A := #[]) (A' := #[]) (U := u) (U' := U) U.vm c (ax_xw_ok c hc).2
  have hU : U.setVm U.vm = U := rfl
  rw [hU] at e
  rw [← e]; exact h2
theorem ax_XW.same {u U : State} (hv : U.vm = u.vm) (h : ax_XW u) : ax_XW U := by
  refine ⟨fun c hc => ?_, h.2.moved (by rw [hv]; exact Vm.Alike.refl _)⟩
  have e := Cond.onTables_vm (A := #[]) (A' := #[]) (U := u) (U' := U) U.vm c (ax_xw_ok c hc).2
  have hU : U.setVm U.vm = U := rfl
  have hu : u.setVm U.vm = u := by rw [hv]; rfl
  rw [hU, hu] at e
  rw [← e]; exact h.1 c hc
theorem ax_XW.args {U : State} (h : ax_XW U) (args : Array Value) {c : Cond} (hc : c ∈ ax_xw) : c.before args U = true := by
  have e := Cond.onTables_vm (A := args) (A' := #[]) (U := U) (U' := U) U.vm c (ax_xw_ok c hc).2
  have hU : U.setVm U.vm = U := rfl
  rw [hU] at e
  rw [e]; exact h.1 c hc
def ax_Z (θ : ax_Θ) (A : Nat → Prop) (U : State) (H : Heap) : Prop := vk_S 2 ax_len ax_byt θ.1 θ.2.1 A U H ∧ va_Z "java/lang/String" "COMPACT_STRINGS" "Z" (.int 1) A U H ∧ vk_R "CipherNotation$Reader" 136 "0123456789abcdef" (θ.1 0) U ∧ vk_R "CipherNotation$Reader" 255 "^&|+-*<" (θ.1 1) U ∧ vk_R "CipherNotation$Machine" 119 "^&|+-*<" (θ.1 1) U ∧
  va_Zq "jdk/internal/util/Preconditions" "SIOOBE_FORMATTER" "Ljava/util/function/BiFunction;" A U H ∧ ax_LS "java/lang/Throwable" "UNASSIGNED_STACK" "[Ljava/lang/StackTraceElement;" A U H ∧ ax_LS "java/lang/Throwable" "SUPPRESSED_SENTINEL" "Ljava/util/List;" A U H ∧ ax_XW U
theorem ax_Z.warm {θ : ax_Θ} {A : Nat → Prop} {u U : State} {H : Heap} (hW : u.WarmedH U.vm) (h : ax_Z θ A u H) : ax_Z θ A U H := ⟨h.1.moved hW.alike, h.2.1.moved hW.alike, h.2.2.1.warm hW, h.2.2.2.1.warm hW, h.2.2.2.2.1.warm hW, h.2.2.2.2.2.1.moved hW.alike, h.2.2.2.2.2.2.1.moved hW.alike, h.2.2.2.2.2.2.2.1.moved hW.alike, h.2.2.2.2.2.2.2.2.warm hW⟩
theorem ax_Z.same {θ : ax_Θ} {A : Nat → Prop} {u U : State} {H : Heap} (hv : U.vm = u.vm) (h : ax_Z θ A u H) : ax_Z θ A U H := by
  have ha : u.vm.Alike U.vm := by rw [hv]; exact Vm.Alike.refl _
  exact ⟨h.1.moved ha, h.2.1.moved ha, h.2.2.1.same hv, h.2.2.2.1.same hv, h.2.2.2.2.1.same hv, h.2.2.2.2.2.1.moved ha, h.2.2.2.2.2.2.1.moved ha, h.2.2.2.2.2.2.2.1.moved ha, h.2.2.2.2.2.2.2.2.same hv⟩
theorem ax_Z.kept {θ : ax_Θ} {A : Nat → Prop} {U : State} {H H1 : Heap} (h : ax_Z θ A U H) (hq : ∀ a : Nat, a < H.size → ¬ A a → H1[a]? = H[a]?) : ax_Z θ A U H1 := ⟨h.1.kept hq, h.2.1.kept hq, h.2.2.1, h.2.2.2.1, h.2.2.2.2.1, h.2.2.2.2.2.1.kept hq, h.2.2.2.2.2.2.1.kept hq, h.2.2.2.2.2.2.2.1.kept hq, h.2.2.2.2.2.2.2.2⟩
theorem ax_Z.narrow {θ : ax_Θ} {A B : Nat → Prop} {U : State} {H : Heap} (h : ax_Z θ A U H) (hAB : ∀ q, B q → A q) : ax_Z θ B U H := ⟨h.1.narrow hAB, h.2.1.narrow hAB, h.2.2.1, h.2.2.2.1, h.2.2.2.2.1, h.2.2.2.2.2.1.narrow hAB, h.2.2.2.2.2.2.1.narrow hAB, h.2.2.2.2.2.2.2.1.narrow hAB, h.2.2.2.2.2.2.2.2⟩
/-- everything that stays in a walk -/
abbrev ax_G : Type := (Program × Launch × Env × Room × State × MethodId × Array Value) × (List Frame × Method × Code) × ((State → Prop) × (Nat → Prop)) × (va_G × (Nat → ClassId) × (Nat → Nat → Nat) × List (Nat × Nat) × ax_Θ)
def ax_L (ad : Nat → Nat → Nat) (L : List (Nat × ax_V)) : List (Nat × Value) := L.map (fun q => (q.1, ax_cv ad q.2))
def ax_R (G : ax_G) (nL cells slots : Nat) (x : ax_S) : Prop := match G with
  | ((p, l, e, R, s, m, args), (below, meth, c), (Q, A), (D, cA, ad, al, θ)) =>
    ∀ (H : Heap) (locs : List Loc) (ls : Array Slot), va_P D ax_cl (ax_ws cA ad al x.2.2.2) H → va_D A (ax_ws cA ad al x.2.2.2) → va_S A s.heap H locs → lv_has ls nL (ax_L ad x.2.1) →
      W p l e R s m args below meth c H locs cells slots Q (F0 m x.1 ls (x.2.2.1.map (ax_cv ad)))
/-- what is known of a walk: the machine, the code, its class, the tables' words, the classes -/
def ax_K (own : String) (cc : ByteArray) (nL : Nat) (G : ax_G) : Prop := match G with
  | ((p, l, e, R, s, m, args), (below, meth, c), (Q, A), (D, cA, ad, al, θ)) =>
    p.tables.exec = Jvm.exec ∧ c.code = cc ∧ s.vm.findClass own = some m.cls ∧ c.maxLocals = nL ∧ meth.locks = false ∧ (∀ w ∈ ax_tbl, w.before args s = true) ∧ va_K D ax_cl (ax_tys cA) s ∧ (∀ q, s.heap.size ≤ q → A q) ∧ ax_Z θ A s s.heap
abbrev ax_F : Type := ax_S → Option (ax_S × Prop)
/-- a step that the machine does -/
def ax_v (own : String) (cc : ByteArray) (nL : Nat) (G : ax_G) (f : ax_F) : Prop :=
  ax_K own cc nL G → ∀ (x y : ax_S) (P : Prop) (cells slots : Nat), f x = some (y, P) → P → ax_R G nL cells slots y → ax_R G nL cells slots x
def ax_run : List ax_F → ax_S → Option (ax_S × Prop)
  | [], x => some (x, True)
  | f :: r, x => match f x with
    | none => none
    | some (y, P) => match ax_run r y with
      | none => none
      | some (z, P') => some (z, P ∧ P')
theorem ax_run_v {own : String} {cc : ByteArray} {nL : Nat} {G : ax_G} (hK : ax_K own cc nL G) : ∀ (fs : List ax_F), (∀ f ∈ fs, ax_v own cc nL G f) → ∀ (x y : ax_S) (P : Prop) (cells slots : Nat), ax_run fs x = some (y, P) → P → ax_R G nL cells slots y → ax_R G nL cells slots x
  | [], _, x, y, P, cells, slots, h, _, k => by
    simp only [ax_run, Option.some.injEq, Prod.mk.injEq] at h
    rw [h.1]; exact k
  | f :: r, hv, x, y, P, cells, slots, h, hP, k => by
    simp only [ax_run] at h
    cases hf : f x with
    | none => rw [hf] at h; cases h
    | some q =>
      obtain ⟨y1, P1⟩ := q
      rw [hf] at h
      simp only at h
      cases hr : ax_run r y1 with
      | none => rw [hr] at h; cases h
      | some q2 =>
        obtain ⟨y2, P2⟩ := q2
        rw [hr] at h
        simp only [Option.some.injEq, Prod.mk.injEq] at h
        obtain ⟨rfl, rfl⟩ := h
        exact hv f List.mem_cons_self hK x y1 P1 cells slots hf hP.1 (ax_run_v hK r (fun g hg => hv g (List.mem_cons_of_mem _ hg)) y1 _ P2 cells slots hr hP.2 k)
/-- a block: n steps from place k of a method's table on -/
theorem ax_blk {own : String} {cc : ByteArray} {nL : Nat} {G : ax_G} {tb : List ax_F} (hK : ax_K own cc nL G) (ht : ∀ f ∈ tb, ax_v own cc nL G f) (k n : Nat) {x y : ax_S} {P : Prop} {cells slots : Nat} (h : ax_run ((tb.drop k).take n) x = some (y, P)) (hP : P) (kk : ax_R G nL cells slots y) : ax_R G nL cells slots x :=
  ax_run_v hK _ (fun f hf => ht f (List.mem_of_mem_drop (List.mem_of_mem_take hf))) x y P cells slots h hP kk
def ax_loc : List (Nat × ax_V) → Nat → Option ax_V
  | [], _ => none
  | q :: r, i => bif Nat.beq q.1 i then some q.2 else ax_loc r i
theorem ax_loc_has {ls : Array Slot} {ad : Nat → Nat → Nat} : ∀ {L : List (Nat × ax_V)} {i : Nat} {v : ax_V}, ax_loc L i = some v → (∀ q ∈ ax_L ad L, ls[q.1]? = some (.val q.2)) → ls[i]? = some (.val (ax_cv ad v))
  | [], i, v, h, _ => by simp [ax_loc] at h
  | q :: r, i, v, h, hl => by
    unfold ax_loc at h
    cases hb : Nat.beq q.1 i with
    | true =>
      rw [hb] at h
      have hi : q.1 = i := Nat.eq_of_beq_eq_true hb
      have hv : q.2 = v := Option.some.inj h
      rw [← hi, ← hv]; exact hl (q.1, ax_cv ad q.2) List.mem_cons_self
    | false =>
      rw [hb] at h
      exact ax_loc_has h (fun x hx => hl x (List.mem_cons_of_mem _ hx))
/-- the number of words of a value -/
def ax_cat : ax_V → Nat
  | .inl v => v.category
  | .inr _ => 1
theorem ax_cat_cv (ad : Nat → Nat → Nat) (v : ax_V) : (ax_cv ad v).category = ax_cat v := by cases v <;> rfl
def ax_st1 (L : List (Nat × ax_V)) (i : Nat) (v : ax_V) : List (Nat × ax_V) := (i, v) :: L.filter (fun q => !(q.1 == i) && !(q.1 + 1 == i && ax_cat q.2 == 2))
def ax_st2 (L : List (Nat × ax_V)) (i : Nat) (v : ax_V) : List (Nat × ax_V) := (i, v) :: L.filter (fun q => !(q.1 == i) && (!(q.1 == i + 1) && !(q.1 + 1 == i && ax_cat q.2 == 2)))
theorem ax_st1_L (ad : Nat → Nat → Nat) (L : List (Nat × ax_V)) (i : Nat) (v : ax_V) : (i, ax_cv ad v) :: (ax_L ad L).filter (fun q => !(q.1 == i) && !(q.1 + 1 == i && q.2.category == 2)) = ax_L ad (ax_st1 L i v) := by
  simp only [ax_st1, ax_L, List.map_cons, List.filter_map, Function.comp_def, ax_cat_cv]
theorem ax_st2_L (ad : Nat → Nat → Nat) (L : List (Nat × ax_V)) (i : Nat) (v : ax_V) : (i, ax_cv ad v) :: (ax_L ad L).filter (fun q => !(q.1 == i) && (!(q.1 == i + 1) && !(q.1 + 1 == i && q.2.category == 2))) = ax_L ad (ax_st2 L i v) := by
  simp only [ax_st2, ax_L, List.map_cons, List.filter_map, Function.comp_def, ax_cat_cv]
