/-! WHAT THE WRITTEN-OUT METHODS USE -/
abbrev ax_σ : Type := (Nat → Nat → Nat → Int32) × (Nat → Nat → Nat → Int64)
abbrev ax_ρ : Type := Nat → Nat → Nat → Option (Nat × Nat)
def ax_m (σ : ax_σ) (ρ : ax_ρ) : ax_M := (σ.1, σ.2, ρ)
def ax_wI (σ : ax_σ) (g r k : Nat) (v : Int32) : ax_σ := (ax_uI σ.1 g r k v, σ.2)
def ax_wL (σ : ax_σ) (g r k : Nat) (v : Int64) : ax_σ := (σ.1, ax_uL σ.2 g r k v)
def ax_in (i : Int32) (n : Nat) : Bool := decide (0 ≤ i.toInt ∧ i.toInt < (n : Int))
theorem ax_inp {i : Int32} {n : Nat} (h : ax_in i n = true) : vp_in i n := vp_in_iff.mpr (of_decide_eq_true h)
/-- a guard -/
theorem ax_gd {α : Type} {b : Bool} {x : Option α} {y : α} (h : (bif b then x else none) = some y) : b = true ∧ x = some y := by
  cases b with
  | false => cases h
  | true => exact ⟨rfl, h⟩
theorem ax_bd {α β : Type} {x : Option α} {f : α → Option β} {y : β} (h : x.bind f = some y) : ∃ a, x = some a ∧ f a = some y := by
  cases x with
  | none => cases h
  | some a => exact ⟨a, rfl, h⟩
def ax_no : ax_F := fun _ => none
theorem ax_v_no {own : String} {cc : ByteArray} {nL : Nat} {G : ax_G} : ax_v own cc nL G ax_no := by
  intro _ x y P cells slots h
  cases h
theorem ax_Lsub {G : ax_G} {nL cells slots pc : Nat} {L L' : List (Nat × ax_V)} {st : List ax_V} {μ : ax_M} (ks : List Nat) (h : ks.filterMap (fun k => L[k]?) = L') (kk : ax_R G nL cells slots (pc, L', st, μ)) : ax_R G nL cells slots (pc, L, st, μ) := by
  obtain ⟨⟨p, l, e, R, s, m, args⟩, ⟨below, meth, c⟩, ⟨Q, A⟩, ⟨D, cA, ad, al, θ⟩⟩ := G
  intro H locs ls hP hD hS hl
  refine kk H locs ls hP hD hS ⟨hl.1, hl.2.1, fun q hq => hl.2.2 q ?_⟩
  simp only [ax_L, List.mem_map] at hq ⊢
  obtain ⟨q', h1, h2⟩ := hq
  rw [← h] at h1
  obtain ⟨k, -, hk⟩ := List.mem_filterMap.mp h1
  exact ⟨q', List.mem_of_getElem? hk, h2⟩
def ax_bo (v : Int32) : Bool := decide (v = 0 ∨ v = 1)
theorem ax_bop {v : Int32} (h : ax_bo v = true) : narrow .boolean (.int v) = .int v := by
  rcases of_decide_eq_true h with e | e <;> (rw [e]; decide)
section
variable {D : va_G} {cA : Nat → ClassId} {ad : Nat → Nat → Nat} {al : List (Nat × Nat)} {θ : ax_Θ} {l : Launch} {own : String} {cc cy : ByteArray} {nL d pc idx n nLy dy : Nat} {ret ry : Option FieldType} {y : MethodName} {rv0 rv : Option ax_V} {μ0 μ μ' : ax_M} {G : ax_G} {av rest st : List ax_V} {L : List (Nat × ax_V)}
theorem ax_At.K (h : ax_At D cA ad al θ l own cc nL d ret rv0 μ0 G) : ax_K own cc nL G := by
  obtain ⟨⟨p, l0, e, R, s, m, args⟩, ⟨below, meth, c⟩, ⟨Q, A⟩, ⟨D0, cA0, ad0, al0, θ0⟩⟩ := G
  exact h.1
theorem ax_cS (h : ax_At D cA ad al θ l own cc nL d ret rv0 μ0 G) (hT : ax_T l D cA ad al θ y (.code y cy nLy ry) dy av μ rv μ') (hw : ax_cw own idx y (.code y cy nLy ry) n) (hs : Cond.static y ∈ ax_tbl) (hd : decode cc pc = .ok (.invokestatic idx, 3)) (hdd : dy + 1 ≤ d) (hnl : nLy ≤ 45) (hn : av.length = n) (hst : st = av.reverse ++ rest) (hrs : (rest.map ax_cat).sum ≤ 8) (kk : ax_R G nL 0 0 (pc + 3, L, rv.toList ++ rest, μ')) : ax_R G nL 0 0 (pc, L, st, μ) := by
  obtain ⟨⟨p, l0, e, R, s, m, args⟩, ⟨below, meth, c⟩, ⟨Q, A⟩, ⟨D0, cA0, ad0, al0, θ0⟩⟩ := G
  obtain ⟨hK, hR, rfl, rfl, rfl, rfl, rfl, rfl, -⟩ := h
  exact ax_callS hK hR hT hw hs hd hdd hnl hn hst hrs (Nat.zero_le _) (Nat.zero_le _) kk
theorem ax_cV {g r ci : Nat} {fk : List Nat} {T0 : u_T} {N0 : Nat} (h : ax_At D cA ad al θ l own cc nL d ret rv0 μ0 G) (hT : ax_T l D cA ad al θ y (.code y cy nLy ry) dy (.inr (g, r) :: av) μ rv μ') (hw : ax_cw own idx y (.code y cy nLy ry) n) (hi : Cond.instanceMethod y ∈ ax_tbl) (hse : Cond.selects y.cls y y ∈ ax_tbl) (hd : decode cc pc = .ok (.invokevirtual idx, 3)) (hm : (g, r) ∈ al) (hly : ax_ly r = (0, ci, fk)) (hci : ax_cl[ci]? = some (y.cls, T0, N0)) (hdd : dy + 1 ≤ d) (hnl : nLy ≤ 45) (hn : av.length = n) (hst : st = av.reverse ++ .inr (g, r) :: rest) (hrs : (rest.map ax_cat).sum ≤ 8) (kk : ax_R G nL 0 0 (pc + 3, L, rv.toList ++ rest, μ')) : ax_R G nL 0 0 (pc, L, st, μ) := by
  obtain ⟨⟨p, l0, e, R, s, m, args⟩, ⟨below, meth, c⟩, ⟨Q, A⟩, ⟨D0, cA0, ad0, al0, θ0⟩⟩ := G
  obtain ⟨hK, hR, rfl, rfl, rfl, rfl, rfl, rfl, -⟩ := h
  exact ax_callV hK hR hT hw hi hse hd hm hly hci hdd hnl hn hst hrs (Nat.zero_le _) (Nat.zero_le _) kk
end
/-- the cells of a walk -/
def ax_al (G : ax_G) : List (Nat × Nat) := G.2.2.2.2.2.2.1
theorem ax_At.al {D : va_G} {cA : Nat → ClassId} {ad : Nat → Nat → Nat} {al : List (Nat × Nat)} {θ : ax_Θ} {l : Launch} {own : String} {cc : ByteArray} {nL d : Nat} {ret : Option FieldType} {rv0 : Option ax_V} {μ0 : ax_M} {G : ax_G} (h : ax_At D cA ad al θ l own cc nL d ret rv0 μ0 G) : ax_al G = al := by
  obtain ⟨⟨p, l0, e, R, s, m, args⟩, ⟨below, meth, c⟩, ⟨Q, A⟩, ⟨D0, cA0, ad0, al0, θ0⟩⟩ := G
  exact h.2.2.2.2.2.2.1
theorem ax_w_gf {own : String} {cc : ByteArray} {nL : Nat} {G : ax_G} {al : List (Nat × Nat)} {pc : Nat} {idx ci k : Nat} {e : Option (Nat × Nat)} (hal : ax_al G = al) (hd : decode cc pc = .ok (.getfield idx, 3)) (hf0 : ax_fd own idx ci k) : ax_v own cc nL G (ax_gf al pc ci k e) := by
  obtain ⟨⟨p, l0, e, R, s, m, args⟩, ⟨below, meth, c⟩, ⟨Q, A⟩, ⟨D0, cA0, ad0, al0, θ0⟩⟩ := G
  have hal : al0 = al := hal
  subst hal
  exact ax_v_gf hd hf0
theorem ax_w_pf {own : String} {cc : ByteArray} {nL : Nat} {G : ax_G} {al : List (Nat × Nat)} {pc : Nat} {idx ci k tc : Nat} {ty : FieldType} (hal : ax_al G = al) (hd : decode cc pc = .ok (.putfield idx, 3)) (hf0 : ax_fp own idx ci k ty) (h7 : ax_tk tc ty) : ax_v own cc nL G (ax_pf al pc ci k tc) := by
  obtain ⟨⟨p, l0, e, R, s, m, args⟩, ⟨below, meth, c⟩, ⟨Q, A⟩, ⟨D0, cA0, ad0, al0, θ0⟩⟩ := G
  have hal : al0 = al := hal
  subst hal
  exact ax_v_pf hd hf0 h7
theorem ax_w_iald {own : String} {cc : ByteArray} {nL : Nat} {G : ax_G} {al : List (Nat × Nat)} {pc : Nat} (hal : ax_al G = al) (hd : decode cc pc = .ok (.iaload, 1)) : ax_v own cc nL G (ax_ai al pc 1) := by
  obtain ⟨⟨p, l0, e, R, s, m, args⟩, ⟨below, meth, c⟩, ⟨Q, A⟩, ⟨D0, cA0, ad0, al0, θ0⟩⟩ := G
  have hal : al0 = al := hal
  subst hal
  exact ax_v_iald hd
theorem ax_w_cald {own : String} {cc : ByteArray} {nL : Nat} {G : ax_G} {al : List (Nat × Nat)} {pc : Nat} (hal : ax_al G = al) (hd : decode cc pc = .ok (.caload, 1)) : ax_v own cc nL G (ax_ai al pc 2) := by
  obtain ⟨⟨p, l0, e, R, s, m, args⟩, ⟨below, meth, c⟩, ⟨Q, A⟩, ⟨D0, cA0, ad0, al0, θ0⟩⟩ := G
  have hal : al0 = al := hal
  subst hal
  exact ax_v_cald hd
theorem ax_w_zald {own : String} {cc : ByteArray} {nL : Nat} {G : ax_G} {al : List (Nat × Nat)} {pc : Nat} (hal : ax_al G = al) (hd : decode cc pc = .ok (.baload, 1)) : ax_v own cc nL G (ax_ai al pc 4) := by
  obtain ⟨⟨p, l0, e, R, s, m, args⟩, ⟨below, meth, c⟩, ⟨Q, A⟩, ⟨D0, cA0, ad0, al0, θ0⟩⟩ := G
  have hal : al0 = al := hal
  subst hal
  exact ax_v_zald hd
theorem ax_w_lald {own : String} {cc : ByteArray} {nL : Nat} {G : ax_G} {al : List (Nat × Nat)} {pc : Nat} (hal : ax_al G = al) (hd : decode cc pc = .ok (.laload, 1)) : ax_v own cc nL G (ax_aL al pc) := by
  obtain ⟨⟨p, l0, e, R, s, m, args⟩, ⟨below, meth, c⟩, ⟨Q, A⟩, ⟨D0, cA0, ad0, al0, θ0⟩⟩ := G
  have hal : al0 = al := hal
  subst hal
  exact ax_v_lald hd
theorem ax_w_iast {own : String} {cc : ByteArray} {nL : Nat} {G : ax_G} {al : List (Nat × Nat)} {pc : Nat} (hal : ax_al G = al) (hd : decode cc pc = .ok (.iastore, 1)) : ax_v own cc nL G (ax_si al pc 1 (fun z => z)) := by
  obtain ⟨⟨p, l0, e, R, s, m, args⟩, ⟨below, meth, c⟩, ⟨Q, A⟩, ⟨D0, cA0, ad0, al0, θ0⟩⟩ := G
  have hal : al0 = al := hal
  subst hal
  exact ax_v_iast hd
theorem ax_w_cast {own : String} {cc : ByteArray} {nL : Nat} {G : ax_G} {al : List (Nat × Nat)} {pc : Nat} (hal : ax_al G = al) (hd : decode cc pc = .ok (.castore, 1)) : ax_v own cc nL G (ax_si al pc 2 (vp_nar .char)) := by
  obtain ⟨⟨p, l0, e, R, s, m, args⟩, ⟨below, meth, c⟩, ⟨Q, A⟩, ⟨D0, cA0, ad0, al0, θ0⟩⟩ := G
  have hal : al0 = al := hal
  subst hal
  exact ax_v_cast hd
theorem ax_w_zast {own : String} {cc : ByteArray} {nL : Nat} {G : ax_G} {al : List (Nat × Nat)} {pc : Nat} (hal : ax_al G = al) (hd : decode cc pc = .ok (.bastore, 1)) : ax_v own cc nL G (ax_si al pc 4 (vp_nar .boolean)) := by
  obtain ⟨⟨p, l0, e, R, s, m, args⟩, ⟨below, meth, c⟩, ⟨Q, A⟩, ⟨D0, cA0, ad0, al0, θ0⟩⟩ := G
  have hal : al0 = al := hal
  subst hal
  exact ax_v_zast hd
theorem ax_w_last {own : String} {cc : ByteArray} {nL : Nat} {G : ax_G} {al : List (Nat × Nat)} {pc : Nat} (hal : ax_al G = al) (hd : decode cc pc = .ok (.lastore, 1)) : ax_v own cc nL G (ax_sL al pc) := by
  obtain ⟨⟨p, l0, e, R, s, m, args⟩, ⟨below, meth, c⟩, ⟨Q, A⟩, ⟨D0, cA0, ad0, al0, θ0⟩⟩ := G
  have hal : al0 = al := hal
  subst hal
  exact ax_v_last hd
theorem ax_v_ldc {own : String} {cc : ByteArray} {nL : Nat} {G : ax_G} {pc idx : Nat} {v : Int32} (hd : decode cc pc = .ok (.ldc idx, 2)) (hw : Cond.constant own idx v ∈ ax_tbl) : ax_v own cc nL G (ax_pu pc 2 (ax_s_k (.int v))) := by
  obtain ⟨⟨p, l, e, R, s, m, args⟩, ⟨below, meth, c⟩, ⟨Q, A⟩, ⟨D, cA, ad, al, θ⟩⟩ := G
  intro hK x y P cells slots hf _ k
  obtain ⟨q, L, st, μ⟩ := x
  obtain ⟨hx, hb, hown, -, -, hts, -⟩ := hK
  unfold ax_pu at hf
  cases hq : Nat.beq q pc with
  | false => simp only [hq, cond_false] at hf; cases hf
  | true =>
    simp only [hq, cond_true] at hf
    have hq' : q = pc := Nat.eq_of_beq_eq_true hq
    subst hq'
    cases hf
    intro H locs ls hP hD hS hl
    exact lv_ldc hx hb hown (hts _ hw) hd (k H locs ls hP hD hS hl)
theorem ax_v_ldc2 {own : String} {cc : ByteArray} {nL : Nat} {G : ax_G} {pc idx : Nat} {v : Int64} (hd : decode cc pc = .ok (.ldc2_w idx, 3)) (hw : Cond.constantLong own idx v ∈ ax_tbl) : ax_v own cc nL G (ax_pu pc 3 (ax_s_k (.long v))) := by
  obtain ⟨⟨p, l, e, R, s, m, args⟩, ⟨below, meth, c⟩, ⟨Q, A⟩, ⟨D, cA, ad, al, θ⟩⟩ := G
  intro hK x y P cells slots hf _ k
  obtain ⟨q, L, st, μ⟩ := x
  obtain ⟨hx, hb, hown, -, -, hts, -⟩ := hK
  unfold ax_pu at hf
  cases hq : Nat.beq q pc with
  | false => simp only [hq, cond_false] at hf; cases hf
  | true =>
    simp only [hq, cond_true] at hf
    have hq' : q = pc := Nat.eq_of_beq_eq_true hq
    subst hq'
    cases hf
    intro H locs ls hP hD hS hl
    exact lv_ldc2 hx hb hown (hts _ hw) hd (k H locs ls hP hD hS hl)
/-- the cells that are always there, those of a program, where the reader and the machine look -/
def ax_mn (r : Nat) : Bool := Nat.ble 23 r && Nat.blt r 82
def ax_M0 (al : List (Nat × Nat)) : Prop := ∀ r : Nat, ax_mn r = true → (0, r) ∈ al
def ax_Mg (al : List (Nat × Nat)) (g : Nat) : Prop := ∀ r : Nat, Nat.blt r 23 = true → (g, r) ∈ al
def ax_rd (ρ : ax_ρ) (g : Nat) : Prop := ρ 0 25 4 = some (g, 0) ∧ ρ 0 25 5 = some (g, 4) ∧ ρ 0 25 6 = some (g, 13)
def ax_md (ρ : ax_ρ) (g : Nat) : Prop := ρ 0 32 4 = some (g, 0) ∧ ρ 0 32 5 = some (g, 4) ∧ ρ 0 32 6 = some (g, 13)
def ax_let {α β : Type} (x : α) (f : α → β) : β := f x
theorem ax_lt {α β : Type} {T : α} {f : α → Option β} {y : β} {Q : α → Prop} (h : ax_let T f = some y) (k : ∀ s, f s = some y → Q s) : Q T := k T h
/-- what a walk inside a method knows -/
def ax_B (D : va_G) (cA : Nat → ClassId) (ad : Nat → Nat → Nat) (al : List (Nat × Nat)) (θ : ax_Θ) (l : Launch) (own : String) (cc : ByteArray) (nL d : Nat) (G : ax_G) : Prop := match G with
  | ((_, l0, _, R, _, _, _), _, _, (D0, cA0, ad0, al0, θ0)) => ax_K own cc nL G ∧ R = ax_rm d ∧ l0 = l ∧ D0 = D ∧ cA0 = cA ∧ ad0 = ad ∧ al0 = al ∧ θ0 = θ
section
variable {D : va_G} {cA : Nat → ClassId} {ad : Nat → Nat → Nat} {al : List (Nat × Nat)} {θ : ax_Θ} {l : Launch} {own : String} {cc cy : ByteArray} {nL d pc idx n nLy dy : Nat} {ret ry : Option FieldType} {y : MethodName} {rv0 rv : Option ax_V} {μ0 μ μ' : ax_M} {G : ax_G} {av rest st : List ax_V} {L : List (Nat × ax_V)}
theorem ax_At.B (h : ax_At D cA ad al θ l own cc nL d ret rv0 μ0 G) : ax_B D cA ad al θ l own cc nL d G := by
  obtain ⟨⟨p, l0, e, R, s, m, args⟩, ⟨below, meth, c⟩, ⟨Q, A⟩, ⟨D0, cA0, ad0, al0, θ0⟩⟩ := G
  exact ⟨h.1, h.2.1, h.2.2.1, h.2.2.2.1, h.2.2.2.2.1, h.2.2.2.2.2.1, h.2.2.2.2.2.2.1, h.2.2.2.2.2.2.2.1⟩
theorem ax_B.K (h : ax_B D cA ad al θ l own cc nL d G) : ax_K own cc nL G := by
  obtain ⟨⟨p, l0, e, R, s, m, args⟩, ⟨below, meth, c⟩, ⟨Q, A⟩, ⟨D0, cA0, ad0, al0, θ0⟩⟩ := G
  exact h.1
theorem ax_B.la (h : ax_B D cA ad al θ l own cc nL d G) : ax_al G = al := by
  obtain ⟨⟨p, l0, e, R, s, m, args⟩, ⟨below, meth, c⟩, ⟨Q, A⟩, ⟨D0, cA0, ad0, al0, θ0⟩⟩ := G
  exact h.2.2.2.2.2.2.1
theorem ax_bS (h : ax_B D cA ad al θ l own cc nL d G) (hT : ax_T l D cA ad al θ y (.code y cy nLy ry) dy av μ rv μ') (hw : ax_cw own idx y (.code y cy nLy ry) n) (hs : Cond.static y ∈ ax_tbl) (hd : decode cc pc = .ok (.invokestatic idx, 3)) (hdd : dy + 1 ≤ d) (hnl : nLy ≤ 45) (hn : av.length = n) (hst : st = av.reverse ++ rest) (hrs : (rest.map ax_cat).sum ≤ 8) (kk : ax_R G nL 0 0 (pc + 3, L, rv.toList ++ rest, μ')) : ax_R G nL 0 0 (pc, L, st, μ) := by
  obtain ⟨⟨p, l0, e, R, s, m, args⟩, ⟨below, meth, c⟩, ⟨Q, A⟩, ⟨D0, cA0, ad0, al0, θ0⟩⟩ := G
  obtain ⟨hK, hR, rfl, rfl, rfl, rfl, rfl, rfl⟩ := h
  exact ax_callS hK hR hT hw hs hd hdd hnl hn hst hrs (Nat.zero_le _) (Nat.zero_le _) kk
theorem ax_bV {g r ci : Nat} {fk : List Nat} {T0 : u_T} {N0 : Nat} (h : ax_B D cA ad al θ l own cc nL d G) (hT : ax_T l D cA ad al θ y (.code y cy nLy ry) dy (.inr (g, r) :: av) μ rv μ') (hw : ax_cw own idx y (.code y cy nLy ry) n) (hi : Cond.instanceMethod y ∈ ax_tbl) (hse : Cond.selects y.cls y y ∈ ax_tbl) (hd : decode cc pc = .ok (.invokevirtual idx, 3)) (hm : (g, r) ∈ al) (hly : ax_ly r = (0, ci, fk)) (hci : ax_cl[ci]? = some (y.cls, T0, N0)) (hdd : dy + 1 ≤ d) (hnl : nLy ≤ 45) (hn : av.length = n) (hst : st = av.reverse ++ .inr (g, r) :: rest) (hrs : (rest.map ax_cat).sum ≤ 8) (kk : ax_R G nL 0 0 (pc + 3, L, rv.toList ++ rest, μ')) : ax_R G nL 0 0 (pc, L, st, μ) := by
  obtain ⟨⟨p, l0, e, R, s, m, args⟩, ⟨below, meth, c⟩, ⟨Q, A⟩, ⟨D0, cA0, ad0, al0, θ0⟩⟩ := G
  obtain ⟨hK, hR, rfl, rfl, rfl, rfl, rfl, rfl⟩ := h
  exact ax_callV hK hR hT hw hi hse hd hm hly hci hdd hnl hn hst hrs (Nat.zero_le _) (Nat.zero_le _) kk
theorem ax_fc {f : ax_F} {r : List ax_F} (h : ax_v own cc nL G f) (hr : ∀ x ∈ r, ax_v own cc nL G x) : ∀ x ∈ f :: r, ax_v own cc nL G x := List.forall_mem_cons.mpr ⟨h, hr⟩
theorem ax_fn : ∀ x ∈ ([] : List ax_F), ax_v own cc nL G x := fun _ h => absurd h List.not_mem_nil
theorem ax_bk {fs : List ax_F} {x y : ax_S} {P : Prop} {cells slots : Nat} (hK : ax_K own cc nL G) (hv : ∀ f ∈ fs, ax_v own cc nL G f) (h : ax_run fs x = some (y, P)) (hP : P) (kk : ax_R G nL cells slots y) : ax_R G nL cells slots x := ax_run_v hK fs hv x y P cells slots h hP kk
end
theorem ax_it {α : Type} {c : Prop} [Decidable c] {a b : Option α} {y : α} (hc : c) (h : (if c then a else b) = some y) : a = some y := (if_pos hc).symm.trans h
theorem ax_if {α : Type} {c : Prop} [Decidable c] {a b : Option α} {y : α} (hc : ¬ c) (h : (if c then a else b) = some y) : b = some y := (if_neg hc).symm.trans h
theorem ax_ct {α : Type} {a b : Option α} {y : α} (h : (bif true then a else b) = some y) : a = some y := h
theorem ax_cf {α : Type} {a b : Option α} {y : α} (h : (bif false then a else b) = some y) : b = some y := h
theorem ax_rd3 {ρ : ax_ρ} {g : Nat} : ax_rd (ax_uR (ax_uR (ax_uR ρ 0 25 4 (some (g, 0))) 0 25 5 (some (g, 4))) 0 25 6 (some (g, 13))) g := ⟨by simp [ax_uR], by simp [ax_uR], by simp [ax_uR]⟩
theorem ax_md3 {ρ : ax_ρ} {g : Nat} : ax_md (ax_uR (ax_uR (ax_uR ρ 0 32 4 (some (g, 0))) 0 32 5 (some (g, 4))) 0 32 6 (some (g, 13))) g := ⟨by simp [ax_uR], by simp [ax_uR], by simp [ax_uR]⟩
/-- getstatic of a static that holds a reference or null -/
theorem ax_gq {own : String} {cc : ByteArray} {nL cells slots pc idx : Nat} {G : ax_G} {L : List (Nat × ax_V)} {st : List ax_V} {μ : ax_M} (hK : ax_K own cc nL G) (hd : decode cc pc = .ok (.getstatic idx, 3)) (hl0 : Cond.fieldLink own idx "jdk/internal/util/Preconditions" "SIOOBE_FORMATTER" "Ljava/util/function/BiFunction;" ∈ ax_tbl) (k1 : ax_R G nL cells slots (pc + 3, L, .inl .null :: st, μ)) (k2 : ∀ t : Nat, ax_R G nL cells slots (pc + 3, L, .inl (.ref t) :: st, μ)) : ax_R G nL cells slots (pc, L, st, μ) := by
  obtain ⟨⟨p, l, e, R, s, m, args⟩, ⟨below, meth, c⟩, ⟨Q, A⟩, ⟨D, cA, ad, al, θ⟩⟩ := G
  obtain ⟨hx, hb, hown, -, -, hts, -, -, hZ⟩ := hK
  intro H locs ls hP hD hS hl
  rcases hZ.2.2.2.2.2.1 with hq | ⟨t, hq⟩
  · exact va_gets hx hb hq hS hown (hts _ hl0) (fun _ h => h) hd (k1 H locs ls hP hD hS hl)
  · exact va_gets hx hb hq hS hown (hts _ hl0) (fun _ h => h) hd (k2 t H locs ls hP hD hS hl)
