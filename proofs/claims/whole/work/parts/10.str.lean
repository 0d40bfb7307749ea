/-! STEPS ON THE STRING CONSTANTS -/
def ax_th (G : ax_G) : ax_Θ := G.2.2.2.2.2.2.2
theorem ax_B.ht {D : va_G} {cA : Nat → ClassId} {ad : Nat → Nat → Nat} {al : List (Nat × Nat)} {θ : ax_Θ} {l : Launch} {own : String} {cc : ByteArray} {nL d : Nat} {G : ax_G} (h : ax_B D cA ad al θ l own cc nL d G) : ax_th G = θ := by
  obtain ⟨⟨p, l0, e, R, s, m, args⟩, ⟨below, meth, c⟩, ⟨Q, A⟩, ⟨D0, cA0, ad0, al0, θ0⟩⟩ := G
  exact h.2.2.2.2.2.2.2
def ax_kv (θ : ax_Θ) (pc k : Nat) : ax_F := fun x => bif Nat.beq x.1 pc then (match x.2.2.1 with
  | .inl (.ref a) :: st => some ((pc + 3, x.2.1, .inl (.ref (θ.2.1 k)) :: st, x.2.2.2), a = θ.1 k ∧ k < 2)
  | _ => none) else none
def ax_kc (θ : ax_Θ) (pc k : Nat) : ax_F := fun x => bif Nat.beq x.1 pc then (match x.2.2.1 with
  | .inl (.ref a) :: st => some ((pc + 3, x.2.1, .inl (.int 0) :: st, x.2.2.2), a = θ.1 k ∧ k < 2)
  | _ => none) else none
def ax_kl (θ : ax_Θ) (pc k : Nat) : ax_F := fun x => bif Nat.beq x.1 pc then (match x.2.2.1 with
  | .inl (.ref a) :: st => some ((pc + 1, x.2.1, .inl (.int (Int32.ofNat (ax_len.getD k 0))) :: st, x.2.2.2), a = θ.2.1 k ∧ k < 2)
  | _ => none) else none
def ax_kb (θ : ax_Θ) (pc k : Nat) : ax_F := fun x => bif Nat.beq x.1 pc then (match x.2.2.1 with
  | .inl (.int i) :: .inl (.ref a) :: st => some ((pc + 1, x.2.1, .inl (.int ((ax_byt.getD k []).getD i.toNatClampNeg 0)) :: st, x.2.2.2), a = θ.2.1 k ∧ k < 2 ∧ vp_in i (ax_len.getD k 0))
  | _ => none) else none
section
variable {own : String} {cc : ByteArray} {nL : Nat} {G : ax_G} {θ : ax_Θ} {pc k idx : Nat}
theorem ax_w_kv (hθ : ax_th G = θ) (hd : decode cc pc = .ok (.getfield idx, 3)) (hl0 : Cond.fieldLink own idx "java/lang/String" "value" "[B" ∈ ax_tbl) : ax_v own cc nL G (ax_kv θ pc k) := by
  obtain ⟨⟨p, l, e, R, s, m, args⟩, ⟨below, meth, c⟩, ⟨Q, A⟩, ⟨D, cA, ad, al, θ0⟩⟩ := G
  have hθ : θ0 = θ := hθ
  subst hθ
  intro hK x y P cells slots hf hP0 kk
  obtain ⟨q, L, st, μ⟩ := x
  obtain ⟨hx, hb, hown, -, -, hts, -, -, hZ⟩ := hK
  unfold ax_kv at hf
  cases hq : Nat.beq q pc with
  | false => simp only [hq, cond_false] at hf; cases hf
  | true =>
    simp only [hq, cond_true] at hf
    have hq' : q = pc := Nat.eq_of_beq_eq_true hq
    subst hq'
    match st, hf with
    | .inl (.ref a) :: st', hf =>
      cases hf
      obtain ⟨rfl, hk⟩ := hP0
      intro H locs ls hP hD hS hl
      exact vk_getf hx hb (hZ.1.1 k hk).2.2.1 hS hown (hts _ hl0) (fun _ h => h) hd (kk H locs ls hP hD hS hl)
theorem ax_w_kc (hθ : ax_th G = θ) (hd : decode cc pc = .ok (.getfield idx, 3)) (hl0 : Cond.fieldLink own idx "java/lang/String" "coder" "B" ∈ ax_tbl) : ax_v own cc nL G (ax_kc θ pc k) := by
  obtain ⟨⟨p, l, e, R, s, m, args⟩, ⟨below, meth, c⟩, ⟨Q, A⟩, ⟨D, cA, ad, al, θ0⟩⟩ := G
  have hθ : θ0 = θ := hθ
  subst hθ
  intro hK x y P cells slots hf hP0 kk
  obtain ⟨q, L, st, μ⟩ := x
  obtain ⟨hx, hb, hown, -, -, hts, -, -, hZ⟩ := hK
  unfold ax_kc at hf
  cases hq : Nat.beq q pc with
  | false => simp only [hq, cond_false] at hf; cases hf
  | true =>
    simp only [hq, cond_true] at hf
    have hq' : q = pc := Nat.eq_of_beq_eq_true hq
    subst hq'
    match st, hf with
    | .inl (.ref a) :: st', hf =>
      cases hf
      obtain ⟨rfl, hk⟩ := hP0
      intro H locs ls hP hD hS hl
      exact vk_getf hx hb (hZ.1.1 k hk).2.1 hS hown (hts _ hl0) (fun _ h => h) hd (kk H locs ls hP hD hS hl)
theorem ax_w_kl (hθ : ax_th G = θ) (hd : decode cc pc = .ok (.arraylength, 1)) : ax_v own cc nL G (ax_kl θ pc k) := by
  obtain ⟨⟨p, l, e, R, s, m, args⟩, ⟨below, meth, c⟩, ⟨Q, A⟩, ⟨D, cA, ad, al, θ0⟩⟩ := G
  have hθ : θ0 = θ := hθ
  subst hθ
  intro hK x y P cells slots hf hP0 kk
  obtain ⟨q, L, st, μ⟩ := x
  obtain ⟨hx, hb, hown, -, -, hts, -, -, hZ⟩ := hK
  unfold ax_kl at hf
  cases hq : Nat.beq q pc with
  | false => simp only [hq, cond_false] at hf; cases hf
  | true =>
    simp only [hq, cond_true] at hf
    have hq' : q = pc := Nat.eq_of_beq_eq_true hq
    subst hq'
    match st, hf with
    | .inl (.ref a) :: st', hf =>
      cases hf
      obtain ⟨rfl, hk⟩ := hP0
      intro H locs ls hP hD hS hl
      exact va_tlen hx hb (hZ.1.1 k hk).2.2.2 hS rfl hd (kk H locs ls hP hD hS hl)
theorem ax_w_kb (hθ : ax_th G = θ) (hd : decode cc pc = .ok (.baload, 1)) : ax_v own cc nL G (ax_kb θ pc k) := by
  obtain ⟨⟨p, l, e, R, s, m, args⟩, ⟨below, meth, c⟩, ⟨Q, A⟩, ⟨D, cA, ad, al, θ0⟩⟩ := G
  have hθ : θ0 = θ := hθ
  subst hθ
  intro hK x y P cells slots hf hP0 kk
  obtain ⟨q, L, st, μ⟩ := x
  obtain ⟨hx, hb, hown, -, -, hts, -, -, hZ⟩ := hK
  unfold ax_kb at hf
  cases hq : Nat.beq q pc with
  | false => simp only [hq, cond_false] at hf; cases hf
  | true =>
    simp only [hq, cond_true] at hf
    have hq' : q = pc := Nat.eq_of_beq_eq_true hq
    subst hq'
    match st, hf with
    | .inl (.int i) :: .inl (.ref a) :: st', hf =>
      cases hf
      obtain ⟨rfl, hk, hin⟩ := hP0
      intro H locs ls hP hD hS hl
      exact va_tb hx hb (hZ.1.1 k hk).2.2.2 hS hin rfl hd (kk H locs ls hP hD hS hl)
/-- getstatic COMPACT_STRINGS -/
theorem ax_w_cs (hd : decode cc pc = .ok (.getstatic idx, 3)) (hl0 : Cond.fieldLink own idx "java/lang/String" "COMPACT_STRINGS" "Z" ∈ ax_tbl) : ax_v own cc nL G (ax_pu pc 3 (ax_s_k (.int 1))) := by
  obtain ⟨⟨p, l, e, R, s, m, args⟩, ⟨below, meth, c⟩, ⟨Q, A⟩, ⟨D, cA, ad, al, θ⟩⟩ := G
  intro hK x y P cells slots hf _ k
  obtain ⟨q, L, st, μ⟩ := x
  obtain ⟨hx, hb, hown, -, -, hts, -, -, hZ⟩ := hK
  unfold ax_pu at hf
  cases hq : Nat.beq q pc with
  | false => simp only [hq, cond_false] at hf; cases hf
  | true =>
    simp only [hq, cond_true] at hf
    have hq' : q = pc := Nat.eq_of_beq_eq_true hq
    subst hq'
    cases hf
    intro H locs ls hP hD hS hl
    exact va_gets hx hb hZ.2.1 hS hown (hts _ hl0) (fun _ h => h) hd (k H locs ls hP hD hS hl)
/-- ldc of a String constant -/
theorem ax_w_ks {tx : String} {a : Nat} (hR : ∀ (A : Nat → Prop) (U : State) (H : Heap), ax_Z (ax_th G) A U H → vk_R own idx tx a U) (hd : decode cc pc = .ok (.ldc idx, 2)) : ax_v own cc nL G (ax_pu pc 2 (ax_s_k (.ref a))) := by
  obtain ⟨⟨p, l, e, R, s, m, args⟩, ⟨below, meth, c⟩, ⟨Q, A⟩, ⟨D, cA, ad, al, θ⟩⟩ := G
  intro hK x y P cells slots hf _ k
  obtain ⟨q, L, st, μ⟩ := x
  obtain ⟨hx, hb, hown, -, -, hts, -, -, hZ⟩ := hK
  unfold ax_pu at hf
  cases hq : Nat.beq q pc with
  | false => simp only [hq, cond_false] at hf; cases hf
  | true =>
    simp only [hq, cond_true] at hf
    have hq' : q = pc := Nat.eq_of_beq_eq_true hq
    subst hq'
    cases hf
    intro H locs ls hP hD hS hl
    exact va_ldcS hx hb hown (hR A s s.heap hZ) hd (k H locs ls hP hD hS hl)
end
/-- invokevirtual on a String constant -/
theorem ax_bK {D : va_G} {cA : Nat → ClassId} {ad : Nat → Nat → Nat} {al : List (Nat × Nat)} {θ : ax_Θ} {l : Launch} {own : String} {cc cy : ByteArray} {nL d pc idx n nLy dy k : Nat} {ry : Option FieldType} {y : MethodName} {rv : Option ax_V} {μ μ' : ax_M} {G : ax_G} {av rest st : List ax_V} {L : List (Nat × ax_V)} (h : ax_B D cA ad al θ l own cc nL d G) (hT : ax_T l D cA ad al θ y (.code y cy nLy ry) dy (.inl (.ref (θ.1 k)) :: av) μ rv μ') (hw : ax_cw own idx y (.code y cy nLy ry) n) (hi : Cond.instanceMethod y ∈ ax_tbl) (hse : Cond.selects y.cls y y ∈ ax_tbl) (hd : decode cc pc = .ok (.invokevirtual idx, 3)) (hk : k < 2) (hyc : y.cls = "java/lang/String") (hdd : dy + 1 ≤ d) (hnl : nLy ≤ 45) (hn : av.length = n) (hst : st = av.reverse ++ .inl (.ref (θ.1 k)) :: rest) (hrs : (rest.map ax_cat).sum ≤ 8) (kk : ax_R G nL 0 0 (pc + 3, L, rv.toList ++ rest, μ')) : ax_R G nL 0 0 (pc, L, st, μ) := by
  obtain ⟨⟨p, l0, e, R, s, m, args⟩, ⟨below, meth, c⟩, ⟨Q, A⟩, ⟨D0, cA0, ad0, al0, θ0⟩⟩ := G
  obtain ⟨hK, hR, rfl, rfl, rfl, rfl, rfl, rfl⟩ := h
  intro H locs ls hP hD hS hl
  obtain ⟨hx, hb, hown, hml, -, hts, hKK, hA, hZ⟩ := hK
  obtain ⟨w1, w2, w3, w4, w5⟩ := hw
  subst hst
  refine ax_end (a := (Value.ref (θ0.1 k) :: av.map (ax_cv ad0)).toArray) hA hD hS hl (va_runV (As := av.map (ax_cv ad0)) (n := n) (C := y.cls) (b := θ0.1 k) ⟨hx, hb, hml, hown, hts⟩ (hT H.size) (cwV n hts (Ts := ax_tbl) ?_ rfl rfl rfl ⟨rfl, w4.1, w4.2, w5⟩ ?_) ⟨ax_blind, by rw [hyc]; exact vk_recv hZ.1 hk hS, fun U hU hW => ⟨rfl, by rw [hU], by rw [hU]; exact hP, va_K.moved hW.alike hKK, hD.weaken (fun _ _ _ _ => trivial), ((hZ.kept (fun q h1 h2 => hS.2.1 q h1 h2)).narrow (ax_sub hA hD hS)).warm hW |> ax_Zh hU⟩⟩ rfl (by simp [hn]) hl.1 (by simp [ax_cv]) ?_ hd ⟨Nat.zero_le _, Nat.zero_le _⟩) kk
  · intro x hx'
    unfold wsV at hx'
    rcases List.mem_append.mp hx' with h | h
    · have hxm : x ∈ ax_tbl := by
        simp only [List.mem_cons, List.not_mem_nil, or_false] at h
        rcases h with rfl | rfl | rfl | rfl
        · exact w1
        · exact hi
        · exact hse
        · exact w2
      exact ⟨hxm, good_of_word (List.all_eq_true.mp ax_good x hxm)⟩
    · exact ax_goodIn w3 x h
  · rw [hR]; simp only [ax_rm]; omega
  · refine lv_room ?_
    rw [List.map_map]
    have : (rest.map ((fun v => v.category) ∘ ax_cv ad0)) = rest.map ax_cat := List.map_congr_left (fun v _ => ax_cat_cv ad0 v)
    rw [this]; exact hrs
def ax_s_i2b : List ax_V → Option (List ax_V)
  | .inl (.int x) :: r => some (.inl (.int x.toInt8.toInt32) :: r)
  | _ => none
theorem ax_r_i2b {cc : ByteArray} {pc : Nat} (hd : decode cc pc = .ok (.i2b, 1)) : ax_okp cc pc 1 ax_s_i2b := by
  intro p l e R s m args below meth c H locs cells slots Q ls ad st st' hx hb h k
  unfold ax_s_i2b at h
  split at h
  · cases h; exact lv_i2b hx hb hd rfl k
  · cases h
def ax_nr (ty : FieldType) (v : Int32) : Bool := decide (narrow ty (.int v) = .int v)
theorem ax_nrp {ty : FieldType} {v : Int32} (h : ax_nr ty v = true) : narrow ty (.int v) = .int v := of_decide_eq_true h
/-- the contract of a member of the JDK out of a walk of the body -/
theorem ax_T_ofF {l : Launch} {D : va_G} {cA : Nat → ClassId} {ad : Nat → Nat → Nat} {al : List (Nat × Nat)} {θ : ax_Θ} {y : MethodName} {own : String} {cc : ByteArray} {nL d : Nat} {ret : Option FieldType} {av : List ax_V} {μ : ax_M} {rv : Option ax_V} {μ' : ax_M} (hy : plainFor y = true) (hown : y.cls = own) (hn : (lg_sl (av.map (fun v => ax_cv ad v))).length ≤ nL) (L : List (Nat × ax_V)) (hL : ax_L ad L = lv_args 0 (av.map (ax_cv ad)))
    (body : ∀ G : ax_G, ax_At D cA ad al θ l own cc nL d ret rv μ' G → ax_R G nL 0 0 (0, L, [], μ)) : ax_T l D cA ad al θ y (.code y cc nL ret) d av μ rv μ' := by
  intro sz
  refine va_MetF (cc := cc) (maxL := nL) (ret := ret) hy rfl ?_
  intro p e s m args below meth c s₁ B hml hv
  obtain ⟨rfl, hsz, hP, hK, hD0, hZ⟩ := hv
  have hts := atoms_spec (ws := .code y cc nL ret :: ax_tbl) B.pre
  have hfc : s.vm.findClass own = some m.cls := by rw [← hown]; exact findClass_of_methodNamed B.named
  subst hsz
  have hl := lv_entry (av.map (ax_cv ad)) (n := nL) hn
  rw [lg_entry_eq]
  generalize (lg_sl (av.map (ax_cv ad)) ++ List.replicate (nL - (lg_sl (av.map (ax_cv ad))).length) Slot.unset).toArray = ls at hl ⊢
  rw [← hL] at hl
  exact body ((p, l, e, ax_rm d, s, m, (av.map (ax_cv ad)).toArray), (below, meth, c), (MQ below (ax_Qc D cA ad al rv μ' s.heap.size) (av.map (ax_cv ad)).toArray s 0 0 (ax_A ad al s.heap.size), ax_A ad al s.heap.size), (D, cA, ad, al, θ))
    ⟨⟨B.exec, B.bytes, hfc, hml, B.notSynchronized, fun w hw => hts w (List.mem_cons_of_mem _ hw), hK, fun q h => Or.inr h, hZ⟩, rfl, rfl, rfl, rfl, rfl, rfl, rfl, B.returns, rfl, rfl⟩ s.heap [] ls hP (ax_D_of hD0) va_S.rf hl
