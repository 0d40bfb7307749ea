/-! THE ROADS THAT THROW -/
section
variable {D : va_G} {cA : Nat → ClassId} {ad : Nat → Nat → Nat} {al : List (Nat × Nat)} {θ : ax_Θ} {l : Launch} {own : String} {cc cy : ByteArray} {nL d pc idx n nLy dy : Nat} {ry : Option FieldType} {y : MethodName} {rv : Option ax_V} {cls : String} {μ0 μ μ' : ax_M} {G : ax_G} {av rest st : List ax_V} {L : List (Nat × ax_V)}
theorem ax_Ax.K (h : ax_Ax D cA ad al θ l own cc nL d cls μ G) : ax_K own cc nL G := by
  obtain ⟨⟨p, l0, e, R, s, m, args⟩, ⟨below, meth, c⟩, ⟨Q, A⟩, ⟨D0, cA0, ad0, al0, θ0⟩⟩ := G
  exact h.1
theorem ax_Ax.la (h : ax_Ax D cA ad al θ l own cc nL d cls μ G) : ax_al G = al := by
  obtain ⟨⟨p, l0, e, R, s, m, args⟩, ⟨below, meth, c⟩, ⟨Q, A⟩, ⟨D0, cA0, ad0, al0, θ0⟩⟩ := G
  exact h.2.2.2.2.2.2.1
end
/-- a call that comes back, whatever the room -/
theorem ax_gV {own : String} {cc cy : ByteArray} {nL cells slots pc idx n nLy dy g r ci : Nat} {fk : List Nat} {ry : Option FieldType} {y : MethodName} {p : Program} {l : Launch} {e : Env} {R : Room} {s : State} {m : MethodId} {args : Array Value} {below : List Frame} {meth : Method} {c : Code} {Q : State → Prop} {A : Nat → Prop} {D : va_G} {cA : Nat → ClassId} {ad : Nat → Nat → Nat} {al : List (Nat × Nat)} {θ : ax_Θ} {av rest st : List ax_V} {rv : Option ax_V} {μ μ' : ax_M} {L : List (Nat × ax_V)} {T0 : u_T} {N0 : Nat}
    (hK : ax_K own cc nL ((p, l, e, R, s, m, args), (below, meth, c), (Q, A), (D, cA, ad, al, θ))) (hfr : dy + 1 ≤ R.frames) (hlo : 64 + 64 * dy ≤ R.locals) (hT : ax_T l D cA ad al θ y (.code y cy nLy ry) dy (.inr (g, r) :: av) μ rv μ') (hw : ax_cw own idx y (.code y cy nLy ry) n) (hi : Cond.instanceMethod y ∈ ax_tbl) (hse : Cond.selects y.cls y y ∈ ax_tbl) (hd : decode cc pc = .ok (.invokevirtual idx, 3)) (hm : (g, r) ∈ al) (hly : ax_ly r = (0, ci, fk)) (hci : ax_cl[ci]? = some (y.cls, T0, N0)) (hnl : nLy ≤ 45) (hn : av.length = n) (hst : st = av.reverse ++ .inr (g, r) :: rest) (hrs : (rest.map ax_cat).sum ≤ 8) (hc0 : cells ≤ R.cells) (hs0 : slots ≤ R.slots)
    (kk : ax_R ((p, l, e, R, s, m, args), (below, meth, c), (Q, A), (D, cA, ad, al, θ)) nL cells slots (pc + 3, L, rv.toList ++ rest, μ')) : ax_R ((p, l, e, R, s, m, args), (below, meth, c), (Q, A), (D, cA, ad, al, θ)) nL cells slots (pc, L, st, μ) := by
  intro H locs ls hP hD hS hl
  obtain ⟨hx, hb, hown, hml, -, hts, hKK, hA, hZ⟩ := hK
  obtain ⟨w1, w2, w3, w4, w5⟩ := hw
  subst hst
  obtain ⟨q0, h0, h1⟩ := ax_at (cA := cA) (ad := ad) hm
  have he := h1 μ
  rw [ax_cell_obj hly] at he
  refine ax_end (a := (Value.ref (ad g r) :: av.map (ax_cv ad)).toArray) hA hD hS hl (va_runV (As := av.map (ax_cv ad)) (n := n) (C := y.cls) (b := ad g r) ⟨hx, hb, hml, hown, hts⟩ (hT H.size) (cwV n hts (Ts := ax_tbl) ?_ rfl rfl rfl ⟨rfl, w4.1, w4.2, w5⟩ ?_) ⟨ax_blind, va_recv hKK hP hci he, fun U hU hW => ⟨rfl, by rw [hU], by rw [hU]; exact hP, va_K.moved hW.alike hKK, hD.weaken (fun _ _ _ _ => trivial), ((hZ.kept (fun q h1 h2 => hS.2.1 q h1 h2)).narrow (ax_sub hA hD hS)).warm hW |> ax_Zh hU⟩⟩ rfl (by simp [hn]) hl.1 (by simp [ax_cv]) ?_ hd ⟨by omega, by omega⟩) kk
  · intro x hx'
    unfold wsV at hx'
    rcases List.mem_append.mp hx' with h | h
    · have hxm : x ∈ ax_tbl := by
        simp only [List.mem_cons, List.not_mem_nil, or_false] at h
        rcases h with rfl | rfl | rfl | rfl
        · exact w1
        · exact hi
        · exact hse
        · exact w2
      exact ⟨hxm, good_of_word (List.all_eq_true.mp ax_good x hxm)⟩
    · exact ax_goodIn w3 x h
  · simp only [ax_rm]; omega
  · refine lv_room ?_
    rw [List.map_map]
    have : (rest.map ((fun v => v.category) ∘ ax_cv ad)) = rest.map ax_cat := List.map_congr_left (fun v _ => ax_cat_cv ad v)
    rw [this]; exact hrs
theorem ax_gS {own : String} {cc cy : ByteArray} {nL cells slots pc idx n nLy dy : Nat} {ry : Option FieldType} {y : MethodName} {p : Program} {l : Launch} {e : Env} {R : Room} {s : State} {m : MethodId} {args : Array Value} {below : List Frame} {meth : Method} {c : Code} {Q : State → Prop} {A : Nat → Prop} {D : va_G} {cA : Nat → ClassId} {ad : Nat → Nat → Nat} {al : List (Nat × Nat)} {θ : ax_Θ} {av rest st : List ax_V} {rv : Option ax_V} {μ μ' : ax_M} {L : List (Nat × ax_V)}
    (hK : ax_K own cc nL ((p, l, e, R, s, m, args), (below, meth, c), (Q, A), (D, cA, ad, al, θ))) (hfr : dy + 1 ≤ R.frames) (hlo : 64 + 64 * dy ≤ R.locals) (hT : ax_T l D cA ad al θ y (.code y cy nLy ry) dy av μ rv μ') (hw : ax_cw own idx y (.code y cy nLy ry) n) (hs : Cond.static y ∈ ax_tbl) (hd : decode cc pc = .ok (.invokestatic idx, 3)) (hnl : nLy ≤ 45) (hn : av.length = n) (hst : st = av.reverse ++ rest) (hrs : (rest.map ax_cat).sum ≤ 8) (hc0 : cells ≤ R.cells) (hs0 : slots ≤ R.slots)
    (kk : ax_R ((p, l, e, R, s, m, args), (below, meth, c), (Q, A), (D, cA, ad, al, θ)) nL cells slots (pc + 3, L, rv.toList ++ rest, μ')) : ax_R ((p, l, e, R, s, m, args), (below, meth, c), (Q, A), (D, cA, ad, al, θ)) nL cells slots (pc, L, st, μ) := by
  intro H locs ls hP hD hS hl
  obtain ⟨hx, hb, hown, hml, -, hts, hKK, hA, hZ⟩ := hK
  obtain ⟨w1, w2, w3, w4, w5⟩ := hw
  subst hst
  refine ax_end (a := (av.map (ax_cv ad)).toArray) hA hD hS hl (va_runS (As := av.map (ax_cv ad)) (n := n) ⟨hx, hb, hml, hown, hts⟩ (hT H.size) (va_cwS n hts (Ts := ax_tbl) ?_ rfl rfl rfl ⟨w4.1, w4.2, w5⟩ ?_) ⟨ax_blind, fun U hU hW => ⟨rfl, by rw [hU], by rw [hU]; exact hP, va_K.moved hW.alike hKK, hD.weaken (fun _ _ _ _ => trivial), ((hZ.kept (fun q h1 h2 => hS.2.1 q h1 h2)).narrow (ax_sub hA hD hS)).warm hW |> ax_Zh hU⟩⟩ rfl (by simp [hn]) hl.1 (by simp) ?_ hd ⟨by omega, by omega⟩) kk
  · intro x hx'
    unfold va_wsS at hx'
    rcases List.mem_append.mp hx' with h | h
    · have hxm : x ∈ ax_tbl := by
        simp only [List.mem_cons, List.not_mem_nil, or_false] at h
        rcases h with rfl | rfl | rfl
        · exact w1
        · exact hs
        · exact w2
      exact ⟨hxm, good_of_word (List.all_eq_true.mp ax_good x hxm)⟩
    · exact ax_goodIn w3 x h
  · simp only [ax_rm]; omega
  · refine lv_room ?_
    rw [List.map_map]
    have : (rest.map ((fun v => v.category) ∘ ax_cv ad)) = rest.map ax_cat := List.map_congr_left (fun v _ => ax_cat_cv ad v)
    rw [this]; exact hrs
section
variable {D : va_G} {cA : Nat → ClassId} {ad : Nat → Nat → Nat} {al : List (Nat × Nat)} {θ : ax_Θ} {l : Launch} {own : String} {cc cy : ByteArray} {nL d pc idx n nLy dy : Nat} {ry : Option FieldType} {y : MethodName} {rv : Option ax_V} {cls : String} {μ0 μ μ' : ax_M} {G : ax_G} {av rest st : List ax_V} {L : List (Nat × ax_V)}
/-- a call that comes back, in a method that throws -/
theorem ax_yV {g r ci : Nat} {fk : List Nat} {T0 : u_T} {N0 : Nat} (h : ax_Ax D cA ad al θ l own cc nL d cls μ0 G) (hT : ax_T l D cA ad al θ y (.code y cy nLy ry) dy (.inr (g, r) :: av) μ rv μ') (hw : ax_cw own idx y (.code y cy nLy ry) n) (hi : Cond.instanceMethod y ∈ ax_tbl) (hse : Cond.selects y.cls y y ∈ ax_tbl) (hd : decode cc pc = .ok (.invokevirtual idx, 3)) (hm : (g, r) ∈ al) (hly : ax_ly r = (0, ci, fk)) (hci : ax_cl[ci]? = some (y.cls, T0, N0)) (hdd : dy + 1 ≤ d) (hnl : nLy ≤ 45) (hn : av.length = n) (hst : st = av.reverse ++ .inr (g, r) :: rest) (hrs : (rest.map ax_cat).sum ≤ 8) (kk : ax_R G nL 0 0 (pc + 3, L, rv.toList ++ rest, μ')) : ax_R G nL 0 0 (pc, L, st, μ) := by
  obtain ⟨⟨p, l0, e, R, s, m, args⟩, ⟨below, meth, c⟩, ⟨Q, A⟩, ⟨D0, cA0, ad0, al0, θ0⟩⟩ := G
  obtain ⟨hK, rfl, rfl, rfl, rfl, rfl, rfl, rfl, -⟩ := h
  exact ax_gV hK (by simp only [ax_rx]; omega) (by simp only [ax_rx]; omega) hT hw hi hse hd hm hly hci hnl hn hst hrs (Nat.zero_le _) (Nat.zero_le _) kk
theorem ax_yS (h : ax_Ax D cA ad al θ l own cc nL d cls μ0 G) (hT : ax_T l D cA ad al θ y (.code y cy nLy ry) dy av μ rv μ') (hw : ax_cw own idx y (.code y cy nLy ry) n) (hs : Cond.static y ∈ ax_tbl) (hd : decode cc pc = .ok (.invokestatic idx, 3)) (hdd : dy + 1 ≤ d) (hnl : nLy ≤ 45) (hn : av.length = n) (hst : st = av.reverse ++ rest) (hrs : (rest.map ax_cat).sum ≤ 8) (kk : ax_R G nL 0 0 (pc + 3, L, rv.toList ++ rest, μ')) : ax_R G nL 0 0 (pc, L, st, μ) := by
  obtain ⟨⟨p, l0, e, R, s, m, args⟩, ⟨below, meth, c⟩, ⟨Q, A⟩, ⟨D0, cA0, ad0, al0, θ0⟩⟩ := G
  obtain ⟨hK, rfl, rfl, rfl, rfl, rfl, rfl, rfl, -⟩ := h
  exact ax_gS hK (by simp only [ax_rx]; omega) (by simp only [ax_rx]; omega) hT hw hs hd hnl hn hst hrs (Nat.zero_le _) (Nat.zero_le _) kk
end
