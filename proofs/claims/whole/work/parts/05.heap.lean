/-! THE STEPS ON CELLS: fields and arrays -/
theorem ax_at {cA : Nat → ClassId} {ad : Nat → Nat → Nat} {al : List (Nat × Nat)} {g r : Nat} (hm : (g, r) ∈ al) : ∃ q0 : Nat, al[q0]? = some (g, r) ∧ ∀ μ : ax_M, (ax_ws cA ad al μ)[q0]? = some (ad g r, ax_cell cA ad μ g r) := by
  obtain ⟨q0, hq⟩ := List.getElem?_of_mem hm
  exact ⟨q0, hq, fun μ => by simp only [ax_ws, List.getElem?_map, hq, Option.map_some]⟩
theorem ax_ws_set {cA : Nat → ClassId} {ad : Nat → Nat → Nat} {al : List (Nat × Nat)} {A : Nat → Prop} {μ μ' : ax_M} {g r q0 : Nat} (hD : va_D A (ax_ws cA ad al μ)) (h0 : al[q0]? = some (g, r)) (hne : ∀ g' r', ¬ (g' = g ∧ r' = r) → ax_cell cA ad μ' g' r' = ax_cell cA ad μ g' r') : (ax_ws cA ad al μ).set q0 (ad g r, ax_cell cA ad μ' g r) = ax_ws cA ad al μ' := by
  apply List.ext_getElem?
  intro i
  by_cases hi : i = q0
  · subst hi
    have hl : i < (ax_ws cA ad al μ).length := by
      have := (List.getElem?_eq_some_iff.mp h0).1
      simpa [ax_ws] using this
    rw [List.getElem?_set_self hl]
    simp only [ax_ws, List.getElem?_map, h0, Option.map_some]
  · rw [List.getElem?_set_ne (Ne.symm hi)]
    simp only [ax_ws, List.getElem?_map]
    cases hq : al[i]? with
    | none => rfl
    | some q =>
      simp only [Option.map_some]
      rw [hne q.1 q.2 (fun z => hi (hD.1 i q0 (ad q.1 q.2, ax_cell cA ad μ q.1 q.2) (ad g r, ax_cell cA ad μ g r) (by simp only [ax_ws, List.getElem?_map, hq, Option.map_some]) (by simp only [ax_ws, List.getElem?_map, h0, Option.map_some]) (by simp only [z.1, z.2])))]
/-- a field as a method of class own names it: entry idx, class ci, place k -/
def ax_fd (own : String) (idx ci k : Nat) : Prop := ∃ (C : String) (T : u_T) (N : Nat) (ty0 : Nat → FieldType), ax_cl[ci]? = some (C, T, N) ∧ (∀ w ∈ u_ws C T N, w ∈ ax_tbl) ∧ k < N ∧ Cond.fieldLink own idx (T k).1 (T k).2.1 (T k).2.2.1 ∈ ax_tbl ∧ (∀ j, j < N → parseFieldDescriptor (T j).2.2.1 = some (ty0 j)) ∧ (∀ a, a < N → ∀ b, b < N → a ≠ b → (T a).2.1 ≠ (T b).2.1)
/-- and that may be written, of a type -/
def ax_fp (own : String) (idx ci k : Nat) (ty : FieldType) : Prop := ∃ (C : String) (T : u_T) (N : Nat) (ty0 : Nat → FieldType), ax_cl[ci]? = some (C, T, N) ∧ (∀ w ∈ u_ws C T N, w ∈ ax_tbl) ∧ k < N ∧ Cond.fieldLink own idx (T k).1 (T k).2.1 (T k).2.2.1 ∈ ax_tbl ∧ (∀ j, j < N → parseFieldDescriptor (T j).2.2.1 = some (ty0 j)) ∧ (∀ a, a < N → ∀ b, b < N → a ≠ b → (T a).2.1 ≠ (T b).2.1) ∧ (T k).2.2.2 = false ∧ parseFieldDescriptor (T k).2.2.1 = some ty
theorem ax_cell_obj {cA : Nat → ClassId} {ad : Nat → Nat → Nat} {μ : ax_M} {g r ci : Nat} {fk : List Nat} (h : ax_ly r = (0, ci, fk)) : ax_cell cA ad μ g r = .inr (ci, ax_fs ad μ g r fk) := by
  simp only [ax_cell, h]
theorem ax_fs_at {ad : Nat → Nat → Nat} {μ : ax_M} {g r k t : Nat} {fk : List Nat} (h : fk[k]? = some t) : (ax_fs ad μ g r fk)[k]? = some (ax_fv ad μ g r k t) := by
  simp only [ax_fs, List.getElem?_mapIdx, h, Option.map_some]
/-- reads a field: e is what a changing reference holds -/
def ax_gf (al : List (Nat × Nat)) (pc ci k : Nat) (e : Option (Nat × Nat)) : ax_F := fun x => bif Nat.beq x.1 pc then (match x.2.2.1 with
  | .inr (g, r) :: st => (match ax_ly r with
    | (0, cj, fk) => bif Nat.beq cj ci then (match fk[k]? with
      | some 0 => some ((pc + 3, x.2.1, .inl (.int (x.2.2.2.1 g r k)) :: st, x.2.2.2), (g, r) ∈ al)
      | some 1 => some ((pc + 3, x.2.1, .inl (.long (x.2.2.2.2.1 g r k)) :: st, x.2.2.2), (g, r) ∈ al)
      | some 2 => some ((pc + 3, x.2.1, ax_ov e :: st, x.2.2.2), (g, r) ∈ al ∧ x.2.2.2.2.2 g r k = e)
      | some (t + 3) => some ((pc + 3, x.2.1, .inr (g, t) :: st, x.2.2.2), (g, r) ∈ al)
      | none => none) else none
    | _ => none)
  | _ => none) else none
theorem ax_v_gf {own : String} {cc : ByteArray} {nL : Nat} {p : Program} {l : Launch} {e0 : Env} {R : Room} {s : State} {m : MethodId} {args : Array Value} {below : List Frame} {meth : Method} {c : Code} {Q : State → Prop} {A : Nat → Prop} {D : va_G} {cA : Nat → ClassId} {ad : Nat → Nat → Nat} {al : List (Nat × Nat)} {θ : ax_Θ} {pc idx ci k : Nat} {e : Option (Nat × Nat)} (hd : decode cc pc = .ok (.getfield idx, 3)) (hf0 : ax_fd own idx ci k) : ax_v own cc nL ((p, l, e0, R, s, m, args), (below, meth, c), (Q, A), (D, cA, ad, al, θ)) (ax_gf al pc ci k e) := by
  intro hK x y P cells slots hf hP0 kk
  obtain ⟨q, L, st, μ⟩ := x
  obtain ⟨hx, hb, hown, -, -, hts, hKK, -⟩ := hK
  obtain ⟨C, T, N, ty0, hc, hin, hk, hlink, -, -⟩ := hf0
  unfold ax_gf at hf
  cases hq : Nat.beq q pc with
  | false => simp only [hq, cond_false] at hf; cases hf
  | true =>
    simp only [hq, cond_true] at hf
    have hq' : q = pc := Nat.eq_of_beq_eq_true hq
    subst hq'
    rcases st with _ | ⟨v0, st'⟩
    · first | (cases hf; done) | (simp at hf; done)
    · rcases v0 with v0 | ⟨g, r⟩
      · first | (cases hf; done) | (simp at hf; done)
      · obtain ⟨tg, cj, fk, hly⟩ : ∃ a b c, ax_ly r = (a, b, c) := ⟨_, _, _, rfl⟩
        simp only [hly] at hf
        rcases tg with _ | tg
        rotate_left
        · first | (cases hf; done) | (simp at hf; done)
        simp only at hf
        cases hcj : Nat.beq cj ci with
        | false => simp only [hcj, cond_false] at hf; cases hf
        | true =>
          simp only [hcj, cond_true] at hf
          have hcj' : cj = ci := Nat.eq_of_beq_eq_true hcj
          subst hcj'
          have go : ∀ (t : Nat) (v : ax_V), fk[k]? = some t → (g, r) ∈ al → ax_cv ad v = ax_fv ad μ g r k t → ax_R ((p, l, e0, R, s, m, args), (below, meth, c), (Q, A), (D, cA, ad, al, θ)) nL cells slots (q + 3, L, v :: st', μ) → ax_R ((p, l, e0, R, s, m, args), (below, meth, c), (Q, A), (D, cA, ad, al, θ)) nL cells slots (q, L, .inr (g, r) :: st', μ) := by
            intro t v ht hm hv kk H locs ls hP hD hS hl
            obtain ⟨q0, h0, h1⟩ := ax_at (cA := cA) (ad := ad) hm
            have he := h1 μ
            rw [ax_cell_obj hly] at he
            have kk' := kk H locs ls hP hD hS hl
            simp only [List.map_cons, hv] at kk'
            exact va_get hx hb hts hin hown hKK hP q0 he hc k hk (hts _ hlink) (fun _ h => h) (ax_fs_at ht) hd kk'
          rcases ht : fk[k]? with _ | t
          · simp only [ht] at hf; cases hf
          · rcases t with _ | _ | _ | t
            · simp only [ht] at hf; cases hf; exact go 0 _ ht hP0 rfl kk
            · simp only [ht] at hf; cases hf; exact go 1 _ ht hP0 rfl kk
            · simp only [ht] at hf; cases hf; exact go 2 _ ht hP0.1 (by rw [ax_cv_ov, ← hP0.2]; rfl) kk
            · simp only [ht] at hf; cases hf; exact go (t + 3) _ ht hP0 rfl kk
/-- writes a field: int (or boolean), long, reference -/
def ax_pf (al : List (Nat × Nat)) (pc ci k tc : Nat) : ax_F := fun x => bif Nat.beq x.1 pc then (match x.2.2.1 with
  | v :: .inr (g, r) :: st => (match ax_ly r with
    | (0, cj, fk) => bif Nat.beq cj ci then (match fk[k]?, v with
      | some 0, .inl (.int z) => bif Nat.beq tc 0 then some ((pc + 3, x.2.1, st, (ax_uI x.2.2.2.1 g r k z, x.2.2.2.2)), (g, r) ∈ al) else bif Nat.beq tc 1 then some ((pc + 3, x.2.1, st, (ax_uI x.2.2.2.1 g r k z, x.2.2.2.2)), (g, r) ∈ al ∧ (z = 0 ∨ z = 1)) else none
      | some 1, .inl (.long z) => bif Nat.beq tc 2 then some ((pc + 3, x.2.1, st, (x.2.2.2.1, ax_uL x.2.2.2.2.1 g r k z, x.2.2.2.2.2)), (g, r) ∈ al) else none
      | some 2, .inl .null => bif Nat.beq tc 3 then some ((pc + 3, x.2.1, st, (x.2.2.2.1, x.2.2.2.2.1, ax_uR x.2.2.2.2.2 g r k none)), (g, r) ∈ al) else none
      | some 2, .inr z => bif Nat.beq tc 3 then some ((pc + 3, x.2.1, st, (x.2.2.2.1, x.2.2.2.2.1, ax_uR x.2.2.2.2.2 g r k (some z))), (g, r) ∈ al) else none
      | _, _ => none) else none
    | _ => none)
  | _ => none) else none
def ax_tk (tc : Nat) (ty : FieldType) : Prop := match tc with
  | 0 => ty = .int
  | 1 => ty = .boolean
  | 2 => ty = .long
  | _ => (∃ n, ty = .object n) ∨ ∃ t', ty = .array t'
theorem ax_v_pf {own : String} {cc : ByteArray} {nL : Nat} {p : Program} {l : Launch} {e0 : Env} {R : Room} {s : State} {m : MethodId} {args : Array Value} {below : List Frame} {meth : Method} {c : Code} {Q : State → Prop} {A : Nat → Prop} {D : va_G} {cA : Nat → ClassId} {ad : Nat → Nat → Nat} {al : List (Nat × Nat)} {θ : ax_Θ} {pc idx ci k tc : Nat} {ty : FieldType} (hd : decode cc pc = .ok (.putfield idx, 3)) (hf0 : ax_fp own idx ci k ty) (h7 : ax_tk tc ty) : ax_v own cc nL ((p, l, e0, R, s, m, args), (below, meth, c), (Q, A), (D, cA, ad, al, θ)) (ax_pf al pc ci k tc) := by
  intro hK x y P cells slots hf hP0 kk
  obtain ⟨q, L, st, μ⟩ := x
  obtain ⟨hx, hb, hown, -, -, hts, hKK, -⟩ := hK
  obtain ⟨C, T, N, ty0, hc, hin, hk, hlink, hty, hnm, hfin, hpd⟩ := hf0
  unfold ax_pf at hf
  cases hq : Nat.beq q pc with
  | false => simp only [hq, cond_false] at hf; cases hf
  | true =>
    simp only [hq, cond_true] at hf
    have hq' : q = pc := Nat.eq_of_beq_eq_true hq
    subst hq'
    rcases st with _ | ⟨v, _ | ⟨v0, st'⟩⟩
    · first | (cases hf; done) | (simp at hf; done)
    · first | (cases hf; done) | (simp at hf; done)
    · rcases v0 with v0 | ⟨g, r⟩
      · first | (cases hf; done) | (simp at hf; done)
      · obtain ⟨tg, cj, fk, hly⟩ : ∃ a b c, ax_ly r = (a, b, c) := ⟨_, _, _, rfl⟩
        simp only [hly] at hf
        rcases tg with _ | tg
        rotate_left
        · first | (cases hf; done) | (simp at hf; done)
        simp only at hf
        cases hcj : Nat.beq cj ci with
        | false => simp only [hcj, cond_false] at hf; cases hf
        | true =>
          simp only [hcj, cond_true] at hf
          have hcj' : cj = ci := Nat.eq_of_beq_eq_true hcj
          subst hcj'
          have go : ∀ (t : Nat) (μ' : ax_M), fk[k]? = some t → (g, r) ∈ al → narrow ty (ax_cv ad v) = ax_cv ad v → fits ty (ax_cv ad v) = true → ax_fv ad μ' g r k t = ax_cv ad v → (∀ k' t', k' ≠ k → ax_fv ad μ' g r k' t' = ax_fv ad μ g r k' t') → (∀ g' r', ¬ (g' = g ∧ r' = r) → (μ'.1 g' r' = μ.1 g' r' ∧ μ'.2.1 g' r' = μ.2.1 g' r' ∧ μ'.2.2 g' r' = μ.2.2 g' r')) → ax_R ((p, l, e0, R, s, m, args), (below, meth, c), (Q, A), (D, cA, ad, al, θ)) nL cells slots (q + 3, L, st', μ') → ax_R ((p, l, e0, R, s, m, args), (below, meth, c), (Q, A), (D, cA, ad, al, θ)) nL cells slots (q, L, v :: .inr (g, r) :: st', μ) := by
            intro t μ' ht hm hn hfi hv hoth hne kk H locs ls hP hD hS hl
            obtain ⟨q0, h0, h1⟩ := ax_at (cA := cA) (ad := ad) hm
            have he := h1 μ
            rw [ax_cell_obj hly] at he
            have hkl : k < fk.length := (List.getElem?_eq_some_iff.mp ht).1
            have e1 : (ax_fs ad μ g r fk).set k (ax_cv ad v) = ax_fs ad μ' g r fk := by
              apply List.ext_getElem?
              intro i
              by_cases hi : i = k
              · subst hi
                rw [List.getElem?_set_self (by simpa [ax_fs] using hkl), ax_fs_at ht, hv]
              · rw [List.getElem?_set_ne (Ne.symm hi)]
                simp only [ax_fs, List.getElem?_mapIdx]
                cases fk[i]? with
                | none => rfl
                | some t' => simp only [Option.map_some, hoth i t' hi]
            have e2 : (ax_ws cA ad al μ).set q0 (ad g r, .inr (cj, (ax_fs ad μ g r fk).set k (ax_cv ad v))) = ax_ws cA ad al μ' := by
              rw [e1, ← ax_cell_obj (cA := cA) (ad := ad) (μ := μ') (g := g) hly]
              refine ax_ws_set hD h0 (fun g' r' hgr => ?_)
              obtain ⟨a1, a2, a3⟩ := hne g' r' hgr
              unfold ax_cell
              split <;> simp only [ax_fs, ax_fv, a1, a2, a3]
            refine va_put hx hb hts hin ty0 hty hnm hown hKK hP hD hS q0 he hc k hk (hts _ hlink) (fun _ h => h) hfin hpd hn hfi (by simpa [ax_fs] using hkl) hd (fun H1 locs1 hP1 hD1 hS1 => ?_)
            rw [e2] at hP1 hD1
            exact kk H1 locs1 ls hP1 hD1 hS1 hl
          have oI : ∀ z : Int32, (∀ k' t', k' ≠ k → ax_fv ad (ax_uI μ.1 g r k z, μ.2) g r k' t' = ax_fv ad μ g r k' t') ∧ ∀ g' r', ¬ (g' = g ∧ r' = r) → ax_uI μ.1 g r k z g' r' = μ.1 g' r' := by
            intro z
            refine ⟨fun k' t' h => ?_, fun g' r' h => ?_⟩
            · unfold ax_fv; split <;> simp [ax_uI, h]
            · funext k'; unfold ax_uI; rw [if_neg (fun z => h ⟨z.1, z.2.1⟩)]
          have oL : ∀ z : Int64, (∀ k' t', k' ≠ k → ax_fv ad (μ.1, ax_uL μ.2.1 g r k z, μ.2.2) g r k' t' = ax_fv ad μ g r k' t') ∧ ∀ g' r', ¬ (g' = g ∧ r' = r) → ax_uL μ.2.1 g r k z g' r' = μ.2.1 g' r' := by
            intro z
            refine ⟨fun k' t' h => ?_, fun g' r' h => ?_⟩
            · unfold ax_fv; split <;> simp [ax_uL, h]
            · funext k'; unfold ax_uL; rw [if_neg (fun z => h ⟨z.1, z.2.1⟩)]
          have oR : ∀ z : Option (Nat × Nat), (∀ k' t', k' ≠ k → ax_fv ad (μ.1, μ.2.1, ax_uR μ.2.2 g r k z) g r k' t' = ax_fv ad μ g r k' t') ∧ ∀ g' r', ¬ (g' = g ∧ r' = r) → ax_uR μ.2.2 g r k z g' r' = μ.2.2 g' r' := by
            intro z
            refine ⟨fun k' t' h => ?_, fun g' r' h => ?_⟩
            · unfold ax_fv; split <;> simp [ax_uR, h]
            · funext k'; unfold ax_uR; rw [if_neg (fun z => h ⟨z.1, z.2.1⟩)]
          rcases ht : fk[k]? with _ | t
          · simp only [ht] at hf; cases hf
          · simp only [ht] at hf
            rcases t with _ | _ | _ | t
            · rcases v with v | z
              · cases v with
                | int z =>
                  cases h0 : Nat.beq tc 0 with
                  | true =>
                    simp only [h0, cond_true] at hf
                    cases hf
                    have e0 := Nat.eq_of_beq_eq_true h0
                    subst e0
                    simp only [ax_tk] at h7
                    exact go 0 _ ht hP0 (by rw [h7]; rfl) (by rw [h7]; rfl) (by simp [ax_fv, ax_uI, ax_cv]) (oI z).1 (fun g' r' h => ⟨(oI z).2 g' r' h, rfl, rfl⟩) kk
                  | false =>
                    simp only [h0, cond_false] at hf
                    cases h1 : Nat.beq tc 1 with
                    | true =>
                      simp only [h1, cond_true] at hf
                      cases hf
                      have e0 := Nat.eq_of_beq_eq_true h1
                      subst e0
                      simp only [ax_tk] at h7
                      have h8 : narrow ty (.int z) = .int z ∧ fits ty (.int z) = true := by
                        rw [h7]; rcases hP0.2 with e | e <;> (rw [e]; exact ⟨by decide, by decide⟩)
                      exact go 0 _ ht hP0.1 h8.1 h8.2 (by simp [ax_fv, ax_uI, ax_cv]) (oI z).1 (fun g' r' h => ⟨(oI z).2 g' r' h, rfl, rfl⟩) kk
                    | false => simp only [h1, cond_false] at hf; cases hf
                | _ => first | (cases hf; done) | (simp at hf; done)
              · first | (cases hf; done) | (simp at hf; done)
            · rcases v with v | z
              · cases v with
                | long z =>
                  cases h0 : Nat.beq tc 2 with
                  | false => simp only [h0, cond_false] at hf; cases hf
                  | true =>
                  simp only [h0, cond_true] at hf
                  cases hf
                  have e0 := Nat.eq_of_beq_eq_true h0
                  subst e0
                  simp only [ax_tk] at h7
                  exact go 1 _ ht hP0 (by rw [h7]; rfl) (by rw [h7]; rfl) (by simp [ax_fv, ax_uL, ax_cv]) (oL z).1 (fun g' r' h => ⟨rfl, (oL z).2 g' r' h, rfl⟩) kk
                | _ => first | (cases hf; done) | (simp at hf; done)
              · first | (cases hf; done) | (simp at hf; done)
            · cases h0 : Nat.beq tc 3 with
              | false => (rcases v with v | z); (cases v <;> first | (simp only [h0, cond_false] at hf; cases hf; done) | (cases hf; done) | (simp at hf; done)); (first | (simp only [h0, cond_false] at hf; cases hf; done) | (cases hf; done))
              | true =>
              have e0 := Nat.eq_of_beq_eq_true h0
              subst e0
              simp only [ax_tk] at h7
              simp only [h0, cond_true] at hf
              rcases v with v | z
              · cases v with
                | null =>
                  cases hf
                  exact go 2 _ ht hP0 (by rcases h7 with ⟨n, h7⟩ | ⟨n, h7⟩ <;> (rw [h7]; rfl)) (by rcases h7 with ⟨n, h7⟩ | ⟨n, h7⟩ <;> (rw [h7]; rfl)) (by simp [ax_fv, ax_uR, ax_cv, ax_rv]) (oR none).1 (fun g' r' h => ⟨rfl, rfl, (oR none).2 g' r' h⟩) kk
                | _ => first | (cases hf; done) | (simp at hf; done)
              · cases hf
                exact go 2 _ ht hP0 (by rcases h7 with ⟨n, h7⟩ | ⟨n, h7⟩ <;> (rw [h7]; rfl)) (by rcases h7 with ⟨n, h7⟩ | ⟨n, h7⟩ <;> (rw [h7]; rfl)) (by simp [ax_fv, ax_uR, ax_cv, ax_rv]) (oR (some z)).1 (fun g' r' h => ⟨rfl, rfl, (oR (some z)).2 g' r' h⟩) kk
            · first | (cases hf; done) | (simp at hf; done)
