/-! PURE: the reference reads an expression as the parser does -/
section
variable {ph R F n : Nat} {f : Nat → Nat} {ts r r2 : List Tok} {s s' s1 s2 s0 : ax_σ} {md md' c p : Nat} {Tot Pr : List Nat} {Ops Ops' : List Op} {Tms Tms' : List Tm} {Fs Fs' : List Nat}
def zXp (ph R F n : Nat) (f : Nat → Nat) (Tot : List Nat) (j : Nat) : Prop := ∀ (d : Nat) (ts : List Tok) (Pr : List Nat) (Ops : List Op) (Fs : List Nat) (s : ax_σ), Fs.length = d → d ≤ 12 → 13 ≤ d + j → ZE R n f 20 ts Tot Pr Ops (Ops.flatMap (·.2.2.2)) Fs s → zq ph R F n f ts s (pEx j d ts) (zKe R n f Tot Ops Fs s)
def zBr (j d : Nat) (e : List Op) (r : List Tok) : Rd (List Op) := match r with
        | [] => .error []
        | (o, q) :: r =>
          if o = 60 then rbind (pNumR r) (fun vq r' => rbind (pTake 41 r') (fun _ r'' => .ok (e ++ [(7, vq.1, vq.2, [])], r'')))
          else if o = 94 ∨ o = 38 ∨ o = 124 ∨ o = 43 ∨ o = 45 ∨ o = 42 then rbind (pEx j (d + 1) r) (fun e' r' => rbind (pTake 41 r') (fun _ r'' => .ok (e ++ e' ++ [(8, o, 0, [])], r'')))
          else .error ((o, q) :: r)
theorem zw_z {md : Nat} (h : ¬ wants md) {c : Nat} : ¬ (wants md ∧ isD c = true) := fun e => h e.1
/-- behind the first part of a bracket -/
theorem z_br {j d : Nat} {e : List Op} (hF : 241 ≤ F) (ih : zXp ph R F n f Tot j) (hd : Fs.length = d) (hd12 : d < 12) (hj : 12 ≤ d + j) (hf : frm XZe s0 s) (h : ZE R n f 21 r Tot Pr (Ops ++ e) ((Ops ++ e).flatMap (·.2.2.2)) (1 :: Fs) s) : zq ph R F n f r s (zBr j d e r) (zKe R n f Tot Ops Fs s0) := by
  match r, h with
  | [], h => exact fun G => h.nil (by omega)
  | (o, q) :: r, h =>
    rw [zBr]
    have hc' := (h.tk _ (List.mem_cons_self ..)).1
    have h12 : Fs.length + 1 ≤ 12 := by omega
    by_cases h60 : o = 60
    · subst h60
      rw [if_pos rfl]
      obtain ⟨s2, a1, a2, a3⟩ := h.op21 (ph := ph) (F := F) (Or.inr rfl)
      refine zq.pre a1 ?_
      rw [if_pos rfl, if_pos rfl] at a2
      match hp : pNumR r with
      | .error r' =>
        obtain ⟨hp', e1⟩ := pNumR_er hp
        subst e1
        match r', a2, hp' with
        | [], a2, hp' => exact fun G => a2.nil (by omega)
        | (c, p) :: r', a2, hp' =>
          exact fun G => a2.rej (by omega) (fun e => pNum_none hp' e.2) (zx_22 (a2.tk _ (List.mem_cons_self ..)).1 (Or.inl rfl) a2.2.2.1 (Or.inr rfl))
      | .ok ((v, p), r') =>
        have hp' := pNumR_ok hp
        obtain ⟨s3, b1, b2, b3, b4, b5⟩ := a2.num22 (ph := ph) hF hp'
        refine zq.pre b1 ?_
        show zq ph R F n f r' s3 (rbind (pTake 41 r') (fun _ r'' => .ok (e ++ [(7, v, p, [])], r''))) _
        match r', b2 with
        | [], b2 => exact fun G => b2.nil (by omega)
        | (c, p2) :: r', b2 =>
          by_cases hc : c = 41
          · subst hc
            obtain ⟨s4, Pr', c1, c2, c3⟩ := b2.close23 (ph := ph) (k := 7) (v := v) (q := p) (y := nI p) hF (Or.inl ⟨rfl, rfl, rfl, b3, b4⟩)
            refine zq.pre c1 ⟨s4, ⟨Pr', ?_, ((hf.trans a3).trans b5).trans c3⟩, zgo.refl⟩
            have e2 : Ops ++ (e ++ [(7, v, p, [])]) = Ops ++ e ++ [(7, v, p, [])] := (List.append_assoc ..).symm
            rw [fm_r, e2, List.flatMap_append (xs := Ops ++ e)]
            simp only [List.flatMap_cons, List.flatMap_nil, List.append_nil]
            exact c2
          · have e1 : pTake 41 ((c, p2) :: r') = .error ((c, p2) :: r') := by rw [pTake, if_neg hc]
            rw [e1]
            exact fun G => b2.rej (by omega) (zw_z (by unfold wants; omega)) (zx_22 (b2.tk _ (List.mem_cons_self ..)).1 (Or.inr (Or.inl rfl)) b2.2.2.1 (Or.inl hc))
    · rw [if_neg h60]
      by_cases ho : o = 94 ∨ o = 38 ∨ o = 124 ∨ o = 43 ∨ o = 45 ∨ o = 42
      · rw [if_pos ho]
        obtain ⟨s2, a1, a2, a3⟩ := h.op21 (ph := ph) (F := F) (Or.inl ho)
        refine zq.pre a1 ?_
        rw [if_neg h60, if_neg h60] at a2
        have ihh := ih (d + 1) r _ (Ops ++ e) (o :: Fs) s2 (by rw [List.length_cons, hd]) (by omega) (by omega) a2
        refine ihh.bind (fun e' r' s3 _ hK => ?_)
        obtain ⟨Pr3, b2, b5⟩ := hK
        obtain ⟨k1, k2⟩ := cFs_n (x := o) (Fs := Fs) (by omega)
        have k3 : cMd (o :: Fs) = 24 := by
          unfold cMd
          rw [k1]
          show (if o = 1 then 21 else 24) = 24
          rw [if_neg (by omega)]
        rw [k1, k2, k3, List.replicate_zero, List.append_nil] at b2
        match r', b2 with
        | [], b2 => exact fun G => b2.nil (by omega)
        | (c, p2) :: r', b2 =>
          by_cases hc : c = 41
          · subst hc
            obtain ⟨s4, Pr', c1, c2, c3⟩ := b2.close23 (ph := ph) (k := 8) (v := o) (q := 0) (y := nM) hF (Or.inr ⟨rfl, rfl, rfl, rfl, rfl⟩)
            refine zq.pre c1 ⟨s4, ⟨Pr', ?_, ((hf.trans a3).trans b5).trans c3⟩, zgo.refl⟩
            have e2 : Ops ++ (e ++ e' ++ [(8, o, 0, [])]) = Ops ++ e ++ e' ++ [(8, o, 0, [])] := by simp only [List.append_assoc]
            rw [fm_r, e2, List.flatMap_append (xs := Ops ++ e ++ e')]
            simp only [List.flatMap_cons, List.flatMap_nil, List.append_nil]
            exact c2
          · have e1 : pTake 41 ((c, p2) :: r') = .error ((c, p2) :: r') := by rw [pTake, if_neg hc]
            rw [e1]
            exact fun G => b2.rej (by omega) (zw_z (by unfold wants; omega)) (zx_22 (b2.tk _ (List.mem_cons_self ..)).1 (Or.inr (Or.inr rfl)) b2.2.2.1 (Or.inl hc))
      · rw [if_neg ho]
        exact fun G => h.rej (by omega) (zw_z (by unfold wants; omega)) (zx_21 hc' h.2.2.1 h.2.2.2.2.2.2.1 h12 ho h60)
theorem rep_not (A e : List Op) (k : Nat) : A ++ e ++ List.replicate (k + 1) oNot = A ++ (e ++ [(6, 0, 0, [])]) ++ List.replicate k oNot := by
  rw [List.replicate_succ]
  simp only [List.append_assoc, List.cons_append, List.nil_append]
  rfl
theorem zEx (hF : 241 ≤ F) : ∀ (j : Nat), zXp ph R F n f Tot j
  | 0 => fun d ts Pr Ops Fs s h1 h2 h3 => absurd h3 (by omega)
  | j + 1 => by
    intro d ts Pr Ops Fs s hd h12 hj h
    have ih := zEx hF j
    match ts, h with
    | [], h => exact fun G => h.nil (by omega)
    | (c, p) :: ts, h =>
      have hc' := (h.tk _ (List.mem_cons_self ..)).1
      have h49 : s.1 0 38 49 = nI Fs.length := h.2.2.2.2.2.2.1.1
      rw [pEx]
      by_cases c1 : c = 126
      · rw [if_pos c1]
        by_cases d12 : d = 12
        · rw [if_pos d12]
          exact fun G => h.rej (by omega) (fun e => by have := isD_i.mp e.2; omega) (zx_20f h.2.2.1 (by rw [h49, hd, d12]) (Or.inl c1))
        · rw [if_neg d12]
          obtain ⟨s2, a1, a2, a3⟩ := h.open20 (ph := ph) (F := F) (x := 0) (Or.inl ⟨c1, rfl⟩) (by omega)
          refine zq.pre a1 ?_
          have ihh := ih (d + 1) ts _ Ops (0 :: Fs) s2 (by rw [List.length_cons, hd]) (by omega) (by omega) a2
          refine ihh.bind (fun e r s3 _ hK => ⟨s3, ?_, zgo.refl⟩)
          obtain ⟨Pr', b1, b2⟩ := hK
          refine ⟨Pr', ?_, a3.trans b2⟩
          rw [← rep_not]
          exact b1
      · rw [if_neg c1]
        by_cases c2 : c = 40
        · rw [if_pos c2]
          by_cases d12 : d = 12
          · rw [if_pos d12]
            exact fun G => h.rej (by omega) (fun e => by have := isD_i.mp e.2; omega) (zx_20f h.2.2.1 (by rw [h49, hd, d12]) (Or.inr c2))
          · rw [if_neg d12]
            obtain ⟨s2, a1, a2, a3⟩ := h.open20 (ph := ph) (F := F) (x := 1) (Or.inr ⟨c2, rfl⟩) (by omega)
            refine zq.pre a1 ?_
            have ihh := ih (d + 1) ts _ Ops (1 :: Fs) s2 (by rw [List.length_cons, hd]) (by omega) (by omega) a2
            refine ihh.bind (fun e r s3 _ hK => ?_)
            obtain ⟨Pr', b1, b2⟩ := hK
            have b1 : ZE R n f 21 r Tot Pr' (Ops ++ e ++ []) ((Ops ++ e ++ []).flatMap (fun x : Op => x.2.2.2)) (1 :: Fs) s3 := b1
            rw [List.append_nil] at b1
            exact z_br hF ih hd (by omega) (by omega) (a3.trans b2) b1
        · rw [if_neg c2]
          by_cases c3 : c = 75 ∨ c = 83
          · rw [if_pos c3]
            exact h.idx20 hF c3
          · rw [if_neg c3]
            by_cases c4 : c = 105 ∨ c = 106
            · rw [if_pos c4]
              have k := h.leaf20 (ph := ph) hF (Or.inr c4)
              rw [if_neg (by omega), if_neg (by omega)] at k
              exact k
            · rw [if_neg c4]
              by_cases c5 : isD c = true
              · rw [if_pos c5]
                match hp : pNum ((c, p) :: ts) with
                | none => exact absurd c5 (pNum_none hp)
                | some (v, q, r) =>
                  have e : pNumR ((c, p) :: ts) = .ok ((v, q), r) := by unfold pNumR; rw [hp]
                  rw [e]
                  exact h.num20 hF hp
              · rw [if_neg c5]
                by_cases c6 : 65 ≤ c ∧ c ≤ 68
                · rw [if_pos c6]
                  have k := h.leaf20 (ph := ph) hF (Or.inl c6)
                  rw [if_pos c6, if_pos c6] at k
                  exact k
                · rw [if_neg c6]
                  exact fun G => h.rej (by omega) (fun e => c5 e.2) (zx_20 hc' h.2.2.1 c6 c4 c3 c1 c2)
end
