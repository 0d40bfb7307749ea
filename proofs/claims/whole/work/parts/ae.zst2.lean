/-! PURE: the reference reads a step, a block -/
section
variable {ph R F n : Nat} {f : Nat → Nat} {ts r r2 : List Tok} {s s' s1 s2 s0 : ax_σ} {md md' c p m sec : Nat} {Tot Pr : List Nat} {Ops Ops' : List Op} {Trs : List (Nat × Nat)} {Ths : List Th} {S : List Nat}
def XSp (g r k : Nat) : Prop := g = 0 ∧ (r = 67 ∨ r = 56 ∨ r = 57 ∨ (r = 38 ∧ ((7 ≤ k ∧ k ≤ 10) ∨ k = 33 ∨ k = 51)))
theorem ZV.num46 {v q : Nat} (hF : 241 ≤ F) (h : ZV R n f 46 ts Tot Pr Ops Trs Ths S sec s) (hp : pNum ts = some (v, q, r)) : ∃ s2 Pr', zgo ph R F n f ts s r s2 ∧ ZV R n f 47 r Tot Pr' Ops (Trs ++ [(v, q)]) Ths S sec s2 ∧ frm XSp s s2 := by
  obtain ⟨h1, h2, h3, h4, h5, h6⟩ := h
  have hl := pNum_len hp
  obtain ⟨s2, a1, a2, a3, a4⟩ := h1.num46 (ph := ph) hF h2 (by omega) hp
  have ff : frm XSp s s2 := a4.imp (fun g r k h => by unfold XN46 at h; unfold XSp; omega)
  exact ⟨s2, _, a1, ⟨a2, a3, h3.keep ff (fun r k h => by unfold XSp; omega), (ff.1 0 38 22 (by unfold XSp; omega)).trans h4, by omega, by rw [List.length_append, List.length_singleton]; omega⟩, ff⟩
def XM0 (g r k : Nat) : Prop := g = 0 ∧ (r = 67 ∨ (r = 38 ∧ (k = 7 ∨ k = 51)))
theorem XMp.m0 (h : frm (XMp m (fun _ => False)) s s') : frm XM0 s s' := h.imp (fun g r k h => ⟨h.1, h.2.elim Or.inl (fun h => h.elim Or.inr (fun h => h.1.elim))⟩)
theorem XMp.sp (h : frm XM0 s s') : frm XSp s s' := h.imp (fun g r k h => by unfold XM0 at h; unfold XSp; omega)
def sprT2 (j : Nat) (v : Nat × Nat) (r : List Tok) : Rd (List (Nat × Nat)) := match r with
    | [] => .ok ([v], [])
    | (c, p) :: r' => if c = 44 then rbind (pSpr j r') (fun l r'' => .ok (v :: l, r'')) else .ok ([v], (c, p) :: r')
theorem pSpr_s (j : Nat) (ts : List Tok) : pSpr (j + 1) ts = rbind (pNumR ts) (fun v r => sprT2 j v r) := rfl
theorem zSpr (hF : 241 ≤ F) : ∀ (j : Nat) (l : List (Nat × Nat)) (ts : List Tok) (Pr : List Nat) (s : ax_σ), l.length + j = 4 → ZV R n f 46 ts Tot Pr Ops (Trs ++ l) Ths S sec s → s.1 0 54 Ths.length = nI Trs.length → zq ph R F n f ts s (pSpr j ts) (fun l' r s' => ∃ Pr', ZV R n f 47 r Tot Pr' Ops (Trs ++ (l ++ l')) Ths S sec s' ∧ (sg r = 44 → 5 ≤ (l ++ l').length) ∧ frm XSp s s') := by
  have noN : ∀ (ts r' : List Tok) (Pr : List Nat) (l : List (Nat × Nat)) (s : ax_σ), ZV R n f 46 ts Tot Pr Ops (Trs ++ l) Ths S sec s → pNumR ts = .error r' → ∀ G, zR ph R F n f ts s (nI (pl n r')) G := by
    intro ts r' Pr l s h hp
    obtain ⟨hp', e1⟩ := pNumR_er hp
    subst e1
    match r', h, hp' with
    | [], h, hp' => exact fun G => h.1.nil (by omega)
    | (c, p) :: r', h, hp' =>
      exact fun G => h.1.rejT (by omega) (fun e => pNum_none hp' e.2) (zx_43 (h.1.tk _ (List.mem_cons_self ..)).1 (by omega) h.1.2.2.1 (by omega))
  intro j
  induction j with
  | zero =>
    intro l ts Pr s hl h h54
    rw [pSpr]
    match hp : pNumR ts with
    | .error r' => exact noN ts r' Pr l s h hp
    | .ok ((v, q), r') =>
      obtain ⟨s2, P2, a1, a2, a3⟩ := h.num46 (ph := ph) hF (pNumR_ok hp)
      rw [List.append_assoc] at a2
      exact ⟨s2, ⟨P2, a2, fun _ => by rw [List.length_append, List.length_singleton]; omega, a3⟩, a1⟩
  | succ j ih =>
    intro l ts Pr s hl h h54
    rw [pSpr_s]
    match hp : pNumR ts with
    | .error r' => exact noN ts r' Pr l s h hp
    | .ok ((v, q), r') =>
      obtain ⟨s2, P2, a1, a2, a3⟩ := h.num46 (ph := ph) hF (pNumR_ok hp)
      rw [List.append_assoc] at a2
      refine zq.pre a1 ?_
      show zq ph R F n f r' s2 (sprT2 j (v, q) r') _
      match r', a2 with
      | [], a2 => exact ⟨s2, ⟨P2, a2, fun e => absurd e (by show (0 : Nat) ≠ 44; omega), a3⟩, zgo.refl⟩
      | (c, p) :: r', a2 =>
        rw [sprT2]
        by_cases hc : c = 44
        · subst hc
          rw [if_pos rfl]
          obtain ⟨s3, P3, b1, b2, b3'⟩ := a2.com47 (ph := ph) (F := F) ((a3.1 0 54 _ (by unfold XSp; omega)).trans h54) (by rw [List.length_append, List.length_singleton]; omega)
          have b3 := XMp.m0 b3'
          refine zq.pre b1 ((ih (l ++ [(v, q)]) r' P3 s3 (by rw [List.length_append, List.length_singleton]; omega) b2 ?_).bind (fun l' r2 s4 _ hK => ⟨s4, ?_, zgo.refl⟩))
          · rw [b3.1 0 54 _ (by unfold XM0; omega), a3.1 0 54 _ (by unfold XSp; omega)]
            exact h54
          · obtain ⟨P4, c1, c2, c3⟩ := hK
            rw [List.append_assoc] at c1 c2
            exact ⟨P4, c1, c2, (a3.trans (XMp.sp b3)).trans c3⟩
        · rw [if_neg hc]
          exact ⟨s2, ⟨P2, a2, fun e => absurd e hc, a3⟩, zgo.refl⟩
/-- what is known of a step behind its last sign but ; -/
def zWk (R n : Nat) (f : Nat → Nat) (Tot : List Nat) (Ths : List Th) (fs p w : Nat) (k : Wk) (r : List Tok) (s' : ax_σ) : Prop := ∃ Pr' md, ZV R n f md r Tot Pr' (Ths.flatMap the ++ k.2.2.2.1) (Ths.flatMap thn ++ k.2.2.2.2) Ths (stk Ths) (2 * fs + 1) s' ∧ (4 ≤ k.1 ∧ k.1 ≤ 12) ∧ s'.1 0 47 Ths.length = nI k.1 ∧ s'.1 0 48 Ths.length = nI p ∧ s'.1 0 49 Ths.length = nI w ∧ (k.1 = 9 ∨ k.1 = 10 → s'.1 0 50 Ths.length = nI k.2.1 ∧ s'.1 0 51 Ths.length = nI k.2.2.1) ∧ (k.1 = 7 ∨ k.1 = 8 ∨ k.1 = 11 → s'.2 0 52 Ths.length = lN k.2.1 ∧ s'.1 0 53 Ths.length = nI k.2.2.1) ∧ (k.1 ≤ 6 → md = 25 ∧ s'.1 0 54 Ths.length = nI (Ths.flatMap the).length) ∧ (k.1 = 12 → md = 47 ∧ s'.1 0 54 Ths.length = nI (Ths.flatMap thn).length ∧ (sg r = 44 → 5 ≤ k.2.2.2.2.length)) ∧ (7 ≤ k.1 ∧ k.1 ≤ 11 → md = 49)
theorem ZV.nT {v q k0 : Nat} (hF : 241 ≤ F) (h : ZV R n f md ts Tot Pr Ops Trs Ths S sec s) (hmd : md = 42 ∨ md = 43 ∨ md = 45) (h47 : s.1 0 47 Ths.length = nI k0) (hp : pNum ts = some (v, q, r)) : ∃ s2 Pr', zgo ph R F n f ts s r s2 ∧ ZV R n f 49 r Tot Pr' Ops Trs Ths S sec s2 ∧ s2.2 0 52 Ths.length = lN v ∧ s2.1 0 53 Ths.length = nI q ∧ s2.1 0 47 Ths.length = nI (if md = 43 then 8 else k0) ∧ frm (XNt Ths.length) s s2 := by
  have hm : Ths.length < 240 := by have := h.2.2.2.2.1; omega
  obtain ⟨s3, b1, b2, b3, b4, b5, b6⟩ := h.1.numT (ph := ph) hF (by omega) h.2.2.2.1 hm h47 hp
  rw [if_neg (by omega)] at b2
  exact ⟨s3, _, b1, h.ofNum b2 (Nat.le_of_lt (pNum_len hp)) b6, b3, b4, b5, b6⟩
theorem zStepW (hF : 241 ≤ F) {w fs : Nat} (h : ZV R n f 40 ts Tot Pr (Ths.flatMap the) (Ths.flatMap thn) Ths (stk Ths) (2 * fs + 1) s) (h48 : s.1 0 48 Ths.length = nI p) (h49 : s.1 0 49 Ths.length = nI w) : zq ph R F n f ts s (pWk ts) (zWk R n f Tot Ths fs p w) := by
  have hm : Ths.length < 240 := by have := h.2.2.2.2.1; omega
  match ts, h with
  | [], h => exact fun G => h.1.nil (by omega)
  | (c, q) :: ts, h =>
    have hc' := (h.1.tk _ (List.mem_cons_self ..)).1
    rw [pWk]
    by_cases hsg : isSg c
    · obtain ⟨s2, P2, a1, a2, a3, a4, a5⟩ := h.sign (ph := ph) (F := F) hsg
      have g48 : s2.1 0 48 Ths.length = nI p := (a5.1 0 48 _ (by unfold XMp; omega)).trans h48
      have g49 : s2.1 0 49 Ths.length = nI w := (a5.1 0 49 _ (by unfold XMp; omega)).trans h49
      refine zq.pre a1 ?_
      have take61 : ∀ (k : Nat) (K : Unit → List Tok → Rd Wk), k < 13 → ZV R n f 41 ts Tot P2 (Ths.flatMap the) (Ths.flatMap thn) Ths (stk Ths) (2 * fs + 1) s2 → s2.1 0 47 Ths.length = nI k → (∀ r s3 P3, ZV R n f (if k = 7 then 42 else 20) r Tot P3 (Ths.flatMap the) (Ths.flatMap thn) Ths (stk Ths) (2 * fs + 1) s3 → frm XM0 s2 s3 → zq ph R F n f r s3 (K () r) (zWk R n f Tot Ths fs p w)) → zq ph R F n f ts s2 (rbind (pTake 61 ts) K) (zWk R n f Tot Ths fs p w) := by
        intro k K hk hz h47 hK
        match ts, hz with
        | [], hz => exact fun G => hz.1.nil (by omega)
        | (d, q2) :: ts, hz =>
          by_cases hd : d = 61
          · subst hd
            obtain ⟨s3, P3, b1, b2, b3⟩ := hz.eq41 (ph := ph) (F := F) h47 hk
            exact zq.pre b1 (hK ts s3 P3 b2 (XMp.m0 b3))
          · have e1 : pTake 61 ((d, q2) :: ts) = .error ((d, q2) :: ts) := by rw [pTake, if_neg hd]
            rw [e1]
            exact fun G => hz.1.rejT (by omega) (zw_z (by unfold wants; omega)) (zx_41 (hz.1.tk _ (List.mem_cons_self ..)).1 hz.1.2.2.1 hz.2.2.2.1 hm h47 hk hd)
      have noNum : ∀ (md : Nat) (ts r' : List Tok) (s3 : ax_σ) (P3 : List Nat), md = 42 ∨ md = 45 → ZV R n f md ts Tot P3 (Ths.flatMap the) (Ths.flatMap thn) Ths (stk Ths) (2 * fs + 1) s3 → pNumR ts = .error r' → ∀ G, zR ph R F n f ts s3 (nI (pl n r')) G := by
        intro md ts r' s3 P3 hmd hz hp
        obtain ⟨hp', e1⟩ := pNumR_er hp
        subst e1
        match r', hz, hp' with
        | [], hz, hp' => exact fun G => hz.1.nil (by omega)
        | (d, q2) :: r', hz, hp' =>
          exact fun G => hz.1.rejT (by omega) (fun e => pNum_none hp' e.2) (zx_43 (hz.1.tk _ (List.mem_cons_self ..)).1 (by omega) hz.1.2.2.1 (by omega))
      by_cases c1 : c = 94 ∨ c = 43 ∨ c = 45
      · rw [if_pos c1]
        have hk : kO c = (if c = 94 then 4 else if c = 43 then 5 else 6) := by
          unfold kO
          rcases c1 with rfl | rfl | rfl <;> rfl
        have hk6 : 4 ≤ kO c ∧ kO c ≤ 6 := by rw [hk]; split <;> (try split) <;> omega
        have hM : kM (kO c) = 41 := by unfold kM; rw [if_pos (by omega)]
        rw [hM] at a2
        rw [if_neg (by omega)] at a4
        refine take61 (kO c) _ (by omega) a2 a3 (fun r s3 P3 b2 b3 => ?_)
        rw [if_neg (by omega)] at b2
        refine (b2.expr hF).bind (fun e r2 s4 _ hK => ⟨s4, ?_, zgo.refl⟩)
        obtain ⟨P4, c2, c3⟩ := hK
        rw [← hk]
        refine ⟨P4, 25, by show ZV R n f 25 r2 Tot P4 (Ths.flatMap the ++ e) (Ths.flatMap thn ++ []) Ths (stk Ths) (2 * fs + 1) s4; rw [List.append_nil]; exact c2, by show 4 ≤ kO c ∧ kO c ≤ 12; omega, ?_, ?_, ?_, fun hx => absurd hx (by show ¬ (kO c = 9 ∨ kO c = 10); omega), fun hx => absurd hx (by show ¬ (kO c = 7 ∨ kO c = 8 ∨ kO c = 11); omega), fun _ => ⟨rfl, ?_⟩, fun hx => absurd hx (by show ¬ kO c = 12; omega), fun hx => absurd hx (by show ¬ (7 ≤ kO c ∧ kO c ≤ 11); omega)⟩
        · rw [c3.1 0 47 _ (by unfold XZe; omega), b3.1 0 47 _ (by unfold XM0; omega)]; exact a3
        · rw [c3.1 0 48 _ (by unfold XZe; omega), b3.1 0 48 _ (by unfold XM0; omega)]; exact g48
        · rw [c3.1 0 49 _ (by unfold XZe; omega), b3.1 0 49 _ (by unfold XM0; omega)]; exact g49
        · rw [c3.1 0 54 _ (by unfold XZe; omega), b3.1 0 54 _ (by unfold XM0; omega)]; exact a4
      · rw [if_neg c1]
        by_cases c2 : c = 42
        · subst c2
          rw [if_pos rfl]
          refine take61 7 _ (by omega) a2 a3 (fun r s3 P3 b2 b3 => ?_)
          rw [if_pos rfl] at b2
          match hp : pNumR r with
          | .error r' => exact noNum 42 r r' s3 P3 (Or.inl rfl) b2 hp
          | .ok ((v, q2), r') =>
            obtain ⟨s4, P4, d1, d2, d3, d4, d5, d6⟩ := b2.nT (ph := ph) hF (Or.inl rfl) ((b3.1 0 47 _ (by unfold XM0; omega)).trans a3) (pNumR_ok hp)
            refine zq.pre d1 ⟨s4, ⟨P4, 49, by show ZV R n f 49 r' Tot P4 (Ths.flatMap the ++ []) (Ths.flatMap thn ++ []) Ths (stk Ths) (2 * fs + 1) s4; rw [List.append_nil, List.append_nil]; exact d2, by show 4 ≤ 7 ∧ 7 ≤ 12; omega, d5, ?_, ?_, fun hx => absurd hx (by show ¬ (7 = 9 ∨ 7 = 10); omega), fun _ => ⟨d3, d4⟩, fun hx => absurd hx (by show ¬ 7 ≤ 6; omega), fun hx => absurd hx (by show ¬ 7 = 12; omega), fun _ => rfl⟩, zgo.refl⟩
            · rw [d6.1 0 48 _ (by unfold XNt; omega), b3.1 0 48 _ (by unfold XM0; omega)]; exact g48
            · rw [d6.1 0 49 _ (by unfold XNt; omega), b3.1 0 49 _ (by unfold XM0; omega)]; exact g49
        · rw [if_neg c2]
          have stW : ∀ (md k : Nat), (md = 43 ∧ k = 9) ∨ (md = 44 ∧ k = 10) → ZV R n f md ts Tot P2 (Ths.flatMap the) (Ths.flatMap thn) Ths (stk Ths) (2 * fs + 1) s2 → (md = 43 → pNum ts = none) → zq ph R F n f ts s2 (rbind (pState ts) (fun wq r => .ok (((k, wq.1, wq.2, [], []) : Wk), r))) (zWk R n f Tot Ths fs p w) := by
            intro md k hmk hz hno
            match ts, hz, hno with
            | [], hz, hno => exact fun G => hz.1.nil (by omega)
            | (d, q2) :: ts, hz, hno =>
              by_cases hd : 65 ≤ d ∧ d ≤ 68
              · have e1 : pState ((d, q2) :: ts) = .ok ((d - 65, q2), ts) := by rw [pState, if_pos hd]
                rw [e1]
                obtain ⟨s3, P3, b1, b2, b3, b4, b5, b6⟩ := hz.st43 (ph := ph) (F := F) (by omega) hd
                have hk : (if md = 43 then 9 else 10) = k := by
                  rcases hmk with ⟨rfl, rfl⟩ | ⟨rfl, rfl⟩ <;> rfl
                rw [hk] at b3
                refine zq.pre b1 ⟨s3, ⟨P3, 49, by show ZV R n f 49 ts Tot P3 (Ths.flatMap the ++ []) (Ths.flatMap thn ++ []) Ths (stk Ths) (2 * fs + 1) s3; rw [List.append_nil, List.append_nil]; exact b2, by show 4 ≤ k ∧ k ≤ 12; omega, b3, ?_, ?_, fun _ => ⟨b4, b5⟩, fun hx => absurd hx (by show ¬ (k = 7 ∨ k = 8 ∨ k = 11); omega), fun hx => absurd hx (by show ¬ k ≤ 6; omega), fun hx => absurd hx (by show ¬ k = 12; omega), fun _ => rfl⟩, zgo.refl⟩
                · rw [b6.1 0 48 _ (by unfold XMp; omega)]; exact g48
                · rw [b6.1 0 49 _ (by unfold XMp; omega)]; exact g49
              · have e1 : pState ((d, q2) :: ts) = .error ((d, q2) :: ts) := by rw [pState, if_neg hd]
                rw [e1]
                refine fun G => hz.1.rejT (by omega) (fun e => ?_) (zx_43 (hz.1.tk _ (List.mem_cons_self ..)).1 (by omega) hz.1.2.2.1 (fun _ => hd))
                rcases hmk with ⟨rfl, _⟩ | ⟨rfl, _⟩
                · exact pNum_none (hno rfl) e.2
                · have := e.1
                  unfold wants at this
                  omega
          by_cases c3 : c = 60
          · subst c3
            rw [if_pos rfl]
            have a2 : ZV R n f 43 ts Tot P2 (Ths.flatMap the) (Ths.flatMap thn) Ths (stk Ths) (2 * fs + 1) s2 := a2
            match hp : pNum ts with
            | none => exact stW 43 9 (Or.inl ⟨rfl, rfl⟩) a2 (fun _ => hp)
            | some (v, q2, r') =>
              obtain ⟨s4, P4, d1, d2, d3, d4, d5, d6⟩ := a2.nT (ph := ph) hF (Or.inr (Or.inl rfl)) a3 hp
              refine zq.pre d1 ⟨s4, ⟨P4, 49, by show ZV R n f 49 r' Tot P4 (Ths.flatMap the ++ []) (Ths.flatMap thn ++ []) Ths (stk Ths) (2 * fs + 1) s4; rw [List.append_nil, List.append_nil]; exact d2, by show 4 ≤ 8 ∧ 8 ≤ 12; omega, d5, ?_, ?_, fun hx => absurd hx (by show ¬ (8 = 9 ∨ 8 = 10); omega), fun _ => ⟨d3, d4⟩, fun hx => absurd hx (by show ¬ 8 ≤ 6; omega), fun hx => absurd hx (by show ¬ 8 = 12; omega), fun _ => rfl⟩, zgo.refl⟩
              · rw [d6.1 0 48 _ (by unfold XNt; omega)]; exact g48
              · rw [d6.1 0 49 _ (by unfold XNt; omega)]; exact g49
          · rw [if_neg c3]
            by_cases c4 : c = 58
            · subst c4
              rw [if_pos rfl]
              exact stW 44 10 (Or.inr ⟨rfl, rfl⟩) a2 (fun e => by omega)
            · rw [if_neg c4]
              by_cases c5 : c = 35
              · subst c5
                rw [if_pos rfl]
                have a2 : ZV R n f 45 ts Tot P2 (Ths.flatMap the) (Ths.flatMap thn) Ths (stk Ths) (2 * fs + 1) s2 := a2
                match hp : pNumR ts with
                | .error r' => exact noNum 45 ts r' s2 P2 (Or.inr rfl) a2 hp
                | .ok ((v, q2), r') =>
                  obtain ⟨s4, P4, d1, d2, d3, d4, d5, d6⟩ := a2.nT (ph := ph) hF (Or.inr (Or.inr rfl)) a3 (pNumR_ok hp)
                  refine zq.pre d1 ⟨s4, ⟨P4, 49, by show ZV R n f 49 r' Tot P4 (Ths.flatMap the ++ []) (Ths.flatMap thn ++ []) Ths (stk Ths) (2 * fs + 1) s4; rw [List.append_nil, List.append_nil]; exact d2, by show 4 ≤ 11 ∧ 11 ≤ 12; omega, d5, ?_, ?_, fun hx => absurd hx (by show ¬ (11 = 9 ∨ 11 = 10); omega), fun _ => ⟨d3, d4⟩, fun hx => absurd hx (by show ¬ 11 ≤ 6; omega), fun hx => absurd hx (by show ¬ 11 = 12; omega), fun _ => rfl⟩, zgo.refl⟩
                  · rw [d6.1 0 48 _ (by unfold XNt; omega)]; exact g48
                  · rw [d6.1 0 49 _ (by unfold XNt; omega)]; exact g49
              · rw [if_neg c5]
                have c6 : c = 64 := by unfold isSg at hsg; omega
                subst c6
                rw [if_pos rfl]
                have a2 : ZV R n f 46 ts Tot P2 (Ths.flatMap the) (Ths.flatMap thn ++ []) Ths (stk Ths) (2 * fs + 1) s2 := by rw [List.append_nil]; exact a2
                have a4 : s2.1 0 54 Ths.length = nI (Ths.flatMap thn).length := a4
                refine (zSpr hF 4 [] ts P2 s2 rfl a2 a4).bind (fun l r3 s4 _ hK => ⟨s4, ?_, zgo.refl⟩)
                obtain ⟨P4, b1, b2, b3⟩ := hK
                refine ⟨P4, 47, by show ZV R n f 47 r3 Tot P4 (Ths.flatMap the ++ []) (Ths.flatMap thn ++ l) Ths (stk Ths) (2 * fs + 1) s4; rw [List.append_nil]; exact b1, by show 4 ≤ 12 ∧ 12 ≤ 12; omega, ?_, ?_, ?_, fun hx => absurd hx (by show ¬ (12 = 9 ∨ 12 = 10); omega), fun hx => absurd hx (by show ¬ (12 = 7 ∨ 12 = 8 ∨ 12 = 11); omega), fun hx => absurd hx (by show ¬ 12 ≤ 6; omega), fun _ => ⟨rfl, ?_, b2⟩, fun hx => absurd hx (by show ¬ (7 ≤ 12 ∧ 12 ≤ 11); omega)⟩
                · rw [b3.1 0 47 _ (by unfold XSp; omega)]; exact a3
                · rw [b3.1 0 48 _ (by unfold XSp; omega)]; exact g48
                · rw [b3.1 0 49 _ (by unfold XSp; omega)]; exact g49
                · rw [b3.1 0 54 _ (by unfold XSp; omega)]; exact a4
    · have e1 : ¬ (c = 94 ∨ c = 43 ∨ c = 45) ∧ c ≠ 42 ∧ c ≠ 60 ∧ c ≠ 58 ∧ c ≠ 35 ∧ c ≠ 64 := by unfold isSg at hsg; omega
      rw [if_neg e1.1, if_neg e1.2.1, if_neg e1.2.2.1, if_neg e1.2.2.2.1, if_neg e1.2.2.2.2.1, if_neg e1.2.2.2.2.2]
      exact fun G => h.1.rejT (by omega) (zw_z (by unfold wants; omega)) (zx_40 hc' h.1.2.2.1 h.2.2.2.1 hm h.1.2.2.2.2.1.1 hsg)
end
