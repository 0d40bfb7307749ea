/-! PURE: a number, a STATE, what they note -/
theorem c_0 : (0 : Int32) = nI 0 := rfl
theorem c_1 : (1 : Int32) = nI 1 := rfl
theorem c_2 : (2 : Int32) = nI 2 := rfl
theorem c_3 : (3 : Int32) = nI 3 := rfl
theorem c_4 : (4 : Int32) = nI 4 := rfl
theorem c_5 : (5 : Int32) = nI 5 := rfl
theorem c_6 : (6 : Int32) = nI 6 := rfl
theorem c_7 : (7 : Int32) = nI 7 := rfl
theorem c_8 : (8 : Int32) = nI 8 := rfl
theorem c_9 : (9 : Int32) = nI 9 := rfl
theorem c_10 : (10 : Int32) = nI 10 := rfl
theorem c_11 : (11 : Int32) = nI 11 := rfl
theorem c_12 : (12 : Int32) = nI 12 := rfl
theorem c_15 : (15 : Int32) = nI 15 := rfl
theorem c_16 : (16 : Int32) = nI 16 := rfl
theorem c_17 : (17 : Int32) = nI 17 := rfl
theorem c_32 : (32 : Int32) = nI 32 := rfl
theorem c_35 : (35 : Int32) = nI 35 := rfl
theorem c_36 : (36 : Int32) = nI 36 := rfl
theorem c_38 : (38 : Int32) = nI 38 := rfl
theorem c_40 : (40 : Int32) = nI 40 := rfl
theorem c_41 : (41 : Int32) = nI 41 := rfl
theorem c_42 : (42 : Int32) = nI 42 := rfl
theorem c_43 : (43 : Int32) = nI 43 := rfl
theorem c_44 : (44 : Int32) = nI 44 := rfl
theorem c_45 : (45 : Int32) = nI 45 := rfl
theorem c_48 : (48 : Int32) = nI 48 := rfl
theorem c_57 : (57 : Int32) = nI 57 := rfl
theorem c_58 : (58 : Int32) = nI 58 := rfl
theorem c_59 : (59 : Int32) = nI 59 := rfl
theorem c_60 : (60 : Int32) = nI 60 := rfl
theorem c_61 : (61 : Int32) = nI 61 := rfl
theorem c_62 : (62 : Int32) = nI 62 := rfl
theorem c_64 : (64 : Int32) = nI 64 := rfl
theorem c_65 : (65 : Int32) = nI 65 := rfl
theorem c_69 : (69 : Int32) = nI 69 := rfl
theorem c_75 : (75 : Int32) = nI 75 := rfl
theorem c_83 : (83 : Int32) = nI 83 := rfl
theorem c_91 : (91 : Int32) = nI 91 := rfl
theorem c_93 : (93 : Int32) = nI 93 := rfl
theorem c_94 : (94 : Int32) = nI 94 := rfl
theorem c_97 : (97 : Int32) = nI 97 := rfl
theorem c_105 : (105 : Int32) = nI 105 := rfl
theorem c_106 : (106 : Int32) = nI 106 := rfl
theorem c_110 : (110 : Int32) = nI 110 := rfl
theorem c_119 : (119 : Int32) = nI 119 := rfl
theorem c_123 : (123 : Int32) = nI 123 := rfl
theorem c_124 : (124 : Int32) = nI 124 := rfl
theorem c_125 : (125 : Int32) = nI 125 := rfl
theorem c_126 : (126 : Int32) = nI 126 := rfl
theorem c_240 : (240 : Int32) = nI 240 := rfl
theorem c_256 : (256 : Int32) = nI 256 := rfl
theorem c_400 : (400 : Int32) = nI 400 := rfl
/-- what the reader's small steps change: where it is, the least fault -/
def RF (g r k : Nat) : Prop := g = 0 ∧ r = 25 ∧ (k = 3 ∨ k = 7)
theorem pDig_len : ∀ (j q v : Nat) (ts : List Tok), (pDig j q v ts).2.length ≤ ts.length
  | 0, q, v, ts => Nat.le_refl _
  | j + 1, q, v, [] => Nat.le_refl _
  | j + 1, q, v, (c, p) :: ts => by
    unfold pDig
    split
    · exact Nat.le_succ_of_le (pDig_len j (q + 1) _ ts)
    · exact Nat.le_refl _
theorem pNum_len {ts r : List Tok} {v p : Nat} (h : pNum ts = some (v, p, r)) : r.length < ts.length := by
  match ts, h with
  | (c, q) :: ts', h =>
    simp only [pNum] at h
    split at h
    · injection h with h
      injection h with h1 h
      injection h with h2 h3
      rw [← h3]
      exact Nat.lt_succ_of_le (pDig_len _ _ _ _)
    · cases h
/-- the least fault behind a number: b is its bound -/
def lfN (lf b v p : Nat) : Nat := if v < b then lf else min lf (p * 8 + 3)
theorem lfN_le (lf b v p : Nat) : lfN lf b v p ≤ lf := by
  unfold lfN; split
  · exact Nat.le_refl _
  · exact Nat.min_le_left _ _
section
variable {n : Nat} {T ts : List Tok} {s : ax_σ}
theorem rd_take_ok' {g c : Nat} {r : List Tok} (h : rdA n T ts s) (hc : c < 128) (hp : pTake c ts = .ok ((), r)) : ∃ s', f_R_take g (nI c) s = some (1, s') ∧ rdA n T r s' ∧ s'.1 0 25 7 = s.1 0 25 7 ∧ pr_fr RF s s' := by
  obtain ⟨e1, e2⟩ := rd_take_ok (g := g) h hc hp
  exact ⟨_, e1, e2, by rw [wI_1, if_neg (by omega)], pr_fr.refl.w 0 25 3 _ ⟨rfl, rfl, Or.inl rfl⟩⟩
theorem rd_num_no {F g b : Nat} (hF : 10 ≤ F) (hb : 0 < b) (hb2 : b < 2 ^ 31) (h : rdA n T ts s) (hp : pNum ts = none) : f_R_takeNumber F g (nI b) s = some (-1, s) := by
  obtain ⟨k, hk1, hk2, hk3⟩ := id h.2
  have hT := h.1.1
  have hat := h.at
  have e0 : pDig 9 (pl n ts + 0) 0 ts = (0, ts) := by
    match ts, hp with
    | [], _ => rfl
    | (c, p) :: ts', hp =>
      simp only [pNum] at hp
      split at hp
      · cases hp
      · rename_i hc
        unfold pDig
        rw [if_neg (fun z => hc z.1)]
  have hpk : s.1 0 27 k = nI (pl n ts) := by
    have := hat.2.1
    rw [hk2, nI_clamp (by omega)] at this; exact this
  obtain ⟨k', e1, -, -⟩ := rd_dig (F := F) (g := g) (k0 := k) (p0 := pl n ts) (nI b) (by omega) hat.2.2.2.1 9 0 F 0 ts s rfl (by omega) (by decide) hpk h
  rw [e0] at e1
  have hz : ∀ m, lp_R_takeNumber_10 F g (nI b) (nI k) m 0 0 s = lp_R_takeNumber_10 F g (nI b) (nI k) m (nI 0) (nI 0) s := fun _ => rfl
  -- the loop stops at once: the state is s itself
  have es : lp_R_takeNumber_10 F g (nI b) (nI k) F (nI 0) (nI 0) s = some (nI 0, s) := by
    obtain ⟨F', rfl⟩ : ∃ F', F = F' + 1 := ⟨F - 1, by omega⟩
    rw [lp_R_takeNumber_10, if_neg (by decide), h.inb, hat.1, rd_digit (by omega)]
    simp only [cond_true, Option.bind_some]
    have hd : ¬ isD (sg ts) = true := by
      match ts, hp with
      | [], _ => decide
      | (c, p) :: ts', hp =>
        simp only [pNum] at hp
        split at hp
        · cases hp
        · assumption
    rw [if_neg hd, if_pos rfl]; rfl
  unfold f_R_takeNumber
  rw [hk2, hz, es]
  simp only [Option.bind_some]
  rw [if_pos ((nI_ltI (by decide) hb2).mpr hb)]
  simp only [Option.bind_some]
  rw [hk2, if_pos rfl]
theorem rd_num_ok {F g b lf v p : Nat} {r : List Tok} (hF : 10 ≤ F) (hb2 : b < 2 ^ 31) (h : rdA n T ts s) (hl : s.1 0 25 7 = nI lf) (hlf : lf ≤ 1928) (hp : pNum ts = some (v, p, r)) : ∃ s', f_R_takeNumber F g (nI b) s = some (nI v, s') ∧ rdA n T r s' ∧ s'.1 0 25 7 = nI (lfN lf b v p) ∧ pr_fr RF s s' ∧ v < 10 ^ 9 ∧ p ≤ 240 := by
  obtain ⟨k, hk1, hk2, hk3⟩ := id h.2
  have hT := h.1.1
  have hat := h.at
  have hlen := pNum_len hp
  have e0 : pDig 9 (pl n ts + 0) 0 ts = (v, r) ∧ pl n ts = p := by
    match ts, hp with
    | (c, q) :: ts', hp =>
      simp only [pNum] at hp
      split at hp
      · rename_i hc
        injection hp with hp
        injection hp with h1 hp
        injection hp with h2 h3
        refine ⟨?_, h2⟩
        show pDig 9 (q + 0) 0 ((c, q) :: ts') = (v, r)
        unfold pDig
        rw [if_pos ⟨hc, rfl⟩]
        rw [Nat.zero_mul, Nat.zero_add, Nat.add_zero]
        exact Prod.ext h1 h3
      · cases hp
  have hpk : s.1 0 27 k = nI (pl n ts) := by
    have := hat.2.1
    rw [hk2, nI_clamp (by omega)] at this; exact this
  obtain ⟨k', e1, e2, e3⟩ := rd_dig (F := F) (g := g) (k0 := k) (p0 := pl n ts) (nI b) (by omega) hat.2.2.2.1 9 0 F 0 ts s rfl (by omega) (by decide) hpk h
  rw [e0.1] at e1 e2 e3
  have hz : lp_R_takeNumber_10 F g (nI b) (nI k) F 0 0 s = some (nI v, ax_wI s 0 25 3 (nI k')) := e1
  have hp240 : p ≤ 240 := by rw [← e0.2]; exact hat.2.2.2.1
  have hne : ¬ nI k' = nI k := by
    obtain ⟨k2, g1, g2, g3⟩ := e2.2
    rw [wI_1, if_pos ⟨rfl, rfl, rfl⟩] at g2
    rw [g2, nI_eq (by omega) (by omega)]
    intro e
    rw [e, ← hk3] at g3
    have g3 : r = ts := g3
    rw [g3] at hlen
    exact Nat.lt_irrefl _ hlen
  have hl2 : (ax_wI s 0 25 3 (nI k')).1 0 25 7 = nI lf := by rw [wI_1, if_neg (by omega)]; exact hl
  have hw7 : ∀ x : Nat, (ax_wI (ax_wI s 0 25 3 (nI k')) 0 25 7 (nI x)).1 0 25 3 = nI k' := fun x => by rw [wI_1, if_neg (by omega), wI_1, if_pos ⟨rfl, rfl, rfl⟩]
  refine ⟨ax_wI (ax_wI s 0 25 3 (nI k')) 0 25 7 (nI (lfN lf b v p)), ?_, e2.keep (rdK_w (by omega)), by rw [wI_1, if_pos ⟨rfl, rfl, rfl⟩], (pr_fr.refl.w 0 25 3 _ ⟨rfl, rfl, Or.inl rfl⟩).w 0 25 7 _ ⟨rfl, rfl, Or.inr rfl⟩, e3, hp240⟩
  unfold f_R_takeNumber
  rw [hk2, hz]
  simp only [Option.bind_some]
  by_cases hv : v < b
  · rw [if_pos ((nI_ltI (by omega) hb2).mpr hv)]
    simp only [Option.bind_some]
    have es : lfN lf b v p = lf := if_pos hv
    have e3' : (ax_wI s 0 25 3 (nI k')).1 0 25 3 = nI k' := by rw [wI_1, if_pos ⟨rfl, rfl, rfl⟩]
    rw [es, wI_self hl2, e3', if_neg hne]
  · rw [if_neg (by rw [nI_ltI (by omega) hb2]; exact hv), pu_in (by omega) (by decide), nI_clamp (by omega)]
    simp only [cond_true]
    have es : lfN lf b v p = min lf (p * 8 + 3) := if_neg hv
    have hpk2 : (ax_wI s 0 25 3 (nI k')).1 0 27 k = nI p := by rw [wI_1, if_neg (by omega), hpk, e0.2]
    rw [hpk2, show (3 : Int32) = nI 3 from rfl, rd_note hl2 (by omega) (by omega)]
    simp only [Option.bind_some]
    rw [hw7, if_neg hne, es]
theorem rd_state_no {g : Nat} (h : rdA n T ts s) {r : List Tok} (hp : pState ts = .error r) : f_R_takeState g s = some (-1, s) ∧ r = ts := by
  have hat := h.at
  have key : ¬ (65 ≤ sg ts ∧ sg ts ≤ 68) → f_R_takeState g s = some (-1, s) := by
    intro hno
    unfold f_R_takeState
    rw [h.inb, hat.1]
    simp only [cond_true]
    by_cases h1 : sg ts < 65
    · rw [if_pos (by rw [show (65 : Int32) = nI 65 from rfl, nI_ltI (by omega) (by decide)]; exact h1)]; rfl
    · rw [if_neg (by rw [show (65 : Int32) = nI 65 from rfl, nI_ltI (by omega) (by decide)]; exact h1), if_neg (by rw [show (69 : Int32) = nI 69 from rfl, nI_ltI (by omega) (by decide)]; omega)]; rfl
  match ts, hp, key with
  | [], hp, key =>
    cases hp
    exact ⟨key (by show ¬ (65 ≤ 0 ∧ 0 ≤ 68); omega), rfl⟩
  | (c, p) :: ts', hp, key =>
    simp only [pState] at hp
    split at hp
    · cases hp
    · rename_i hc
      cases hp
      exact ⟨key hc, rfl⟩
theorem rd_state_ok {g lf sn w p : Nat} {r : List Tok} (h : rdA n T ts s) (hl : s.1 0 25 7 = nI lf) (hlf : lf ≤ 1928) (hs : s.1 0 25 8 = nI sn) (hsn : sn < 2 ^ 31) (hp : pState ts = .ok ((w, p), r)) : ∃ s', f_R_takeState g s = some (nI w, s') ∧ rdA n T r s' ∧ s'.1 0 25 7 = nI (if w < sn then lf else min lf (p * 8 + 4)) ∧ pr_fr RF s s' ∧ w < 4 ∧ p ≤ 240 := by
  match ts, hp, h with
  | (c, q) :: ts', hp, h =>
    have hat := h.at
    simp only [pState] at hp
    split at hp
    · rename_i hc
      injection hp with hp
      injection hp with hp1 hp2
      injection hp1 with hp1 hp3
      subst hp1 hp2 hp3
      have hq : q ≤ 240 := hat.2.2.2.1
      have ew : nI c - nI 65 = nI (c - 65) := by
        have a3 : nI c = nI (c - 65) + nI 65 := by
          rw [nI_add, show c - 65 + 65 = c by omega]
        rw [a3]; exact Int32.add_sub_cancel _ _
      have h1 : s.1 0 26 (s.1 0 25 3).toNatClampNeg = nI c := hat.1
      have h2 : s.1 0 27 (s.1 0 25 3).toNatClampNeg = nI q := hat.2.1
      have hn := rd_note (g := g) (s := s) (p := q) (c := 4) hl (by omega) (by omega)
      by_cases hw : c - 65 < sn
      · refine ⟨ax_wI s 0 25 3 (s.1 0 25 3 + 1), ?_, h.step, by rw [if_pos hw, wI_1, if_neg (by omega)]; exact hl, pr_fr.refl.w 0 25 3 _ ⟨rfl, rfl, Or.inl rfl⟩, by omega, hq⟩
        unfold f_R_takeState
        simp (disch := omega) only [h.inb, h1, h2, c_65, c_69, nI_ltI, if_pos, if_neg, cond_true, cond_false, Option.bind_some, ew, hs, ax_let]
      · have hst : rdA n T ts' (ax_wI (ax_wI s 0 25 7 (nI (min lf (q * 8 + 4)))) 0 25 3 ((ax_wI s 0 25 7 (nI (min lf (q * 8 + 4)))).1 0 25 3 + 1)) := (h.keep (rdK_w (by omega))).step
        refine ⟨_, ?_, hst, by rw [if_neg hw, wI_1, if_neg (by omega), wI_1, if_pos ⟨rfl, rfl, rfl⟩], (pr_fr.refl.w 0 25 7 _ ⟨rfl, rfl, Or.inr rfl⟩).w 0 25 3 _ ⟨rfl, rfl, Or.inl rfl⟩, by omega, hq⟩
        unfold f_R_takeState
        simp (disch := omega) only [h.inb, h1, h2, c_4, c_65, c_69, nI_ltI, if_pos, if_neg, cond_true, cond_false, Option.bind_some, ew, hs, hn, ax_let]
    · cases hp
end
