/-! PURE: the reference reads a block -/
theorem pSpr_len : ∀ (j : Nat) (ts r : List Tok) (l : List (Nat × Nat)), pSpr j ts = .ok (l, r) → r.length < ts.length
  | 0, ts, r, l, h => by
    rw [pSpr] at h
    obtain ⟨vq, r', h1, h2⟩ := rb_ok h
    cases h2
    exact pNum_len (pNumR_ok (v := vq.1) (p := vq.2) h1)
  | j + 1, ts, r, l, h => by
    rw [pSpr_s] at h
    obtain ⟨vq, r', h1, h2⟩ := rb_ok h
    have hl := pNum_len (pNumR_ok (v := vq.1) (p := vq.2) h1)
    match r', h2, hl with
    | [], h2, hl => cases h2; exact hl
    | (c, p) :: r', h2, hl =>
      rw [sprT2] at h2
      by_cases hc : c = 44
      · rw [if_pos hc] at h2
        obtain ⟨l', r2, h3, h4⟩ := rb_ok h2
        cases h4
        have := pSpr_len j r' r l' h3
        rw [List.length_cons] at hl
        omega
      · rw [if_neg hc] at h2
        cases h2
        exact hl
theorem pState_len {ts r : List Tok} {w : Nat × Nat} (h : pState ts = .ok (w, r)) : r.length < ts.length := by
  match ts, h with
  | (c, p) :: ts, h =>
    rw [pState] at h
    by_cases hc : 65 ≤ c ∧ c ≤ 68
    · rw [if_pos hc] at h
      cases h
      rw [List.length_cons]; omega
    · rw [if_neg hc] at h; cases h
theorem pNumR_len {ts r : List Tok} {w : Nat × Nat} (h : pNumR ts = .ok (w, r)) : r.length < ts.length := pNum_len (pNumR_ok (v := w.1) (p := w.2) h)
theorem pTakeU_len {c : Nat} {ts r : List Tok} {u : Unit} (h : pTake c ts = .ok (u, r)) : ts.length = r.length + 1 := pTake_len (by cases u; exact h)
theorem pWk_len {ts r : List Tok} {k : Wk} (h : pWk ts = .ok (k, r)) : r.length < ts.length := by
  match ts, h with
  | (c, p) :: ts, h =>
    rw [List.length_cons]
    rw [pWk] at h
    by_cases c1 : c = 94 ∨ c = 43 ∨ c = 45
    · rw [if_pos c1] at h
      obtain ⟨u, r1, h1, h2⟩ := rb_ok h
      obtain ⟨e, r2, h3, h4⟩ := rb_ok h2
      cases h4
      have a1 := pTakeU_len h1
      have a2 := pEx_len (by omega) h3
      omega
    · rw [if_neg c1] at h
      by_cases c2 : c = 42
      · rw [if_pos c2] at h
        obtain ⟨u, r1, h1, h2⟩ := rb_ok h
        obtain ⟨e, r2, h3, h4⟩ := rb_ok h2
        cases h4
        have a1 := pTakeU_len h1
        have a2 := pNumR_len h3
        omega
      · rw [if_neg c2] at h
        by_cases c3 : c = 60
        · rw [if_pos c3] at h
          match hp : pNum ts, h with
          | some (v, q, r1), h =>
            cases h
            have := pNum_len hp
            omega
          | none, h =>
            obtain ⟨u, r1, h1, h2⟩ := rb_ok h
            cases h2
            have := pState_len h1
            omega
        · rw [if_neg c3] at h
          by_cases c4 : c = 58
          · rw [if_pos c4] at h
            obtain ⟨u, r1, h1, h2⟩ := rb_ok h
            cases h2
            have := pState_len h1
            omega
          · rw [if_neg c4] at h
            by_cases c5 : c = 35
            · rw [if_pos c5] at h
              obtain ⟨u, r1, h1, h2⟩ := rb_ok h
              cases h2
              have := pNumR_len h1
              omega
            · rw [if_neg c5] at h
              by_cases c6 : c = 64
              · rw [if_pos c6] at h
                obtain ⟨u, r1, h1, h2⟩ := rb_ok h
                cases h2
                have := pSpr_len _ _ _ _ h1
                omega
              · rw [if_neg c6] at h; cases h
theorem pTh_len {wr : Bool} {o c p : Nat} {ts r : List Tok} {t : Th} (h : pTh wr o ((c, p) :: ts) = .ok (t, r)) : r.length ≤ ts.length := by
  rw [pTh] at h
  by_cases c1 : c = 105 ∨ c = 106
  · rw [if_pos c1] at h
    by_cases o2 : o = 2
    · rw [if_pos o2] at h; cases h
    · rw [if_neg o2] at h
      obtain ⟨u, r1, h1, h2⟩ := rb_ok h
      obtain ⟨e, r2, h3, h4⟩ := rb_ok h2
      cases h4
      have a1 := pNumR_len h1
      have a2 := pTakeU_len h3
      omega
  · rw [if_neg c1] at h
    by_cases c2 : c = 93
    · rw [if_pos c2] at h
      by_cases o2 : o = 0
      · rw [if_pos o2] at h; cases h
      · rw [if_neg o2] at h
        cases h
        exact Nat.le_refl _
    · rw [if_neg c2] at h
      by_cases hw : wr = true
      · rw [if_pos hw] at h
        by_cases c3 : c = 62
        · rw [if_pos c3] at h
          obtain ⟨u, r1, h1, h2⟩ := rb_ok h
          obtain ⟨e, r2, h3, h4⟩ := rb_ok h2
          cases h4
          have a1 := pEx_len (by omega) h1
          have a2 := pTakeU_len h3
          omega
        · rw [if_neg c3] at h; cases h
      · rw [if_neg hw] at h
        by_cases c3 : 65 ≤ c ∧ c ≤ 68
        · rw [if_pos c3] at h
          obtain ⟨u, r1, h1, h2⟩ := rb_ok h
          obtain ⟨e, r2, h3, h4⟩ := rb_ok h2
          cases h4
          have a1 := pWk_len h1
          have a2 := pTakeU_len h3
          omega
        · rw [if_neg c3] at h; cases h
/-- outside the blocks -/
def ZQ (R n : Nat) (f : Nat → Nat) (md : Nat) (ts : List Tok) (Tot Pr : List Nat) (Ths : List Th) (sec : Nat) (s : ax_σ) : Prop := ZE R n f md ts Tot Pr (Ths.flatMap the) ((Ths.flatMap the).flatMap opT) [] s ∧ ZU (Ths.flatMap thn) s ∧ ZG Ths (stk Ths) sec s ∧ s.1 0 38 22 = nI Ths.length ∧ (Ths.length + ts.length ≤ 240 ∧ (Ths.flatMap thn).length + ts.length ≤ 240) ∧ WF Ths ∧ stk Ths = []
section
variable {ph R F n : Nat} {f : Nat → Nat} {ts r r2 : List Tok} {s s' s1 s2 s0 : ax_σ} {md md' c p m sec : Nat} {Tot Pr : List Nat} {Ops Ops' : List Op} {Trs : List (Nat × Nat)} {Ths : List Th} {S : List Nat}
theorem zStep {fs : Nat} (hF : 241 ≤ F) (h : ZS R n f ((c, p) :: ts) Tot Pr Ths (2 * fs + 1) s) (hc : 65 ≤ c ∧ c ≤ 68) : zq ph R F n f ((c, p) :: ts) s (rbind (pWk ts) (fun k r => rbind (pTake 59 r) (fun _ r' => .ok (((k.1, p, c - 65, k.2.1, k.2.2.1, k.2.2.2.1, k.2.2.2.2) : Th), r')))) (fun t r s' => ∃ Pr', ZS R n f r Tot Pr' (Ths ++ [t]) (2 * fs + 1) s') := by
  obtain ⟨s2, P2, a1, a2, a3, a4, a5⟩ := h.st1 (ph := ph) (F := F) hc
  refine zq.pre a1 ((zStepW hF a2 a4 a5).bind (fun k r s3 _ hK => ?_))
  obtain ⟨P3, md, b1, b2, b3, b4, b5, b6, b7, b8, b9, b10⟩ := hK
  have hm : Ths.length < 240 := by have := b1.2.2.2.2.1; omega
  have hmd : (k.1 ≤ 6 ∧ md = 25) ∨ (k.1 = 12 ∧ md = 47) ∨ ((7 ≤ k.1 ∧ k.1 ≤ 11) ∧ md = 49) := by
    by_cases h1 : k.1 ≤ 6
    · exact Or.inl ⟨h1, (b8 h1).1⟩
    · by_cases h2 : k.1 = 12
      · exact Or.inr (Or.inl ⟨h2, (b9 h2).1⟩)
      · exact Or.inr (Or.inr ⟨by omega, b10 (by omega)⟩)
  match r, b1, b9 with
  | [], b1, b9 => exact fun G => b1.1.nil (by omega)
  | (d, q) :: r, b1, b9 =>
    by_cases hd : d = 59
    · subst hd
      have key : ∃ s4 P4, zgo ph R F n f ((59, q) :: r) s3 r s4 ∧ ZV R n f 10 r Tot P4 (Ths.flatMap the ++ k.2.2.2.1) (Ths.flatMap thn ++ k.2.2.2.2) Ths (stk Ths) (2 * fs + 1) s4 ∧ s4.1 0 55 Ths.length = nI (if k.1 ≤ 6 then (Ths.flatMap the ++ k.2.2.2.1).length else (Ths.flatMap thn ++ k.2.2.2.2).length) ∧ frm (fun g r k => g = 0 ∧ (r = 67 ∨ (r = 38 ∧ (k = 7 ∨ k = 51)) ∨ (r = 55 ∧ k = Ths.length))) s3 s4 := by
        rcases hmd with ⟨m1, rfl⟩ | ⟨m1, rfl⟩ | ⟨m1, rfl⟩
        · obtain ⟨s4, P4, c1, c2, c3, c4⟩ := b1.semi25 (ph := ph) (F := F)
          exact ⟨s4, P4, c1, c2, by rw [if_pos m1]; exact c3, c4⟩
        · obtain ⟨s4, P4, c1, c2, c3, c4⟩ := b1.semi49 (ph := ph) (F := F) (Or.inl rfl)
          exact ⟨s4, P4, c1, c2, by rw [if_neg (by omega)]; exact c3, c4.imp (fun g r k h => by unfold XMp at h; omega)⟩
        · obtain ⟨s4, P4, c1, c2, c3, c4⟩ := b1.semi49 (ph := ph) (F := F) (Or.inr rfl)
          exact ⟨s4, P4, c1, c2, by rw [if_neg (by omega)]; exact c3, c4.imp (fun g r k h => by unfold XMp at h; omega)⟩
      obtain ⟨s4, P4, c1, c2, c3, c4⟩ := key
      refine zq.pre c1 ⟨s4, ⟨P4, ?_⟩, zgo.refl⟩
      refine ZV.done (t := (k.1, p, c - 65, k.2.1, k.2.2.1, k.2.2.2.1, k.2.2.2.2)) c2 h.2.2.2.2.2 (by show k.1 ≠ 3; omega) ⟨?_, ?_, fun _ => ?_, fun hx => ⟨?_, ?_⟩, fun hx => ⟨?_, ?_⟩, fun hx => ⟨?_, ?_⟩, fun hx => ⟨?_, ?_⟩⟩ ?_
      · rw [c4.1 0 47 _ (by omega)]; exact b3
      · rw [c4.1 0 48 _ (by omega)]; exact b4
      · rw [c4.1 0 49 _ (by omega)]; exact b5
      · rw [c4.1 0 50 _ (by omega)]; exact (b6 hx).1
      · rw [c4.1 0 51 _ (by omega)]; exact (b6 hx).2
      · rw [c4.2 0 52 _ (by omega)]
        have hx : k.1 = 2 ∨ k.1 = 7 ∨ k.1 = 8 ∨ k.1 = 11 := hx
        exact (b7 (by omega)).1
      · rw [c4.1 0 53 _ (by omega)]
        have hx : k.1 = 2 ∨ k.1 = 7 ∨ k.1 = 8 ∨ k.1 = 11 := hx
        exact (b7 (by omega)).2
      · rw [c4.1 0 54 _ (by omega)]
        have hx : k.1 = 1 ∨ k.1 = 4 ∨ k.1 = 5 ∨ k.1 = 6 := hx
        exact (b8 (by omega)).2
      · have hx : k.1 = 1 ∨ k.1 = 4 ∨ k.1 = 5 ∨ k.1 = 6 := hx
        rw [c3, if_pos (by omega), List.length_append]
        rfl
      · rw [c4.1 0 54 _ (by omega)]; exact (b9 hx).2.1
      · have hx : k.1 = 12 := hx
        rw [c3, if_neg (by omega), List.length_append]
        rfl
      · unfold stkA
        rw [if_neg (by show ¬ k.1 = 2; omega), if_neg (by show ¬ k.1 = 3; omega)]
    · have e1 : pTake 59 ((d, q) :: r) = .error ((d, q) :: r) := by rw [pTake, if_neg hd]
      rw [e1]
      have hdc := (b1.1.tk _ (List.mem_cons_self ..)).1
      rcases hmd with ⟨m1, rfl⟩ | ⟨m1, rfl⟩ | ⟨m1, rfl⟩
      · exact fun G => b1.1.rej (by omega) (zw_z (by unfold wants; omega)) (zx_25 hdc b1.1.2.2.1 hd)
      · refine fun G => b1.1.rejT (by omega) (zw_z (by unfold wants; omega)) (zx_47f hdc b1.1.2.2.1 b1.2.2.2.1 hm b1.2.1.1 (by have := b1.2.2.2.2.2; omega) (b9 m1).2.1 hd (fun e => (b9 m1).2.2 e))
      · exact fun G => b1.1.rejT (by omega) (zw_z (by unfold wants; omega)) (zx_49 hdc b1.1.2.2.1 hd)
theorem zx_10 {c p o : Nat} (hc : c < 128) (h7 : s.1 0 38 7 = nI 10) (h19 : s.1 0 38 19 = nI sec) (hs : sec < 2) (h20 : s.1 0 38 20 = nI o) (ho : o ≤ 2) (h1 : ¬ (c = 62 ∧ sec = 0)) (h2 : c = 105 ∨ c = 106 → o = 2) (h3 : ¬ (c = 93 ∧ 0 < o)) (h4 : ¬ (c = 125 ∧ o = 0)) (h5 : ¬ ((65 ≤ c ∧ c ≤ 68) ∧ sec = 1)) : ∃ s1, zdis F 10 c p s = some (nI 0, s1) ∧ frm XZt s s1 := by
  refine ⟨s, ?_, frm.refl⟩
  have hl := zl hc
  have hst := zs hc
  unfold zdis f_Z_acceptsThing
  by_cases c1 : c = 62
  · subst c1
    have l2 : f_Z_isLetter (nI 62) = some (nI 0) := rfl
    have s2 : f_Z_isState (nI 62) = some (nI 0) := rfl
    simp (disch := omega) only [ax_let, Option.bind_some, cond_true, cond_false, if_pos, if_neg, if_true, if_false, eq_self, nI_add, nI_ltI, nI_leI, nI_eq, nI_clamp, pu_in, c_0, c_1, c_2, c_3, c_4, c_5, c_6, c_7, c_8, c_9, c_10, c_11, c_12, c_15, c_16, c_17, c_32, c_35, c_36, c_38, c_40, c_41, c_42, c_43, c_44, c_45, c_48, c_57, c_58, c_59, c_60, c_61, c_62, c_64, c_65, c_69, c_75, c_83, c_91, c_93, c_94, c_97, c_105, c_106, c_110, c_119, c_123, c_124, c_125, c_126, c_240, c_256, c_400, c_m, nI_m1, nM_i, lN_add, lN_mul, lN_i, nI_l, lN_eq, lgN_le, lgN_lt, lgN_ge, lgN_gt, nI_sub, nI_mul, d_0, d_1, c_13, c_14, c_18, c_19, c_20, c_21, c_22, c_23, c_24, c_25, c_26, c_27, c_28, c_29, c_30, c_31, c_33, c_34, c_37, c_39, c_46, c_47, c_49, c_50, c_51, c_52, c_53, c_54, c_55, c_56, c_63, c_66, c_67, c_68, c_70, c_71, c_72, c_73, c_74, c_76, c_77, c_78, c_79, c_80, c_81, c_82, c_84, c_85, c_86, c_87, c_88, c_89, c_90, c_92, c_95, c_96, c_98, c_99, c_100, c_101, c_102, c_103, c_104, c_107, c_108, c_109, c_111, c_112, c_113, c_114, c_115, c_116, c_117, c_118, c_120, c_121, c_122, c_127, c_280, d_2, d_3, d_4, d_8, d_9, d_10, d_15, d_16, d_32, d_48, d_62, d_63, d_64, h7, h19, l2, s2, h20]
  · by_cases c2 : c = 105 ∨ c = 106
    · rw [if_pos c2] at hl
      rw [if_neg (by omega)] at hst
      have := h2 c2
      simp (disch := omega) only [ax_let, Option.bind_some, cond_true, cond_false, if_pos, if_neg, if_true, if_false, eq_self, nI_add, nI_ltI, nI_leI, nI_eq, nI_clamp, pu_in, c_0, c_1, c_2, c_3, c_4, c_5, c_6, c_7, c_8, c_9, c_10, c_11, c_12, c_15, c_16, c_17, c_32, c_35, c_36, c_38, c_40, c_41, c_42, c_43, c_44, c_45, c_48, c_57, c_58, c_59, c_60, c_61, c_62, c_64, c_65, c_69, c_75, c_83, c_91, c_93, c_94, c_97, c_105, c_106, c_110, c_119, c_123, c_124, c_125, c_126, c_240, c_256, c_400, c_m, nI_m1, nM_i, lN_add, lN_mul, lN_i, nI_l, lN_eq, lgN_le, lgN_lt, lgN_ge, lgN_gt, nI_sub, nI_mul, d_0, d_1, c_13, c_14, c_18, c_19, c_20, c_21, c_22, c_23, c_24, c_25, c_26, c_27, c_28, c_29, c_30, c_31, c_33, c_34, c_37, c_39, c_46, c_47, c_49, c_50, c_51, c_52, c_53, c_54, c_55, c_56, c_63, c_66, c_67, c_68, c_70, c_71, c_72, c_73, c_74, c_76, c_77, c_78, c_79, c_80, c_81, c_82, c_84, c_85, c_86, c_87, c_88, c_89, c_90, c_92, c_95, c_96, c_98, c_99, c_100, c_101, c_102, c_103, c_104, c_107, c_108, c_109, c_111, c_112, c_113, c_114, c_115, c_116, c_117, c_118, c_120, c_121, c_122, c_127, c_280, d_2, d_3, d_4, d_8, d_9, d_10, d_15, d_16, d_32, d_48, d_62, d_63, d_64, h7, h19, hl, hst, h20]
    · rw [if_neg c2] at hl
      by_cases c3 : c = 93
      · subst c3
        have s2 : f_Z_isState (nI 93) = some (nI 0) := rfl
        simp (disch := omega) only [ax_let, Option.bind_some, cond_true, cond_false, if_pos, if_neg, if_true, if_false, eq_self, nI_add, nI_ltI, nI_leI, nI_eq, nI_clamp, pu_in, c_0, c_1, c_2, c_3, c_4, c_5, c_6, c_7, c_8, c_9, c_10, c_11, c_12, c_15, c_16, c_17, c_32, c_35, c_36, c_38, c_40, c_41, c_42, c_43, c_44, c_45, c_48, c_57, c_58, c_59, c_60, c_61, c_62, c_64, c_65, c_69, c_75, c_83, c_91, c_93, c_94, c_97, c_105, c_106, c_110, c_119, c_123, c_124, c_125, c_126, c_240, c_256, c_400, c_m, nI_m1, nM_i, lN_add, lN_mul, lN_i, nI_l, lN_eq, lgN_le, lgN_lt, lgN_ge, lgN_gt, nI_sub, nI_mul, d_0, d_1, c_13, c_14, c_18, c_19, c_20, c_21, c_22, c_23, c_24, c_25, c_26, c_27, c_28, c_29, c_30, c_31, c_33, c_34, c_37, c_39, c_46, c_47, c_49, c_50, c_51, c_52, c_53, c_54, c_55, c_56, c_63, c_66, c_67, c_68, c_70, c_71, c_72, c_73, c_74, c_76, c_77, c_78, c_79, c_80, c_81, c_82, c_84, c_85, c_86, c_87, c_88, c_89, c_90, c_92, c_95, c_96, c_98, c_99, c_100, c_101, c_102, c_103, c_104, c_107, c_108, c_109, c_111, c_112, c_113, c_114, c_115, c_116, c_117, c_118, c_120, c_121, c_122, c_127, c_280, d_2, d_3, d_4, d_8, d_9, d_10, d_15, d_16, d_32, d_48, d_62, d_63, d_64, h7, h19, hl, s2, h20]
      · by_cases c4 : c = 125
        · subst c4
          have s2 : f_Z_isState (nI 125) = some (nI 0) := rfl
          simp (disch := omega) only [ax_let, Option.bind_some, cond_true, cond_false, if_pos, if_neg, if_true, if_false, eq_self, nI_add, nI_ltI, nI_leI, nI_eq, nI_clamp, pu_in, c_0, c_1, c_2, c_3, c_4, c_5, c_6, c_7, c_8, c_9, c_10, c_11, c_12, c_15, c_16, c_17, c_32, c_35, c_36, c_38, c_40, c_41, c_42, c_43, c_44, c_45, c_48, c_57, c_58, c_59, c_60, c_61, c_62, c_64, c_65, c_69, c_75, c_83, c_91, c_93, c_94, c_97, c_105, c_106, c_110, c_119, c_123, c_124, c_125, c_126, c_240, c_256, c_400, c_m, nI_m1, nM_i, lN_add, lN_mul, lN_i, nI_l, lN_eq, lgN_le, lgN_lt, lgN_ge, lgN_gt, nI_sub, nI_mul, d_0, d_1, c_13, c_14, c_18, c_19, c_20, c_21, c_22, c_23, c_24, c_25, c_26, c_27, c_28, c_29, c_30, c_31, c_33, c_34, c_37, c_39, c_46, c_47, c_49, c_50, c_51, c_52, c_53, c_54, c_55, c_56, c_63, c_66, c_67, c_68, c_70, c_71, c_72, c_73, c_74, c_76, c_77, c_78, c_79, c_80, c_81, c_82, c_84, c_85, c_86, c_87, c_88, c_89, c_90, c_92, c_95, c_96, c_98, c_99, c_100, c_101, c_102, c_103, c_104, c_107, c_108, c_109, c_111, c_112, c_113, c_114, c_115, c_116, c_117, c_118, c_120, c_121, c_122, c_127, c_280, d_2, d_3, d_4, d_8, d_9, d_10, d_15, d_16, d_32, d_48, d_62, d_63, d_64, h7, h19, hl, s2, h20]
        · by_cases c5 : 65 ≤ c ∧ c ≤ 68
          · rw [if_pos c5] at hst
            simp (disch := omega) only [ax_let, Option.bind_some, cond_true, cond_false, if_pos, if_neg, if_true, if_false, eq_self, nI_add, nI_ltI, nI_leI, nI_eq, nI_clamp, pu_in, c_0, c_1, c_2, c_3, c_4, c_5, c_6, c_7, c_8, c_9, c_10, c_11, c_12, c_15, c_16, c_17, c_32, c_35, c_36, c_38, c_40, c_41, c_42, c_43, c_44, c_45, c_48, c_57, c_58, c_59, c_60, c_61, c_62, c_64, c_65, c_69, c_75, c_83, c_91, c_93, c_94, c_97, c_105, c_106, c_110, c_119, c_123, c_124, c_125, c_126, c_240, c_256, c_400, c_m, nI_m1, nM_i, lN_add, lN_mul, lN_i, nI_l, lN_eq, lgN_le, lgN_lt, lgN_ge, lgN_gt, nI_sub, nI_mul, d_0, d_1, c_13, c_14, c_18, c_19, c_20, c_21, c_22, c_23, c_24, c_25, c_26, c_27, c_28, c_29, c_30, c_31, c_33, c_34, c_37, c_39, c_46, c_47, c_49, c_50, c_51, c_52, c_53, c_54, c_55, c_56, c_63, c_66, c_67, c_68, c_70, c_71, c_72, c_73, c_74, c_76, c_77, c_78, c_79, c_80, c_81, c_82, c_84, c_85, c_86, c_87, c_88, c_89, c_90, c_92, c_95, c_96, c_98, c_99, c_100, c_101, c_102, c_103, c_104, c_107, c_108, c_109, c_111, c_112, c_113, c_114, c_115, c_116, c_117, c_118, c_120, c_121, c_122, c_127, c_280, d_2, d_3, d_4, d_8, d_9, d_10, d_15, d_16, d_32, d_48, d_62, d_63, d_64, h7, h19, hl, hst, h20]
          · rw [if_neg c5] at hst
            simp (disch := omega) only [ax_let, Option.bind_some, cond_true, cond_false, if_pos, if_neg, if_true, if_false, eq_self, nI_add, nI_ltI, nI_leI, nI_eq, nI_clamp, pu_in, c_0, c_1, c_2, c_3, c_4, c_5, c_6, c_7, c_8, c_9, c_10, c_11, c_12, c_15, c_16, c_17, c_32, c_35, c_36, c_38, c_40, c_41, c_42, c_43, c_44, c_45, c_48, c_57, c_58, c_59, c_60, c_61, c_62, c_64, c_65, c_69, c_75, c_83, c_91, c_93, c_94, c_97, c_105, c_106, c_110, c_119, c_123, c_124, c_125, c_126, c_240, c_256, c_400, c_m, nI_m1, nM_i, lN_add, lN_mul, lN_i, nI_l, lN_eq, lgN_le, lgN_lt, lgN_ge, lgN_gt, nI_sub, nI_mul, d_0, d_1, c_13, c_14, c_18, c_19, c_20, c_21, c_22, c_23, c_24, c_25, c_26, c_27, c_28, c_29, c_30, c_31, c_33, c_34, c_37, c_39, c_46, c_47, c_49, c_50, c_51, c_52, c_53, c_54, c_55, c_56, c_63, c_66, c_67, c_68, c_70, c_71, c_72, c_73, c_74, c_76, c_77, c_78, c_79, c_80, c_81, c_82, c_84, c_85, c_86, c_87, c_88, c_89, c_90, c_92, c_95, c_96, c_98, c_99, c_100, c_101, c_102, c_103, c_104, c_107, c_108, c_109, c_111, c_112, c_113, c_114, c_115, c_116, c_117, c_118, c_120, c_121, c_122, c_127, c_280, d_2, d_3, d_4, d_8, d_9, d_10, d_15, d_16, d_32, d_48, d_62, d_63, d_64, h7, h19, hl, hst, h20]
theorem ZS.brace {fs : Nat} (h : ZS R n f ((125, p) :: ts) Tot Pr Ths sec s) (hs : sec = 0 ∨ sec = 2 * fs + 1) (hS : stk Ths = []) : ∃ s2 Pr', zgo ph R F n f ((125, p) :: ts) s ts s2 ∧ ZQ R n f (if sec = 0 then 50 else 60) ts Tot Pr' Ths (if sec = 0 then 2 * Ths.length else sec) s2 := by
  obtain ⟨h1, h2, h3, h4, ⟨h5, h6⟩, h7⟩ := h
  rw [List.length_cons] at h5 h6
  obtain ⟨g1, g2, g3, g4⟩ := h3
  have h20 : s.1 0 38 20 = nI 0 := by have := g4.1; rw [hS] at this; exact this
  have hl : f_Z_isLetter (nI 125) = some (nI 0) := rfl
  have f1 : frm (fun g r k => g = 0 ∧ r = 38 ∧ (k = 7 ∨ k = 23)) s (ax_wI (ax_wI s 0 38 7 (nI (if sec = 0 then 50 else 60))) 0 38 23 (nI (if sec = 0 then Ths.length else sec / 2))) := by
    refine (frm.refl.wI _ _ _ _ ?_).wI _ _ _ _ ?_ <;> omega
  have hD : zdis F 10 125 p s = some (nI 1, ax_wI (ax_wI s 0 38 7 (nI (if sec = 0 then 50 else 60))) 0 38 23 (nI (if sec = 0 then Ths.length else sec / 2))) := by
    have h7' := h1.2.2.1
    unfold zdis f_Z_acceptsThing
    rcases hs with rfl | rfl
    · have h19 : s.1 0 38 19 = nI 0 := g3.1
      simp (disch := omega) only [ax_let, Option.bind_some, cond_true, cond_false, if_pos, if_neg, if_true, if_false, eq_self, nI_add, nI_ltI, nI_leI, nI_eq, nI_clamp, pu_in, c_0, c_1, c_2, c_3, c_4, c_5, c_6, c_7, c_8, c_9, c_10, c_11, c_12, c_15, c_16, c_17, c_32, c_35, c_36, c_38, c_40, c_41, c_42, c_43, c_44, c_45, c_48, c_57, c_58, c_59, c_60, c_61, c_62, c_64, c_65, c_69, c_75, c_83, c_91, c_93, c_94, c_97, c_105, c_106, c_110, c_119, c_123, c_124, c_125, c_126, c_240, c_256, c_400, c_m, nI_m1, nM_i, lN_add, lN_mul, lN_i, nI_l, lN_eq, lgN_le, lgN_lt, lgN_ge, lgN_gt, nI_sub, nI_mul, d_0, d_1, c_13, c_14, c_18, c_19, c_20, c_21, c_22, c_23, c_24, c_25, c_26, c_27, c_28, c_29, c_30, c_31, c_33, c_34, c_37, c_39, c_46, c_47, c_49, c_50, c_51, c_52, c_53, c_54, c_55, c_56, c_63, c_66, c_67, c_68, c_70, c_71, c_72, c_73, c_74, c_76, c_77, c_78, c_79, c_80, c_81, c_82, c_84, c_85, c_86, c_87, c_88, c_89, c_90, c_92, c_95, c_96, c_98, c_99, c_100, c_101, c_102, c_103, c_104, c_107, c_108, c_109, c_111, c_112, c_113, c_114, c_115, c_116, c_117, c_118, c_120, c_121, c_122, c_127, c_280, d_2, d_3, d_4, d_8, d_9, d_10, d_15, d_16, d_32, d_48, d_62, d_63, d_64, wI_1, wI_2, wL_1, wL_2, true_and, and_true, and_self, false_and, and_false, if_true, if_false, h7', h19, hl, h20, h4]
    · have h19 : s.1 0 38 19 = nI 1 := by have h9 := g3.1; rw [show (2 * fs + 1) % 2 = 1 from by omega] at h9; exact h9
      have h23 := g3.2
      simp (disch := omega) only [ax_let, Option.bind_some, cond_true, cond_false, if_pos, if_neg, if_true, if_false, eq_self, nI_add, nI_ltI, nI_leI, nI_eq, nI_clamp, pu_in, c_0, c_1, c_2, c_3, c_4, c_5, c_6, c_7, c_8, c_9, c_10, c_11, c_12, c_15, c_16, c_17, c_32, c_35, c_36, c_38, c_40, c_41, c_42, c_43, c_44, c_45, c_48, c_57, c_58, c_59, c_60, c_61, c_62, c_64, c_65, c_69, c_75, c_83, c_91, c_93, c_94, c_97, c_105, c_106, c_110, c_119, c_123, c_124, c_125, c_126, c_240, c_256, c_400, c_m, nI_m1, nM_i, lN_add, lN_mul, lN_i, nI_l, lN_eq, lgN_le, lgN_lt, lgN_ge, lgN_gt, nI_sub, nI_mul, d_0, d_1, c_13, c_14, c_18, c_19, c_20, c_21, c_22, c_23, c_24, c_25, c_26, c_27, c_28, c_29, c_30, c_31, c_33, c_34, c_37, c_39, c_46, c_47, c_49, c_50, c_51, c_52, c_53, c_54, c_55, c_56, c_63, c_66, c_67, c_68, c_70, c_71, c_72, c_73, c_74, c_76, c_77, c_78, c_79, c_80, c_81, c_82, c_84, c_85, c_86, c_87, c_88, c_89, c_90, c_92, c_95, c_96, c_98, c_99, c_100, c_101, c_102, c_103, c_104, c_107, c_108, c_109, c_111, c_112, c_113, c_114, c_115, c_116, c_117, c_118, c_120, c_121, c_122, c_127, c_280, d_2, d_3, d_4, d_8, d_9, d_10, d_15, d_16, d_32, d_48, d_62, d_63, d_64, wI_1, wI_2, wL_1, wL_2, true_and, and_true, and_self, false_and, and_false, if_true, if_false, h7', h19, hl, h20, h23]
  obtain ⟨s2, b1, b2, b3⟩ := h1.stepT (ph := ph) (md' := if sec = 0 then 50 else 60) (by omega) (by omega) rfl hD (f1.imp (fun g r k h => by unfold XZt; omega)) (by simp (disch := omega) only [wI_1, wI_2, wL_1, wL_2, true_and, and_true, and_self, false_and, and_false, if_true, if_false, if_pos, if_neg])
  have f12 : frm (fun g r k => g = 0 ∧ (r = 67 ∨ (r = 38 ∧ (k = 7 ∨ k = 23 ∨ k = 51)))) s s2 := (f1.imp (fun g r k h => by omega)).trans (b3.imp (fun g r k h => by unfold XP at h; omega))
  refine ⟨s2, _, b1, b2, h2.keep f12 (fun r k h => by omega), ⟨fun i t hi => (g1 i t hi).keep f12 (fun r a b _ => by omega), fun i t k hi hk hh hl => ?_, ⟨?_, ?_⟩, g4.keep f12 (fun r k h => by omega)⟩, (f12.1 0 38 22 (by omega)).trans h4, ⟨by omega, by omega⟩, h7, hS⟩
  · obtain ⟨c1, c2⟩ := g2 i t k hi hk hh hl
    exact ⟨(f12.1 0 50 i (by omega)).trans c1, (f12.1 0 50 k (by omega)).trans c2⟩
  · rw [f12.1 0 38 19 (by omega), g3.1]
    by_cases h0 : sec = 0
    · rw [if_pos h0, h0]
      congr 1
      omega
    · rw [if_neg h0]
  · rw [b3.1 0 38 23 (by unfold XP; omega)]
    simp (disch := omega) only [wI_1, wI_2, wL_1, wL_2, true_and, and_true, and_self, false_and, and_false, if_true, if_false, if_pos, if_neg]
    by_cases h0 : sec = 0
    · rw [if_pos h0, if_pos h0]
      congr 1
      omega
    · rw [if_neg h0, if_neg h0]
theorem stk_O (Ths : List Th) (t : Th) : (stk (Ths ++ [t])).length = thO (stk Ths).length t := by
  rw [stk_s]
  unfold stkA thO
  by_cases h2 : thk t = 2
  · rw [if_pos h2, if_pos h2, List.length_cons]
  · rw [if_neg h2, if_neg h2]
    by_cases h3 : thk t = 3
    · rw [if_pos h3, if_pos h3, List.length_tail]
    · rw [if_neg h3, if_neg h3]
theorem zTh {wr : Bool} {fs : Nat} (hF : 241 ≤ F) (hw : (wr = true ∧ sec = 0) ∨ (wr = false ∧ sec = 2 * fs + 1)) (h : ZS R n f ((c, p) :: ts) Tot Pr Ths sec s) (h125 : c ≠ 125) : zq ph R F n f ((c, p) :: ts) s (pTh wr (stk Ths).length ((c, p) :: ts)) (fun t r s' => ∃ Pr', ZS R n f r Tot Pr' (Ths ++ [t]) sec s') := by
  have hc' := h.tk.1
  have h7' := h.1.2.2.1
  have h20 := h.2.2.1.2.2.2.1
  have ho := h.2.2.1.2.2.2.2.1
  have h19 : s.1 0 38 19 = nI (sec % 2) := h.2.2.1.2.2.1.1
  have nw : ¬ wants 10 := by unfold wants; omega
  rw [pTh]
  by_cases c1 : c = 105 ∨ c = 106
  · rw [if_pos c1]
    by_cases o2 : (stk Ths).length = 2
    · rw [if_pos o2]
      exact fun G => h.1.rejT (by omega) (zw_z nw) (zx_10 hc' h7' h19 (by omega) h20 ho (by omega) (fun _ => o2) (by omega) (by omega) (by omega))
    · rw [if_neg o2]
      exact h.opn hF c1 (by omega)
  · rw [if_neg c1]
    by_cases c2 : c = 93
    · rw [if_pos c2]
      by_cases o0 : (stk Ths).length = 0
      · rw [if_pos o0]
        exact fun G => h.1.rejT (by omega) (zw_z nw) (zx_10 hc' h7' h19 (by omega) h20 ho (by omega) (by omega) (by omega) (by omega) (by omega))
      · rw [if_neg o0]
        subst c2
        match hS : stk Ths, o0 with
        | k :: S', o0 => exact h.close hS
    · rw [if_neg c2]
      rcases hw with ⟨rfl, rfl⟩ | ⟨rfl, rfl⟩
      · rw [if_pos rfl]
        by_cases c3 : c = 62
        · rw [if_pos c3]
          subst c3
          exact h.writing hF
        · rw [if_neg c3]
          exact fun G => h.1.rejT (by omega) (zw_z nw) (zx_10 hc' h7' h19 (by omega) h20 ho (by omega) (by omega) (by omega) (by omega) (by omega))
      · rw [if_neg (by decide)]
        by_cases c3 : 65 ≤ c ∧ c ≤ 68
        · rw [if_pos c3]
          exact zStep hF h c3
        · rw [if_neg c3]
          exact fun G => h.1.rejT (by omega) (zw_z nw) (zx_10 hc' h7' h19 (by omega) h20 ho (by omega) (by omega) (by omega) (by omega) (by omega))
theorem zThs {wr : Bool} {fs : Nat} (hF : 241 ≤ F) (hw : (wr = true ∧ sec = 0) ∨ (wr = false ∧ sec = 2 * fs + 1)) : ∀ (j : Nat) (ts : List Tok) (Ths : List Th) (Pr : List Nat) (s : ax_σ), ts.length < j → ZS R n f ts Tot Pr Ths sec s → zq ph R F n f ts s (pThs wr j (stk Ths).length ts) (fun l r s' => ∃ Pr', ZQ R n f (if sec = 0 then 50 else 60) r Tot Pr' (Ths ++ l) (if sec = 0 then 2 * (Ths ++ l).length else sec) s')
  | 0, ts, Ths, Pr, s, hj, h => absurd hj (Nat.not_lt_zero _)
  | j + 1, [], Ths, Pr, s, hj, h => fun G => h.1.nil (by omega)
  | j + 1, (c, p) :: ts, Ths, Pr, s, hj, h => by
    rw [pThs]
    by_cases hc : c = 125
    · rw [if_pos hc]
      subst hc
      by_cases o0 : (stk Ths).length = 0
      · rw [if_pos o0]
        obtain ⟨s2, P2, a1, a2⟩ := h.brace (ph := ph) (F := F) (fs := fs) (by omega) (List.length_eq_zero_iff.mp o0)
        refine ⟨s2, ⟨P2, ?_⟩, a1⟩
        rw [List.append_nil]
        exact a2
      · rw [if_neg o0]
        have h19 : s.1 0 38 19 = nI (sec % 2) := h.2.2.1.2.2.1.1
        exact fun G => h.1.rejT (by omega) (zw_z (by unfold wants; omega)) (zx_10 (by omega) h.1.2.2.1 h19 (by omega) h.2.2.1.2.2.2.1 h.2.2.1.2.2.2.2.1 (by omega) (by omega) (by omega) (by omega) (by omega))
    · rw [if_neg hc]
      refine (zTh hF hw h hc).bind (fun t r s2 he hK => ?_)
      obtain ⟨P2, a1⟩ := hK
      have hl := pTh_len he
      rw [List.length_cons] at hj
      rw [← stk_O]
      refine (zThs hF hw j r (Ths ++ [t]) P2 s2 (by omega) a1).bind (fun l r2 s3 _ hK2 => ⟨s3, ?_, zgo.refl⟩)
      obtain ⟨P3, b1⟩ := hK2
      rw [List.append_assoc] at b1
      exact ⟨P3, b1⟩
end
