/-! PURE: a text is read -/
/-- the signs of m characters from p on -/
def tkR (f : Nat → Nat) : Nat → Nat → List Tok
  | _, 0 => []
  | p, m + 1 => if f p = 32 then tkR f (p + 1) m else (f p, p) :: tkR f (p + 1) m
theorem tkR_len (f : Nat → Nat) : ∀ (m p : Nat), (tkR f p m).length ≤ m
  | 0, p => Nat.le_refl _
  | m + 1, p => by
    unfold tkR
    have := tkR_len f m (p + 1)
    split
    · omega
    · rw [List.length_cons]; omega
theorem nar_c : ∀ c, c < 128 → vp_nar .char (nI c) = nI c := by decide +kernel
def XK (g r k : Nat) : Prop := g = 0 ∧ (r = 26 ∨ r = 27 ∨ (r = 25 ∧ (k = 2 ∨ k = 3)))
def tkS (n : Nat) (A : List Tok) (s : ax_σ) : Prop := s.1 0 25 2 = nI A.length ∧ ∀ i c p, A[i]? = some (c, p) → s.1 0 26 i = nI c ∧ s.1 0 27 i = nI p ∧ (33 ≤ c ∧ c ≤ 126) ∧ p < n
section
variable {n : Nat} {f : Nat → Nat} {g : Nat}
theorem lb_7 {F : Nat} (hn : n ≤ 240) : ∀ (m p M : Nat) (A : List Tok) (s : ax_σ), p + m = n → m < M → A.length ≤ p → tkS n A s → (∀ k, k < n → (32 ≤ f k ∧ f k ≤ 126) ∧ s.1 0 24 k = nI (f k)) → ∃ s', lp_R_leaveOutBlanks_7 F g (nI n) M (nI p) s = some s' ∧ tkS n (A ++ tkR f p m) s' ∧ frm XK s s'
  | m, p, 0, A, s, _, hm, _, _, _ => absurd hm (Nat.not_lt_zero _)
  | 0, p, M + 1, A, s, hp, hm, hA, hS, hf => by
    refine ⟨s, ?_, by rw [tkR, List.append_nil]; exact hS, frm.refl⟩
    rw [lp_R_leaveOutBlanks_7]
    simp (disch := omega) only [ax_let, Option.bind_some, cond_true, cond_false, if_pos, if_neg, if_true, if_false, eq_self, nI_add, nI_ltI, nI_leI, nI_eq, nI_clamp, pu_in, c_0, c_1, c_2, c_3, c_4, c_5, c_6, c_7, c_8, c_9, c_10, c_11, c_12, c_15, c_16, c_17, c_32, c_35, c_36, c_38, c_40, c_41, c_42, c_43, c_44, c_45, c_48, c_57, c_58, c_59, c_60, c_61, c_62, c_64, c_65, c_69, c_75, c_83, c_91, c_93, c_94, c_97, c_105, c_106, c_110, c_119, c_123, c_124, c_125, c_126, c_240, c_256, c_400, c_m, nI_m1, nM_i]
  | m + 1, p, M + 1, A, s, hp, hm, hA, hS, hf => by
    obtain ⟨hc, h24⟩ := hf p (by omega)
    by_cases hb : f p = 32
    · obtain ⟨s', a1, a2, a3⟩ := lb_7 hn m (p + 1) M A s (by omega) (by omega) (by omega) hS hf
      refine ⟨s', ?_, by rw [tkR, if_pos hb]; exact a2, a3⟩
      rw [lp_R_leaveOutBlanks_7]
      simp (disch := omega) only [ax_let, Option.bind_some, cond_true, cond_false, if_pos, if_neg, if_true, if_false, eq_self, nI_add, nI_ltI, nI_leI, nI_eq, nI_clamp, pu_in, c_0, c_1, c_2, c_3, c_4, c_5, c_6, c_7, c_8, c_9, c_10, c_11, c_12, c_15, c_16, c_17, c_32, c_35, c_36, c_38, c_40, c_41, c_42, c_43, c_44, c_45, c_48, c_57, c_58, c_59, c_60, c_61, c_62, c_64, c_65, c_69, c_75, c_83, c_91, c_93, c_94, c_97, c_105, c_106, c_110, c_119, c_123, c_124, c_125, c_126, c_240, c_256, c_400, c_m, nI_m1, nM_i, h24]
      exact a1
    · have ff : frm XK s (ax_wI (ax_wI (ax_wI s 0 26 A.length (nI (f p))) 0 27 A.length (nI p)) 0 25 2 (nI (A.length + 1))) := by
        refine ((frm.refl.wI _ _ _ _ ?_).wI _ _ _ _ ?_).wI _ _ _ _ ?_ <;> unfold XK <;> omega
      obtain ⟨s', a1, a2, a3⟩ := lb_7 (F := F) hn m (p + 1) M (A ++ [(f p, p)]) (ax_wI (ax_wI (ax_wI s 0 26 A.length (nI (f p))) 0 27 A.length (nI p)) 0 25 2 (nI (A.length + 1))) (by omega) (by omega) (by rw [List.length_append, List.length_singleton]; omega) ⟨by rw [wI_1, if_pos ⟨rfl, rfl, rfl⟩, List.length_append, List.length_singleton], fun i c q hi => (by
        rcases getc hi with ⟨i1, i2⟩ | ⟨i1, i2⟩
        · obtain ⟨b1, b2, b3⟩ := hS.2 i c q i2
          refine ⟨?_, ?_, b3⟩
          · simp (disch := omega) only [wI_1, wI_2, wL_1, wL_2, true_and, and_true, and_self, false_and, and_false, if_true, if_false, if_pos, if_neg]; exact b1
          · simp (disch := omega) only [wI_1, wI_2, wL_1, wL_2, true_and, and_true, and_self, false_and, and_false, if_true, if_false, if_pos, if_neg]; exact b2
        · subst i1
          injection i2 with i2 i3
          subst i2
          subst i3
          refine ⟨?_, ?_, by omega, by omega⟩
          · simp (disch := omega) only [wI_1, wI_2, wL_1, wL_2, true_and, and_true, and_self, false_and, and_false, if_true, if_false, if_pos, if_neg]
          · simp (disch := omega) only [wI_1, wI_2, wL_1, wL_2, true_and, and_true, and_self, false_and, and_false, if_true, if_false, if_pos, if_neg])⟩ (fun k hk => ⟨(hf k hk).1, by rw [ff.1 0 24 k (by unfold XK; omega)]; exact (hf k hk).2⟩)
      refine ⟨s', ?_, ?_, ff.trans a3⟩
      · rw [lp_R_leaveOutBlanks_7]
        have hs2 := hS.1
        have hnar := nar_c (f p) (by omega)
        simp (disch := omega) only [ax_let, Option.bind_some, cond_true, cond_false, if_pos, if_neg, if_true, if_false, eq_self, nI_add, nI_ltI, nI_leI, nI_eq, nI_clamp, pu_in, c_0, c_1, c_2, c_3, c_4, c_5, c_6, c_7, c_8, c_9, c_10, c_11, c_12, c_15, c_16, c_17, c_32, c_35, c_36, c_38, c_40, c_41, c_42, c_43, c_44, c_45, c_48, c_57, c_58, c_59, c_60, c_61, c_62, c_64, c_65, c_69, c_75, c_83, c_91, c_93, c_94, c_97, c_105, c_106, c_110, c_119, c_123, c_124, c_125, c_126, c_240, c_256, c_400, c_m, nI_m1, nM_i, wI_1, wI_2, wL_1, wL_2, true_and, and_true, and_self, false_and, and_false, if_true, if_false, h24, hs2, hnar]
        exact a1
      · rw [tkR, if_neg hb]
        rw [List.append_assoc] at a2
        exact a2
theorem rd_blanks {F : Nat} {s : ax_σ} (hF : 241 ≤ F) (hn : n ≤ 240) (hf : ∀ k, k < n → (32 ≤ f k ∧ f k ≤ 126) ∧ s.1 0 24 k = nI (f k)) : ∃ s', f_R_leaveOutBlanks F g (nI n) s = some s' ∧ rdA n (tkR f 0 n) (tkR f 0 n) s' ∧ frm XK s s' := by
  have f0 : frm XK s (ax_wI s 0 25 2 (nI 0)) := frm.refl.wI _ _ _ _ (by unfold XK; omega)
  obtain ⟨s1, a1, a2, a3⟩ := lb_7 (f := f) (F := F) (g := g) hn n 0 F [] (ax_wI s 0 25 2 (nI 0)) (by omega) (by omega) (Nat.le_refl _) ⟨by rw [wI_1, if_pos ⟨rfl, rfl, rfl⟩]; rfl, fun i c p hi => by cases hi⟩ (fun k hk => ⟨(hf k hk).1, by rw [f0.1 0 24 k (by unfold XK; omega)]; exact (hf k hk).2⟩)
  rw [List.nil_append] at a2
  have hl := tkR_len f n 0
  generalize tkR f 0 n = T at *
  refine ⟨ax_wI (ax_wI (ax_wI s1 0 26 T.length (nI 0)) 0 27 T.length (nI n)) 0 25 3 (nI 0), ?_, ⟨⟨by omega, hn, ?_, ?_, ?_, ?_⟩, 0, Nat.zero_le _, ?_, rfl⟩, ?_⟩
  · unfold f_R_leaveOutBlanks
    have h2 := a2.1
    have hnar := nar_c 0 (by omega)
    simp (disch := omega) only [ax_let, Option.bind_some, cond_true, cond_false, if_pos, if_neg, if_true, if_false, eq_self, nI_add, nI_ltI, nI_leI, nI_eq, nI_clamp, pu_in, c_0, c_1, c_2, c_3, c_4, c_5, c_6, c_7, c_8, c_9, c_10, c_11, c_12, c_15, c_16, c_17, c_32, c_35, c_36, c_38, c_40, c_41, c_42, c_43, c_44, c_45, c_48, c_57, c_58, c_59, c_60, c_61, c_62, c_64, c_65, c_69, c_75, c_83, c_91, c_93, c_94, c_97, c_105, c_106, c_110, c_119, c_123, c_124, c_125, c_126, c_240, c_256, c_400, c_m, nI_m1, nM_i, wI_1, wI_2, wL_1, wL_2, true_and, and_true, and_self, false_and, and_false, if_true, if_false, a1, h2, hnar]
  · simp (disch := omega) only [wI_1, wI_2, wL_1, wL_2, true_and, and_true, and_self, false_and, and_false, if_true, if_false, if_pos, if_neg]; exact a2.1
  · intro i c p hi
    obtain ⟨b1, b2, b3⟩ := a2.2 i c p hi
    have hi' : i < T.length := by
      by_cases h : i < T.length
      · exact h
      · rw [List.getElem?_eq_none (by omega)] at hi; cases hi
    refine ⟨?_, ?_, b3⟩
    · simp (disch := omega) only [wI_1, wI_2, wL_1, wL_2, true_and, and_true, and_self, false_and, and_false, if_true, if_false, if_pos, if_neg]; exact b1
    · simp (disch := omega) only [wI_1, wI_2, wL_1, wL_2, true_and, and_true, and_self, false_and, and_false, if_true, if_false, if_pos, if_neg]; exact b2
  · simp (disch := omega) only [wI_1, wI_2, wL_1, wL_2, true_and, and_true, and_self, false_and, and_false, if_true, if_false, if_pos, if_neg]; rfl
  · simp (disch := omega) only [wI_1, wI_2, wL_1, wL_2, true_and, and_true, and_self, false_and, and_false, if_true, if_false, if_pos, if_neg]
  · simp (disch := omega) only [wI_1, wI_2, wL_1, wL_2, true_and, and_true, and_self, false_and, and_false, if_true, if_false, if_pos, if_neg]
  · refine (f0.trans a3).trans (((frm.refl.wI _ _ _ _ ?_).wI _ _ _ _ ?_).wI _ _ _ _ ?_) <;> unfold XK <;> omega
theorem pc_2 {F : Nat} : ∀ (j i m : Nat) (s : ax_σ), i + j = 8 → j < m → ∃ s', lp_P_clear_2 F g m (nI i) s = some s' ∧ frm (fun g' r k => g' = g ∧ r = 1 ∧ i ≤ k) s s' ∧ ∀ k, i ≤ k → k < 8 → s'.1 g 1 k = nI 0
  | j, i, 0, s, _, hm => absurd hm (Nat.not_lt_zero _)
  | 0, i, m + 1, s, hi, hm => by
    refine ⟨s, ?_, frm.refl, fun k h1 h2 => by omega⟩
    rw [lp_P_clear_2]
    simp (disch := omega) only [ax_let, Option.bind_some, cond_true, cond_false, if_pos, if_neg, if_true, if_false, eq_self, nI_add, nI_ltI, nI_leI, nI_eq, nI_clamp, pu_in, c_0, c_1, c_2, c_3, c_4, c_5, c_6, c_7, c_8, c_9, c_10, c_11, c_12, c_15, c_16, c_17, c_32, c_35, c_36, c_38, c_40, c_41, c_42, c_43, c_44, c_45, c_48, c_57, c_58, c_59, c_60, c_61, c_62, c_64, c_65, c_69, c_75, c_83, c_91, c_93, c_94, c_97, c_105, c_106, c_110, c_119, c_123, c_124, c_125, c_126, c_240, c_256, c_400, c_m, nI_m1, nM_i]
  | j + 1, i, m + 1, s, hi, hm => by
    obtain ⟨s', a1, a2, a3⟩ := pc_2 (F := F) j (i + 1) m (ax_wI s g 1 i (nI 0)) (by omega) (by omega)
    refine ⟨s', ?_, (frm.refl.wI g 1 i (nI 0) ⟨rfl, rfl, Nat.le_refl _⟩).trans (a2.imp (fun g' r k h => by omega)), fun k h1 h2 => ?_⟩
    · rw [lp_P_clear_2]
      simp (disch := omega) only [ax_let, Option.bind_some, cond_true, cond_false, if_pos, if_neg, if_true, if_false, eq_self, nI_add, nI_ltI, nI_leI, nI_eq, nI_clamp, pu_in, c_0, c_1, c_2, c_3, c_4, c_5, c_6, c_7, c_8, c_9, c_10, c_11, c_12, c_15, c_16, c_17, c_32, c_35, c_36, c_38, c_40, c_41, c_42, c_43, c_44, c_45, c_48, c_57, c_58, c_59, c_60, c_61, c_62, c_64, c_65, c_69, c_75, c_83, c_91, c_93, c_94, c_97, c_105, c_106, c_110, c_119, c_123, c_124, c_125, c_126, c_240, c_256, c_400, c_m, nI_m1, nM_i]
      exact a1
    · by_cases hk : k = i
      · subst hk
        rw [a2.1 g 1 k (by omega), wI_1, if_pos ⟨rfl, rfl, rfl⟩]
      · exact a3 k (by omega) h2
theorem rd_clear {F : Nat} {s : ax_σ} (hF : 241 ≤ F) : ∃ s', f_P_clear F g s = some s' ∧ RC g [] s' ∧ RL g [] s' ∧ NM g [0, 0, 0, 0, 0, 0, 0, 0] s' ∧ s'.1 g 0 8 = nI 0 ∧ frm (fun g' r k => g' = g ∧ r ≤ 22) s s' := by
  obtain ⟨s1, a1, a2, a3⟩ := pc_2 (F := F) (g := g) 8 0 F s (by omega) (by omega)
  refine ⟨ax_wI (ax_wI (ax_wI s1 g 4 8 (nI 0)) g 13 6 (nI 0)) g 0 8 (nI 0), ?_, ⟨Nat.zero_le _, by simp (disch := omega) only [wI_1, wI_2, wL_1, wL_2, true_and, and_true, and_self, false_and, and_false, if_true, if_false, if_pos, if_neg]; rfl, fun i x hi => by cases hi⟩, ⟨Nat.zero_le _, by simp (disch := omega) only [wI_1, wI_2, wL_1, wL_2, true_and, and_true, and_self, false_and, and_false, if_true, if_false, if_pos, if_neg]; rfl, fun i x hi => by cases hi⟩, ⟨rfl, fun k v hk => ?_⟩, by simp (disch := omega) only [wI_1, wI_2, wL_1, wL_2, true_and, and_true, and_self, false_and, and_false, if_true, if_false, if_pos, if_neg], ?_⟩
  · unfold f_P_clear
    simp (disch := omega) only [ax_let, Option.bind_some, cond_true, cond_false, if_pos, if_neg, if_true, if_false, eq_self, nI_add, nI_ltI, nI_leI, nI_eq, nI_clamp, pu_in, c_0, c_1, c_2, c_3, c_4, c_5, c_6, c_7, c_8, c_9, c_10, c_11, c_12, c_15, c_16, c_17, c_32, c_35, c_36, c_38, c_40, c_41, c_42, c_43, c_44, c_45, c_48, c_57, c_58, c_59, c_60, c_61, c_62, c_64, c_65, c_69, c_75, c_83, c_91, c_93, c_94, c_97, c_105, c_106, c_110, c_119, c_123, c_124, c_125, c_126, c_240, c_256, c_400, c_m, nI_m1, nM_i, a1]
  · have hk8 : k < 8 := by
      by_cases h : k < 8
      · exact h
      · rw [List.getElem?_eq_none (by show 8 ≤ k; omega)] at hk; cases hk
    have hv : v = 0 := by
      have : ∀ k, k < 8 → ([0, 0, 0, 0, 0, 0, 0, 0] : List Nat)[k]? = some 0 := by decide
      rw [this k hk8] at hk
      injection hk with hk
      exact hk.symm
    subst hv
    simp (disch := omega) only [wI_1, wI_2, wL_1, wL_2, true_and, and_true, and_self, false_and, and_false, if_true, if_false, if_pos, if_neg]
    exact a3 k (Nat.zero_le _) hk8
  · refine (a2.imp (fun g' r k h => by omega)).trans (((frm.refl.wI _ _ _ _ ?_).wI _ _ _ _ ?_).wI _ _ _ _ ?_) <;> omega
end
/-- behind the reading: what read does with what was read -/
def rdT2 (F g : Nat) (s22 : ax_σ) : Option (Int32 × ax_σ) :=
                        Option.bind (f_R_checkIndexes F g s22) (fun s28 =>
                          if (s28.1 0 25 7) = (1928 : Int32) then
                            ax_let (ax_wI s28 0 25 14 (-1 : Int32)) (fun s30 =>
                              Option.bind (f_P_isTooLarge g s30) (fun r31 =>
                                if r31 = (0 : Int32) then
                                  Option.bind (f_P_layOut F g s30) (fun s33 =>
                                    Option.bind (f_R_putForm F g s33) (fun s35 =>
                                      some (((0 : Int32), s35))))
                                else
                                  some (((6 : Int32), s30))))
                          else
                            ax_let (ax_wI s28 0 25 14 ((s28.1 0 25 7) / (8 : Int32))) (fun s38 =>
                              some ((((s38.1 0 25 7) - (s38.1 0 25 7) / (8 : Int32) * (8 : Int32)), s38))))
def rdF (s7 : ax_σ) : Option (Int32 × ax_σ) :=
            bif ax_in (s7.1 0 25 3) 241 then
            ax_let (ax_wI s7 0 25 14 (s7.1 0 27 ((s7.1 0 25 3)).toNatClampNeg)) (fun s10 =>
              some (((1 : Int32), s10)))
            else none
def rdB2 (F g : Nat) (s17 : ax_σ) : Option (Int32 × ax_σ) :=
                    Option.bind (f_R_block F g (0 : Int32) s17) (fun (r21, s22) =>
                      Option.bind (
                        if r21 = (0 : Int32) then
                          some true
                        else
                          if (s22.1 0 25 3) = (s22.1 0 25 2) then
                            some false
                          else
                            some true) (fun w40 => bif w40 then rdF s22
                      else rdT2 F g s22))
def rdB1 (F g : Nat) (s12 : ax_σ) : Option (Int32 × ax_σ) :=
                Option.bind (f_R_block F g (1 : Int32) s12) (fun (r16, s17) =>
                  if r16 = (0 : Int32) then rdF s17
                  else rdB2 F g s17)
def rdTb (F g : Nat) (s7 : ax_σ) : Option (Int32 × ax_σ) :=
            Option.bind (f_R_tables F g s7) (fun (r11, s12) =>
              if r11 = (0 : Int32) then rdF s12
              else rdB1 F g s12)
def rdSz (F g : Nat) (s4 : ax_σ) : Option (Int32 × ax_σ) :=
        Option.bind (f_R_sizes F g s4) (fun (r6, s7) =>
          if r6 = (0 : Int32) then rdF s7
          else rdTb F g s7)
theorem f_R_read_eq (F g : Nat) (a2 : Int32) (s : ax_σ) : f_R_read F g a2 s = Option.bind (f_P_clear F g s) (fun s1 => Option.bind (f_R_leaveOutBlanks F g a2 (ax_wI s1 0 25 7 (1928 : Int32))) (fun s4 => rdSz F g s4)) := rfl
def XW (g g' r k : Nat) : Prop := (g' = 0 ∧ 25 ≤ r ∧ r ≤ 31) ∨ (g' = g ∧ r ≤ 22)
/-- what was read of a description without a wrong sign: its parts and lines -/
def kD (n : Nat) (T : List Tok) (g : Nat) (D : Ds) (B : Nat → Int32) : KS := (n, T, g, D.1.1, D.2.1.1, D.2.2.1.1, D.2.2.2.1.length, 0, B)
def lfD (D : Ds) : Nat := D.2.2.2.1.foldl lfTb (lfH 1928 (D.1, D.2.1, D.2.2.1))
def cD1 (K : KS) (D : Ds) : CS := cThs K ([], [], lfD D, 0, 0, 0, D.2.1.1, []) D.2.2.2.2.1
def cD (K : KS) (D : Ds) : CS := cThs (kSn K (kst K)) (cD1 K D) D.2.2.2.2.2
theorem pDs_eq (ts : List Tok) : pDs ts = rbind (pHd ts) (fun h r => rbind (pTbs 2 r) (fun tb r => rbind (rbind (pTake 123 r) (fun _ r => pThs true (r.length + 1) 0 r)) (fun ws r => rbind (rbind (pTake 123 r) (fun _ r => pThs false (r.length + 1) 0 r)) (fun ss r => match r with
    | [] => .ok ((h.1, h.2.1, h.2.2, tb, ws, ss), [])
    | _ => .error r)))) := by
  unfold pDs pHd pSz
  simp only [rbind_a]
  rfl
section
variable {n : Nat} {T : List Tok} {g : Nat}
theorem XW.ofV {s s' : ax_σ} (h : frm (XV g) s s') : frm (XW g) s s' := h.imp (fun g r k h => by unfold XV at h; unfold XW; omega)
theorem XW.ofX {s s' : ax_σ} (h : frm (XR g) s s') : frm (XW g) s s' := XW.ofV (XV.ofX h)
theorem rd_fault {s s0 : ax_σ} {r : List Tok} (h : rdA n T r s) (hf : frm (XW g) s0 s) : ∃ s', rdF s = some (nI 1, s') ∧ s'.1 0 25 14 = nI (pl n r) ∧ frm (XW g) s0 s' := by
  refine ⟨ax_wI s 0 25 14 (nI (pl n r)), ?_, by rw [wI_1, if_pos ⟨rfl, rfl, rfl⟩], hf.wI _ _ _ _ (by unfold XW; omega)⟩
  unfold rdF
  simp (disch := omega) only [ax_let, Option.bind_some, cond_true, cond_false, if_pos, if_neg, if_true, if_false, eq_self, nI_add, nI_ltI, nI_leI, nI_eq, nI_clamp, pu_in, c_0, c_1, c_2, c_3, c_4, c_5, c_6, c_7, c_8, c_9, c_10, c_11, c_12, c_15, c_16, c_17, c_32, c_35, c_36, c_38, c_40, c_41, c_42, c_43, c_44, c_45, c_48, c_57, c_58, c_59, c_60, c_61, c_62, c_64, c_65, c_69, c_75, c_83, c_91, c_93, c_94, c_97, c_105, c_106, c_110, c_119, c_123, c_124, c_125, c_126, c_240, c_256, c_400, c_m, nI_m1, nM_i, h.inb, h.at.2.1]
/-- what reading gives -/
def rdO (n : Nat) (T : List Tok) (F g : Nat) (s : ax_σ) (y : Option (Int32 × ax_σ)) (x : Rd Ds) : Prop := match x with
    | .error r => ∃ s', y = some (nI 1, s') ∧ s'.1 0 25 14 = nI (pl n r) ∧ frm (XW g) s s'
    | .ok (D, _) => ∃ s' B, y = rdT2 F g s' ∧ RBc (kSn (kD n T g D B) (kst (kD n T g D B))) [] (cD (kD n T g D B) D) s' ∧ cOq (cD (kD n T g D B) D) = [] ∧ s'.1 g 0 8 = nI 0 ∧ D.2.2.2.1.length ≤ 2 ∧ (∀ u x, D.2.2.2.1[u]? = some x → ∀ k, k < 16 → tbE x k < 16 ∧ s'.1 g 2 (u * 16 + k) = nI (tbE x k) ∧ B (u * 16 + k) = bkL (fun y => nI (tbE x y)) (nI k) 16 nM) ∧ frm (XW g) s s'
theorem rd_read {F : Nat} {f : Nat → Nat} {s : ax_σ} (hF : 241 ≤ F) (hn : n ≤ 240) (hf : ∀ k, k < n → (32 ≤ f k ∧ f k ≤ 126) ∧ s.1 0 24 k = nI (f k)) : rdO n (tkR f 0 n) F g s (f_R_read F g (nI n) s) (pDs (tkR f 0 n)) := by
  obtain ⟨s1, a1, a2, a3, a4, a5, a6⟩ := rd_clear (F := F) (g := g) (s := s) hF
  have f1 : frm (XW g) s (ax_wI s1 0 25 7 (1928 : Int32)) := (a6.imp (fun g' r k h => by unfold XW; omega)).wI _ _ _ _ (by unfold XW; omega)
  obtain ⟨s2, b1, b2, b3⟩ := rd_blanks (F := F) (g := g) (n := n) (f := f) (s := ax_wI s1 0 25 7 (1928 : Int32)) hF hn (fun k hk => ⟨(hf k hk).1, by rw [f1.1 0 24 k (by unfold XW; omega)]; exact (hf k hk).2⟩)
  have e0 : f_R_read F g (nI n) s = rdSz F g s2 := by
    rw [f_R_read_eq, a1]
    show Option.bind (f_R_leaveOutBlanks F g (nI n) (ax_wI s1 0 25 7 (1928 : Int32))) _ = _
    rw [b1]
    rfl
  rw [e0]
  have f2 : frm (XW g) s s2 := f1.trans (b3.imp (fun g' r k h => by unfold XK at h; unfold XW; omega))
  have hl := tkR_len f n 0
  have f12 : frm (fun g' r k => g' = 0 ∧ 25 ≤ r ∧ r ≤ 31) s1 s2 := (frm.refl.wI 0 25 7 _ (by omega)).trans (b3.imp (fun g' r k h => by unfold XK at h; omega))
  generalize tkR f 0 n = T at *
  have z0 : RZ n T g T 1928 [0, 0, 0, 0, 0, 0, 0, 0] s2 := by
    refine ⟨⟨b2, ?_, Nat.le_refl _, a2.keep f12 (fun g' r k hx => by unfold XC at hx; omega), by rw [List.length_nil]; omega⟩, a3.keep f12 (fun g' r k hx => by unfold XN at hx; omega), a4.keep f12 (fun k _ => by omega)⟩
    rw [b3.1 0 25 7 (by unfold XK; omega), wI_1, if_pos ⟨rfl, rfl, rfl⟩]
    rfl
  have h08 : s2.1 g 0 8 = nI 0 := (f12.1 g 0 8 (by omega)).trans a5
  rw [pDs_eq]
  have k1 := rd_sizes (F := F) (by omega) z0
  match hq1 : pHd T, k1 with
  | .error r, k1 =>
    obtain ⟨s3, c1, c2, c3⟩ := k1
    obtain ⟨s4, d1, d2, d3⟩ := rd_fault (s0 := s) c2 (f2.trans (XW.ofX c3))
    refine ⟨s4, ?_, d2, d3⟩
    unfold rdSz
    rw [c1]
    exact d1
  | .ok (hd, r1), k1 =>
    obtain ⟨v, s3, c1, ⟨rfl, c2, c4, c5, c6, c7⟩, c3⟩ := k1
    have f3 := f2.trans (XW.ofX c3)
    have e1 : rdSz F g s2 = rdTb F g s3 := by
      unfold rdSz
      simp (disch := omega) only [ax_let, Option.bind_some, cond_true, cond_false, if_pos, if_neg, if_true, if_false, eq_self, nI_add, nI_ltI, nI_leI, nI_eq, nI_clamp, pu_in, c_0, c_1, c_2, c_3, c_4, c_5, c_6, c_7, c_8, c_9, c_10, c_11, c_12, c_15, c_16, c_17, c_32, c_35, c_36, c_38, c_40, c_41, c_42, c_43, c_44, c_45, c_48, c_57, c_58, c_59, c_60, c_61, c_62, c_64, c_65, c_69, c_75, c_83, c_91, c_93, c_94, c_97, c_105, c_106, c_110, c_119, c_123, c_124, c_125, c_126, c_240, c_256, c_400, c_m, nI_m1, nM_i, c1]
    rw [e1]
    have hT := rd_tables (F := F) (n := n) (T := T) (g := g) (w := hd.1.1) (st := hd.2.1.1) (ky := hd.2.2.1) hF 2 F r1 (lfH 1928 hd) [] s3 rfl (by omega) ⟨c2, by decide, fun u x hu => by cases hu⟩
    have e2 : f_R_tables F g s3 = Option.bind (lp_R_tables_2 F g F (nI 0) s3) tbK := rfl
    have hT : ro n T (pTbs 2 r1) _ _ _ (Option.bind (lp_R_tables_2 F g F (nI 0) s3) tbK) := hT
    rw [← e2] at hT
    show rdO n T F g s (rdTb F g s3) (rbind (pTbs 2 r1) _)
    match hq2 : pTbs 2 r1, hT with
    | .error r, hT =>
      obtain ⟨s4, d1, d2, d3⟩ := hT
      obtain ⟨s5, g1, g2, g3⟩ := rd_fault (s0 := s) d2 (f3.trans (XW.ofV d3))
      refine ⟨s5, ?_, g2, g3⟩
      unfold rdTb
      rw [d1]
      exact g1
    | .ok (tb, r2), hT =>
      obtain ⟨v, s4, d1, ⟨rfl, d2⟩, d3⟩ := hT
      rw [List.nil_append] at d2
      obtain ⟨d4, d5, d6⟩ := d2
      have f4 := f3.trans (XW.ofV d3)
      have e3 : rdTb F g s3 = rdB1 F g s4 := by
        unfold rdTb
        simp (disch := omega) only [ax_let, Option.bind_some, cond_true, cond_false, if_pos, if_neg, if_true, if_false, eq_self, nI_add, nI_ltI, nI_leI, nI_eq, nI_clamp, pu_in, c_0, c_1, c_2, c_3, c_4, c_5, c_6, c_7, c_8, c_9, c_10, c_11, c_12, c_15, c_16, c_17, c_32, c_35, c_36, c_38, c_40, c_41, c_42, c_43, c_44, c_45, c_48, c_57, c_58, c_59, c_60, c_61, c_62, c_64, c_65, c_69, c_75, c_83, c_91, c_93, c_94, c_97, c_105, c_106, c_110, c_119, c_123, c_124, c_125, c_126, c_240, c_256, c_400, c_m, nI_m1, nM_i, d1]
      rw [e3]
      have q0 : RA (n, T, g, hd.1.1, hd.2.1.1, hd.2.2.1, tb.length, 0, s4.1 g 3) r2 [] [] (tb.foldl lfTb (lfH 1928 hd)) 0 0 0 hd.2.1.1 s4 := ⟨⟨[], d4.1, rfl⟩, d4.2.1, d4.2.2, fun i _ => rfl, ⟨c4, c5, c6, d5⟩, by have := c5; omega⟩
      have k2 := rd_block (wr := true) hF q0 (by have := d4.1.2.2.2.2; simp only [List.length_nil] at this ⊢; omega)
      have k2 : ro n T (rbind (pTake 123 r2) (fun _ r => pThs true (r.length + 1) 0 r)) _ _ (nI 0) (f_R_block F g (nI 1) s4) := k2
      show rdO n T F g s (rdB1 F g s4) (rbind (rbind (pTake 123 r2) (fun _ r => pThs true (r.length + 1) 0 r)) _)
      match hq3 : rbind (pTake 123 r2) (fun _ r => pThs true (r.length + 1) 0 r), k2 with
      | .error r, k2 =>
        obtain ⟨s5, g1, g2, g3⟩ := k2
        obtain ⟨s6, i1, i2, i3⟩ := rd_fault (s0 := s) g2 (f4.trans (XW.ofX g3))
        refine ⟨s6, ?_, i2, i3⟩
        have g1' : f_R_block F g (1 : Int32) s4 = some (nI 0, s5) := g1
        unfold rdB1
        rw [g1']
        exact i1
      | .ok (ws, r3), k2 =>
        obtain ⟨v, s5, g1, ⟨g2, g4, g5, g6⟩, g3⟩ := k2
        have f5 := f4.trans (XW.ofX g3)
        have e4 : rdB1 F g s4 = rdB2 F g s5 := by
          have g1' : f_R_block F g (1 : Int32) s4 = some (v, s5) := g1
          unfold rdB1
          rw [g1', g2]
          rfl
        rw [e4]
        have k3 := rd_block (wr := false) hF g4.ra g6
        have k3 : ro n T (rbind (pTake 123 r3) (fun _ r => pThs false (r.length + 1) 0 r)) _ _ (nI 0) (f_R_block F g (nI 0) s5) := k3
        show rdO n T F g s (rdB2 F g s5) (rbind (rbind (pTake 123 r3) (fun _ r => pThs false (r.length + 1) 0 r)) _)
        match hq4 : rbind (pTake 123 r3) (fun _ r => pThs false (r.length + 1) 0 r), k3 with
        | .error r, k3 =>
          obtain ⟨s6, i1, i2, i3⟩ := k3
          obtain ⟨s7, j1, j2, j3⟩ := rd_fault (s0 := s) i2 (f5.trans (XW.ofX i3))
          refine ⟨s7, ?_, j2, j3⟩
          have i1' : f_R_block F g (0 : Int32) s5 = some (nI 0, s6) := i1
          unfold rdB2
          rw [i1']
          exact j1
        | .ok (ss, r4), k3 =>
          obtain ⟨v, s6, i1, ⟨i2, i4, i5, i6⟩, i3⟩ := k3
          have f6 := f5.trans (XW.ofX i3)
          have i1' : f_R_block F g (0 : Int32) s5 = some (v, s6) := i1
          obtain ⟨⟨hc1, hc2, hc3, hc4⟩, k, hk1, hk2, hk3⟩ := i4.rd
          match r4, i4, hk3 with
          | (c, p) :: r5, i4, hk3 =>
            obtain ⟨s7, j1, j2, j3⟩ := rd_fault (s0 := s) i4.rd f6
            refine ⟨s7, ?_, j2, j3⟩
            have hc3' : s6.1 0 25 2 = nI T.length := hc3
            have hTl : T.length ≤ 240 := hc1
            have hk1' : k ≤ T.length := hk1
            have hk3' : (c, p) :: r5 = T.drop k := hk3
            have hne : k < T.length := by
              by_cases h : k < T.length
              · exact h
              · rw [List.drop_eq_nil_of_le (by omega)] at hk3'; cases hk3'
            unfold rdB2
            rw [i1', i2]
            simp (disch := omega) only [ax_let, Option.bind_some, cond_true, cond_false, if_pos, if_neg, if_true, if_false, eq_self, nI_add, nI_ltI, nI_leI, nI_eq, nI_clamp, pu_in, c_0, c_1, c_2, c_3, c_4, c_5, c_6, c_7, c_8, c_9, c_10, c_11, c_12, c_15, c_16, c_17, c_32, c_35, c_36, c_38, c_40, c_41, c_42, c_43, c_44, c_45, c_48, c_57, c_58, c_59, c_60, c_61, c_62, c_64, c_65, c_69, c_75, c_83, c_91, c_93, c_94, c_97, c_105, c_106, c_110, c_119, c_123, c_124, c_125, c_126, c_240, c_256, c_400, c_m, nI_m1, nM_i, hk2, hc3']
            exact j1
          | [], i4, hk3 =>
            have hke : k = T.length := by
              have h1 : (T.drop k).length = 0 := by rw [← show ([] : List Tok) = T.drop k from hk3]; rfl
              rw [List.length_drop] at h1
              have h2 : k ≤ T.length := hk1
              omega
            have hc3' : s6.1 0 25 2 = nI T.length := hc3
            have hTl : T.length ≤ 240 := hc1
            refine ⟨s6, s4.1 g 3, ?_, ?_, ?_, ?_, d5, ?_, f6⟩
            · unfold rdB2
              rw [i1', i2]
              simp (disch := omega) only [ax_let, Option.bind_some, cond_true, cond_false, if_pos, if_neg, if_true, if_false, eq_self, nI_add, nI_ltI, nI_leI, nI_eq, nI_clamp, pu_in, c_0, c_1, c_2, c_3, c_4, c_5, c_6, c_7, c_8, c_9, c_10, c_11, c_12, c_15, c_16, c_17, c_32, c_35, c_36, c_38, c_40, c_41, c_42, c_43, c_44, c_45, c_48, c_57, c_58, c_59, c_60, c_61, c_62, c_64, c_65, c_69, c_75, c_83, c_91, c_93, c_94, c_97, c_105, c_106, c_110, c_119, c_123, c_124, c_125, c_126, c_240, c_256, c_400, c_m, nI_m1, nM_i, hk2, hc3', hke]
            · have e6 : ∀ c : CS, cOq c = [] → c = (cLs c, cP c, cLf c, cSk c, cSp c, cIn c, cRg c, []) := fun c hc => by rw [← hc]; rfl
              have e5 : cOq (cD1 (kD n T g (hd.1, hd.2.1, hd.2.2, tb, ws, ss) (s4.1 g 3)) (hd.1, hd.2.1, hd.2.2, tb, ws, ss)) = [] := g5
              unfold cD
              rw [e6 _ e5]
              exact i4
            · have e5 : cOq (cD1 (kD n T g (hd.1, hd.2.1, hd.2.2, tb, ws, ss) (s4.1 g 3)) (hd.1, hd.2.1, hd.2.2, tb, ws, ss)) = [] := g5
              have e6 : ∀ c : CS, cOq c = [] → c = (cLs c, cP c, cLf c, cSk c, cSp c, cIn c, cRg c, []) := fun c hc => by rw [← hc]; rfl
              unfold cD
              rw [e6 _ e5]
              exact i5
            · rw [i3.1 g 0 8 (by unfold XR; omega), g3.1 g 0 8 (by unfold XR; omega), d3.1 g 0 8 (by unfold XV; omega), c3.1 g 0 8 (by unfold XR; omega)]
              exact h08
            · intro u x hu k hk
              obtain ⟨t1, t2, t3⟩ := d6 u x hu k hk
              refine ⟨t1, ?_, t3⟩
              rw [i3.1 g 2 _ (by unfold XR; omega), g3.1 g 2 _ (by unfold XR; omega)]
              exact t2
end
