/-! PURE: a step is read -/
def tbF (B : Nat → Int32) (t : Nat) : Nat → Nat → Bool
  | 0, _ => true
  | n + 1, i => if B (t * 16 + i) = nM then false else tbF B t n (i + 1)
theorem rd_tab {F g t : Nat} {B : Nat → Int32} {s : ax_σ} (hB : ∀ i, i < 32 → s.1 g 3 i = B i) (ht : t < 2) : ∀ (n i m : Nat), n + i = 16 → n < m → lp_P_canTableBeUndone_2 F g (nI t) s m (nI i) = some (if tbF B t n i = true then .inr () else .inl (nI 0))
  | n, i, 0, _, hm => absurd hm (Nat.not_lt_zero _)
  | 0, i, m + 1, hi, hm => by
    have : i = 16 := by omega
    subst this
    rw [lp_P_canTableBeUndone_2]
    simp (disch := omega) only [ax_let, Option.bind_some, cond_true, cond_false, if_pos, if_neg, if_true, if_false, eq_self, nI_add, nI_ltI, nI_leI, nI_eq, nI_clamp, pu_in, c_0, c_1, c_2, c_3, c_4, c_5, c_6, c_7, c_8, c_9, c_10, c_11, c_12, c_15, c_16, c_17, c_32, c_35, c_36, c_38, c_40, c_41, c_42, c_43, c_44, c_45, c_48, c_57, c_58, c_59, c_60, c_61, c_62, c_64, c_65, c_69, c_75, c_83, c_91, c_93, c_94, c_97, c_105, c_106, c_110, c_119, c_123, c_124, c_125, c_126, c_240, c_256, c_400, c_m, nI_m1, nM_i, tbF]
  | n + 1, i, m + 1, hi, hm => by
    rw [lp_P_canTableBeUndone_2]
    have hb := hB (t * 16 + i) (by omega)
    by_cases e : B (t * 16 + i) = nM
    · simp (disch := omega) only [ax_let, Option.bind_some, cond_true, cond_false, if_pos, if_neg, if_true, if_false, eq_self, nI_add, nI_ltI, nI_leI, nI_eq, nI_clamp, pu_in, c_0, c_1, c_2, c_3, c_4, c_5, c_6, c_7, c_8, c_9, c_10, c_11, c_12, c_15, c_16, c_17, c_32, c_35, c_36, c_38, c_40, c_41, c_42, c_43, c_44, c_45, c_48, c_57, c_58, c_59, c_60, c_61, c_62, c_64, c_65, c_69, c_75, c_83, c_91, c_93, c_94, c_97, c_105, c_106, c_110, c_119, c_123, c_124, c_125, c_126, c_240, c_256, c_400, c_m, nI_m1, nM_i, nI_mul, hb, e, tbF]
      rfl
    · simp (disch := omega) only [ax_let, Option.bind_some, cond_true, cond_false, if_pos, if_neg, if_true, if_false, eq_self, nI_add, nI_ltI, nI_leI, nI_eq, nI_clamp, pu_in, c_0, c_1, c_2, c_3, c_4, c_5, c_6, c_7, c_8, c_9, c_10, c_11, c_12, c_15, c_16, c_17, c_32, c_35, c_36, c_38, c_40, c_41, c_42, c_43, c_44, c_45, c_48, c_57, c_58, c_59, c_60, c_61, c_62, c_64, c_65, c_69, c_75, c_83, c_91, c_93, c_94, c_97, c_105, c_106, c_110, c_119, c_123, c_124, c_125, c_126, c_240, c_256, c_400, c_m, nI_m1, nM_i, nI_mul, hb, e, tbF]
      exact rd_tab hB ht n (i + 1) m (by omega) (by omega)
theorem rd_tabU {F g t : Nat} {B : Nat → Int32} {s : ax_σ} (hF : 17 ≤ F) (hB : ∀ i, i < 32 → s.1 g 3 i = B i) (ht : t < 2) : f_P_canTableBeUndone F g (nI t) s = some (if tbF B t 16 0 = true then nI 1 else nI 0) := by
  unfold f_P_canTableBeUndone
  rw [show (0 : Int32) = nI 0 from rfl, rd_tab hB ht 16 0 F (by omega) (by omega)]
  cases tbF B t 16 0 <;> rfl
def undo (K : KS) (w : Nat) (k : Wk) : Bool :=
  if k.1 ≤ 6 then decide ((aOf k.2.2.2.1).1 &&& 2 ^ w = 0)
  else if k.1 = 7 then decide (k.2.1 % 2 = 1)
  else if k.1 = 12 then decide (k.2.2.2.2.length % 2 = 1)
  else if k.1 = 9 then decide (k.2.1 ≠ w)
  else if k.1 = 11 then decide (ktb K ≤ k.2.1) || tbF (kB K) k.2.1 16 0
  else true
section
variable {K : KS} {ts : List Tok} {Ls : List Ln} {P5 : List C5} {lf sk sp ins rg : Nat} {O : List Oq} {s : ax_σ}
theorem RB.bk (h : RB K ts Ls P5 lf sk sp ins rg O s) : ∀ i, i < 32 → s.1 (kg K) 3 i = kB K i := by
  obtain ⟨-, -, -, -, -, k6, -⟩ := id h
  exact k6
theorem rd_undo {F w v f e wr pl : Nat} {k : Wk} (hF : 241 ≤ F) (hw : w < 4) (h : RB K ts (Ls ++ [(kc k.1, w, v, f, e, wr)]) P5 lf sk sp ins rg O s) (hk : 4 ≤ k.1 ∧ k.1 ≤ 12) (hv : v = opd pl k) (hv9 : v < 10 ^ 9) (ha : k.1 ≤ 6 → v < 240 ∧ atA (kg K) v (aOf k.2.2.2.1) s ∧ aS (aOf k.2.2.2.1)) : f_R_canBeUndone F (kg K) (nI Ls.length) s = some (if undo K w k = true then nI 1 else nI 0) := by
  obtain ⟨⟨z1, z2, z3, -, -, -⟩, hm⟩ := h.rl.lastA
  obtain ⟨m1, m2, m3, m4, m5⟩ := h.sm
  have hn3 := h.nm.2 3 _ rfl
  simp only at z1 z2 z3
  unfold f_R_canBeUndone
  obtain ⟨k0, k1, k2, k3, k4⟩ := k
  have hk : 4 ≤ k0 ∧ k0 ≤ 12 := hk
  have z1 : s.1 (kg K) 14 Ls.length = nI (kc k0) := z1
  have c6 : k0 = 4 ∨ k0 = 5 ∨ k0 = 6 ∨ k0 = 7 ∨ k0 = 8 ∨ k0 = 9 ∨ k0 = 10 ∨ k0 = 11 ∨ k0 = 12 := by omega
  have hex : k0 ≤ 6 → ∃ u, v < 240 ∧ s.1 (kg K) 10 v = nI u ∧ u < 32 ∧ u &&& 2 ^ w < 32 ∧ undo K w (k0, k1, k2, k3, k4) = decide (u &&& 2 ^ w = 0) := by
    intro hk6
    obtain ⟨b1, b2, b3⟩ := ha hk6
    refine ⟨(aOf k3).1, b1, b2.1, b3.1, Nat.lt_of_le_of_lt Nat.and_le_left b3.1, ?_⟩
    unfold undo
    rw [if_pos (show (k0, k1, k2, k3, k4).1 ≤ 6 from hk6)]
  have hsh := sh_4 w hw
  rcases c6 with c | c | c | c | c | c | c | c | c
  · subst c
    obtain ⟨u, u1, u2, u3, u4, u5⟩ := hex (by omega)
    have e14 : s.1 (kg K) 14 Ls.length = nI 94 := z1
    rw [u5]
    by_cases e : u &&& 2 ^ w = 0
    · simp (disch := omega) only [ax_let, Option.bind_some, cond_true, cond_false, if_pos, if_neg, if_true, if_false, eq_self, nI_add, nI_ltI, nI_leI, nI_eq, nI_clamp, pu_in, c_0, c_1, c_2, c_3, c_4, c_5, c_6, c_7, c_8, c_9, c_10, c_11, c_12, c_15, c_16, c_17, c_32, c_35, c_36, c_38, c_40, c_41, c_42, c_43, c_44, c_45, c_48, c_57, c_58, c_59, c_60, c_61, c_62, c_64, c_65, c_69, c_75, c_83, c_91, c_93, c_94, c_97, c_105, c_106, c_110, c_119, c_123, c_124, c_125, c_126, c_240, c_256, c_400, c_m, nI_m1, nM_i, e14, z2, z3, u2, hsh, pu_and, e, decide_true]
    · simp (disch := omega) only [ax_let, Option.bind_some, cond_true, cond_false, if_pos, if_neg, if_true, if_false, eq_self, nI_add, nI_ltI, nI_leI, nI_eq, nI_clamp, pu_in, c_0, c_1, c_2, c_3, c_4, c_5, c_6, c_7, c_8, c_9, c_10, c_11, c_12, c_15, c_16, c_17, c_32, c_35, c_36, c_38, c_40, c_41, c_42, c_43, c_44, c_45, c_48, c_57, c_58, c_59, c_60, c_61, c_62, c_64, c_65, c_69, c_75, c_83, c_91, c_93, c_94, c_97, c_105, c_106, c_110, c_119, c_123, c_124, c_125, c_126, c_240, c_256, c_400, c_m, nI_m1, nM_i, e14, z2, z3, u2, hsh, pu_and, decide_eq_true_eq]
  · subst c
    obtain ⟨u, u1, u2, u3, u4, u5⟩ := hex (by omega)
    have e14 : s.1 (kg K) 14 Ls.length = nI 43 := z1
    rw [u5]
    by_cases e : u &&& 2 ^ w = 0
    · simp (disch := omega) only [ax_let, Option.bind_some, cond_true, cond_false, if_pos, if_neg, if_true, if_false, eq_self, nI_add, nI_ltI, nI_leI, nI_eq, nI_clamp, pu_in, c_0, c_1, c_2, c_3, c_4, c_5, c_6, c_7, c_8, c_9, c_10, c_11, c_12, c_15, c_16, c_17, c_32, c_35, c_36, c_38, c_40, c_41, c_42, c_43, c_44, c_45, c_48, c_57, c_58, c_59, c_60, c_61, c_62, c_64, c_65, c_69, c_75, c_83, c_91, c_93, c_94, c_97, c_105, c_106, c_110, c_119, c_123, c_124, c_125, c_126, c_240, c_256, c_400, c_m, nI_m1, nM_i, e14, z2, z3, u2, hsh, pu_and, e, decide_true]
    · simp (disch := omega) only [ax_let, Option.bind_some, cond_true, cond_false, if_pos, if_neg, if_true, if_false, eq_self, nI_add, nI_ltI, nI_leI, nI_eq, nI_clamp, pu_in, c_0, c_1, c_2, c_3, c_4, c_5, c_6, c_7, c_8, c_9, c_10, c_11, c_12, c_15, c_16, c_17, c_32, c_35, c_36, c_38, c_40, c_41, c_42, c_43, c_44, c_45, c_48, c_57, c_58, c_59, c_60, c_61, c_62, c_64, c_65, c_69, c_75, c_83, c_91, c_93, c_94, c_97, c_105, c_106, c_110, c_119, c_123, c_124, c_125, c_126, c_240, c_256, c_400, c_m, nI_m1, nM_i, e14, z2, z3, u2, hsh, pu_and, decide_eq_true_eq]
  · subst c
    obtain ⟨u, u1, u2, u3, u4, u5⟩ := hex (by omega)
    have e14 : s.1 (kg K) 14 Ls.length = nI 45 := z1
    rw [u5]
    by_cases e : u &&& 2 ^ w = 0
    · simp (disch := omega) only [ax_let, Option.bind_some, cond_true, cond_false, if_pos, if_neg, if_true, if_false, eq_self, nI_add, nI_ltI, nI_leI, nI_eq, nI_clamp, pu_in, c_0, c_1, c_2, c_3, c_4, c_5, c_6, c_7, c_8, c_9, c_10, c_11, c_12, c_15, c_16, c_17, c_32, c_35, c_36, c_38, c_40, c_41, c_42, c_43, c_44, c_45, c_48, c_57, c_58, c_59, c_60, c_61, c_62, c_64, c_65, c_69, c_75, c_83, c_91, c_93, c_94, c_97, c_105, c_106, c_110, c_119, c_123, c_124, c_125, c_126, c_240, c_256, c_400, c_m, nI_m1, nM_i, e14, z2, z3, u2, hsh, pu_and, e, decide_true]
    · simp (disch := omega) only [ax_let, Option.bind_some, cond_true, cond_false, if_pos, if_neg, if_true, if_false, eq_self, nI_add, nI_ltI, nI_leI, nI_eq, nI_clamp, pu_in, c_0, c_1, c_2, c_3, c_4, c_5, c_6, c_7, c_8, c_9, c_10, c_11, c_12, c_15, c_16, c_17, c_32, c_35, c_36, c_38, c_40, c_41, c_42, c_43, c_44, c_45, c_48, c_57, c_58, c_59, c_60, c_61, c_62, c_64, c_65, c_69, c_75, c_83, c_91, c_93, c_94, c_97, c_105, c_106, c_110, c_119, c_123, c_124, c_125, c_126, c_240, c_256, c_400, c_m, nI_m1, nM_i, e14, z2, z3, u2, hsh, pu_and, decide_eq_true_eq]
  · subst c
    have e14 : s.1 (kg K) 14 Ls.length = nI 42 := z1
    have hu : undo K w (7, k1, k2, k3, k4) = decide (v % 2 = 1) := by rw [hv]; rfl
    have ho := nI_odd (v := v) (by omega)
    rw [hu]
    by_cases e : v % 2 = 1
    · simp (disch := omega) only [ax_let, Option.bind_some, cond_true, cond_false, if_pos, if_neg, if_true, if_false, eq_self, nI_add, nI_ltI, nI_leI, nI_eq, nI_clamp, pu_in, c_0, c_1, c_2, c_3, c_4, c_5, c_6, c_7, c_8, c_9, c_10, c_11, c_12, c_15, c_16, c_17, c_32, c_35, c_36, c_38, c_40, c_41, c_42, c_43, c_44, c_45, c_48, c_57, c_58, c_59, c_60, c_61, c_62, c_64, c_65, c_69, c_75, c_83, c_91, c_93, c_94, c_97, c_105, c_106, c_110, c_119, c_123, c_124, c_125, c_126, c_240, c_256, c_400, c_m, nI_m1, nM_i, e14, z3, ho, e, decide_true]
    · simp (disch := omega) only [ax_let, Option.bind_some, cond_true, cond_false, if_pos, if_neg, if_true, if_false, eq_self, nI_add, nI_ltI, nI_leI, nI_eq, nI_clamp, pu_in, c_0, c_1, c_2, c_3, c_4, c_5, c_6, c_7, c_8, c_9, c_10, c_11, c_12, c_15, c_16, c_17, c_32, c_35, c_36, c_38, c_40, c_41, c_42, c_43, c_44, c_45, c_48, c_57, c_58, c_59, c_60, c_61, c_62, c_64, c_65, c_69, c_75, c_83, c_91, c_93, c_94, c_97, c_105, c_106, c_110, c_119, c_123, c_124, c_125, c_126, c_240, c_256, c_400, c_m, nI_m1, nM_i, e14, z3, ho, decide_eq_true_eq]
  · subst c
    have e14 : s.1 (kg K) 14 Ls.length = nI 60 := z1
    have hu : undo K w (8, k1, k2, k3, k4) = true := rfl
    rw [hu]
    simp (disch := omega) only [ax_let, Option.bind_some, cond_true, cond_false, if_pos, if_neg, if_true, if_false, eq_self, nI_add, nI_ltI, nI_leI, nI_eq, nI_clamp, pu_in, c_0, c_1, c_2, c_3, c_4, c_5, c_6, c_7, c_8, c_9, c_10, c_11, c_12, c_15, c_16, c_17, c_32, c_35, c_36, c_38, c_40, c_41, c_42, c_43, c_44, c_45, c_48, c_57, c_58, c_59, c_60, c_61, c_62, c_64, c_65, c_69, c_75, c_83, c_91, c_93, c_94, c_97, c_105, c_106, c_110, c_119, c_123, c_124, c_125, c_126, c_240, c_256, c_400, c_m, nI_m1, nM_i, e14]
  · subst c
    have e14 : s.1 (kg K) 14 Ls.length = nI 119 := z1
    have hu : undo K w (9, k1, k2, k3, k4) = decide (v ≠ w) := by rw [hv]; rfl
    rw [hu]
    by_cases e : v = w
    · simp (disch := omega) only [ax_let, Option.bind_some, cond_true, cond_false, if_pos, if_neg, if_true, if_false, eq_self, nI_add, nI_ltI, nI_leI, nI_eq, nI_clamp, pu_in, c_0, c_1, c_2, c_3, c_4, c_5, c_6, c_7, c_8, c_9, c_10, c_11, c_12, c_15, c_16, c_17, c_32, c_35, c_36, c_38, c_40, c_41, c_42, c_43, c_44, c_45, c_48, c_57, c_58, c_59, c_60, c_61, c_62, c_64, c_65, c_69, c_75, c_83, c_91, c_93, c_94, c_97, c_105, c_106, c_110, c_119, c_123, c_124, c_125, c_126, c_240, c_256, c_400, c_m, nI_m1, nM_i, e14, z2, z3, decide_eq_true_eq]
    · simp (disch := omega) only [ax_let, Option.bind_some, cond_true, cond_false, if_pos, if_neg, if_true, if_false, eq_self, nI_add, nI_ltI, nI_leI, nI_eq, nI_clamp, pu_in, c_0, c_1, c_2, c_3, c_4, c_5, c_6, c_7, c_8, c_9, c_10, c_11, c_12, c_15, c_16, c_17, c_32, c_35, c_36, c_38, c_40, c_41, c_42, c_43, c_44, c_45, c_48, c_57, c_58, c_59, c_60, c_61, c_62, c_64, c_65, c_69, c_75, c_83, c_91, c_93, c_94, c_97, c_105, c_106, c_110, c_119, c_123, c_124, c_125, c_126, c_240, c_256, c_400, c_m, nI_m1, nM_i, e14, z2, z3, decide_eq_true_eq]
  · subst c
    have e14 : s.1 (kg K) 14 Ls.length = nI 58 := z1
    have hu : undo K w (10, k1, k2, k3, k4) = true := rfl
    rw [hu]
    simp (disch := omega) only [ax_let, Option.bind_some, cond_true, cond_false, if_pos, if_neg, if_true, if_false, eq_self, nI_add, nI_ltI, nI_leI, nI_eq, nI_clamp, pu_in, c_0, c_1, c_2, c_3, c_4, c_5, c_6, c_7, c_8, c_9, c_10, c_11, c_12, c_15, c_16, c_17, c_32, c_35, c_36, c_38, c_40, c_41, c_42, c_43, c_44, c_45, c_48, c_57, c_58, c_59, c_60, c_61, c_62, c_64, c_65, c_69, c_75, c_83, c_91, c_93, c_94, c_97, c_105, c_106, c_110, c_119, c_123, c_124, c_125, c_126, c_240, c_256, c_400, c_m, nI_m1, nM_i, e14]
  · subst c
    have e14 : s.1 (kg K) 14 Ls.length = nI 35 := z1
    have hu : undo K w (11, k1, k2, k3, k4) = (decide (ktb K ≤ v) || tbF (kB K) v 16 0) := by rw [hv]; rfl
    rw [hu]
    by_cases e : ktb K ≤ v
    · simp (disch := omega) only [ax_let, Option.bind_some, cond_true, cond_false, if_pos, if_neg, if_true, if_false, eq_self, nI_add, nI_ltI, nI_leI, nI_eq, nI_clamp, pu_in, c_0, c_1, c_2, c_3, c_4, c_5, c_6, c_7, c_8, c_9, c_10, c_11, c_12, c_15, c_16, c_17, c_32, c_35, c_36, c_38, c_40, c_41, c_42, c_43, c_44, c_45, c_48, c_57, c_58, c_59, c_60, c_61, c_62, c_64, c_65, c_69, c_75, c_83, c_91, c_93, c_94, c_97, c_105, c_106, c_110, c_119, c_123, c_124, c_125, c_126, c_240, c_256, c_400, c_m, nI_m1, nM_i, e14, z3, hn3, e, decide_true, Bool.true_or]
    · have ht := rd_tabU (F := F) (g := kg K) (t := v) (s := s) (by omega) h.bk (by omega)
      have hd : decide (ktb K ≤ v) = false := decide_eq_false e
      rw [hd, Bool.false_or]
      cases hx : tbF (kB K) v 16 0
      · rw [hx] at ht
        simp (disch := omega) only [ax_let, Option.bind_some, cond_true, cond_false, if_pos, if_neg, if_true, if_false, eq_self, nI_add, nI_ltI, nI_leI, nI_eq, nI_clamp, pu_in, c_0, c_1, c_2, c_3, c_4, c_5, c_6, c_7, c_8, c_9, c_10, c_11, c_12, c_15, c_16, c_17, c_32, c_35, c_36, c_38, c_40, c_41, c_42, c_43, c_44, c_45, c_48, c_57, c_58, c_59, c_60, c_61, c_62, c_64, c_65, c_69, c_75, c_83, c_91, c_93, c_94, c_97, c_105, c_106, c_110, c_119, c_123, c_124, c_125, c_126, c_240, c_256, c_400, c_m, nI_m1, nM_i, e14, z3, hn3, ht, Bool.false_eq_true]
      · rw [hx] at ht
        simp (disch := omega) only [ax_let, Option.bind_some, cond_true, cond_false, if_pos, if_neg, if_true, if_false, eq_self, nI_add, nI_ltI, nI_leI, nI_eq, nI_clamp, pu_in, c_0, c_1, c_2, c_3, c_4, c_5, c_6, c_7, c_8, c_9, c_10, c_11, c_12, c_15, c_16, c_17, c_32, c_35, c_36, c_38, c_40, c_41, c_42, c_43, c_44, c_45, c_48, c_57, c_58, c_59, c_60, c_61, c_62, c_64, c_65, c_69, c_75, c_83, c_91, c_93, c_94, c_97, c_105, c_106, c_110, c_119, c_123, c_124, c_125, c_126, c_240, c_256, c_400, c_m, nI_m1, nM_i, e14, z3, hn3, ht]
  · subst c
    have e14 : s.1 (kg K) 14 Ls.length = nI 64 := z1
    have hu : undo K w (12, k1, k2, k3, k4) = decide (v % 2 = 1) := by rw [hv]; rfl
    have ho := nI_odd (v := v) (by omega)
    rw [hu]
    by_cases e : v % 2 = 1
    · simp (disch := omega) only [ax_let, Option.bind_some, cond_true, cond_false, if_pos, if_neg, if_true, if_false, eq_self, nI_add, nI_ltI, nI_leI, nI_eq, nI_clamp, pu_in, c_0, c_1, c_2, c_3, c_4, c_5, c_6, c_7, c_8, c_9, c_10, c_11, c_12, c_15, c_16, c_17, c_32, c_35, c_36, c_38, c_40, c_41, c_42, c_43, c_44, c_45, c_48, c_57, c_58, c_59, c_60, c_61, c_62, c_64, c_65, c_69, c_75, c_83, c_91, c_93, c_94, c_97, c_105, c_106, c_110, c_119, c_123, c_124, c_125, c_126, c_240, c_256, c_400, c_m, nI_m1, nM_i, e14, z3, ho, e, decide_true]
    · simp (disch := omega) only [ax_let, Option.bind_some, cond_true, cond_false, if_pos, if_neg, if_true, if_false, eq_self, nI_add, nI_ltI, nI_leI, nI_eq, nI_clamp, pu_in, c_0, c_1, c_2, c_3, c_4, c_5, c_6, c_7, c_8, c_9, c_10, c_11, c_12, c_15, c_16, c_17, c_32, c_35, c_36, c_38, c_40, c_41, c_42, c_43, c_44, c_45, c_48, c_57, c_58, c_59, c_60, c_61, c_62, c_64, c_65, c_69, c_75, c_83, c_91, c_93, c_94, c_97, c_105, c_106, c_110, c_119, c_123, c_124, c_125, c_126, c_240, c_256, c_400, c_m, nI_m1, nM_i, e14, z3, ho, decide_eq_true_eq]
def insK (k : Wk) : Nat := if k.1 ≤ 6 then (aOf k.2.2.2.1).2.1 + 1 else 1
def rgK (st rg : Nat) (k : Wk) : Nat := if k.1 ≤ 6 then max rg (st + (aOf k.2.2.2.1).2.2) else rg
theorem rd_countS {w v f e wr : Nat} {k : Wk} (h : RB K ts (Ls ++ [(kc k.1, w, v, f, e, wr)]) P5 lf sk sp ins rg O s) (hk : 4 ≤ k.1 ∧ k.1 ≤ 12) (ha : k.1 ≤ 6 → v < 240 ∧ atA (kg K) v (aOf k.2.2.2.1) s ∧ aS (aOf k.2.2.2.1)) : ∃ s', f_R_countStep (kg K) (nI Ls.length) s = some s' ∧ RB K ts (Ls ++ [(kc k.1, w, v, f, e, wr)]) P5 lf sk (sp + 1) (ins + insK k) (rgK (kst K) rg k) O s' ∧ frm (X1 (kg K)) s s' := by
  obtain ⟨⟨z1, z2, z3, -, -, -⟩, hm⟩ := h.rl.lastA
  simp only at z1 z2 z3
  obtain ⟨k0, k1, k2, k3, k4⟩ := k
  have hk : 4 ≤ k0 ∧ k0 ≤ 12 := hk
  have h8 : rg < 2 ^ 30 := by obtain ⟨-, -, -, -, -, -, -, k8, -⟩ := id h; exact k8
  have hn5 := h.nm.2 5 _ rfl
  have f1 : frm (X1 (kg K)) s (ax_wI s (kg K) 1 5 (nI (sp + 1))) := frm.refl.wI _ _ _ _ (by unfold X1; omega)
  have hB := h.of1 f1 (h.nm.set (k := 5) (v := sp + 1)) h8
  by_cases hk6 : k0 ≤ 6
  · obtain ⟨b1, ⟨b2, b3, b4⟩, b5⟩ := ha hk6
    obtain ⟨s2, c1, c2, c3⟩ := rd_countE hB (i := v) (a := aOf k3) ⟨by simp (disch := omega) only [wI_1, wI_2, wL_1, wL_2, true_and, and_true, and_self, false_and, and_false, if_true, if_false, if_pos, if_neg, b2], by simp (disch := omega) only [wI_1, wI_2, wL_1, wL_2, true_and, and_true, and_self, false_and, and_false, if_true, if_false, if_pos, if_neg, b3], by simp (disch := omega) only [wI_1, wI_2, wL_1, wL_2, true_and, and_true, and_self, false_and, and_false, if_true, if_false, if_pos, if_neg, b4]⟩ b5 b1
    refine ⟨s2, ?_, ?_, f1.trans c3⟩
    · unfold f_R_countStep
      have c6 : k0 = 4 ∨ k0 = 5 ∨ k0 = 6 := by omega
      rcases c6 with c | c | c
      · subst c
        have e14 : s.1 (kg K) 14 Ls.length = nI 94 := z1
        simp (disch := omega) only [ax_let, Option.bind_some, cond_true, cond_false, if_pos, if_neg, if_true, if_false, eq_self, nI_add, nI_ltI, nI_leI, nI_eq, nI_clamp, pu_in, c_0, c_1, c_2, c_3, c_4, c_5, c_6, c_7, c_8, c_9, c_10, c_11, c_12, c_15, c_16, c_17, c_32, c_35, c_36, c_38, c_40, c_41, c_42, c_43, c_44, c_45, c_48, c_57, c_58, c_59, c_60, c_61, c_62, c_64, c_65, c_69, c_75, c_83, c_91, c_93, c_94, c_97, c_105, c_106, c_110, c_119, c_123, c_124, c_125, c_126, c_240, c_256, c_400, c_m, nI_m1, nM_i, wI_1, wI_2, wL_1, wL_2, true_and, and_true, and_self, false_and, and_false, if_true, if_false, e14, z3, hn5, c1]
      · subst c
        have e14 : s.1 (kg K) 14 Ls.length = nI 43 := z1
        simp (disch := omega) only [ax_let, Option.bind_some, cond_true, cond_false, if_pos, if_neg, if_true, if_false, eq_self, nI_add, nI_ltI, nI_leI, nI_eq, nI_clamp, pu_in, c_0, c_1, c_2, c_3, c_4, c_5, c_6, c_7, c_8, c_9, c_10, c_11, c_12, c_15, c_16, c_17, c_32, c_35, c_36, c_38, c_40, c_41, c_42, c_43, c_44, c_45, c_48, c_57, c_58, c_59, c_60, c_61, c_62, c_64, c_65, c_69, c_75, c_83, c_91, c_93, c_94, c_97, c_105, c_106, c_110, c_119, c_123, c_124, c_125, c_126, c_240, c_256, c_400, c_m, nI_m1, nM_i, wI_1, wI_2, wL_1, wL_2, true_and, and_true, and_self, false_and, and_false, if_true, if_false, e14, z3, hn5, c1]
      · subst c
        have e14 : s.1 (kg K) 14 Ls.length = nI 45 := z1
        simp (disch := omega) only [ax_let, Option.bind_some, cond_true, cond_false, if_pos, if_neg, if_true, if_false, eq_self, nI_add, nI_ltI, nI_leI, nI_eq, nI_clamp, pu_in, c_0, c_1, c_2, c_3, c_4, c_5, c_6, c_7, c_8, c_9, c_10, c_11, c_12, c_15, c_16, c_17, c_32, c_35, c_36, c_38, c_40, c_41, c_42, c_43, c_44, c_45, c_48, c_57, c_58, c_59, c_60, c_61, c_62, c_64, c_65, c_69, c_75, c_83, c_91, c_93, c_94, c_97, c_105, c_106, c_110, c_119, c_123, c_124, c_125, c_126, c_240, c_256, c_400, c_m, nI_m1, nM_i, wI_1, wI_2, wL_1, wL_2, true_and, and_true, and_self, false_and, and_false, if_true, if_false, e14, z3, hn5, c1]
    · unfold insK rgK
      rw [if_pos (show (k0, k1, k2, k3, k4).1 ≤ 6 from hk6), if_pos (show (k0, k1, k2, k3, k4).1 ≤ 6 from hk6)]
      exact c2
  · have hn6 : (ax_wI s (kg K) 1 5 (nI (sp + 1))).1 (kg K) 1 6 = nI ins := hB.nm.2 6 _ rfl
    have f2 : frm (X1 (kg K)) (ax_wI s (kg K) 1 5 (nI (sp + 1))) (ax_wI (ax_wI s (kg K) 1 5 (nI (sp + 1))) (kg K) 1 6 (nI (ins + 1))) := frm.refl.wI _ _ _ _ (by unfold X1; omega)
    refine ⟨_, ?_, ?_, f1.trans f2⟩
    · unfold f_R_countStep
      have hne : kc k0 < 2 ^ 31 ∧ kc k0 ≠ 94 ∧ kc k0 ≠ 43 ∧ kc k0 ≠ 45 := by
        have c6 : k0 = 7 ∨ k0 = 8 ∨ k0 = 9 ∨ k0 = 10 ∨ k0 = 11 ∨ k0 = 12 := by omega
        rcases c6 with c | c | c | c | c | c <;> (subst c; decide)
      obtain ⟨q1, q2, q3, q4⟩ := hne
      have w14 : (ax_wI s (kg K) 1 5 (nI (sp + 1))).1 (kg K) 14 Ls.length = nI (kc k0) := by simp (disch := omega) only [wI_1, wI_2, wL_1, wL_2, true_and, and_true, and_self, false_and, and_false, if_true, if_false, if_pos, if_neg, z1]
      simp (disch := omega) only [ax_let, Option.bind_some, cond_true, cond_false, if_pos, if_neg, if_true, if_false, eq_self, nI_add, nI_ltI, nI_leI, nI_eq, nI_clamp, pu_in, c_0, c_1, c_2, c_3, c_4, c_5, c_6, c_7, c_8, c_9, c_10, c_11, c_12, c_15, c_16, c_17, c_32, c_35, c_36, c_38, c_40, c_41, c_42, c_43, c_44, c_45, c_48, c_57, c_58, c_59, c_60, c_61, c_62, c_64, c_65, c_69, c_75, c_83, c_91, c_93, c_94, c_97, c_105, c_106, c_110, c_119, c_123, c_124, c_125, c_126, c_240, c_256, c_400, c_m, nI_m1, nM_i, hn5, w14, hn6]
    · unfold insK rgK
      rw [if_neg (show ¬ (k0, k1, k2, k3, k4).1 ≤ 6 from hk6), if_neg (show ¬ (k0, k1, k2, k3, k4).1 ≤ 6 from hk6)]
      exact hB.of1 f2 (hB.nm.set (k := 6) (v := ins + 1)) h8
end
