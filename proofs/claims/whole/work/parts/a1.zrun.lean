/-! PURE: the reference reads: one sign, one number -/
/-- both of its loops, over the cells R -/
def lpG (R F : Nat) (x2 : Int32) : Nat → Int32 → ax_σ → Option ((Int32 × ax_σ) ⊕ (ax_σ))
  | 0, _, _ => none
  | n + 1, x3, s =>
    if x2 ≤ x3 then
      some (.inr s)
    else
      bif ax_in x3 240 then
      Option.bind (
        if (s.1 0 38 8) ≤ (0 : Int32) then
          some true
        else
          Option.bind (f_Z_isDigit (s.1 0 R (x3).toNatClampNeg)) (fun r4 =>
            if r4 = (0 : Int32) then
              some true
            else
              some false)) (fun w20 => bif w20 then
        Option.bind (
          if (s.1 0 38 8) ≤ (0 : Int32) then
            some s
          else
            Option.bind (f_Z_endNumber F s) (fun s8 =>
              some s8)) (fun s11 =>
          if (s.1 0 R (x3).toNatClampNeg) = (32 : Int32) then
            lpG R F x2 n (x3 + (1 : Int32)) s11
          else
            Option.bind (f_Z_accepts F (s.1 0 R (x3).toNatClampNeg) x3 s11) (fun (r12, s13) =>
              if r12 = (0 : Int32) then
                some (.inl (x3, s13))
              else
                lpG R F x2 n (x3 + (1 : Int32)) s13))
      else
        if (s.1 0 38 8) = (9 : Int32) then
          some (.inl (x3, s))
        else
          ax_let (ax_wL s 0 38 9 ((((10 : Int64) * (s.2 0 38 9)) + ((s.1 0 R (x3).toNatClampNeg)).toInt64) - (48 : Int64))) (fun s17 =>
            ax_let (ax_wI s17 0 38 8 ((s17.1 0 38 8) + (1 : Int32))) (fun s18 =>
              lpG R F x2 n (x3 + (1 : Int32)) s18)))
      else none
theorem lpG_t (F : Nat) (x : Int32) : ∀ (n : Nat) (i : Int32) (s : ax_σ), lp_Z_read_t_6 F x n i s = lpG 39 F x n i s
  | 0, i, s => rfl
  | n + 1, i, s => by
    rw [lp_Z_read_t_6, lpG]
    simp only [lpG_t F x n]
theorem lpG_s (F : Nat) (x : Int32) : ∀ (n : Nat) (i : Int32) (s : ax_σ), lp_Z_read_s_6 F x n i s = lpG 40 F x n i s
  | 0, i, s => rfl
  | n + 1, i, s => by
    rw [lp_Z_read_s_6, lpG]
    simp only [lpG_s F x n]
def zfin (F : Nat) (a2 : Int32) (w : (Int32 × ax_σ) ⊕ ax_σ) : Option (Int32 × ax_σ) := match w with
      | .inl w => some w
      | .inr s22 =>
        Option.bind (
          if (s22.1 0 38 8) ≤ (0 : Int32) then
            some s22
          else
            Option.bind (f_Z_endNumber F s22) (fun s23 =>
              some s23)) (fun s26 =>
          if (s26.1 0 38 7) = (60 : Int32) then
            some (((-1 : Int32), s26))
          else
            some ((a2, s26)))
theorem zr_t (F : Nat) (a : Int32) (s : ax_σ) : f_Z_read_t F a s = Option.bind (f_Z_restart s) (fun s1 => Option.bind (lpG 39 F a F (0 : Int32) s1) (zfin F a)) := by
  unfold f_Z_read_t
  simp only [lpG_t]
  rfl
theorem zr_s (F : Nat) (a : Int32) (s : ax_σ) : f_Z_read_s F a s = Option.bind (f_Z_restart s) (fun s1 => Option.bind (lpG 40 F a F (0 : Int32) s1) (zfin F a)) := by
  unfold f_Z_read_s
  simp only [lpG_s]
  rfl
/-- what reading changes -/
def XZ (ph g r k : Nat) : Prop := g = 0 ∧ ((46 ≤ r ∧ r ≤ 67) ∨ (r = 38 ∧ 7 ≤ k ∧ k ≤ 51 ∧ ¬ (11 ≤ k ∧ k ≤ 15)) ∨ (ph = 0 ∧ ((41 ≤ r ∧ r ≤ 45) ∨ (r = 38 ∧ 11 ≤ k ∧ k ≤ 15))))
def ztx (R n : Nat) (f : Nat → Nat) (s : ax_σ) : Prop := n ≤ 240 ∧ (R = 39 ∨ R = 40) ∧ ∀ k, k < n → (32 ≤ f k ∧ f k ≤ 126) ∧ s.1 0 R k = nI (f k)
theorem XZ.w {ph : Nat} {s s' : ax_σ} (h : frm (XZ ph) s s') : frm (XZ 0) s s' := h.imp (fun g r k h => by unfold XZ at h ⊢; omega)
theorem ztx.keep {R n : Nat} {f : Nat → Nat} {s s' : ax_σ} (h : ztx R n f s) (hf : frm (XZ 0) s s') : ztx R n f s' :=
  ⟨h.1, h.2.1, fun k hk => ⟨(h.2.2 k hk).1, by rw [hf.1 0 R k (by have := h.2.1; unfold XZ; omega)]; exact (h.2.2 k hk).2⟩⟩
/-- from here on, with the signs ts, the answer is e, and G holds then if that is -1 -/
def zR (ph R F n : Nat) (f : Nat → Nat) (ts : List Tok) (s : ax_σ) (e : Int32) (G : ax_σ → Prop) : Prop := ∀ p m M, p + m = n → m < M → tkR f p m = ts → ∃ s', Option.bind (lpG R F (nI n) M (nI p) s) (zfin F (nI n)) = some (e, s') ∧ frm (XZ ph) s s' ∧ (e = nM → G s')
def zgo (ph R F n : Nat) (f : Nat → Nat) (ts : List Tok) (s : ax_σ) (r : List Tok) (s' : ax_σ) : Prop := frm (XZ ph) s s' ∧ ∀ e G, zR ph R F n f r s' e G → zR ph R F n f ts s e G
section
variable {ph R F n : Nat} {f : Nat → Nat} {ts r r2 : List Tok} {s s' s2 : ax_σ}
theorem zgo.trans (h1 : zgo ph R F n f ts s r s') (h2 : zgo ph R F n f r s' r2 s2) : zgo ph R F n f ts s r2 s2 := ⟨h1.1.trans h2.1, fun e G h => h1.2 e G (h2.2 e G h)⟩
theorem zgo.refl : zgo ph R F n f ts s ts s := ⟨frm.refl, fun _ _ h => h⟩
theorem zd {c : Nat} (hc : c < 128) : f_Z_isDigit (nI c) = some (if isD c = true then nI 1 else nI 0) := by
  have h : ∀ c, c < 128 → f_Z_isDigit (nI c) = some (if isD c = true then nI 1 else nI 0) := by decide +kernel
  exact h c hc
/-- blanks are passed over -/
theorem z_blank (htx : ztx R n f s) (h8 : s.1 0 38 8 = nI 0) {P : Option (Int32 × ax_σ) → Prop} (hP : ∀ p m M, p + m = n → m < M → tkR f p m = ts → (m = 0 ∨ f p ≠ 32) → P (Option.bind (lpG R F (nI n) M (nI p) s) (zfin F (nI n)))) : ∀ m p M, p + m = n → m < M → tkR f p m = ts → P (Option.bind (lpG R F (nI n) M (nI p) s) (zfin F (nI n)))
  | 0, p, M, h1, h2, h3 => hP p 0 M h1 h2 h3 (Or.inl rfl)
  | m + 1, p, M, h1, h2, h3 => by
    by_cases hb : f p = 32
    · match M, h2 with
      | M + 1, h2 =>
        have hn := htx.1
        have ht := (htx.2.2 p (by omega)).2
        rw [tkR, if_pos hb] at h3
        have ih := z_blank htx h8 hP m (p + 1) M (by omega) (by omega) h3
        have e : lpG R F (nI n) (M + 1) (nI p) s = lpG R F (nI n) M (nI (p + 1)) s := by
          rw [lpG]
          simp (disch := omega) only [ax_let, Option.bind_some, cond_true, cond_false, if_pos, if_neg, if_true, if_false, eq_self, nI_add, nI_ltI, nI_leI, nI_eq, nI_clamp, pu_in, c_0, c_1, c_2, c_3, c_4, c_5, c_6, c_7, c_8, c_9, c_10, c_11, c_12, c_15, c_16, c_17, c_32, c_35, c_36, c_38, c_40, c_41, c_42, c_43, c_44, c_45, c_48, c_57, c_58, c_59, c_60, c_61, c_62, c_64, c_65, c_69, c_75, c_83, c_91, c_93, c_94, c_97, c_105, c_106, c_110, c_119, c_123, c_124, c_125, c_126, c_240, c_256, c_400, c_m, nI_m1, nM_i, lN_add, lN_mul, lN_i, nI_l, lN_eq, lgN_le, lgN_lt, lgN_ge, lgN_gt, nI_sub, nI_mul, d_0, d_1, c_13, c_14, c_18, c_19, c_20, c_21, c_22, c_23, c_24, c_25, c_26, c_27, c_28, c_29, c_30, c_31, c_33, c_34, c_37, c_39, c_46, c_47, c_49, c_50, c_51, c_52, c_53, c_54, c_55, c_56, c_63, c_66, c_67, c_68, c_70, c_71, c_72, c_73, c_74, c_76, c_77, c_78, c_79, c_80, c_81, c_82, c_84, c_85, c_86, c_87, c_88, c_89, c_90, c_92, c_95, c_96, c_98, c_99, c_100, c_101, c_102, c_103, c_104, c_107, c_108, c_109, c_111, c_112, c_113, c_114, c_115, c_116, c_117, c_118, c_120, c_121, c_122, c_127, c_280, d_2, d_3, d_4, d_8, d_9, d_10, d_15, d_16, d_32, d_48, d_62, d_63, d_64, h8, ht, hb]
        rw [e]
        exact ih
    · exact hP p (m + 1) M h1 h2 h3 (Or.inr hb)
theorem z_step {c p : Nat} (htx : ztx R n f s) (h8 : s.1 0 38 8 = nI 0) (hf : frm (XZ ph) s s') (ha : f_Z_accepts F (nI c) (nI p) s = some (nI 1, s')) : zgo ph R F n f ((c, p) :: ts) s ts s' := by
  refine ⟨hf, fun e G hR => fun p0 m0 M0 h1 h2 h3 => ?_⟩
  refine z_blank (P := fun y => ∃ s', y = some (e, s') ∧ frm (XZ ph) s s' ∧ (e = nM → G s')) htx h8 (fun q m M h1 h2 h3 h4 => ?_) m0 p0 M0 h1 h2 h3
  match m, h1, h2, h3, h4 with
  | 0, h1, h2, h3, h4 => cases h3
  | m + 1, h1, h2, h3, h4 =>
    have hb : f q ≠ 32 := h4.resolve_left (by omega)
    rw [tkR, if_neg hb] at h3
    injection h3 with h3 h5
    injection h3 with h3 h6
    subst h3
    subst h6
    match M, h2 with
    | M + 1, h2 =>
      obtain ⟨s3, b1, b2, b3⟩ := hR (q + 1) m M (by omega) (by omega) h5
      have hn := htx.1
      have hc := (htx.2.2 q (by omega)).1
      have ht := (htx.2.2 q (by omega)).2
      have e1 : lpG R F (nI n) (M + 1) (nI q) s = lpG R F (nI n) M (nI (q + 1)) s' := by
        rw [lpG]
        simp (disch := omega) only [ax_let, Option.bind_some, cond_true, cond_false, if_pos, if_neg, if_true, if_false, eq_self, nI_add, nI_ltI, nI_leI, nI_eq, nI_clamp, pu_in, c_0, c_1, c_2, c_3, c_4, c_5, c_6, c_7, c_8, c_9, c_10, c_11, c_12, c_15, c_16, c_17, c_32, c_35, c_36, c_38, c_40, c_41, c_42, c_43, c_44, c_45, c_48, c_57, c_58, c_59, c_60, c_61, c_62, c_64, c_65, c_69, c_75, c_83, c_91, c_93, c_94, c_97, c_105, c_106, c_110, c_119, c_123, c_124, c_125, c_126, c_240, c_256, c_400, c_m, nI_m1, nM_i, lN_add, lN_mul, lN_i, nI_l, lN_eq, lgN_le, lgN_lt, lgN_ge, lgN_gt, nI_sub, nI_mul, d_0, d_1, c_13, c_14, c_18, c_19, c_20, c_21, c_22, c_23, c_24, c_25, c_26, c_27, c_28, c_29, c_30, c_31, c_33, c_34, c_37, c_39, c_46, c_47, c_49, c_50, c_51, c_52, c_53, c_54, c_55, c_56, c_63, c_66, c_67, c_68, c_70, c_71, c_72, c_73, c_74, c_76, c_77, c_78, c_79, c_80, c_81, c_82, c_84, c_85, c_86, c_87, c_88, c_89, c_90, c_92, c_95, c_96, c_98, c_99, c_100, c_101, c_102, c_103, c_104, c_107, c_108, c_109, c_111, c_112, c_113, c_114, c_115, c_116, c_117, c_118, c_120, c_121, c_122, c_127, c_280, d_2, d_3, d_4, d_8, d_9, d_10, d_15, d_16, d_32, d_48, d_62, d_63, d_64, h8, ht, ha]
      rw [e1]
      exact ⟨s3, b1, hf.trans b2, b3⟩
theorem z_stop {c p : Nat} {G : ax_σ → Prop} (htx : ztx R n f s) (h8 : s.1 0 38 8 = nI 0) (hf : frm (XZ ph) s s') (ha : f_Z_accepts F (nI c) (nI p) s = some (nI 0, s')) : zR ph R F n f ((c, p) :: ts) s (nI p) G := by
  intro p0 m0 M0 h1 h2 h3
  refine z_blank (P := fun y => ∃ s', y = some (nI p, s') ∧ frm (XZ ph) s s' ∧ (nI p = nM → G s')) htx h8 (fun q m M h1 h2 h3 h4 => ?_) m0 p0 M0 h1 h2 h3
  match m, h1, h2, h3, h4 with
  | 0, h1, h2, h3, h4 => cases h3
  | m + 1, h1, h2, h3, h4 =>
    have hb : f q ≠ 32 := h4.resolve_left (by omega)
    rw [tkR, if_neg hb] at h3
    injection h3 with h3 h5
    injection h3 with h3 h6
    subst h3
    subst h6
    match M, h2 with
    | M + 1, h2 =>
      have hn := htx.1
      have hc := (htx.2.2 q (by omega)).1
      have ht := (htx.2.2 q (by omega)).2
      have e1 : lpG R F (nI n) (M + 1) (nI q) s = some (.inl (nI q, s')) := by
        rw [lpG]
        simp (disch := omega) only [ax_let, Option.bind_some, cond_true, cond_false, if_pos, if_neg, if_true, if_false, eq_self, nI_add, nI_ltI, nI_leI, nI_eq, nI_clamp, pu_in, c_0, c_1, c_2, c_3, c_4, c_5, c_6, c_7, c_8, c_9, c_10, c_11, c_12, c_15, c_16, c_17, c_32, c_35, c_36, c_38, c_40, c_41, c_42, c_43, c_44, c_45, c_48, c_57, c_58, c_59, c_60, c_61, c_62, c_64, c_65, c_69, c_75, c_83, c_91, c_93, c_94, c_97, c_105, c_106, c_110, c_119, c_123, c_124, c_125, c_126, c_240, c_256, c_400, c_m, nI_m1, nM_i, lN_add, lN_mul, lN_i, nI_l, lN_eq, lgN_le, lgN_lt, lgN_ge, lgN_gt, nI_sub, nI_mul, d_0, d_1, c_13, c_14, c_18, c_19, c_20, c_21, c_22, c_23, c_24, c_25, c_26, c_27, c_28, c_29, c_30, c_31, c_33, c_34, c_37, c_39, c_46, c_47, c_49, c_50, c_51, c_52, c_53, c_54, c_55, c_56, c_63, c_66, c_67, c_68, c_70, c_71, c_72, c_73, c_74, c_76, c_77, c_78, c_79, c_80, c_81, c_82, c_84, c_85, c_86, c_87, c_88, c_89, c_90, c_92, c_95, c_96, c_98, c_99, c_100, c_101, c_102, c_103, c_104, c_107, c_108, c_109, c_111, c_112, c_113, c_114, c_115, c_116, c_117, c_118, c_120, c_121, c_122, c_127, c_280, d_2, d_3, d_4, d_8, d_9, d_10, d_15, d_16, d_32, d_48, d_62, d_63, d_64, h8, ht, ha]
      rw [e1]
      exact ⟨s', rfl, hf, fun e => absurd e (of_eq_false (nI_m1 (by omega)))⟩
theorem z_end {md : Nat} {G : ax_σ → Prop} (htx : ztx R n f s) (h8 : s.1 0 38 8 = nI 0) (h7 : s.1 0 38 7 = nI md) (hmd : md < 61) (hG : md = 60 → G s) : zR ph R F n f [] s (if md = 60 then nM else nI n) G := by
  intro p0 m0 M0 h1 h2 h3
  refine z_blank (P := fun y => ∃ s', y = some ((if md = 60 then nM else nI n), s') ∧ frm (XZ ph) s s' ∧ ((if md = 60 then nM else nI n) = nM → G s')) htx h8 (fun q m M h1 h2 h3 h4 => ?_) m0 p0 M0 h1 h2 h3
  match m, h1, h2, h3, h4 with
  | m + 1, h1, h2, h3, h4 =>
    rw [tkR, if_neg (h4.resolve_left (by omega))] at h3
    cases h3
  | 0, h1, h2, h3, h4 =>
    match M, h2 with
    | M + 1, h2 =>
      have hn := htx.1
      have e1 : lpG R F (nI n) (M + 1) (nI q) s = some (.inr s) := by
        rw [lpG]
        simp (disch := omega) only [ax_let, Option.bind_some, cond_true, cond_false, if_pos, if_neg, if_true, if_false, eq_self, nI_add, nI_ltI, nI_leI, nI_eq, nI_clamp, pu_in, c_0, c_1, c_2, c_3, c_4, c_5, c_6, c_7, c_8, c_9, c_10, c_11, c_12, c_15, c_16, c_17, c_32, c_35, c_36, c_38, c_40, c_41, c_42, c_43, c_44, c_45, c_48, c_57, c_58, c_59, c_60, c_61, c_62, c_64, c_65, c_69, c_75, c_83, c_91, c_93, c_94, c_97, c_105, c_106, c_110, c_119, c_123, c_124, c_125, c_126, c_240, c_256, c_400, c_m, nI_m1, nM_i, lN_add, lN_mul, lN_i, nI_l, lN_eq, lgN_le, lgN_lt, lgN_ge, lgN_gt, nI_sub, nI_mul, d_0, d_1, c_13, c_14, c_18, c_19, c_20, c_21, c_22, c_23, c_24, c_25, c_26, c_27, c_28, c_29, c_30, c_31, c_33, c_34, c_37, c_39, c_46, c_47, c_49, c_50, c_51, c_52, c_53, c_54, c_55, c_56, c_63, c_66, c_67, c_68, c_70, c_71, c_72, c_73, c_74, c_76, c_77, c_78, c_79, c_80, c_81, c_82, c_84, c_85, c_86, c_87, c_88, c_89, c_90, c_92, c_95, c_96, c_98, c_99, c_100, c_101, c_102, c_103, c_104, c_107, c_108, c_109, c_111, c_112, c_113, c_114, c_115, c_116, c_117, c_118, c_120, c_121, c_122, c_127, c_280, d_2, d_3, d_4, d_8, d_9, d_10, d_15, d_16, d_32, d_48, d_62, d_63, d_64]
      rw [e1]
      by_cases hm : md = 60
      · refine ⟨s, ?_, frm.refl, fun _ => hG hm⟩
        unfold zfin
        simp (disch := omega) only [ax_let, Option.bind_some, cond_true, cond_false, if_pos, if_neg, if_true, if_false, eq_self, nI_add, nI_ltI, nI_leI, nI_eq, nI_clamp, pu_in, c_0, c_1, c_2, c_3, c_4, c_5, c_6, c_7, c_8, c_9, c_10, c_11, c_12, c_15, c_16, c_17, c_32, c_35, c_36, c_38, c_40, c_41, c_42, c_43, c_44, c_45, c_48, c_57, c_58, c_59, c_60, c_61, c_62, c_64, c_65, c_69, c_75, c_83, c_91, c_93, c_94, c_97, c_105, c_106, c_110, c_119, c_123, c_124, c_125, c_126, c_240, c_256, c_400, c_m, nI_m1, nM_i, lN_add, lN_mul, lN_i, nI_l, lN_eq, lgN_le, lgN_lt, lgN_ge, lgN_gt, nI_sub, nI_mul, d_0, d_1, c_13, c_14, c_18, c_19, c_20, c_21, c_22, c_23, c_24, c_25, c_26, c_27, c_28, c_29, c_30, c_31, c_33, c_34, c_37, c_39, c_46, c_47, c_49, c_50, c_51, c_52, c_53, c_54, c_55, c_56, c_63, c_66, c_67, c_68, c_70, c_71, c_72, c_73, c_74, c_76, c_77, c_78, c_79, c_80, c_81, c_82, c_84, c_85, c_86, c_87, c_88, c_89, c_90, c_92, c_95, c_96, c_98, c_99, c_100, c_101, c_102, c_103, c_104, c_107, c_108, c_109, c_111, c_112, c_113, c_114, c_115, c_116, c_117, c_118, c_120, c_121, c_122, c_127, c_280, d_2, d_3, d_4, d_8, d_9, d_10, d_15, d_16, d_32, d_48, d_62, d_63, d_64, h8, h7]
      · refine ⟨s, ?_, frm.refl, fun e => ?_⟩
        · unfold zfin
          simp (disch := omega) only [ax_let, Option.bind_some, cond_true, cond_false, if_pos, if_neg, if_true, if_false, eq_self, nI_add, nI_ltI, nI_leI, nI_eq, nI_clamp, pu_in, c_0, c_1, c_2, c_3, c_4, c_5, c_6, c_7, c_8, c_9, c_10, c_11, c_12, c_15, c_16, c_17, c_32, c_35, c_36, c_38, c_40, c_41, c_42, c_43, c_44, c_45, c_48, c_57, c_58, c_59, c_60, c_61, c_62, c_64, c_65, c_69, c_75, c_83, c_91, c_93, c_94, c_97, c_105, c_106, c_110, c_119, c_123, c_124, c_125, c_126, c_240, c_256, c_400, c_m, nI_m1, nM_i, lN_add, lN_mul, lN_i, nI_l, lN_eq, lgN_le, lgN_lt, lgN_ge, lgN_gt, nI_sub, nI_mul, d_0, d_1, c_13, c_14, c_18, c_19, c_20, c_21, c_22, c_23, c_24, c_25, c_26, c_27, c_28, c_29, c_30, c_31, c_33, c_34, c_37, c_39, c_46, c_47, c_49, c_50, c_51, c_52, c_53, c_54, c_55, c_56, c_63, c_66, c_67, c_68, c_70, c_71, c_72, c_73, c_74, c_76, c_77, c_78, c_79, c_80, c_81, c_82, c_84, c_85, c_86, c_87, c_88, c_89, c_90, c_92, c_95, c_96, c_98, c_99, c_100, c_101, c_102, c_103, c_104, c_107, c_108, c_109, c_111, c_112, c_113, c_114, c_115, c_116, c_117, c_118, c_120, c_121, c_122, c_127, c_280, d_2, d_3, d_4, d_8, d_9, d_10, d_15, d_16, d_32, d_48, d_62, d_63, d_64, h8, h7]
        · rw [if_neg hm] at e
          exact absurd e (of_eq_false (nI_m1 (by omega)))
/-- within a number: k figures so far -/
def zN (s : ax_σ) (k v p : Nat) : ax_σ := ax_wI (ax_wL (ax_wI s 0 38 8 (nI k)) 0 38 9 (lN v)) 0 38 10 (nI p)
theorem zN_w (s : ax_σ) (k v p k' v' : Nat) : ax_wI (ax_wL (zN s k v p) 0 38 9 (lN v')) 0 38 8 (nI k') = zN s k' v' p := by
  refine Prod.ext ?_ ?_
  · funext a b c
    show (ax_wI (ax_wL (zN s k v p) 0 38 9 (lN v')) 0 38 8 (nI k')).1 a b c = (zN s k' v' p).1 a b c
    simp only [zN, wI_1, wL_1]
    by_cases h1 : a = 0 ∧ b = 38 ∧ c = 8
    · rw [if_pos h1, if_neg (by omega), if_pos h1]
    · by_cases h2 : a = 0 ∧ b = 38 ∧ c = 10
      · rw [if_neg h1, if_pos h2, if_pos h2]
      · rw [if_neg h1, if_neg h2, if_neg h1, if_neg h2, if_neg h1]
  · funext a b c
    show (ax_wI (ax_wL (zN s k v p) 0 38 9 (lN v')) 0 38 8 (nI k')).2 a b c = (zN s k' v' p).2 a b c
    simp only [zN, wI_2, wL_2]
    by_cases h1 : a = 0 ∧ b = 38 ∧ c = 9
    · rw [if_pos h1, if_pos h1]
    · rw [if_neg h1, if_neg h1, if_neg h1]
theorem zN_0 (s : ax_σ) (k v p k' : Nat) : ax_wI (zN s k v p) 0 38 8 (nI k') = zN s k' v p := by
  refine Prod.ext ?_ ?_
  · funext a b c
    show (ax_wI (zN s k v p) 0 38 8 (nI k')).1 a b c = (zN s k' v p).1 a b c
    simp only [zN, wI_1, wL_1]
    by_cases h1 : a = 0 ∧ b = 38 ∧ c = 8
    · rw [if_pos h1, if_neg (by omega), if_pos h1]
    · by_cases h2 : a = 0 ∧ b = 38 ∧ c = 10
      · rw [if_neg h1, if_pos h2, if_pos h2]
      · rw [if_neg h1, if_neg h2, if_neg h1, if_neg h2, if_neg h1]
  · rfl
theorem zN_e (F : Nat) (s : ax_σ) (k v p : Nat) : f_Z_endNumber F (zN s k v p) = f_Z_endNumber F (zN s 0 v p) := by
  unfold f_Z_endNumber
  simp (disch := omega) only [ax_let, Option.bind_some, cond_true, cond_false, if_pos, if_neg, if_true, if_false, eq_self, nI_add, nI_ltI, nI_leI, nI_eq, nI_clamp, pu_in, c_0, c_1, c_2, c_3, c_4, c_5, c_6, c_7, c_8, c_9, c_10, c_11, c_12, c_15, c_16, c_17, c_32, c_35, c_36, c_38, c_40, c_41, c_42, c_43, c_44, c_45, c_48, c_57, c_58, c_59, c_60, c_61, c_62, c_64, c_65, c_69, c_75, c_83, c_91, c_93, c_94, c_97, c_105, c_106, c_110, c_119, c_123, c_124, c_125, c_126, c_240, c_256, c_400, c_m, nI_m1, nM_i, lN_add, lN_mul, lN_i, nI_l, lN_eq, lgN_le, lgN_lt, lgN_ge, lgN_gt, nI_sub, nI_mul, d_0, d_1, c_13, c_14, c_18, c_19, c_20, c_21, c_22, c_23, c_24, c_25, c_26, c_27, c_28, c_29, c_30, c_31, c_33, c_34, c_37, c_39, c_46, c_47, c_49, c_50, c_51, c_52, c_53, c_54, c_55, c_56, c_63, c_66, c_67, c_68, c_70, c_71, c_72, c_73, c_74, c_76, c_77, c_78, c_79, c_80, c_81, c_82, c_84, c_85, c_86, c_87, c_88, c_89, c_90, c_92, c_95, c_96, c_98, c_99, c_100, c_101, c_102, c_103, c_104, c_107, c_108, c_109, c_111, c_112, c_113, c_114, c_115, c_116, c_117, c_118, c_120, c_121, c_122, c_127, c_280, d_2, d_3, d_4, d_8, d_9, d_10, d_15, d_16, d_32, d_48, d_62, d_63, d_64, zN_0]
theorem zN_f (s : ax_σ) (k v p : Nat) : frm (XZ ph) s (zN s k v p) := by
  unfold zN
  refine ((frm.refl.wI _ _ _ _ ?_).wL _ _ _ _ ?_).wI _ _ _ _ ?_ <;> unfold XZ <;> omega
end
