/-! PURE: the three sizes are read -/
def szC (k : Nat) : Nat := if k = 2 then 59 else 58
def isSz (k v : Nat) : Bool := if k = 0 then decide (v = 8 ∨ v = 16 ∨ v = 32 ∨ v = 64) else if k = 1 then decide (2 ≤ v ∧ v ≤ 4) else decide (1 ≤ v ∧ v ≤ 4)
theorem rd_isSz {k v : Nat} (hk : k < 3) (hv : v < 2 ^ 31) : f_R_isSize (nI k) (nI v) = some (if isSz k v = true then nI 1 else nI 0) := by
  obtain rfl | rfl | rfl : k = 0 ∨ k = 1 ∨ k = 2 := by omega
  · by_cases h : v = 8 ∨ v = 16 ∨ v = 32 ∨ v = 64
    · rcases h with rfl | rfl | rfl | rfl <;> rfl
    · unfold f_R_isSize isSz
      simp (disch := omega) only [ax_let, Option.bind_some, cond_true, cond_false, if_pos, if_neg, if_true, if_false, eq_self, nI_add, nI_ltI, nI_leI, nI_eq, nI_clamp, pu_in, c_0, c_1, c_2, c_3, c_4, c_5, c_6, c_7, c_8, c_9, c_10, c_11, c_12, c_15, c_16, c_17, c_32, c_35, c_36, c_38, c_40, c_41, c_42, c_43, c_44, c_45, c_48, c_57, c_58, c_59, c_60, c_61, c_62, c_64, c_65, c_69, c_75, c_83, c_91, c_93, c_94, c_97, c_105, c_106, c_110, c_119, c_123, c_124, c_125, c_126, c_240, c_256, c_400, c_m, nI_m1, nM_i, decide_eq_true_eq]
  · unfold f_R_isSize isSz
    by_cases h1 : v < 2
    · simp (disch := omega) only [ax_let, Option.bind_some, cond_true, cond_false, if_pos, if_neg, if_true, if_false, eq_self, nI_add, nI_ltI, nI_leI, nI_eq, nI_clamp, pu_in, c_0, c_1, c_2, c_3, c_4, c_5, c_6, c_7, c_8, c_9, c_10, c_11, c_12, c_15, c_16, c_17, c_32, c_35, c_36, c_38, c_40, c_41, c_42, c_43, c_44, c_45, c_48, c_57, c_58, c_59, c_60, c_61, c_62, c_64, c_65, c_69, c_75, c_83, c_91, c_93, c_94, c_97, c_105, c_106, c_110, c_119, c_123, c_124, c_125, c_126, c_240, c_256, c_400, c_m, nI_m1, nM_i, decide_eq_true_eq]
    · by_cases h2 : 4 < v
      · simp (disch := omega) only [ax_let, Option.bind_some, cond_true, cond_false, if_pos, if_neg, if_true, if_false, eq_self, nI_add, nI_ltI, nI_leI, nI_eq, nI_clamp, pu_in, c_0, c_1, c_2, c_3, c_4, c_5, c_6, c_7, c_8, c_9, c_10, c_11, c_12, c_15, c_16, c_17, c_32, c_35, c_36, c_38, c_40, c_41, c_42, c_43, c_44, c_45, c_48, c_57, c_58, c_59, c_60, c_61, c_62, c_64, c_65, c_69, c_75, c_83, c_91, c_93, c_94, c_97, c_105, c_106, c_110, c_119, c_123, c_124, c_125, c_126, c_240, c_256, c_400, c_m, nI_m1, nM_i, decide_eq_true_eq]
      · simp (disch := omega) only [ax_let, Option.bind_some, cond_true, cond_false, if_pos, if_neg, if_true, if_false, eq_self, nI_add, nI_ltI, nI_leI, nI_eq, nI_clamp, pu_in, c_0, c_1, c_2, c_3, c_4, c_5, c_6, c_7, c_8, c_9, c_10, c_11, c_12, c_15, c_16, c_17, c_32, c_35, c_36, c_38, c_40, c_41, c_42, c_43, c_44, c_45, c_48, c_57, c_58, c_59, c_60, c_61, c_62, c_64, c_65, c_69, c_75, c_83, c_91, c_93, c_94, c_97, c_105, c_106, c_110, c_119, c_123, c_124, c_125, c_126, c_240, c_256, c_400, c_m, nI_m1, nM_i, decide_eq_true_eq]
  · unfold f_R_isSize isSz
    by_cases h1 : v < 1
    · simp (disch := omega) only [ax_let, Option.bind_some, cond_true, cond_false, if_pos, if_neg, if_true, if_false, eq_self, nI_add, nI_ltI, nI_leI, nI_eq, nI_clamp, pu_in, c_0, c_1, c_2, c_3, c_4, c_5, c_6, c_7, c_8, c_9, c_10, c_11, c_12, c_15, c_16, c_17, c_32, c_35, c_36, c_38, c_40, c_41, c_42, c_43, c_44, c_45, c_48, c_57, c_58, c_59, c_60, c_61, c_62, c_64, c_65, c_69, c_75, c_83, c_91, c_93, c_94, c_97, c_105, c_106, c_110, c_119, c_123, c_124, c_125, c_126, c_240, c_256, c_400, c_m, nI_m1, nM_i, decide_eq_true_eq]
    · by_cases h2 : 4 < v
      · simp (disch := omega) only [ax_let, Option.bind_some, cond_true, cond_false, if_pos, if_neg, if_true, if_false, eq_self, nI_add, nI_ltI, nI_leI, nI_eq, nI_clamp, pu_in, c_0, c_1, c_2, c_3, c_4, c_5, c_6, c_7, c_8, c_9, c_10, c_11, c_12, c_15, c_16, c_17, c_32, c_35, c_36, c_38, c_40, c_41, c_42, c_43, c_44, c_45, c_48, c_57, c_58, c_59, c_60, c_61, c_62, c_64, c_65, c_69, c_75, c_83, c_91, c_93, c_94, c_97, c_105, c_106, c_110, c_119, c_123, c_124, c_125, c_126, c_240, c_256, c_400, c_m, nI_m1, nM_i, decide_eq_true_eq]
      · simp (disch := omega) only [ax_let, Option.bind_some, cond_true, cond_false, if_pos, if_neg, if_true, if_false, eq_self, nI_add, nI_ltI, nI_leI, nI_eq, nI_clamp, pu_in, c_0, c_1, c_2, c_3, c_4, c_5, c_6, c_7, c_8, c_9, c_10, c_11, c_12, c_15, c_16, c_17, c_32, c_35, c_36, c_38, c_40, c_41, c_42, c_43, c_44, c_45, c_48, c_57, c_58, c_59, c_60, c_61, c_62, c_64, c_65, c_69, c_75, c_83, c_91, c_93, c_94, c_97, c_105, c_106, c_110, c_119, c_123, c_124, c_125, c_126, c_240, c_256, c_400, c_m, nI_m1, nM_i, decide_eq_true_eq]
def RZ (n : Nat) (T : List Tok) (g : Nat) (ts : List Tok) (lf : Nat) (N : List Nat) (s : ax_σ) : Prop := RX n T g ts lf [] s ∧ RL g [] s ∧ NM g N s
def lfZ (lf k v p : Nat) : Nat := if isSz k v = true then lf else min lf (p * 8 + 2)
def pSz (k : Nat) (ts : List Tok) : Rd (Nat × Nat) := rbind (pNumR ts) (fun a r => rbind (pTake (szC k) r) (fun _ r' => .ok (a, r')))
/-- one turn of a loop that reads -/
def roL (n : Nat) (T : List Tok) {α : Type} (x : Rd α) (Fr : ax_σ → Prop) (K : α → List Tok → ax_σ → Prop) (y : Option ((Int32 × ax_σ) ⊕ ax_σ)) (z : ax_σ → Option ((Int32 × ax_σ) ⊕ ax_σ)) : Prop := match x with
  | .ok (a, r) => ∃ s', y = z s' ∧ K a r s' ∧ Fr s'
  | .error r => ∃ s', y = some (.inl (nI 0, s')) ∧ rdA n T r s' ∧ Fr s'
theorem pNum_pl {n v p : Nat} {ts r : List Tok} (h : pNum ts = some (v, p, r)) : pl n ts = p := by
  match ts, h with
  | (c, q) :: ts, h =>
    rw [pNum] at h
    by_cases hc : isD c = true
    · rw [if_pos hc] at h
      injection h with h
      injection h with h1 h2
      injection h2 with h2 h3
    · rw [if_neg hc] at h; cases h
section
variable {n : Nat} {T : List Tok} {g : Nat} {ts ts' : List Tok} {lf lf' : Nat} {N : List Nat} {s s' : ax_σ}
theorem RZ.keepE (h : RZ n T g ts lf N s) (hf : frm (XE g) s s') (hx : RX n T g ts' lf' [] s') : RZ n T g ts' lf' N s' := ⟨hx, h.2.1.keep hf (fun g' r k hx => by unfold XN at hx; unfold XE XC; omega), h.2.2.keep hf (fun k _ => by unfold XE XC; omega)⟩
theorem XR.gE (h : frm (XE g) s s') : frm (XR g) s s' := h.imp (fun g r k h => by unfold XE XC at h; unfold XR; omega)
theorem RZ.set {k v : Nat} (h : RZ n T g ts lf N s) : RZ n T g ts lf (N.set k v) (ax_wI s g 1 k (nI v)) ∧ frm (XR g) s (ax_wI s g 1 k (nI v)) := by
  have ff : frm (fun g' r k => g' = g ∧ r = 1) s (ax_wI s g 1 k (nI v)) := frm.refl.wI _ _ _ _ ⟨rfl, rfl⟩
  exact ⟨⟨h.1.keepN ff (fun g' r k hx => by unfold XC at hx; omega), h.2.1.keep ff (fun g' r k hx => by unfold XN at hx; omega), h.2.2.set⟩, ff.imp (fun g' r k h => by unfold XR; omega)⟩
theorem rd_size {F k m : Nat} (hF : 10 ≤ F) (hk : k < 3) (h : RZ n T g ts lf N s) : roL n T (pSz k ts) (frm (XR g) s) (fun a r s' => RZ n T g r (lfZ lf k a.1 a.2) (N.set k a.1) s' ∧ a.1 < 10 ^ 9 ∧ r.length + 2 ≤ ts.length) (lp_R_sizes_2 F g (m + 1) (nI k) s) (fun s' => lp_R_sizes_2 F g m (nI (k + 1)) s') := by
  unfold pSz
  match hp : pNumR ts with
  | .error r =>
    obtain ⟨hp', e⟩ := pNumR_er hp
    subst e
    have a1 := rx_num_no0 (g := g) (b := 1000000000) hF (by omega) (by omega) h.1.1 hp'
    refine ⟨s, ?_, h.1.1, frm.refl⟩
    rw [lp_R_sizes_2]
    simp (disch := omega) only [ax_let, Option.bind_some, cond_true, cond_false, if_pos, if_neg, if_true, if_false, eq_self, nI_add, nI_ltI, nI_leI, nI_eq, nI_clamp, pu_in, c_0, c_1, c_2, c_3, c_4, c_5, c_6, c_7, c_8, c_9, c_10, c_11, c_12, c_15, c_16, c_17, c_32, c_35, c_36, c_38, c_40, c_41, c_42, c_43, c_44, c_45, c_48, c_57, c_58, c_59, c_60, c_61, c_62, c_64, c_65, c_69, c_75, c_83, c_91, c_93, c_94, c_97, c_105, c_106, c_110, c_119, c_123, c_124, c_125, c_126, c_240, c_256, c_400, c_m, nI_m1, nM_i, h.1.1.inb, c_giga, a1]
  | .ok ((v, p), r) =>
    have hp' := pNumR_ok hp
    obtain ⟨s1, a1, a2, a3, a4, a5⟩ := rx_num_ok (b := 1000000000) hF (by omega) h.1 hp'
    have hlf : lfN lf 1000000000 v p = lf := if_pos (by omega)
    rw [hlf] at a2
    have hl1 := pNum_len hp'
    have hz1 := h.keepE a3 a2
    have hat := h.1.1.at.2.1
    rw [pNum_pl hp'] at hat
    have hsel : (if k = 2 then some (nI 59) else some (nI 58)) = some (nI (szC k)) := by
      unfold szC
      split <;> rfl
    have hcs : szC k < 128 ∧ 0 < szC k := by unfold szC; split <;> omega
    show roL n T (rbind (pTake (szC k) r) (fun _ r' => .ok ((v, p), r'))) _ _ _ _
    match ht : pTake (szC k) r with
    | .error r2 =>
      obtain ⟨b1, b2⟩ := rx_take_er (g := g) hcs.2 hcs.1 a2.1 ht
      refine ⟨s1, ?_, by rw [b2]; exact a2.1, XR.gE a3⟩
      rw [lp_R_sizes_2]
      simp (disch := omega) only [ax_let, Option.bind_some, cond_true, cond_false, if_pos, if_neg, if_true, if_false, eq_self, nI_add, nI_ltI, nI_leI, nI_eq, nI_clamp, pu_in, c_0, c_1, c_2, c_3, c_4, c_5, c_6, c_7, c_8, c_9, c_10, c_11, c_12, c_15, c_16, c_17, c_32, c_35, c_36, c_38, c_40, c_41, c_42, c_43, c_44, c_45, c_48, c_57, c_58, c_59, c_60, c_61, c_62, c_64, c_65, c_69, c_75, c_83, c_91, c_93, c_94, c_97, c_105, c_106, c_110, c_119, c_123, c_124, c_125, c_126, c_240, c_256, c_400, c_m, nI_m1, nM_i, h.1.1.inb, c_giga, a1, hsel, b1]
    | .ok ((), r2) =>
      obtain ⟨s2, b1, b2, b3⟩ := rx_take_ok (g := g) hcs.1 a2 ht
      have hl2 := pTake_len ht
      have hz2 := hz1.keepE b3 b2
      have hsz := rd_isSz (v := v) hk (by omega)
      by_cases hi : isSz k v = true
      · rw [if_pos hi] at hsz
        obtain ⟨c1, c2⟩ := hz2.set (k := k) (v := v)
        have hlfz : lfZ lf k v p = lf := if_pos hi
        refine ⟨_, ?_, ⟨by show RZ n T g r2 (lfZ lf k v p) (N.set k v) _; rw [hlfz]; exact c1, a4, by omega⟩, ((XR.gE a3).trans (XR.gE b3)).trans c2⟩
        rw [lp_R_sizes_2]
        simp (disch := omega) only [ax_let, Option.bind_some, cond_true, cond_false, if_pos, if_neg, if_true, if_false, eq_self, nI_add, nI_ltI, nI_leI, nI_eq, nI_clamp, pu_in, c_0, c_1, c_2, c_3, c_4, c_5, c_6, c_7, c_8, c_9, c_10, c_11, c_12, c_15, c_16, c_17, c_32, c_35, c_36, c_38, c_40, c_41, c_42, c_43, c_44, c_45, c_48, c_57, c_58, c_59, c_60, c_61, c_62, c_64, c_65, c_69, c_75, c_83, c_91, c_93, c_94, c_97, c_105, c_106, c_110, c_119, c_123, c_124, c_125, c_126, c_240, c_256, c_400, c_m, nI_m1, nM_i, h.1.1.inb, c_giga, a1, hsel, b1, hsz]
      · rw [if_neg hi] at hsz
        obtain ⟨s3, d1, d2, d3⟩ := rx_note (p := p) (c := 2) b2 a5 (by omega)
        have hz3 := hz2.keepE d3 d2
        obtain ⟨c1, c2⟩ := hz3.set (k := k) (v := v)
        have hlfz : lfZ lf k v p = min lf (p * 8 + 2) := if_neg hi
        refine ⟨_, ?_, ⟨by show RZ n T g r2 (lfZ lf k v p) (N.set k v) _; rw [hlfz]; exact c1, a4, by omega⟩, (((XR.gE a3).trans (XR.gE b3)).trans (XR.gE d3)).trans c2⟩
        rw [lp_R_sizes_2]
        simp (disch := omega) only [ax_let, Option.bind_some, cond_true, cond_false, if_pos, if_neg, if_true, if_false, eq_self, nI_add, nI_ltI, nI_leI, nI_eq, nI_clamp, pu_in, c_0, c_1, c_2, c_3, c_4, c_5, c_6, c_7, c_8, c_9, c_10, c_11, c_12, c_15, c_16, c_17, c_32, c_35, c_36, c_38, c_40, c_41, c_42, c_43, c_44, c_45, c_48, c_57, c_58, c_59, c_60, c_61, c_62, c_64, c_65, c_69, c_75, c_83, c_91, c_93, c_94, c_97, c_105, c_106, c_110, c_119, c_123, c_124, c_125, c_126, c_240, c_256, c_400, c_m, nI_m1, nM_i, h.1.1.inb, c_giga, a1, hsel, b1, hsz, hat, d1]
end
abbrev Hd : Type := (Nat × Nat) × (Nat × Nat) × (Nat × Nat)
def pHd (ts : List Tok) : Rd Hd := rbind (pSz 0 ts) (fun a r => rbind (pSz 1 r) (fun b r => rbind (pSz 2 r) (fun c r => .ok ((a, b, c), r))))
def lfH (lf : Nat) (h : Hd) : Nat := lfZ (lfZ (lfZ lf 0 h.1.1 h.1.2) 1 h.2.1.1 h.2.1.2) 2 h.2.2.1 h.2.2.2
def szK (g : Nat) (w : (Int32 × ax_σ) ⊕ ax_σ) : Option (Int32 × ax_σ) := match w with
  | .inl w => some w
  | .inr s21 =>
      bif ax_in (1 : Int32) 8 then
      bif ax_in (7 : Int32) 8 then
      ax_let (ax_wI s21 g 1 ((7 : Int32)).toNatClampNeg (s21.1 g 1 ((1 : Int32)).toNatClampNeg)) (fun s24 =>
        some (((1 : Int32), s24)))
      else none
      else none
theorem rd_sizes {n : Nat} {T : List Tok} {g F : Nat} {ts : List Tok} {lf : Nat} {s : ax_σ} (hF : 10 ≤ F) (h : RZ n T g ts lf [0, 0, 0, 0, 0, 0, 0, 0] s) : ro n T (pHd ts) (frm (XR g) s) (fun a r v s' => v = nI 1 ∧ RZ n T g r (lfH lf a) [a.1.1, a.2.1.1, a.2.2.1, 0, 0, 0, 0, a.2.1.1] s' ∧ a.1.1 < 10 ^ 9 ∧ a.2.1.1 < 10 ^ 9 ∧ a.2.2.1 < 10 ^ 9 ∧ r.length + 6 ≤ ts.length) (nI 0) (f_R_sizes F g s) := by
  obtain ⟨F', rfl⟩ : ∃ F', F = F' + 4 := ⟨F - 4, by omega⟩
  have e0 : f_R_sizes (F' + 4) g s = Option.bind (lp_R_sizes_2 (F' + 4) g (F' + 3 + 1) (nI 0) s) (szK g) := rfl
  rw [e0]
  have k0 := rd_size (F := F' + 4) (k := 0) (m := F' + 3) hF (by omega) h
  unfold pHd
  match h0 : pSz 0 ts, k0 with
  | .error r, k0 =>
    obtain ⟨s1, a1, a2, a3⟩ := k0
    refine ⟨s1, ?_, a2, a3⟩
    rw [a1]
    rfl
  | .ok (a, r0), k0 =>
    obtain ⟨s1, a1, ⟨a2, a3, a4⟩, a5⟩ := k0
    have a1 : lp_R_sizes_2 (F' + 4) g (F' + 3 + 1) (nI 0) s = lp_R_sizes_2 (F' + 4) g (F' + 2 + 1) (nI 1) s1 := a1
    rw [a1]
    have k1 := rd_size (F := F' + 4) (k := 1) (m := F' + 2) hF (by omega) a2
    show ro n T (rbind (pSz 1 r0) (fun b r => rbind (pSz 2 r) (fun c r => .ok ((a, b, c), r)))) _ _ _ _
    match h1 : pSz 1 r0, k1 with
    | .error r, k1 =>
      obtain ⟨s2, b1, b2, b3⟩ := k1
      refine ⟨s2, ?_, b2, a5.trans b3⟩
      rw [b1]
      rfl
    | .ok (b, r1), k1 =>
      obtain ⟨s2, b1, ⟨b2, b3, b4⟩, b5⟩ := k1
      have b1 : lp_R_sizes_2 (F' + 4) g (F' + 2 + 1) (nI 1) s1 = lp_R_sizes_2 (F' + 4) g (F' + 1 + 1) (nI 2) s2 := b1
      rw [b1]
      have k2 := rd_size (F := F' + 4) (k := 2) (m := F' + 1) hF (by omega) b2
      show ro n T (rbind (pSz 2 r1) (fun c r => .ok ((a, b, c), r))) _ _ _ _
      match h2 : pSz 2 r1, k2 with
      | .error r, k2 =>
        obtain ⟨s3, c1, c2, c3⟩ := k2
        refine ⟨s3, ?_, c2, (a5.trans b5).trans c3⟩
        rw [c1]
        rfl
      | .ok (c, r2), k2 =>
        obtain ⟨s3, c1, ⟨c2, c3, c4⟩, c5⟩ := k2
        have c1 : lp_R_sizes_2 (F' + 4) g (F' + 1 + 1) (nI 2) s2 = lp_R_sizes_2 (F' + 4) g (F' + 1) (nI 3) s3 := c1
        rw [c1]
        obtain ⟨d1, d2⟩ := c2.set (k := 7) (v := b.1)
        have hb : s3.1 g 1 1 = nI b.1 := c2.2.2.2 1 _ rfl
        refine ⟨nI 1, _, ?_, ⟨rfl, d1, a3, b3, c3, by omega⟩, ((a5.trans b5).trans c5).trans d2⟩
        rw [lp_R_sizes_2]
        simp (disch := omega) only [ax_let, Option.bind_some, cond_true, cond_false, if_pos, if_neg, if_true, if_false, eq_self, nI_add, nI_ltI, nI_leI, nI_eq, nI_clamp, pu_in, c_0, c_1, c_2, c_3, c_4, c_5, c_6, c_7, c_8, c_9, c_10, c_11, c_12, c_15, c_16, c_17, c_32, c_35, c_36, c_38, c_40, c_41, c_42, c_43, c_44, c_45, c_48, c_57, c_58, c_59, c_60, c_61, c_62, c_64, c_65, c_69, c_75, c_83, c_91, c_93, c_94, c_97, c_105, c_106, c_110, c_119, c_123, c_124, c_125, c_126, c_240, c_256, c_400, c_m, nI_m1, nM_i, szK, hb]
