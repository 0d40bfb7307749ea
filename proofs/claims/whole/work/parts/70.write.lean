/-! PURE: the text -/
theorem wI_1 (s : ax_σ) (g r k : Nat) (v : Int32) (g' r' k' : Nat) : (ax_wI s g r k v).1 g' r' k' = if g' = g ∧ r' = r ∧ k' = k then v else s.1 g' r' k' := rfl
theorem wI_2 (s : ax_σ) (g r k : Nat) (v : Int32) : (ax_wI s g r k v).2 = s.2 := rfl
theorem wL_1 (s : ax_σ) (g r k : Nat) (v : Int64) : (ax_wL s g r k v).1 = s.1 := rfl
theorem wL_2 (s : ax_σ) (g r k : Nat) (v : Int64) (g' r' k' : Nat) : (ax_wL s g r k v).2 g' r' k' = if g' = g ∧ r' = r ∧ k' = k then v else s.2 g' r' k' := rfl
theorem pu_in {n N : Nat} (h : n < N) (hN : N < 2 ^ 31) : ax_in (nI n) N = true := by
  unfold ax_in
  rw [nI_toInt (by omega)]
  simp only [decide_eq_true_eq]
  omega
theorem pu_cu : ∀ k, k < 64 → ((nI k).toInt64.toUInt64 &&& Int64.toUInt64 63) = UInt64.ofNat k := by decide +kernel
theorem pu_sm : ∀ k, k < 64 → (BitVec.ofNat 64 k).smod 64 = BitVec.ofNat 64 k := by decide +kernel
theorem pu_tn {n : Nat} (h : n < 2 ^ 64) : (lN n).toBitVec.toNat = n := by
  show (BitVec.ofNat 64 n).toNat = n
  rw [BitVec.toNat_ofNat, Nat.mod_eq_of_lt h]
theorem pu_of (x : Int64) : ∃ n, n < 2 ^ 64 ∧ x = lN n := ⟨x.toBitVec.toNat, x.toBitVec.isLt, Int64.toBitVec_inj.mp (by show _ = BitVec.ofNat 64 _; simp)⟩
theorem pu_shr {n k : Nat} (hn : n < 2 ^ 64) (hk : k < 64) : ((lN n).toUInt64 >>> ((nI k).toInt64.toUInt64 &&& Int64.toUInt64 63)).toInt64 = lN (n / 2 ^ k) := by
  rw [pu_cu k hk]
  apply Int64.toBitVec_inj.mp
  apply BitVec.eq_of_toNat_eq
  show ((lN n).toUInt64 >>> UInt64.ofNat k).toNat = (BitVec.ofNat 64 _).toNat
  have h1 : (UInt64.ofNat k).toNat = k := by
    show (BitVec.ofNat 64 k).toNat = k
    rw [BitVec.toNat_ofNat, Nat.mod_eq_of_lt (by omega)]
  have h2 : (lN n).toUInt64.toNat = n := pu_tn hn
  rw [UInt64.toNat_shiftRight, h1, h2, Nat.mod_eq_of_lt hk, Nat.shiftRight_eq_div_pow, BitVec.toNat_ofNat, Nat.mod_eq_of_lt (Nat.lt_of_le_of_lt (Nat.div_le_self _ _) hn)]
theorem pu_and (a b : Nat) : nI a &&& nI b = nI (a &&& b) := by
  apply Int32.toBitVec_inj.mp
  rw [Int32.toBitVec_and]
  show BitVec.ofNat 32 a &&& BitVec.ofNat 32 b = BitVec.ofNat 32 (a &&& b)
  exact (BitVec.ofNat_and ..).symm
/-- byte k of a long -/
def wB (x : Int64) (k : Nat) : Nat := x.toBitVec.toNat / 2 ^ (8 * k) % 256
theorem wB_lt (x : Int64) (k : Nat) : wB x k < 256 := Nat.mod_lt _ (by decide)
theorem wB_X (x : Int64) {k : Nat} (hk : k < 8) : ((((x).toUInt64 >>> ((nI (8 * k)).toInt64.toUInt64 &&& Int64.toUInt64 63)).toInt64).toInt32 &&& (255 : Int32)) = nI (wB x k) := by
  obtain ⟨n, hn, rfl⟩ := pu_of x
  unfold wB
  rw [pu_tn hn, pu_shr hn (by omega), lN_i]
  have h := pu_and (n / 2 ^ (8 * k)) 255
  rw [show n / 2 ^ (8 * k) &&& 255 = n / 2 ^ (8 * k) % 256 from Nat.and_two_pow_sub_one_eq_mod _ 8] at h
  exact h
theorem wB_Z (x : Int64) {k : Nat} (hk : k < 8) : (((x >>> ((((8 : Int32) * nI k)).toInt64 &&& 63)) &&& (255 : Int64))).toInt32 = nI (wB x k) := by
  have h0 : ∀ k, k < 8 → (((8 : Int32) * nI k).toInt64 &&& 63) = lN (8 * k) := by decide +kernel
  rw [h0 k hk]
  have e : ((x >>> lN (8 * k)) &&& (255 : Int64)) = lN (wB x k) := by
    apply Int64.toBitVec_inj.mp
    rw [Int64.toBitVec_and, Int64.toBitVec_shiftRight]
    have h1 : ((lN (8 * k)).toBitVec.smod 64) = BitVec.ofNat 64 (8 * k) := pu_sm (8 * k) (by omega)
    rw [h1]
    apply BitVec.eq_of_getLsbD_eq
    intro i hi
    have h2 : (BitVec.ofNat 64 (8 * k)).toNat = 8 * k := by rw [BitVec.toNat_ofNat, Nat.mod_eq_of_lt (by omega)]
    rw [BitVec.getLsbD_and]
    show ((x.toBitVec.sshiftRight (BitVec.ofNat 64 (8 * k)).toNat).getLsbD i && (BitVec.ofNat 64 255).getLsbD i) = (BitVec.ofNat 64 (wB x k)).getLsbD i
    rw [h2, BitVec.getLsbD_sshiftRight, BitVec.getLsbD_ofNat, BitVec.getLsbD_ofNat]
    have h3 : (255 : Nat).testBit i = decide (i < 8) := by
      rw [show (255 : Nat) = 2 ^ 8 - 1 from rfl, Nat.testBit_two_pow_sub_one]
    have h4 : (wB x k).testBit i = (decide (i < 8) && x.toBitVec.toNat.testBit (8 * k + i)) := by
      unfold wB
      rw [show (256 : Nat) = 2 ^ 8 from rfl, Nat.testBit_mod_two_pow, Nat.testBit_div_two_pow, Nat.add_comm i]
    rw [h3, h4]
    by_cases h8 : i < 8
    · have h9 : 8 * k + i < 64 := by omega
      simp [hi, h8, h9, BitVec.getLsbD]
    · simp [h8]
  rw [e, lN_i]
/-- the count of the characters in a long from byte k on; none when one is none -/
def wr_scan (x : Int64) : Nat → Nat → Nat → Option Nat
  | 0, _, c => some c
  | j + 1, k, c => if wB x k = 0 then wr_scan x j (k + 1) c else if wB x k < 32 ∨ 126 < wB x k then none else wr_scan x j (k + 1) (c + 1)
def wr_out (s : ax_σ) : Option Nat → (Int32 × ax_σ) ⊕ Int32
  | some c => .inr (nI c)
  | none => .inl (-1, s)
theorem nI_8 (k : Nat) : nI (8 * k) + 8 = nI (8 * (k + 1)) := nI_add (8 * k) 8
theorem wr_X (F : Nat) (x : Int64) (s : ax_σ) : ∀ (j k c m : Nat), j + k = 8 → j < m → lp_X_write_5 F x s m (nI c) (nI (8 * k)) = some (wr_out s (wr_scan x j k c))
  | 0, k, c, m + 1, h, _ => by
    have : k = 8 := by omega
    subst this
    rw [lp_X_write_5]
    rfl
  | j + 1, k, c, m + 1, h, hm => by
    have hb := wB_lt x k
    rw [lp_X_write_5, if_neg (by rw [show (64 : Int32) = nI 64 from rfl, nI_leI (by decide) (by omega)]; omega), wB_X x (by omega)]
    unfold wr_scan
    by_cases h0 : wB x k = 0
    · rw [if_pos (by rw [h0]; rfl), if_pos h0, nI_8]
      exact wr_X F x s j (k + 1) c m (by omega) (by omega)
    · rw [if_neg (by rw [show (0 : Int32) = nI 0 from rfl, nI_eq (by omega) (by decide)]; exact h0), if_neg h0]
      by_cases h1 : wB x k < 32
      · rw [if_pos (by rw [show (32 : Int32) = nI 32 from rfl, nI_ltI (by omega) (by decide)]; exact h1), if_pos (Or.inl h1)]
        rfl
      · rw [if_neg (by rw [show (32 : Int32) = nI 32 from rfl, nI_ltI (by omega) (by decide)]; exact h1)]
        by_cases h2 : wB x k ≤ 126
        · rw [if_pos (by rw [show (126 : Int32) = nI 126 from rfl, nI_leI (by omega) (by decide)]; exact h2), if_neg (show ¬ (wB x k < 32 ∨ 126 < wB x k) by omega)]
          show lp_X_write_5 F x s m (nI c + 1) (nI (8 * k) + 8) = _
          rw [nI_8, nI_1]
          exact wr_X F x s j (k + 1) (c + 1) m (by omega) (by omega)
        · rw [if_neg (by rw [show (126 : Int32) = nI 126 from rfl, nI_leI (by omega) (by decide)]; exact h2), if_pos (Or.inr (by omega))]
          rfl
theorem wr_Z (F : Nat) (x : Int64) (s : ax_σ) : ∀ (j k c m : Nat), j + k = 8 → j < m → lp_Z_write_10 F x s m (nI c) (nI k) = some (wr_out s (wr_scan x j k c))
  | 0, k, c, m + 1, h, _ => by
    have : k = 8 := by omega
    subst this
    rw [lp_Z_write_10]
    rfl
  | j + 1, k, c, m + 1, h, hm => by
    have hb := wB_lt x k
    rw [lp_Z_write_10, if_neg (by rw [show (8 : Int32) = nI 8 from rfl, nI_leI (by decide) (by omega)]; omega), wB_Z x (by omega)]
    unfold wr_scan
    by_cases h0 : wB x k = 0
    · rw [if_pos (by rw [h0]; rfl), if_pos (by rw [h0]; rfl), if_pos h0, nI_1]
      exact wr_Z F x s j (k + 1) c m (by omega) (by omega)
    · have h9 : ¬ nI (wB x k) = 0 := by rw [show (0 : Int32) = nI 0 from rfl, nI_eq (by omega) (by decide)]; exact h0
      rw [if_neg h9, if_neg h0]
      by_cases h1 : wB x k < 32
      · rw [if_pos (by rw [show (32 : Int32) = nI 32 from rfl, nI_ltI (by omega) (by decide)]; exact h1), if_pos (Or.inl h1)]
        rfl
      · rw [if_neg (by rw [show (32 : Int32) = nI 32 from rfl, nI_ltI (by omega) (by decide)]; exact h1)]
        by_cases h2 : wB x k ≤ 126
        · rw [if_pos (by rw [show (126 : Int32) = nI 126 from rfl, nI_leI (by omega) (by decide)]; exact h2), if_neg (show ¬ (wB x k < 32 ∨ 126 < wB x k) by omega)]
          show (if nI (wB x k) = 0 then lp_Z_write_10 F x s m (nI c) (nI k + 1) else lp_Z_write_10 F x s m (nI c + 1) (nI k + 1)) = _
          rw [if_neg h9, nI_1, nI_1]
          exact wr_Z F x s j (k + 1) (c + 1) m (by omega) (by omega)
        · rw [if_neg (by rw [show (126 : Int32) = nI 126 from rfl, nI_leI (by omega) (by decide)]; exact h2), if_pos (Or.inr (by omega))]
          rfl
/-- what the second loops write: characters from place n on -/
def wr_putX (x : Int64) : Nat → Nat → Nat → ax_σ → ax_σ
  | 0, _, _, s => s
  | j + 1, k, n, s => if wB x k = 0 then wr_putX x j (k + 1) n s else wr_putX x j (k + 1) (n + 1) (ax_wI (ax_wI s 0 23 1 (nI (n + 1))) 0 24 n (nI (wB x k)))
def wr_putZ (x : Int64) : Nat → Nat → Nat → ax_σ → ax_σ
  | 0, _, _, s => s
  | j + 1, k, n, s => if wB x k = 0 then wr_putZ x j (k + 1) n s else wr_putZ x j (k + 1) (n + 1) (ax_wI (ax_wI s 0 39 n (nI (wB x k))) 0 38 2 (nI (n + 1)))
theorem wr_nar : ∀ v, v < 256 → vp_nar .char (((nI v).toUInt32 % 65536).toInt32) = nI v := by decide +kernel
theorem wr_ge (x : Int64) : ∀ (j k c c' : Nat), wr_scan x j k c = some c' → c ≤ c'
  | 0, k, c, c', h => by cases h; exact Nat.le_refl _
  | j + 1, k, c, c', h => by
    unfold wr_scan at h
    split at h
    · exact wr_ge x j (k + 1) c c' h
    · split at h
      · cases h
      · have := wr_ge x j (k + 1) (c + 1) c' h
        omega
theorem wr_pX (F : Nat) (x : Int64) : ∀ (j k c c' n m : Nat) (s : ax_σ), j + k = 8 → j < m → wr_scan x j k c = some c' → n + (c' - c) ≤ 240 → c ≤ c' → s.1 0 23 1 = nI n → lp_X_write_70 F x m (nI (8 * k)) s = some (wr_putX x j k n s) ∧ (wr_putX x j k n s).1 0 23 1 = nI (n + (c' - c))
  | 0, k, c, c', n, m + 1, s, h, _, hs, _, _, hn => by
    have : k = 8 := by omega
    subst this
    cases hs
    rw [lp_X_write_70]
    exact ⟨rfl, by rw [Nat.sub_self]; exact hn⟩
  | j + 1, k, c, c', n, m + 1, s, h, hm, hs, hle, hcc, hn => by
    have hb := wB_lt x k
    rw [lp_X_write_70, if_neg (by rw [show (64 : Int32) = nI 64 from rfl, nI_leI (by decide) (by omega)]; omega), wB_X x (by omega)]
    unfold wr_scan at hs
    unfold wr_putX
    by_cases h0 : wB x k = 0
    · rw [if_pos (by rw [h0]; rfl), if_pos h0, nI_8]
      rw [if_pos h0] at hs
      exact wr_pX F x j (k + 1) c c' n m s (by omega) (by omega) hs hle hcc hn
    · rw [if_neg h0] at hs
      rw [if_neg (by rw [show (0 : Int32) = nI 0 from rfl, nI_eq (by omega) (by decide)]; exact h0), if_neg h0]
      by_cases h1 : wB x k < 32 ∨ 126 < wB x k
      · rw [if_pos h1] at hs; cases hs
      · rw [if_neg h1] at hs
        have hge := wr_ge x j (k + 1) (c + 1) c' hs
        simp only [ax_let]
        rw [hn, pu_in (by omega) (by decide), nI_1, nI_clamp (by omega), wr_nar _ hb, nI_8]
        simp only [cond_true]
        have h5 := wr_pX F x j (k + 1) (c + 1) c' (n + 1) m (ax_wI (ax_wI s 0 23 1 (nI (n + 1))) 0 24 n (nI (wB x k))) (by omega) (by omega) hs (by omega) hge (by simp [wI_1])
        rw [show n + (c' - c) = n + 1 + (c' - (c + 1)) by omega]
        exact h5
theorem wr_pZ (F : Nat) (x : Int64) : ∀ (j k c c' n m : Nat) (s : ax_σ), j + k = 8 → j < m → wr_scan x j k c = some c' → n + (c' - c) ≤ 240 → c ≤ c' → s.1 0 38 2 = nI n → lp_Z_write_88 F x m (nI k) s = some (wr_putZ x j k n s) ∧ (wr_putZ x j k n s).1 0 38 2 = nI (n + (c' - c))
  | 0, k, c, c', n, m + 1, s, h, _, hs, _, _, hn => by
    have : k = 8 := by omega
    subst this
    cases hs
    rw [lp_Z_write_88]
    exact ⟨rfl, by rw [Nat.sub_self]; exact hn⟩
  | j + 1, k, c, c', n, m + 1, s, h, hm, hs, hle, hcc, hn => by
    have hb := wB_lt x k
    rw [lp_Z_write_88, if_neg (by rw [show (8 : Int32) = nI 8 from rfl, nI_leI (by decide) (by omega)]; omega), wB_Z x (by omega)]
    unfold wr_scan at hs
    unfold wr_putZ
    by_cases h0 : wB x k = 0
    · rw [if_pos (by rw [h0]; rfl), if_pos h0, nI_1]
      rw [if_pos h0] at hs
      exact wr_pZ F x j (k + 1) c c' n m s (by omega) (by omega) hs hle hcc hn
    · rw [if_neg h0] at hs
      rw [if_neg (by rw [show (0 : Int32) = nI 0 from rfl, nI_eq (by omega) (by decide)]; exact h0), if_neg h0]
      by_cases h1 : wB x k < 32 ∨ 126 < wB x k
      · rw [if_pos h1] at hs; cases hs
      · rw [if_neg h1] at hs
        have hge := wr_ge x j (k + 1) (c + 1) c' hs
        simp only [ax_let]
        have e1 : (ax_wI s 0 39 n (nI (wB x k))).1 0 38 2 = nI n := by simp [wI_1, hn]
        rw [hn, pu_in (by omega) (by decide), nI_clamp (by omega), e1, nI_1, nI_1]
        simp only [cond_true]
        have h5 := wr_pZ F x j (k + 1) (c + 1) c' (n + 1) m (ax_wI (ax_wI s 0 39 n (nI (wB x k))) 0 38 2 (nI (n + 1))) (by omega) (by omega) hs (by omega) hge (by simp [wI_1])
        rw [show n + (c' - c) = n + 1 + (c' - (c + 1)) by omega]
        exact h5
/-- the text: n characters, the same for both -/
def pr_tx (n : Nat) (f : Nat → Nat) (s : ax_σ) : Prop := n ≤ 240 ∧ s.1 0 23 1 = nI n ∧ s.1 0 38 2 = nI n ∧ ∀ k, k < n → (32 ≤ f k ∧ f k ≤ 126) ∧ s.1 0 24 k = nI (f k) ∧ s.1 0 39 k = nI (f k)
/-- all but these places is as it was -/
def pr_fr (P : Nat → Nat → Nat → Prop) (s s' : ax_σ) : Prop := (∀ g r k, ¬ P g r k → s'.1 g r k = s.1 g r k) ∧ s'.2 = s.2
theorem pr_fr.refl {P : Nat → Nat → Nat → Prop} {s : ax_σ} : pr_fr P s s := ⟨fun _ _ _ _ => rfl, rfl⟩
theorem pr_fr.trans {P : Nat → Nat → Nat → Prop} {s s1 s2 : ax_σ} (h1 : pr_fr P s s1) (h2 : pr_fr P s1 s2) : pr_fr P s s2 := ⟨fun g r k h => (h2.1 g r k h).trans (h1.1 g r k h), h2.2.trans h1.2⟩
theorem pr_fr.w {P : Nat → Nat → Nat → Prop} {s s1 : ax_σ} (h1 : pr_fr P s s1) (g r k : Nat) (v : Int32) (hp : P g r k) : pr_fr P s (ax_wI s1 g r k v) := by
  refine ⟨fun g' r' k' h => ?_, h1.2⟩
  rw [wI_1, if_neg (fun e => h (by rw [e.1, e.2.1, e.2.2]; exact hp))]
  exact h1.1 g' r' k' h
theorem pr_fr.imp {P P' : Nat → Nat → Nat → Prop} {s s1 : ax_σ} (h1 : pr_fr P s s1) (h : ∀ g r k, P g r k → P' g r k) : pr_fr P' s s1 := ⟨fun g r k hn => h1.1 g r k (fun z => hn (h g r k z)), h1.2⟩
/-- the characters that a long adds, from byte k on -/
def wr_cs (x : Int64) : Nat → Nat → List Nat
  | 0, _ => []
  | j + 1, k => if wB x k = 0 then wr_cs x j (k + 1) else wB x k :: wr_cs x j (k + 1)
theorem wr_cs_len (x : Int64) : ∀ (j k c c' : Nat), wr_scan x j k c = some c' → (wr_cs x j k).length = c' - c ∧ ∀ v ∈ wr_cs x j k, 32 ≤ v ∧ v ≤ 126
  | 0, k, c, c', h => by
    cases h
    exact ⟨by simp [wr_cs], fun v hv => by cases hv⟩
  | j + 1, k, c, c', h => by
    unfold wr_scan at h
    unfold wr_cs
    by_cases h0 : wB x k = 0
    · rw [if_pos h0] at h ⊢
      exact wr_cs_len x j (k + 1) c c' h
    · rw [if_neg h0] at h ⊢
      by_cases h1 : wB x k < 32 ∨ 126 < wB x k
      · rw [if_pos h1] at h; cases h
      · rw [if_neg h1] at h
        have h2 := wr_cs_len x j (k + 1) (c + 1) c' h
        have h3 := wr_ge x j (k + 1) (c + 1) c' h
        refine ⟨by rw [List.length_cons, h2.1]; omega, fun v hv => ?_⟩
        rcases List.mem_cons.mp hv with rfl | hv
        · omega
        · exact h2.2 v hv
theorem wr_putX_at (x : Int64) : ∀ (j k n : Nat) (s : ax_σ), pr_fr (fun g r q => g = 0 ∧ ((r = 23 ∧ q = 1) ∨ (r = 24 ∧ n ≤ q))) s (wr_putX x j k n s) ∧ ∀ i v, (wr_cs x j k)[i]? = some v → (wr_putX x j k n s).1 0 24 (n + i) = nI v
  | 0, k, n, s => ⟨pr_fr.refl, fun i v h => by simp [wr_cs] at h⟩
  | j + 1, k, n, s => by
    unfold wr_putX wr_cs
    by_cases h0 : wB x k = 0
    · rw [if_pos h0, if_pos h0]
      exact wr_putX_at x j (k + 1) n s
    · rw [if_neg h0, if_neg h0]
      obtain ⟨h1, h2⟩ := wr_putX_at x j (k + 1) (n + 1) (ax_wI (ax_wI s 0 23 1 (nI (n + 1))) 0 24 n (nI (wB x k)))
      refine ⟨((pr_fr.refl.w 0 23 1 _ ⟨rfl, Or.inl ⟨rfl, rfl⟩⟩).w 0 24 n _ ⟨rfl, Or.inr ⟨rfl, Nat.le_refl _⟩⟩).trans (h1.imp (fun g r q h => ⟨h.1, h.2.imp id (fun z => ⟨z.1, by omega⟩)⟩)), fun i v h => ?_⟩
      cases i with
      | zero =>
        have hv : wB x k = v := by simpa using h
        rw [h1.1 0 24 (n + 0) (by omega), wI_1, if_pos ⟨rfl, rfl, rfl⟩, hv]
      | succ i =>
        have h' : (wr_cs x j (k + 1))[i]? = some v := by simpa using h
        rw [show n + (i + 1) = n + 1 + i by omega]
        exact h2 i v h'
theorem wr_putZ_at (x : Int64) : ∀ (j k n : Nat) (s : ax_σ), pr_fr (fun g r q => g = 0 ∧ ((r = 38 ∧ q = 2) ∨ (r = 39 ∧ n ≤ q))) s (wr_putZ x j k n s) ∧ ∀ i v, (wr_cs x j k)[i]? = some v → (wr_putZ x j k n s).1 0 39 (n + i) = nI v
  | 0, k, n, s => ⟨pr_fr.refl, fun i v h => by simp [wr_cs] at h⟩
  | j + 1, k, n, s => by
    unfold wr_putZ wr_cs
    by_cases h0 : wB x k = 0
    · rw [if_pos h0, if_pos h0]
      exact wr_putZ_at x j (k + 1) n s
    · rw [if_neg h0, if_neg h0]
      obtain ⟨h1, h2⟩ := wr_putZ_at x j (k + 1) (n + 1) (ax_wI (ax_wI s 0 39 n (nI (wB x k))) 0 38 2 (nI (n + 1)))
      refine ⟨((pr_fr.refl.w 0 39 n _ ⟨rfl, Or.inr ⟨rfl, Nat.le_refl _⟩⟩).w 0 38 2 _ ⟨rfl, Or.inl ⟨rfl, rfl⟩⟩).trans (h1.imp (fun g r q h => ⟨h.1, h.2.imp id (fun z => ⟨z.1, by omega⟩)⟩)), fun i v h => ?_⟩
      cases i with
      | zero =>
        have hv : wB x k = v := by simpa using h
        rw [h1.1 0 39 (n + 0) (by omega), wI_1, if_neg (by omega), wI_1, if_pos ⟨rfl, rfl, rfl⟩, hv]
      | succ i =>
        have h' : (wr_cs x j (k + 1))[i]? = some v := by simpa using h
        rw [show n + (i + 1) = n + 1 + i by omega]
        exact h2 i v h'
/-- where the text stands, and what the reference writes besides -/
def pr_T (g r k : Nat) : Prop := g = 0 ∧ ((r = 23 ∧ k = 1) ∨ r = 24 ∨ (r = 38 ∧ (k = 0 ∨ k = 2)) ∨ r = 39)
/-- WRITE -/
theorem pu_write (x : Int64) {n : Nat} {f : Nat → Nat} {s : ax_σ} (h : pr_tx n f s) : ∃ r s1 s2, f_X_write 9 x s = some (r, s1) ∧ f_Z_write 9 x s1 = some (r, s2) ∧ pr_fr pr_T s s2 ∧ ∃ n' f', pr_tx n' f' s2 := by
  obtain ⟨hn, h1, h2, h3⟩ := h
  have eX := wr_X 9 x s 8 0 0 9 rfl (by omega)
  have eZ : ∀ s', lp_Z_write_10 9 x s' 9 0 0 = some (wr_out s' (wr_scan x 8 0 0)) := fun s' => wr_Z 9 x s' 8 0 0 9 rfl (by omega)
  have eX : lp_X_write_5 9 x s 9 0 0 = some (wr_out s (wr_scan x 8 0 0)) := eX
  have t0 : pr_fr pr_T s (ax_wI s 0 38 0 0) := pr_fr.refl.w 0 38 0 0 ⟨rfl, Or.inr (Or.inr (Or.inl ⟨rfl, Or.inl rfl⟩))⟩
  have tx0 : pr_tx n f (ax_wI s 0 38 0 0) := ⟨hn, by rw [wI_1, if_neg (by omega)]; exact h1, by rw [wI_1, if_neg (by omega)]; exact h2, fun k hk => ⟨(h3 k hk).1, by rw [wI_1, if_neg (by omega)]; exact (h3 k hk).2.1, by rw [wI_1, if_neg (by omega)]; exact (h3 k hk).2.2⟩⟩
  cases hs : wr_scan x 8 0 0 with
  | none =>
    refine ⟨-1, s, ax_wI s 0 38 0 0, ?_, ?_, t0, n, f, tx0⟩
    · unfold f_X_write; rw [eX, hs]; rfl
    · unfold f_Z_write; simp only [ax_let]; rw [eZ, hs]; rfl
  | some c =>
    have hc : c ≤ 8 := by
      have e1 := wr_cs_len x 8 0 0 c hs
      have e2 : ∀ j k, (wr_cs x j k).length ≤ j := by
        intro j
        induction j with
        | zero => intro k; simp [wr_cs]
        | succ j ih =>
          intro k
          unfold wr_cs
          split
          · exact Nat.le_succ_of_le (ih _)
          · rw [List.length_cons]; exact Nat.succ_le_succ (ih _)
      have := e2 8 0
      omega
    by_cases hle : n + c ≤ 240
    · obtain ⟨x1, x2⟩ := wr_pX 9 x 8 0 0 c n 9 s rfl (by omega) hs (by omega) (Nat.zero_le _) h1
      have x1 : lp_X_write_70 9 x 9 0 s = some (wr_putX x 8 0 n s) := x1
      obtain ⟨fX, aX⟩ := wr_putX_at x 8 0 n s
      have k2 : (ax_wI (wr_putX x 8 0 n s) 0 38 0 0).1 0 38 2 = nI n := by rw [wI_1, if_neg (by omega), fX.1 0 38 2 (by omega)]; exact h2
      obtain ⟨z1, z2⟩ := wr_pZ 9 x 8 0 0 c n 9 (ax_wI (wr_putX x 8 0 n s) 0 38 0 0) rfl (by omega) hs (by omega) (Nat.zero_le _) k2
      have z1 : lp_Z_write_88 9 x 9 0 (ax_wI (wr_putX x 8 0 n s) 0 38 0 0) = some (wr_putZ x 8 0 n (ax_wI (wr_putX x 8 0 n s) 0 38 0 0)) := z1
      obtain ⟨fZ, aZ⟩ := wr_putZ_at x 8 0 n (ax_wI (wr_putX x 8 0 n s) 0 38 0 0)
      have hcs := wr_cs_len x 8 0 0 c hs
      rw [Nat.sub_zero] at x2 z2 hcs
      have hcond : (nI n + nI c) ≤ (240 : Int32) := by
        rw [nI_add, show (240 : Int32) = nI 240 from rfl, nI_leI (by omega) (by decide)]; exact hle
      have fr : pr_fr pr_T s (wr_putZ x 8 0 n (ax_wI (wr_putX x 8 0 n s) 0 38 0 0)) := by
        refine ((fX.imp (fun g r q h => ?_)).w 0 38 0 0 ⟨rfl, Or.inr (Or.inr (Or.inl ⟨rfl, Or.inl rfl⟩))⟩).trans (fZ.imp (fun g r q h => ?_))
        · exact ⟨h.1, h.2.elim (fun z => Or.inl z) (fun z => Or.inr (Or.inl z.1))⟩
        · exact ⟨h.1, h.2.elim (fun z => Or.inr (Or.inr (Or.inl ⟨z.1, Or.inr z.2⟩))) (fun z => Or.inr (Or.inr (Or.inr z.1)))⟩
      refine ⟨nI (n + c), wr_putX x 8 0 n s, wr_putZ x 8 0 n (ax_wI (wr_putX x 8 0 n s) 0 38 0 0), ?_, ?_, fr, n + c, fun k => if k < n then f k else (wr_cs x 8 0).getD (k - n) 0, hle, ?_, z2, fun k hk => ?_⟩
      · unfold f_X_write
        rw [eX, hs]
        show (if s.1 0 23 1 + nI c ≤ 240 then Option.bind (lp_X_write_70 9 x 9 0 s) (fun s12 => some (s12.1 0 23 1, s12)) else some (-1, s)) = _
        rw [h1, if_pos hcond, x1]
        show some ((wr_putX x 8 0 n s).1 0 23 1, wr_putX x 8 0 n s) = _
        rw [x2]
      · unfold f_Z_write
        simp only [ax_let]
        rw [eZ, hs]
        show (if (ax_wI (wr_putX x 8 0 n s) 0 38 0 0).1 0 38 2 + nI c ≤ 240 then Option.bind (lp_Z_write_88 9 x 9 0 (ax_wI (wr_putX x 8 0 n s) 0 38 0 0)) (fun s15 => some (s15.1 0 38 2, s15)) else some (-1, ax_wI (wr_putX x 8 0 n s) 0 38 0 0)) = _
        rw [k2, if_pos hcond, z1]
        show some ((wr_putZ x 8 0 n (ax_wI (wr_putX x 8 0 n s) 0 38 0 0)).1 0 38 2, _) = _
        rw [z2]
      · rw [fZ.1 0 23 1 (by omega), wI_1, if_neg (by omega)]; exact x2
      · by_cases hkn : k < n
        · simp only [hkn, if_true]
          obtain ⟨g1, g2, g3⟩ := h3 k hkn
          refine ⟨g1, ?_, ?_⟩
          · rw [fZ.1 0 24 k (by omega), wI_1, if_neg (by omega), fX.1 0 24 k (by omega)]; exact g2
          · rw [fZ.1 0 39 k (by omega), wI_1, if_neg (by omega), fX.1 0 39 k (by omega)]; exact g3
        · simp only [hkn, if_false]
          have hlt : k - n < (wr_cs x 8 0).length := by omega
          have hget : (wr_cs x 8 0)[k - n]? = some ((wr_cs x 8 0).getD (k - n) 0) := by
            rw [List.getD_eq_getElem?_getD, List.getElem?_eq_getElem hlt]; rfl
          refine ⟨hcs.2 _ (List.mem_of_getElem? hget), ?_, ?_⟩
          · have := aX (k - n) _ hget
            rw [show n + (k - n) = k by omega] at this
            rw [fZ.1 0 24 k (by omega), wI_1, if_neg (by omega)]; exact this
          · have := aZ (k - n) _ hget
            rw [show n + (k - n) = k by omega] at this
            exact this
    · have hcond : ¬ (nI n + nI c) ≤ (240 : Int32) := by
        rw [nI_add, show (240 : Int32) = nI 240 from rfl, nI_leI (by omega) (by decide)]; exact hle
      refine ⟨-1, s, ax_wI s 0 38 0 0, ?_, ?_, t0, n, f, tx0⟩
      · unfold f_X_write
        rw [eX, hs]
        show (if s.1 0 23 1 + nI c ≤ 240 then Option.bind (lp_X_write_70 9 x 9 0 s) (fun s12 => some (s12.1 0 23 1, s12)) else some (-1, s)) = _
        rw [h1, if_neg hcond]
      · unfold f_Z_write
        simp only [ax_let]
        rw [eZ, hs]
        show (if (ax_wI s 0 38 0 0).1 0 38 2 + nI c ≤ 240 then Option.bind (lp_Z_write_88 9 x 9 0 (ax_wI s 0 38 0 0)) (fun s15 => some (s15.1 0 38 2, s15)) else some (-1, ax_wI s 0 38 0 0)) = _
        rw [tx0.2.2.1, if_neg hcond]
