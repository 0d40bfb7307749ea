/-! PURE: bits of words -/
/-- a bit of a word -/
def gb (a : Int64) (i : Nat) : Bool := a.toBitVec.getLsbD i
theorem gb_ext {a b : Int64} (h : ∀ i, i < 64 → gb a i = gb b i) : a = b := Int64.toBitVec_inj.mp (BitVec.eq_of_getLsbD_eq h)
theorem gb_and (a b : Int64) (i : Nat) : gb (a &&& b) i = (gb a i && gb b i) := by
  unfold gb; rw [Int64.toBitVec_and, BitVec.getLsbD_and]
theorem gb_or (a b : Int64) (i : Nat) : gb (a ||| b) i = (gb a i || gb b i) := by
  unfold gb; rw [Int64.toBitVec_or, BitVec.getLsbD_or]
theorem gb_xor (a b : Int64) (i : Nat) : gb (a ^^^ b) i = (gb a i ^^ gb b i) := by
  unfold gb; rw [Int64.toBitVec_xor, BitVec.getLsbD_xor]
theorem gb_big (a : Int64) {i : Nat} (h : 64 ≤ i) : gb a i = false := BitVec.getLsbD_of_ge _ _ h
theorem sh_l : ∀ k, k < 64 → ((nI k).toInt64 &&& 63).toBitVec.smod 64 = BitVec.ofNat 64 k := by decide +kernel
theorem sh_r : ∀ k, k < 65 → ((nI k).toInt64.toUInt64 &&& Int64.toUInt64 63).toBitVec % 64 = BitVec.ofNat 64 (k % 64) := by decide +kernel
theorem gb_shl (a : Int64) {k i : Nat} (h : k < 64) : gb (a <<< ((nI k).toInt64 &&& 63)) i = (decide (k ≤ i) && decide (i < 64) && gb a (i - k)) := by
  unfold gb
  rw [Int64.toBitVec_shiftLeft, sh_l k h, BitVec.shiftLeft_eq', BitVec.getLsbD_shiftLeft, BitVec.toNat_ofNat, Nat.mod_eq_of_lt (by omega : k < 2 ^ 64)]
  by_cases h1 : k ≤ i
  · rw [decide_eq_true h1, decide_eq_false (by omega : ¬ i < k)]
    simp
  · rw [decide_eq_false h1, decide_eq_true (by omega : i < k)]
    simp
theorem gb_shr (a : Int64) {k i : Nat} (h : k < 65) : gb (a.toUInt64 >>> ((nI k).toInt64.toUInt64 &&& Int64.toUInt64 63)).toInt64 i = gb a (k % 64 + i) := by
  unfold gb
  rw [UInt64.toBitVec_toInt64, UInt64.toBitVec_shiftRight, Int64.toBitVec_toUInt64, sh_r k h, BitVec.ushiftRight_eq', BitVec.getLsbD_ushiftRight, BitVec.toNat_ofNat, Nat.mod_eq_of_lt (by omega : k % 64 < 2 ^ 64)]
theorem gb_sar (a : Int64) {k i : Nat} (h : k < 64) : gb (a >>> ((nI k).toInt64 &&& 63)) i = (decide (i < 64) && if k + i < 64 then gb a (k + i) else gb a 63) := by
  unfold gb
  rw [Int64.toBitVec_shiftRight, sh_l k h, BitVec.sshiftRight_eq', BitVec.getLsbD_sshiftRight, BitVec.toNat_ofNat, Nat.mod_eq_of_lt (by omega : k < 2 ^ 64), BitVec.msb_eq_getLsbD_last]
  congr 1
  rw [← decide_not]
  congr 1
  exact propext (by omega)
/-- the words' masks -/
def mkW (w : Nat) : Int64 := if w = 8 then 255 else if w = 16 then 65535 else if w = 32 then 4294967295 else -1
def okW (w : Nat) : Prop := w = 8 ∨ w = 16 ∨ w = 32 ∨ w = 64
theorem gb_mk {w : Nat} (h : okW w) : ∀ i, i < 64 → gb (mkW w) i = decide (i < w) := by
  rcases h with h | h | h | h <;> subst h <;> decide +kernel
def bW (w : Nat) (a : Int64) : Prop := ∀ i, w ≤ i → gb a i = false
theorem bW_mk {w : Nat} (h : okW w) (a : Int64) : bW w (a &&& mkW w) := by
  intro i hi
  by_cases h64 : i < 64
  · rw [gb_and, gb_mk h i h64, decide_eq_false (by omega), Bool.and_false]
  · exact gb_big _ (by omega)
theorem mk_id {w : Nat} (h : okW w) {a : Int64} (ha : bW w a) : a &&& mkW w = a := by
  refine gb_ext fun i hi => ?_
  rw [gb_and, gb_mk h i hi]
  by_cases hw : i < w
  · rw [decide_eq_true hw, Bool.and_true]
  · rw [ha i (by omega), Bool.false_and]
theorem bW_xor {w : Nat} {a b : Int64} (ha : bW w a) (hb : bW w b) : bW w (a ^^^ b) := fun i hi => by rw [gb_xor, ha i hi, hb i hi]; rfl
theorem bW_0 (w : Nat) : bW w 0 := fun i _ => by unfold gb; exact BitVec.getLsbD_zero
theorem bW_lN {w n : Nat} (hn : n < 2 ^ w) : bW w (lN n) := by
  intro i hi
  unfold gb
  show (BitVec.ofNat 64 n).getLsbD i = false
  rw [BitVec.getLsbD_ofNat, Nat.testBit_lt_two_pow (Nat.lt_of_lt_of_le hn (Nat.pow_le_pow_right (by omega) hi)), Bool.and_false]
/-- the turn of a word: the number of places -/
def amt (w : Nat) (c : Int64) : Nat := c.toBitVec.toNat % w
def rtw (w : Nat) (a : Int64) (k : Nat) : Int64 := ((a <<< ((nI k).toInt64 &&& 63)) ||| (a.toUInt64 >>> ((nI (w - k)).toInt64.toUInt64 &&& Int64.toUInt64 63)).toInt64) &&& mkW w
theorem gb_rtw {w k : Nat} {a : Int64} (h : okW w) (ha : bW w a) (hk : k < w) {i : Nat} (hi : i < 64) : gb (rtw w a k) i = (decide (i < w) && gb a (if k ≤ i then i - k else i + w - k)) := by
  have hw : 8 ≤ w ∧ w ≤ 64 := by rcases h with h | h | h | h <;> omega
  unfold rtw
  rw [gb_and, gb_mk h i hi, gb_or, gb_shl a (by omega), gb_shr a (by omega), Bool.and_comm]
  by_cases hiw : i < w
  · rw [decide_eq_true hiw, Bool.true_and, Bool.true_and, decide_eq_true hi, Bool.and_true]
    by_cases h1 : k ≤ i
    · rw [decide_eq_true h1, if_pos h1, Bool.true_and]
      by_cases h0 : k = 0
      · subst h0
        by_cases h64 : w = 64
        · subst h64
          rw [show (64 - 0) % 64 + i = i by omega, Nat.sub_zero, Bool.or_self]
        · rw [ha _ (by omega : w ≤ (w - 0) % 64 + i), Bool.or_false]
      · rw [ha _ (by omega : w ≤ (w - k) % 64 + i), Bool.or_false]
    · rw [decide_eq_false h1, if_neg h1, Bool.false_and, Bool.false_or]
      congr 1
      omega
  · rw [decide_eq_false hiw, Bool.false_and, Bool.false_and]
theorem bW_rtw {w k : Nat} {a : Int64} (h : okW w) : bW w (rtw w a k) := bW_mk h _
theorem rtw_0 {w : Nat} {a : Int64} (h : okW w) (ha : bW w a) : rtw w a 0 = a := by
  have hw : 8 ≤ w ∧ w ≤ 64 := by rcases h with h | h | h | h <;> omega
  refine gb_ext fun i hi => ?_
  rw [gb_rtw h ha (by omega) hi, if_pos (Nat.zero_le i)]
  by_cases hiw : i < w
  · rw [decide_eq_true hiw]; rfl
  · rw [decide_eq_false hiw, ha i (by omega)]; rfl
theorem rtw_xor {w k : Nat} {a b : Int64} (h : okW w) (ha : bW w a) (hb : bW w b) (hk : k < w) : rtw w (a ^^^ b) k = rtw w a k ^^^ rtw w b k := by
  refine gb_ext fun i hi => ?_
  rw [gb_rtw h (bW_xor ha hb) hk hi, gb_xor, gb_xor, gb_rtw h ha hk hi, gb_rtw h hb hk hi]
  cases decide (i < w) <;> simp
theorem rtw_rtw {w k m : Nat} {a : Int64} (h : okW w) (ha : bW w a) (hk : k < w) (hm : m < w) : rtw w (rtw w a k) m = rtw w a ((k + m) % w) := by
  have hw : 8 ≤ w ∧ w ≤ 64 := by rcases h with h | h | h | h <;> omega
  refine gb_ext fun i hi => ?_
  have hkm : (k + m) % w < w := Nat.mod_lt _ (by omega)
  rw [gb_rtw h (bW_rtw h) hm hi, gb_rtw h ha hkm hi]
  by_cases hiw : i < w
  · rw [decide_eq_true hiw, Bool.true_and, Bool.true_and, gb_rtw h ha hk (by split <;> omega)]
    rw [decide_eq_true (by split <;> omega), Bool.true_and]
    congr 1
    have : (k + m) % w = if k + m < w then k + m else k + m - w := by
      by_cases hh : k + m < w
      · rw [if_pos hh, Nat.mod_eq_of_lt hh]
      · rw [if_neg hh, Nat.mod_eq_sub_mod (by omega), Nat.mod_eq_of_lt (by omega)]
    rw [this]
    by_cases hh : k + m < w <;> by_cases h1 : m ≤ i <;> simp only [hh, h1, if_true, if_false] <;> split <;> split <;> omega
  · rw [decide_eq_false hiw, Bool.false_and, Bool.false_and]
theorem amt_lt {w : Nat} (h : okW w) (c : Int64) : amt w c < w := Nat.mod_lt _ (by rcases h with h | h | h | h <;> omega)
theorem se_32 (x : BitVec 64) : BitVec.signExtend 32 x = BitVec.setWidth 32 x := BitVec.signExtend_eq_setWidth_of_le x (by omega)
theorem am_1 {w : Nat} (h : okW w) (c : Int64) : c.toInt32 &&& (nI w - 1) = nI (amt w c) := by
  refine Int32.toBitVec_inj.mp (BitVec.eq_of_toNat_eq ?_)
  rw [Int32.toBitVec_and, Int64.toBitVec_toInt32, se_32, BitVec.toNat_and, BitVec.toNat_setWidth]
  unfold amt
  rcases h with h | h | h | h <;> subst h
  · rw [show (nI 8 - 1).toBitVec.toNat = 2 ^ 3 - 1 from rfl, Nat.and_two_pow_sub_one_eq_mod]
    show _ = (BitVec.ofNat 32 _).toNat
    rw [BitVec.toNat_ofNat]; omega
  · rw [show (nI 16 - 1).toBitVec.toNat = 2 ^ 4 - 1 from rfl, Nat.and_two_pow_sub_one_eq_mod]
    show _ = (BitVec.ofNat 32 _).toNat
    rw [BitVec.toNat_ofNat]; omega
  · rw [show (nI 32 - 1).toBitVec.toNat = 2 ^ 5 - 1 from rfl, Nat.and_two_pow_sub_one_eq_mod]
    show _ = (BitVec.ofNat 32 _).toNat
    rw [BitVec.toNat_ofNat]; omega
  · rw [show (nI 64 - 1).toBitVec.toNat = 2 ^ 6 - 1 from rfl, Nat.and_two_pow_sub_one_eq_mod]
    show _ = (BitVec.ofNat 32 _).toNat
    rw [BitVec.toNat_ofNat]; omega
theorem am_2 {w : Nat} (h : okW w) (c : Int64) : (c &&& (nI w - 1).toInt64).toInt32 = nI (amt w c) := by
  refine Int32.toBitVec_inj.mp (BitVec.eq_of_toNat_eq ?_)
  rw [Int64.toBitVec_toInt32, se_32, BitVec.toNat_setWidth, Int64.toBitVec_and, BitVec.toNat_and]
  unfold amt
  rcases h with h | h | h | h <;> subst h
  · rw [show (nI 8 - 1).toInt64.toBitVec.toNat = 2 ^ 3 - 1 from rfl, Nat.and_two_pow_sub_one_eq_mod]
    show _ = (BitVec.ofNat 32 _).toNat
    rw [BitVec.toNat_ofNat]
  · rw [show (nI 16 - 1).toInt64.toBitVec.toNat = 2 ^ 4 - 1 from rfl, Nat.and_two_pow_sub_one_eq_mod]
    show _ = (BitVec.ofNat 32 _).toNat
    rw [BitVec.toNat_ofNat]
  · rw [show (nI 32 - 1).toInt64.toBitVec.toNat = 2 ^ 5 - 1 from rfl, Nat.and_two_pow_sub_one_eq_mod]
    show _ = (BitVec.ofNat 32 _).toNat
    rw [BitVec.toNat_ofNat]
  · rw [show (nI 64 - 1).toInt64.toBitVec.toNat = 2 ^ 6 - 1 from rfl, Nat.and_two_pow_sub_one_eq_mod]
    show _ = (BitVec.ofNat 32 _).toNat
    rw [BitVec.toNat_ofNat]
theorem amt_lN {w n : Nat} (h : okW w) : amt w (lN n) = n % w := by
  unfold amt
  show (BitVec.ofNat 64 n).toNat % w = _
  rw [BitVec.toNat_ofNat]
  rcases h with h | h | h | h <;> subst h <;> omega
/-- a spread -/
def spS (w : Nat) (cs : List Nat) (x : Nat) (a : Int64) : Int64 := cs.foldr (fun c v => rtw w a (c * x % w) ^^^ v) 0
theorem bW_spS {w x : Nat} {a : Int64} (h : okW w) : ∀ cs, bW w (spS w cs x a)
  | [] => bW_0 w
  | _ :: cs => bW_xor (bW_rtw h) (bW_spS h cs)
theorem spS_xor {w x : Nat} {a b : Int64} (h : okW w) (ha : bW w a) (hb : bW w b) : ∀ cs, spS w cs x (a ^^^ b) = spS w cs x a ^^^ spS w cs x b
  | [] => by
    simp only [spS, List.foldr_nil]
    decide
  | c :: cs => by
    have hw : 0 < w := by rcases h with h | h | h | h <;> omega
    show rtw w (a ^^^ b) _ ^^^ spS w cs x (a ^^^ b) = (rtw w a _ ^^^ spS w cs x a) ^^^ (rtw w b _ ^^^ spS w cs x b)
    rw [spS_xor h ha hb cs, rtw_xor h ha hb (Nat.mod_lt _ hw)]
    refine gb_ext fun i _ => ?_
    simp only [gb_xor]
    cases gb (rtw w a (c * x % w)) i <;> cases gb (rtw w b (c * x % w)) i <;> cases gb (spS w cs x a) i <;> cases gb (spS w cs x b) i <;> rfl
theorem spS_rt {w x k : Nat} {a : Int64} (h : okW w) (ha : bW w a) (hk : k < w) : ∀ cs, spS w cs x (rtw w a k) = rtw w (spS w cs x a) k
  | [] => by
    refine gb_ext fun i hi => ?_
    rw [show spS w [] x a = 0 from rfl, show spS w [] x (rtw w a k) = 0 from rfl, gb_rtw h (bW_0 w) hk hi]
    unfold gb
    rw [Int64.toBitVec_ofNat]
    simp
  | c :: cs => by
    have hw : 0 < w := by rcases h with h | h | h | h <;> omega
    show rtw w (rtw w a k) _ ^^^ spS w cs x (rtw w a k) = rtw w (rtw w a _ ^^^ spS w cs x a) k
    rw [spS_rt h ha hk cs, rtw_xor h (bW_rtw h) (bW_spS h cs) hk, rtw_rtw h ha hk (Nat.mod_lt _ hw), rtw_rtw h ha (Nat.mod_lt _ hw) hk, Nat.add_comm]
theorem spS_2 {w x : Nat} {a : Int64} (h : okW w) (ha : bW w a) : ∀ cs, spS w cs x (spS w cs x a) = spS w cs (2 * x) a
  | [] => by simp only [spS, List.foldr_nil]
  | c :: cs => by
    have hw : 0 < w := by rcases h with h | h | h | h <;> omega
    have hc : c * x % w < w := Nat.mod_lt _ hw
    show rtw w (rtw w a (c * x % w) ^^^ spS w cs x a) (c * x % w) ^^^ spS w cs x (rtw w a (c * x % w) ^^^ spS w cs x a) = rtw w a (c * (2 * x) % w) ^^^ spS w cs (2 * x) a
    rw [rtw_xor h (bW_rtw h) (bW_spS h cs) hc, spS_xor h (bW_rtw h) (bW_spS h cs), spS_rt h ha hc, spS_2 h ha cs, rtw_rtw h ha hc hc, show (c * x % w + c * x % w) % w = c * (2 * x) % w by rw [← Nat.add_mod, Nat.mul_left_comm, Nat.two_mul]]
    refine gb_ext fun i _ => ?_
    simp only [gb_xor]
    cases gb (rtw w (spS w cs x a) (c * x % w)) i <;> cases gb (rtw w a (c * (2 * x) % w)) i <;> cases gb (spS w cs (2 * x) a) i <;> rfl
/-- a spread, n times -/
def spN (w : Nat) (cs : List Nat) : Nat → Int64 → Int64
  | 0, a => a
  | n + 1, a => spN w cs n (spS w cs 1 a)
theorem spN_add (w : Nat) (cs : List Nat) : ∀ (m n : Nat) (a : Int64), spN w cs n (spN w cs m a) = spN w cs (m + n) a
  | 0, n, a => by rw [Nat.zero_add]; rfl
  | m + 1, n, a => by
    rw [Nat.add_right_comm]
    exact spN_add w cs m n _
theorem bW_spN {w : Nat} {cs : List Nat} (h : okW w) : ∀ (n : Nat) (a : Int64), bW w a → bW w (spN w cs n a)
  | 0, _, ha => ha
  | n + 1, _, _ => bW_spN h n _ (bW_spS h cs)
theorem spN_pow {w : Nat} {cs : List Nat} (h : okW w) : ∀ (k : Nat) (a : Int64), bW w a → spS w cs (2 ^ k) a = spN w cs (2 ^ k) a
  | 0, _, _ => rfl
  | k + 1, a, ha => by
    rw [Nat.pow_succ, Nat.mul_comm, ← spS_2 h ha cs, spN_pow h k a ha, spN_pow h k _ (bW_spN h _ _ ha), spN_add, Nat.two_mul]
/-- the inverse -/
def nwt (a v : Int64) : Int64 := v * (2 - a * v)
theorem nwt_e (a v e : Int64) (h : e = 1 - a * v) : 1 - a * nwt a v = e * e := by unfold nwt; grind
theorem odd_sq {v : Nat} (h : v % 2 = 1) : ∃ t, lN v * lN v = 1 + 8 * lN t := by
  obtain ⟨b, hb⟩ : ∃ b, v = 2 * b + 1 := ⟨v / 2, by omega⟩
  have h2 : b * (b + 1) % 2 = 0 := by
    rcases Nat.mod_two_eq_zero_or_one b with h | h
    · rw [Nat.mul_mod, h]; simp
    · rw [Nat.mul_mod, show (b + 1) % 2 = 0 by omega, Nat.mul_zero]
  refine ⟨b * (b + 1) / 2, ?_⟩
  have : v * v = 1 + 8 * (b * (b + 1) / 2) := by
    have h3 : b * (b + 1) = 2 * (b * (b + 1) / 2) := by omega
    have h4 : v * v = 4 * (b * (b + 1)) + 1 := by
      subst hb
      grind
    omega
  show Int64.ofNat v * Int64.ofNat v = 1 + 8 * Int64.ofNat _
  rw [← Int64.ofNat_mul, this, Int64.ofNat_add, Int64.ofNat_mul]
  rfl
theorem nwt_6 {v : Nat} (h : v % 2 = 1) : nwt (lN v) (nwt (lN v) (nwt (lN v) (nwt (lN v) (nwt (lN v) (nwt (lN v) (lN v)))))) = nwt (lN v) (nwt (lN v) (nwt (lN v) (nwt (lN v) (nwt (lN v) (lN v))))) := by
  obtain ⟨t, ht⟩ := odd_sq h
  generalize lN v = a at *
  have e0 : (-8 * lN t) = 1 - a * a := by rw [ht]; grind
  have e1 := nwt_e a a _ e0
  have e2 := nwt_e a _ _ e1.symm
  have e3 := nwt_e a _ _ e2.symm
  have e4 := nwt_e a _ _ e3.symm
  have e5 := nwt_e a _ _ e4.symm
  generalize nwt a (nwt a (nwt a (nwt a (nwt a a)))) = b at *
  have hz : 1 - a * b = 0 := by
    rw [e5]
    generalize lN t = t
    have p1 : (-8 * t) * (-8 * t) = 64 * (t * t) := by grind
    rw [p1]
    have p2 : (64 * (t * t)) * (64 * (t * t)) = 4096 * (t * t * (t * t)) := by grind
    rw [p2]
    generalize t * t * (t * t) = u
    have p3 : (4096 * u) * (4096 * u) = 16777216 * (u * u) := by grind
    rw [p3]
    have p4 : (16777216 * (u * u)) * (16777216 * (u * u)) = 281474976710656 * (u * u * (u * u)) := by grind
    rw [p4]
    generalize u * u * (u * u) = x
    have p5 : (281474976710656 * x) * (281474976710656 * x) = ((281474976710656 : Int64) * 281474976710656) * (x * x) := by
      rw [Int64.mul_assoc, ← Int64.mul_assoc x, Int64.mul_comm x, Int64.mul_assoc _ x x, ← Int64.mul_assoc]
    rw [p5, show (281474976710656 : Int64) * 281474976710656 = 0 from by decide, Int64.zero_mul]
  have hb : a * b = 1 := by grind
  unfold nwt
  rw [hb]
  exact Int64.mul_one b
/-! PURE: what both machines do with words -/
def MW (w : Nat) (s : ax_σ) : Prop := s.1 0 32 7 = nI w ∧ s.2 0 32 8 = mkW w
def ZWd (w : Nat) (s : ax_σ) : Prop := s.2 0 41 0 = lN w
section
variable {w : Nat} {s : ax_σ}
theorem m_rot (hw : okW w) (h : MW w s) (g : Nat) (a c : Int64) : f_M_rotated g a c s = some (rtw w a (amt w c)) := by
  have hl := amt_lt hw c
  unfold f_M_rotated rtw
  rw [h.1, h.2, am_1 hw, nI_sub (by omega)]
theorem z_width (hw : okW w) (h : ZWd w s) : f_Z_width s = some (nI w) := by
  unfold f_Z_width
  have h' : s.2 0 41 ((0 : Int32)).toNatClampNeg = lN w := h
  rw [h']
  rcases hw with e | e | e | e <;> subst e <;> rfl
theorem z_cut (hw : okW w) (h : ZWd w s) (a : Int64) : f_Z_cut a s = some (a &&& mkW w) := by
  unfold f_Z_cut
  rw [z_width hw h]
  rcases hw with e | e | e | e <;> subst e
  · rfl
  · rfl
  · rfl
  · simp only [Option.bind_some]
    rw [if_pos (show nI 64 = (64 : Int32) from rfl), mk_id (by unfold okW; omega) (fun i hi => gb_big _ hi)]
theorem z_turned (hw : okW w) (h : ZWd w s) {a : Int64} (ha : bW w a) (c : Int64) : f_Z_turned a c s = some (rtw w a (amt w c)) := by
  have hl := amt_lt hw c
  have hw' : 8 ≤ w ∧ w ≤ 64 := by rcases hw with h | h | h | h <;> omega
  unfold f_Z_turned
  rw [z_width hw h, Option.bind_some, am_2 hw]
  by_cases h0 : amt w c = 0
  · rw [h0, if_pos (show nI 0 = (0 : Int32) from rfl), rtw_0 hw ha]
  · rw [if_neg (by rw [c_0, nI_eq (by omega) (by omega)]; exact h0), Option.bind_some, nI_sub (by omega), z_cut hw h]
    rfl
end
theorem bW_of {w : Nat} {a : Int64} (hw : okW w) : inW w a ↔ bW w a := by
  unfold inW bW gb
  constructor
  · intro h i hi
    exact Nat.testBit_lt_two_pow (Nat.lt_of_lt_of_le h (Nat.pow_le_pow_right (by omega) hi))
  · intro h
    have hw' : w ≤ 64 := by rcases hw with h | h | h | h <;> omega
    refine Nat.lt_pow_two_of_testBit _ (fun i hi => ?_)
    exact h i hi
theorem mk_64 {w : Nat} (hw : okW w) : mkW w = mk64 w := by rcases hw with e | e | e | e <;> subst e <;> rfl
