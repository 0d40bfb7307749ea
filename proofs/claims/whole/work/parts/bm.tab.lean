/-! PURE: words through tables -/
def nib (a : Int64) (x : Nat) : Nat := (a.toBitVec.toNat >>> x) % 16
theorem nib_lt (a : Int64) (x : Nat) : nib a x < 16 := Nat.mod_lt _ (by omega)
theorem nib_m {a : Int64} {x : Nat} (hx : x < 64) : ((a.toUInt64 >>> ((nI x).toInt64.toUInt64 &&& Int64.toUInt64 63)).toInt64).toInt32 &&& (15 : Int32) = nI (nib a x) := by
  refine Int32.toBitVec_inj.mp (BitVec.eq_of_toNat_eq ?_)
  rw [Int32.toBitVec_and, Int64.toBitVec_toInt32, se_32, BitVec.toNat_and, BitVec.toNat_setWidth, UInt64.toBitVec_toInt64, UInt64.toBitVec_shiftRight, Int64.toBitVec_toUInt64, sh_r x (by omega), BitVec.ushiftRight_eq', BitVec.toNat_ushiftRight, BitVec.toNat_ofNat, show (15 : Int32).toBitVec.toNat = 2 ^ 4 - 1 from rfl, Nat.and_two_pow_sub_one_eq_mod]
  show _ = (BitVec.ofNat 32 _).toNat
  rw [BitVec.toNat_ofNat]
  unfold nib
  rw [show x % 64 % 2 ^ 64 = x by omega]
  omega
theorem nib_z {a : Int64} {x : Nat} (hx : x ≤ 60) : ((a >>> ((nI x).toInt64 &&& 63)) &&& (15 : Int64)).toInt32 = nI (nib a x) := by
  have e : (a >>> ((nI x).toInt64 &&& 63)) &&& (15 : Int64) = (a.toUInt64 >>> ((nI x).toInt64.toUInt64 &&& Int64.toUInt64 63)).toInt64 &&& (15 : Int64) := by
    refine gb_ext fun i hi => ?_
    rw [gb_and, gb_and]
    by_cases h4 : i < 4
    · rw [gb_sar a (by omega), gb_shr a (by omega), if_pos (by omega), decide_eq_true hi, Bool.true_and, show x % 64 + i = x + i by omega]
    · have : gb (15 : Int64) i = false := bW_lN (w := 4) (n := 15) (by omega) i (by omega)
      rw [this, Bool.and_false, Bool.and_false]
  rw [e, ← nib_m (a := a) (by omega : x < 64)]
  refine Int32.toBitVec_inj.mp (BitVec.eq_of_toNat_eq ?_)
  rw [Int32.toBitVec_and, Int64.toBitVec_toInt32, Int64.toBitVec_toInt32, se_32, se_32, BitVec.toNat_and, BitVec.toNat_setWidth, BitVec.toNat_setWidth, Int64.toBitVec_and, BitVec.toNat_and, show (15 : Int32).toBitVec.toNat = 2 ^ 4 - 1 from rfl, show (15 : Int64).toBitVec.toNat = 2 ^ 4 - 1 from rfl, Nat.and_two_pow_sub_one_eq_mod, Nat.and_two_pow_sub_one_eq_mod]
  omega
def rp (f : Nat → Int32) (a : Int64) : Nat → Nat → Int64 → Int64
  | 0, _, acc => acc
  | m + 1, x, acc => rp f a m (x + 4) (acc ||| ((f (nib a x)).toInt64 <<< ((nI x).toInt64 &&& 63)))
theorem rp_cg {f f' : Nat → Int32} {a : Int64} (h : ∀ k, k < 16 → f k = f' k) : ∀ (m x : Nat) (acc : Int64), rp f a m x acc = rp f' a m x acc
  | 0, _, _ => rfl
  | m + 1, x, acc => by
    rw [rp, rp, h _ (nib_lt a x)]
    exact rp_cg h m _ _
theorem rp_bW {f : Nat → Int32} {a : Int64} {w : Nat} (hw : okW w) (h : ∀ k, k < 16 → ∃ v, f k = nI v ∧ v < 16) : ∀ (m x : Nat) (acc : Int64), x + 4 * m ≤ w → bW w acc → bW w (rp f a m x acc)
  | 0, _, _, _, ha => ha
  | m + 1, x, acc, hx, ha => by
    have hw64 : 8 ≤ w ∧ w ≤ 64 := by rcases hw with h | h | h | h <;> omega
    rw [rp]
    refine rp_bW hw h m _ _ (by omega) (fun i hi => ?_)
    obtain ⟨v, h1, h2⟩ := h _ (nib_lt a x)
    rw [gb_or, ha i hi, Bool.false_or, h1, gb_shl _ (by omega)]
    have : gb (nI v).toInt64 (i - x) = false := by
      rw [nI_l (by omega)]
      exact bW_lN (w := 4) (by omega) _ (by omega)
    rw [this, Bool.and_false]
section
variable {F g w u : Nat} {s : ax_σ}
theorem re_run {a : Int64} (hw : okW w) (hM : MW w s) (hu : u < 2) : ∀ (m x n : Nat) (acc : Int64), x + 4 * m = w → m < n → lp_M_replaced_e_6 F g a (nI (u * 16)) s n acc (nI x) = some (rp (fun k => s.1 g 2 (u * 16 + k)) a m x acc)
  | _, _, 0, _, _, h => absurd h (Nat.not_lt_zero _)
  | 0, x, n + 1, acc, e, _ => by
    have hw64 : 8 ≤ w ∧ w ≤ 64 := by rcases hw with h | h | h | h <;> omega
    rw [lp_M_replaced_e_6, hM.1, if_pos (by rw [nI_leI (by omega) (by omega)]; omega)]
    rfl
  | m + 1, x, n + 1, acc, e, h => by
    have hw64 : 8 ≤ w ∧ w ≤ 64 := by rcases hw with h | h | h | h <;> omega
    have hn := nib_lt a x
    rw [lp_M_replaced_e_6, hM.1, if_neg (by rw [nI_leI (by omega) (by omega)]; omega), nib_m (by omega), nI_add, pu_in (by omega) (by omega), cond_true, nI_clamp (by omega), c_4, nI_add]
    exact re_run hw hM hu m (x + 4) n _ (by omega) (by omega)
theorem rb_run {a : Int64} (hw : okW w) (hM : MW w s) (hu : u < 2) : ∀ (m x n : Nat) (acc : Int64), x + 4 * m = w → m < n → lp_M_replaced_b_6 F g a (nI (u * 16)) s n acc (nI x) = some (rp (fun k => s.1 g 3 (u * 16 + k)) a m x acc)
  | _, _, 0, _, _, h => absurd h (Nat.not_lt_zero _)
  | 0, x, n + 1, acc, e, _ => by
    have hw64 : 8 ≤ w ∧ w ≤ 64 := by rcases hw with h | h | h | h <;> omega
    rw [lp_M_replaced_b_6, hM.1, if_pos (by rw [nI_leI (by omega) (by omega)]; omega)]
    rfl
  | m + 1, x, n + 1, acc, e, h => by
    have hw64 : 8 ≤ w ∧ w ≤ 64 := by rcases hw with h | h | h | h <;> omega
    have hn := nib_lt a x
    rw [lp_M_replaced_b_6, hM.1, if_neg (by rw [nI_leI (by omega) (by omega)]; omega), nib_m (by omega), nI_add, pu_in (by omega) (by omega), cond_true, nI_clamp (by omega), c_4, nI_add]
    exact rb_run hw hM hu m (x + 4) n _ (by omega) (by omega)
def zEn (u d : Nat) (s : ax_σ) (k : Nat) : Int32 := if d = 0 then s.1 0 43 (16 * u + k) else bkL (fun k => s.1 0 43 (16 * u + k)) (nI k) 16 (-1)
theorem z_entry {d k : Nat} (hF : 17 ≤ F) (hu : u < 2) (hd : d < 2) (hk : k < 16) : f_Z_entry F (nI u) (nI k) (nI d) s = some (zEn u d s k) := by
  unfold f_Z_entry zEn
  by_cases h0 : d = 0
  · rw [h0, if_pos (show nI 0 = (0 : Int32) from rfl), if_pos rfl, c_16, nI_mul, nI_add, pu_in (by omega) (by omega), cond_true, nI_clamp (by omega)]
  · rw [if_neg (by rw [c_0, nI_eq (by omega) (by omega)]; exact h0), if_neg h0]
    have := en_back (F := F) (s := s) (i := k) hu 16 F (-1) (by omega) (by omega)
    have e : lp_Z_entry_23 F (nI u) (nI k) s F (-1 : Int32) (15 : Int32) = some (bkL (fun k => s.1 0 43 (16 * u + k)) (nI k) 16 (-1)) := this
    rw [e]
    rfl
theorem rz_run {a : Int64} {d : Nat} (hF : 17 ≤ F) (hw : okW w) (hM : ZWd w s) (hu : u < 2) (hd : d < 2) : ∀ (m x n : Nat) (acc : Int64), x + 4 * m = w → m < n → lp_Z_replaced_6 F (nI u) a (nI d) s n acc (nI x) = some (rp (zEn u d s) a m x acc)
  | _, _, 0, _, _, h => absurd h (Nat.not_lt_zero _)
  | 0, x, n + 1, acc, e, _ => by
    have hw64 : 8 ≤ w ∧ w ≤ 64 := by rcases hw with h | h | h | h <;> omega
    rw [lp_Z_replaced_6, z_width hw hM, Option.bind_some, if_pos (by rw [nI_leI (by omega) (by omega)]; omega)]
    rfl
  | m + 1, x, n + 1, acc, e, h => by
    have hw64 : 8 ≤ w ∧ w ≤ 64 := by rcases hw with h | h | h | h <;> omega
    have hn := nib_lt a x
    rw [lp_Z_replaced_6, z_width hw hM, Option.bind_some, if_neg (by rw [nI_leI (by omega) (by omega)]; omega), nib_z (by omega), z_entry hF hu hd hn, Option.bind_some, c_4, nI_add]
    exact rz_run hF hw hM hu hd m (x + 4) n _ (by omega) (by omega)
theorem m_repl_e {a : Int64} (hF : 17 ≤ F) (hw : okW w) (hM : MW w s) (hu : u < 2) : f_M_replaced_e F g a (nI (u * 16)) s = some (rp (fun k => s.1 g 2 (u * 16 + k)) a (w / 4) 0 0) := by
  have hw4 : 0 + 4 * (w / 4) = w ∧ w / 4 < 17 := by rcases hw with h | h | h | h <;> omega
  unfold f_M_replaced_e
  have e : lp_M_replaced_e_6 F g a (nI (u * 16)) s F (0 : Int64) (0 : Int32) = some _ := re_run hw hM hu (w / 4) 0 F 0 hw4.1 (by omega)
  rw [e]
  rfl
theorem m_repl_b {a : Int64} (hF : 17 ≤ F) (hw : okW w) (hM : MW w s) (hu : u < 2) : f_M_replaced_b F g a (nI (u * 16)) s = some (rp (fun k => s.1 g 3 (u * 16 + k)) a (w / 4) 0 0) := by
  have hw4 : 0 + 4 * (w / 4) = w ∧ w / 4 < 17 := by rcases hw with h | h | h | h <;> omega
  unfold f_M_replaced_b
  have e : lp_M_replaced_b_6 F g a (nI (u * 16)) s F (0 : Int64) (0 : Int32) = some _ := rb_run hw hM hu (w / 4) 0 F 0 hw4.1 (by omega)
  rw [e]
  rfl
theorem z_repl {a : Int64} {d : Nat} (hF : 17 ≤ F) (hw : okW w) (hM : ZWd w s) (hu : u < 2) (hd : d < 2) : f_Z_replaced F (nI u) a (nI d) s = some (rp (zEn u d s) a (w / 4) 0 0) := by
  have hw4 : 0 + 4 * (w / 4) = w ∧ w / 4 < 17 := by rcases hw with h | h | h | h <;> omega
  unfold f_Z_replaced
  have e : lp_Z_replaced_6 F (nI u) a (nI d) s F (0 : Int64) (0 : Int32) = some _ := rz_run hF hw hM hu hd (w / 4) 0 F 0 hw4.1 (by omega)
  rw [e]
  rfl
end
