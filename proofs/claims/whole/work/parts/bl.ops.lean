/-! PURE: spreads, inverses, tables -/
section
variable {F g ln w : Nat} {s : ax_σ}
theorem x0_x (a : Int64) : (0 : Int64) ^^^ a = a := by
  refine gb_ext fun i _ => ?_
  rw [gb_xor, show gb 0 i = false from bW_0 0 i (Nat.zero_le i), Bool.false_xor]
theorem x_as (a b c : Int64) : a ^^^ b ^^^ c = a ^^^ (b ^^^ c) := by
  refine gb_ext fun i _ => ?_
  simp only [gb_xor, Bool.xor_assoc]
theorem ms_run {x : Nat} {a : Int64} (hw : okW w) (hM : MW w s) (hln : ln < 120) (hx : x < 64) : ∀ (cs : List Nat) (n p : Nat) (acc : Int64), cs.length < n → p + cs.length ≤ 240 → s.1 g 18 ln = nI (p + cs.length) → (∀ (q c : Nat), cs[q]? = some c → s.2 g 6 (p + q) = lN c) → lp_M_spread_14 F g a (nI ln) (nI x) s n acc (nI p) = some (acc ^^^ spS w cs x a)
  | [], 0, _, _, h, _, _, _ => absurd h (Nat.not_lt_zero _)
  | _ :: _, 0, _, _, h, _, _, _ => absurd h (Nat.not_lt_zero _)
  | [], n + 1, p, acc, _, hp, hto, _ => by
    rw [List.length_nil, Nat.add_zero] at hto hp
    rw [lp_M_spread_14, pu_in hln (by omega), cond_true, nI_clamp (by omega), hto, if_pos (by rw [nI_leI (by omega) (by omega)]; omega)]
    simp only [spS, List.foldr_nil]
    rw [Int64.xor_zero]
  | c :: cs, n + 1, p, acc, hn, hp, hto, hc => by
    rw [List.length_cons] at hn hp hto
    have h0 : s.2 g 6 p = lN c := hc 0 c rfl
    have hx2 : (nI x).toInt64 = lN x := nI_l (by omega)
    rw [lp_M_spread_14, pu_in hln (by omega), cond_true, nI_clamp (by omega), hto, if_neg (by rw [nI_leI (by omega) (by omega)]; omega), pu_in (by omega) (by omega), cond_true, nI_clamp (by omega), h0, hx2, m_rot hw hM, Option.bind_some, lN_mul, amt_lN hw, c_1, nI_add]
    rw [ms_run hw hM hln hx cs n (p + 1) _ (by omega) (by omega) (hto.trans (by congr 1; omega)) (fun q c hq => by rw [show p + 1 + q = p + (q + 1) by omega]; exact hc (q + 1) c hq)]
    rw [x_as]
    rfl
theorem m_spread {x p : Nat} {a : Int64} {cs : List Nat} (hF : 241 ≤ F) (hw : okW w) (hM : MW w s) (hln : ln < 120) (hx : x < 64) (hp : p + cs.length ≤ 240) (h17 : s.1 g 17 ln = nI p) (h18 : s.1 g 18 ln = nI (p + cs.length)) (hc : ∀ (q c : Nat), cs[q]? = some c → s.2 g 6 (p + q) = lN c) : f_M_spread F g a (nI ln) (nI x) s = some (spS w cs x a) := by
  unfold f_M_spread
  rw [pu_in hln (by omega), cond_true, nI_clamp (by omega), h17, ms_run hw hM hln hx cs F p 0 (by omega) hp h18 hc, Option.bind_some, x0_x]
theorem m_gathered {p : Nat} {cs : List Nat} (hF : 241 ≤ F) (hw : okW w) (hM : MW w s) (hln : ln < 120) (hp : p + cs.length ≤ 240) (h17 : s.1 g 17 ln = nI p) (h18 : s.1 g 18 ln = nI (p + cs.length)) (hc : ∀ (q c : Nat), cs[q]? = some c → s.2 g 6 (p + q) = lN c) : ∀ (m k n : Nat) (a : Int64), w = 2 ^ (k + m) → m < n → bW w a → lp_M_gathered_6 F g (nI ln) s n a (nI (2 ^ k)) = some (spN w cs (w - 2 ^ k) a)
  | _, _, 0, _, _, h, _ => absurd h (Nat.not_lt_zero _)
  | 0, k, n + 1, a, e, _, _ => by
    have hw64 : w ≤ 64 := by rcases hw with h | h | h | h <;> omega
    rw [Nat.add_zero] at e
    rw [lp_M_gathered_6, hM.1, ← e, if_pos (by rw [nI_leI (by omega) (by omega)]; omega), Nat.sub_self]
    rfl
  | m + 1, k, n + 1, a, e, h, ha => by
    have hw64 : w ≤ 64 := by rcases hw with h | h | h | h <;> omega
    have hpos : 0 < 2 ^ m := Nat.pow_pos (by omega)
    have hpk : 0 < 2 ^ k := Nat.pow_pos (by omega)
    have e2 : w = 2 ^ (k + 1) * 2 ^ m := by rw [e, ← Nat.pow_add]; congr 1; omega
    have e3 : 2 ^ (k + 1) = 2 * 2 ^ k := by rw [Nat.pow_succ, Nat.mul_comm]
    have hle : 2 ^ (k + 1) ≤ w := by rw [e2]; exact Nat.le_mul_of_pos_right _ hpos
    have e4 : nI (2 ^ k) * (2 : Int32) = nI (2 ^ (k + 1)) := by rw [c_2, nI_mul, Nat.pow_succ]
    rw [lp_M_gathered_6, hM.1, if_neg (by rw [nI_leI (by omega) (by omega)]; omega), m_spread hF hw hM hln (by omega) hp h17 h18 hc, Option.bind_some, e4]
    rw [m_gathered hF hw hM hln hp h17 h18 hc m (k + 1) n _ (by rw [e]; congr 1; omega) (by omega) (bW_spS hw cs)]
    rw [spN_pow hw k a ha, spN_add]
    congr 2
    omega
theorem m_gath {p : Nat} {cs : List Nat} {a : Int64} (hF : 241 ≤ F) (hw : okW w) (hM : MW w s) (hln : ln < 120) (hp : p + cs.length ≤ 240) (h17 : s.1 g 17 ln = nI p) (h18 : s.1 g 18 ln = nI (p + cs.length)) (hc : ∀ (q c : Nat), cs[q]? = some c → s.2 g 6 (p + q) = lN c) (ha : bW w a) : f_M_gathered F g a (nI ln) s = some (spN w cs (w - 1) a) := by
  unfold f_M_gathered
  have : ∃ m, w = 2 ^ (0 + m) ∧ m < 7 := by
    rcases hw with h | h | h | h
    · exact ⟨3, h, by omega⟩
    · exact ⟨4, h, by omega⟩
    · exact ⟨5, h, by omega⟩
    · exact ⟨6, h, by omega⟩
  obtain ⟨m, h1, h2⟩ := this
  have := m_gathered hF hw hM hln hp h17 h18 hc m 0 F a h1 (by omega) ha
  have e : lp_M_gathered_6 F g (nI ln) s F a (1 : Int32) = some (spN w cs (w - 1) a) := this
  rw [e]
  rfl
theorem zs_run {th : Nat} {a : Int64} (hw : okW w) (hM : ZWd w s) (hth : th < 240) (ha : bW w a) : ∀ (cs : List Nat) (n p : Nat) (acc : Int64), cs.length < n → p + cs.length ≤ 240 → s.1 0 55 th = nI (p + cs.length) → (∀ (q c : Nat), cs[q]? = some c → s.2 0 56 (p + q) = lN c) → lp_Z_spread_11 F (nI th) a s n acc (nI p) = some (acc ^^^ spS w cs 1 a)
  | [], 0, _, _, h, _, _, _ => absurd h (Nat.not_lt_zero _)
  | _ :: _, 0, _, _, h, _, _, _ => absurd h (Nat.not_lt_zero _)
  | [], n + 1, p, acc, _, hp, hto, _ => by
    rw [List.length_nil, Nat.add_zero] at hto hp
    rw [lp_Z_spread_11, pu_in hth (by omega), cond_true, nI_clamp (by omega), hto, if_pos (by rw [nI_leI (by omega) (by omega)]; omega)]
    simp only [spS, List.foldr_nil]
    rw [Int64.xor_zero]
  | c :: cs, n + 1, p, acc, hn, hp, hto, hc => by
    rw [List.length_cons] at hn hp hto
    have h0 : s.2 0 56 p = lN c := hc 0 c rfl
    rw [lp_Z_spread_11, pu_in hth (by omega), cond_true, nI_clamp (by omega), hto, if_neg (by rw [nI_leI (by omega) (by omega)]; omega), pu_in (by omega) (by omega), cond_true, nI_clamp (by omega), h0, z_turned hw hM ha, Option.bind_some, amt_lN hw, c_1, nI_add]
    rw [zs_run hw hM hth ha cs n (p + 1) _ (by omega) (by omega) (hto.trans (by congr 1; omega)) (fun q c hq => by rw [show p + 1 + q = p + (q + 1) by omega]; exact hc (q + 1) c hq)]
    rw [x_as]
    show _ = some (acc ^^^ (rtw w a (c * 1 % w) ^^^ spS w cs 1 a))
    rw [Nat.mul_one]
theorem z_spread {th p : Nat} {a : Int64} {cs : List Nat} (hF : 241 ≤ F) (hw : okW w) (hM : ZWd w s) (hth : th < 240) (ha : bW w a) (hp : p + cs.length ≤ 240) (h17 : s.1 0 54 th = nI p) (h18 : s.1 0 55 th = nI (p + cs.length)) (hc : ∀ (q c : Nat), cs[q]? = some c → s.2 0 56 (p + q) = lN c) : f_Z_spread F (nI th) a s = some (spS w cs 1 a) := by
  unfold f_Z_spread
  rw [pu_in hth (by omega), cond_true, nI_clamp (by omega), h17, zs_run hw hM hth ha cs F p 0 (by omega) hp h18 hc, Option.bind_some, x0_x]
theorem z_353 {th p : Nat} {cs : List Nat} {x4 : Int32} (hF : 241 ≤ F) (hw : okW w) (hM : ZWd w s) (hth : th < 240) (hp : p + cs.length ≤ 240) (h17 : s.1 0 54 th = nI p) (h18 : s.1 0 55 th = nI (p + cs.length)) (hc : ∀ (q c : Nat), cs[q]? = some c → s.2 0 56 (p + q) = lN c) (d : Nat) (hd : d < 2) : ∀ (m x n : Nat) (a : Int64), (if d = 0 then 1 else w - 1) = x + m → m < n → bW w a → lp_Z_doStep_353 F (nI d) (nI th) x4 s n a (nI x) = some (spN w cs m a)
  | _, _, 0, _, _, h, _ => absurd h (Nat.not_lt_zero _)
  | m, x, n + 1, a, e, h, ha => by
    have hw64 : 8 ≤ w ∧ w ≤ 64 := by rcases hw with h | h | h | h <;> omega
    have e1 : (if nI d = (0 : Int32) then some (1 : Int32) else Option.bind (f_Z_width s) (fun r80 => some (r80 - (1 : Int32)))) = some (nI (x + m)) := by
      by_cases h0 : d = 0
      · rw [if_pos h0] at e
        rw [h0, if_pos (show nI 0 = (0 : Int32) from rfl), ← e]
        rfl
      · rw [if_neg h0] at e
        rw [if_neg (by rw [c_0, nI_eq (by omega) (by omega)]; exact h0), z_width hw hM, Option.bind_some, ← e, c_1, nI_sub (by omega)]
    have hxm : x + m ≤ 64 := by rw [← e]; split <;> omega
    rw [lp_Z_doStep_353, e1, Option.bind_some]
    cases m with
    | zero =>
      rw [if_pos (by rw [nI_leI (by omega) (by omega)]; omega)]
      rfl
    | succ m =>
      rw [if_neg (by rw [nI_leI (by omega) (by omega)]; omega), z_spread hF hw hM hth ha hp h17 h18 hc, Option.bind_some, c_1, nI_add]
      exact z_353 hF hw hM hth hp h17 h18 hc d hd m (x + 1) n _ (by rw [e]; omega) (by omega) (bW_spS hw cs)
theorem m_inverse {v : Nat} (hF : 7 ≤ F) (h : v % 2 = 1) : ∃ r, f_M_inverse F (lN v) s = some r ∧ f_Z_inverse F (lN v) s = some r := by
  obtain ⟨F, rfl⟩ : ∃ F', F = F' + 7 := ⟨F - 7, by omega⟩
  refine ⟨nwt (lN v) (nwt (lN v) (nwt (lN v) (nwt (lN v) (nwt (lN v) (lN v))))), ?_, ?_⟩
  · unfold f_M_inverse nwt
    rw [lp_M_inverse_5, if_neg (by decide), lp_M_inverse_5, if_neg (by decide), lp_M_inverse_5, if_neg (by decide), lp_M_inverse_5, if_neg (by decide), lp_M_inverse_5, if_neg (by decide), lp_M_inverse_5, if_pos (by decide), Option.bind_some]
  · rw [← nwt_6 h]
    unfold f_Z_inverse nwt
    rw [lp_Z_inverse_5, if_neg (by decide), lp_Z_inverse_5, if_neg (by decide), lp_Z_inverse_5, if_neg (by decide), lp_Z_inverse_5, if_neg (by decide), lp_Z_inverse_5, if_neg (by decide), lp_Z_inverse_5, if_neg (by decide), lp_Z_inverse_5, if_pos (by decide), Option.bind_some]
end
