/-! PURE: words and tables of a program -/
theorem ni_s {a c : Int32} (h0 : ¬ a < 0) (h : a < c) : f_X_needIndex a c = some () := by
  unfold f_X_needIndex; rw [if_neg h0, if_pos h]; rfl
theorem ni_n {a c : Int32} (h0 : ¬ a < 0) (h : ¬ a < c) : f_X_needIndex a c = none := by
  unfold f_X_needIndex; rw [if_neg h0, if_neg h]; rfl
theorem ni_m {a c : Int32} (h0 : a < 0) : f_X_needIndex a c = none := by
  unfold f_X_needIndex; rw [if_pos h0]; rfl
theorem cmp_nl {j k : Nat} (hj : j < 2 ^ 31) (hk : k < 2 ^ 31) : (lg_cmp (nI j).toInt64 (lN k) < 0) ↔ j < k := by
  rw [lg_cmp_lt, nI_l hj, lN_lt hj hk]
theorem pr_o_2 (s : ax_σ) (x : Int64) {g r k : Nat} (h : r ≠ 37) : (pr_o s x).2 g r k = s.2 g r k := by
  simp [pr_o, ax_uL, h]
section
variable {I0 : Option Nat → ax_σ → Prop} {g : Nat} {s : ax_σ}
theorem iv_keyWord_1 (a1 : Int32) (h : pr_I I0 (some g) s) {v : Nat → Nat} {m : Nat} (hp : PV v m g s) : (f_X_needIndex a1 (s.1 g 1 ((2 : Int32)).toNatClampNeg) = none ∧ pr_ZL (pr_I I0) (some g) 2 (f_Z_keyWord a1 s)) ∨ (∃ r, f_X_keyWord g a1 s = some r ∧ pr_ZL (pr_I I0) (some g) 0 (f_Z_keyWord a1 (pr_o s (r)))) := by
  obtain ⟨⟨-, p01, p02, -⟩, p1, p2, -, -, -, -, -, p9⟩ := hp
  have e1 : s.1 g 1 ((2 : Int32)).toNatClampNeg = nI (v 2) := p1 2 (by decide)
  have e2 : ∀ x, (pr_o s x).2 0 41 ((2 : Int32)).toNatClampNeg = lN (v 2) := fun x => (pr_o_2 s x (by decide)).trans (p2 2 (by decide))
  have e3 : s.2 0 41 ((2 : Int32)).toNatClampNeg = lN (v 2) := p2 2 (by decide)
  by_cases h0 : a1 < 0
  · refine Or.inl ⟨ni_m h0, 0, ax_wI s 0 38 0 2, ?_, iv_thrown 2, fun e => absurd e (by decide), h.th 2⟩
    unfold f_Z_keyWord
    rw [if_neg (iv_has h), if_pos h0]
    simp only [ax_let, Option.bind_some, cond_false, cond_true]
    rw [iv_sp, if_neg (by decide)]
  · obtain ⟨j, hj, rfl⟩ := nI_of h0
    by_cases hk : j < v 2
    · refine Or.inr ⟨s.2 0 33 j, ?_, s.2 0 33 j, ax_wI (pr_o s (s.2 0 33 j)) 0 38 0 0, ?_, iv_thrown 0, fun _ => iv_out _ _, (h.o _).th 0⟩
      · unfold f_X_keyWord
        rw [e1, ni_s h0 ((nI_ltI hj (by omega)).mpr hk)]
        show (bif ax_in (nI j) 4 then some (s.2 0 33 (nI j).toNatClampNeg) else none) = _
        rw [pu_in (by omega) (by decide), nI_clamp hj]; rfl
      · unfold f_Z_keyWord
        rw [if_neg (iv_has (h.o _)), if_neg h0, e2, if_pos ((cmp_nl hj (by omega)).mpr hk)]
        simp only [ax_let, Option.bind_some, cond_false, cond_true, show ax_in (2 : Int32) 3 = true from by decide]
        rw [iv_sp, if_pos (by decide), pu_in (by omega) (by decide), nI_clamp hj]
        rw [wI_2, pr_o_2 s _ (by decide), ← (p9 j (by omega)).1]; rfl
    · refine Or.inl ⟨by rw [e1]; exact ni_n h0 (by rw [nI_ltI hj (by omega)]; exact hk), 0, ax_wI s 0 38 0 2, ?_, iv_thrown 2, fun e => absurd e (by decide), h.th 2⟩
      unfold f_Z_keyWord
      rw [if_neg (iv_has h), if_neg h0, e3, if_neg (by rw [cmp_nl hj (by omega)]; exact hk)]
      simp only [ax_let, Option.bind_some, cond_false, cond_true, show ax_in (2 : Int32) 3 = true from by decide]
      rw [iv_sp, if_neg (by decide)]
theorem iv_word_1 (a1 : Int32) (h : pr_I I0 (some g) s) {v : Nat → Nat} {m : Nat} (hp : PV v m g s) : (f_X_needIndex a1 (s.1 g 1 ((1 : Int32)).toNatClampNeg) = none ∧ pr_ZL (pr_I I0) (some g) 2 (f_Z_word a1 s)) ∨ (∃ r, f_X_word g a1 s = some r ∧ pr_ZL (pr_I I0) (some g) 0 (f_Z_word a1 (pr_o s (r)))) := by
  obtain ⟨⟨-, p01, p02, -⟩, p1, p2, -, -, -, -, -, p9⟩ := hp
  have e1 : s.1 g 1 ((1 : Int32)).toNatClampNeg = nI (v 1) := p1 1 (by decide)
  have e2 : ∀ x, (pr_o s x).2 0 41 ((1 : Int32)).toNatClampNeg = lN (v 1) := fun x => (pr_o_2 s x (by decide)).trans (p2 1 (by decide))
  have e3 : s.2 0 41 ((1 : Int32)).toNatClampNeg = lN (v 1) := p2 1 (by decide)
  by_cases h0 : a1 < 0
  · refine Or.inl ⟨ni_m h0, 0, ax_wI s 0 38 0 2, ?_, iv_thrown 2, fun e => absurd e (by decide), h.th 2⟩
    unfold f_Z_word
    rw [if_neg (iv_has h), if_pos h0]
    simp only [ax_let, Option.bind_some, cond_false, cond_true]
    rw [iv_sp, if_neg (by decide)]
  · obtain ⟨j, hj, rfl⟩ := nI_of h0
    by_cases hk : j < v 1
    · refine Or.inr ⟨s.2 0 34 j, ?_, s.2 0 34 j, ax_wI (pr_o s (s.2 0 34 j)) 0 38 0 0, ?_, iv_thrown 0, fun _ => iv_out _ _, (h.o _).th 0⟩
      · unfold f_X_word
        rw [e1, ni_s h0 ((nI_ltI hj (by omega)).mpr hk)]
        show (bif ax_in (nI j) 4 then some (s.2 0 34 (nI j).toNatClampNeg) else none) = _
        rw [pu_in (by omega) (by decide), nI_clamp hj]; rfl
      · unfold f_Z_word
        rw [if_neg (iv_has (h.o _)), if_neg h0, e2, if_pos ((cmp_nl hj (by omega)).mpr hk)]
        simp only [ax_let, Option.bind_some, cond_false, cond_true, show ax_in (1 : Int32) 3 = true from by decide]
        rw [iv_sp, if_pos (by decide), pu_in (by omega) (by decide), nI_clamp hj]
        rw [wI_2, pr_o_2 s _ (by decide), ← (p9 j (by omega)).2]; rfl
    · refine Or.inl ⟨by rw [e1]; exact ni_n h0 (by rw [nI_ltI hj (by omega)]; exact hk), 0, ax_wI s 0 38 0 2, ?_, iv_thrown 2, fun e => absurd e (by decide), h.th 2⟩
      unfold f_Z_word
      rw [if_neg (iv_has h), if_neg h0, e3, if_neg (by rw [cmp_nl hj (by omega)]; exact hk)]
      simp only [ax_let, Option.bind_some, cond_false, cond_true, show ax_in (1 : Int32) 3 = true from by decide]
      rw [iv_sp, if_neg (by decide)]
/-- the reference's search of a table -/
theorem en_back {F : Nat} {t i : Nat} (ht : t < 2) : ∀ (k n : Nat) (acc : Int32), k ≤ 16 → k < n → lp_Z_entry_23 F (nI t) (nI i) s n acc (nI k + (-1 : Int32)) = some (bkL (fun k => s.1 0 43 (16 * t + k)) (nI i) k acc)
  | 0, n + 1, acc, _, _ => by
    rw [lp_Z_entry_23, if_pos (by decide)]; rfl
  | k + 1, n + 1, acc, hk, hn => by
    have e : nI (k + 1) + (-1 : Int32) = nI k := (Int32.sub_eq_add_neg _ _).symm.trans (nI_pred k)
    have e2 : (16 : Int32) * nI t + nI k = nI (16 * t + k) := by
      have e3 : (16 : Int32) * nI t = nI (16 * t) := (Int32.ofNat_mul 16 t).symm
      rw [e3, nI_add]
    rw [lp_Z_entry_23, e, if_neg (nI_pos (by omega)), e2, pu_in (by omega) (by decide), nI_clamp (by omega)]
    simp only [cond_true]
    unfold bkL
    by_cases h : s.1 0 43 (16 * t + k) = nI i
    · rw [if_pos h, if_pos h]
      exact en_back ht k n (nI k) (by omega) (by omega)
    · rw [if_neg h, if_neg h]
      exact en_back ht k n acc (by omega) (by omega)
theorem iv_table_1 (a1 a2 a3 : Int32) (h : pr_I I0 (some g) s) {v : Nat → Nat} {m : Nat} (hp : PV v m g s) : (f_X_needIndex a1 (s.1 g 1 ((3 : Int32)).toNatClampNeg) = none ∧ (∃ F2, pr_Z (pr_I I0) (some g) 2 (f_Z_table F2 a1 a2 a3 s))) ∨ (f_X_needIndex a1 (s.1 g 1 ((3 : Int32)).toNatClampNeg) = some () ∧ f_X_needIndex a2 16 = none ∧ (∃ F2, pr_Z (pr_I I0) (some g) 2 (f_Z_table F2 a1 a2 a3 s))) ∨ (∃ r, f_X_table g a1 a2 a3 s = some r ∧ (∃ F2, pr_Z (pr_I I0) (some g) 0 (f_Z_table F2 a1 a2 a3 (pr_o s (r.toInt64))))) := by
  obtain ⟨⟨-, -, -, p03, -⟩, p1, -, ⟨p3, -⟩, -, p6, p7, -⟩ := hp
  have e1 : s.1 g 1 ((3 : Int32)).toNatClampNeg = nI (v 3) := p1 3 (by decide)
  by_cases h0 : a1 < 0
  · refine Or.inl ⟨ni_m h0, 17, 0, ax_wI s 0 38 0 2, ?_, iv_thrown 2, fun e => absurd e (by decide), h.th 2⟩
    unfold f_Z_table
    rw [if_neg (iv_has h), if_pos h0]
    simp only [ax_let, Option.bind_some, cond_false, cond_true]
    rw [iv_sp, if_neg (by decide)]
  · obtain ⟨t, ht, rfl⟩ := nI_of h0
    by_cases hk : t < v 3
    · have hk1 : ¬ nI (v 3) ≤ nI t := by rw [nI_leI (by omega) ht]; omega
      have n1 : f_X_needIndex (nI t) (s.1 g 1 ((3 : Int32)).toNatClampNeg) = some () := by rw [e1]; exact ni_s h0 ((nI_ltI ht (by omega)).mpr hk)
      by_cases g0 : a2 < 0
      · refine Or.inr (Or.inl ⟨n1, ni_m g0, 17, 0, ax_wI s 0 38 0 2, ?_, iv_thrown 2, fun e => absurd e (by decide), h.th 2⟩)
        unfold f_Z_table
        rw [if_neg (iv_has h), if_neg h0, p3, if_neg hk1, if_pos g0]
        simp only [ax_let, Option.bind_some, cond_false, cond_true]
        rw [iv_sp, if_neg (by decide)]
      · obtain ⟨i, hi, rfl⟩ := nI_of g0
        by_cases hi16 : i < 16
        · have n2 : f_X_needIndex (nI i) 16 = some () := ni_s g0 (by rw [show (16 : Int32) = nI 16 from rfl, nI_ltI hi (by decide)]; exact hi16)
          have ex : nI t * (16 : Int32) + nI i = nI (16 * t + i) := by
            have e3 : nI t * (16 : Int32) = nI (t * 16) := (Int32.ofNat_mul t 16).symm
            rw [e3, nI_add, Nat.mul_comm]
          have ez : (16 : Int32) * nI t + nI i = nI (16 * t + i) := by
            have e3 : (16 : Int32) * nI t = nI (16 * t) := (Int32.ofNat_mul 16 t).symm
            rw [e3, nI_add]
          have hin : ax_in (nI (16 * t + i)) 32 = true := pu_in (by omega) (by decide)
          have hcl : (nI (16 * t + i)).toNatClampNeg = 16 * t + i := nI_clamp (by omega)
          have zz : ∀ (x : Int64) (r : Int32), f_Z_entry 17 (nI t) (nI i) a3 (ax_wI (pr_o s x) 0 38 0 0) = some r → f_Z_table 17 (nI t) (nI i) a3 (pr_o s x) = some (r, ax_wI (pr_o s x) 0 38 0 0) := by
            intro x r hr
            unfold f_Z_table
            rw [if_neg (iv_has (h.o _)), if_neg h0, show (pr_o s x).1 0 38 14 = nI (v 3) from p3, if_neg hk1, if_neg g0, if_pos (by rw [show (15 : Int32) = nI 15 from rfl, nI_leI hi (by decide)]; omega)]
            simp only [ax_let, Option.bind_some, cond_false, cond_true]
            rw [iv_sp, if_pos (by decide), hr]; rfl
          by_cases h3 : a3 = 0
          · refine Or.inr (Or.inr ⟨s.1 g 2 (16 * t + i), ?_, 17, s.1 g 2 (16 * t + i), _, zz _ _ ?_, iv_thrown 0, fun _ => iv_out _ _, (h.o _).th 0⟩)
            · unfold f_X_table
              rw [n1, n2, if_pos h3, ex, hin, hcl]; rfl
            · unfold f_Z_entry
              rw [if_pos h3, ez, hin, hcl, wI_1, if_neg (by omega)]
              show some (s.1 0 43 (16 * t + i)) = _
              rw [p6 _ (by omega)]
          · refine Or.inr (Or.inr ⟨s.1 g 3 (16 * t + i), ?_, 17, s.1 g 3 (16 * t + i), _, zz _ _ ?_, iv_thrown 0, fun _ => iv_out _ _, (h.o _).th 0⟩)
            · unfold f_X_table
              rw [n1, n2, if_neg h3, ex, hin, hcl]; rfl
            · unfold f_Z_entry
              rw [if_neg h3]
              have eb := en_back (s := ax_wI (pr_o s ((s.1 g 3 (16 * t + i)).toInt64)) 0 38 0 0) (F := 17) (i := i) (show t < 2 by omega) 16 17 (-1) (by omega) (by omega)
              rw [show nI 16 + (-1 : Int32) = 15 from by decide] at eb
              rw [eb]
              show some (bkL (fun k => (ax_wI (pr_o s _) 0 38 0 0).1 0 43 (16 * t + k)) (nI i) 16 (-1)) = _
              rw [p7 t i hk hi16]
              have e9 : (fun k => (ax_wI (pr_o s ((s.1 g 3 (16 * t + i)).toInt64)) 0 38 0 0).1 0 43 (16 * t + k)) = fun k => s.1 0 43 (16 * t + k) := by
                funext k
                rw [wI_1, if_neg (by omega)]; rfl
              rw [← p7 t i hk hi16, e9, p7 t i hk hi16]
        · refine Or.inr (Or.inl ⟨n1, ni_n g0 (by rw [show (16 : Int32) = nI 16 from rfl, nI_ltI hi (by decide)]; exact hi16), 17, 0, ax_wI s 0 38 0 2, ?_, iv_thrown 2, fun e => absurd e (by decide), h.th 2⟩)
          unfold f_Z_table
          rw [if_neg (iv_has h), if_neg h0, p3, if_neg hk1, if_neg g0, if_neg (by rw [show (15 : Int32) = nI 15 from rfl, nI_leI hi (by decide)]; omega)]
          simp only [ax_let, Option.bind_some, cond_false, cond_true]
          rw [iv_sp, if_neg (by decide)]
    · refine Or.inl ⟨by rw [e1]; exact ni_n h0 (by rw [nI_ltI ht (by omega)]; exact hk), 17, 0, ax_wI s 0 38 0 2, ?_, iv_thrown 2, fun e => absurd e (by decide), h.th 2⟩
      unfold f_Z_table
      rw [if_neg (iv_has h), if_neg h0, p3, if_pos (by rw [nI_leI (by omega) ht]; omega)]
      simp only [ax_let, Option.bind_some, cond_false, cond_true]
      rw [iv_sp, if_neg (by decide)]
end
/-- a word of w bits -/
def inW (w : Nat) (x : Int64) : Prop := x.toBitVec.toNat < 2 ^ w
theorem and_not {x : Int64} {w : Nat} (hw : w < 64) : (x &&& (lN (2 ^ w - 1) ^^^ (-1 : Int64))) = 0 ↔ inW w x := by
  rw [← Int64.toBitVec_inj, Int64.toBitVec_and, Int64.toBitVec_xor]
  show x.toBitVec &&& (BitVec.ofNat 64 (2 ^ w - 1) ^^^ BitVec.allOnes 64) = 0#64 ↔ _
  unfold inW
  have key : ∀ i, i < 64 → (x.toBitVec &&& (BitVec.ofNat 64 (2 ^ w - 1) ^^^ BitVec.allOnes 64)).getLsbD i = (x.toBitVec.getLsbD i && !decide (i < w)) := by
    intro i hi
    rw [BitVec.getLsbD_and, BitVec.getLsbD_xor, BitVec.getLsbD_ofNat, Nat.testBit_two_pow_sub_one, BitVec.getLsbD_allOnes, decide_eq_true hi]
    cases x.toBitVec.getLsbD i <;> cases decide (i < w) <;> rfl
  constructor
  · intro h
    apply Nat.lt_pow_two_of_testBit
    intro i hi
    by_cases hi64 : i < 64
    · have t := key i hi64
      rw [h, decide_eq_false (show ¬ i < w by omega)] at t
      have t2 : x.toBitVec.getLsbD i = false := by
        cases hx : x.toBitVec.getLsbD i with
        | false => rfl
        | true => rw [hx] at t; simp at t
      exact t2
    · exact Nat.testBit_lt_two_pow (Nat.lt_of_lt_of_le x.toBitVec.isLt (Nat.pow_le_pow_right (by decide) (by omega)))
  · intro h
    apply BitVec.eq_of_getLsbD_eq
    intro i hi
    rw [key i hi]
    by_cases hiw : i < w
    · rw [decide_eq_true hiw]; simp
    · have e : x.toBitVec.getLsbD i = false := Nat.testBit_lt_two_pow (Nat.lt_of_lt_of_le h (Nat.pow_le_pow_right (by decide) (by omega)))
      rw [e]; simp
theorem and_mk {x : Int64} {w : Nat} (hw : w = 8 ∨ w = 16 ∨ w = 32 ∨ w = 64) : (x &&& (mk64 w ^^^ (-1 : Int64))) = 0 ↔ inW w x := by
  by_cases h : w = 64
  · subst h
    have e : (mk64 64 ^^^ (-1 : Int64)) = 0 := by decide
    rw [e]
    exact ⟨fun _ => x.toBitVec.isLt, fun _ => by simp⟩
  · unfold mk64
    rw [if_neg h]
    exact and_not (by omega)
theorem nw_x {x : Int64} {s : ax_σ} {w : Nat} (hw : w = 8 ∨ w = 16 ∨ w = 32 ∨ w = 64) (hs : s.2 0 32 8 = mk64 w) : f_X_needWord x s = if x &&& (mk64 w ^^^ (-1 : Int64)) = 0 then some () else none := by
  unfold f_X_needWord
  rw [hs]
  by_cases h : x &&& (mk64 w ^^^ (-1 : Int64)) = 0
  · rw [if_pos h, if_pos ((lg_cmp_eq _ _).mpr h)]
  · rw [if_neg h, if_neg (fun z => h ((lg_cmp_eq _ _).mp z))]
theorem uN_pos {x : Int64} (h : x.toBitVec.toNat < 2 ^ 63) : x.toInt = (x.toBitVec.toNat : Int) := by
  show x.toBitVec.toInt = _
  rw [BitVec.toInt_eq_toNat_cond, if_pos (by omega)]
theorem uN_neg {x : Int64} (h : ¬ x.toBitVec.toNat < 2 ^ 63) : x.toInt < 0 := by
  have := x.toBitVec.isLt
  show x.toBitVec.toInt < 0
  rw [BitVec.toInt_eq_toNat_cond, if_neg (by omega)]
  omega
/-- the reference's own check of a word -/
theorem nw_z {x : Int64} {s : ax_σ} {w : Nat} (hw : w = 8 ∨ w = 16 ∨ w = 32 ∨ w = 64) (hs : s.2 0 41 ((0 : Int32)).toNatClampNeg = lN w) : f_Z_isWord x s = some (if x &&& (mk64 w ^^^ (-1 : Int64)) = 0 then 1 else 0) := by
  have hwid : f_Z_width s = some (nI w) := by
    unfold f_Z_width
    rw [hs, lN_i]; rfl
  unfold f_Z_isWord
  rw [hwid]
  show (if nI w = 64 then _ else _) = _
  by_cases h64 : w = 64
  · subst h64
    rw [if_pos (by rfl), if_pos ((and_mk (by omega)).mpr x.toBitVec.isLt)]
  · have hlt : w ≤ 32 := by omega
    rw [if_neg (by rw [show (64 : Int32) = nI 64 from rfl, nI_eq (by omega) (by decide)]; exact h64)]
    by_cases hn : x.toBitVec.toNat < 2 ^ 63
    · have hp : ¬ (lg_cmp x 0 < 0) := by
        rw [lg_cmp_lt, Int64.lt_iff_toInt_lt, uN_pos hn]
        show ¬ ((x.toBitVec.toNat : Int) < 0)
        omega
      rw [if_neg hp]
      have hD : ∀ w, w ≤ 32 → ((((lN w).toInt32).toInt64 &&& 63).toBitVec.smod 64).toNat = w := by decide +kernel
      have hsh : (x >>> (((lN w).toInt32).toInt64 &&& 63)).toInt = (x.toBitVec.toNat : Int) / 2 ^ w := by
        have e : (x >>> (((lN w).toInt32).toInt64 &&& 63)).toInt = x.toInt >>> w := by
          conv => rhs; rw [← hD w hlt]
          exact BitVec.toInt_sshiftRight ..
        rw [e, Int.shiftRight_eq_div_pow, uN_pos hn]; rfl
      have hwide : f_Z_isWide x s = some (if x &&& (mk64 w ^^^ (-1 : Int64)) = 0 then 0 else 1) := by
        unfold f_Z_isWide
        rw [hs]
        have h63 : ∀ w, w ≤ 32 → ¬ (0 ≤ lg_cmp (lN w) 63) := by decide +kernel
        rw [if_neg (h63 w hlt)]
        by_cases hin : inW w x
        · rw [if_pos ((and_mk hw).mpr hin), if_pos (by
            rw [lg_cmp_le, Int64.le_iff_toInt_le, hsh, Int.ediv_eq_zero_of_lt (by omega) (by unfold inW at hin; exact_mod_cast hin)]; decide)]
          rfl
        · rw [if_neg (fun z => hin ((and_mk hw).mp z)), if_neg (by
            rw [lg_cmp_le, Int64.le_iff_toInt_le, hsh]
            have h1 : 2 ^ w ≤ x.toBitVec.toNat := Nat.not_lt.mp hin
            have h2 : 1 ≤ x.toBitVec.toNat / 2 ^ w := (Nat.le_div_iff_mul_le (Nat.two_pow_pos w)).mpr (by omega)
            have h3 : (x.toBitVec.toNat : Int) / 2 ^ w = ((x.toBitVec.toNat / 2 ^ w : Nat) : Int) := by norm_cast
            rw [h3]
            show ¬ (((x.toBitVec.toNat / 2 ^ w : Nat) : Int) ≤ 0)
            omega)]
          rfl
      rw [hwide]
      by_cases hin : x &&& (mk64 w ^^^ (-1 : Int64)) = 0
      · rw [if_pos hin, if_pos hin]; rfl
      · rw [if_neg hin, if_neg hin]; rfl
    · have hp : lg_cmp x 0 < 0 := by
        rw [lg_cmp_lt, Int64.lt_iff_toInt_lt]
        exact uN_neg hn
      rw [if_pos hp, if_neg (fun z => hn (Nat.lt_of_lt_of_le ((and_mk hw).mp z) (Nat.pow_le_pow_right (by decide) (by omega))))]
      rfl
