/-! PURE: calls without a program; what a program shows -/
theorem iv_number_0 {I0 : Option Nat → ax_σ → Prop} {s : ax_σ} (a1 : Int32) (h : pr_I I0 none s) : pr_Z (pr_I I0) none 1 (f_Z_number a1 s) := by
  refine ⟨0, ax_wI s 0 38 0 1, ?_, iv_thrown 1, fun e => absurd e (by decide), h.th 1⟩
  unfold f_Z_number
  rw [if_pos (iv_has0 h)]
  simp only [ax_let, Option.bind_some, cond_false, cond_true]
  rw [if_neg (by rw [wI_1, if_pos ⟨rfl, rfl, rfl⟩]; decide)]
theorem iv_table_0 {I0 : Option Nat → ax_σ → Prop} {s : ax_σ} (a1 : Int32) (a2 : Int32) (a3 : Int32) (h : pr_I I0 none s) : pr_Z (pr_I I0) none 1 (f_Z_table 0 a1 a2 a3 s) := by
  refine ⟨0, ax_wI s 0 38 0 1, ?_, iv_thrown 1, fun e => absurd e (by decide), h.th 1⟩
  unfold f_Z_table
  rw [if_pos (iv_has0 h)]
  simp only [ax_let, Option.bind_some, cond_false, cond_true]
  rw [if_neg (by rw [wI_1, if_pos ⟨rfl, rfl, rfl⟩]; decide)]
theorem iv_key_0 {I0 : Option Nat → ax_σ → Prop} {s : ax_σ} (a1 : Int32) (a2 : Int64) (h : pr_I I0 none s) : pr_ZL (pr_I I0) none 1 (f_Z_key a1 a2 s) := by
  refine ⟨0, ax_wI s 0 38 0 1, ?_, iv_thrown 1, fun e => absurd e (by decide), h.th 1⟩
  unfold f_Z_key
  rw [if_pos (iv_has0 h)]
  simp only [ax_let, Option.bind_some, cond_false, cond_true]
  rw [if_neg (by rw [wI_1, if_pos ⟨rfl, rfl, rfl⟩]; decide)]
theorem iv_state_0 {I0 : Option Nat → ax_σ → Prop} {s : ax_σ} (a1 : Int32) (a2 : Int64) (h : pr_I I0 none s) : pr_ZL (pr_I I0) none 1 (f_Z_state a1 a2 s) := by
  refine ⟨0, ax_wI s 0 38 0 1, ?_, iv_thrown 1, fun e => absurd e (by decide), h.th 1⟩
  unfold f_Z_state
  rw [if_pos (iv_has0 h)]
  simp only [ax_let, Option.bind_some, cond_false, cond_true]
  rw [if_neg (by rw [wI_1, if_pos ⟨rfl, rfl, rfl⟩]; decide)]
theorem iv_keyWord_0 {I0 : Option Nat → ax_σ → Prop} {s : ax_σ} (a1 : Int32) (h : pr_I I0 none s) : pr_ZL (pr_I I0) none 1 (f_Z_keyWord a1 s) := by
  refine ⟨0, ax_wI s 0 38 0 1, ?_, iv_thrown 1, fun e => absurd e (by decide), h.th 1⟩
  unfold f_Z_keyWord
  rw [if_pos (iv_has0 h)]
  simp only [ax_let, Option.bind_some, cond_false, cond_true]
  rw [if_neg (by rw [wI_1, if_pos ⟨rfl, rfl, rfl⟩]; decide)]
theorem iv_word_0 {I0 : Option Nat → ax_σ → Prop} {s : ax_σ} (a1 : Int32) (h : pr_I I0 none s) : pr_ZL (pr_I I0) none 1 (f_Z_word a1 s) := by
  refine ⟨0, ax_wI s 0 38 0 1, ?_, iv_thrown 1, fun e => absurd e (by decide), h.th 1⟩
  unfold f_Z_word
  rw [if_pos (iv_has0 h)]
  simp only [ax_let, Option.bind_some, cond_false, cond_true]
  rw [if_neg (by rw [wI_1, if_pos ⟨rfl, rfl, rfl⟩]; decide)]
theorem iv_subkey_0 {I0 : Option Nat → ax_σ → Prop} {s : ax_σ} (a1 : Int32) (h : pr_I I0 none s) : pr_ZL (pr_I I0) none 1 (f_Z_subkey 0 a1 s) := by
  refine ⟨0, ax_wI s 0 38 0 1, ?_, iv_thrown 1, fun e => absurd e (by decide), h.th 1⟩
  unfold f_Z_subkey
  rw [if_pos (iv_has0 h)]
  simp only [ax_let, Option.bind_some, cond_false, cond_true]
  rw [if_neg (by rw [wI_1, if_pos ⟨rfl, rfl, rfl⟩]; decide)]
theorem iv_encrypt_0 {I0 : Option Nat → ax_σ → Prop} {s : ax_σ}  (h : pr_I I0 none s) : pr_Z (pr_I I0) none 1 (f_Z_encrypt 0  s) := by
  refine ⟨0, ax_wI s 0 38 0 1, ?_, iv_thrown 1, fun e => absurd e (by decide), h.th 1⟩
  unfold f_Z_encrypt
  rw [if_pos (iv_has0 h)]
  simp only [ax_let, Option.bind_some, cond_false, cond_true]
  rw [if_neg (by rw [wI_1, if_pos ⟨rfl, rfl, rfl⟩]; decide)]
theorem iv_decrypt_0 {I0 : Option Nat → ax_σ → Prop} {s : ax_σ}  (h : pr_I I0 none s) : pr_Z (pr_I I0) none 1 (f_Z_decrypt 0  s) := by
  refine ⟨0, ax_wI s 0 38 0 1, ?_, iv_thrown 1, fun e => absurd e (by decide), h.th 1⟩
  unfold f_Z_decrypt
  rw [if_pos (iv_has0 h)]
  simp only [ax_let, Option.bind_some, cond_false, cond_true]
  rw [if_neg (by rw [wI_1, if_pos ⟨rfl, rfl, rfl⟩]; decide)]
theorem iv_apply_0 {I0 : Option Nat → ax_σ → Prop} {s : ax_σ} (a1 : Int32) (a2 : Int32) (h : pr_I I0 none s) : pr_Z (pr_I I0) none 1 (f_Z_apply 0 a1 a2 s) := by
  refine ⟨0, ax_wI s 0 38 0 1, ?_, iv_thrown 1, fun e => absurd e (by decide), h.th 1⟩
  unfold f_Z_apply
  rw [if_pos (iv_has0 h)]
  simp only [ax_let, Option.bind_some, cond_false, cond_true]
  rw [if_neg (by rw [wI_1, if_pos ⟨rfl, rfl, rfl⟩]; decide)]
/-- the word that has w ones -/
def mk64 (w : Nat) : Int64 := if w = 64 then -1 else lN (2 ^ w - 1)
/-- the table's entry for which a number stands, looked for from k - 1 down -/
def bkL (f : Nat → Int32) (i : Int32) : Nat → Int32 → Int32
  | 0, acc => acc
  | k + 1, acc => bkL f i k (if f k = i then nI k else acc)
/-- what a program shows: v its numbers, m the length of its form -/
def PV (v : Nat → Nat) (m g : Nat) (s : ax_σ) : Prop :=
  ((v 0 = 8 ∨ v 0 = 16 ∨ v 0 = 32 ∨ v 0 = 64) ∧ (2 ≤ v 1 ∧ v 1 ≤ 4) ∧ (1 ≤ v 2 ∧ v 2 ≤ 4) ∧ v 3 ≤ 2 ∧ v 4 ≤ 32 ∧ v 5 ≤ 400 ∧ v 6 ≤ 400 ∧ v 7 ≤ 20) ∧
  (∀ j, j < 8 → s.1 g 1 j = nI (v j)) ∧ (∀ j, j < 3 → s.2 0 41 j = lN (v j)) ∧ (s.1 0 38 14 = nI (v 3) ∧ s.1 0 38 55 = nI (v 4) ∧ s.1 0 38 59 = nI (v 5) ∧ s.1 0 38 63 = nI (v 6) ∧ s.1 0 38 64 = nI (v 7)) ∧
  (m ≤ 264 ∧ s.1 g 0 8 = nI m ∧ s.1 0 38 51 = nI m ∧ ∀ i, i < m → s.1 g 22 i = s.1 0 67 i) ∧
  (∀ i, i < 16 * v 3 → s.1 g 2 i = s.1 0 43 i) ∧ (∀ t i, t < v 3 → i < 16 → s.1 g 3 (16 * t + i) = bkL (fun k => s.1 0 43 (16 * t + k)) (nI i) 16 (-1)) ∧
  (s.1 0 32 7 = nI (v 0) ∧ s.2 0 32 8 = mk64 (v 0)) ∧ (∀ i, i < 4 → s.2 0 33 i = s.2 0 79 i ∧ s.2 0 34 i = s.2 0 80 i)
theorem tbP {g r k : Nat} (h : r < 23) : pr_Tb g r k = false := by
  cases hb : pr_Tb g r k with
  | false => rfl
  | true =>
    have := (pr_Tb_T.mp hb).2
    omega
theorem tbQ {r k : Nat} (h : r ≠ 23 ∧ r ≠ 24 ∧ r ≠ 38 ∧ r ≠ 39) : pr_Tb 0 r k = false := by
  cases hb : pr_Tb 0 r k with
  | false => rfl
  | true =>
    have := (pr_Tb_T.mp hb).2
    omega
theorem b37 {r : Nat} (h : r ≠ 37) : Nat.beq r 37 = false := by
  cases hb : Nat.beq r 37 with
  | false => rfl
  | true => exact absurd (Nat.eq_of_beq_eq_true hb) h
/-- the same of the memory itself -/
theorem PV.up {v : Nat → Nat} {m g : Nat} {s : ax_σ} (h : PV v m g (msk s)) : PV v m g s := by
  obtain ⟨h0, h1, h2, ⟨h3, h4, h5, h6, h7⟩, ⟨h8, h9, h10, h11⟩, h12, h13, ⟨h14, h15⟩, h16⟩ := h
  refine ⟨h0, fun j hj => ?_, fun j hj => ?_, ⟨?_, ?_, ?_, ?_, ?_⟩, ⟨h8, ?_, ?_, fun i hi => ?_⟩, fun i hi => ?_, fun t i ht hi => ?_, ⟨?_, ?_⟩, fun i hi => ?_⟩
  · rw [← h1 j hj, msk_1 (tbP (by decide))]
  · rw [← h2 j hj, msk_2 rfl]
  · rw [← h3, msk_1 rfl]
  · rw [← h4, msk_1 rfl]
  · rw [← h5, msk_1 rfl]
  · rw [← h6, msk_1 rfl]
  · rw [← h7, msk_1 rfl]
  · rw [← h9, msk_1 (tbP (by decide))]
  · rw [← h10, msk_1 rfl]
  · have := h11 i hi
    rw [msk_1 (tbP (by decide)), msk_1 (tbQ (by decide))] at this; exact this
  · have := h12 i hi
    rw [msk_1 (tbP (by decide)), msk_1 (tbQ (by decide))] at this; exact this
  · have := h13 t i ht hi
    have e : (fun k => (msk s).1 0 43 (16 * t + k)) = fun k => s.1 0 43 (16 * t + k) := by
      funext k; exact msk_1 (tbQ (by decide))
    rw [msk_1 (tbP (by decide)), e] at this; exact this
  · rw [← h14, msk_1 (tbQ (by decide))]
  · rw [← h15, msk_2 rfl]
  · have := h16 i hi
    rw [msk_2 rfl, msk_2 rfl, msk_2 rfl, msk_2 rfl] at this; exact this
section
variable {I0 : Option Nat → ax_σ → Prop} {g : Nat} {s : ax_σ}
theorem iv_has (h : pr_I I0 (some g) s) : ¬ s.1 0 38 5 = 0 := by rw [iv_has1 h]; decide
theorem iv_sp (a : Int32) : (ax_wI s 0 38 0 a).1 0 38 0 = a := by rw [wI_1, if_pos ⟨rfl, rfl, rfl⟩]
theorem iv_out (x : Int64) (v : Int32) : (ax_wI (pr_o s x) 0 38 0 v).2 0 37 ((0 : Int32)).toNatClampNeg = x := by
  rw [wI_2]
  simp [pr_o, ax_uL]
theorem iv_number_1 (a1 : Int32) (h : pr_I I0 (some g) s) {v : Nat → Nat} {m : Nat} (hp : PV v m g s) : ((a1 < 0 ∨ ¬ a1 < 8) ∧ pr_Z (pr_I I0) (some g) 2 (f_Z_number a1 s)) ∨ (∃ r, f_X_number g a1 s = some r ∧ pr_Z (pr_I I0) (some g) 0 (f_Z_number a1 (pr_o s (r.toInt64)))) := by
  have ev : ∀ (w : Int32) (s' : ax_σ) (h' : ¬ s'.1 0 38 5 = 0), (if s'.1 0 38 5 = 0 then some (1 : Int32) else w) = w := fun w s' h' => if_neg h'
  by_cases h0 : a1 < 0
  · refine Or.inl ⟨Or.inl h0, 0, ax_wI s 0 38 0 2, ?_, iv_thrown 2, fun e => absurd e (by decide), h.th 2⟩
    unfold f_Z_number
    rw [if_neg (iv_has h), if_pos h0]
    simp only [ax_let, Option.bind_some, cond_false, cond_true]
    rw [iv_sp, if_neg (by decide)]
  · obtain ⟨j, hj, rfl⟩ := nI_of h0
    by_cases h8 : nI j < 8
    · have hj8 : j < 8 := by
        rw [show (8 : Int32) = nI 8 from rfl, nI_ltI hj (by decide)] at h8; exact h8
      obtain ⟨p0, p1, p2, ⟨p3, p4, p5, p6, p7⟩, -⟩ := hp
      refine Or.inr ⟨nI (v j), ?_, nI (v j), ax_wI (pr_o s ((nI (v j)).toInt64)) 0 38 0 0, ?_, iv_thrown 0, fun _ => ?_, (h.o _).th 0⟩
      · unfold f_X_number
        rw [if_neg h0, if_pos h8]
        show (bif ax_in (nI j) 8 then some (s.1 g 1 (nI j).toNatClampNeg) else none) = _
        rw [pu_in hj8 (by decide), nI_clamp hj, p1 j hj8]; rfl
      · unfold f_Z_number
        rw [if_neg (iv_has (h.o _)), if_neg h0, if_pos (by rw [show (7 : Int32) = nI 7 from rfl, nI_leI hj (by decide)]; omega)]
        simp only [ax_let, Option.bind_some, cond_false, cond_true]
        rw [iv_sp, if_pos (by decide)]
        rcases (show j = 0 ∨ j = 1 ∨ j = 2 ∨ j = 3 ∨ j = 4 ∨ j = 5 ∨ j = 6 ∨ j = 7 by omega) with rfl | rfl | rfl | rfl | rfl | rfl | rfl | rfl
        · show some ((s.2 0 41 0).toInt32, _) = _
          rw [p2 0 (by decide), lN_i]
        · show some ((s.2 0 41 1).toInt32, _) = _
          rw [p2 1 (by decide), lN_i]
        · show some ((s.2 0 41 2).toInt32, _) = _
          rw [p2 2 (by decide), lN_i]
        · show some (s.1 0 38 14, _) = _
          rw [p3]
        · show some (s.1 0 38 55, _) = _
          rw [p4]
        · show some (s.1 0 38 59, _) = _
          rw [p5]
        · show some (s.1 0 38 63, _) = _
          rw [p6]
        · show some (s.1 0 38 64, _) = _
          rw [p7]
      · exact iv_out _ _
    · have hj8 : ¬ j ≤ 7 := by
        rw [show (8 : Int32) = nI 8 from rfl, nI_ltI hj (by decide)] at h8; omega
      refine Or.inl ⟨Or.inr h8, 0, ax_wI s 0 38 0 2, ?_, iv_thrown 2, fun e => absurd e (by decide), h.th 2⟩
      unfold f_Z_number
      rw [if_neg (iv_has h), if_neg h0, if_neg (by rw [show (7 : Int32) = nI 7 from rfl, nI_leI hj (by decide)]; exact hj8)]
      simp only [ax_let, Option.bind_some, cond_false, cond_true]
      rw [iv_sp, if_neg (by decide)]
theorem iv_print_1 (a1 : Int32) (h : pr_I I0 (some g) s) {v : Nat → Nat} {m : Nat} (hp : PV v m g s) : ∃ r s2, f_X_print_1 g a1 s = some r ∧ f_Z_print_I a1 s = some (r, s2) ∧ pr_I I0 (some g) s2 := by
  obtain ⟨-, -, -, -, ⟨q1, q2, q3, q4⟩, -⟩ := hp
  have e5 : ¬ (ax_wI s 0 38 0 0).1 0 38 5 = 0 := by rw [wI_1, if_neg (by omega)]; exact iv_has h
  have e51 : (ax_wI s 0 38 0 0).1 0 38 51 = nI m := by rw [wI_1, if_neg (by omega)]; exact q3
  by_cases h0 : a1 < 0
  · refine ⟨-1, ax_wI s 0 38 0 0, ?_, ?_, h.th 0⟩
    · unfold f_X_print_1; rw [if_pos h0]; rfl
    · unfold f_Z_print_I; simp only [ax_let]; rw [if_neg e5, if_pos h0]; rfl
  · obtain ⟨j, hj, rfl⟩ := nI_of h0
    by_cases hm : j < m
    · refine ⟨s.1 g 22 j, ax_wI s 0 38 0 0, ?_, ?_, h.th 0⟩
      · unfold f_X_print_1
        rw [if_neg h0, q2, if_pos ((nI_ltI hj (by omega)).mpr hm)]
        show (bif ax_in (nI j) 264 then some (s.1 g 22 (nI j).toNatClampNeg) else none) = _
        rw [pu_in (by omega) (by decide), nI_clamp hj]; rfl
      · unfold f_Z_print_I
        simp only [ax_let]
        rw [if_neg e5, if_neg h0, e51, if_neg (by rw [nI_leI (by omega) hj]; omega)]
        show (bif ax_in (nI j) 280 then some ((ax_wI s 0 38 0 0).1 0 67 (nI j).toNatClampNeg, ax_wI s 0 38 0 0) else none) = _
        rw [pu_in (by omega) (by decide), nI_clamp hj, wI_1, if_neg (by omega), ← q4 j hm]; rfl
    · refine ⟨-1, ax_wI s 0 38 0 0, ?_, ?_, h.th 0⟩
      · unfold f_X_print_1; rw [if_neg h0, q2, if_neg (by rw [nI_ltI hj (by omega)]; exact hm)]; rfl
      · unfold f_Z_print_I; simp only [ax_let]; rw [if_neg e5, if_neg h0, e51, if_pos (by rw [nI_leI (by omega) hj]; omega)]; rfl
end
