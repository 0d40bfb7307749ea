/-! WHAT IS TO BE SHOWN OF THE FUNCTIONS -/
def pr_Z (Inv : Option Nat → ax_σ → Prop) (ph : Option Nat) (k : Int32) (z : Option (Int32 × ax_σ)) : Prop := ∃ (b : Int32) (s2 : ax_σ), z = some (b, s2) ∧ f_Z_thrown s2 = some k ∧ (k = 0 → (s2.2 0 37 ((0 : Int32)).toNatClampNeg) = (b).toInt64) ∧ Inv ph s2
def pr_ZL (Inv : Option Nat → ax_σ → Prop) (ph : Option Nat) (k : Int32) (z : Option (Int64 × ax_σ)) : Prop := ∃ (b : Int64) (s2 : ax_σ), z = some (b, s2) ∧ f_Z_thrown s2 = some k ∧ (k = 0 → (s2.2 0 37 ((0 : Int32)).toNatClampNeg) = b) ∧ Inv ph s2
def pr_o (s : ax_σ) (v : Int64) : ax_σ := (s.1, ax_uL s.2 0 37 ((0 : Int32)).toNatClampNeg v)
def bx_mixσ (s : ax_σ) : ax_σ := (fun g r => if g = 1 then bx_μ.1 g r else s.1 g r, fun g r => if g = 1 then bx_μ.2.1 g r else s.2 g r)
def pr_OK (Inv : Option Nat → ax_σ → Prop) : Prop :=
  (Inv none (bx_μ.1, bx_μ.2.1)) ∧
  (∀ ph s a, Inv ph s → ∃ F r s1 F2 s2, f_X_write F a s = some (r, s1) ∧ f_Z_write F2 a s1 = some (r, s2) ∧ Inv ph s2) ∧
  (∀ ph s, Inv ph s → ∃ r s1 s2, f_X_wipe s = some (r, s1) ∧ f_Z_wipe s1 = some (r, s2) ∧ Inv ph s2) ∧
  (∀ ph s, Inv ph s → ∃ r s2, f_X_place s = some r ∧ f_Z_place s = some (r, s2) ∧ Inv ph s2) ∧
  (∀ s a, Inv none s → ∃ r s2, f_X_print_0 a = some r ∧ f_Z_print_I a s = some (r, s2) ∧ Inv none s2) ∧
  (∀ g s a, Inv (some g) s → ∃ r s2, f_X_print_1 g a s = some r ∧ f_Z_print_I a s = some (r, s2) ∧ Inv (some g) s2) ∧
  (∀ s, Inv none s → ∃ F r s1, f_R_read F 0 (s.1 0 23 1) s = some (r, s1) ∧ ((¬ r = 0 ∧ ∃ F2 s2, f_Z_compile F2 (ax_wI s1 0 23 2 (s1.1 0 25 14)) = some (r, s2) ∧ Inv none s2) ∨ (r = 0 ∧ ∃ s2 F2 s3, f_M_load F 0 (bx_mixσ (ax_wI s1 0 23 2 (s1.1 0 25 14))) = some s2 ∧ f_Z_compile F2 s2 = some (0, s3) ∧ Inv (some 0) s3))) ∧
  (∀ g s, Inv (some g) s → ∃ F r s1, f_R_read F (1 - g) (s.1 0 23 1) s = some (r, s1) ∧ ((¬ r = 0 ∧ ∃ F2 s2, f_Z_compile F2 (ax_wI s1 0 23 2 (s1.1 0 25 14)) = some (r, s2) ∧ Inv (some g) s2) ∨ (r = 0 ∧ ∃ s2 F2 s3, f_M_load F (1 - g) (ax_wI s1 0 23 2 (s1.1 0 25 14)) = some s2 ∧ f_Z_compile F2 s2 = some (0, s3) ∧ Inv (some (1 - g)) s3))) ∧
  (∀ (s : ax_σ) (a1 : Int32), Inv none s → pr_Z Inv none 1 (f_Z_number a1 s)) ∧
  (∀ (g : Nat) (s : ax_σ) (a1 : Int32), Inv (some g) s → ((a1 < 0 ∨ ¬ a1 < 8) ∧ (pr_Z Inv (some g) 2 (f_Z_number a1 s))) ∨ (∃ r, f_X_number g a1 s = some r ∧ (pr_Z Inv (some g) 0 (f_Z_number a1 (pr_o s (r.toInt64)))))) ∧
  (∀ (s : ax_σ) (a1 : Int32) (a2 : Int32) (a3 : Int32), Inv none s → ∃ F2, pr_Z Inv none 1 (f_Z_table F2 a1 a2 a3 s)) ∧
  (∀ (g : Nat) (s : ax_σ) (a1 : Int32) (a2 : Int32) (a3 : Int32), Inv (some g) s → (f_X_needIndex a1 (s.1 g 1 ((3 : Int32)).toNatClampNeg) = none ∧ (∃ F2, pr_Z Inv (some g) 2 (f_Z_table F2 a1 a2 a3 s))) ∨ (f_X_needIndex a1 (s.1 g 1 ((3 : Int32)).toNatClampNeg) = some () ∧ f_X_needIndex a2 16 = none ∧ (∃ F2, pr_Z Inv (some g) 2 (f_Z_table F2 a1 a2 a3 s))) ∨ (∃ r, f_X_table g a1 a2 a3 s = some r ∧ (∃ F2, pr_Z Inv (some g) 0 (f_Z_table F2 a1 a2 a3 (pr_o s (r.toInt64)))))) ∧
  (∀ (s : ax_σ) (a1 : Int32) (a2 : Int64), Inv none s → pr_ZL Inv none 1 (f_Z_key a1 a2 s)) ∧
  (∀ (g : Nat) (s : ax_σ) (a1 : Int32) (a2 : Int64), Inv (some g) s → (f_X_needIndex a1 (s.1 g 1 ((2 : Int32)).toNatClampNeg) = none ∧ (pr_ZL Inv (some g) 2 (f_Z_key a1 a2 s))) ∨ (f_X_needIndex a1 (s.1 g 1 ((2 : Int32)).toNatClampNeg) = some () ∧ f_X_needWord a2 s = none ∧ (pr_ZL Inv (some g) 3 (f_Z_key a1 a2 s))) ∨ (∃ r s1, f_X_key g a1 a2 s = some (r, s1) ∧ (pr_ZL Inv (some g) 0 (f_Z_key a1 a2 (pr_o s1 (r)))))) ∧
  (∀ (s : ax_σ) (a1 : Int32) (a2 : Int64), Inv none s → pr_ZL Inv none 1 (f_Z_state a1 a2 s)) ∧
  (∀ (g : Nat) (s : ax_σ) (a1 : Int32) (a2 : Int64), Inv (some g) s → (f_X_needIndex a1 (s.1 g 1 ((1 : Int32)).toNatClampNeg) = none ∧ (pr_ZL Inv (some g) 2 (f_Z_state a1 a2 s))) ∨ (f_X_needIndex a1 (s.1 g 1 ((1 : Int32)).toNatClampNeg) = some () ∧ f_X_needWord a2 s = none ∧ (pr_ZL Inv (some g) 3 (f_Z_state a1 a2 s))) ∨ (∃ r s1, f_X_state g a1 a2 s = some (r, s1) ∧ (pr_ZL Inv (some g) 0 (f_Z_state a1 a2 (pr_o s1 (r)))))) ∧
  (∀ (s : ax_σ) (a1 : Int32), Inv none s → pr_ZL Inv none 1 (f_Z_keyWord a1 s)) ∧
  (∀ (g : Nat) (s : ax_σ) (a1 : Int32), Inv (some g) s → (f_X_needIndex a1 (s.1 g 1 ((2 : Int32)).toNatClampNeg) = none ∧ (pr_ZL Inv (some g) 2 (f_Z_keyWord a1 s))) ∨ (∃ r, f_X_keyWord g a1 s = some r ∧ (pr_ZL Inv (some g) 0 (f_Z_keyWord a1 (pr_o s (r)))))) ∧
  (∀ (s : ax_σ) (a1 : Int32), Inv none s → pr_ZL Inv none 1 (f_Z_word a1 s)) ∧
  (∀ (g : Nat) (s : ax_σ) (a1 : Int32), Inv (some g) s → (f_X_needIndex a1 (s.1 g 1 ((1 : Int32)).toNatClampNeg) = none ∧ (pr_ZL Inv (some g) 2 (f_Z_word a1 s))) ∨ (∃ r, f_X_word g a1 s = some r ∧ (pr_ZL Inv (some g) 0 (f_Z_word a1 (pr_o s (r)))))) ∧
  (∀ (s : ax_σ) (a1 : Int32), Inv none s → ∃ F2, pr_ZL Inv none 1 (f_Z_subkey F2 a1 s)) ∧
  (∀ (g : Nat) (s : ax_σ) (a1 : Int32), Inv (some g) s → (f_X_needIndex a1 (s.1 g 1 ((4 : Int32)).toNatClampNeg) = none ∧ (∃ F2, pr_ZL Inv (some g) 2 (f_Z_subkey F2 a1 s))) ∨ (∃ F r s1, f_X_subkey F g a1 s = some (r, s1) ∧ (∃ F2, pr_ZL Inv (some g) 0 (f_Z_subkey F2 a1 (pr_o s1 (r)))))) ∧
  (∀ (s : ax_σ) , Inv none s → ∃ F2, pr_Z Inv none 1 (f_Z_encrypt F2  s)) ∧
  (∀ (g : Nat) (s : ax_σ) , Inv (some g) s → (∃ F r s1, f_X_encrypt F g s = some (r, s1) ∧ (∃ F2, pr_Z Inv (some g) 0 (f_Z_encrypt F2  (pr_o s1 (r.toInt64)))))) ∧
  (∀ (s : ax_σ) , Inv none s → ∃ F2, pr_Z Inv none 1 (f_Z_decrypt F2  s)) ∧
  (∀ (g : Nat) (s : ax_σ) , Inv (some g) s → (∃ F r s1, f_X_decrypt F g s = some (r, s1) ∧ (∃ F2, pr_Z Inv (some g) 0 (f_Z_decrypt F2  (pr_o s1 (r.toInt64)))))) ∧
  (∀ (s : ax_σ) (a1 : Int32) (a2 : Int32), Inv none s → ∃ F2, pr_Z Inv none 1 (f_Z_apply F2 a1 a2 s)) ∧
  (∀ (g : Nat) (s : ax_σ) (a1 : Int32) (a2 : Int32), Inv (some g) s → ((a1 < 0 ∨ s.1 g 1 ((5 : Int32)).toNatClampNeg < a1 ∨ a2 < 0 ∨ s.1 g 1 ((5 : Int32)).toNatClampNeg < a2) ∧ (∃ F2, pr_Z Inv (some g) 2 (f_Z_apply F2 a1 a2 s))) ∨ (∃ F r s1, f_X_apply F g a1 a2 s = some (r, s1) ∧ (∃ F2, pr_Z Inv (some g) 0 (f_Z_apply F2 a1 a2 (pr_o s1 (r.toInt64))))))
theorem pr_OK.init {Inv : Option Nat → ax_σ → Prop} (h : pr_OK Inv) : Inv none (bx_μ.1, bx_μ.2.1) := h.1
theorem pr_OK.write {Inv : Option Nat → ax_σ → Prop} (h : pr_OK Inv) : ∀ ph s a, Inv ph s → ∃ F r s1 F2 s2, f_X_write F a s = some (r, s1) ∧ f_Z_write F2 a s1 = some (r, s2) ∧ Inv ph s2 := h.2.1
theorem pr_OK.wipe {Inv : Option Nat → ax_σ → Prop} (h : pr_OK Inv) : ∀ ph s, Inv ph s → ∃ r s1 s2, f_X_wipe s = some (r, s1) ∧ f_Z_wipe s1 = some (r, s2) ∧ Inv ph s2 := h.2.2.1
theorem pr_OK.place {Inv : Option Nat → ax_σ → Prop} (h : pr_OK Inv) : ∀ ph s, Inv ph s → ∃ r s2, f_X_place s = some r ∧ f_Z_place s = some (r, s2) ∧ Inv ph s2 := h.2.2.2.1
theorem pr_OK.print_0 {Inv : Option Nat → ax_σ → Prop} (h : pr_OK Inv) : ∀ s a, Inv none s → ∃ r s2, f_X_print_0 a = some r ∧ f_Z_print_I a s = some (r, s2) ∧ Inv none s2 := h.2.2.2.2.1
theorem pr_OK.print_1 {Inv : Option Nat → ax_σ → Prop} (h : pr_OK Inv) : ∀ g s a, Inv (some g) s → ∃ r s2, f_X_print_1 g a s = some r ∧ f_Z_print_I a s = some (r, s2) ∧ Inv (some g) s2 := h.2.2.2.2.2.1
theorem pr_OK.comp_0 {Inv : Option Nat → ax_σ → Prop} (h : pr_OK Inv) : ∀ s, Inv none s → ∃ F r s1, f_R_read F 0 (s.1 0 23 1) s = some (r, s1) ∧ ((¬ r = 0 ∧ ∃ F2 s2, f_Z_compile F2 (ax_wI s1 0 23 2 (s1.1 0 25 14)) = some (r, s2) ∧ Inv none s2) ∨ (r = 0 ∧ ∃ s2 F2 s3, f_M_load F 0 (bx_mixσ (ax_wI s1 0 23 2 (s1.1 0 25 14))) = some s2 ∧ f_Z_compile F2 s2 = some (0, s3) ∧ Inv (some 0) s3)) := h.2.2.2.2.2.2.1
theorem pr_OK.comp_1 {Inv : Option Nat → ax_σ → Prop} (h : pr_OK Inv) : ∀ g s, Inv (some g) s → ∃ F r s1, f_R_read F (1 - g) (s.1 0 23 1) s = some (r, s1) ∧ ((¬ r = 0 ∧ ∃ F2 s2, f_Z_compile F2 (ax_wI s1 0 23 2 (s1.1 0 25 14)) = some (r, s2) ∧ Inv (some g) s2) ∨ (r = 0 ∧ ∃ s2 F2 s3, f_M_load F (1 - g) (ax_wI s1 0 23 2 (s1.1 0 25 14)) = some s2 ∧ f_Z_compile F2 s2 = some (0, s3) ∧ Inv (some (1 - g)) s3)) := h.2.2.2.2.2.2.2.1
theorem pr_OK.number_0 {Inv : Option Nat → ax_σ → Prop} (h : pr_OK Inv) : ∀ (s : ax_σ) (a1 : Int32), Inv none s → pr_Z Inv none 1 (f_Z_number a1 s) := h.2.2.2.2.2.2.2.2.1
theorem pr_OK.number_1 {Inv : Option Nat → ax_σ → Prop} (h : pr_OK Inv) : ∀ (g : Nat) (s : ax_σ) (a1 : Int32), Inv (some g) s → ((a1 < 0 ∨ ¬ a1 < 8) ∧ (pr_Z Inv (some g) 2 (f_Z_number a1 s))) ∨ (∃ r, f_X_number g a1 s = some r ∧ (pr_Z Inv (some g) 0 (f_Z_number a1 (pr_o s (r.toInt64))))) := h.2.2.2.2.2.2.2.2.2.1
theorem pr_OK.table_0 {Inv : Option Nat → ax_σ → Prop} (h : pr_OK Inv) : ∀ (s : ax_σ) (a1 : Int32) (a2 : Int32) (a3 : Int32), Inv none s → ∃ F2, pr_Z Inv none 1 (f_Z_table F2 a1 a2 a3 s) := h.2.2.2.2.2.2.2.2.2.2.1
theorem pr_OK.table_1 {Inv : Option Nat → ax_σ → Prop} (h : pr_OK Inv) : ∀ (g : Nat) (s : ax_σ) (a1 : Int32) (a2 : Int32) (a3 : Int32), Inv (some g) s → (f_X_needIndex a1 (s.1 g 1 ((3 : Int32)).toNatClampNeg) = none ∧ (∃ F2, pr_Z Inv (some g) 2 (f_Z_table F2 a1 a2 a3 s))) ∨ (f_X_needIndex a1 (s.1 g 1 ((3 : Int32)).toNatClampNeg) = some () ∧ f_X_needIndex a2 16 = none ∧ (∃ F2, pr_Z Inv (some g) 2 (f_Z_table F2 a1 a2 a3 s))) ∨ (∃ r, f_X_table g a1 a2 a3 s = some r ∧ (∃ F2, pr_Z Inv (some g) 0 (f_Z_table F2 a1 a2 a3 (pr_o s (r.toInt64))))) := h.2.2.2.2.2.2.2.2.2.2.2.1
theorem pr_OK.key_0 {Inv : Option Nat → ax_σ → Prop} (h : pr_OK Inv) : ∀ (s : ax_σ) (a1 : Int32) (a2 : Int64), Inv none s → pr_ZL Inv none 1 (f_Z_key a1 a2 s) := h.2.2.2.2.2.2.2.2.2.2.2.2.1
theorem pr_OK.key_1 {Inv : Option Nat → ax_σ → Prop} (h : pr_OK Inv) : ∀ (g : Nat) (s : ax_σ) (a1 : Int32) (a2 : Int64), Inv (some g) s → (f_X_needIndex a1 (s.1 g 1 ((2 : Int32)).toNatClampNeg) = none ∧ (pr_ZL Inv (some g) 2 (f_Z_key a1 a2 s))) ∨ (f_X_needIndex a1 (s.1 g 1 ((2 : Int32)).toNatClampNeg) = some () ∧ f_X_needWord a2 s = none ∧ (pr_ZL Inv (some g) 3 (f_Z_key a1 a2 s))) ∨ (∃ r s1, f_X_key g a1 a2 s = some (r, s1) ∧ (pr_ZL Inv (some g) 0 (f_Z_key a1 a2 (pr_o s1 (r))))) := h.2.2.2.2.2.2.2.2.2.2.2.2.2.1
theorem pr_OK.state_0 {Inv : Option Nat → ax_σ → Prop} (h : pr_OK Inv) : ∀ (s : ax_σ) (a1 : Int32) (a2 : Int64), Inv none s → pr_ZL Inv none 1 (f_Z_state a1 a2 s) := h.2.2.2.2.2.2.2.2.2.2.2.2.2.2.1
theorem pr_OK.state_1 {Inv : Option Nat → ax_σ → Prop} (h : pr_OK Inv) : ∀ (g : Nat) (s : ax_σ) (a1 : Int32) (a2 : Int64), Inv (some g) s → (f_X_needIndex a1 (s.1 g 1 ((1 : Int32)).toNatClampNeg) = none ∧ (pr_ZL Inv (some g) 2 (f_Z_state a1 a2 s))) ∨ (f_X_needIndex a1 (s.1 g 1 ((1 : Int32)).toNatClampNeg) = some () ∧ f_X_needWord a2 s = none ∧ (pr_ZL Inv (some g) 3 (f_Z_state a1 a2 s))) ∨ (∃ r s1, f_X_state g a1 a2 s = some (r, s1) ∧ (pr_ZL Inv (some g) 0 (f_Z_state a1 a2 (pr_o s1 (r))))) := h.2.2.2.2.2.2.2.2.2.2.2.2.2.2.2.1
theorem pr_OK.keyWord_0 {Inv : Option Nat → ax_σ → Prop} (h : pr_OK Inv) : ∀ (s : ax_σ) (a1 : Int32), Inv none s → pr_ZL Inv none 1 (f_Z_keyWord a1 s) := h.2.2.2.2.2.2.2.2.2.2.2.2.2.2.2.2.1
theorem pr_OK.keyWord_1 {Inv : Option Nat → ax_σ → Prop} (h : pr_OK Inv) : ∀ (g : Nat) (s : ax_σ) (a1 : Int32), Inv (some g) s → (f_X_needIndex a1 (s.1 g 1 ((2 : Int32)).toNatClampNeg) = none ∧ (pr_ZL Inv (some g) 2 (f_Z_keyWord a1 s))) ∨ (∃ r, f_X_keyWord g a1 s = some r ∧ (pr_ZL Inv (some g) 0 (f_Z_keyWord a1 (pr_o s (r))))) := h.2.2.2.2.2.2.2.2.2.2.2.2.2.2.2.2.2.1
theorem pr_OK.word_0 {Inv : Option Nat → ax_σ → Prop} (h : pr_OK Inv) : ∀ (s : ax_σ) (a1 : Int32), Inv none s → pr_ZL Inv none 1 (f_Z_word a1 s) := h.2.2.2.2.2.2.2.2.2.2.2.2.2.2.2.2.2.2.1
theorem pr_OK.word_1 {Inv : Option Nat → ax_σ → Prop} (h : pr_OK Inv) : ∀ (g : Nat) (s : ax_σ) (a1 : Int32), Inv (some g) s → (f_X_needIndex a1 (s.1 g 1 ((1 : Int32)).toNatClampNeg) = none ∧ (pr_ZL Inv (some g) 2 (f_Z_word a1 s))) ∨ (∃ r, f_X_word g a1 s = some r ∧ (pr_ZL Inv (some g) 0 (f_Z_word a1 (pr_o s (r))))) := h.2.2.2.2.2.2.2.2.2.2.2.2.2.2.2.2.2.2.2.1
theorem pr_OK.subkey_0 {Inv : Option Nat → ax_σ → Prop} (h : pr_OK Inv) : ∀ (s : ax_σ) (a1 : Int32), Inv none s → ∃ F2, pr_ZL Inv none 1 (f_Z_subkey F2 a1 s) := h.2.2.2.2.2.2.2.2.2.2.2.2.2.2.2.2.2.2.2.2.1
theorem pr_OK.subkey_1 {Inv : Option Nat → ax_σ → Prop} (h : pr_OK Inv) : ∀ (g : Nat) (s : ax_σ) (a1 : Int32), Inv (some g) s → (f_X_needIndex a1 (s.1 g 1 ((4 : Int32)).toNatClampNeg) = none ∧ (∃ F2, pr_ZL Inv (some g) 2 (f_Z_subkey F2 a1 s))) ∨ (∃ F r s1, f_X_subkey F g a1 s = some (r, s1) ∧ (∃ F2, pr_ZL Inv (some g) 0 (f_Z_subkey F2 a1 (pr_o s1 (r))))) := h.2.2.2.2.2.2.2.2.2.2.2.2.2.2.2.2.2.2.2.2.2.1
theorem pr_OK.encrypt_0 {Inv : Option Nat → ax_σ → Prop} (h : pr_OK Inv) : ∀ (s : ax_σ) , Inv none s → ∃ F2, pr_Z Inv none 1 (f_Z_encrypt F2  s) := h.2.2.2.2.2.2.2.2.2.2.2.2.2.2.2.2.2.2.2.2.2.2.1
theorem pr_OK.encrypt_1 {Inv : Option Nat → ax_σ → Prop} (h : pr_OK Inv) : ∀ (g : Nat) (s : ax_σ) , Inv (some g) s → (∃ F r s1, f_X_encrypt F g s = some (r, s1) ∧ (∃ F2, pr_Z Inv (some g) 0 (f_Z_encrypt F2  (pr_o s1 (r.toInt64))))) := h.2.2.2.2.2.2.2.2.2.2.2.2.2.2.2.2.2.2.2.2.2.2.2.1
theorem pr_OK.decrypt_0 {Inv : Option Nat → ax_σ → Prop} (h : pr_OK Inv) : ∀ (s : ax_σ) , Inv none s → ∃ F2, pr_Z Inv none 1 (f_Z_decrypt F2  s) := h.2.2.2.2.2.2.2.2.2.2.2.2.2.2.2.2.2.2.2.2.2.2.2.2.1
theorem pr_OK.decrypt_1 {Inv : Option Nat → ax_σ → Prop} (h : pr_OK Inv) : ∀ (g : Nat) (s : ax_σ) , Inv (some g) s → (∃ F r s1, f_X_decrypt F g s = some (r, s1) ∧ (∃ F2, pr_Z Inv (some g) 0 (f_Z_decrypt F2  (pr_o s1 (r.toInt64))))) := h.2.2.2.2.2.2.2.2.2.2.2.2.2.2.2.2.2.2.2.2.2.2.2.2.2.1
theorem pr_OK.apply_0 {Inv : Option Nat → ax_σ → Prop} (h : pr_OK Inv) : ∀ (s : ax_σ) (a1 : Int32) (a2 : Int32), Inv none s → ∃ F2, pr_Z Inv none 1 (f_Z_apply F2 a1 a2 s) := h.2.2.2.2.2.2.2.2.2.2.2.2.2.2.2.2.2.2.2.2.2.2.2.2.2.2.1
theorem pr_OK.apply_1 {Inv : Option Nat → ax_σ → Prop} (h : pr_OK Inv) : ∀ (g : Nat) (s : ax_σ) (a1 : Int32) (a2 : Int32), Inv (some g) s → ((a1 < 0 ∨ s.1 g 1 ((5 : Int32)).toNatClampNeg < a1 ∨ a2 < 0 ∨ s.1 g 1 ((5 : Int32)).toNatClampNeg < a2) ∧ (∃ F2, pr_Z Inv (some g) 2 (f_Z_apply F2 a1 a2 s))) ∨ (∃ F r s1, f_X_apply F g a1 a2 s = some (r, s1) ∧ (∃ F2, pr_Z Inv (some g) 0 (f_Z_apply F2 a1 a2 (pr_o s1 (r.toInt64))))) := h.2.2.2.2.2.2.2.2.2.2.2.2.2.2.2.2.2.2.2.2.2.2.2.2.2.2.2
/-- the cells without and with the second program -/
def alA : List (Nat × Nat) := al_X ++ (al_Z ++ [(0, 37)])
theorem alA_m : ∀ r, r < 82 → (0, r) ∈ alA := by decide
theorem alA_0 : ∀ q ∈ alA, q.1 = 0 := by decide
theorem alA_M0 : ax_M0 alA := by
  intro r h
  unfold ax_mn at h
  simp only [Bool.and_eq_true] at h
  exact alA_m r (Nat.le_of_ble_eq_true h.2)
theorem alA_Mg : ax_Mg alA 0 := fun r h => alA_m r (Nat.lt_of_lt_of_le (Nat.le_of_ble_eq_true h) (by decide))
theorem alB_M0 : ax_M0 (alA ++ al_P 1) := fun r h => List.mem_append_left _ (alA_M0 r h)
theorem alB_Mg {g : Nat} (h : g < 2) : ax_Mg (alA ++ al_P 1) g := by
  intro r hr
  rcases (show g = 0 ∨ g = 1 by omega) with rfl | rfl
  · exact List.mem_append_left _ (alA_Mg r hr)
  · exact List.mem_append_right _ (al_P1' r (Nat.le_of_ble_eq_true hr))
/-- what holds at the head of the law's loop -/
def lw_I (Inv : Option Nat → ax_σ → Prop) (al : List (Nat × Nat)) (ρ : ax_ρ) (s : ax_σ) : Option Nat → Prop
  | none => Inv none s ∧ al = alA ∧ ρ 0 23 5 = none ∧ ρ 0 23 6 = some (0, 0) ∧ ∀ r k q, ρ 0 r k = some q → q.1 = 0
  | some g => Inv (some g) s ∧ al = alA ++ al_P 1 ∧ g < 2 ∧ ρ 0 23 5 = some (g, 0) ∧ ρ 0 23 6 = some (1 - g, 0) ∧ ax_md ρ g
theorem lw_I.M0 {Inv : Option Nat → ax_σ → Prop} {al : List (Nat × Nat)} {ρ : ax_ρ} {s : ax_σ} : ∀ {ph : Option Nat}, lw_I Inv al ρ s ph → ax_M0 al
  | none, h => by rw [h.2.1]; exact alA_M0
  | some _, h => by rw [h.2.1]; exact alB_M0
theorem lw_I.inv {Inv : Option Nat → ax_σ → Prop} {al : List (Nat × Nat)} {ρ : ax_ρ} {s : ax_σ} : ∀ {ph : Option Nat}, lw_I Inv al ρ s ph → Inv ph s
  | none, h => h.1
  | some _, h => h.1
theorem lw_I.to {Inv : Option Nat → ax_σ → Prop} {al : List (Nat × Nat)} {ρ : ax_ρ} {s s' : ax_σ} : ∀ {ph : Option Nat}, lw_I Inv al ρ s ph → Inv ph s' → lw_I Inv al ρ s' ph
  | none, h, h' => ⟨h', h.2⟩
  | some _, h, h' => ⟨h', h.2⟩
set_option maxHeartbeats 4000000 in
set_option maxRecDepth 100000 in
theorem lc_compileN {p : Program} {l : Launch} {e : Env} {R : Room} {st : State} {m : MethodId} {args : Array Value} {below : List Frame} {meth : Method} {c : Code} {Q : State → Prop} {A : Nat → Prop} {D : va_G} {cA : Nat → ClassId} {ad : Nat → Nat → Nat} {al al2 : List (Nat × Nat)} {θ : ax_Θ} {b cells slots : Nat} {i : Int32} {s : ax_σ} {ρ : ax_ρ} (hK : ax_K "CipherNotationLaw" code 8 ((p, l, e, R, st, m, args), (below, meth, c), (Q, A), (D, cA, ad, al, θ))) (hfr : 100 ≤ R.frames) (hlo : 8000 ≤ R.locals) (h0 : ax_M0 al) (h02 : ax_M0 al2) (hc : cells + 23 ≤ R.cells) (hs : slots + 3403 ≤ R.slots) {s1 : ax_σ} {ρ1 : ax_ρ} (hT : ax_N l D cA ad al θ y_X_compile (.code y_X_compile prog_1_method_4_code 3 (some .int)) 42 [.inr (0, 23)] (ax_m s ρ) al2 (some (.int 0)) (ax_m s1 ρ1)) {F : Nat} {s2 : ax_σ} (hz2 : f_Z_compile F s1 = some (0, s2)) (kk : ∀ ad2, ax_R ((p, l, e, R, st, m, args), (below, meth, c), (Q, A), (D, cA, ad2, al2, θ)) 8 (cells + 23) (slots + 3403) (904, [(4, .inl (.int (i))), (3, .inr (0, 37)), (2, .inr (0, 38)), (1, .inr (0, 23)), (0, .inl (.ref b))], [], ax_m s2 ρ1)) : ax_R ((p, l, e, R, st, m, args), (below, meth, c), (Q, A), (D, cA, ad, al, θ)) 8 cells slots (182, [(4, .inl (.int (i))), (3, .inr (0, 37)), (2, .inr (0, 38)), (1, .inr (0, 23)), (0, .inl (.ref b))], [], ax_m s ρ) := by
  refine ax_bk hK (ax_fc (ax_v_ld (ax_r_aload_n (i := 1) d_W_law_182 rfl)) ax_fn) (y := (183, [(4, .inl (.int (i))), (3, .inr (0, 37)), (2, .inr (0, 38)), (1, .inr (0, 23)), (0, .inl (.ref b))], [.inr (0, 23)], ax_m s ρ)) rfl ⟨trivial, trivial⟩ ?_
  refine ax_gN (rest := []) hK (Nat.le_trans (by decide) hfr) (Nat.le_trans (by decide) hlo) hT lcw_66 lim_66 lse_66 d_W_law_183 (h0 23 rfl) rfl rfl (by decide) rfl rfl (Nat.le_of_ble_eq_true rfl) hc hs (by simp) (by simp) (fun ad2 => ?_)
  have hK2 : ax_K "CipherNotationLaw" code 8 ((p, l, e, R, st, m, args), (below, meth, c), (Q, A), (D, cA, ad2, al2, θ)) := hK
  refine ax_bk hK2 (ax_fc (ax_v_ld (ax_r_aload_n (i := 2) d_W_law_186 rfl)) ax_fn) (y := (187, [(4, .inl (.int (i))), (3, .inr (0, 37)), (2, .inr (0, 38)), (1, .inr (0, 23)), (0, .inl (.ref b))], [.inr (0, 38), .inl (.int (0 : Int32))], ax_m s1 ρ1)) rfl ⟨trivial, trivial⟩ ?_
  refine ax_gV (rest := [.inl (.int (0 : Int32))]) hK2 (Nat.le_trans (by decide) hfr) (Nat.le_trans (by decide) hlo) (t_Z_compile h02 hz2) lcw_69 lim_69 lse_69 d_W_law_187 (h02 38 rfl) rfl rfl (by decide) rfl rfl (Nat.le_of_ble_eq_true rfl) hc hs ?_
  exact ax_ic_eq (tgt := 904) hK2 d_W_law_190 (by decide) (fun _ => kk ad2) (fun c9 => absurd rfl c9)
set_option maxHeartbeats 4000000 in
set_option maxRecDepth 100000 in
theorem law_turn {Inv : Option Nat → ax_σ → Prop} (hOK : pr_OK Inv) {p : Program} {l : Launch} {e : Env} {st : State} {m : MethodId} {below : List Frame} {meth : Method} {c : Code} {D : va_G} {cA : Nat → ClassId} {θ : ax_Θ} {b Ln : Nat} {xs : Nat → Int32} {ad : Nat → Nat → Nat} {al : List (Nat × Nat)} {cells slots k : Nat} {ph : Option Nat} {s : ax_σ} {ρ : ax_ρ} (hfl : l.flags = flags0) (hK : ax_K "CipherNotationLaw" code 8 ((p, l, e, room_1, st, m, #[Value.ref b]), (below, meth, c), (lw_Z below #[Value.ref b] st, fun q : Nat => st.heap.size ≤ q), (D, cA, ad, al, θ))) (hX : ax_scr b Ln xs ((p, l, e, room_1, st, m, #[Value.ref b]), (below, meth, c), (lw_Z below #[Value.ref b] st, fun q : Nat => st.heap.size ≤ q), (D, cA, ad, al, θ))) (hk1 : vp_in (nI (4 * k) + (1 : Int32)) Ln) (hk2 : vp_in (nI (4 * k) + (2 : Int32)) Ln) (hk3 : vp_in (nI (4 * k) + (3 : Int32)) Ln) (hI : lw_I Inv al ρ s ph) (hc : cells + 24 ≤ 601024) (hs : slots + 3500 ≤ 7293034) (x : Int32) (KE : ∀ (ph2 : Option Nat) (s2 : ax_σ) (ρ2 : ax_ρ) (ad2 : Nat → Nat → Nat) (al2 : List (Nat × Nat)) (c2 n2 : Nat), lw_I Inv al2 ρ2 s2 ph2 → c2 ≤ cells + 24 → n2 ≤ slots + 3500 → ax_R ((p, l, e, room_1, st, m, #[Value.ref b]), (below, meth, c), (lw_Z below #[Value.ref b] st, fun q : Nat => st.heap.size ≤ q), (D, cA, ad2, al2, θ)) 8 c2 n2 (904, [(4, .inl (.int (nI (4 * k)))), (3, .inr (0, 37)), (2, .inr (0, 38)), (1, .inr (0, 23)), (0, .inl (.ref b))], [], ax_m s2 ρ2)) : ax_R ((p, l, e, room_1, st, m, #[Value.ref b]), (below, meth, c), (lw_Z below #[Value.ref b] st, fun q : Nat => st.heap.size ≤ q), (D, cA, ad, al, θ)) 8 cells slots (39, [(4, .inl (.int (nI (4 * k)))), (3, .inr (0, 37)), (2, .inr (0, 38)), (1, .inr (0, 23)), (0, .inl (.ref b))], [.inl (.int x)], ax_m s ρ) := by
  have h0 := hI.M0
  have hR : room_1.cells = 601024 ∧ room_1.slots = 7293034 := ⟨rfl, rfl⟩
  have hfr : 100 ≤ room_1.frames := by decide
  have hlo : 8000 ≤ room_1.locals := by decide
  refine ax_tsw (d := 904) (ks := [(0, 112), (1, 169), (2, 182), (3, 195), (4, 208), (5, 264), (6, 289), (7, 385), (8, 484), (9, 583), (10, 638), (11, 693), (12, 748), (13, 792), (14, 836)]) hK d_W_law_39 (by decide) (by decide) (by decide) ?_
  have hc0 : cells ≤ room_1.cells := by rw [hR.1]; omega
  have hs0 : slots ≤ room_1.slots := by rw [hR.2]; omega
  have hc1 : cells + 1 ≤ room_1.cells := by rw [hR.1]; omega
  have hs1 : slots + 6 ≤ room_1.slots := by rw [hR.2]; omega
  refine ⟨fun _ => ?_, fun _ => ?_⟩
  · obtain ⟨F, r, s1, F2, s2, e1, e2, e3⟩ := hOK.write ph s _ hI.inv
    exact lc_write hK hfr hlo hX h0 hc0 hs0 hk1 hk2 (ρ1 := ρ) (t_X_write h0 e1) e2 (KE ph s2 ρ ad al cells slots (hI.to e3) (by omega) (by omega))
  refine ⟨fun _ => ?_, fun _ => ?_⟩
  · obtain ⟨r, s1, s2, e1, e2, e3⟩ := hOK.wipe ph s hI.inv
    exact lc_wipe hK hfr hlo hX h0 hc0 hs0 (ρ1 := ρ) (t_X_wipe h0 e1) (F := 0) e2 (KE ph s2 ρ ad al cells slots (hI.to e3) (by omega) (by omega))
  refine ⟨fun _ => ?_, fun _ => ?_⟩
  · cases ph with
    | none =>
      obtain ⟨F, r, s1, e1, e2⟩ := hOK.comp_0 s hI.1
      obtain ⟨hi1, rfl, hi3, hi4, hi5⟩ := hI
      rcases e2 with ⟨hr, F2, s2, e3, e4⟩ | ⟨rfl, s2, F2, s3, e3, e4, e5⟩
      · exact lc_compile hK hfr hlo hX h0 hc0 hs0 (t_X_compile_f h0 alA_Mg hi4 e1 hr) e3 (KE none s2 _ ad alA cells slots ⟨e4, rfl, by simp [ax_uR]; exact hi3, by simp [ax_uR]; exact hi4, ax_uRq rfl (ax_uRq rfl (ax_uRq rfl hi5))⟩ (by omega) (by omega))
      · refine lc_compileN hK hfr hlo h0 alB_M0 (by rw [hR.1]; omega) (by rw [hR.2]; omega) (t_X_compile_0 h0 alA_Mg alA_0 hi5 hi4 hi3 e1 e3) e4 (fun ad2 => KE (some 0) s3 _ ad2 (alA ++ al_P 1) (cells + 23) (slots + 3403) ⟨e5, rfl, by decide, ?_, ?_, ax_md3⟩ (by omega) (by omega))
        · simp [ax_uR, bx_mix, ax_m]
        · simp [ax_uR]
    | some g =>
      obtain ⟨F, r, s1, e1, e2⟩ := hOK.comp_1 g s hI.1
      obtain ⟨hi1, rfl, hi3, hi4, hi5, hi6⟩ := hI
      have hg1 : ax_Mg (alA ++ al_P 1) (1 - g) := alB_Mg (by omega)
      rcases e2 with ⟨hr, F2, s2, e3, e4⟩ | ⟨rfl, s2, F2, s3, e3, e4, e5⟩
      · exact lc_compile hK hfr hlo hX h0 hc0 hs0 (t_X_compile_f h0 hg1 hi5 e1 hr) e3 (KE (some g) s2 _ ad (alA ++ al_P 1) cells slots ⟨e4, rfl, hi3, by simp [ax_uR]; exact hi4, by simp [ax_uR]; exact hi5, ⟨by simp [ax_uR]; exact hi6.1, by simp [ax_uR]; exact hi6.2.1, by simp [ax_uR]; exact hi6.2.2⟩⟩ (by omega) (by omega))
      · exact lc_compile hK hfr hlo hX h0 hc0 hs0 (t_X_compile_1 h0 hg1 hi5 hi4 e1 e3) e4 (KE (some (1 - g)) s3 _ ad (alA ++ al_P 1) cells slots ⟨e5, rfl, by omega, by simp [ax_uR], by simp [ax_uR]; omega, ax_md3⟩ (by omega) (by omega))
  refine ⟨fun _ => ?_, fun _ => ?_⟩
  · obtain ⟨r, s2, e1, e2, e3⟩ := hOK.place ph s hI.inv
    exact lc_place hK hfr hlo hX h0 hc0 hs0 (ρ1 := ρ) (t_X_place h0 e1) (F := 0) e2 (KE ph s2 ρ ad al cells slots (hI.to e3) (by omega) (by omega))
  refine ⟨fun _ => ?_, fun _ => ?_⟩
  · cases ph with
    | none =>
      obtain ⟨b0, s2, e2, e3, e4, e5⟩ := hOK.number_0 s _ hI.1
      exact lc_number hK hfr hlo hX h0 hc1 hs1 hk1 (x_W_number_0 (g := 0) hfl h0 hI.2.2.1) (F := 0) e2 e3 e4 (KE none s2 ρ ad al (cells + 1) (slots + 6) (hI.to e5) (by omega) (by omega))
    | some g =>
      have hg : ax_Mg al g := by rw [hI.2.1]; exact alB_Mg hI.2.2.1
      rcases hOK.number_1 g s _ hI.1 with ⟨h, b0, s2, e2, e3, e4, e5⟩ | ⟨r, e1, b0, s2, e2, e3, e4, e5⟩
      · exact lc_number hK hfr hlo hX h0 hc1 hs1 hk1 (x_W_number_1 hfl h0 hg hI.2.2.2.1 h) (F := 0) e2 e3 e4 (KE (some g) s2 ρ ad al (cells + 1) (slots + 6) (hI.to e5) (by omega) (by omega))
      · exact lc_number hK hfr hlo hX h0 hc1 hs1 hk1 (t_W_number h0 hg hI.2.2.2.2.2 hI.2.2.2.1 e1) (F := 0) e2 e3 e4 (KE (some g) s2 ρ ad al (cells + 1) (slots + 6) (hI.to e5) (by omega) (by omega))
  refine ⟨fun _ => ?_, fun _ => ?_⟩
  · cases ph with
    | none =>
      obtain ⟨r, s2, e1, e2, e3⟩ := hOK.print_0 s _ hI.1
      exact lc_print hK hfr hlo hX h0 hc0 hs0 hk1 (ρ1 := ρ) (t_X_print_0 h0 hI.2.2.1 e1) (F := 0) e2 (KE none s2 ρ ad al cells slots (hI.to e3) (by omega) (by omega))
    | some g =>
      obtain ⟨r, s2, e1, e2, e3⟩ := hOK.print_1 g s _ hI.1
      have hg : ax_Mg al g := by rw [hI.2.1]; exact alB_Mg hI.2.2.1
      exact lc_print hK hfr hlo hX h0 hc0 hs0 hk1 (ρ1 := ρ) (t_X_print_1 h0 hg hI.2.2.2.1 e1) (F := 0) e2 (KE (some g) s2 ρ ad al cells slots (hI.to e3) (by omega) (by omega))
  refine ⟨fun _ => ?_, fun _ => ?_⟩
  · obtain ⟨z, hz0, hz1⟩ : ∃ z : Int32, ((xs ((nI (4 * k) + (3 : Int32))).toNatClampNeg) = 0 → z = 0) ∧ (¬ (xs ((nI (4 * k) + (3 : Int32))).toNatClampNeg) = 0 → z = 1) := by
      by_cases h9 : (xs ((nI (4 * k) + (3 : Int32))).toNatClampNeg) = 0
      · exact ⟨0, fun _ => rfl, fun h => absurd h9 h⟩
      · exact ⟨1, fun h => absurd h h9, fun _ => rfl⟩
    cases ph with
    | none =>
      obtain ⟨F2, b0, s2, e2, e3, e4, e5⟩ := hOK.table_0 s _ _ z hI.1
      exact lc_table hK hfr hlo hX h0 hc1 hs1 hk1 hk2 hk3 hz0 hz1 (x_W_table_0 (g := 0) hfl h0 hI.2.2.1) (F := F2) e2 e3 e4 (KE none s2 ρ ad al (cells + 1) (slots + 6) (hI.to e5) (by omega) (by omega))
    | some g =>
      have hg : ax_Mg al g := by rw [hI.2.1]; exact alB_Mg hI.2.2.1
      rcases hOK.table_1 g s _ _ z hI.1 with ⟨h, F2, b0, s2, e2, e3, e4, e5⟩ | ⟨h1, h, F2, b0, s2, e2, e3, e4, e5⟩ | ⟨r, e1, F2, b0, s2, e2, e3, e4, e5⟩
      · exact lc_table hK hfr hlo hX h0 hc1 hs1 hk1 hk2 hk3 hz0 hz1 (x_W_table_1 hfl h0 hg hI.2.2.2.1 h) (F := F2) e2 e3 e4 (KE (some g) s2 ρ ad al (cells + 1) (slots + 6) (hI.to e5) (by omega) (by omega))
      · exact lc_table hK hfr hlo hX h0 hc1 hs1 hk1 hk2 hk3 hz0 hz1 (x_W_table_2 hfl h0 hg hI.2.2.2.1 h1 h) (F := F2) e2 e3 e4 (KE (some g) s2 ρ ad al (cells + 1) (slots + 6) (hI.to e5) (by omega) (by omega))
      · exact lc_table hK hfr hlo hX h0 hc1 hs1 hk1 hk2 hk3 hz0 hz1 (t_W_table h0 hg hI.2.2.2.2.2 hI.2.2.2.1 e1) (F := F2) e2 e3 e4 (KE (some g) s2 ρ ad al (cells + 1) (slots + 6) (hI.to e5) (by omega) (by omega))
  refine ⟨fun _ => ?_, fun _ => ?_⟩
  · cases ph with
    | none =>
      obtain ⟨b0, s2, e2, e3, e4, e5⟩ := hOK.key_0 s _ _ hI.1
      exact lc_key hK hfr hlo hX h0 hc1 hs1 hk1 hk2 hk3 (x_W_key_0 (g := 0) hfl h0 hI.2.2.1) (F := 0) e2 e3 e4 (KE none s2 ρ ad al (cells + 1) (slots + 6) (hI.to e5) (by omega) (by omega))
    | some g =>
      have hg : ax_Mg al g := by rw [hI.2.1]; exact alB_Mg hI.2.2.1
      rcases hOK.key_1 g s _ _ hI.1 with ⟨h, b0, s2, e2, e3, e4, e5⟩ | ⟨h1, h, b0, s2, e2, e3, e4, e5⟩ | ⟨r, s1, e1, b0, s2, e2, e3, e4, e5⟩
      · exact lc_key hK hfr hlo hX h0 hc1 hs1 hk1 hk2 hk3 (x_W_key_1 hfl h0 hg hI.2.2.2.1 h) (F := 0) e2 e3 e4 (KE (some g) s2 ρ ad al (cells + 1) (slots + 6) (hI.to e5) (by omega) (by omega))
      · exact lc_key hK hfr hlo hX h0 hc1 hs1 hk1 hk2 hk3 (x_W_key_2 hfl h0 hg hI.2.2.2.1 h1 h) (F := 0) e2 e3 e4 (KE (some g) s2 ρ ad al (cells + 1) (slots + 6) (hI.to e5) (by omega) (by omega))
      · exact lc_key hK hfr hlo hX h0 hc1 hs1 hk1 hk2 hk3 (t_W_key h0 hg hI.2.2.2.2.2 hI.2.2.2.1 e1) (F := 0) e2 e3 e4 (KE (some g) s2 ρ ad al (cells + 1) (slots + 6) (hI.to e5) (by omega) (by omega))
  refine ⟨fun _ => ?_, fun _ => ?_⟩
  · cases ph with
    | none =>
      obtain ⟨b0, s2, e2, e3, e4, e5⟩ := hOK.state_0 s _ _ hI.1
      exact lc_state hK hfr hlo hX h0 hc1 hs1 hk1 hk2 hk3 (x_W_state_0 (g := 0) hfl h0 hI.2.2.1) (F := 0) e2 e3 e4 (KE none s2 ρ ad al (cells + 1) (slots + 6) (hI.to e5) (by omega) (by omega))
    | some g =>
      have hg : ax_Mg al g := by rw [hI.2.1]; exact alB_Mg hI.2.2.1
      rcases hOK.state_1 g s _ _ hI.1 with ⟨h, b0, s2, e2, e3, e4, e5⟩ | ⟨h1, h, b0, s2, e2, e3, e4, e5⟩ | ⟨r, s1, e1, b0, s2, e2, e3, e4, e5⟩
      · exact lc_state hK hfr hlo hX h0 hc1 hs1 hk1 hk2 hk3 (x_W_state_1 hfl h0 hg hI.2.2.2.1 h) (F := 0) e2 e3 e4 (KE (some g) s2 ρ ad al (cells + 1) (slots + 6) (hI.to e5) (by omega) (by omega))
      · exact lc_state hK hfr hlo hX h0 hc1 hs1 hk1 hk2 hk3 (x_W_state_2 hfl h0 hg hI.2.2.2.1 h1 h) (F := 0) e2 e3 e4 (KE (some g) s2 ρ ad al (cells + 1) (slots + 6) (hI.to e5) (by omega) (by omega))
      · exact lc_state hK hfr hlo hX h0 hc1 hs1 hk1 hk2 hk3 (t_W_state h0 hg hI.2.2.2.2.2 hI.2.2.2.1 e1) (F := 0) e2 e3 e4 (KE (some g) s2 ρ ad al (cells + 1) (slots + 6) (hI.to e5) (by omega) (by omega))
  refine ⟨fun _ => ?_, fun _ => ?_⟩
  · cases ph with
    | none =>
      obtain ⟨b0, s2, e2, e3, e4, e5⟩ := hOK.keyWord_0 s _ hI.1
      exact lc_keyWord hK hfr hlo hX h0 hc1 hs1 hk1 (x_W_keyWord_0 (g := 0) hfl h0 hI.2.2.1) (F := 0) e2 e3 e4 (KE none s2 ρ ad al (cells + 1) (slots + 6) (hI.to e5) (by omega) (by omega))
    | some g =>
      have hg : ax_Mg al g := by rw [hI.2.1]; exact alB_Mg hI.2.2.1
      rcases hOK.keyWord_1 g s _ hI.1 with ⟨h, b0, s2, e2, e3, e4, e5⟩ | ⟨r, e1, b0, s2, e2, e3, e4, e5⟩
      · exact lc_keyWord hK hfr hlo hX h0 hc1 hs1 hk1 (x_W_keyWord_1 hfl h0 hg hI.2.2.2.1 h) (F := 0) e2 e3 e4 (KE (some g) s2 ρ ad al (cells + 1) (slots + 6) (hI.to e5) (by omega) (by omega))
      · exact lc_keyWord hK hfr hlo hX h0 hc1 hs1 hk1 (t_W_keyWord h0 hg hI.2.2.2.2.2 hI.2.2.2.1 e1) (F := 0) e2 e3 e4 (KE (some g) s2 ρ ad al (cells + 1) (slots + 6) (hI.to e5) (by omega) (by omega))
  refine ⟨fun _ => ?_, fun _ => ?_⟩
  · cases ph with
    | none =>
      obtain ⟨b0, s2, e2, e3, e4, e5⟩ := hOK.word_0 s _ hI.1
      exact lc_word hK hfr hlo hX h0 hc1 hs1 hk1 (x_W_word_0 (g := 0) hfl h0 hI.2.2.1) (F := 0) e2 e3 e4 (KE none s2 ρ ad al (cells + 1) (slots + 6) (hI.to e5) (by omega) (by omega))
    | some g =>
      have hg : ax_Mg al g := by rw [hI.2.1]; exact alB_Mg hI.2.2.1
      rcases hOK.word_1 g s _ hI.1 with ⟨h, b0, s2, e2, e3, e4, e5⟩ | ⟨r, e1, b0, s2, e2, e3, e4, e5⟩
      · exact lc_word hK hfr hlo hX h0 hc1 hs1 hk1 (x_W_word_1 hfl h0 hg hI.2.2.2.1 h) (F := 0) e2 e3 e4 (KE (some g) s2 ρ ad al (cells + 1) (slots + 6) (hI.to e5) (by omega) (by omega))
      · exact lc_word hK hfr hlo hX h0 hc1 hs1 hk1 (t_W_word h0 hg hI.2.2.2.2.2 hI.2.2.2.1 e1) (F := 0) e2 e3 e4 (KE (some g) s2 ρ ad al (cells + 1) (slots + 6) (hI.to e5) (by omega) (by omega))
  refine ⟨fun _ => ?_, fun _ => ?_⟩
  · cases ph with
    | none =>
      obtain ⟨F2, b0, s2, e2, e3, e4, e5⟩ := hOK.subkey_0 s _ hI.1
      exact lc_subkey hK hfr hlo hX h0 hc1 hs1 hk1 (x_W_subkey_0 (g := 0) hfl h0 hI.2.2.1) (F := F2) e2 e3 e4 (KE none s2 ρ ad al (cells + 1) (slots + 6) (hI.to e5) (by omega) (by omega))
    | some g =>
      have hg : ax_Mg al g := by rw [hI.2.1]; exact alB_Mg hI.2.2.1
      rcases hOK.subkey_1 g s _ hI.1 with ⟨h, F2, b0, s2, e2, e3, e4, e5⟩ | ⟨F, r, s1, e1, F2, b0, s2, e2, e3, e4, e5⟩
      · exact lc_subkey hK hfr hlo hX h0 hc1 hs1 hk1 (x_W_subkey_1 hfl h0 hg hI.2.2.2.1 h) (F := F2) e2 e3 e4 (KE (some g) s2 ρ ad al (cells + 1) (slots + 6) (hI.to e5) (by omega) (by omega))
      · exact lc_subkey hK hfr hlo hX h0 hc1 hs1 hk1 (t_W_subkey h0 hg hI.2.2.2.2.2 hI.2.2.2.1 e1) (F := F2) e2 e3 e4 (KE (some g) s2 ρ ad al (cells + 1) (slots + 6) (hI.to e5) (by omega) (by omega))
  refine ⟨fun _ => ?_, fun _ => ?_⟩
  · cases ph with
    | none =>
      obtain ⟨F2, b0, s2, e2, e3, e4, e5⟩ := hOK.encrypt_0 s  hI.1
      exact lc_encrypt hK hfr hlo hX h0 hc1 hs1  (x_W_encrypt_0 (g := 0) hfl h0 hI.2.2.1) (F := F2) e2 e3 e4 (KE none s2 ρ ad al (cells + 1) (slots + 6) (hI.to e5) (by omega) (by omega))
    | some g =>
      have hg : ax_Mg al g := by rw [hI.2.1]; exact alB_Mg hI.2.2.1
      obtain ⟨F, r, s1, e1, F2, b0, s2, e2, e3, e4, e5⟩ := hOK.encrypt_1 g s  hI.1
      exact lc_encrypt hK hfr hlo hX h0 hc1 hs1  (t_W_encrypt h0 hg hI.2.2.2.2.2 hI.2.2.2.1 e1) (F := F2) e2 e3 e4 (KE (some g) s2 ρ ad al (cells + 1) (slots + 6) (hI.to e5) (by omega) (by omega))
  refine ⟨fun _ => ?_, fun _ => ?_⟩
  · cases ph with
    | none =>
      obtain ⟨F2, b0, s2, e2, e3, e4, e5⟩ := hOK.decrypt_0 s  hI.1
      exact lc_decrypt hK hfr hlo hX h0 hc1 hs1  (x_W_decrypt_0 (g := 0) hfl h0 hI.2.2.1) (F := F2) e2 e3 e4 (KE none s2 ρ ad al (cells + 1) (slots + 6) (hI.to e5) (by omega) (by omega))
    | some g =>
      have hg : ax_Mg al g := by rw [hI.2.1]; exact alB_Mg hI.2.2.1
      obtain ⟨F, r, s1, e1, F2, b0, s2, e2, e3, e4, e5⟩ := hOK.decrypt_1 g s  hI.1
      exact lc_decrypt hK hfr hlo hX h0 hc1 hs1  (t_W_decrypt h0 hg hI.2.2.2.2.2 hI.2.2.2.1 e1) (F := F2) e2 e3 e4 (KE (some g) s2 ρ ad al (cells + 1) (slots + 6) (hI.to e5) (by omega) (by omega))
  refine ⟨fun _ => ?_, fun _ => ?_⟩
  · cases ph with
    | none =>
      obtain ⟨F2, b0, s2, e2, e3, e4, e5⟩ := hOK.apply_0 s _ _ hI.1
      exact lc_apply hK hfr hlo hX h0 hc1 hs1 hk1 hk2 (x_W_apply_0 (g := 0) hfl h0 hI.2.2.1) (F := F2) e2 e3 e4 (KE none s2 ρ ad al (cells + 1) (slots + 6) (hI.to e5) (by omega) (by omega))
    | some g =>
      have hg : ax_Mg al g := by rw [hI.2.1]; exact alB_Mg hI.2.2.1
      rcases hOK.apply_1 g s _ _ hI.1 with ⟨h, F2, b0, s2, e2, e3, e4, e5⟩ | ⟨F, r, s1, e1, F2, b0, s2, e2, e3, e4, e5⟩
      · exact lc_apply hK hfr hlo hX h0 hc1 hs1 hk1 hk2 (x_W_apply_1 hfl h0 hg hI.2.2.2.1 h) (F := F2) e2 e3 e4 (KE (some g) s2 ρ ad al (cells + 1) (slots + 6) (hI.to e5) (by omega) (by omega))
      · exact lc_apply hK hfr hlo hX h0 hc1 hs1 hk1 hk2 (t_W_apply h0 hg hI.2.2.2.2.2 hI.2.2.2.1 e1) (F := F2) e2 e3 e4 (KE (some g) s2 ρ ad al (cells + 1) (slots + 6) (hI.to e5) (by omega) (by omega))
  exact KE ph s ρ ad al cells slots hI (by omega) (by omega)
