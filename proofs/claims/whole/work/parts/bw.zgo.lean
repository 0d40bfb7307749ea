/-! PURE: a run, the reference's -/
section
variable {D : Ds} {A K S : Nat → Int64} {en : Nat → Nat → Nat → Int32}
/-- what the reference's steps need -/
def CZ (D : Ds) (en : Nat → Nat → Nat → Int32) (K S : Nat → Int64) (s : ax_σ) : Prop := MZ D s ∧ (∀ k, k < 4 → s.2 0 79 k = K k) ∧ (∀ k, k < tot D → s.2 0 81 k = S k) ∧ (∀ u d k, u < (dT D).length → d < 2 → k < 16 → zEn u d s k = en u d k)
theorem zEn_k {u d : Nat} {s s' : ax_σ} (h : ∀ k, s'.1 0 43 k = s.1 0 43 k) (k : Nat) : zEn u d s' k = zEn u d s k := by
  unfold zEn
  rw [h, show (fun k => s'.1 0 43 (16 * u + k)) = (fun k => s.1 0 43 (16 * u + k)) from funext (fun k => h _)]
theorem CZ.keep {s s' : ax_σ} (h : CZ D en K S s) (hf : frm XZs s s') : CZ D en K S s' := by
  obtain ⟨h1, h2, h3, h4⟩ := h
  exact ⟨h1.keep hf (fun g' r k hQ => by unfold XZs at hQ; omega), fun k hk => (hf.2 _ _ _ (by unfold XZs; omega)).trans (h2 k hk), fun k hk => (hf.2 _ _ _ (by unfold XZs; omega)).trans (h3 k hk), fun u d k hu hd hk => (zEn_k (fun k => hf.1 _ _ _ (by unfold XZs; omega)) k).trans (h4 u d k hu hd hk)⟩
theorem z_st {F d p : Nat} {s : ax_σ} (hF : 241 ≤ F) (h : SD D) (hd : d < 2) (hp : p < (trS D).length) (hen : enOK D en) (hw : wOK D A K S) (hC : CZ D en K S s) (hA : ∀ k, k < 4 → s.2 0 80 k = A k) : ∃ s', f_Z_doStep F (nI p) (nI d) s = some s' ∧ (∀ k, k < 4 → s'.2 0 80 k = stP D en K S d p A k) ∧ frm XZs s s' := by
  obtain ⟨n1, n2, n3, -, n5, n6, n7, n8, n9⟩ := h.nums
  obtain ⟨hM, hK, hS, ht⟩ := hC
  have hZ := hM.1
  have hwd := hM.w
  obtain ⟨-, RW, RS, -, ⟨r1, r3⟩, -, ⟨r2, r4⟩, -⟩ := id hM
  have r2 : RS.length = (trS D).length := r2
  have he : (trS D)[p]? = some (trS D)[p] := List.getElem?_eq_getElem hp
  generalize (trS D)[p] = e at he
  have hx : RS[p]? = some (RS[p]'(by omega)) := List.getElem?_eq_getElem (by omega)
  generalize RS[p]'(by omega) = x at hx
  obtain ⟨x1, x2, x3, x4, x5⟩ := r4 p x e hx he
  obtain ⟨y1, y2, y3⟩ := r3 p x hx (by show p < 400; omega)
  have y1 : s.1 0 71 p = nI x.1 := y1
  have y2 : s.1 0 72 p = nI x.2.1 := y2
  have y3 : s.1 0 73 p = nI x.2.2 := y3
  obtain ⟨t, pb, sk, a1, a2, a3, a4, a5, a6, a7⟩ := h.st he
  have hE := ev_f (e := e) (i := x.2.1) (j := x.2.2) (M := fun k => s.2 0 81 k) hw hS x2 x3 x4 x5
  have hE' := ev_f (e := e) (i := e.2.2.1) (j := e.2.2.2.1) (M := S) hw (fun _ _ => rfl) (fun _ => rfl) (fun _ => rfl) (by omega) (by omega)
  have hg := gt_of h a5 hE hen
  obtain ⟨s', b1, b2, b3⟩ := z_dostep (F := F) (p := p) (th := e.1) (d := d) (E := (D.1.1, A, K, fun k => s.2 0 81 k, x.2.1, x.2.2)) (t := t) (en := en) (s := s) hF n5 x4 x5 hd (by omega) hw.1 hg (hZ.zv n8 a1) (by rw [y1, x1]) y2 y3 ⟨hwd, hA, hK, fun _ _ => rfl⟩ (fun h11 k hk => by
    have hu : thv t < (dT D).length := by
      rcases a5.2 with ⟨e, -⟩ | ⟨e, -⟩ | ⟨e, -⟩ | ⟨e, -⟩ | ⟨-, e, -⟩ | ⟨e, -⟩
      · omega
      · omega
      · omega
      · omega
      · exact e
      · omega
    exact ht _ d k hu hd hk)
  refine ⟨s', b1, fun k hk => ?_, b3⟩
  rw [b2 k hk, stP_t he a1, stA_cg (E := (D.1.1, A, K, fun k => s.2 0 81 k, x.2.1, x.2.2)) (E' := (D.1.1, A, K, S, e.2.2.1, e.2.2.2.1)) rfl rfl (fun hk => by
    rcases a5.2 with ⟨-, -, -, e3⟩ | ⟨e, -⟩ | ⟨e, -⟩ | ⟨e, -⟩ | ⟨e, -⟩ | ⟨e, -⟩
    · exact ex_eq e3 hE hE' n6 n7 (fun _ _ => rfl) (fun _ _ => rfl) hS
    · omega
    · omega
    · omega
    · omega
    · omega)]
theorem MZ.n {s : ax_σ} (h : MZ D s) : s.1 0 38 59 = nI (trS D).length := by
  obtain ⟨-, RW, RS, -, ⟨r1, -⟩, -, ⟨r2, -⟩, -⟩ := h
  have r1 : s.1 0 38 59 = nI RS.length := r1
  rw [r1, r2]
  rfl
theorem z_f31 {F : Nat} (hF : 241 ≤ F) (h : SD D) (hen : enOK D en) : ∀ (m q n : Nat) (s : ax_σ) (A : Nat → Int64), wOK D A K S → m < n → q + m = (trS D).length → CZ D en K S s → (∀ k, k < 4 → s.2 0 80 k = A k) → ∃ s', lp_Z_encrypt_31 F n (nI q) s = some s' ∧ (∀ k, k < 4 → s'.2 0 80 k = rnF D en K S m q A k) ∧ frm XZs s s'
  | _, _, 0, _, _, _, h, _, _, _ => absurd h (Nat.not_lt_zero _)
  | 0, q, n + 1, s, A, _, _, hq, hC, hA => by
    obtain ⟨n1, n2, n3, -⟩ := h.nums
    refine ⟨s, ?_, hA, frm.refl⟩
    rw [lp_Z_encrypt_31, hC.1.n, if_pos (by rw [nI_leI (by omega) (by omega)]; omega)]
  | m + 1, q, n + 1, s, A, hw, hn, hq, hC, hA => by
    obtain ⟨n1, n2, n3, -⟩ := h.nums
    obtain ⟨s1, v1, v2, v3⟩ := z_st (F := F) (d := 0) (p := q) hF h (by omega) (by omega) hen hw hC hA
    obtain ⟨s', b1, b2, b3⟩ := z_f31 hF h hen m (q + 1) n s1 _ (stP_bW h (by omega) hen hw) (by omega) (by omega) (hC.keep v3) v2
    refine ⟨s', ?_, b2, v3.trans b3⟩
    have v1 : f_Z_doStep F (nI q) (0 : Int32) s = some s1 := v1
    rw [lp_Z_encrypt_31, hC.1.n, if_neg (by rw [nI_leI (by omega) (by omega)]; omega), v1, Option.bind_some, c_1, nI_add, b1]
theorem z_f59 {F b : Nat} {a1 : Int32} (hF : 241 ≤ F) (h : SD D) (hen : enOK D en) : ∀ (m q n : Nat) (s : ax_σ) (A : Nat → Int64), wOK D A K S → m < n → q + m ≤ (trS D).length → (b = q + m ∨ (m = 0 ∧ b ≤ q)) → CZ D en K S s → (∀ k, k < 4 → s.2 0 80 k = A k) → ∃ s', lp_Z_apply_59 F a1 (nI b) n (nI q) s = some s' ∧ (∀ k, k < 4 → s'.2 0 80 k = rnF D en K S m q A k) ∧ frm XZs s s'
  | _, _, 0, _, _, _, h, _, _, _, _ => absurd h (Nat.not_lt_zero _)
  | 0, q, n + 1, s, A, _, _, hq, hb, hC, hA => by
    obtain ⟨n1, n2, n3, -⟩ := h.nums
    refine ⟨s, ?_, hA, frm.refl⟩
    rw [lp_Z_apply_59, if_pos (by rw [nI_leI (by omega) (by omega)]; omega)]
  | m + 1, q, n + 1, s, A, hw, hn, hq, hb, hC, hA => by
    obtain ⟨n1, n2, n3, -⟩ := h.nums
    obtain ⟨s1, v1, v2, v3⟩ := z_st (F := F) (d := 0) (p := q) hF h (by omega) (by omega) hen hw hC hA
    obtain ⟨s', b1, b2, b3⟩ := z_f59 (b := b) (a1 := a1) hF h hen m (q + 1) n s1 _ (stP_bW h (by omega) hen hw) (by omega) (by omega) (by omega) (hC.keep v3) v2
    refine ⟨s', ?_, b2, v3.trans b3⟩
    have v1 : f_Z_doStep F (nI q) (0 : Int32) s = some s1 := v1
    rw [lp_Z_apply_59, if_neg (by rw [nI_leI (by omega) (by omega)]; omega), v1, Option.bind_some, c_1, nI_add, b1]
theorem z_b80 {F b : Nat} {a1 : Int32} (hF : 241 ≤ F) (h : SD D) (hen : enOK D en) : ∀ (m q n : Nat) (s : ax_σ) (A : Nat → Int64), wOK D A K S → m < n → q ≤ (trS D).length → b < 2 ^ 30 → (q = b + m ∨ (m = 0 ∧ q ≤ b)) → CZ D en K S s → (∀ k, k < 4 → s.2 0 80 k = A k) → ∃ s', lp_Z_apply_80 F a1 (nI b) n (nI q - 1) s = some s' ∧ (∀ k, k < 4 → s'.2 0 80 k = rnB D en K S m q A k) ∧ frm XZs s s'
  | _, _, 0, _, _, _, h, _, _, _, _, _ => absurd h (Nat.not_lt_zero _)
  | 0, q, n + 1, s, A, _, _, hq, hb, hb2, hC, hA => by
    obtain ⟨n1, n2, n3, -⟩ := h.nums
    refine ⟨s, ?_, hA, frm.refl⟩
    rw [lp_Z_apply_80, if_pos (by rw [nI_m1l (by omega) (by omega)]; omega)]
  | m + 1, q, n + 1, s, A, hw, hn, hq, hb, hb2, hC, hA => by
    obtain ⟨n1, n2, n3, -⟩ := h.nums
    obtain ⟨s1, v1, v2, v3⟩ := z_st (F := F) (d := 1) (p := q - 1) hF h (by omega) (by omega) hen hw hC hA
    obtain ⟨s', b1, b2, b3⟩ := z_b80 (b := b) (a1 := a1) hF h hen m (q - 1) n s1 _ (stP_bW h (by omega) hen hw) (by omega) (by omega) hb (by omega) (hC.keep v3) v2
    refine ⟨s', ?_, b2, v3.trans b3⟩
    have v1 : f_Z_doStep F (nI (q - 1)) (1 : Int32) s = some s1 := v1
    have e1 : nI q - 1 = nI (q - 1) := by rw [c_1, nI_sub (by omega)]
    have e2 : nI (q - 1) + (-1 : Int32) = nI (q - 1) - 1 := (Int32.sub_eq_add_neg _ _).symm
    rw [lp_Z_apply_80, if_neg (by rw [nI_m1l (by omega) (by omega)]; omega), e1, v1, Option.bind_some, e2, b1]
theorem z_b36 {F : Nat} (hF : 241 ≤ F) (h : SD D) (hen : enOK D en) : ∀ (q n : Nat) (s : ax_σ) (A : Nat → Int64), wOK D A K S → q < n → q ≤ (trS D).length → CZ D en K S s → (∀ k, k < 4 → s.2 0 80 k = A k) → ∃ s', lp_Z_decrypt_36 F n (nI q - 1) s = some s' ∧ (∀ k, k < 4 → s'.2 0 80 k = rnB D en K S q q A k) ∧ frm XZs s s'
  | _, 0, _, _, _, h, _, _, _ => absurd h (Nat.not_lt_zero _)
  | 0, n + 1, s, A, _, _, hq, hC, hA => by
    refine ⟨s, ?_, hA, frm.refl⟩
    rw [lp_Z_decrypt_36, if_pos (by decide)]
  | q + 1, n + 1, s, A, hw, hn, hq, hC, hA => by
    obtain ⟨n1, n2, n3, -⟩ := h.nums
    obtain ⟨s1, v1, v2, v3⟩ := z_st (F := F) (d := 1) (p := q) hF h (by omega) (by omega) hen hw hC hA
    obtain ⟨s', b1, b2, b3⟩ := z_b36 hF h hen q n s1 _ (stP_bW h (by omega) hen hw) (by omega) (by omega) (hC.keep v3) v2
    refine ⟨s', ?_, b2, v3.trans b3⟩
    have v1 : f_Z_doStep F (nI q) (1 : Int32) s = some s1 := v1
    have e1 : nI (q + 1) - 1 = nI q := by rw [c_1, nI_sub (by omega)]; rfl
    have e2 : nI q + (-1 : Int32) = nI q - 1 := (Int32.sub_eq_add_neg _ _).symm
    rw [lp_Z_decrypt_36, e1, if_neg (nI_pos (by omega)), v1, Option.bind_some, e2, b1]
def XRz (g r k : Nat) : Prop := g = 0 ∧ (r = 80 ∨ r = 81 ∨ r = 74 ∨ r = 75)
/-- behind the subkeys -/
theorem z_go0 {F : Nat} {s : ax_σ} (hF : 241 ≤ F) (h : SD D) (hA : ∀ k, k < 4 → bW D.1.1 (A k)) (hK : ∀ k, k < 4 → bW D.1.1 (K k)) (hM : MZ D s) (hAs : ∀ k, k < 4 → s.2 0 80 k = A k) (hKs : ∀ k, k < 4 → s.2 0 79 k = K k) (ht : ∀ u d k, u < (dT D).length → d < 2 → k < 16 → zEn u d s k = en u d k) : ∃ s1, f_Z_makeSubkeys F s = some s1 ∧ CZ D en K (skS D D.1.1 A K (tot D)) s1 ∧ (∀ k, k < 4 → s1.2 0 80 k = A k) ∧ frm XRz s s1 := by
  obtain ⟨s1, v1, v2, v3⟩ := z_subk (F := F) hF h hA hK hM hAs hKs
  exact ⟨s1, v1, ⟨hM.keep v3 (fun g' r k hQ => by unfold X81 at hQ; omega), fun k hk => (v3.2 _ _ _ (by unfold X81; omega)).trans (hKs k hk), v2, fun u d k hu hd hk => (zEn_k (fun k => v3.1 _ _ _ (by unfold X81; omega)) k).trans (ht u d k hu hd hk)⟩, fun k hk => (v3.2 _ _ _ (by unfold X81; omega)).trans (hAs k hk), v3.imp (fun g r k h => by unfold X81 at h; unfold XRz; omega)⟩
end
