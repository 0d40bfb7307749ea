/-! THE STEPS: each a function on the states of a walk, and the row that the machine does it -/
def ax_pu (pc n : Nat) (f : List ax_V → Option (List ax_V)) : ax_F := fun x => bif Nat.beq x.1 pc then (match f x.2.2.1 with
  | some st => some ((pc + n, x.2.1, st, x.2.2.2), True)
  | none => none) else none
/-- a step that only turns the stack: what is asked of the machine -/
def ax_okp (cc : ByteArray) (pc n : Nat) (f : List ax_V → Option (List ax_V)) : Prop :=
  ∀ (p : Program) (l : Launch) (e : Env) (R : Room) (s : State) (m : MethodId) (args : Array Value) (below : List Frame) (meth : Method) (c : Code) (H : Heap) (locs : List Loc) (cells slots : Nat) (Q : State → Prop) (ls : Array Slot) (ad : Nat → Nat → Nat) (st st' : List ax_V), p.tables.exec = Jvm.exec → c.code = cc → f st = some st' → W p l e R s m args below meth c H locs cells slots Q (F0 m (pc + n) ls (st'.map (ax_cv ad))) → W p l e R s m args below meth c H locs cells slots Q (F0 m pc ls (st.map (ax_cv ad)))
theorem ax_v_pu {own : String} {cc : ByteArray} {nL : Nat} {G : ax_G} {pc n : Nat} {f : List ax_V → Option (List ax_V)} (h : ax_okp cc pc n f) : ax_v own cc nL G (ax_pu pc n f) := by
  obtain ⟨⟨p, l, e, R, s, m, args⟩, ⟨below, meth, c⟩, ⟨Q, A⟩, ⟨D, cA, ad, al, θ⟩⟩ := G
  intro hK x y P cells slots hf _ k
  obtain ⟨q, L, st, μ⟩ := x
  obtain ⟨hx, hb, -⟩ := hK
  unfold ax_pu at hf
  cases hq : Nat.beq q pc with
  | false => simp only [hq, cond_false] at hf; cases hf
  | true =>
    simp only [hq, cond_true] at hf
    have hq' : q = pc := Nat.eq_of_beq_eq_true hq
    subst hq'
    cases hs : f st with
    | none => rw [hs] at hf; cases hf
    | some st' =>
      rw [hs] at hf
      cases hf
      intro H locs ls hP hD hS hl
      exact h p l e R s m args below meth c H locs cells slots Q ls ad st st' hx hb hs (k H locs ls hP hD hS hl)
def ax_s_iadd : List ax_V → Option (List ax_V)
  | .inl (.int y) :: .inl (.int x) :: r => some (.inl (.int (x + y)) :: r)
  | _ => none
theorem ax_r_iadd {cc : ByteArray} {pc : Nat} (hd : decode cc pc = .ok (.iadd, 1)) : ax_okp cc pc 1 ax_s_iadd := by
  intro p l e R s m args below meth c H locs cells slots Q ls ad st st' hx hb h k
  unfold ax_s_iadd at h
  split at h
  · cases h; exact lv_iadd hx hb hd k
  · cases h
def ax_s_isub : List ax_V → Option (List ax_V)
  | .inl (.int y) :: .inl (.int x) :: r => some (.inl (.int (x - y)) :: r)
  | _ => none
theorem ax_r_isub {cc : ByteArray} {pc : Nat} (hd : decode cc pc = .ok (.isub, 1)) : ax_okp cc pc 1 ax_s_isub := by
  intro p l e R s m args below meth c H locs cells slots Q ls ad st st' hx hb h k
  unfold ax_s_isub at h
  split at h
  · cases h; exact lv_isub hx hb hd k
  · cases h
def ax_s_imul : List ax_V → Option (List ax_V)
  | .inl (.int y) :: .inl (.int x) :: r => some (.inl (.int (x * y)) :: r)
  | _ => none
theorem ax_r_imul {cc : ByteArray} {pc : Nat} (hd : decode cc pc = .ok (.imul, 1)) : ax_okp cc pc 1 ax_s_imul := by
  intro p l e R s m args below meth c H locs cells slots Q ls ad st st' hx hb h k
  unfold ax_s_imul at h
  split at h
  · cases h; exact lv_imul hx hb hd k
  · cases h
def ax_s_iand : List ax_V → Option (List ax_V)
  | .inl (.int y) :: .inl (.int x) :: r => some (.inl (.int (x &&& y)) :: r)
  | _ => none
theorem ax_r_iand {cc : ByteArray} {pc : Nat} (hd : decode cc pc = .ok (.iand, 1)) : ax_okp cc pc 1 ax_s_iand := by
  intro p l e R s m args below meth c H locs cells slots Q ls ad st st' hx hb h k
  unfold ax_s_iand at h
  split at h
  · cases h; exact lv_iand hx hb hd k
  · cases h
def ax_s_ior : List ax_V → Option (List ax_V)
  | .inl (.int y) :: .inl (.int x) :: r => some (.inl (.int (x ||| y)) :: r)
  | _ => none
theorem ax_r_ior {cc : ByteArray} {pc : Nat} (hd : decode cc pc = .ok (.ior, 1)) : ax_okp cc pc 1 ax_s_ior := by
  intro p l e R s m args below meth c H locs cells slots Q ls ad st st' hx hb h k
  unfold ax_s_ior at h
  split at h
  · cases h; exact lv_ior hx hb hd k
  · cases h
def ax_s_ixor : List ax_V → Option (List ax_V)
  | .inl (.int y) :: .inl (.int x) :: r => some (.inl (.int (x ^^^ y)) :: r)
  | _ => none
theorem ax_r_ixor {cc : ByteArray} {pc : Nat} (hd : decode cc pc = .ok (.ixor, 1)) : ax_okp cc pc 1 ax_s_ixor := by
  intro p l e R s m args below meth c H locs cells slots Q ls ad st st' hx hb h k
  unfold ax_s_ixor at h
  split at h
  · cases h; exact lv_ixor hx hb hd k
  · cases h
def ax_s_ishl : List ax_V → Option (List ax_V)
  | .inl (.int y) :: .inl (.int x) :: r => some (.inl (.int (x <<< (y &&& 31))) :: r)
  | _ => none
theorem ax_r_ishl {cc : ByteArray} {pc : Nat} (hd : decode cc pc = .ok (.ishl, 1)) : ax_okp cc pc 1 ax_s_ishl := by
  intro p l e R s m args below meth c H locs cells slots Q ls ad st st' hx hb h k
  unfold ax_s_ishl at h
  split at h
  · cases h; exact lv_ishl hx hb hd k
  · cases h
def ax_s_ishr : List ax_V → Option (List ax_V)
  | .inl (.int y) :: .inl (.int x) :: r => some (.inl (.int (x >>> (y &&& 31))) :: r)
  | _ => none
theorem ax_r_ishr {cc : ByteArray} {pc : Nat} (hd : decode cc pc = .ok (.ishr, 1)) : ax_okp cc pc 1 ax_s_ishr := by
  intro p l e R s m args below meth c H locs cells slots Q ls ad st st' hx hb h k
  unfold ax_s_ishr at h
  split at h
  · cases h; exact lv_ishr hx hb hd k
  · cases h
def ax_s_iushr : List ax_V → Option (List ax_V)
  | .inl (.int y) :: .inl (.int x) :: r => some (.inl (.int ((x.toUInt32 >>> (y.toUInt32 &&& Int32.toUInt32 31)).toInt32)) :: r)
  | _ => none
theorem ax_r_iushr {cc : ByteArray} {pc : Nat} (hd : decode cc pc = .ok (.iushr, 1)) : ax_okp cc pc 1 ax_s_iushr := by
  intro p l e R s m args below meth c H locs cells slots Q ls ad st st' hx hb h k
  unfold ax_s_iushr at h
  split at h
  · cases h; exact lv_iushr hx hb hd rfl k
  · cases h
def ax_s_ladd : List ax_V → Option (List ax_V)
  | .inl (.long y) :: .inl (.long x) :: r => some (.inl (.long (x + y)) :: r)
  | _ => none
theorem ax_r_ladd {cc : ByteArray} {pc : Nat} (hd : decode cc pc = .ok (.ladd, 1)) : ax_okp cc pc 1 ax_s_ladd := by
  intro p l e R s m args below meth c H locs cells slots Q ls ad st st' hx hb h k
  unfold ax_s_ladd at h
  split at h
  · cases h; exact lv_ladd hx hb hd k
  · cases h
def ax_s_lsub : List ax_V → Option (List ax_V)
  | .inl (.long y) :: .inl (.long x) :: r => some (.inl (.long (x - y)) :: r)
  | _ => none
theorem ax_r_lsub {cc : ByteArray} {pc : Nat} (hd : decode cc pc = .ok (.lsub, 1)) : ax_okp cc pc 1 ax_s_lsub := by
  intro p l e R s m args below meth c H locs cells slots Q ls ad st st' hx hb h k
  unfold ax_s_lsub at h
  split at h
  · cases h; exact lv_lsub hx hb hd k
  · cases h
def ax_s_lmul : List ax_V → Option (List ax_V)
  | .inl (.long y) :: .inl (.long x) :: r => some (.inl (.long (x * y)) :: r)
  | _ => none
theorem ax_r_lmul {cc : ByteArray} {pc : Nat} (hd : decode cc pc = .ok (.lmul, 1)) : ax_okp cc pc 1 ax_s_lmul := by
  intro p l e R s m args below meth c H locs cells slots Q ls ad st st' hx hb h k
  unfold ax_s_lmul at h
  split at h
  · cases h; exact lv_lmul hx hb hd k
  · cases h
def ax_s_land : List ax_V → Option (List ax_V)
  | .inl (.long y) :: .inl (.long x) :: r => some (.inl (.long (x &&& y)) :: r)
  | _ => none
theorem ax_r_land {cc : ByteArray} {pc : Nat} (hd : decode cc pc = .ok (.land, 1)) : ax_okp cc pc 1 ax_s_land := by
  intro p l e R s m args below meth c H locs cells slots Q ls ad st st' hx hb h k
  unfold ax_s_land at h
  split at h
  · cases h; exact lv_land hx hb hd k
  · cases h
def ax_s_lor : List ax_V → Option (List ax_V)
  | .inl (.long y) :: .inl (.long x) :: r => some (.inl (.long (x ||| y)) :: r)
  | _ => none
theorem ax_r_lor {cc : ByteArray} {pc : Nat} (hd : decode cc pc = .ok (.lor, 1)) : ax_okp cc pc 1 ax_s_lor := by
  intro p l e R s m args below meth c H locs cells slots Q ls ad st st' hx hb h k
  unfold ax_s_lor at h
  split at h
  · cases h; exact lv_lor hx hb hd k
  · cases h
def ax_s_lxor : List ax_V → Option (List ax_V)
  | .inl (.long y) :: .inl (.long x) :: r => some (.inl (.long (x ^^^ y)) :: r)
  | _ => none
theorem ax_r_lxor {cc : ByteArray} {pc : Nat} (hd : decode cc pc = .ok (.lxor, 1)) : ax_okp cc pc 1 ax_s_lxor := by
  intro p l e R s m args below meth c H locs cells slots Q ls ad st st' hx hb h k
  unfold ax_s_lxor at h
  split at h
  · cases h; exact lv_lxor hx hb hd k
  · cases h
def ax_s_lshl : List ax_V → Option (List ax_V)
  | .inl (.int y) :: .inl (.long x) :: r => some (.inl (.long (x <<< (y.toInt64 &&& 63))) :: r)
  | _ => none
theorem ax_r_lshl {cc : ByteArray} {pc : Nat} (hd : decode cc pc = .ok (.lshl, 1)) : ax_okp cc pc 1 ax_s_lshl := by
  intro p l e R s m args below meth c H locs cells slots Q ls ad st st' hx hb h k
  unfold ax_s_lshl at h
  split at h
  · cases h; exact lv_lshl hx hb hd rfl k
  · cases h
def ax_s_lshr : List ax_V → Option (List ax_V)
  | .inl (.int y) :: .inl (.long x) :: r => some (.inl (.long (x >>> (y.toInt64 &&& 63))) :: r)
  | _ => none
theorem ax_r_lshr {cc : ByteArray} {pc : Nat} (hd : decode cc pc = .ok (.lshr, 1)) : ax_okp cc pc 1 ax_s_lshr := by
  intro p l e R s m args below meth c H locs cells slots Q ls ad st st' hx hb h k
  unfold ax_s_lshr at h
  split at h
  · cases h; exact lv_lshr hx hb hd rfl k
  · cases h
def ax_s_lushr : List ax_V → Option (List ax_V)
  | .inl (.int y) :: .inl (.long x) :: r => some (.inl (.long ((x.toUInt64 >>> (y.toInt64.toUInt64 &&& Int64.toUInt64 63)).toInt64)) :: r)
  | _ => none
theorem ax_r_lushr {cc : ByteArray} {pc : Nat} (hd : decode cc pc = .ok (.lushr, 1)) : ax_okp cc pc 1 ax_s_lushr := by
  intro p l e R s m args below meth c H locs cells slots Q ls ad st st' hx hb h k
  unfold ax_s_lushr at h
  split at h
  · cases h; exact lv_lushr hx hb hd rfl k
  · cases h
def ax_s_ineg : List ax_V → Option (List ax_V)
  | .inl (.int x) :: r => some (.inl (.int (-x)) :: r)
  | _ => none
theorem ax_r_ineg {cc : ByteArray} {pc : Nat} (hd : decode cc pc = .ok (.ineg, 1)) : ax_okp cc pc 1 ax_s_ineg := by
  intro p l e R s m args below meth c H locs cells slots Q ls ad st st' hx hb h k
  unfold ax_s_ineg at h
  split at h
  · cases h; exact lv_ineg hx hb hd k
  · cases h
def ax_s_lneg : List ax_V → Option (List ax_V)
  | .inl (.long x) :: r => some (.inl (.long (-x)) :: r)
  | _ => none
theorem ax_r_lneg {cc : ByteArray} {pc : Nat} (hd : decode cc pc = .ok (.lneg, 1)) : ax_okp cc pc 1 ax_s_lneg := by
  intro p l e R s m args below meth c H locs cells slots Q ls ad st st' hx hb h k
  unfold ax_s_lneg at h
  split at h
  · cases h; exact lv_lneg hx hb hd k
  · cases h
def ax_s_i2l : List ax_V → Option (List ax_V)
  | .inl (.int x) :: r => some (.inl (.long x.toInt64) :: r)
  | _ => none
theorem ax_r_i2l {cc : ByteArray} {pc : Nat} (hd : decode cc pc = .ok (.i2l, 1)) : ax_okp cc pc 1 ax_s_i2l := by
  intro p l e R s m args below meth c H locs cells slots Q ls ad st st' hx hb h k
  unfold ax_s_i2l at h
  split at h
  · cases h; exact lv_i2l hx hb hd rfl k
  · cases h
def ax_s_l2i : List ax_V → Option (List ax_V)
  | .inl (.long x) :: r => some (.inl (.int x.toInt32) :: r)
  | _ => none
theorem ax_r_l2i {cc : ByteArray} {pc : Nat} (hd : decode cc pc = .ok (.l2i, 1)) : ax_okp cc pc 1 ax_s_l2i := by
  intro p l e R s m args below meth c H locs cells slots Q ls ad st st' hx hb h k
  unfold ax_s_l2i at h
  split at h
  · cases h; exact lv_l2i hx hb hd rfl k
  · cases h
def ax_s_i2c : List ax_V → Option (List ax_V)
  | .inl (.int x) :: r => some (.inl (.int (x.toUInt32 % 65536).toInt32) :: r)
  | _ => none
theorem ax_r_i2c {cc : ByteArray} {pc : Nat} (hd : decode cc pc = .ok (.i2c, 1)) : ax_okp cc pc 1 ax_s_i2c := by
  intro p l e R s m args below meth c H locs cells slots Q ls ad st st' hx hb h k
  unfold ax_s_i2c at h
  split at h
  · cases h; exact lv_i2c hx hb hd rfl k
  · cases h
def ax_s_lcmp : List ax_V → Option (List ax_V)
  | .inl (.long y) :: .inl (.long x) :: r => some (.inl (.int (lg_cmp x y)) :: r)
  | _ => none
theorem ax_r_lcmp {cc : ByteArray} {pc : Nat} (hd : decode cc pc = .ok (.lcmp, 1)) : ax_okp cc pc 1 ax_s_lcmp := by
  intro p l e R s m args below meth c H locs cells slots Q ls ad st st' hx hb h k
  unfold ax_s_lcmp at h
  split at h
  · cases h; exact W.lcmp hx hb hd k
  · cases h
def ax_s_k (v : Value) : List ax_V → Option (List ax_V) := fun st => some (.inl v :: st)
theorem ax_r_iconst {cc : ByteArray} {pc : Nat} {n : Int} {v : Int32} (hd : decode cc pc = .ok (.iconst n, 1)) (hv : Int32.ofInt n = v) : ax_okp cc pc 1 (ax_s_k (.int v)) := by
  intro p l e R s m args below meth c H locs cells slots Q ls ad st st' hx hb h k
  cases h; exact lv_iconst hx hb hd hv k
theorem ax_r_bipush {cc : ByteArray} {pc : Nat} {n : Int} {v : Int32} (hd : decode cc pc = .ok (.bipush n, 2)) (hv : (Int8.ofInt n).toInt32 = v) : ax_okp cc pc 2 (ax_s_k (.int v)) := by
  intro p l e R s m args below meth c H locs cells slots Q ls ad st st' hx hb h k
  cases h; exact lv_bipush hx hb hd hv k
theorem ax_r_sipush {cc : ByteArray} {pc : Nat} {n : Int} {v : Int32} (hd : decode cc pc = .ok (.sipush n, 3)) (hv : (Int16.ofInt n).toInt32 = v) : ax_okp cc pc 3 (ax_s_k (.int v)) := by
  intro p l e R s m args below meth c H locs cells slots Q ls ad st st' hx hb h k
  cases h; exact lv_sipush hx hb hd hv k
theorem ax_r_lconst {cc : ByteArray} {pc : Nat} {n : Fin 2} {v : Int64} (hd : decode cc pc = .ok (.lconst n, 1)) (hv : Int64.ofNat (n : Nat) = v) : ax_okp cc pc 1 (ax_s_k (.long v)) := by
  intro p l e R s m args below meth c H locs cells slots Q ls ad st st' hx hb h k
  cases h; exact lv_lconst hx hb hd hv k
theorem ax_r_null {cc : ByteArray} {pc : Nat} (hd : decode cc pc = .ok (.aconst_null, 1)) : ax_okp cc pc 1 (ax_s_k .null) := by
  intro p l e R s m args below meth c H locs cells slots Q ls ad st st' hx hb h k
  cases h; exact lv_null hx hb hd k
def ax_s_dup : List ax_V → Option (List ax_V)
  | a :: r => bif Nat.beq (ax_cat a) 1 then some (a :: a :: r) else none
  | _ => none
theorem ax_r_dup {cc : ByteArray} {pc : Nat} (hd : decode cc pc = .ok (.dup, 1)) : ax_okp cc pc 1 ax_s_dup := by
  intro p l e R s m args below meth c H locs cells slots Q ls ad st st' hx hb h k
  unfold ax_s_dup at h
  split at h
  · rename_i a r
    cases hc : (Nat.beq (ax_cat a) 1) with
    | false => rw [hc] at h; cases h
    | true =>
      rw [hc] at h
      have h1 := Nat.eq_of_beq_eq_true hc
      cases h; exact lv_dup hx hb hd ((ax_cat_cv ad _).trans h1) k
  · cases h
def ax_s_pop : List ax_V → Option (List ax_V)
  | a :: r => bif Nat.beq (ax_cat a) 1 then some (r) else none
  | _ => none
theorem ax_r_pop {cc : ByteArray} {pc : Nat} (hd : decode cc pc = .ok (.pop, 1)) : ax_okp cc pc 1 ax_s_pop := by
  intro p l e R s m args below meth c H locs cells slots Q ls ad st st' hx hb h k
  unfold ax_s_pop at h
  split at h
  · rename_i a r
    cases hc : (Nat.beq (ax_cat a) 1) with
    | false => rw [hc] at h; cases h
    | true =>
      rw [hc] at h
      have h1 := Nat.eq_of_beq_eq_true hc
      cases h; exact lv_pop hx hb hd ((ax_cat_cv ad _).trans h1) k
  · cases h
def ax_s_dupx1 : List ax_V → Option (List ax_V)
  | a :: b :: r => bif Nat.beq (ax_cat a) 1 && Nat.beq (ax_cat b) 1 then some (a :: b :: a :: r) else none
  | _ => none
theorem ax_r_dupx1 {cc : ByteArray} {pc : Nat} (hd : decode cc pc = .ok (.dup_x1, 1)) : ax_okp cc pc 1 ax_s_dupx1 := by
  intro p l e R s m args below meth c H locs cells slots Q ls ad st st' hx hb h k
  unfold ax_s_dupx1 at h
  split at h
  · rename_i a b r
    cases hc : (Nat.beq (ax_cat a) 1 && Nat.beq (ax_cat b) 1) with
    | false => rw [hc] at h; cases h
    | true =>
      rw [hc] at h
      simp only [Bool.and_eq_true] at hc
      have h1 := Nat.eq_of_beq_eq_true hc.1; have h2 := Nat.eq_of_beq_eq_true hc.2
      cases h; exact lv_dup_x1 hx hb hd ((ax_cat_cv ad _).trans h1) ((ax_cat_cv ad _).trans h2) k
  · cases h
def ax_s_dup2p : List ax_V → Option (List ax_V)
  | a :: b :: r => bif Nat.beq (ax_cat a) 1 && Nat.beq (ax_cat b) 1 then some (a :: b :: a :: b :: r) else none
  | _ => none
theorem ax_r_dup2p {cc : ByteArray} {pc : Nat} (hd : decode cc pc = .ok (.dup2, 1)) : ax_okp cc pc 1 ax_s_dup2p := by
  intro p l e R s m args below meth c H locs cells slots Q ls ad st st' hx hb h k
  unfold ax_s_dup2p at h
  split at h
  · rename_i a b r
    cases hc : (Nat.beq (ax_cat a) 1 && Nat.beq (ax_cat b) 1) with
    | false => rw [hc] at h; cases h
    | true =>
      rw [hc] at h
      simp only [Bool.and_eq_true] at hc
      have h1 := Nat.eq_of_beq_eq_true hc.1; have h2 := Nat.eq_of_beq_eq_true hc.2
      cases h; exact lv_dup2_11 hx hb hd ((ax_cat_cv ad _).trans h1) ((ax_cat_cv ad _).trans h2) k
  · cases h
def ax_s_dup2l : List ax_V → Option (List ax_V)
  | a :: r => bif Nat.beq (ax_cat a) 2 then some (a :: a :: r) else none
  | _ => none
theorem ax_r_dup2l {cc : ByteArray} {pc : Nat} (hd : decode cc pc = .ok (.dup2, 1)) : ax_okp cc pc 1 ax_s_dup2l := by
  intro p l e R s m args below meth c H locs cells slots Q ls ad st st' hx hb h k
  unfold ax_s_dup2l at h
  split at h
  · rename_i a r
    cases hc : (Nat.beq (ax_cat a) 2) with
    | false => rw [hc] at h; cases h
    | true =>
      rw [hc] at h
      have h1 := Nat.eq_of_beq_eq_true hc
      cases h; exact lv_dup2_2 hx hb hd ((ax_cat_cv ad _).trans h1) k
  · cases h
def ax_isI : ax_V → Bool
  | .inl (.int _) => true
  | _ => false
def ax_isL : ax_V → Bool
  | .inl (.long _) => true
  | _ => false
def ax_isA : ax_V → Bool
  | .inl (.ref _) => true
  | .inl .null => true
  | .inr _ => true
  | _ => false
/-- a load of local i, of a kind -/
def ax_ld (pc n i : Nat) (kd : ax_V → Bool) : ax_F := fun x => bif Nat.beq x.1 pc then (match ax_loc x.2.1 i with
  | some v => bif kd v then some ((pc + n, x.2.1, v :: x.2.2.1, x.2.2.2), True) else none
  | none => none) else none
def ax_okl (cc : ByteArray) (pc n i : Nat) (kd : ax_V → Bool) : Prop :=
  ∀ (p : Program) (l : Launch) (e : Env) (R : Room) (s : State) (m : MethodId) (args : Array Value) (below : List Frame) (meth : Method) (c : Code) (H : Heap) (locs : List Loc) (cells slots : Nat) (Q : State → Prop) (ls : Array Slot) (ad : Nat → Nat → Nat) (st : List Value) (v : ax_V), p.tables.exec = Jvm.exec → c.code = cc → kd v = true → ls[i]? = some (.val (ax_cv ad v)) → W p l e R s m args below meth c H locs cells slots Q (F0 m (pc + n) ls (ax_cv ad v :: st)) → W p l e R s m args below meth c H locs cells slots Q (F0 m pc ls st)
theorem ax_v_ld {own : String} {cc : ByteArray} {nL : Nat} {G : ax_G} {pc n i : Nat} {kd : ax_V → Bool} (h : ax_okl cc pc n i kd) : ax_v own cc nL G (ax_ld pc n i kd) := by
  obtain ⟨⟨p, l, e, R, s, m, args⟩, ⟨below, meth, c⟩, ⟨Q, A⟩, ⟨D, cA, ad, al, θ⟩⟩ := G
  intro hK x y P cells slots hf _ k
  obtain ⟨q, L, st, μ⟩ := x
  obtain ⟨hx, hb, -⟩ := hK
  unfold ax_ld at hf
  cases hq : Nat.beq q pc with
  | false => simp only [hq, cond_false] at hf; cases hf
  | true =>
    simp only [hq, cond_true] at hf
    have hq' : q = pc := Nat.eq_of_beq_eq_true hq
    subst hq'
    cases hs : ax_loc L i with
    | none => rw [hs] at hf; cases hf
    | some v =>
      rw [hs] at hf
      cases hv : kd v with
      | false => simp only [hv, cond_false] at hf; cases hf
      | true =>
        simp only [hv, cond_true] at hf
        cases hf
        intro H locs ls hP hD hS hl
        exact h p l e R s m args below meth c H locs cells slots Q ls ad _ v hx hb hv (ax_loc_has hs hl.2.2) (k H locs ls hP hD hS hl)
theorem ax_r_iload_n {cc : ByteArray} {pc : Nat} {k0 : Fin 4} {i : Nat} (hd : decode cc pc = .ok (.iload_n k0, 1)) (hi : (k0 : Nat) = i) : ax_okl cc pc 1 i ax_isI := by
  intro p l e R s m args below meth c H locs cells slots Q ls ad st v hx hb hv hl k
  match v, hv with
  | .inl (.int z), _ => exact lv_iload_n hx hb hd hi hl k
theorem ax_r_iload {cc : ByteArray} {pc : Nat} {i : Nat} (hd : decode cc pc = .ok (.iload i, 2)) : ax_okl cc pc 2 i ax_isI := by
  intro p l e R s m args below meth c H locs cells slots Q ls ad st v hx hb hv hl k
  match v, hv with
  | .inl (.int z), _ => exact lv_iload hx hb hd hl k
theorem ax_r_lload_n {cc : ByteArray} {pc : Nat} {k0 : Fin 4} {i : Nat} (hd : decode cc pc = .ok (.lload_n k0, 1)) (hi : (k0 : Nat) = i) : ax_okl cc pc 1 i ax_isL := by
  intro p l e R s m args below meth c H locs cells slots Q ls ad st v hx hb hv hl k
  match v, hv with
  | .inl (.long z), _ => exact lv_lload_n hx hb hd hi hl k
theorem ax_r_lload {cc : ByteArray} {pc : Nat} {i : Nat} (hd : decode cc pc = .ok (.lload i, 2)) : ax_okl cc pc 2 i ax_isL := by
  intro p l e R s m args below meth c H locs cells slots Q ls ad st v hx hb hv hl k
  match v, hv with
  | .inl (.long z), _ => exact lv_lload hx hb hd hl k
theorem ax_r_aload_n {cc : ByteArray} {pc : Nat} {k0 : Fin 4} {i : Nat} (hd : decode cc pc = .ok (.aload_n k0, 1)) (hi : (k0 : Nat) = i) : ax_okl cc pc 1 i ax_isA := by
  intro p l e R s m args below meth c H locs cells slots Q ls ad st v hx hb hv hl k
  match v, hv with
  | .inl (.ref z), _ => exact lv_aload_n hx hb hd hi hl k
  | .inl .null, _ => exact lv_aload_nN hx hb hd hi hl k
  | .inr z, _ => exact lv_aload_n hx hb hd hi hl k
theorem ax_r_aload {cc : ByteArray} {pc : Nat} {i : Nat} (hd : decode cc pc = .ok (.aload i, 2)) : ax_okl cc pc 2 i ax_isA := by
  intro p l e R s m args below meth c H locs cells slots Q ls ad st v hx hb hv hl k
  match v, hv with
  | .inl (.ref z), _ => exact lv_aload hx hb hd hl k
  | .inl .null, _ => exact lv_aloadN hx hb hd hl k
  | .inr z, _ => exact lv_aload hx hb hd hl k
/-- a store of one word (or of two) into local i -/
def ax_so (nL pc n i : Nat) (two : Bool) (kd : ax_V → Bool) : ax_F := fun x => bif Nat.beq x.1 pc then (match x.2.2.1 with
  | v :: r => bif kd v && Nat.blt (bif two then i + 1 else i) nL then some ((pc + n, (bif two then ax_st2 x.2.1 i v else ax_st1 x.2.1 i v), r, x.2.2.2), True) else none
  | [] => none) else none
def ax_oks (cc : ByteArray) (nL pc n i : Nat) (two : Bool) (kd : ax_V → Bool) : Prop :=
  ∀ (p : Program) (l : Launch) (e : Env) (R : Room) (s : State) (m : MethodId) (args : Array Value) (below : List Frame) (meth : Method) (c : Code) (H : Heap) (locs : List Loc) (cells slots : Nat) (Q : State → Prop) (ls : Array Slot) (ad : Nat → Nat → Nat) (st : List Value) (L : List (Nat × ax_V)) (v : ax_V), p.tables.exec = Jvm.exec → c.code = cc → kd v = true → (bif two then i + 1 else i) < nL → lv_has ls nL (ax_L ad L) → (∀ ls', lv_has ls' nL (ax_L ad (bif two then ax_st2 L i v else ax_st1 L i v)) → W p l e R s m args below meth c H locs cells slots Q (F0 m (pc + n) ls' st)) → W p l e R s m args below meth c H locs cells slots Q (F0 m pc ls (ax_cv ad v :: st))
theorem ax_v_so {own : String} {cc : ByteArray} {nL : Nat} {G : ax_G} {pc n i : Nat} {two : Bool} {kd : ax_V → Bool} (h : ax_oks cc nL pc n i two kd) : ax_v own cc nL G (ax_so nL pc n i two kd) := by
  obtain ⟨⟨p, l, e, R, s, m, args⟩, ⟨below, meth, c⟩, ⟨Q, A⟩, ⟨D, cA, ad, al, θ⟩⟩ := G
  intro hK x y P cells slots hf _ k
  obtain ⟨q, L, st, μ⟩ := x
  obtain ⟨hx, hb, -⟩ := hK
  unfold ax_so at hf
  cases hq : Nat.beq q pc with
  | false => simp only [hq, cond_false] at hf; cases hf
  | true =>
    simp only [hq, cond_true] at hf
    have hq' : q = pc := Nat.eq_of_beq_eq_true hq
    subst hq'
    cases st with
    | nil => cases hf
    | cons v r =>
      simp only at hf
      cases hv : (kd v && Nat.blt (bif two then i + 1 else i) nL) with
      | false => rw [hv] at hf; cases hf
      | true =>
        rw [hv] at hf
        simp only [Bool.and_eq_true] at hv
        cases hf
        intro H locs ls hP hD hS hl
        exact h p l e R s m args below meth c H locs cells slots Q ls ad _ L v hx hb hv.1 (Nat.le_of_ble_eq_true hv.2) hl (fun ls' hl' => k H locs ls' hP hD hS hl')
theorem ax_r_istore_n {cc : ByteArray} {nL pc : Nat} {k0 : Fin 4} {i : Nat} (hd : decode cc pc = .ok (.istore_n k0, 1)) (hi : (k0 : Nat) = i) : ax_oks cc nL pc 1 i false ax_isI := by
  intro p l e R s m args below meth c H locs cells slots Q ls ad st L v hx hb hv hi' hl k
  match v, hv with
  | .inl (.int z), _ => exact lv_istore_n hx hb hd hi hl hi' (ax_st1_L ad L i (.inl (.int z))) k
theorem ax_r_istore {cc : ByteArray} {nL pc : Nat} {i : Nat} (hd : decode cc pc = .ok (.istore i, 2)) : ax_oks cc nL pc 2 i false ax_isI := by
  intro p l e R s m args below meth c H locs cells slots Q ls ad st L v hx hb hv hi' hl k
  match v, hv with
  | .inl (.int z), _ => exact lv_istore hx hb hd hl hi' (ax_st1_L ad L i (.inl (.int z))) k
theorem ax_r_lstore_n {cc : ByteArray} {nL pc : Nat} {k0 : Fin 4} {i : Nat} (hd : decode cc pc = .ok (.lstore_n k0, 1)) (hi : (k0 : Nat) = i) : ax_oks cc nL pc 1 i true ax_isL := by
  intro p l e R s m args below meth c H locs cells slots Q ls ad st L v hx hb hv hi' hl k
  match v, hv with
  | .inl (.long z), _ => exact lv_lstore_n hx hb hd hi hl hi' (ax_st2_L ad L i (.inl (.long z))) k
theorem ax_r_lstore {cc : ByteArray} {nL pc : Nat} {i : Nat} (hd : decode cc pc = .ok (.lstore i, 2)) : ax_oks cc nL pc 2 i true ax_isL := by
  intro p l e R s m args below meth c H locs cells slots Q ls ad st L v hx hb hv hi' hl k
  match v, hv with
  | .inl (.long z), _ => exact lv_lstore hx hb hd hl hi' (ax_st2_L ad L i (.inl (.long z))) k
theorem ax_r_astore_n {cc : ByteArray} {nL pc : Nat} {k0 : Fin 4} {i : Nat} (hd : decode cc pc = .ok (.astore_n k0, 1)) (hi : (k0 : Nat) = i) : ax_oks cc nL pc 1 i false ax_isA := by
  intro p l e R s m args below meth c H locs cells slots Q ls ad st L v hx hb hv hi' hl k
  match v, hv with
  | .inl (.ref z), _ => exact lv_astore_n hx hb hd hi hl hi' (ax_st1_L ad L i (.inl (.ref z))) k
  | .inl .null, _ => exact lv_astore_nN hx hb hd hi hl hi' (ax_st1_L ad L i (.inl .null)) k
  | .inr z, _ => exact lv_astore_n hx hb hd hi hl hi' (ax_st1_L ad L i (.inr z)) k
theorem ax_r_astore {cc : ByteArray} {nL pc : Nat} {i : Nat} (hd : decode cc pc = .ok (.astore i, 2)) : ax_oks cc nL pc 2 i false ax_isA := by
  intro p l e R s m args below meth c H locs cells slots Q ls ad st L v hx hb hv hi' hl k
  match v, hv with
  | .inl (.ref z), _ => exact lv_astore hx hb hd hl hi' (ax_st1_L ad L i (.inl (.ref z))) k
  | .inl .null, _ => exact lv_astoreN hx hb hd hl hi' (ax_st1_L ad L i (.inl .null)) k
  | .inr z, _ => exact lv_astore hx hb hd hl hi' (ax_st1_L ad L i (.inr z)) k
/-- iinc -/
def ax_ii (nL pc i : Nat) (d : Int32) : ax_F := fun x => bif Nat.beq x.1 pc then (match ax_loc x.2.1 i with
  | some (.inl (.int z)) => bif Nat.blt i nL then some ((pc + 3, ax_st1 x.2.1 i (.inl (.int (z + d))), x.2.2.1, x.2.2.2), True) else none
  | _ => none) else none
theorem ax_loc_at {L : List (Nat × ax_V)} {ad : Nat → Nat → Nat} {i : Nat} {v : ax_V} (h : ax_loc L i = some v) : ∃ k : Nat, (ax_L ad L)[k]? = some (i, ax_cv ad v) := by
  induction L with
  | nil => simp [ax_loc] at h
  | cons q r ih =>
    unfold ax_loc at h
    cases hb : Nat.beq q.1 i with
    | true =>
      rw [hb] at h
      have hi : q.1 = i := Nat.eq_of_beq_eq_true hb
      have hv : q.2 = v := Option.some.inj h
      exact ⟨0, by rw [← hi, ← hv]; rfl⟩
    | false =>
      rw [hb] at h
      obtain ⟨k, hk⟩ := ih h
      exact ⟨k + 1, hk⟩
theorem ax_v_ii {own : String} {cc : ByteArray} {nL : Nat} {G : ax_G} {pc i : Nat} {n : Int} {d : Int32} (hd : decode cc pc = .ok (.iinc i n, 3)) (hn : Int32.ofInt n = d) : ax_v own cc nL G (ax_ii nL pc i d) := by
  obtain ⟨⟨p, l, e, R, s, m, args⟩, ⟨below, meth, c⟩, ⟨Q, A⟩, ⟨D, cA, ad, al, θ⟩⟩ := G
  intro hK x y P cells slots hf _ k
  obtain ⟨q, L, st, μ⟩ := x
  obtain ⟨hx, hb, -⟩ := hK
  unfold ax_ii at hf
  cases hq : Nat.beq q pc with
  | false => simp only [hq, cond_false] at hf; cases hf
  | true =>
    simp only [hq, cond_true] at hf
    have hq' : q = pc := Nat.eq_of_beq_eq_true hq
    subst hq'
    split at hf
    · rename_i z hz
      cases hv : Nat.blt i nL with
      | false => rw [hv] at hf; cases hf
      | true =>
        rw [hv] at hf
        cases hf
        intro H locs ls hP hD hS hl
        obtain ⟨k9, hk9⟩ := ax_loc_at (ad := ad) hz
        exact lv_iinc hx hb hd hl (k := k9) hk9 (by rw [hn]) (Nat.le_of_ble_eq_true hv) (ax_st1_L ad L i (.inl (.int (z + d)))) (fun ls' hl' => k H locs ls' hP hD hS hl')
    · cases hf
/-- goto -/
def ax_go (pc tgt : Nat) : ax_F := fun x => bif Nat.beq x.1 pc then some ((tgt, x.2.1, x.2.2.1, x.2.2.2), True) else none
theorem ax_v_go {own : String} {cc : ByteArray} {nL : Nat} {G : ax_G} {pc tgt : Nat} {off : Int} (hd : decode cc pc = .ok (.goto off, 3)) (ht : (pc : Int) + off = (tgt : Int)) : ax_v own cc nL G (ax_go pc tgt) := by
  obtain ⟨⟨p, l, e, R, s, m, args⟩, ⟨below, meth, c⟩, ⟨Q, A⟩, ⟨D, cA, ad, al, θ⟩⟩ := G
  intro hK x y P cells slots hf _ k
  obtain ⟨q, L, st, μ⟩ := x
  obtain ⟨hx, hb, -⟩ := hK
  unfold ax_go at hf
  cases hq : Nat.beq q pc with
  | false => simp only [hq, cond_false] at hf; cases hf
  | true =>
    simp only [hq, cond_true] at hf
    have hq' : q = pc := Nat.eq_of_beq_eq_true hq
    subst hq'
    cases hf
    intro H locs ls hP hD hS hl
    exact lv_goto hx hb hd ht (k H locs ls hP hD hS hl)
/-- idiv, irem, ldiv, lrem: the divisor isn't 0 -/
def ax_dv (pc : Nat) (f : Int32 → Int32 → Int32) : ax_F := fun x => bif Nat.beq x.1 pc then (match x.2.2.1 with
  | .inl (.int y) :: .inl (.int z) :: r => some ((pc + 1, x.2.1, .inl (.int (f z y)) :: r, x.2.2.2), ¬ y = 0)
  | _ => none) else none
def ax_dvl (pc : Nat) (f : Int64 → Int64 → Int64) : ax_F := fun x => bif Nat.beq x.1 pc then (match x.2.2.1 with
  | .inl (.long y) :: .inl (.long z) :: r => some ((pc + 1, x.2.1, .inl (.long (f z y)) :: r, x.2.2.2), ¬ y = 0)
  | _ => none) else none
theorem ax_v_idiv {own : String} {cc : ByteArray} {nL : Nat} {G : ax_G} {pc : Nat} (hd : decode cc pc = .ok (.idiv, 1)) : ax_v own cc nL G (ax_dv pc (fun x y => x / y)) := by
  obtain ⟨⟨p, l, e, R, s, m, args⟩, ⟨below, meth, c⟩, ⟨Q, A⟩, ⟨D, cA, ad, al, θ⟩⟩ := G
  intro hK x y P cells slots hf hP0 k
  obtain ⟨q, L, st, μ⟩ := x
  obtain ⟨hx, hb, -⟩ := hK
  unfold ax_dv at hf
  cases hq : Nat.beq q pc with
  | false => simp only [hq, cond_false] at hf; cases hf
  | true =>
    simp only [hq, cond_true] at hf
    have hq' : q = pc := Nat.eq_of_beq_eq_true hq
    subst hq'
    split at hf
    · cases hf
      intro H locs ls hP hD hS hl
      exact lv_idiv hx hb hd hP0 (k H locs ls hP hD hS hl)
    · cases hf
theorem ax_v_irem {own : String} {cc : ByteArray} {nL : Nat} {G : ax_G} {pc : Nat} (hd : decode cc pc = .ok (.irem, 1)) : ax_v own cc nL G (ax_dv pc (fun x y => x - x / y * y)) := by
  obtain ⟨⟨p, l, e, R, s, m, args⟩, ⟨below, meth, c⟩, ⟨Q, A⟩, ⟨D, cA, ad, al, θ⟩⟩ := G
  intro hK x y P cells slots hf hP0 k
  obtain ⟨q, L, st, μ⟩ := x
  obtain ⟨hx, hb, -⟩ := hK
  unfold ax_dv at hf
  cases hq : Nat.beq q pc with
  | false => simp only [hq, cond_false] at hf; cases hf
  | true =>
    simp only [hq, cond_true] at hf
    have hq' : q = pc := Nat.eq_of_beq_eq_true hq
    subst hq'
    split at hf
    · cases hf
      intro H locs ls hP hD hS hl
      exact lv_irem hx hb hd hP0 (k H locs ls hP hD hS hl)
    · cases hf
theorem ax_v_ldiv {own : String} {cc : ByteArray} {nL : Nat} {G : ax_G} {pc : Nat} (hd : decode cc pc = .ok (.ldiv, 1)) : ax_v own cc nL G (ax_dvl pc (fun x y => x / y)) := by
  obtain ⟨⟨p, l, e, R, s, m, args⟩, ⟨below, meth, c⟩, ⟨Q, A⟩, ⟨D, cA, ad, al, θ⟩⟩ := G
  intro hK x y P cells slots hf hP0 k
  obtain ⟨q, L, st, μ⟩ := x
  obtain ⟨hx, hb, -⟩ := hK
  unfold ax_dvl at hf
  cases hq : Nat.beq q pc with
  | false => simp only [hq, cond_false] at hf; cases hf
  | true =>
    simp only [hq, cond_true] at hf
    have hq' : q = pc := Nat.eq_of_beq_eq_true hq
    subst hq'
    split at hf
    · cases hf
      intro H locs ls hP hD hS hl
      exact lv_ldiv hx hb hd hP0 (k H locs ls hP hD hS hl)
    · cases hf
theorem ax_v_lrem {own : String} {cc : ByteArray} {nL : Nat} {G : ax_G} {pc : Nat} (hd : decode cc pc = .ok (.lrem, 1)) : ax_v own cc nL G (ax_dvl pc (fun x y => x - x / y * y)) := by
  obtain ⟨⟨p, l, e, R, s, m, args⟩, ⟨below, meth, c⟩, ⟨Q, A⟩, ⟨D, cA, ad, al, θ⟩⟩ := G
  intro hK x y P cells slots hf hP0 k
  obtain ⟨q, L, st, μ⟩ := x
  obtain ⟨hx, hb, -⟩ := hK
  unfold ax_dvl at hf
  cases hq : Nat.beq q pc with
  | false => simp only [hq, cond_false] at hf; cases hf
  | true =>
    simp only [hq, cond_true] at hf
    have hq' : q = pc := Nat.eq_of_beq_eq_true hq
    subst hq'
    split at hf
    · cases hf
      intro H locs ls hP hD hS hl
      exact lv_lrem hx hb hd hP0 (k H locs ls hP hD hS hl)
    · cases hf
