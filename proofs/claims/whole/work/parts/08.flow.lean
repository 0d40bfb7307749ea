/-! BRANCHES AND SWITCHES -/
section
variable {own : String} {cc : ByteArray} {nL cells slots pc tgt : Nat} {off : Int} {G : ax_G} {L : List (Nat × ax_V)} {st : List ax_V} {μ : ax_M}
theorem ax_if_eq {x : Int32} (hK : ax_K own cc nL G) (hd : decode cc pc = .ok (.ifCond .eq off, 3)) (ht : (pc : Int) + off = (tgt : Int)) (kt : x = 0 → ax_R G nL cells slots (tgt, L, st, μ)) (kf : ¬ x = 0 → ax_R G nL cells slots (pc + 3, L, st, μ)) : ax_R G nL cells slots (pc, L, .inl (.int x) :: st, μ) := by
  obtain ⟨⟨p, l, e, R, s, m, args⟩, ⟨below, meth, c⟩, ⟨Q, A⟩, ⟨D, cA, ad, al, θ⟩⟩ := G
  obtain ⟨hx, hb, -⟩ := hK
  intro H locs ls hP hD hS hl
  exact lv_if_eq hx hb hd ht (fun h => kt h H locs ls hP hD hS hl) (fun h => kf h H locs ls hP hD hS hl)
theorem ax_if_ne {x : Int32} (hK : ax_K own cc nL G) (hd : decode cc pc = .ok (.ifCond .ne off, 3)) (ht : (pc : Int) + off = (tgt : Int)) (kt : ¬ x = 0 → ax_R G nL cells slots (tgt, L, st, μ)) (kf : x = 0 → ax_R G nL cells slots (pc + 3, L, st, μ)) : ax_R G nL cells slots (pc, L, .inl (.int x) :: st, μ) := by
  obtain ⟨⟨p, l, e, R, s, m, args⟩, ⟨below, meth, c⟩, ⟨Q, A⟩, ⟨D, cA, ad, al, θ⟩⟩ := G
  obtain ⟨hx, hb, -⟩ := hK
  intro H locs ls hP hD hS hl
  exact lv_if_ne hx hb hd ht (fun h => kt h H locs ls hP hD hS hl) (fun h => kf h H locs ls hP hD hS hl)
theorem ax_if_lt {x : Int32} (hK : ax_K own cc nL G) (hd : decode cc pc = .ok (.ifCond .lt off, 3)) (ht : (pc : Int) + off = (tgt : Int)) (kt : x < 0 → ax_R G nL cells slots (tgt, L, st, μ)) (kf : ¬ x < 0 → ax_R G nL cells slots (pc + 3, L, st, μ)) : ax_R G nL cells slots (pc, L, .inl (.int x) :: st, μ) := by
  obtain ⟨⟨p, l, e, R, s, m, args⟩, ⟨below, meth, c⟩, ⟨Q, A⟩, ⟨D, cA, ad, al, θ⟩⟩ := G
  obtain ⟨hx, hb, -⟩ := hK
  intro H locs ls hP hD hS hl
  exact lv_if_lt hx hb hd ht (fun h => kt h H locs ls hP hD hS hl) (fun h => kf h H locs ls hP hD hS hl)
theorem ax_if_ge {x : Int32} (hK : ax_K own cc nL G) (hd : decode cc pc = .ok (.ifCond .ge off, 3)) (ht : (pc : Int) + off = (tgt : Int)) (kt : 0 ≤ x → ax_R G nL cells slots (tgt, L, st, μ)) (kf : ¬ 0 ≤ x → ax_R G nL cells slots (pc + 3, L, st, μ)) : ax_R G nL cells slots (pc, L, .inl (.int x) :: st, μ) := by
  obtain ⟨⟨p, l, e, R, s, m, args⟩, ⟨below, meth, c⟩, ⟨Q, A⟩, ⟨D, cA, ad, al, θ⟩⟩ := G
  obtain ⟨hx, hb, -⟩ := hK
  intro H locs ls hP hD hS hl
  exact lv_if_ge hx hb hd ht (fun h => kt h H locs ls hP hD hS hl) (fun h => kf h H locs ls hP hD hS hl)
theorem ax_if_gt {x : Int32} (hK : ax_K own cc nL G) (hd : decode cc pc = .ok (.ifCond .gt off, 3)) (ht : (pc : Int) + off = (tgt : Int)) (kt : 0 < x → ax_R G nL cells slots (tgt, L, st, μ)) (kf : ¬ 0 < x → ax_R G nL cells slots (pc + 3, L, st, μ)) : ax_R G nL cells slots (pc, L, .inl (.int x) :: st, μ) := by
  obtain ⟨⟨p, l, e, R, s, m, args⟩, ⟨below, meth, c⟩, ⟨Q, A⟩, ⟨D, cA, ad, al, θ⟩⟩ := G
  obtain ⟨hx, hb, -⟩ := hK
  intro H locs ls hP hD hS hl
  exact lv_if_gt hx hb hd ht (fun h => kt h H locs ls hP hD hS hl) (fun h => kf h H locs ls hP hD hS hl)
theorem ax_if_le {x : Int32} (hK : ax_K own cc nL G) (hd : decode cc pc = .ok (.ifCond .le off, 3)) (ht : (pc : Int) + off = (tgt : Int)) (kt : x ≤ 0 → ax_R G nL cells slots (tgt, L, st, μ)) (kf : ¬ x ≤ 0 → ax_R G nL cells slots (pc + 3, L, st, μ)) : ax_R G nL cells slots (pc, L, .inl (.int x) :: st, μ) := by
  obtain ⟨⟨p, l, e, R, s, m, args⟩, ⟨below, meth, c⟩, ⟨Q, A⟩, ⟨D, cA, ad, al, θ⟩⟩ := G
  obtain ⟨hx, hb, -⟩ := hK
  intro H locs ls hP hD hS hl
  exact lv_if_le hx hb hd ht (fun h => kt h H locs ls hP hD hS hl) (fun h => kf h H locs ls hP hD hS hl)
theorem ax_ic_eq {x y : Int32} (hK : ax_K own cc nL G) (hd : decode cc pc = .ok (.if_icmp .eq off, 3)) (ht : (pc : Int) + off = (tgt : Int)) (kt : x = y → ax_R G nL cells slots (tgt, L, st, μ)) (kf : ¬ x = y → ax_R G nL cells slots (pc + 3, L, st, μ)) : ax_R G nL cells slots (pc, L, .inl (.int y) :: .inl (.int x) :: st, μ) := by
  obtain ⟨⟨p, l, e, R, s, m, args⟩, ⟨below, meth, c⟩, ⟨Q, A⟩, ⟨D, cA, ad, al, θ⟩⟩ := G
  obtain ⟨hx, hb, -⟩ := hK
  intro H locs ls hP hD hS hl
  exact lv_icmp_eq hx hb hd ht (fun h => kt h H locs ls hP hD hS hl) (fun h => kf h H locs ls hP hD hS hl)
theorem ax_ic_ne {x y : Int32} (hK : ax_K own cc nL G) (hd : decode cc pc = .ok (.if_icmp .ne off, 3)) (ht : (pc : Int) + off = (tgt : Int)) (kt : ¬ x = y → ax_R G nL cells slots (tgt, L, st, μ)) (kf : x = y → ax_R G nL cells slots (pc + 3, L, st, μ)) : ax_R G nL cells slots (pc, L, .inl (.int y) :: .inl (.int x) :: st, μ) := by
  obtain ⟨⟨p, l, e, R, s, m, args⟩, ⟨below, meth, c⟩, ⟨Q, A⟩, ⟨D, cA, ad, al, θ⟩⟩ := G
  obtain ⟨hx, hb, -⟩ := hK
  intro H locs ls hP hD hS hl
  exact lv_icmp_ne hx hb hd ht (fun h => kt h H locs ls hP hD hS hl) (fun h => kf h H locs ls hP hD hS hl)
theorem ax_ic_lt {x y : Int32} (hK : ax_K own cc nL G) (hd : decode cc pc = .ok (.if_icmp .lt off, 3)) (ht : (pc : Int) + off = (tgt : Int)) (kt : x < y → ax_R G nL cells slots (tgt, L, st, μ)) (kf : ¬ x < y → ax_R G nL cells slots (pc + 3, L, st, μ)) : ax_R G nL cells slots (pc, L, .inl (.int y) :: .inl (.int x) :: st, μ) := by
  obtain ⟨⟨p, l, e, R, s, m, args⟩, ⟨below, meth, c⟩, ⟨Q, A⟩, ⟨D, cA, ad, al, θ⟩⟩ := G
  obtain ⟨hx, hb, -⟩ := hK
  intro H locs ls hP hD hS hl
  exact lv_icmp_lt hx hb hd ht (fun h => kt h H locs ls hP hD hS hl) (fun h => kf h H locs ls hP hD hS hl)
theorem ax_ic_ge {x y : Int32} (hK : ax_K own cc nL G) (hd : decode cc pc = .ok (.if_icmp .ge off, 3)) (ht : (pc : Int) + off = (tgt : Int)) (kt : y ≤ x → ax_R G nL cells slots (tgt, L, st, μ)) (kf : ¬ y ≤ x → ax_R G nL cells slots (pc + 3, L, st, μ)) : ax_R G nL cells slots (pc, L, .inl (.int y) :: .inl (.int x) :: st, μ) := by
  obtain ⟨⟨p, l, e, R, s, m, args⟩, ⟨below, meth, c⟩, ⟨Q, A⟩, ⟨D, cA, ad, al, θ⟩⟩ := G
  obtain ⟨hx, hb, -⟩ := hK
  intro H locs ls hP hD hS hl
  exact lv_icmp_ge hx hb hd ht (fun h => kt h H locs ls hP hD hS hl) (fun h => kf h H locs ls hP hD hS hl)
theorem ax_ic_gt {x y : Int32} (hK : ax_K own cc nL G) (hd : decode cc pc = .ok (.if_icmp .gt off, 3)) (ht : (pc : Int) + off = (tgt : Int)) (kt : y < x → ax_R G nL cells slots (tgt, L, st, μ)) (kf : ¬ y < x → ax_R G nL cells slots (pc + 3, L, st, μ)) : ax_R G nL cells slots (pc, L, .inl (.int y) :: .inl (.int x) :: st, μ) := by
  obtain ⟨⟨p, l, e, R, s, m, args⟩, ⟨below, meth, c⟩, ⟨Q, A⟩, ⟨D, cA, ad, al, θ⟩⟩ := G
  obtain ⟨hx, hb, -⟩ := hK
  intro H locs ls hP hD hS hl
  exact lv_icmp_gt hx hb hd ht (fun h => kt h H locs ls hP hD hS hl) (fun h => kf h H locs ls hP hD hS hl)
theorem ax_ic_le {x y : Int32} (hK : ax_K own cc nL G) (hd : decode cc pc = .ok (.if_icmp .le off, 3)) (ht : (pc : Int) + off = (tgt : Int)) (kt : x ≤ y → ax_R G nL cells slots (tgt, L, st, μ)) (kf : ¬ x ≤ y → ax_R G nL cells slots (pc + 3, L, st, μ)) : ax_R G nL cells slots (pc, L, .inl (.int y) :: .inl (.int x) :: st, μ) := by
  obtain ⟨⟨p, l, e, R, s, m, args⟩, ⟨below, meth, c⟩, ⟨Q, A⟩, ⟨D, cA, ad, al, θ⟩⟩ := G
  obtain ⟨hx, hb, -⟩ := hK
  intro H locs ls hP hD hS hl
  exact lv_icmp_le hx hb hd ht (fun h => kt h H locs ls hP hD hS hl) (fun h => kf h H locs ls hP hD hS hl)
theorem ax_nn {q : Nat × Nat} (hK : ax_K own cc nL G) (hd : decode cc pc = .ok (.ifnonnull off, 3)) (ht : (pc : Int) + off = (tgt : Int)) (kt : ax_R G nL cells slots (tgt, L, st, μ)) : ax_R G nL cells slots (pc, L, .inr q :: st, μ) := by
  obtain ⟨⟨p, l, e, R, s, m, args⟩, ⟨below, meth, c⟩, ⟨Q, A⟩, ⟨D, cA, ad, al, θ⟩⟩ := G
  obtain ⟨hx, hb, -⟩ := hK
  intro H locs ls hP hD hS hl
  exact lv_ifnonnull hx hb hd ht (kt H locs ls hP hD hS hl)
theorem ax_nnN (hK : ax_K own cc nL G) (hd : decode cc pc = .ok (.ifnonnull off, 3)) (kt : ax_R G nL cells slots (pc + 3, L, st, μ)) : ax_R G nL cells slots (pc, L, .inl .null :: st, μ) := by
  obtain ⟨⟨p, l, e, R, s, m, args⟩, ⟨below, meth, c⟩, ⟨Q, A⟩, ⟨D, cA, ad, al, θ⟩⟩ := G
  obtain ⟨hx, hb, -⟩ := hK
  intro H locs ls hP hD hS hl
  exact lv_ifnonnullN hx hb hd (kt H locs ls hP hD hS hl)
theorem ax_nu {q : Nat × Nat} (hK : ax_K own cc nL G) (hd : decode cc pc = .ok (.ifnull off, 3)) (kt : ax_R G nL cells slots (pc + 3, L, st, μ)) : ax_R G nL cells slots (pc, L, .inr q :: st, μ) := by
  obtain ⟨⟨p, l, e, R, s, m, args⟩, ⟨below, meth, c⟩, ⟨Q, A⟩, ⟨D, cA, ad, al, θ⟩⟩ := G
  obtain ⟨hx, hb, -⟩ := hK
  intro H locs ls hP hD hS hl
  exact lv_ifnull hx hb hd (kt H locs ls hP hD hS hl)
theorem ax_nuN (hK : ax_K own cc nL G) (hd : decode cc pc = .ok (.ifnull off, 3)) (ht : (pc : Int) + off = (tgt : Int)) (kt : ax_R G nL cells slots (tgt, L, st, μ)) : ax_R G nL cells slots (pc, L, .inl .null :: st, μ) := by
  obtain ⟨⟨p, l, e, R, s, m, args⟩, ⟨below, meth, c⟩, ⟨Q, A⟩, ⟨D, cA, ad, al, θ⟩⟩ := G
  obtain ⟨hx, hb, -⟩ := hK
  intro H locs ls hP hD hS hl
  exact lv_ifnullN hx hb hd ht (kt H locs ls hP hD hS hl)
/-- which way a switch goes: key by key -/
def ax_sel (x : Int32) (d : Nat) (F : Nat → Prop) : List (Int32 × Nat) → Prop
  | [] => F d
  | (k, t) :: r => (x = k → F t) ∧ (¬ x = k → ax_sel x d F r)
def ax_swok (pc : Nat) : List (Int × Int) → List (Int32 × Nat) → Bool
  | [], [] => true
  | (a, o) :: r, (k, t) :: r' => decide (k.toInt = a) && decide ((pc : Int) + o = (t : Int)) && ax_swok pc r r'
  | _, _ => false
theorem ax_lsw_go {x : Int32} {d : Nat} {dfl : Int} (F : Nat → Prop) (hdf : (pc : Int) + dfl = (d : Int)) : ∀ (ps : List (Int × Int)) (ks : List (Int32 × Nat)), ax_swok pc ps ks = true → ax_sel x d F ks → ∃ (off : Int) (tgt : Nat), Op.lookupswitch.offset ps dfl x.toInt = off ∧ (pc : Int) + off = (tgt : Int) ∧ F tgt
  | [], [], _, h => ⟨dfl, d, rfl, hdf, h⟩
  | (a, o) :: r, (k, t) :: r', h1, h => by
    simp only [ax_swok, Bool.and_eq_true, decide_eq_true_eq] at h1
    by_cases hk : x = k
    · refine ⟨o, t, ?_, h1.1.2, h.1 hk⟩
      rw [Op.lookupswitch.offset_cons, if_pos (by rw [hk]; exact h1.1.1.symm)]
    · obtain ⟨off, tgt, e1, e2, e3⟩ := ax_lsw_go F hdf r r' h1.2 (h.2 hk)
      exact ⟨off, tgt, by rw [lv_osw hk h1.1.1]; exact e1, e2, e3⟩
  | [], _ :: _, h1, _ => by simp [ax_swok] at h1
  | _ :: _, [], h1, _ => by simp [ax_swok] at h1
theorem ax_lsw {x : Int32} {dfl : Int} {ps : Array (Int × Int)} {len d : Nat} {ks : List (Int32 × Nat)} (hK : ax_K own cc nL G) (hd : decode cc pc = .ok (.lookupswitch dfl ps, len)) (hp : (ps.toList.zip (ps.toList.drop 1)).all (fun (a, next) => a.1 < next.1) = true) (hdf : (pc : Int) + dfl = (d : Int)) (hks : ax_swok pc ps.toList ks = true) (kk : ax_sel x d (fun t => ax_R G nL cells slots (t, L, st, μ)) ks) : ax_R G nL cells slots (pc, L, .inl (.int x) :: st, μ) := by
  obtain ⟨off, tgt, e1, e2, e3⟩ := ax_lsw_go _ hdf ps.toList ks hks kk
  obtain ⟨⟨p, l, e, R, s, m, args⟩, ⟨below, meth, c⟩, ⟨Q, A⟩, ⟨D, cA, ad, al, θ⟩⟩ := G
  obtain ⟨hx, hb, -⟩ := hK
  intro H locs ls hP hD hS hl
  exact lv_lookup hx hb hd hp e1 e2 (e3 H locs ls hP hD hS hl)
def ax_tsok (pc : Nat) (lo : Int) : List Int → List (Int32 × Nat) → Bool
  | [], [] => true
  | o :: r, (k, t) :: r' => decide (k.toInt = lo) && decide ((pc : Int) + o = (t : Int)) && ax_tsok pc (lo + 1) r r'
  | _, _ => false
theorem ax_tsw_go {x : Int32} {d : Nat} (F : Nat → Prop) : ∀ (os : List Int) (lo : Int) (ks : List (Int32 × Nat)), ax_tsok pc lo os ks = true → ax_sel x d F ks → (∃ (i : Nat) (off : Int) (tgt : Nat), x.toInt = lo + i ∧ os[i]? = some off ∧ (pc : Int) + off = (tgt : Int) ∧ F tgt) ∨ ((x.toInt < lo ∨ lo + os.length ≤ x.toInt) ∧ F d)
  | [], lo, [], _, h => Or.inr ⟨by simp only [List.length_nil]; omega, h⟩
  | o :: r, lo, (k, t) :: r', h1, h => by
    simp only [ax_tsok, Bool.and_eq_true, decide_eq_true_eq] at h1
    by_cases hk : x = k
    · exact Or.inl ⟨0, o, t, by rw [hk, h1.1.1]; simp, rfl, h1.1.2, h.1 hk⟩
    · rcases ax_tsw_go F r (lo + 1) r' h1.2 (h.2 hk) with ⟨i, off, tgt, e1, e2, e3, e4⟩ | ⟨h2, h3⟩
      · exact Or.inl ⟨i + 1, off, tgt, by rw [e1]; omega, e2, e3, e4⟩
      · refine Or.inr ⟨?_, h3⟩
        have hne : x.toInt ≠ lo := fun z => hk (Int32.toInt_inj.mp (z.trans h1.1.1.symm))
        simp only [List.length_cons]
        omega
  | [], _, _ :: _, h1, _ => by simp [ax_tsok] at h1
  | _ :: _, _, [], h1, _ => by simp [ax_tsok] at h1
theorem ax_tsw {x : Int32} {dfl lo hi : Int} {offs : Array Int} {len d : Nat} {ks : List (Int32 × Nat)} (hK : ax_K own cc nL G) (hd : decode cc pc = .ok (.tableswitch dfl lo hi offs, len)) (hhi : lo + offs.toList.length = hi + 1) (hdf : (pc : Int) + dfl = (d : Int)) (hks : ax_tsok pc lo offs.toList ks = true) (kk : ax_sel x d (fun t => ax_R G nL cells slots (t, L, st, μ)) ks) : ax_R G nL cells slots (pc, L, .inl (.int x) :: st, μ) := by
  have h0 := ax_tsw_go (pc := pc) _ offs.toList lo ks hks kk
  obtain ⟨⟨p, l, e, R, s, m, args⟩, ⟨below, meth, c⟩, ⟨Q, A⟩, ⟨D, cA, ad, al, θ⟩⟩ := G
  obtain ⟨hx, hb, -⟩ := hK
  intro H locs ls hP hD hS hl
  rcases h0 with ⟨i, off, tgt, e1, e2, e3, e4⟩ | ⟨h2, h3⟩
  · have hlt : i < offs.toList.length := (List.getElem?_eq_some_iff.mp e2).1
    exact lv_tableIn hx hb hd (by omega) (by omega) (by rw [show (x.toInt - lo).toNat = i by omega]; simpa using e2) e3 (e4 H locs ls hP hD hS hl)
  · exact lv_tableOut hx hb hd (by omega) hdf (h3 H locs ls hP hD hS hl)
end
