/-! PURE: a loop is opened -/
theorem nI_mul (a b : Nat) : nI a * nI b = nI (a * b) := (Int32.ofNat_mul a b).symm
theorem mn_I {a b : Nat} (ha : a < 2 ^ 31) (hb : b < 2 ^ 31) : f_Math_min (nI a) (nI b) = some (nI (min a b)) := by
  unfold f_Math_min
  by_cases h : b < a
  · rw [Nat.min_eq_right (by omega)]; simp (disch := omega) only [ax_let, Option.bind_some, cond_true, cond_false, if_pos, if_neg, if_true, if_false, eq_self, nI_add, nI_ltI, nI_leI, nI_eq, nI_clamp, pu_in, c_0, c_1, c_2, c_3, c_4, c_5, c_6, c_7, c_8, c_9, c_10, c_11, c_12, c_15, c_16, c_17, c_32, c_35, c_36, c_38, c_40, c_41, c_42, c_43, c_44, c_45, c_48, c_57, c_58, c_59, c_60, c_61, c_62, c_64, c_65, c_69, c_75, c_83, c_91, c_93, c_94, c_97, c_105, c_106, c_110, c_119, c_123, c_124, c_125, c_126, c_240, c_256, c_400, c_m, nI_m1, nM_i]
  · rw [Nat.min_eq_left (by omega)]; simp (disch := omega) only [ax_let, Option.bind_some, cond_true, cond_false, if_pos, if_neg, if_true, if_false, eq_self, nI_add, nI_ltI, nI_leI, nI_eq, nI_clamp, pu_in, c_0, c_1, c_2, c_3, c_4, c_5, c_6, c_7, c_8, c_9, c_10, c_11, c_12, c_15, c_16, c_17, c_32, c_35, c_36, c_38, c_40, c_41, c_42, c_43, c_44, c_45, c_48, c_57, c_58, c_59, c_60, c_61, c_62, c_64, c_65, c_69, c_75, c_83, c_91, c_93, c_94, c_97, c_105, c_106, c_110, c_119, c_123, c_124, c_125, c_126, c_240, c_256, c_400, c_m, nI_m1, nM_i]
theorem rx_note {n : Nat} {T : List Tok} {g : Nat} {ts : List Tok} {lf p c : Nat} {P : List CP} {s : ax_σ} (h : RX n T g ts lf P s) (hp : p ≤ 240) (hc : c < 8) : ∃ s', f_R_note g (nI p) (nI c) s = some s' ∧ RX n T g ts (min lf (p * 8 + c)) P s' ∧ frm (XE g) s s' := by
  have := h.2.2.1
  have hf : frm (XE g) s (ax_wI s 0 25 7 (nI (min lf (p * 8 + c)))) := frm.refl.wI _ _ _ _ (Or.inl ⟨rfl, rfl, Or.inr rfl⟩)
  refine ⟨_, rd_note h.2.1 (by omega) (by omega), ⟨h.1.keep (rdK_w (by omega)), by rw [wI_1, if_pos ⟨rfl, rfl, rfl⟩], by omega, h.2.2.2.1.keep (frm.refl.wI (P := fun g r k => g = 0 ∧ r = 25) _ _ _ _ ⟨rfl, rfl⟩) (fun g' r k hx hn => by unfold XC at hx; omega), h.2.2.2.2⟩, hf⟩
theorem oW.app {Ls : List Ln} {O : List Oq} (h : oW Ls O) (x : Ln) : oW (Ls ++ [x]) O := fun k o ho => by
  obtain ⟨y, y1, y2⟩ := h k o ho
  exact ⟨y, by rw [List.getElem?_append, if_pos (List.getElem?_eq_some_iff.mp y1).1]; exact y1, y2⟩
theorem oL_app {Ls : List Ln} {O : List Oq} (h : oW Ls O) (x : Ln) : oL (Ls ++ [x]) O = oL Ls O := by
  unfold oL
  apply List.map_congr_left
  intro o ho
  obtain ⟨k, hk, e⟩ := List.mem_iff_getElem.mp ho
  obtain ⟨y, y1, y2⟩ := h k o (by rw [List.getElem?_eq_getElem hk, e])
  rw [List.getD_eq_getElem?_getD, List.getD_eq_getElem?_getD, List.getElem?_append, if_pos (List.getElem?_eq_some_iff.mp y1).1]
theorem lo_open {F g k sk sp ins : Nat} {s : ax_σ} (hF : 4 ≤ F) (hk : k < 2) (h9 : s.1 0 25 9 = nI k) (h4 : s.1 g 1 4 = nI sk) (h5 : s.1 g 1 5 = nI sp) (h6 : s.1 g 1 6 = nI ins) : lp_R_openLoop_134 F g F (nI 4) s = some (ax_wI (ax_wI (ax_wI s 0 29 (k * 8 + 4) (nI sk)) 0 29 (k * 8 + 5) (nI sp)) 0 29 (k * 8 + 6) (nI ins)) := by
  obtain ⟨F', rfl⟩ : ∃ F', F = F' + 1 + 1 + 1 + 1 := ⟨F - 4, by omega⟩
  rw [lp_R_openLoop_134]
  simp (disch := omega) only [ax_let, Option.bind_some, cond_true, cond_false, if_pos, if_neg, if_true, if_false, eq_self, nI_add, nI_ltI, nI_leI, nI_eq, nI_clamp, pu_in, c_0, c_1, c_2, c_3, c_4, c_5, c_6, c_7, c_8, c_9, c_10, c_11, c_12, c_15, c_16, c_17, c_32, c_35, c_36, c_38, c_40, c_41, c_42, c_43, c_44, c_45, c_48, c_57, c_58, c_59, c_60, c_61, c_62, c_64, c_65, c_69, c_75, c_83, c_91, c_93, c_94, c_97, c_105, c_106, c_110, c_119, c_123, c_124, c_125, c_126, c_240, c_256, c_400, c_m, nI_m1, nM_i, wI_1, wI_2, wL_1, wL_2, true_and, and_true, and_self, false_and, and_false, if_true, if_false, h9, h4, nI_mul]
  rw [lp_R_openLoop_134]
  simp (disch := omega) only [ax_let, Option.bind_some, cond_true, cond_false, if_pos, if_neg, if_true, if_false, eq_self, nI_add, nI_ltI, nI_leI, nI_eq, nI_clamp, pu_in, c_0, c_1, c_2, c_3, c_4, c_5, c_6, c_7, c_8, c_9, c_10, c_11, c_12, c_15, c_16, c_17, c_32, c_35, c_36, c_38, c_40, c_41, c_42, c_43, c_44, c_45, c_48, c_57, c_58, c_59, c_60, c_61, c_62, c_64, c_65, c_69, c_75, c_83, c_91, c_93, c_94, c_97, c_105, c_106, c_110, c_119, c_123, c_124, c_125, c_126, c_240, c_256, c_400, c_m, nI_m1, nM_i, wI_1, wI_2, wL_1, wL_2, true_and, and_true, and_self, false_and, and_false, if_true, if_false, h9, h5, nI_mul]
  rw [lp_R_openLoop_134]
  simp (disch := omega) only [ax_let, Option.bind_some, cond_true, cond_false, if_pos, if_neg, if_true, if_false, eq_self, nI_add, nI_ltI, nI_leI, nI_eq, nI_clamp, pu_in, c_0, c_1, c_2, c_3, c_4, c_5, c_6, c_7, c_8, c_9, c_10, c_11, c_12, c_15, c_16, c_17, c_32, c_35, c_36, c_38, c_40, c_41, c_42, c_43, c_44, c_45, c_48, c_57, c_58, c_59, c_60, c_61, c_62, c_64, c_65, c_69, c_75, c_83, c_91, c_93, c_94, c_97, c_105, c_106, c_110, c_119, c_123, c_124, c_125, c_126, c_240, c_256, c_400, c_m, nI_m1, nM_i, wI_1, wI_2, wL_1, wL_2, true_and, and_true, and_self, false_and, and_false, if_true, if_false, h9, h6, nI_mul]
  rw [lp_R_openLoop_134]
  simp (disch := omega) only [ax_let, Option.bind_some, cond_true, cond_false, if_pos, if_neg, if_true, if_false, eq_self, nI_add, nI_ltI, nI_leI, nI_eq, nI_clamp, pu_in, c_0, c_1, c_2, c_3, c_4, c_5, c_6, c_7, c_8, c_9, c_10, c_11, c_12, c_15, c_16, c_17, c_32, c_35, c_36, c_38, c_40, c_41, c_42, c_43, c_44, c_45, c_48, c_57, c_58, c_59, c_60, c_61, c_62, c_64, c_65, c_69, c_75, c_83, c_91, c_93, c_94, c_97, c_105, c_106, c_110, c_119, c_123, c_124, c_125, c_126, c_240, c_256, c_400, c_m, nI_m1, nM_i, wI_1, wI_2, wL_1, wL_2, true_and, and_true, and_self, false_and, and_false, if_true, if_false]
/-- the least fault behind the opening of a loop -/
def lfOp (L : List Nat) (lf p l v q : Nat) : Nat := if v < 1 then min (lfN (if l ∈ L then min lf (p * 8 + 4) else lf) 17 v q) (q * 8 + 3) else lfN (if l ∈ L then min lf (p * 8 + 4) else lf) 17 v q
def opK (F g : Nat) (l : Int32) (s9 : ax_σ) : Option (Int32 × ax_σ) := Option.bind (f_R_takeNumber F g (17 : Int32) s9) (fun (r11, s12) =>
            if r11 = (-1 : Int32) then
              some (((0 : Int32), s12))
            else
              Option.bind (f_R_take g (91 : Int32) s12) (fun (r14, s15) =>
                if r14 = (0 : Int32) then
                  some (((0 : Int32), s15))
                else
                  Option.bind (
                    if (1 : Int32) ≤ r11 then
                      some s15
                    else
                      Option.bind (f_R_note g (s9.1 0 27 ((s9.1 0 25 3)).toNatClampNeg) (3 : Int32) s15) (fun s17 =>
                        some s17)) (fun s20 =>
                    Option.bind (f_Math_min r11 (16 : Int32)) (fun r21 =>
                      Option.bind (f_L_add g (91 : Int32) l r21 (s20.1 g 4 8) s20) (fun (r23, s24) =>
                        bif ax_in (s20.1 0 25 9) 2 then
                        ax_let (ax_wI s24 0 28 ((s20.1 0 25 9)).toNatClampNeg r23) (fun s27 =>
                          Option.bind (lp_R_openLoop_134 F g F (4 : Int32) s27) (fun s32 =>
                            ax_let (ax_wI s32 0 25 9 ((s32.1 0 25 9) + (1 : Int32))) (fun s33 =>
                              some (((1 : Int32), s33)))))
                        else none)))))
section
variable {K : KS} {ts : List Tok} {Ls : List Ln} {P5 : List C5} {lf sk sp ins rg : Nat} {O : List Oq} {s : ax_σ}
theorem rd_open {F c p : Nat} (hF : 241 ≤ F) (hc : c = 105 ∨ c = 106) (h : RB K ((c, p) :: ts) Ls P5 lf sk sp ins rg O s) (hl : 2 * Ls.length + O.length + ((c, p) :: ts).length ≤ 240) : ro (kn K) (kT K) (if O.length = 2 then (.error ((c, p) :: ts) : Rd Th) else rbind (pNumR ts) (fun vq r => rbind (pTake 91 r) (fun _ r' => .ok ((2, p, c - 105, vq.1, vq.2, [], []), r')))) (frm (XR (kg K)) s) (fun t r v s' => v = nI 1 ∧ RB K r (Ls ++ [(91, thw t, min (thv t) 16, P5.length, P5.length, 0)]) P5 (lfOp (oL Ls O) lf (thp t) (thw t) (thv t) (thq t)) sk sp ins rg (O ++ [(Ls.length, sk, sp, ins)]) s' ∧ r.length + 3 ≤ ts.length + 1) (nI 0) (f_R_openLoop F (kg K) s) := by
  have hE := h.ec
  obtain ⟨⟨P, h1, h1'⟩, h2, h3, h4, h5, h6, h7, h8, h9, h10⟩ := id h
  have h49 := h4.2.1
  have h41 := h4.1
  have hat := h1.1.at
  have o1 : s.1 0 26 (s.1 0 25 3).toNatClampNeg = nI c := hat.1
  have o2 : s.1 0 27 (s.1 0 25 3).toNatClampNeg = nI p := hat.2.1
  have o3 : p ≤ 240 := hat.2.2.2.1
  by_cases hO : O.length = 2
  · rw [if_pos hO]
    refine ⟨s, ?_, h1.1, frm.refl⟩
    unfold f_R_openLoop
    simp (disch := omega) only [ax_let, Option.bind_some, cond_true, cond_false, if_pos, if_neg, if_true, if_false, eq_self, nI_add, nI_ltI, nI_leI, nI_eq, nI_clamp, pu_in, c_0, c_1, c_2, c_3, c_4, c_5, c_6, c_7, c_8, c_9, c_10, c_11, c_12, c_15, c_16, c_17, c_32, c_35, c_36, c_38, c_40, c_41, c_42, c_43, c_44, c_45, c_48, c_57, c_58, c_59, c_60, c_61, c_62, c_64, c_65, c_69, c_75, c_83, c_91, c_93, c_94, c_97, c_105, c_106, c_110, c_119, c_123, c_124, c_125, c_126, c_240, c_256, c_400, c_m, nI_m1, nM_i, h49, hO]
  · rw [if_neg hO]
    have ho := rd_isOpen (F := F) (l := c - 105) (by omega) (by omega) hE
    have es : nI c - nI 105 = nI (c - 105) := nI_sub (by omega)
    simp only [List.length_cons] at hl
    -- a loop of the same LETTER is open already
    have hA : ∃ s1, RX (kn K) (kT K) (kg K) ((c, p) :: ts) (if c - 105 ∈ oL Ls O then min lf (p * 8 + 4) else lf) P s1 ∧ frm (XE (kg K)) s s1 ∧ f_R_openLoop F (kg K) s = opK F (kg K) (nI (c - 105)) (ax_wI s1 0 25 3 (s1.1 0 25 3 + nI 1)) := by
      by_cases hL : c - 105 ∈ oL Ls O
      · obtain ⟨s1, a1, a2, a3⟩ := rx_note (c := 4) h1 o3 (by omega)
        refine ⟨s1, by rw [if_pos hL]; exact a2, a3, ?_⟩
        rw [if_pos hL] at ho
        have hin := a2.step.1.1.inb
        unfold f_R_openLoop opK
        simp (disch := omega) only [ax_let, Option.bind_some, cond_true, cond_false, if_pos, if_neg, if_true, if_false, eq_self, nI_add, nI_ltI, nI_leI, nI_eq, nI_clamp, pu_in, c_0, c_1, c_2, c_3, c_4, c_5, c_6, c_7, c_8, c_9, c_10, c_11, c_12, c_15, c_16, c_17, c_32, c_35, c_36, c_38, c_40, c_41, c_42, c_43, c_44, c_45, c_48, c_57, c_58, c_59, c_60, c_61, c_62, c_64, c_65, c_69, c_75, c_83, c_91, c_93, c_94, c_97, c_105, c_106, c_110, c_119, c_123, c_124, c_125, c_126, c_240, c_256, c_400, c_m, nI_m1, nM_i, h49, h1.1.inb, o1, o2, es, ho, a1, hin]
        rfl
      · refine ⟨s, by rw [if_neg hL]; exact h1, frm.refl, ?_⟩
        rw [if_neg hL] at ho
        have hin := h1.step.1.1.inb
        unfold f_R_openLoop opK
        simp (disch := omega) only [ax_let, Option.bind_some, cond_true, cond_false, if_pos, if_neg, if_true, if_false, eq_self, nI_add, nI_ltI, nI_leI, nI_eq, nI_clamp, pu_in, c_0, c_1, c_2, c_3, c_4, c_5, c_6, c_7, c_8, c_9, c_10, c_11, c_12, c_15, c_16, c_17, c_32, c_35, c_36, c_38, c_40, c_41, c_42, c_43, c_44, c_45, c_48, c_57, c_58, c_59, c_60, c_61, c_62, c_64, c_65, c_69, c_75, c_83, c_91, c_93, c_94, c_97, c_105, c_106, c_110, c_119, c_123, c_124, c_125, c_126, c_240, c_256, c_400, c_m, nI_m1, nM_i, h49, h1.1.inb, o1, o2, es, ho, hin]
        rfl
    obtain ⟨s1, a1, a2, a3⟩ := hA
    obtain ⟨b1, b2⟩ := a1.step
    rw [a3]
    unfold opK
    match hp : pNumR ts with
    | .error r =>
      obtain ⟨p1, p2⟩ := pNumR_er hp
      obtain ⟨s2, c1, c2, c3⟩ := rx_num_no (F := F) (b := 17) (by omega) (by omega) b1 p1
      refine ⟨s2, ?_, by rw [p2]; exact c2, XR.ofE ((a2.trans b2).trans c3)⟩
      simp (disch := omega) only [ax_let, Option.bind_some, cond_true, cond_false, if_pos, if_neg, if_true, if_false, eq_self, nI_add, nI_ltI, nI_leI, nI_eq, nI_clamp, pu_in, c_0, c_1, c_2, c_3, c_4, c_5, c_6, c_7, c_8, c_9, c_10, c_11, c_12, c_15, c_16, c_17, c_32, c_35, c_36, c_38, c_40, c_41, c_42, c_43, c_44, c_45, c_48, c_57, c_58, c_59, c_60, c_61, c_62, c_64, c_65, c_69, c_75, c_83, c_91, c_93, c_94, c_97, c_105, c_106, c_110, c_119, c_123, c_124, c_125, c_126, c_240, c_256, c_400, c_m, nI_m1, nM_i, c1]
    | .ok ((v, q), r) =>
      have p1 := pNumR_ok hp
      have hq : (ax_wI s1 0 25 3 (s1.1 0 25 3 + nI 1)).1 0 27 (((ax_wI s1 0 25 3 (s1.1 0 25 3 + nI 1)).1 0 25 3)).toNatClampNeg = nI q := by
        have := b1.1.at.2.1
        have hpl : pl (kn K) ts = q := by
          match ts, p1 with
          | (d, y) :: ts', p1 =>
            simp only [pNum] at p1
            split at p1
            · injection p1 with p1; injection p1 with _ p1; injection p1 with p1 _
            · cases p1
        rw [hpl] at this; exact this
      obtain ⟨s2, c1, c2, c3, c4, c5⟩ := rx_num_ok (F := F) (b := 17) (by omega) (by omega) b1 p1
      have hl1 := pNum_len p1
      show ro (kn K) (kT K) (rbind (pTake 91 r) _) _ _ _ _
      match ht : pTake 91 r with
      | .error r' =>
        have d1 := rx_take_er (g := kg K) (by omega) (by omega) c2.1 ht
        refine ⟨s2, ?_, by rw [d1.2]; exact c2.1, XR.ofE ((a2.trans b2).trans c3)⟩
        simp (disch := omega) only [ax_let, Option.bind_some, cond_true, cond_false, if_pos, if_neg, if_true, if_false, eq_self, nI_add, nI_ltI, nI_leI, nI_eq, nI_clamp, pu_in, c_0, c_1, c_2, c_3, c_4, c_5, c_6, c_7, c_8, c_9, c_10, c_11, c_12, c_15, c_16, c_17, c_32, c_35, c_36, c_38, c_40, c_41, c_42, c_43, c_44, c_45, c_48, c_57, c_58, c_59, c_60, c_61, c_62, c_64, c_65, c_69, c_75, c_83, c_91, c_93, c_94, c_97, c_105, c_106, c_110, c_119, c_123, c_124, c_125, c_126, c_240, c_256, c_400, c_m, nI_m1, nM_i, c1, d1.1]
      | .ok ((), r') =>
        obtain ⟨s3, d1, d2, d3⟩ := rx_take_ok (by omega) c2 ht
        have hl2 := pTake_len ht
        have hA : ∃ s4, RX (kn K) (kT K) (kg K) r' (lfOp (oL Ls O) lf p (c - 105) v q) P s4 ∧ frm (XE (kg K)) s3 s4 ∧ (if 1 ≤ v then some s3 else Option.bind (f_R_note (kg K) (nI q) (nI 3) s3) (fun s17 => some s17)) = some s4 := by
          unfold lfOp
          by_cases hv : v < 1
          · obtain ⟨s4, e1, e2, e3⟩ := rx_note (c := 3) d2 c5 (by omega)
            refine ⟨s4, by rw [if_pos hv]; exact e2, e3, ?_⟩
            simp (disch := omega) only [ax_let, Option.bind_some, cond_true, cond_false, if_pos, if_neg, if_true, if_false, eq_self, nI_add, nI_ltI, nI_leI, nI_eq, nI_clamp, pu_in, c_0, c_1, c_2, c_3, c_4, c_5, c_6, c_7, c_8, c_9, c_10, c_11, c_12, c_15, c_16, c_17, c_32, c_35, c_36, c_38, c_40, c_41, c_42, c_43, c_44, c_45, c_48, c_57, c_58, c_59, c_60, c_61, c_62, c_64, c_65, c_69, c_75, c_83, c_91, c_93, c_94, c_97, c_105, c_106, c_110, c_119, c_123, c_124, c_125, c_126, c_240, c_256, c_400, c_m, nI_m1, nM_i, e1]
          · refine ⟨s3, by rw [if_neg hv]; exact d2, frm.refl, ?_⟩
            simp (disch := omega) only [ax_let, Option.bind_some, cond_true, cond_false, if_pos, if_neg, if_true, if_false, eq_self, nI_add, nI_ltI, nI_leI, nI_eq, nI_clamp, pu_in, c_0, c_1, c_2, c_3, c_4, c_5, c_6, c_7, c_8, c_9, c_10, c_11, c_12, c_15, c_16, c_17, c_32, c_35, c_36, c_38, c_40, c_41, c_42, c_43, c_44, c_45, c_48, c_57, c_58, c_59, c_60, c_61, c_62, c_64, c_65, c_69, c_75, c_83, c_91, c_93, c_94, c_97, c_105, c_106, c_110, c_119, c_123, c_124, c_125, c_126, c_240, c_256, c_400, c_m, nI_m1, nM_i]
        obtain ⟨s4, e1, e2, e3⟩ := hA
        have fx : frm (XE (kg K)) s s4 := (((a2.trans b2).trans c3).trans d3).trans e2
        have hB := h.ofX fx e1 h1'
        obtain ⟨-, k2, k3, k4, k5, k6, k7, k8, k9, k10⟩ := id hB
        have hPl : P5.length = P.length := by rw [← h1', List.length_map]
        have e48 : s4.1 (kg K) 4 8 = nI P5.length := by rw [hPl]; exact e1.2.2.2.1.2.1
        obtain ⟨s5, f1, f2, f3⟩ := rl_add (a1 := 91) (a2 := c - 105) (a3 := min v 16) (a4 := P5.length) k2 (by omega)
        have hC := hB.ofN f3 f2 (h10.app _)
        obtain ⟨-, l2, l3, l4, l5, l6, l7, l8, l9, l10⟩ := id hC
        have g6 : (ax_wI s5 0 28 O.length (nI Ls.length)).1 0 25 9 = nI O.length := by rw [wI_1, if_neg (by omega)]; exact l4.2.1
        have g7 := lo_open (F := F) (g := kg K) (s := ax_wI s5 0 28 O.length (nI Ls.length)) (by omega) (by omega) g6 (by rw [wI_1, if_neg (by omega)]; exact l3.2 4 _ rfl) (by rw [wI_1, if_neg (by omega)]; exact l3.2 5 _ rfl) (by rw [wI_1, if_neg (by omega)]; exact l3.2 6 _ rfl)
        have ff : frm XO s5 (ax_wI (ax_wI (ax_wI (ax_wI (ax_wI s5 0 28 O.length (nI Ls.length)) 0 29 (O.length * 8 + 4) (nI sk)) 0 29 (O.length * 8 + 5) (nI sp)) 0 29 (O.length * 8 + 6) (nI ins)) 0 25 9 (nI (O.length + 1))) := by
          refine ((((frm.refl.wI _ _ _ _ ?_).wI _ _ _ _ ?_).wI _ _ _ _ ?_).wI _ _ _ _ ?_).wI _ _ _ _ ?_ <;> (unfold XO; omega)
        refine ⟨nI 1, _, ?_, ⟨rfl, hC.ofO ff ?_ ?_, by omega⟩, ((XR.ofE fx).trans (XR.ofN f3)).trans (XR.ofO ff)⟩
        · have hl9 : s4.1 0 25 9 = nI O.length := k4.2.1
          simp (disch := omega) only [ax_let, Option.bind_some, cond_true, cond_false, if_pos, if_neg, if_true, if_false, eq_self, nI_add, nI_ltI, nI_leI, nI_eq, nI_clamp, pu_in, c_0, c_1, c_2, c_3, c_4, c_5, c_6, c_7, c_8, c_9, c_10, c_11, c_12, c_15, c_16, c_17, c_32, c_35, c_36, c_38, c_40, c_41, c_42, c_43, c_44, c_45, c_48, c_57, c_58, c_59, c_60, c_61, c_62, c_64, c_65, c_69, c_75, c_83, c_91, c_93, c_94, c_97, c_105, c_106, c_110, c_119, c_123, c_124, c_125, c_126, c_240, c_256, c_400, c_m, nI_m1, nM_i, c1, d1, hq, e3, mn_I, e48, f1, hl9, g7]
          simp (disch := omega) only [ax_let, Option.bind_some, cond_true, cond_false, if_pos, if_neg, if_true, if_false, eq_self, nI_add, nI_ltI, nI_leI, nI_eq, nI_clamp, pu_in, c_0, c_1, c_2, c_3, c_4, c_5, c_6, c_7, c_8, c_9, c_10, c_11, c_12, c_15, c_16, c_17, c_32, c_35, c_36, c_38, c_40, c_41, c_42, c_43, c_44, c_45, c_48, c_57, c_58, c_59, c_60, c_61, c_62, c_64, c_65, c_69, c_75, c_83, c_91, c_93, c_94, c_97, c_105, c_106, c_110, c_119, c_123, c_124, c_125, c_126, c_240, c_256, c_400, c_m, nI_m1, nM_i, wI_1, wI_2, wL_1, wL_2, true_and, and_true, and_self, false_and, and_false, if_true, if_false, l4.2.1]
        · refine ⟨by simp only [List.length_append, List.length_cons, List.length_nil]; omega, ?_, fun k o hk => ?_⟩
          · simp only [List.length_append, List.length_cons, List.length_nil]
            simp (disch := omega) only [wI_1, wI_2, wL_1, wL_2, true_and, and_true, and_self, false_and, and_false, if_true, if_false, if_pos, if_neg]
          · rcases getc hk with ⟨g1, g2⟩ | ⟨g1, g2⟩
            · obtain ⟨z1, z2, z3, z4⟩ := l4.2.2 k o g2
              refine ⟨?_, ?_, ?_, ?_⟩ <;> simp (disch := omega) only [wI_1, wI_2, wL_1, wL_2, true_and, and_true, and_self, false_and, and_false, if_true, if_false, if_pos, if_neg, z1, z2, z3, z4]
            · subst g1 g2
              refine ⟨?_, ?_, ?_, ?_⟩ <;> simp (disch := omega) only [wI_1, wI_2, wL_1, wL_2, true_and, and_true, and_self, false_and, and_false, if_true, if_false, if_pos, if_neg]
        · intro k o hk
          rcases getc hk with ⟨g1, g2⟩ | ⟨g1, g2⟩
          · exact (h10.app _) k o g2
          · subst g2
            exact ⟨_, by rw [List.getElem?_append, if_neg (Nat.lt_irrefl _), Nat.sub_self]; rfl, rfl, by show c - 105 < 2; omega, by show min v 16 ≤ 16; omega⟩
end
