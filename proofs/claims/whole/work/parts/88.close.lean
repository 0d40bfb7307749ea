/-! PURE: a loop is closed -/
theorem nI_turns {x0 x t : Nat} (h : x0 ≤ x) : nI x + (nI x - nI x0) * (nI t - nI 1) = nI (x0 + (x - x0) * t) := by
  rw [nI_sub h, Int32.mul_sub, nI_mul, nI_mul, Nat.mul_one]
  have e : nI x = nI x0 + nI (x - x0) := by rw [nI_add, show x0 + (x - x0) = x by omega]
  rw [e, Int32.sub_eq_add_neg, Int32.add_comm (nI ((x - x0) * t)), Int32.add_assoc, ← Int32.add_assoc (nI (x - x0)), ← Int32.sub_eq_add_neg, Int32.sub_self]
  rw [show (0 : Int32) = nI 0 from rfl, nI_add, nI_add, Nat.zero_add]
theorem lc_close {F g k m t sk sp ins sk0 sp0 ins0 : Nat} {s : ax_σ} (hF : 4 ≤ F) (hk : k < 2) (hm : m < 120) (h9 : s.1 0 25 9 = nI k) (ht : s.1 g 16 m = nI t) (h4 : s.1 g 1 4 = nI sk) (h5 : s.1 g 1 5 = nI sp) (h6 : s.1 g 1 6 = nI ins) (j4 : s.1 0 29 (k * 8 + 4) = nI sk0) (j5 : s.1 0 29 (k * 8 + 5) = nI sp0) (j6 : s.1 0 29 (k * 8 + 6) = nI ins0) (l4 : sk0 ≤ sk) (l5 : sp0 ≤ sp) (l6 : ins0 ≤ ins) : lp_R_closeLoop_97 F g (nI m) F (nI 4) s = some (ax_wI (ax_wI (ax_wI s g 1 4 (nI (sk0 + (sk - sk0) * t))) g 1 5 (nI (sp0 + (sp - sp0) * t))) g 1 6 (nI (ins0 + (ins - ins0) * t))) := by
  obtain ⟨F', rfl⟩ : ∃ F', F = F' + 1 + 1 + 1 + 1 := ⟨F - 4, by omega⟩
  have t4 := nI_turns (t := t) l4
  have t5 := nI_turns (t := t) l5
  have t6 := nI_turns (t := t) l6
  rw [lp_R_closeLoop_97]
  simp (disch := omega) only [ax_let, Option.bind_some, cond_true, cond_false, if_pos, if_neg, if_true, if_false, eq_self, nI_add, nI_ltI, nI_leI, nI_eq, nI_clamp, pu_in, c_0, c_1, c_2, c_3, c_4, c_5, c_6, c_7, c_8, c_9, c_10, c_11, c_12, c_15, c_16, c_17, c_32, c_35, c_36, c_38, c_40, c_41, c_42, c_43, c_44, c_45, c_48, c_57, c_58, c_59, c_60, c_61, c_62, c_64, c_65, c_69, c_75, c_83, c_91, c_93, c_94, c_97, c_105, c_106, c_110, c_119, c_123, c_124, c_125, c_126, c_240, c_256, c_400, c_m, nI_m1, nM_i, wI_1, wI_2, wL_1, wL_2, true_and, and_true, and_self, false_and, and_false, if_true, if_false, h9, h4, j4, ht, nI_mul, t4]
  rw [lp_R_closeLoop_97]
  simp (disch := omega) only [ax_let, Option.bind_some, cond_true, cond_false, if_pos, if_neg, if_true, if_false, eq_self, nI_add, nI_ltI, nI_leI, nI_eq, nI_clamp, pu_in, c_0, c_1, c_2, c_3, c_4, c_5, c_6, c_7, c_8, c_9, c_10, c_11, c_12, c_15, c_16, c_17, c_32, c_35, c_36, c_38, c_40, c_41, c_42, c_43, c_44, c_45, c_48, c_57, c_58, c_59, c_60, c_61, c_62, c_64, c_65, c_69, c_75, c_83, c_91, c_93, c_94, c_97, c_105, c_106, c_110, c_119, c_123, c_124, c_125, c_126, c_240, c_256, c_400, c_m, nI_m1, nM_i, wI_1, wI_2, wL_1, wL_2, true_and, and_true, and_self, false_and, and_false, if_true, if_false, h9, h5, j5, ht, nI_mul, t5]
  rw [lp_R_closeLoop_97]
  simp (disch := omega) only [ax_let, Option.bind_some, cond_true, cond_false, if_pos, if_neg, if_true, if_false, eq_self, nI_add, nI_ltI, nI_leI, nI_eq, nI_clamp, pu_in, c_0, c_1, c_2, c_3, c_4, c_5, c_6, c_7, c_8, c_9, c_10, c_11, c_12, c_15, c_16, c_17, c_32, c_35, c_36, c_38, c_40, c_41, c_42, c_43, c_44, c_45, c_48, c_57, c_58, c_59, c_60, c_61, c_62, c_64, c_65, c_69, c_75, c_83, c_91, c_93, c_94, c_97, c_105, c_106, c_110, c_119, c_123, c_124, c_125, c_126, c_240, c_256, c_400, c_m, nI_m1, nM_i, wI_1, wI_2, wL_1, wL_2, true_and, and_true, and_self, false_and, and_false, if_true, if_false, h9, h6, j6, ht, nI_mul, t6]
  rw [lp_R_closeLoop_97]
  simp (disch := omega) only [ax_let, Option.bind_some, cond_true, cond_false, if_pos, if_neg, if_true, if_false, eq_self, nI_add, nI_ltI, nI_leI, nI_eq, nI_clamp, pu_in, c_0, c_1, c_2, c_3, c_4, c_5, c_6, c_7, c_8, c_9, c_10, c_11, c_12, c_15, c_16, c_17, c_32, c_35, c_36, c_38, c_40, c_41, c_42, c_43, c_44, c_45, c_48, c_57, c_58, c_59, c_60, c_61, c_62, c_64, c_65, c_69, c_75, c_83, c_91, c_93, c_94, c_97, c_105, c_106, c_110, c_119, c_123, c_124, c_125, c_126, c_240, c_256, c_400, c_m, nI_m1, nM_i, wI_1, wI_2, wL_1, wL_2, true_and, and_true, and_self, false_and, and_false, if_true, if_false]
def lw0 : Ln := (0, 0, 0, 0, 0, 0)
def lnW (x : Ln) (d : Nat) : Ln := (x.1, x.2.1, x.2.2.1, x.2.2.2.1, x.2.2.2.2.1, d)
/-- the lines behind the close of the loop that begins in line m -/
def clL (Ls : List Ln) (pl m d : Nat) : List Ln := if m + 1 = Ls.length then Ls.take m else Ls.set m (lnW (Ls.getD m lw0) d) ++ [(93, (Ls.getD m lw0).2.1, m, pl, pl, 0)]
def clN (Ls : List Ln) (m x0 x : Nat) : Nat := if m + 1 = Ls.length then x else x0 + (x - x0) * (Ls.getD m lw0).2.2.1
def clK (F g : Nat) (s2 : ax_σ) : Option (Int32 × ax_σ) :=
        bif ax_in (s2.1 0 25 9) 2 then
        if (s2.1 0 28 ((s2.1 0 25 9)).toNatClampNeg) = ((s2.1 g 13 6) - (1 : Int32)) then
          ax_let (ax_wI s2 g 13 6 (s2.1 0 28 ((s2.1 0 25 9)).toNatClampNeg)) (fun s20 =>
            some (((1 : Int32), s20)))
        else
          bif ax_in (4 : Int32) 8 then
          bif ax_in (((s2.1 0 25 9) * (8 : Int32)) + (4 : Int32)) 16 then
          bif ax_in (s2.1 0 28 ((s2.1 0 25 9)).toNatClampNeg) 120 then
          ax_let (ax_wI s2 g 19 ((s2.1 0 28 ((s2.1 0 25 9)).toNatClampNeg)).toNatClampNeg ((s2.1 g 1 ((4 : Int32)).toNatClampNeg) - (s2.1 0 29 ((((s2.1 0 25 9) * (8 : Int32)) + (4 : Int32))).toNatClampNeg))) (fun s7 =>
            Option.bind (lp_R_closeLoop_97 F g (s2.1 0 28 ((s2.1 0 25 9)).toNatClampNeg) F (4 : Int32) s7) (fun s15 =>
              bif ax_in (s2.1 0 28 ((s2.1 0 25 9)).toNatClampNeg) 120 then
              Option.bind (f_L_add g (93 : Int32) (s15.1 g 15 ((s2.1 0 28 ((s2.1 0 25 9)).toNatClampNeg)).toNatClampNeg) (s2.1 0 28 ((s2.1 0 25 9)).toNatClampNeg) (s15.1 g 4 8) s15) (fun (r17, s18) =>
                some (((1 : Int32), s18)))
              else none))
          else none
          else none
          else none
        else none
section
variable {K : KS} {ts : List Tok} {Ls : List Ln} {P5 : List C5} {lf sk sp ins rg : Nat} {O : List Oq} {s : ax_σ}
theorem rd_close {F c p m sk0 sp0 ins0 : Nat} (hF : 241 ≤ F) (h : RB K ((c, p) :: ts) Ls P5 lf sk sp ins rg (O ++ [(m, sk0, sp0, ins0)]) s) (h9 : 2 * Ls.length + (O ++ [(m, sk0, sp0, ins0)]).length + ((c, p) :: ts).length ≤ 240) (hS : ∀ o ∈ O, o.1 < m) (l4 : sk0 ≤ sk) (l5 : sp0 ≤ sp) (l6 : ins0 ≤ ins) : ∃ s', f_R_closeLoop F (kg K) s = some (nI 1, s') ∧ RB K ts (clL Ls P5.length m (sk - sk0)) P5 lf (clN Ls m sk0 sk) (clN Ls m sp0 sp) (clN Ls m ins0 ins) rg O s' ∧ frm (XR (kg K)) s s' := by
  obtain ⟨⟨P, h1, h1'⟩, h2, h3, h4, h5, h6, h7, h8, -, h10⟩ := id h
  have hO : (O ++ [(m, sk0, sp0, ins0)]).length = O.length + 1 := by rw [List.length_append]; rfl
  have hk : O.length < 2 := by have := h4.1; rw [hO] at this; omega
  have h49 : s.1 0 25 9 = nI (O.length + 1) := by rw [← hO]; exact h4.2.1
  have hlast : (O ++ [(m, sk0, sp0, ins0)])[O.length]? = some (m, sk0, sp0, ins0) := by rw [List.getElem?_append, if_neg (Nat.lt_irrefl _), Nat.sub_self]; rfl
  obtain ⟨q1, q2, q3, q4⟩ := h4.2.2 O.length _ hlast
  simp only at q1 q2 q3 q4
  obtain ⟨x, x1, x2, x3, x4⟩ := h10 O.length _ hlast
  simp only at x1
  have hm : m < Ls.length := (List.getElem?_eq_some_iff.mp x1).1
  have hLs := h2.1
  have hx : Ls.getD m lw0 = x := by rw [List.getD_eq_getElem?_getD, x1]; rfl
  obtain ⟨y1, y2, y3, y4, y5, y6⟩ := h2.2.2 m x x1
  rw [List.length_cons, hO] at h9
  have h13 := h2.2.1
  have hPl : P5.length = P.length := by rw [← h1', List.length_map]
  obtain ⟨b1, b2⟩ := h1.step
  have hsub : nI (O.length + 1) - nI 1 = nI O.length := nI_sub (by omega)
  have hB := h.ofX b2 b1 h1'
  -- the number of open loops goes down
  have ff : frm XO (ax_wI s 0 25 3 (s.1 0 25 3 + nI 1)) (ax_wI (ax_wI s 0 25 3 (s.1 0 25 3 + nI 1)) 0 25 9 (nI O.length)) := frm.refl.wI _ _ _ _ (by unfold XO; omega)
  have hC : RB K ts Ls P5 lf sk sp ins rg O (ax_wI (ax_wI s 0 25 3 (s.1 0 25 3 + nI 1)) 0 25 9 (nI O.length)) := by
    obtain ⟨-, -, -, k4, -⟩ := id hB
    refine hB.ofO ff ⟨by omega, by simp (disch := omega) only [wI_1, wI_2, wL_1, wL_2, true_and, and_true, and_self, false_and, and_false, if_true, if_false, if_pos, if_neg], fun k o hko => ?_⟩ (fun k o hko => ?_)
    · have hkl := (List.getElem?_eq_some_iff.mp hko).1
      obtain ⟨z1, z2, z3, z4⟩ := k4.2.2 k o (by rw [List.getElem?_append, if_pos hkl]; exact hko)
      refine ⟨?_, ?_, ?_, ?_⟩ <;> simp (disch := omega) only [wI_1 _ 0 25 9, if_neg, z1, z2, z3, z4]
    · have hkl := (List.getElem?_eq_some_iff.mp hko).1
      exact h10 k o (by rw [List.getElem?_append, if_pos hkl]; exact hko)
  have fr0 : frm (XR (kg K)) s (ax_wI (ax_wI s 0 25 3 (s.1 0 25 3 + nI 1)) 0 25 9 (nI O.length)) := (XR.ofE b2).trans (XR.ofO ff)
  generalize hs2 : ax_wI (ax_wI s 0 25 3 (s.1 0 25 3 + nI 1)) 0 25 9 (nI O.length) = s2 at *
  have r9 : s2.1 0 25 9 = nI O.length := by obtain ⟨-, -, -, k4, -⟩ := id hC; exact k4.2.1
  have r28 : s2.1 0 28 O.length = nI m := by rw [← hs2]; simp (disch := omega) only [wI_1, wI_2, wL_1, wL_2, true_and, and_true, and_self, false_and, and_false, if_true, if_false, if_pos, if_neg, q1]
  have r13 : s2.1 (kg K) 13 6 = nI Ls.length := by obtain ⟨-, k2, -⟩ := id hC; exact k2.2.1
  have start : f_R_closeLoop F (kg K) s = clK F (kg K) s2 := by
    have e9 : (ax_wI s 0 25 3 (s.1 0 25 3 + nI 1)).1 0 25 9 = nI (O.length + 1) := by simp (disch := omega) only [wI_1, wI_2, wL_1, wL_2, true_and, and_true, and_self, false_and, and_false, if_true, if_false, if_pos, if_neg, h49]
    have hs2' : ax_wI (ax_wI s 0 25 3 (s.1 0 25 3 + nI 1)) 0 25 9 ((ax_wI s 0 25 3 (s.1 0 25 3 + nI 1)).1 0 25 9 - nI 1) = s2 := by rw [e9, hsub, hs2]
    unfold f_R_closeLoop
    rw [if_neg (by rw [h49]; exact nI_ne0 (by omega) (by omega))]
    show clK F (kg K) (ax_wI (ax_wI s 0 25 3 (s.1 0 25 3 + nI 1)) 0 25 9 ((ax_wI s 0 25 3 (s.1 0 25 3 + nI 1)).1 0 25 9 - nI 1)) = _
    rw [hs2']
  rw [start]
  unfold clK
  obtain ⟨⟨P', k1, k1'⟩, k2, k3, k4, k5, k6, k7, k8, k9, k10⟩ := id hC
  by_cases he : m + 1 = Ls.length
  · -- nothing in it
    have e1 : nI Ls.length - nI 1 = nI m := by rw [nI_sub (by omega)]; congr 1; omega
    have fn : frm (XN (kg K)) s2 (ax_wI s2 (kg K) 13 6 (nI m)) := frm.refl.wI _ _ _ _ (by unfold XN; omega)
    refine ⟨ax_wI s2 (kg K) 13 6 (nI m), ?_, ?_, fr0.trans (XR.ofN fn)⟩
    · simp (disch := omega) only [ax_let, Option.bind_some, cond_true, cond_false, if_pos, if_neg, if_true, if_false, eq_self, nI_add, nI_ltI, nI_leI, nI_eq, nI_clamp, pu_in, c_0, c_1, c_2, c_3, c_4, c_5, c_6, c_7, c_8, c_9, c_10, c_11, c_12, c_15, c_16, c_17, c_32, c_35, c_36, c_38, c_40, c_41, c_42, c_43, c_44, c_45, c_48, c_57, c_58, c_59, c_60, c_61, c_62, c_64, c_65, c_69, c_75, c_83, c_91, c_93, c_94, c_97, c_105, c_106, c_110, c_119, c_123, c_124, c_125, c_126, c_240, c_256, c_400, c_m, nI_m1, nM_i, r9, r28, r13, e1]
    · unfold clL clN
      rw [if_pos he, if_pos he, if_pos he, if_pos he]
      have htl : (Ls.take m).length = m := by rw [List.length_take]; omega
      refine hC.ofN fn ⟨by omega, by rw [htl]; simp (disch := omega) only [wI_1, wI_2, wL_1, wL_2, true_and, and_true, and_self, false_and, and_false, if_true, if_false, if_pos, if_neg], fun i z hi => ?_⟩ (fun k o hko => ?_)
      · have hi' : Ls[i]? = some z := by
          rw [List.getElem?_take] at hi
          split at hi
          · exact hi
          · cases hi
        exact (k2.2.2 i z hi').keep (frm.refl.wI (P := fun g r k => g = kg K ∧ r = 13) _ _ _ _ ⟨rfl, rfl⟩) (fun r _ _ hn => by omega)
      · obtain ⟨w, w1, w2⟩ := k10 k o hko
        refine ⟨w, ?_, w2⟩
        rw [List.getElem?_take, if_pos (hS o (List.mem_of_getElem? hko))]
        exact w1
  · have he1 : ¬ nI m = nI Ls.length - nI 1 := by rw [nI_sub (by omega), nI_eq (by omega) (by omega)]; omega
    have r4 : s2.1 (kg K) 1 4 = nI sk := k3.2 4 _ rfl
    have r29 : ∀ j, s2.1 0 29 j = s.1 0 29 j := fun j => by rw [← hs2]; simp (disch := omega) only [wI_1, wI_2, wL_1, wL_2, true_and, and_true, and_self, false_and, and_false, if_true, if_false, if_pos, if_neg]
    have hd : nI sk - nI sk0 = nI (sk - sk0) := nI_sub l4
    have fm : frm (XM (kg K) m) s2 (ax_wI s2 (kg K) 19 m (nI (sk - sk0))) := frm.refl.wI _ _ _ _ (by unfold XM; omega)
    have fm' : frm (XN (kg K)) s2 (ax_wI s2 (kg K) 19 m (nI (sk - sk0))) := fm.imp (fun g r k hx => by unfold XM at hx; unfold XN; omega)
    have hset : ∀ i z, (Ls.set m (lnW x (sk - sk0)))[i]? = some z → (i = m ∧ z = lnW x (sk - sk0)) ∨ (i ≠ m ∧ Ls[i]? = some z) := by
      intro i z hi
      rw [List.getElem?_set] at hi
      split at hi
      · rename_i e
        injection hi with hi
        exact Or.inl ⟨e.symm, hi.symm⟩
      · rename_i e
        exact Or.inr ⟨fun z => e z.symm, hi⟩
    have hoW : oW (Ls.set m (lnW x (sk - sk0))) O := fun k o hko => by
      obtain ⟨w, w1, w2⟩ := k10 k o hko
      refine ⟨w, ?_, w2⟩
      have := hS o (List.mem_of_getElem? hko)
      rw [List.getElem?_set, if_neg (by omega)]
      exact w1
    have hD := hC.ofN fm' (k2.set (by rw [List.length_set]) hset fm (by
      obtain ⟨u1, u2, u3, u4, u5, u6⟩ := k2.2.2 m x x1
      refine ⟨?_, ?_, ?_, ?_, ?_, ?_⟩ <;> simp (disch := omega) only [wI_1, wI_2, wL_1, wL_2, true_and, and_true, and_self, false_and, and_false, if_true, if_false, if_pos, if_neg, lnW, u1, u2, u3, u4, u5])) hoW
    obtain ⟨-, d2, d3, d4, -⟩ := id hD
    have ds := d2.2.2 m (lnW x (sk - sk0)) (by rw [List.getElem?_set, if_pos rfl, if_pos (by omega)])
    have q5 : ∀ j, (ax_wI s2 (kg K) 19 m (nI (sk - sk0))).1 0 29 j = s.1 0 29 j := fun j => by simp (disch := omega) only [wI_1, wI_2, wL_1, wL_2, true_and, and_true, and_self, false_and, and_false, if_true, if_false, if_pos, if_neg, r29]
    have hlp := lc_close (F := F) (g := kg K) (k := O.length) (m := m) (t := x.2.2.1) (s := ax_wI s2 (kg K) 19 m (nI (sk - sk0))) (by omega) hk (by omega) d4.2.1 ds.2.2.1 (d3.2 4 _ rfl) (d3.2 5 _ rfl) (d3.2 6 _ rfl) ((q5 _).trans q2) ((q5 _).trans q3) ((q5 _).trans q4) l4 l5 l6
    have f1 : frm (X1 (kg K)) (ax_wI s2 (kg K) 19 m (nI (sk - sk0))) (ax_wI (ax_wI (ax_wI (ax_wI s2 (kg K) 19 m (nI (sk - sk0))) (kg K) 1 4 (nI (sk0 + (sk - sk0) * x.2.2.1))) (kg K) 1 5 (nI (sp0 + (sp - sp0) * x.2.2.1))) (kg K) 1 6 (nI (ins0 + (ins - ins0) * x.2.2.1))) := by
      refine ((frm.refl.wI _ _ _ _ ?_).wI _ _ _ _ ?_).wI _ _ _ _ ?_ <;> (unfold X1; omega)
    have hE := hD.of1 f1 (sk' := sk0 + (sk - sk0) * x.2.2.1) (sp' := sp0 + (sp - sp0) * x.2.2.1) (ins' := ins0 + (ins - ins0) * x.2.2.1) (rg' := rg) (((d3.set (k := 4)).set (k := 5)).set (k := 6)) k8
    generalize hs15 : ax_wI (ax_wI (ax_wI (ax_wI s2 (kg K) 19 m (nI (sk - sk0))) (kg K) 1 4 (nI (sk0 + (sk - sk0) * x.2.2.1))) (kg K) 1 5 (nI (sp0 + (sp - sp0) * x.2.2.1))) (kg K) 1 6 (nI (ins0 + (ins - ins0) * x.2.2.1)) = s15 at *
    obtain ⟨⟨P6, v1, v1'⟩, v2, -⟩ := id hE
    have vs := v2.2.2 m (lnW x (sk - sk0)) (by rw [List.getElem?_set, if_pos rfl, if_pos (by omega)])
    have v15 : s15.1 (kg K) 15 m = nI x.2.1 := vs.2.1
    have v48 : s15.1 (kg K) 4 8 = nI P5.length := by rw [← v1', List.length_map]; exact v1.2.2.2.1.2.1
    have hsl : (Ls.set m (lnW x (sk - sk0))).length = Ls.length := List.length_set ..
    obtain ⟨s18, w1, w2, w3⟩ := rl_add (a1 := 93) (a2 := x.2.1) (a3 := m) (a4 := P5.length) v2 (by omega)
    refine ⟨s18, ?_, ?_, ((fr0.trans (XR.ofN fm')).trans (XR.of1 f1)).trans (XR.ofN w3)⟩
    · simp (disch := omega) only [ax_let, Option.bind_some, cond_true, cond_false, if_pos, if_neg, if_true, if_false, eq_self, nI_add, nI_ltI, nI_leI, nI_eq, nI_clamp, pu_in, c_0, c_1, c_2, c_3, c_4, c_5, c_6, c_7, c_8, c_9, c_10, c_11, c_12, c_15, c_16, c_17, c_32, c_35, c_36, c_38, c_40, c_41, c_42, c_43, c_44, c_45, c_48, c_57, c_58, c_59, c_60, c_61, c_62, c_64, c_65, c_69, c_75, c_83, c_91, c_93, c_94, c_97, c_105, c_106, c_110, c_119, c_123, c_124, c_125, c_126, c_240, c_256, c_400, c_m, nI_m1, nM_i, r9, r28, r13, he1, nI_mul, r4, r29, q2, hd, hlp, v15, v48, w1]
    · unfold clL clN
      rw [if_neg he, if_neg he, if_neg he, if_neg he, hx]
      exact hE.ofN w3 w2 (hoW.app _)
end
