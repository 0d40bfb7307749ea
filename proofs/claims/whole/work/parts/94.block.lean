/-! PURE: a block is read -/
/-- what the reader has read: lines, parts, least fault, subkeys, steps, instructions, registers, open loops -/
abbrev CS : Type := List Ln × List C5 × Nat × Nat × Nat × Nat × Nat × List Oq
def cLs (c : CS) : List Ln := c.1
def cP (c : CS) : List C5 := c.2.1
def cLf (c : CS) : Nat := c.2.2.1
def cSk (c : CS) : Nat := c.2.2.2.1
def cSp (c : CS) : Nat := c.2.2.2.2.1
def cIn (c : CS) : Nat := c.2.2.2.2.2.1
def cRg (c : CS) : Nat := c.2.2.2.2.2.2.1
def cOq (c : CS) : List Oq := c.2.2.2.2.2.2.2
def RBc (K : KS) (ts : List Tok) (c : CS) (s : ax_σ) : Prop := RB K ts (cLs c) (cP c) (cLf c) (cSk c) (cSp c) (cIn c) (cRg c) (cOq c) s
def cOpen (c : CS) (t : Th) : CS := (cLs c ++ [(91, thw t, min (thv t) 16, (cP c).length, (cP c).length, 0)], cP c, lfOp (oL (cLs c) (cOq c)) (cLf c) (thp t) (thw t) (thv t) (thq t), cSk c, cSp c, cIn c, cRg c, cOq c ++ [((cLs c).length, cSk c, cSp c, cIn c)])
def cClose (c : CS) : CS := match (cOq c).getLast? with
  | none => c
  | some o => (clL (cLs c) (cP c).length o.1 (cSk c - o.2.1), cP c, cLf c, clN (cLs c) o.1 o.2.1 (cSk c), clN (cLs c) o.1 o.2.2.1 (cSp c), clN (cLs c) o.1 o.2.2.2 (cIn c), cRg c, (cOq c).dropLast)
def cWrite (K : KS) (c : CS) (t : Th) : CS := (cLs c ++ [(62, 0, 0, (cP c).length, (cP c).length + (the t).length, cSk c)], cP c ++ (the t).map (cO (oL (cLs c) (cOq c))), lfE (ksn K) (kw K) (oL (cLs c) (cOq c)) (cLf c) (the t), cSk c + 1, cSp c, cIn c + ((aOf (the t)).2.1 + 1), max (cRg c) (kst K + (aOf (the t)).2.2), cOq c)
def cStep (K : KS) (c : CS) (t : Th) : CS := (cLs c ++ [(kc (thk t), thw t, opd (cP c).length (wkOf t), (cP c).length, (p5T (oL (cLs c) (cOq c)) (cP c) t).length, 0)], p5T (oL (cLs c) (cOq c)) (cP c) t, lfSt K (oL (cLs c) (cOq c)) (cLf c) t, cSk c, cSp c + 1, cIn c + insK (wkOf t), rgK (kst K) (cRg c) (wkOf t), cOq c)
def cTh (K : KS) (c : CS) (t : Th) : CS := if thk t = 2 then cOpen c t else if thk t = 3 then cClose c else if thk t = 1 then cWrite K c t else cStep K c t
/-- an open loop stands before another -/
def oR (o o' : Oq) : Prop := o.1 < o'.1 ∧ o.2.1 ≤ o'.2.1 ∧ o.2.2.1 ≤ o'.2.2.1 ∧ o.2.2.2 ≤ o'.2.2.2
/-- what holds of them -/
def cI (c : CS) : Prop := (∀ o ∈ cOq c, oR o ((cLs c).length, cSk c, cSp c, cIn c)) ∧ (cOq c).Pairwise oR
/-- there are not too many lines -/
def cN2 (c : CS) (ts : List Tok) : Prop := 2 * (cLs c).length + (cOq c).length + ts.length ≤ 240
def blT (F g : Nat) (x1 : Int32) (s : ax_σ) : Option (Int32 × ax_σ) :=
      bif ax_in (s.1 0 25 3) 241 then
      Option.bind (f_R_isLetter (s.1 0 26 ((s.1 0 25 3)).toNatClampNeg)) (fun r13 =>
          if r13 = (0 : Int32) then
            bif ax_in (s.1 0 25 3) 241 then
            if (s.1 0 26 ((s.1 0 25 3)).toNatClampNeg) = (93 : Int32) then
              f_R_closeLoop F g s
            else
              if x1 = (0 : Int32) then
                f_R_step F g s
              else
                f_R_writing F g s
            else none
          else
            f_R_openLoop F g s)
      else none
theorem bind_pair {x : Option (Int32 × ax_σ)} : Option.bind x (fun (a, b) => some (a, b)) = x := by cases x <;> rfl
theorem oR_trans {a b c : Oq} (h : oR a b) (h' : oR b c) : oR a c := by unfold oR at *; omega
section
variable {K : KS} {ts : List Tok} {c : CS} {s : ax_σ}
theorem cI.up {c c' : CS} (h : cI c) (hO : cOq c' = cOq c) (h1 : (cLs c).length ≤ (cLs c').length) (h2 : cSk c ≤ cSk c') (h3 : cSp c ≤ cSp c') (h4 : cIn c ≤ cIn c') : cI c' := by
  refine ⟨fun o ho => ?_, by rw [hO]; exact h.2⟩
  rw [hO] at ho
  have := h.1 o ho
  unfold oR at *
  simp only at *
  omega
theorem clN_le {Ls : List Ln} {m x0 x : Nat} (h : x0 ≤ x) : x0 ≤ clN Ls m x0 x := by
  unfold clN
  split
  · exact h
  · exact Nat.le_add_right _ _
theorem cClose_eq {c : CS} {O : List Oq} {o : Oq} (h : cOq c = O ++ [o]) : cClose c = (clL (cLs c) (cP c).length o.1 (cSk c - o.2.1), cP c, cLf c, clN (cLs c) o.1 o.2.1 (cSk c), clN (cLs c) o.1 o.2.2.1 (cSp c), clN (cLs c) o.1 o.2.2.2 (cIn c), cRg c, O) := by
  unfold cClose
  rw [h, List.getLast?_append]
  simp only [List.getLast?_singleton, Option.some_or, List.dropLast_concat]
/-- one thing -/
theorem rd_thing {F q p : Nat} {wr : Bool} (hF : 241 ≤ F) (h : RBc K ((q, p) :: ts) c s) (hI : cI c) (hl : cN2 c ((q, p) :: ts)) : ro (kn K) (kT K) (pTh wr (cOq c).length ((q, p) :: ts)) (frm (XR (kg K)) s) (fun t r v s' => v = nI 1 ∧ RBc K r (cTh K c t) s' ∧ cI (cTh K c t) ∧ cN2 (cTh K c t) r ∧ r.length ≤ ts.length ∧ (cOq (cTh K c t)).length = thO (cOq c).length t) (nI 0) (blT F (kg K) (if wr = true then nI 1 else nI 0) s) := by
  have hat := h.rd.at
  have o1 : s.1 0 26 (s.1 0 25 3).toNatClampNeg = nI q := hat.1
  have o3 : q < 127 := hat.2.2.1
  have l1 := rx_letter (c := q) (by omega)
  unfold cN2 at hl
  simp only [List.length_cons] at hl
  simp only [pTh]
  by_cases c1 : q = 105 ∨ q = 106
  · rw [if_pos c1]
    rw [if_pos c1] at l1
    have hR := rd_open hF c1 h (by simp only [List.length_cons]; exact hl)
    have e0 : blT F (kg K) (if wr = true then nI 1 else nI 0) s = f_R_openLoop F (kg K) s := by
      unfold blT
      simp (disch := omega) only [ax_let, Option.bind_some, cond_true, cond_false, if_pos, if_neg, if_true, if_false, eq_self, nI_add, nI_ltI, nI_leI, nI_eq, nI_clamp, pu_in, c_0, c_1, c_2, c_3, c_4, c_5, c_6, c_7, c_8, c_9, c_10, c_11, c_12, c_15, c_16, c_17, c_32, c_35, c_36, c_38, c_40, c_41, c_42, c_43, c_44, c_45, c_48, c_57, c_58, c_59, c_60, c_61, c_62, c_64, c_65, c_69, c_75, c_83, c_91, c_93, c_94, c_97, c_105, c_106, c_110, c_119, c_123, c_124, c_125, c_126, c_240, c_256, c_400, c_m, nI_m1, nM_i, h.rd.inb, o1, l1]
    rw [e0]
    by_cases hO : (cOq c).length = 2
    · rw [if_pos hO] at hR ⊢; exact hR
    · rw [if_neg hO] at hR ⊢
      match hp : pNumR ts, hR with
      | .error r, hR => exact hR
      | .ok ((v, vp), r), hR =>
        have hR : ro (kn K) (kT K) (rbind (pTake 91 r) _) _ _ _ _ := hR
        show ro (kn K) (kT K) (rbind (pTake 91 r) _) _ _ _ _
        match ht : pTake 91 r, hR with
        | .error r', hR => exact hR
        | .ok ((), r'), hR =>
          obtain ⟨v', s', e1, ⟨e2, e3, e4⟩, e5⟩ := hR
          refine ⟨v', s', e1, ⟨e2, e3, ⟨fun o ho => ?_, ?_⟩, ?_, by omega, ?_⟩, e5⟩
          · rcases List.mem_append.mp ho with ho | ho
            · have := hI.1 o ho
              unfold oR at this ⊢
              simp only [cTh, thk, if_true, cOpen, cLs, cSk, cSp, cIn, List.length_append, List.length_cons, List.length_nil] at this ⊢
              omega
            · rw [List.mem_singleton.mp ho]
              unfold oR
              simp only [cTh, thk, if_true, cOpen, cLs, cSk, cSp, cIn, List.length_append, List.length_cons, List.length_nil]
              omega
          · refine List.pairwise_append.mpr ⟨hI.2, List.pairwise_singleton _ _, fun a ha b hb => ?_⟩
            rw [List.mem_singleton.mp hb]
            exact hI.1 a ha
          · unfold cN2
            simp only [cTh, thk, if_true, cOpen, cLs, cOq, List.length_append, List.length_cons, List.length_nil] at hl ⊢
            omega
          · simp only [cTh, thk, if_true, cOpen, cOq, thO, List.length_append, List.length_cons, List.length_nil]
  · rw [if_neg c1]
    rw [if_neg c1] at l1
    by_cases c2 : q = 93
    · rw [if_pos c2]
      have e0 : blT F (kg K) (if wr = true then nI 1 else nI 0) s = f_R_closeLoop F (kg K) s := by
        unfold blT
        rw [c2] at o1 l1
        simp (disch := omega) only [ax_let, Option.bind_some, cond_true, cond_false, if_pos, if_neg, if_true, if_false, eq_self, nI_add, nI_ltI, nI_leI, nI_eq, nI_clamp, pu_in, c_0, c_1, c_2, c_3, c_4, c_5, c_6, c_7, c_8, c_9, c_10, c_11, c_12, c_15, c_16, c_17, c_32, c_35, c_36, c_38, c_40, c_41, c_42, c_43, c_44, c_45, c_48, c_57, c_58, c_59, c_60, c_61, c_62, c_64, c_65, c_69, c_75, c_83, c_91, c_93, c_94, c_97, c_105, c_106, c_110, c_119, c_123, c_124, c_125, c_126, c_240, c_256, c_400, c_m, nI_m1, nM_i, h.rd.inb, o1, l1]
      rw [e0]
      by_cases hO : (cOq c).length = 0
      · rw [if_pos hO]
        refine ⟨s, ?_, h.rd, frm.refl⟩
        have h9 : s.1 0 25 9 = nI 0 := by
          obtain ⟨-, -, -, k4, -⟩ := id h
          have := k4.2.1
          rw [hO] at this; exact this
        unfold f_R_closeLoop
        simp (disch := omega) only [ax_let, Option.bind_some, cond_true, cond_false, if_pos, if_neg, if_true, if_false, eq_self, nI_add, nI_ltI, nI_leI, nI_eq, nI_clamp, pu_in, c_0, c_1, c_2, c_3, c_4, c_5, c_6, c_7, c_8, c_9, c_10, c_11, c_12, c_15, c_16, c_17, c_32, c_35, c_36, c_38, c_40, c_41, c_42, c_43, c_44, c_45, c_48, c_57, c_58, c_59, c_60, c_61, c_62, c_64, c_65, c_69, c_75, c_83, c_91, c_93, c_94, c_97, c_105, c_106, c_110, c_119, c_123, c_124, c_125, c_126, c_240, c_256, c_400, c_m, nI_m1, nM_i, h9]
      · rw [if_neg hO]
        obtain ⟨O', o, hOo⟩ : ∃ O' o, cOq c = O' ++ [o] := ⟨(cOq c).dropLast, (cOq c).getLast (fun e => hO (by rw [e]; rfl)), (List.dropLast_concat_getLast _).symm⟩
        have hh : RB K ((q, p) :: ts) (cLs c) (cP c) (cLf c) (cSk c) (cSp c) (cIn c) (cRg c) (O' ++ [(o.1, o.2.1, o.2.2.1, o.2.2.2)]) s := by rw [← hOo]; exact h
        have hol := hI.1 o (by rw [hOo]; exact List.mem_append_right _ (List.mem_singleton.mpr rfl))
        have hpw := hI.2
        rw [hOo] at hpw
        have hpw2 := (List.pairwise_append.mp hpw).2.2
        have hlen : (cOq c).length = O'.length + 1 := by rw [hOo, List.length_append]; rfl
        unfold oR at hol
        simp only at hol
        obtain ⟨s', e1, e2, e3⟩ := rd_close hF hh (by rw [List.length_append, List.length_cons]; simp only [List.length_cons, List.length_nil]; omega) (fun a ha => (hpw2 a ha o (List.mem_singleton.mpr rfl)).1) hol.2.1 hol.2.2.1 hol.2.2.2
        have hcc : cTh K c (3, p, 0, 0, 0, [], []) = cClose c := rfl
        have hclen : (clL (cLs c) (cP c).length o.1 (cSk c - o.2.1)).length ≤ (cLs c).length + 1 ∧ o.1 ≤ (clL (cLs c) (cP c).length o.1 (cSk c - o.2.1)).length := by
          unfold clL
          split
          · rw [List.length_take]; omega
          · rw [List.length_append, List.length_set]; simp only [List.length_cons, List.length_nil]; omega
        refine ⟨nI 1, s', e1, ⟨rfl, ?_, ?_, ?_, Nat.le_refl _, ?_⟩, e3⟩
        · rw [hcc, cClose_eq hOo]; exact e2
        · rw [hcc, cClose_eq hOo]
          refine ⟨fun a ha => ?_, (List.pairwise_append.mp hpw).1⟩
          have ha2 := hpw2 a ha o (List.mem_singleton.mpr rfl)
          unfold oR at ha2 ⊢
          have k1 := clN_le (Ls := cLs c) (m := o.1) hol.2.1
          have k2 := clN_le (Ls := cLs c) (m := o.1) hol.2.2.1
          have k3 := clN_le (Ls := cLs c) (m := o.1) hol.2.2.2
          refine ⟨Nat.lt_of_lt_of_le ha2.1 hclen.2, Nat.le_trans ha2.2.1 k1, Nat.le_trans ha2.2.2.1 k2, Nat.le_trans ha2.2.2.2 k3⟩
        · rw [hcc, cClose_eq hOo]
          show 2 * (clL (cLs c) (cP c).length o.1 (cSk c - o.2.1)).length + O'.length + ts.length ≤ 240
          omega
        · rw [hcc, cClose_eq hOo]
          show O'.length = thO (cOq c).length (3, p, 0, 0, 0, [], [])
          rw [hlen]; rfl
    · rw [if_neg c2]
      cases wr with
      | true =>
        have hR := rd_writing hF h (by simp only [List.length_cons]; exact hl)
        have e0 : blT F (kg K) (if true = true then nI 1 else nI 0) s = f_R_writing F (kg K) s := by
          unfold blT
          simp (disch := omega) only [ax_let, Option.bind_some, cond_true, cond_false, if_pos, if_neg, if_true, if_false, eq_self, nI_add, nI_ltI, nI_leI, nI_eq, nI_clamp, pu_in, c_0, c_1, c_2, c_3, c_4, c_5, c_6, c_7, c_8, c_9, c_10, c_11, c_12, c_15, c_16, c_17, c_32, c_35, c_36, c_38, c_40, c_41, c_42, c_43, c_44, c_45, c_48, c_57, c_58, c_59, c_60, c_61, c_62, c_64, c_65, c_69, c_75, c_83, c_91, c_93, c_94, c_97, c_105, c_106, c_110, c_119, c_123, c_124, c_125, c_126, c_240, c_256, c_400, c_m, nI_m1, nM_i, h.rd.inb, o1, l1]
        rw [e0, if_pos rfl]
        have hR : ro (kn K) (kT K) (if q = 62 then _ else _) _ _ _ _ := hR
        by_cases c3 : q = 62
        · rw [if_pos c3] at hR ⊢
          match hp : pEx 14 0 ts, hR with
          | .error r, hR => exact hR
          | .ok (e, r), hR =>
            have hR : ro (kn K) (kT K) (rbind (pTake 59 r) _) _ _ _ _ := hR
            show ro (kn K) (kT K) (rbind (pTake 59 r) _) _ _ _ _
            match ht : pTake 59 r, hR with
            | .error r', hR => exact hR
            | .ok ((), r'), hR =>
              obtain ⟨v', s', e1, ⟨e2, e3, e4⟩, e5⟩ := hR
              simp only [List.length_cons] at e4
              refine ⟨v', s', e1, ⟨e2, e3, hI.up rfl ?_ ?_ ?_ ?_, ?_, by omega, rfl⟩, e5⟩
              · show (cLs c).length ≤ (cLs c ++ _).length
                rw [List.length_append]; omega
              · show cSk c ≤ cSk c + 1; omega
              · show cSp c ≤ cSp c; omega
              · exact Nat.le_add_right _ _
              · show 2 * (cLs c ++ [_]).length + (cOq c).length + r'.length ≤ 240
                rw [List.length_append, List.length_cons, List.length_nil]; omega
        · rw [if_neg c3] at hR ⊢; exact hR
      | false =>
        have hR := rd_step hF h (by simp only [List.length_cons]; exact hl)
        have e0 : blT F (kg K) (if false = true then nI 1 else nI 0) s = f_R_step F (kg K) s := by
          unfold blT
          simp (disch := omega) only [ax_let, Option.bind_some, cond_true, cond_false, if_pos, if_neg, if_true, if_false, eq_self, nI_add, nI_ltI, nI_leI, nI_eq, nI_clamp, pu_in, c_0, c_1, c_2, c_3, c_4, c_5, c_6, c_7, c_8, c_9, c_10, c_11, c_12, c_15, c_16, c_17, c_32, c_35, c_36, c_38, c_40, c_41, c_42, c_43, c_44, c_45, c_48, c_57, c_58, c_59, c_60, c_61, c_62, c_64, c_65, c_69, c_75, c_83, c_91, c_93, c_94, c_97, c_105, c_106, c_110, c_119, c_123, c_124, c_125, c_126, c_240, c_256, c_400, c_m, nI_m1, nM_i, h.rd.inb, o1, l1, Bool.false_eq_true]
        rw [e0, if_neg (by decide)]
        have hR : ro (kn K) (kT K) (if 65 ≤ q ∧ q ≤ 68 then _ else _) _ _ _ _ := hR
        by_cases c3 : 65 ≤ q ∧ q ≤ 68
        · rw [if_pos c3] at hR ⊢
          match hp : pWk ts, hR with
          | .error r, hR => exact hR
          | .ok (k, r), hR =>
            have hR : ro (kn K) (kT K) (rbind (pTake 59 r) _) _ _ _ _ := hR
            show ro (kn K) (kT K) (rbind (pTake 59 r) _) _ _ _ _
            match ht : pTake 59 r, hR with
            | .error r', hR => exact hR
            | .ok ((), r'), hR =>
              obtain ⟨v', s', e1, ⟨e2, e3, e4, e6, e7, e8⟩, e5⟩ := hR
              simp only [List.length_cons] at e4
              have e7 : 4 ≤ k.1 := e7
              have hcc : cTh K c (k.1, p, q - 65, k.2.1, k.2.2.1, k.2.2.2.1, k.2.2.2.2) = cStep K c (k.1, p, q - 65, k.2.1, k.2.2.1, k.2.2.2.1, k.2.2.2.2) := by
                unfold cTh thk
                rw [if_neg (by show ¬ k.1 = 2; omega), if_neg (by show ¬ k.1 = 3; omega), if_neg (by show ¬ k.1 = 1; omega)]
              refine ⟨v', s', e1, ⟨e2, by rw [hcc]; exact e3, ?_, ?_, by omega, ?_⟩, e5⟩
              · rw [hcc]
                refine hI.up rfl ?_ (Nat.le_refl _) (Nat.le_succ _) (Nat.le_add_right _ _)
                show (cLs c).length ≤ (cLs c ++ _).length
                rw [List.length_append]; omega
              · rw [hcc]
                show 2 * (cLs c ++ [_]).length + (cOq c).length + r'.length ≤ 240
                rw [List.length_append, List.length_cons, List.length_nil]; omega
              · rw [hcc]
                unfold thO thk
                rw [if_neg (by show ¬ k.1 = 2; omega), if_neg (by show ¬ k.1 = 3; omega)]
                rfl
        · rw [if_neg c3] at hR ⊢; exact hR
end
