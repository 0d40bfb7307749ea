/-! PURE: the reader reads an expression: all its kinds -/
section
variable {n : Nat} {T : List Tok} {g sn w : Nat} {L : List Nat}
theorem rd_expr {F : Nat} (hF : 241 ≤ F) : ∀ (f : Nat), rdE n T F g sn w L f
  | 0 => fun d ts lf P s h1 h2 => absurd h2 (by omega)
  | f + 1 => by
    intro d ts lf P s hd hdf hE h
    have ih := rd_expr hF f
    have hsg := h.1.at
    have hlen := h.2.2.2.2
    match ts, h, hsg, hlen with
    | [], h, hsg, hlen =>
      have o1 : s.1 0 26 (s.1 0 25 3).toNatClampNeg = nI 0 := hsg.1
      have l1 := rx_letter (c := 0) (by omega)
      rw [if_neg (by omega)] at l1
      have l2 := rx_digit (c := 0) (by omega)
      rw [if_neg (by decide)] at l2
      have l3 := (rx_state_no (g := g) h.1 (r := []) rfl).1
      refine ⟨s, ?_, h.1, frm.refl⟩
      rw [f_R_expression]
      simp (disch := omega) only [ax_let, Option.bind_some, cond_true, cond_false, if_pos, if_neg, if_true, if_false, eq_self, nI_add, nI_ltI, nI_leI, nI_eq, nI_clamp, pu_in, c_0, c_1, c_2, c_3, c_4, c_5, c_6, c_7, c_8, c_9, c_10, c_11, c_12, c_15, c_16, c_17, c_32, c_35, c_36, c_38, c_40, c_41, c_42, c_43, c_44, c_45, c_48, c_57, c_58, c_59, c_60, c_61, c_62, c_64, c_65, c_69, c_75, c_83, c_91, c_93, c_94, c_97, c_105, c_106, c_110, c_119, c_123, c_124, c_125, c_126, c_240, c_256, c_400, c_m, nI_m1, nM_i, h.1.inb, o1, l1, l2, l3]
    | (c, p) :: ts, h, hsg, hlen =>
      have o1 : s.1 0 26 (s.1 0 25 3).toNatClampNeg = nI c := hsg.1
      have o2 : s.1 0 27 (s.1 0 25 3).toNatClampNeg = nI p := hsg.2.1
      have o3 : c < 127 := hsg.2.2.1
      have o4 : p ≤ 240 := hsg.2.2.2.1
      simp only [List.length_cons] at hlen
      obtain ⟨hst, hsf⟩ := h.step
      simp only [pEx]
      by_cases c1 : c = 126
      · rw [if_pos c1]
        by_cases hd2 : d = 12
        · rw [if_pos hd2]
          refine ⟨s, ?_, h.1, frm.refl⟩
          rw [f_R_expression]
          simp (disch := omega) only [ax_let, Option.bind_some, cond_true, cond_false, if_pos, if_neg, if_true, if_false, eq_self, nI_add, nI_ltI, nI_leI, nI_eq, nI_clamp, pu_in, c_0, c_1, c_2, c_3, c_4, c_5, c_6, c_7, c_8, c_9, c_10, c_11, c_12, c_15, c_16, c_17, c_32, c_35, c_36, c_38, c_40, c_41, c_42, c_43, c_44, c_45, c_48, c_57, c_58, c_59, c_60, c_61, c_62, c_64, c_65, c_69, c_75, c_83, c_91, c_93, c_94, c_97, c_105, c_106, c_110, c_119, c_123, c_124, c_125, c_126, c_240, c_256, c_400, c_m, nI_m1, nM_i, h.1.inb, o1, c1, hd2]
        · rw [if_neg hd2]
          have hI := ih (d + 1) ts lf P _ (by omega) (by omega) (hE.keep hsf) hst
          match hp : pEx f (d + 1) ts, hI with
          | .error r', hI =>
            obtain ⟨s2, b1, b2, b3⟩ := hI
            refine ⟨s2, ?_, b2, hsf.trans b3⟩
            rw [f_R_expression]
            simp (disch := omega) only [ax_let, Option.bind_some, cond_true, cond_false, if_pos, if_neg, if_true, if_false, eq_self, nI_add, nI_ltI, nI_leI, nI_eq, nI_clamp, pu_in, c_0, c_1, c_2, c_3, c_4, c_5, c_6, c_7, c_8, c_9, c_10, c_11, c_12, c_15, c_16, c_17, c_32, c_35, c_36, c_38, c_40, c_41, c_42, c_43, c_44, c_45, c_48, c_57, c_58, c_59, c_60, c_61, c_62, c_64, c_65, c_69, c_75, c_83, c_91, c_93, c_94, c_97, c_105, c_106, c_110, c_119, c_123, c_124, c_125, c_126, c_240, c_256, c_400, c_m, nI_m1, nM_i, h.1.inb, o1, c1, b1]
          | .ok (e, r), hI =>
            obtain ⟨v2, s2, b1, ⟨Z, z, h1, rfl, hx, h4, h5, h6, h7⟩, b3⟩ := hI
            have hA := lenA P L Z
            have heL : e.length = Z.length + 1 := by rw [h1]; simp only [List.length_append, List.length_map, List.length_cons, List.length_nil]
            have hl1 := pEx_len (by omega) hp
            have hat3 := at_last hx.2.2.2.1
            rw [hA] at hat3
            have hAl : (P ++ cXs L Z ++ [cX L z.1 z.2]).length = P.length + Z.length + 1 := by rw [List.length_append, hA]; rfl
            obtain ⟨s4, d1, d2, d3⟩ := rc_over (k := 126) (v := 0) (by omega) (by omega) hat3 ⟨h5, by omega, by omega⟩ hx.2.2.2.1 (by omega)
            refine ⟨nI (P ++ cXs L Z ++ [cX L z.1 z.2]).length, s4, ?_, ?_, (hsf.trans b3).trans (XE.of d3)⟩
            · rw [f_R_expression]
              simp (disch := omega) only [ax_let, Option.bind_some, cond_true, cond_false, if_pos, if_neg, if_true, if_false, eq_self, nI_add, nI_ltI, nI_leI, nI_eq, nI_clamp, pu_in, c_0, c_1, c_2, c_3, c_4, c_5, c_6, c_7, c_8, c_9, c_10, c_11, c_12, c_15, c_16, c_17, c_32, c_35, c_36, c_38, c_40, c_41, c_42, c_43, c_44, c_45, c_48, c_57, c_58, c_59, c_60, c_61, c_62, c_64, c_65, c_69, c_75, c_83, c_91, c_93, c_94, c_97, c_105, c_106, c_110, c_119, c_123, c_124, c_125, c_126, c_240, c_256, c_400, c_m, nI_m1, nM_i, h.1.inb, o1, c1, b1, d1]
            · exact exK.over (o := (6, 0, 0, [])) h1 rfl (Or.inl rfl) rfl (hx.add d2 d3 (by omega)) h4 ⟨h5, h6, h7⟩
      · rw [if_neg c1]
        by_cases c2 : c = 40
        · rw [if_pos c2]
          by_cases hd2 : d = 12
          · rw [if_pos hd2]
            refine ⟨s, ?_, h.1, frm.refl⟩
            rw [f_R_expression]
            simp (disch := omega) only [ax_let, Option.bind_some, cond_true, cond_false, if_pos, if_neg, if_true, if_false, eq_self, nI_add, nI_ltI, nI_leI, nI_eq, nI_clamp, pu_in, c_0, c_1, c_2, c_3, c_4, c_5, c_6, c_7, c_8, c_9, c_10, c_11, c_12, c_15, c_16, c_17, c_32, c_35, c_36, c_38, c_40, c_41, c_42, c_43, c_44, c_45, c_48, c_57, c_58, c_59, c_60, c_61, c_62, c_64, c_65, c_69, c_75, c_83, c_91, c_93, c_94, c_97, c_105, c_106, c_110, c_119, c_123, c_124, c_125, c_126, c_240, c_256, c_400, c_m, nI_m1, nM_i, h.1.inb, o1, c2, hd2]
          · rw [if_neg hd2]
            have hI := ih (d + 1) ts lf P _ (by omega) (by omega) (hE.keep hsf) hst
            match hp : pEx f (d + 1) ts, hI with
            | .error r', hI =>
              obtain ⟨s2, b1, b2, b3⟩ := hI
              refine ⟨s2, ?_, b2, hsf.trans b3⟩
              rw [f_R_expression]
              simp (disch := omega) only [ax_let, Option.bind_some, cond_true, cond_false, if_pos, if_neg, if_true, if_false, eq_self, nI_add, nI_ltI, nI_leI, nI_eq, nI_clamp, pu_in, c_0, c_1, c_2, c_3, c_4, c_5, c_6, c_7, c_8, c_9, c_10, c_11, c_12, c_15, c_16, c_17, c_32, c_35, c_36, c_38, c_40, c_41, c_42, c_43, c_44, c_45, c_48, c_57, c_58, c_59, c_60, c_61, c_62, c_64, c_65, c_69, c_75, c_83, c_91, c_93, c_94, c_97, c_105, c_106, c_110, c_119, c_123, c_124, c_125, c_126, c_240, c_256, c_400, c_m, nI_m1, nM_i, h.1.inb, o1, c2, b1]
            | .ok (e, r), hI =>
              obtain ⟨v2, s2, b1, hx, b3⟩ := hI
              have hl1 := pEx_len (by omega) hp
              have hR := rd_rest (d := d) hF ih (by omega) (by omega) ((hE.keep hsf).keep b3) hx (by omega)
              have hv : v2 ≠ nM := by
                obtain ⟨Z, z, h1, rfl, hx, h4, h5, h6, h7⟩ := hx
                have hA := lenA P L Z
                have := hx.2.2.2.1.lastA.2
                exact fun e => of_eq_false (nI_m1 (by omega)) e
              have e : f_R_expression F g (f + 1) (nI d) s = f_R_restOfBracket F (f_R_expression F g f) g v2 (nI d) s2 := by
                rw [f_R_expression]
                simp (disch := omega) only [ax_let, Option.bind_some, cond_true, cond_false, if_pos, if_neg, if_true, if_false, eq_self, nI_add, nI_ltI, nI_leI, nI_eq, nI_clamp, pu_in, c_0, c_1, c_2, c_3, c_4, c_5, c_6, c_7, c_8, c_9, c_10, c_11, c_12, c_15, c_16, c_17, c_32, c_35, c_36, c_38, c_40, c_41, c_42, c_43, c_44, c_45, c_48, c_57, c_58, c_59, c_60, c_61, c_62, c_64, c_65, c_69, c_75, c_83, c_91, c_93, c_94, c_97, c_105, c_106, c_110, c_119, c_123, c_124, c_125, c_126, c_240, c_256, c_400, c_m, nI_m1, nM_i, h.1.inb, o1, c2, b1, hv]
                cases f_R_restOfBracket F (f_R_expression F g f) g v2 (nI d) s2 <;> rfl
              rw [e]
              exact ro_tr (hsf.trans b3) hR
        · rw [if_neg c2]
          by_cases c3 : c = 75 ∨ c = 83
          · rw [if_pos c3]
            obtain ⟨s2, a1, a2, a3⟩ := rc_idx (k := c) (p := p) hst.2.2.2.1 (by omega)
            have hx := hst.add a2 a3 (by omega)
            have hI := rd_index hF ((hE.keep hsf).keep (XE.of a3)) hx
            have e : f_R_expression F g (f + 1) (nI d) s = f_R_index F g (nI P.length) s2 := by
              rw [f_R_expression]
              rcases c3 with c3 | c3
              · subst c3
                simp (disch := omega) only [ax_let, Option.bind_some, cond_true, cond_false, if_pos, if_neg, if_true, if_false, eq_self, nI_add, nI_ltI, nI_leI, nI_eq, nI_clamp, pu_in, c_0, c_1, c_2, c_3, c_4, c_5, c_6, c_7, c_8, c_9, c_10, c_11, c_12, c_15, c_16, c_17, c_32, c_35, c_36, c_38, c_40, c_41, c_42, c_43, c_44, c_45, c_48, c_57, c_58, c_59, c_60, c_61, c_62, c_64, c_65, c_69, c_75, c_83, c_91, c_93, c_94, c_97, c_105, c_106, c_110, c_119, c_123, c_124, c_125, c_126, c_240, c_256, c_400, c_m, nI_m1, nM_i, h.1.inb, o1, o2, a1]
                cases f_R_index F g (nI P.length) s2 <;> rfl
              · subst c3
                simp (disch := omega) only [ax_let, Option.bind_some, cond_true, cond_false, if_pos, if_neg, if_true, if_false, eq_self, nI_add, nI_ltI, nI_leI, nI_eq, nI_clamp, pu_in, c_0, c_1, c_2, c_3, c_4, c_5, c_6, c_7, c_8, c_9, c_10, c_11, c_12, c_15, c_16, c_17, c_32, c_35, c_36, c_38, c_40, c_41, c_42, c_43, c_44, c_45, c_48, c_57, c_58, c_59, c_60, c_61, c_62, c_64, c_65, c_69, c_75, c_83, c_91, c_93, c_94, c_97, c_105, c_106, c_110, c_119, c_123, c_124, c_125, c_126, c_240, c_256, c_400, c_m, nI_m1, nM_i, h.1.inb, o1, o2, a1]
                cases f_R_index F g (nI P.length) s2 <;> rfl
            rw [e]
            match hp : pTake 40 ts, hI with
            | .error r, hI =>
              obtain ⟨s', b1, b2, b4⟩ := hI
              exact ⟨s', b1, b2, (hsf.trans (XE.of a3)).trans b4⟩
            | .ok ((), r), hI =>
              show ro n T (rbind (pTerms (r.length + 1) r) _) _ _ _ _
              have hI : ro n T (pTerms (r.length + 1) r) _ _ _ _ := hI
              match hq : pTerms (r.length + 1) r, hI with
              | .error r', hI =>
                obtain ⟨s', b1, b2, b4⟩ := hI
                exact ⟨s', b1, b2, (hsf.trans (XE.of a3)).trans b4⟩
              | .ok (l, r'), hI =>
                obtain ⟨v, s', b1, ⟨b2, b5, b6⟩, b4⟩ := hI
                refine ⟨v, s', b1, ?_, (hsf.trans (XE.of a3)).trans b4⟩
                refine exK.leaf (a := (16, 1, 1)) b2 rfl ?_ ?_ ⟨by decide, by decide, by decide⟩
                · rcases c3 with c3 | c3
                  · subst c3; exact b5
                  · subst c3; exact b5
                · rcases c3 with c3 | c3
                  · subst c3; exact fun _ => rfl
                  · subst c3; exact fun _ => rfl
          · rw [if_neg c3]
            have l1 := rx_letter (c := c) (by omega)
            by_cases c4 : c = 105 ∨ c = 106
            · rw [if_pos c4]
              rw [if_pos c4] at l1
              obtain ⟨s2, a1, a2, a3⟩ := rc_const (v := 0) h.2.2.2.1 (by omega)
              obtain ⟨s3, b1, b2, b3⟩ := rd_takeLetter' (F := F) (t := 1) (by omega) (by omega) (hE.keep (XE.of a3)) (h.1.keepf a3 (fun r k => by unfold XC; omega)) ((a3.1 _ _ _ (by unfold XC; omega)).trans h.2.1) h.2.2.1 a2 (by omega) c4
              refine ⟨nI P.length, s3, ?_, ?_, (XE.of a3).trans b3⟩
              · rw [f_R_expression]
                simp (disch := omega) only [ax_let, Option.bind_some, cond_true, cond_false, if_pos, if_neg, if_true, if_false, eq_self, nI_add, nI_ltI, nI_leI, nI_eq, nI_clamp, pu_in, c_0, c_1, c_2, c_3, c_4, c_5, c_6, c_7, c_8, c_9, c_10, c_11, c_12, c_15, c_16, c_17, c_32, c_35, c_36, c_38, c_40, c_41, c_42, c_43, c_44, c_45, c_48, c_57, c_58, c_59, c_60, c_61, c_62, c_64, c_65, c_69, c_75, c_83, c_91, c_93, c_94, c_97, c_105, c_106, c_110, c_119, c_123, c_124, c_125, c_126, c_240, c_256, c_400, c_m, nI_m1, nM_i, h.1.inb, o1, l1, a1, d_0, b1]
              · exact exK.leaf (o := (5, c - 105, p, [])) (a := (0, 1, 1)) rfl rfl b2 (fun _ => rfl) ⟨by decide, by decide, by decide⟩
            · rw [if_neg c4]
              rw [if_neg c4] at l1
              have l2 := rx_digit (c := c) (by omega)
              by_cases c5 : isD c = true
              · rw [if_pos c5]
                rw [if_pos c5] at l2
                have hb := rd_bound hE.2.2.1 hE.2.2.2.1
                have hbl := wb_lt w
                match hp : pNumR ((c, p) :: ts) with
                | .error r =>
                  obtain ⟨p1, p2⟩ := pNumR_er hp
                  simp only [pNum, c5, if_true] at p1
                  cases p1
                | .ok ((v, q), r) =>
                  have p1 := pNumR_ok hp
                  obtain ⟨s2, b1, b2, b3, b4, b5⟩ := rx_num_ok (F := F) (b := wb w) (by omega) hbl.1 h p1
                  have hl1 := pNum_len p1
                  simp only [List.length_cons] at hl1
                  obtain ⟨s4, d1, d2, d3⟩ := rc_const (v := v) b2.2.2.2.1 (by omega)
                  refine ⟨nI P.length, s4, ?_, ?_, b3.trans (XE.of d3)⟩
                  · rw [f_R_expression]
                    simp (disch := omega) only [ax_let, Option.bind_some, cond_true, cond_false, if_pos, if_neg, if_true, if_false, eq_self, nI_add, nI_ltI, nI_leI, nI_eq, nI_clamp, pu_in, c_0, c_1, c_2, c_3, c_4, c_5, c_6, c_7, c_8, c_9, c_10, c_11, c_12, c_15, c_16, c_17, c_32, c_35, c_36, c_38, c_40, c_41, c_42, c_43, c_44, c_45, c_48, c_57, c_58, c_59, c_60, c_61, c_62, c_64, c_65, c_69, c_75, c_83, c_91, c_93, c_94, c_97, c_105, c_106, c_110, c_119, c_123, c_124, c_125, c_126, c_240, c_256, c_400, c_m, nI_m1, nM_i, h.1.inb, o1, l1, l2, hb, b1, nI_l, d1]
                  · exact exK.leaf (o := (4, v, q, [])) (a := (0, 1, 1)) rfl rfl (b2.add d2 d3 (by omega)) (fun _ => rfl) ⟨by decide, by decide, by decide⟩
              · rw [if_neg c5]
                rw [if_neg c5] at l2
                by_cases c6 : 65 ≤ c ∧ c ≤ 68
                · rw [if_pos c6]
                  obtain ⟨s2, b1, b2, b3, b4, b5, b6⟩ := rx_state_ok (v := c - 65) (p := p) (r := ts) hE h (by simp only [pState]; rw [if_pos c6])
                  obtain ⟨s4, d1, d2, d3⟩ := rc_state (v := c - 65) (by omega) b2.2.2.2.1 (by omega)
                  have hne : nI (c - 65) ≠ nM := fun e => of_eq_false (nI_m1 (by omega)) e
                  refine ⟨nI P.length, s4, ?_, ?_, b3.trans (XE.of d3)⟩
                  · rw [f_R_expression]
                    simp (disch := omega) only [ax_let, Option.bind_some, cond_true, cond_false, if_pos, if_neg, if_true, if_false, eq_self, nI_add, nI_ltI, nI_leI, nI_eq, nI_clamp, pu_in, c_0, c_1, c_2, c_3, c_4, c_5, c_6, c_7, c_8, c_9, c_10, c_11, c_12, c_15, c_16, c_17, c_32, c_35, c_36, c_38, c_40, c_41, c_42, c_43, c_44, c_45, c_48, c_57, c_58, c_59, c_60, c_61, c_62, c_64, c_65, c_69, c_75, c_83, c_91, c_93, c_94, c_97, c_105, c_106, c_110, c_119, c_123, c_124, c_125, c_126, c_240, c_256, c_400, c_m, nI_m1, nM_i, h.1.inb, o1, l1, l2, b1, d1, hne]
                  · refine exK.leaf (o := (1, c - 65, p, [])) (a := (2 ^ (c - 65), 0, 0)) rfl rfl (b2.add d2 d3 (by omega)) (fun _ => rfl) ⟨?_, Nat.zero_le _, Nat.zero_le _⟩
                    have : c - 65 < 4 := by omega
                    exact Nat.lt_of_le_of_lt (Nat.pow_le_pow_right (by decide) (show c - 65 ≤ 3 by omega)) (by decide)
                · rw [if_neg c6]
                  have l3 := (rx_state_no (g := g) h.1 (r := (c, p) :: ts) (by simp only [pState]; rw [if_neg c6])).1
                  refine ⟨s, ?_, h.1, frm.refl⟩
                  rw [f_R_expression]
                  simp (disch := omega) only [ax_let, Option.bind_some, cond_true, cond_false, if_pos, if_neg, if_true, if_false, eq_self, nI_add, nI_ltI, nI_leI, nI_eq, nI_clamp, pu_in, c_0, c_1, c_2, c_3, c_4, c_5, c_6, c_7, c_8, c_9, c_10, c_11, c_12, c_15, c_16, c_17, c_32, c_35, c_36, c_38, c_40, c_41, c_42, c_43, c_44, c_45, c_48, c_57, c_58, c_59, c_60, c_61, c_62, c_64, c_65, c_69, c_75, c_83, c_91, c_93, c_94, c_97, c_105, c_106, c_110, c_119, c_123, c_124, c_125, c_126, c_240, c_256, c_400, c_m, nI_m1, nM_i, h.1.inb, o1, l1, l2, l3]
end
