/-! PURE: the reader reads an expression -/
section
variable {n : Nat} {T : List Tok} {g sn w : Nat} {L : List Nat}
def rdE (n : Nat) (T : List Tok) (F g sn w : Nat) (L : List Nat) (f : Nat) : Prop := ∀ (d : Nat) (ts : List Tok) (lf : Nat) (P : List CP) (s : ax_σ), d ≤ 12 → 13 ≤ d + f → EC g sn w L s → RX n T g ts lf P s → ro n T (pEx f d ts) (frm (XE g) s) (exK n T g sn w L P lf) nM (f_R_expression F g f (nI d) s)
theorem ro_tr {α : Type} {x : Rd α} {K : α → List Tok → Int32 → ax_σ → Prop} {bad : Int32} {y : Option (Int32 × ax_σ)} {s s1 : ax_σ} (hf : frm (XE g) s s1) (h : ro n T x (frm (XE g) s1) K bad y) : ro n T x (frm (XE g) s) K bad y := by
  match x, h with
  | .ok (a, r), ⟨v, s', h1, h2, h3⟩ => exact ⟨v, s', h1, h2, hf.trans h3⟩
  | .error r, ⟨s', h1, h2, h3⟩ => exact ⟨s', h1, h2, hf.trans h3⟩
theorem rd_rest {F f d lf : Nat} {P : List CP} {s : ax_σ} {e : List Op} {r : List Tok} {v : Int32} (hF : 241 ≤ F) (ih : rdE n T F g sn w L f) (hd : d < 12) (hf : 12 ≤ d + f) (hE : EC g sn w L s) (h : exK n T g sn w L P lf e r v s) (hl : P.length + e.length + r.length + 1 ≤ 240) :
    ro n T (match r with
        | [] => .error []
        | (o, q) :: r =>
          if o = 60 then rbind (pNumR r) (fun vq r' => rbind (pTake 41 r') (fun _ r'' => .ok (e ++ [(7, vq.1, vq.2, [])], r'')))
          else if o = 94 ∨ o = 38 ∨ o = 124 ∨ o = 43 ∨ o = 45 ∨ o = 42 then rbind (pEx f (d + 1) r) (fun e' r' => rbind (pTake 41 r') (fun _ r'' => .ok (e ++ e' ++ [(8, o, 0, [])], r'')))
          else .error ((o, q) :: r)) (frm (XE g) s) (exK n T g sn w L P lf) nM (f_R_restOfBracket F (f_R_expression F g f) g v (nI d) s) := by
  obtain ⟨Z, z, h1, rfl, hx, h4, h5, h6, h7⟩ := h
  have hA := lenA P L Z
  have heL : e.length = Z.length + 1 := by rw [h1]; simp only [List.length_append, List.length_map, List.length_cons, List.length_nil]
  have has : aS z.2 := ⟨h5, by omega, by omega⟩
  have hsg := hx.1.at
  have stop : ¬ (sg r = 60 ∨ sg r = 94 ∨ sg r = 38 ∨ sg r = 124 ∨ sg r = 43 ∨ sg r = 45 ∨ sg r = 42) → f_R_restOfBracket F (f_R_expression F g f) g (nI (P.length + Z.length)) (nI d) s = some (nM, s) := by
    intro hn
    have e1 := ix_sgN (F := F) (s := s) (by omega) (by omega) hn
    have hm : ¬ nI 0 ≤ nM := by decide
    unfold f_R_restOfBracket
    simp (disch := omega) only [ax_let, Option.bind_some, cond_true, cond_false, if_pos, if_neg, if_true, if_false, eq_self, nI_add, nI_ltI, nI_leI, nI_eq, nI_clamp, pu_in, c_0, c_1, c_2, c_3, c_4, c_5, c_6, c_7, c_8, c_9, c_10, c_11, c_12, c_15, c_16, c_17, c_32, c_35, c_36, c_38, c_40, c_41, c_42, c_43, c_44, c_45, c_48, c_57, c_58, c_59, c_60, c_61, c_62, c_64, c_65, c_69, c_75, c_83, c_91, c_93, c_94, c_97, c_105, c_106, c_110, c_119, c_123, c_124, c_125, c_126, c_240, c_256, c_400, c_m, nI_m1, nM_i, hx.1.inb, hsg.1, e1, hm]
  match r, hx, hsg, hl, stop with
  | [], hx, hsg, hl, stop => exact ⟨s, stop (by show ¬ (0 = 60 ∨ 0 = 94 ∨ 0 = 38 ∨ 0 = 124 ∨ 0 = 43 ∨ 0 = 45 ∨ 0 = 42); omega), hx.1, frm.refl⟩
  | (o, q) :: r, hx, hsg, hl, stop =>
    obtain ⟨hst, hsf⟩ := hx.step
    have o1 : s.1 0 26 (s.1 0 25 3).toNatClampNeg = nI o := hsg.1
    have o2 : o < 127 := hsg.2.2.1
    simp only [List.length_cons] at hl
    show ro n T (if o = 60 then _ else _) _ _ _ _
    by_cases ho : o = 60
    · rw [if_pos ho]
      obtain ⟨j, hj, e1⟩ := ix_sgI (F := F) (c := o) (s := s) (by omega) (Or.inl ho)
      have hw : (ax_wI s 0 25 3 (s.1 0 25 3 + nI 1)).1 g 1 0 = nI w := (hE.keep hsf).2.2.1
      match hp : pNumR r with
      | .error r' =>
        obtain ⟨p1, p2⟩ := pNumR_er hp
        obtain ⟨s2, b1, b2, b3⟩ := rx_num_no (F := F) (b := w) (by omega) hE.2.2.2.1 hst p1
        refine ⟨s2, ?_, by rw [p2]; exact b2, hsf.trans b3⟩
        unfold f_R_restOfBracket
        simp (disch := omega) only [ax_let, Option.bind_some, cond_true, cond_false, if_pos, if_neg, if_true, if_false, eq_self, nI_add, nI_ltI, nI_leI, nI_eq, nI_clamp, pu_in, c_0, c_1, c_2, c_3, c_4, c_5, c_6, c_7, c_8, c_9, c_10, c_11, c_12, c_15, c_16, c_17, c_32, c_35, c_36, c_38, c_40, c_41, c_42, c_43, c_44, c_45, c_48, c_57, c_58, c_59, c_60, c_61, c_62, c_64, c_65, c_69, c_75, c_83, c_91, c_93, c_94, c_97, c_105, c_106, c_110, c_119, c_123, c_124, c_125, c_126, c_240, c_256, c_400, c_m, nI_m1, nM_i, hx.1.inb, o1, e1, hw, b1]
      | .ok ((v, p), r') =>
        have p1 := pNumR_ok hp
        obtain ⟨s2, b1, b2, b3, b4, b5⟩ := rx_num_ok (F := F) (b := w) (by omega) hE.2.2.2.1 hst p1
        have hl1 := pNum_len p1
        show ro n T (rbind (pTake 41 r') _) _ _ _ _
        match ht : pTake 41 r' with
        | .error r'' =>
          have c1 := rx_take_er (g := g) (by omega) (by omega) b2.1 ht
          refine ⟨s2, ?_, by rw [c1.2]; exact b2.1, hsf.trans b3⟩
          unfold f_R_restOfBracket
          simp (disch := omega) only [ax_let, Option.bind_some, cond_true, cond_false, if_pos, if_neg, if_true, if_false, eq_self, nI_add, nI_ltI, nI_leI, nI_eq, nI_clamp, pu_in, c_0, c_1, c_2, c_3, c_4, c_5, c_6, c_7, c_8, c_9, c_10, c_11, c_12, c_15, c_16, c_17, c_32, c_35, c_36, c_38, c_40, c_41, c_42, c_43, c_44, c_45, c_48, c_57, c_58, c_59, c_60, c_61, c_62, c_64, c_65, c_69, c_75, c_83, c_91, c_93, c_94, c_97, c_105, c_106, c_110, c_119, c_123, c_124, c_125, c_126, c_240, c_256, c_400, c_m, nI_m1, nM_i, hx.1.inb, o1, e1, hw, b1, c1.1]
        | .ok ((), r'') =>
          obtain ⟨s3, c1, c2, c3⟩ := rx_take_ok (by omega) b2 ht
          have hl2 := pTake_len ht
          have hf3 : frm (XE g) s s3 := (hsf.trans b3).trans c3
          have hat3 := at_last c2.2.2.2.1
          rw [hA] at hat3
          have hAl : (P ++ cXs L Z ++ [cX L z.1 z.2]).length = P.length + Z.length + 1 := by rw [List.length_append, hA]; rfl
          obtain ⟨s4, d1, d2, d3⟩ := rc_over (k := 60) (v := v) (by omega) (by omega) hat3 has c2.2.2.2.1 (by omega)
          refine ⟨nI (P ++ cXs L Z ++ [cX L z.1 z.2]).length, s4, ?_, ?_, hf3.trans (XE.of d3)⟩
          · unfold f_R_restOfBracket
            simp (disch := omega) only [ax_let, Option.bind_some, cond_true, cond_false, if_pos, if_neg, if_true, if_false, eq_self, nI_add, nI_ltI, nI_leI, nI_eq, nI_clamp, pu_in, c_0, c_1, c_2, c_3, c_4, c_5, c_6, c_7, c_8, c_9, c_10, c_11, c_12, c_15, c_16, c_17, c_32, c_35, c_36, c_38, c_40, c_41, c_42, c_43, c_44, c_45, c_48, c_57, c_58, c_59, c_60, c_61, c_62, c_64, c_65, c_69, c_75, c_83, c_91, c_93, c_94, c_97, c_105, c_106, c_110, c_119, c_123, c_124, c_125, c_126, c_240, c_256, c_400, c_m, nI_m1, nM_i, hx.1.inb, o1, e1, hw, b1, c1, d1]
          · exact exK.over (o := (7, v, p, [])) h1 rfl (Or.inr rfl) rfl (c2.add d2 d3 (by omega)) h4 ⟨h5, h6, h7⟩
    · rw [if_neg ho]
      by_cases ho2 : o = 94 ∨ o = 38 ∨ o = 124 ∨ o = 43 ∨ o = 45 ∨ o = 42
      · rw [if_pos ho2]
        obtain ⟨j, hj, e1⟩ := ix_sgI (F := F) (c := o) (s := s) (by omega) (Or.inr ho2)
        have hI := ih (d + 1) r (lfE sn w L lf e) _ _ (by omega) (by omega) (hE.keep hsf) hst
        match hp : pEx f (d + 1) r, hI with
        | .error r', hI =>
          obtain ⟨s2, b1, b2, b3⟩ := hI
          refine ⟨s2, ?_, b2, hsf.trans b3⟩
          unfold f_R_restOfBracket
          simp (disch := omega) only [ax_let, Option.bind_some, cond_true, cond_false, if_pos, if_neg, if_true, if_false, eq_self, nI_add, nI_ltI, nI_leI, nI_eq, nI_clamp, pu_in, c_0, c_1, c_2, c_3, c_4, c_5, c_6, c_7, c_8, c_9, c_10, c_11, c_12, c_15, c_16, c_17, c_32, c_35, c_36, c_38, c_40, c_41, c_42, c_43, c_44, c_45, c_48, c_57, c_58, c_59, c_60, c_61, c_62, c_64, c_65, c_69, c_75, c_83, c_91, c_93, c_94, c_97, c_105, c_106, c_110, c_119, c_123, c_124, c_125, c_126, c_240, c_256, c_400, c_m, nI_m1, nM_i, hx.1.inb, o1, e1, b1]
        | .ok (e', r'), hI =>
          obtain ⟨v2, s2, b1, ⟨Z', z', y1, rfl, y3, y4, y5, y6, y7⟩, b3⟩ := hI
          have hA' := lenA (P ++ cXs L Z ++ [cX L z.1 z.2]) L Z'
          have hAl : (P ++ cXs L Z ++ [cX L z.1 z.2]).length = P.length + Z.length + 1 := by rw [List.length_append, hA]; rfl
          have heL' : e'.length = Z'.length + 1 := by rw [y1]; simp only [List.length_append, List.length_map, List.length_cons, List.length_nil]
          have hl1 := pEx_len (by omega) hp
          show ro n T (rbind (pTake 41 r') _) _ _ _ _
          match ht : pTake 41 r' with
          | .error r'' =>
            have c1 := rx_take_er (g := g) (by omega) (by omega) y3.1 ht
            refine ⟨s2, ?_, by rw [c1.2]; exact y3.1, hsf.trans b3⟩
            unfold f_R_restOfBracket
            simp (disch := omega) only [ax_let, Option.bind_some, cond_true, cond_false, if_pos, if_neg, if_true, if_false, eq_self, nI_add, nI_ltI, nI_leI, nI_eq, nI_clamp, pu_in, c_0, c_1, c_2, c_3, c_4, c_5, c_6, c_7, c_8, c_9, c_10, c_11, c_12, c_15, c_16, c_17, c_32, c_35, c_36, c_38, c_40, c_41, c_42, c_43, c_44, c_45, c_48, c_57, c_58, c_59, c_60, c_61, c_62, c_64, c_65, c_69, c_75, c_83, c_91, c_93, c_94, c_97, c_105, c_106, c_110, c_119, c_123, c_124, c_125, c_126, c_240, c_256, c_400, c_m, nI_m1, nM_i, hx.1.inb, o1, e1, b1, c1.1]
          | .ok ((), r'') =>
            obtain ⟨s3, c1, c2, c3⟩ := rx_take_ok (by omega) y3 ht
            have hl2 := pTake_len ht
            have hf3 : frm (XE g) s s3 := (hsf.trans b3).trans c3
            have hat3 := at_last c2.2.2.2.1
            rw [hA'] at hat3
            have hat2 : atA g (P.length + Z.length) z.2 s3 := by
              have := c2.2.2.2.1
              rw [List.append_assoc] at this
              rw [← hA]
              exact at_mid this
            have hBl : (P ++ cXs L Z ++ [cX L z.1 z.2] ++ cXs L Z' ++ [cX L z'.1 z'.2]).length = P.length + Z.length + 1 + Z'.length + 1 := by rw [List.length_append, hA', hAl]; rfl
            obtain ⟨s4, d1, d2, d3⟩ := rc_join (k := o) (by omega) (by omega) hat2 hat3 has ⟨y5, by omega, by omega⟩ c2.2.2.2.1 (by omega)
            refine ⟨nI (P ++ cXs L Z ++ [cX L z.1 z.2] ++ cXs L Z' ++ [cX L z'.1 z'.2]).length, s4, ?_, ?_, hf3.trans (XE.of d3)⟩
            · unfold f_R_restOfBracket
              simp (disch := omega) only [ax_let, Option.bind_some, cond_true, cond_false, if_pos, if_neg, if_true, if_false, eq_self, nI_add, nI_ltI, nI_leI, nI_eq, nI_clamp, pu_in, c_0, c_1, c_2, c_3, c_4, c_5, c_6, c_7, c_8, c_9, c_10, c_11, c_12, c_15, c_16, c_17, c_32, c_35, c_36, c_38, c_40, c_41, c_42, c_43, c_44, c_45, c_48, c_57, c_58, c_59, c_60, c_61, c_62, c_64, c_65, c_69, c_75, c_83, c_91, c_93, c_94, c_97, c_105, c_106, c_110, c_119, c_123, c_124, c_125, c_126, c_240, c_256, c_400, c_m, nI_m1, nM_i, hx.1.inb, o1, e1, b1, c1, d1]
            · refine ⟨Z ++ [z] ++ (Z' ++ [z']), ((8, o, 0, []), aPair z.2 z'.2), ?_, ?_, ?_, ?_, ?_⟩
              · rw [h1, y1]; simp only [List.map_append, List.map_cons, List.map_nil]
              · rw [hBl]; simp only [List.length_append, List.length_cons, List.length_nil]; congr 1; omega
              · rw [lfE_app, lfE_app]
                show RX n T g r'' (lfE sn w L (lfE sn w L lf e) e') _ s4
                have := c2.add d2 d3 (by omega)
                simp only [cXs, List.map_append, List.map_cons, List.map_nil, ← List.append_assoc] at this ⊢
                exact this
              · intro st
                rw [aRun_app, aRun_app, h4, y4]
                exact aOp_pair (o := (8, o, 0, [])) rfl
              · simp only [List.length_append, List.length_cons, List.length_nil]
                exact aPair_s ⟨h5, h6, h7⟩ ⟨y5, y6, y7⟩
      · rw [if_neg ho2]
        exact ⟨s, stop (by show ¬ (o = 60 ∨ o = 94 ∨ o = 38 ∨ o = 124 ∨ o = 43 ∨ o = 45 ∨ o = 42); omega), hx.1, frm.refl⟩
end
