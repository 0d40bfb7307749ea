/-! PURE: the least fault that the class finds -/
/-- bounds of a description -/
def DB (D : Ds) : Prop := (dH D).length ≤ 240 ∧ ((dH D).flatMap the).length ≤ 240 ∧ (((dH D).flatMap the).flatMap opT).length ≤ 240 ∧ ((dH D).flatMap thn).length ≤ 240
theorem fm_len {α β : Type} {f : α → List β} : ∀ {l : List α} {x : α}, x ∈ l → (f x).length ≤ (l.flatMap f).length
  | y :: l, x, h => by
    rw [List.flatMap_cons, List.length_append]
    cases h with
    | head => omega
    | tail _ h => have := fm_len (f := f) h; omega
theorem nlm {l : List Tm} (h : l = []) : ∀ x ∈ l, x.1 < 10 ^ 9 ∧ x.2.1 ≤ 2 := by
  rw [h]
  exact fun x hx => by cases hx
theorem okTh_X {n : Nat} {wr : Bool} {w : List Nat} {t : Th} (hn : 0 < n) (hw : ∀ q ∈ w, q < n) (hl : ∀ o ∈ the t, o.2.2.2.length ≤ 240) (h : okTh wr w t) : thX n t := by
  have key : ∀ e, e = the t → okE w e → ∀ o ∈ e, opX n o := by
    intro e he hE o ho
    have ho' := hE.1 o ho
    have hl' := hl o (by rw [← he]; exact ho)
    unfold opX
    rcases ho' with ⟨a, b, c, d⟩ | ⟨a, b, c, d⟩ | ⟨a, b, c, d⟩ | ⟨a, b, c, d⟩ | ⟨a, b, c, d⟩ | ⟨a, b, c, d⟩ | ⟨a, b, c, d⟩
    · exact ⟨⟨by omega, by omega, hw _ c, hl', nlm d, fun e => by omega⟩, by omega⟩
    · exact ⟨⟨by omega, by omega, hw _ c, hl', fun x hx => ⟨(d x hx).1, (d x hx).2.1⟩, fun e => by omega⟩, by omega⟩
    · exact ⟨⟨by omega, by omega, hw _ c, hl', nlm d, fun e => by omega⟩, by omega⟩
    · exact ⟨⟨by omega, by omega, hw _ c, hl', nlm d, fun e => by omega⟩, by omega⟩
    · exact ⟨⟨by omega, by omega, by omega, hl', nlm d, fun e => by omega⟩, by omega⟩
    · exact ⟨⟨by omega, by omega, hw _ c, hl', nlm d, fun e => by omega⟩, by omega⟩
    · refine ⟨⟨by omega, ?_, by omega, hl', nlm d, fun _ => b⟩, by omega⟩
      unfold isOp at b
      omega
  obtain ⟨-, h⟩ := h
  rcases h with ⟨a, b, c, d⟩ | ⟨a, b, c⟩ | ⟨a, b, c, d⟩ | ⟨a, b, c⟩
  · exact ⟨fun _ => b, fun e => absurd a e⟩
  · exact ⟨fun e => by omega, fun _ e => absurd a e⟩
  · exact ⟨fun e => by omega, fun _ _ => ⟨Or.inl b, key _ rfl c⟩⟩
  · have hk : 4 ≤ thk t ∧ thk t ≤ 12 := by
      rcases c with ⟨x, -⟩ | ⟨x, -⟩ | ⟨x, -⟩ | ⟨x, -⟩ <;> simp only [wkOf] at x <;> omega
    refine ⟨fun e => by omega, fun _ _ => ⟨Or.inr hk, ?_⟩⟩
    rcases c with ⟨-, -, x, -⟩ | ⟨-, -, -, x, -⟩ | ⟨-, -, -, x, -⟩ | ⟨-, x, -⟩
    · exact key _ rfl x
    · have : the t = [] := x
      rw [this]; exact fun o ho => by cases ho
    · have : the t = [] := x
      rw [this]; exact fun o ho => by cases ho
    · have : the t = [] := x
      rw [this]; exact fun o ho => by cases ho
/-- what follows for things -/
def okH (D : Ds) (W : List (List Nat)) : Prop := ∀ (k : Nat) (t : Th), (dH D)[k]? = some t → ∃ w, W[k]? = some w ∧ okTh (decide (k < (dW D).length)) w t
theorem PF.okH {n : Nat} {D : Ds} {W : List (List Nat)} (h1 : W.length = (dH D).length) (h2 : ∀ (k : Nat) (t : Th) (w : List Nat), (dW D)[k]? = some t → W[k]? = some w → okTh true w t) (h3 : ∀ (k : Nat) (t : Th) (w : List Nat), (dSt D)[k]? = some t → W[(dW D).length + k]? = some w → okTh false w t) : okH D W := by
  intro k t hk
  have hlt := get_lt hk
  have hw : W[k]? = some W[k] := List.getElem?_eq_getElem (by omega)
  refine ⟨_, hw, ?_⟩
  unfold dH at hk
  by_cases hc : k < (dW D).length
  · rw [decide_eq_true hc]
    rw [List.getElem?_append_left hc] at hk
    exact h2 k t _ hk hw
  · rw [decide_eq_false hc]
    rw [List.getElem?_append_right (by omega)] at hk
    exact h3 (k - (dW D).length) t _ hk (by rw [show (dW D).length + (k - (dW D).length) = k from by omega]; exact hw)
theorem okTh_idx {wr : Bool} {w : List Nat} {t : Th} (h : okTh wr w t) : ∀ o ∈ the t, (o.1 = 2 ∨ o.1 = 3) → o.2.2.1 ∈ w := by
  have key : okE w (the t) → ∀ o ∈ the t, (o.1 = 2 ∨ o.1 = 3) → o.2.2.1 ∈ w := by
    intro hE o ho hi
    rcases hE.1 o ho with ⟨a, -⟩ | ⟨-, -, c, -⟩ | ⟨a, -⟩ | ⟨a, -⟩ | ⟨a, -⟩ | ⟨a, -⟩ | ⟨a, -⟩
    · omega
    · exact c
    all_goals omega
  obtain ⟨-, h⟩ := h
  rcases h with ⟨-, -, -, -, d, -⟩ | ⟨-, d, -⟩ | ⟨-, -, c, -⟩ | ⟨-, -, c⟩
  · rw [d]; exact fun o ho => by cases ho
  · rw [d]; exact fun o ho => by cases ho
  · exact key c
  · rcases c with ⟨-, -, x, -⟩ | ⟨-, -, -, x, -⟩ | ⟨-, -, -, x, -⟩ | ⟨-, x, -⟩
    · exact key x
    · have : the t = [] := x
      rw [this]; exact fun o ho => by cases ho
    · have : the t = [] := x
      rw [this]; exact fun o ho => by cases ho
    · have : the t = [] := x
      rw [this]; exact fun o ho => by cases ho
theorem okH_pw {D : Ds} {W : List (List Nat)} (h : okH D W) (hp : W.flatten.Pairwise (· < ·)) : (dH D).Pairwise sqT := by
  rw [List.pairwise_iff_getElem]
  intro i j hi hj hij e2 o ho hk
  obtain ⟨w, hw, ok⟩ := h i _ (List.getElem?_eq_getElem hi)
  obtain ⟨w', hw', ok'⟩ := h j _ (List.getElem?_eq_getElem hj)
  have hm := okTh_idx ok' o ho hk
  have hlt : ∀ x ∈ w, ∀ y ∈ w', x < y := by
    have h2 := (List.pairwise_flatten.mp hp).2
    rw [List.pairwise_iff_getElem] at h2
    obtain ⟨i', e1⟩ := List.getElem?_eq_some_iff.mp hw
    obtain ⟨j', e3⟩ := List.getElem?_eq_some_iff.mp hw'
    have := h2 i j i' j' hij
    rw [e1, e3] at this
    exact this
  obtain ⟨p1, p2⟩ := ok
  rcases p2 with ⟨a, b, c, d, -⟩ | ⟨a, -⟩ | ⟨-, a, -⟩ | ⟨-, -, a⟩
  · exact ⟨hlt _ p1 _ hm, hlt _ d _ hm⟩
  · omega
  · omega
  · exfalso
    rcases a with ⟨x, -⟩ | ⟨x, -⟩ | ⟨x, -⟩ | ⟨x, -⟩ <;> simp only [wkOf] at x <;> omega
/-- m is not above any fault -/
def FN (K : KS) (m : Nat) (D : Ds) : Prop := hdN m D ∧ (∀ x ∈ dT D, tbN m x) ∧ NX K m (dW D) [] ∧ NX (kSn K (kst K)) m (dSt D) [] ∧ GX m (wt skW (dW D)) (kky K) (dW D) [] 0 ∧ GX m (wt skW (dW D)) (kky K) (dSt D) [] (wt skW (dW D))
theorem wt_z {f : Th → Nat} {lim : Nat} {l : List Th} (h : lv lim 0 l = some 0) : (∀ t ∈ l, thk t ≠ 2 → thk t ≠ 3 → f t = 0) → wt f l = 0 := by
  refine dyck (P := fun _ l => (∀ t ∈ l, thk t ≠ 2 → thk t ≠ 3 → f t = 0) → wt f l = 0) h (fun _ _ => rfl) ?_ ?_
  · intro lim t r e2 e3 hr ih hz
    rw [wt_leaf e2 e3 hr, hz t (List.mem_cons_self ..) e2 e3, ih (fun t ht => hz t (List.mem_cons_of_mem _ ht))]
  · intro lim o b c r e2 e3 hm hr i1 i2 hz
    rw [wt_loop e2 e3 hm hr, i1 (fun t ht => hz t (List.mem_cons_of_mem _ (List.mem_append_left _ ht))), i2 (fun t ht => hz t (List.mem_cons_of_mem _ (List.mem_append_right _ (List.mem_cons_of_mem _ ht))))]
    rfl
theorem ck_2 {F g : Nat} {s : ax_σ} (hF : 241 ≤ F) : ∃ s', lp_R_checkIndexes_2 F g F (nI 0) s = some s' ∧ tgM (1, 1, 0, 0) s' ∧ frm (fun g r k => g = 0 ∧ (r = 30 ∨ r = 31)) s s' := by
  obtain ⟨F', rfl⟩ : ∃ F', F = F' + 3 := ⟨F - 3, by omega⟩
  refine ⟨ax_wI (ax_wI (ax_wI (ax_wI s 0 30 0 (nI 1)) 0 31 0 (nI 0)) 0 30 1 (nI 1)) 0 31 1 (nI 0), ?_, ⟨by simp (disch := omega) only [wI_1, wI_2, wL_1, wL_2, true_and, and_true, and_self, false_and, and_false, if_true, if_false, if_pos, if_neg], by simp (disch := omega) only [wI_1, wI_2, wL_1, wL_2, true_and, and_true, and_self, false_and, and_false, if_true, if_false, if_pos, if_neg], by simp (disch := omega) only [wI_1, wI_2, wL_1, wL_2, true_and, and_true, and_self, false_and, and_false, if_true, if_false, if_pos, if_neg], by simp (disch := omega) only [wI_1, wI_2, wL_1, wL_2, true_and, and_true, and_self, false_and, and_false, if_true, if_false, if_pos, if_neg], by decide, by decide, by decide, by decide⟩, ?_⟩
  · rw [show F' + 3 = F' + 2 + 1 from rfl, lp_R_checkIndexes_2]
    simp (disch := omega) only [ax_let, Option.bind_some, cond_true, cond_false, if_pos, if_neg, if_true, if_false, eq_self, nI_add, nI_ltI, nI_leI, nI_eq, nI_clamp, pu_in, c_0, c_1, c_2, c_3, c_4, c_5, c_6, c_7, c_8, c_9, c_10, c_11, c_12, c_15, c_16, c_17, c_32, c_35, c_36, c_38, c_40, c_41, c_42, c_43, c_44, c_45, c_48, c_57, c_58, c_59, c_60, c_61, c_62, c_64, c_65, c_69, c_75, c_83, c_91, c_93, c_94, c_97, c_105, c_106, c_110, c_119, c_123, c_124, c_125, c_126, c_240, c_256, c_400, c_m, nI_m1, nM_i, lN_add, lN_mul, lN_i, nI_l, lN_eq, lgN_le, lgN_lt, lgN_ge, lgN_gt, nI_sub, nI_mul, d_0, d_1, c_13, c_14, c_18, c_19, c_20, c_21, c_22, c_23, c_24, c_25, c_26, c_27, c_28, c_29, c_30, c_31, c_33, c_34, c_37, c_39, c_46, c_47, c_49, c_50, c_51, c_52, c_53, c_54, c_55, c_56, c_63, c_66, c_67, c_68, c_70, c_71, c_72, c_73, c_74, c_76, c_77, c_78, c_79, c_80, c_81, c_82, c_84, c_85, c_86, c_87, c_88, c_89, c_90, c_92, c_95, c_96, c_98, c_99, c_100, c_101, c_102, c_103, c_104, c_107, c_108, c_109, c_111, c_112, c_113, c_114, c_115, c_116, c_117, c_118, c_120, c_121, c_122, c_127, c_280, d_2, d_3, d_4, d_8, d_9, d_10, d_15, d_16, d_32, d_48, d_62, d_63, d_64]
    rw [show F' + 2 = F' + 1 + 1 from rfl, lp_R_checkIndexes_2]
    simp (disch := omega) only [ax_let, Option.bind_some, cond_true, cond_false, if_pos, if_neg, if_true, if_false, eq_self, nI_add, nI_ltI, nI_leI, nI_eq, nI_clamp, pu_in, c_0, c_1, c_2, c_3, c_4, c_5, c_6, c_7, c_8, c_9, c_10, c_11, c_12, c_15, c_16, c_17, c_32, c_35, c_36, c_38, c_40, c_41, c_42, c_43, c_44, c_45, c_48, c_57, c_58, c_59, c_60, c_61, c_62, c_64, c_65, c_69, c_75, c_83, c_91, c_93, c_94, c_97, c_105, c_106, c_110, c_119, c_123, c_124, c_125, c_126, c_240, c_256, c_400, c_m, nI_m1, nM_i, lN_add, lN_mul, lN_i, nI_l, lN_eq, lgN_le, lgN_lt, lgN_ge, lgN_gt, nI_sub, nI_mul, d_0, d_1, c_13, c_14, c_18, c_19, c_20, c_21, c_22, c_23, c_24, c_25, c_26, c_27, c_28, c_29, c_30, c_31, c_33, c_34, c_37, c_39, c_46, c_47, c_49, c_50, c_51, c_52, c_53, c_54, c_55, c_56, c_63, c_66, c_67, c_68, c_70, c_71, c_72, c_73, c_74, c_76, c_77, c_78, c_79, c_80, c_81, c_82, c_84, c_85, c_86, c_87, c_88, c_89, c_90, c_92, c_95, c_96, c_98, c_99, c_100, c_101, c_102, c_103, c_104, c_107, c_108, c_109, c_111, c_112, c_113, c_114, c_115, c_116, c_117, c_118, c_120, c_121, c_122, c_127, c_280, d_2, d_3, d_4, d_8, d_9, d_10, d_15, d_16, d_32, d_48, d_62, d_63, d_64]
    rw [lp_R_checkIndexes_2]
    simp (disch := omega) only [ax_let, Option.bind_some, cond_true, cond_false, if_pos, if_neg, if_true, if_false, eq_self, nI_add, nI_ltI, nI_leI, nI_eq, nI_clamp, pu_in, c_0, c_1, c_2, c_3, c_4, c_5, c_6, c_7, c_8, c_9, c_10, c_11, c_12, c_15, c_16, c_17, c_32, c_35, c_36, c_38, c_40, c_41, c_42, c_43, c_44, c_45, c_48, c_57, c_58, c_59, c_60, c_61, c_62, c_64, c_65, c_69, c_75, c_83, c_91, c_93, c_94, c_97, c_105, c_106, c_110, c_119, c_123, c_124, c_125, c_126, c_240, c_256, c_400, c_m, nI_m1, nM_i, lN_add, lN_mul, lN_i, nI_l, lN_eq, lgN_le, lgN_lt, lgN_ge, lgN_gt, nI_sub, nI_mul, d_0, d_1, c_13, c_14, c_18, c_19, c_20, c_21, c_22, c_23, c_24, c_25, c_26, c_27, c_28, c_29, c_30, c_31, c_33, c_34, c_37, c_39, c_46, c_47, c_49, c_50, c_51, c_52, c_53, c_54, c_55, c_56, c_63, c_66, c_67, c_68, c_70, c_71, c_72, c_73, c_74, c_76, c_77, c_78, c_79, c_80, c_81, c_82, c_84, c_85, c_86, c_87, c_88, c_89, c_90, c_92, c_95, c_96, c_98, c_99, c_100, c_101, c_102, c_103, c_104, c_107, c_108, c_109, c_111, c_112, c_113, c_114, c_115, c_116, c_117, c_118, c_120, c_121, c_122, c_127, c_280, d_2, d_3, d_4, d_8, d_9, d_10, d_15, d_16, d_32, d_48, d_62, d_63, d_64]
  · refine (((frm.refl.wI _ _ _ _ ?_).wI _ _ _ _ ?_).wI _ _ _ _ ?_).wI _ _ _ _ ?_ <;> omega
section
variable {F n g : Nat} {T : List Tok} {D : Ds} {B : Nat → Int32} {s : ax_σ}
/-- the class's state behind reading -/
theorem cD_eq (h1 : lv 2 0 (dW D) = some 0) (h2 : lv 2 0 (dSt D) = some 0) (hs : ∀ t ∈ dSt D, thk t ≠ 1) (hw : ∀ t ∈ dW D, thk t ≠ 2 → thk t ≠ 3 → thk t = 1) (K : KS) (hK : kst K = D.2.1.1) : cD K D = ((lx (dW D)).2.2 0 0 0 ++ (lx (dSt D)).2.2 ((lx (dW D)).2.2 0 0 0).length (PX (dW D) []).length (wt skW (dW D)), PX (dW D) [] ++ PX (dSt D) [], LFX (kSn K (kst K)) (dSt D) [] (LFX K (dW D) [] (lfD D)), wt skW (dW D), wt spW (dSt D), wt icW (dW D) + wt icW (dSt D), RGX (kst K) (dSt D) (RGX (kst K) (dW D) (kst K)), []) := by
  unfold cD cD1
  have e1 := cl_bal (K := K) h1 ([], [], lfD D, 0, 0, 0, D.2.1.1, []) (fun o ho => by cases ho)
  simp only [cLs, cP, cLf, cSk, cSp, cIn, cRg, cOq] at e1
  have e2 : oL [] [] = [] := rfl
  rw [e2] at e1
  simp only [List.nil_append, Nat.zero_add, List.length_nil] at e1
  have z1 : wt spW (dW D) = 0 := wt_z h1 (fun t ht a b => by unfold spW; rw [if_pos (hw t ht a b)])
  have z2 : wt skW (dSt D) = 0 := wt_z h2 (fun t ht a b => by unfold skW; rw [if_neg (hs t ht)])
  have e3 := cl_bal (K := kSn K (kst K)) h2 (cThs K ([], [], lfD D, 0, 0, 0, D.2.1.1, []) (dW D)) (by rw [e1]; exact fun o ho => by cases ho)
  show cThs (kSn K (kst K)) (cThs K ([], [], lfD D, 0, 0, 0, D.2.1.1, []) (dW D)) (dSt D) = _
  rw [e3, e1]
  simp only [cLs, cP, cLf, cSk, cSp, cIn, cRg, cOq]
  have e4 : ∀ x, oL x [] = [] := fun _ => rfl
  rw [e4, z1, z2, ← hK]
  simp only [Nat.zero_add, Nat.add_zero]
  rfl
end
