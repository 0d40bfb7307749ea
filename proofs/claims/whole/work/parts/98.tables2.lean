/-! PURE: all tables are read -/
theorem rbind_a {α β γ : Type} (x : Rd α) (f : α → List Tok → Rd β) (h : β → List Tok → Rd γ) : rbind (rbind x f) h = rbind x (fun a r => rbind (f a r) h) := by
  match x with
  | .error r => rfl
  | .ok (a, r) => rfl
def tbE (t : Tb) (i : Nat) : Nat := match t.2 with
  | [m, a] => (i * m.1 + a.1) % 16
  | _ => t.1.getD i 0
def lfTb (lf : Nat) (t : Tb) : Nat := match t.2 with
  | [m, a] => lfN (lfN lf 16 m.1 m.2) 16 a.1 a.2
  | _ => lf
def RT (n : Nat) (T : List Tok) (g : Nat) (ts : List Tok) (lf w st ky : Nat) (l : List Tb) (s : ax_σ) : Prop := RZ n T g ts lf [w, st, ky, l.length, 0, 0, 0, st] s ∧ l.length ≤ 2 ∧ ∀ u x, l[u]? = some x → ∀ k, k < 16 → tbE x k < 16 ∧ s.1 g 2 (u * 16 + k) = nI (tbE x k) ∧ s.1 g 3 (u * 16 + k) = bkL (fun y => nI (tbE x y)) (nI k) 16 nM
def pTbT (ts : List Tok) : Rd Tb := rbind (pTb ts) (fun t r => rbind (pTake 59 r) (fun _ r' => .ok (t, r')))
def XT (g t g' r k : Nat) : Prop := XE g g' r k ∨ (g' = g ∧ r = 2 ∧ t * 16 ≤ k ∧ k < t * 16 + 16)
def tbB (F g : Nat) (x1 : Int32) (s4 : ax_σ) : Option (Int32 × ax_σ) :=
  if (s4.1 0 26 ((s4.1 0 25 3)).toNatClampNeg) = (42 : Int32) then
    f_R_tableByRule F g x1 s4
  else
    f_R_tableByDigits F g x1 s4
def XV (g g' r k : Nat) : Prop := (g' = 0 ∧ 25 ≤ r ∧ r ≤ 31) ∨ (g' = g ∧ 1 ≤ r ∧ r ≤ 19)
theorem XV.ofX {g : Nat} {s s' : ax_σ} (h : frm (XR g) s s') : frm (XV g) s s' := h.imp (fun g r k h => by unfold XR at h; unfold XV; omega)
theorem XV.gE {g : Nat} {s s' : ax_σ} (h : frm (XE g) s s') : frm (XV g) s s' := h.imp (fun g r k h => by unfold XE XC at h; unfold XV; omega)
section
variable {n : Nat} {T : List Tok} {g : Nat} {ts : List Tok} {lf : Nat} {s : ax_σ}
theorem rd_tb {F t : Nat} (hF : 241 ≤ F) (ht : t < 2) (h : RX n T g ts lf [] s) : ro n T (pTb ts) (frm (XT g t) s) (fun x r v s' => v = nI 1 ∧ RX n T g r (lfTb lf x) [] s' ∧ ∀ k, k < 16 → tbE x k < 16 ∧ s'.1 g 2 (t * 16 + k) = nI (tbE x k)) (nI 0) (tbB F g (nI t) s) := by
  have hat := h.1.at
  have toE : ∀ {s1 s2 : ax_σ}, frm (XE g) s1 s2 → frm (XT g t) s1 s2 := fun hh => hh.imp (fun _ _ _ h => Or.inl h)
  have toD : ∀ {s1 s2 : ax_σ}, frm (XD g t 0) s1 s2 → frm (XT g t) s1 s2 := fun hh => hh.imp (fun g' r k h => by unfold XD at h; unfold XT XE; omega)
  have dig : sg ts ≠ 42 → tbB F g (nI t) s = Option.bind (lp_R_tableByDigits_2 F g (nI t) F (nI 0) s) (fun w => match w with
    | .inl w => some w
    | .inr s9 => some (((1 : Int32), s9))) := by
    intro hne
    unfold tbB
    simp (disch := omega) only [ax_let, Option.bind_some, cond_true, cond_false, if_pos, if_neg, if_true, if_false, eq_self, nI_add, nI_ltI, nI_leI, nI_eq, nI_clamp, pu_in, c_0, c_1, c_2, c_3, c_4, c_5, c_6, c_7, c_8, c_9, c_10, c_11, c_12, c_15, c_16, c_17, c_32, c_35, c_36, c_38, c_40, c_41, c_42, c_43, c_44, c_45, c_48, c_57, c_58, c_59, c_60, c_61, c_62, c_64, c_65, c_69, c_75, c_83, c_91, c_93, c_94, c_97, c_105, c_106, c_110, c_119, c_123, c_124, c_125, c_126, c_240, c_256, c_400, c_m, nI_m1, nM_i, hat.1]
    rfl
  have hd := rd_digits (g := g) (F := F) (t := t) hF ht 16 0 F ts s (by omega) (by omega) h.1
  match ts, h, hat, dig, hd with
  | [], h, hat, dig, hd =>
    rw [dig (by show (0 : Nat) ≠ 42; omega)]
    obtain ⟨s1, a1, a2, a3⟩ := hd
    refine ⟨s1, ?_, a2, toD a3⟩
    rw [a1]
    rfl
  | (c, p) :: ts', h, hat, dig, hd =>
    rw [pTb]
    by_cases hc : c = 42
    · subst hc
      rw [if_pos rfl]
      obtain ⟨b1, b2⟩ := h.step
      have e0 : tbB F g (nI t) s = f_R_tableByRule F g (nI t) s := by
        have hat1 : s.1 0 26 (s.1 0 25 3).toNatClampNeg = nI 42 := hat.1
        unfold tbB
        simp (disch := omega) only [ax_let, Option.bind_some, cond_true, cond_false, if_pos, if_neg, if_true, if_false, eq_self, nI_add, nI_ltI, nI_leI, nI_eq, nI_clamp, pu_in, c_0, c_1, c_2, c_3, c_4, c_5, c_6, c_7, c_8, c_9, c_10, c_11, c_12, c_15, c_16, c_17, c_32, c_35, c_36, c_38, c_40, c_41, c_42, c_43, c_44, c_45, c_48, c_57, c_58, c_59, c_60, c_61, c_62, c_64, c_65, c_69, c_75, c_83, c_91, c_93, c_94, c_97, c_105, c_106, c_110, c_119, c_123, c_124, c_125, c_126, c_240, c_256, c_400, c_m, nI_m1, nM_i, hat1]
      rw [e0]
      match hp : pNumR ts' with
      | .error r =>
        obtain ⟨hp', e⟩ := pNumR_er hp
        subst e
        have a1 := rx_num_no0 (g := g) (F := F) (b := 16) (by omega) (by omega) (by omega) b1.1 hp'
        refine ⟨_, ?_, b1.1, toE b2⟩
        unfold f_R_tableByRule
        simp (disch := omega) only [ax_let, Option.bind_some, cond_true, cond_false, if_pos, if_neg, if_true, if_false, eq_self, nI_add, nI_ltI, nI_leI, nI_eq, nI_clamp, pu_in, c_0, c_1, c_2, c_3, c_4, c_5, c_6, c_7, c_8, c_9, c_10, c_11, c_12, c_15, c_16, c_17, c_32, c_35, c_36, c_38, c_40, c_41, c_42, c_43, c_44, c_45, c_48, c_57, c_58, c_59, c_60, c_61, c_62, c_64, c_65, c_69, c_75, c_83, c_91, c_93, c_94, c_97, c_105, c_106, c_110, c_119, c_123, c_124, c_125, c_126, c_240, c_256, c_400, c_m, nI_m1, nM_i, a1]
      | .ok ((v, p1), r) =>
        have hp' := pNumR_ok hp
        obtain ⟨s1, a1, a2, a3, a4, a5⟩ := rx_num_ok (F := F) (b := 16) (by omega) (by omega) b1 hp'
        show ro n T (rbind (pTake 43 r) (fun _ r' => rbind (pNumR r') (fun n r'' => .ok (([], [(v, p1), n]), r'')))) _ _ _ _
        match htk : pTake 43 r with
        | .error r2 =>
          obtain ⟨c1, c2⟩ := rx_take_er (g := g) (by omega) (by omega) a2.1 htk
          refine ⟨s1, ?_, by rw [c2]; exact a2.1, toE (b2.trans a3)⟩
          unfold f_R_tableByRule
          simp (disch := omega) only [ax_let, Option.bind_some, cond_true, cond_false, if_pos, if_neg, if_true, if_false, eq_self, nI_add, nI_ltI, nI_leI, nI_eq, nI_clamp, pu_in, c_0, c_1, c_2, c_3, c_4, c_5, c_6, c_7, c_8, c_9, c_10, c_11, c_12, c_15, c_16, c_17, c_32, c_35, c_36, c_38, c_40, c_41, c_42, c_43, c_44, c_45, c_48, c_57, c_58, c_59, c_60, c_61, c_62, c_64, c_65, c_69, c_75, c_83, c_91, c_93, c_94, c_97, c_105, c_106, c_110, c_119, c_123, c_124, c_125, c_126, c_240, c_256, c_400, c_m, nI_m1, nM_i, a1, c1]
        | .ok ((), r2) =>
          obtain ⟨s2, c1, c2, c3⟩ := rx_take_ok (g := g) (by omega) a2 htk
          show ro n T (rbind (pNumR r2) (fun n r'' => .ok (([], [(v, p1), n]), r''))) _ _ _ _
          match hp2 : pNumR r2 with
          | .error r3 =>
            obtain ⟨hp2', e⟩ := pNumR_er hp2
            subst e
            have d1 := rx_num_no0 (g := g) (F := F) (b := 16) (by omega) (by omega) (by omega) c2.1 hp2'
            refine ⟨s2, ?_, c2.1, toE ((b2.trans a3).trans c3)⟩
            unfold f_R_tableByRule
            simp (disch := omega) only [ax_let, Option.bind_some, cond_true, cond_false, if_pos, if_neg, if_true, if_false, eq_self, nI_add, nI_ltI, nI_leI, nI_eq, nI_clamp, pu_in, c_0, c_1, c_2, c_3, c_4, c_5, c_6, c_7, c_8, c_9, c_10, c_11, c_12, c_15, c_16, c_17, c_32, c_35, c_36, c_38, c_40, c_41, c_42, c_43, c_44, c_45, c_48, c_57, c_58, c_59, c_60, c_61, c_62, c_64, c_65, c_69, c_75, c_83, c_91, c_93, c_94, c_97, c_105, c_106, c_110, c_119, c_123, c_124, c_125, c_126, c_240, c_256, c_400, c_m, nI_m1, nM_i, a1, c1, d1]
          | .ok ((v2, p2), r3) =>
            have hp2' := pNumR_ok hp2
            obtain ⟨s3, d1, d2, d3, d4, d5⟩ := rx_num_ok (F := F) (b := 16) (by omega) (by omega) c2 hp2'
            obtain ⟨s4, e1, e2, e3⟩ := rd_rule (g := g) (F := F) (f := v) (a := v2) ht 16 0 F s3 (by omega) (by omega)
            refine ⟨nI 1, s4, ?_, ⟨rfl, d2.keepN e2 (fun g' r k hx => by unfold XC at hx; omega), fun k hk => ⟨?_, e3 k (Nat.zero_le _) hk⟩⟩, (toE (((b2.trans a3).trans c3).trans d3)).trans (e2.imp (fun g' r k h => Or.inr (by omega)))⟩
            · unfold f_R_tableByRule
              simp (disch := omega) only [ax_let, Option.bind_some, cond_true, cond_false, if_pos, if_neg, if_true, if_false, eq_self, nI_add, nI_ltI, nI_leI, nI_eq, nI_clamp, pu_in, c_0, c_1, c_2, c_3, c_4, c_5, c_6, c_7, c_8, c_9, c_10, c_11, c_12, c_15, c_16, c_17, c_32, c_35, c_36, c_38, c_40, c_41, c_42, c_43, c_44, c_45, c_48, c_57, c_58, c_59, c_60, c_61, c_62, c_64, c_65, c_69, c_75, c_83, c_91, c_93, c_94, c_97, c_105, c_106, c_110, c_119, c_123, c_124, c_125, c_126, c_240, c_256, c_400, c_m, nI_m1, nM_i, a1, c1, d1, e1]
            · show (k * v + v2) % 16 < 16
              omega
    · rw [if_neg hc, dig hc]
      match hq : pHex 16 ((c, p) :: ts'), hd with
      | .error r, hd =>
        obtain ⟨s1, a1, a2, a3⟩ := hd
        refine ⟨s1, ?_, a2, toD a3⟩
        rw [a1]
        rfl
      | .ok (l, r), hd =>
        obtain ⟨s1, a1, ⟨a2, a4⟩, a3⟩ := hd
        obtain ⟨q1, q2, q3⟩ := pHex_lt 16 _ _ _ hq
        refine ⟨nI 1, s1, by rw [a1]; rfl, ⟨rfl, ⟨a2, (a3.1 0 25 7 (by unfold XD; omega)).trans h.2.1, h.2.2.1, h.2.2.2.1.keep a3 (fun g' r k hx => by unfold XC at hx; unfold XD; omega), by have := h.2.2.2.2; omega⟩, fun k hk => ?_⟩, toD a3⟩
        have hk' : k < l.length := by omega
        have hx := a4 k l[k] (List.getElem?_eq_getElem hk')
        have hE : tbE (l, []) k = l[k] := by
          show l.getD k 0 = l[k]
          rw [List.getD_eq_getElem?_getD, List.getElem?_eq_getElem hk']
          rfl
        rw [hE]
        exact ⟨q2 _ (List.getElem_mem hk'), by rw [show t * 16 + k = t * 16 + 0 + k from by omega]; exact hx⟩
theorem RZ.keepT {t : Nat} {N : List Nat} {ts' : List Tok} {lf' : Nat} {s' : ax_σ} (h : RZ n T g ts lf N s) (hf : frm (XT g t) s s') (hx : RX n T g ts' lf' [] s') : RZ n T g ts' lf' N s' := ⟨hx, h.2.1.keep hf (fun g' r k hx => by unfold XN at hx; unfold XT XE XC; omega), h.2.2.keep hf (fun k _ => by unfold XT XE XC; omega)⟩
theorem rd_table {F m p w st ky : Nat} {l : List Tb} (hF : 241 ≤ F) (hl : l.length < 2) (h : RT n T g ((35, p) :: ts) lf w st ky l s) : roL n T (pTbT ts) (frm (XV g) s) (fun t r s' => RT n T g r (lfTb lf t) w st ky (l ++ [t]) s') (lp_R_tables_2 F g (m + 1) (nI l.length) s) (fun s' => lp_R_tables_2 F g m (nI (l.length + 1)) s') := by
  obtain ⟨h1, h2, h3⟩ := h
  have hat1 : s.1 0 26 (s.1 0 25 3).toNatClampNeg = nI 35 := h1.1.1.at.1
  obtain ⟨b1, b2⟩ := h1.1.step
  have hz1 := h1.keepE b2 b1
  have k0 := rd_tb (F := F) (t := l.length) hF hl b1
  have toR : ∀ {s1 s2 : ax_σ}, frm (XT g l.length) s1 s2 → frm (XV g) s1 s2 := fun hh => hh.imp (fun g' r k h => by unfold XT XE XC at h; unfold XV; omega)
  have e0 : ∀ s5 v5, tbB F g (nI l.length) (ax_wI s 0 25 3 (s.1 0 25 3 + nI 1)) = some (v5, s5) → lp_R_tables_2 F g (m + 1) (nI l.length) s = (if v5 = nI 0 then
            some (.inl (nI 0, s5))
          else
            Option.bind (f_R_take g (nI 59) s5) (fun (r15, s16) =>
              if r15 = nI 0 then
                some (.inl (nI 0, s16))
              else
                Option.bind (f_P_turnTableRound F g (nI l.length) s16) (fun s18 => lp_R_tables_2 F g m (nI (l.length + 1)) (ax_wI s18 g 1 3 ((s18.1 g 1 3) + nI 1))))) := by
    intro s5 v5 hb
    rw [lp_R_tables_2]
    simp (disch := omega) only [ax_let, Option.bind_some, cond_true, cond_false, if_pos, if_neg, if_true, if_false, eq_self, nI_add, nI_ltI, nI_leI, nI_eq, nI_clamp, pu_in, c_0, c_1, c_2, c_3, c_4, c_5, c_6, c_7, c_8, c_9, c_10, c_11, c_12, c_15, c_16, c_17, c_32, c_35, c_36, c_38, c_40, c_41, c_42, c_43, c_44, c_45, c_48, c_57, c_58, c_59, c_60, c_61, c_62, c_64, c_65, c_69, c_75, c_83, c_91, c_93, c_94, c_97, c_105, c_106, c_110, c_119, c_123, c_124, c_125, c_126, c_240, c_256, c_400, c_m, nI_m1, nM_i, h1.1.1.inb, hat1, b1.1.inb, bind_pair]
    have hb' : (if (ax_wI s 0 25 3 (s.1 0 25 3 + nI 1)).1 0 26 ((ax_wI s 0 25 3 (s.1 0 25 3 + nI 1)).1 0 25 3).toNatClampNeg = nI 42 then f_R_tableByRule F g (nI l.length) (ax_wI s 0 25 3 (s.1 0 25 3 + nI 1)) else f_R_tableByDigits F g (nI l.length) (ax_wI s 0 25 3 (s.1 0 25 3 + nI 1))) = some (v5, s5) := hb
    rw [hb']
    rfl
  unfold pTbT
  match hp : pTb ts, k0 with
  | .error r, k0 =>
    obtain ⟨s1, a1, a2, a3⟩ := k0
    refine ⟨s1, ?_, a2, (XV.gE b2).trans (toR a3)⟩
    rw [e0 _ _ a1]
    simp (disch := omega) only [ax_let, Option.bind_some, cond_true, cond_false, if_pos, if_neg, if_true, if_false, eq_self, nI_add, nI_ltI, nI_leI, nI_eq, nI_clamp, pu_in, c_0, c_1, c_2, c_3, c_4, c_5, c_6, c_7, c_8, c_9, c_10, c_11, c_12, c_15, c_16, c_17, c_32, c_35, c_36, c_38, c_40, c_41, c_42, c_43, c_44, c_45, c_48, c_57, c_58, c_59, c_60, c_61, c_62, c_64, c_65, c_69, c_75, c_83, c_91, c_93, c_94, c_97, c_105, c_106, c_110, c_119, c_123, c_124, c_125, c_126, c_240, c_256, c_400, c_m, nI_m1, nM_i]
  | .ok (t, r), k0 =>
    obtain ⟨v, s1, a1, ⟨rfl, a2, a4⟩, a3⟩ := k0
    have hz2 := hz1.keepT a3 a2
    show roL n T (rbind (pTake 59 r) (fun _ r' => .ok (t, r'))) _ _ _ _
    match htk : pTake 59 r with
    | .error r2 =>
      obtain ⟨c1, c2⟩ := rx_take_er (g := g) (by omega) (by omega) a2.1 htk
      refine ⟨s1, ?_, by rw [c2]; exact a2.1, (XV.gE b2).trans (toR a3)⟩
      rw [e0 _ _ a1]
      simp (disch := omega) only [ax_let, Option.bind_some, cond_true, cond_false, if_pos, if_neg, if_true, if_false, eq_self, nI_add, nI_ltI, nI_leI, nI_eq, nI_clamp, pu_in, c_0, c_1, c_2, c_3, c_4, c_5, c_6, c_7, c_8, c_9, c_10, c_11, c_12, c_15, c_16, c_17, c_32, c_35, c_36, c_38, c_40, c_41, c_42, c_43, c_44, c_45, c_48, c_57, c_58, c_59, c_60, c_61, c_62, c_64, c_65, c_69, c_75, c_83, c_91, c_93, c_94, c_97, c_105, c_106, c_110, c_119, c_123, c_124, c_125, c_126, c_240, c_256, c_400, c_m, nI_m1, nM_i, c1]
    | .ok ((), r2) =>
      obtain ⟨s2, c1, c2, c3⟩ := rx_take_ok (g := g) (by omega) a2 htk
      have hz3 := hz2.keepE c3 c2
      obtain ⟨s3, d1, d2, d3⟩ := rd_round (g := g) (F := F) (E := tbE t) (s := s2) hF hl (fun k hk => (a4 k hk).1) (fun k hk => (c3.1 g 2 _ (by unfold XE XC; omega)).trans (a4 k hk).2)
      have hz4 : RZ n T g r2 (lfTb lf t) [w, st, ky, l.length, 0, 0, 0, st] s3 := ⟨c2.keepN d2 (fun g' r k hx => by unfold XC at hx; unfold XB; omega), hz3.2.1.keep d2 (fun g' r k hx => by unfold XN at hx; unfold XB; omega), hz3.2.2.keep d2 (fun k _ => by unfold XB; omega)⟩
      obtain ⟨f1, f2⟩ := hz4.set (k := 3) (v := l.length + 1)
      have h33 : s3.1 g 1 3 = nI l.length := hz4.2.2.2 3 _ rfl
      refine ⟨_, ?_, ⟨?_, ?_, ?_⟩, ((((XV.gE b2).trans (toR a3)).trans (XV.gE c3)).trans (d2.imp (fun g' r k h => by unfold XB at h; unfold XV; omega))).trans (XV.ofX f2)⟩
      · rw [e0 _ _ a1]
        simp (disch := omega) only [ax_let, Option.bind_some, cond_true, cond_false, if_pos, if_neg, if_true, if_false, eq_self, nI_add, nI_ltI, nI_leI, nI_eq, nI_clamp, pu_in, c_0, c_1, c_2, c_3, c_4, c_5, c_6, c_7, c_8, c_9, c_10, c_11, c_12, c_15, c_16, c_17, c_32, c_35, c_36, c_38, c_40, c_41, c_42, c_43, c_44, c_45, c_48, c_57, c_58, c_59, c_60, c_61, c_62, c_64, c_65, c_69, c_75, c_83, c_91, c_93, c_94, c_97, c_105, c_106, c_110, c_119, c_123, c_124, c_125, c_126, c_240, c_256, c_400, c_m, nI_m1, nM_i, c1, d1, h33]
      · rw [List.length_append, List.length_singleton]
        exact f1
      · rw [List.length_append, List.length_singleton]; omega
      · intro u x hu k hk
        rcases getc hu with ⟨hu1, hu2⟩ | ⟨hu1, hu2⟩
        · obtain ⟨q1, q2, q3⟩ := h3 u x hu2 k hk
          refine ⟨q1, ?_, ?_⟩
          · rw [wI_1, if_neg (by omega), d2.1 g 2 _ (by unfold XB; omega), c3.1 g 2 _ (by unfold XE XC; omega), a3.1 g 2 _ (by unfold XT XE XC; omega), b2.1 g 2 _ (by unfold XE XC; omega)]
            exact q2
          · rw [wI_1, if_neg (by omega), d2.1 g 3 _ (by unfold XB; omega), c3.1 g 3 _ (by unfold XE XC; omega), a3.1 g 3 _ (by unfold XT XE XC; omega), b2.1 g 3 _ (by unfold XE XC; omega)]
            exact q3
        · subst hu1
          subst hu2
          refine ⟨(a4 k hk).1, ?_, ?_⟩
          · rw [wI_1, if_neg (by omega), d2.1 g 2 _ (by unfold XB; omega), c3.1 g 2 _ (by unfold XE XC; omega)]
            exact (a4 k hk).2
          · rw [wI_1, if_neg (by omega)]
            exact d3 k hk
def tbK (w : (Int32 × ax_σ) ⊕ ax_σ) : Option (Int32 × ax_σ) := match w with
  | .inl w => some w
  | .inr s26 => some (((1 : Int32), s26))
theorem rd_tables {F w st ky : Nat} (hF : 241 ≤ F) : ∀ (j m : Nat) (ts : List Tok) (lf : Nat) (l : List Tb) (s : ax_σ), l.length + j = 2 → j < m → RT n T g ts lf w st ky l s → ro n T (pTbs j ts) (frm (XV g) s) (fun l' r v s' => v = nI 1 ∧ RT n T g r (l'.foldl lfTb lf) w st ky (l ++ l') s') (nI 0) (Option.bind (lp_R_tables_2 F g m (nI l.length) s) tbK)
  | j, 0, ts, lf, l, s, _, hm, _ => absurd hm (Nat.not_lt_zero _)
  | 0, m + 1, ts, lf, l, s, hl, hm, h => by
    refine ⟨nI 1, s, ?_, ⟨rfl, by rw [List.append_nil]; exact h⟩, frm.refl⟩
    rw [lp_R_tables_2]
    simp (disch := omega) only [ax_let, Option.bind_some, cond_true, cond_false, if_pos, if_neg, if_true, if_false, eq_self, nI_add, nI_ltI, nI_leI, nI_eq, nI_clamp, pu_in, c_0, c_1, c_2, c_3, c_4, c_5, c_6, c_7, c_8, c_9, c_10, c_11, c_12, c_15, c_16, c_17, c_32, c_35, c_36, c_38, c_40, c_41, c_42, c_43, c_44, c_45, c_48, c_57, c_58, c_59, c_60, c_61, c_62, c_64, c_65, c_69, c_75, c_83, c_91, c_93, c_94, c_97, c_105, c_106, c_110, c_119, c_123, c_124, c_125, c_126, c_240, c_256, c_400, c_m, nI_m1, nM_i]
    rfl
  | j + 1, m + 1, ts, lf, l, s, hl, hm, h => by
    have hat := h.1.1.1.at
    have stop : sg ts ≠ 35 → Option.bind (lp_R_tables_2 F g (m + 1) (nI l.length) s) tbK = some (nI 1, s) := by
      intro hne
      rw [lp_R_tables_2]
      simp (disch := omega) only [ax_let, Option.bind_some, cond_true, cond_false, if_pos, if_neg, if_true, if_false, eq_self, nI_add, nI_ltI, nI_leI, nI_eq, nI_clamp, pu_in, c_0, c_1, c_2, c_3, c_4, c_5, c_6, c_7, c_8, c_9, c_10, c_11, c_12, c_15, c_16, c_17, c_32, c_35, c_36, c_38, c_40, c_41, c_42, c_43, c_44, c_45, c_48, c_57, c_58, c_59, c_60, c_61, c_62, c_64, c_65, c_69, c_75, c_83, c_91, c_93, c_94, c_97, c_105, c_106, c_110, c_119, c_123, c_124, c_125, c_126, c_240, c_256, c_400, c_m, nI_m1, nM_i, h.1.1.1.inb, hat.1]
      rfl
    match ts, h, hat, stop with
    | [], h, hat, stop => exact ⟨nI 1, s, stop (by show (0 : Nat) ≠ 35; omega), ⟨rfl, by rw [List.append_nil]; exact h⟩, frm.refl⟩
    | (c, p) :: ts', h, hat, stop =>
      rw [pTbs]
      by_cases hc : c = 35
      · subst hc
        rw [if_pos rfl]
        have e1 : rbind (pTb ts') (fun t r => rbind (pTake 59 r) (fun _ r' => rbind (pTbs j r') (fun l r'' => .ok (t :: l, r'')))) = rbind (pTbT ts') (fun t r' => rbind (pTbs j r') (fun l r'' => .ok (t :: l, r''))) := by
          unfold pTbT
          rw [rbind_a]
          congr 1
          funext t r
          rw [rbind_a]
          rfl
        rw [e1]
        have k0 := rd_table (F := F) (m := m) hF (by omega) h
        match hq : pTbT ts', k0 with
        | .error r, k0 =>
          obtain ⟨s1, a1, a2, a3⟩ := k0
          refine ⟨s1, ?_, a2, a3⟩
          rw [a1]
          rfl
        | .ok (t, r), k0 =>
          obtain ⟨s1, a1, a2, a3⟩ := k0
          have ih := rd_tables hF j m r (lfTb lf t) (l ++ [t]) s1 (by rw [List.length_append, List.length_singleton]; omega) (by omega) a2
          rw [List.length_append, List.length_singleton] at ih
          rw [a1]
          show ro n T (rbind (pTbs j r) (fun l r'' => .ok (t :: l, r''))) _ _ _ _
          match hq2 : pTbs j r, ih with
          | .error r2, ih =>
            obtain ⟨s2, b1, b2, b3⟩ := ih
            exact ⟨s2, b1, b2, a3.trans b3⟩
          | .ok (l2, r2), ih =>
            obtain ⟨v, s2, b1, ⟨b2, b4⟩, b3⟩ := ih
            refine ⟨v, s2, b1, ⟨b2, ?_⟩, a3.trans b3⟩
            rw [List.append_assoc] at b4
            exact b4
      · rw [if_neg hc]
        exact ⟨nI 1, s, stop hc, ⟨rfl, by rw [List.append_nil]; exact h⟩, frm.refl⟩
end
