/-! PURE: the lines, parts and counts that the class makes of things -/
def skW (t : Th) : Nat := if thk t = 1 then 1 else 0
def spW (t : Th) : Nat := if thk t = 1 then 0 else 1
def npT (t : Th) : Nat := if thk t = 1 then (the t).length else (the t).length + (thn t).length
def icW (t : Th) : Nat := if thk t = 1 then (aOf (the t)).2.1 + 1 else insK (wkOf t)
def rgT (st rg : Nat) (t : Th) : Nat := if thk t = 1 then max rg (st + (aOf (the t)).2.2) else rgK st rg (wkOf t)
def lnT (t : Th) (pb sk : Nat) : Ln := if thk t = 1 then (62, 0, 0, pb, pb + (the t).length, sk) else (kc (thk t), thw t, opd pb (wkOf t), pb, pb + npT t, 0)
def p5L (L : List Nat) (t : Th) : List C5 := if thk t = 1 then (the t).map (cO L) else (the t).map (cO L) ++ (thn t).map cN
def lfLf (K : KS) (L : List Nat) (lf : Nat) (t : Th) : Nat := if thk t = 1 then lfE (ksn K) (kw K) L lf (the t) else lfSt K L lf t
theorem p5L_len (L : List Nat) (t : Th) : (p5L L t).length = npT t := by
  unfold p5L npT
  split
  · rw [List.length_map]
  · rw [List.length_append, List.length_map, List.length_map]
theorem cTh_leaf {K : KS} {c : CS} {t : Th} (e2 : thk t ≠ 2) (e3 : thk t ≠ 3) : cTh K c t = (cLs c ++ [lnT t (cP c).length (cSk c)], cP c ++ p5L (oL (cLs c) (cOq c)) t, lfLf K (oL (cLs c) (cOq c)) (cLf c) t, cSk c + skW t, cSp c + spW t, cIn c + icW t, rgT (kst K) (cRg c) t, cOq c) := by
  unfold cTh
  rw [if_neg e2, if_neg e3]
  unfold lnT p5L lfLf skW spW icW rgT
  by_cases e1 : thk t = 1
  · simp only [if_pos e1]
    rfl
  · simp only [if_neg e1]
    unfold cStep p5T npT
    rw [if_neg e1]
    simp only [List.length_append, List.length_map, List.append_assoc, Nat.add_assoc, Nat.add_zero]
abbrev lxB : Type := Nat × Nat × (Nat → Nat → Nat → List Ln)
def lxz : lxB := (0, 0, fun _ _ _ => [])
def lxf (t : Th) (r : lxB) : lxB := (npT t + r.1, skW t + r.2.1, fun lb pb sk => lnT t pb sk :: r.2.2 (lb + 1) (pb + npT t) (sk + skW t))
def lxp (o : Th) (m r : lxB) : lxB := (m.1 + r.1, tn o * m.2.1 + r.2.1, fun lb pb sk => if m.2.2 (lb + 1) pb sk = [] then r.2.2 lb (pb + m.1) (sk + tn o * m.2.1) else (91, thw o, tn o, pb, pb, m.2.1) :: (m.2.2 (lb + 1) pb sk ++ (93, thw o, lb, pb + m.1, pb + m.1, 0) :: r.2.2 (lb + (m.2.2 (lb + 1) pb sk).length + 2) (pb + m.1) (sk + tn o * m.2.1)))
def lx (l : List Th) : lxB := dF lxz lxf lxp l
def PX (l : List Th) : List Nat → List C5 := dF (β := List Nat → List C5) (fun _ => []) (fun t r L => p5L L t ++ r L) (fun o m r L => m (L ++ [thw o]) ++ r L) l
def LFX (K : KS) (l : List Th) : List Nat → Nat → Nat := dF (β := List Nat → Nat → Nat) (fun _ lf => lf) (fun t r L lf => r L (lfLf K L lf t)) (fun o m r L lf => r L (m (L ++ [thw o]) (lfOp L lf (thp o) (thw o) (thv o) (thq o)))) l
def RGX (st : Nat) (l : List Th) : Nat → Nat := dF (β := Nat → Nat) (fun rg => rg) (fun t r rg => r (rgT st rg t)) (fun _ m r rg => r (m rg)) l
section
variable {K : KS} {lim lim' : Nat} {t o c : Th} {m r l : List Th}
theorem lx_leaf (e2 : thk t ≠ 2) (e3 : thk t ≠ 3) (hr : lv lim 0 r = some 0) : lx (t :: r) = lxf t (lx r) := dF_leaf _ _ _ e2 e3 hr
theorem lx_loop (e2 : thk o = 2) (e3 : thk c = 3) (hm : lv lim 0 m = some 0) (hr : lv lim' 0 r = some 0) : lx (o :: (m ++ c :: r)) = lxp o (lx m) (lx r) := dF_loop _ _ _ e2 e3 hm hr
theorem PX_leaf (e2 : thk t ≠ 2) (e3 : thk t ≠ 3) (hr : lv lim 0 r = some 0) (L : List Nat) : PX (t :: r) L = p5L L t ++ PX r L := congrFun (dF_leaf (β := List Nat → List C5) _ _ _ e2 e3 hr) L
theorem PX_loop (e2 : thk o = 2) (e3 : thk c = 3) (hm : lv lim 0 m = some 0) (hr : lv lim' 0 r = some 0) (L : List Nat) : PX (o :: (m ++ c :: r)) L = PX m (L ++ [thw o]) ++ PX r L := congrFun (dF_loop (β := List Nat → List C5) _ _ _ e2 e3 hm hr) L
theorem LFX_leaf (e2 : thk t ≠ 2) (e3 : thk t ≠ 3) (hr : lv lim 0 r = some 0) (L : List Nat) (lf : Nat) : LFX K (t :: r) L lf = LFX K r L (lfLf K L lf t) := congrFun (congrFun (dF_leaf (β := List Nat → Nat → Nat) _ _ _ e2 e3 hr) L) lf
theorem LFX_loop (e2 : thk o = 2) (e3 : thk c = 3) (hm : lv lim 0 m = some 0) (hr : lv lim' 0 r = some 0) (L : List Nat) (lf : Nat) : LFX K (o :: (m ++ c :: r)) L lf = LFX K r L (LFX K m (L ++ [thw o]) (lfOp L lf (thp o) (thw o) (thv o) (thq o))) := congrFun (congrFun (dF_loop (β := List Nat → Nat → Nat) _ _ _ e2 e3 hm hr) L) lf
theorem RGX_leaf {st : Nat} (e2 : thk t ≠ 2) (e3 : thk t ≠ 3) (hr : lv lim 0 r = some 0) (rg : Nat) : RGX st (t :: r) rg = RGX st r (rgT st rg t) := congrFun (dF_leaf (β := Nat → Nat) _ _ _ e2 e3 hr) rg
theorem RGX_loop {st : Nat} (e2 : thk o = 2) (e3 : thk c = 3) (hm : lv lim 0 m = some 0) (hr : lv lim' 0 r = some 0) (rg : Nat) : RGX st (o :: (m ++ c :: r)) rg = RGX st r (RGX st m rg) := congrFun (dF_loop (β := Nat → Nat) _ _ _ e2 e3 hm hr) rg
theorem lx_wt (h : lv lim 0 l = some 0) : (lx l).2.1 = wt skW l ∧ ∀ L, (PX l L).length = (lx l).1 := by
  refine dyck (P := fun _ l => (lx l).2.1 = wt skW l ∧ ∀ L, (PX l L).length = (lx l).1) h (fun _ => ⟨rfl, fun _ => rfl⟩) ?_ ?_
  · intro lim t r e2 e3 hr ih
    rw [lx_leaf e2 e3 hr, wt_leaf e2 e3 hr]
    exact ⟨by show skW t + _ = _; rw [ih.1], fun L => by rw [PX_leaf e2 e3 hr, List.length_append, p5L_len, ih.2]; rfl⟩
  · intro lim o m c r e2 e3 hm hr i1 i2
    rw [lx_loop e2 e3 hm hr, wt_loop e2 e3 hm hr]
    exact ⟨by show tn o * _ + _ = _; rw [i1.1, i2.1], fun L => by rw [PX_loop e2 e3 hm hr, List.length_append, i1.2, i2.2]; rfl⟩
theorem lx_emp (h : lv lim 0 l = some 0) : ∀ lb pb sk, (lx l).2.2 lb pb sk = [] → (lx l).1 = 0 ∧ ∀ f, wt f l = 0 := by
  refine dyck (P := fun _ l => ∀ lb pb sk, (lx l).2.2 lb pb sk = [] → (lx l).1 = 0 ∧ ∀ f, wt f l = 0) h (fun _ _ _ _ _ => ⟨rfl, fun _ => rfl⟩) ?_ ?_
  · intro lim t r e2 e3 hr ih lb pb sk e
    rw [lx_leaf e2 e3 hr] at e
    cases e
  · intro lim o m c r e2 e3 hm hr i1 i2 lb pb sk e
    rw [lx_loop e2 e3 hm hr] at e ⊢
    simp only [lxp] at e ⊢
    by_cases hX : (lx m).2.2 (lb + 1) pb sk = []
    · rw [if_pos hX] at e
      obtain ⟨a1, a2⟩ := i1 _ _ _ hX
      obtain ⟨b1, b2⟩ := i2 _ _ _ e
      exact ⟨by rw [a1, b1], fun f => by rw [wt_loop e2 e3 hm hr, a2, b2]; rfl⟩
    · rw [if_neg hX] at e; cases e
theorem oL_ap2 {Ls X : List Ln} {O : List Oq} (h : ∀ o ∈ O, o.1 < Ls.length) : oL (Ls ++ X) O = oL Ls O := by
  unfold oL
  refine List.map_congr_left (fun o ho => ?_)
  rw [List.getD_eq_getElem?_getD, List.getD_eq_getElem?_getD, List.getElem?_append_left (h o ho)]
theorem cl_bal (h : lv lim 0 l = some 0) : ∀ c : CS, (∀ o ∈ cOq c, o.1 < (cLs c).length) → cThs K c l = (cLs c ++ (lx l).2.2 (cLs c).length (cP c).length (cSk c), cP c ++ PX l (oL (cLs c) (cOq c)), LFX K l (oL (cLs c) (cOq c)) (cLf c), cSk c + wt skW l, cSp c + wt spW l, cIn c + wt icW l, RGX (kst K) l (cRg c), cOq c) := by
  refine dyck (P := fun _ l => ∀ c : CS, (∀ o ∈ cOq c, o.1 < (cLs c).length) → cThs K c l = (cLs c ++ (lx l).2.2 (cLs c).length (cP c).length (cSk c), cP c ++ PX l (oL (cLs c) (cOq c)), LFX K l (oL (cLs c) (cOq c)) (cLf c), cSk c + wt skW l, cSp c + wt spW l, cIn c + wt icW l, RGX (kst K) l (cRg c), cOq c)) h ?_ ?_ ?_
  · intro _ c hc
    show c = (cLs c ++ [], cP c ++ [], _, _, _, _, _, _)
    rw [List.append_nil, List.append_nil]
    rfl
  · intro lim t r e2 e3 hr ih c hc
    show cThs K (cTh K c t) r = _
    rw [ih (cTh K c t) (by rw [cTh_leaf e2 e3]; exact fun o ho => by show o.1 < (cLs c ++ [_]).length; rw [List.length_append, List.length_singleton]; exact Nat.lt_succ_of_lt (hc o ho)), cTh_leaf e2 e3, lx_leaf e2 e3 hr, wt_leaf e2 e3 hr, wt_leaf e2 e3 hr, wt_leaf e2 e3 hr, PX_leaf e2 e3 hr, LFX_leaf e2 e3 hr, RGX_leaf e2 e3 hr]
    simp only [cLs, cP, cLf, cSk, cSp, cIn, cRg, cOq, lxf]
    have hc' : ∀ q ∈ c.2.2.2.2.2.2.2, q.1 < c.1.length := hc
    rw [oL_ap2 hc', List.length_append, List.length_append, List.length_singleton, p5L_len, List.append_assoc, List.append_assoc, Nat.add_assoc, Nat.add_assoc, Nat.add_assoc]
    rfl
  · intro lim o m c' r e2 e3 hm hr i1 i2 c hc
    have s0 : cThs K c (o :: (m ++ c' :: r)) = cThs K (cClose (cThs K (cOpen c o) m)) r := by
      have a1 : cTh K c o = cOpen c o := by unfold cTh; rw [if_pos e2]
      have a2 : ∀ x, cTh K x c' = cClose x := fun x => by unfold cTh; rw [if_neg (by omega), if_pos e3]
      show cThs K (cTh K c o) (m ++ c' :: r) = _
      rw [a1]
      unfold cThs
      rw [List.foldl_append, List.foldl_cons, a2]
    have hO : ∀ q ∈ cOq (cOpen c o), q.1 < (cLs (cOpen c o)).length := by
      intro q hq
      show q.1 < (cLs c ++ [_]).length
      rw [List.length_append, List.length_singleton]
      rcases List.mem_append.mp hq with hq | hq
      · exact Nat.lt_succ_of_lt (hc q hq)
      · cases hq with
        | head => exact Nat.lt_succ_self _
        | tail _ hq => cases hq
    have hL : oL (cLs (cOpen c o)) (cOq (cOpen c o)) = oL (cLs c) (cOq c) ++ [thw o] := by
      show oL (cLs c ++ [_]) (cOq c ++ [_]) = _
      have hh := oL_ap2 (X := [((91, thw o, min (thv o) 16, (cP c).length, (cP c).length, 0) : Ln)]) hc
      unfold oL at hh ⊢
      rw [List.map_append, hh]
      congr 1
      show [((cLs c ++ [_]).getD (cLs c).length _).2.1] = _
      rw [List.getD_eq_getElem?_getD, List.getElem?_append_right (Nat.le_refl _), Nat.sub_self]
      rfl
    have h1 := i1 (cOpen c o) hO
    rw [hL] at h1
    have hlen : (cLs (cOpen c o)).length = (cLs c).length + 1 := by show (cLs c ++ [_]).length = _; rw [List.length_append, List.length_singleton]
    rw [hlen, show cP (cOpen c o) = cP c from rfl, show cSk (cOpen c o) = cSk c from rfl, show cLf (cOpen c o) = lfOp (oL (cLs c) (cOq c)) (cLf c) (thp o) (thw o) (thv o) (thq o) from rfl, show cSp (cOpen c o) = cSp c from rfl, show cIn (cOpen c o) = cIn c from rfl, show cRg (cOpen c o) = cRg c from rfl, show cLs (cOpen c o) = cLs c ++ [((91, thw o, tn o, (cP c).length, (cP c).length, 0) : Ln)] from rfl] at h1
    have hcl := cClose_eq (c := cThs K (cOpen c o) m) (O := cOq c) (o := ((cLs c).length, cSk c, cSp c, cIn c)) (by rw [h1]; rfl)
    rw [h1] at hcl
    obtain ⟨p1, p2⟩ := lx_wt hm
    rw [s0, h1, hcl]
    simp only [cLs, cP, cLf, cSk, cSp, cIn, cRg, cOq]
    have hwt := fun f => wt_loop (f := f) e2 e3 hm hr
    rw [lx_loop e2 e3 hm hr, hwt skW, hwt spW, hwt icW, PX_loop e2 e3 hm hr, LFX_loop e2 e3 hm hr, RGX_loop e2 e3 hm hr]
    simp only [lxp, p1]
    generalize hX : (lx m).2.2 (c.1.length + 1) c.2.1.length c.2.2.2.1 = X
    have hX' : (lx m).2.2 ((cLs c).length + 1) (cP c).length (cSk c) = X := hX
    by_cases hE : X = []
    · subst hE
      obtain ⟨z1, z2⟩ := lx_emp hm _ _ _ hX
      have hPX : PX m (oL c.1 c.2.2.2.2.2.2.2 ++ [thw o]) = [] := List.eq_nil_of_length_eq_zero (by rw [p2]; exact z1)
      have q1 : clL (c.1 ++ [((91, thw o, tn o, c.2.1.length, c.2.1.length, 0) : Ln)] ++ []) (c.2.1 ++ PX m (oL c.1 c.2.2.2.2.2.2.2 ++ [thw o])).length c.1.length (c.2.2.2.1 + wt skW m - c.2.2.2.1) = c.1 := by
        unfold clL
        rw [List.append_nil, if_pos (by rw [List.length_append, List.length_singleton]), List.take_left]
      have q2 : ∀ x0 f, clN (c.1 ++ [((91, thw o, tn o, c.2.1.length, c.2.1.length, 0) : Ln)] ++ []) c.1.length x0 (x0 + wt f m) = x0 := by
        intro x0 f
        unfold clN
        rw [List.append_nil, if_pos (by rw [List.length_append, List.length_singleton]), z2, Nat.add_zero]
      rw [q1, q2, q2, q2, hPX]
      have hr2 := i2 (c.1, c.2.1 ++ [], LFX K m (oL c.1 c.2.2.2.2.2.2.2 ++ [thw o]) (lfOp (oL c.1 c.2.2.2.2.2.2.2) c.2.2.1 (thp o) (thw o) (thv o) (thq o)), c.2.2.2.1, c.2.2.2.2.1, c.2.2.2.2.2.1, RGX (kst K) m c.2.2.2.2.2.2.1, c.2.2.2.2.2.2.2) hc
      simp only [cLs, cP, cLf, cSk, cSp, cIn, cRg, cOq] at hr2 ⊢
      rw [hr2]
      simp only [eq_self, if_true, z1, z2, List.append_nil, Nat.mul_zero, Nat.add_zero, Nat.zero_add, List.nil_append]
    · have hXl : 0 < X.length := List.length_pos_iff.mpr hE
      have q0 : (c.1 ++ [((91, thw o, tn o, c.2.1.length, c.2.1.length, 0) : Ln)] ++ X).getD c.1.length lw0 = (91, thw o, tn o, c.2.1.length, c.2.1.length, 0) := by
        rw [List.append_assoc, List.getD_eq_getElem?_getD, List.getElem?_append_right (Nat.le_refl _), Nat.sub_self]
        rfl
      have q9 : ¬ (c.1.length + 1 = (c.1 ++ [((91, thw o, tn o, c.2.1.length, c.2.1.length, 0) : Ln)] ++ X).length) := by
        rw [List.length_append, List.length_append, List.length_singleton]; omega
      have q1 : clL (c.1 ++ [((91, thw o, tn o, c.2.1.length, c.2.1.length, 0) : Ln)] ++ X) (c.2.1 ++ PX m (oL c.1 c.2.2.2.2.2.2.2 ++ [thw o])).length c.1.length (c.2.2.2.1 + wt skW m - c.2.2.2.1) = c.1 ++ (91, thw o, tn o, c.2.1.length, c.2.1.length, wt skW m) :: (X ++ [(93, thw o, c.1.length, c.2.1.length + (lx m).1, c.2.1.length + (lx m).1, 0)]) := by
        unfold clL
        rw [if_neg q9, q0, List.length_append, p2, Nat.add_sub_cancel_left, List.append_assoc, List.set_append_right _ _ (Nat.le_refl _), Nat.sub_self, List.append_assoc]
        rfl
      have q2 : ∀ x0 f, clN (c.1 ++ [((91, thw o, tn o, c.2.1.length, c.2.1.length, 0) : Ln)] ++ X) c.1.length x0 (x0 + wt f m) = x0 + tn o * wt f m := by
        intro x0 f
        unfold clN
        rw [if_neg q9, q0, Nat.add_sub_cancel_left, Nat.mul_comm]
      rw [q1, q2, q2, q2]
      have hr2 := i2 (c.1 ++ (91, thw o, tn o, c.2.1.length, c.2.1.length, wt skW m) :: (X ++ [(93, thw o, c.1.length, c.2.1.length + (lx m).1, c.2.1.length + (lx m).1, 0)]), c.2.1 ++ PX m (oL c.1 c.2.2.2.2.2.2.2 ++ [thw o]), LFX K m (oL c.1 c.2.2.2.2.2.2.2 ++ [thw o]) (lfOp (oL c.1 c.2.2.2.2.2.2.2) c.2.2.1 (thp o) (thw o) (thv o) (thq o)), c.2.2.2.1 + tn o * wt skW m, c.2.2.2.2.1 + tn o * wt spW m, c.2.2.2.2.2.1 + tn o * wt icW m, RGX (kst K) m c.2.2.2.2.2.2.1, c.2.2.2.2.2.2.2) (fun q hq => by
        have := hc q hq
        simp only [cLs, List.length_append] at this ⊢
        omega)
      simp only [cLs, cP, cLf, cSk, cSp, cIn, cRg, cOq] at hr2 ⊢
      have hc' : ∀ q ∈ c.2.2.2.2.2.2.2, q.1 < c.1.length := hc
      rw [hr2, if_neg hE, oL_ap2 hc']
      simp only [List.length_append, List.length_cons, List.length_nil, p2, List.append_assoc, List.cons_append, List.nil_append, Nat.add_assoc]
end
