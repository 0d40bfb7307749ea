/-! THE WORDS OF 'throw new E()' -/
def ax_stat : List Cond := [.laysStatic "java/lang/Throwable" "UNASSIGNED_STACK" "[Ljava/lang/StackTraceElement;", .laysStatic "java/lang/Throwable" "SUPPRESSED_SENTINEL" "Ljava/util/List;", .isRef (.static "java/lang/Throwable" "UNASSIGNED_STACK" "[Ljava/lang/StackTraceElement;"), .isRef (.static "java/lang/Throwable" "SUPPRESSED_SENTINEL" "Ljava/util/List;")]
def ax_tpick : Nat ⊕ Nat → Option Cond
  | .inl i => tables_1[i]?
  | .inr k => ax_stat[k]?
theorem ax_tw_of {own : String} {ic : Nat} {cls : String} {names : List String} (xs : List (Nat ⊕ Nat)) (h : Bundle.ownAtoms0 own ic cls names = xs.filterMap ax_tpick) (hg : xs.all (fun x => match x with
    | .inl i => (match tables_1[i]? with
      | some w => goodWord w || decide (w ∈ ax_xw)
      | none => true)
    | .inr _ => true) = true) : ax_tw own ic cls names := by
  intro a ha
  rw [h] at ha
  obtain ⟨x, hx, hp⟩ := List.mem_filterMap.mp ha
  have h1 := List.all_eq_true.mp hg x hx
  cases x with
  | inl i =>
    have hp' : tables_1[i]? = some a := hp
    simp only [hp', Bool.or_eq_true, decide_eq_true_eq] at h1
    rcases h1 with h1 | h1
    · exact Or.inl (nw_mem i hp' h1)
    · exact Or.inr (Or.inl h1)
  | inr k =>
    have hm : a ∈ ax_stat := List.mem_of_getElem? (show ax_stat[k]? = some a from hp)
    simp only [ax_stat, List.mem_cons, List.not_mem_nil, or_false] at hm
    exact Or.inr (Or.inr hm)
set_option maxRecDepth 100000 in
theorem tw_IllegalStateException : ax_tw "CipherNotation" 101 "java/lang/IllegalStateException" ["java/lang/RuntimeException", "java/lang/Exception"] := ax_tw_of [.inl 14, .inl 658, .inl 667, .inl 671, .inl 674, .inl 676, .inl 659, .inl 660, .inl 26, .inl 27, .inl 661, .inl 666, .inl 672, .inl 688, .inl 648, .inl 689, .inl 650, .inl 690, .inl 652, .inl 662, .inr 0, .inl 664, .inr 1, .inl 654, .inl 678, .inl 679, .inl 680, .inl 681, .inl 639, .inl 681, .inl 682, .inl 683, .inl 684, .inl 641, .inl 684, .inl 685, .inl 686, .inl 659, .inl 643, .inl 677, .inl 637, .inl 638, .inl 645, .inl 646, .inl 647, .inl 649, .inl 651, .inl 653, .inr 2, .inr 3, .inl 657, .inl 656, .inl 655] rfl (by decide +kernel)
set_option maxRecDepth 100000 in
theorem tw_IllegalArgumentException : ax_tw "CipherNotation" 58 "java/lang/IllegalArgumentException" ["java/lang/RuntimeException", "java/lang/Exception"] := ax_tw_of [.inl 14, .inl 658, .inl 667, .inl 671, .inl 674, .inl 676, .inl 659, .inl 660, .inl 26, .inl 27, .inl 661, .inl 666, .inl 672, .inl 688, .inl 648, .inl 689, .inl 650, .inl 690, .inl 652, .inl 662, .inr 0, .inl 664, .inr 1, .inl 654, .inl 709, .inl 710, .inl 711, .inl 681, .inl 639, .inl 681, .inl 682, .inl 683, .inl 684, .inl 641, .inl 684, .inl 685, .inl 686, .inl 659, .inl 643, .inl 708, .inl 700, .inl 701, .inl 702, .inl 669, .inl 703, .inl 704, .inl 705, .inl 706, .inr 2, .inr 3, .inl 657, .inl 656, .inl 707] rfl (by decide +kernel)
set_option maxRecDepth 100000 in
theorem tw_IndexOutOfBoundsException : ax_tw "CipherNotation" 104 "java/lang/IndexOutOfBoundsException" ["java/lang/RuntimeException", "java/lang/Exception"] := ax_tw_of [.inl 14, .inl 658, .inl 667, .inl 671, .inl 674, .inl 676, .inl 659, .inl 660, .inl 26, .inl 27, .inl 661, .inl 666, .inl 672, .inl 688, .inl 648, .inl 689, .inl 650, .inl 690, .inl 652, .inl 662, .inr 0, .inl 664, .inr 1, .inl 654, .inl 735, .inl 736, .inl 737, .inl 681, .inl 639, .inl 681, .inl 682, .inl 683, .inl 684, .inl 641, .inl 684, .inl 685, .inl 686, .inl 659, .inl 643, .inl 734, .inl 726, .inl 727, .inl 728, .inl 670, .inl 729, .inl 730, .inl 731, .inl 732, .inr 2, .inr 3, .inl 657, .inl 656, .inl 733] rfl (by decide +kernel)
