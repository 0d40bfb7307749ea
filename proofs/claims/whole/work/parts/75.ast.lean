/-! PURE: what a text says. No type of our own is at hand: all is tuples and lists -/
/-- a sign of the text, and where it stands -/
abbrev Tok : Type := Nat × Nat
/-- a term of an index: its number (1 without one), its LETTER (0 none, 1 i, 2 j), the place of what stands last in it -/
abbrev Tm : Type := Nat × Nat × Nat
/-- a part of an expression, behind those that it is made of: its kind as the reference counts them (1 STATE, 2 K, 3 S, 4 number, 5 LETTER, 6 ~, 7 rotation, 8 pair), its value, its place, its terms -/
abbrev Op : Type := Nat × Nat × Nat × List Tm
/-- a thing: its kind (1 writing, 2 loop, 3 its close, 4 ^, 5 +, 6 -, 7 *, 8 < number, 9 < STATE, 10 :, 11 #, 12 @), its place, its subject, the number or STATE behind it, the place of that, its expression, the numbers behind @ with their places -/
abbrev Th : Type := Nat × Nat × Nat × Nat × Nat × List Op × List (Nat × Nat)
def thk (t : Th) : Nat := t.1
def thp (t : Th) : Nat := t.2.1
def thw (t : Th) : Nat := t.2.2.1
def thv (t : Th) : Nat := t.2.2.2.1
def thq (t : Th) : Nat := t.2.2.2.2.1
def the (t : Th) : List Op := t.2.2.2.2.2.1
def thn (t : Th) : List (Nat × Nat) := t.2.2.2.2.2.2
abbrev isD (c : Nat) : Bool := Nat.ble 48 c && Nat.ble c 57
/-- the digits of a number: at most n more, each right behind the one before -/
def pDig : Nat → Nat → Nat → List Tok → Nat × List Tok
  | 0, _, v, ts => (v, ts)
  | _, _, v, [] => (v, [])
  | n + 1, q, v, (c, p) :: ts => if isD c = true ∧ p = q then pDig n (q + 1) (v * 10 + (c - 48)) ts else (v, (c, p) :: ts)
/-- a number: its value, its place, what is behind it -/
def pNum : List Tok → Option (Nat × Nat × List Tok)
  | [] => none
  | (c, p) :: ts => if isD c = true then some ((pDig 8 (p + 1) (c - 48) ts).1, p, (pDig 8 (p + 1) (c - 48) ts).2) else none
/-- reading: what was read and the rest, or the rest at the sign that may not stand there -/
abbrev Rd (α : Type) : Type := Except (List Tok) (α × List Tok)
def rbind {α β : Type} (x : Rd α) (f : α → List Tok → Rd β) : Rd β := match x with
  | .error r => .error r
  | .ok (a, r) => f a r
def pTake (c : Nat) : List Tok → Rd Unit
  | [] => .error []
  | (d, p) :: ts => if d = c then .ok ((), ts) else .error ((d, p) :: ts)
def pNumR (ts : List Tok) : Rd (Nat × Nat) := match pNum ts with
  | some (v, p, r) => .ok ((v, p), r)
  | none => .error ts
/-- one term: behind a number, if there is one -/
def pTerm (a : Option (Nat × Nat)) : List Tok → Rd Tm
  | (c, p) :: r => if c = 105 ∨ c = 106 then .ok (((a.map (·.1)).getD 1, c - 104, p), r) else match a with
    | some (v, q) => .ok ((v, 0, q), (c, p) :: r)
    | none => .error ((c, p) :: r)
  | [] => match a with
    | some (v, q) => .ok ((v, 0, q), [])
    | none => .error []
/-- the terms of an index, and its closing bracket -/
def pTerms : Nat → List Tok → Rd (List Tm)
  | 0, ts => .error ts
  | n + 1, ts => rbind (match pNum ts with
      | some (v, p, r) => pTerm (some (v, p)) r
      | none => pTerm none ts) (fun t r => match r with
    | [] => .error []
    | (c, p) :: r' => if c = 43 then rbind (pTerms n r') (fun l r'' => .ok (t :: l, r'')) else if c = 41 then .ok ([t], r') else .error ((c, p) :: r'))
/-- an expression within d signs ~ and ( -/
def pEx : Nat → Nat → List Tok → Rd (List Op)
  | 0, _, ts => .error ts
  | _ + 1, _, [] => .error []
  | n + 1, d, (c, p) :: ts =>
    if c = 126 then
      if d = 12 then .error ((c, p) :: ts) else rbind (pEx n (d + 1) ts) (fun e r => .ok (e ++ [(6, 0, 0, [])], r))
    else if c = 40 then
      if d = 12 then .error ((c, p) :: ts) else rbind (pEx n (d + 1) ts) (fun e r => match r with
        | [] => .error []
        | (o, q) :: r =>
          if o = 60 then rbind (pNumR r) (fun vq r' => rbind (pTake 41 r') (fun _ r'' => .ok (e ++ [(7, vq.1, vq.2, [])], r'')))
          else if o = 94 ∨ o = 38 ∨ o = 124 ∨ o = 43 ∨ o = 45 ∨ o = 42 then rbind (pEx n (d + 1) r) (fun e' r' => rbind (pTake 41 r') (fun _ r'' => .ok (e ++ e' ++ [(8, o, 0, [])], r'')))
          else .error ((o, q) :: r))
    else if c = 75 ∨ c = 83 then rbind (pTake 40 ts) (fun _ r => rbind (pTerms (r.length + 1) r) (fun l r' => .ok ([(if c = 75 then 2 else 3, 0, p, l)], r')))
    else if c = 105 ∨ c = 106 then .ok ([(5, c - 105, p, [])], ts)
    else if isD c = true then rbind (pNumR ((c, p) :: ts)) (fun vq r => .ok ([(4, vq.1, vq.2, [])], r))
    else if 65 ≤ c ∧ c ≤ 68 then .ok ([(1, c - 65, p, [])], ts)
    else .error ((c, p) :: ts)
def pState : List Tok → Rd (Nat × Nat)
  | [] => .error []
  | (c, p) :: ts => if 65 ≤ c ∧ c ≤ 68 then .ok ((c - 65, p), ts) else .error ((c, p) :: ts)
/-- the numbers behind @ : at most n + 1 of them -/
def pSpr : Nat → List Tok → Rd (List (Nat × Nat))
  | 0, ts => rbind (pNumR ts) (fun vq r => .ok ([vq], r))
  | n + 1, ts => rbind (pNumR ts) (fun vq r => match r with
    | [] => .ok ([vq], [])
    | (c, p) :: r' => if c = 44 then rbind (pSpr n r') (fun l r'' => .ok (vq :: l, r'')) else .ok ([vq], (c, p) :: r'))
/-- what stands behind the STATE of a step: kind, number or STATE, its place, expression, numbers -/
def pWk : List Tok → Rd (Nat × Nat × Nat × List Op × List (Nat × Nat))
  | [] => .error []
  | (c, p) :: ts =>
    if c = 94 ∨ c = 43 ∨ c = 45 then rbind (pTake 61 ts) (fun _ r => rbind (pEx 14 0 r) (fun e r' => .ok ((if c = 94 then 4 else if c = 43 then 5 else 6, 0, 0, e, []), r')))
    else if c = 42 then rbind (pTake 61 ts) (fun _ r => rbind (pNumR r) (fun vq r' => .ok ((7, vq.1, vq.2, [], []), r')))
    else if c = 60 then match pNum ts with
      | some (v, q, r) => .ok ((8, v, q, [], []), r)
      | none => rbind (pState ts) (fun wq r => .ok ((9, wq.1, wq.2, [], []), r))
    else if c = 58 then rbind (pState ts) (fun wq r => .ok ((10, wq.1, wq.2, [], []), r))
    else if c = 35 then rbind (pNumR ts) (fun vq r => .ok ((11, vq.1, vq.2, [], []), r))
    else if c = 64 then rbind (pSpr 4 ts) (fun l r => .ok ((12, 0, 0, [], l), r))
    else .error ((c, p) :: ts)
/-- one thing of a block -/
def pTh (wr : Bool) (o : Nat) : List Tok → Rd Th
  | [] => .error []
  | (c, p) :: ts =>
    if c = 105 ∨ c = 106 then
      if o = 2 then .error ((c, p) :: ts) else rbind (pNumR ts) (fun vq r => rbind (pTake 91 r) (fun _ r' => .ok ((2, p, c - 105, vq.1, vq.2, [], []), r')))
    else if c = 93 then
      if o = 0 then .error ((c, p) :: ts) else .ok ((3, p, 0, 0, 0, [], []), ts)
    else if wr = true then
      if c = 62 then rbind (pEx 14 0 ts) (fun e r => rbind (pTake 59 r) (fun _ r' => .ok ((1, p, 0, 0, 0, e, []), r'))) else .error ((c, p) :: ts)
    else if 65 ≤ c ∧ c ≤ 68 then rbind (pWk ts) (fun k r => rbind (pTake 59 r) (fun _ r' => .ok ((k.1, p, c - 65, k.2.1, k.2.2.1, k.2.2.2.1, k.2.2.2.2), r')))
    else .error ((c, p) :: ts)
def thO (o : Nat) (t : Th) : Nat := if thk t = 2 then o + 1 else if thk t = 3 then o - 1 else o
/-- the things of a block, and its closing bracket -/
def pThs (wr : Bool) : Nat → Nat → List Tok → Rd (List Th)
  | 0, _, ts => .error ts
  | _ + 1, _, [] => .error []
  | n + 1, o, (c, p) :: ts => if c = 125 then (if o = 0 then .ok ([], ts) else .error ((c, p) :: ts)) else rbind (pTh wr o ((c, p) :: ts)) (fun t r => rbind (pThs wr n (thO o t) r) (fun l r' => .ok (t :: l, r')))
def hexv (c : Nat) : Option Nat := if isD c = true then some (c - 48) else if 97 ≤ c ∧ c ≤ 102 then some (c - 87) else none
def pHex : Nat → List Tok → Rd (List Nat)
  | 0, ts => .ok ([], ts)
  | _ + 1, [] => .error []
  | n + 1, (c, p) :: ts => match hexv c with
    | none => .error ((c, p) :: ts)
    | some v => rbind (pHex n ts) (fun l r => .ok (v :: l, r))
/-- a table: its sixteen digits, or none and its two numbers with their places -/
abbrev Tb : Type := List Nat × List (Nat × Nat)
def pTb : List Tok → Rd Tb
  | [] => .error []
  | (c, p) :: ts => if c = 42 then rbind (pNumR ts) (fun m r => rbind (pTake 43 r) (fun _ r' => rbind (pNumR r') (fun n r'' => .ok (([], [m, n]), r'')))) else rbind (pHex 16 ((c, p) :: ts)) (fun l r => .ok ((l, []), r))
def pTbs : Nat → List Tok → Rd (List Tb)
  | 0, ts => .ok ([], ts)
  | _ + 1, [] => .ok ([], [])
  | n + 1, (c, p) :: ts => if c = 35 then rbind (pTb ts) (fun t r => rbind (pTake 59 r) (fun _ r' => rbind (pTbs n r') (fun l r'' => .ok (t :: l, r'')))) else .ok ([], (c, p) :: ts)
/-- a description: three numbers with their places, the tables, the writings, the steps -/
abbrev Ds : Type := (Nat × Nat) × (Nat × Nat) × (Nat × Nat) × List Tb × List Th × List Th
def pDs (ts : List Tok) : Rd Ds :=
  rbind (pNumR ts) (fun a r => rbind (pTake 58 r) (fun _ r => rbind (pNumR r) (fun b r => rbind (pTake 58 r) (fun _ r => rbind (pNumR r) (fun c r => rbind (pTake 59 r) (fun _ r =>
  rbind (pTbs 2 r) (fun tb r => rbind (pTake 123 r) (fun _ r => rbind (pThs true (r.length + 1) 0 r) (fun ws r => rbind (pTake 123 r) (fun _ r => rbind (pThs false (r.length + 1) 0 r) (fun ss r => match r with
    | [] => .ok ((a, b, c, tb, ws, ss), [])
    | _ => .error r)))))))))))
