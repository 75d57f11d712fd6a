/-! the line, its terms and atoms: a pure reading of it (own text). A place and the code so far; the code has its signs behind their sides. -/
def lnAt (n : Nat) (f : Nat → Int32) (i : Nat) : Int32 := if i < n then f i else 0
def isVar (c : Int32) : Bool := decide (nI 120 ≤ c) && decide (c ≤ nI 122)
def isDig (c : Int32) : Bool := decide (nI 48 ≤ c) && decide (c ≤ nI 55)
def isOp (c : Int32) : Bool := decide (c = nI 43) || decide (c = nI 45) || decide (c = nI 42) || decide (c = nI 38) || decide (c = nI 94)
def isCmp (c : Int32) : Bool := decide (c = nI 60) || decide (c = nI 61) || decide (c = nI 35)
def isLoc (c : Int32) : Bool := decide (nI 65 ≤ c) && decide (c < nI 77)
abbrev pS : Type := Nat × List Int32
def addC (c : Int32) (l : List Int32) : List Int32 := if l.length < 24 then l ++ [c] else l
def ptLoop (n : Nat) (f : Nat → Int32) (part : pS → Bool × pS) : Nat → pS → Bool × pS
  | 0, s => (true, s)
  | k + 1, s => if isOp (lnAt n f s.1) = true then
      (if (part (s.1 + 1, s.2)).1 = true then ptLoop n f part k ((part (s.1 + 1, s.2)).2.1, addC (lnAt n f s.1) (part (s.1 + 1, s.2)).2.2) else (false, (part (s.1 + 1, s.2)).2))
    else (true, s)
def ptTerm (n : Nat) (f : Nat → Int32) (part : pS → Bool × pS) (s : pS) : Bool × pS :=
  if (part s).1 = true then ptLoop n f part 24 (part s).2 else (false, (part s).2)
def ptLeaf (n : Nat) (f : Nat → Int32) (s : pS) : Bool := isVar (lnAt n f s.1) || isDig (lnAt n f s.1)
def ptPart (n : Nat) (f : Nat → Int32) : Nat → pS → Bool × pS
  | 0, s => if ptLeaf n f s = true then (true, (s.1 + 1, addC (lnAt n f s.1) s.2)) else (false, s)
  | d + 1, s => if ptLeaf n f s = true then (true, (s.1 + 1, addC (lnAt n f s.1) s.2)) else
      if lnAt n f s.1 = nI 40 then
        (if (ptTerm n f (ptPart n f d) (s.1 + 1, s.2)).1 = true ∧ lnAt n f (ptTerm n f (ptPart n f d) (s.1 + 1, s.2)).2.1 = nI 41
          then (true, ((ptTerm n f (ptPart n f d) (s.1 + 1, s.2)).2.1 + 1, (ptTerm n f (ptPart n f d) (s.1 + 1, s.2)).2.2))
          else (false, (ptTerm n f (ptPart n f d) (s.1 + 1, s.2)).2))
      else (false, s)
/-- what an atom is: a term, a comparison, a term, the end -/
def ptAtom (n : Nat) (f : Nat → Int32) (b : Nat) : Bool × List Int32 :=
  if (ptTerm n f (ptPart n f 4) (b, [])).1 = true ∧ isCmp (lnAt n f (ptTerm n f (ptPart n f 4) (b, [])).2.1) = true then
    (if (ptTerm n f (ptPart n f 4) ((ptTerm n f (ptPart n f 4) (b, [])).2.1 + 1, (ptTerm n f (ptPart n f 4) (b, [])).2.2)).1 = true
      then (decide (lnAt n f (ptTerm n f (ptPart n f 4) ((ptTerm n f (ptPart n f 4) (b, [])).2.1 + 1, (ptTerm n f (ptPart n f 4) (b, [])).2.2)).2.1 = 0), addC (lnAt n f (ptTerm n f (ptPart n f 4) (b, [])).2.1) (ptTerm n f (ptPart n f 4) ((ptTerm n f (ptPart n f 4) (b, [])).2.1 + 1, (ptTerm n f (ptPart n f 4) (b, [])).2.2)).2.2)
      else (false, []))
  else (false, [])
/-- the values: a sign between two numbers; a step of the code over the numbers so far, the latest first -/
def opV (w : Nat) (c : Int32) (x y : Nat) : Nat :=
  if c = nI 43 then (x + y) % 2 ^ w else if c = nI 45 then (x + 2 ^ w - y) % 2 ^ w else if c = nI 42 then (x * y) % 2 ^ w else if c = nI 38 then x &&& y else if c = nI 94 then x ^^^ y
  else if c = nI 60 then (if x < y then 1 else 0) else if c = nI 61 then (if x = y then 1 else 0) else (if x = y then 0 else 1)
def leafV (w s : Nat) (c : Int32) : Nat := if isVar c = true then dg w s (c - nI 120).toBitVec.toNat else (c - nI 48).toBitVec.toNat % 2 ^ w
def evO (w : Nat) (c : Int32) : List Nat → List Nat
  | y :: x :: r => opV w c x y :: r
  | r => r
def evS (w s : Nat) (c : Int32) (st : List Nat) : List Nat := if isVar c = true ∨ isDig c = true then leafV w s c :: st else evO w c st
def evC (w s : Nat) (code : List Int32) (st : List Nat) : List Nat := code.foldl (fun st c => evS w s c st) st
