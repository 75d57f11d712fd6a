/-! the reference's scanner of a term (own text) -/
def scN (n : Nat) (f : Nat → Int32) : Nat → Nat → Bool → Nat → Option Nat
  | 0, d, due, i => if due = true ∨ 0 < d then none else some i
  | r + 1, d, due, i => if i < n then
      (if due = true ∧ (isDig (lnAt n f i) = true ∨ isVar (lnAt n f i) = true) then scN n f r d false (i + 1)
      else if due = true ∧ lnAt n f i = nI 40 ∧ d < 4 then scN n f r (d + 1) true (i + 1)
      else if due = false ∧ lnAt n f i = nI 41 ∧ 0 < d then scN n f r (d - 1) false (i + 1)
      else if due = false ∧ isOp (lnAt n f i) = true then scN n f r d true (i + 1)
      else if due = true ∨ 0 < d then none else some i)
    else if due = true ∨ 0 < d then none else some i
/-- enough steps are as good as more -/
theorem scN_more {n : Nat} {f : Nat → Int32} : ∀ (r d : Nat) (due : Bool) (i : Nat), n ≤ i + r → scN n f (r + 1) d due i = scN n f r d due i := by
  intro r
  induction r with
  | zero =>
    intro d due i h
    rw [scN, scN, if_neg (by omega)]
  | succ r ih =>
    intro d due i h
    rw [scN]
    conv => rhs; rw [scN]
    rw [ih d false (i + 1) (by omega), ih (d + 1) true (i + 1) (by omega), ih (d - 1) false (i + 1) (by omega), ih d true (i + 1) (by omega)]
def sc (n : Nat) (f : Nat → Int32) (d : Nat) (due : Bool) (i : Nat) : Option Nat := scN n f (n - i) d due i
theorem sc_step {n : Nat} {f : Nat → Int32} {d : Nat} {due : Bool} {i : Nat} : sc n f d due i = if i < n then
      (if due = true ∧ (isDig (lnAt n f i) = true ∨ isVar (lnAt n f i) = true) then sc n f d false (i + 1)
      else if due = true ∧ lnAt n f i = nI 40 ∧ d < 4 then sc n f (d + 1) true (i + 1)
      else if due = false ∧ lnAt n f i = nI 41 ∧ 0 < d then sc n f (d - 1) false (i + 1)
      else if due = false ∧ isOp (lnAt n f i) = true then sc n f d true (i + 1)
      else if due = true ∨ 0 < d then none else some i)
    else if due = true ∨ 0 < d then none else some i := by
  unfold sc
  by_cases h : i < n
  · obtain ⟨r, hr⟩ : ∃ r, n - i = r + 1 := ⟨n - i - 1, by omega⟩
    have e : n - (i + 1) = r := by omega
    rw [hr, e, scN]
  · have e : n - i = 0 := by omega
    rw [e, scN, if_neg h]
