/-! a line that is read has a value (own text) -/
def PR (n : Nat) (s r : pS) : Prop := ∃ tail : List Int32, r.2 = s.2 ++ tail ∧ tail.length + s.1 ≤ r.1 ∧ r.1 ≤ n ∧ ∀ w q : Nat, ∃ v, ∀ st, evC w q tail st = v :: st
theorem lnAt_lt {n : Nat} {f : Nat → Int32} {i : Nat} (h : lnAt n f i ≠ 0) : i < n := by
  unfold lnAt at h
  by_cases hi : i < n
  · exact hi
  · rw [if_neg hi] at h; exact absurd rfl h
theorem isVar0 : isVar 0 = false := by decide
theorem isDig0 : isDig 0 = false := by decide
theorem isOp0 : isOp 0 = false := by decide
theorem isCmp0 : isCmp 0 = false := by decide
theorem isOp_not {ch : Int32} (h : isOp ch = true) : isVar ch = false ∧ isDig ch = false := by
  unfold isOp at h
  simp only [Bool.or_eq_true, decide_eq_true_eq] at h
  rcases h with (((h | h) | h) | h) | h <;> subst h <;> decide
theorem isCmp_not {ch : Int32} (h : isCmp ch = true) : isVar ch = false ∧ isDig ch = false := by
  unfold isCmp at h
  simp only [Bool.or_eq_true, decide_eq_true_eq] at h
  rcases h with (h | h) | h <;> subst h <;> decide
theorem evC_app (w q : Nat) (x y : List Int32) (st : List Nat) : evC w q (x ++ y) st = evC w q y (evC w q x st) := by
  unfold evC
  rw [List.foldl_append]
theorem evS_op {w q : Nat} {ch : Int32} (h : isVar ch = false ∧ isDig ch = false) (a b : Nat) (st : List Nat) : evC w q [ch] (b :: a :: st) = opV w ch a b :: st := by
  show evS w q ch (b :: a :: st) = _
  unfold evS
  rw [if_neg (by rw [h.1, h.2]; simp)]
  rfl
theorem PR.leaf {n : Nat} {f : Nat → Int32} (hn : n ≤ 24) {s : pS} (hs : s.2.length ≤ s.1) (h : ptLeaf n f s = true) : PR n s (s.1 + 1, addC (lnAt n f s.1) s.2) := by
  have hlt : s.1 < n := lnAt_lt (fun z => by
    unfold ptLeaf at h
    rw [z, isVar0, isDig0] at h
    cases h)
  refine ⟨[lnAt n f s.1], ?_, by simp; omega, hlt, fun w q => ⟨leafV w q (lnAt n f s.1), fun st => ?_⟩⟩
  · show addC _ _ = _
    unfold addC
    rw [if_pos (by omega)]
  · show evS w q _ st = _
    unfold evS
    unfold ptLeaf at h
    rw [if_pos (by simpa using h)]
/-- an operator's two sides, then it -/
theorem PR.op {n : Nat} {f : Nat → Int32} (hn : n ≤ 24) {s s1 s2 : pS} {ch : Int32} (hch : isVar ch = false ∧ isDig ch = false) (hs : s.2.length ≤ s.1) (h1 : PR n s s1) (h2 : PR n (s1.1 + 1, s1.2) s2) : PR n s (s2.1, addC ch s2.2) := by
  obtain ⟨t1, a1, a2, a3, a4⟩ := h1
  obtain ⟨t2, b1, b2, b3, b4⟩ := h2
  have b1 : s2.2 = s1.2 ++ t2 := b1
  have b2 : t2.length + (s1.1 + 1) ≤ s2.1 := b2
  have e : s2.2 = s.2 ++ (t1 ++ t2) := by rw [b1, a1, List.append_assoc]
  refine ⟨t1 ++ t2 ++ [ch], ?_, by simp; omega, b3, fun w q => ?_⟩
  · show addC ch s2.2 = _
    unfold addC
    rw [e, if_pos (by simp; omega), List.append_assoc, List.append_assoc]
  · obtain ⟨v1, k1⟩ := a4 w q
    obtain ⟨v2, k2⟩ := b4 w q
    exact ⟨opV w ch v1 v2, fun st => by rw [evC_app, evC_app, k1, k2, evS_op hch]⟩
theorem PR.len {n : Nat} {s r : pS} (h : PR n s r) (hs : s.2.length ≤ s.1) : r.2.length ≤ r.1 := by
  obtain ⟨t, a1, a2, -, -⟩ := h
  rw [a1]
  simp
  omega
theorem ptLoop_ok {n : Nat} {f : Nat → Int32} (hn : n ≤ 24) {part : pS → Bool × pS} (hp : ∀ s : pS, s.2.length ≤ s.1 → (part s).1 = true → PR n s (part s).2) {s0 : pS} (h0 : s0.2.length ≤ s0.1) : ∀ (k : Nat) (s : pS), PR n s0 s → (ptLoop n f part k s).1 = true → PR n s0 (ptLoop n f part k s).2 := by
  intro k
  induction k with
  | zero => intro s h _; exact h
  | succ k ih =>
    intro s h hr
    rw [ptLoop] at hr ⊢
    by_cases e : isOp (lnAt n f s.1) = true
    · rw [if_pos e] at hr ⊢
      by_cases e2 : (part (s.1 + 1, s.2)).1 = true
      · rw [if_pos e2] at hr ⊢
        have hl := h.len h0
        exact ih _ (h.op (f := f) hn (isOp_not e) h0 (hp (s.1 + 1, s.2) (by show s.2.length ≤ s.1 + 1; omega) e2)) hr
      · rw [if_neg e2] at hr
        cases hr
    · rw [if_neg e] at hr ⊢
      exact h
theorem ptTerm_ok {n : Nat} {f : Nat → Int32} (hn : n ≤ 24) {part : pS → Bool × pS} (hp : ∀ s : pS, s.2.length ≤ s.1 → (part s).1 = true → PR n s (part s).2) (s : pS) (hs : s.2.length ≤ s.1) (h : (ptTerm n f part s).1 = true) : PR n s (ptTerm n f part s).2 := by
  unfold ptTerm at h ⊢
  by_cases e : (part s).1 = true
  · rw [if_pos e] at h ⊢
    exact ptLoop_ok hn hp hs 24 _ (hp s hs e) h
  · rw [if_neg e] at h
    cases h
theorem ptPart_ok {n : Nat} {f : Nat → Int32} (hn : n ≤ 24) : ∀ (d : Nat) (s : pS), s.2.length ≤ s.1 → (ptPart n f d s).1 = true → PR n s (ptPart n f d s).2 := by
  intro d
  induction d with
  | zero =>
    intro s hs h
    rw [ptPart] at h ⊢
    by_cases e : ptLeaf n f s = true
    · rw [if_pos e]; exact PR.leaf hn hs e
    · rw [if_neg e] at h; cases h
  | succ d ih =>
    intro s hs h
    rw [ptPart] at h ⊢
    by_cases e : ptLeaf n f s = true
    · rw [if_pos e]; exact PR.leaf hn hs e
    · rw [if_neg e] at h ⊢
      by_cases e2 : lnAt n f s.1 = nI 40
      · rw [if_pos e2] at h ⊢
        by_cases e3 : (ptTerm n f (ptPart n f d) (s.1 + 1, s.2)).1 = true ∧ lnAt n f (ptTerm n f (ptPart n f d) (s.1 + 1, s.2)).2.1 = nI 41
        · rw [if_pos e3]
          obtain ⟨t, a1, a2, a3, a4⟩ := ptTerm_ok hn ih (s.1 + 1, s.2) (by show s.2.length ≤ s.1 + 1; omega) e3.1
          have hlt := lnAt_lt (n := n) (f := f) (by rw [e3.2]; decide)
          have a2 : t.length + (s.1 + 1) ≤ _ := a2
          exact ⟨t, a1, by show t.length + s.1 ≤ _ + 1; omega, hlt, a4⟩
        · rw [if_neg e3] at h; cases h
      · rw [if_neg e2] at h; cases h
theorem trm_ok {n : Nat} {f : Nat → Int32} (hn : n ≤ 24) (s : pS) (hs : s.2.length ≤ s.1) (h : (ptTerm n f (ptPart n f 4) s).1 = true) : PR n s (ptTerm n f (ptPart n f 4) s).2 := ptTerm_ok hn (ptPart_ok hn 4) s hs h
theorem atom_ok {n : Nat} {f : Nat → Int32} (hn : n ≤ 24) {b : Nat} (h : (ptAtom n f b).1 = true) (w q : Nat) : ∃ v, evC w q (ptAtom n f b).2 [] = [v] := by
  unfold ptAtom at h ⊢
  by_cases e : (ptTerm n f (ptPart n f 4) (b, [])).1 = true ∧ isCmp (lnAt n f (ptTerm n f (ptPart n f 4) (b, [])).2.1) = true
  · rw [if_pos e] at h ⊢
    have h1 := trm_ok hn (b, []) (Nat.zero_le _) e.1
    by_cases e2 : (ptTerm n f (ptPart n f 4) ((ptTerm n f (ptPart n f 4) (b, [])).2.1 + 1, (ptTerm n f (ptPart n f 4) (b, [])).2.2)).1 = true
    · rw [if_pos e2]
      have hl := h1.len (Nat.zero_le _)
      have h2 := trm_ok hn ((ptTerm n f (ptPart n f 4) (b, [])).2.1 + 1, (ptTerm n f (ptPart n f 4) (b, [])).2.2) (Nat.le_succ_of_le hl) e2
      obtain ⟨t, a1, -, -, a4⟩ := h1.op (f := f) hn (isCmp_not e.2) (Nat.zero_le _) h2
      obtain ⟨v, hv⟩ := a4 w q
      refine ⟨v, ?_⟩
      have a1 : addC _ _ = [] ++ t := a1
      show evC w q (addC _ _) [] = _
      rw [a1]
      exact hv []
    · rw [if_neg e2] at h; cases h
  · rw [if_neg e] at h; cases h
theorem edge_ok {n : Nat} {f : Nat → Int32} (hn : n ≤ 24) {k : Nat} {code : List Int32} (h : rdEdge n f = some (k, code)) (hk : k ≠ 2) (w q : Nat) : ∃ v, evC w q code [] = [v] := by
  unfold rdEdge at h
  split at h
  · split at h
    · split at h
      · cases h; exact absurd rfl hk
      · cases h
    · split at h
      · split at h
        · rename_i e
          cases h
          simp only [Bool.and_eq_true] at e
          obtain ⟨t, a1, -, -, a4⟩ := trm_ok hn (5, []) (Nat.zero_le _) e.1
          obtain ⟨v, hv⟩ := a4 w q
          have a1 : _ = [] ++ t := a1
          exact ⟨v, by rw [a1]; exact hv []⟩
        · cases h
      · split at h
        · rename_i e
          cases h
          exact atom_ok hn e w q
        · cases h
  · cases h
