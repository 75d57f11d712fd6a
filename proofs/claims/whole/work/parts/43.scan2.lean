def scP (n : Nat) (f : Nat → Int32) (d : Nat) (part : pS → Bool × pS) : Prop := ∀ s : pS, ((part s).1 = true → s.1 < (part s).2.1 ∧ sc n f d true s.1 = sc n f d false (part s).2.1) ∧ ((part s).1 = false → sc n f d true s.1 = none)
theorem lnAt_ge {n : Nat} {f : Nat → Int32} {i : Nat} (h : ¬ i < n) : lnAt n f i = 0 := by unfold lnAt; rw [if_neg h]
theorem op_lt {n : Nat} {f : Nat → Int32} {i : Nat} (h : isOp (lnAt n f i) = true) : i < n := lnAt_lt (fun z => by rw [z, isOp0] at h; cases h)
theorem op_41 {ch : Int32} (h : isOp ch = true) : ¬ ch = nI 41 := fun z => by rw [z] at h; exact absurd h (by decide)
theorem loop_sc {n : Nat} {f : Nat → Int32} {d : Nat} {part : pS → Bool × pS} (hp : scP n f d part) : ∀ (m : Nat) (s : pS), n ≤ s.1 + m → ((ptLoop n f part m s).1 = true → s.1 ≤ (ptLoop n f part m s).2.1 ∧ isOp (lnAt n f (ptLoop n f part m s).2.1) = false ∧ sc n f d false s.1 = sc n f d false (ptLoop n f part m s).2.1) ∧ ((ptLoop n f part m s).1 = false → sc n f d false s.1 = none) := by
  intro m
  induction m with
  | zero =>
    intro s h
    refine ⟨fun _ => ⟨Nat.le_refl _, ?_, rfl⟩, fun z => (by cases z)⟩
    show isOp (lnAt n f s.1) = false
    rw [lnAt_ge (by omega)]
    exact isOp0
  | succ m ih =>
    intro s h
    rw [ptLoop]
    by_cases e : isOp (lnAt n f s.1) = true
    · have hlt := op_lt e
      have hs : sc n f d false s.1 = sc n f d true (s.1 + 1) := by
        rw [sc_step, if_pos hlt, if_neg (by simp), if_neg (by simp), if_neg (fun z => op_41 e z.2.1), if_pos ⟨rfl, e⟩]
      obtain ⟨p1, p2⟩ := hp (s.1 + 1, s.2)
      rw [if_pos e]
      by_cases e2 : (part (s.1 + 1, s.2)).1 = true
      · obtain ⟨p3, p4⟩ := p1 e2
        have p3 : s.1 + 1 < _ := p3
        have p4 : sc n f d true (s.1 + 1) = _ := p4
        rw [if_pos e2]
        obtain ⟨i1, i2⟩ := ih ((part (s.1 + 1, s.2)).2.1, addC (lnAt n f s.1) (part (s.1 + 1, s.2)).2.2) (by show n ≤ (part (s.1 + 1, s.2)).2.1 + m; omega)
        refine ⟨fun z => ?_, fun z => ?_⟩
        · obtain ⟨j1, j2, j3⟩ := i1 z
          have j1 : (part (s.1 + 1, s.2)).2.1 ≤ _ := j1
          exact ⟨by omega, j2, hs.trans (p4.trans j3)⟩
        · exact hs.trans (p4.trans (i2 z))
      · rw [if_neg e2]
        refine ⟨fun z => (by cases z), fun _ => hs.trans (p2 (by simpa using e2))⟩
    · rw [if_neg e]
      exact ⟨fun _ => ⟨Nat.le_refl _, by simpa using e, rfl⟩, fun z => (by cases z)⟩
theorem term_sc {n : Nat} {f : Nat → Int32} (hn : n ≤ 24) {d : Nat} {part : pS → Bool × pS} (hp : scP n f d part) (s : pS) : ((ptTerm n f part s).1 = true → s.1 < (ptTerm n f part s).2.1 ∧ isOp (lnAt n f (ptTerm n f part s).2.1) = false ∧ sc n f d true s.1 = sc n f d false (ptTerm n f part s).2.1) ∧ ((ptTerm n f part s).1 = false → sc n f d true s.1 = none) := by
  obtain ⟨p1, p2⟩ := hp s
  unfold ptTerm
  by_cases e : (part s).1 = true
  · obtain ⟨p3, p4⟩ := p1 e
    rw [if_pos e]
    obtain ⟨i1, i2⟩ := loop_sc hp 24 (part s).2 (by omega)
    refine ⟨fun z => ?_, fun z => p4.trans (i2 z)⟩
    obtain ⟨j1, j2, j3⟩ := i1 z
    exact ⟨by omega, j2, p4.trans j3⟩
  · rw [if_neg e]
    exact ⟨fun z => (by cases z), fun _ => p2 (by simpa using e)⟩
theorem leaf_sc {n : Nat} {f : Nat → Int32} {d : Nat} {s : pS} (h : ptLeaf n f s = true) : sc n f d true s.1 = sc n f d false (s.1 + 1) := by
  have hlt : s.1 < n := lnAt_lt (fun z => by
    unfold ptLeaf at h
    rw [z, isVar0, isDig0] at h
    cases h)
  unfold ptLeaf at h
  rw [sc_step, if_pos hlt, if_pos ⟨rfl, by simpa [or_comm] using h⟩]
theorem stuck_sc {n : Nat} {f : Nat → Int32} {d : Nat} {s : pS} (h : ¬ ptLeaf n f s = true) (h2 : ¬ (lnAt n f s.1 = nI 40 ∧ d < 4)) : sc n f d true s.1 = none := by
  unfold ptLeaf at h
  rw [sc_step]
  by_cases hlt : s.1 < n
  · rw [if_pos hlt, if_neg (fun z => h (by simpa [or_comm] using z.2)), if_neg (fun z => h2 z.2), if_neg (by simp), if_neg (by simp), if_pos (Or.inl rfl)]
  · rw [if_neg hlt, if_pos (Or.inl rfl)]
theorem part_sc {n : Nat} {f : Nat → Int32} (hn : n ≤ 24) : ∀ (k d : Nat), d + k = 4 → scP n f d (ptPart n f k) := by
  intro k
  induction k with
  | zero =>
    intro d hd s
    rw [ptPart]
    by_cases e : ptLeaf n f s = true
    · rw [if_pos e]
      exact ⟨fun _ => ⟨Nat.lt_succ_self _, leaf_sc e⟩, fun z => (by cases z)⟩
    · rw [if_neg e]
      exact ⟨fun z => (by cases z), fun _ => stuck_sc e (fun z => by omega)⟩
  | succ k ih =>
    intro d hd s
    rw [ptPart]
    by_cases e : ptLeaf n f s = true
    · rw [if_pos e]
      exact ⟨fun _ => ⟨Nat.lt_succ_self _, leaf_sc e⟩, fun z => (by cases z)⟩
    · rw [if_neg e]
      by_cases e2 : lnAt n f s.1 = nI 40
      · rw [if_pos e2]
        have hlt : s.1 < n := lnAt_lt (by rw [e2]; decide)
        have hop : sc n f d true s.1 = sc n f (d + 1) true (s.1 + 1) := by
          have e' := e
          unfold ptLeaf at e'
          rw [sc_step, if_pos hlt, if_neg (fun z => e' (by simpa [or_comm] using z.2)), if_pos ⟨rfl, e2, by omega⟩]
        obtain ⟨t1, t2⟩ := term_sc hn (ih (d + 1) (by omega)) (s.1 + 1, s.2)
        by_cases e3 : (ptTerm n f (ptPart n f k) (s.1 + 1, s.2)).1 = true
        · obtain ⟨t3, t4, t5⟩ := t1 e3
          have t3 : s.1 + 1 < _ := t3
          have t5 : sc n f (d + 1) true (s.1 + 1) = _ := t5
          by_cases e4 : lnAt n f (ptTerm n f (ptPart n f k) (s.1 + 1, s.2)).2.1 = nI 41
          · rw [if_pos ⟨e3, e4⟩]
            have hl2 := lnAt_lt (n := n) (f := f) (i := (ptTerm n f (ptPart n f k) (s.1 + 1, s.2)).2.1) (by rw [e4]; decide)
            refine ⟨fun _ => ⟨by show s.1 < _ + 1; omega, hop.trans (t5.trans ?_)⟩, fun z => (by cases z)⟩
            rw [sc_step, if_pos hl2, if_neg (by simp), if_neg (by simp), if_pos ⟨rfl, e4, by omega⟩]
            rfl
          · rw [if_neg (fun z => e4 z.2)]
            refine ⟨fun z => (by cases z), fun _ => hop.trans (t5.trans ?_)⟩
            rw [sc_step]
            by_cases hl2 : (ptTerm n f (ptPart n f k) (s.1 + 1, s.2)).2.1 < n
            · rw [if_pos hl2, if_neg (by simp), if_neg (by simp), if_neg (fun z => e4 z.2.1), if_neg (fun z => by rw [t4] at z; cases z.2), if_pos (Or.inr (Nat.succ_pos _))]
            · rw [if_neg hl2, if_pos (Or.inr (Nat.succ_pos _))]
        · rw [if_neg (fun z => e3 z.1)]
          exact ⟨fun z => (by cases z), fun _ => hop.trans (t2 (by simpa using e3))⟩
      · rw [if_neg e2]
        exact ⟨fun z => (by cases z), fun _ => stuck_sc e (fun z => e2 z.1)⟩
/-- the scanner ends where the term does -/
theorem sc_term {n : Nat} {f : Nat → Int32} (hn : n ≤ 24) (s : pS) : sc n f 0 true s.1 = if (ptTerm n f (ptPart n f 4) s).1 = true then some (ptTerm n f (ptPart n f 4) s).2.1 else none := by
  obtain ⟨t1, t2⟩ := term_sc hn (part_sc hn 4 0 rfl) s
  by_cases e : (ptTerm n f (ptPart n f 4) s).1 = true
  · rw [if_pos e]
    obtain ⟨-, t4, t5⟩ := t1 e
    rw [t5, sc_step]
    by_cases hl : (ptTerm n f (ptPart n f 4) s).2.1 < n
    · rw [if_pos hl, if_neg (by simp), if_neg (by simp), if_neg (by simp), if_neg (fun z => by rw [t4] at z; cases z.2), if_neg (by simp)]
    · rw [if_neg hl, if_neg (by simp)]
  · rw [if_neg e]
    exact t2 (by simpa using e)
