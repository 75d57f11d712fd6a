theorem ln0 {n : Nat} {f : Nat → Int32} (hc : ∀ i, i < n → ¬ f i = 0) {i : Nat} : lnAt n f i = 0 ↔ ¬ i < n := by
  unfold lnAt
  by_cases h : i < n
  · rw [if_pos h]
    exact ⟨fun q => absurd q (hc i h), fun q => absurd h q⟩
  · rw [if_neg h]
    exact ⟨fun _ => h, fun _ => rfl⟩
theorem rlA_atom {n : Nat} {f : Nat → Int32} (hn : n ≤ 24) (hc : ∀ i, i < n → ¬ f i = 0) (b : Nat) : (ptAtom n f b).1 = (rlA n f b).isSome := by
  have e1 : sc n f 0 true b = _ := sc_term (f := f) hn (b, [])
  unfold ptAtom rlA
  rw [e1]
  by_cases q : (ptTerm n f (ptPart n f 4) (b, [])).1 = true
  · rw [if_pos q]
    by_cases q2 : isCmp (lnAt n f (ptTerm n f (ptPart n f 4) (b, [])).2.1) = true
    · rw [if_pos ⟨q, q2⟩]
      simp only [q2, if_true]
      have hl := (trm_ok hn (b, []) (Nat.zero_le _) q).len (Nat.zero_le _)
      have e2 : sc n f 0 true ((ptTerm n f (ptPart n f 4) (b, [])).2.1 + 1) = _ := sc_term (f := f) hn ((ptTerm n f (ptPart n f 4) (b, [])).2.1 + 1, (ptTerm n f (ptPart n f 4) (b, [])).2.2)
      rw [e2]
      by_cases q3 : (ptTerm n f (ptPart n f 4) ((ptTerm n f (ptPart n f 4) (b, [])).2.1 + 1, (ptTerm n f (ptPart n f 4) (b, [])).2.2)).1 = true
      · rw [if_pos q3, if_pos q3]
        obtain ⟨-, -, -, h3, -⟩ := trm_ok hn ((ptTerm n f (ptPart n f 4) (b, [])).2.1 + 1, (ptTerm n f (ptPart n f 4) (b, [])).2.2) (Nat.le_succ_of_le hl) q3
        by_cases q4 : (ptTerm n f (ptPart n f 4) ((ptTerm n f (ptPart n f 4) (b, [])).2.1 + 1, (ptTerm n f (ptPart n f 4) (b, [])).2.2)).2.1 = n
        · rw [if_pos (by rw [q4])]
          show decide _ = true
          exact decide_eq_true ((ln0 hc).mpr (by omega))
        · rw [if_neg (fun z => q4 (Option.some.inj z))]
          show decide _ = false
          exact decide_eq_false (fun z => (ln0 hc).mp z (by omega))
      · rw [if_neg q3, if_neg q3, if_neg (fun z => by cases z)]
        rfl
    · rw [if_neg (fun z => q2 z.2)]
      simp only [q2]
      rfl
  · rw [if_neg q, if_neg (fun z => q z.1)]
    rfl
