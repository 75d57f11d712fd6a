/-! counting (own text): how many of the first n are so; the k-th of them -/
def cnt (P : Nat → Bool) : Nat → Nat
  | 0 => 0
  | n + 1 => cnt P n + cond (P n) 1 0
theorem cnt_le (P : Nat → Bool) : ∀ n, cnt P n ≤ n
  | 0 => Nat.le_refl _
  | n + 1 => by
    have := cnt_le P n
    unfold cnt
    cases P n <;> simp <;> omega
theorem cnt_mono (P : Nat → Bool) {a b : Nat} (h : a ≤ b) : cnt P a ≤ cnt P b := by
  induction b with
  | zero => rw [Nat.le_zero.mp h]; exact Nat.le_refl _
  | succ b ih =>
    by_cases e : a = b + 1
    · rw [e]; exact Nat.le_refl _
    · have := ih (by omega)
      have e2 : cnt P (b + 1) = cnt P b + cond (P b) 1 0 := rfl
      omega
theorem cnt_lt {P : Nat → Bool} {a b : Nat} (h : a < b) (hp : P a = true) : cnt P a < cnt P b := by
  have h1 : cnt P (a + 1) ≤ cnt P b := cnt_mono P h
  have h2 : cnt P (a + 1) = cnt P a + 1 := by
    show cnt P a + cond (P a) 1 0 = _
    rw [hp]
    rfl
  omega
/-- the k-th of them is there -/
theorem cnt_at {P : Nat → Bool} : ∀ {n k : Nat}, k < cnt P n → ∃ s, s < n ∧ P s = true ∧ cnt P s = k
  | 0, k, h => by simp [cnt] at h
  | n + 1, k, h => by
    by_cases h1 : k < cnt P n
    · obtain ⟨s, a, b, c⟩ := cnt_at h1
      exact ⟨s, by omega, b, c⟩
    · unfold cnt at h
      cases hp : P n with
      | false => rw [hp] at h; simp at h; omega
      | true => rw [hp] at h; simp at h; exact ⟨n, by omega, hp, by omega⟩
/-- a sum over the first n -/
def sm (f : Nat → Nat) : Nat → Nat
  | 0 => 0
  | n + 1 => sm f n + f n
theorem sm_mono (f : Nat → Nat) {a b : Nat} (h : a ≤ b) : sm f a ≤ sm f b := by
  induction b with
  | zero => rw [Nat.le_zero.mp h]; exact Nat.le_refl _
  | succ b ih =>
    by_cases e : a = b + 1
    · rw [e]; exact Nat.le_refl _
    · have := ih (by omega)
      have e2 : sm f (b + 1) = sm f b + f b := rfl
      omega
theorem sm_ext {f g : Nat → Nat} : ∀ {n : Nat}, (∀ i, i < n → f i = g i) → sm f n = sm g n
  | 0, _ => rfl
  | n + 1, h => by
    unfold sm
    rw [sm_ext (fun i hi => h i (by omega)), h n (by omega)]
/-- the states by their numbers below G: their counts make up all -/
theorem sm_cnt (r : Nat → Nat) (G : Nat) : ∀ n, (∀ s, s < n → r s < G) → sm (fun g => cnt (fun s => r s == g) n) G = n
  | 0, _ => by
    have : ∀ G, sm (fun g => cnt (fun s => r s == g) 0) G = 0 := by
      intro G
      induction G with
      | zero => rfl
      | succ G ih => unfold sm; rw [ih]; rfl
    exact this G
  | n + 1, h => by
    have ih := sm_cnt r G n (fun s hs => h s (by omega))
    have key : ∀ G', sm (fun g => cnt (fun s => r s == g) (n + 1)) G' = sm (fun g => cnt (fun s => r s == g) n) G' + (if r n < G' then 1 else 0) := by
      intro G'
      induction G' with
      | zero => rfl
      | succ G' ih2 =>
        have a1 : sm (fun g => cnt (fun s => r s == g) (n + 1)) (G' + 1) = sm (fun g => cnt (fun s => r s == g) (n + 1)) G' + (cnt (fun s => r s == G') n + cond (r n == G') 1 0) := rfl
        have a2 : sm (fun g => cnt (fun s => r s == g) n) (G' + 1) = sm (fun g => cnt (fun s => r s == g) n) G' + cnt (fun s => r s == G') n := rfl
        rw [a1, a2, ih2]
        by_cases e2 : r n = G'
        · have e3 : (r n == G') = true := by simpa using e2
          rw [e3, if_neg (by omega), if_pos (by omega)]
          simp only [cond_true]
          omega
        · have e3 : (r n == G') = false := by simpa using e2
          rw [e3]
          simp only [cond_false]
          by_cases e1 : r n < G'
          · rw [if_pos e1, if_pos (by omega)]
            omega
          · rw [if_neg e1, if_neg (by omega)]
            omega
    rw [key, ih, if_pos (h n (by omega))]
