/-! groups of states by their signatures, purely -/
def prs (N : Nat) (sg : Nat → Nat) (p : Nat) : Bool := (List.range N).any (fun s => Nat.beq (sg s) p)
theorem prs_iff {N : Nat} {sg : Nat → Nat} {p : Nat} : prs N sg p = true ↔ ∃ s, s < N ∧ sg s = p := by
  unfold prs
  rw [List.any_eq_true]
  constructor
  · rintro ⟨s, h1, h2⟩
    exact ⟨s, List.mem_range.mp h1, Nat.eq_of_beq_eq_true h2⟩
  · rintro ⟨s, h1, h2⟩
    exact ⟨s, List.mem_range.mpr h1, by rw [h2]; exact Nat.beq_refl p⟩
theorem prs_false {N : Nat} {sg : Nat → Nat} {p : Nat} : prs N sg p = false ↔ ∀ s, s < N → sg s ≠ p := by
  constructor
  · intro h s hs e
    have := prs_iff.mpr ⟨s, hs, e⟩
    rw [h] at this
    cases this
  · intro h
    cases e : prs N sg p with
    | false => rfl
    | true =>
      obtain ⟨s, a, b⟩ := prs_iff.mp e
      exact absurd b (h s a)
theorem prs_succ (N : Nat) (sg : Nat → Nat) (p : Nat) : prs (N + 1) sg p = (prs N sg p || Nat.beq (sg N) p) := by
  unfold prs
  rw [List.range_succ, List.any_append]
  simp
theorem cnt_ext {P Q : Nat → Bool} : ∀ {n : Nat}, (∀ i, i < n → P i = Q i) → cnt P n = cnt Q n
  | 0, _ => rfl
  | n + 1, h => by
    show cnt P n + cond (P n) 1 0 = cnt Q n + cond (Q n) 1 0
    rw [cnt_ext (fun i hi => h i (by omega)), h n (by omega)]
theorem cnt_or (P : Nat → Bool) (v : Nat) : ∀ M, cnt (fun p => P p || Nat.beq v p) M ≤ cnt P M + (if v < M then 1 else 0)
  | 0 => by simp [cnt]
  | M + 1 => by
    have ih := cnt_or P v M
    show cnt (fun p => P p || Nat.beq v p) M + cond (P M || Nat.beq v M) 1 0 ≤ cnt P M + cond (P M) 1 0 + (if v < M + 1 then 1 else 0)
    by_cases h : v = M
    · rw [if_neg (by omega)] at ih
      rw [if_pos (by omega)]
      cases P M <;> cases Nat.beq v M <;> simp <;> omega
    · have h1 : Nat.beq v M = false := by
        cases e : Nat.beq v M with
        | false => rfl
        | true => exact absurd (Nat.eq_of_beq_eq_true e) h
      rw [h1, Bool.or_false]
      by_cases h3 : v < M
      · rw [if_pos h3] at ih
        rw [if_pos (by omega)]
        omega
      · rw [if_neg h3] at ih
        rw [if_neg (by omega)]
        omega
theorem cnt_prs_le (sg : Nat → Nat) (M : Nat) : ∀ N, cnt (prs N sg) M ≤ N
  | 0 => by
    have : cnt (prs 0 sg) M = cnt (fun _ => false) M := cnt_ext (fun i _ => rfl)
    rw [this]
    clear this
    induction M with
    | zero => exact Nat.le_refl _
    | succ M ih => show cnt (fun _ => false) M + 0 ≤ 0; omega
  | N + 1 => by
    have ih := cnt_prs_le sg M N
    have h1 : cnt (prs (N + 1) sg) M = cnt (fun p => prs N sg p || Nat.beq (sg N) p) M := cnt_ext (fun i _ => prs_succ N sg i)
    have h2 := cnt_or (prs N sg) (sg N) M
    have h3 : (if sg N < M then 1 else 0) ≤ 1 := by split <;> decide
    omega
/-- the number of a state's group -/
def rk (N : Nat) (sg : Nat → Nat) (s : Nat) : Nat := cnt (prs N sg) (sg s)
theorem rk_lt {N np : Nat} {sg : Nat → Nat} (hsg : ∀ s, s < N → sg s < 2 ^ np) {s : Nat} (hs : s < N) : rk N sg s < cnt (prs N sg) (2 ^ np) := cnt_lt (hsg s hs) (prs_iff.mpr ⟨s, hs, rfl⟩)
theorem rk_inj {N : Nat} {sg : Nat → Nat} {s t : Nat} (hs : s < N) (ht : t < N) : rk N sg s = rk N sg t ↔ sg s = sg t := by
  constructor
  · intro h
    unfold rk at h
    rcases Nat.lt_trichotomy (sg s) (sg t) with h1 | h1 | h1
    · have := cnt_lt h1 (prs_iff.mpr ⟨s, hs, rfl⟩ : prs N sg (sg s) = true)
      omega
    · exact h1
    · have := cnt_lt h1 (prs_iff.mpr ⟨t, ht, rfl⟩ : prs N sg (sg t) = true)
      omega
  · intro h
    unfold rk
    rw [h]
/-- every number below the count is a group's -/
theorem rk_at {N np : Nat} {sg : Nat → Nat} {g : Nat} (h : g < cnt (prs N sg) (2 ^ np)) : ∃ s, s < N ∧ rk N sg s = g := by
  obtain ⟨p, -, hp, hc⟩ := cnt_at h
  obtain ⟨s, hs, he⟩ := prs_iff.mp hp
  exact ⟨s, hs, by unfold rk; rw [he]; exact hc⟩
theorem sh1 : ∀ n, n < 31 → (nI 1) <<< (nI n &&& 31) = nI (2 ^ n) := by decide +kernel
/-- places: the group's end, less those before it -/
def gcn (N : Nat) (sg : Nat → Nat) (g : Nat) (t : Nat) : Nat := cnt (fun s => rk N sg s == g) t
def gps (N : Nat) (sg : Nat → Nat) (s : Nat) : Nat := sm (fun g => gcn N sg g N) (rk N sg s + 1) - gcn N sg (rk N sg s) (s + 1)
theorem gcn_s (N : Nat) (sg : Nat → Nat) (t : Nat) : gcn N sg (rk N sg t) (t + 1) = gcn N sg (rk N sg t) t + 1 := by
  unfold gcn
  show cnt _ t + cond (rk N sg t == rk N sg t) 1 0 = _
  simp
theorem gcn_ne (N : Nat) (sg : Nat → Nat) {g t : Nat} (h : rk N sg t ≠ g) : gcn N sg g (t + 1) = gcn N sg g t := by
  unfold gcn
  show cnt _ t + cond (rk N sg t == g) 1 0 = _
  rw [show (rk N sg t == g) = false by simpa using h]
  rfl
theorem gps_in {N np : Nat} {sg : Nat → Nat} {s : Nat} (hs : s < N) : sm (fun g => gcn N sg g N) (rk N sg s) ≤ gps N sg s ∧ gps N sg s < sm (fun g => gcn N sg g N) (rk N sg s + 1) := by
  have h1 : gcn N sg (rk N sg s) (s + 1) ≤ gcn N sg (rk N sg s) N := cnt_mono _ hs
  have h2 := gcn_s N sg s
  have h3 : sm (fun g => gcn N sg g N) (rk N sg s + 1) = sm (fun g => gcn N sg g N) (rk N sg s) + gcn N sg (rk N sg s) N := rfl
  unfold gps
  omega
theorem gps_sum {N np : Nat} {sg : Nat → Nat} (hsg : ∀ s, s < N → sg s < 2 ^ np) : sm (fun g => gcn N sg g N) (cnt (prs N sg) (2 ^ np)) = N :=
  sm_cnt (rk N sg) _ N (fun s hs => rk_lt hsg hs)
theorem gps_lt {N np : Nat} {sg : Nat → Nat} (hsg : ∀ s, s < N → sg s < 2 ^ np) {s : Nat} (hs : s < N) : gps N sg s < N := by
  have h1 := (gps_in (np := np) (sg := sg) hs).2
  have h2 := sm_mono (fun g => gcn N sg g N) (show rk N sg s + 1 ≤ cnt (prs N sg) (2 ^ np) from rk_lt hsg hs)
  rw [gps_sum hsg] at h2
  omega
theorem gps_inj {N np : Nat} {sg : Nat → Nat} {s t : Nat} (hs : s < N) (ht : t < N) (hst : s < t) : gps N sg s ≠ gps N sg t := by
  intro e
  have a := gps_in (np := np) (sg := sg) hs
  have b := gps_in (np := np) (sg := sg) ht
  rcases Nat.lt_trichotomy (rk N sg s) (rk N sg t) with h | h | h
  · have := sm_mono (fun g => gcn N sg g N) (show rk N sg s + 1 ≤ rk N sg t from h)
    omega
  · unfold gps at e
    rw [h] at e
    have h1 : gcn N sg (rk N sg t) (s + 1) ≤ gcn N sg (rk N sg t) t := cnt_mono _ hst
    have h2 := gcn_s N sg t
    have h3 : gcn N sg (rk N sg t) (t + 1) ≤ gcn N sg (rk N sg t) N := cnt_mono _ ht
    have h4 : sm (fun g => gcn N sg g N) (rk N sg t + 1) = sm (fun g => gcn N sg g N) (rk N sg t) + gcn N sg (rk N sg t) N := rfl
    omega
  · have := sm_mono (fun g => gcn N sg g N) (show rk N sg t + 1 ≤ rk N sg s from h)
    omega
/-- every place of a group is one of its states' -/
theorem gps_at {N : Nat} {sg : Nat → Nat} {g i : Nat} (h1 : sm (fun g => gcn N sg g N) g ≤ i) (h2 : i < sm (fun g => gcn N sg g N) (g + 1)) : ∃ s, s < N ∧ rk N sg s = g ∧ gps N sg s = i := by
  have h3 : sm (fun g => gcn N sg g N) (g + 1) = sm (fun g => gcn N sg g N) g + gcn N sg g N := rfl
  have h4 : sm (fun g => gcn N sg g N) (g + 1) - 1 - i < gcn N sg g N := by omega
  obtain ⟨s, a, b, c⟩ := cnt_at h4
  have e : rk N sg s = g := by simpa using b
  refine ⟨s, a, e, ?_⟩
  unfold gps
  have h5 := gcn_s N sg s
  rw [e] at h5 ⊢
  have h6 : gcn N sg g s = sm (fun g => gcn N sg g N) (g + 1) - 1 - i := c
  omega
