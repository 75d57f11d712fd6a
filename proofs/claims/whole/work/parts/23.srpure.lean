/-! the search, purely: nodes (place, signature, from which node, by which edge, how deep) -/
abbrev nd : Type := Nat × Nat × Nat × Nat × Nat
def z0 : nd := (0, 0, 0, 0, 0)
def nAt (ns : List nd) (k : Nat) : nd := ns.getD k z0
def knw (ns : List nd) (lc p : Nat) : Bool := ns.any (fun x => Nat.beq x.1 lc && Nat.beq x.2.1 p)
theorem knw_snoc (ns : List nd) (x : nd) (lc p : Nat) : knw (ns ++ [x]) lc p = (knw ns lc p || (Nat.beq x.1 lc && Nat.beq x.2.1 p)) := by
  unfold knw
  rw [List.any_append]
  simp
theorem nAt_old {ns : List nd} {x : nd} {k : Nat} (h : k < ns.length) : nAt (ns ++ [x]) k = nAt ns k := by
  unfold nAt
  rw [List.getD_eq_getElem?_getD, List.getD_eq_getElem?_getD, List.getElem?_append_left h]
theorem nAt_new {ns : List nd} {x : nd} : nAt (ns ++ [x]) ns.length = x := by
  unfold nAt
  rw [List.getD_eq_getElem?_getD, List.getElem?_append_right (Nat.le_refl _)]
  simp
def sprP (R : Nat → Bool) (to k e dp : Nat) : Nat → Nat → List nd → List nd × Nat
  | 0, _, ns => (ns, 0)
  | r + 1, p, ns => if R p = true ∧ knw ns to p = false then
      (if ns.length = 200 then (ns, 1) else if to = 1 then (ns ++ [(to, p, k, e, dp + 1)], 2) else sprP R to k e dp r (p + 1) (ns ++ [(to, p, k, e, dp + 1)]))
    else sprP R to k e dp r (p + 1) ns
/-- signatures that no state has are passed over -/
theorem sprP_skip {R : Nat → Bool} {to k e dp : Nat} : ∀ (j r p : Nat) (ns : List nd), (∀ i, i < j → R (p + i) = false) → sprP R to k e dp (r + j) p ns = sprP R to k e dp r (p + j) ns
  | 0, r, p, ns, _ => rfl
  | j + 1, r, p, ns, h => by
    have h0 := h 0 (by omega)
    rw [Nat.add_zero] at h0
    rw [show r + (j + 1) = (r + j) + 1 by omega, sprP, if_neg (by rw [h0]; exact fun z => absurd z.1 (by decide))]
    rw [sprP_skip j r (p + 1) ns (fun i hi => by have := h (i + 1) (by omega); rw [show p + 1 + i = p + (i + 1) by omega]; exact this)]
    rw [show p + 1 + j = p + (j + 1) by omega]
def sprE (Rf : Nat → Nat → Nat → Bool) (M : Nat) (ef et : Nat → Nat) (k : Nat) (x : nd) : Nat → Nat → List nd → List nd × Nat
  | 0, _, ns => (ns, 0)
  | r + 1, e, ns => if ef e = x.1 then
      (if (sprP (Rf e x.2.1) (et e) k e x.2.2.2.2 M 0 ns).2 = 0 then sprE Rf M ef et k x r (e + 1) (sprP (Rf e x.2.1) (et e) k e x.2.2.2.2 M 0 ns).1 else sprP (Rf e x.2.1) (et e) k e x.2.2.2.2 M 0 ns)
    else sprE Rf M ef et k x r (e + 1) ns
def srN (Rf : Nat → Nat → Nat → Bool) (M ne : Nat) (ef et : Nat → Nat) : Nat → Nat → List nd → List nd × Nat
  | 0, _, ns => (ns, 0)
  | r + 1, k, ns => if k < ns.length then
      (if (sprE Rf M ef et k (nAt ns k) ne 0 ns).2 = 0 then srN Rf M ne ef et r (k + 1) (sprE Rf M ef et k (nAt ns k) ne 0 ns).1 else sprE Rf M ef et k (nAt ns k) ne 0 ns)
    else (ns, 0)
/-- the edges on the way to a node -/
def pthL (ns : List nd) : Nat → Nat → List Nat
  | 0, _ => []
  | d + 1, k => pthL ns d (nAt ns k).2.2.1 ++ [(nAt ns k).2.2.2.1]
theorem pthL_len (ns : List nd) : ∀ d k, (pthL ns d k).length = d
  | 0, _ => rfl
  | d + 1, k => by simp [pthL, pthL_len ns d]
/-- what holds of the nodes -/
def NsOK (N np : Nat) (sg : Nat → Nat) (ne : Nat) (ns : List nd) : Prop := 0 < ns.length ∧ ns.length ≤ 200 ∧ ∀ k, k < ns.length → (nAt ns k).1 < 12 ∧ prs N sg (nAt ns k).2.1 = true ∧ (k = 0 → (nAt ns k).2.2.2.2 = 0) ∧ (0 < k → (nAt ns k).2.2.1 < k ∧ (nAt ns k).2.2.2.1 < ne ∧ (nAt ns k).2.2.2.2 = (nAt ns (nAt ns k).2.2.1).2.2.2.2 + 1)
theorem NsOK.dep {N np : Nat} {sg : Nat → Nat} {ne : Nat} {ns : List nd} (h : NsOK N np sg ne ns) : ∀ k, k < ns.length → (nAt ns k).2.2.2.2 ≤ k := by
  intro k
  induction k using Nat.strongRecOn with
  | ind k ih =>
    intro hk
    obtain ⟨-, -, h3, h4⟩ := h.2.2 k hk
    by_cases e : k = 0
    · rw [h3 e]; omega
    · obtain ⟨a, -, c⟩ := h4 (by omega)
      have := ih _ a (by omega)
      omega
theorem NsOK.add {N np : Nat} {sg : Nat → Nat} {ne : Nat} {ns : List nd} (h : NsOK N np sg ne ns) (hl : ns.length < 200) {to p k e : Nat} (h1 : to < 12) (h2 : prs N sg p = true) (h3 : k < ns.length) (h4 : e < ne) : NsOK N np sg ne (ns ++ [(to, p, k, e, (nAt ns k).2.2.2.2 + 1)]) := by
  refine ⟨by simp, by simp; omega, fun j hj => ?_⟩
  simp only [List.length_append, List.length_singleton] at hj
  by_cases hjn : j < ns.length
  · rw [nAt_old hjn]
    obtain ⟨a, b, c, d⟩ := h.2.2 j hjn
    refine ⟨a, b, c, fun hj0 => ?_⟩
    obtain ⟨d1, d2, d3⟩ := d hj0
    rw [nAt_old (by omega)]
    exact ⟨d1, d2, d3⟩
  · have e1 : j = ns.length := by omega
    subst e1
    rw [nAt_new]
    refine ⟨h1, h2, fun z => absurd z (by have := h.1; omega), fun _ => ⟨h3, h4, ?_⟩⟩
    show _ = (nAt (ns ++ [_]) k).2.2.2.2 + 1
    rw [nAt_old h3]
/-- the nodes as they stand in the cells -/
def SeOK (F : Nat → Nat → Int32) (N : Nat) (sg : Nat → Nat) (ns : List nd) : Prop := F 20 3 = nI ns.length ∧ (∀ k, k < ns.length → F 21 k = nI (nAt ns k).1 ∧ F 22 k = nI (nAt ns k).2.1 ∧ F 23 k = (if k = 0 then -1 else nI (nAt ns k).2.2.1) ∧ F 24 k = (if k = 0 then -1 else nI (nAt ns k).2.2.2.1) ∧ F 25 k = nI (cnt (prs N sg) (nAt ns k).2.1) ∧ F 26 k = nI (nAt ns k).2.2.2.2) ∧ ∀ lc t, lc < 12 → t < N → F 27 (lc * N + rk N sg t) = cond (knw ns lc (sg t)) (nI 1) (nI 0)
theorem kn_inj {N a b g h : Nat} (hg : g < N) (hh : h < N) (e : a * N + g = b * N + h) : a = b ∧ g = h := by
  have h1 : (a * N + g) / N = a := by rw [Nat.mul_comm, Nat.mul_add_div (by omega), Nat.div_eq_of_lt hg]; omega
  have h2 : (b * N + h) / N = b := by rw [Nat.mul_comm, Nat.mul_add_div (by omega), Nat.div_eq_of_lt hh]; omega
  have h3 : a = b := by rw [← h1, ← h2, e]
  subst h3
  exact ⟨rfl, by omega⟩
theorem SeOK.add {F : Nat → Nat → Int32} {N np : Nat} {sg : Nat → Nat} {ns : List nd} (hsg : ∀ s, s < N → sg s < 2 ^ np) (h : SeOK F N sg ns) {lc q k e dv : Nat} (hlc : lc < 12) (hq : q < N) : SeOK (adN F N ns.length lc (rk N sg q) (sg q) dv (if ns.length = 0 then -1 else nI k) (if ns.length = 0 then -1 else nI e)) N sg (ns ++ [(lc, sg q, k, e, dv)]) := by
  obtain ⟨h1, h2, h3⟩ := h
  have hr : ∀ t, t < N → rk N sg t < N := fun t ht => Nat.lt_of_lt_of_le (rk_lt hsg ht) (cnt_prs_le sg _ _)
  refine ⟨by unfold adN; rw [gxu_at]; simp, fun j hj => ?_, fun l2 t hl ht => ?_⟩
  · simp only [List.length_append, List.length_singleton] at hj
    by_cases hjn : j < ns.length
    · rw [nAt_old hjn]
      have hne : j ≠ ns.length := by omega
      have o := h2 j hjn
      unfold adN
      simp only [gxu, hne, and_false, if_false, Nat.reduceEqDiff, false_and]
      exact o
    · have e1 : j = ns.length := by omega
      subst e1
      rw [nAt_new]
      unfold adN
      simp [gxu, rk]
  · rw [knw_snoc]
    have e27 : adN F N ns.length lc (rk N sg q) (sg q) dv (if ns.length = 0 then -1 else nI k) (if ns.length = 0 then -1 else nI e) 27 (l2 * N + rk N sg t) = if l2 * N + rk N sg t = lc * N + rk N sg q then nI 1 else F 27 (l2 * N + rk N sg t) := by
      unfold adN
      simp [gxu]
    rw [e27]
    by_cases e1 : l2 * N + rk N sg t = lc * N + rk N sg q
    · obtain ⟨a, b⟩ := kn_inj (hr t ht) (hr q hq) e1
      have b2 := (rk_inj ht hq).mp b
      rw [if_pos e1, a, b2]
      simp [Nat.beq_refl]
    · rw [if_neg e1, h3 l2 t hl ht]
      have : (Nat.beq lc l2 && Nat.beq (sg q) (sg t)) = false := by
        cases c1 : Nat.beq lc l2 with
        | false => rfl
        | true =>
          cases c2 : Nat.beq (sg q) (sg t) with
          | false => rfl
          | true =>
            have d1 := Nat.eq_of_beq_eq_true c1
            have d2 := Nat.eq_of_beq_eq_true c2
            exact absurd (by rw [d1, (rk_inj hq ht).mpr d2]) e1
      rw [this, Bool.or_false]
theorem SeOK.of {F G : Nat → Nat → Int32} {N : Nat} {sg : Nat → Nat} {ns : List nd} (h : SeOK F N sg ns) (e20 : G 20 3 = F 20 3) (e : ∀ a, 21 ≤ a → a ≤ 27 → G a = F a) : SeOK G N sg ns := by
  unfold SeOK
  rw [e20, e 21 (by omega) (by omega), e 22 (by omega) (by omega), e 23 (by omega) (by omega), e 24 (by omega) (by omega), e 25 (by omega) (by omega), e 26 (by omega) (by omega), e 27 (by omega) (by omega)]
  exact h
