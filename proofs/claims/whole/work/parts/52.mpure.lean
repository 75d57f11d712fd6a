/-! the reference's list of sets against the class's (own text) -/
/-- the sets are offered one after the other -/
noncomputable def adM (N : Nat) : List (Nat → Bool) → Nat × (Nat → Nat) → Bool × Nat × (Nat → Nat)
  | [], z => (true, z)
  | S :: r, z => if splB N z.2 S = true then (if z.1 = 12 then (false, z) else adM N r (z.1 + 1, exS z.2 z.1 S)) else adM N r z
/-- what becomes of a set along an edge -/
noncomputable def prc (w : Nat) (ek ev : Nat → Nat) (tg : Nat → Nat → Option Nat) (e : Nat) (S : Nat → Bool) : Option (Nat → Bool) :=
  if ek e = 0 then some S else if ek e = 1 then some (prB w ek ev tg S e) else if hgB (2 ^ (3 * w)) S (fun z => wr w z (ev e) 0) = true then some S else none
noncomputable def paM (w : Nat) (ek ev : Nat → Nat) (tg : Nat → Nat → Option Nat) (e : Nat) (ts : List (Nat → Bool)) : List (Nat → Bool) := ts.filterMap (prc w ek ev tg e) ++ (if ek e = 0 then [onS tg e] else [])
noncomputable def rfM (w : Nat) (ek ev : Nat → Nat) (tg : Nat → Nat → Option Nat) : List Nat → List (Nat → Bool) → Nat × (Nat → Nat) → Bool × Nat × (Nat → Nat)
  | [], _, z => (true, z)
  | e :: r, ts, z => if (adM (2 ^ (3 * w)) (paM w ek ev tg e ts) z).1 = true then rfM w ek ev tg r (paM w ek ev tg e ts) (adM (2 ^ (3 * w)) (paM w ek ev tg e ts) z).2 else adM (2 ^ (3 * w)) (paM w ek ev tg e ts) z
noncomputable def rnM (w : Nat) (ek ev : Nat → Nat) (tg : Nat → Nat → Option Nat) (es : List Nat) (z : Nat × (Nat → Nat)) : Bool × Nat × (Nat → Nat) :=
  if (rfM w ek ev tg es.reverse [] z).1 = true then (if z.1 < (rfM w ek ev tg es.reverse [] z).2.1 then rfM w ek ev tg es.reverse [] z else avb (2 ^ (3 * w)) (3 * w) 0 (rfM w ek ev tg es.reverse [] z).2) else rfM w ek ev tg es.reverse [] z
/-- alike on the states -/
def zE (N : Nat) (z y : Nat × (Nat → Nat)) : Prop := z.1 = y.1 ∧ ∀ q, q < N → z.2 q = y.2 q
def rE (N : Nat) (z y : Bool × Nat × (Nat → Nat)) : Prop := z.1 = y.1 ∧ zE N z.2 y.2
theorem bool_iff {a b : Bool} (h : a = true ↔ b = true) : a = b := by
  cases a <;> cases b <;> simp at h ⊢
theorem splB_zE {N : Nat} {sg sg2 : Nat → Nat} {S S2 : Nat → Bool} (h : ∀ q, q < N → sg q = sg2 q) (h2 : ∀ q, q < N → S q = S2 q) : splB N sg S = splB N sg2 S2 := by
  refine bool_iff ?_
  rw [splB_iff, splB_iff]
  unfold spl
  constructor
  · rintro ⟨s, t, c1, c2, c3, c4⟩
    exact ⟨s, t, c1, c2, by rw [← h s c1, ← h t c2]; exact c3, by rw [← h2 s c1, ← h2 t c2]; exact c4⟩
  · rintro ⟨s, t, c1, c2, c3, c4⟩
    exact ⟨s, t, c1, c2, by rw [h s c1, h t c2]; exact c3, by rw [h2 s c1, h2 t c2]; exact c4⟩
theorem splB_empty {N : Nat} {sg : Nat → Nat} {S : Nat → Bool} (h : ∀ q, q < N → S q = false) : splB N sg S = false := by
  cases hb : splB N sg S with
  | false => rfl
  | true =>
    obtain ⟨s, t, c1, c2, -, c4⟩ := splB_iff.mp hb
    exact absurd (by rw [h s c1, h t c2]) c4
theorem exS_zE {N : Nat} {z y : Nat × (Nat → Nat)} {S S2 : Nat → Bool} (h : zE N z y) (h2 : ∀ q, q < N → S q = S2 q) : zE N (z.1 + 1, exS z.2 z.1 S) (y.1 + 1, exS y.2 y.1 S2) := by
  refine ⟨by show z.1 + 1 = y.1 + 1; rw [h.1], fun q hq => ?_⟩
  show exS z.2 z.1 S q = exS y.2 y.1 S2 q
  unfold exS
  rw [h.1, h.2 q hq, h2 q hq]
/-- the second list is the first but for some that are empty -/
def subE (N : Nat) : List (Nat → Bool) → List (Nat → Bool) → Prop
  | [], B => B = []
  | a :: A, B => ((∀ q, q < N → a q = false) ∧ subE N A B) ∨ ∃ b B', B = b :: B' ∧ (∀ q, q < N → a q = b q) ∧ subE N A B'
theorem subE.nil (N : Nat) : subE N [] [] := rfl
theorem adM_sub {N : Nat} : ∀ (A B : List (Nat → Bool)), subE N A B → ∀ z y, zE N z y → rE N (adM N A z) (adM N B y)
  | [], B, h, z, y, hz => by
    have h : B = [] := h
    subst h
    exact ⟨rfl, hz⟩
  | a :: A, B, h, z, y, hz => by
    rcases h with ⟨h1, h2⟩ | ⟨b, B', rfl, h1, h2⟩
    · rw [adM, if_neg (by rw [splB_empty h1]; decide)]
      exact adM_sub A B h2 z y hz
    · rw [adM, adM, splB_zE hz.2 h1, hz.1]
      by_cases e : splB N y.2 b = true
      · rw [if_pos e, if_pos e]
        by_cases e2 : y.1 = 12
        · rw [if_pos e2, if_pos e2]
          exact ⟨rfl, hz⟩
        · rw [if_neg e2, if_neg e2]
          refine adM_sub A B' h2 _ _ ?_
          have := exS_zE hz h1
          rw [hz.1] at this
          exact this
      · rw [if_neg e, if_neg e]
        exact adM_sub A B' h2 z y hz
theorem subE.fm {N : Nat} {f : (Nat → Bool) → (Nat → Bool)} {p : (Nat → Bool) → Option (Nat → Bool)} (h0 : ∀ a, (∀ q, q < N → a q = false) → ∀ q, q < N → f a q = false) (h1 : ∀ a b, (∀ q, q < N → a q = b q) → match p b with
    | none => ∀ q, q < N → f a q = false
    | some x => ∀ q, q < N → f a q = x q) : ∀ (A B : List (Nat → Bool)), subE N A B → subE N (A.map f) (B.filterMap p)
  | [], B, h => by
    have h : B = [] := h
    subst h
    rfl
  | a :: A, B, h => by
    rcases h with ⟨g1, g2⟩ | ⟨b, B', rfl, g1, g2⟩
    · exact Or.inl ⟨h0 a g1, subE.fm h0 h1 A B g2⟩
    · have ih := subE.fm h0 h1 A B' g2
      have hx := h1 a b g1
      rw [List.filterMap_cons]
      cases hp : p b with
      | none => rw [hp] at hx; exact Or.inl ⟨hx, ih⟩
      | some x => rw [hp] at hx; exact Or.inr ⟨x, _, rfl, hx, ih⟩
theorem subE.snoc {N : Nat} {x y : Nat → Bool} (hx : ∀ q, q < N → x q = y q) : ∀ (A B : List (Nat → Bool)), subE N A B → subE N (A ++ [x]) (B ++ [y])
  | [], B, h => by
    have h : B = [] := h
    subst h
    exact Or.inr ⟨y, [], rfl, hx, rfl⟩
  | a :: A, B, h => by
    rcases h with ⟨g1, g2⟩ | ⟨b, B', rfl, g1, g2⟩
    · exact Or.inl ⟨g1, subE.snoc hx A B g2⟩
    · exact Or.inr ⟨b, B' ++ [y], rfl, g1, subE.snoc hx A B' g2⟩
theorem subE.tail {N : Nat} : ∀ (A B C : List (Nat → Bool)), (∀ x ∈ C, ∀ q, q < N → x q = false) → subE N A B → subE N (A ++ C) B
  | [], B, [], _, h => h
  | [], B, x :: C, hC, h => Or.inl ⟨hC x (by simp), subE.tail [] B C (fun y hy => hC y (by simp [hy])) h⟩
  | a :: A, B, C, hC, h => by
    rcases h with ⟨g1, g2⟩ | ⟨b, B', rfl, g1, g2⟩
    · exact Or.inl ⟨g1, subE.tail A B C hC g2⟩
    · exact Or.inr ⟨b, B', rfl, g1, subE.tail A B' C hC g2⟩
/-- the class's sets as a list -/
def lsT (t : Nat × (Nat → Nat → Bool)) : List (Nat → Bool) := (List.range t.1).map t.2
theorem subE.ptw {N : Nat} : ∀ (A A2 B : List (Nat → Bool)), A.length = A2.length → (∀ i, i < A.length → ∀ q, q < N → A.getD i (fun _ => false) q = A2.getD i (fun _ => false) q) → subE N A B → subE N A2 B
  | [], [], B, _, _, h => h
  | [], _ :: _, B, hl, _, _ => by simp at hl
  | _ :: _, [], B, hl, _, _ => by simp at hl
  | a :: A, a2 :: A2, B, hl, hp, h => by
    have h0 : ∀ q, q < N → a q = a2 q := fun q hq => by
      have := hp 0 (by simp) q hq
      simpa using this
    have hr : ∀ i, i < A.length → ∀ q, q < N → A.getD i (fun _ => false) q = A2.getD i (fun _ => false) q := fun i hi q hq => by
      have := hp (i + 1) (by simp; omega) q hq
      simpa using this
    have hl2 : A.length = A2.length := by simpa using hl
    rcases h with ⟨g1, g2⟩ | ⟨b, B', rfl, g1, g2⟩
    · exact Or.inl ⟨fun q hq => by rw [← h0 q hq]; exact g1 q hq, subE.ptw A A2 B hl2 hr g2⟩
    · exact Or.inr ⟨b, B', rfl, fun q hq => by rw [← h0 q hq]; exact g1 q hq, subE.ptw A A2 B' hl2 hr g2⟩
theorem adp_list {N : Nat} {Tf : Nat → Nat → Bool} : ∀ (r i : Nat) (z : Nat × (Nat → Nat)), adp N Tf r i z = adM N ((List.range r).map (fun j => Tf (i + j))) z
  | 0, i, z => rfl
  | r + 1, i, z => by
    have e : (List.range (r + 1)).map (fun j => Tf (i + j)) = Tf i :: (List.range r).map (fun j => Tf (i + 1 + j)) := by
      rw [List.range_succ_eq_map, List.map_cons, List.map_map]
      congr 1
      apply List.map_congr_left
      intro j _
      show Tf (i + (j + 1)) = Tf (i + 1 + j)
      congr 1
      omega
    rw [adp, e, adM, adp_list r (i + 1) z, adp_list r (i + 1) (z.1 + 1, exS z.2 z.1 (Tf i))]
theorem lsT_all {N n R : Nat} {Tf : Nat → Nat → Bool} {B : List (Nat → Bool)} (hR : n ≤ R) (h : subE N (lsT (n, Tf)) B) : subE N ((List.range R).map (fun j => mkT (n, Tf) (0 + j))) B := by
  have e : (List.range R).map (fun j => mkT (n, Tf) (0 + j)) = (List.range n).map (fun j => mkT (n, Tf) (0 + j)) ++ (List.range (R - n)).map (fun j => mkT (n, Tf) (0 + (n + j))) := by
    obtain ⟨d, rfl⟩ : ∃ d, R = n + d := ⟨R - n, by omega⟩
    rw [List.range_add, List.map_append, List.map_map, show n + d - n = d by omega]
    rfl
  rw [e]
  refine subE.tail _ _ _ (fun x hx q hq => ?_) (subE.ptw (lsT (n, Tf)) _ B (by simp [lsT]) (fun i hi q hq => ?_) h)
  · obtain ⟨j, -, rfl⟩ := List.mem_map.mp hx
    unfold mkT
    rw [decide_eq_false (by show ¬ 0 + (n + j) < n; omega)]
    rfl
  · have hi2 : i < n := by simpa [lsT] using hi
    have e1 : (lsT (n, Tf)).getD i (fun _ => false) = Tf i := by
      unfold lsT
      rw [List.getD_eq_getElem?_getD, List.getElem?_map, List.getElem?_range (by exact hi2)]
      rfl
    have e2 : ((List.range n).map (fun j => mkT (n, Tf) (0 + j))).getD i (fun _ => false) = mkT (n, Tf) (0 + i) := by
      rw [List.getD_eq_getElem?_getD, List.getElem?_map, List.getElem?_range hi2]
      rfl
    rw [e1, e2]
    unfold mkT
    rw [Nat.zero_add, decide_eq_true (show i < n from hi2)]
    rfl
theorem adp_adM {N n : Nat} {Tf : Nat → Nat → Bool} {B : List (Nat → Bool)} (h : subE N (lsT (n, Tf)) B) {z y : Nat × (Nat → Nat)} (hz : zE N z y) : rE N (adp N (mkT (n, Tf)) (64 * ((n + 63) / 64)) 0 z) (adM N B y) := by
  rw [adp_list]
  exact adM_sub _ _ (lsT_all (by omega) h) z y hz
section
variable {F : Nat → Nat → Int32} {L : Nat → Nat → Int64} {w ne : Nat} {ef et ek ev : Nat → Nat} {tg : Nat → Nat → Option Nat}
theorem pa_sub (hw : w < 4) (hE : MeOK F L w ne ef et ek ev tg) {e : Nat} (he : e < ne) {t : Nat × (Nat → Nat → Bool)} {B : List (Nat → Bool)} (h : subE (2 ^ (3 * w)) (lsT t) B) : subE (2 ^ (3 * w)) (lsT (paE w ek ev tg e t)) (paM w ek ev tg e B) := by
  obtain ⟨-, -, ⟨-, hk3⟩, ⟨-, hv3⟩, hx⟩ := hE.2.2 e he
  have hcase : ek e = 0 ∨ ek e = 1 ∨ ek e = 2 := by omega
  unfold paM
  rcases hcase with hk | hk | hk
  · have e1 : lsT (paE w ek ev tg e t) = (lsT t).map id ++ [onS tg e] := by
      unfold paE lsT
      rw [if_pos hk]
      show (List.range (t.1 + 1)).map (upN t.2 t.1 (onS tg e)) = _
      rw [List.range_succ, List.map_append, List.map_id]
      congr 1
      · apply List.map_congr_left
        intro i hi
        exact upN_ne _ _ (by have := List.mem_range.mp hi; omega)
      · show [upN t.2 t.1 (onS tg e) t.1] = _
        rw [upN_at]
    rw [e1, if_pos hk]
    refine subE.snoc (fun _ _ => rfl) _ _ (subE.fm (fun a ha => ha) (fun a b hab => ?_) _ _ h)
    unfold prc
    rw [if_pos hk]
    exact hab
  · have e1 : lsT (paE w ek ev tg e t) = (lsT t).map (fun S q => S ((tg e q).getD 0)) := by
      unfold paE lsT
      rw [if_neg (by omega), if_pos hk, List.map_map]
      rfl
    rw [e1, if_neg (by omega), List.append_nil]
    have hlt : ∀ q, q < 2 ^ (3 * w) → (tg e q).getD 0 < 2 ^ (3 * w) := fun q hq => by
      obtain ⟨b1, b2, -, -⟩ := hx q hq
      obtain ⟨x, -, c2, -⟩ := b2 hk
      have := b1 _ c2
      rw [c2]
      exact this
    refine subE.fm (fun a ha q hq => ha _ (hlt q hq)) (fun a b hab => ?_) _ _ h
    unfold prc
    rw [if_neg (by omega), if_pos hk]
    intro q hq
    show a ((tg e q).getD 0) = prB w ek ev tg b e q
    rw [hab _ (hlt q hq)]
    symm
    obtain ⟨-, b2, -, -⟩ := hx q hq
    obtain ⟨x, -, c2, -⟩ := b2 hk
    have hst : ∀ y, stp w ek ev tg e q y = tg e q := fun y => by unfold stp; rw [if_neg (by omega)]
    have hch : chs w ek e = 1 := by unfold chs; rw [if_neg (by omega)]
    rw [c2]
    refine prB_eq ⟨?_, fun c1 => ⟨0, wr w q (ev e) x, by omega, by rw [hst, c2], c1⟩⟩
    rintro ⟨y, u, -, z2, z3⟩
    rw [hst, c2] at z2
    cases z2
    exact z3
  · have e1 : lsT (paE w ek ev tg e t) = (lsT t).map (fun S q => S q && hgB (2 ^ (3 * w)) S (fun z => wr w z (ev e) 0)) := by
      unfold paE lsT
      rw [if_neg (by omega), if_neg (by omega), List.map_map]
      rfl
    rw [e1, if_neg (by omega), List.append_nil]
    refine subE.fm (fun a ha q hq => by show (a q && _) = false; rw [ha q hq, Bool.false_and]) (fun a b hab => ?_) _ _ h
    have hh : hgB (2 ^ (3 * w)) a (fun z => wr w z (ev e) 0) = hgB (2 ^ (3 * w)) b (fun z => wr w z (ev e) 0) := by
      refine bool_iff ?_
      rw [hgB_iff, hgB_iff]
      constructor
      · intro g z hz
        rw [← hab z hz, ← hab _ (wr_lt' hw hv3 hz)]
        exact g z hz
      · intro g z hz
        rw [hab z hz, hab _ (wr_lt' hw hv3 hz)]
        exact g z hz
    unfold prc
    rw [if_neg (by omega), if_neg (by omega)]
    by_cases hb : hgB (2 ^ (3 * w)) b (fun z => wr w z (ev e) 0) = true
    · rw [if_pos hb]
      intro q hq
      show (a q && _) = b q
      rw [hh, hb, Bool.and_true]
      exact hab q hq
    · rw [if_neg hb]
      intro q hq
      show (a q && _) = false
      rw [hh, show hgB (2 ^ (3 * w)) b (fun z => wr w z (ev e) 0) = false by simpa using hb, Bool.and_false]
theorem rf_eq (hw : w < 4) (hE : MeOK F L w ne ef et ek ev tg) : ∀ (es : List Nat), (∀ e ∈ es, e < ne) → ∀ (t : Nat × (Nat → Nat → Bool)) (B : List (Nat → Bool)) (z y : Nat × (Nat → Nat)), subE (2 ^ (3 * w)) (lsT t) B → zE (2 ^ (3 * w)) z y → rE (2 ^ (3 * w)) (rfL w ek ev tg es t z) (rfM w ek ev tg es B y)
  | [], _, t, B, z, y, h, hz => ⟨rfl, hz⟩
  | e :: r, hes, t, B, z, y, h, hz => by
    have h2 := pa_sub hw hE (hes e (by simp)) h
    have h3 := adp_adM (n := (paE w ek ev tg e t).1) (Tf := (paE w ek ev tg e t).2) h2 hz
    have h3 : rE (2 ^ (3 * w)) (adp (2 ^ (3 * w)) (mkT (paE w ek ev tg e t)) (64 * (((paE w ek ev tg e t).1 + 63) / 64)) 0 z) (adM (2 ^ (3 * w)) (paM w ek ev tg e B) y) := h3
    rw [rfL, rfM, h3.1]
    by_cases e1 : (adM (2 ^ (3 * w)) (paM w ek ev tg e B) y).1 = true
    · rw [if_pos e1, if_pos e1]
      exact rf_eq hw hE r (fun x hx => hes x (by simp [hx])) _ _ _ _ h2 h3.2
    · rw [if_neg e1, if_neg e1]
      exact h3
theorem avb_zE {N : Nat} : ∀ (r j : Nat) (z y : Nat × (Nat → Nat)), zE N z y → rE N (avb N r j z) (avb N r j y)
  | 0, j, z, y, hz => ⟨rfl, hz⟩
  | r + 1, j, z, y, hz => by
    rw [avb, avb, splB_zE hz.2 (fun _ _ => rfl), hz.1]
    by_cases e : splB N y.2 (fun q => q.testBit j) = true
    · rw [if_pos e, if_pos e]
      by_cases e2 : y.1 = 12
      · rw [if_pos e2, if_pos e2]
        exact ⟨rfl, hz⟩
      · rw [if_neg e2, if_neg e2]
        have := exS_zE (S := fun q => q.testBit j) hz (fun _ _ => rfl)
        rw [hz.1] at this
        exact ⟨rfl, this⟩
    · rw [if_neg e, if_neg e]
      exact avb_zE r (j + 1) z y hz
/-- class and reference refine alike -/
theorem rn_eq (hw : w < 4) (hE : MeOK F L w ne ef et ek ev tg) {es : List Nat} (hes : ∀ e ∈ es, e < ne) {z y : Nat × (Nat → Nat)} (hz : zE (2 ^ (3 * w)) z y) : rE (2 ^ (3 * w)) (rfn w ek ev tg es z) (rnM w ek ev tg es y) := by
  have h := rf_eq hw hE es.reverse (fun e he => hes e (by simpa using he)) (0, fun _ _ => false) [] z y (subE.nil _) hz
  unfold rfn rnM
  rw [h.1, h.2.1, hz.1]
  by_cases e1 : (rfM w ek ev tg es.reverse [] y).1 = true
  · rw [if_pos e1, if_pos e1]
    by_cases e2 : y.1 < (rfM w ek ev tg es.reverse [] y).2.1
    · rw [if_pos e2, if_pos e2]; exact h
    · rw [if_neg e2, if_neg e2]
      exact avb_zE _ _ _ _ h.2
  · rw [if_neg e1, if_neg e1]
    exact h
end
