section
variable {l : Launch} {D : va_G} {ca : Nat → ClassId} {ks : List Nat} {lay : Nat → gxE} {ad : Nat → Nat} {F : Nat → Nat → Int32} {L : Nat → Nat → Int64} {w np : Nat} {sg : Nat → Nat} {ne : Nat} {ef et ek ev : Nat → Nat} {tg : Nat → Nat → Option Nat} {ns : List nd}
noncomputable def rchB (N w : Nat) (ek ev : Nat → Nat) (tg : Nat → Nat → Option Nat) (sg : Nat → Nat) (e p q : Nat) : Bool := @decide (∃ s y u, s < N ∧ sg s = p ∧ y < chs w ek e ∧ stp w ek ev tg e s y = some u ∧ sg u = q) (Classical.propDecidable _)
theorem rchB_iff {N w : Nat} {ek ev : Nat → Nat} {tg : Nat → Nat → Option Nat} {sg : Nat → Nat} {e p q : Nat} : rchB N w ek ev tg sg e p q = true ↔ ∃ s y u, s < N ∧ sg s = p ∧ y < chs w ek e ∧ stp w ek ev tg e s y = some u ∧ sg u = q := by
  unfold rchB
  exact @decide_eq_true_iff _ (Classical.propDecidable _)
/-- the way to the last node stands -/
def PtOK (F : Nat → Nat → Int32) (ns : List nd) : Prop := F 20 13 = nI (nAt ns (ns.length - 1)).2.2.2.2 ∧ ∀ i, i < (nAt ns (ns.length - 1)).2.2.2.2 → F 29 i = nI ((pthL ns (nAt ns (ns.length - 1)).2.2.2.2 (ns.length - 1)).getD i 0)
theorem sub_m1 (x : Int32) : x + Int32.ofInt (-1) = x - nI 1 := by
  rw [Int32.sub_eq_add_neg]
  congr 1
set_option maxHeartbeats 4000000 in
theorem c_Se_tracePath (HX : gH ks lay (2 ^ (3 * w)) sX) (hNs : NsOK (2 ^ (3 * w)) np sg ne ns) (hSe : SeOK F (2 ^ (3 * w)) sg ns) : Con l y_Se_tracePath (Cond.code y_Se_tracePath b_Se_tracePath 4 none :: WT) rm_Se_tracePath D vcl ca ks lay ad [xR 20, xI (nI (ns.length - 1))] F L (fun r F' L' => r = none ∧ L' = L ∧ (∀ a, a ≠ 20 → a ≠ 29 → F' a = F a) ∧ F' 20 3 = F 20 3 ∧ F' 20 12 = F 20 12 ∧ PtOK F' ns) := by
  obtain ⟨hl0, hl2, hl3⟩ := id hNs
  obtain ⟨s1, s2, s3⟩ := hSe
  have hdep := hNs.dep (ns.length - 1) (by omega)
  have e26 := (s2 (ns.length - 1) (by omega)).2.2.2.2.2
  unfold PtOK
  generalize hfull : pthL ns (nAt ns (ns.length - 1)).2.2.2.2 (ns.length - 1) = full
  have hflen : full.length = (nAt ns (ns.length - 1)).2.2.2.2 := by rw [← hfull]; exact pthL_len _ _ _
  generalize hdp : (nAt ns (ns.length - 1)).2.2.2.2 = dp at *
  refine Con.ofK (fun post K => ?_)
  refine Con.of (ls := [(0, xR 20), (1, xI (nI (ns.length - 1)))]) (by decide) rfl rfl (Nat.le_of_ble_eq_true rfl) ?_
  intro p e s m args below meth c A X hr hA
  refine gx_aload_n X d_Se_tracePath_0 rfl rfl ?_
  refine gx_aload_n X d_Se_tracePath_1 rfl rfl ?_
  refine gx_getr X d_Se_tracePath_2 (gci in_Se) (HX _ rfl).1 (HX _ rfl).2 rfl 9 (by decide) (gcw X lk_Se_31) (fun _ h => h) rfl ?_
  refine gx_iload_n X d_Se_tracePath_5 rfl rfl ?_
  refine gx_iald X d_Se_tracePath_6 (HX _ rfl).1 (HX _ rfl).2 rfl (by omega) (by omega) ?_
  refine gx_top e26 ?_
  refine gx_puti X d_Se_tracePath_7 (gci in_Se) (HX _ rfl).1 (HX _ rfl).2 rfl 13 (by decide) (gcw X lk_Se_38) (fun _ h => h) t_Se ty_Se nm_Se rfl (ty_Se 13 (by decide)) rfl rfl rfl ?_
  refine gx_iload_n X d_Se_tracePath_10 rfl rfl ?_
  refine gx_istore_n X d_Se_tracePath_11 rfl (by decide) ?_
  refine gx_aload_n X d_Se_tracePath_12 rfl rfl ?_
  refine gx_geti X d_Se_tracePath_13 (gci in_Se) (HX _ rfl).1 (HX _ rfl).2 rfl 13 (by decide) (gcw X lk_Se_38) (fun _ h => h) rfl ?_
  refine gx_top gxu_at ?_
  refine gx_iconst X d_Se_tracePath_16 (v := nI 1) (by decide) ?_
  refine gx_isub X d_Se_tracePath_17 ?_
  refine gx_istore_n X d_Se_tracePath_18 rfl (by decide) ?_
  have loop : ∀ (rm0 kp : Nat) (suf : List Nat) (G : Nat → Nat → Int32), kp < ns.length → (nAt ns kp).2.2.2.2 = rm0 → rm0 ≤ dp → full = pthL ns rm0 kp ++ suf → (∀ a, a ≠ 20 → a ≠ 29 → G a = F a) → G 20 3 = F 20 3 → G 20 12 = F 20 12 → G 20 13 = nI dp → (∀ i, rm0 ≤ i → i < dp → G 29 i = nI (full.getD i 0)) → GX p l e rm_Se_tracePath s m args below meth c (MQ below (gxQ D vcl ca ks lay ad s.heap.size post) args s 0 0 (gxA ks ad s.heap.size)) 4 A D vcl ca ks lay ad 0 0 19 [(3, xI (nI rm0 - nI 1)), (2, xI (nI kp)), (0, xR 20)] [] G L := by
    intro rm0
    induction rm0 with
    | zero =>
      intro kp suf G h1 h2 h3 h4 h5 h6 h7 h8 h9
      refine gx_iload_n X d_Se_tracePath_19 rfl rfl ?_
      refine gx_if_lt X d_Se_tracePath_20 (tgt := 48) (by decide) (fun h20 => ?_) (fun h20 => ?_)
      · refine gx_vret X hr hA d_Se_tracePath_48 (K _ _ _ ⟨rfl, rfl, h5, h6, h7, h8, fun i hi => h9 i (by omega) hi⟩)
      · exact absurd (show nI 0 - nI 1 < 0 by decide) h20
    | succ rm0 ih =>
      intro kp suf G h1 h2 h3 h4 h5 h6 h7 h8 h9
      have hk0 : kp ≠ 0 := fun z => by
        have := (hl3 kp h1).2.2.1 z
        omega
      obtain ⟨d1, d2, d3⟩ := (hl3 kp h1).2.2.2 (by omega)
      obtain ⟨-, -, t3, t4, -, -⟩ := s2 kp h1
      rw [if_neg hk0] at t3 t4
      have hp : pthL ns (rm0 + 1) kp = pthL ns rm0 (nAt ns kp).2.2.1 ++ [(nAt ns kp).2.2.2.1] := rfl
      have hsub : nI (rm0 + 1) - nI 1 = nI rm0 := by rw [pk_sub (by omega)]; rfl
      have hget : full.getD rm0 0 = (nAt ns kp).2.2.2.1 := by
        rw [h4, hp, List.append_assoc, List.getD_eq_getElem?_getD, List.getElem?_append_right (by rw [pthL_len]; omega), pthL_len, Nat.sub_self]
        rfl
      refine gx_iload_n X d_Se_tracePath_19 rfl rfl ?_
      refine gx_if_lt X d_Se_tracePath_20 (tgt := 48) (by decide) (fun h20 => ?_) (fun h20 => ?_)
      · rw [hsub] at h20
        exact absurd h20 (nI_pos (by omega))
      · refine gx_aload_n X d_Se_tracePath_23 rfl rfl ?_
        refine gx_getr X d_Se_tracePath_24 (gci in_Se) (HX _ rfl).1 (HX _ rfl).2 rfl 14 (by decide) (gcw X lk_Se_41) (fun _ h => h) rfl ?_
        refine gx_iload_n X d_Se_tracePath_27 rfl rfl ?_
        refine gx_aload_n X d_Se_tracePath_28 rfl rfl ?_
        refine gx_getr X d_Se_tracePath_29 (gci in_Se) (HX _ rfl).1 (HX _ rfl).2 rfl 7 (by decide) (gcw X lk_Se_25) (fun _ h => h) rfl ?_
        refine gx_iload_n X d_Se_tracePath_32 rfl rfl ?_
        refine gx_iald X d_Se_tracePath_33 (HX _ rfl).1 (HX _ rfl).2 rfl (by omega) (by decide) ?_
        refine gx_top (y := nI (nAt ns kp).2.2.2.1) (by rw [h5 24 (by decide) (by decide)]; exact t4) ?_
        refine gx_iast X d_Se_tracePath_34 (HX _ rfl).1 (HX _ rfl).2 hsub (by omega) (by decide) ?_
        refine gx_aload_n X d_Se_tracePath_35 rfl rfl ?_
        refine gx_getr X d_Se_tracePath_36 (gci in_Se) (HX _ rfl).1 (HX _ rfl).2 rfl 6 (by decide) (gcw X lk_Se_22) (fun _ h => h) rfl ?_
        refine gx_iload_n X d_Se_tracePath_39 rfl rfl ?_
        refine gx_iald X d_Se_tracePath_40 (HX _ rfl).1 (HX _ rfl).2 rfl (by omega) (by omega) ?_
        refine gx_top (y := nI (nAt ns kp).2.2.1) (by rw [gxu_cell (by decide), h5 23 (by decide) (by decide)]; exact t3) ?_
        refine gx_istore_n X d_Se_tracePath_41 rfl (by decide) ?_
        refine gx_iinc X d_Se_tracePath_42 rfl (v := nI rm0 - nI 1) (by rw [hsub]; exact sub_m1 _) ?_
        refine gx_goto X d_Se_tracePath_45 (tgt := 19) (by decide) ?_
        refine gx_el (ih (nAt ns kp).2.2.1 ((nAt ns kp).2.2.2.1 :: suf) _ (by omega) (by omega) (by omega) (by rw [h4, hp]; simp) (fun a a1 a2 => by rw [gxu_cell a2]; exact h5 a a1 a2) (by rw [gxu_cell (by decide)]; exact h6) (by rw [gxu_cell (by decide)]; exact h7) (by rw [gxu_cell (by decide)]; exact h8) (fun i hi1 hi2 => ?_)) ⟨rfl, rfl, rfl, trivial⟩
        by_cases e : i = rm0
        · rw [e, gxu_at, hget]
        · rw [gxu_ne (fun z => e z.2), h9 i (by omega) hi2]
  refine gx_el (loop dp (ns.length - 1) [] _ (by omega) hdp (Nat.le_refl _) (by rw [← hfull]; simp) (fun a a1 _ => gxu_cell a1) (gxu_ne (by decide)) (gxu_ne (by decide)) gxu_at (fun i h1 h2 => absurd h1 (by omega))) ⟨rfl, rfl, rfl, trivial⟩
theorem sprP_ext {R : Nat → Bool} {to k e dp : Nat} : ∀ (r p : Nat) (ns : List nd), ns.length ≤ (sprP R to k e dp r p ns).1.length ∧ (∀ j, j < ns.length → nAt (sprP R to k e dp r p ns).1 j = nAt ns j) ∧ (sprP R to k e dp r p ns).2 ≤ 2
  | 0, p, ns => ⟨Nat.le_refl _, fun _ _ => rfl, by simp [sprP]⟩
  | r + 1, p, ns => by
    unfold sprP
    split
    · split
      · exact ⟨Nat.le_refl _, fun _ _ => rfl, by simp⟩
      · split
        · exact ⟨by simp, fun j hj => nAt_old hj, by simp⟩
        · have ih := sprP_ext (R := R) (to := to) (k := k) (e := e) (dp := dp) r (p + 1) (ns ++ [(to, p, k, e, dp + 1)])
          refine ⟨by have := ih.1; simp at this; omega, fun j hj => ?_, ih.2.2⟩
          rw [ih.2.1 j (by simp; omega), nAt_old hj]
    · exact sprP_ext r (p + 1) ns
end
