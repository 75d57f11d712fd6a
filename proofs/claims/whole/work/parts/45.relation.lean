section
variable {l : Launch} {D : va_G} {ca : Nat → ClassId} {ks : List Nat} {lay : Nat → gxE} {ad : Nat → Nat} {F : Nat → Nat → Int32} {L : Nat → Nat → Int64} {N n : Nat}
theorem nI_m1 {i : Nat} (h : i < 2 ^ 31) : ¬ (-1 : Int32) = nI i := fun q => by
  have h1 : nI 0 ≤ (-1 : Int32) := by rw [q]; exact (nI_leI (by decide) h).mpr (Nat.zero_le _)
  exact absurd h1 (by decide)
theorem sc_le {f : Nat → Int32} (hn : n ≤ 24) {b i : Nat} (h : sc n f 0 true b = some i) : i ≤ n := by
  have e := sc_term (f := f) hn (b, [])
  have e : sc n f 0 true b = _ := e
  rw [h] at e
  by_cases q : (ptTerm n f (ptPart n f 4) (b, [])).1 = true
  · rw [if_pos q] at e
    obtain ⟨-, -, -, h3, -⟩ := trm_ok hn (b, []) (Nat.zero_le _) q
    cases e
    exact h3
  · rw [if_neg q] at e
    cases e
/-- where the comparison of an atom stands -/
def rlA (n : Nat) (f : Nat → Int32) (b : Nat) : Option Nat := match sc n f 0 true b with
  | none => none
  | some i => if isCmp (lnAt n f i) = true then (if sc n f 0 true (i + 1) = some n then some i else none) else none
theorem c_Mo_relationAt (HX : gH ks lay N sM) (hn : n ≤ 24) (h5 : F 40 5 = nI n) {b : Nat} (hb : b ≤ 25) : Con l y_Mo_relationAt (Cond.code y_Mo_relationAt b_Mo_relationAt 3 (some .int) :: WT) rm_Mo_relationAt D vcl ca ks lay ad [xR 40, xI (nI b)] F L (fun r F' L' => r = some (xI (teI (rlA n (F 41) b))) ∧ F' = F ∧ L' = L) := by
  refine Con.ofK (fun post K => ?_)
  refine Con.of (ls := [(0, xR 40), (1, xI (nI b))]) (by decide) rfl rfl (Nat.le_of_ble_eq_true rfl) ?_
  intro p e s m args below meth c A X hr hA
  refine gx_aload_n X d_Mo_relationAt_0 rfl rfl ?_
  refine gx_iload_n X d_Mo_relationAt_1 rfl rfl ?_
  refine gx_callV X d_Mo_relationAt_2 mf_Mo_termEnd lk_Mo_102 (c_Mo_termEnd HX hn h5 hb) (HX _ rfl).1 (HX _ rfl).2 rfl rfl rfl (Nat.le_of_ble_eq_true rfl) ⟨by decide, by decide⟩ ⟨rfl, rfl⟩ ⟨Nat.zero_le _, Nat.zero_le _⟩ (fun r2 F2 L2 hp2 => ?_)
  obtain ⟨rfl, rfl, rfl⟩ := hp2
  cases hs : sc n (F2 41) 0 true b with
  | none =>
    have hr0 : rlA n (F2 41) b = none := by unfold rlA; rw [hs]
    rw [hr0] at K
    refine gx_istore_n X d_Mo_relationAt_5 rfl (by decide) ?_
    refine gx_iload_n X d_Mo_relationAt_6 rfl rfl ?_
    refine gx_if_lt X d_Mo_relationAt_7 (tgt := 21) (by decide) (fun h7 => ?_) (fun h7 => ?_)
    · refine gx_iconst X d_Mo_relationAt_21 (v := (-1)) (by decide) ?_
      refine gx_iret X hr hA d_Mo_relationAt_22 (K _ _ _ ⟨rfl, rfl, rfl⟩)
    · exact absurd (show (-1 : Int32) < 0 by decide) h7
  | some i =>
    have hi := sc_le hn hs
    have hr0 : rlA n (F2 41) b = if isCmp (lnAt n (F2 41) i) = true then (if sc n (F2 41) 0 true (i + 1) = some n then some i else none) else none := by unfold rlA; rw [hs]
    rw [hr0] at K
    refine gx_istore_n X d_Mo_relationAt_5 rfl (by decide) ?_
    refine gx_iload_n X d_Mo_relationAt_6 rfl rfl ?_
    refine gx_if_lt X d_Mo_relationAt_7 (tgt := 21) (by decide) (fun h7 => ?_) (fun h7 => ?_)
    · exact absurd ((nI_leI (a := 0) (b := i) (by decide) (by omega)).mpr (Nat.zero_le _)) (Int32.not_le.mpr h7)
    · refine gx_aload_n X d_Mo_relationAt_10 rfl rfl ?_
      refine gx_iload_n X d_Mo_relationAt_11 rfl (x := nI i) rfl ?_
      refine gx_callV X d_Mo_relationAt_12 mf_Mo_at lk_Mo_91 (c_Mo_at HX hn h5 (i := i) (by omega)) (HX _ rfl).1 (HX _ rfl).2 rfl rfl rfl (Nat.le_of_ble_eq_true rfl) ⟨by decide, by decide⟩ ⟨rfl, rfl⟩ ⟨Nat.zero_le _, Nat.zero_le _⟩ (fun r12 F12 L12 hp12 => ?_)
      obtain ⟨rfl, rfl, rfl⟩ := hp12
      refine gx_callS X d_Mo_relationAt_15 mf_Mo_isRelation lk_Mo_105 (c_Mo_isRelation (lnAt n (F12 41) i)) rfl rfl (Nat.le_of_ble_eq_true rfl) ⟨by decide, by decide⟩ ⟨rfl, rfl⟩ ⟨Nat.zero_le _, Nat.zero_le _⟩ (fun r15 F15 L15 hp15 => ?_)
      obtain ⟨rfl, rfl, rfl⟩ := hp15
      refine gx_if_ne X d_Mo_relationAt_18 (tgt := 23) (by decide) (fun h18 => ?_) (fun h18 => ?_)
      · rw [if_pos (cb_t h18)] at K
        refine gx_aload_n X d_Mo_relationAt_23 rfl rfl ?_
        refine gx_iload_n X d_Mo_relationAt_24 rfl (x := nI i) rfl ?_
        refine gx_iconst X d_Mo_relationAt_25 (v := nI 1) (by decide) ?_
        refine gx_iadd X d_Mo_relationAt_26 ?_
        refine gx_top (y := nI (i + 1)) (pu_inc i) ?_
        refine gx_callV X d_Mo_relationAt_27 mf_Mo_termEnd lk_Mo_102 (c_Mo_termEnd HX hn h5 (b := i + 1) (by omega)) (HX _ rfl).1 (HX _ rfl).2 rfl rfl rfl (Nat.le_of_ble_eq_true rfl) ⟨by decide, by decide⟩ ⟨rfl, rfl⟩ ⟨Nat.zero_le _, Nat.zero_le _⟩ (fun r27 F27 L27 hp27 => ?_)
        obtain ⟨rfl, rfl, rfl⟩ := hp27
        refine gx_aload_n X d_Mo_relationAt_30 rfl rfl ?_
        refine gx_geti X d_Mo_relationAt_31 (gci in_Mo) (HX _ rfl).1 (HX _ rfl).2 rfl 5 (by decide) (gcw X lk_Mo_88) (fun _ h => h) rfl ?_
        refine gx_top h5 ?_
        refine gx_icmp_ne X d_Mo_relationAt_34 (tgt := 41) (by decide) (fun h34 => ?_) (fun h34 => ?_)
        · rw [if_neg (fun q => h34 (by rw [q]; rfl))] at K
          refine gx_iconst X d_Mo_relationAt_41 (v := (-1)) (by decide) ?_
          refine gx_iret X hr hA d_Mo_relationAt_42 (K _ _ _ ⟨rfl, rfl, rfl⟩)
        · have hq : sc n (F27 41) 0 true (i + 1) = some n := by
            cases hs2 : sc n (F27 41) 0 true (i + 1) with
            | none => rw [hs2] at h34; exact absurd h34 (nI_m1 (by omega))
            | some j =>
              rw [hs2] at h34
              have := sc_le hn hs2
              rw [(nI_eq (a := j) (b := n) (by omega) (by omega)).mp h34]
          rw [if_pos hq] at K
          refine gx_iload_n X d_Mo_relationAt_37 rfl rfl ?_
          refine gx_goto X d_Mo_relationAt_38 (tgt := 42) (by decide) ?_
          refine gx_iret X hr hA d_Mo_relationAt_42 (K _ _ _ ⟨rfl, rfl, rfl⟩)
      · rw [if_neg (fun q => by rw [q] at h18; exact absurd h18 (by decide))] at K
        refine gx_iconst X d_Mo_relationAt_21 (v := (-1)) (by decide) ?_
        refine gx_iret X hr hA d_Mo_relationAt_22 (K _ _ _ ⟨rfl, rfl, rfl⟩)
end
