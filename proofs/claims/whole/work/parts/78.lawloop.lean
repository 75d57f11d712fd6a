/-! the law's loop (own text, printed by gen_loop.py) -/
section LWL
variable {p : Program} {l : Launch} {e : Env} {s : State} {m : MethodId} {args : Array Value} {below : List Frame} {meth : Method} {c : Code} {Q : State → Prop} {cells slots : Nat} {A : Nat → Prop} {D : va_G} {ca : Nat → ClassId} {ks : List Nat} {lay : Nat → gxE} {ad : Nat → Nat}
variable {F : Nat → Nat → Int32} {L : Nat → Nat → Int64} {c0 : Cond} {w n i0 : Nat} {xs : Nat → Int32} {z : kS}
theorem in17 {x : Int32} (h : ¬ (x.toInt < 0 ∨ 16 < x.toInt)) : ∃ k, k < 17 ∧ x = nI k := by
  have h0 : ¬ x < 0 := fun q => by
    rw [Int32.lt_iff_toInt_lt] at q
    have : (0 : Int32).toInt = 0 := by decide
    omega
  obtain ⟨k, hk, rfl⟩ := nI_of h0
  have := nI_toInt hk
  exact ⟨k, by omega, rfl⟩
theorem sub4 {n i : Nat} (hn : n < 2 ^ 31) (hi : i < 2 ^ 31) (h : ¬ nI n - nI 4 < nI i) : i + 4 ≤ n := by
  have h1 := Int32.not_lt.mp h
  rw [Int32.le_iff_toInt_le, nI_toInt hi] at h1
  have e : (nI n - nI 4).toInt = (n : Int) - 4 := by
    rw [Int32.toInt_sub, nI_toInt hn, nI_toInt (n := 4) (by decide)]
    exact Int.bmod_eq_of_le (by omega) (by omega)
  rw [e] at h1
  omega
set_option maxHeartbeats 4000000 in
theorem lw_switch (C : LwC l p s m args meth c c0 A D ca ks lay ad w n xs) (hI : LI w F L z) (hi : i0 + 3 < n) (hc : cells + 1 ≤ room_1.cells ∧ slots + 6 ≤ room_1.slots) (K : ∀ F' L' z', LI w F' L' z' → GX p l e room_1 s m args below meth c Q 7 A D vcl ca ks lay ad (cells + 1) (slots + 6) 781 [(4, xI (nI i0)), (3, xR 60), (2, xR 40), (1, xR 0), (0, xR 61)] [] F' L') : GX p l e room_1 s m args below meth c Q 7 A D vcl ca ks lay ad cells slots 42 [(4, xI (nI i0)), (3, xR 60), (2, xR 40), (1, xR 0), (0, xR 61)] [] F L := by
  obtain ⟨X, hT, hst, HX, HM, H6, hnd, hf, hV, hb, hbA, hn⟩ := id C
  refine gx_aload_n X d_Lw_law_42 rfl rfl ?_
  refine gx_iload X d_Lw_law_43 rfl ?_
  refine gx_sld X hV hb hbA d_Lw_law_45 rfl (by omega) hn ?_
  refine gx_bipush X d_Lw_law_46 (v := nI 31) (by decide) ?_
  refine gx_iand X d_Lw_law_48 ?_
  by_cases hx : (xs i0 &&& nI 31).toInt < 0 ∨ 16 < (xs i0 &&& nI 31).toInt
  · exact gx_tableOut X d_Lw_law_49 (tgt := 781) hx (by decide) (gx_wd (Nat.le_succ _) (Nat.le_add_right _ _) (K _ _ _ hI))
  · obtain ⟨k, hk, ek⟩ := in17 hx
    rw [ek]
    match k, hk with
    | 0, _ => exact gx_tableIn X d_Lw_law_49 (off := 83) (tgt := 132) (by decide) (by decide) (by decide) (by decide) (lw_type C hI hi hc K)
    | 1, _ => exact gx_tableIn X d_Lw_law_49 (off := 110) (tgt := 159) (by decide) (by decide) (by decide) (by decide) (lw_wipe C hI hi hc K)
    | 2, _ => exact gx_tableIn X d_Lw_law_49 (off := 121) (tgt := 170) (by decide) (by decide) (by decide) (by decide) (lw_edge C hI hi hc K)
    | 3, _ => exact gx_tableIn X d_Lw_law_49 (off := 165) (tgt := 214) (by decide) (by decide) (by decide) (by decide) (lw_predicate C hI hi hc K)
    | 4, _ => exact gx_tableIn X d_Lw_law_49 (off := 209) (tgt := 258) (by decide) (by decide) (by decide) (by decide) (lw_clear C hI hi hc K)
    | 5, _ => exact gx_tableIn X d_Lw_law_49 (off := 220) (tgt := 269) (by decide) (by decide) (by decide) (by decide) (lw_prove C hI hi hc K)
    | 6, _ => exact gx_tableIn X d_Lw_law_49 (off := 276) (tgt := 325) (by decide) (by decide) (by decide) (by decide) (lw_outcome C hI hi hc K)
    | 7, _ => exact gx_tableIn X d_Lw_law_49 (off := 289) (tgt := 338) (by decide) (by decide) (by decide) (by decide) (lw_edges C hI hi hc K)
    | 8, _ => exact gx_tableIn X d_Lw_law_49 (off := 302) (tgt := 351) (by decide) (by decide) (by decide) (by decide) (lw_predicates C hI hi hc K)
    | 9, _ => exact gx_tableIn X d_Lw_law_49 (off := 315) (tgt := 364) (by decide) (by decide) (by decide) (by decide) (lw_holds C hI hi hc K)
    | 10, _ => exact gx_tableIn X d_Lw_law_49 (off := 390) (tgt := 439) (by decide) (by decide) (by decide) (by decide) (lw_signature C hI hi hc K)
    | 11, _ => exact gx_tableIn X d_Lw_law_49 (off := 446) (tgt := 495) (by decide) (by decide) (by decide) (by decide) (lw_follow C hI hi hc K)
    | 12, _ => exact gx_tableIn X d_Lw_law_49 (off := 526) (tgt := 575) (by decide) (by decide) (by decide) (by decide) (lw_nodes C hI hi hc K)
    | 13, _ => exact gx_tableIn X d_Lw_law_49 (off := 539) (tgt := 588) (by decide) (by decide) (by decide) (by decide) (lw_node C hI hi hc K)
    | 14, _ => exact gx_tableIn X d_Lw_law_49 (off := 607) (tgt := 656) (by decide) (by decide) (by decide) (by decide) (lw_length C hI hi hc K)
    | 15, _ => exact gx_tableIn X d_Lw_law_49 (off := 620) (tgt := 669) (by decide) (by decide) (by decide) (by decide) (lw_path C hI hi hc K)
    | 16, _ => exact gx_tableIn X d_Lw_law_49 (off := 676) (tgt := 725) (by decide) (by decide) (by decide) (by decide) (lw_input C hI hi hc K)
    | k + 17, hk => exact absurd hk (by omega)
set_option maxHeartbeats 4000000 in
theorem lw_loop (C : LwC l p s m args meth c c0 A D ca ks lay ad w n xs) {c1 s1 : Nat} (hroom : c1 + 600 ≤ room_1.cells ∧ s1 + 3600 ≤ room_1.slots) (E : ∀ (cells slots : Nat) (ls : List (Nat × xV)) (F' : Nat → Nat → Int32) (L' : Nat → Nat → Int64), cells ≤ room_1.cells → slots ≤ room_1.slots → GX p l e room_1 s m args below meth c Q 7 A D vcl ca ks lay ad cells slots 787 ls [] F' L') :
    ∀ (d j : Nat) (F : Nat → Nat → Int32) (L : Nat → Nat → Int64) (z : kS), n < 4 * (j + d) + 5 → j + d ≤ 513 → LI w F L z → GX p l e room_1 s m args below meth c Q 7 A D vcl ca ks lay ad (c1 + j) (s1 + 6 * j) 33 [(4, xI (nI (4 * j + 1))), (3, xR 60), (2, xR 40), (1, xR 0), (0, xR 61)] [] F L := by
  obtain ⟨X, hT, hst, HX, HM, H6, hnd, hf, hV, hb, hbA, hn⟩ := id C
  intro d
  induction d with
  | zero =>
    intro j F L z h1 h2 hI
    refine gx_iload X d_Lw_law_33 rfl ?_
    refine gx_aload_n X d_Lw_law_35 rfl rfl ?_
    refine gx_slen X hV hb hbA d_Lw_law_36 ?_
    refine gx_iconst X d_Lw_law_37 (v := nI 4) (by decide) ?_
    refine gx_isub X d_Lw_law_38 ?_
    refine gx_icmp_gt X d_Lw_law_39 (tgt := 787) (by decide) (fun h39 => ?_) (fun h39 => ?_)
    · exact E _ _ _ _ _ (by omega) (by omega)
    · have := sub4 hn (by omega) h39
      omega
  | succ d ih =>
    intro j F L z h1 h2 hI
    refine gx_iload X d_Lw_law_33 rfl ?_
    refine gx_aload_n X d_Lw_law_35 rfl rfl ?_
    refine gx_slen X hV hb hbA d_Lw_law_36 ?_
    refine gx_iconst X d_Lw_law_37 (v := nI 4) (by decide) ?_
    refine gx_isub X d_Lw_law_38 ?_
    refine gx_icmp_gt X d_Lw_law_39 (tgt := 787) (by decide) (fun h39 => ?_) (fun h39 => ?_)
    · exact E _ _ _ _ _ (by omega) (by omega)
    · have h4 := sub4 hn (by omega) h39
      refine lw_switch C hI (by omega) ⟨by omega, by omega⟩ (fun F' L' z' hI' => ?_)
      refine gx_iinc X d_Lw_law_781 rfl (v := nI (4 * (j + 1) + 1)) (nI_add (4 * j + 1) 4) ?_
      refine gx_goto X d_Lw_law_784 (tgt := 33) (by decide) ?_
      exact gx_el (ih (j + 1) F' L' z' (by omega) (by omega) hI') ⟨rfl, rfl, rfl, rfl, rfl, trivial⟩
end LWL
