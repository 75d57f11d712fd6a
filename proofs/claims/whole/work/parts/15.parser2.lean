section
variable {l : Launch} {D : va_G} {ca : Nat → ClassId} {ks : List Nat} {lay : Nat → gxE} {ad : Nat → Nat} {F : Nat → Nat → Int32} {L : Nat → Nat → Int64} {N n : Nat} {ln : Nat → Int32}
theorem isOp_nI {ch : Int32} (h : isOp ch = true) : ∃ k, 38 ≤ k ∧ k ≤ 94 ∧ ch = nI k := by
  simp only [isOp, Bool.or_eq_true, decide_eq_true_eq] at h
  rcases h with (((h | h) | h) | h) | h <;> exact ⟨_, by decide, by decide, h⟩
theorem isCmp_nI {ch : Int32} (h : isCmp ch = true) : ∃ k, 35 ≤ k ∧ k ≤ 94 ∧ ch = nI k := by
  simp only [isCmp, Bool.or_eq_true, decide_eq_true_eq] at h
  rcases h with (h | h) | h <;> exact ⟨_, by decide, by decide, h⟩
theorem ln_nI {n : Nat} {f : Nat → Int32} {i k : Nat} (h : lnAt n f i = nI k) (hk : 0 < k) (h2 : k < 2 ^ 31) : i < n := ln_lt (f := f) (by rw [h]; exact fun z => nI_ne0 hk h2 z)
set_option maxHeartbeats 4000000 in
theorem term_ok (HX : gH ks lay N sX) {d : Nat} (hd : d ≤ 4) (hP : CP l D ca ks lay ad n ln d) : CT l D ca ks lay ad n ln d := by
  intro F L q hq
  have hn : n ≤ 24 := hq.1.1
  refine Con.ofK (fun post K => ?_)
  refine Con.of (ls := [(0, xR 7), (1, xI (nI (4 - d)))]) (by decide) rfl rfl (Nat.le_of_ble_eq_true rfl) ?_
  intro p e s m args below meth c A X hr hA
  refine gx_aload_n X d_Pa_passTerm_0 rfl rfl ?_
  refine gx_iload_n X d_Pa_passTerm_1 rfl rfl ?_
  refine gx_callV X d_Pa_passTerm_2 mf_Pa_passPart lk_Pa_58 (hP F L q hq) (HX _ rfl).1 (HX _ rfl).2 rfl rfl rfl (Nat.le_of_ble_eq_true rfl) ⟨by simp <;> omega, by simp <;> omega⟩ ⟨rfl, rfl⟩ ⟨Nat.zero_le _, Nat.zero_le _⟩ (fun r2 F2 L2 hp2 => ?_)
  obtain ⟨rfl, rfl, g1, g2⟩ := hp2
  refine gx_if_ne X d_Pa_passTerm_5 (tgt := 10) (by decide) (fun h5 => ?_) (fun h5 => ?_)
  · have ht := cb_t h5
    have hterm : ptTerm n ln (ptPart n ln d) q = ptLoop n ln (ptPart n ln d) 24 (ptPart n ln d q).2 := by
      unfold ptTerm
      rw [if_pos ht]
    have loop : ∀ (k i : Nat) (z : pS) (G : Nat → Nat → Int32), i + k = 24 → PaOK G n ln z → (∀ a, a ≠ 4 → a ≠ 5 → a ≠ 7 → G a = F a) → ptTerm n ln (ptPart n ln d) q = ptLoop n ln (ptPart n ln d) k z → GX p l e (rmT d) s m args below meth c (MQ below (gxQ D vcl ca ks lay ad s.heap.size post) args s 0 0 (gxA ks ad s.heap.size)) 4 A D vcl ca ks lay ad 0 0 12 [(2, xI (nI i)), (0, xR 7), (1, xI (nI (4 - d)))] [] G L2 := by
      intro k
      induction k with
      | zero =>
        intro i z G hi hz hG hres
        refine gx_iload_n X d_Pa_passTerm_12 rfl rfl ?_
        refine gx_bipush X d_Pa_passTerm_13 (v := nI 24) (by decide) ?_
        refine gx_icmp_ge X d_Pa_passTerm_15 (tgt := 81) (by decide) (fun h15 => ?_) (fun h15 => ?_)
        · refine gx_iconst X d_Pa_passTerm_81 (v := nI 1) (by decide) ?_
          refine gx_zret X hr (by first | rfl | decide) hA d_Pa_passTerm_82 (K _ _ _ ⟨by rw [hres]; rfl, rfl, by rw [hres]; exact hz, hG⟩)
        · exact absurd ((nI_leI (by decide) (by omega)).mpr (by omega)) h15
      | succ k ih =>
        intro i z G hi hz hG hres
        obtain ⟨z1, z2, z3, z4, z5⟩ := id hz
        refine gx_iload_n X d_Pa_passTerm_12 rfl rfl ?_
        refine gx_bipush X d_Pa_passTerm_13 (v := nI 24) (by decide) ?_
        refine gx_icmp_ge X d_Pa_passTerm_15 (tgt := 81) (by decide) (fun h15 => ?_) (fun h15 => ?_)
        · exact absurd ((nI_leI (by decide) (by omega)).mp h15) (by omega)
        · refine gx_aload_n X d_Pa_passTerm_18 rfl rfl ?_
          refine gx_getr X d_Pa_passTerm_19 (gci in_Pa) (HX _ rfl).1 (HX _ rfl).2 rfl 0 (by decide) (gcw X lk_Pa_15) (fun _ h => h) rfl ?_
          refine gx_aload_n X d_Pa_passTerm_22 rfl rfl ?_
          refine gx_geti X d_Pa_passTerm_23 (gci in_Pa) (HX _ rfl).1 (HX _ rfl).2 rfl 2 (by decide) (gcw X lk_Pa_9) (fun _ h => h) rfl ?_
          refine gx_top z3 ?_
          refine gx_callV X d_Pa_passTerm_26 mf_Li_at lk_Pa_23 (c_Li_at HX z1 (j := z.1) (by omega)) (HX _ rfl).1 (HX _ rfl).2 rfl rfl rfl (Nat.le_of_ble_eq_true rfl) ⟨by simp <;> omega, by simp <;> omega⟩ ⟨rfl, rfl⟩ ⟨Nat.zero_le _, Nat.zero_le _⟩ (fun r26 F26 L26 hp26 => ?_)
          obtain ⟨rfl, rfl, rfl⟩ := hp26
          rw [z2]
          refine gx_callS X d_Pa_passTerm_29 mf_Pa_isOperator lk_Pa_61 (c_Pa_isOperator (lnAt n ln z.1)) rfl rfl (Nat.le_of_ble_eq_true rfl) ⟨by simp <;> omega, by simp <;> omega⟩ ⟨rfl, rfl⟩ ⟨Nat.zero_le _, Nat.zero_le _⟩ (fun r29 F29 L29 hp29 => ?_)
          obtain ⟨rfl, rfl, rfl⟩ := hp29
          refine gx_if_eq X d_Pa_passTerm_32 (tgt := 81) (by decide) (fun h32 => ?_) (fun h32 => ?_)
          · have ho := cb_f h32
            have hres2 : ptLoop n ln (ptPart n ln d) (k + 1) z = (true, z) := by rw [ptLoop, if_neg (by rw [ho]; decide)]
            rw [hres2] at hres
            refine gx_iconst X d_Pa_passTerm_81 (v := nI 1) (by decide) ?_
            refine gx_zret X hr (by first | rfl | decide) hA d_Pa_passTerm_82 (K _ _ _ ⟨by rw [hres]; rfl, rfl, by rw [hres]; exact hz, hG⟩)
          · have ho := cb_t h32
            obtain ⟨c1, hc1, hc2, hc3⟩ := isOp_nI ho
            have hlt : z.1 < n := ln_nI hc3 (by omega) (by omega)
            rw [ptLoop, if_pos ho] at hres
            refine gx_aload_n X d_Pa_passTerm_35 rfl rfl ?_
            refine gx_getr X d_Pa_passTerm_36 (gci in_Pa) (HX _ rfl).1 (HX _ rfl).2 rfl 0 (by decide) (gcw X lk_Pa_15) (fun _ h => h) rfl ?_
            refine gx_aload_n X d_Pa_passTerm_39 rfl rfl ?_
            refine gx_geti X d_Pa_passTerm_40 (gci in_Pa) (HX _ rfl).1 (HX _ rfl).2 rfl 2 (by decide) (gcw X lk_Pa_9) (fun _ h => h) rfl ?_
            refine gx_top z3 ?_
            refine gx_callV X d_Pa_passTerm_43 mf_Li_at lk_Pa_23 (c_Li_at HX z1 (j := z.1) (by omega)) (HX _ rfl).1 (HX _ rfl).2 rfl rfl rfl (Nat.le_of_ble_eq_true rfl) ⟨by simp <;> omega, by simp <;> omega⟩ ⟨rfl, rfl⟩ ⟨Nat.zero_le _, Nat.zero_le _⟩ (fun r43 F43 L43 hp43 => ?_)
            obtain ⟨rfl, rfl, rfl⟩ := hp43
            rw [z2]
            refine gx_istore_n X d_Pa_passTerm_46 rfl (by decide) ?_
            refine gx_aload_n X d_Pa_passTerm_47 rfl rfl ?_
            refine gx_dup X d_Pa_passTerm_48 rfl ?_
            refine gx_geti X d_Pa_passTerm_49 (gci in_Pa) (HX _ rfl).1 (HX _ rfl).2 rfl 2 (by decide) (gcw X lk_Pa_9) (fun _ h => h) rfl ?_
            refine gx_top z3 ?_
            refine gx_iconst X d_Pa_passTerm_52 (v := nI 1) (by decide) ?_
            refine gx_iadd X d_Pa_passTerm_53 ?_
            refine gx_top (nI_add z.1 1) ?_
            refine gx_puti X d_Pa_passTerm_54 (gci in_Pa) (HX _ rfl).1 (HX _ rfl).2 rfl 2 (by decide) (gcw X lk_Pa_9) (fun _ h => h) t_Pa ty_Pa nm_Pa rfl (ty_Pa 2 (by decide)) rfl rfl rfl ?_
            refine gx_aload_n X d_Pa_passTerm_57 rfl rfl ?_
            refine gx_iload_n X d_Pa_passTerm_58 rfl rfl ?_
            refine gx_callV X d_Pa_passTerm_59 mf_Pa_passPart lk_Pa_58 (hP _ _ (z.1 + 1, z.2) (hz.step (by omega))) (HX _ rfl).1 (HX _ rfl).2 rfl rfl rfl (Nat.le_of_ble_eq_true rfl) ⟨by simp <;> omega, by simp <;> omega⟩ ⟨rfl, rfl⟩ ⟨Nat.zero_le _, Nat.zero_le _⟩ (fun r59 F59 L59 hp59 => ?_)
            obtain ⟨rfl, rfl, f1, f2⟩ := hp59
            have hG2 : ∀ a, a ≠ 4 → a ≠ 5 → a ≠ 7 → F59 a = F a := fun a a4 a5 a7 => by rw [f2 a a4 a5 a7, gxu_cell a7]; exact hG a a4 a5 a7
            generalize hr2 : ptPart n ln d (z.1 + 1, z.2) = t at f1 hres
            refine gx_if_ne X d_Pa_passTerm_62 (tgt := 67) (by decide) (fun h62 => ?_) (fun h62 => ?_)
            · have ht2 := cb_t h62
              rw [if_pos ht2] at hres
              refine gx_aload_n X d_Pa_passTerm_67 rfl rfl ?_
              refine gx_getr X d_Pa_passTerm_68 (gci in_Pa) (HX _ rfl).1 (HX _ rfl).2 rfl 1 (by decide) (gcw X lk_Pa_19) (fun _ h => h) rfl ?_
              obtain ⟨k1, k2, k3, k4, k5⟩ := id f1
              refine gx_iload_n X d_Pa_passTerm_71 rfl rfl ?_
              refine gx_top hc3 ?_
              refine gx_callV X d_Pa_passTerm_72 mf_Fo_add lk_Pa_54 (c_Fo_add HX k5 (q := c1) (by omega)) (HX _ rfl).1 (HX _ rfl).2 rfl rfl rfl (Nat.le_of_ble_eq_true rfl) ⟨by simp <;> omega, by simp <;> omega⟩ ⟨rfl, rfl⟩ ⟨Nat.zero_le _, Nat.zero_le _⟩ (fun r72 F72 L72 hp72 => ?_)
              obtain ⟨rfl, rfl, m1, m2⟩ := hp72
              refine gx_iinc X d_Pa_passTerm_75 rfl (pu_inc _) ?_
              refine gx_goto X d_Pa_passTerm_78 (tgt := 12) (by decide) ?_
              rw [hc3] at hres
              refine gx_el (ih (i + 1) (t.2.1, addC (nI c1) t.2.2) F72 (by omega) ⟨k1.of (m2 2 (by decide) (by decide)) (m2 3 (by decide) (by decide)), by rw [m2 3 (by decide) (by decide)]; exact k2, by rw [m2 7 (by decide) (by decide)]; exact k3, k4, m1⟩ (fun a a4 a5 a7 => by rw [m2 a a4 a5]; exact hG2 a a4 a5 a7) hres) ⟨rfl, rfl, rfl, trivial⟩
            · have ht2 := cb_f h62
              rw [if_neg (by rw [ht2]; decide)] at hres
              refine gx_iconst X d_Pa_passTerm_65 (v := nI 0) (by decide) ?_
              refine gx_zret X hr (by first | rfl | decide) hA d_Pa_passTerm_66 (K _ _ _ ⟨by rw [hres]; rfl, rfl, by rw [hres]; exact f1, hG2⟩)
    refine gx_iconst X d_Pa_passTerm_10 (v := nI 0) (by decide) ?_
    refine gx_istore_n X d_Pa_passTerm_11 rfl (by decide) ?_
    exact gx_el (loop 24 0 _ F2 (by omega) g1 g2 hterm) ⟨rfl, rfl, rfl, trivial⟩
  · have ht := cb_f h5
    have hterm : ptTerm n ln (ptPart n ln d) q = (false, (ptPart n ln d q).2) := by
      unfold ptTerm
      rw [if_neg (by rw [ht]; decide)]
    refine gx_iconst X d_Pa_passTerm_8 (v := nI 0) (by decide) ?_
    refine gx_zret X hr (by first | rfl | decide) hA d_Pa_passTerm_9 (K _ _ _ ⟨by rw [hterm]; rfl, rfl, by rw [hterm]; exact g1, g2⟩)
theorem all_ok (HX : gH ks lay N sX) : ∀ d, d ≤ 4 → CP l D ca ks lay ad n ln d ∧ CT l D ca ks lay ad n ln d
  | 0, h => by
    have hp : CP l D ca ks lay ad n ln 0 := part_ok HX (by omega) (fun d' e => by omega)
    exact ⟨hp, term_ok HX (by omega) hp⟩
  | d + 1, h => by
    have ih := all_ok HX d (by omega)
    have hp : CP l D ca ks lay ad n ln (d + 1) := part_ok HX h (fun d' e => by
      have : d' = d := by omega
      rw [this]
      exact ih.2)
    exact ⟨hp, term_ok HX h hp⟩
theorem c_Pa_passTerm (HX : gH ks lay N sX) {q : pS} (hq : PaOK F n ln q) : Con l y_Pa_passTerm (Cond.code y_Pa_passTerm b_Pa_passTerm 4 (some .boolean) :: WT) (rmT 4) D vcl ca ks lay ad [xR 7, xI (nI 0)] F L (fun r F' L' => r = some (xI (cond (ptTerm n ln (ptPart n ln 4) q).1 1 0)) ∧ L' = L ∧ PaOK F' n ln (ptTerm n ln (ptPart n ln 4) q).2 ∧ ∀ a, a ≠ 4 → a ≠ 5 → a ≠ 7 → F' a = F a) := (all_ok HX 4 (by omega)).2 F L q hq
/-- readTerm(b): the rest of the line is a term, and its code is the formula -/
theorem c_Pa_readTerm (HX : gH ks lay N sX) (hL : LiOK F n) (h3 : F 3 = ln) {b : Nat} (hb : b ≤ 24) : Con l y_Pa_readTerm (Cond.code y_Pa_readTerm b_Pa_readTerm 2 (some .boolean) :: WT) rm_Pa_readTerm D vcl ca ks lay ad [xR 7, xI (nI b)] F L (fun r F' L' => r = some (xI (cond ((ptTerm n ln (ptPart n ln 4) (b, [])).1 && decide (lnAt n ln (ptTerm n ln (ptPart n ln 4) (b, [])).2.1 = 0)) 1 0)) ∧ L' = L ∧ FoOK F' (ptTerm n ln (ptPart n ln 4) (b, [])).2.2 ∧ ∀ a, a ≠ 4 → a ≠ 5 → a ≠ 7 → F' a = F a) := by
  refine Con.ofK (fun post K => ?_)
  refine Con.of (ls := [(0, xR 7), (1, xI (nI b))]) (by decide) rfl rfl (Nat.le_of_ble_eq_true rfl) ?_
  intro p e s m args below meth c A X hr hA
  refine gx_aload_n X d_Pa_readTerm_0 rfl rfl ?_
  refine gx_iload_n X d_Pa_readTerm_1 rfl rfl ?_
  refine gx_puti X d_Pa_readTerm_2 (gci in_Pa) (HX _ rfl).1 (HX _ rfl).2 rfl 2 (by decide) (gcw X lk_Pa_9) (fun _ h => h) t_Pa ty_Pa nm_Pa rfl (ty_Pa 2 (by decide)) rfl rfl rfl ?_
  refine gx_aload_n X d_Pa_readTerm_5 rfl rfl ?_
  refine gx_getr X d_Pa_readTerm_6 (gci in_Pa) (HX _ rfl).1 (HX _ rfl).2 rfl 1 (by decide) (gcw X lk_Pa_19) (fun _ h => h) rfl ?_
  refine gx_callV X d_Pa_readTerm_9 mf_Fo_begin lk_Pa_45 (c_Fo_begin HX) (HX _ rfl).1 (HX _ rfl).2 rfl rfl rfl (Nat.le_of_ble_eq_true rfl) ⟨by decide, by decide⟩ ⟨rfl, rfl⟩ ⟨Nat.zero_le _, Nat.zero_le _⟩ (fun r9 F9 L9 hp9 => ?_)
  obtain ⟨rfl, rfl, rfl⟩ := hp9
  refine gx_aload_n X d_Pa_readTerm_12 rfl rfl ?_
  refine gx_iconst X d_Pa_readTerm_13 (v := nI 0) (by decide) ?_
  have hq : PaOK (gxu (gxu F 7 2 (nI b)) 4 3 (nI 0)) n ln (b, []) := ⟨hL.of (by rw [gxu_cell (by decide), gxu_cell (by decide)]) (by rw [gxu_cell (by decide), gxu_cell (by decide)]), by rw [gxu_cell (by decide), gxu_cell (by decide)]; exact h3, by rw [gxu_cell (by decide)]; exact gxu_at, hb, FoOK.nil gxu_at⟩
  refine gx_callV X d_Pa_readTerm_14 mf_Pa_passTerm lk_Pa_48 (c_Pa_passTerm HX hq) (HX _ rfl).1 (HX _ rfl).2 rfl rfl rfl (Nat.le_of_ble_eq_true rfl) ⟨by decide, by decide⟩ ⟨rfl, rfl⟩ ⟨Nat.zero_le _, Nat.zero_le _⟩ (fun r14 F14 L14 hp14 => ?_)
  obtain ⟨rfl, rfl, g1, g2⟩ := hp14
  have g3 : ∀ a, a ≠ 4 → a ≠ 5 → a ≠ 7 → F14 a = F a := fun a a4 a5 a7 => by rw [g2 a a4 a5 a7, gxu_cell a4, gxu_cell a7]
  generalize ptTerm n ln (ptPart n ln 4) (b, []) = t at g1 K
  obtain ⟨k1, k2, k3, k4, k5⟩ := id g1
  refine gx_if_eq X d_Pa_readTerm_17 (tgt := 38) (by decide) (fun h17 => ?_) (fun h17 => ?_)
  · have ht := cb_f h17
    refine gx_iconst X d_Pa_readTerm_38 (v := nI 0) (by decide) ?_
    refine gx_zret X hr (by first | rfl | decide) hA d_Pa_readTerm_39 (K _ _ _ ⟨by rw [ht]; rfl, rfl, k5, g3⟩)
  · have ht := cb_t h17
    refine gx_aload_n X d_Pa_readTerm_20 rfl rfl ?_
    refine gx_getr X d_Pa_readTerm_21 (gci in_Pa) (HX _ rfl).1 (HX _ rfl).2 rfl 0 (by decide) (gcw X lk_Pa_15) (fun _ h => h) rfl ?_
    refine gx_aload_n X d_Pa_readTerm_24 rfl rfl ?_
    refine gx_geti X d_Pa_readTerm_25 (gci in_Pa) (HX _ rfl).1 (HX _ rfl).2 rfl 2 (by decide) (gcw X lk_Pa_9) (fun _ h => h) rfl ?_
    refine gx_top k3 ?_
    refine gx_callV X d_Pa_readTerm_28 mf_Li_at lk_Pa_23 (c_Li_at HX k1 (j := t.2.1) (by omega)) (HX _ rfl).1 (HX _ rfl).2 rfl rfl rfl (Nat.le_of_ble_eq_true rfl) ⟨by decide, by decide⟩ ⟨rfl, rfl⟩ ⟨Nat.zero_le _, Nat.zero_le _⟩ (fun r28 F28 L28 hp28 => ?_)
    obtain ⟨rfl, rfl, rfl⟩ := hp28
    rw [k2]
    refine gx_if_ne X d_Pa_readTerm_31 (tgt := 38) (by decide) (fun h31 => ?_) (fun h31 => ?_)
    · refine gx_iconst X d_Pa_readTerm_38 (v := nI 0) (by decide) ?_
      refine gx_zret X hr (by first | rfl | decide) hA d_Pa_readTerm_39 (K _ _ _ ⟨by rw [ht, decide_eq_false h31]; rfl, rfl, k5, g3⟩)
    · refine gx_iconst X d_Pa_readTerm_34 (v := nI 1) (by decide) ?_
      refine gx_goto X d_Pa_readTerm_35 (tgt := 39) (by decide) ?_
      refine gx_zret X hr (by first | rfl | decide) hA d_Pa_readTerm_39 (K _ _ _ ⟨by rw [ht, decide_eq_true h31]; rfl, rfl, k5, g3⟩)
/-- readAtom(b): the rest of the line is an atom, and its code is the formula -/
theorem c_Pa_readAtom (HX : gH ks lay N sX) (hL : LiOK F n) (h3 : F 3 = ln) {b : Nat} (hb : b ≤ 24) : Con l y_Pa_readAtom (Cond.code y_Pa_readAtom b_Pa_readAtom 3 (some .boolean) :: WT) rm_Pa_readAtom D vcl ca ks lay ad [xR 7, xI (nI b)] F L (fun r F' L' => r = some (xI (cond (ptAtom n ln b).1 1 0)) ∧ L' = L ∧ ((ptAtom n ln b).1 = true → FoOK F' (ptAtom n ln b).2) ∧ ∀ a, a ≠ 4 → a ≠ 5 → a ≠ 7 → F' a = F a) := by
  refine Con.ofK (fun post K => ?_)
  refine Con.of (ls := [(0, xR 7), (1, xI (nI b))]) (by decide) rfl rfl (Nat.le_of_ble_eq_true rfl) ?_
  intro p e s m args below meth c A X hr hA
  refine gx_aload_n X d_Pa_readAtom_0 rfl rfl ?_
  refine gx_iload_n X d_Pa_readAtom_1 rfl rfl ?_
  refine gx_puti X d_Pa_readAtom_2 (gci in_Pa) (HX _ rfl).1 (HX _ rfl).2 rfl 2 (by decide) (gcw X lk_Pa_9) (fun _ h => h) t_Pa ty_Pa nm_Pa rfl (ty_Pa 2 (by decide)) rfl rfl rfl ?_
  refine gx_aload_n X d_Pa_readAtom_5 rfl rfl ?_
  refine gx_getr X d_Pa_readAtom_6 (gci in_Pa) (HX _ rfl).1 (HX _ rfl).2 rfl 1 (by decide) (gcw X lk_Pa_19) (fun _ h => h) rfl ?_
  refine gx_callV X d_Pa_readAtom_9 mf_Fo_begin lk_Pa_45 (c_Fo_begin HX) (HX _ rfl).1 (HX _ rfl).2 rfl rfl rfl (Nat.le_of_ble_eq_true rfl) ⟨by decide, by decide⟩ ⟨rfl, rfl⟩ ⟨Nat.zero_le _, Nat.zero_le _⟩ (fun r9 F9 L9 hp9 => ?_)
  obtain ⟨rfl, rfl, rfl⟩ := hp9
  refine gx_aload_n X d_Pa_readAtom_12 rfl rfl ?_
  refine gx_iconst X d_Pa_readAtom_13 (v := nI 0) (by decide) ?_
  have hq : PaOK (gxu (gxu F 7 2 (nI b)) 4 3 (nI 0)) n ln (b, []) := ⟨hL.of (by rw [gxu_cell (by decide), gxu_cell (by decide)]) (by rw [gxu_cell (by decide), gxu_cell (by decide)]), by rw [gxu_cell (by decide), gxu_cell (by decide)]; exact h3, by rw [gxu_cell (by decide)]; exact gxu_at, hb, FoOK.nil gxu_at⟩
  have hn : n ≤ 24 := hL.1
  unfold ptAtom at K
  refine gx_callV X d_Pa_readAtom_14 mf_Pa_passTerm lk_Pa_48 (c_Pa_passTerm HX hq) (HX _ rfl).1 (HX _ rfl).2 rfl rfl rfl (Nat.le_of_ble_eq_true rfl) ⟨by decide, by decide⟩ ⟨rfl, rfl⟩ ⟨Nat.zero_le _, Nat.zero_le _⟩ (fun r14 F14 L14 hp14 => ?_)
  obtain ⟨rfl, rfl, g1, g2⟩ := hp14
  have g3 : ∀ a, a ≠ 4 → a ≠ 5 → a ≠ 7 → F14 a = F a := fun a a4 a5 a7 => by rw [g2 a a4 a5 a7, gxu_cell a4, gxu_cell a7]
  generalize ptTerm n ln (ptPart n ln 4) (b, []) = t at g1 K
  obtain ⟨k1, k2, k3, k4, k5⟩ := id g1
  refine gx_if_ne X d_Pa_readAtom_17 (tgt := 22) (by decide) (fun h17 => ?_) (fun h17 => ?_)
  · have ht := cb_t h17
    refine gx_aload_n X d_Pa_readAtom_22 rfl rfl ?_
    refine gx_getr X d_Pa_readAtom_23 (gci in_Pa) (HX _ rfl).1 (HX _ rfl).2 rfl 0 (by decide) (gcw X lk_Pa_15) (fun _ h => h) rfl ?_
    refine gx_aload_n X d_Pa_readAtom_26 rfl rfl ?_
    refine gx_geti X d_Pa_readAtom_27 (gci in_Pa) (HX _ rfl).1 (HX _ rfl).2 rfl 2 (by decide) (gcw X lk_Pa_9) (fun _ h => h) rfl ?_
    refine gx_top k3 ?_
    refine gx_callV X d_Pa_readAtom_30 mf_Li_at lk_Pa_23 (c_Li_at HX k1 (j := t.2.1) (by omega)) (HX _ rfl).1 (HX _ rfl).2 rfl rfl rfl (Nat.le_of_ble_eq_true rfl) ⟨by decide, by decide⟩ ⟨rfl, rfl⟩ ⟨Nat.zero_le _, Nat.zero_le _⟩ (fun r30 F30 L30 hp30 => ?_)
    obtain ⟨rfl, rfl, rfl⟩ := hp30
    rw [k2]
    refine gx_istore_n X d_Pa_readAtom_33 rfl (by decide) ?_
    refine gx_iload_n X d_Pa_readAtom_34 rfl rfl ?_
    refine gx_callS X d_Pa_readAtom_35 mf_Pa_isComparison lk_Pa_51 (c_Pa_isComparison (lnAt n ln t.2.1)) rfl rfl (Nat.le_of_ble_eq_true rfl) ⟨by decide, by decide⟩ ⟨rfl, rfl⟩ ⟨Nat.zero_le _, Nat.zero_le _⟩ (fun r35 F35 L35 hp35 => ?_)
    obtain ⟨rfl, rfl, rfl⟩ := hp35
    refine gx_if_ne X d_Pa_readAtom_38 (tgt := 43) (by decide) (fun h38 => ?_) (fun h38 => ?_)
    · have hc := cb_t h38
      obtain ⟨c1, hc1, hc2, hc3⟩ := isCmp_nI hc
      have hlt : t.2.1 < n := ln_nI hc3 (by omega) (by omega)
      rw [if_pos ⟨ht, hc⟩] at K
      refine gx_aload_n X d_Pa_readAtom_43 rfl rfl ?_
      refine gx_dup X d_Pa_readAtom_44 rfl ?_
      refine gx_geti X d_Pa_readAtom_45 (gci in_Pa) (HX _ rfl).1 (HX _ rfl).2 rfl 2 (by decide) (gcw X lk_Pa_9) (fun _ h => h) rfl ?_
      refine gx_top k3 ?_
      refine gx_iconst X d_Pa_readAtom_48 (v := nI 1) (by decide) ?_
      refine gx_iadd X d_Pa_readAtom_49 ?_
      refine gx_top (nI_add t.2.1 1) ?_
      refine gx_puti X d_Pa_readAtom_50 (gci in_Pa) (HX _ rfl).1 (HX _ rfl).2 rfl 2 (by decide) (gcw X lk_Pa_9) (fun _ h => h) t_Pa ty_Pa nm_Pa rfl (ty_Pa 2 (by decide)) rfl rfl rfl ?_
      refine gx_aload_n X d_Pa_readAtom_53 rfl rfl ?_
      refine gx_iconst X d_Pa_readAtom_54 (v := nI 0) (by decide) ?_
      refine gx_callV X d_Pa_readAtom_55 mf_Pa_passTerm lk_Pa_48 (c_Pa_passTerm HX (q := (t.2.1 + 1, t.2.2)) (g1.step (by omega))) (HX _ rfl).1 (HX _ rfl).2 rfl rfl rfl (Nat.le_of_ble_eq_true rfl) ⟨by decide, by decide⟩ ⟨rfl, rfl⟩ ⟨Nat.zero_le _, Nat.zero_le _⟩ (fun r55 F55 L55 hp55 => ?_)
      obtain ⟨rfl, rfl, f1, f2⟩ := hp55
      have f3 : ∀ a, a ≠ 4 → a ≠ 5 → a ≠ 7 → F55 a = F a := fun a a4 a5 a7 => by rw [f2 a a4 a5 a7, gxu_cell a7]; exact g3 a a4 a5 a7
      generalize ptTerm n ln (ptPart n ln 4) (t.2.1 + 1, t.2.2) = u at f1 K
      obtain ⟨u1, u2, u3, u4, u5⟩ := id f1
      refine gx_if_ne X d_Pa_readAtom_58 (tgt := 63) (by decide) (fun h58 => ?_) (fun h58 => ?_)
      · have hu := cb_t h58
        rw [if_pos hu] at K
        refine gx_aload_n X d_Pa_readAtom_63 rfl rfl ?_
        refine gx_getr X d_Pa_readAtom_64 (gci in_Pa) (HX _ rfl).1 (HX _ rfl).2 rfl 1 (by decide) (gcw X lk_Pa_19) (fun _ h => h) rfl ?_
        refine gx_iload_n X d_Pa_readAtom_67 rfl rfl ?_
        refine gx_top hc3 ?_
        refine gx_callV X d_Pa_readAtom_68 mf_Fo_add lk_Pa_54 (c_Fo_add HX u5 (q := c1) (by omega)) (HX _ rfl).1 (HX _ rfl).2 rfl rfl rfl (Nat.le_of_ble_eq_true rfl) ⟨by decide, by decide⟩ ⟨rfl, rfl⟩ ⟨Nat.zero_le _, Nat.zero_le _⟩ (fun r68 F68 L68 hp68 => ?_)
        obtain ⟨rfl, rfl, m1, m2⟩ := hp68
        have m3 : ∀ a, a ≠ 4 → a ≠ 5 → a ≠ 7 → F68 a = F a := fun a a4 a5 a7 => by rw [m2 a a4 a5]; exact f3 a a4 a5 a7
        rw [hc3] at K
        refine gx_aload_n X d_Pa_readAtom_71 rfl rfl ?_
        refine gx_getr X d_Pa_readAtom_72 (gci in_Pa) (HX _ rfl).1 (HX _ rfl).2 rfl 0 (by decide) (gcw X lk_Pa_15) (fun _ h => h) rfl ?_
        refine gx_aload_n X d_Pa_readAtom_75 rfl rfl ?_
        refine gx_geti X d_Pa_readAtom_76 (gci in_Pa) (HX _ rfl).1 (HX _ rfl).2 rfl 2 (by decide) (gcw X lk_Pa_9) (fun _ h => h) rfl ?_
        refine gx_top (y := nI u.2.1) (by rw [m2 7 (by decide) (by decide)]; exact u3) ?_
        refine gx_callV X d_Pa_readAtom_79 mf_Li_at lk_Pa_23 (c_Li_at HX (u1.of (m2 2 (by decide) (by decide)) (m2 3 (by decide) (by decide))) (j := u.2.1) (by omega)) (HX _ rfl).1 (HX _ rfl).2 rfl rfl rfl (Nat.le_of_ble_eq_true rfl) ⟨by decide, by decide⟩ ⟨rfl, rfl⟩ ⟨Nat.zero_le _, Nat.zero_le _⟩ (fun r79 F79 L79 hp79 => ?_)
        obtain ⟨rfl, rfl, rfl⟩ := hp79
        rw [m2 3 (by decide) (by decide), u2]
        refine gx_if_ne X d_Pa_readAtom_82 (tgt := 89) (by decide) (fun h82 => ?_) (fun h82 => ?_)
        · refine gx_iconst X d_Pa_readAtom_89 (v := nI 0) (by decide) ?_
          refine gx_zret X hr (by first | rfl | decide) hA d_Pa_readAtom_90 (K _ _ _ ⟨by simp only; rw [decide_eq_false h82]; rfl, rfl, fun _ => m1, m3⟩)
        · refine gx_iconst X d_Pa_readAtom_85 (v := nI 1) (by decide) ?_
          refine gx_goto X d_Pa_readAtom_86 (tgt := 90) (by decide) ?_
          refine gx_zret X hr (by first | rfl | decide) hA d_Pa_readAtom_90 (K _ _ _ ⟨by simp only; rw [decide_eq_true h82]; rfl, rfl, fun _ => m1, m3⟩)
      · have hu := cb_f h58
        rw [if_neg (by rw [hu]; decide)] at K
        refine gx_iconst X d_Pa_readAtom_61 (v := nI 0) (by decide) ?_
        refine gx_zret X hr (by first | rfl | decide) hA d_Pa_readAtom_62 (K _ _ _ ⟨rfl, rfl, fun z => absurd z (by decide), f3⟩)
    · have hc := cb_f h38
      rw [if_neg (by rw [hc]; exact fun z => absurd z.2 (by decide))] at K
      refine gx_iconst X d_Pa_readAtom_41 (v := nI 0) (by decide) ?_
      refine gx_zret X hr (by first | rfl | decide) hA d_Pa_readAtom_42 (K _ _ _ ⟨rfl, rfl, fun z => absurd z (by decide), g3⟩)
  · have ht := cb_f h17
    rw [if_neg (by rw [ht]; exact fun z => absurd z.1 (by decide))] at K
    refine gx_iconst X d_Pa_readAtom_20 (v := nI 0) (by decide) ?_
    refine gx_zret X hr (by first | rfl | decide) hA d_Pa_readAtom_21 (K _ _ _ ⟨rfl, rfl, fun z => absurd z (by decide), g3⟩)
/-- the kind of the edge that the line is (0 a test, 1 a setting, 2 an input), and its code -/
def rdEdge (n : Nat) (f : Nat → Int32) : Option (Nat × List Int32) :=
  if isLoc (lnAt n f 0) = true ∧ isLoc (lnAt n f 1) = true ∧ lnAt n f 2 = nI 32 then
    (if isVar (lnAt n f 3) = true ∧ lnAt n f 4 = nI 63 then (if lnAt n f 5 = 0 then some (2, []) else none)
    else if isVar (lnAt n f 3) = true ∧ lnAt n f 4 = nI 58 then
      (if ((ptTerm n f (ptPart n f 4) (5, [])).1 && decide (lnAt n f (ptTerm n f (ptPart n f 4) (5, [])).2.1 = 0)) = true then some (1, (ptTerm n f (ptPart n f 4) (5, [])).2.2) else none)
    else if (ptAtom n f 3).1 = true then some (0, (ptAtom n f 3).2) else none)
  else none
def kdI (o : Option (Nat × List Int32)) : Int32 := match o with
  | some q => nI q.1
  | none => -1
set_option maxHeartbeats 4000000 in
theorem c_Pa_readEdge (HX : gH ks lay N sX) (hL : LiOK F n) (h3 : F 3 = ln) : Con l y_Pa_readEdge (Cond.code y_Pa_readEdge b_Pa_readEdge 1 (some .int) :: WT) rm_Pa_readEdge D vcl ca ks lay ad [xR 7] F L (fun r F' L' => r = some (xI (kdI (rdEdge n ln))) ∧ L' = L ∧ (∀ k code, rdEdge n ln = some (k, code) → k ≠ 2 → FoOK F' code) ∧ ∀ a, a ≠ 4 → a ≠ 5 → a ≠ 7 → F' a = F a) := by
  refine Con.ofK (fun post K => ?_)
  refine Con.of (ls := [(0, xR 7)]) (by decide) rfl rfl (Nat.le_of_ble_eq_true rfl) ?_
  intro p e s m args below meth c A X hr hA
  have hno : ¬ (isLoc (lnAt n ln 0) = true ∧ isLoc (lnAt n ln 1) = true ∧ lnAt n ln 2 = nI 32) → GX p l e rm_Pa_readEdge s m args below meth c (MQ below (gxQ D vcl ca ks lay ad s.heap.size post) args s 0 0 (gxA ks ad s.heap.size)) 1 A D vcl ca ks lay ad 0 0 41 [(0, xR 7)] [] F L := by
    intro h
    have e : rdEdge n ln = none := by unfold rdEdge; rw [if_neg h]
    refine gx_iconst X d_Pa_readEdge_41 (v := (-1)) (by decide) ?_
    refine gx_iret X hr hA d_Pa_readEdge_42 (K _ _ _ ⟨by rw [e]; rfl, rfl, fun k code z => (by rw [e] at z; cases z), fun _ _ _ _ => rfl⟩)
  refine gx_aload_n X d_Pa_readEdge_0 rfl rfl ?_
  refine gx_getr X d_Pa_readEdge_1 (gci in_Pa) (HX _ rfl).1 (HX _ rfl).2 rfl 0 (by decide) (gcw X lk_Pa_15) (fun _ h => h) rfl ?_
  refine gx_iconst X d_Pa_readEdge_4 (v := nI 0) (by decide) ?_
  refine gx_callV X d_Pa_readEdge_5 mf_Li_at lk_Pa_23 (c_Li_at HX hL (j := 0) (by omega)) (HX _ rfl).1 (HX _ rfl).2 rfl rfl rfl (Nat.le_of_ble_eq_true rfl) ⟨by decide, by decide⟩ ⟨rfl, rfl⟩ ⟨Nat.zero_le _, Nat.zero_le _⟩ (fun r5 F5 L5 hp5 => ?_)
  obtain ⟨rfl, rfl, rfl⟩ := hp5
  rw [h3]
  refine gx_callS X d_Pa_readEdge_8 mf_Pa_isLocation lk_Pa_29 (c_Pa_isLocation (lnAt n ln 0)) rfl rfl (Nat.le_of_ble_eq_true rfl) ⟨by decide, by decide⟩ ⟨rfl, rfl⟩ ⟨Nat.zero_le _, Nat.zero_le _⟩ (fun r8 F8 L8 hp8 => ?_)
  obtain ⟨rfl, rfl, rfl⟩ := hp8
  refine gx_if_eq X d_Pa_readEdge_11 (tgt := 41) (by decide) (fun h11 => ?_) (fun h11 => ?_)
  · exact hno (fun z => by rw [cb_f h11] at z; exact absurd z.1 (by decide))
  have l0 := cb_t h11
  refine gx_aload_n X d_Pa_readEdge_14 rfl rfl ?_
  refine gx_getr X d_Pa_readEdge_15 (gci in_Pa) (HX _ rfl).1 (HX _ rfl).2 rfl 0 (by decide) (gcw X lk_Pa_15) (fun _ h => h) rfl ?_
  refine gx_iconst X d_Pa_readEdge_18 (v := nI 1) (by decide) ?_
  refine gx_callV X d_Pa_readEdge_19 mf_Li_at lk_Pa_23 (c_Li_at HX hL (j := 1) (by omega)) (HX _ rfl).1 (HX _ rfl).2 rfl rfl rfl (Nat.le_of_ble_eq_true rfl) ⟨by decide, by decide⟩ ⟨rfl, rfl⟩ ⟨Nat.zero_le _, Nat.zero_le _⟩ (fun r19 F19 L19 hp19 => ?_)
  obtain ⟨rfl, rfl, rfl⟩ := hp19
  rw [h3]
  refine gx_callS X d_Pa_readEdge_22 mf_Pa_isLocation lk_Pa_29 (c_Pa_isLocation (lnAt n ln 1)) rfl rfl (Nat.le_of_ble_eq_true rfl) ⟨by decide, by decide⟩ ⟨rfl, rfl⟩ ⟨Nat.zero_le _, Nat.zero_le _⟩ (fun r22 F22 L22 hp22 => ?_)
  obtain ⟨rfl, rfl, rfl⟩ := hp22
  refine gx_if_eq X d_Pa_readEdge_25 (tgt := 41) (by decide) (fun h25 => ?_) (fun h25 => ?_)
  · exact hno (fun z => by rw [cb_f h25] at z; exact absurd z.2.1 (by decide))
  have l1 := cb_t h25
  refine gx_aload_n X d_Pa_readEdge_28 rfl rfl ?_
  refine gx_getr X d_Pa_readEdge_29 (gci in_Pa) (HX _ rfl).1 (HX _ rfl).2 rfl 0 (by decide) (gcw X lk_Pa_15) (fun _ h => h) rfl ?_
  refine gx_iconst X d_Pa_readEdge_32 (v := nI 2) (by decide) ?_
  refine gx_callV X d_Pa_readEdge_33 mf_Li_at lk_Pa_23 (c_Li_at HX hL (j := 2) (by omega)) (HX _ rfl).1 (HX _ rfl).2 rfl rfl rfl (Nat.le_of_ble_eq_true rfl) ⟨by decide, by decide⟩ ⟨rfl, rfl⟩ ⟨Nat.zero_le _, Nat.zero_le _⟩ (fun r33 F33 L33 hp33 => ?_)
  obtain ⟨rfl, rfl, rfl⟩ := hp33
  rw [h3]
  refine gx_bipush X d_Pa_readEdge_36 (v := nI 32) (by decide) ?_
  refine gx_icmp_eq X d_Pa_readEdge_38 (tgt := 43) (by decide) (fun h38 => ?_) (fun h38 => ?_)
  · have hhead : rdEdge n ln = (if isVar (lnAt n ln 3) = true ∧ lnAt n ln 4 = nI 63 then (if lnAt n ln 5 = 0 then some (2, []) else none)
      else if isVar (lnAt n ln 3) = true ∧ lnAt n ln 4 = nI 58 then
        (if ((ptTerm n ln (ptPart n ln 4) (5, [])).1 && decide (lnAt n ln (ptTerm n ln (ptPart n ln 4) (5, [])).2.1 = 0)) = true then some (1, (ptTerm n ln (ptPart n ln 4) (5, [])).2.2) else none)
      else if (ptAtom n ln 3).1 = true then some (0, (ptAtom n ln 3).2) else none) := by
      unfold rdEdge
      rw [if_pos ⟨l0, l1, h38⟩]
    have hatom : ¬ (isVar (lnAt n ln 3) = true ∧ lnAt n ln 4 = nI 63) → ¬ (isVar (lnAt n ln 3) = true ∧ lnAt n ln 4 = nI 58) → GX p l e rm_Pa_readEdge s m args below meth c (MQ below (gxQ D vcl ca ks lay ad s.heap.size post) args s 0 0 (gxA ks ad s.heap.size)) 1 A D vcl ca ks lay ad 0 0 128 [(0, xR 7)] [] F33 L33 := by
      intro g1 g2
      rw [if_neg g1, if_neg g2] at hhead
      refine gx_aload_n X d_Pa_readEdge_128 rfl rfl ?_
      refine gx_iconst X d_Pa_readEdge_129 (v := nI 3) (by decide) ?_
      refine gx_callV X d_Pa_readEdge_130 mf_Pa_readAtom lk_Pa_42 (c_Pa_readAtom HX hL h3 (b := 3) (by omega)) (HX _ rfl).1 (HX _ rfl).2 rfl rfl rfl (Nat.le_of_ble_eq_true rfl) ⟨by decide, by decide⟩ ⟨rfl, rfl⟩ ⟨Nat.zero_le _, Nat.zero_le _⟩ (fun r130 F130 L130 hp130 => ?_)
      obtain ⟨rfl, rfl, f1, f2⟩ := hp130
      refine gx_if_eq X d_Pa_readEdge_133 (tgt := 140) (by decide) (fun h133 => ?_) (fun h133 => ?_)
      · rw [if_neg (by rw [cb_f h133]; decide)] at hhead
        refine gx_iconst X d_Pa_readEdge_140 (v := (-1)) (by decide) ?_
        refine gx_iret X hr hA d_Pa_readEdge_141 (K _ _ _ ⟨by rw [hhead]; rfl, rfl, fun k code z => (by rw [hhead] at z; cases z), f2⟩)
      · rw [if_pos (cb_t h133)] at hhead
        refine gx_iconst X d_Pa_readEdge_136 (v := nI 0) (by decide) ?_
        refine gx_goto X d_Pa_readEdge_137 (tgt := 141) (by decide) ?_
        refine gx_iret X hr hA d_Pa_readEdge_141 (K _ _ _ ⟨by rw [hhead]; rfl, rfl, fun k code z _ => by rw [hhead] at z; cases z; exact f1 (cb_t h133), f2⟩)
    have hset : ¬ (isVar (lnAt n ln 3) = true ∧ lnAt n ln 4 = nI 63) → GX p l e rm_Pa_readEdge s m args below meth c (MQ below (gxQ D vcl ca ks lay ad s.heap.size post) args s 0 0 (gxA ks ad s.heap.size)) 1 A D vcl ca ks lay ad 0 0 87 [(0, xR 7)] [] F33 L33 := by
      intro g1
      refine gx_aload_n X d_Pa_readEdge_87 rfl rfl ?_
      refine gx_getr X d_Pa_readEdge_88 (gci in_Pa) (HX _ rfl).1 (HX _ rfl).2 rfl 0 (by decide) (gcw X lk_Pa_15) (fun _ h => h) rfl ?_
      refine gx_iconst X d_Pa_readEdge_91 (v := nI 3) (by decide) ?_
      refine gx_callV X d_Pa_readEdge_92 mf_Li_at lk_Pa_23 (c_Li_at HX hL (j := 3) (by omega)) (HX _ rfl).1 (HX _ rfl).2 rfl rfl rfl (Nat.le_of_ble_eq_true rfl) ⟨by decide, by decide⟩ ⟨rfl, rfl⟩ ⟨Nat.zero_le _, Nat.zero_le _⟩ (fun r92 F92 L92 hp92 => ?_)
      obtain ⟨rfl, rfl, rfl⟩ := hp92
      rw [h3]
      refine gx_callS X d_Pa_readEdge_95 mf_Fo_isVariable lk_Pa_33 (c_Fo_isVariable (lnAt n ln 3)) rfl rfl (Nat.le_of_ble_eq_true rfl) ⟨by decide, by decide⟩ ⟨rfl, rfl⟩ ⟨Nat.zero_le _, Nat.zero_le _⟩ (fun r95 F95 L95 hp95 => ?_)
      obtain ⟨rfl, rfl, rfl⟩ := hp95
      refine gx_if_eq X d_Pa_readEdge_98 (tgt := 128) (by decide) (fun h98 => ?_) (fun h98 => ?_)
      · exact hatom g1 (fun z => by rw [cb_f h98] at z; exact absurd z.1 (by decide))
      have v3 := cb_t h98
      refine gx_aload_n X d_Pa_readEdge_101 rfl rfl ?_
      refine gx_getr X d_Pa_readEdge_102 (gci in_Pa) (HX _ rfl).1 (HX _ rfl).2 rfl 0 (by decide) (gcw X lk_Pa_15) (fun _ h => h) rfl ?_
      refine gx_iconst X d_Pa_readEdge_105 (v := nI 4) (by decide) ?_
      refine gx_callV X d_Pa_readEdge_106 mf_Li_at lk_Pa_23 (c_Li_at HX hL (j := 4) (by omega)) (HX _ rfl).1 (HX _ rfl).2 rfl rfl rfl (Nat.le_of_ble_eq_true rfl) ⟨by decide, by decide⟩ ⟨rfl, rfl⟩ ⟨Nat.zero_le _, Nat.zero_le _⟩ (fun r106 F106 L106 hp106 => ?_)
      obtain ⟨rfl, rfl, rfl⟩ := hp106
      rw [h3]
      refine gx_bipush X d_Pa_readEdge_109 (v := nI 58) (by decide) ?_
      refine gx_icmp_ne X d_Pa_readEdge_111 (tgt := 128) (by decide) (fun h111 => ?_) (fun h111 => ?_)
      · exact hatom g1 (fun z => h111 z.2)
      · rw [if_neg g1, if_pos ⟨v3, h111⟩] at hhead
        refine gx_aload_n X d_Pa_readEdge_114 rfl rfl ?_
        refine gx_iconst X d_Pa_readEdge_115 (v := nI 5) (by decide) ?_
        refine gx_callV X d_Pa_readEdge_116 mf_Pa_readTerm lk_Pa_38 (c_Pa_readTerm HX hL h3 (b := 5) (by omega)) (HX _ rfl).1 (HX _ rfl).2 rfl rfl rfl (Nat.le_of_ble_eq_true rfl) ⟨by decide, by decide⟩ ⟨rfl, rfl⟩ ⟨Nat.zero_le _, Nat.zero_le _⟩ (fun r116 F116 L116 hp116 => ?_)
        obtain ⟨rfl, rfl, f1, f2⟩ := hp116
        refine gx_if_eq X d_Pa_readEdge_119 (tgt := 126) (by decide) (fun h119 => ?_) (fun h119 => ?_)
        · rw [if_neg (by rw [cb_f h119]; decide)] at hhead
          refine gx_iconst X d_Pa_readEdge_126 (v := (-1)) (by decide) ?_
          refine gx_iret X hr hA d_Pa_readEdge_127 (K _ _ _ ⟨by rw [hhead]; rfl, rfl, fun k code z => (by rw [hhead] at z; cases z), f2⟩)
        · rw [if_pos (cb_t h119)] at hhead
          refine gx_iconst X d_Pa_readEdge_122 (v := nI 1) (by decide) ?_
          refine gx_goto X d_Pa_readEdge_123 (tgt := 127) (by decide) ?_
          refine gx_iret X hr hA d_Pa_readEdge_127 (K _ _ _ ⟨by rw [hhead]; rfl, rfl, fun k code z _ => by rw [hhead] at z; cases z; exact f1, f2⟩)
    refine gx_aload_n X d_Pa_readEdge_43 rfl rfl ?_
    refine gx_getr X d_Pa_readEdge_44 (gci in_Pa) (HX _ rfl).1 (HX _ rfl).2 rfl 0 (by decide) (gcw X lk_Pa_15) (fun _ h => h) rfl ?_
    refine gx_iconst X d_Pa_readEdge_47 (v := nI 3) (by decide) ?_
    refine gx_callV X d_Pa_readEdge_48 mf_Li_at lk_Pa_23 (c_Li_at HX hL (j := 3) (by omega)) (HX _ rfl).1 (HX _ rfl).2 rfl rfl rfl (Nat.le_of_ble_eq_true rfl) ⟨by decide, by decide⟩ ⟨rfl, rfl⟩ ⟨Nat.zero_le _, Nat.zero_le _⟩ (fun r48 F48 L48 hp48 => ?_)
    obtain ⟨rfl, rfl, rfl⟩ := hp48
    rw [h3]
    refine gx_callS X d_Pa_readEdge_51 mf_Fo_isVariable lk_Pa_33 (c_Fo_isVariable (lnAt n ln 3)) rfl rfl (Nat.le_of_ble_eq_true rfl) ⟨by decide, by decide⟩ ⟨rfl, rfl⟩ ⟨Nat.zero_le _, Nat.zero_le _⟩ (fun r51 F51 L51 hp51 => ?_)
    obtain ⟨rfl, rfl, rfl⟩ := hp51
    refine gx_if_eq X d_Pa_readEdge_54 (tgt := 87) (by decide) (fun h54 => ?_) (fun h54 => ?_)
    · exact hset (fun z => by rw [cb_f h54] at z; exact absurd z.1 (by decide))
    have v3 := cb_t h54
    refine gx_aload_n X d_Pa_readEdge_57 rfl rfl ?_
    refine gx_getr X d_Pa_readEdge_58 (gci in_Pa) (HX _ rfl).1 (HX _ rfl).2 rfl 0 (by decide) (gcw X lk_Pa_15) (fun _ h => h) rfl ?_
    refine gx_iconst X d_Pa_readEdge_61 (v := nI 4) (by decide) ?_
    refine gx_callV X d_Pa_readEdge_62 mf_Li_at lk_Pa_23 (c_Li_at HX hL (j := 4) (by omega)) (HX _ rfl).1 (HX _ rfl).2 rfl rfl rfl (Nat.le_of_ble_eq_true rfl) ⟨by decide, by decide⟩ ⟨rfl, rfl⟩ ⟨Nat.zero_le _, Nat.zero_le _⟩ (fun r62 F62 L62 hp62 => ?_)
    obtain ⟨rfl, rfl, rfl⟩ := hp62
    rw [h3]
    refine gx_bipush X d_Pa_readEdge_65 (v := nI 63) (by decide) ?_
    refine gx_icmp_ne X d_Pa_readEdge_67 (tgt := 87) (by decide) (fun h67 => ?_) (fun h67 => ?_)
    · exact hset (fun z => h67 z.2)
    · rw [if_pos ⟨v3, h67⟩] at hhead
      refine gx_aload_n X d_Pa_readEdge_70 rfl rfl ?_
      refine gx_getr X d_Pa_readEdge_71 (gci in_Pa) (HX _ rfl).1 (HX _ rfl).2 rfl 0 (by decide) (gcw X lk_Pa_15) (fun _ h => h) rfl ?_
      refine gx_iconst X d_Pa_readEdge_74 (v := nI 5) (by decide) ?_
      refine gx_callV X d_Pa_readEdge_75 mf_Li_at lk_Pa_23 (c_Li_at HX hL (j := 5) (by omega)) (HX _ rfl).1 (HX _ rfl).2 rfl rfl rfl (Nat.le_of_ble_eq_true rfl) ⟨by decide, by decide⟩ ⟨rfl, rfl⟩ ⟨Nat.zero_le _, Nat.zero_le _⟩ (fun r75 F75 L75 hp75 => ?_)
      obtain ⟨rfl, rfl, rfl⟩ := hp75
      rw [h3]
      refine gx_if_ne X d_Pa_readEdge_78 (tgt := 85) (by decide) (fun h78 => ?_) (fun h78 => ?_)
      · rw [if_neg h78] at hhead
        refine gx_iconst X d_Pa_readEdge_85 (v := (-1)) (by decide) ?_
        refine gx_iret X hr hA d_Pa_readEdge_86 (K _ _ _ ⟨by rw [hhead]; rfl, rfl, fun k code z => (by rw [hhead] at z; cases z), fun _ _ _ _ => rfl⟩)
      · rw [if_pos h78] at hhead
        refine gx_iconst X d_Pa_readEdge_81 (v := nI 2) (by decide) ?_
        refine gx_goto X d_Pa_readEdge_82 (tgt := 86) (by decide) ?_
        refine gx_iret X hr hA d_Pa_readEdge_86 (K _ _ _ ⟨by rw [hhead]; rfl, rfl, fun k code z z2 => by rw [hhead] at z; cases z; exact absurd rfl z2, fun _ _ _ _ => rfl⟩)
  · exact hno (fun z => h38 z.2.2)
end
