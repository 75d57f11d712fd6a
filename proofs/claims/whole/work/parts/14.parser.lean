section
variable {l : Launch} {D : va_G} {ca : Nat → ClassId} {ks : List Nat} {lay : Nat → gxE} {ad : Nat → Nat} {F : Nat → Nat → Int32} {L : Nat → Nat → Int64} {N n : Nat} {ln : Nat → Int32}
theorem lt77 {ch : Int32} : ch < nI 77 ↔ ch ≤ nI 76 := by
  rw [Int32.lt_iff_toInt_lt, Int32.le_iff_toInt_le, show (nI 77).toInt = 77 from by decide, show (nI 76).toInt = 76 from by decide]
  omega
theorem isLoc_eq (ch : Int32) : isLoc ch = (decide (nI 65 ≤ ch) && decide (ch ≤ nI 76)) := by
  unfold isLoc
  rw [decide_eq_decide.mpr (lt77 (ch := ch))]
theorem c_Pa_isLocation (ch : Int32) : Con l y_Pa_isLocation (Cond.code y_Pa_isLocation b_Pa_isLocation 1 (some .boolean) :: WT) rm_Pa_isLocation D vcl ca ks lay ad [xI ch] F L (fun r F' L' => r = some (xI (cond (isLoc ch) 1 0)) ∧ F' = F ∧ L' = L) := by
  refine Con.ofK (fun post K => ?_)
  refine Con.of (ls := [(0, xI ch)]) (by decide) rfl rfl (Nat.le_of_ble_eq_true rfl) ?_
  intro p e s m args below meth c A X hr hA
  refine gx_iload_n X d_Pa_isLocation_0 rfl rfl ?_
  refine gx_bipush X d_Pa_isLocation_1 (v := nI 65) (by decide) ?_
  refine gx_icmp_lt X d_Pa_isLocation_3 (tgt := 16) (by decide) (fun h3 => ?_) (fun h3 => ?_)
  · refine gx_iconst X d_Pa_isLocation_16 (v := nI 0) (by decide) ?_
    refine gx_zret X hr (by first | rfl | decide) hA d_Pa_isLocation_17 (K _ _ _ ⟨by rw [isLoc_eq, rg_lo h3]; rfl, rfl, rfl⟩)
  · refine gx_iload_n X d_Pa_isLocation_6 rfl rfl ?_
    refine gx_bipush X d_Pa_isLocation_7 (v := nI 77) (by decide) ?_
    refine gx_icmp_ge X d_Pa_isLocation_9 (tgt := 16) (by decide) (fun h9 => ?_) (fun h9 => ?_)
    · refine gx_iconst X d_Pa_isLocation_16 (v := nI 0) (by decide) ?_
      refine gx_zret X hr (by first | rfl | decide) hA d_Pa_isLocation_17 (K _ _ _ ⟨by rw [show isLoc ch = false by unfold isLoc; simp [Int32.not_lt.mpr h9]]; rfl, rfl, rfl⟩)
    · refine gx_iconst X d_Pa_isLocation_12 (v := nI 1) (by decide) ?_
      refine gx_goto X d_Pa_isLocation_13 (tgt := 17) (by decide) ?_
      refine gx_zret X hr (by first | rfl | decide) hA d_Pa_isLocation_17 (K _ _ _ ⟨by rw [show isLoc ch = true by unfold isLoc; simp [Int32.not_lt.mp h3, Int32.not_le.mp h9]]; rfl, rfl, rfl⟩)
theorem c_Pa_isOperator (ch : Int32) : Con l y_Pa_isOperator (Cond.code y_Pa_isOperator b_Pa_isOperator 1 (some .boolean) :: WT) rm_Pa_isOperator D vcl ca ks lay ad [xI ch] F L (fun r F' L' => r = some (xI (cond (isOp ch) 1 0)) ∧ F' = F ∧ L' = L) := by
  refine Con.ofK (fun post K => ?_)
  refine Con.of (ls := [(0, xI ch)]) (by decide) rfl rfl (Nat.le_of_ble_eq_true rfl) ?_
  intro p e s m args below meth c A X hr hA
  refine gx_iload_n X d_Pa_isOperator_0 rfl rfl ?_
  refine gx_bipush X d_Pa_isOperator_1 (v := nI 43) (by decide) ?_
  refine gx_icmp_eq X d_Pa_isOperator_3 (tgt := 30) (by decide) (fun h3 => ?_) (fun h3 => ?_)
  · refine gx_iconst X d_Pa_isOperator_30 (v := nI 1) (by decide) ?_
    refine gx_goto X d_Pa_isOperator_31 (tgt := 35) (by decide) ?_
    refine gx_zret X hr (by first | rfl | decide) hA d_Pa_isOperator_35 (K _ _ _ ⟨by rw [show isOp ch = true by simp [isOp, h3]]; rfl, rfl, rfl⟩)
  refine gx_iload_n X d_Pa_isOperator_6 rfl rfl ?_
  refine gx_bipush X d_Pa_isOperator_7 (v := nI 45) (by decide) ?_
  refine gx_icmp_eq X d_Pa_isOperator_9 (tgt := 30) (by decide) (fun h9 => ?_) (fun h9 => ?_)
  · refine gx_iconst X d_Pa_isOperator_30 (v := nI 1) (by decide) ?_
    refine gx_goto X d_Pa_isOperator_31 (tgt := 35) (by decide) ?_
    refine gx_zret X hr (by first | rfl | decide) hA d_Pa_isOperator_35 (K _ _ _ ⟨by rw [show isOp ch = true by simp [isOp, h9]]; rfl, rfl, rfl⟩)
  refine gx_iload_n X d_Pa_isOperator_12 rfl rfl ?_
  refine gx_bipush X d_Pa_isOperator_13 (v := nI 42) (by decide) ?_
  refine gx_icmp_eq X d_Pa_isOperator_15 (tgt := 30) (by decide) (fun h15 => ?_) (fun h15 => ?_)
  · refine gx_iconst X d_Pa_isOperator_30 (v := nI 1) (by decide) ?_
    refine gx_goto X d_Pa_isOperator_31 (tgt := 35) (by decide) ?_
    refine gx_zret X hr (by first | rfl | decide) hA d_Pa_isOperator_35 (K _ _ _ ⟨by rw [show isOp ch = true by simp [isOp, h15]]; rfl, rfl, rfl⟩)
  refine gx_iload_n X d_Pa_isOperator_18 rfl rfl ?_
  refine gx_bipush X d_Pa_isOperator_19 (v := nI 38) (by decide) ?_
  refine gx_icmp_eq X d_Pa_isOperator_21 (tgt := 30) (by decide) (fun h21 => ?_) (fun h21 => ?_)
  · refine gx_iconst X d_Pa_isOperator_30 (v := nI 1) (by decide) ?_
    refine gx_goto X d_Pa_isOperator_31 (tgt := 35) (by decide) ?_
    refine gx_zret X hr (by first | rfl | decide) hA d_Pa_isOperator_35 (K _ _ _ ⟨by rw [show isOp ch = true by simp [isOp, h21]]; rfl, rfl, rfl⟩)
  refine gx_iload_n X d_Pa_isOperator_24 rfl rfl ?_
  refine gx_bipush X d_Pa_isOperator_25 (v := nI 94) (by decide) ?_
  refine gx_icmp_ne X d_Pa_isOperator_27 (tgt := 34) (by decide) (fun h27 => ?_) (fun h27 => ?_)
  · refine gx_iconst X d_Pa_isOperator_34 (v := nI 0) (by decide) ?_
    refine gx_zret X hr (by first | rfl | decide) hA d_Pa_isOperator_35 (K _ _ _ ⟨by rw [show isOp ch = false by simp [isOp, h3, h9, h15, h21, h27]]; rfl, rfl, rfl⟩)
  · refine gx_iconst X d_Pa_isOperator_30 (v := nI 1) (by decide) ?_
    refine gx_goto X d_Pa_isOperator_31 (tgt := 35) (by decide) ?_
    refine gx_zret X hr (by first | rfl | decide) hA d_Pa_isOperator_35 (K _ _ _ ⟨by rw [show isOp ch = true by simp [isOp, h27]]; rfl, rfl, rfl⟩)
theorem c_Pa_isComparison (ch : Int32) : Con l y_Pa_isComparison (Cond.code y_Pa_isComparison b_Pa_isComparison 1 (some .boolean) :: WT) rm_Pa_isComparison D vcl ca ks lay ad [xI ch] F L (fun r F' L' => r = some (xI (cond (isCmp ch) 1 0)) ∧ F' = F ∧ L' = L) := by
  refine Con.ofK (fun post K => ?_)
  refine Con.of (ls := [(0, xI ch)]) (by decide) rfl rfl (Nat.le_of_ble_eq_true rfl) ?_
  intro p e s m args below meth c A X hr hA
  refine gx_iload_n X d_Pa_isComparison_0 rfl rfl ?_
  refine gx_bipush X d_Pa_isComparison_1 (v := nI 60) (by decide) ?_
  refine gx_icmp_eq X d_Pa_isComparison_3 (tgt := 18) (by decide) (fun h3 => ?_) (fun h3 => ?_)
  · refine gx_iconst X d_Pa_isComparison_18 (v := nI 1) (by decide) ?_
    refine gx_goto X d_Pa_isComparison_19 (tgt := 23) (by decide) ?_
    refine gx_zret X hr (by first | rfl | decide) hA d_Pa_isComparison_23 (K _ _ _ ⟨by rw [show isCmp ch = true by simp [isCmp, h3]]; rfl, rfl, rfl⟩)
  refine gx_iload_n X d_Pa_isComparison_6 rfl rfl ?_
  refine gx_bipush X d_Pa_isComparison_7 (v := nI 61) (by decide) ?_
  refine gx_icmp_eq X d_Pa_isComparison_9 (tgt := 18) (by decide) (fun h9 => ?_) (fun h9 => ?_)
  · refine gx_iconst X d_Pa_isComparison_18 (v := nI 1) (by decide) ?_
    refine gx_goto X d_Pa_isComparison_19 (tgt := 23) (by decide) ?_
    refine gx_zret X hr (by first | rfl | decide) hA d_Pa_isComparison_23 (K _ _ _ ⟨by rw [show isCmp ch = true by simp [isCmp, h9]]; rfl, rfl, rfl⟩)
  refine gx_iload_n X d_Pa_isComparison_12 rfl rfl ?_
  refine gx_bipush X d_Pa_isComparison_13 (v := nI 35) (by decide) ?_
  refine gx_icmp_ne X d_Pa_isComparison_15 (tgt := 22) (by decide) (fun h15 => ?_) (fun h15 => ?_)
  · refine gx_iconst X d_Pa_isComparison_22 (v := nI 0) (by decide) ?_
    refine gx_zret X hr (by first | rfl | decide) hA d_Pa_isComparison_23 (K _ _ _ ⟨by rw [show isCmp ch = false by simp [isCmp, h3, h9, h15]]; rfl, rfl, rfl⟩)
  · refine gx_iconst X d_Pa_isComparison_18 (v := nI 1) (by decide) ?_
    refine gx_goto X d_Pa_isComparison_19 (tgt := 23) (by decide) ?_
    refine gx_zret X hr (by first | rfl | decide) hA d_Pa_isComparison_23 (K _ _ _ ⟨by rw [show isCmp ch = true by simp [isCmp, h15]]; rfl, rfl, rfl⟩)
theorem cb_f {b : Bool} (h : (cond b 1 0 : Int32) = 0) : b = false := by cases b with
  | false => rfl
  | true => exact absurd h (by decide)
theorem cb_t {b : Bool} (h : ¬ (cond b 1 0 : Int32) = 0) : b = true := by cases b with
  | true => rfl
  | false => exact absurd rfl h
theorem LiOK.of {F G : Nat → Nat → Int32} {n : Nat} (h : LiOK F n) (e2 : G 2 = F 2) (e3 : G 3 = F 3) : LiOK G n := by
  unfold LiOK
  rw [e2, e3]
  exact h
theorem FoOK.of {F G : Nat → Nat → Int32} {code : List Int32} (h : FoOK F code) (e4 : G 4 = F 4) (e5 : G 5 = F 5) : FoOK G code := by
  unfold FoOK
  rw [e4, e5]
  exact h
theorem ln_lt {n : Nat} {f : Nat → Int32} {i : Nat} (h : lnAt n f i ≠ 0) : i < n := by
  unfold lnAt at h
  split at h
  · assumption
  · exact absurd rfl h
/-- the parser stands at a place, with the code so far -/
def PaOK (F : Nat → Nat → Int32) (n : Nat) (ln : Nat → Int32) (q : pS) : Prop := LiOK F n ∧ F 3 = ln ∧ F 7 2 = nI q.1 ∧ q.1 ≤ 24 ∧ FoOK F q.2
abbrev rmP (d : Nat) : Room := { frames := 1 + 2 * d, cells := 0, slots := 0, locals := 30 + 50 * d }
abbrev rmT (d : Nat) : Room := { frames := 2 + 2 * d, cells := 0, slots := 0, locals := 55 + 50 * d }
def CP (l : Launch) (D : va_G) (ca : Nat → ClassId) (ks : List Nat) (lay : Nat → gxE) (ad : Nat → Nat) (n : Nat) (ln : Nat → Int32) (d : Nat) : Prop := ∀ (F : Nat → Nat → Int32) (L : Nat → Nat → Int64) (q : pS), PaOK F n ln q → Con l y_Pa_passPart (Cond.code y_Pa_passPart b_Pa_passPart 3 (some .boolean) :: WT) (rmP d) D vcl ca ks lay ad [xR 7, xI (nI (4 - d))] F L (fun r F' L' => r = some (xI (cond (ptPart n ln d q).1 1 0)) ∧ L' = L ∧ PaOK F' n ln (ptPart n ln d q).2 ∧ ∀ a, a ≠ 4 → a ≠ 5 → a ≠ 7 → F' a = F a)
def CT (l : Launch) (D : va_G) (ca : Nat → ClassId) (ks : List Nat) (lay : Nat → gxE) (ad : Nat → Nat) (n : Nat) (ln : Nat → Int32) (d : Nat) : Prop := ∀ (F : Nat → Nat → Int32) (L : Nat → Nat → Int64) (q : pS), PaOK F n ln q → Con l y_Pa_passTerm (Cond.code y_Pa_passTerm b_Pa_passTerm 4 (some .boolean) :: WT) (rmT d) D vcl ca ks lay ad [xR 7, xI (nI (4 - d))] F L (fun r F' L' => r = some (xI (cond (ptTerm n ln (ptPart n ln d) q).1 1 0)) ∧ L' = L ∧ PaOK F' n ln (ptTerm n ln (ptPart n ln d) q).2 ∧ ∀ a, a ≠ 4 → a ≠ 5 → a ≠ 7 → F' a = F a)
theorem ptPart_leaf {n : Nat} {f : Nat → Int32} {q : pS} (h : ptLeaf n f q = true) : ∀ d, ptPart n f d q = (true, (q.1 + 1, addC (lnAt n f q.1) q.2))
  | 0 => by unfold ptPart; rw [if_pos h]
  | d + 1 => by unfold ptPart; rw [if_pos h]
theorem ptPart_0 {n : Nat} {f : Nat → Int32} {q : pS} (h : ptLeaf n f q = false) : ptPart n f 0 q = (false, q) := by
  unfold ptPart; rw [if_neg (by rw [h]; decide)]
theorem ptPart_no {n : Nat} {f : Nat → Int32} {q : pS} (h : ptLeaf n f q = false) (h2 : ¬ lnAt n f q.1 = nI 40) : ∀ d, ptPart n f d q = (false, q)
  | 0 => ptPart_0 h
  | d + 1 => by unfold ptPart; rw [if_neg (by rw [h]; decide), if_neg h2]
theorem ptPart_par {n : Nat} {f : Nat → Int32} {q : pS} (h : ptLeaf n f q = false) (h2 : lnAt n f q.1 = nI 40) (d : Nat) : ptPart n f (d + 1) q = if (ptTerm n f (ptPart n f d) (q.1 + 1, q.2)).1 = true ∧ lnAt n f (ptTerm n f (ptPart n f d) (q.1 + 1, q.2)).2.1 = nI 41
          then (true, ((ptTerm n f (ptPart n f d) (q.1 + 1, q.2)).2.1 + 1, (ptTerm n f (ptPart n f d) (q.1 + 1, q.2)).2.2))
          else (false, (ptTerm n f (ptPart n f d) (q.1 + 1, q.2)).2) := by
  rw [ptPart, if_neg (by rw [h]; decide), if_pos h2]
/-- the place moves on -/
theorem PaOK.step {F : Nat → Nat → Int32} {n : Nat} {ln : Nat → Int32} {q : pS} {k : Nat} (h : PaOK F n ln q) (hk : k ≤ 24) : PaOK (gxu F 7 2 (nI k)) n ln (k, q.2) := by
  obtain ⟨h1, h2, h3, h4, h5⟩ := h
  exact ⟨h1.of (gxu_cell (by decide)) (gxu_cell (by decide)), by rw [gxu_cell (by decide)]; exact h2, gxu_at, hk, h5.of (gxu_cell (by decide)) (gxu_cell (by decide))⟩
set_option maxHeartbeats 4000000 in
theorem part_ok (HX : gH ks lay N sX) {d : Nat} (hd : d ≤ 4) (hT : ∀ d', d = d' + 1 → CT l D ca ks lay ad n ln d') : CP l D ca ks lay ad n ln d := by
  intro F L q hq
  obtain ⟨h1, h2, h3, h4, h5⟩ := id hq
  have hn : n ≤ 24 := h1.1
  refine Con.ofK (fun post K => ?_)
  refine Con.of (ls := [(0, xR 7), (1, xI (nI (4 - d)))]) (by decide) rfl rfl (Nat.le_of_ble_eq_true rfl) ?_
  intro p e s m args below meth c A X hr hA
  refine gx_aload_n X d_Pa_passPart_0 rfl rfl ?_
  refine gx_getr X d_Pa_passPart_1 (gci in_Pa) (HX _ rfl).1 (HX _ rfl).2 rfl 0 (by decide) (gcw X lk_Pa_15) (fun _ h => h) rfl ?_
  refine gx_aload_n X d_Pa_passPart_4 rfl rfl ?_
  refine gx_geti X d_Pa_passPart_5 (gci in_Pa) (HX _ rfl).1 (HX _ rfl).2 rfl 2 (by decide) (gcw X lk_Pa_9) (fun _ h => h) rfl ?_
  refine gx_top h3 ?_
  refine gx_callV X d_Pa_passPart_8 mf_Li_at lk_Pa_23 (c_Li_at HX h1 (j := q.1) (by omega)) (HX _ rfl).1 (HX _ rfl).2 rfl rfl rfl (Nat.le_of_ble_eq_true rfl) ⟨by simp, by simp; omega⟩ ⟨rfl, rfl⟩ ⟨Nat.zero_le _, Nat.zero_le _⟩ (fun r8 F8 L8 hp8 => ?_)
  obtain ⟨rfl, rfl, rfl⟩ := hp8
  rw [h2]
  generalize hch : lnAt n ln q.1 = ch
  have hleafE : ptLeaf n ln q = (isVar ch || isDig ch) := by unfold ptLeaf; rw [hch]
  have J : ptLeaf n ln q = true → GX p l e (rmP d) s m args below meth c (MQ below (gxQ D vcl ca ks lay ad s.heap.size post) args s 0 0 (gxA ks ad s.heap.size)) 3 A D vcl ca ks lay ad 0 0 26 [(2, xI ch), (0, xR 7), (1, xI (nI (4 - d)))] [] F8 L8 := by
    intro hleaf
    have hk : ∃ k, 48 ≤ k ∧ k ≤ 122 ∧ ch = nI k := by
      rw [hleafE, Bool.or_eq_true] at hleaf
      rcases hleaf with h | h
      · obtain ⟨k, a, b, c⟩ := rg_nI (by decide) (by decide) h
        exact ⟨k, by omega, b, c⟩
      · obtain ⟨k, a, b, c⟩ := rg_nI (by decide) (by decide) h
        exact ⟨k, a, by omega, c⟩
    obtain ⟨k, hk1, hk2, rfl⟩ := hk
    have hlt : q.1 < n := ln_lt (f := ln) (by rw [hch]; exact fun z => nI_ne0 (by omega) (by omega) z)
    refine gx_aload_n X d_Pa_passPart_26 rfl rfl ?_
    refine gx_getr X d_Pa_passPart_27 (gci in_Pa) (HX _ rfl).1 (HX _ rfl).2 rfl 1 (by decide) (gcw X lk_Pa_19) (fun _ h => h) rfl ?_
    refine gx_iload_n X d_Pa_passPart_30 rfl rfl ?_
    refine gx_callV X d_Pa_passPart_31 mf_Fo_add lk_Pa_54 (c_Fo_add HX h5 (q := k) (by omega)) (HX _ rfl).1 (HX _ rfl).2 rfl rfl rfl (Nat.le_of_ble_eq_true rfl) ⟨by simp, by simp; omega⟩ ⟨rfl, rfl⟩ ⟨Nat.zero_le _, Nat.zero_le _⟩ (fun r31 F31 L31 hp31 => ?_)
    obtain ⟨rfl, rfl, g1, g2⟩ := hp31
    have e7 : F31 7 2 = nI q.1 := by rw [g2 7 (by decide) (by decide)]; exact h3
    refine gx_aload_n X d_Pa_passPart_34 rfl rfl ?_
    refine gx_dup X d_Pa_passPart_35 rfl ?_
    refine gx_geti X d_Pa_passPart_36 (gci in_Pa) (HX _ rfl).1 (HX _ rfl).2 rfl 2 (by decide) (gcw X lk_Pa_9) (fun _ h => h) rfl ?_
    refine gx_top e7 ?_
    refine gx_iconst X d_Pa_passPart_39 (v := nI 1) (by decide) ?_
    refine gx_iadd X d_Pa_passPart_40 ?_
    refine gx_top (nI_add q.1 1) ?_
    refine gx_puti X d_Pa_passPart_41 (gci in_Pa) (HX _ rfl).1 (HX _ rfl).2 rfl 2 (by decide) (gcw X lk_Pa_9) (fun _ h => h) t_Pa ty_Pa nm_Pa rfl (ty_Pa 2 (by decide)) rfl rfl rfl ?_
    refine gx_iconst X d_Pa_passPart_44 (v := nI 1) (by decide) ?_
    refine gx_zret X hr (by first | rfl | decide) hA d_Pa_passPart_45 (K _ _ _ ⟨by rw [ptPart_leaf hleaf]; rfl, rfl, ?_, fun a a4 a5 a7 => by rw [gxu_cell a7]; exact g2 a a4 a5⟩)
    rw [ptPart_leaf hleaf, hch]
    exact PaOK.step (q := (q.1, addC (nI k) q.2)) ⟨h1.of (g2 2 (by decide) (by decide)) (g2 3 (by decide) (by decide)), by rw [g2 3 (by decide) (by decide)]; exact h2, e7, h4, g1⟩ (by omega)
  refine gx_istore_n X d_Pa_passPart_11 rfl (by decide) ?_
  refine gx_iload_n X d_Pa_passPart_12 rfl rfl ?_
  refine gx_callS X d_Pa_passPart_13 mf_Fo_isVariable lk_Pa_33 (c_Fo_isVariable ch) rfl rfl (Nat.le_of_ble_eq_true rfl) ⟨by simp, by simp; omega⟩ ⟨rfl, rfl⟩ ⟨Nat.zero_le _, Nat.zero_le _⟩ (fun r13 F13 L13 hp13 => ?_)
  obtain ⟨rfl, rfl, rfl⟩ := hp13
  refine gx_if_ne X d_Pa_passPart_16 (tgt := 26) (by decide) (fun h16 => ?_) (fun h16 => ?_)
  · exact gx_el (J (by rw [hleafE, cb_t h16]; rfl)) ⟨rfl, rfl, rfl, trivial⟩
  have hv := cb_f h16
  refine gx_iload_n X d_Pa_passPart_19 rfl rfl ?_
  refine gx_callS X d_Pa_passPart_20 mf_Fo_isDigit lk_Pa_64 (c_Fo_isDigit ch) rfl rfl (Nat.le_of_ble_eq_true rfl) ⟨by simp, by simp; omega⟩ ⟨rfl, rfl⟩ ⟨Nat.zero_le _, Nat.zero_le _⟩ (fun r20 F20 L20 hp20 => ?_)
  obtain ⟨rfl, rfl, rfl⟩ := hp20
  refine gx_if_eq X d_Pa_passPart_23 (tgt := 46) (by decide) (fun h23 => ?_) (fun h23 => ?_)
  · have hleaf : ptLeaf n ln q = false := by rw [hleafE, hv, cb_f h23]; rfl
    refine gx_iload_n X d_Pa_passPart_46 rfl rfl ?_
    refine gx_bipush X d_Pa_passPart_47 (v := nI 40) (by decide) ?_
    refine gx_icmp_ne X d_Pa_passPart_49 (tgt := 57) (by decide) (fun h49 => ?_) (fun h49 => ?_)
    · refine gx_iconst X d_Pa_passPart_57 (v := nI 0) (by decide) ?_
      refine gx_zret X hr (by first | rfl | decide) hA d_Pa_passPart_58 (K _ _ _ ⟨by rw [ptPart_no hleaf (by rw [hch]; exact h49)]; rfl, rfl, by rw [ptPart_no hleaf (by rw [hch]; exact h49)]; exact hq, fun _ _ _ _ => rfl⟩)
    · have h40 : lnAt n ln q.1 = nI 40 := by rw [hch]; exact h49
      have hlt : q.1 < n := ln_lt (f := ln) (by rw [h40]; decide)
      refine gx_iload_n X d_Pa_passPart_52 rfl rfl ?_
      refine gx_iconst X d_Pa_passPart_53 (v := nI 4) (by decide) ?_
      refine gx_icmp_lt X d_Pa_passPart_54 (tgt := 59) (by decide) (fun h54 => ?_) (fun h54 => ?_)
      · have hd0 : 4 - d < 4 := (nI_ltI (by omega) (by decide)).mp h54
        obtain ⟨d', rfl⟩ : ∃ d', d = d' + 1 := ⟨d - 1, by omega⟩
        refine gx_aload_n X d_Pa_passPart_59 rfl rfl ?_
        refine gx_dup X d_Pa_passPart_60 rfl ?_
        refine gx_geti X d_Pa_passPart_61 (gci in_Pa) (HX _ rfl).1 (HX _ rfl).2 rfl 2 (by decide) (gcw X lk_Pa_9) (fun _ h => h) rfl ?_
        refine gx_top h3 ?_
        refine gx_iconst X d_Pa_passPart_64 (v := nI 1) (by decide) ?_
        refine gx_iadd X d_Pa_passPart_65 ?_
        refine gx_top (nI_add q.1 1) ?_
        refine gx_puti X d_Pa_passPart_66 (gci in_Pa) (HX _ rfl).1 (HX _ rfl).2 rfl 2 (by decide) (gcw X lk_Pa_9) (fun _ h => h) t_Pa ty_Pa nm_Pa rfl (ty_Pa 2 (by decide)) rfl rfl rfl ?_
        refine gx_aload_n X d_Pa_passPart_69 rfl rfl ?_
        refine gx_iload_n X d_Pa_passPart_70 rfl rfl ?_
        refine gx_iconst X d_Pa_passPart_71 (v := nI 1) (by decide) ?_
        refine gx_iadd X d_Pa_passPart_72 ?_
        refine gx_top (y := nI (4 - d')) (by rw [nI_add]; congr 1; omega) ?_
        have hq2 : PaOK (gxu F20 7 2 (nI (q.1 + 1))) n ln (q.1 + 1, q.2) := hq.step (by omega)
        refine gx_callV X d_Pa_passPart_73 mf_Pa_passTerm lk_Pa_48 (hT d' rfl (gxu F20 7 2 (nI (q.1 + 1))) L20 (q.1 + 1, q.2) hq2) (HX _ rfl).1 (HX _ rfl).2 rfl rfl rfl (Nat.le_of_ble_eq_true rfl) ⟨by simp; omega, by simp; omega⟩ ⟨rfl, rfl⟩ ⟨Nat.zero_le _, Nat.zero_le _⟩ (fun r73 F73 L73 hp73 => ?_)
        obtain ⟨rfl, rfl, g1, g2⟩ := hp73
        generalize hr2 : ptTerm n ln (ptPart n ln d') (q.1 + 1, q.2) = t at g1
        have hpp := ptPart_par hleaf h40 d'
        rw [hr2] at hpp
        obtain ⟨k1, k2, k3, k4, k5⟩ := id g1
        have g3 : ∀ a, a ≠ 4 → a ≠ 5 → a ≠ 7 → F73 a = F20 a := fun a a4 a5 a7 => by rw [g2 a a4 a5 a7, gxu_cell a7]
        refine gx_if_eq X d_Pa_passPart_76 (tgt := 95) (by decide) (fun h76 => ?_) (fun h76 => ?_)
        · have ht := cb_f h76
          rw [if_neg (by rw [ht]; exact fun z => absurd z.1 (by decide))] at hpp
          refine gx_iconst X d_Pa_passPart_95 (v := nI 0) (by decide) ?_
          refine gx_zret X hr (by first | rfl | decide) hA d_Pa_passPart_96 (K _ _ _ ⟨by rw [hpp]; rfl, rfl, by rw [hpp]; exact g1, g3⟩)
        · have ht := cb_t h76
          refine gx_aload_n X d_Pa_passPart_79 rfl rfl ?_
          refine gx_getr X d_Pa_passPart_80 (gci in_Pa) (HX _ rfl).1 (HX _ rfl).2 rfl 0 (by decide) (gcw X lk_Pa_15) (fun _ h => h) rfl ?_
          refine gx_aload_n X d_Pa_passPart_83 rfl rfl ?_
          refine gx_geti X d_Pa_passPart_84 (gci in_Pa) (HX _ rfl).1 (HX _ rfl).2 rfl 2 (by decide) (gcw X lk_Pa_9) (fun _ h => h) rfl ?_
          refine gx_top k3 ?_
          refine gx_callV X d_Pa_passPart_87 mf_Li_at lk_Pa_23 (c_Li_at HX k1 (j := t.2.1) (by omega)) (HX _ rfl).1 (HX _ rfl).2 rfl rfl rfl (Nat.le_of_ble_eq_true rfl) ⟨by simp, by simp; omega⟩ ⟨rfl, rfl⟩ ⟨Nat.zero_le _, Nat.zero_le _⟩ (fun r87 F87 L87 hp87 => ?_)
          obtain ⟨rfl, rfl, rfl⟩ := hp87
          rw [k2]
          refine gx_bipush X d_Pa_passPart_90 (v := nI 41) (by decide) ?_
          refine gx_icmp_eq X d_Pa_passPart_92 (tgt := 97) (by decide) (fun h92 => ?_) (fun h92 => ?_)
          · have hlt2 : t.2.1 < n := ln_lt (f := ln) (by rw [h92]; decide)
            rw [if_pos ⟨ht, h92⟩] at hpp
            refine gx_aload_n X d_Pa_passPart_97 rfl rfl ?_
            refine gx_dup X d_Pa_passPart_98 rfl ?_
            refine gx_geti X d_Pa_passPart_99 (gci in_Pa) (HX _ rfl).1 (HX _ rfl).2 rfl 2 (by decide) (gcw X lk_Pa_9) (fun _ h => h) rfl ?_
            refine gx_top k3 ?_
            refine gx_iconst X d_Pa_passPart_102 (v := nI 1) (by decide) ?_
            refine gx_iadd X d_Pa_passPart_103 ?_
            refine gx_top (nI_add t.2.1 1) ?_
            refine gx_puti X d_Pa_passPart_104 (gci in_Pa) (HX _ rfl).1 (HX _ rfl).2 rfl 2 (by decide) (gcw X lk_Pa_9) (fun _ h => h) t_Pa ty_Pa nm_Pa rfl (ty_Pa 2 (by decide)) rfl rfl rfl ?_
            refine gx_iconst X d_Pa_passPart_107 (v := nI 1) (by decide) ?_
            refine gx_zret X hr (by first | rfl | decide) hA d_Pa_passPart_108 (K _ _ _ ⟨by rw [hpp]; rfl, rfl, by rw [hpp]; exact g1.step (by omega), fun a a4 a5 a7 => by rw [gxu_cell a7]; exact g3 a a4 a5 a7⟩)
          · rw [if_neg (fun z => h92 z.2)] at hpp
            refine gx_iconst X d_Pa_passPart_95 (v := nI 0) (by decide) ?_
            refine gx_zret X hr (by first | rfl | decide) hA d_Pa_passPart_96 (K _ _ _ ⟨by rw [hpp]; rfl, rfl, by rw [hpp]; exact g1, g3⟩)
      · have hd0 : d = 0 := by
          have : ¬ 4 - d < 4 := fun z => h54 ((nI_ltI (by omega) (by decide)).mpr z)
          omega
        subst hd0
        refine gx_iconst X d_Pa_passPart_57 (v := nI 0) (by decide) ?_
        refine gx_zret X hr (by first | rfl | decide) hA d_Pa_passPart_58 (K _ _ _ ⟨by rw [ptPart_0 hleaf]; rfl, rfl, by rw [ptPart_0 hleaf]; exact hq, fun _ _ _ _ => rfl⟩)
  · exact gx_el (J (by rw [hleafE, cb_t h23]; simp)) ⟨rfl, rfl, rfl, trivial⟩
end
