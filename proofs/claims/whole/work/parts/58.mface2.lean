/-! the reference's face: what is asked of it (own text) -/
section
variable {l : Launch} {D : va_G} {ca : Nat → ClassId} {ks : List Nat} {lay : Nat → gxE} {ad : Nat → Nat} {F : Nat → Nat → Int32} {L : Nat → Nat → Int64} {N w n : Nat} {z : kS}
/-- the reference's refusal -/
theorem MOK.no (hz : MOK F L w z) (x : Int32) : MOK (gxu (gxu F 40 3 (nI 0)) 40 3 x) L w z ∧ gxu (gxu F 40 3 (nI 0)) 40 3 x 40 3 = x := ⟨(hz.cd (nI 0)).cd x, gxu_at⟩
theorem MOK.c0 (hz : MOK F L w z) : MOK (gxu F 40 3 (nI 0)) L w z ∧ gxu F 40 3 (nI 0) 40 3 = nI 0 := ⟨hz.cd (nI 0), gxu_at⟩
/-- a place below a bound, as an int -/
def inR (x : Int32) (m : Nat) : Prop := 0 ≤ x ∧ x < nI m
theorem inR_nI {x : Int32} {m : Nat} (h : inR x m) (hm : m < 2 ^ 31) : ∃ k, k < m ∧ x = nI k := by
  obtain ⟨k, hk, rfl⟩ := nI_of (Int32.not_lt.mpr h.1)
  exact ⟨k, (nI_ltI hk hm).mp h.2, rfl⟩
set_option maxHeartbeats 4000000 in
theorem m_holds (HX : gH ks lay N sM) (hz : MOK F L w z) (x y : Int32) : Con l y_Mo_holds (Cond.code y_Mo_holds b_Mo_holds 3 (some .boolean) :: WT) rm_Mo_holds D vcl ca ks lay ad [xR 40, xI x, xI y] F L (fun r F' L' => L' = L ∧ MOK F' L' w z ∧ (∀ k q, x = nI k → y = nI q → k < z.np → q < 2 ^ (3 * w) → r = some (xI (cond ((z.sg q).testBit k) 1 0)) ∧ F' 40 3 = nI 0) ∧ (¬ (inR x z.np ∧ inR y (2 ^ (3 * w))) → r = some (xI (nI 0)) ∧ F' 40 3 = nI 1)) := by
  have hw : w < 4 := by have := hz.1.1; omega
  have hN := pu_N w hw
  have hg := hz.2.2.2.1
  have hnp := hg.1
  refine Con.ofK (fun post K => ?_)
  refine Con.of (ls := [(0, xR 40), (1, xI x), (2, xI y)]) (by decide) rfl rfl (Nat.le_of_ble_eq_true rfl) ?_
  intro p e s m args below meth c A X hr hA
  have no : ¬ (inR x z.np ∧ inR y (2 ^ (3 * w))) → GX p l e rm_Mo_holds s m args below meth c (MQ below (gxQ D vcl ca ks lay ad s.heap.size post) args s 0 0 (gxA ks ad s.heap.size)) 3 A D vcl ca ks lay ad 0 0 47 [(2, xI y), (1, xI x), (0, xR 40)] [] (gxu F 40 3 (nI 0)) L := by
    intro h
    obtain ⟨a1, a2⟩ := hz.no (nI 1)
    refine gx_aload_n X d_Mo_holds_47 rfl rfl ?_
    refine gx_iconst X d_Mo_holds_48 (v := nI 1) (by decide) ?_
    refine gx_puti X d_Mo_holds_49 (gci in_Mo) (HX _ rfl).1 (HX _ rfl).2 rfl 3 (by decide) (gcw X lk_Mo_85) (fun _ h => h) t_Mo ty_Mo nm_Mo rfl (ty_Mo 3 (by decide)) rfl rfl rfl ?_
    refine gx_iconst X d_Mo_holds_52 (v := nI 0) (by decide) ?_
    refine gx_zret X hr (by first | rfl | decide) hA d_Mo_holds_53 (K _ _ _ ⟨rfl, a1, fun k q e1 e2 e3 e4 => absurd ⟨⟨by rw [e1]; exact (nI_leI (a := 0) (by decide) (by omega)).mpr (Nat.zero_le _), by rw [e1]; exact (nI_ltI (by omega) (by omega)).mpr e3⟩, ⟨by rw [e2]; exact (nI_leI (a := 0) (by decide) (by omega)).mpr (Nat.zero_le _), by rw [e2]; exact (nI_ltI (by omega) (by omega)).mpr e4⟩⟩ h, fun _ => ⟨rfl, a2⟩⟩)
  refine gx_aload_n X d_Mo_holds_0 rfl rfl ?_
  refine gx_iconst X d_Mo_holds_1 (v := nI 0) (by decide) ?_
  refine gx_puti X d_Mo_holds_2 (gci in_Mo) (HX _ rfl).1 (HX _ rfl).2 rfl 3 (by decide) (gcw X lk_Mo_85) (fun _ h => h) t_Mo ty_Mo nm_Mo rfl (ty_Mo 3 (by decide)) rfl rfl rfl ?_
  refine gx_iload_n X d_Mo_holds_5 rfl rfl ?_
  refine gx_if_lt X d_Mo_holds_6 (tgt := 47) (by decide) (fun h6 => ?_) (fun h6 => ?_)
  · exact gx_el (no (fun q => absurd q.1.1 (Int32.not_le.mpr h6))) ⟨rfl, rfl, rfl, trivial⟩
  · refine gx_iload_n X d_Mo_holds_9 rfl rfl ?_
    refine gx_aload_n X d_Mo_holds_10 rfl rfl ?_
    refine gx_geti X d_Mo_holds_11 (gci in_Mo) (HX _ rfl).1 (HX _ rfl).2 rfl 12 (by decide) (gcw X lk_Mo_155) (fun _ h => h) rfl ?_
    refine gx_top (y := nI z.np) (by rw [gxu_ne (by decide)]; exact hg.2.1) ?_
    refine gx_icmp_ge X d_Mo_holds_14 (tgt := 47) (by decide) (fun h14 => ?_) (fun h14 => ?_)
    · exact gx_el (no (fun q => absurd q.1.2 (Int32.not_lt.mpr h14))) ⟨rfl, rfl, rfl, trivial⟩
    · refine gx_aload_n X d_Mo_holds_17 rfl rfl ?_
      refine gx_iload_n X d_Mo_holds_18 rfl rfl ?_
      refine gx_callV X d_Mo_holds_19 mf_Mo_isState lk_Mo_219 (c_Mo_isState HX (w := w) (by rw [gxu_ne (by decide)]; exact hz.1.2.2.2) y) (HX _ rfl).1 (HX _ rfl).2 rfl rfl rfl (Nat.le_of_ble_eq_true rfl) ⟨by decide, by decide⟩ ⟨rfl, rfl⟩ ⟨Nat.zero_le _, Nat.zero_le _⟩ (fun r19 F19 L19 hp19 => ?_)
      obtain ⟨rfl, rfl, rfl⟩ := hp19
      by_cases hs : 0 ≤ y ∧ y < nI (2 ^ (3 * w))
      · rw [if_pos hs]
        obtain ⟨k, hk, rfl⟩ := inR_nI (x := x) (m := z.np) ⟨Int32.not_lt.mp h6, Int32.not_le.mp h14⟩ (by omega)
        obtain ⟨q, hq, rfl⟩ := inR_nI (x := y) hs (by omega)
        obtain ⟨-, -, hb⟩ := hg.2.2 q hq
        refine gx_if_eq X d_Mo_holds_22 (tgt := 47) (by decide) (fun h22 => ?_) (fun h22 => ?_)
        · exact absurd h22 (by decide)
        · refine gx_aload_n X d_Mo_holds_25 rfl rfl ?_
          refine gx_getr X d_Mo_holds_26 (gci in_Mo) (HX _ rfl).1 (HX _ rfl).2 rfl 13 (by decide) (gcw X lk_Mo_29) (fun _ h => h) rfl ?_
          refine gx_bipush X d_Mo_holds_29 (v := nI 8) (by decide) ?_
          refine gx_iload_n X d_Mo_holds_31 rfl rfl ?_
          refine gx_imul X d_Mo_holds_32 ?_
          refine gx_top (pk_mul 8 k) ?_
          refine gx_iload_n X d_Mo_holds_33 rfl rfl ?_
          refine gx_callS X d_Mo_holds_34 mf_Mo_bit lk_Mo_148 (c_Mo_bit (k := 47) (n := 96) (HX 47 rfl).1 (HX 47 rfl).2 (by decide) (a0 := 8 * k) (q := q) (by omega) (by omega)) rfl rfl (Nat.le_of_ble_eq_true rfl) ⟨by decide, by decide⟩ ⟨rfl, rfl⟩ ⟨Nat.zero_le _, Nat.zero_le _⟩ (fun r34 F34 L34 hp34 => ?_)
          obtain ⟨rfl, hF, rfl⟩ := hp34
          rw [hb k hk]
          have fin : ∀ r : Option xV, r = some (xI (cond ((z.sg q).testBit k) 1 0)) → post r F34 L34 := fun r hr2 => K _ _ _ ⟨rfl, by rw [hF]; exact hz.c0.1, fun k2 q2 e1 e2 e3 e4 => by
            have f1 := (nI_eq (by omega) (by omega)).mp e1
            have f2 := (nI_eq (by omega) (by omega)).mp e2
            subst f1
            subst f2
            exact ⟨hr2, by rw [hF]; exact hz.c0.2⟩, fun h => absurd ⟨⟨Int32.not_lt.mp h6, Int32.not_le.mp h14⟩, hs⟩ h⟩
          cases hb2 : (z.sg q).testBit k with
          | true =>
            refine gx_iconst X d_Mo_holds_37 (v := nI 1) (by decide) ?_
            refine gx_icmp_ne X d_Mo_holds_38 (tgt := 45) (by decide) (fun h38 => ?_) (fun h38 => ?_)
            · exact absurd (show (1 : Int32) = nI 1 by decide) h38
            · refine gx_iconst X d_Mo_holds_41 (v := nI 1) (by decide) ?_
              refine gx_goto X d_Mo_holds_42 (tgt := 46) (by decide) ?_
              refine gx_zret X hr (by first | rfl | decide) hA d_Mo_holds_46 (fin _ ?_)
              rw [hb2]
              rfl
          | false =>
            refine gx_iconst X d_Mo_holds_37 (v := nI 1) (by decide) ?_
            refine gx_icmp_ne X d_Mo_holds_38 (tgt := 45) (by decide) (fun h38 => ?_) (fun h38 => ?_)
            · refine gx_iconst X d_Mo_holds_45 (v := nI 0) (by decide) ?_
              refine gx_zret X hr (by first | rfl | decide) hA d_Mo_holds_46 (fin _ ?_)
              rw [hb2]
              rfl
            · exact absurd h38 (show ¬ (0 : Int32) = nI 1 by decide)
      · rw [if_neg hs]
        refine gx_if_eq X d_Mo_holds_22 (tgt := 47) (by decide) (fun h22 => ?_) (fun h22 => ?_)
        · exact gx_el (no (fun q => hs q.2)) ⟨rfl, rfl, rfl, trivial⟩
        · exact absurd rfl h22
set_option maxHeartbeats 4000000 in
theorem m_signature (HX : gH ks lay N sM) (hz : MOK F L w z) (x : Int32) : Con l y_Mo_signature (Cond.code y_Mo_signature b_Mo_signature 2 (some .short) :: WT) rm_Mo_signature D vcl ca ks lay ad [xR 40, xI x] F L (fun r F' L' => L' = L ∧ MOK F' L' w z ∧ (∀ q, x = nI q → q < 2 ^ (3 * w) → r = some (xI (nI (z.sg q))) ∧ F' 40 3 = nI 0) ∧ (¬ inR x (2 ^ (3 * w)) → r = some (xI (nI 0)) ∧ F' 40 3 = nI 1)) := by
  have hw : w < 4 := by have := hz.1.1; omega
  have hN := pu_N w hw
  have hg := hz.2.2.2.1
  refine Con.ofK (fun post K => ?_)
  refine Con.of (ls := [(0, xR 40), (1, xI x)]) (by decide) rfl rfl (Nat.le_of_ble_eq_true rfl) ?_
  intro p e s m args below meth c A X hr hA
  refine gx_aload_n X d_Mo_signature_0 rfl rfl ?_
  refine gx_iconst X d_Mo_signature_1 (v := nI 0) (by decide) ?_
  refine gx_puti X d_Mo_signature_2 (gci in_Mo) (HX _ rfl).1 (HX _ rfl).2 rfl 3 (by decide) (gcw X lk_Mo_85) (fun _ h => h) t_Mo ty_Mo nm_Mo rfl (ty_Mo 3 (by decide)) rfl rfl rfl ?_
  refine gx_aload_n X d_Mo_signature_5 rfl rfl ?_
  refine gx_iload_n X d_Mo_signature_6 rfl rfl ?_
  refine gx_callV X d_Mo_signature_7 mf_Mo_isState lk_Mo_219 (c_Mo_isState HX (w := w) (by rw [gxu_ne (by decide)]; exact hz.1.2.2.2) x) (HX _ rfl).1 (HX _ rfl).2 rfl rfl rfl (Nat.le_of_ble_eq_true rfl) ⟨by decide, by decide⟩ ⟨rfl, rfl⟩ ⟨Nat.zero_le _, Nat.zero_le _⟩ (fun r7 F7 L7 hp7 => ?_)
  obtain ⟨rfl, hF, rfl⟩ := hp7
  by_cases hs : 0 ≤ x ∧ x < nI (2 ^ (3 * w))
  · rw [if_pos hs]
    obtain ⟨q, hq, rfl⟩ := inR_nI (x := x) hs (by omega)
    have hsl := hg.lt hq
    refine gx_if_eq X d_Mo_signature_10 (tgt := 22) (by decide) (fun h10 => ?_) (fun h10 => ?_)
    · exact absurd h10 (by decide)
    · refine gx_aload_n X d_Mo_signature_13 rfl rfl ?_
      refine gx_getr X d_Mo_signature_14 (gci in_Mo) (HX _ rfl).1 (HX _ rfl).2 rfl 14 (by decide) (gcw X lk_Mo_32) (fun _ h => h) rfl ?_
      refine gx_iload_n X d_Mo_signature_17 rfl rfl ?_
      refine gx_iald X d_Mo_signature_18 (HX _ rfl).1 (HX _ rfl).2 rfl (by omega) (by omega) ?_
      refine gx_top (y := nI (z.sg q)) (by rw [hF, gxu_cell (by decide)]; exact (hg.2.2 q hq).1) ?_
      refine gx_goto X d_Mo_signature_19 (tgt := 27) (by decide) ?_
      refine gx_i2s X d_Mo_signature_27 (i16_dec _ hsl) ?_
      refine gx_zret X hr (by show Value.int _ = _; rw [i16_dec _ hsl]) hA d_Mo_signature_28 (K _ _ _ ⟨rfl, by rw [hF]; exact hz.c0.1, fun q2 e1 e2 => ⟨by rw [(nI_eq (a := q) (b := q2) (by omega) (by omega)).mp e1], by rw [hF]; exact hz.c0.2⟩, fun h => absurd hs h⟩)
  · rw [if_neg hs]
    refine gx_if_eq X d_Mo_signature_10 (tgt := 22) (by decide) (fun h10 => ?_) (fun h10 => ?_)
    · refine gx_aload_n X d_Mo_signature_22 rfl rfl ?_
      refine gx_iconst X d_Mo_signature_23 (v := nI 1) (by decide) ?_
      refine gx_callV X d_Mo_signature_24 mf_Mo_fail lk_Mo_132 (c_Mo_fail HX (nI 1)) (HX _ rfl).1 (HX _ rfl).2 rfl rfl rfl (Nat.le_of_ble_eq_true rfl) ⟨by decide, by decide⟩ ⟨rfl, rfl⟩ ⟨Nat.zero_le _, Nat.zero_le _⟩ (fun r24 F24 L24 hp24 => ?_)
      obtain ⟨rfl, hF2, rfl⟩ := hp24
      refine gx_i2s X d_Mo_signature_27 (v := nI 0) (by decide) ?_
      obtain ⟨a1, a2⟩ := hz.no (nI 1)
      refine gx_zret X hr (by first | rfl | decide) hA d_Mo_signature_28 (K _ _ _ ⟨rfl, by rw [hF2, hF]; exact a1, fun q e1 e2 => absurd ⟨by rw [e1]; exact (nI_leI (a := 0) (by decide) (by omega)).mpr (Nat.zero_le _), by rw [e1]; exact (nI_ltI (by omega) (by omega)).mpr e2⟩ hs, fun _ => ⟨rfl, by rw [hF2, hF]; exact a2⟩⟩)
    · exact absurd rfl h10
set_option maxHeartbeats 4000000 in
theorem m_path (HX : gH ks lay N sM) (hz : MOK F L w z) (x : Int32) : Con l y_Mo_path (Cond.code y_Mo_path b_Mo_path 2 (some .int) :: WT) rm_Mo_path D vcl ca ks lay ad [xR 40, xI x] F L (fun r F' L' => L' = L ∧ MOK F' L' w z ∧ (∀ es k, z.pt = some es → x = nI k → k < es.length → r = some (xI (nI (es.getD k 0))) ∧ F' 40 3 = nI 0) ∧ ((∀ es, z.pt = some es → ¬ inR x es.length) → r = some (xI (nI 0)) ∧ F' 40 3 = nI 1)) := by
  refine Con.ofK (fun post K => ?_)
  refine Con.of (ls := [(0, xR 40), (1, xI x)]) (by decide) rfl rfl (Nat.le_of_ble_eq_true rfl) ?_
  intro p e s m args below meth c A X hr hA
  have inIt : ∀ es k, z.pt = some es → x = nI k → k < es.length → inR x es.length := by
    intro es k e1 e2 e3
    have hes := hz.2.2.2.2.2.1
    rw [e1] at hes
    have := hes.1
    exact ⟨by rw [e2]; exact (nI_leI (a := 0) (by decide) (by omega)).mpr (Nat.zero_le _), by rw [e2]; exact (nI_ltI (by omega) (by omega)).mpr e3⟩
  have no : (∀ es, z.pt = some es → ¬ inR x es.length) → GX p l e rm_Mo_path s m args below meth c (MQ below (gxQ D vcl ca ks lay ad s.heap.size post) args s 0 0 (gxA ks ad s.heap.size)) 2 A D vcl ca ks lay ad 0 0 26 [(1, xI x), (0, xR 40)] [] (gxu F 40 3 (nI 0)) L := by
    intro h
    obtain ⟨a1, a2⟩ := hz.no (nI 1)
    refine gx_aload_n X d_Mo_path_26 rfl rfl ?_
    refine gx_iconst X d_Mo_path_27 (v := nI 1) (by decide) ?_
    refine gx_callV X d_Mo_path_28 mf_Mo_fail lk_Mo_132 (c_Mo_fail HX (nI 1)) (HX _ rfl).1 (HX _ rfl).2 rfl rfl rfl (Nat.le_of_ble_eq_true rfl) ⟨by decide, by decide⟩ ⟨rfl, rfl⟩ ⟨Nat.zero_le _, Nat.zero_le _⟩ (fun r28 F28 L28 hp28 => ?_)
    obtain ⟨rfl, hF2, rfl⟩ := hp28
    refine gx_iret X hr hA d_Mo_path_31 (K _ _ _ ⟨rfl, by rw [hF2]; exact a1, fun es k e1 e2 e3 => absurd (inIt es k e1 e2 e3) (h es e1), fun _ => ⟨rfl, by rw [hF2]; exact a2⟩⟩)
  have hlen := hz.2.2.2.2.2.1.len
  refine gx_aload_n X d_Mo_path_0 rfl rfl ?_
  refine gx_iconst X d_Mo_path_1 (v := nI 0) (by decide) ?_
  refine gx_puti X d_Mo_path_2 (gci in_Mo) (HX _ rfl).1 (HX _ rfl).2 rfl 3 (by decide) (gcw X lk_Mo_85) (fun _ h => h) t_Mo ty_Mo nm_Mo rfl (ty_Mo 3 (by decide)) rfl rfl rfl ?_
  refine gx_iload_n X d_Mo_path_5 rfl rfl ?_
  refine gx_if_lt X d_Mo_path_6 (tgt := 26) (by decide) (fun h6 => ?_) (fun h6 => ?_)
  · exact gx_el (no (fun es _ q => absurd q.1 (Int32.not_le.mpr h6))) ⟨rfl, rfl, trivial⟩
  · refine gx_iload_n X d_Mo_path_9 rfl rfl ?_
    refine gx_aload_n X d_Mo_path_10 rfl rfl ?_
    refine gx_geti X d_Mo_path_11 (gci in_Mo) (HX _ rfl).1 (HX _ rfl).2 rfl 21 (by decide) (gcw X lk_Mo_51) (fun _ h => h) rfl ?_
    refine gx_top (y := ptL z.pt) (by rw [gxu_ne (by decide)]; exact hlen) ?_
    cases hpt : z.pt with
    | none =>
      refine gx_icmp_ge X d_Mo_path_14 (tgt := 26) (by decide) (fun h14 => ?_) (fun h14 => ?_)
      · exact gx_el (no (fun es he => by rw [hpt] at he; cases he)) ⟨rfl, rfl, trivial⟩
      · exfalso
        exact h14 (Int32.le_trans (show (-1 : Int32) ≤ 0 by decide) (Int32.not_lt.mp h6))
    | some es =>
      have hes := hz.2.2.2.2.2.1
      rw [hpt] at hes
      obtain ⟨p1, p2, p3⟩ := hes
      refine gx_icmp_ge X d_Mo_path_14 (tgt := 26) (by decide) (fun h14 => ?_) (fun h14 => ?_)
      · exact gx_el (no (fun es2 he q => by rw [hpt] at he; cases he; exact absurd q.2 (Int32.not_lt.mpr h14))) ⟨rfl, rfl, trivial⟩
      · obtain ⟨k, hk, rfl⟩ := inR_nI (x := x) (m := es.length) ⟨Int32.not_lt.mp h6, Int32.not_le.mp h14⟩ (by omega)
        refine gx_aload_n X d_Mo_path_17 rfl rfl ?_
        refine gx_getr X d_Mo_path_18 (gci in_Mo) (HX _ rfl).1 (HX _ rfl).2 rfl 22 (by decide) (gcw X lk_Mo_54) (fun _ h => h) rfl ?_
        refine gx_iload_n X d_Mo_path_21 rfl rfl ?_
        refine gx_iald X d_Mo_path_22 (HX _ rfl).1 (HX _ rfl).2 rfl (by omega) (by omega) ?_
        refine gx_top (y := nI (es.getD k 0)) (by rw [gxu_cell (by decide)]; exact p3 k hk) ?_
        refine gx_goto X d_Mo_path_23 (tgt := 31) (by decide) ?_
        have fin : ∀ es2 k2, z.pt = some es2 → nI k = nI k2 → k2 < es2.length → some (xI (nI (es.getD k 0))) = some (xI (nI (es2.getD k2 0))) := by
          intro es2 k2 e1 e2 e3
          rw [hpt] at e1
          cases e1
          rw [(nI_eq (a := k) (b := k2) (by omega) (by omega)).mp e2]
        refine gx_iret X hr hA d_Mo_path_31 (K _ _ _ ⟨rfl, hz.c0.1, fun es2 k2 e1 e2 e3 => ⟨fin es2 k2 e1 e2 e3, hz.c0.2⟩, fun h => absurd ⟨Int32.not_lt.mp h6, Int32.not_le.mp h14⟩ (h es hpt)⟩)
set_option maxHeartbeats 4000000 in
theorem m_input (HX : gH ks lay N sM) (hz : MOK F L w z) (hiq : z.iq = [] ∨ z.oc = nI 2) (x : Int32) : Con l y_Mo_input (Cond.code y_Mo_input b_Mo_input 2 (some .int) :: WT) rm_Mo_input D vcl ca ks lay ad [xR 40, xI x] F L (fun r F' L' => L' = L ∧ MOK F' L' w z ∧ (∀ k, x = nI k → k < z.iq.length → r = some (xI (nI (z.iq.getD k 0))) ∧ F' 40 3 = nI 0) ∧ (¬ inR x z.iq.length → r = some (xI (nI 0)) ∧ F' 40 3 = nI 1)) := by
  obtain ⟨p1, p2, p3⟩ := hz.2.2.2.2.2.2.1
  have hoc := hz.2.2.2.2.2.2.2
  refine Con.ofK (fun post K => ?_)
  refine Con.of (ls := [(0, xR 40), (1, xI x)]) (by decide) rfl rfl (Nat.le_of_ble_eq_true rfl) ?_
  intro p e s m args below meth c A X hr hA
  have no : ¬ inR x z.iq.length → GX p l e rm_Mo_input s m args below meth c (MQ below (gxQ D vcl ca ks lay ad s.heap.size post) args s 0 0 (gxA ks ad s.heap.size)) 2 A D vcl ca ks lay ad 0 0 34 [(1, xI x), (0, xR 40)] [] (gxu F 40 3 (nI 0)) L := by
    intro h
    obtain ⟨a1, a2⟩ := hz.no (nI 1)
    refine gx_aload_n X d_Mo_input_34 rfl rfl ?_
    refine gx_iconst X d_Mo_input_35 (v := nI 1) (by decide) ?_
    refine gx_callV X d_Mo_input_36 mf_Mo_fail lk_Mo_132 (c_Mo_fail HX (nI 1)) (HX _ rfl).1 (HX _ rfl).2 rfl rfl rfl (Nat.le_of_ble_eq_true rfl) ⟨by decide, by decide⟩ ⟨rfl, rfl⟩ ⟨Nat.zero_le _, Nat.zero_le _⟩ (fun r36 F36 L36 hp36 => ?_)
    obtain ⟨rfl, hF2, rfl⟩ := hp36
    refine gx_iret X hr hA d_Mo_input_39 (K _ _ _ ⟨rfl, by rw [hF2]; exact a1, fun k e2 e3 => absurd ⟨by rw [e2]; exact (nI_leI (a := 0) (by decide) (by omega)).mpr (Nat.zero_le _), by rw [e2]; exact (nI_ltI (by omega) (by omega)).mpr e3⟩ h, fun _ => ⟨rfl, by rw [hF2]; exact a2⟩⟩)
  refine gx_aload_n X d_Mo_input_0 rfl rfl ?_
  refine gx_iconst X d_Mo_input_1 (v := nI 0) (by decide) ?_
  refine gx_puti X d_Mo_input_2 (gci in_Mo) (HX _ rfl).1 (HX _ rfl).2 rfl 3 (by decide) (gcw X lk_Mo_85) (fun _ h => h) t_Mo ty_Mo nm_Mo rfl (ty_Mo 3 (by decide)) rfl rfl rfl ?_
  refine gx_aload_n X d_Mo_input_5 rfl rfl ?_
  refine gx_geti X d_Mo_input_6 (gci in_Mo) (HX _ rfl).1 (HX _ rfl).2 rfl 15 (by decide) (gcw X lk_Mo_35) (fun _ h => h) rfl ?_
  refine gx_top (y := z.oc) (by rw [gxu_ne (by decide)]; exact hoc) ?_
  refine gx_iconst X d_Mo_input_9 (v := nI 2) (by decide) ?_
  refine gx_icmp_ne X d_Mo_input_10 (tgt := 34) (by decide) (fun h10 => ?_) (fun h10 => ?_)
  · refine gx_el (no (fun q => ?_)) ⟨rfl, rfl, trivial⟩
    rcases hiq with h | h
    · rw [h] at q
      exact absurd (Int32.lt_of_le_of_lt q.1 q.2) (by decide)
    · exact h10 h
  · refine gx_iload_n X d_Mo_input_13 rfl rfl ?_
    refine gx_if_lt X d_Mo_input_14 (tgt := 34) (by decide) (fun h14 => ?_) (fun h14 => ?_)
    · exact gx_el (no (fun q => absurd q.1 (Int32.not_le.mpr h14))) ⟨rfl, rfl, trivial⟩
    · refine gx_iload_n X d_Mo_input_17 rfl rfl ?_
      refine gx_aload_n X d_Mo_input_18 rfl rfl ?_
      refine gx_geti X d_Mo_input_19 (gci in_Mo) (HX _ rfl).1 (HX _ rfl).2 rfl 23 (by decide) (gcw X lk_Mo_126) (fun _ h => h) rfl ?_
      refine gx_top (y := nI z.iq.length) (by rw [gxu_ne (by decide)]; exact p2) ?_
      refine gx_icmp_ge X d_Mo_input_22 (tgt := 34) (by decide) (fun h22 => ?_) (fun h22 => ?_)
      · exact gx_el (no (fun q => absurd q.2 (Int32.not_lt.mpr h22))) ⟨rfl, rfl, trivial⟩
      · obtain ⟨k, hk, rfl⟩ := inR_nI (x := x) (m := z.iq.length) ⟨Int32.not_lt.mp h14, Int32.not_le.mp h22⟩ (by omega)
        refine gx_aload_n X d_Mo_input_25 rfl rfl ?_
        refine gx_getr X d_Mo_input_26 (gci in_Mo) (HX _ rfl).1 (HX _ rfl).2 rfl 24 (by decide) (gcw X lk_Mo_57) (fun _ h => h) rfl ?_
        refine gx_iload_n X d_Mo_input_29 rfl rfl ?_
        refine gx_iald X d_Mo_input_30 (HX _ rfl).1 (HX _ rfl).2 rfl (by omega) (by omega) ?_
        refine gx_top (y := nI (z.iq.getD k 0)) (by rw [gxu_cell (by decide)]; exact p3 k hk) ?_
        refine gx_goto X d_Mo_input_31 (tgt := 39) (by decide) ?_
        refine gx_iret X hr hA d_Mo_input_39 (K _ _ _ ⟨rfl, hz.c0.1, fun k2 e2 e3 => ⟨by rw [(nI_eq (a := k) (b := k2) (by omega) (by omega)).mp e2], hz.c0.2⟩, fun h => absurd ⟨Int32.not_lt.mp h14, Int32.not_le.mp h22⟩ h⟩)
set_option maxHeartbeats 4000000 in
theorem m_node (HX : gH ks lay N sM) (hz : MOK F L w z) (x y : Int32) : Con l y_Mo_node (Cond.code y_Mo_node b_Mo_node 3 (some .int) :: WT) rm_Mo_node D vcl ca ks lay ad [xR 40, xI x, xI y] F L (fun r F' L' => L' = L ∧ MOK F' L' w z ∧ (∀ i t, x = nI i → y = nI t → i < z.ns.length → t < 4 → r = some (xI (ndI z.ns i t)) ∧ F' 40 3 = nI 0) ∧ (¬ inR x z.ns.length → r = some (xI (nI 0)) ∧ F' 40 3 = nI 1) ∧ (inR x z.ns.length → ¬ inR y 4 → r = some (xI (nI 0)) ∧ F' 40 3 = nI 2)) := by
  obtain ⟨n1, n2, n3⟩ := hz.2.2.2.2.1
  refine Con.ofK (fun post K => ?_)
  refine Con.of (ls := [(0, xR 40), (1, xI x), (2, xI y)]) (by decide) rfl rfl (Nat.le_of_ble_eq_true rfl) ?_
  intro p e s m args below meth c A X hr hA
  have inI : ∀ i m : Nat, i < m → m < 2 ^ 31 → inR (nI i) m := fun i m h1 h2 => ⟨(nI_leI (a := 0) (by decide) (by omega)).mpr (Nat.zero_le _), (nI_ltI (by omega) (by omega)).mpr h1⟩
  have no : ¬ inR x z.ns.length → GX p l e rm_Mo_node s m args below meth c (MQ below (gxQ D vcl ca ks lay ad s.heap.size post) args s 0 0 (gxA ks ad s.heap.size)) 3 A D vcl ca ks lay ad 0 0 17 [(2, xI y), (1, xI x), (0, xR 40)] [] (gxu F 40 3 (nI 0)) L := by
    intro h
    obtain ⟨a1, a2⟩ := hz.no (nI 1)
    refine gx_aload_n X d_Mo_node_17 rfl rfl ?_
    refine gx_iconst X d_Mo_node_18 (v := nI 1) (by decide) ?_
    refine gx_callV X d_Mo_node_19 mf_Mo_fail lk_Mo_132 (c_Mo_fail HX (nI 1)) (HX _ rfl).1 (HX _ rfl).2 rfl rfl rfl (Nat.le_of_ble_eq_true rfl) ⟨by decide, by decide⟩ ⟨rfl, rfl⟩ ⟨Nat.zero_le _, Nat.zero_le _⟩ (fun r19 F19 L19 hp19 => ?_)
    obtain ⟨rfl, hF2, rfl⟩ := hp19
    refine gx_iret X hr hA d_Mo_node_22 (K _ _ _ ⟨rfl, by rw [hF2]; exact a1, fun i t e1 e2 e3 e4 => absurd (by rw [e1]; exact inI i _ e3 (by omega)) h, fun _ => ⟨rfl, by rw [hF2]; exact a2⟩, fun h2 => absurd h2 h⟩)
  refine gx_aload_n X d_Mo_node_0 rfl rfl ?_
  refine gx_iconst X d_Mo_node_1 (v := nI 0) (by decide) ?_
  refine gx_puti X d_Mo_node_2 (gci in_Mo) (HX _ rfl).1 (HX _ rfl).2 rfl 3 (by decide) (gcw X lk_Mo_85) (fun _ h => h) t_Mo ty_Mo nm_Mo rfl (ty_Mo 3 (by decide)) rfl rfl rfl ?_
  refine gx_iload_n X d_Mo_node_5 rfl rfl ?_
  refine gx_if_lt X d_Mo_node_6 (tgt := 17) (by decide) (fun h6 => ?_) (fun h6 => ?_)
  · exact gx_el (no (fun q => absurd q.1 (Int32.not_le.mpr h6))) ⟨rfl, rfl, rfl, trivial⟩
  · refine gx_iload_n X d_Mo_node_9 rfl rfl ?_
    refine gx_aload_n X d_Mo_node_10 rfl rfl ?_
    refine gx_geti X d_Mo_node_11 (gci in_Mo) (HX _ rfl).1 (HX _ rfl).2 rfl 16 (by decide) (gcw X lk_Mo_123) (fun _ h => h) rfl ?_
    refine gx_top (y := nI z.ns.length) (by rw [gxu_ne (by decide)]; exact n2) ?_
    refine gx_icmp_lt X d_Mo_node_14 (tgt := 23) (by decide) (fun h14 => ?_) (fun h14 => ?_)
    · obtain ⟨i, hi, rfl⟩ := inR_nI (x := x) (m := z.ns.length) ⟨Int32.not_lt.mp h6, h14⟩ (by omega)
      obtain ⟨a1, a2, a3, a4⟩ := n3 i hi
      have yes : ∀ (t : Nat) (G : Nat → Nat → Int32), G = gxu F 40 3 (nI 0) → t < 4 → y = nI t → ∀ v : Int32, v = ndI z.ns i t → post (some (xI v)) G L := fun t G hG ht hy v hv => K _ _ _ ⟨rfl, by rw [hG]; exact hz.c0.1, fun i2 t2 e1 e2 e3 e4 => by
        have f1 := (nI_eq (by omega) (by omega)).mp e1
        subst f1
        have f2 := (nI_eq (by omega) (by omega)).mp (hy.symm.trans e2)
        subst f2
        exact ⟨by rw [hv], by rw [hG]; exact hz.c0.2⟩, fun h => absurd (inI i _ hi (by omega)) h, fun _ h => absurd (by rw [hy]; exact inI t 4 ht (by decide)) h⟩
      refine gx_iload_n X d_Mo_node_23 rfl rfl ?_
      by_cases hy4 : inR y 4
      · obtain ⟨t, ht, rfl⟩ := inR_nI hy4 (by decide)
        match t, ht with
        | 0, _ =>
          refine gx_tableIn X d_Mo_node_24 (off := 32) (tgt := 56) (by decide) (by decide) (by decide) (by decide) ?_
          refine gx_aload_n X d_Mo_node_56 rfl rfl ?_
          refine gx_getr X d_Mo_node_57 (gci in_Mo) (HX _ rfl).1 (HX _ rfl).2 rfl 17 (by decide) (gcw X lk_Mo_39) (fun _ h => h) rfl ?_
          refine gx_iload_n X d_Mo_node_60 rfl rfl ?_
          refine gx_iald X d_Mo_node_61 (HX _ rfl).1 (HX _ rfl).2 rfl (by omega) (by omega) ?_
          refine gx_top (y := nI (nAt z.ns i).1) (by rw [gxu_cell (by decide)]; exact a1) ?_
          exact gx_iret X hr hA d_Mo_node_62 (yes 0 _ rfl (by decide) rfl _ rfl)
        | 1, _ =>
          refine gx_tableIn X d_Mo_node_24 (off := 39) (tgt := 63) (by decide) (by decide) (by decide) (by decide) ?_
          refine gx_aload_n X d_Mo_node_63 rfl rfl ?_
          refine gx_getr X d_Mo_node_64 (gci in_Mo) (HX _ rfl).1 (HX _ rfl).2 rfl 18 (by decide) (gcw X lk_Mo_42) (fun _ h => h) rfl ?_
          refine gx_iload_n X d_Mo_node_67 rfl rfl ?_
          refine gx_iald X d_Mo_node_68 (HX _ rfl).1 (HX _ rfl).2 rfl (by omega) (by omega) ?_
          refine gx_top (y := nI (nAt z.ns i).2.1) (by rw [gxu_cell (by decide)]; exact a2) ?_
          exact gx_iret X hr hA d_Mo_node_69 (yes 1 _ rfl (by decide) rfl _ rfl)
        | 2, _ =>
          refine gx_tableIn X d_Mo_node_24 (off := 46) (tgt := 70) (by decide) (by decide) (by decide) (by decide) ?_
          refine gx_aload_n X d_Mo_node_70 rfl rfl ?_
          refine gx_getr X d_Mo_node_71 (gci in_Mo) (HX _ rfl).1 (HX _ rfl).2 rfl 19 (by decide) (gcw X lk_Mo_45) (fun _ h => h) rfl ?_
          refine gx_iload_n X d_Mo_node_74 rfl rfl ?_
          refine gx_iald X d_Mo_node_75 (HX _ rfl).1 (HX _ rfl).2 rfl (by omega) (by omega) ?_
          refine gx_top (y := if i = 0 then -1 else nI (nAt z.ns i).2.2.1) (by rw [gxu_cell (by decide)]; exact a3) ?_
          exact gx_iret X hr hA d_Mo_node_76 (yes 2 _ rfl (by decide) rfl _ rfl)
        | 3, _ =>
          refine gx_tableIn X d_Mo_node_24 (off := 53) (tgt := 77) (by decide) (by decide) (by decide) (by decide) ?_
          refine gx_aload_n X d_Mo_node_77 rfl rfl ?_
          refine gx_getr X d_Mo_node_78 (gci in_Mo) (HX _ rfl).1 (HX _ rfl).2 rfl 20 (by decide) (gcw X lk_Mo_48) (fun _ h => h) rfl ?_
          refine gx_iload_n X d_Mo_node_81 rfl rfl ?_
          refine gx_iald X d_Mo_node_82 (HX _ rfl).1 (HX _ rfl).2 rfl (by omega) (by omega) ?_
          refine gx_top (y := if i = 0 then -1 else nI (nAt z.ns i).2.2.2.1) (by rw [gxu_cell (by decide)]; exact a4) ?_
          exact gx_iret X hr hA d_Mo_node_83 (yes 3 _ rfl (by decide) rfl _ rfl)
        | t + 4, h => omega
      · have hout : y.toInt < 0 ∨ 3 < y.toInt := by
          by_cases q1 : 0 ≤ y
          · right
            have q2 : ¬ y < nI 4 := fun q2 => hy4 ⟨q1, q2⟩
            rw [Int32.lt_iff_toInt_lt, show (nI 4).toInt = 4 from by decide] at q2
            omega
          · left
            rw [Int32.le_iff_toInt_le, show (0 : Int32).toInt = 0 from by decide] at q1
            omega
        refine gx_tableOut X d_Mo_node_24 (tgt := 84) hout (by decide) ?_
        refine gx_aload_n X d_Mo_node_84 rfl rfl ?_
        refine gx_iconst X d_Mo_node_85 (v := nI 2) (by decide) ?_
        refine gx_callV X d_Mo_node_86 mf_Mo_fail lk_Mo_132 (c_Mo_fail HX (nI 2)) (HX _ rfl).1 (HX _ rfl).2 rfl rfl rfl (Nat.le_of_ble_eq_true rfl) ⟨by decide, by decide⟩ ⟨rfl, rfl⟩ ⟨Nat.zero_le _, Nat.zero_le _⟩ (fun r86 F86 L86 hp86 => ?_)
        obtain ⟨rfl, hF2, rfl⟩ := hp86
        obtain ⟨b1, b2⟩ := hz.no (nI 2)
        refine gx_iret X hr hA d_Mo_node_89 (K _ _ _ ⟨rfl, by rw [hF2]; exact b1, fun i2 t2 e1 e2 e3 e4 => absurd (by rw [e2]; exact inI t2 4 e4 (by decide)) hy4, fun h => absurd (inI i _ hi (by omega)) h, fun _ _ => ⟨rfl, by rw [hF2]; exact b2⟩⟩)
    · exact gx_el (no (fun q => absurd q.2 h14)) ⟨rfl, rfl, rfl, trivial⟩
set_option maxHeartbeats 4000000 in
theorem m_follow (HX : gH ks lay N sM) (hz : MOK F L w z) (x y u : Int32) : Con l y_Mo_follow (Cond.code y_Mo_follow b_Mo_follow 4 (some .int) :: WT) rm_Mo_follow D vcl ca ks lay ad [xR 40, xI x, xI y, xI u] F L (fun r F' L' => L' = L ∧ MOK F' L' w z ∧ (∀ e q, x = nI e → y = nI q → e < z.ne → q < 2 ^ (3 * w) → r = some (xI (tgI (stp w z.ek z.ev z.tg e q u.toBitVec.toNat))) ∧ F' 40 3 = nI 0) ∧ (¬ (inR x z.ne ∧ inR y (2 ^ (3 * w))) → r = some (xI (nI 0)) ∧ F' 40 3 = nI 1)) := by
  have hw : w < 4 := by have := hz.1.1; omega
  have hN := pu_N w hw
  obtain ⟨k1, k2⟩ := hz.c0
  have hE := k1.2.2.1
  have hS := k1.1
  have hne := hE.1
  refine Con.ofK (fun post K => ?_)
  refine Con.of (ls := [(0, xR 40), (1, xI x), (2, xI y), (3, xI u)]) (by decide) rfl rfl (Nat.le_of_ble_eq_true rfl) ?_
  intro p e s m args below meth c A X hr hA
  have no : ¬ (inR x z.ne ∧ inR y (2 ^ (3 * w))) → GX p l e rm_Mo_follow s m args below meth c (MQ below (gxQ D vcl ca ks lay ad s.heap.size post) args s 0 0 (gxA ks ad s.heap.size)) 4 A D vcl ca ks lay ad 0 0 25 [(3, xI u), (2, xI y), (1, xI x), (0, xR 40)] [] (gxu F 40 3 (nI 0)) L := by
    intro h
    obtain ⟨a1, a2⟩ := hz.no (nI 1)
    refine gx_aload_n X d_Mo_follow_25 rfl rfl ?_
    refine gx_iconst X d_Mo_follow_26 (v := nI 1) (by decide) ?_
    refine gx_callV X d_Mo_follow_27 mf_Mo_fail lk_Mo_132 (c_Mo_fail HX (nI 1)) (HX _ rfl).1 (HX _ rfl).2 rfl rfl rfl (Nat.le_of_ble_eq_true rfl) ⟨by decide, by decide⟩ ⟨rfl, rfl⟩ ⟨Nat.zero_le _, Nat.zero_le _⟩ (fun r27 F27 L27 hp27 => ?_)
    obtain ⟨rfl, hF2, rfl⟩ := hp27
    refine gx_iret X hr hA d_Mo_follow_30 (K _ _ _ ⟨rfl, by rw [hF2]; exact a1, fun k q e1 e2 e3 e4 => absurd ⟨⟨by rw [e1]; exact (nI_leI (a := 0) (by decide) (by omega)).mpr (Nat.zero_le _), by rw [e1]; exact (nI_ltI (by omega) (by omega)).mpr e3⟩, ⟨by rw [e2]; exact (nI_leI (a := 0) (by decide) (by omega)).mpr (Nat.zero_le _), by rw [e2]; exact (nI_ltI (by omega) (by omega)).mpr e4⟩⟩ h, fun _ => ⟨rfl, by rw [hF2]; exact a2⟩⟩)
  refine gx_aload_n X d_Mo_follow_0 rfl rfl ?_
  refine gx_iconst X d_Mo_follow_1 (v := nI 0) (by decide) ?_
  refine gx_puti X d_Mo_follow_2 (gci in_Mo) (HX _ rfl).1 (HX _ rfl).2 rfl 3 (by decide) (gcw X lk_Mo_85) (fun _ h => h) t_Mo ty_Mo nm_Mo rfl (ty_Mo 3 (by decide)) rfl rfl rfl ?_
  refine gx_iload_n X d_Mo_follow_5 rfl rfl ?_
  refine gx_if_lt X d_Mo_follow_6 (tgt := 25) (by decide) (fun h6 => ?_) (fun h6 => ?_)
  · exact gx_el (no (fun q => absurd q.1.1 (Int32.not_le.mpr h6))) ⟨rfl, rfl, rfl, rfl, trivial⟩
  · refine gx_iload_n X d_Mo_follow_9 rfl rfl ?_
    refine gx_aload_n X d_Mo_follow_10 rfl rfl ?_
    refine gx_geti X d_Mo_follow_11 (gci in_Mo) (HX _ rfl).1 (HX _ rfl).2 rfl 6 (by decide) (gcw X lk_Mo_138) (fun _ h => h) rfl ?_
    refine gx_top hE.2.1 ?_
    refine gx_icmp_ge X d_Mo_follow_14 (tgt := 25) (by decide) (fun h14 => ?_) (fun h14 => ?_)
    · exact gx_el (no (fun q => absurd q.1.2 (Int32.not_lt.mpr h14))) ⟨rfl, rfl, rfl, rfl, trivial⟩
    · refine gx_aload_n X d_Mo_follow_17 rfl rfl ?_
      refine gx_iload_n X d_Mo_follow_18 rfl rfl ?_
      refine gx_callV X d_Mo_follow_19 mf_Mo_isState lk_Mo_219 (c_Mo_isState HX (w := w) hS.2.2.2 y) (HX _ rfl).1 (HX _ rfl).2 rfl rfl rfl (Nat.le_of_ble_eq_true rfl) ⟨by decide, by decide⟩ ⟨rfl, rfl⟩ ⟨Nat.zero_le _, Nat.zero_le _⟩ (fun r19 F19 L19 hp19 => ?_)
      obtain ⟨rfl, rfl, rfl⟩ := hp19
      by_cases hs : 0 ≤ y ∧ y < nI (2 ^ (3 * w))
      · rw [if_pos hs]
        obtain ⟨e0, he, rfl⟩ := inR_nI (x := x) (m := z.ne) ⟨Int32.not_lt.mp h6, Int32.not_le.mp h14⟩ (by omega)
        obtain ⟨q, hq, rfl⟩ := inR_nI (x := y) hs (by omega)
        have yes : ∀ (G : Nat → Nat → Int32) (M : Nat → Nat → Int64), G = gxu F 40 3 (nI 0) → M = L19 → ∀ v : Int32, v = tgI (stp w z.ek z.ev z.tg e0 q u.toBitVec.toNat) → post (some (xI v)) G M := fun G M hG hM v hv => K _ _ _ ⟨hM, by rw [hG, hM]; exact k1, fun e2 q2 f1 f2 f3 f4 => by
          have g1 := (nI_eq (by omega) (by omega)).mp f1
          subst g1
          have g2 := (nI_eq (by omega) (by omega)).mp f2
          subst g2
          exact ⟨by rw [hv], by rw [hG]; exact k2⟩, fun h => absurd ⟨⟨Int32.not_lt.mp h6, Int32.not_le.mp h14⟩, hs⟩ h⟩
        obtain ⟨-, -, ⟨hkd, hk3⟩, ⟨hv, hv3⟩, hx⟩ := hE.2.2 e0 he
        obtain ⟨hx0, hx1, hx2, hx4⟩ := hx q hq
        refine gx_if_ne X d_Mo_follow_22 (tgt := 31) (by decide) (fun h22 => ?_) (fun h22 => ?_)
        · have hcase : z.ek e0 = 0 ∨ z.ek e0 = 1 ∨ z.ek e0 = 2 := by omega
          rcases hcase with hk | hk | hk
          · have hkd2 : rk3 (z.ek e0) = 2 := by rw [hk]; rfl
            rw [hkd2] at hkd
            have hst : stp w z.ek z.ev z.tg e0 q u.toBitVec.toNat = z.tg e0 q := by unfold stp; rw [if_neg (by omega)]
            refine gx_aload_n X d_Mo_follow_31 rfl rfl ?_
            refine gx_getr X d_Mo_follow_32 (gci in_Mo) (HX _ rfl).1 (HX _ rfl).2 rfl 9 (by decide) (gcw X lk_Mo_19) (fun _ h => h) rfl ?_
            refine gx_iload_n X d_Mo_follow_35 rfl rfl ?_
            refine gx_iald X d_Mo_follow_36 (HX _ rfl).1 (HX _ rfl).2 rfl (by omega) (by omega) ?_
            refine gx_top hkd ?_
            refine gx_if_ne X d_Mo_follow_37 (tgt := 47) (by decide) (fun h37 => ?_) (fun h37 => ?_)
            · refine gx_aload_n X d_Mo_follow_47 rfl rfl ?_
              refine gx_getr X d_Mo_follow_48 (gci in_Mo) (HX _ rfl).1 (HX _ rfl).2 rfl 9 (by decide) (gcw X lk_Mo_19) (fun _ h => h) rfl ?_
              refine gx_iload_n X d_Mo_follow_51 rfl rfl ?_
              refine gx_iald X d_Mo_follow_52 (HX _ rfl).1 (HX _ rfl).2 rfl (by omega) (by omega) ?_
              refine gx_top hkd ?_
              refine gx_iconst X d_Mo_follow_53 (v := nI 1) (by decide) ?_
              refine gx_icmp_ne X d_Mo_follow_54 (tgt := 70) (by decide) (fun h54 => ?_) (fun h54 => ?_)
              · refine gx_aload_n X d_Mo_follow_70 rfl rfl ?_
                refine gx_iload_n X d_Mo_follow_71 rfl rfl ?_
                refine gx_iload_n X d_Mo_follow_72 rfl rfl ?_
                refine gx_callV X d_Mo_follow_73 mf_Mo_isOn lk_Mo_164 (c_Mo_isOn HX (e0 := e0) (q := q) (by omega) (by omega)) (HX _ rfl).1 (HX _ rfl).2 rfl rfl rfl (Nat.le_of_ble_eq_true rfl) ⟨by decide, by decide⟩ ⟨rfl, rfl⟩ ⟨Nat.zero_le _, Nat.zero_le _⟩ (fun r73 F73 L73 hp73 => ?_)
                obtain ⟨rfl, hF, hL⟩ := hp73
                obtain ⟨o1, o2⟩ := hx2 hk
                rw [o1]
                rcases o2 with o2 | o2
                · rw [o2]
                  refine gx_if_eq X d_Mo_follow_76 (tgt := 83) (by decide) (fun h76 => ?_) (fun h76 => ?_)
                  · refine gx_iconst X d_Mo_follow_83 (v := (-1)) (by decide) ?_
                    exact gx_iret X hr hA d_Mo_follow_84 (yes _ _ hF hL _ (by rw [hst, o2]; rfl))
                  · exact absurd rfl h76
                · rw [o2]
                  refine gx_if_eq X d_Mo_follow_76 (tgt := 83) (by decide) (fun h76 => ?_) (fun h76 => ?_)
                  · exact absurd h76 (show ¬ (1 : Int32) = 0 by decide)
                  · refine gx_iload_n X d_Mo_follow_79 rfl rfl ?_
                    refine gx_goto X d_Mo_follow_80 (tgt := 84) (by decide) ?_
                    exact gx_iret X hr hA d_Mo_follow_84 (yes _ _ hF hL _ (by rw [hst, o2]; rfl))
              · exact absurd h54 (by decide)
            · exact absurd h37 (by decide)
          · have hkd2 : rk3 (z.ek e0) = 0 := by rw [hk]; rfl
            rw [hkd2] at hkd
            have hst : stp w z.ek z.ev z.tg e0 q u.toBitVec.toNat = z.tg e0 q := by unfold stp; rw [if_neg (by omega)]
            obtain ⟨x9, -, htg, -⟩ := hx1 hk
            refine gx_aload_n X d_Mo_follow_31 rfl rfl ?_
            refine gx_getr X d_Mo_follow_32 (gci in_Mo) (HX _ rfl).1 (HX _ rfl).2 rfl 9 (by decide) (gcw X lk_Mo_19) (fun _ h => h) rfl ?_
            refine gx_iload_n X d_Mo_follow_35 rfl rfl ?_
            refine gx_iald X d_Mo_follow_36 (HX _ rfl).1 (HX _ rfl).2 rfl (by omega) (by omega) ?_
            refine gx_top hkd ?_
            refine gx_if_ne X d_Mo_follow_37 (tgt := 47) (by decide) (fun h37 => ?_) (fun h37 => ?_)
            · exact absurd rfl h37
            · refine gx_aload_n X d_Mo_follow_40 rfl rfl ?_
              refine gx_iload_n X d_Mo_follow_41 rfl rfl ?_
              refine gx_iload_n X d_Mo_follow_42 rfl rfl ?_
              refine gx_callV X d_Mo_follow_43 mf_Mo_led lk_Mo_161 (c_Mo_led HX hS hE he hk hq) (HX _ rfl).1 (HX _ rfl).2 rfl rfl rfl (Nat.le_of_ble_eq_true rfl) ⟨by decide, by decide⟩ ⟨rfl, rfl⟩ ⟨Nat.zero_le _, Nat.zero_le _⟩ (fun r43 F43 L43 hp43 => ?_)
              obtain ⟨rfl, hF, hL⟩ := hp43
              exact gx_iret X hr hA d_Mo_follow_46 (yes _ _ hF hL _ (by rw [hst, htg]; rfl))
          · have hkd2 : rk3 (z.ek e0) = 1 := by rw [hk]; rfl
            rw [hkd2] at hkd
            have hst : stp w z.ek z.ev z.tg e0 q u.toBitVec.toNat = some (wr w q (z.ev e0) u.toBitVec.toNat) := by unfold stp; rw [if_pos hk]
            refine gx_aload_n X d_Mo_follow_31 rfl rfl ?_
            refine gx_getr X d_Mo_follow_32 (gci in_Mo) (HX _ rfl).1 (HX _ rfl).2 rfl 9 (by decide) (gcw X lk_Mo_19) (fun _ h => h) rfl ?_
            refine gx_iload_n X d_Mo_follow_35 rfl rfl ?_
            refine gx_iald X d_Mo_follow_36 (HX _ rfl).1 (HX _ rfl).2 rfl (by omega) (by omega) ?_
            refine gx_top hkd ?_
            refine gx_if_ne X d_Mo_follow_37 (tgt := 47) (by decide) (fun h37 => ?_) (fun h37 => ?_)
            · refine gx_aload_n X d_Mo_follow_47 rfl rfl ?_
              refine gx_getr X d_Mo_follow_48 (gci in_Mo) (HX _ rfl).1 (HX _ rfl).2 rfl 9 (by decide) (gcw X lk_Mo_19) (fun _ h => h) rfl ?_
              refine gx_iload_n X d_Mo_follow_51 rfl rfl ?_
              refine gx_iald X d_Mo_follow_52 (HX _ rfl).1 (HX _ rfl).2 rfl (by omega) (by omega) ?_
              refine gx_top hkd ?_
              refine gx_iconst X d_Mo_follow_53 (v := nI 1) (by decide) ?_
              refine gx_icmp_ne X d_Mo_follow_54 (tgt := 70) (by decide) (fun h54 => ?_) (fun h54 => ?_)
              · exact absurd rfl h54
              · refine gx_aload_n X d_Mo_follow_57 rfl rfl ?_
                refine gx_iload_n X d_Mo_follow_58 rfl rfl ?_
                refine gx_aload_n X d_Mo_follow_59 rfl rfl ?_
                refine gx_getr X d_Mo_follow_60 (gci in_Mo) (HX _ rfl).1 (HX _ rfl).2 rfl 10 (by decide) (gcw X lk_Mo_22) (fun _ h => h) rfl ?_
                refine gx_iload_n X d_Mo_follow_63 rfl rfl ?_
                refine gx_iald X d_Mo_follow_64 (HX _ rfl).1 (HX _ rfl).2 rfl (by omega) (by omega) ?_
                refine gx_top hv ?_
                refine gx_iload_n X d_Mo_follow_65 rfl rfl ?_
                refine gx_callV X d_Mo_follow_66 mf_Mo_with lk_Mo_152 (c_Mo_with HX hS (st := q) (v := z.ev e0) (by omega) hv3 u) (HX _ rfl).1 (HX _ rfl).2 rfl rfl rfl (Nat.le_of_ble_eq_true rfl) ⟨by decide, by decide⟩ ⟨rfl, rfl⟩ ⟨Nat.zero_le _, Nat.zero_le _⟩ (fun r66 F66 L66 hp66 => ?_)
                obtain ⟨rfl, hF, hL⟩ := hp66
                exact gx_iret X hr hA d_Mo_follow_69 (yes _ _ hF hL _ (by rw [hst]; rfl))
            · exact absurd h37 (by decide)
        · exact absurd h22 (by decide)
      · rw [if_neg hs]
        refine gx_if_ne X d_Mo_follow_22 (tgt := 31) (by decide) (fun h22 => ?_) (fun h22 => ?_)
        · exact absurd rfl h22
        · exact gx_el (no (fun q => hs q.2)) ⟨rfl, rfl, rfl, rfl, trivial⟩
end
