section
variable {l : Launch} {D : va_G} {ca : Nat → ClassId} {ks : List Nat} {lay : Nat → gxE} {ad : Nat → Nat} {F : Nat → Nat → Int32} {L : Nat → Nat → Int64} {w : Nat}
/-- an edge more -/
def kS.edg (w : Nat) (z : kS) (k : Nat) (code : List Int32) : kS := kM z.n z.ln (z.ne + 1) (upN z.ef z.ne (nwF z.n z.ln 0)) (upN z.et z.ne (nwF z.n z.ln 1)) (upN z.ek z.ne k) (upN z.ev z.ne (nwV z.n z.ln k)) (upN z.tg z.ne (fun q => tgN w k (nwV z.n z.ln k) q (vlC w q code))) z.np z.sg z.oc z.ns z.pt z.iq
theorem rdEdge_lt {n : Nat} {f : Nat → Int32} {k : Nat} {code : List Int32} (h : rdEdge n f = some (k, code)) : k < 3 := by
  unfold rdEdge at h
  split at h
  · split at h
    · split at h
      · cases h; decide
      · cases h
    · split at h
      · split at h
        · cases h; decide
        · cases h
      · split at h
        · cases h; decide
        · cases h
  · cases h
set_option maxHeartbeats 4000000 in
theorem c_PP_edge (HX : gH ks lay (2 ^ (3 * w)) sX) {z : kS} (hz : KOK F w z) (hne : z.ne < 20) {k : Nat} {code : List Int32} (hrd : rdEdge z.n z.ln = some (k, code)) : Con l y_PP_edge (Cond.code y_PP_edge b_PP_edge 3 (some .int) :: WT) rm_PP_edge D vcl ca ks lay ad [xR 0] F L (fun r F' L' => r = some (xI (nI z.ne)) ∧ L' = L ∧ KOK F' w ((z.edg w k code).wip.fgt)) := by
  obtain ⟨h1, h2, h3, h4, h5, -⟩ := id hz
  have hk3 := rdEdge_lt hrd
  refine Con.ofK (fun post K => ?_)
  refine Con.of (ls := [(0, xR 0)]) (by decide) rfl rfl (Nat.le_of_ble_eq_true rfl) ?_
  intro p e s m args below meth c A X hr hA
  refine gx_aload_n X d_PP_edge_0 rfl rfl ?_
  refine gx_getr X d_PP_edge_1 (gci in_PP) (HX _ rfl).1 (HX _ rfl).2 rfl 3 (by decide) (gcw X lk_PP_50) (fun _ h => h) rfl ?_
  refine gx_callV X d_PP_edge_4 mf_Pa_readEdge lk_PP_95 (c_Pa_readEdge HX h2 h3) (HX _ rfl).1 (HX _ rfl).2 rfl rfl rfl (Nat.le_of_ble_eq_true rfl) ⟨by decide, by decide⟩ ⟨rfl, rfl⟩ ⟨Nat.zero_le _, Nat.zero_le _⟩ (fun r4 F4 L4 hp4 => ?_)
  obtain ⟨rfl, rfl, q2, q3⟩ := hp4
  refine gx_top (y := nI k) (by rw [hrd]; rfl) ?_
  refine gx_istore_n X d_PP_edge_7 rfl (by decide) ?_
  refine gx_iload_n X d_PP_edge_8 rfl rfl ?_
  refine gx_iconst X d_PP_edge_9 (v := (-1)) (by decide) ?_
  refine gx_icmp_ne X d_PP_edge_10 (tgt := 23) (by decide) (fun h10 => ?_) (fun h10 => ?_)
  · refine gx_aload_n X d_PP_edge_23 rfl rfl ?_
    refine gx_getr X d_PP_edge_24 (gci in_PP) (HX _ rfl).1 (HX _ rfl).2 rfl 4 (by decide) (gcw X lk_PP_54) (fun _ h => h) rfl ?_
    have g1 := h1.of (q3 1 (by decide) (by decide) (by decide))
    have g2 := h2.of (q3 2 (by decide) (by decide) (by decide)) (q3 3 (by decide) (by decide) (by decide))
    have g3 := (q3 3 (by decide) (by decide) (by decide)).trans h3
    have g4 := h4.of (fun a ha => q3 a (by omega) (by omega) (by omega))
    have g5 := h5.of (fun a x1 x2 => q3 a (by omega) (by omega) (by omega))
    refine gx_callV X d_PP_edge_27 mf_Pr_isFull lk_PP_106 (c_Pr_isFull HX g4) (HX _ rfl).1 (HX _ rfl).2 rfl rfl rfl (Nat.le_of_ble_eq_true rfl) ⟨by decide, by decide⟩ ⟨rfl, rfl⟩ ⟨Nat.zero_le _, Nat.zero_le _⟩ (fun r27 F27 L27 hp27 => ?_)
    obtain ⟨rfl, rfl, rfl⟩ := hp27
    refine gx_if_eq X d_PP_edge_30 (tgt := 43) (by decide) (fun h30 => ?_) (fun h30 => ?_)
    · refine gx_aload_n X d_PP_edge_43 rfl rfl ?_
      refine gx_getr X d_PP_edge_44 (gci in_PP) (HX _ rfl).1 (HX _ rfl).2 rfl 4 (by decide) (gcw X lk_PP_54) (fun _ h => h) rfl ?_
      refine gx_iload_n X d_PP_edge_47 rfl rfl ?_
      refine gx_aload_n X d_PP_edge_48 rfl rfl ?_
      refine gx_getr X d_PP_edge_49 (gci in_PP) (HX _ rfl).1 (HX _ rfl).2 rfl 1 (by decide) (gcw X lk_PP_37) (fun _ h => h) rfl ?_
      refine gx_aload_n X d_PP_edge_52 rfl rfl ?_
      refine gx_getr X d_PP_edge_53 (gci in_PP) (HX _ rfl).1 (HX _ rfl).2 rfl 2 (by decide) (gcw X lk_PP_41) (fun _ h => h) rfl ?_
      refine gx_callV X d_PP_edge_56 mf_Pr_add lk_PP_115 (c_Pr_add HX g1 g2 g3 g4 hne hrd (fun hk2 => ⟨q2 k code hrd hk2, fun q _ => edge_ok h2.1 hrd hk2 w q⟩)) (HX _ rfl).1 (HX _ rfl).2 rfl rfl rfl (Nat.le_of_ble_eq_true rfl) ⟨by decide, by decide⟩ ⟨rfl, rfl⟩ ⟨Nat.zero_le _, Nat.zero_le _⟩ (fun r56 F56 L56 hp56 => ?_)
      obtain ⟨rfl, rfl, u2, u3⟩ := hp56
      refine gx_istore_n X d_PP_edge_59 rfl (by decide) ?_
      refine gx_aload_n X d_PP_edge_60 rfl rfl ?_
      refine gx_getr X d_PP_edge_61 (gci in_PP) (HX _ rfl).1 (HX _ rfl).2 rfl 1 (by decide) (gcw X lk_PP_37) (fun _ h => h) rfl ?_
      refine gx_callV X d_PP_edge_64 mf_Li_makeEmpty lk_PP_92 (c_Li_makeEmpty HX) (HX _ rfl).1 (HX _ rfl).2 rfl rfl rfl (Nat.le_of_ble_eq_true rfl) ⟨by decide, by decide⟩ ⟨rfl, rfl⟩ ⟨Nat.zero_le _, Nat.zero_le _⟩ (fun r64 F64 L64 hp64 => ?_)
      obtain ⟨rfl, q64, rfl⟩ := hp64
      have e64 : ∀ a, a ≠ 2 → F64 a = F56 a := fun a x1 => by rw [q64, gxu_cell x1]
      have m1 : SpOK F64 w := (g1.of (u3 1 (by decide) (by decide) (by decide))).of (e64 1 (by decide))
      have m3 : F64 3 = z.ln := (e64 3 (by decide)).trans ((u3 3 (by decide) (by decide) (by decide)).trans g3)
      have m5 : GrOK F64 (2 ^ (3 * w)) z.np z.sg := (g5.of (fun a x1 x2 => u3 a (by omega) (by omega) (by omega))).of (fun a x1 x2 => e64 a (by omega))
      refine gx_aload_n X d_PP_edge_67 rfl rfl ?_
      refine gx_callV X d_PP_edge_68 mf_PP_forgetSearch lk_PP_119 (c_PP_forgetSearch HX (z := (z.edg w k code).wip) ⟨m1, ⟨Nat.zero_le _, by rw [q64, gxu_at]; rfl, fun i hi => absurd hi (Nat.not_lt_zero i)⟩, m3, u2.of (fun a ha => e64 a (by omega)), m5⟩) (HX _ rfl).1 (HX _ rfl).2 rfl rfl rfl (Nat.le_of_ble_eq_true rfl) ⟨by decide, by decide⟩ ⟨rfl, rfl⟩ ⟨Nat.zero_le _, Nat.zero_le _⟩ (fun r68 F68 L68 hp68 => ?_)
      obtain ⟨rfl, rfl, v3⟩ := hp68
      refine gx_iload_n X d_PP_edge_71 rfl rfl ?_
      refine gx_iret X hr hA d_PP_edge_72 (K _ _ _ ⟨rfl, rfl, v3⟩)
    · exact absurd (of_decide_eq_true (cb_t h30)) (by omega)
  · exfalso
    have hx : nI k = -1 := h10
    have hk : k = 0 ∨ k = 1 ∨ k = 2 := by omega
    rcases hk with rfl | rfl | rfl <;> exact absurd hx (by decide)
/-- a predicate more -/
def kS.prd (w : Nat) (z : kS) (code : List Int32) : kS := kM z.n z.ln z.ne z.ef z.et z.ek z.ev z.tg (z.np + 1) (exS z.sg z.np (fun q => Nat.blt 0 (vlC w q code))) z.oc z.ns z.pt z.iq
theorem vl_ne {q v : Nat} {code : List Int32} (hv : evC w q code [] = [v]) (e0 : ¬ v = 0) (hw : w < 4) (h0 : 0 < w) : ¬ nI v = 0 := by
  have hlt : v < 2 ^ w := evC_lt hw h0 code (st := []) (fun x hx => by cases hx) v (by rw [hv]; simp)
  have h8 := pu_p8 w hw
  intro h
  have h2 : nI v ≤ nI 0 := by rw [h]; decide
  have := (nI_leI (a := v) (b := 0) (by omega) (by decide)).mp h2
  omega
set_option maxHeartbeats 4000000 in
theorem c_PP_predicate (HX : gH ks lay (2 ^ (3 * w)) sX) {z : kS} (hz : KOK F w z) (hnp : z.np < 12) (hat : (ptAtom z.n z.ln 0).1 = true) : Con l y_PP_predicate (Cond.code y_PP_predicate b_PP_predicate 3 (some .int) :: WT) rm_PP_predicate D vcl ca ks lay ad [xR 0] F L (fun r F' L' => r = some (xI (nI z.np)) ∧ L' = L ∧ KOK F' w ((z.prd w (ptAtom z.n z.ln 0).2).wip.fgt)) := by
  obtain ⟨h1, h2, h3, h4, h5, -⟩ := id hz
  have hw : w < 4 := by have := h1.1; omega
  have hN := pu_N w hw
  have hev := fun q => atom_ok h2.1 hat w q
  refine Con.ofK (fun post K => ?_)
  refine Con.of (ls := [(0, xR 0)]) (by decide) rfl rfl (Nat.le_of_ble_eq_true rfl) ?_
  intro p e s m args below meth c A X hr hA
  refine gx_aload_n X d_PP_predicate_0 rfl rfl ?_
  refine gx_getr X d_PP_predicate_1 (gci in_PP) (HX _ rfl).1 (HX _ rfl).2 rfl 3 (by decide) (gcw X lk_PP_50) (fun _ h => h) rfl ?_
  refine gx_iconst X d_PP_predicate_4 (v := nI 0) (by decide) ?_
  refine gx_callV X d_PP_predicate_5 mf_Pa_readAtom lk_PP_122 (c_Pa_readAtom HX h2 h3 (b := 0) (by decide)) (HX _ rfl).1 (HX _ rfl).2 rfl rfl rfl (Nat.le_of_ble_eq_true rfl) ⟨by decide, by decide⟩ ⟨rfl, rfl⟩ ⟨Nat.zero_le _, Nat.zero_le _⟩ (fun r5 F5 L5 hp5 => ?_)
  obtain ⟨rfl, rfl, q2, q3⟩ := hp5
  have q2 := q2 hat
  refine gx_top (y := 1) (by rw [hat]; rfl) ?_
  refine gx_if_ne X d_PP_predicate_8 (tgt := 21) (by decide) (fun h8 => ?_) (fun h8 => ?_)
  · refine gx_aload_n X d_PP_predicate_21 rfl rfl ?_
    refine gx_getr X d_PP_predicate_22 (gci in_PP) (HX _ rfl).1 (HX _ rfl).2 rfl 5 (by decide) (gcw X lk_PP_58) (fun _ h => h) rfl ?_
    have g1 := h1.of (q3 1 (by decide) (by decide) (by decide))
    have g2 := h2.of (q3 2 (by decide) (by decide) (by decide)) (q3 3 (by decide) (by decide) (by decide))
    have g3 := (q3 3 (by decide) (by decide) (by decide)).trans h3
    have g4 := h4.of (fun a ha => q3 a (by omega) (by omega) (by omega))
    have g5 := h5.of (fun a x1 x2 => q3 a (by omega) (by omega) (by omega))
    obtain ⟨s1, s2, s3⟩ := g5.1
    refine gx_callV X d_PP_predicate_25 mf_Gr_isFull lk_PP_128 (c_Gr_isFull (HX.mono sG_X) s1 s2) (HX _ rfl).1 (HX _ rfl).2 rfl rfl rfl (Nat.le_of_ble_eq_true rfl) ⟨by decide, by decide⟩ ⟨rfl, rfl⟩ ⟨Nat.zero_le _, Nat.zero_le _⟩ (fun r25 F25 L25 hp25 => ?_)
    obtain ⟨rfl, rfl, rfl⟩ := hp25
    refine gx_if_eq X d_PP_predicate_28 (tgt := 41) (by decide) (fun h28 => ?_) (fun h28 => ?_)
    · refine gx_aload_n X d_PP_predicate_41 rfl rfl ?_
      refine gx_getr X d_PP_predicate_42 (gci in_PP) (HX _ rfl).1 (HX _ rfl).2 rfl 5 (by decide) (gcw X lk_PP_58) (fun _ h => h) rfl ?_
      refine gx_geti X d_PP_predicate_45 (gci in_Gr) (HX _ rfl).1 (HX _ rfl).2 rfl 1 (by decide) (gcw X lk_PP_131) (fun _ h => h) rfl ?_
      refine gx_top s2 ?_
      refine gx_istore_n X d_PP_predicate_48 rfl (by decide) ?_
      refine gx_iconst X d_PP_predicate_49 (v := nI 0) (by decide) ?_
      refine gx_istore_n X d_PP_predicate_50 rfl (by decide) ?_
      generalize hcode : (ptAtom z.n z.ln 0).2 = code at *
      have loop : ∀ (d i : Nat) (G : Nat → Nat → Int32), i + d = 2 ^ (3 * w) → (∀ a, a ≠ 6 → a ≠ 15 → G a = F25 a) → (∀ q, q < 2 ^ (3 * w) → G 15 q = if q < i then nI (exS z.sg z.np (fun q => Nat.blt 0 (vlC w q code)) q) else nI (z.sg q)) → GX p l e rm_PP_predicate s m args below meth c (MQ below (gxQ D vcl ca ks lay ad s.heap.size post) args s 0 0 (gxA ks ad s.heap.size)) 3 A D vcl ca ks lay ad 0 0 51 [(2, xI (nI i)), (1, xI (nI z.np)), (0, xR 0)] [] G L25 := by
        intro d
        induction d with
        | zero =>
          intro i G hd e1 e2
          have m1 : SpOK G w := g1.of (e1 1 (by decide) (by decide))
          refine gx_iload_n X d_PP_predicate_51 rfl rfl ?_
          refine gx_aload_n X d_PP_predicate_52 rfl rfl ?_
          refine gx_getr X d_PP_predicate_53 (gci in_PP) (HX _ rfl).1 (HX _ rfl).2 rfl 0 (by decide) (gcw X lk_PP_31) (fun _ h => h) rfl ?_
          refine gx_geti X d_PP_predicate_56 (gci in_Sp) (HX _ rfl).1 (HX _ rfl).2 rfl 2 (by decide) (gcw X lk_PP_134) (fun _ h => h) rfl ?_
          refine gx_top m1.2.2.2 ?_
          refine gx_icmp_ge X d_PP_predicate_59 (tgt := 87) (by decide) (fun h59 => ?_) (fun h59 => ?_)
          · refine gx_aload_n X d_PP_predicate_87 rfl rfl ?_
            refine gx_getr X d_PP_predicate_88 (gci in_PP) (HX _ rfl).1 (HX _ rfl).2 rfl 5 (by decide) (gcw X lk_PP_58) (fun _ h => h) rfl ?_
            refine gx_callV X d_PP_predicate_91 mf_Gr_endPredicate lk_PP_144 (c_Gr_endPredicate (HX.mono sG_X) m1 hnp (by rw [e1 14 (by decide) (by decide)]; exact s2) (sg := exS z.sg z.np (fun q => Nat.blt 0 (vlC w q code))) (fun q hq => ⟨by rw [e2 q hq, if_pos (by omega)], exS_lt (fun q hq => (s3 q hq).2) _ q hq⟩)) (HX _ rfl).1 (HX _ rfl).2 rfl rfl rfl (Nat.le_of_ble_eq_true rfl) ⟨by decide, by decide⟩ ⟨rfl, rfl⟩ ⟨Nat.zero_le _, Nat.zero_le _⟩ (fun r91 F91 L91 hp91 => ?_)
            obtain ⟨rfl, rfl, v1, -, v2⟩ := hp91
            refine gx_aload_n X d_PP_predicate_94 rfl rfl ?_
            refine gx_getr X d_PP_predicate_95 (gci in_PP) (HX _ rfl).1 (HX _ rfl).2 rfl 1 (by decide) (gcw X lk_PP_37) (fun _ h => h) rfl ?_
            refine gx_callV X d_PP_predicate_98 mf_Li_makeEmpty lk_PP_92 (c_Li_makeEmpty HX) (HX _ rfl).1 (HX _ rfl).2 rfl rfl rfl (Nat.le_of_ble_eq_true rfl) ⟨by decide, by decide⟩ ⟨rfl, rfl⟩ ⟨Nat.zero_le _, Nat.zero_le _⟩ (fun r98 F98 L98 hp98 => ?_)
            obtain ⟨rfl, q98, rfl⟩ := hp98
            have e98 : ∀ a, a ≠ 2 → F98 a = F91 a := fun a x1 => by rw [q98, gxu_cell x1]
            have e9 : ∀ a, a ≠ 2 → a ≠ 6 → ¬ (14 ≤ a ∧ a ≤ 19) → F98 a = F25 a := fun a x1 x2 x3 => by rw [e98 a x1, v1 a x3, e1 a x2 (by omega)]
            refine gx_aload_n X d_PP_predicate_101 rfl rfl ?_
            refine gx_callV X d_PP_predicate_102 mf_PP_forgetSearch lk_PP_119 (c_PP_forgetSearch HX (z := (z.prd w code).wip) ⟨g1.of (e9 1 (by decide) (by decide) (by decide)), ⟨Nat.zero_le _, by rw [q98, gxu_at]; rfl, fun i hi => absurd hi (Nat.not_lt_zero i)⟩, (e9 3 (by decide) (by decide) (by decide)).trans g3, g4.of (fun a ha => e9 a (by omega) (by omega) (by omega)), v2.of (fun a x1 x2 => e98 a (by omega))⟩) (HX _ rfl).1 (HX _ rfl).2 rfl rfl rfl (Nat.le_of_ble_eq_true rfl) ⟨by decide, by decide⟩ ⟨rfl, rfl⟩ ⟨Nat.zero_le _, Nat.zero_le _⟩ (fun r102 F102 L102 hp102 => ?_)
            obtain ⟨rfl, rfl, v3⟩ := hp102
            refine gx_iload_n X d_PP_predicate_105 rfl rfl ?_
            refine gx_iret X hr hA d_PP_predicate_106 (K _ _ _ ⟨rfl, rfl, v3⟩)
          · exact absurd ((nI_leI (by omega) (by omega)).mpr (by omega)) h59
        | succ d ih =>
          intro i G hd e1 e2
          have m1 : SpOK G w := g1.of (e1 1 (by decide) (by decide))
          obtain ⟨v, hv⟩ := hev i
          have hvl : vlC w i code = v := by unfold vlC; rw [hv]; rfl
          refine gx_iload_n X d_PP_predicate_51 rfl rfl ?_
          refine gx_aload_n X d_PP_predicate_52 rfl rfl ?_
          refine gx_getr X d_PP_predicate_53 (gci in_PP) (HX _ rfl).1 (HX _ rfl).2 rfl 0 (by decide) (gcw X lk_PP_31) (fun _ h => h) rfl ?_
          refine gx_geti X d_PP_predicate_56 (gci in_Sp) (HX _ rfl).1 (HX _ rfl).2 rfl 2 (by decide) (gcw X lk_PP_134) (fun _ h => h) rfl ?_
          refine gx_top m1.2.2.2 ?_
          refine gx_icmp_ge X d_PP_predicate_59 (tgt := 87) (by decide) (fun h59 => ?_) (fun h59 => ?_)
          · exact absurd ((nI_leI (by omega) (by omega)).mp h59) (by omega)
          · refine gx_aload_n X d_PP_predicate_62 rfl rfl ?_
            refine gx_getr X d_PP_predicate_63 (gci in_PP) (HX _ rfl).1 (HX _ rfl).2 rfl 2 (by decide) (gcw X lk_PP_41) (fun _ h => h) rfl ?_
            refine gx_iload_n X d_PP_predicate_66 rfl rfl ?_
            refine gx_callV X d_PP_predicate_67 mf_Fo_valueIn lk_PP_137 (c_Fo_valueIn HX m1 (q2.of (e1 4 (by decide) (by decide)) (e1 5 (by decide) (by decide))) (q := i) (by omega) hv) (HX _ rfl).1 (HX _ rfl).2 rfl rfl rfl (Nat.le_of_ble_eq_true rfl) ⟨by decide, by decide⟩ ⟨rfl, rfl⟩ ⟨Nat.zero_le _, Nat.zero_le _⟩ (fun r67 F67 L67 hp67 => ?_)
            obtain ⟨rfl, rfl, t1⟩ := hp67
            have e67 : ∀ a, a ≠ 6 → a ≠ 15 → F67 a = F25 a := fun a x1 x2 => by rw [t1 a x1, e1 a x1 x2]
            have f15 : F67 15 = G 15 := t1 15 (by decide)
            refine gx_if_eq X d_PP_predicate_70 (tgt := 81) (by decide) (fun h70 => ?_) (fun h70 => ?_)
            · have hv0 : v = 0 := by
                by_cases e0 : v = 0
                · exact e0
                · exact absurd h70 (vl_ne hv e0 hw h1.1.1)
              refine gx_iinc X d_PP_predicate_81 rfl (pu_inc _) ?_
              refine gx_goto X d_PP_predicate_84 (tgt := 51) (by decide) ?_
              refine gx_el (ih (i + 1) _ (by omega) e67 (fun q hq => ?_)) ⟨rfl, rfl, rfl, trivial⟩
              rw [f15, e2 q hq]
              by_cases eq : q = i
              · rw [if_neg (by omega), if_pos (by omega)]
                unfold exS
                subst eq
                simp [hvl, hv0]
                rfl
              · by_cases lt : q < i
                · rw [if_pos lt, if_pos (by omega)]
                · rw [if_neg lt, if_neg (by omega)]
            · have hv0 : 0 < v := by
                by_cases e0 : v = 0
                · exact absurd (by rw [e0]; rfl) h70
                · omega
              refine gx_aload_n X d_PP_predicate_73 rfl rfl ?_
              refine gx_getr X d_PP_predicate_74 (gci in_PP) (HX _ rfl).1 (HX _ rfl).2 rfl 5 (by decide) (gcw X lk_PP_58) (fun _ h => h) rfl ?_
              refine gx_iload_n X d_PP_predicate_77 rfl rfl ?_
              refine gx_callV X d_PP_predicate_78 mf_Gr_include lk_PP_141 (c_Gr_include (HX.mono sG_X) hw hnp (by rw [e67 14 (by decide) (by decide)]; exact s2) (q := i) (g := z.sg i) (by omega) (by rw [f15, e2 i (by omega), if_neg (by omega)]) (s3 i (by omega)).2) (HX _ rfl).1 (HX _ rfl).2 rfl rfl rfl (Nat.le_of_ble_eq_true rfl) ⟨by decide, by decide⟩ ⟨rfl, rfl⟩ ⟨Nat.zero_le _, Nat.zero_le _⟩ (fun r78 F78 L78 hp78 => ?_)
              obtain ⟨rfl, q78, rfl⟩ := hp78
              refine gx_iinc X d_PP_predicate_81 rfl (pu_inc _) ?_
              refine gx_goto X d_PP_predicate_84 (tgt := 51) (by decide) ?_
              refine gx_el (ih (i + 1) _ (by omega) (fun a x1 x2 => by rw [q78, gxu_cell x2, e67 a x1 x2]) (fun q hq => ?_)) ⟨rfl, rfl, rfl, trivial⟩
              by_cases eq : q = i
              · subst eq
                rw [q78, gxu_at, if_pos (by omega)]
                unfold exS
                have hb : Nat.blt 0 (vlC w q code) = true := by rw [hvl]; exact Nat.ble_eq_true_of_le hv0
                simp only [hb, cond_true]
              · rw [q78, gxu_ne (fun y => eq y.2), f15, e2 q hq]
                by_cases lt : q < i
                · rw [if_pos lt, if_pos (by omega)]
                · rw [if_neg lt, if_neg (by omega)]
      exact gx_el (loop (2 ^ (3 * w)) 0 _ (by omega) (fun _ _ _ => rfl) (fun q hq => by rw [if_neg (Nat.not_lt_zero q)]; exact (s3 q hq).1)) ⟨rfl, rfl, rfl, trivial⟩
    · exact absurd (of_decide_eq_true (cb_t h28)) (by omega)
  · exact absurd h8 (by decide)
end
