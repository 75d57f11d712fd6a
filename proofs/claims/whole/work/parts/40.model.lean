/-! the reference: small methods (own text) -/
section
variable {l : Launch} {D : va_G} {ca : Nat → ClassId} {ks : List Nat} {lay : Nat → gxE} {ad : Nat → Nat} {F : Nat → Nat → Int32} {L : Nat → Nat → Int64} {N n : Nat}
theorem c_Mo_isVariable (ch : Int32) : Con l y_Mo_isVariable (Cond.code y_Mo_isVariable b_Mo_isVariable 1 (some .boolean) :: WT) rm_Mo_isVariable D vcl ca ks lay ad [xI ch] F L (fun r F' L' => r = some (xI (cond (isVar ch) 1 0)) ∧ F' = F ∧ L' = L) := by
  refine Con.ofK (fun post K => ?_)
  refine Con.of (ls := [(0, xI ch)]) (by decide) rfl rfl (Nat.le_of_ble_eq_true rfl) ?_
  intro p e s m args below meth c A X hr hA
  refine gx_iload_n X d_Mo_isVariable_0 rfl rfl ?_
  refine gx_bipush X d_Mo_isVariable_1 (v := nI 120) (by decide) ?_
  refine gx_icmp_lt X d_Mo_isVariable_3 (tgt := 16) (by decide) (fun h3 => ?_) (fun h3 => ?_)
  · refine gx_iconst X d_Mo_isVariable_16 (v := nI 0) (by decide) ?_
    refine gx_zret X hr (by first | rfl | decide) hA d_Mo_isVariable_17 (K _ _ _ ⟨by unfold isVar; rw [decide_eq_false (Int32.not_le.mpr h3)]; rfl, rfl, rfl⟩)
  · refine gx_iload_n X d_Mo_isVariable_6 rfl rfl ?_
    refine gx_bipush X d_Mo_isVariable_7 (v := nI 122) (by decide) ?_
    refine gx_icmp_gt X d_Mo_isVariable_9 (tgt := 16) (by decide) (fun h9 => ?_) (fun h9 => ?_)
    · refine gx_iconst X d_Mo_isVariable_16 (v := nI 0) (by decide) ?_
      refine gx_zret X hr (by first | rfl | decide) hA d_Mo_isVariable_17 (K _ _ _ ⟨by unfold isVar; rw [decide_eq_false (Int32.not_le.mpr h9), Bool.and_false]; rfl, rfl, rfl⟩)
    · refine gx_iconst X d_Mo_isVariable_12 (v := nI 1) (by decide) ?_
      refine gx_goto X d_Mo_isVariable_13 (tgt := 17) (by decide) ?_
      refine gx_zret X hr (by first | rfl | decide) hA d_Mo_isVariable_17 (K _ _ _ ⟨by unfold isVar; rw [decide_eq_true (Int32.not_lt.mp h3), decide_eq_true (Int32.not_lt.mp h9)]; rfl, rfl, rfl⟩)
theorem c_Mo_isLocation (ch : Int32) : Con l y_Mo_isLocation (Cond.code y_Mo_isLocation b_Mo_isLocation 1 (some .boolean) :: WT) rm_Mo_isLocation D vcl ca ks lay ad [xI ch] F L (fun r F' L' => r = some (xI (cond (isLoc ch) 1 0)) ∧ F' = F ∧ L' = L) := by
  refine Con.ofK (fun post K => ?_)
  refine Con.of (ls := [(0, xI ch)]) (by decide) rfl rfl (Nat.le_of_ble_eq_true rfl) ?_
  intro p e s m args below meth c A X hr hA
  refine gx_iload_n X d_Mo_isLocation_0 rfl rfl ?_
  refine gx_bipush X d_Mo_isLocation_1 (v := nI 65) (by decide) ?_
  refine gx_icmp_lt X d_Mo_isLocation_3 (tgt := 16) (by decide) (fun h3 => ?_) (fun h3 => ?_)
  · refine gx_iconst X d_Mo_isLocation_16 (v := nI 0) (by decide) ?_
    refine gx_zret X hr (by first | rfl | decide) hA d_Mo_isLocation_17 (K _ _ _ ⟨by unfold isLoc; rw [decide_eq_false (Int32.not_le.mpr h3)]; rfl, rfl, rfl⟩)
  · refine gx_iload_n X d_Mo_isLocation_6 rfl rfl ?_
    refine gx_bipush X d_Mo_isLocation_7 (v := nI 76) (by decide) ?_
    refine gx_icmp_gt X d_Mo_isLocation_9 (tgt := 16) (by decide) (fun h9 => ?_) (fun h9 => ?_)
    · refine gx_iconst X d_Mo_isLocation_16 (v := nI 0) (by decide) ?_
      refine gx_zret X hr (by first | rfl | decide) hA d_Mo_isLocation_17 (K _ _ _ ⟨by unfold isLoc; rw [decide_eq_false (fun q => absurd (lt77.mp q) (Int32.not_le.mpr h9)), Bool.and_false]; rfl, rfl, rfl⟩)
    · refine gx_iconst X d_Mo_isLocation_12 (v := nI 1) (by decide) ?_
      refine gx_goto X d_Mo_isLocation_13 (tgt := 17) (by decide) ?_
      refine gx_zret X hr (by first | rfl | decide) hA d_Mo_isLocation_17 (K _ _ _ ⟨by unfold isLoc; rw [decide_eq_true (Int32.not_lt.mp h3), decide_eq_true (lt77.mpr (Int32.not_lt.mp h9))]; rfl, rfl, rfl⟩)
theorem c_Mo_isSign (ch : Int32) : Con l y_Mo_isSign (Cond.code y_Mo_isSign b_Mo_isSign 1 (some .boolean) :: WT) rm_Mo_isSign D vcl ca ks lay ad [xI ch] F L (fun r F' L' => r = some (xI (cond (isOp ch) 1 0)) ∧ F' = F ∧ L' = L) := by
  refine Con.ofK (fun post K => ?_)
  refine Con.of (ls := [(0, xI ch)]) (by decide) rfl rfl (Nat.le_of_ble_eq_true rfl) ?_
  intro p e s m args below meth c A X hr hA
  have yes : isOp ch = true → GX p l e rm_Mo_isSign s m args below meth c (MQ below (gxQ D vcl ca ks lay ad s.heap.size post) args s 0 0 (gxA ks ad s.heap.size)) 1 A D vcl ca ks lay ad 0 0 30 [(0, xI ch)] [] F L := by
    intro h
    refine gx_iconst X d_Mo_isSign_30 (v := nI 1) (by decide) ?_
    refine gx_goto X d_Mo_isSign_31 (tgt := 35) (by decide) ?_
    refine gx_zret X hr (by first | rfl | decide) hA d_Mo_isSign_35 (K _ _ _ ⟨by rw [h]; rfl, rfl, rfl⟩)
  refine gx_iload_n X d_Mo_isSign_0 rfl rfl ?_
  refine gx_bipush X d_Mo_isSign_1 (v := nI 43) (by decide) ?_
  refine gx_icmp_eq X d_Mo_isSign_3 (tgt := 30) (by decide) (fun h3 => ?_) (fun h3 => ?_)
  · exact yes (by unfold isOp; rw [show ch = nI 43 from h3]; decide)
  · refine gx_iload_n X d_Mo_isSign_6 rfl rfl ?_
    refine gx_bipush X d_Mo_isSign_7 (v := nI 45) (by decide) ?_
    refine gx_icmp_eq X d_Mo_isSign_9 (tgt := 30) (by decide) (fun h9 => ?_) (fun h9 => ?_)
    · exact yes (by unfold isOp; rw [show ch = nI 45 from h9]; decide)
    · refine gx_iload_n X d_Mo_isSign_12 rfl rfl ?_
      refine gx_bipush X d_Mo_isSign_13 (v := nI 42) (by decide) ?_
      refine gx_icmp_eq X d_Mo_isSign_15 (tgt := 30) (by decide) (fun h15 => ?_) (fun h15 => ?_)
      · exact yes (by unfold isOp; rw [show ch = nI 42 from h15]; decide)
      · refine gx_iload_n X d_Mo_isSign_18 rfl rfl ?_
        refine gx_bipush X d_Mo_isSign_19 (v := nI 38) (by decide) ?_
        refine gx_icmp_eq X d_Mo_isSign_21 (tgt := 30) (by decide) (fun h21 => ?_) (fun h21 => ?_)
        · exact yes (by unfold isOp; rw [show ch = nI 38 from h21]; decide)
        · refine gx_iload_n X d_Mo_isSign_24 rfl rfl ?_
          refine gx_bipush X d_Mo_isSign_25 (v := nI 94) (by decide) ?_
          refine gx_icmp_ne X d_Mo_isSign_27 (tgt := 34) (by decide) (fun h27 => ?_) (fun h27 => ?_)
          · refine gx_iconst X d_Mo_isSign_34 (v := nI 0) (by decide) ?_
            refine gx_zret X hr (by first | rfl | decide) hA d_Mo_isSign_35 (K _ _ _ ⟨by unfold isOp; rw [decide_eq_false h3, decide_eq_false h9, decide_eq_false h15, decide_eq_false h21, decide_eq_false h27]; rfl, rfl, rfl⟩)
          · exact yes (by unfold isOp; rw [show ch = nI 94 from h27]; decide)
theorem c_Mo_isRelation (ch : Int32) : Con l y_Mo_isRelation (Cond.code y_Mo_isRelation b_Mo_isRelation 1 (some .boolean) :: WT) rm_Mo_isRelation D vcl ca ks lay ad [xI ch] F L (fun r F' L' => r = some (xI (cond (isCmp ch) 1 0)) ∧ F' = F ∧ L' = L) := by
  refine Con.ofK (fun post K => ?_)
  refine Con.of (ls := [(0, xI ch)]) (by decide) rfl rfl (Nat.le_of_ble_eq_true rfl) ?_
  intro p e s m args below meth c A X hr hA
  have yes : isCmp ch = true → GX p l e rm_Mo_isRelation s m args below meth c (MQ below (gxQ D vcl ca ks lay ad s.heap.size post) args s 0 0 (gxA ks ad s.heap.size)) 1 A D vcl ca ks lay ad 0 0 18 [(0, xI ch)] [] F L := by
    intro h
    refine gx_iconst X d_Mo_isRelation_18 (v := nI 1) (by decide) ?_
    refine gx_goto X d_Mo_isRelation_19 (tgt := 23) (by decide) ?_
    refine gx_zret X hr (by first | rfl | decide) hA d_Mo_isRelation_23 (K _ _ _ ⟨by rw [h]; rfl, rfl, rfl⟩)
  refine gx_iload_n X d_Mo_isRelation_0 rfl rfl ?_
  refine gx_bipush X d_Mo_isRelation_1 (v := nI 60) (by decide) ?_
  refine gx_icmp_eq X d_Mo_isRelation_3 (tgt := 18) (by decide) (fun h3 => ?_) (fun h3 => ?_)
  · exact yes (by unfold isCmp; rw [show ch = nI 60 from h3]; decide)
  · refine gx_iload_n X d_Mo_isRelation_6 rfl rfl ?_
    refine gx_bipush X d_Mo_isRelation_7 (v := nI 61) (by decide) ?_
    refine gx_icmp_eq X d_Mo_isRelation_9 (tgt := 18) (by decide) (fun h9 => ?_) (fun h9 => ?_)
    · exact yes (by unfold isCmp; rw [show ch = nI 61 from h9]; decide)
    · refine gx_iload_n X d_Mo_isRelation_12 rfl rfl ?_
      refine gx_bipush X d_Mo_isRelation_13 (v := nI 35) (by decide) ?_
      refine gx_icmp_ne X d_Mo_isRelation_15 (tgt := 22) (by decide) (fun h15 => ?_) (fun h15 => ?_)
      · refine gx_iconst X d_Mo_isRelation_22 (v := nI 0) (by decide) ?_
        refine gx_zret X hr (by first | rfl | decide) hA d_Mo_isRelation_23 (K _ _ _ ⟨by unfold isCmp; rw [decide_eq_false h3, decide_eq_false h9, decide_eq_false h15]; rfl, rfl, rfl⟩)
      · exact yes (by unfold isCmp; rw [show ch = nI 35 from h15]; decide)
theorem c_Mo_thrown (HX : gH ks lay N sM) : Con l y_Mo_thrown (Cond.code y_Mo_thrown b_Mo_thrown 1 (some .int) :: WT) rm_Mo_thrown D vcl ca ks lay ad [xR 40] F L (fun r F' L' => r = some (xI (F 40 3)) ∧ F' = F ∧ L' = L) := by
  refine Con.ofK (fun post K => ?_)
  refine Con.of (ls := [(0, xR 40)]) (by decide) rfl rfl (Nat.le_of_ble_eq_true rfl) ?_
  intro p e s m args below meth c A X hr hA
  refine gx_aload_n X d_Mo_thrown_0 rfl rfl ?_
  refine gx_geti X d_Mo_thrown_1 (gci in_Mo) (HX _ rfl).1 (HX _ rfl).2 rfl 3 (by decide) (gcw X lk_Mo_85) (fun _ h => h) rfl ?_
  refine gx_iret X hr hA d_Mo_thrown_4 (K _ _ _ ⟨rfl, rfl, rfl⟩)
theorem c_Mo_fail (HX : gH ks lay N sM) (x : Int32) : Con l y_Mo_fail (Cond.code y_Mo_fail b_Mo_fail 2 (some .int) :: WT) rm_Mo_fail D vcl ca ks lay ad [xR 40, xI x] F L (fun r F' L' => r = some (xI (nI 0)) ∧ F' = gxu F 40 3 x ∧ L' = L) := by
  refine Con.ofK (fun post K => ?_)
  refine Con.of (ls := [(0, xR 40), (1, xI x)]) (by decide) rfl rfl (Nat.le_of_ble_eq_true rfl) ?_
  intro p e s m args below meth c A X hr hA
  refine gx_aload_n X d_Mo_fail_0 rfl rfl ?_
  refine gx_iload_n X d_Mo_fail_1 rfl rfl ?_
  refine gx_puti X d_Mo_fail_2 (gci in_Mo) (HX _ rfl).1 (HX _ rfl).2 rfl 3 (by decide) (gcw X lk_Mo_85) (fun _ h => h) t_Mo ty_Mo nm_Mo rfl (ty_Mo 3 (by decide)) rfl rfl rfl ?_
  refine gx_iconst X d_Mo_fail_5 (v := nI 0) (by decide) ?_
  refine gx_iret X hr hA d_Mo_fail_6 (K _ _ _ ⟨rfl, rfl, rfl⟩)
theorem c_Mo_wipe (HX : gH ks lay N sM) : Con l y_Mo_wipe (Cond.code y_Mo_wipe b_Mo_wipe 1 none :: WT) rm_Mo_wipe D vcl ca ks lay ad [xR 40] F L (fun r F' L' => r = none ∧ F' = gxu (gxu F 40 3 (nI 0)) 40 5 (nI 0) ∧ L' = L) := by
  refine Con.ofK (fun post K => ?_)
  refine Con.of (ls := [(0, xR 40)]) (by decide) rfl rfl (Nat.le_of_ble_eq_true rfl) ?_
  intro p e s m args below meth c A X hr hA
  refine gx_aload_n X d_Mo_wipe_0 rfl rfl ?_
  refine gx_iconst X d_Mo_wipe_1 (v := nI 0) (by decide) ?_
  refine gx_puti X d_Mo_wipe_2 (gci in_Mo) (HX _ rfl).1 (HX _ rfl).2 rfl 3 (by decide) (gcw X lk_Mo_85) (fun _ h => h) t_Mo ty_Mo nm_Mo rfl (ty_Mo 3 (by decide)) rfl rfl rfl ?_
  refine gx_aload_n X d_Mo_wipe_5 rfl rfl ?_
  refine gx_iconst X d_Mo_wipe_6 (v := nI 0) (by decide) ?_
  refine gx_puti X d_Mo_wipe_7 (gci in_Mo) (HX _ rfl).1 (HX _ rfl).2 rfl 5 (by decide) (gcw X lk_Mo_88) (fun _ h => h) t_Mo ty_Mo nm_Mo rfl (ty_Mo 5 (by decide)) rfl rfl rfl ?_
  refine gx_vret X hr hA d_Mo_wipe_10 (K _ _ _ ⟨rfl, rfl, rfl⟩)
theorem c_Mo_outcome (HX : gH ks lay N sM) : Con l y_Mo_outcome (Cond.code y_Mo_outcome b_Mo_outcome 1 (some .int) :: WT) rm_Mo_outcome D vcl ca ks lay ad [xR 40] F L (fun r F' L' => r = some (xI (F 40 15)) ∧ F' = gxu F 40 3 (nI 0) ∧ L' = L) := by
  refine Con.ofK (fun post K => ?_)
  refine Con.of (ls := [(0, xR 40)]) (by decide) rfl rfl (Nat.le_of_ble_eq_true rfl) ?_
  intro p e s m args below meth c A X hr hA
  refine gx_aload_n X d_Mo_outcome_0 rfl rfl ?_
  refine gx_iconst X d_Mo_outcome_1 (v := nI 0) (by decide) ?_
  refine gx_puti X d_Mo_outcome_2 (gci in_Mo) (HX _ rfl).1 (HX _ rfl).2 rfl 3 (by decide) (gcw X lk_Mo_85) (fun _ h => h) t_Mo ty_Mo nm_Mo rfl (ty_Mo 3 (by decide)) rfl rfl rfl ?_
  refine gx_aload_n X d_Mo_outcome_5 rfl rfl ?_
  refine gx_geti X d_Mo_outcome_6 (gci in_Mo) (HX _ rfl).1 (HX _ rfl).2 rfl 15 (by decide) (gcw X lk_Mo_35) (fun _ h => h) rfl ?_
  refine gx_top (gxu_ne (by decide)) ?_
  refine gx_iret X hr hA d_Mo_outcome_9 (K _ _ _ ⟨rfl, rfl, rfl⟩)
theorem c_Mo_edges (HX : gH ks lay N sM) : Con l y_Mo_edges (Cond.code y_Mo_edges b_Mo_edges 1 (some .int) :: WT) rm_Mo_edges D vcl ca ks lay ad [xR 40] F L (fun r F' L' => r = some (xI (F 40 6)) ∧ F' = gxu F 40 3 (nI 0) ∧ L' = L) := by
  refine Con.ofK (fun post K => ?_)
  refine Con.of (ls := [(0, xR 40)]) (by decide) rfl rfl (Nat.le_of_ble_eq_true rfl) ?_
  intro p e s m args below meth c A X hr hA
  refine gx_aload_n X d_Mo_edges_0 rfl rfl ?_
  refine gx_iconst X d_Mo_edges_1 (v := nI 0) (by decide) ?_
  refine gx_puti X d_Mo_edges_2 (gci in_Mo) (HX _ rfl).1 (HX _ rfl).2 rfl 3 (by decide) (gcw X lk_Mo_85) (fun _ h => h) t_Mo ty_Mo nm_Mo rfl (ty_Mo 3 (by decide)) rfl rfl rfl ?_
  refine gx_aload_n X d_Mo_edges_5 rfl rfl ?_
  refine gx_geti X d_Mo_edges_6 (gci in_Mo) (HX _ rfl).1 (HX _ rfl).2 rfl 6 (by decide) (gcw X lk_Mo_138) (fun _ h => h) rfl ?_
  refine gx_top (gxu_ne (by decide)) ?_
  refine gx_iret X hr hA d_Mo_edges_9 (K _ _ _ ⟨rfl, rfl, rfl⟩)
theorem c_Mo_predicates (HX : gH ks lay N sM) : Con l y_Mo_predicates (Cond.code y_Mo_predicates b_Mo_predicates 1 (some .int) :: WT) rm_Mo_predicates D vcl ca ks lay ad [xR 40] F L (fun r F' L' => r = some (xI (F 40 12)) ∧ F' = gxu F 40 3 (nI 0) ∧ L' = L) := by
  refine Con.ofK (fun post K => ?_)
  refine Con.of (ls := [(0, xR 40)]) (by decide) rfl rfl (Nat.le_of_ble_eq_true rfl) ?_
  intro p e s m args below meth c A X hr hA
  refine gx_aload_n X d_Mo_predicates_0 rfl rfl ?_
  refine gx_iconst X d_Mo_predicates_1 (v := nI 0) (by decide) ?_
  refine gx_puti X d_Mo_predicates_2 (gci in_Mo) (HX _ rfl).1 (HX _ rfl).2 rfl 3 (by decide) (gcw X lk_Mo_85) (fun _ h => h) t_Mo ty_Mo nm_Mo rfl (ty_Mo 3 (by decide)) rfl rfl rfl ?_
  refine gx_aload_n X d_Mo_predicates_5 rfl rfl ?_
  refine gx_geti X d_Mo_predicates_6 (gci in_Mo) (HX _ rfl).1 (HX _ rfl).2 rfl 12 (by decide) (gcw X lk_Mo_155) (fun _ h => h) rfl ?_
  refine gx_top (gxu_ne (by decide)) ?_
  refine gx_iret X hr hA d_Mo_predicates_9 (K _ _ _ ⟨rfl, rfl, rfl⟩)
theorem c_Mo_nodes (HX : gH ks lay N sM) : Con l y_Mo_nodes (Cond.code y_Mo_nodes b_Mo_nodes 1 (some .int) :: WT) rm_Mo_nodes D vcl ca ks lay ad [xR 40] F L (fun r F' L' => r = some (xI (F 40 16)) ∧ F' = gxu F 40 3 (nI 0) ∧ L' = L) := by
  refine Con.ofK (fun post K => ?_)
  refine Con.of (ls := [(0, xR 40)]) (by decide) rfl rfl (Nat.le_of_ble_eq_true rfl) ?_
  intro p e s m args below meth c A X hr hA
  refine gx_aload_n X d_Mo_nodes_0 rfl rfl ?_
  refine gx_iconst X d_Mo_nodes_1 (v := nI 0) (by decide) ?_
  refine gx_puti X d_Mo_nodes_2 (gci in_Mo) (HX _ rfl).1 (HX _ rfl).2 rfl 3 (by decide) (gcw X lk_Mo_85) (fun _ h => h) t_Mo ty_Mo nm_Mo rfl (ty_Mo 3 (by decide)) rfl rfl rfl ?_
  refine gx_aload_n X d_Mo_nodes_5 rfl rfl ?_
  refine gx_geti X d_Mo_nodes_6 (gci in_Mo) (HX _ rfl).1 (HX _ rfl).2 rfl 16 (by decide) (gcw X lk_Mo_123) (fun _ h => h) rfl ?_
  refine gx_top (gxu_ne (by decide)) ?_
  refine gx_iret X hr hA d_Mo_nodes_9 (K _ _ _ ⟨rfl, rfl, rfl⟩)
theorem c_Mo_length (HX : gH ks lay N sM) : Con l y_Mo_length (Cond.code y_Mo_length b_Mo_length 1 (some .int) :: WT) rm_Mo_length D vcl ca ks lay ad [xR 40] F L (fun r F' L' => r = some (xI (F 40 21)) ∧ F' = gxu F 40 3 (nI 0) ∧ L' = L) := by
  refine Con.ofK (fun post K => ?_)
  refine Con.of (ls := [(0, xR 40)]) (by decide) rfl rfl (Nat.le_of_ble_eq_true rfl) ?_
  intro p e s m args below meth c A X hr hA
  refine gx_aload_n X d_Mo_length_0 rfl rfl ?_
  refine gx_iconst X d_Mo_length_1 (v := nI 0) (by decide) ?_
  refine gx_puti X d_Mo_length_2 (gci in_Mo) (HX _ rfl).1 (HX _ rfl).2 rfl 3 (by decide) (gcw X lk_Mo_85) (fun _ h => h) t_Mo ty_Mo nm_Mo rfl (ty_Mo 3 (by decide)) rfl rfl rfl ?_
  refine gx_aload_n X d_Mo_length_5 rfl rfl ?_
  refine gx_geti X d_Mo_length_6 (gci in_Mo) (HX _ rfl).1 (HX _ rfl).2 rfl 21 (by decide) (gcw X lk_Mo_51) (fun _ h => h) rfl ?_
  refine gx_top (gxu_ne (by decide)) ?_
  refine gx_iret X hr hA d_Mo_length_9 (K _ _ _ ⟨rfl, rfl, rfl⟩)
theorem c_Mo_at (HX : gH ks lay N sM) (hn : n ≤ 24) (h5 : F 40 5 = nI n) {i : Nat} (hi : i < 2 ^ 31) : Con l y_Mo_at (Cond.code y_Mo_at b_Mo_at 2 (some .int) :: WT) rm_Mo_at D vcl ca ks lay ad [xR 40, xI (nI i)] F L (fun r F' L' => r = some (xI (lnAt n (F 41) i)) ∧ F' = F ∧ L' = L) := by
  refine Con.ofK (fun post K => ?_)
  refine Con.of (ls := [(0, xR 40), (1, xI (nI i))]) (by decide) rfl rfl (Nat.le_of_ble_eq_true rfl) ?_
  intro p e s m args below meth c A X hr hA
  refine gx_iload_n X d_Mo_at_0 rfl rfl ?_
  refine gx_aload_n X d_Mo_at_1 rfl rfl ?_
  refine gx_geti X d_Mo_at_2 (gci in_Mo) (HX _ rfl).1 (HX _ rfl).2 rfl 5 (by decide) (gcw X lk_Mo_88) (fun _ h => h) rfl ?_
  refine gx_top h5 ?_
  refine gx_icmp_ge X d_Mo_at_5 (tgt := 17) (by decide) (fun h5 => ?_) (fun h5 => ?_)
  · have hge : ¬ i < n := Nat.not_lt.mpr ((nI_leI (by omega) (by omega)).mp h5)
    refine gx_iconst X d_Mo_at_17 (v := nI 0) (by decide) ?_
    refine gx_iret X hr hA d_Mo_at_18 (K _ _ _ ⟨by unfold lnAt; rw [if_neg hge]; rfl, rfl, rfl⟩)
  · have hlt : i < n := Nat.lt_of_not_le (fun q => h5 ((nI_leI (by omega) (by omega)).mpr q))
    refine gx_aload_n X d_Mo_at_8 rfl rfl ?_
    refine gx_getr X d_Mo_at_9 (gci in_Mo) (HX _ rfl).1 (HX _ rfl).2 rfl 4 (by decide) (gcw X lk_Mo_7) (fun _ h => h) rfl ?_
    refine gx_iload_n X d_Mo_at_12 rfl rfl ?_
    refine gx_iald X d_Mo_at_13 (HX _ rfl).1 (HX _ rfl).2 rfl (by omega) (by omega) ?_
    refine gx_goto X d_Mo_at_14 (tgt := 18) (by decide) ?_
    refine gx_iret X hr hA d_Mo_at_18 (K _ _ _ ⟨by unfold lnAt; rw [if_pos hlt], rfl, rfl⟩)
theorem c_Mo_isState (HX : gH ks lay N sM) {w : Nat} (h2 : F 40 2 = nI (2 ^ (3 * w))) (x : Int32) : Con l y_Mo_isState (Cond.code y_Mo_isState b_Mo_isState 2 (some .boolean) :: WT) rm_Mo_isState D vcl ca ks lay ad [xR 40, xI x] F L (fun r F' L' => r = some (xI (if 0 ≤ x ∧ x < nI (2 ^ (3 * w)) then 1 else 0)) ∧ F' = F ∧ L' = L) := by
  refine Con.ofK (fun post K => ?_)
  refine Con.of (ls := [(0, xR 40), (1, xI x)]) (by decide) rfl rfl (Nat.le_of_ble_eq_true rfl) ?_
  intro p e s m args below meth c A X hr hA
  refine gx_iload_n X d_Mo_isState_0 rfl rfl ?_
  refine gx_if_lt X d_Mo_isState_1 (tgt := 16) (by decide) (fun h1 => ?_) (fun h1 => ?_)
  · refine gx_iconst X d_Mo_isState_16 (v := nI 0) (by decide) ?_
    refine gx_zret X hr (by first | rfl | decide) hA d_Mo_isState_17 (K _ _ _ ⟨by rw [if_neg (fun q => absurd q.1 (Int32.not_le.mpr h1))]; rfl, rfl, rfl⟩)
  · refine gx_iload_n X d_Mo_isState_4 rfl rfl ?_
    refine gx_aload_n X d_Mo_isState_5 rfl rfl ?_
    refine gx_geti X d_Mo_isState_6 (gci in_Mo) (HX _ rfl).1 (HX _ rfl).2 rfl 2 (by decide) (gcw X lk_Mo_82) (fun _ h => h) rfl ?_
    refine gx_top h2 ?_
    refine gx_icmp_ge X d_Mo_isState_9 (tgt := 16) (by decide) (fun h9 => ?_) (fun h9 => ?_)
    · refine gx_iconst X d_Mo_isState_16 (v := nI 0) (by decide) ?_
      refine gx_zret X hr (by first | rfl | decide) hA d_Mo_isState_17 (K _ _ _ ⟨by rw [if_neg (fun q => absurd q.2 (Int32.not_lt.mpr h9))]; rfl, rfl, rfl⟩)
    · refine gx_iconst X d_Mo_isState_12 (v := nI 1) (by decide) ?_
      refine gx_goto X d_Mo_isState_13 (tgt := 17) (by decide) ?_
      refine gx_zret X hr (by first | rfl | decide) hA d_Mo_isState_17 (K _ _ _ ⟨by rw [if_pos ⟨Int32.not_lt.mp h1, Int32.not_le.mp h9⟩]; rfl, rfl, rfl⟩)
end
