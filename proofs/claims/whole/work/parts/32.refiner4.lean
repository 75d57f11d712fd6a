section
variable {l : Launch} {D : va_G} {ca : Nat → ClassId} {ks : List Nat} {lay : Nat → gxE} {ad : Nat → Nat} {F : Nat → Nat → Int32} {L : Nat → Nat → Int64} {w np : Nat} {sg : Nat → Nat} {ne : Nat} {ef et ek ev : Nat → Nat} {tg : Nat → Nat → Option Nat} {es : List Nat}
/-- the bits of a state's number, offered until one splits -/
noncomputable def avb (N : Nat) : Nat → Nat → Nat × (Nat → Nat) → Bool × Nat × (Nat → Nat)
  | 0, _, z => (true, z)
  | r + 1, j, z => if splB N z.2 (fun q => q.testBit j) = true then (if z.1 = 12 then (false, z) else (true, z.1 + 1, exS z.2 z.1 (fun q => q.testBit j))) else avb N r (j + 1) z
theorem tb_lN {n j : Nat} (hj : j < 64) : tb (lN n) j = n.testBit j := by
  unfold tb
  show (BitVec.ofNat 64 n).getLsbD j = _
  rw [BitVec.getLsbD_ofNat]
  simp [hj]
set_option maxHeartbeats 8000000 in
theorem c_Rf_adoptVariableBit (HX : gH ks lay (2 ^ (3 * w)) sX) (hS : SpOK F w) (hG : GrOK F (2 ^ (3 * w)) np sg) : Con l y_Rf_adoptVariableBit (Cond.code y_Rf_adoptVariableBit b_Rf_adoptVariableBit 4 (some .boolean) :: WT) rm_Rf_adoptVariableBit D vcl ca ks lay ad [xR 33] F L (fun r F' L' => r = some (xI (cond (avb (2 ^ (3 * w)) (3 * w) 0 (np, sg)).1 (nI 1) (nI 0))) ∧ (∀ a, a ≠ 35 → L' a = L a) ∧ (∀ a, ¬ (14 ≤ a ∧ a ≤ 19) → F' a = F a) ∧ GrOK F' (2 ^ (3 * w)) (avb (2 ^ (3 * w)) (3 * w) 0 (np, sg)).2.1 (avb (2 ^ (3 * w)) (3 * w) 0 (np, sg)).2.2) := by
  have hw : w < 4 := by have := hS.1; omega
  have hN := pu_N w hw
  have hnp : np ≤ 12 := hG.1.1
  generalize hz : avb (2 ^ (3 * w)) (3 * w) 0 (np, sg) = z
  refine Con.ofK (fun post K => ?_)
  refine Con.of (ls := [(0, xR 33)]) (by decide) rfl rfl (Nat.le_of_ble_eq_true rfl) ?_
  intro p e s m args below meth c A X hr hA
  refine gx_iconst X d_Rf_adoptVariableBit_0 (v := nI 0) (by decide) ?_
  refine gx_istore_n X d_Rf_adoptVariableBit_1 rfl (by decide) ?_
  have loop : ∀ (d i : Nat) (M : Nat → Nat → Int64), i + d = 2 ^ (3 * w) → (∀ a, a ≠ 35 → M a = L a) → (∀ q, q < i → M 35 q = lN q) → GX p l e rm_Rf_adoptVariableBit s m args below meth c (MQ below (gxQ D vcl ca ks lay ad s.heap.size post) args s 0 0 (gxA ks ad s.heap.size)) 4 A D vcl ca ks lay ad 0 0 2 [(1, xI (nI i)), (0, xR 33)] [] F M := by
    intro d
    induction d with
    | zero =>
      intro i M hd m1 m2
      refine gx_iload_n X d_Rf_adoptVariableBit_2 rfl rfl ?_
      refine gx_aload_n X d_Rf_adoptVariableBit_3 rfl rfl ?_
      refine gx_getr X d_Rf_adoptVariableBit_4 (gci in_Rf) (HX _ rfl).1 (HX _ rfl).2 rfl 0 (by decide) (gcw X lk_Rf_15) (fun _ h => h) rfl ?_
      refine gx_geti X d_Rf_adoptVariableBit_7 (gci in_Sp) (HX _ rfl).1 (HX _ rfl).2 rfl 2 (by decide) (gcw X lk_Rf_31) (fun _ h => h) rfl ?_
      refine gx_top hS.2.2.2 ?_
      refine gx_icmp_ge X d_Rf_adoptVariableBit_10 (tgt := 27) (by decide) (fun h10 => ?_) (fun h10 => ?_)
      · refine gx_aload_n X d_Rf_adoptVariableBit_27 rfl rfl ?_
        refine gx_getr X d_Rf_adoptVariableBit_28 (gci in_Rf) (HX _ rfl).1 (HX _ rfl).2 rfl 2 (by decide) (gcw X lk_Rf_23) (fun _ h => h) rfl ?_
        refine gx_aload_n X d_Rf_adoptVariableBit_31 rfl rfl ?_
        refine gx_getr X d_Rf_adoptVariableBit_32 (gci in_Rf) (HX _ rfl).1 (HX _ rfl).2 rfl 5 (by decide) (gcw X lk_Rf_41) (fun _ h => h) rfl ?_
        refine gx_callV X d_Rf_adoptVariableBit_35 mf_Gr_splitting lk_Rf_108 (c_Gr_splitting (HX.mono sG_X) hS hG (k := 35) (HX 35 rfl).1 (HX 35 rfl).2) (HX _ rfl).1 (HX _ rfl).2 rfl rfl rfl (Nat.le_of_ble_eq_true rfl) ⟨by decide, by decide⟩ ⟨rfl, rfl⟩ ⟨Nat.zero_le _, Nat.zero_le _⟩ (fun r35 F35 L35 hp35 => ?_)
        obtain ⟨v, rfl, rfl, rfl, hv⟩ := hp35
        have hv2 : ∀ j, j < 64 → (tb v j = true ↔ splB (2 ^ (3 * w)) sg (fun q => q.testBit j) = true) := fun j hj => by
          rw [hv j hj, splB_iff]
          apply spl_congr
          intro q hq
          show tb (L35 35 q) j = q.testBit j
          rw [m2 q (by omega), tb_lN hj]
        refine gx_lstore_n X d_Rf_adoptVariableBit_38 rfl (by decide) ?_
        refine gx_iconst X d_Rf_adoptVariableBit_39 (v := nI 0) (by decide) ?_
        refine gx_istore_n X d_Rf_adoptVariableBit_40 rfl (by decide) ?_
        have inner : ∀ (dc j : Nat), j + dc = 3 * w → avb (2 ^ (3 * w)) dc j (np, sg) = z → GX p l e rm_Rf_adoptVariableBit s m args below meth c (MQ below (gxQ D vcl ca ks lay ad s.heap.size post) args s 0 0 (gxA ks ad s.heap.size)) 4 A D vcl ca ks lay ad 0 0 41 [(3, xI (nI j)), (1, xL v), (0, xR 33)] [] F35 L35 := by
          intro dc
          induction dc with
          | zero =>
            intro j hj hres
            have hres : (true, np, sg) = z := hres
            rw [← hres] at K
            refine gx_iload_n X d_Rf_adoptVariableBit_41 rfl rfl ?_
            refine gx_iconst X d_Rf_adoptVariableBit_42 (v := nI 3) (by decide) ?_
            refine gx_aload_n X d_Rf_adoptVariableBit_43 rfl rfl ?_
            refine gx_getr X d_Rf_adoptVariableBit_44 (gci in_Rf) (HX _ rfl).1 (HX _ rfl).2 rfl 0 (by decide) (gcw X lk_Rf_15) (fun _ h => h) rfl ?_
            refine gx_geti X d_Rf_adoptVariableBit_47 (gci in_Sp) (HX _ rfl).1 (HX _ rfl).2 rfl 0 (by decide) (gcw X lk_Rf_125) (fun _ h => h) rfl ?_
            refine gx_top hS.2.1 ?_
            refine gx_imul X d_Rf_adoptVariableBit_50 ?_
            refine gx_top (pk_mul 3 w) ?_
            refine gx_icmp_ge X d_Rf_adoptVariableBit_51 (tgt := 93) (by decide) (fun h51 => ?_) (fun h51 => ?_)
            · refine gx_iconst X d_Rf_adoptVariableBit_93 (v := nI 1) (by decide) ?_
              refine gx_zret X hr (by first | rfl | decide) hA d_Rf_adoptVariableBit_94 (K _ _ _ ⟨rfl, m1, fun _ _ => rfl, hG⟩)
            · exact absurd ((nI_leI (by omega) (by omega)).mpr (by omega)) h51
          | succ dc ihc =>
            intro j hj hres
            rw [avb] at hres
            refine gx_iload_n X d_Rf_adoptVariableBit_41 rfl rfl ?_
            refine gx_iconst X d_Rf_adoptVariableBit_42 (v := nI 3) (by decide) ?_
            refine gx_aload_n X d_Rf_adoptVariableBit_43 rfl rfl ?_
            refine gx_getr X d_Rf_adoptVariableBit_44 (gci in_Rf) (HX _ rfl).1 (HX _ rfl).2 rfl 0 (by decide) (gcw X lk_Rf_15) (fun _ h => h) rfl ?_
            refine gx_geti X d_Rf_adoptVariableBit_47 (gci in_Sp) (HX _ rfl).1 (HX _ rfl).2 rfl 0 (by decide) (gcw X lk_Rf_125) (fun _ h => h) rfl ?_
            refine gx_top hS.2.1 ?_
            refine gx_imul X d_Rf_adoptVariableBit_50 ?_
            refine gx_top (pk_mul 3 w) ?_
            refine gx_icmp_ge X d_Rf_adoptVariableBit_51 (tgt := 93) (by decide) (fun h51 => ?_) (fun h51 => ?_)
            · exact absurd ((nI_leI (by omega) (by omega)).mp h51) (by omega)
            · refine gx_lload_n X d_Rf_adoptVariableBit_54 rfl rfl ?_
              refine gx_iload_n X d_Rf_adoptVariableBit_55 rfl rfl ?_
              refine gx_lushr X d_Rf_adoptVariableBit_56 rfl ?_
              refine gx_lconst X d_Rf_adoptVariableBit_57 (v := 1) (by decide) ?_
              refine gx_land X d_Rf_adoptVariableBit_58 ?_
              refine gx_topl (tb_get _ (by omega)) ?_
              refine gx_lconst X d_Rf_adoptVariableBit_59 (v := 0) (by decide) ?_
              refine gx_lcmp X d_Rf_adoptVariableBit_60 ?_
              refine gx_if_eq X d_Rf_adoptVariableBit_61 (tgt := 87) (by decide) (fun h61 => ?_) (fun h61 => ?_)
              · rw [lg_cmp_eq] at h61
                have hbf := ite_cond.mp h61
                rw [if_neg (fun y => by rw [(hv2 j (by omega)).mpr y] at hbf; cases hbf)] at hres
                refine gx_iinc X d_Rf_adoptVariableBit_87 rfl (pu_inc _) ?_
                refine gx_goto X d_Rf_adoptVariableBit_90 (tgt := 41) (by decide) ?_
                exact gx_el (ihc (j + 1) (by omega) hres) ⟨rfl, rfl, rfl, trivial⟩
              · have hbt : tb v j = true := by
                  cases hx : tb v j with
                  | true => rfl
                  | false => exact absurd ((lg_cmp_eq _ _).mpr (ite_cond.mpr hx)) h61
                rw [if_pos ((hv2 j (by omega)).mp hbt)] at hres
                refine gx_aload_n X d_Rf_adoptVariableBit_64 rfl rfl ?_
                refine gx_getr X d_Rf_adoptVariableBit_65 (gci in_Rf) (HX _ rfl).1 (HX _ rfl).2 rfl 2 (by decide) (gcw X lk_Rf_23) (fun _ h => h) rfl ?_
                refine gx_callV X d_Rf_adoptVariableBit_68 mf_Gr_isFull lk_Rf_112 (c_Gr_isFull (HX.mono sG_X) hnp hG.1.2.1) (HX _ rfl).1 (HX _ rfl).2 rfl rfl rfl (Nat.le_of_ble_eq_true rfl) ⟨by decide, by decide⟩ ⟨rfl, rfl⟩ ⟨Nat.zero_le _, Nat.zero_le _⟩ (fun r68 F68 L68 hp68 => ?_)
                obtain ⟨rfl, rfl, rfl⟩ := hp68
                refine gx_if_eq X d_Rf_adoptVariableBit_71 (tgt := 76) (by decide) (fun h71 => ?_) (fun h71 => ?_)
                · have hlt : ¬ 12 ≤ np := of_decide_eq_false (cb_f h71)
                  rw [if_neg (by show ¬ np = 12; omega)] at hres
                  rw [← hres] at K
                  refine gx_aload_n X d_Rf_adoptVariableBit_76 rfl rfl ?_
                  refine gx_aload_n X d_Rf_adoptVariableBit_77 rfl rfl ?_
                  refine gx_getr X d_Rf_adoptVariableBit_78 (gci in_Rf) (HX _ rfl).1 (HX _ rfl).2 rfl 5 (by decide) (gcw X lk_Rf_41) (fun _ h => h) rfl ?_
                  refine gx_iload_n X d_Rf_adoptVariableBit_81 rfl rfl ?_
                  refine gx_callV X d_Rf_adoptVariableBit_82 mf_Rf_adopt lk_Rf_115 (c_Rf_adopt HX hS hG (by omega) (k := 35) (b := j) (HX 35 rfl).1 (HX 35 rfl).2 (by omega)) (HX _ rfl).1 (HX _ rfl).2 rfl rfl rfl (Nat.le_of_ble_eq_true rfl) ⟨by decide, by decide⟩ ⟨rfl, rfl⟩ ⟨Nat.zero_le _, Nat.zero_le _⟩ (fun r82 F82 L82 hp82 => ?_)
                  obtain ⟨rfl, rfl, q1, q2⟩ := hp82
                  refine gx_iconst X d_Rf_adoptVariableBit_85 (v := nI 1) (by decide) ?_
                  refine gx_zret X hr (by first | rfl | decide) hA d_Rf_adoptVariableBit_86 (K _ _ _ ⟨rfl, m1, q1, q2.congr (fun q hq => ?_)⟩)
                  unfold exS
                  simp only [m2 q (show q < i by omega), tb_lN (show j < 64 by omega)]
                · have hge : 12 ≤ np := of_decide_eq_true (cb_t h71)
                  rw [if_pos (by show np = 12; omega)] at hres
                  rw [← hres] at K
                  refine gx_iconst X d_Rf_adoptVariableBit_74 (v := nI 0) (by decide) ?_
                  refine gx_zret X hr (by first | rfl | decide) hA d_Rf_adoptVariableBit_75 (K _ _ _ ⟨rfl, m1, fun _ _ => rfl, hG⟩)
        exact gx_el (inner (3 * w) 0 (by omega) hz) ⟨rfl, rfl, rfl, trivial⟩
      · exact absurd ((nI_leI (by omega) (by omega)).mpr (by omega)) h10
    | succ d ih =>
      intro i M hd m1 m2
      refine gx_iload_n X d_Rf_adoptVariableBit_2 rfl rfl ?_
      refine gx_aload_n X d_Rf_adoptVariableBit_3 rfl rfl ?_
      refine gx_getr X d_Rf_adoptVariableBit_4 (gci in_Rf) (HX _ rfl).1 (HX _ rfl).2 rfl 0 (by decide) (gcw X lk_Rf_15) (fun _ h => h) rfl ?_
      refine gx_geti X d_Rf_adoptVariableBit_7 (gci in_Sp) (HX _ rfl).1 (HX _ rfl).2 rfl 2 (by decide) (gcw X lk_Rf_31) (fun _ h => h) rfl ?_
      refine gx_top hS.2.2.2 ?_
      refine gx_icmp_ge X d_Rf_adoptVariableBit_10 (tgt := 27) (by decide) (fun h10 => ?_) (fun h10 => ?_)
      · exact absurd ((nI_leI (by omega) (by omega)).mp h10) (by omega)
      · refine gx_aload_n X d_Rf_adoptVariableBit_13 rfl rfl ?_
        refine gx_getr X d_Rf_adoptVariableBit_14 (gci in_Rf) (HX _ rfl).1 (HX _ rfl).2 rfl 5 (by decide) (gcw X lk_Rf_41) (fun _ h => h) rfl ?_
        refine gx_iload_n X d_Rf_adoptVariableBit_17 rfl rfl ?_
        refine gx_iload_n X d_Rf_adoptVariableBit_18 rfl rfl ?_
        refine gx_i2l X d_Rf_adoptVariableBit_19 (v := lN i) (nI_l (by omega)) ?_
        refine gx_last X d_Rf_adoptVariableBit_20 (HX _ rfl).1 (HX _ rfl).2 rfl (by omega) (by omega) ?_
        refine gx_iinc X d_Rf_adoptVariableBit_21 rfl (pu_inc _) ?_
        refine gx_goto X d_Rf_adoptVariableBit_24 (tgt := 2) (by decide) ?_
        refine gx_el (ih (i + 1) _ (by omega) (fun a ha => by rw [gxU_cell ha]; exact m1 a ha) (fun q hq => ?_)) ⟨rfl, rfl, trivial⟩
        by_cases e2 : q = i
        · rw [e2, gxU_at]
        · rw [gxU_ne (fun z => e2 z.2), m2 q (by omega)]
  exact gx_el (loop (2 ^ (3 * w)) 0 L (by omega) (fun _ _ => rfl) (fun q hq => absurd hq (by omega))) ⟨rfl, rfl, trivial⟩
/-- the way backwards: an edge passed, the sets offered -/
noncomputable def rfL (w : Nat) (ek ev : Nat → Nat) (tg : Nat → Nat → Option Nat) : List Nat → Nat × (Nat → Nat → Bool) → Nat × (Nat → Nat) → Bool × Nat × (Nat → Nat)
  | [], _, z => (true, z)
  | e :: r, t, z => if (adp (2 ^ (3 * w)) (mkT (paE w ek ev tg e t)) (64 * (((paE w ek ev tg e t).1 + 63) / 64)) 0 z).1 = true then rfL w ek ev tg r (paE w ek ev tg e t) (adp (2 ^ (3 * w)) (mkT (paE w ek ev tg e t)) (64 * (((paE w ek ev tg e t).1 + 63) / 64)) 0 z).2 else adp (2 ^ (3 * w)) (mkT (paE w ek ev tg e t)) (64 * (((paE w ek ev tg e t).1 + 63) / 64)) 0 z
noncomputable def rfn (w : Nat) (ek ev : Nat → Nat) (tg : Nat → Nat → Option Nat) (es : List Nat) (z : Nat × (Nat → Nat)) : Bool × Nat × (Nat → Nat) :=
  if (rfL w ek ev tg es.reverse (0, fun _ _ => false) z).1 = true then (if z.1 < (rfL w ek ev tg es.reverse (0, fun _ _ => false) z).2.1 then rfL w ek ev tg es.reverse (0, fun _ _ => false) z else avb (2 ^ (3 * w)) (3 * w) 0 (rfL w ek ev tg es.reverse (0, fun _ _ => false) z).2) else rfL w ek ev tg es.reverse (0, fun _ _ => false) z
set_option maxHeartbeats 8000000 in
theorem c_Rf_refine (HX : gH ks lay (2 ^ (3 * w)) sX) (hS : SpOK F w) (hG : GrOK F (2 ^ (3 * w)) np sg) (hP : PrOK F w ne ef et ek ev tg) (hE : EsOK F ne es) : Con l y_Rf_refine (Cond.code y_Rf_refine b_Rf_refine 3 (some .boolean) :: WT) rm_Rf_refine D vcl ca ks lay ad [xR 33] F L (fun r F' L' => r = some (xI (cond (rfn w ek ev tg es (np, sg)).1 (nI 1) (nI 0))) ∧ (∀ a, ¬ (14 ≤ a ∧ a ≤ 19) → a ≠ 33 → F' a = F a) ∧ (∀ a, a ≠ 35 → ¬ (400 ≤ a ∧ a < 404) → L' a = L a) ∧ GrOK F' (2 ^ (3 * w)) (rfn w ek ev tg es (np, sg)).2.1 (rfn w ek ev tg es (np, sg)).2.2) := by
  have hw : w < 4 := by have := hS.1; omega
  have hN := pu_N w hw
  have hnp : np ≤ 12 := hG.1.1
  obtain ⟨e1, e2, e3⟩ := id hE
  generalize hy : rfL w ek ev tg es.reverse (0, fun _ _ => false) (np, sg) = y
  have hrf : rfn w ek ev tg es (np, sg) = if y.1 = true then (if np < y.2.1 then y else avb (2 ^ (3 * w)) (3 * w) 0 y.2) else y := by
    unfold rfn
    rw [hy]
  rw [hrf]
  refine Con.ofK (fun post K => ?_)
  refine Con.of (ls := [(0, xR 33)]) (by decide) rfl rfl (Nat.le_of_ble_eq_true rfl) ?_
  intro p e s m args below meth c A X hr hA
  refine gx_aload_n X d_Rf_refine_0 rfl rfl ?_
  refine gx_getr X d_Rf_refine_1 (gci in_Rf) (HX _ rfl).1 (HX _ rfl).2 rfl 2 (by decide) (gcw X lk_Rf_23) (fun _ h => h) rfl ?_
  refine gx_geti X d_Rf_refine_4 (gci in_Gr) (HX _ rfl).1 (HX _ rfl).2 rfl 1 (by decide) (gcw X lk_Rf_45) (fun _ h => h) rfl ?_
  refine gx_top hG.1.2.1 ?_
  refine gx_istore_n X d_Rf_refine_7 rfl (by decide) ?_
  refine gx_aload_n X d_Rf_refine_8 rfl rfl ?_
  refine gx_iconst X d_Rf_refine_9 (v := nI 0) (by decide) ?_
  refine gx_puti X d_Rf_refine_10 (gci in_Rf) (HX _ rfl).1 (HX _ rfl).2 rfl 6 (by decide) (gcw X lk_Rf_9) (fun _ h => h) t_Rf ty_Rf nm_Rf rfl (ty_Rf 6 (by decide)) rfl rfl rfl ?_
  refine gx_aload_n X d_Rf_refine_13 rfl rfl ?_
  refine gx_getr X d_Rf_refine_14 (gci in_Rf) (HX _ rfl).1 (HX _ rfl).2 rfl 3 (by decide) (gcw X lk_Rf_27) (fun _ h => h) rfl ?_
  refine gx_geti X d_Rf_refine_17 (gci in_Se) (HX _ rfl).1 (HX _ rfl).2 rfl 13 (by decide) (gcw X lk_Rf_50) (fun _ h => h) rfl ?_
  refine gx_top (y := nI es.length) (by rw [gxu_cell (by decide)]; exact e2) ?_
  refine gx_iconst X d_Rf_refine_20 (v := nI 1) (by decide) ?_
  refine gx_isub X d_Rf_refine_21 ?_
  refine gx_istore_n X d_Rf_refine_22 rfl (by decide) ?_
  have loop : ∀ (c0 : Nat) (t : Nat × (Nat → Nat → Bool)) (np2 : Nat) (sg2 : Nat → Nat) (G : Nat → Nat → Int32) (M : Nat → Nat → Int64), c0 ≤ es.length → t.1 + c0 ≤ es.length → (∀ a, ¬ (14 ≤ a ∧ a ≤ 19) → a ≠ 33 → G a = F a) → (∀ a, a ≠ 35 → ¬ (400 ≤ a ∧ a < 404) → M a = L a) → G 33 6 = nI t.1 → TkOK M (2 ^ (3 * w)) t.2 t.1 → GrOK G (2 ^ (3 * w)) np2 sg2 → rfL w ek ev tg (es.take c0).reverse t (np2, sg2) = y → GX p l e rm_Rf_refine s m args below meth c (MQ below (gxQ D vcl ca ks lay ad s.heap.size post) args s 0 0 (gxA ks ad s.heap.size)) 3 A D vcl ca ks lay ad 0 0 23 [(2, xI (nI c0 - nI 1)), (1, xI (nI np)), (0, xR 33)] [] G M := by
    intro c0
    induction c0 with
    | zero =>
      intro t np2 sg2 G M hc htl hfr hM h6 hT hG2 hres
      have hres : (true, np2, sg2) = y := hres
      have hnp2 : np2 ≤ 12 := hG2.1.1
      subst hres
      simp only [if_true] at K
      refine gx_iload_n X d_Rf_refine_23 rfl rfl ?_
      refine gx_if_lt X d_Rf_refine_24 (tgt := 55) (by decide) (fun h24 => ?_) (fun h24 => ?_)
      · refine gx_aload_n X d_Rf_refine_55 rfl rfl ?_
        refine gx_getr X d_Rf_refine_56 (gci in_Rf) (HX _ rfl).1 (HX _ rfl).2 rfl 2 (by decide) (gcw X lk_Rf_23) (fun _ h => h) rfl ?_
        refine gx_geti X d_Rf_refine_59 (gci in_Gr) (HX _ rfl).1 (HX _ rfl).2 rfl 1 (by decide) (gcw X lk_Rf_45) (fun _ h => h) rfl ?_
        refine gx_top hG2.1.2.1 ?_
        refine gx_iload_n X d_Rf_refine_62 rfl rfl ?_
        refine gx_icmp_gt X d_Rf_refine_63 (tgt := 73) (by decide) (fun h63 => ?_) (fun h63 => ?_)
        · have hlt : np < np2 := (nI_ltI (by omega) (by omega)).mp h63
          rw [if_pos hlt] at K
          refine gx_iconst X d_Rf_refine_73 (v := nI 1) (by decide) ?_
          refine gx_goto X d_Rf_refine_74 (tgt := 78) (by decide) ?_
          refine gx_zret X hr (by first | rfl | decide) hA d_Rf_refine_78 (K _ _ _ ⟨rfl, hfr, hM, hG2⟩)
        · have hlt : ¬ np < np2 := fun q => h63 ((nI_ltI (by omega) (by omega)).mpr q)
          rw [if_neg hlt] at K
          refine gx_aload_n X d_Rf_refine_66 rfl rfl ?_
          refine gx_callV X d_Rf_refine_67 mf_Rf_adoptVariableBit lk_Rf_67 (c_Rf_adoptVariableBit HX (hS.of (hfr 1 (by omega) (by omega))) hG2) (HX _ rfl).1 (HX _ rfl).2 rfl rfl rfl (Nat.le_of_ble_eq_true rfl) ⟨by decide, by decide⟩ ⟨rfl, rfl⟩ ⟨Nat.zero_le _, Nat.zero_le _⟩ (fun r67 F67 L67 hp67 => ?_)
          obtain ⟨rfl, q1, q2, q3⟩ := hp67
          have hfr2 : ∀ a, ¬ (14 ≤ a ∧ a ≤ 19) → a ≠ 33 → F67 a = F a := fun a a1 a2 => by rw [q2 a a1]; exact hfr a a1 a2
          have hM2 : ∀ a, a ≠ 35 → ¬ (400 ≤ a ∧ a < 404) → L67 a = L a := fun a a1 a2 => by rw [q1 a a1]; exact hM a a1 a2
          generalize avb (2 ^ (3 * w)) (3 * w) 0 (np2, sg2) = z at q3 K ⊢
          refine gx_if_eq X d_Rf_refine_70 (tgt := 77) (by decide) (fun h70 => ?_) (fun h70 => ?_)
          · have hzf : z.1 = false := cb_f h70
            refine gx_iconst X d_Rf_refine_77 (v := nI 0) (by decide) ?_
            refine gx_zret X hr (by first | rfl | decide) hA d_Rf_refine_78 (K _ _ _ ⟨by rw [hzf]; rfl, hfr2, hM2, q3⟩)
          · have hzt : z.1 = true := cb_t h70
            refine gx_iconst X d_Rf_refine_73 (v := nI 1) (by decide) ?_
            refine gx_goto X d_Rf_refine_74 (tgt := 78) (by decide) ?_
            refine gx_zret X hr (by first | rfl | decide) hA d_Rf_refine_78 (K _ _ _ ⟨by rw [hzt]; rfl, hfr2, hM2, q3⟩)
      · exact absurd (show nI 0 - nI 1 < 0 by decide) h24
    | succ c0 ih =>
      intro t np2 sg2 G M hc htl hfr hM h6 hT hG2 hres
      have hsub : nI (c0 + 1) - nI 1 = nI c0 := by rw [pk_sub (by omega)]; rfl
      obtain ⟨a1, a2⟩ := e3 c0 (by omega)
      have htk : (es.take (c0 + 1)).reverse = es.getD c0 0 :: (es.take c0).reverse := by
        rw [List.take_succ, List.reverse_append, List.getD_eq_getElem?_getD, List.getElem?_eq_getElem (by omega)]
        rfl
      rw [htk, rfL] at hres
      generalize hee : es.getD c0 0 = ee at *
      have hle := paE_le w ek ev tg ee t
      rw [hsub]
      refine gx_iload_n X d_Rf_refine_23 rfl rfl ?_
      refine gx_if_lt X d_Rf_refine_24 (tgt := 55) (by decide) (fun h24 => ?_) (fun h24 => ?_)
      · exact absurd h24 (nI_pos (by omega))
      · refine gx_aload_n X d_Rf_refine_27 rfl rfl ?_
        refine gx_aload_n X d_Rf_refine_28 rfl rfl ?_
        refine gx_getr X d_Rf_refine_29 (gci in_Rf) (HX _ rfl).1 (HX _ rfl).2 rfl 3 (by decide) (gcw X lk_Rf_27) (fun _ h => h) rfl ?_
        refine gx_getr X d_Rf_refine_32 (gci in_Se) (HX _ rfl).1 (HX _ rfl).2 rfl 14 (by decide) (gcw X lk_Rf_55) (fun _ h => h) rfl ?_
        refine gx_iload_n X d_Rf_refine_35 rfl rfl ?_
        refine gx_iald X d_Rf_refine_36 (HX _ rfl).1 (HX _ rfl).2 rfl (by omega) (by omega) ?_
        refine gx_top (y := nI ee) (by rw [hfr 29 (by omega) (by omega)]; exact a1) ?_
        refine gx_callV X d_Rf_refine_37 mf_Rf_passEdge lk_Rf_59 (c_Rf_passEdge HX (hS.of (hfr 1 (by omega) (by omega))) (hP.of (fun a ha => hfr a (by omega) (by omega))) (n := t.1) (e0 := ee) (Tf := t.2) (by omega) h6 a2 hT) (HX _ rfl).1 (HX _ rfl).2 rfl rfl rfl (Nat.le_of_ble_eq_true rfl) ⟨by decide, by decide⟩ ⟨rfl, rfl⟩ ⟨Nat.zero_le _, Nat.zero_le _⟩ (fun r37 F37 L37 hp37 => ?_)
        obtain ⟨rfl, q1, q2, q3, q4⟩ := hp37
        have hfr3 : ∀ a, ¬ (14 ≤ a ∧ a ≤ 19) → a ≠ 33 → F37 a = F a := fun a b1 b2 => by rw [q1 a b2]; exact hfr a b1 b2
        have hM3 : ∀ a, a ≠ 35 → ¬ (400 ≤ a ∧ a < 404) → L37 a = L a := fun a b1 b2 => by rw [q3 a b1 b2]; exact hM a b1 b2
        refine gx_aload_n X d_Rf_refine_40 rfl rfl ?_
        refine gx_callV X d_Rf_refine_41 mf_Rf_adoptTaken lk_Rf_63 (c_Rf_adoptTaken HX (hS.of (hfr3 1 (by omega) (by omega))) (hG2.of (fun a b1 b2 => q1 a (by omega))) (n := (paE w ek ev tg ee t).1) (Tf := (paE w ek ev tg ee t).2) (by omega) q2 q4) (HX _ rfl).1 (HX _ rfl).2 rfl rfl rfl (Nat.le_of_ble_eq_true rfl) ⟨by decide, by decide⟩ ⟨rfl, rfl⟩ ⟨Nat.zero_le _, Nat.zero_le _⟩ (fun r41 F41 L41 hp41 => ?_)
        obtain ⟨rfl, rfl, p1, p2⟩ := hp41
        have hfr4 : ∀ a, ¬ (14 ≤ a ∧ a ≤ 19) → a ≠ 33 → F41 a = F a := fun a b1 b2 => by rw [p1 a b1]; exact hfr3 a b1 b2
        generalize hzz : adp (2 ^ (3 * w)) (mkT ((paE w ek ev tg ee t).1, (paE w ek ev tg ee t).2)) (64 * (((paE w ek ev tg ee t).1 + 63) / 64)) 0 (np2, sg2) = zz at p2 ⊢
        have hzz : adp (2 ^ (3 * w)) (mkT (paE w ek ev tg ee t)) (64 * (((paE w ek ev tg ee t).1 + 63) / 64)) 0 (np2, sg2) = zz := hzz
        rw [hzz] at hres
        refine gx_if_ne X d_Rf_refine_44 (tgt := 49) (by decide) (fun h44 => ?_) (fun h44 => ?_)
        · have hzt : zz.1 = true := cb_t h44
          rw [if_pos hzt] at hres
          refine gx_iinc X d_Rf_refine_49 rfl (v := nI c0 - nI 1) (sub_m1 _) ?_
          refine gx_goto X d_Rf_refine_52 (tgt := 23) (by decide) ?_
          exact gx_el (ih (paE w ek ev tg ee t) zz.2.1 zz.2.2 F41 L41 (by omega) (by omega) hfr4 hM3 (by rw [p1 33 (by omega)]; exact q2) q4 p2 hres) ⟨rfl, rfl, rfl, trivial⟩
        · have hzf : zz.1 = false := cb_f h44
          rw [if_neg (by rw [hzf]; decide)] at hres
          subst hres
          rw [if_neg (by rw [hzf]; decide)] at K
          refine gx_iconst X d_Rf_refine_47 (v := nI 0) (by decide) ?_
          refine gx_zret X hr (by first | rfl | decide) hA d_Rf_refine_48 (K _ _ _ ⟨by rw [hzf]; rfl, hfr4, hM3, p2⟩)
  refine gx_el (loop es.length (0, fun _ _ => false) np sg _ L (Nat.le_refl _) (by simp) (fun a _ b2 => gxu_cell b2) (fun _ _ _ => rfl) gxu_at (fun i hi => absurd hi (by simp)) (hG.of (fun a b1 b2 => gxu_cell (by omega))) (by rw [List.take_length]; exact hy)) ⟨rfl, rfl, rfl, trivial⟩
end
