section
variable {l : Launch} {D : va_G} {ca : Nat → ClassId} {ks : List Nat} {lay : Nat → gxE} {ad : Nat → Nat} {F : Nat → Nat → Int32} {L : Nat → Nat → Int64} {w np : Nat} {sg : Nat → Nat}
set_option maxRecDepth 100000 in
theorem or_bit : ∀ n, n < 12 → ∀ g, g < 2 ^ n → nI g ||| nI (2 ^ n) = nI (g + 2 ^ n) := by decide +kernel
theorem c_Gr_isFull (HX : gH ks lay (2 ^ (3 * w)) sG) (hnp : np ≤ 12) (hc : F 14 1 = nI np) : Con l y_Gr_isFull (Cond.code y_Gr_isFull b_Gr_isFull 1 (some .boolean) :: WT) rm_Gr_isFull D vcl ca ks lay ad [xR 14] F L (fun r F' L' => r = some (xI (cond (decide (12 ≤ np)) 1 0)) ∧ F' = F ∧ L' = L) := by
  refine Con.ofK (fun post K => ?_)
  refine Con.of (ls := [(0, xR 14)]) (by decide) rfl rfl (Nat.le_of_ble_eq_true rfl) ?_
  intro p e s m args below meth c A X hr hA
  refine gx_aload_n X d_Gr_isFull_0 rfl rfl ?_
  refine gx_geti X d_Gr_isFull_1 (gci in_Gr) (HX _ rfl).1 (HX _ rfl).2 rfl 1 (by decide) (gcw X lk_Gr_9) (fun _ h => h) rfl ?_
  refine gx_top hc ?_
  refine gx_bipush X d_Gr_isFull_4 (v := nI 12) (by decide) ?_
  refine gx_icmp_lt X d_Gr_isFull_6 (tgt := 13) (by decide) (fun h6 => ?_) (fun h6 => ?_)
  · have : np < 12 := (nI_ltI (by omega) (by decide)).mp h6
    refine gx_iconst X d_Gr_isFull_13 (v := nI 0) (by decide) ?_
    refine gx_zret X hr (by first | rfl | decide) hA d_Gr_isFull_14 (K _ _ _ ⟨by rw [decide_eq_false (by omega)]; rfl, rfl, rfl⟩)
  · have : ¬ np < 12 := fun z => h6 ((nI_ltI (by omega) (by decide)).mpr z)
    refine gx_iconst X d_Gr_isFull_9 (v := nI 1) (by decide) ?_
    refine gx_goto X d_Gr_isFull_10 (tgt := 14) (by decide) ?_
    refine gx_zret X hr (by first | rfl | decide) hA d_Gr_isFull_14 (K _ _ _ ⟨by rw [decide_eq_true (by omega)]; rfl, rfl, rfl⟩)
theorem c_Gr_include (HX : gH ks lay (2 ^ (3 * w)) sG) (hw : w < 4) (hnp : np < 12) (hc : F 14 1 = nI np) {q g : Nat} (hq : q < 2 ^ (3 * w)) (h15 : F 15 q = nI g) (hg : g < 2 ^ np) : Con l y_Gr_include (Cond.code y_Gr_include b_Gr_include 2 none :: WT) rm_Gr_include D vcl ca ks lay ad [xR 14, xI (nI q)] F L (fun r F' L' => r = none ∧ F' = gxu F 15 q (nI (g + 2 ^ np)) ∧ L' = L) := by
  have hN := pu_N w hw
  refine Con.ofK (fun post K => ?_)
  refine Con.of (ls := [(0, xR 14), (1, xI (nI q))]) (by decide) rfl rfl (Nat.le_of_ble_eq_true rfl) ?_
  intro p e s m args below meth c A X hr hA
  refine gx_aload_n X d_Gr_include_0 rfl rfl ?_
  refine gx_getr X d_Gr_include_1 (gci in_Gr) (HX _ rfl).1 (HX _ rfl).2 rfl 2 (by decide) (gcw X lk_Gr_31) (fun _ h => h) rfl ?_
  refine gx_iload_n X d_Gr_include_4 rfl rfl ?_
  first | refine gx_dup2_11 X d_Gr_include_5 rfl rfl ?_ | refine gx_dup2_2 X d_Gr_include_5 rfl ?_
  refine gx_iald X d_Gr_include_6 (HX _ rfl).1 (HX _ rfl).2 rfl (by omega) (by omega) ?_
  refine gx_top h15 ?_
  refine gx_iconst X d_Gr_include_7 (v := nI 1) (by decide) ?_
  refine gx_aload_n X d_Gr_include_8 rfl rfl ?_
  refine gx_geti X d_Gr_include_9 (gci in_Gr) (HX _ rfl).1 (HX _ rfl).2 rfl 1 (by decide) (gcw X lk_Gr_9) (fun _ h => h) rfl ?_
  refine gx_top hc ?_
  refine gx_ishl X d_Gr_include_12 ?_
  refine gx_top (sh1 np (by omega)) ?_
  refine gx_ior X d_Gr_include_13 ?_
  refine gx_top (or_bit np hnp g hg) ?_
  refine gx_iast X d_Gr_include_14 (HX _ rfl).1 (HX _ rfl).2 rfl (by omega) (by omega) ?_
  refine gx_vret X hr hA d_Gr_include_15 (K _ _ _ ⟨rfl, rfl, rfl⟩)
/-- endPredicate(): the states' new signatures stand already -/
theorem c_Gr_endPredicate (HX : gH ks lay (2 ^ (3 * w)) sG) (hS : SpOK F w) (hnp : np < 12) (hc : F 14 1 = nI np) (h15 : ∀ s, s < 2 ^ (3 * w) → F 15 s = nI (sg s) ∧ sg s < 2 ^ (np + 1)) : Con l y_Gr_endPredicate (Cond.code y_Gr_endPredicate b_Gr_endPredicate 1 none :: WT) rm_Gr_endPredicate D vcl ca ks lay ad [xR 14] F L (fun r F' L' => r = none ∧ L' = L ∧ (∀ a, ¬ (14 ≤ a ∧ a ≤ 19) → F' a = F a) ∧ F' 15 = F 15 ∧ GrOK F' (2 ^ (3 * w)) (np + 1) sg) := by
  refine Con.ofK (fun post K => ?_)
  refine Con.of (ls := [(0, xR 14)]) (by decide) rfl rfl (Nat.le_of_ble_eq_true rfl) ?_
  intro p e s m args below meth c A X hr hA
  refine gx_aload_n X d_Gr_endPredicate_0 rfl rfl ?_
  refine gx_dup X d_Gr_endPredicate_1 rfl ?_
  refine gx_geti X d_Gr_endPredicate_2 (gci in_Gr) (HX _ rfl).1 (HX _ rfl).2 rfl 1 (by decide) (gcw X lk_Gr_9) (fun _ h => h) rfl ?_
  refine gx_top hc ?_
  refine gx_iconst X d_Gr_endPredicate_5 (v := nI 1) (by decide) ?_
  refine gx_iadd X d_Gr_endPredicate_6 ?_
  refine gx_top (nI_add np 1) ?_
  refine gx_puti X d_Gr_endPredicate_7 (gci in_Gr) (HX _ rfl).1 (HX _ rfl).2 rfl 1 (by decide) (gcw X lk_Gr_9) (fun _ h => h) t_Gr ty_Gr nm_Gr rfl (ty_Gr 1 (by decide)) rfl rfl rfl ?_
  refine gx_aload_n X d_Gr_endPredicate_10 rfl rfl ?_
  have hS1 : SpOK (gxu F 14 1 (nI (np + 1))) w := hS.of (gxu_cell (by decide))
  have hG1 : SgOK (gxu F 14 1 (nI (np + 1))) (2 ^ (3 * w)) (np + 1) sg := ⟨by omega, gxu_at, fun s hs => by rw [gxu_cell (by decide)]; exact h15 s hs⟩
  refine gx_callV X d_Gr_endPredicate_11 mf_Gr_numberGroups lk_Gr_43 (c_Gr_numberGroups HX hS1 hG1) (HX _ rfl).1 (HX _ rfl).2 rfl rfl rfl (Nat.le_of_ble_eq_true rfl) ⟨by decide, by decide⟩ ⟨rfl, rfl⟩ ⟨Nat.zero_le _, Nat.zero_le _⟩ (fun r11 F11 L11 hp11 => ?_)
  obtain ⟨rfl, rfl, g1, g2, g3, g4⟩ := hp11
  refine gx_aload_n X d_Gr_endPredicate_14 rfl rfl ?_
  refine gx_callV X d_Gr_endPredicate_15 mf_Gr_placeStates lk_Gr_46 (c_Gr_placeStates HX (hS1.of (g1 1 (by decide) (by decide))) (hG1.of g2 (g1 15 (by decide) (by decide))) g3 g4) (HX _ rfl).1 (HX _ rfl).2 rfl rfl rfl (Nat.le_of_ble_eq_true rfl) ⟨by decide, by decide⟩ ⟨rfl, rfl⟩ ⟨Nat.zero_le _, Nat.zero_le _⟩ (fun r15 F15 L15 hp15 => ?_)
  obtain ⟨rfl, rfl, f1, f2⟩ := hp15
  refine gx_vret X hr hA d_Gr_endPredicate_18 (K _ _ _ ⟨rfl, rfl, fun a ha => by rw [f1 a (by omega) (by omega) (by omega), g1 a (by omega) (by omega), gxu_cell (by omega)], by rw [f1 15 (by decide) (by decide) (by decide), g1 15 (by decide) (by decide), gxu_cell (by decide)], f2⟩)
theorem c_Gr_dropPredicates (HX : gH ks lay (2 ^ (3 * w)) sG) (hS : SpOK F w) : Con l y_Gr_dropPredicates (Cond.code y_Gr_dropPredicates b_Gr_dropPredicates 1 none :: WT) rm_Gr_dropPredicates D vcl ca ks lay ad [xR 14] F L (fun r F' L' => r = none ∧ L' = L ∧ (∀ a, ¬ (14 ≤ a ∧ a ≤ 19) → F' a = F a) ∧ GrOK F' (2 ^ (3 * w)) 0 (fun _ => 0)) := by
  have hN := pu_N w (by have := hS.1; omega)
  refine Con.ofK (fun post K => ?_)
  refine Con.of (ls := [(0, xR 14)]) (by decide) rfl rfl (Nat.le_of_ble_eq_true rfl) ?_
  intro p e s m args below meth c A X hr hA
  refine gx_aload_n X d_Gr_dropPredicates_0 rfl rfl ?_
  refine gx_iconst X d_Gr_dropPredicates_1 (v := nI 0) (by decide) ?_
  refine gx_puti X d_Gr_dropPredicates_2 (gci in_Gr) (HX _ rfl).1 (HX _ rfl).2 rfl 1 (by decide) (gcw X lk_Gr_9) (fun _ h => h) t_Gr ty_Gr nm_Gr rfl (ty_Gr 1 (by decide)) rfl rfl rfl ?_
  refine gx_aload_n X d_Gr_dropPredicates_5 rfl rfl ?_
  refine gx_getr X d_Gr_dropPredicates_6 (gci in_Gr) (HX _ rfl).1 (HX _ rfl).2 rfl 2 (by decide) (gcw X lk_Gr_31) (fun _ h => h) rfl ?_
  refine gx_iconst X d_Gr_dropPredicates_9 (v := nI 0) (by decide) ?_
  refine gx_callS X d_Gr_dropPredicates_10 mf_Ar_fill_aII lk_Gr_49 (c_fill_I (HX 15 rfl).1 (n := 2 ^ (3 * w)) (HX 15 rfl).2 (by omega) (nI 0)) rfl rfl (Nat.le_of_ble_eq_true rfl) ⟨by decide, by decide⟩ ⟨rfl, rfl⟩ ⟨Nat.zero_le _, Nat.zero_le _⟩ (fun r10 F10 L10 hp10 => ?_)
  obtain ⟨rfl, rfl, rfl⟩ := hp10
  refine gx_aload_n X d_Gr_dropPredicates_13 rfl rfl ?_
  have hS1 : SpOK (flF (gxu F 14 1 (nI 0)) 15 0 (2 ^ (3 * w)) (nI 0)) w := hS.of (by rw [flF_cell (by decide), gxu_cell (by decide)])
  have hG1 : SgOK (flF (gxu F 14 1 (nI 0)) 15 0 (2 ^ (3 * w)) (nI 0)) (2 ^ (3 * w)) 0 (fun _ => 0) := ⟨by omega, by rw [flF_cell (by decide)]; exact gxu_at, fun s hs => ⟨flF_in (by omega) hs, Nat.one_pos⟩⟩
  refine gx_callV X d_Gr_dropPredicates_14 mf_Gr_numberGroups lk_Gr_43 (c_Gr_numberGroups HX hS1 hG1) (HX _ rfl).1 (HX _ rfl).2 rfl rfl rfl (Nat.le_of_ble_eq_true rfl) ⟨by decide, by decide⟩ ⟨rfl, rfl⟩ ⟨Nat.zero_le _, Nat.zero_le _⟩ (fun r14 F14 L14 hp14 => ?_)
  obtain ⟨rfl, rfl, g1, g2, g3, g4⟩ := hp14
  refine gx_aload_n X d_Gr_dropPredicates_17 rfl rfl ?_
  refine gx_callV X d_Gr_dropPredicates_18 mf_Gr_placeStates lk_Gr_46 (c_Gr_placeStates HX (hS1.of (g1 1 (by decide) (by decide))) (hG1.of g2 (g1 15 (by decide) (by decide))) g3 g4) (HX _ rfl).1 (HX _ rfl).2 rfl rfl rfl (Nat.le_of_ble_eq_true rfl) ⟨by decide, by decide⟩ ⟨rfl, rfl⟩ ⟨Nat.zero_le _, Nat.zero_le _⟩ (fun r18 F18 L18 hp18 => ?_)
  obtain ⟨rfl, rfl, f1, f2⟩ := hp18
  refine gx_vret X hr hA d_Gr_dropPredicates_21 (K _ _ _ ⟨rfl, rfl, fun a ha => by rw [f1 a (by omega) (by omega) (by omega), g1 a (by omega) (by omega), flF_cell (by omega), gxu_cell (by omega)], f2⟩)
/-- the first place of a group is a state of it -/
theorem rep_at {N : Nat} (hsg : ∀ s, s < N → sg s < 2 ^ np) {s : Nat} (hs : s < N) : ∃ t, t < N ∧ rk N sg t = rk N sg s ∧ gps N sg t = sm (fun g => gcn N sg g N) (rk N sg s) := by
  have h := gps_in (np := np) (sg := sg) hs
  exact gps_at (Nat.le_refl _) (by omega)
theorem c_Gr_signatureOf (HX : gH ks lay (2 ^ (3 * w)) sG) (hw : w < 4) (hG : GrOK F (2 ^ (3 * w)) np sg) {q : Nat} (hq : q < 2 ^ (3 * w)) : Con l y_Gr_signatureOf (Cond.code y_Gr_signatureOf b_Gr_signatureOf 2 (some .int) :: WT) rm_Gr_signatureOf D vcl ca ks lay ad [xR 14, xI (nI (rk (2 ^ (3 * w)) sg q))] F L (fun r F' L' => r = some (xI (nI (sg q))) ∧ F' = F ∧ L' = L) := by
  have hN := pu_N w hw
  obtain ⟨⟨h1, h2, h3⟩, h4, h5, h6, h7⟩ := hG
  generalize 2 ^ (3 * w) = N at *
  have hsg2 : ∀ s, s < N → sg s < 2 ^ np := fun s hs => (h3 s hs).2
  have hrk := rk_lt hsg2 hq
  have hgN : cnt (prs N sg) (2 ^ np) ≤ N := cnt_prs_le sg _ N
  obtain ⟨t, t1, t2, t3⟩ := rep_at hsg2 hq
  have t4 := gps_lt hsg2 t1
  have e17 := h7 t t1
  rw [t3] at e17 t4
  refine Con.ofK (fun post K => ?_)
  refine Con.of (ls := [(0, xR 14), (1, xI (nI (rk N sg q)))]) (by decide) rfl rfl (Nat.le_of_ble_eq_true rfl) ?_
  intro p e s m args below meth c A X hr hA
  refine gx_aload_n X d_Gr_signatureOf_0 rfl rfl ?_
  refine gx_getr X d_Gr_signatureOf_1 (gci in_Gr) (HX _ rfl).1 (HX _ rfl).2 rfl 2 (by decide) (gcw X lk_Gr_31) (fun _ h => h) rfl ?_
  refine gx_aload_n X d_Gr_signatureOf_4 rfl rfl ?_
  refine gx_getr X d_Gr_signatureOf_5 (gci in_Gr) (HX _ rfl).1 (HX _ rfl).2 rfl 5 (by decide) (gcw X lk_Gr_37) (fun _ h => h) rfl ?_
  refine gx_aload_n X d_Gr_signatureOf_8 rfl rfl ?_
  refine gx_getr X d_Gr_signatureOf_9 (gci in_Gr) (HX _ rfl).1 (HX _ rfl).2 rfl 6 (by decide) (gcw X lk_Gr_40) (fun _ h => h) rfl ?_
  refine gx_iload_n X d_Gr_signatureOf_12 rfl rfl ?_
  refine gx_iald X d_Gr_signatureOf_13 (HX _ rfl).1 (HX _ rfl).2 rfl (by omega) (by omega) ?_
  refine gx_top (h6 _ (by omega)) ?_
  refine gx_iald X d_Gr_signatureOf_14 (HX _ rfl).1 (HX _ rfl).2 rfl (by omega) (by omega) ?_
  refine gx_top e17 ?_
  refine gx_iald X d_Gr_signatureOf_15 (HX _ rfl).1 (HX _ rfl).2 rfl (by omega) (by omega) ?_
  refine gx_top (y := nI (sg q)) (by rw [(h3 t t1).1, (rk_inj t1 hq).mp t2]) ?_
  refine gx_iret X hr hA d_Gr_signatureOf_16 (K _ _ _ ⟨rfl, rfl, rfl⟩)
/-- a set of states (bit b of the row's elements) splits a group -/
def spl (N : Nat) (sg : Nat → Nat) (S : Nat → Bool) : Prop := ∃ s t, s < N ∧ t < N ∧ sg s = sg t ∧ S s ≠ S t
set_option maxHeartbeats 4000000 in
theorem c_Gr_splitting (HX : gH ks lay (2 ^ (3 * w)) sG) (hS : SpOK F w) (hG : GrOK F (2 ^ (3 * w)) np sg) {k : Nat} (hk : k ∈ ks) (hlay : lay k = Sum.inr (Sum.inr (Sum.inl (2 ^ (3 * w))))) : Con l y_Gr_splitting (Cond.code y_Gr_splitting b_Gr_splitting 5 (some .long) :: WT) rm_Gr_splitting D vcl ca ks lay ad [xR 14, xR k] F L (fun r F' L' => ∃ v : Int64, r = some (xL v) ∧ F' = F ∧ L' = L ∧ ∀ b, b < 64 → (tb v b = true ↔ spl (2 ^ (3 * w)) sg (fun s => tb (L k s) b))) := by
  have hN := pu_N w (by have := hS.1; omega)
  obtain ⟨⟨h1, h2, h3⟩, h4, h5, h6, h7⟩ := hG
  have hS2 := hS.2.2.2
  generalize 2 ^ (3 * w) = N at *
  have hsg2 : ∀ s, s < N → sg s < 2 ^ np := fun s hs => (h3 s hs).2
  have hgN : cnt (prs N sg) (2 ^ np) ≤ N := cnt_prs_le sg _ N
  have hrep0 : ∀ s, ∃ t, s < N → (t < N ∧ rk N sg t = rk N sg s ∧ gps N sg t = sm (fun g => gcn N sg g N) (rk N sg s)) := fun s => by
    by_cases hs : s < N
    · obtain ⟨t, ht⟩ := rep_at hsg2 hs
      exact ⟨t, fun _ => ht⟩
    · exact ⟨0, fun z => absurd z hs⟩
  obtain ⟨rep, hrep⟩ := Classical.axiomOfChoice hrep0
  refine Con.ofK (fun post K => ?_)
  refine Con.of (ls := [(0, xR 14), (1, xR k)]) (by decide) rfl rfl (Nat.le_of_ble_eq_true rfl) ?_
  intro p e s m args below meth c A X hr hA
  refine gx_lconst X d_Gr_splitting_0 (v := 0) (by decide) ?_
  refine gx_lstore_n X d_Gr_splitting_1 rfl (by decide) ?_
  refine gx_iconst X d_Gr_splitting_2 (v := nI 0) (by decide) ?_
  refine gx_istore X d_Gr_splitting_3 (by decide) ?_
  have loop : ∀ (d i : Nat) (v : Int64), i + d = N → (∀ b, b < 64 → (tb v b = true ↔ ∃ s, s < i ∧ tb (L k s) b ≠ tb (L k (rep s)) b)) → GX p l e rm_Gr_splitting s m args below meth c (MQ below (gxQ D vcl ca ks lay ad s.heap.size post) args s 0 0 (gxA ks ad s.heap.size)) 5 A D vcl ca ks lay ad 0 0 5 [(4, xI (nI i)), (2, xL v), (0, xR 14), (1, xR k)] [] F L := by
    intro d
    induction d with
    | zero =>
      intro i v hd hv
      refine gx_iload X d_Gr_splitting_5 rfl ?_
      refine gx_aload_n X d_Gr_splitting_7 rfl rfl ?_
      refine gx_getr X d_Gr_splitting_8 (gci in_Gr) (HX _ rfl).1 (HX _ rfl).2 rfl 0 (by decide) (gcw X lk_Gr_22) (fun _ h => h) rfl ?_
      refine gx_geti X d_Gr_splitting_11 (gci in_Sp) (HX _ rfl).1 (HX _ rfl).2 rfl 2 (by decide) (gcw X lk_Gr_26) (fun _ h => h) rfl ?_
      refine gx_top hS2 ?_
      refine gx_icmp_ge X d_Gr_splitting_14 (tgt := 50) (by decide) (fun h14 => ?_) (fun h14 => ?_)
      · refine gx_lload_n X d_Gr_splitting_50 rfl rfl ?_
        refine gx_lret X hr hA d_Gr_splitting_51 (K _ _ _ ⟨v, rfl, rfl, rfl, fun b hb => ?_⟩)
        rw [hv b hb]
        constructor
        · rintro ⟨s, hs, hne⟩
          obtain ⟨a1, a2, -⟩ := hrep s (by omega)
          exact ⟨s, rep s, by omega, a1, ((rk_inj a1 (by omega)).mp a2).symm, hne⟩
        · rintro ⟨s, t, hs, ht, he, hne⟩
          obtain ⟨a1, a2, a3⟩ := hrep s hs
          obtain ⟨b1, b2, b3⟩ := hrep t ht
          have er : rk N sg s = rk N sg t := (rk_inj hs ht).mpr he
          have ee : rep s = rep t := by
            rw [er] at a3
            rcases Nat.lt_trichotomy (rep s) (rep t) with h | h | h
            · exact absurd (a3.trans b3.symm) (gps_inj (np := np) a1 b1 h)
            · exact h
            · exact absurd (b3.trans a3.symm) (gps_inj (np := np) b1 a1 h)
          by_cases h : tb (L k s) b = tb (L k (rep s)) b
          · refine ⟨t, by omega, fun z => hne ?_⟩
            show tb (L k s) b = tb (L k t) b
            rw [h, z, ee]
          · exact ⟨s, by omega, h⟩
      · exact absurd ((nI_leI (by omega) (by omega)).mpr (by omega)) h14
    | succ d ih =>
      intro i v hd hv
      obtain ⟨a1, a2, a3⟩ := hrep i (by omega)
      have hrk := rk_lt hsg2 (show i < N by omega)
      have hps := gps_lt hsg2 a1
      have e17 := h7 _ a1
      rw [a3] at e17 hps
      refine gx_iload X d_Gr_splitting_5 rfl ?_
      refine gx_aload_n X d_Gr_splitting_7 rfl rfl ?_
      refine gx_getr X d_Gr_splitting_8 (gci in_Gr) (HX _ rfl).1 (HX _ rfl).2 rfl 0 (by decide) (gcw X lk_Gr_22) (fun _ h => h) rfl ?_
      refine gx_geti X d_Gr_splitting_11 (gci in_Sp) (HX _ rfl).1 (HX _ rfl).2 rfl 2 (by decide) (gcw X lk_Gr_26) (fun _ h => h) rfl ?_
      refine gx_top hS2 ?_
      refine gx_icmp_ge X d_Gr_splitting_14 (tgt := 50) (by decide) (fun h14 => ?_) (fun h14 => ?_)
      · exact absurd ((nI_leI (by omega) (by omega)).mp h14) (by omega)
      · refine gx_lload_n X d_Gr_splitting_17 rfl rfl ?_
        refine gx_aload_n X d_Gr_splitting_18 rfl rfl ?_
        refine gx_iload X d_Gr_splitting_19 rfl ?_
        refine gx_lald X d_Gr_splitting_21 hk hlay rfl (by omega) (by omega) ?_
        refine gx_aload_n X d_Gr_splitting_22 rfl rfl ?_
        refine gx_aload_n X d_Gr_splitting_23 rfl rfl ?_
        refine gx_getr X d_Gr_splitting_24 (gci in_Gr) (HX _ rfl).1 (HX _ rfl).2 rfl 5 (by decide) (gcw X lk_Gr_37) (fun _ h => h) rfl ?_
        refine gx_aload_n X d_Gr_splitting_27 rfl rfl ?_
        refine gx_getr X d_Gr_splitting_28 (gci in_Gr) (HX _ rfl).1 (HX _ rfl).2 rfl 6 (by decide) (gcw X lk_Gr_40) (fun _ h => h) rfl ?_
        refine gx_aload_n X d_Gr_splitting_31 rfl rfl ?_
        refine gx_getr X d_Gr_splitting_32 (gci in_Gr) (HX _ rfl).1 (HX _ rfl).2 rfl 4 (by decide) (gcw X lk_Gr_34) (fun _ h => h) rfl ?_
        refine gx_iload X d_Gr_splitting_35 rfl ?_
        refine gx_iald X d_Gr_splitting_37 (HX _ rfl).1 (HX _ rfl).2 rfl (by omega) (by omega) ?_
        refine gx_top (h5 i (by omega)) ?_
        refine gx_iald X d_Gr_splitting_38 (HX _ rfl).1 (HX _ rfl).2 rfl (by omega) (by omega) ?_
        refine gx_top (h6 _ (by omega)) ?_
        refine gx_iald X d_Gr_splitting_39 (HX _ rfl).1 (HX _ rfl).2 rfl (by omega) (by omega) ?_
        refine gx_top e17 ?_
        refine gx_lald X d_Gr_splitting_40 hk hlay rfl (by omega) (by omega) ?_
        refine gx_lxor X d_Gr_splitting_41 ?_
        refine gx_lor X d_Gr_splitting_42 ?_
        refine gx_lstore_n X d_Gr_splitting_43 rfl (by decide) ?_
        refine gx_iinc X d_Gr_splitting_44 rfl (pu_inc _) ?_
        refine gx_goto X d_Gr_splitting_47 (tgt := 5) (by decide) ?_
        refine gx_el (ih (i + 1) (v ||| (L k i ^^^ L k (rep i))) (by omega) (fun b hb => ?_)) ⟨rfl, rfl, rfl, rfl, trivial⟩
        rw [tb_or, tb_xor, Bool.or_eq_true, hv b hb]
        constructor
        · rintro (⟨s, hs, hne⟩ | hx)
          · exact ⟨s, by omega, hne⟩
          · exact ⟨i, by omega, fun z => by rw [z] at hx; simp at hx⟩
        · rintro ⟨s, hs, hne⟩
          by_cases e : s = i
          · right
            rw [e] at hne
            cases x1 : tb (L k i) b <;> cases x2 : tb (L k (rep i)) b <;> simp [x1, x2] at hne ⊢
          · exact Or.inl ⟨s, by omega, hne⟩
  exact gx_el (loop N 0 0 (by omega) (fun b hb => by rw [tb_0]; exact ⟨fun z => (by cases z), fun ⟨s, hs, _⟩ => absurd hs (by omega)⟩)) ⟨rfl, rfl, rfl, rfl, trivial⟩
end
