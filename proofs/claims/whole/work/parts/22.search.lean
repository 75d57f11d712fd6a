section
variable {l : Launch} {D : va_G} {ca : Nat → ClassId} {ks : List Nat} {lay : Nat → gxE} {ad : Nat → Nat} {F : Nat → Nat → Int32} {L : Nat → Nat → Int64} {w np : Nat} {sg : Nat → Nat} {ne : Nat} {ef et ek ev : Nat → Nat} {tg : Nat → Nat → Option Nat}
theorem c_Se_forget (HX : gH ks lay (2 ^ (3 * w)) sX) : Con l y_Se_forget (Cond.code y_Se_forget b_Se_forget 1 none :: WT) rm_Se_forget D vcl ca ks lay ad [xR 20] F L (fun r F' L' => r = none ∧ F' = gxu (gxu (gxu F 20 3 (nI 0)) 20 12 (nI 0)) 20 13 (-1) ∧ L' = L) := by
  refine Con.ofK (fun post K => ?_)
  refine Con.of (ls := [(0, xR 20)]) (by decide) rfl rfl (Nat.le_of_ble_eq_true rfl) ?_
  intro p e s m args below meth c A X hr hA
  refine gx_aload_n X d_Se_forget_0 rfl rfl ?_
  refine gx_iconst X d_Se_forget_1 (v := nI 0) (by decide) ?_
  refine gx_puti X d_Se_forget_2 (gci in_Se) (HX _ rfl).1 (HX _ rfl).2 rfl 3 (by decide) (gcw X lk_Se_9) (fun _ h => h) t_Se ty_Se nm_Se rfl (ty_Se 3 (by decide)) rfl rfl rfl ?_
  refine gx_aload_n X d_Se_forget_5 rfl rfl ?_
  refine gx_iconst X d_Se_forget_6 (v := nI 0) (by decide) ?_
  refine gx_puti X d_Se_forget_7 (gci in_Se) (HX _ rfl).1 (HX _ rfl).2 rfl 12 (by decide) (gcw X lk_Se_34) (fun _ h => h) t_Se ty_Se nm_Se rfl (ty_Se 12 (by decide)) rfl rfl rfl ?_
  refine gx_aload_n X d_Se_forget_10 rfl rfl ?_
  refine gx_iconst X d_Se_forget_11 (v := (-1)) (by decide) ?_
  refine gx_puti X d_Se_forget_12 (gci in_Se) (HX _ rfl).1 (HX _ rfl).2 rfl 13 (by decide) (gcw X lk_Se_38) (fun _ h => h) t_Se ty_Se nm_Se rfl (ty_Se 13 (by decide)) rfl rfl rfl ?_
  refine gx_vret X hr hA d_Se_forget_15 (K _ _ _ ⟨rfl, rfl, rfl⟩)
/-- a node is added: its cells -/
def adN (F : Nat → Nat → Int32) (N n lc g sv dv : Nat) (fr ed : Int32) : Nat → Nat → Int32 := gxu (gxu (gxu (gxu (gxu (gxu (gxu (gxu F 21 n (nI lc)) 25 n (nI g)) 22 n (nI sv)) 23 n fr) 24 n ed) 26 n (nI dv)) 27 (lc * N + g) (nI 1)) 20 3 (nI (n + 1))
theorem kn_lt {lc N g : Nat} (h : lc < 12) (hg : g < N) : lc * N + g < 12 * N := by
  have : lc * N ≤ 11 * N := Nat.mul_le_mul_right N (by omega)
  omega
set_option maxHeartbeats 4000000 in
theorem c_Se_addNode (HX : gH ks lay (2 ^ (3 * w)) sX) (hS : SpOK F w) (hG : GrOK F (2 ^ (3 * w)) np sg) {n lc q dv : Nat} (hn : n < 200) (hc : F 20 3 = nI n) (hlc : lc < 12) (hq : q < 2 ^ (3 * w)) {fr ed : Int32} (hd : (fr < 0 ∧ dv = 0) ∨ ∃ par, fr = nI par ∧ par < 200 ∧ par ≠ n ∧ F 26 par + 1 = nI dv) : Con l y_Se_addNode (Cond.code y_Se_addNode b_Se_addNode 5 none :: WT) rm_Se_addNode D vcl ca ks lay ad [xR 20, xI (nI lc), xI (nI (rk (2 ^ (3 * w)) sg q)), xI fr, xI ed] F L (fun r F' L' => r = none ∧ F' = adN F (2 ^ (3 * w)) n lc (rk (2 ^ (3 * w)) sg q) (sg q) dv fr ed ∧ L' = L) := by
  have hw : w < 4 := by have := hS.1; omega
  have hN := pu_N w hw
  have hgN : rk (2 ^ (3 * w)) sg q < 2 ^ (3 * w) := Nat.lt_of_lt_of_le (rk_lt (fun s hs => (hG.1.2.2 s hs).2) hq) (cnt_prs_le sg _ _)
  have hkn := kn_lt hlc hgN
  refine Con.ofK (fun post K => ?_)
  refine Con.of (ls := [(0, xR 20), (1, xI (nI lc)), (2, xI (nI (rk (2 ^ (3 * w)) sg q))), (3, xI fr), (4, xI ed)]) (by decide) rfl rfl (Nat.le_of_ble_eq_true rfl) ?_
  intro p e s m args below meth c A X hr hA
  refine gx_aload_n X d_Se_addNode_0 rfl rfl ?_
  refine gx_getr X d_Se_addNode_1 (gci in_Se) (HX _ rfl).1 (HX _ rfl).2 rfl 4 (by decide) (gcw X lk_Se_15) (fun _ h => h) rfl ?_
  refine gx_aload_n X d_Se_addNode_4 rfl rfl ?_
  refine gx_geti X d_Se_addNode_5 (gci in_Se) (HX _ rfl).1 (HX _ rfl).2 rfl 3 (by decide) (gcw X lk_Se_9) (fun _ h => h) rfl ?_
  refine gx_top hc ?_
  refine gx_iload_n X d_Se_addNode_8 rfl rfl ?_
  refine gx_iast X d_Se_addNode_9 (HX _ rfl).1 (HX _ rfl).2 rfl (by omega) (by omega) ?_
  refine gx_aload_n X d_Se_addNode_10 rfl rfl ?_
  refine gx_getr X d_Se_addNode_11 (gci in_Se) (HX _ rfl).1 (HX _ rfl).2 rfl 8 (by decide) (gcw X lk_Se_28) (fun _ h => h) rfl ?_
  refine gx_aload_n X d_Se_addNode_14 rfl rfl ?_
  refine gx_geti X d_Se_addNode_15 (gci in_Se) (HX _ rfl).1 (HX _ rfl).2 rfl 3 (by decide) (gcw X lk_Se_9) (fun _ h => h) rfl ?_
  refine gx_top (y := nI n) (by rw [gxu_cell (by decide)]; exact hc) ?_
  refine gx_iload_n X d_Se_addNode_18 rfl rfl ?_
  refine gx_iast X d_Se_addNode_19 (HX _ rfl).1 (HX _ rfl).2 rfl (by omega) (by omega) ?_
  refine gx_aload_n X d_Se_addNode_20 rfl rfl ?_
  refine gx_getr X d_Se_addNode_21 (gci in_Se) (HX _ rfl).1 (HX _ rfl).2 rfl 5 (by decide) (gcw X lk_Se_19) (fun _ h => h) rfl ?_
  refine gx_aload_n X d_Se_addNode_24 rfl rfl ?_
  refine gx_geti X d_Se_addNode_25 (gci in_Se) (HX _ rfl).1 (HX _ rfl).2 rfl 3 (by decide) (gcw X lk_Se_9) (fun _ h => h) rfl ?_
  refine gx_top (y := nI n) (by rw [gxu_cell (by decide), gxu_cell (by decide)]; exact hc) ?_
  refine gx_aload_n X d_Se_addNode_28 rfl rfl ?_
  refine gx_getr X d_Se_addNode_29 (gci in_Se) (HX _ rfl).1 (HX _ rfl).2 rfl 2 (by decide) (gcw X lk_Se_52) (fun _ h => h) rfl ?_
  refine gx_iload_n X d_Se_addNode_32 rfl rfl ?_
  refine gx_callV X d_Se_addNode_33 mf_Gr_signatureOf lk_Se_127 (c_Gr_signatureOf (HX.mono sG_X) hw (hG.of (fun a h1 h2 => by rw [gxu_cell (by omega), gxu_cell (by omega)])) hq) (HX _ rfl).1 (HX _ rfl).2 rfl rfl rfl (Nat.le_of_ble_eq_true rfl) ⟨by decide, by decide⟩ ⟨rfl, rfl⟩ ⟨Nat.zero_le _, Nat.zero_le _⟩ (fun r33 F33 L33 hp33 => ?_)
  obtain ⟨rfl, rfl, rfl⟩ := hp33
  refine gx_iast X d_Se_addNode_36 (HX _ rfl).1 (HX _ rfl).2 rfl (by omega) (by omega) ?_
  refine gx_aload_n X d_Se_addNode_37 rfl rfl ?_
  refine gx_getr X d_Se_addNode_38 (gci in_Se) (HX _ rfl).1 (HX _ rfl).2 rfl 6 (by decide) (gcw X lk_Se_22) (fun _ h => h) rfl ?_
  refine gx_aload_n X d_Se_addNode_41 rfl rfl ?_
  refine gx_geti X d_Se_addNode_42 (gci in_Se) (HX _ rfl).1 (HX _ rfl).2 rfl 3 (by decide) (gcw X lk_Se_9) (fun _ h => h) rfl ?_
  refine gx_top (y := nI n) (by rw [gxu_cell (by decide), gxu_cell (by decide), gxu_cell (by decide)]; exact hc) ?_
  refine gx_iload_n X d_Se_addNode_45 rfl rfl ?_
  refine gx_iast X d_Se_addNode_46 (HX _ rfl).1 (HX _ rfl).2 rfl (by omega) (by omega) ?_
  refine gx_aload_n X d_Se_addNode_47 rfl rfl ?_
  refine gx_getr X d_Se_addNode_48 (gci in_Se) (HX _ rfl).1 (HX _ rfl).2 rfl 7 (by decide) (gcw X lk_Se_25) (fun _ h => h) rfl ?_
  refine gx_aload_n X d_Se_addNode_51 rfl rfl ?_
  refine gx_geti X d_Se_addNode_52 (gci in_Se) (HX _ rfl).1 (HX _ rfl).2 rfl 3 (by decide) (gcw X lk_Se_9) (fun _ h => h) rfl ?_
  refine gx_top (y := nI n) (by rw [gxu_cell (by decide), gxu_cell (by decide), gxu_cell (by decide), gxu_cell (by decide)]; exact hc) ?_
  refine gx_iload X d_Se_addNode_55 rfl ?_
  refine gx_iast X d_Se_addNode_57 (HX _ rfl).1 (HX _ rfl).2 rfl (by omega) (by omega) ?_
  refine gx_aload_n X d_Se_addNode_58 rfl rfl ?_
  refine gx_getr X d_Se_addNode_59 (gci in_Se) (HX _ rfl).1 (HX _ rfl).2 rfl 9 (by decide) (gcw X lk_Se_31) (fun _ h => h) rfl ?_
  refine gx_aload_n X d_Se_addNode_62 rfl rfl ?_
  refine gx_geti X d_Se_addNode_63 (gci in_Se) (HX _ rfl).1 (HX _ rfl).2 rfl 3 (by decide) (gcw X lk_Se_9) (fun _ h => h) rfl ?_
  refine gx_top (y := nI n) (by rw [gxu_cell (by decide), gxu_cell (by decide), gxu_cell (by decide), gxu_cell (by decide), gxu_cell (by decide)]; exact hc) ?_
  -- behind the depth
  have body : ∀ (G : Nat → Nat → Int32), G = gxu (gxu (gxu (gxu (gxu (gxu F 21 n (nI lc)) 25 n (nI (rk (2 ^ (3 * w)) sg q))) 22 n (nI (sg q))) 23 n fr) 24 n ed) 26 n (nI dv) → GX p l e rm_Se_addNode s m args below meth c (MQ below (gxQ D vcl ca ks lay ad s.heap.size post) args s 0 0 (gxA ks ad s.heap.size)) 5 A D vcl ca ks lay ad 0 0 83 [(0, xR 20), (1, xI (nI lc)), (2, xI (nI (rk (2 ^ (3 * w)) sg q))), (3, xI fr), (4, xI ed)] [] G L33 := by
    intro G hGe
    have e12 : G 1 2 = nI (2 ^ (3 * w)) := by
      rw [hGe, gxu_cell (by decide), gxu_cell (by decide), gxu_cell (by decide), gxu_cell (by decide), gxu_cell (by decide), gxu_cell (by decide)]
      exact hS.2.2.2
    have e20 : G 20 3 = nI n := by
      rw [hGe, gxu_cell (by decide), gxu_cell (by decide), gxu_cell (by decide), gxu_cell (by decide), gxu_cell (by decide), gxu_cell (by decide)]
      exact hc
    refine gx_aload_n X d_Se_addNode_83 rfl rfl ?_
    refine gx_getr X d_Se_addNode_84 (gci in_Se) (HX _ rfl).1 (HX _ rfl).2 rfl 10 (by decide) (gcw X lk_Se_61) (fun _ h => h) rfl ?_
    refine gx_iload_n X d_Se_addNode_87 rfl rfl ?_
    refine gx_aload_n X d_Se_addNode_88 rfl rfl ?_
    refine gx_getr X d_Se_addNode_89 (gci in_Se) (HX _ rfl).1 (HX _ rfl).2 rfl 0 (by decide) (gcw X lk_Se_44) (fun _ h => h) rfl ?_
    refine gx_geti X d_Se_addNode_92 (gci in_Sp) (HX _ rfl).1 (HX _ rfl).2 rfl 2 (by decide) (gcw X lk_Se_56) (fun _ h => h) rfl ?_
    refine gx_top e12 ?_
    refine gx_imul X d_Se_addNode_95 ?_
    refine gx_top (pk_mul lc (2 ^ (3 * w))) ?_
    refine gx_iload_n X d_Se_addNode_96 rfl rfl ?_
    refine gx_iadd X d_Se_addNode_97 ?_
    refine gx_top (nI_add _ _) ?_
    refine gx_iconst X d_Se_addNode_98 (v := nI 1) (by decide) ?_
    refine gx_bast X d_Se_addNode_99 (HX _ rfl).1 (HX _ rfl).2 rfl hkn (by omega) (v := nI 1) (by decide) ?_
    refine gx_aload_n X d_Se_addNode_100 rfl rfl ?_
    refine gx_dup X d_Se_addNode_101 rfl ?_
    refine gx_geti X d_Se_addNode_102 (gci in_Se) (HX _ rfl).1 (HX _ rfl).2 rfl 3 (by decide) (gcw X lk_Se_9) (fun _ h => h) rfl ?_
    refine gx_top (y := nI n) (by rw [gxu_cell (by decide)]; exact e20) ?_
    refine gx_iconst X d_Se_addNode_105 (v := nI 1) (by decide) ?_
    refine gx_iadd X d_Se_addNode_106 ?_
    refine gx_top (nI_add n 1) ?_
    refine gx_puti X d_Se_addNode_107 (gci in_Se) (HX _ rfl).1 (HX _ rfl).2 rfl 3 (by decide) (gcw X lk_Se_9) (fun _ h => h) t_Se ty_Se nm_Se rfl (ty_Se 3 (by decide)) rfl rfl rfl ?_
    refine gx_vret X hr hA d_Se_addNode_110 (K _ _ _ ⟨rfl, by rw [hGe]; rfl, rfl⟩)
  refine gx_iload_n X d_Se_addNode_66 rfl rfl ?_
  refine gx_if_ge X d_Se_addNode_67 (tgt := 74) (by decide) (fun h67 => ?_) (fun h67 => ?_)
  · rcases hd with ⟨h1, -⟩ | ⟨par, rfl, p1, p2, p3⟩
    · exact absurd h67 (Int32.not_le.mpr h1)
    · refine gx_aload_n X d_Se_addNode_74 rfl rfl ?_
      refine gx_getr X d_Se_addNode_75 (gci in_Se) (HX _ rfl).1 (HX _ rfl).2 rfl 9 (by decide) (gcw X lk_Se_31) (fun _ h => h) rfl ?_
      refine gx_iload_n X d_Se_addNode_78 rfl rfl ?_
      refine gx_iald X d_Se_addNode_79 (HX _ rfl).1 (HX _ rfl).2 rfl (by omega) (by omega) ?_
      refine gx_top (y := F 26 par) (by rw [gxu_cell (by decide), gxu_cell (by decide), gxu_cell (by decide), gxu_cell (by decide), gxu_cell (by decide)]) ?_
      refine gx_iconst X d_Se_addNode_80 (v := nI 1) (by decide) ?_
      refine gx_iadd X d_Se_addNode_81 ?_
      refine gx_top p3 ?_
      refine gx_iast X d_Se_addNode_82 (HX _ rfl).1 (HX _ rfl).2 rfl (by omega) (by omega) ?_
      exact gx_el (body _ rfl) ⟨rfl, rfl, rfl, rfl, rfl, trivial⟩
  · rcases hd with ⟨h1, rfl⟩ | ⟨par, rfl, p1, p2, p3⟩
    · refine gx_iconst X d_Se_addNode_70 (v := nI 0) (by decide) ?_
      refine gx_goto X d_Se_addNode_71 (tgt := 82) (by decide) ?_
      refine gx_iast X d_Se_addNode_82 (HX _ rfl).1 (HX _ rfl).2 rfl (by omega) (by omega) ?_
      exact gx_el (body _ rfl) ⟨rfl, rfl, rfl, rfl, rfl, trivial⟩
    · exact absurd (nI_pos' (by omega)) h67
/-- a yes or no in a cell -/
def bI (v : Int32) (P : Prop) : Prop := (P → v = nI 1) ∧ (¬ P → v = nI 0)
theorem bI_iff {v : Int32} {P Q : Prop} (h : bI v P) (e : P ↔ Q) : bI v Q := ⟨fun q => h.1 (e.mpr q), fun q => h.2 (fun z => q (e.mp z))⟩
theorem stp_lt (hw : w < 4) (hP : PrOK F w ne ef et ek ev tg) {e0 s x t : Nat} (he : e0 < ne) (hs : s < 2 ^ (3 * w)) (h : stp w ek ev tg e0 s x = some t) : t < 2 ^ (3 * w) := by
  obtain ⟨-, -, -, ⟨v1, v2⟩, ht⟩ := hP.2.2 e0 he
  unfold stp at h
  split at h
  · cases h; exact wr_lt' hw v2 hs
  · exact (ht s hs).2.1 t h
theorem chs_le (hw : w < 4) (ek : Nat → Nat) (e0 : Nat) : chs w ek e0 ≤ 8 ∧ 0 < chs w ek e0 := by
  unfold chs
  split
  · exact ⟨pu_p8 w hw, Nat.two_pow_pos w⟩
  · exact ⟨by decide, by decide⟩
set_option maxHeartbeats 4000000 in
theorem c_Se_markReached (HX : gH ks lay (2 ^ (3 * w)) sX) (hS : SpOK F w) (hG : GrOK F (2 ^ (3 * w)) np sg) (hP : PrOK F w ne ef et ek ev tg) {q e0 : Nat} (hq : q < 2 ^ (3 * w)) (he : e0 < ne) : Con l y_Se_markReached (Cond.code y_Se_markReached b_Se_markReached 7 none :: WT) rm_Se_markReached D vcl ca ks lay ad [xR 20, xI (nI (rk (2 ^ (3 * w)) sg q)), xI (nI e0)] F L (fun r F' L' => r = none ∧ L' = L ∧ (∀ a, a ≠ 28 → F' a = F a) ∧ ∀ t, t < 2 ^ (3 * w) → bI (F' 28 (rk (2 ^ (3 * w)) sg t)) (∃ s y u, s < 2 ^ (3 * w) ∧ sg s = sg q ∧ y < chs w ek e0 ∧ stp w ek ev tg e0 s y = some u ∧ sg u = sg t)) := by
  have hw : w < 4 := by have := hS.1; omega
  have hN := pu_N w hw
  have h20 := hP.1
  have hch := chs_le hw ek e0
  obtain ⟨⟨g1, g2, g3⟩, g4, g5, g6, g7⟩ := id hG
  have hsg2 : ∀ s, s < 2 ^ (3 * w) → sg s < 2 ^ np := fun s hs => (g3 s hs).2
  have hgN : cnt (prs (2 ^ (3 * w)) sg) (2 ^ np) ≤ 2 ^ (3 * w) := cnt_prs_le sg _ _
  have hrq := rk_lt hsg2 hq
  have hsum := gps_sum (np := np) hsg2
  have hm1 := sm_mono (fun g => gcn (2 ^ (3 * w)) sg g (2 ^ (3 * w))) (show rk (2 ^ (3 * w)) sg q + 1 ≤ cnt (prs (2 ^ (3 * w)) sg) (2 ^ np) from hrq)
  have hm0 := sm_mono (fun g => gcn (2 ^ (3 * w)) sg g (2 ^ (3 * w))) (show rk (2 ^ (3 * w)) sg q ≤ rk (2 ^ (3 * w)) sg q + 1 by omega)
  rw [hsum] at hm1
  generalize hA0 : sm (fun g => gcn (2 ^ (3 * w)) sg g (2 ^ (3 * w))) (rk (2 ^ (3 * w)) sg q) = a0 at *
  generalize hA1 : sm (fun g => gcn (2 ^ (3 * w)) sg g (2 ^ (3 * w))) (rk (2 ^ (3 * w)) sg q + 1) = a1 at *
  refine Con.ofK (fun post K => ?_)
  refine Con.of (ls := [(0, xR 20), (1, xI (nI (rk (2 ^ (3 * w)) sg q))), (2, xI (nI e0))]) (by decide) rfl rfl (Nat.le_of_ble_eq_true rfl) ?_
  intro p e s m args below meth c A X hr hA
  refine gx_aload_n X d_Se_markReached_0 rfl rfl ?_
  refine gx_getr X d_Se_markReached_1 (gci in_Se) (HX _ rfl).1 (HX _ rfl).2 rfl 11 (by decide) (gcw X lk_Se_65) (fun _ h => h) rfl ?_
  refine gx_iconst X d_Se_markReached_4 (v := nI 0) (by decide) ?_
  refine gx_aload_n X d_Se_markReached_5 rfl rfl ?_
  refine gx_getr X d_Se_markReached_6 (gci in_Se) (HX _ rfl).1 (HX _ rfl).2 rfl 2 (by decide) (gcw X lk_Se_52) (fun _ h => h) rfl ?_
  refine gx_geti X d_Se_markReached_9 (gci in_Gr) (HX _ rfl).1 (HX _ rfl).2 rfl 3 (by decide) (gcw X lk_Se_103) (fun _ h => h) rfl ?_
  refine gx_top g4 ?_
  refine gx_iconst X d_Se_markReached_12 (v := nI 0) (by decide) ?_
  refine gx_callS X d_Se_markReached_13 mf_Ar_fill_aBIIB lk_Se_110 (c_fill_BR (HX 28 rfl).1 (n := 2 ^ (3 * w)) (HX 28 rfl).2 (by omega) (a := 0) (b := cnt (prs (2 ^ (3 * w)) sg) (2 ^ np)) (Nat.zero_le _) hgN) rfl rfl (Nat.le_of_ble_eq_true rfl) ⟨by decide, by decide⟩ ⟨rfl, rfl⟩ ⟨Nat.zero_le _, Nat.zero_le _⟩ (fun r13 F13 L13 hp13 => ?_)
  obtain ⟨rfl, rfl, rfl⟩ := hp13
  have o1 : ∀ a, a ≠ 28 → flF F 28 0 (cnt (prs (2 ^ (3 * w)) sg) (2 ^ np)) (nI 0) a = F a := fun a h => flF_cell h
  refine gx_aload_n X d_Se_markReached_16 rfl rfl ?_
  refine gx_getr X d_Se_markReached_17 (gci in_Se) (HX _ rfl).1 (HX _ rfl).2 rfl 1 (by decide) (gcw X lk_Se_48) (fun _ h => h) rfl ?_
  refine gx_iload_n X d_Se_markReached_20 rfl rfl ?_
  refine gx_callV X d_Se_markReached_21 mf_Pr_choices lk_Se_113 (c_Pr_choices HX (hS.of (o1 1 (by decide))) (hP.of (fun a ha => o1 a (by omega))) he) (HX _ rfl).1 (HX _ rfl).2 rfl rfl rfl (Nat.le_of_ble_eq_true rfl) ⟨by decide, by decide⟩ ⟨rfl, rfl⟩ ⟨Nat.zero_le _, Nat.zero_le _⟩ (fun r21 F21 L21 hp21 => ?_)
  obtain ⟨rfl, rfl, rfl⟩ := hp21
  refine gx_istore_n X d_Se_markReached_24 rfl (by decide) ?_
  refine gx_aload_n X d_Se_markReached_25 rfl rfl ?_
  refine gx_getr X d_Se_markReached_26 (gci in_Se) (HX _ rfl).1 (HX _ rfl).2 rfl 2 (by decide) (gcw X lk_Se_52) (fun _ h => h) rfl ?_
  refine gx_getr X d_Se_markReached_29 (gci in_Gr) (HX _ rfl).1 (HX _ rfl).2 rfl 6 (by decide) (gcw X lk_Se_117) (fun _ h => h) rfl ?_
  refine gx_iload_n X d_Se_markReached_32 rfl rfl ?_
  refine gx_iald X d_Se_markReached_33 (HX _ rfl).1 (HX _ rfl).2 rfl (by omega) (by omega) ?_
  refine gx_top (y := nI a0) (by rw [o1 18 (by decide), g6 _ (by omega), hA0]) ?_
  refine gx_istore X d_Se_markReached_34 (by decide) ?_
  have loop : ∀ (d i : Nat) (G : Nat → Nat → Int32), i + d = a1 → a0 ≤ i → (∀ a, a ≠ 28 → G a = F a) → (∀ t, t < 2 ^ (3 * w) → bI (G 28 (rk (2 ^ (3 * w)) sg t)) (∃ s y u, s < 2 ^ (3 * w) ∧ sg s = sg q ∧ y < chs w ek e0 ∧ gps (2 ^ (3 * w)) sg s < i ∧ stp w ek ev tg e0 s y = some u ∧ sg u = sg t)) → GX p l e rm_Se_markReached s m args below meth c (MQ below (gxQ D vcl ca ks lay ad s.heap.size post) args s 0 0 (gxA ks ad s.heap.size)) 7 A D vcl ca ks lay ad 0 0 36 [(4, xI (nI i)), (3, xI (nI (chs w ek e0))), (0, xR 20), (1, xI (nI (rk (2 ^ (3 * w)) sg q))), (2, xI (nI e0))] [] G L21 := by
    intro d
    induction d with
    | zero =>
      intro i G hd ha h1 h2
      refine gx_iload X d_Se_markReached_36 rfl ?_
      refine gx_aload_n X d_Se_markReached_38 rfl rfl ?_
      refine gx_getr X d_Se_markReached_39 (gci in_Se) (HX _ rfl).1 (HX _ rfl).2 rfl 2 (by decide) (gcw X lk_Se_52) (fun _ h => h) rfl ?_
      refine gx_getr X d_Se_markReached_42 (gci in_Gr) (HX _ rfl).1 (HX _ rfl).2 rfl 6 (by decide) (gcw X lk_Se_117) (fun _ h => h) rfl ?_
      refine gx_iload_n X d_Se_markReached_45 rfl rfl ?_
      refine gx_iconst X d_Se_markReached_46 (v := nI 1) (by decide) ?_
      refine gx_iadd X d_Se_markReached_47 ?_
      refine gx_top (nI_add _ 1) ?_
      refine gx_iald X d_Se_markReached_48 (HX _ rfl).1 (HX _ rfl).2 rfl (by omega) (by omega) ?_
      refine gx_top (y := nI a1) (by rw [h1 18 (by decide), g6 _ (by omega), hA1]) ?_
      refine gx_icmp_ge X d_Se_markReached_49 (tgt := 116) (by decide) (fun h49 => ?_) (fun h49 => ?_)
      · refine gx_vret X hr hA d_Se_markReached_116 (K _ _ _ ⟨rfl, rfl, h1, fun t ht => bI_iff (h2 t ht) ⟨?_, ?_⟩⟩)
        · rintro ⟨s, y, u, c1, c2, c3, c4, c5, c6⟩
          exact ⟨s, y, u, c1, c2, c3, c5, c6⟩
        · rintro ⟨s, y, u, c1, c2, c3, c5, c6⟩
          have hin := (gps_in (np := np) (sg := sg) c1).2
          rw [(rk_inj c1 hq).mpr c2, hA1] at hin
          exact ⟨s, y, u, c1, c2, c3, by omega, c5, c6⟩
      · exact absurd ((nI_leI (by omega) (by omega)).mpr (by omega)) h49
    | succ d ih =>
      intro i G hd ha h1 h2
      obtain ⟨si, s1, s2, s3⟩ := gps_at (N := 2 ^ (3 * w)) (sg := sg) (g := rk (2 ^ (3 * w)) sg q) (i := i) (by omega) (by omega)
      have s4 : sg si = sg q := (rk_inj s1 hq).mp s2
      have e17 : ∀ (G : Nat → Nat → Int32), (∀ a, a ≠ 28 → G a = F a) → G 17 i = nI si := fun G h => by
        rw [h 17 (by decide), ← s3]
        exact g7 si s1
      refine gx_iload X d_Se_markReached_36 rfl ?_
      refine gx_aload_n X d_Se_markReached_38 rfl rfl ?_
      refine gx_getr X d_Se_markReached_39 (gci in_Se) (HX _ rfl).1 (HX _ rfl).2 rfl 2 (by decide) (gcw X lk_Se_52) (fun _ h => h) rfl ?_
      refine gx_getr X d_Se_markReached_42 (gci in_Gr) (HX _ rfl).1 (HX _ rfl).2 rfl 6 (by decide) (gcw X lk_Se_117) (fun _ h => h) rfl ?_
      refine gx_iload_n X d_Se_markReached_45 rfl rfl ?_
      refine gx_iconst X d_Se_markReached_46 (v := nI 1) (by decide) ?_
      refine gx_iadd X d_Se_markReached_47 ?_
      refine gx_top (nI_add _ 1) ?_
      refine gx_iald X d_Se_markReached_48 (HX _ rfl).1 (HX _ rfl).2 rfl (by omega) (by omega) ?_
      refine gx_top (y := nI a1) (by rw [h1 18 (by decide), g6 _ (by omega), hA1]) ?_
      refine gx_icmp_ge X d_Se_markReached_49 (tgt := 116) (by decide) (fun h49 => ?_) (fun h49 => ?_)
      · exact absurd ((nI_leI (by omega) (by omega)).mp h49) (by omega)
      · refine gx_iconst X d_Se_markReached_52 (v := nI 0) (by decide) ?_
        refine gx_istore X d_Se_markReached_53 (by decide) ?_
        have inner : ∀ (dc x : Nat) (G : Nat → Nat → Int32), x + dc = chs w ek e0 → (∀ a, a ≠ 28 → G a = F a) → (∀ t, t < 2 ^ (3 * w) → bI (G 28 (rk (2 ^ (3 * w)) sg t)) (∃ s y u, s < 2 ^ (3 * w) ∧ sg s = sg q ∧ y < chs w ek e0 ∧ (gps (2 ^ (3 * w)) sg s < i ∨ s = si ∧ y < x) ∧ stp w ek ev tg e0 s y = some u ∧ sg u = sg t)) → GX p l e rm_Se_markReached s m args below meth c (MQ below (gxQ D vcl ca ks lay ad s.heap.size post) args s 0 0 (gxA ks ad s.heap.size)) 7 A D vcl ca ks lay ad 0 0 55 [(5, xI (nI x)), (4, xI (nI i)), (3, xI (nI (chs w ek e0))), (0, xR 20), (1, xI (nI (rk (2 ^ (3 * w)) sg q))), (2, xI (nI e0))] [] G L21 := by
          intro dc
          induction dc with
          | zero =>
            intro x G hx k1 k2
            refine gx_iload X d_Se_markReached_55 rfl ?_
            refine gx_iload_n X d_Se_markReached_57 rfl rfl ?_
            refine gx_icmp_ge X d_Se_markReached_58 (tgt := 110) (by decide) (fun h58 => ?_) (fun h58 => ?_)
            · refine gx_iinc X d_Se_markReached_110 rfl (pu_inc _) ?_
              refine gx_goto X d_Se_markReached_113 (tgt := 36) (by decide) ?_
              refine gx_el (ih (i + 1) G (by omega) (by omega) k1 (fun t ht => bI_iff (k2 t ht) ⟨?_, ?_⟩)) ⟨rfl, rfl, rfl, rfl, rfl, trivial⟩
              · rintro ⟨s, y, u, c1, c2, c3, c4, c5, c6⟩
                refine ⟨s, y, u, c1, c2, c3, ?_, c5, c6⟩
                rcases c4 with c4 | ⟨c4, -⟩
                · omega
                · rw [c4]; omega
              · rintro ⟨s, y, u, c1, c2, c3, c4, c5, c6⟩
                refine ⟨s, y, u, c1, c2, c3, ?_, c5, c6⟩
                by_cases e : gps (2 ^ (3 * w)) sg s < i
                · exact Or.inl e
                · right
                  refine ⟨?_, by omega⟩
                  have ee : gps (2 ^ (3 * w)) sg s = gps (2 ^ (3 * w)) sg si := by omega
                  rcases Nat.lt_trichotomy s si with h | h | h
                  · exact absurd ee (gps_inj (np := np) c1 s1 h)
                  · exact h
                  · exact absurd ee.symm (gps_inj (np := np) s1 c1 h)
            · exact absurd ((nI_leI (by omega) (by omega)).mpr (by omega)) h58
          | succ dc ihc =>
            intro x G hx k1 k2
            refine gx_iload X d_Se_markReached_55 rfl ?_
            refine gx_iload_n X d_Se_markReached_57 rfl rfl ?_
            refine gx_icmp_ge X d_Se_markReached_58 (tgt := 110) (by decide) (fun h58 => ?_) (fun h58 => ?_)
            · exact absurd ((nI_leI (by omega) (by omega)).mp h58) (by omega)
            · refine gx_aload_n X d_Se_markReached_61 rfl rfl ?_
              refine gx_getr X d_Se_markReached_62 (gci in_Se) (HX _ rfl).1 (HX _ rfl).2 rfl 1 (by decide) (gcw X lk_Se_48) (fun _ h => h) rfl ?_
              refine gx_iload_n X d_Se_markReached_65 rfl rfl ?_
              refine gx_aload_n X d_Se_markReached_66 rfl rfl ?_
              refine gx_getr X d_Se_markReached_67 (gci in_Se) (HX _ rfl).1 (HX _ rfl).2 rfl 2 (by decide) (gcw X lk_Se_52) (fun _ h => h) rfl ?_
              refine gx_getr X d_Se_markReached_70 (gci in_Gr) (HX _ rfl).1 (HX _ rfl).2 rfl 5 (by decide) (gcw X lk_Se_120) (fun _ h => h) rfl ?_
              refine gx_iload X d_Se_markReached_73 rfl ?_
              refine gx_iald X d_Se_markReached_75 (HX _ rfl).1 (HX _ rfl).2 rfl (by omega) (by omega) ?_
              refine gx_top (e17 G k1) ?_
              refine gx_iload X d_Se_markReached_76 rfl ?_
              refine gx_callV X d_Se_markReached_78 mf_Pr_step lk_Se_123 (c_Pr_step HX (hS.of (k1 1 (by decide))) (hP.of (fun a ha => k1 a (by omega))) he s1 (nI x)) (HX _ rfl).1 (HX _ rfl).2 rfl rfl rfl (Nat.le_of_ble_eq_true rfl) ⟨by decide, by decide⟩ ⟨rfl, rfl⟩ ⟨Nat.zero_le _, Nat.zero_le _⟩ (fun r78 F78 L78 hp78 => ?_)
              obtain ⟨rfl, rfl, rfl⟩ := hp78
              rw [pk_tn (by omega)]
              refine gx_istore X d_Se_markReached_81 (by decide) ?_
              refine gx_iload X d_Se_markReached_83 rfl ?_
              have next : ∀ (G : Nat → Nat → Int32), (∀ a, a ≠ 28 → G a = F a) → (∀ t, t < 2 ^ (3 * w) → bI (G 28 (rk (2 ^ (3 * w)) sg t)) (∃ s y u, s < 2 ^ (3 * w) ∧ sg s = sg q ∧ y < chs w ek e0 ∧ (gps (2 ^ (3 * w)) sg s < i ∨ s = si ∧ y < x + 1) ∧ stp w ek ev tg e0 s y = some u ∧ sg u = sg t)) → GX p l e rm_Se_markReached s m args below meth c (MQ below (gxQ D vcl ca ks lay ad s.heap.size post) args s 0 0 (gxA ks ad s.heap.size)) 7 A D vcl ca ks lay ad 0 0 104 [(5, xI (nI x)), (4, xI (nI i)), (3, xI (nI (chs w ek e0))), (0, xR 20), (1, xI (nI (rk (2 ^ (3 * w)) sg q))), (2, xI (nI e0))] [] G L78 := by
                intro G m1 m2
                refine gx_iinc X d_Se_markReached_104 rfl (pu_inc _) ?_
                refine gx_goto X d_Se_markReached_107 (tgt := 55) (by decide) ?_
                exact gx_el (ihc (x + 1) G (by omega) m1 m2) ⟨rfl, rfl, rfl, rfl, rfl, rfl, trivial⟩
              cases hst : stp w ek ev tg e0 si x with
              | none =>
                refine gx_if_lt X d_Se_markReached_85 (tgt := 104) (by decide) (fun h85 => ?_) (fun h85 => ?_)
                · refine gx_el (next F78 k1 (fun t ht => bI_iff (k2 t ht) ⟨?_, ?_⟩)) ⟨rfl, rfl, rfl, rfl, rfl, rfl, trivial⟩
                  · rintro ⟨s, y, u, c1, c2, c3, c4, c5, c6⟩
                    exact ⟨s, y, u, c1, c2, c3, c4.elim Or.inl (fun z => Or.inr ⟨z.1, by omega⟩), c5, c6⟩
                  · rintro ⟨s, y, u, c1, c2, c3, c4, c5, c6⟩
                    refine ⟨s, y, u, c1, c2, c3, ?_, c5, c6⟩
                    rcases c4 with c4 | ⟨rfl, c4⟩
                    · exact Or.inl c4
                    · by_cases e : y = x
                      · subst e; rw [hst] at c5; cases c5
                      · exact Or.inr ⟨rfl, by omega⟩
                · exact absurd (show (-1 : Int32) < 0 by decide) h85
              | some u0 =>
                have hu := stp_lt hw hP he s1 hst
                have hru := rk_lt hsg2 hu
                refine gx_if_lt X d_Se_markReached_85 (tgt := 104) (by decide) (fun h85 => ?_) (fun h85 => ?_)
                · exact absurd h85 (nI_pos (by omega))
                · refine gx_aload_n X d_Se_markReached_88 rfl rfl ?_
                  refine gx_getr X d_Se_markReached_89 (gci in_Se) (HX _ rfl).1 (HX _ rfl).2 rfl 11 (by decide) (gcw X lk_Se_65) (fun _ h => h) rfl ?_
                  refine gx_aload_n X d_Se_markReached_92 rfl rfl ?_
                  refine gx_getr X d_Se_markReached_93 (gci in_Se) (HX _ rfl).1 (HX _ rfl).2 rfl 2 (by decide) (gcw X lk_Se_52) (fun _ h => h) rfl ?_
                  refine gx_getr X d_Se_markReached_96 (gci in_Gr) (HX _ rfl).1 (HX _ rfl).2 rfl 4 (by decide) (gcw X lk_Se_77) (fun _ h => h) rfl ?_
                  refine gx_iload X d_Se_markReached_99 (x := nI u0) rfl ?_
                  refine gx_iald X d_Se_markReached_101 (HX _ rfl).1 (HX _ rfl).2 rfl hu (by omega) ?_
                  refine gx_top (y := nI (rk (2 ^ (3 * w)) sg u0)) (by rw [k1 16 (by decide)]; exact g5 u0 hu) ?_
                  refine gx_iconst X d_Se_markReached_102 (v := nI 1) (by decide) ?_
                  refine gx_bast X d_Se_markReached_103 (HX _ rfl).1 (HX _ rfl).2 rfl (by omega) (by omega) (v := nI 1) (by decide) ?_
                  refine gx_el (next _ (fun a ha => by rw [gxu_cell ha]; exact k1 a ha) (fun t ht => ?_)) ⟨rfl, rfl, rfl, rfl, rfl, rfl, trivial⟩
                  by_cases e : rk (2 ^ (3 * w)) sg t = rk (2 ^ (3 * w)) sg u0
                  · rw [e, gxu_at]
                    exact ⟨fun _ => rfl, fun z => absurd ⟨si, x, u0, s1, s4, by omega, Or.inr ⟨rfl, by omega⟩, hst, ((rk_inj ht hu).mp e).symm⟩ z⟩
                  · rw [gxu_ne (fun z => e z.2)]
                    refine bI_iff (k2 t ht) ⟨?_, ?_⟩
                    · rintro ⟨s, y, u, c1, c2, c3, c4, c5, c6⟩
                      exact ⟨s, y, u, c1, c2, c3, c4.elim Or.inl (fun z => Or.inr ⟨z.1, by omega⟩), c5, c6⟩
                    · rintro ⟨s, y, u, c1, c2, c3, c4, c5, c6⟩
                      refine ⟨s, y, u, c1, c2, c3, ?_, c5, c6⟩
                      rcases c4 with c4 | ⟨rfl, c4⟩
                      · exact Or.inl c4
                      · by_cases e2 : y = x
                        · subst e2
                          rw [hst] at c5
                          cases c5
                          exact absurd ((rk_inj ht hu).mpr c6.symm) e
                        · exact Or.inr ⟨rfl, by omega⟩
        refine gx_el (inner (chs w ek e0) 0 G (by omega) h1 (fun t ht => bI_iff (h2 t ht) ⟨?_, ?_⟩)) ⟨rfl, rfl, rfl, rfl, rfl, rfl, trivial⟩
        · rintro ⟨s, y, u, c1, c2, c3, c4, c5, c6⟩
          exact ⟨s, y, u, c1, c2, c3, Or.inl c4, c5, c6⟩
        · rintro ⟨s, y, u, c1, c2, c3, c4, c5, c6⟩
          exact ⟨s, y, u, c1, c2, c3, c4.elim id (fun z => absurd z.2 (by omega)), c5, c6⟩
  refine gx_el (loop (a1 - a0) a0 _ (by omega) (by omega) o1 (fun t ht => ?_)) ⟨rfl, rfl, rfl, rfl, rfl, trivial⟩
  have hrt := rk_lt hsg2 ht
  rw [flF_in (by omega) hrt]
  refine ⟨?_, fun _ => rfl⟩
  rintro ⟨s, y, u, c1, c2, c3, c4, c5, c6⟩
  have hin := (gps_in (np := np) (sg := sg) c1).1
  rw [(rk_inj c1 hq).mpr c2, hA0] at hin
  omega
end
