section
variable {l : Launch} {D : va_G} {ca : Nat → ClassId} {ks : List Nat} {lay : Nat → gxE} {ad : Nat → Nat} {F : Nat → Nat → Int32} {L : Nat → Nat → Int64} {w np : Nat} {sg : Nat → Nat}
/-- the groups as they stand in the cells -/
def GrOK (F : Nat → Nat → Int32) (N np : Nat) (sg : Nat → Nat) : Prop := SgOK F N np sg ∧ F 14 3 = nI (cnt (prs N sg) (2 ^ np)) ∧ (∀ s, s < N → F 16 s = nI (rk N sg s)) ∧ (∀ g, g ≤ cnt (prs N sg) (2 ^ np) → F 18 g = nI (sm (fun g => gcn N sg g N) g)) ∧ ∀ s, s < N → F 17 (gps N sg s) = nI s
theorem SgOK.of {G : Nat → Nat → Int32} {N : Nat} (h : SgOK F N np sg) (e14 : G 14 1 = F 14 1) (e15 : G 15 = F 15) : SgOK G N np sg := by
  unfold SgOK
  rw [e14, e15]
  exact h
theorem GrOK.of {G : Nat → Nat → Int32} {N : Nat} (h : GrOK F N np sg) (e : ∀ a, 14 ≤ a → a ≤ 19 → G a = F a) : GrOK G N np sg := by
  unfold GrOK
  rw [e 14 (by omega) (by omega), e 16 (by omega) (by omega), e 17 (by omega) (by omega), e 18 (by omega) (by omega)]
  exact ⟨h.1.of (by rw [e 14 (by omega) (by omega)]) (e 15 (by omega) (by omega)), h.2⟩
set_option maxHeartbeats 4000000 in
theorem c_Gr_placeStates (HX : gH ks lay (2 ^ (3 * w)) sG) (hS : SpOK F w) (hG : SgOK F (2 ^ (3 * w)) np sg) (hgc : F 14 3 = nI (cnt (prs (2 ^ (3 * w)) sg) (2 ^ np))) (h19 : ∀ p, p < 2 ^ np → F 19 p = cond (prs (2 ^ (3 * w)) sg p) (nI (cnt (prs (2 ^ (3 * w)) sg) p)) (-1)) : Con l y_Gr_placeStates (Cond.code y_Gr_placeStates b_Gr_placeStates 3 none :: WT) rm_Gr_placeStates D vcl ca ks lay ad [xR 14] F L (fun r F' L' => r = none ∧ L' = L ∧ (∀ a, a ≠ 16 → a ≠ 17 → a ≠ 18 → F' a = F a) ∧ GrOK F' (2 ^ (3 * w)) np sg) := by
  have hw : w < 4 := by have := hS.1; omega
  have hN := pu_N w hw
  obtain ⟨hnp, hc, hsg⟩ := id hG
  have h4 := pw12 np hnp
  generalize hNe : 2 ^ (3 * w) = N at *
  have hsg2 : ∀ s, s < N → sg s < 2 ^ np := fun s hs => (hsg s hs).2
  have hgN : cnt (prs N sg) (2 ^ np) ≤ N := cnt_prs_le sg _ N
  have hsum := gps_sum (np := np) hsg2
  refine Con.ofK (fun post K => ?_)
  refine Con.of (ls := [(0, xR 14)]) (by decide) rfl rfl (Nat.le_of_ble_eq_true rfl) ?_
  intro p e s m args below meth c A X hr hA
  refine gx_aload_n X d_Gr_placeStates_0 rfl rfl ?_
  refine gx_getr X d_Gr_placeStates_1 (gci in_Gr) (HX _ rfl).1 (HX _ rfl).2 rfl 6 (by decide) (gcw X lk_Gr_40) (fun _ h => h) rfl ?_
  refine gx_iconst X d_Gr_placeStates_4 (v := nI 0) (by decide) ?_
  refine gx_callS X d_Gr_placeStates_5 mf_Ar_fill_aII lk_Gr_49 (c_fill_I (HX 18 rfl).1 (n := N + 1) (HX 18 rfl).2 (by omega) (nI 0)) rfl rfl (Nat.le_of_ble_eq_true rfl) ⟨by decide, by decide⟩ ⟨rfl, rfl⟩ ⟨Nat.zero_le _, Nat.zero_le _⟩ (fun r5 F5 L5 hp5 => ?_)
  obtain ⟨rfl, rfl, rfl⟩ := hp5
  -- the third loop: each state to its place
  have loop3 : ∀ (d t : Nat) (G : Nat → Nat → Int32), t + d = N → (∀ a, a ≠ 16 → a ≠ 17 → a ≠ 18 → G a = F a) → (∀ s, s < N → G 16 s = nI (rk N sg s)) → (∀ g, g ≤ cnt (prs N sg) (2 ^ np) → G 18 g = nI (sm (fun g => gcn N sg g N) (g + 1) - gcn N sg g t)) → (∀ s, s < t → G 17 (gps N sg s) = nI s) → GX p l e rm_Gr_placeStates s m args below meth c (MQ below (gxQ D vcl ca ks lay ad s.heap.size post) args s 0 0 (gxA ks ad s.heap.size)) 3 A D vcl ca ks lay ad 0 0 94 [(1, xI (nI t)), (0, xR 14)] [] G L5 := by
    intro d
    induction d with
    | zero =>
      intro t G hd h1 h2 h3 h5
      have e12 : G 1 2 = nI N := by rw [h1 1 (by decide) (by decide) (by decide), hS.2.2.2, hNe]
      refine gx_iload_n X d_Gr_placeStates_94 rfl rfl ?_
      refine gx_aload_n X d_Gr_placeStates_95 rfl rfl ?_
      refine gx_getr X d_Gr_placeStates_96 (gci in_Gr) (HX _ rfl).1 (HX _ rfl).2 rfl 0 (by decide) (gcw X lk_Gr_22) (fun _ h => h) rfl ?_
      refine gx_geti X d_Gr_placeStates_99 (gci in_Sp) (HX _ rfl).1 (HX _ rfl).2 rfl 2 (by decide) (gcw X lk_Gr_26) (fun _ h => h) rfl ?_
      refine gx_top e12 ?_
      refine gx_icmp_ge X d_Gr_placeStates_102 (tgt := 140) (by decide) (fun h102 => ?_) (fun h102 => ?_)
      · refine gx_vret X hr hA d_Gr_placeStates_140 (K _ _ _ ⟨rfl, rfl, h1, hG.of (by rw [h1 14 (by decide) (by decide) (by decide)]) (h1 15 (by decide) (by decide) (by decide)), by rw [h1 14 (by decide) (by decide) (by decide)]; exact hgc, h2, fun g hg => ?_, fun s hs => h5 s (by omega)⟩)
        rw [h3 g hg, show t = N by omega]
        congr 1
        show sm _ g + gcn N sg g N - gcn N sg g N = _
        omega
      · exact absurd ((nI_leI (by omega) (by omega)).mpr (by omega)) h102
    | succ d ih =>
      intro t G hd h1 h2 h3 h5
      have e12 : G 1 2 = nI N := by rw [h1 1 (by decide) (by decide) (by decide), hS.2.2.2, hNe]
      have htN : t < N := by omega
      have hrk := rk_lt hsg2 htN
      have hps := gps_lt hsg2 htN
      have hin := gps_in (np := np) (sg := sg) htN
      have hgs := gcn_s N sg t
      have hmono : gcn N sg (rk N sg t) (t + 1) ≤ gcn N sg (rk N sg t) N := cnt_mono _ htN
      have hsm : sm (fun g => gcn N sg g N) (rk N sg t + 1) = sm (fun g => gcn N sg g N) (rk N sg t) + gcn N sg (rk N sg t) N := rfl
      have hpe : sm (fun g => gcn N sg g N) (rk N sg t + 1) - gcn N sg (rk N sg t) t - 1 = gps N sg t := by unfold gps; omega
      refine gx_iload_n X d_Gr_placeStates_94 rfl rfl ?_
      refine gx_aload_n X d_Gr_placeStates_95 rfl rfl ?_
      refine gx_getr X d_Gr_placeStates_96 (gci in_Gr) (HX _ rfl).1 (HX _ rfl).2 rfl 0 (by decide) (gcw X lk_Gr_22) (fun _ h => h) rfl ?_
      refine gx_geti X d_Gr_placeStates_99 (gci in_Sp) (HX _ rfl).1 (HX _ rfl).2 rfl 2 (by decide) (gcw X lk_Gr_26) (fun _ h => h) rfl ?_
      refine gx_top e12 ?_
      refine gx_icmp_ge X d_Gr_placeStates_102 (tgt := 140) (by decide) (fun h102 => ?_) (fun h102 => ?_)
      · exact absurd ((nI_leI (by omega) (by omega)).mp h102) (by omega)
      · refine gx_aload_n X d_Gr_placeStates_105 rfl rfl ?_
        refine gx_getr X d_Gr_placeStates_106 (gci in_Gr) (HX _ rfl).1 (HX _ rfl).2 rfl 4 (by decide) (gcw X lk_Gr_34) (fun _ h => h) rfl ?_
        refine gx_iload_n X d_Gr_placeStates_109 rfl rfl ?_
        refine gx_iald X d_Gr_placeStates_110 (HX _ rfl).1 (HX _ rfl).2 rfl (by omega) (by omega) ?_
        refine gx_top (h2 t htN) ?_
        refine gx_istore_n X d_Gr_placeStates_111 rfl (by decide) ?_
        refine gx_aload_n X d_Gr_placeStates_112 rfl rfl ?_
        refine gx_getr X d_Gr_placeStates_113 (gci in_Gr) (HX _ rfl).1 (HX _ rfl).2 rfl 6 (by decide) (gcw X lk_Gr_40) (fun _ h => h) rfl ?_
        refine gx_iload_n X d_Gr_placeStates_116 rfl rfl ?_
        first | refine gx_dup2_11 X d_Gr_placeStates_117 rfl rfl ?_ | refine gx_dup2_2 X d_Gr_placeStates_117 rfl ?_
        refine gx_iald X d_Gr_placeStates_118 (HX _ rfl).1 (HX _ rfl).2 rfl (by omega) (by omega) ?_
        refine gx_top (h3 _ (by omega)) ?_
        refine gx_iconst X d_Gr_placeStates_119 (v := nI 1) (by decide) ?_
        refine gx_isub X d_Gr_placeStates_120 ?_
        refine gx_top (y := nI (gps N sg t)) (by rw [pk_sub (by omega), hpe]) ?_
        refine gx_iast X d_Gr_placeStates_121 (HX _ rfl).1 (HX _ rfl).2 rfl (by omega) (by omega) ?_
        refine gx_aload_n X d_Gr_placeStates_122 rfl rfl ?_
        refine gx_getr X d_Gr_placeStates_123 (gci in_Gr) (HX _ rfl).1 (HX _ rfl).2 rfl 5 (by decide) (gcw X lk_Gr_37) (fun _ h => h) rfl ?_
        refine gx_aload_n X d_Gr_placeStates_126 rfl rfl ?_
        refine gx_getr X d_Gr_placeStates_127 (gci in_Gr) (HX _ rfl).1 (HX _ rfl).2 rfl 6 (by decide) (gcw X lk_Gr_40) (fun _ h => h) rfl ?_
        refine gx_iload_n X d_Gr_placeStates_130 rfl rfl ?_
        refine gx_iald X d_Gr_placeStates_131 (HX _ rfl).1 (HX _ rfl).2 rfl (by omega) (by omega) ?_
        refine gx_top gxu_at ?_
        refine gx_iload_n X d_Gr_placeStates_132 rfl rfl ?_
        refine gx_iast X d_Gr_placeStates_133 (HX _ rfl).1 (HX _ rfl).2 rfl (by omega) (by omega) ?_
        refine gx_iinc X d_Gr_placeStates_134 rfl (pu_inc _) ?_
        refine gx_goto X d_Gr_placeStates_137 (tgt := 94) (by decide) ?_
        refine gx_el (ih (t + 1) _ (by omega) (fun a a1 a2 a3 => by rw [gxu_cell a2, gxu_cell a3]; exact h1 a a1 a2 a3) (fun s hs => by rw [gxu_cell (by decide), gxu_cell (by decide)]; exact h2 s hs) (fun g hg => ?_) (fun s hs => ?_)) ⟨rfl, rfl, trivial⟩
        · rw [gxu_cell (by decide)]
          by_cases e : g = rk N sg t
          · rw [e, gxu_at]; rfl
          · rw [gxu_ne (fun z => e z.2), h3 g hg, gcn_ne N sg (Ne.symm e)]
        · by_cases e : s = t
          · rw [e, gxu_at]
          · have hne : gps N sg s ≠ gps N sg t := gps_inj (np := np) (by omega) htN (by omega)
            rw [gxu_ne (fun z => hne z.2), gxu_cell (by decide), h5 s (by omega)]
  -- the second loop: the groups' ends
  have loop2 : ∀ (d i : Nat) (G : Nat → Nat → Int32), i + d = cnt (prs N sg) (2 ^ np) + 1 → 1 ≤ i → (∀ a, a ≠ 16 → a ≠ 17 → a ≠ 18 → G a = F a) → (∀ s, s < N → G 16 s = nI (rk N sg s)) → (∀ g, g ≤ N → G 18 g = nI (if g < i then sm (fun g => gcn N sg g N) (g + 1) else gcn N sg g N)) → GX p l e rm_Gr_placeStates s m args below meth c (MQ below (gxQ D vcl ca ks lay ad s.heap.size post) args s 0 0 (gxA ks ad s.heap.size)) 3 A D vcl ca ks lay ad 0 0 61 [(1, xI (nI i)), (0, xR 14)] [] G L5 := by
    intro d
    induction d with
    | zero =>
      intro i G hd hi h1 h2 h3
      have e14 : G 14 3 = nI (cnt (prs N sg) (2 ^ np)) := by rw [h1 14 (by decide) (by decide) (by decide)]; exact hgc
      refine gx_iload_n X d_Gr_placeStates_61 rfl rfl ?_
      refine gx_aload_n X d_Gr_placeStates_62 rfl rfl ?_
      refine gx_geti X d_Gr_placeStates_63 (gci in_Gr) (HX _ rfl).1 (HX _ rfl).2 rfl 3 (by decide) (gcw X lk_Gr_15) (fun _ h => h) rfl ?_
      refine gx_top e14 ?_
      refine gx_icmp_gt X d_Gr_placeStates_66 (tgt := 92) (by decide) (fun h66 => ?_) (fun h66 => ?_)
      · refine gx_iconst X d_Gr_placeStates_92 (v := nI 0) (by decide) ?_
        refine gx_istore_n X d_Gr_placeStates_93 rfl (by decide) ?_
        refine gx_el (loop3 N 0 G (by omega) h1 h2 (fun g hg => ?_) (fun s hs => absurd hs (by omega))) ⟨rfl, rfl, trivial⟩
        rw [h3 g (by omega), if_pos (by omega)]
        rfl
      · exact absurd ((nI_ltI (by omega) (by omega)).mpr (by omega)) h66
    | succ d ih =>
      intro i G hd hi h1 h2 h3
      have e14 : G 14 3 = nI (cnt (prs N sg) (2 ^ np)) := by rw [h1 14 (by decide) (by decide) (by decide)]; exact hgc
      refine gx_iload_n X d_Gr_placeStates_61 rfl rfl ?_
      refine gx_aload_n X d_Gr_placeStates_62 rfl rfl ?_
      refine gx_geti X d_Gr_placeStates_63 (gci in_Gr) (HX _ rfl).1 (HX _ rfl).2 rfl 3 (by decide) (gcw X lk_Gr_15) (fun _ h => h) rfl ?_
      refine gx_top e14 ?_
      refine gx_icmp_gt X d_Gr_placeStates_66 (tgt := 92) (by decide) (fun h66 => ?_) (fun h66 => ?_)
      · exact absurd ((nI_ltI (by omega) (by omega)).mp h66) (by omega)
      · have a1 := h3 i (by omega)
        rw [if_neg (by omega)] at a1
        have a2 := h3 (i - 1) (by omega)
        rw [if_pos (by omega), show i - 1 + 1 = i by omega] at a2
        refine gx_aload_n X d_Gr_placeStates_69 rfl rfl ?_
        refine gx_getr X d_Gr_placeStates_70 (gci in_Gr) (HX _ rfl).1 (HX _ rfl).2 rfl 6 (by decide) (gcw X lk_Gr_40) (fun _ h => h) rfl ?_
        refine gx_iload_n X d_Gr_placeStates_73 rfl rfl ?_
        first | refine gx_dup2_11 X d_Gr_placeStates_74 rfl rfl ?_ | refine gx_dup2_2 X d_Gr_placeStates_74 rfl ?_
        refine gx_iald X d_Gr_placeStates_75 (HX _ rfl).1 (HX _ rfl).2 rfl (by omega) (by omega) ?_
        refine gx_top a1 ?_
        refine gx_aload_n X d_Gr_placeStates_76 rfl rfl ?_
        refine gx_getr X d_Gr_placeStates_77 (gci in_Gr) (HX _ rfl).1 (HX _ rfl).2 rfl 6 (by decide) (gcw X lk_Gr_40) (fun _ h => h) rfl ?_
        refine gx_iload_n X d_Gr_placeStates_80 rfl rfl ?_
        refine gx_iconst X d_Gr_placeStates_81 (v := nI 1) (by decide) ?_
        refine gx_isub X d_Gr_placeStates_82 ?_
        refine gx_top (y := nI (i - 1)) (pk_sub hi) ?_
        refine gx_iald X d_Gr_placeStates_83 (HX _ rfl).1 (HX _ rfl).2 rfl (by omega) (by omega) ?_
        refine gx_top a2 ?_
        refine gx_iadd X d_Gr_placeStates_84 ?_
        refine gx_top (nI_add _ _) ?_
        refine gx_iast X d_Gr_placeStates_85 (HX _ rfl).1 (HX _ rfl).2 rfl (by omega) (by omega) ?_
        refine gx_iinc X d_Gr_placeStates_86 rfl (pu_inc _) ?_
        refine gx_goto X d_Gr_placeStates_89 (tgt := 61) (by decide) ?_
        refine gx_el (ih (i + 1) _ (by omega) (by omega) (fun a b1 b2 b3 => by rw [gxu_cell b3]; exact h1 a b1 b2 b3) (fun s hs => by rw [gxu_cell (by decide)]; exact h2 s hs) (fun g hg => ?_)) ⟨rfl, rfl, trivial⟩
        by_cases e : g = i
        · rw [e, gxu_at, if_pos (by omega)]
          congr 1
          show gcn N sg i N + sm _ i = sm _ i + gcn N sg i N
          omega
        · rw [gxu_ne (fun z => e z.2), h3 g hg]
          by_cases e2 : g < i
          · rw [if_pos e2, if_pos (by omega)]
          · rw [if_neg e2, if_neg (by omega)]
  -- the first loop: the states' groups, and how many each has
  have loop1 : ∀ (d i : Nat) (G : Nat → Nat → Int32), i + d = N → (∀ a, a ≠ 16 → a ≠ 17 → a ≠ 18 → G a = F a) → (∀ s, s < i → G 16 s = nI (rk N sg s)) → (∀ g, g ≤ N → G 18 g = nI (gcn N sg g i)) → GX p l e rm_Gr_placeStates s m args below meth c (MQ below (gxQ D vcl ca ks lay ad s.heap.size post) args s 0 0 (gxA ks ad s.heap.size)) 3 A D vcl ca ks lay ad 0 0 10 [(1, xI (nI i)), (0, xR 14)] [] G L5 := by
    intro d
    induction d with
    | zero =>
      intro i G hd h1 h2 h3
      have e12 : G 1 2 = nI N := by rw [h1 1 (by decide) (by decide) (by decide), hS.2.2.2, hNe]
      refine gx_iload_n X d_Gr_placeStates_10 rfl rfl ?_
      refine gx_aload_n X d_Gr_placeStates_11 rfl rfl ?_
      refine gx_getr X d_Gr_placeStates_12 (gci in_Gr) (HX _ rfl).1 (HX _ rfl).2 rfl 0 (by decide) (gcw X lk_Gr_22) (fun _ h => h) rfl ?_
      refine gx_geti X d_Gr_placeStates_15 (gci in_Sp) (HX _ rfl).1 (HX _ rfl).2 rfl 2 (by decide) (gcw X lk_Gr_26) (fun _ h => h) rfl ?_
      refine gx_top e12 ?_
      refine gx_icmp_ge X d_Gr_placeStates_18 (tgt := 59) (by decide) (fun h18 => ?_) (fun h18 => ?_)
      · refine gx_iconst X d_Gr_placeStates_59 (v := nI 1) (by decide) ?_
        refine gx_istore_n X d_Gr_placeStates_60 rfl (by decide) ?_
        refine gx_el (loop2 (cnt (prs N sg) (2 ^ np)) 1 G (by omega) (by omega) h1 (fun s hs => h2 s (by omega)) (fun g hg => ?_)) ⟨rfl, rfl, trivial⟩
        rw [h3 g hg, show i = N by omega]
        by_cases e : g < 1
        · rw [if_pos e, show g = 0 by omega]
          congr 1
          show _ = 0 + gcn N sg 0 N
          omega
        · rw [if_neg e]
      · exact absurd ((nI_leI (by omega) (by omega)).mpr (by omega)) h18
    | succ d ih =>
      intro i G hd h1 h2 h3
      have e12 : G 1 2 = nI N := by rw [h1 1 (by decide) (by decide) (by decide), hS.2.2.2, hNe]
      obtain ⟨q1, q2⟩ := hsg i (by omega)
      have hrk := rk_lt hsg2 (show i < N by omega)
      have e19 : G 19 (sg i) = nI (rk N sg i) := by
        rw [h1 19 (by decide) (by decide) (by decide), h19 _ q2, prs_iff.mpr ⟨i, by omega, rfl⟩]
        rfl
      refine gx_iload_n X d_Gr_placeStates_10 rfl rfl ?_
      refine gx_aload_n X d_Gr_placeStates_11 rfl rfl ?_
      refine gx_getr X d_Gr_placeStates_12 (gci in_Gr) (HX _ rfl).1 (HX _ rfl).2 rfl 0 (by decide) (gcw X lk_Gr_22) (fun _ h => h) rfl ?_
      refine gx_geti X d_Gr_placeStates_15 (gci in_Sp) (HX _ rfl).1 (HX _ rfl).2 rfl 2 (by decide) (gcw X lk_Gr_26) (fun _ h => h) rfl ?_
      refine gx_top e12 ?_
      refine gx_icmp_ge X d_Gr_placeStates_18 (tgt := 59) (by decide) (fun h18 => ?_) (fun h18 => ?_)
      · exact absurd ((nI_leI (by omega) (by omega)).mp h18) (by omega)
      · refine gx_aload_n X d_Gr_placeStates_21 rfl rfl ?_
        refine gx_getr X d_Gr_placeStates_22 (gci in_Gr) (HX _ rfl).1 (HX _ rfl).2 rfl 4 (by decide) (gcw X lk_Gr_34) (fun _ h => h) rfl ?_
        refine gx_iload_n X d_Gr_placeStates_25 rfl rfl ?_
        refine gx_aload_n X d_Gr_placeStates_26 rfl rfl ?_
        refine gx_getr X d_Gr_placeStates_27 (gci in_Gr) (HX _ rfl).1 (HX _ rfl).2 rfl 7 (by decide) (gcw X lk_Gr_18) (fun _ h => h) rfl ?_
        refine gx_aload_n X d_Gr_placeStates_30 rfl rfl ?_
        refine gx_getr X d_Gr_placeStates_31 (gci in_Gr) (HX _ rfl).1 (HX _ rfl).2 rfl 2 (by decide) (gcw X lk_Gr_31) (fun _ h => h) rfl ?_
        refine gx_iload_n X d_Gr_placeStates_34 rfl rfl ?_
        refine gx_iald X d_Gr_placeStates_35 (HX _ rfl).1 (HX _ rfl).2 rfl (by omega) (by omega) ?_
        refine gx_top (y := nI (sg i)) (by rw [h1 15 (by decide) (by decide) (by decide)]; exact q1) ?_
        refine gx_iald X d_Gr_placeStates_36 (HX _ rfl).1 (HX _ rfl).2 rfl (by omega) (by omega) ?_
        refine gx_top e19 ?_
        refine gx_iast X d_Gr_placeStates_37 (HX _ rfl).1 (HX _ rfl).2 rfl (by omega) (by omega) ?_
        refine gx_aload_n X d_Gr_placeStates_38 rfl rfl ?_
        refine gx_getr X d_Gr_placeStates_39 (gci in_Gr) (HX _ rfl).1 (HX _ rfl).2 rfl 6 (by decide) (gcw X lk_Gr_40) (fun _ h => h) rfl ?_
        refine gx_aload_n X d_Gr_placeStates_42 rfl rfl ?_
        refine gx_getr X d_Gr_placeStates_43 (gci in_Gr) (HX _ rfl).1 (HX _ rfl).2 rfl 4 (by decide) (gcw X lk_Gr_34) (fun _ h => h) rfl ?_
        refine gx_iload_n X d_Gr_placeStates_46 rfl rfl ?_
        refine gx_iald X d_Gr_placeStates_47 (HX _ rfl).1 (HX _ rfl).2 rfl (by omega) (by omega) ?_
        refine gx_top gxu_at ?_
        first | refine gx_dup2_11 X d_Gr_placeStates_48 rfl rfl ?_ | refine gx_dup2_2 X d_Gr_placeStates_48 rfl ?_
        refine gx_iald X d_Gr_placeStates_49 (HX _ rfl).1 (HX _ rfl).2 rfl (by omega) (by omega) ?_
        refine gx_top (y := nI (gcn N sg (rk N sg i) i)) (by rw [gxu_cell (by decide)]; exact h3 _ (by omega)) ?_
        refine gx_iconst X d_Gr_placeStates_50 (v := nI 1) (by decide) ?_
        refine gx_iadd X d_Gr_placeStates_51 ?_
        refine gx_top (nI_add _ 1) ?_
        refine gx_iast X d_Gr_placeStates_52 (HX _ rfl).1 (HX _ rfl).2 rfl (by omega) (by omega) ?_
        refine gx_iinc X d_Gr_placeStates_53 rfl (pu_inc _) ?_
        refine gx_goto X d_Gr_placeStates_56 (tgt := 10) (by decide) ?_
        refine gx_el (ih (i + 1) _ (by omega) (fun a b1 b2 b3 => by rw [gxu_cell b3, gxu_cell b1]; exact h1 a b1 b2 b3) (fun s hs => ?_) (fun g hg => ?_)) ⟨rfl, rfl, trivial⟩
        · rw [gxu_cell (by decide)]
          by_cases e : s = i
          · rw [e, gxu_at]
          · rw [gxu_ne (fun z => e z.2), h2 s (by omega)]
        · by_cases e : g = rk N sg i
          · rw [e, gxu_at, gcn_s]
          · rw [gxu_ne (fun z => e z.2), gxu_cell (by decide), h3 g hg, gcn_ne N sg (Ne.symm e)]
  refine gx_iconst X d_Gr_placeStates_8 (v := nI 0) (by decide) ?_
  refine gx_istore_n X d_Gr_placeStates_9 rfl (by decide) ?_
  refine gx_el (loop1 N 0 _ (by omega) (fun a b1 b2 b3 => flF_cell b3) (fun s hs => absurd hs (by omega)) (fun g hg => ?_)) ⟨rfl, rfl, trivial⟩
  rw [flF_in (by omega) (by omega)]
  rfl
end
