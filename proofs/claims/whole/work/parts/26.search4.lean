section
variable {l : Launch} {D : va_G} {ca : Nat → ClassId} {ks : List Nat} {lay : Nat → gxE} {ad : Nat → Nat} {F : Nat → Nat → Int32} {L : Nat → Nat → Int64} {w np : Nat} {sg : Nat → Nat} {ne : Nat} {ef et ek ev : Nat → Nat} {tg : Nat → Nat → Option Nat} {ns : List nd}
theorem sprE_ext {Rf : Nat → Nat → Nat → Bool} {M : Nat} {ef et : Nat → Nat} {k : Nat} {x : nd} : ∀ (r e : Nat) (ns : List nd), (sprE Rf M ef et k x r e ns).2 ≤ 2
  | 0, e, ns => by simp [sprE]
  | r + 1, e, ns => by
    unfold sprE
    split
    · split
      · exact sprE_ext r (e + 1) _
      · exact (sprP_ext _ _ _).2.2
    · exact sprE_ext r (e + 1) ns
/-- what stands behind a search -/
def RnQ (F F' : Nat → Nat → Int32) (N np : Nat) (sg : Nat → Nat) (ne : Nat) (z : List nd × Nat) : Prop := (∀ a, ¬ (20 ≤ a ∧ a ≤ 29) → F' a = F a) ∧ SeOK F' N sg z.1 ∧ NsOK N np sg ne z.1 ∧ z.2 ≤ 2 ∧ (z.2 = 0 → F' 20 12 = nI 0 ∧ F' 20 13 = -1) ∧ (z.2 = 1 → F' 20 12 = nI 1 ∧ F' 20 13 = -1) ∧ (z.2 = 2 → F' 20 12 = nI 0 ∧ PtOK F' z.1)
set_option maxHeartbeats 8000000 in
theorem c_Se_run (HX : gH ks lay (2 ^ (3 * w)) sX) (hS : SpOK F w) (hG : GrOK F (2 ^ (3 * w)) np sg) (hP : PrOK F w ne ef et ek ev tg) :
    Con l y_Se_run (Cond.code y_Se_run b_Se_run 4 none :: WT) rm_Se_run D vcl ca ks lay ad [xR 20] F L (fun r F' L' => r = none ∧ L' = L ∧ RnQ F F' (2 ^ (3 * w)) np sg ne (srN (rchB (2 ^ (3 * w)) w ek ev tg sg) (2 ^ np) ne ef et 200 0 [(0, sg 0, 0, 0, 0)])) := by
  have hw : w < 4 := by have := hS.1; omega
  have hN := pu_N w hw
  have hN0 : 0 < 2 ^ (3 * w) := Nat.two_pow_pos _
  have h20 := hP.1
  have hsg2 : ∀ s, s < 2 ^ (3 * w) → sg s < 2 ^ np := fun s hs => (hG.1.2.2 s hs).2
  generalize hzz : srN (rchB (2 ^ (3 * w)) w ek ev tg sg) (2 ^ np) ne ef et 200 0 [(0, sg 0, 0, 0, 0)] = zz
  refine Con.ofK (fun post K => ?_)
  refine Con.of (ls := [(0, xR 20)]) (by decide) rfl rfl (Nat.le_of_ble_eq_true rfl) ?_
  intro p e s m args below meth c A X hr hA
  refine gx_aload_n X d_Se_run_0 rfl rfl ?_
  refine gx_callV X d_Se_run_1 mf_Se_forget lk_Se_68 (c_Se_forget HX) (HX _ rfl).1 (HX _ rfl).2 rfl rfl rfl (Nat.le_of_ble_eq_true rfl) ⟨by decide, by decide⟩ ⟨rfl, rfl⟩ ⟨Nat.zero_le _, Nat.zero_le _⟩ (fun r1 F1 L1 hp1 => ?_)
  obtain ⟨rfl, rfl, rfl⟩ := hp1
  refine gx_aload_n X d_Se_run_4 rfl rfl ?_
  refine gx_getr X d_Se_run_5 (gci in_Se) (HX _ rfl).1 (HX _ rfl).2 rfl 10 (by decide) (gcw X lk_Se_61) (fun _ h => h) rfl ?_
  refine gx_iconst X d_Se_run_8 (v := nI 0) (by decide) ?_
  refine gx_callS X d_Se_run_9 mf_Ar_fill_aBB lk_Se_71 (c_fill_B (HX 27 rfl).1 (n := 12 * 2 ^ (3 * w)) (HX 27 rfl).2 (by omega)) rfl rfl (Nat.le_of_ble_eq_true rfl) ⟨by decide, by decide⟩ ⟨rfl, rfl⟩ ⟨Nat.zero_le _, Nat.zero_le _⟩ (fun r9 F9 L9 hp9 => ?_)
  obtain ⟨rfl, rfl, rfl⟩ := hp9
  generalize hF0 : flF (gxu (gxu (gxu F 20 3 (nI 0)) 20 12 (nI 0)) 20 13 (-1)) 27 0 (12 * 2 ^ (3 * w)) (nI 0) = F0'
  have f0 : ∀ a, ¬ (20 ≤ a ∧ a ≤ 29) → F0' a = F a := fun a ha => by
    rw [← hF0, flF_cell (by omega), gxu_cell (by omega), gxu_cell (by omega), gxu_cell (by omega)]
  have f203 : F0' 20 3 = nI 0 := by rw [← hF0, flF_cell (by decide)]; simp [gxu]
  have f2012 : F0' 20 12 = nI 0 := by rw [← hF0, flF_cell (by decide)]; simp [gxu]
  have f2013 : F0' 20 13 = -1 := by rw [← hF0, flF_cell (by decide)]; simp [gxu]
  have f27 : ∀ i, i < 12 * 2 ^ (3 * w) → F0' 27 i = nI 0 := fun i hi => by rw [← hF0, flF_in (by omega) hi]
  have hG0 : GrOK F0' (2 ^ (3 * w)) np sg := hG.of (fun a a1 a2 => f0 a (by omega))
  refine gx_aload_n X d_Se_run_12 rfl rfl ?_
  refine gx_iconst X d_Se_run_13 (v := nI 0) (by decide) ?_
  refine gx_aload_n X d_Se_run_14 rfl rfl ?_
  refine gx_getr X d_Se_run_15 (gci in_Se) (HX _ rfl).1 (HX _ rfl).2 rfl 2 (by decide) (gcw X lk_Se_52) (fun _ h => h) rfl ?_
  refine gx_getr X d_Se_run_18 (gci in_Gr) (HX _ rfl).1 (HX _ rfl).2 rfl 4 (by decide) (gcw X lk_Se_77) (fun _ h => h) rfl ?_
  refine gx_iconst X d_Se_run_21 (v := nI 0) (by decide) ?_
  refine gx_iald X d_Se_run_22 (HX _ rfl).1 (HX _ rfl).2 rfl (by omega) (by omega) ?_
  refine gx_top (hG0.2.2.1 0 hN0) ?_
  refine gx_iconst X d_Se_run_23 (v := (-1)) (by decide) ?_
  refine gx_iconst X d_Se_run_24 (v := (-1)) (by decide) ?_
  refine gx_callV X d_Se_run_25 mf_Se_addNode lk_Se_82 (c_Se_addNode HX (hS.of (f0 1 (by omega))) hG0 (n := 0) (lc := 0) (q := 0) (dv := 0) (by decide) f203 (by decide) hN0 (fr := -1) (ed := -1) (Or.inl ⟨by decide, rfl⟩)) (HX _ rfl).1 (HX _ rfl).2 rfl rfl rfl (Nat.le_of_ble_eq_true rfl) ⟨by decide, by decide⟩ ⟨rfl, rfl⟩ ⟨Nat.zero_le _, Nat.zero_le _⟩ (fun r25 F25 L25 hp25 => ?_)
  obtain ⟨rfl, rfl, rfl⟩ := hp25
  have hSe0 : SeOK F0' (2 ^ (3 * w)) sg [] := ⟨f203, fun k hk => absurd hk (by simp), fun lc t hl ht => by
    have hr : rk (2 ^ (3 * w)) sg t < 2 ^ (3 * w) := Nat.lt_of_lt_of_le (rk_lt hsg2 ht) (cnt_prs_le sg _ _)
    rw [f27 _ (kn_lt hl hr)]
    rfl⟩
  have hSe1 := hSe0.add hsg2 (lc := 0) (q := 0) (k := 0) (e := 0) (dv := 0) (by decide) hN0
  have hNs1 : NsOK (2 ^ (3 * w)) np sg ne [(0, sg 0, 0, 0, 0)] := ⟨by simp, by simp, fun k hk => by
    have : k = 0 := by simpa using hk
    subst this
    exact ⟨Nat.zero_lt_succ _, prs_iff.mpr ⟨0, hN0, rfl⟩, fun _ => rfl, fun z => absurd z (by omega)⟩⟩
  generalize hF1 : adN F0' (2 ^ (3 * w)) 0 0 (rk (2 ^ (3 * w)) sg 0) (sg 0) 0 (-1) (-1) = F1'
  have hSe2 : SeOK F1' (2 ^ (3 * w)) sg [(0, sg 0, 0, 0, 0)] := by rw [← hF1]; exact hSe1
  have f1 : ∀ a, ¬ (20 ≤ a ∧ a ≤ 29) → F1' a = F a := fun a ha => by
    rw [← hF1]
    unfold adN
    rw [gxu_cell (by omega), gxu_cell (by omega), gxu_cell (by omega), gxu_cell (by omega), gxu_cell (by omega), gxu_cell (by omega), gxu_cell (by omega), gxu_cell (by omega)]
    exact f0 a ha
  have f1a : F1' 20 12 = nI 0 := by
    rw [← hF1]
    unfold adN
    simp only [gxu, Nat.reduceEqDiff, false_and, and_false, if_false]
    exact f2012
  have f1b : F1' 20 13 = -1 := by
    rw [← hF1]
    unfold adN
    simp only [gxu, Nat.reduceEqDiff, false_and, and_false, if_false]
    exact f2013
  -- the end, with 'ended' set
  have fin99 : ∀ (kk : Nat) (G : Nat → Nat → Int32), kk < 200 → RnQ F G (2 ^ (3 * w)) np sg ne zz → GX p l e rm_Se_run s m args below meth c (MQ below (gxQ D vcl ca ks lay ad s.heap.size post) args s 0 0 (gxA ks ad s.heap.size)) 4 A D vcl ca ks lay ad 0 0 99 [(1, xI (nI 1)), (2, xI (nI kk)), (0, xR 20)] [] G L25 := by
    intro kk G hk hQ
    refine gx_iinc X d_Se_run_99 rfl (pu_inc _) ?_
    refine gx_goto X d_Se_run_102 (tgt := 32) (by decide) ?_
    refine gx_iload_n X d_Se_run_32 rfl rfl ?_
    refine gx_aload_n X d_Se_run_33 rfl rfl ?_
    refine gx_geti X d_Se_run_34 (gci in_Se) (HX _ rfl).1 (HX _ rfl).2 rfl 3 (by decide) (gcw X lk_Se_9) (fun _ h => h) rfl ?_
    refine gx_icmp_ge X d_Se_run_37 (tgt := 105) (by decide) (fun h37 => ?_) (fun h37 => ?_)
    · refine gx_vret X hr hA d_Se_run_105 (K _ _ _ ⟨rfl, rfl, hQ⟩)
    · refine gx_iload_n X d_Se_run_40 rfl rfl ?_
      refine gx_sipush X d_Se_run_41 (v := nI 200) (by decide) ?_
      refine gx_icmp_ge X d_Se_run_44 (tgt := 105) (by decide) (fun h44 => ?_) (fun h44 => ?_)
      · refine gx_vret X hr hA d_Se_run_105 (K _ _ _ ⟨rfl, rfl, hQ⟩)
      · refine gx_iload_n X d_Se_run_47 rfl rfl ?_
        refine gx_if_ne X d_Se_run_48 (tgt := 105) (by decide) (fun h48 => ?_) (fun h48 => ?_)
        · refine gx_vret X hr hA d_Se_run_105 (K _ _ _ ⟨rfl, rfl, hQ⟩)
        · exact absurd h48 (by decide)
  have outer : ∀ (r0 kk : Nat) (n0 : List nd) (G : Nat → Nat → Int32), kk + r0 = 200 → srN (rchB (2 ^ (3 * w)) w ek ev tg sg) (2 ^ np) ne ef et r0 kk n0 = zz → NsOK (2 ^ (3 * w)) np sg ne n0 → SeOK G (2 ^ (3 * w)) sg n0 → (∀ a, ¬ (20 ≤ a ∧ a ≤ 29) → G a = F a) → G 20 12 = nI 0 → G 20 13 = -1 → GX p l e rm_Se_run s m args below meth c (MQ below (gxQ D vcl ca ks lay ad s.heap.size post) args s 0 0 (gxA ks ad s.heap.size)) 4 A D vcl ca ks lay ad 0 0 32 [(1, xI (nI 0)), (2, xI (nI kk)), (0, xR 20)] [] G L25 := by
    intro r0
    induction r0 with
    | zero =>
      intro kk n0 G hk hres hN1 hS1 hfr h12 h13
      have hres : (n0, 0) = zz := hres
      have hl := hN1.2.1
      refine gx_iload_n X d_Se_run_32 rfl rfl ?_
      refine gx_aload_n X d_Se_run_33 rfl rfl ?_
      refine gx_geti X d_Se_run_34 (gci in_Se) (HX _ rfl).1 (HX _ rfl).2 rfl 3 (by decide) (gcw X lk_Se_9) (fun _ h => h) rfl ?_
      refine gx_top hS1.1 ?_
      refine gx_icmp_ge X d_Se_run_37 (tgt := 105) (by decide) (fun h37 => ?_) (fun h37 => ?_)
      · refine gx_vret X hr hA d_Se_run_105 (K _ _ _ ⟨rfl, rfl, hfr, by rw [← hres]; exact hS1, by rw [← hres]; exact hN1, by rw [← hres]; exact Nat.zero_le _, fun _ => ⟨h12, h13⟩, fun z => by rw [← hres] at z; exact absurd z (by simp), fun z => by rw [← hres] at z; exact absurd z (by simp)⟩)
      · exact absurd ((nI_leI (by omega) (by omega)).mpr (by omega)) h37
    | succ r0 ih =>
      intro kk n0 G hk hres hN1 hS1 hfr h12 h13
      have hl := hN1.2.1
      rw [srN] at hres
      refine gx_iload_n X d_Se_run_32 rfl rfl ?_
      refine gx_aload_n X d_Se_run_33 rfl rfl ?_
      refine gx_geti X d_Se_run_34 (gci in_Se) (HX _ rfl).1 (HX _ rfl).2 rfl 3 (by decide) (gcw X lk_Se_9) (fun _ h => h) rfl ?_
      refine gx_top hS1.1 ?_
      refine gx_icmp_ge X d_Se_run_37 (tgt := 105) (by decide) (fun h37 => ?_) (fun h37 => ?_)
      · have hge : n0.length ≤ kk := (nI_leI (by omega) (by omega)).mp h37
        rw [if_neg (by omega)] at hres
        refine gx_vret X hr hA d_Se_run_105 (K _ _ _ ⟨rfl, rfl, hfr, by rw [← hres]; exact hS1, by rw [← hres]; exact hN1, by rw [← hres]; exact Nat.zero_le _, fun _ => ⟨h12, h13⟩, fun z => by rw [← hres] at z; exact absurd z (by simp), fun z => by rw [← hres] at z; exact absurd z (by simp)⟩)
      · have hlt : kk < n0.length := Nat.not_le.mp (fun z => h37 ((nI_leI (by omega) (by omega)).mpr z))
        rw [if_pos hlt] at hres
        refine gx_iload_n X d_Se_run_40 rfl rfl ?_
        refine gx_sipush X d_Se_run_41 (v := nI 200) (by decide) ?_
        refine gx_icmp_ge X d_Se_run_44 (tgt := 105) (by decide) (fun h44 => ?_) (fun h44 => ?_)
        · exact absurd ((nI_leI (by decide) (by omega)).mp h44) (by omega)
        · refine gx_iload_n X d_Se_run_47 rfl rfl ?_
          refine gx_if_ne X d_Se_run_48 (tgt := 105) (by decide) (fun h48 => ?_) (fun h48 => ?_)
          · exact absurd rfl h48
          · refine gx_iconst X d_Se_run_51 (v := nI 0) (by decide) ?_
            refine gx_istore_n X d_Se_run_52 rfl (by decide) ?_
            generalize hx : nAt n0 kk = x at hres
            generalize hz1 : sprE (rchB (2 ^ (3 * w)) w ek ev tg sg) (2 ^ np) ef et kk x ne 0 n0 = z1 at hres
            have inner : ∀ (r1 e0 : Nat) (n1 : List nd) (G : Nat → Nat → Int32), e0 + r1 = ne → sprE (rchB (2 ^ (3 * w)) w ek ev tg sg) (2 ^ np) ef et kk x r1 e0 n1 = z1 → nAt n1 kk = x → kk < n1.length → NsOK (2 ^ (3 * w)) np sg ne n1 → SeOK G (2 ^ (3 * w)) sg n1 → (∀ a, ¬ (20 ≤ a ∧ a ≤ 29) → G a = F a) → G 20 12 = nI 0 → G 20 13 = -1 → GX p l e rm_Se_run s m args below meth c (MQ below (gxQ D vcl ca ks lay ad s.heap.size post) args s 0 0 (gxA ks ad s.heap.size)) 4 A D vcl ca ks lay ad 0 0 53 [(3, xI (nI e0)), (1, xI (nI 0)), (2, xI (nI kk)), (0, xR 20)] [] G L25 := by
              intro r1
              induction r1 with
              | zero =>
                intro e0 n1 G he hr1 hxx hkl hN2 hS2 hfr h12 h13
                have hr1 : (n1, 0) = z1 := hr1
                refine gx_iload_n X d_Se_run_53 rfl rfl ?_
                refine gx_aload_n X d_Se_run_54 rfl rfl ?_
                refine gx_getr X d_Se_run_55 (gci in_Se) (HX _ rfl).1 (HX _ rfl).2 rfl 1 (by decide) (gcw X lk_Se_48) (fun _ h => h) rfl ?_
                refine gx_geti X d_Se_run_58 (gci in_Pr) (HX _ rfl).1 (HX _ rfl).2 rfl 6 (by decide) (gcw X lk_Se_86) (fun _ h => h) rfl ?_
                refine gx_top (y := nI ne) (by rw [hfr 8 (by omega)]; exact hP.2.1) ?_
                refine gx_icmp_ge X d_Se_run_61 (tgt := 99) (by decide) (fun h61 => ?_) (fun h61 => ?_)
                · rw [← hr1, if_pos rfl] at hres
                  refine gx_iinc X d_Se_run_99 rfl (pu_inc _) ?_
                  refine gx_goto X d_Se_run_102 (tgt := 32) (by decide) ?_
                  exact gx_el (ih (kk + 1) n1 G (by omega) hres hN2 hS2 hfr h12 h13) ⟨rfl, rfl, rfl, trivial⟩
                · exact absurd ((nI_leI (by omega) (by omega)).mpr (by omega)) h61
              | succ r1 ih1 =>
                intro e0 n1 G he hr1 hxx hkl hN2 hS2 hfr h12 h13
                have hP2 : PrOK G w ne ef et ek ev tg := hP.of (fun a ha => hfr a (by omega))
                have hl2 := hN2.2.1
                obtain ⟨⟨a1, a2⟩, -, -, -, -⟩ := hP2.2.2 e0 (by omega)
                have b1 := (hS2.2.1 kk hkl).1
                rw [hxx] at b1
                have hx12 := (hN2.2.2 kk hkl).1
                rw [hxx] at hx12
                rw [sprE] at hr1
                refine gx_iload_n X d_Se_run_53 rfl rfl ?_
                refine gx_aload_n X d_Se_run_54 rfl rfl ?_
                refine gx_getr X d_Se_run_55 (gci in_Se) (HX _ rfl).1 (HX _ rfl).2 rfl 1 (by decide) (gcw X lk_Se_48) (fun _ h => h) rfl ?_
                refine gx_geti X d_Se_run_58 (gci in_Pr) (HX _ rfl).1 (HX _ rfl).2 rfl 6 (by decide) (gcw X lk_Se_86) (fun _ h => h) rfl ?_
                refine gx_top (y := nI ne) (by rw [hfr 8 (by omega)]; exact hP.2.1) ?_
                refine gx_icmp_ge X d_Se_run_61 (tgt := 99) (by decide) (fun h61 => ?_) (fun h61 => ?_)
                · exact absurd ((nI_leI (by omega) (by omega)).mp h61) (by omega)
                · refine gx_iload_n X d_Se_run_64 rfl rfl ?_
                  refine gx_if_ne X d_Se_run_65 (tgt := 99) (by decide) (fun h65 => ?_) (fun h65 => ?_)
                  · exact absurd rfl h65
                  · refine gx_aload_n X d_Se_run_68 rfl rfl ?_
                    refine gx_getr X d_Se_run_69 (gci in_Se) (HX _ rfl).1 (HX _ rfl).2 rfl 1 (by decide) (gcw X lk_Se_48) (fun _ h => h) rfl ?_
                    refine gx_getr X d_Se_run_72 (gci in_Pr) (HX _ rfl).1 (HX _ rfl).2 rfl 1 (by decide) (gcw X lk_Se_89) (fun _ h => h) rfl ?_
                    refine gx_iload_n X d_Se_run_75 rfl rfl ?_
                    refine gx_iald X d_Se_run_76 (HX _ rfl).1 (HX _ rfl).2 rfl (by omega) (by omega) ?_
                    refine gx_top a1 ?_
                    refine gx_aload_n X d_Se_run_77 rfl rfl ?_
                    refine gx_getr X d_Se_run_78 (gci in_Se) (HX _ rfl).1 (HX _ rfl).2 rfl 4 (by decide) (gcw X lk_Se_15) (fun _ h => h) rfl ?_
                    refine gx_iload_n X d_Se_run_81 rfl rfl ?_
                    refine gx_iald X d_Se_run_82 (HX _ rfl).1 (HX _ rfl).2 rfl (by omega) (by decide) ?_
                    refine gx_top b1 ?_
                    refine gx_icmp_ne X d_Se_run_83 (tgt := 93) (by decide) (fun h83 => ?_) (fun h83 => ?_)
                    · have hne : ef e0 ≠ x.1 := fun z => h83 (by rw [z])
                      rw [if_neg hne] at hr1
                      refine gx_iinc X d_Se_run_93 rfl (pu_inc _) ?_
                      refine gx_goto X d_Se_run_96 (tgt := 53) (by decide) ?_
                      exact gx_el (ih1 (e0 + 1) n1 G (by omega) hr1 hxx hkl hN2 hS2 hfr h12 h13) ⟨rfl, rfl, rfl, rfl, trivial⟩
                    · have hee : ef e0 = x.1 := (nI_eq (by omega) (by omega)).mp h83
                      rw [if_pos hee] at hr1
                      refine gx_aload_n X d_Se_run_86 rfl rfl ?_
                      refine gx_iload_n X d_Se_run_87 rfl rfl ?_
                      refine gx_iload_n X d_Se_run_88 rfl rfl ?_
                      refine gx_callV X d_Se_run_89 mf_Se_take lk_Se_92 (c_Se_take HX (hS.of (hfr 1 (by omega))) (hG.of (fun a b1 b2 => hfr a (by omega))) hP2 hN2 hS2 (kk := kk) (e0 := e0) hkl (by omega)) (HX _ rfl).1 (HX _ rfl).2 rfl rfl rfl (Nat.le_of_ble_eq_true rfl) ⟨by decide, by decide⟩ ⟨rfl, rfl⟩ ⟨Nat.zero_le _, Nat.zero_le _⟩ (fun r89 F89 L89 hp89 => ?_)
                      obtain ⟨rfl, rfl, hT⟩ := hp89
                      rw [hxx] at hT ⊢
                      have hext := sprP_ext (R := rchB (2 ^ (3 * w)) w ek ev tg sg e0 x.2.1) (to := et e0) (k := kk) (e := e0) (dp := x.2.2.2.2) (2 ^ np) 0 n1
                      generalize sprP (rchB (2 ^ (3 * w)) w ek ev tg sg e0 x.2.1) (et e0) kk e0 x.2.2.2.2 (2 ^ np) 0 n1 = z2 at hT hr1 hext ⊢
                      obtain ⟨t1, t2, t3, t4, t5, t6⟩ := hT
                      have t1' : ∀ a, ¬ (20 ≤ a ∧ a ≤ 29) → F89 a = F a := fun a ha => by rw [t1 a ha, hfr a ha]
                      by_cases h0 : z2.2 = 0
                      · rw [if_pos h0] at hr1
                        rw [decide_eq_true h0]
                        obtain ⟨u1, u2⟩ := t4 h0
                        refine gx_istore_n X d_Se_run_92 rfl (by decide) ?_
                        refine gx_iinc X d_Se_run_93 rfl (pu_inc _) ?_
                        refine gx_goto X d_Se_run_96 (tgt := 53) (by decide) ?_
                        exact gx_el (ih1 (e0 + 1) z2.1 F89 (by omega) hr1 (by rw [hext.2.1 kk hkl]; exact hxx) (by omega) t3 t2 t1' (u1.trans h12) (u2.trans h13)) ⟨rfl, rfl, rfl, rfl, trivial⟩
                      · rw [if_neg h0] at hr1
                        rw [decide_eq_false h0]
                        rw [← hr1, if_neg h0] at hres
                        have hQ : RnQ F F89 (2 ^ (3 * w)) np sg ne zz := by
                          rw [← hres]
                          exact ⟨t1', t2, t3, hext.2.2, fun z => absurd z h0, fun z => ⟨(t5 z).1, (t5 z).2.trans h13⟩, fun z => ⟨(t6 z).1.trans h12, (t6 z).2⟩⟩
                        have hfin := fin99 kk F89 (by omega) hQ
                        refine gx_istore_n X d_Se_run_92 rfl (by decide) ?_
                        refine gx_iinc X d_Se_run_93 rfl (pu_inc _) ?_
                        refine gx_goto X d_Se_run_96 (tgt := 53) (by decide) ?_
                        refine gx_iload_n X d_Se_run_53 rfl rfl ?_
                        refine gx_aload_n X d_Se_run_54 rfl rfl ?_
                        refine gx_getr X d_Se_run_55 (gci in_Se) (HX _ rfl).1 (HX _ rfl).2 rfl 1 (by decide) (gcw X lk_Se_48) (fun _ h => h) rfl ?_
                        refine gx_geti X d_Se_run_58 (gci in_Pr) (HX _ rfl).1 (HX _ rfl).2 rfl 6 (by decide) (gcw X lk_Se_86) (fun _ h => h) rfl ?_
                        refine gx_top (y := nI ne) (by rw [t1' 8 (by omega)]; exact hP.2.1) ?_
                        refine gx_icmp_ge X d_Se_run_61 (tgt := 99) (by decide) (fun h61 => ?_) (fun h61 => ?_)
                        · exact gx_el hfin ⟨rfl, rfl, rfl, trivial⟩
                        · refine gx_iload_n X d_Se_run_64 rfl rfl ?_
                          refine gx_if_ne X d_Se_run_65 (tgt := 99) (by decide) (fun h65 => ?_) (fun h65 => ?_)
                          · exact gx_el hfin ⟨rfl, rfl, rfl, trivial⟩
                          · exact absurd h65 (by decide)
            exact gx_el (inner ne 0 n0 G (by omega) hz1 hx hlt hN1 hS1 hfr h12 h13) ⟨rfl, rfl, rfl, rfl, trivial⟩
  refine gx_iconst X d_Se_run_28 (v := nI 0) (by decide) ?_
  refine gx_istore_n X d_Se_run_29 rfl (by decide) ?_
  refine gx_iconst X d_Se_run_30 (v := nI 0) (by decide) ?_
  refine gx_istore_n X d_Se_run_31 rfl (by decide) ?_
  exact gx_el (outer 200 0 _ F1' (by omega) hzz hNs1 hSe2 f1 f1a f1b) ⟨rfl, rfl, rfl, trivial⟩
end
