section
variable {l : Launch} {D : va_G} {ca : Nat → ClassId} {ks : List Nat} {lay : Nat → gxE} {ad : Nat → Nat} {F : Nat → Nat → Int32} {L : Nat → Nat → Int64} {w np : Nat} {sg : Nat → Nat} {ne : Nat} {ef et ek ev : Nat → Nat} {tg : Nat → Nat → Option Nat} {ns : List nd}
/-- what the class says behind a taken edge -/
def TkQ (F F' : Nat → Nat → Int32) (N np : Nat) (sg : Nat → Nat) (ne : Nat) (z : List nd × Nat) : Prop := (∀ a, ¬ (20 ≤ a ∧ a ≤ 29) → F' a = F a) ∧ SeOK F' N sg z.1 ∧ NsOK N np sg ne z.1 ∧ (z.2 = 0 → F' 20 12 = F 20 12 ∧ F' 20 13 = F 20 13) ∧ (z.2 = 1 → F' 20 12 = nI 1 ∧ F' 20 13 = F 20 13) ∧ (z.2 = 2 → F' 20 12 = F 20 12 ∧ PtOK F' z.1)
set_option maxHeartbeats 8000000 in
theorem c_Se_take (HX : gH ks lay (2 ^ (3 * w)) sX) (hS : SpOK F w) (hG : GrOK F (2 ^ (3 * w)) np sg) (hP : PrOK F w ne ef et ek ev tg) (hNs : NsOK (2 ^ (3 * w)) np sg ne ns) (hSe : SeOK F (2 ^ (3 * w)) sg ns) {kk e0 : Nat} (hk : kk < ns.length) (he : e0 < ne) :
    Con l y_Se_take (Cond.code y_Se_take b_Se_take 5 (some .boolean) :: WT) rm_Se_take D vcl ca ks lay ad [xR 20, xI (nI kk), xI (nI e0)] F L (fun r F' L' => r = some (xI (cond (decide ((sprP (rchB (2 ^ (3 * w)) w ek ev tg sg e0 (nAt ns kk).2.1) (et e0) kk e0 (nAt ns kk).2.2.2.2 (2 ^ np) 0 ns).2 = 0)) (nI 0) (nI 1))) ∧ L' = L ∧ TkQ F F' (2 ^ (3 * w)) np sg ne (sprP (rchB (2 ^ (3 * w)) w ek ev tg sg e0 (nAt ns kk).2.1) (et e0) kk e0 (nAt ns kk).2.2.2.2 (2 ^ np) 0 ns)) := by
  have hw : w < 4 := by have := hS.1; omega
  have hN := pu_N w hw
  have h20 := hP.1
  obtain ⟨-, ⟨et1, et2⟩, -, -, -⟩ := hP.2.2 e0 he
  obtain ⟨⟨g1, g2, g3⟩, g4, g5, g6, g7⟩ := id hG
  have hsg2 : ∀ s, s < 2 ^ (3 * w) → sg s < 2 ^ np := fun s hs => (g3 s hs).2
  have hgN : cnt (prs (2 ^ (3 * w)) sg) (2 ^ np) ≤ 2 ^ (3 * w) := cnt_prs_le sg _ _
  obtain ⟨hl0, hl2, hl3⟩ := id hNs
  obtain ⟨q, hq, hqs⟩ := prs_iff.mp (hl3 kk hk).2.1
  have hdepk := hNs.dep kk hk
  generalize hR : rchB (2 ^ (3 * w)) w ek ev tg sg e0 (nAt ns kk).2.1 = R
  have hR0 : ∀ p, prs (2 ^ (3 * w)) sg p = false → R p = false := by
    intro p hp
    cases hb : R p with
    | false => rfl
    | true =>
      rw [← hR] at hb
      obtain ⟨s, y, u, c1, c2, c3, c4, c5⟩ := rchB_iff.mp hb
      have hu := stp_lt hw hP he c1 c4
      exact absurd c5 (prs_false.mp hp u hu)
  generalize hdk : (nAt ns kk).2.2.2.2 = dk at *
  generalize hz : sprP R (et e0) kk e0 dk (2 ^ np) 0 ns = z
  have hz2 : z.2 ≤ 2 := by rw [← hz]; exact (sprP_ext _ _ _).2.2
  have h25 := (hSe.2.1 kk hk).2.2.2.2.1
  refine Con.ofK (fun post K => ?_)
  refine Con.of (ls := [(0, xR 20), (1, xI (nI kk)), (2, xI (nI e0))]) (by decide) rfl rfl (Nat.le_of_ble_eq_true rfl) ?_
  intro p e s m args below meth c A X hr hA
  refine gx_aload_n X d_Se_take_0 rfl rfl ?_
  refine gx_aload_n X d_Se_take_1 rfl rfl ?_
  refine gx_getr X d_Se_take_2 (gci in_Se) (HX _ rfl).1 (HX _ rfl).2 rfl 8 (by decide) (gcw X lk_Se_28) (fun _ h => h) rfl ?_
  refine gx_iload_n X d_Se_take_5 rfl rfl ?_
  refine gx_iald X d_Se_take_6 (HX _ rfl).1 (HX _ rfl).2 rfl (by omega) (by omega) ?_
  refine gx_top (y := nI (rk (2 ^ (3 * w)) sg q)) (by rw [h25]; unfold rk; rw [hqs]) ?_
  refine gx_iload_n X d_Se_take_7 rfl rfl ?_
  refine gx_callV X d_Se_take_8 mf_Se_markReached lk_Se_96 (c_Se_markReached HX hS hG hP hq he) (HX _ rfl).1 (HX _ rfl).2 rfl rfl rfl (Nat.le_of_ble_eq_true rfl) ⟨by decide, by decide⟩ ⟨rfl, rfl⟩ ⟨Nat.zero_le _, Nat.zero_le _⟩ (fun r8 F8 L8 hp8 => ?_)
  obtain ⟨rfl, rfl, m1, m2⟩ := hp8
  refine gx_aload_n X d_Se_take_11 rfl rfl ?_
  refine gx_getr X d_Se_take_12 (gci in_Se) (HX _ rfl).1 (HX _ rfl).2 rfl 1 (by decide) (gcw X lk_Se_48) (fun _ h => h) rfl ?_
  refine gx_getr X d_Se_take_15 (gci in_Pr) (HX _ rfl).1 (HX _ rfl).2 rfl 2 (by decide) (gcw X lk_Se_100) (fun _ h => h) rfl ?_
  refine gx_iload_n X d_Se_take_18 rfl rfl ?_
  refine gx_iald X d_Se_take_19 (HX _ rfl).1 (HX _ rfl).2 rfl (by omega) (by omega) ?_
  refine gx_top (y := nI (et e0)) (by rw [m1 10 (by decide)]; exact et1) ?_
  refine gx_istore_n X d_Se_take_20 rfl (by decide) ?_
  refine gx_iconst X d_Se_take_21 (v := nI 0) (by decide) ?_
  refine gx_istore X d_Se_take_22 (by decide) ?_
  have loop : ∀ (d g p0 r0 : Nat) (n1 : List nd) (G : Nat → Nat → Int32), g + d = cnt (prs (2 ^ (3 * w)) sg) (2 ^ np) → p0 + r0 = 2 ^ np → cnt (prs (2 ^ (3 * w)) sg) p0 = g → sprP R (et e0) kk e0 dk r0 p0 n1 = z → NsOK (2 ^ (3 * w)) np sg ne n1 → SeOK G (2 ^ (3 * w)) sg n1 → ns.length ≤ n1.length → nAt n1 kk = nAt ns kk → (∀ a, ¬ (20 ≤ a ∧ a ≤ 27) → G a = F8 a) → G 20 12 = F 20 12 → G 20 13 = F 20 13 → GX p l e rm_Se_take s m args below meth c (MQ below (gxQ D vcl ca ks lay ad s.heap.size post) args s 0 0 (gxA ks ad s.heap.size)) 5 A D vcl ca ks lay ad 0 0 24 [(4, xI (nI g)), (3, xI (nI (et e0))), (0, xR 20), (1, xI (nI kk)), (2, xI (nI e0))] [] G L8 := by
    intro d
    induction d with
    | zero =>
      intro g p0 r0 n1 G hd hp hc hres hN1 hS1 hle hkk hfr h12 h13
      have e14 : G 14 3 = nI (cnt (prs (2 ^ (3 * w)) sg) (2 ^ np)) := by rw [hfr 14 (by omega), m1 14 (by decide)]; exact g4
      have hskip : sprP R (et e0) kk e0 dk r0 p0 n1 = (n1, 0) := by
        have := sprP_skip (R := R) (to := et e0) (k := kk) (e := e0) (dp := dk) r0 0 p0 n1 (fun i hi => hR0 _ (by
          cases hb : prs (2 ^ (3 * w)) sg (p0 + i) with
          | false => rfl
          | true =>
            have a1 := cnt_lt (show p0 + i < 2 ^ np by omega) hb
            have a2 := cnt_mono (prs (2 ^ (3 * w)) sg) (show p0 ≤ p0 + i by omega)
            omega))
        rw [Nat.zero_add] at this
        rw [this]
        rfl
      rw [hskip] at hres
      subst hres
      refine gx_iload X d_Se_take_24 rfl ?_
      refine gx_aload_n X d_Se_take_26 rfl rfl ?_
      refine gx_getr X d_Se_take_27 (gci in_Se) (HX _ rfl).1 (HX _ rfl).2 rfl 2 (by decide) (gcw X lk_Se_52) (fun _ h => h) rfl ?_
      refine gx_geti X d_Se_take_30 (gci in_Gr) (HX _ rfl).1 (HX _ rfl).2 rfl 3 (by decide) (gcw X lk_Se_103) (fun _ h => h) rfl ?_
      refine gx_top e14 ?_
      refine gx_icmp_ge X d_Se_take_33 (tgt := 118) (by decide) (fun h33 => ?_) (fun h33 => ?_)
      · refine gx_iconst X d_Se_take_118 (v := nI 0) (by decide) ?_
        refine gx_zret X hr (by first | rfl | decide) hA d_Se_take_119 (K _ _ _ ⟨rfl, rfl, fun a ha => by rw [hfr a (by omega), m1 a (by omega)], hS1, hN1, fun _ => ⟨h12, h13⟩, fun z => absurd z (by simp), fun z => absurd z (by simp)⟩)
      · exact absurd ((nI_leI (by omega) (by omega)).mpr (by omega)) h33
    | succ d ih =>
      intro g p0 r0 n1 G hd hp hc hres hN1 hS1 hle hkk hfr h12 h13
      have e14 : G 14 3 = nI (cnt (prs (2 ^ (3 * w)) sg) (2 ^ np)) := by rw [hfr 14 (by omega), m1 14 (by decide)]; exact g4
      obtain ⟨p1, hp1, hpp, hpc⟩ := cnt_at (P := prs (2 ^ (3 * w)) sg) (n := 2 ^ np) (k := g) (by omega)
      obtain ⟨t, ht, hts⟩ := prs_iff.mp hpp
      have hrt : rk (2 ^ (3 * w)) sg t = g := by unfold rk; rw [hts]; exact hpc
      have hle1 : p0 ≤ p1 := by
        rcases Nat.lt_or_ge p1 p0 with h | h
        · have := cnt_lt h hpp
          omega
        · exact h
      have hskip : sprP R (et e0) kk e0 dk r0 p0 n1 = sprP R (et e0) kk e0 dk (r0 - (p1 - p0)) p1 n1 := by
        have := sprP_skip (R := R) (to := et e0) (k := kk) (e := e0) (dp := dk) (p1 - p0) (r0 - (p1 - p0)) p0 n1 (fun i hi => hR0 _ (by
          cases hb : prs (2 ^ (3 * w)) sg (p0 + i) with
          | false => rfl
          | true =>
            have a1 := cnt_lt (show p0 + i < p1 by omega) hb
            have a2 := cnt_mono (prs (2 ^ (3 * w)) sg) (show p0 ≤ p0 + i by omega)
            omega))
        rw [show r0 - (p1 - p0) + (p1 - p0) = r0 by omega, show p0 + (p1 - p0) = p1 by omega] at this
        exact this
      obtain ⟨r1, hr1⟩ : ∃ r1, r0 - (p1 - p0) = r1 + 1 := ⟨r0 - (p1 - p0) - 1, by omega⟩
      rw [hskip, hr1, sprP] at hres
      have hc1 : cnt (prs (2 ^ (3 * w)) sg) (p1 + 1) = g + 1 := by
        show cnt _ p1 + cond (prs (2 ^ (3 * w)) sg p1) 1 0 = _
        rw [hpp, hpc]
        rfl
      have hpr : p1 + 1 + r1 = 2 ^ np := by omega
      have hgd : g + 1 + d = cnt (prs (2 ^ (3 * w)) sg) (2 ^ np) := by omega
      have e28 : bI (G 28 g) (∃ s y u, s < 2 ^ (3 * w) ∧ sg s = sg q ∧ y < chs w ek e0 ∧ stp w ek ev tg e0 s y = some u ∧ sg u = sg t) := by
        have := m2 t ht
        rw [hrt] at this
        rw [hfr 28 (by omega)]
        exact this
      have hRt : R p1 = true ↔ (∃ s y u, s < 2 ^ (3 * w) ∧ sg s = sg q ∧ y < chs w ek e0 ∧ stp w ek ev tg e0 s y = some u ∧ sg u = sg t) := by
        rw [← hR, rchB_iff, ← hts, ← hqs]
      have hkn := kn_lt et2 (show g < 2 ^ (3 * w) by omega)
      have e27 := hS1.2.2 (et e0) t et2 ht
      rw [hrt, hts] at e27
      have nextg : ∀ (n2 : List nd) (G : Nat → Nat → Int32), sprP R (et e0) kk e0 dk r1 (p1 + 1) n2 = z → NsOK (2 ^ (3 * w)) np sg ne n2 → SeOK G (2 ^ (3 * w)) sg n2 → ns.length ≤ n2.length → nAt n2 kk = nAt ns kk → (∀ a, ¬ (20 ≤ a ∧ a ≤ 27) → G a = F8 a) → G 20 12 = F 20 12 → G 20 13 = F 20 13 → GX p l e rm_Se_take s m args below meth c (MQ below (gxQ D vcl ca ks lay ad s.heap.size post) args s 0 0 (gxA ks ad s.heap.size)) 5 A D vcl ca ks lay ad 0 0 112 [(4, xI (nI g)), (3, xI (nI (et e0))), (0, xR 20), (1, xI (nI kk)), (2, xI (nI e0))] [] G L8 := by
        intro n2 G a1 a2 a3 a4 a5 a6 a7 a8
        refine gx_iinc X d_Se_take_112 rfl (pu_inc _) ?_
        refine gx_goto X d_Se_take_115 (tgt := 24) (by decide) ?_
        exact gx_el (ih (g + 1) (p1 + 1) r1 n2 G hgd hpr hc1 a1 a2 a3 a4 a5 a6 a7 a8) ⟨rfl, rfl, rfl, rfl, rfl, trivial⟩
      refine gx_iload X d_Se_take_24 rfl ?_
      refine gx_aload_n X d_Se_take_26 rfl rfl ?_
      refine gx_getr X d_Se_take_27 (gci in_Se) (HX _ rfl).1 (HX _ rfl).2 rfl 2 (by decide) (gcw X lk_Se_52) (fun _ h => h) rfl ?_
      refine gx_geti X d_Se_take_30 (gci in_Gr) (HX _ rfl).1 (HX _ rfl).2 rfl 3 (by decide) (gcw X lk_Se_103) (fun _ h => h) rfl ?_
      refine gx_top e14 ?_
      refine gx_icmp_ge X d_Se_take_33 (tgt := 118) (by decide) (fun h33 => ?_) (fun h33 => ?_)
      · exact absurd ((nI_leI (by omega) (by omega)).mp h33) (by omega)
      · refine gx_aload_n X d_Se_take_36 rfl rfl ?_
        refine gx_getr X d_Se_take_37 (gci in_Se) (HX _ rfl).1 (HX _ rfl).2 rfl 11 (by decide) (gcw X lk_Se_65) (fun _ h => h) rfl ?_
        refine gx_iload X d_Se_take_40 rfl ?_
        refine gx_bald X d_Se_take_42 (HX _ rfl).1 (HX _ rfl).2 rfl (by omega) (by omega) ?_
        refine gx_if_eq X d_Se_take_43 (tgt := 112) (by decide) (fun h43 => ?_) (fun h43 => ?_)
        · have hRf : R p1 = false := by
            cases hb : R p1 with
            | false => rfl
            | true => rw [e28.1 (hRt.mp hb)] at h43; exact absurd h43 (by decide)
          rw [if_neg (by rw [hRf]; exact fun z => absurd z.1 (by decide))] at hres
          exact gx_el (nextg n1 G hres hN1 hS1 hle hkk hfr h12 h13) ⟨rfl, rfl, rfl, rfl, rfl, trivial⟩
        · have hRtrue : R p1 = true := hRt.mpr (Classical.byContradiction fun hno => h43 (by rw [e28.2 hno]; rfl))
          refine gx_aload_n X d_Se_take_46 rfl rfl ?_
          refine gx_getr X d_Se_take_47 (gci in_Se) (HX _ rfl).1 (HX _ rfl).2 rfl 10 (by decide) (gcw X lk_Se_61) (fun _ h => h) rfl ?_
          refine gx_iload_n X d_Se_take_50 rfl rfl ?_
          refine gx_aload_n X d_Se_take_51 rfl rfl ?_
          refine gx_getr X d_Se_take_52 (gci in_Se) (HX _ rfl).1 (HX _ rfl).2 rfl 0 (by decide) (gcw X lk_Se_44) (fun _ h => h) rfl ?_
          refine gx_geti X d_Se_take_55 (gci in_Sp) (HX _ rfl).1 (HX _ rfl).2 rfl 2 (by decide) (gcw X lk_Se_56) (fun _ h => h) rfl ?_
          refine gx_top (y := nI (2 ^ (3 * w))) (by rw [hfr 1 (by omega), m1 1 (by decide)]; exact hS.2.2.2) ?_
          refine gx_imul X d_Se_take_58 ?_
          refine gx_top (pk_mul _ _) ?_
          refine gx_iload X d_Se_take_59 rfl ?_
          refine gx_iadd X d_Se_take_61 ?_
          refine gx_top (nI_add _ _) ?_
          refine gx_bald X d_Se_take_62 (HX _ rfl).1 (HX _ rfl).2 rfl hkn (by omega) ?_
          refine gx_top e27 ?_
          refine gx_if_eq X d_Se_take_63 (tgt := 69) (by decide) (fun h63 => ?_) (fun h63 => ?_)
          · have hkf : knw n1 (et e0) p1 = false := by
              cases hb : knw n1 (et e0) p1 with
              | false => rfl
              | true => rw [hb] at h63; exact absurd h63 (by decide)
            rw [if_pos ⟨hRtrue, hkf⟩] at hres
            refine gx_aload_n X d_Se_take_69 rfl rfl ?_
            refine gx_geti X d_Se_take_70 (gci in_Se) (HX _ rfl).1 (HX _ rfl).2 rfl 3 (by decide) (gcw X lk_Se_9) (fun _ h => h) rfl ?_
            refine gx_top hS1.1 ?_
            refine gx_sipush X d_Se_take_73 (v := nI 200) (by decide) ?_
            refine gx_icmp_lt X d_Se_take_76 (tgt := 86) (by decide) (fun h76 => ?_) (fun h76 => ?_)
            · have hlt : n1.length < 200 := (nI_ltI (by have := hN1.2.1; omega) (by decide)).mp h76
              rw [if_neg (by omega)] at hres
              refine gx_aload_n X d_Se_take_86 rfl rfl ?_
              refine gx_iload_n X d_Se_take_87 rfl rfl ?_
              refine gx_iload X d_Se_take_88 rfl ?_
              refine gx_iload_n X d_Se_take_90 rfl rfl ?_
              refine gx_iload_n X d_Se_take_91 rfl rfl ?_
              have hS0 : SpOK G w := hS.of (by rw [hfr 1 (by omega), m1 1 (by decide)])
              have hG0 : GrOK G (2 ^ (3 * w)) np sg := hG.of (fun a a1 a2 => by rw [hfr a (by omega), m1 a (by omega)])
              have h26 := (hS1.2.1 kk (by omega)).2.2.2.2.2
              rw [hkk, hdk] at h26
              rw [← hrt]
              refine gx_callV X d_Se_take_92 mf_Se_addNode lk_Se_82 (c_Se_addNode HX hS0 hG0 (n := n1.length) (lc := et e0) (q := t) (dv := dk + 1) hlt hS1.1 et2 ht (fr := nI kk) (ed := nI e0) (Or.inr ⟨kk, rfl, by omega, by omega, by rw [h26]; exact nI_1 dk⟩)) (HX _ rfl).1 (HX _ rfl).2 rfl rfl rfl (Nat.le_of_ble_eq_true rfl) ⟨by decide, by decide⟩ ⟨rfl, rfl⟩ ⟨Nat.zero_le _, Nat.zero_le _⟩ (fun r92 F92 L92 hp92 => ?_)
              obtain ⟨rfl, rfl, rfl⟩ := hp92
              have hS2 := hS1.add hsg2 (lc := et e0) (q := t) (k := kk) (e := e0) (dv := dk + 1) et2 ht
              rw [if_neg (by omega), if_neg (by omega), hts] at hS2
              have hN2 := hN1.add hlt (to := et e0) (p := p1) (k := kk) (e := e0) et2 hpp (by omega) he
              rw [hkk, hdk] at hN2
              have hfa : ∀ a, ¬ (20 ≤ a ∧ a ≤ 27) → adN G (2 ^ (3 * w)) n1.length (et e0) (rk (2 ^ (3 * w)) sg t) p1 (dk + 1) (nI kk) (nI e0) a = F8 a := by
                intro a ha
                unfold adN
                rw [gxu_cell (by omega), gxu_cell (by omega), gxu_cell (by omega), gxu_cell (by omega), gxu_cell (by omega), gxu_cell (by omega), gxu_cell (by omega), gxu_cell (by omega)]
                exact hfr a ha
              have ha12 : adN G (2 ^ (3 * w)) n1.length (et e0) (rk (2 ^ (3 * w)) sg t) p1 (dk + 1) (nI kk) (nI e0) 20 12 = F 20 12 := by
                unfold adN
                simp only [gxu, Nat.reduceEqDiff, false_and, and_false, if_false]
                exact h12
              have ha13 : adN G (2 ^ (3 * w)) n1.length (et e0) (rk (2 ^ (3 * w)) sg t) p1 (dk + 1) (nI kk) (nI e0) 20 13 = F 20 13 := by
                unfold adN
                simp only [gxu, Nat.reduceEqDiff, false_and, and_false, if_false]
                exact h13
              have hcnt : adN G (2 ^ (3 * w)) n1.length (et e0) (rk (2 ^ (3 * w)) sg t) p1 (dk + 1) (nI kk) (nI e0) 20 3 = nI (n1.length + 1) := by
                unfold adN
                exact gxu_at
              rw [hts]
              refine gx_iload_n X d_Se_take_95 rfl rfl ?_
              refine gx_iconst X d_Se_take_96 (v := nI 1) (by decide) ?_
              refine gx_icmp_ne X d_Se_take_97 (tgt := 112) (by decide) (fun h97 => ?_) (fun h97 => ?_)
              · have hto : et e0 ≠ 1 := fun z => h97 (by rw [z])
                rw [if_neg hto] at hres
                rw [hrt] at *
                exact gx_el (nextg _ _ hres hN2 hS2 (by simp; omega) (by rw [nAt_old (by omega)]; exact hkk) hfa ha12 ha13) ⟨rfl, rfl, rfl, rfl, rfl, trivial⟩
              · have hto : et e0 = 1 := (nI_eq (by omega) (by decide)).mp h97
                rw [if_pos hto] at hres
                refine gx_aload_n X d_Se_take_100 rfl rfl ?_
                refine gx_aload_n X d_Se_take_101 rfl rfl ?_
                refine gx_geti X d_Se_take_102 (gci in_Se) (HX _ rfl).1 (HX _ rfl).2 rfl 3 (by decide) (gcw X lk_Se_9) (fun _ h => h) rfl ?_
                refine gx_top hcnt ?_
                refine gx_iconst X d_Se_take_105 (v := nI 1) (by decide) ?_
                refine gx_isub X d_Se_take_106 ?_
                refine gx_top (y := nI ((n1 ++ [(et e0, p1, kk, e0, dk + 1)]).length - 1)) (by rw [pk_sub (by omega)]; simp) ?_
                refine gx_callV X d_Se_take_107 mf_Se_tracePath lk_Se_106 (c_Se_tracePath HX hN2 hS2) (HX _ rfl).1 (HX _ rfl).2 rfl rfl rfl (Nat.le_of_ble_eq_true rfl) ⟨by decide, by decide⟩ ⟨rfl, rfl⟩ ⟨Nat.zero_le _, Nat.zero_le _⟩ (fun r107 F107 L107 hp107 => ?_)
                obtain ⟨rfl, rfl, t1, t2, t3, t4⟩ := hp107
                refine gx_iconst X d_Se_take_110 (v := nI 1) (by decide) ?_
                rw [← hres] at K
                refine gx_zret X hr (by first | rfl | decide) hA d_Se_take_111 (K _ _ _ ⟨rfl, rfl, fun a ha => by rw [t1 a (by omega) (by omega), hfa a (by omega), m1 a (by omega)], hS2.of t2 (fun a a1 a2 => t1 a (by omega) (by omega)), hN2, fun z => absurd z (by simp), fun z => absurd z (by simp), fun _ => ⟨t3.trans ha12, t4⟩⟩)
            · have hge : ¬ n1.length < 200 := fun z => h76 ((nI_ltI (by omega) (by decide)).mpr z)
              have h200 := hN1.2.1
              rw [if_pos (by omega)] at hres
              refine gx_aload_n X d_Se_take_79 rfl rfl ?_
              refine gx_iconst X d_Se_take_80 (v := nI 1) (by decide) ?_
              refine gx_puti X d_Se_take_81 (gci in_Se) (HX _ rfl).1 (HX _ rfl).2 rfl 12 (by decide) (gcw X lk_Se_34) (fun _ h => h) t_Se ty_Se nm_Se rfl (ty_Se 12 (by decide)) (by decide) (by decide) rfl ?_
              refine gx_iconst X d_Se_take_84 (v := nI 1) (by decide) ?_
              rw [← hres] at K
              refine gx_zret X hr (by first | rfl | decide) hA d_Se_take_85 (K _ _ _ ⟨rfl, rfl, fun a ha => by rw [gxu_cell (by omega), hfr a (by omega), m1 a (by omega)], hS1.of (gxu_ne (by decide)) (fun a a1 a2 => gxu_cell (by omega)), hN1, fun z => absurd z (by simp), fun _ => ⟨gxu_at, (gxu_ne (by decide)).trans h13⟩, fun z => absurd z (by simp)⟩)
          · have hkt : knw n1 (et e0) p1 = true := by
              cases hb : knw n1 (et e0) p1 with
              | true => rfl
              | false => rw [hb] at h63; exact absurd rfl h63
            rw [if_neg (by rw [hkt]; exact fun z => absurd z.2 (by decide))] at hres
            refine gx_goto X d_Se_take_66 (tgt := 112) (by decide) ?_
            exact gx_el (nextg n1 G hres hN1 hS1 hle hkk hfr h12 h13) ⟨rfl, rfl, rfl, rfl, rfl, trivial⟩
  refine gx_el (loop (cnt (prs (2 ^ (3 * w)) sg) (2 ^ np)) 0 0 (2 ^ np) ns F8 (by omega) (by omega) rfl hz hNs (hSe.of (by rw [m1 20 (by decide)]) (fun a a1 a2 => m1 a (by omega))) (Nat.le_refl _) rfl (fun _ _ => rfl) (by rw [m1 20 (by decide)]) (by rw [m1 20 (by decide)])) ⟨rfl, rfl, rfl, rfl, rfl, trivial⟩
end
