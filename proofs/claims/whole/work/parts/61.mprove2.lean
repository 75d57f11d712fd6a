/-! the reference's proving (own text) -/
section
variable {l : Launch} {D : va_G} {ca : Nat → ClassId} {ks : List Nat} {lay : Nat → gxE} {ad : Nat → Nat} {F : Nat → Nat → Int32} {L : Nat → Nat → Int64} {N w n : Nat} {z : kS}
theorem MgOK.congr {N np np2 : Nat} {sg sg2 : Nat → Nat} (h : MgOK F L N np2 sg2) (hz : zE N (np, sg) (np2, sg2)) : MgOK F L N np sg := by
  obtain ⟨h1, h2, h3⟩ := h
  have e : np = np2 := hz.1
  subst e
  refine ⟨h1, h2, fun s hs => ?_⟩
  have e2 : sg s = sg2 s := hz.2 s hs
  rw [e2]
  exact h3 s hs
theorem esQ_lt {N np : Nat} {sg : Nat → Nat} {ne : Nat} {ns : List nd} (h : NsOK N np sg ne ns) : ∀ e ∈ esQ ns, e < ne := pthL_lt h _ _ (by have := h.1; omega) rfl
theorem EmOK.ofM {N np : Nat} {sg : Nat → Nat} {ne : Nat} {ns : List nd} (h : NsOK N np sg ne ns) (hp : MpV F (some (esQ ns))) : EmOK F ne (esQ ns) := by
  obtain ⟨p1, p2, p3⟩ := hp
  refine ⟨p1, p2, fun i hi => ⟨p3 i hi, esQ_lt h _ ?_⟩⟩
  rw [List.getD_eq_getElem?_getD, List.getElem?_eq_getElem hi]
  exact List.getElem_mem hi
theorem m_prove2 (HX : gH ks lay N sM) (hz : MOK F L w z) (x : Int32) (hx : ¬ (nI 1 ≤ x ∧ x ≤ nI 40)) : Con l y_Mo_prove (Cond.code y_Mo_prove b_Mo_prove 5 (some .int) :: WT) rm_Mo_prove D vcl ca ks lay ad [xR 40, xI x] F L (fun r F' L' => r = some (xI (nI 0)) ∧ F' 40 3 = nI 1 ∧ L' = L ∧ MOK F' L' w z) := by
  obtain ⟨b1, b2⟩ := hz.no (nI 1)
  refine Con.ofK (fun post K => ?_)
  refine Con.of (ls := [(0, xR 40), (1, xI x)]) (by decide) rfl rfl (Nat.le_of_ble_eq_true rfl) ?_
  intro p e s m args below meth c A X hr hA
  have no : GX p l e rm_Mo_prove s m args below meth c (MQ below (gxQ D vcl ca ks lay ad s.heap.size post) args s 0 0 (gxA ks ad s.heap.size)) 5 A D vcl ca ks lay ad 0 0 16 [(1, xI x), (0, xR 40)] [] (gxu F 40 3 (nI 0)) L := by
    refine gx_aload_n X d_Mo_prove_16 rfl rfl ?_
    refine gx_iconst X d_Mo_prove_17 (v := nI 1) (by decide) ?_
    refine gx_callV X d_Mo_prove_18 mf_Mo_fail lk_Mo_132 (c_Mo_fail HX (nI 1)) (HX _ rfl).1 (HX _ rfl).2 rfl rfl rfl (Nat.le_of_ble_eq_true rfl) ⟨by decide, by decide⟩ ⟨rfl, rfl⟩ ⟨Nat.zero_le _, Nat.zero_le _⟩ (fun r18 F18 L18 hp18 => ?_)
    obtain ⟨rfl, hF2, rfl⟩ := hp18
    refine gx_iret X hr hA d_Mo_prove_21 (K _ _ _ ⟨rfl, by rw [hF2]; exact b2, rfl, by rw [hF2]; exact b1⟩)
  refine gx_aload_n X d_Mo_prove_0 rfl rfl ?_
  refine gx_iconst X d_Mo_prove_1 (v := nI 0) (by decide) ?_
  refine gx_puti X d_Mo_prove_2 (gci in_Mo) (HX _ rfl).1 (HX _ rfl).2 rfl 3 (by decide) (gcw X lk_Mo_85) (fun _ h => h) t_Mo ty_Mo nm_Mo rfl (ty_Mo 3 (by decide)) rfl rfl rfl ?_
  refine gx_iload_n X d_Mo_prove_5 rfl rfl ?_
  refine gx_iconst X d_Mo_prove_6 (v := nI 1) (by decide) ?_
  refine gx_icmp_lt X d_Mo_prove_7 (tgt := 16) (by decide) (fun h7 => ?_) (fun h7 => ?_)
  · exact gx_el no ⟨rfl, rfl, trivial⟩
  · refine gx_iload_n X d_Mo_prove_10 rfl rfl ?_
    refine gx_bipush X d_Mo_prove_11 (v := nI 40) (by decide) ?_
    refine gx_icmp_le X d_Mo_prove_13 (tgt := 22) (by decide) (fun h13 => ?_) (fun h13 => ?_)
    · exact absurd ⟨Int32.not_lt.mp h7, h13⟩ hx
    · exact gx_el no ⟨rfl, rfl, trivial⟩
set_option maxHeartbeats 8000000 in
theorem m_prove (HX : gH ks lay N sM) (hz : MOK F L w z) {f : Nat} (hf1 : 1 ≤ f) (hf2 : f ≤ 40) : Con l y_Mo_prove (Cond.code y_Mo_prove b_Mo_prove 5 (some .int) :: WT) rm_Mo_prove D vcl ca ks lay ad [xR 40, xI (nI f)] F L (fun r F' L' => r = some (xI (prv w f z.beg).oc) ∧ F' 40 3 = nI 0 ∧ MOK F' L' w (prv w f z.beg)) := by
  have hw : w < 4 := by have := hz.1.1; omega
  obtain ⟨c1, c2⟩ := hz.c0
  generalize hfin : prv w f z.beg = fin
  refine Con.ofK (fun post K => ?_)
  refine Con.of (ls := [(0, xR 40), (1, xI (nI f))]) (by decide) rfl rfl (Nat.le_of_ble_eq_true rfl) ?_
  intro p e s m args below meth c A X hr hA
  have loop : ∀ (d i : Nat) (y : kS) (b : Int32) (G : Nat → Nat → Int32) (M : Nat → Nat → Int64), i + d = f → MO0 G M w y → (i = 0 ∨ MOK G M w y) → (i = 0 → y.oc = nI 0) → b = cond (decide (y.oc = nI 0)) (nI 1) (nI 0) → G 40 3 = nI 0 → prv w d y = fin → GX p l e rm_Mo_prove s m args below meth c (MQ below (gxQ D vcl ca ks lay ad s.heap.size post) args s 0 0 (gxA ks ad s.heap.size)) 5 A D vcl ca ks lay ad 0 0 26 [(3, xI (nI i)), (2, xI b), (1, xI (nI f)), (0, xR 40)] [] G M := by
    intro d
    induction d with
    | zero =>
      intro i y b G M hd h0 h1 h2 hb h3 hres
      have hres : y = fin := hres
      subst hres
      have hm : MOK G M w y := by
        rcases h1 with h | h
        · omega
        · exact h
      refine gx_iload_n X d_Mo_prove_26 rfl rfl ?_
      refine gx_iload_n X d_Mo_prove_27 rfl rfl ?_
      refine gx_icmp_ge X d_Mo_prove_28 (tgt := 89) (by decide) (fun h28 => ?_) (fun h28 => ?_)
      · refine gx_aload_n X d_Mo_prove_89 rfl rfl ?_
        refine gx_geti X d_Mo_prove_90 (gci in_Mo) (HX _ rfl).1 (HX _ rfl).2 rfl 15 (by decide) (gcw X lk_Mo_35) (fun _ h => h) rfl ?_
        refine gx_top hm.2.2.2.2.2.2.2 ?_
        refine gx_iret X hr hA d_Mo_prove_93 (K _ _ _ ⟨rfl, h3, hm⟩)
      · exact absurd ((nI_leI (by omega) (by omega)).mpr (by omega)) h28
    | succ d ih =>
      intro i y b G M hd h0 h1 h2 hb h3 hres
      rw [prv] at hres
      refine gx_iload_n X d_Mo_prove_26 rfl rfl ?_
      refine gx_iload_n X d_Mo_prove_27 rfl rfl ?_
      refine gx_icmp_ge X d_Mo_prove_28 (tgt := 89) (by decide) (fun h28 => ?_) (fun h28 => ?_)
      · exact absurd ((nI_leI (by omega) (by omega)).mp h28) (by omega)
      · by_cases hoc : y.oc = nI 0
        · rw [if_pos hoc] at hres
          rw [decide_eq_true hoc] at hb
          subst hb
          obtain ⟨k1, k2, k3, k4⟩ := h0
          have hnp := k4.1
          refine gx_iload_n X d_Mo_prove_31 rfl rfl ?_
          refine gx_if_eq X d_Mo_prove_32 (tgt := 89) (by decide) (fun h32 => ?_) (fun h32 => ?_)
          · exact absurd h32 (by decide)
          · refine gx_aload_n X d_Mo_prove_35 rfl rfl ?_
            refine gx_callV X d_Mo_prove_36 mf_Mo_search lk_Mo_210 (c_Mo_search HX k1 k3 k4) (HX _ rfl).1 (HX _ rfl).2 rfl rfl rfl (Nat.le_of_ble_eq_true rfl) ⟨by decide, by decide⟩ ⟨rfl, rfl⟩ ⟨Nat.zero_le _, Nat.zero_le _⟩ (fun r36 F36 L36 hp36 => ?_)
            obtain ⟨rfl, hL36, s1, s2, s3, s4, s5, s6, s7, s8, s9⟩ := hp36
            subst hL36
            have hsr : srN (rchB (2 ^ (3 * w)) w y.ek y.ev y.tg y.sg) (2 ^ y.np) y.ne y.ef y.et 200 0 [(0, y.sg 0, 0, 0, 0)] = srQ w y := rfl
            rw [hsr] at s4 s5 s6 s7 s8 s9
            have j1 : MsOK F36 w := k1.of (fun j hj => s2 j (by omega) (by omega) (by omega) (by omega))
            have j2 : MlV F36 y.n y.ln := k2.of (s2 5 (by decide) (by decide) (by decide) (by decide)) (s1 41 (by decide) (by decide) (by decide))
            have j3 : MeOK F36 L36 w y.ne y.ef y.et y.ek y.ev y.tg := k3.of (s2 6 (by decide) (by decide) (by decide) (by decide)) (fun a ha => s1 a (by omega) (by omega) (by omega)) rfl
            have j4 : MgOK F36 L36 (2 ^ (3 * w)) y.np y.sg := k4.of (s2 12 (by decide) (by decide) (by decide) (by decide)) (s1 48 (by decide) (by decide) (by decide)) rfl
            have j5 : MiV F36 [] := ⟨Nat.zero_le _, s3, fun i hi => absurd hi (Nat.not_lt_zero i)⟩
            have j6 : F36 40 3 = nI 0 := (s2 3 (by decide) (by decide) (by decide) (by decide)).trans h3
            have hcase : (srQ w y).2 = 0 ∨ (srQ w y).2 = 1 ∨ (srQ w y).2 = 2 := by omega
            rcases hcase with hk | hk | hk
            · have hm : mkR w y = (kM y.n y.ln y.ne y.ef y.et y.ek y.ev y.tg y.np y.sg (nI 1) (srQ w y).1 none []) := by unfold mkR; rw [if_neg (by omega), if_pos hk]
              obtain ⟨r1, r2⟩ := s7 hk
              refine gx_aload_n X d_Mo_prove_39 rfl rfl ?_
              refine gx_geti X d_Mo_prove_40 (gci in_Mo) (HX _ rfl).1 (HX _ rfl).2 rfl 15 (by decide) (gcw X lk_Mo_35) (fun _ h => h) rfl ?_
              refine gx_top r1 ?_
              refine gx_iconst X d_Mo_prove_43 (v := (-1)) (by decide) ?_
              refine gx_icmp_ne X d_Mo_prove_44 (tgt := 70) (by decide) (fun h44 => ?_) (fun h44 => ?_)
              · refine gx_aload_n X d_Mo_prove_70 rfl rfl ?_
                refine gx_geti X d_Mo_prove_71 (gci in_Mo) (HX _ rfl).1 (HX _ rfl).2 rfl 15 (by decide) (gcw X lk_Mo_35) (fun _ h => h) rfl ?_
                refine gx_top r1 ?_
                refine gx_if_ne X d_Mo_prove_74 (tgt := 81) (by decide) (fun h74 => ?_) (fun h74 => ?_)
                · refine gx_iconst X d_Mo_prove_81 (v := nI 0) (by decide) ?_
                  refine gx_istore_n X d_Mo_prove_82 rfl (by decide) ?_
                  refine gx_iinc X d_Mo_prove_83 rfl (pu_inc _) ?_
                  refine gx_goto X d_Mo_prove_86 (tgt := 26) (by decide) ?_
                  have hM : MOK F36 L36 w (mkR w y) := by rw [hm]; exact ⟨j1, j2, j3, j4, s4, r2, j5, r1⟩
                  have hO : (mkR w y).oc = nI 1 := by rw [hm]; rfl
                  exact gx_el (ih (i + 1) (mkR w y) (nI 0) F36 L36 (by omega) hM.zero (Or.inr hM) (fun q => absurd q (by omega)) (by rw [hO]; decide) j6 hres) ⟨rfl, rfl, rfl, rfl, trivial⟩
                · exact absurd h74 (by decide)
              · exact absurd h44 (by decide)
            · have hm : mkR w y = (kM y.n y.ln y.ne y.ef y.et y.ek y.ev y.tg y.np y.sg (nI 3) (srQ w y).1 none []) := by unfold mkR; rw [if_pos hk]
              obtain ⟨r1, r2⟩ := s8 hk
              refine gx_aload_n X d_Mo_prove_39 rfl rfl ?_
              refine gx_geti X d_Mo_prove_40 (gci in_Mo) (HX _ rfl).1 (HX _ rfl).2 rfl 15 (by decide) (gcw X lk_Mo_35) (fun _ h => h) rfl ?_
              refine gx_top r1 ?_
              refine gx_iconst X d_Mo_prove_43 (v := (-1)) (by decide) ?_
              refine gx_icmp_ne X d_Mo_prove_44 (tgt := 70) (by decide) (fun h44 => ?_) (fun h44 => ?_)
              · refine gx_aload_n X d_Mo_prove_70 rfl rfl ?_
                refine gx_geti X d_Mo_prove_71 (gci in_Mo) (HX _ rfl).1 (HX _ rfl).2 rfl 15 (by decide) (gcw X lk_Mo_35) (fun _ h => h) rfl ?_
                refine gx_top r1 ?_
                refine gx_if_ne X d_Mo_prove_74 (tgt := 81) (by decide) (fun h74 => ?_) (fun h74 => ?_)
                · refine gx_iconst X d_Mo_prove_81 (v := nI 0) (by decide) ?_
                  refine gx_istore_n X d_Mo_prove_82 rfl (by decide) ?_
                  refine gx_iinc X d_Mo_prove_83 rfl (pu_inc _) ?_
                  refine gx_goto X d_Mo_prove_86 (tgt := 26) (by decide) ?_
                  have hM : MOK F36 L36 w (mkR w y) := by rw [hm]; exact ⟨j1, j2, j3, j4, s4, r2, j5, r1⟩
                  have hO : (mkR w y).oc = nI 3 := by rw [hm]; rfl
                  exact gx_el (ih (i + 1) (mkR w y) (nI 0) F36 L36 (by omega) hM.zero (Or.inr hM) (fun q => absurd q (by omega)) (by rw [hO]; decide) j6 hres) ⟨rfl, rfl, rfl, rfl, trivial⟩
                · exact absurd h74 (by decide)
              · exact absurd h44 (by decide)
            · obtain ⟨r1, r2⟩ := s9 hk
              have hE := EmOK.ofM s5 r2
              have hlen := hE.1
              refine gx_aload_n X d_Mo_prove_39 rfl rfl ?_
              refine gx_geti X d_Mo_prove_40 (gci in_Mo) (HX _ rfl).1 (HX _ rfl).2 rfl 15 (by decide) (gcw X lk_Mo_35) (fun _ h => h) rfl ?_
              refine gx_top r1 ?_
              refine gx_iconst X d_Mo_prove_43 (v := (-1)) (by decide) ?_
              refine gx_icmp_ne X d_Mo_prove_44 (tgt := 70) (by decide) (fun h44 => ?_) (fun h44 => ?_)
              · exact absurd rfl h44
              · refine gx_aload_n X d_Mo_prove_47 rfl rfl ?_
                refine gx_callV X d_Mo_prove_48 mf_Mo_isTrue lk_Mo_213 (c_Mo_isTrue HX j1 j3 hE) (HX _ rfl).1 (HX _ rfl).2 rfl rfl rfl (Nat.le_of_ble_eq_true rfl) ⟨by decide, by decide⟩ ⟨rfl, rfl⟩ ⟨Nat.zero_le _, Nat.zero_le _⟩ (fun r48 F48 L48 hp48 => ?_)
                obtain ⟨rfl, t1, t2, t3, t4, t5⟩ := hp48
                have p1 : MsOK F48 w := j1.of (fun j hj => t3 j (by omega))
                have p2 : MlV F48 y.n y.ln := j2.of (t3 5 (by decide)) (t2 41 (by decide) (by decide) (by decide) (by decide))
                have p3 : MeOK F48 L48 w y.ne y.ef y.et y.ek y.ev y.tg := j3.of (t3 6 (by decide)) (fun a ha => t2 a (by omega) (by omega) (by omega) (by omega)) (t1 46 (by decide))
                have p4 : MgOK F48 L48 (2 ^ (3 * w)) y.np y.sg := j4.of (t3 12 (by decide)) (t2 48 (by decide) (by decide) (by decide) (by decide)) (t1 47 (by decide))
                have p5 : MrV F48 (srQ w y).1 := s4.of (t3 16 (by decide)) (fun a ha => t2 a (by omega) (by omega) (by omega) (by omega))
                have p6 : MpV F48 (some (esQ (srQ w y).1)) := r2.of (t3 21 (by decide)) (t2 53 (by decide) (by decide) (by decide) (by decide))
                have p7 : F48 40 3 = nI 0 := (t3 3 (by decide)).trans j6
                cases hop : opn w y.ek y.ev y.tg (esQ (srQ w y).1) 0 with
                | true =>
                  have hm : mkR w y = (kM y.n y.ln y.ne y.ef y.et y.ek y.ev y.tg y.np y.sg (nI 2) (srQ w y).1 (some (esQ (srQ w y).1)) (inp w y.ek y.ev y.tg (esQ (srQ w y).1) 0)) := by unfold mkR; rw [if_neg (by omega), if_neg (by omega), if_pos hop]
                  obtain ⟨u1, u2⟩ := t5 hop
                  refine gx_if_eq X d_Mo_prove_51 (tgt := 58) (by decide) (fun h51 => ?_) (fun h51 => ?_)
                  · exact absurd h51 (by decide)
                  · refine gx_iconst X d_Mo_prove_54 (v := nI 2) (by decide) ?_
                    refine gx_goto X d_Mo_prove_55 (tgt := 62) (by decide) ?_
                    refine gx_istore X d_Mo_prove_62 (by decide) ?_
                    refine gx_aload_n X d_Mo_prove_64 rfl rfl ?_
                    refine gx_iload X d_Mo_prove_65 rfl ?_
                    refine gx_puti X d_Mo_prove_67 (gci in_Mo) (HX _ rfl).1 (HX _ rfl).2 rfl 15 (by decide) (gcw X lk_Mo_35) (fun _ h => h) t_Mo ty_Mo nm_Mo rfl (ty_Mo 15 (by decide)) rfl rfl rfl ?_
                    refine gx_aload_n X d_Mo_prove_70 rfl rfl ?_
                    refine gx_geti X d_Mo_prove_71 (gci in_Mo) (HX _ rfl).1 (HX _ rfl).2 rfl 15 (by decide) (gcw X lk_Mo_35) (fun _ h => h) rfl ?_
                    refine gx_top (y := nI 2) gxu_at ?_
                    refine gx_if_ne X d_Mo_prove_74 (tgt := 81) (by decide) (fun h74 => ?_) (fun h74 => ?_)
                    · refine gx_iconst X d_Mo_prove_81 (v := nI 0) (by decide) ?_
                      refine gx_istore_n X d_Mo_prove_82 rfl (by decide) ?_
                      refine gx_iinc X d_Mo_prove_83 rfl (pu_inc _) ?_
                      refine gx_goto X d_Mo_prove_86 (tgt := 26) (by decide) ?_
                      have e1 : ∀ a, a ≠ 40 → gxu F48 40 15 (nI 2) a = F48 a := fun a ha => gxu_cell ha
                      have e2 : ∀ j, j ≠ 15 → gxu F48 40 15 (nI 2) 40 j = F48 40 j := fun j hj => gxu_ne (fun q => hj q.2)
                      have q1 := p1.of (fun j hj => e2 j (by omega))
                      have q2 := p2.of (e2 5 (by decide)) (e1 41 (by decide))
                      have q3 := p3.of (M := L48) (e2 6 (by decide)) (fun a ha => e1 a (by omega)) rfl
                      have q4 := p4.of (M := L48) (e2 12 (by decide)) (e1 48 (by decide)) rfl
                      have hM : MOK (gxu F48 40 15 (nI 2)) L48 w (mkR w y) := by rw [hm]; exact ⟨q1, q2, q3, q4, p5.of (e2 16 (by decide)) (fun a ha => e1 a (by omega)), p6.of (e2 21 (by decide)) (e1 53 (by decide)), ⟨Nat.le_trans (inp_len _ _ _ _ _ _) (by omega), (e2 23 (by decide)).trans u1, fun i hi => by rw [e1 54 (by decide)]; exact u2 i hi⟩, gxu_at⟩
                      have hO : (mkR w y).oc = nI 2 := by rw [hm]; rfl
                      exact gx_el (ih (i + 1) (mkR w y) (nI 0) _ L48 (by omega) hM.zero (Or.inr hM) (fun q => absurd q (by omega)) (by rw [hO]; decide) ((e2 3 (by decide)).trans p7) hres) ⟨rfl, rfl, rfl, rfl, trivial⟩
                    · exact absurd h74 (by decide)
                | false =>
                  have u1 := t4 hop
                  refine gx_if_eq X d_Mo_prove_51 (tgt := 58) (by decide) (fun h51 => ?_) (fun h51 => ?_)
                  · refine gx_aload_n X d_Mo_prove_58 rfl rfl ?_
                    refine gx_callV X d_Mo_prove_59 mf_Mo_refine lk_Mo_216 (c_Mo_refine HX p1 p3 p4 (hE.of (t3 21 (by decide)) (t2 53 (by decide) (by decide) (by decide) (by decide)))) (HX _ rfl).1 (HX _ rfl).2 rfl rfl rfl (Nat.le_of_ble_eq_true rfl) ⟨by decide, by decide⟩ ⟨rfl, rfl⟩ ⟨Nat.zero_le _, Nat.zero_le _⟩ (fun r59 F59 L59 hp59 => ?_)
                    obtain ⟨rfl, v1, v2⟩ := hp59
                    have hrn := rn_eq hw p3 (esQ_lt s5) (z := (y.np, y.sg)) (y := (y.np, y.sg)) ⟨rfl, fun _ _ => rfl⟩
                    have v3 : MgOK F59 L59 (2 ^ (3 * w)) (rfn w y.ek y.ev y.tg (esQ (srQ w y).1) (y.np, y.sg)).2.1 (rfn w y.ek y.ev y.tg (esQ (srQ w y).1) (y.np, y.sg)).2.2 := v2.congr hrn.2
                    have hm : mkR w y = (kM y.n y.ln y.ne y.ef y.et y.ek y.ev y.tg (rfn w y.ek y.ev y.tg (esQ (srQ w y).1) (y.np, y.sg)).2.1 (rfn w y.ek y.ev y.tg (esQ (srQ w y).1) (y.np, y.sg)).2.2 (cond (rfn w y.ek y.ev y.tg (esQ (srQ w y).1) (y.np, y.sg)).1 (nI 0) (nI 3)) (srQ w y).1 (some (esQ (srQ w y).1)) []) := by unfold mkR; rw [if_neg (by omega), if_neg (by omega), if_neg (by rw [hop]; decide)]
                    rw [← hrn.1]
                    generalize hxo : cond (rfn w y.ek y.ev y.tg (esQ (srQ w y).1) (y.np, y.sg)).1 (nI 0) (nI 3) = xo at hm ⊢
                    have hxo2 : xo = nI 0 ∨ xo = nI 3 := by
                      rw [← hxo]
                      cases (rfn w y.ek y.ev y.tg (esQ (srQ w y).1) (y.np, y.sg)).1
                      · exact Or.inr rfl
                      · exact Or.inl rfl
                    generalize (rfn w y.ek y.ev y.tg (esQ (srQ w y).1) (y.np, y.sg)).2.1 = np2 at *
                    generalize (rfn w y.ek y.ev y.tg (esQ (srQ w y).1) (y.np, y.sg)).2.2 = sg2 at *
                    have e1 : ∀ a, a ≠ 40 → gxu F59 40 15 xo a = F59 a := fun a ha => gxu_cell ha
                    have e2 : ∀ j, j ≠ 15 → gxu F59 40 15 xo 40 j = F59 40 j := fun j hj => gxu_ne (fun q => hj q.2)
                    have g1 : ∀ a, a ≠ 40 → a ≠ 48 → a ≠ 55 → a ≠ 57 → gxu F59 40 15 xo a = F48 a := fun a x1 x2 x3 x4 => (e1 a x1).trans (v1.1 a x1 x2 x3 x4)
                    have g2 : ∀ j, j ≠ 15 → j ≠ 12 → j ≠ 26 → gxu F59 40 15 xo 40 j = F48 40 j := fun j x1 x2 x3 => (e2 j x1).trans (v1.2.1 j x2 x3)
                    have q1 : MsOK (gxu F59 40 15 xo) w := p1.of (fun j hj => g2 j (by omega) (by omega) (by omega))
                    have q2 : MlV (gxu F59 40 15 xo) y.n y.ln := p2.of (g2 5 (by decide) (by decide) (by decide)) (g1 41 (by decide) (by decide) (by decide) (by decide))
                    have q3 : MeOK (gxu F59 40 15 xo) L59 w y.ne y.ef y.et y.ek y.ev y.tg := p3.of (g2 6 (by decide) (by decide) (by decide)) (fun a ha => g1 a (by omega) (by omega) (by omega) (by omega)) (v1.2.2 46 (by decide) (by decide))
                    have q4 : MgOK (gxu F59 40 15 xo) L59 (2 ^ (3 * w)) np2 sg2 := v3.of (e2 12 (by decide)) (e1 48 (by decide)) rfl
                    have q5 : MrV (gxu F59 40 15 xo) (srQ w y).1 := p5.of (g2 16 (by decide) (by decide) (by decide)) (fun a ha => g1 a (by omega) (by omega) (by omega) (by omega))
                    have q6 : MpV (gxu F59 40 15 xo) (some (esQ (srQ w y).1)) := p6.of (g2 21 (by decide) (by decide) (by decide)) (g1 53 (by decide) (by decide) (by decide) (by decide))
                    have q7 : MiV (gxu F59 40 15 xo) [] := ⟨Nat.zero_le _, ((g2 23 (by decide) (by decide) (by decide)).trans u1).trans s3, fun i hi => absurd hi (Nat.not_lt_zero i)⟩
                    have q8 : gxu F59 40 15 xo 40 3 = nI 0 := (g2 3 (by decide) (by decide) (by decide)).trans p7
                    have hM : MOK (gxu F59 40 15 xo) L59 w (mkR w y) := by rw [hm]; exact ⟨q1, q2, q3, q4, q5, q6, q7, gxu_at⟩
                    have hO : (mkR w y).oc = xo := by rw [hm]; rfl
                    refine gx_istore X d_Mo_prove_62 (by decide) ?_
                    refine gx_aload_n X d_Mo_prove_64 rfl rfl ?_
                    refine gx_iload X d_Mo_prove_65 rfl ?_
                    refine gx_puti X d_Mo_prove_67 (gci in_Mo) (HX _ rfl).1 (HX _ rfl).2 rfl 15 (by decide) (gcw X lk_Mo_35) (fun _ h => h) t_Mo ty_Mo nm_Mo rfl (ty_Mo 15 (by decide)) rfl rfl rfl ?_
                    refine gx_aload_n X d_Mo_prove_70 rfl rfl ?_
                    refine gx_geti X d_Mo_prove_71 (gci in_Mo) (HX _ rfl).1 (HX _ rfl).2 rfl 15 (by decide) (gcw X lk_Mo_35) (fun _ h => h) rfl ?_
                    refine gx_top (y := xo) gxu_at ?_
                    rcases hxo2 with hx0 | hx3
                    · subst hx0
                      refine gx_if_ne X d_Mo_prove_74 (tgt := 81) (by decide) (fun h74 => ?_) (fun h74 => ?_)
                      · exact absurd rfl h74
                      · refine gx_iconst X d_Mo_prove_77 (v := nI 1) (by decide) ?_
                        refine gx_goto X d_Mo_prove_78 (tgt := 82) (by decide) ?_
                        refine gx_istore_n X d_Mo_prove_82 rfl (by decide) ?_
                        refine gx_iinc X d_Mo_prove_83 rfl (pu_inc _) ?_
                        refine gx_goto X d_Mo_prove_86 (tgt := 26) (by decide) ?_
                        exact gx_el (ih (i + 1) (mkR w y) (nI 1) _ L59 (by omega) hM.zero (Or.inr hM) (fun q => absurd q (by omega)) (by rw [hO]; decide) q8 hres) ⟨rfl, rfl, rfl, rfl, trivial⟩
                    · subst hx3
                      refine gx_if_ne X d_Mo_prove_74 (tgt := 81) (by decide) (fun h74 => ?_) (fun h74 => ?_)
                      · refine gx_iconst X d_Mo_prove_81 (v := nI 0) (by decide) ?_
                        refine gx_istore_n X d_Mo_prove_82 rfl (by decide) ?_
                        refine gx_iinc X d_Mo_prove_83 rfl (pu_inc _) ?_
                        refine gx_goto X d_Mo_prove_86 (tgt := 26) (by decide) ?_
                        exact gx_el (ih (i + 1) (mkR w y) (nI 0) _ L59 (by omega) hM.zero (Or.inr hM) (fun q => absurd q (by omega)) (by rw [hO]; decide) q8 hres) ⟨rfl, rfl, rfl, rfl, trivial⟩
                      · exact absurd h74 (by decide)
                  · exact absurd rfl h51
        · rw [if_neg hoc] at hres
          subst hres
          rw [decide_eq_false hoc] at hb
          subst hb
          have hm : MOK G M w y := by
            rcases h1 with h | h
            · exact absurd (h2 h) hoc
            · exact h
          refine gx_iload_n X d_Mo_prove_31 rfl rfl ?_
          refine gx_if_eq X d_Mo_prove_32 (tgt := 89) (by decide) (fun h32 => ?_) (fun h32 => ?_)
          · refine gx_aload_n X d_Mo_prove_89 rfl rfl ?_
            refine gx_geti X d_Mo_prove_90 (gci in_Mo) (HX _ rfl).1 (HX _ rfl).2 rfl 15 (by decide) (gcw X lk_Mo_35) (fun _ h => h) rfl ?_
            refine gx_top hm.2.2.2.2.2.2.2 ?_
            refine gx_iret X hr hA d_Mo_prove_93 (K _ _ _ ⟨rfl, h3, hm⟩)
          · exact absurd rfl h32
  refine gx_aload_n X d_Mo_prove_0 rfl rfl ?_
  refine gx_iconst X d_Mo_prove_1 (v := nI 0) (by decide) ?_
  refine gx_puti X d_Mo_prove_2 (gci in_Mo) (HX _ rfl).1 (HX _ rfl).2 rfl 3 (by decide) (gcw X lk_Mo_85) (fun _ h => h) t_Mo ty_Mo nm_Mo rfl (ty_Mo 3 (by decide)) rfl rfl rfl ?_
  refine gx_iload_n X d_Mo_prove_5 rfl rfl ?_
  refine gx_iconst X d_Mo_prove_6 (v := nI 1) (by decide) ?_
  refine gx_icmp_lt X d_Mo_prove_7 (tgt := 16) (by decide) (fun h7 => ?_) (fun h7 => ?_)
  · exact absurd ((nI_ltI (by omega) (by omega)).mp h7) (by omega)
  · refine gx_iload_n X d_Mo_prove_10 rfl rfl ?_
    refine gx_bipush X d_Mo_prove_11 (v := nI 40) (by decide) ?_
    refine gx_icmp_le X d_Mo_prove_13 (tgt := 22) (by decide) (fun h13 => ?_) (fun h13 => ?_)
    · refine gx_iconst X d_Mo_prove_22 (v := nI 1) (by decide) ?_
      refine gx_istore_n X d_Mo_prove_23 rfl (by decide) ?_
      refine gx_iconst X d_Mo_prove_24 (v := nI 0) (by decide) ?_
      refine gx_istore_n X d_Mo_prove_25 rfl (by decide) ?_
      exact gx_el (loop f 0 z.beg (nI 1) _ L (by omega) c1.zero (Or.inl rfl) (fun _ => rfl) (by show nI 1 = cond (decide (nI 0 = nI 0)) (nI 1) (nI 0); decide) c2 hfin) ⟨rfl, rfl, rfl, rfl, trivial⟩
    · exact absurd ((nI_leI (by omega) (by omega)).mpr hf2) h13
end
