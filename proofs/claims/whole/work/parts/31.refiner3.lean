section
variable {l : Launch} {D : va_G} {ca : Nat → ClassId} {ks : List Nat} {lay : Nat → gxE} {ad : Nat → Nat} {F : Nat → Nat → Int32} {L : Nat → Nat → Int64} {w np : Nat} {sg : Nat → Nat} {ne : Nat} {ef et ek ev : Nat → Nat} {tg : Nat → Nat → Option Nat}
noncomputable def splB (N : Nat) (sg : Nat → Nat) (S : Nat → Bool) : Bool := @decide (spl N sg S) (Classical.propDecidable _)
theorem splB_iff {N : Nat} {sg : Nat → Nat} {S : Nat → Bool} : splB N sg S = true ↔ spl N sg S := by
  unfold splB
  exact @decide_eq_true_iff _ (Classical.propDecidable _)
/-- the sets i, i + 1 .. are offered, one after the other -/
noncomputable def adp (N : Nat) (Tf : Nat → Nat → Bool) : Nat → Nat → Nat × (Nat → Nat) → Bool × Nat × (Nat → Nat)
  | 0, _, z => (true, z)
  | r + 1, i, z => if splB N z.2 (Tf i) = true then (if z.1 = 12 then (false, z) else adp N Tf r (i + 1) (z.1 + 1, exS z.2 z.1 (Tf i))) else adp N Tf r (i + 1) z
theorem adp_skip {N : Nat} {Tf : Nat → Nat → Bool} {z : Nat × (Nat → Nat)} : ∀ (j r i : Nat), (∀ x, x < j → splB N z.2 (Tf (i + x)) = false) → adp N Tf (r + j) i z = adp N Tf r (i + j) z
  | 0, r, i, _ => rfl
  | j + 1, r, i, h => by
    have h0 := h 0 (by omega)
    rw [Nat.add_zero] at h0
    rw [show r + (j + 1) = (r + j) + 1 by omega, adp, if_neg (by rw [h0]; decide)]
    rw [adp_skip j r (i + 1) (fun x hx => by have := h (x + 1) (by omega); rw [show i + 1 + x = i + (x + 1) by omega]; exact this)]
    rw [show i + 1 + j = i + (j + 1) by omega]
/-- the sets with their count -/
def mkT (t : Nat × (Nat → Nat → Bool)) : Nat → Nat → Bool := fun i q => decide (i < t.1) && t.2 i q
theorem spl_congr {N : Nat} {S S2 : Nat → Bool} (h : ∀ q, q < N → S q = S2 q) : spl N sg S ↔ spl N sg S2 := by
  unfold spl
  constructor
  · rintro ⟨a, b, h1, h2, h3, h4⟩
    exact ⟨a, b, h1, h2, h3, by rw [← h a h1, ← h b h2]; exact h4⟩
  · rintro ⟨a, b, h1, h2, h3, h4⟩
    exact ⟨a, b, h1, h2, h3, by rw [h a h1, h b h2]; exact h4⟩
theorem GrOK.congr {N : Nat} {sg2 : Nat → Nat} (h : GrOK F N np sg) (e : ∀ q, q < N → sg q = sg2 q) : GrOK F N np sg2 := by
  have hp : ∀ p, prs N sg p = prs N sg2 p := fun p => by
    cases hb : prs N sg2 p with
    | true =>
      obtain ⟨s, a, b⟩ := prs_iff.mp hb
      exact prs_iff.mpr ⟨s, a, by rw [e s a]; exact b⟩
    | false => exact prs_false.mpr (fun s a b => prs_false.mp hb s a (by rw [← e s a]; exact b))
  have hpf : prs N sg = prs N sg2 := funext hp
  have hrk : ∀ q, q < N → rk N sg q = rk N sg2 q := fun q hq => by unfold rk; rw [hpf, e q hq]
  have hgc : ∀ g t, t ≤ N → gcn N sg g t = gcn N sg2 g t := fun g t ht => by
    unfold gcn
    exact cnt_ext (fun i hi => by rw [hrk i (by omega)])
  have hgp : ∀ q, q < N → gps N sg q = gps N sg2 q := fun q hq => by
    unfold gps
    rw [hrk q hq, hgc _ (q + 1) (by omega)]
    congr 1
    exact sm_ext (fun i _ => hgc i N (Nat.le_refl _))
  obtain ⟨⟨a1, a2, a3⟩, b, c, d, f⟩ := h
  refine ⟨⟨a1, a2, fun s hs => by rw [← e s hs]; exact a3 s hs⟩, by rw [← hpf]; exact b, fun s hs => by rw [← hrk s hs]; exact c s hs, fun g hg => ?_, fun s hs => by rw [← hgp s hs]; exact f s hs⟩
  rw [← hpf] at hg
  rw [d g hg]
  congr 1
  exact sm_ext (fun i _ => hgc i N (Nat.le_refl _))
theorem lor0 {v : Int64} : v = 0 ↔ ∀ j, j < 64 → tb v j = false := by
  constructor
  · intro h j _
    rw [h, tb_0]
  · intro h
    exact tb_ext (fun i hi => by rw [h i hi, tb_0])
set_option maxHeartbeats 8000000 in
theorem c_Rf_adoptTaken (HX : gH ks lay (2 ^ (3 * w)) sX) (hS : SpOK F w) (hG : GrOK F (2 ^ (3 * w)) np sg) {n : Nat} {Tf : Nat → Nat → Bool} (hn : n ≤ 256) (h6 : F 33 6 = nI n) (hT : TkOK L (2 ^ (3 * w)) Tf n) : Con l y_Rf_adoptTaken (Cond.code y_Rf_adoptTaken b_Rf_adoptTaken 5 (some .boolean) :: WT) rm_Rf_adoptTaken D vcl ca ks lay ad [xR 33] F L (fun r F' L' => r = some (xI (cond (adp (2 ^ (3 * w)) (mkT (n, Tf)) (64 * ((n + 63) / 64)) 0 (np, sg)).1 (nI 1) (nI 0))) ∧ L' = L ∧ (∀ a, ¬ (14 ≤ a ∧ a ≤ 19) → F' a = F a) ∧ GrOK F' (2 ^ (3 * w)) (adp (2 ^ (3 * w)) (mkT (n, Tf)) (64 * ((n + 63) / 64)) 0 (np, sg)).2.1 (adp (2 ^ (3 * w)) (mkT (n, Tf)) (64 * ((n + 63) / 64)) 0 (np, sg)).2.2) := by
  have hw : w < 4 := by have := hS.1; omega
  have hN := pu_N w hw
  generalize hz : adp (2 ^ (3 * w)) (mkT (n, Tf)) (64 * ((n + 63) / 64)) 0 (np, sg) = z
  have hTm : ∀ i, i < 64 * ((n + 63) / 64) → ∀ q, q < 2 ^ (3 * w) → tb (L (rK (i / 64)) q) (i % 64) = mkT (n, Tf) i q := hT
  refine Con.ofK (fun post K => ?_)
  refine Con.of (ls := [(0, xR 33)]) (by decide) rfl rfl (Nat.le_of_ble_eq_true rfl) ?_
  intro p e s m args below meth c A X hr hA
  refine gx_iconst X d_Rf_adoptTaken_0 (v := nI 0) (by decide) ?_
  refine gx_istore_n X d_Rf_adoptTaken_1 rfl (by decide) ?_
  have outer : ∀ (d r0 np2 : Nat) (sg2 : Nat → Nat) (G : Nat → Nat → Int32), r0 + d = (n + 63) / 64 → (∀ a, ¬ (14 ≤ a ∧ a ≤ 19) → G a = F a) → GrOK G (2 ^ (3 * w)) np2 sg2 → adp (2 ^ (3 * w)) (mkT (n, Tf)) (64 * d) (64 * r0) (np2, sg2) = z → GX p l e rm_Rf_adoptTaken s m args below meth c (MQ below (gxQ D vcl ca ks lay ad s.heap.size post) args s 0 0 (gxA ks ad s.heap.size)) 5 A D vcl ca ks lay ad 0 0 2 [(1, xI (nI r0)), (0, xR 33)] [] G L := by
    intro d
    induction d with
    | zero =>
      intro r0 np2 sg2 G hd hfr hG2 hres
      have hres : (true, np2, sg2) = z := hres
      refine gx_iload_n X d_Rf_adoptTaken_2 rfl rfl ?_
      refine gx_aload_n X d_Rf_adoptTaken_3 rfl rfl ?_
      refine gx_callV X d_Rf_adoptTaken_4 mf_Rf_rowsInUse lk_Rf_83 (c_Rf_rowsInUse HX (n := n) hn (by rw [hfr 33 (by omega)]; exact h6)) (HX _ rfl).1 (HX _ rfl).2 rfl rfl rfl (Nat.le_of_ble_eq_true rfl) ⟨by decide, by decide⟩ ⟨rfl, rfl⟩ ⟨Nat.zero_le _, Nat.zero_le _⟩ (fun r4 F4 L4 hp4 => ?_)
      obtain ⟨rfl, rfl, rfl⟩ := hp4
      rw [← hres] at K
      refine gx_icmp_ge X d_Rf_adoptTaken_7 (tgt := 104) (by decide) (fun h7 => ?_) (fun h7 => ?_)
      · refine gx_iconst X d_Rf_adoptTaken_104 (v := nI 1) (by decide) ?_
        refine gx_zret X hr (by first | rfl | decide) hA d_Rf_adoptTaken_105 (K _ _ _ ⟨rfl, rfl, hfr, hG2⟩)
      · exact absurd ((nI_leI (by omega) (by omega)).mpr (by omega)) h7
    | succ d ih =>
      intro r0 np2 sg2 G hd hfr hG2 hres
      have hr4 : r0 < 4 := by omega
      refine gx_iload_n X d_Rf_adoptTaken_2 rfl rfl ?_
      refine gx_aload_n X d_Rf_adoptTaken_3 rfl rfl ?_
      refine gx_callV X d_Rf_adoptTaken_4 mf_Rf_rowsInUse lk_Rf_83 (c_Rf_rowsInUse HX (n := n) hn (by rw [hfr 33 (by omega)]; exact h6)) (HX _ rfl).1 (HX _ rfl).2 rfl rfl rfl (Nat.le_of_ble_eq_true rfl) ⟨by decide, by decide⟩ ⟨rfl, rfl⟩ ⟨Nat.zero_le _, Nat.zero_le _⟩ (fun r4 F4 L4 hp4 => ?_)
      obtain ⟨rfl, rfl, rfl⟩ := hp4
      refine gx_icmp_ge X d_Rf_adoptTaken_7 (tgt := 104) (by decide) (fun h7 => ?_) (fun h7 => ?_)
      · exact absurd ((nI_leI (by omega) (by omega)).mp h7) (by omega)
      · -- a row's bits, as they split
        have bitsOK : ∀ (np3 : Nat) (sg3 : Nat → Nat) (v : Int64), (∀ b, b < 64 → (tb v b = true ↔ spl (2 ^ (3 * w)) sg3 (fun q => tb (L4 (rK r0) q) b))) → ∀ b, b < 64 → (tb v b = true ↔ splB (2 ^ (3 * w)) sg3 (mkT (n, Tf) (64 * r0 + b)) = true) := by
          intro np3 sg3 v hv b hb
          rw [hv b hb, splB_iff]
          apply spl_congr
          intro q hq
          have := hTm (64 * r0 + b) (by omega) q hq
          rw [show (64 * r0 + b) / 64 = r0 by omega, show (64 * r0 + b) % 64 = b by omega] at this
          exact this
        have inner : ∀ (dc b np3 : Nat) (sg3 : Nat → Nat) (v : Int64) (G : Nat → Nat → Int32), b + dc = 64 → (∀ a, ¬ (14 ≤ a ∧ a ≤ 19) → G a = F a) → GrOK G (2 ^ (3 * w)) np3 sg3 → (∀ j, j < 64 → (tb v j = true ↔ splB (2 ^ (3 * w)) sg3 (mkT (n, Tf) (64 * r0 + j)) = true)) → adp (2 ^ (3 * w)) (mkT (n, Tf)) (64 * d + dc) (64 * r0 + b) (np3, sg3) = z → GX p l e rm_Rf_adoptTaken s m args below meth c (MQ below (gxQ D vcl ca ks lay ad s.heap.size post) args s 0 0 (gxA ks ad s.heap.size)) 5 A D vcl ca ks lay ad 0 0 27 [(4, xI (nI b)), (2, xL v), (1, xI (nI r0)), (0, xR 33)] [] G L4 := by
          intro dc
          induction dc with
          | zero =>
            intro b np3 sg3 v G hb hfr3 hG3 hv hres3
            refine gx_iload X d_Rf_adoptTaken_27 rfl ?_
            refine gx_bipush X d_Rf_adoptTaken_29 (v := nI 64) (by decide) ?_
            refine gx_icmp_ge X d_Rf_adoptTaken_31 (tgt := 98) (by decide) (fun h31 => ?_) (fun h31 => ?_)
            · refine gx_iinc X d_Rf_adoptTaken_98 rfl (pu_inc _) ?_
              refine gx_goto X d_Rf_adoptTaken_101 (tgt := 2) (by decide) ?_
              exact gx_el (ih (r0 + 1) np3 sg3 G (by omega) hfr3 hG3 (by rw [← hres3, show 64 * (r0 + 1) = 64 * r0 + b by omega]; rfl)) ⟨rfl, rfl, trivial⟩
            · exact absurd ((nI_leI (by decide) (by omega)).mpr (by omega)) h31
          | succ dc ihc =>
            intro b np3 sg3 v G hb hfr3 hG3 hv hres3
            have hnp3 : np3 ≤ 12 := hG3.1.1
            refine gx_iload X d_Rf_adoptTaken_27 rfl ?_
            refine gx_bipush X d_Rf_adoptTaken_29 (v := nI 64) (by decide) ?_
            refine gx_icmp_ge X d_Rf_adoptTaken_31 (tgt := 98) (by decide) (fun h31 => ?_) (fun h31 => ?_)
            · exact absurd ((nI_leI (by decide) (by omega)).mp h31) (by omega)
            · refine gx_lload_n X d_Rf_adoptTaken_34 rfl rfl ?_
              refine gx_lconst X d_Rf_adoptTaken_35 (v := 0) (by decide) ?_
              refine gx_lcmp X d_Rf_adoptTaken_36 ?_
              refine gx_if_eq X d_Rf_adoptTaken_37 (tgt := 98) (by decide) (fun h37 => ?_) (fun h37 => ?_)
              · rw [lg_cmp_eq] at h37
                have hall := lor0.mp h37
                have hsk := adp_skip (N := 2 ^ (3 * w)) (Tf := mkT (n, Tf)) (z := (np3, sg3)) (dc + 1) (64 * d) (64 * r0 + b) (fun x hx => by
                  cases hs : splB (2 ^ (3 * w)) (np3, sg3).2 (mkT (n, Tf) (64 * r0 + b + x)) with
                  | false => rfl
                  | true =>
                    have := (hv (b + x) (by omega)).mpr (by rw [show 64 * r0 + (b + x) = 64 * r0 + b + x by omega]; exact hs)
                    rw [hall (b + x) (by omega)] at this
                    cases this)
                rw [hsk] at hres3
                refine gx_iinc X d_Rf_adoptTaken_98 rfl (pu_inc _) ?_
                refine gx_goto X d_Rf_adoptTaken_101 (tgt := 2) (by decide) ?_
                exact gx_el (ih (r0 + 1) np3 sg3 G (by omega) hfr3 hG3 (by rw [← hres3, show 64 * (r0 + 1) = 64 * r0 + b + (dc + 1) by omega])) ⟨rfl, rfl, trivial⟩
              · refine gx_lload_n X d_Rf_adoptTaken_40 rfl rfl ?_
                refine gx_iload X d_Rf_adoptTaken_41 rfl ?_
                refine gx_lushr X d_Rf_adoptTaken_43 rfl ?_
                refine gx_lconst X d_Rf_adoptTaken_44 (v := 1) (by decide) ?_
                refine gx_land X d_Rf_adoptTaken_45 ?_
                refine gx_topl (tb_get _ (by omega)) ?_
                rw [show 64 * d + (dc + 1) = (64 * d + dc) + 1 by omega, adp] at hres3
                refine gx_lconst X d_Rf_adoptTaken_46 (v := 0) (by decide) ?_
                refine gx_lcmp X d_Rf_adoptTaken_47 ?_
                refine gx_if_ne X d_Rf_adoptTaken_48 (tgt := 54) (by decide) (fun h48 => ?_) (fun h48 => ?_)
                · have hbt : tb v b = true := by
                    cases hx : tb v b with
                    | true => rfl
                    | false => exact absurd ((lg_cmp_eq _ _).mpr (ite_cond.mpr hx)) h48
                  rw [if_pos ((hv b (by omega)).mp hbt)] at hres3
                  refine gx_aload_n X d_Rf_adoptTaken_54 rfl rfl ?_
                  refine gx_getr X d_Rf_adoptTaken_55 (gci in_Rf) (HX _ rfl).1 (HX _ rfl).2 rfl 2 (by decide) (gcw X lk_Rf_23) (fun _ h => h) rfl ?_
                  refine gx_callV X d_Rf_adoptTaken_58 mf_Gr_isFull lk_Rf_112 (c_Gr_isFull (HX.mono sG_X) hnp3 hG3.1.2.1) (HX _ rfl).1 (HX _ rfl).2 rfl rfl rfl (Nat.le_of_ble_eq_true rfl) ⟨by decide, by decide⟩ ⟨rfl, rfl⟩ ⟨Nat.zero_le _, Nat.zero_le _⟩ (fun r58 F58 L58 hp58 => ?_)
                  obtain ⟨rfl, rfl, rfl⟩ := hp58
                  refine gx_if_eq X d_Rf_adoptTaken_61 (tgt := 66) (by decide) (fun h61 => ?_) (fun h61 => ?_)
                  · have hlt : ¬ 12 ≤ np3 := of_decide_eq_false (cb_f h61)
                    rw [if_neg (by show ¬ np3 = 12; omega)] at hres3
                    refine gx_aload_n X d_Rf_adoptTaken_66 rfl rfl ?_
                    refine gx_aload_n X d_Rf_adoptTaken_67 rfl rfl ?_
                    refine gx_getr X d_Rf_adoptTaken_68 (gci in_Rf) (HX _ rfl).1 (HX _ rfl).2 rfl 4 (by decide) (gcw X lk_Rf_38) (fun _ h => h) rfl ?_
                    refine gx_iload_n X d_Rf_adoptTaken_71 rfl rfl ?_
                    refine gx_aald X d_Rf_adoptTaken_72 (HX _ rfl).1 (HX _ rfl).2 rfl rfl rfl (by omega) (by omega) ?_
                    refine gx_iload X d_Rf_adoptTaken_73 rfl ?_
                    refine gx_callV X d_Rf_adoptTaken_75 mf_Rf_adopt lk_Rf_115 (c_Rf_adopt HX (hS.of (hfr3 1 (by omega))) hG3 (by omega) (k := rK r0) (b := b) (hxK HX hr4).1 (hxK HX hr4).2 (by omega)) (HX _ rfl).1 (HX _ rfl).2 rfl rfl rfl (Nat.le_of_ble_eq_true rfl) ⟨by decide, by decide⟩ ⟨rfl, rfl⟩ ⟨Nat.zero_le _, Nat.zero_le _⟩ (fun r75 F75 L75 hp75 => ?_)
                    obtain ⟨rfl, rfl, q1, q2⟩ := hp75
                    have q2' : GrOK F75 (2 ^ (3 * w)) (np3 + 1) (exS sg3 np3 (mkT (n, Tf) (64 * r0 + b))) := q2.congr (fun q hq => by
                      unfold exS
                      have := hTm (64 * r0 + b) (by omega) q hq
                      rw [show (64 * r0 + b) / 64 = r0 by omega, show (64 * r0 + b) % 64 = b by omega] at this
                      simp only [this])
                    have hfr4 : ∀ a, ¬ (14 ≤ a ∧ a ≤ 19) → F75 a = F a := fun a ha => by rw [q1 a ha]; exact hfr3 a ha
                    refine gx_aload_n X d_Rf_adoptTaken_78 rfl rfl ?_
                    refine gx_getr X d_Rf_adoptTaken_79 (gci in_Rf) (HX _ rfl).1 (HX _ rfl).2 rfl 2 (by decide) (gcw X lk_Rf_23) (fun _ h => h) rfl ?_
                    refine gx_aload_n X d_Rf_adoptTaken_82 rfl rfl ?_
                    refine gx_getr X d_Rf_adoptTaken_83 (gci in_Rf) (HX _ rfl).1 (HX _ rfl).2 rfl 4 (by decide) (gcw X lk_Rf_38) (fun _ h => h) rfl ?_
                    refine gx_iload_n X d_Rf_adoptTaken_86 rfl rfl ?_
                    refine gx_aald X d_Rf_adoptTaken_87 (HX _ rfl).1 (HX _ rfl).2 rfl rfl rfl (by omega) (by omega) ?_
                    refine gx_callV X d_Rf_adoptTaken_88 mf_Gr_splitting lk_Rf_108 (c_Gr_splitting (HX.mono sG_X) (hS.of (hfr4 1 (by omega))) q2' (k := rK r0) (hxK HX hr4).1 (hxK HX hr4).2) (HX _ rfl).1 (HX _ rfl).2 rfl rfl rfl (Nat.le_of_ble_eq_true rfl) ⟨by decide, by decide⟩ ⟨rfl, rfl⟩ ⟨Nat.zero_le _, Nat.zero_le _⟩ (fun r88 F88 L88 hp88 => ?_)
                    obtain ⟨v2, rfl, rfl, rfl, hv2⟩ := hp88
                    refine gx_lstore_n X d_Rf_adoptTaken_91 rfl (by decide) ?_
                    refine gx_iinc X d_Rf_adoptTaken_92 rfl (pu_inc _) ?_
                    refine gx_goto X d_Rf_adoptTaken_95 (tgt := 27) (by decide) ?_
                    exact gx_el (ihc (b + 1) (np3 + 1) _ v2 F88 (by omega) hfr4 q2' (bitsOK (np3 + 1) _ v2 hv2) hres3) ⟨rfl, rfl, rfl, rfl, trivial⟩
                  · have hge : 12 ≤ np3 := of_decide_eq_true (cb_t h61)
                    rw [if_pos (by show np3 = 12; omega)] at hres3
                    rw [← hres3] at K
                    refine gx_iconst X d_Rf_adoptTaken_64 (v := nI 0) (by decide) ?_
                    refine gx_zret X hr (by first | rfl | decide) hA d_Rf_adoptTaken_65 (K _ _ _ ⟨rfl, rfl, hfr3, hG3⟩)
                · rw [lg_cmp_eq] at h48
                  have hbf := ite_cond.mp h48
                  rw [if_neg (fun z => by rw [(hv b (by omega)).mpr z] at hbf; cases hbf)] at hres3
                  refine gx_goto X d_Rf_adoptTaken_51 (tgt := 92) (by decide) ?_
                  refine gx_iinc X d_Rf_adoptTaken_92 rfl (pu_inc _) ?_
                  refine gx_goto X d_Rf_adoptTaken_95 (tgt := 27) (by decide) ?_
                  exact gx_el (ihc (b + 1) np3 sg3 v G (by omega) hfr3 hG3 hv hres3) ⟨rfl, rfl, rfl, rfl, trivial⟩
        refine gx_aload_n X d_Rf_adoptTaken_10 rfl rfl ?_
        refine gx_getr X d_Rf_adoptTaken_11 (gci in_Rf) (HX _ rfl).1 (HX _ rfl).2 rfl 2 (by decide) (gcw X lk_Rf_23) (fun _ h => h) rfl ?_
        refine gx_aload_n X d_Rf_adoptTaken_14 rfl rfl ?_
        refine gx_getr X d_Rf_adoptTaken_15 (gci in_Rf) (HX _ rfl).1 (HX _ rfl).2 rfl 4 (by decide) (gcw X lk_Rf_38) (fun _ h => h) rfl ?_
        refine gx_iload_n X d_Rf_adoptTaken_18 rfl rfl ?_
        refine gx_aald X d_Rf_adoptTaken_19 (HX _ rfl).1 (HX _ rfl).2 rfl rfl rfl (by omega) (by omega) ?_
        refine gx_callV X d_Rf_adoptTaken_20 mf_Gr_splitting lk_Rf_108 (c_Gr_splitting (HX.mono sG_X) (hS.of (hfr 1 (by omega))) hG2 (k := rK r0) (hxK HX hr4).1 (hxK HX hr4).2) (HX _ rfl).1 (HX _ rfl).2 rfl rfl rfl (Nat.le_of_ble_eq_true rfl) ⟨by decide, by decide⟩ ⟨rfl, rfl⟩ ⟨Nat.zero_le _, Nat.zero_le _⟩ (fun r20 F20 L20 hp20 => ?_)
        obtain ⟨v, rfl, rfl, rfl, hv⟩ := hp20
        refine gx_lstore_n X d_Rf_adoptTaken_23 rfl (by decide) ?_
        refine gx_iconst X d_Rf_adoptTaken_24 (v := nI 0) (by decide) ?_
        refine gx_istore X d_Rf_adoptTaken_25 (by decide) ?_
        exact gx_el (inner 64 0 np2 sg2 v F20 (by omega) hfr hG2 (bitsOK np2 sg2 v hv) (by rw [← hres, show 64 * (d + 1) = 64 * d + 64 by omega]; rfl)) ⟨rfl, rfl, rfl, rfl, trivial⟩
  exact gx_el (outer ((n + 63) / 64) 0 np sg F (by omega) (fun _ _ => rfl) hG hz) ⟨rfl, rfl, trivial⟩
end
