/-! the reference's refinement and proving (own text) -/
section
variable {l : Launch} {D : va_G} {ca : Nat → ClassId} {ks : List Nat} {lay : Nat → gxE} {ad : Nat → Nat} {F : Nat → Nat → Int32} {L : Nat → Nat → Int64} {N w ne np : Nat} {ef et ek ev : Nat → Nat} {tg : Nat → Nat → Option Nat} {sg : Nat → Nat} {es : List Nat}
set_option maxHeartbeats 16000000 in
theorem c_Mo_refine (HX : gH ks lay N sM) (hS : MsOK F w) (hE : MeOK F L w ne ef et ek ev tg) (hG : MgOK F L (2 ^ (3 * w)) np sg) (hP : EmOK F ne es) : Con l y_Mo_refine (Cond.code y_Mo_refine b_Mo_refine 5 (some .int) :: WT) rm_Mo_refine D vcl ca ks lay ad [xR 40] F L (fun r F' L' => r = some (xI (cond (rnM w ek ev tg es (np, sg)).1 (nI 0) (nI 3))) ∧ RfF F F' L L' ∧ MgOK F' L' (2 ^ (3 * w)) (rnM w ek ev tg es (np, sg)).2.1 (rnM w ek ev tg es (np, sg)).2.2) := by
  have hw : w < 4 := by have := hS.1; omega
  have hw0 : 0 < w := by have := hS.1; omega
  have hN := pu_N w hw
  have hnp := hG.1
  obtain ⟨p1, p2, p3⟩ := hP
  generalize hry : rfM w ek ev tg es.reverse [] (np, sg) = ry
  generalize hy : rnM w ek ev tg es (np, sg) = y
  have hy2 : y = if ry.1 = true then (if np < ry.2.1 then ry else avb (2 ^ (3 * w)) (3 * w) 0 ry.2) else ry := by rw [← hy]; unfold rnM; rw [hry]
  have hmono : np ≤ ry.2.1 := by rw [← hry]; exact rfM_mono es.reverse [] (np, sg)
  refine Con.ofK (fun post K => ?_)
  refine Con.of (ls := [(0, xR 40)]) (by decide) rfl rfl (Nat.le_of_ble_eq_true rfl) ?_
  intro p e s m args below meth c A X hr hA
  -- something has been added: the end
  have done : ∀ (v : Nat) (z : Nat × (Nat → Nat)) (G : Nat → Nat → Int32) (M : Nat → Nat → Int64), v ≤ 3 → RfF F G L M → MgOK G M (2 ^ (3 * w)) z.1 z.2 → ¬ z.1 = np → y = (true, z) → GX p l e rm_Mo_refine s m args below meth c (MQ below (gxQ D vcl ca ks lay ad s.heap.size post) args s 0 0 (gxA ks ad s.heap.size)) 5 A D vcl ca ks lay ad 0 0 70 [(2, xI (nI v)), (1, xI (nI np)), (0, xR 40)] [] G M := by
    intro v z G M hv hf hg hne hyz
    have hz := hg.1
    have e168 : GX p l e rm_Mo_refine s m args below meth c (MQ below (gxQ D vcl ca ks lay ad s.heap.size post) args s 0 0 (gxA ks ad s.heap.size)) 5 A D vcl ca ks lay ad 0 0 168 [(2, xI (nI v)), (1, xI (nI np)), (0, xR 40)] [] G M := by
      subst hyz
      refine gx_iconst X d_Mo_refine_168 (v := nI 0) (by decide) ?_
      refine gx_iret X hr hA d_Mo_refine_169 (K _ _ _ ⟨rfl, hf, hg⟩)
    refine gx_iload_n X d_Mo_refine_70 rfl rfl ?_
    refine gx_iconst X d_Mo_refine_71 (v := nI 3) (by decide) ?_
    refine gx_icmp_ge X d_Mo_refine_72 (tgt := 168) (by decide) (fun h72 => ?_) (fun h72 => ?_)
    · exact e168
    · refine gx_aload_n X d_Mo_refine_75 rfl rfl ?_
      refine gx_geti X d_Mo_refine_76 (gci in_Mo) (HX _ rfl).1 (HX _ rfl).2 rfl 12 (by decide) (gcw X lk_Mo_155) (fun _ h => h) rfl ?_
      refine gx_top hg.2.1 ?_
      refine gx_iload_n X d_Mo_refine_79 rfl rfl ?_
      refine gx_icmp_ne X d_Mo_refine_80 (tgt := 168) (by decide) (fun h80 => ?_) (fun h80 => ?_)
      · exact e168
      · exact absurd ((nI_eq (by omega) (by omega)).mp h80) hne
  -- the end of all bits
  have over : ∀ (z : Nat × (Nat → Nat)) (G : Nat → Nat → Int32) (M : Nat → Nat → Int64), RfF F G L M → MgOK G M (2 ^ (3 * w)) z.1 z.2 → y = (true, z) → GX p l e rm_Mo_refine s m args below meth c (MQ below (gxQ D vcl ca ks lay ad s.heap.size post) args s 0 0 (gxA ks ad s.heap.size)) 5 A D vcl ca ks lay ad 0 0 70 [(2, xI (nI 3)), (1, xI (nI np)), (0, xR 40)] [] G M := by
    intro z G M hf hg hyz
    subst hyz
    refine gx_iload_n X d_Mo_refine_70 rfl rfl ?_
    refine gx_iconst X d_Mo_refine_71 (v := nI 3) (by decide) ?_
    refine gx_icmp_ge X d_Mo_refine_72 (tgt := 168) (by decide) (fun h72 => ?_) (fun h72 => ?_)
    · refine gx_iconst X d_Mo_refine_168 (v := nI 0) (by decide) ?_
      refine gx_iret X hr hA d_Mo_refine_169 (K _ _ _ ⟨rfl, hf, hg⟩)
    · exact absurd (show nI 3 ≤ nI 3 by decide) h72
  -- the bits
  have main : ∀ (r v b : Nat) (z : Nat × (Nat → Nat)) (G : Nat → Nat → Int32) (M : Nat → Nat → Int64), v < 3 → b < w → v * w + b + r = 3 * w → RfF F G L M → MgOK G M (2 ^ (3 * w)) z.1 z.2 → z.1 = np → avb (2 ^ (3 * w)) r (v * w + b) z = y → GX p l e rm_Mo_refine s m args below meth c (MQ below (gxQ D vcl ca ks lay ad s.heap.size post) args s 0 0 (gxA ks ad s.heap.size)) 5 A D vcl ca ks lay ad 0 0 85 [(3, xI (nI b)), (2, xI (nI v)), (1, xI (nI np)), (0, xR 40)] [] G M := by
    intro r
    induction r with
    | zero =>
      intro v b z G M hv hb hrr hf hg hz hres
      exfalso
      have : v = 0 ∨ v = 1 ∨ v = 2 := by omega
      rcases this with rfl | rfl | rfl <;> omega
    | succ r ih =>
      intro v b z G M hv hb hrr hf hg hz hres
      have hS2 := hf.ms hS
      have hz12 := hg.1
      have hb3 : b < 3 := by omega
      generalize hj : v * w + b = j at hres
      have loopS : ∀ (d i : Nat) (G2 : Nat → Nat → Int32), i + d = 2 ^ (3 * w) → (∀ a, a ≠ 57 → G2 a = G a) → (∀ q, q < i → G2 57 q = cond (q.testBit j) 1 0) → GX p l e rm_Mo_refine s m args below meth c (MQ below (gxQ D vcl ca ks lay ad s.heap.size post) args s 0 0 (gxA ks ad s.heap.size)) 5 A D vcl ca ks lay ad 0 0 104 [(4, xI (nI i)), (3, xI (nI b)), (2, xI (nI v)), (1, xI (nI np)), (0, xR 40)] [] G2 M := by
        intro d
        induction d with
        | zero =>
          intro i G2 hd g1 g2
          have hf2 : RfF F G2 L M := ⟨fun a b1 b2 b3 b4 => by rw [g1 a b4]; exact hf.1 a b1 b2 b3 b4, fun j b1 b2 => by rw [g1 40 (by decide)]; exact hf.2.1 j b1 b2, hf.2.2⟩
          have hS3 := hf2.ms hS
          have hg2 : MgOK G2 M (2 ^ (3 * w)) z.1 z.2 := hg.of (by rw [g1 40 (by decide)]) (g1 48 (by decide)) rfl
          refine gx_iload X d_Mo_refine_104 rfl ?_
          refine gx_aload_n X d_Mo_refine_106 rfl rfl ?_
          refine gx_geti X d_Mo_refine_107 (gci in_Mo) (HX _ rfl).1 (HX _ rfl).2 rfl 2 (by decide) (gcw X lk_Mo_82) (fun _ h => h) rfl ?_
          refine gx_top hS3.2.2.2 ?_
          refine gx_icmp_ge X d_Mo_refine_110 (tgt := 146) (by decide) (fun h110 => ?_) (fun h110 => ?_)
          · refine gx_aload_n X d_Mo_refine_146 rfl rfl ?_
            refine gx_callV X d_Mo_refine_147 mf_Mo_offer lk_Mo_206 (c_Mo_offer HX hS3 hg2 (S := fun q => q.testBit j) (fun q hq => g2 q (by omega))) (HX _ rfl).1 (HX _ rfl).2 rfl rfl rfl (Nat.le_of_ble_eq_true rfl) ⟨by decide, by decide⟩ ⟨rfl, rfl⟩ ⟨Nat.zero_le _, Nat.zero_le _⟩ (fun r147 F147 L147 hp147 => ?_)
            obtain ⟨rfl, o1, o2, o3, o4⟩ := hp147
            have hf3 : RfF F F147 L L147 := ⟨fun a b1 b2 b3 b4 => by rw [o2 a b1 b2 b3]; exact hf2.1 a b1 b2 b3 b4, fun j b1 b2 => by rw [o3 j b1]; exact hf2.2.1 j b1 b2, fun a b1 b2 => by rw [o1 a b1]; exact hf2.2.2 a b1 b2⟩
            have hof := ofr_2 (N := 2 ^ (3 * w)) z r j
            have o4 : MgOK F147 L147 (2 ^ (3 * w)) (ofr (2 ^ (3 * w)) (fun q => q.testBit j) z).2.1 (ofr (2 ^ (3 * w)) (fun q => q.testBit j) z).2.2 := o4
            show GX p l e rm_Mo_refine s m args below meth c (MQ below (gxQ D vcl ca ks lay ad s.heap.size post) args s 0 0 (gxA ks ad s.heap.size)) 5 A D vcl ca ks lay ad 0 0 150 _ (xI (nI (ofr (2 ^ (3 * w)) (fun q => q.testBit j) z).1) :: []) F147 L147
            generalize ofr (2 ^ (3 * w)) (fun q => q.testBit j) z = o at hof o4 ⊢
            rcases hof with ⟨q1, q2, q3⟩ | ⟨q1, q2, q3⟩ | ⟨q1, q2, q3⟩
            · rw [q1]
              rw [q2] at o4
              rw [q3] at hres
              have hg4 := o4
              have h162 : v + 1 ≤ 3 → b + 1 = w → GX p l e rm_Mo_refine s m args below meth c (MQ below (gxQ D vcl ca ks lay ad s.heap.size post) args s 0 0 (gxA ks ad s.heap.size)) 5 A D vcl ca ks lay ad 0 0 162 [(2, xI (nI v)), (1, xI (nI np)), (0, xR 40)] [] F147 L147 := by
                intro hv3 hbw
                refine gx_iinc X d_Mo_refine_162 rfl (pu_inc _) ?_
                refine gx_goto X d_Mo_refine_165 (tgt := 70) (by decide) ?_
                by_cases e1 : v + 1 = 3
                · have hr0 : r = 0 := by
                    have : v = 2 := by omega
                    subst this
                    omega
                  subst hr0
                  rw [e1]
                  exact gx_el (over z F147 L147 hf3 hg4 hres.symm) ⟨rfl, rfl, rfl, trivial⟩
                · refine gx_iload_n X d_Mo_refine_70 rfl rfl ?_
                  refine gx_iconst X d_Mo_refine_71 (v := nI 3) (by decide) ?_
                  refine gx_icmp_ge X d_Mo_refine_72 (tgt := 168) (by decide) (fun h72 => ?_) (fun h72 => ?_)
                  · exact absurd ((nI_leI (by decide) (by omega)).mp h72) (by omega)
                  · refine gx_aload_n X d_Mo_refine_75 rfl rfl ?_
                    refine gx_geti X d_Mo_refine_76 (gci in_Mo) (HX _ rfl).1 (HX _ rfl).2 rfl 12 (by decide) (gcw X lk_Mo_155) (fun _ h => h) rfl ?_
                    refine gx_top hg4.2.1 ?_
                    refine gx_iload_n X d_Mo_refine_79 rfl rfl ?_
                    refine gx_icmp_ne X d_Mo_refine_80 (tgt := 168) (by decide) (fun h80 => ?_) (fun h80 => ?_)
                    · exact absurd (by rw [hz]) h80
                    · refine gx_iconst X d_Mo_refine_83 (v := nI 0) (by decide) ?_
                      refine gx_istore_n X d_Mo_refine_84 rfl (by decide) ?_
                      have hmul : (v + 1) * w + 0 = j + 1 := by rw [Nat.add_mul]; omega
                      refine gx_el (ih (v + 1) 0 z F147 L147 (by omega) hw0 (by omega) hf3 hg4 hz (by rw [hmul]; exact hres)) ⟨rfl, rfl, rfl, rfl, trivial⟩
              refine gx_iconst X d_Mo_refine_150 (v := nI 2) (by decide) ?_
              refine gx_icmp_ne X d_Mo_refine_151 (tgt := 156) (by decide) (fun h151 => ?_) (fun h151 => ?_)
              · refine gx_iinc X d_Mo_refine_156 rfl (pu_inc _) ?_
                refine gx_goto X d_Mo_refine_159 (tgt := 85) (by decide) ?_
                by_cases e1 : b + 1 < w
                · exact gx_el (ih v (b + 1) z F147 L147 hv e1 (by omega) hf3 hg4 hz (by rw [show v * w + (b + 1) = j + 1 by omega]; exact hres)) ⟨rfl, rfl, rfl, rfl, trivial⟩
                · refine gx_iload_n X d_Mo_refine_85 rfl rfl ?_
                  refine gx_aload_n X d_Mo_refine_86 rfl rfl ?_
                  refine gx_geti X d_Mo_refine_87 (gci in_Mo) (HX _ rfl).1 (HX _ rfl).2 rfl 0 (by decide) (gcw X lk_Mo_76) (fun _ h => h) rfl ?_
                  refine gx_top (hf3.ms hS).2.1 ?_
                  refine gx_icmp_ge X d_Mo_refine_90 (tgt := 162) (by decide) (fun h90 => ?_) (fun h90 => ?_)
                  · exact gx_el (h162 (by omega) (by omega)) ⟨rfl, rfl, rfl, trivial⟩
                  · exact absurd ((nI_leI (by omega) (by omega)).mpr (by omega)) h90
              · exact absurd h151 (by decide)
            · rw [q1]
              rw [q3] at hres
              have hne : ¬ o.2.1 = np := by omega
              have hz13 := o4.1
              have h162 : GX p l e rm_Mo_refine s m args below meth c (MQ below (gxQ D vcl ca ks lay ad s.heap.size post) args s 0 0 (gxA ks ad s.heap.size)) 5 A D vcl ca ks lay ad 0 0 162 [(2, xI (nI v)), (1, xI (nI np)), (0, xR 40)] [] F147 L147 := by
                refine gx_iinc X d_Mo_refine_162 rfl (pu_inc _) ?_
                refine gx_goto X d_Mo_refine_165 (tgt := 70) (by decide) ?_
                exact gx_el (done (v + 1) o.2 F147 L147 (by omega) hf3 o4 hne hres.symm) ⟨rfl, rfl, rfl, trivial⟩
              refine gx_iconst X d_Mo_refine_150 (v := nI 2) (by decide) ?_
              refine gx_icmp_ne X d_Mo_refine_151 (tgt := 156) (by decide) (fun h151 => ?_) (fun h151 => ?_)
              · refine gx_iinc X d_Mo_refine_156 rfl (pu_inc _) ?_
                refine gx_goto X d_Mo_refine_159 (tgt := 85) (by decide) ?_
                refine gx_iload_n X d_Mo_refine_85 rfl rfl ?_
                refine gx_aload_n X d_Mo_refine_86 rfl rfl ?_
                refine gx_geti X d_Mo_refine_87 (gci in_Mo) (HX _ rfl).1 (HX _ rfl).2 rfl 0 (by decide) (gcw X lk_Mo_76) (fun _ h => h) rfl ?_
                refine gx_top (hf3.ms hS).2.1 ?_
                refine gx_icmp_ge X d_Mo_refine_90 (tgt := 162) (by decide) (fun h90 => ?_) (fun h90 => ?_)
                · exact gx_el h162 ⟨rfl, rfl, rfl, trivial⟩
                · refine gx_aload_n X d_Mo_refine_93 rfl rfl ?_
                  refine gx_geti X d_Mo_refine_94 (gci in_Mo) (HX _ rfl).1 (HX _ rfl).2 rfl 12 (by decide) (gcw X lk_Mo_155) (fun _ h => h) rfl ?_
                  refine gx_top o4.2.1 ?_
                  refine gx_iload_n X d_Mo_refine_97 rfl rfl ?_
                  refine gx_icmp_ne X d_Mo_refine_98 (tgt := 162) (by decide) (fun h98 => ?_) (fun h98 => ?_)
                  · exact gx_el h162 ⟨rfl, rfl, rfl, trivial⟩
                  · exact absurd ((nI_eq (by omega) (by omega)).mp h98) hne
              · exact absurd h151 (by decide)
            · rw [q1]
              rw [q2] at o4
              rw [q3] at hres
              subst hres
              refine gx_iconst X d_Mo_refine_150 (v := nI 2) (by decide) ?_
              refine gx_icmp_ne X d_Mo_refine_151 (tgt := 156) (by decide) (fun h151 => ?_) (fun h151 => ?_)
              · exact absurd rfl h151
              · refine gx_iconst X d_Mo_refine_154 (v := nI 3) (by decide) ?_
                refine gx_iret X hr hA d_Mo_refine_155 (K _ _ _ ⟨rfl, hf3, o4⟩)
          · exact absurd ((nI_leI (by omega) (by omega)).mpr (by omega)) h110
        | succ d ih2 =>
          intro i G2 hd g1 g2
          have hS3 : MsOK G2 w := hS2.of (fun j hj => by rw [g1 40 (by decide)])
          have hiN : i < 2 ^ (3 * w) := by omega
          have hdgl : dg w i v < 8 := Nat.lt_of_lt_of_le (Nat.mod_lt _ (Nat.two_pow_pos w)) (pu_p8 w hw)
          have hdiv : dg w i v / 2 ^ b < 2 ^ 31 := Nat.lt_of_le_of_lt (Nat.div_le_self _ _) (by omega)
          have hbit : (nI (dg w i v) >>> (nI b &&& 31)) &&& nI 1 = nI (dg w i v / 2 ^ b % 2) := by
            rw [pk_shrN (by omega) _ b (sm32 b (by omega)).1, pk_and _ 1 bit_dec, nI_nat hdiv]
          have htb : i.testBit j = decide (dg w i v / 2 ^ b % 2 = 1) := by
            rw [Nat.testBit_eq_decide_div_mod_eq, ← hj, Nat.eq_of_beq_eq_true (bit_v w hw v hv b hb3 hb i (by omega))]
          have next : GX p l e rm_Mo_refine s m args below meth c (MQ below (gxQ D vcl ca ks lay ad s.heap.size post) args s 0 0 (gxA ks ad s.heap.size)) 5 A D vcl ca ks lay ad 0 0 140 [(4, xI (nI i)), (3, xI (nI b)), (2, xI (nI v)), (1, xI (nI np)), (0, xR 40)] [] (gxu G2 57 i (cond (i.testBit j) 1 0)) M := by
            refine gx_iinc X d_Mo_refine_140 rfl (pu_inc _) ?_
            refine gx_goto X d_Mo_refine_143 (tgt := 104) (by decide) ?_
            refine gx_el (ih2 (i + 1) _ (by omega) (fun a b1 => by rw [gxu_cell b1]; exact g1 a b1) (fun q hq => ?_)) ⟨rfl, rfl, rfl, rfl, rfl, trivial⟩
            by_cases e4 : q = i
            · rw [e4, gxu_at]
            · rw [gxu_ne (fun z => e4 z.2)]; exact g2 q (by omega)
          rw [htb] at next
          refine gx_iload X d_Mo_refine_104 rfl ?_
          refine gx_aload_n X d_Mo_refine_106 rfl rfl ?_
          refine gx_geti X d_Mo_refine_107 (gci in_Mo) (HX _ rfl).1 (HX _ rfl).2 rfl 2 (by decide) (gcw X lk_Mo_82) (fun _ h => h) rfl ?_
          refine gx_top hS3.2.2.2 ?_
          refine gx_icmp_ge X d_Mo_refine_110 (tgt := 146) (by decide) (fun h110 => ?_) (fun h110 => ?_)
          · exact absurd ((nI_leI (by omega) (by omega)).mp h110) (by omega)
          · refine gx_aload_n X d_Mo_refine_113 rfl rfl ?_
            refine gx_getr X d_Mo_refine_114 (gci in_Mo) (HX _ rfl).1 (HX _ rfl).2 rfl 28 (by decide) (gcw X lk_Mo_66) (fun _ h => h) rfl ?_
            refine gx_iload X d_Mo_refine_117 rfl ?_
            refine gx_aload_n X d_Mo_refine_119 rfl rfl ?_
            refine gx_iload X d_Mo_refine_120 rfl ?_
            refine gx_iload_n X d_Mo_refine_122 rfl rfl ?_
            refine gx_callV X d_Mo_refine_123 mf_Mo_valueOf lk_Mo_108 (c_Mo_valueOf HX hS3 (st := i) (v := v) (by omega) hv) (HX _ rfl).1 (HX _ rfl).2 rfl rfl rfl (Nat.le_of_ble_eq_true rfl) ⟨by decide, by decide⟩ ⟨rfl, rfl⟩ ⟨Nat.zero_le _, Nat.zero_le _⟩ (fun r123 F123 L123 hp123 => ?_)
            obtain ⟨rfl, rfl, rfl⟩ := hp123
            refine gx_iload_n X d_Mo_refine_126 rfl rfl ?_
            refine gx_ishr X d_Mo_refine_127 ?_
            refine gx_iconst X d_Mo_refine_128 (v := nI 1) (by decide) ?_
            refine gx_iand X d_Mo_refine_129 ?_
            refine gx_top hbit ?_
            have hm2 : dg w i v / 2 ^ b % 2 < 2 := Nat.mod_lt _ (by decide)
            refine gx_iconst X d_Mo_refine_130 (v := nI 1) (by decide) ?_
            refine gx_icmp_ne X d_Mo_refine_131 (tgt := 138) (by decide) (fun h131 => ?_) (fun h131 => ?_)
            · have hne : ¬ dg w i v / 2 ^ b % 2 = 1 := fun q => h131 (by rw [q])
              rw [decide_eq_false hne] at next
              refine gx_iconst X d_Mo_refine_138 (v := nI 0) (by decide) ?_
              refine gx_zast X d_Mo_refine_139 (v := 0) (HX _ rfl).1 (HX _ rfl).2 rfl (by omega) (by omega) (by first | decide | exact zn_cond _) ?_
              exact next
            · have hee : dg w i v / 2 ^ b % 2 = 1 := (nI_eq (by omega) (by decide)).mp h131
              rw [decide_eq_true hee] at next
              refine gx_iconst X d_Mo_refine_134 (v := nI 1) (by decide) ?_
              refine gx_goto X d_Mo_refine_135 (tgt := 139) (by decide) ?_
              refine gx_zast X d_Mo_refine_139 (v := 1) (HX _ rfl).1 (HX _ rfl).2 rfl (by omega) (by omega) (by first | decide | exact zn_cond _) ?_
              exact next
      refine gx_iload_n X d_Mo_refine_85 rfl rfl ?_
      refine gx_aload_n X d_Mo_refine_86 rfl rfl ?_
      refine gx_geti X d_Mo_refine_87 (gci in_Mo) (HX _ rfl).1 (HX _ rfl).2 rfl 0 (by decide) (gcw X lk_Mo_76) (fun _ h => h) rfl ?_
      refine gx_top hS2.2.1 ?_
      refine gx_icmp_ge X d_Mo_refine_90 (tgt := 162) (by decide) (fun h90 => ?_) (fun h90 => ?_)
      · exact absurd ((nI_leI (by omega) (by omega)).mp h90) (by omega)
      · refine gx_aload_n X d_Mo_refine_93 rfl rfl ?_
        refine gx_geti X d_Mo_refine_94 (gci in_Mo) (HX _ rfl).1 (HX _ rfl).2 rfl 12 (by decide) (gcw X lk_Mo_155) (fun _ h => h) rfl ?_
        refine gx_top hg.2.1 ?_
        refine gx_iload_n X d_Mo_refine_97 rfl rfl ?_
        refine gx_icmp_ne X d_Mo_refine_98 (tgt := 162) (by decide) (fun h98 => ?_) (fun h98 => ?_)
        · exact absurd (by rw [hz]) h98
        · refine gx_iconst X d_Mo_refine_101 (v := nI 0) (by decide) ?_
          refine gx_istore X d_Mo_refine_102 (by decide) ?_
          exact gx_el (loopS (2 ^ (3 * w)) 0 G (by omega) (fun _ _ => rfl) (fun q hq => absurd hq (Nat.not_lt_zero q))) ⟨rfl, rfl, rfl, rfl, rfl, trivial⟩
  -- the way, from its end
  have loopO : ∀ (c0 : Nat) (ts : List (Nat → Bool)) (z : Nat × (Nat → Nat)) (G : Nat → Nat → Int32) (M : Nat → Nat → Int64), c0 + ts.length ≤ es.length → rfM w ek ev tg (es.take c0).reverse ts z = ry → RfF F G L M → MgOK G M (2 ^ (3 * w)) z.1 z.2 → TmOK G M (2 ^ (3 * w)) ts → GX p l e rm_Mo_refine s m args below meth c (MQ below (gxQ D vcl ca ks lay ad s.heap.size post) args s 0 0 (gxA ks ad s.heap.size)) 5 A D vcl ca ks lay ad 0 0 17 [(2, xI (nI c0 - nI 1)), (1, xI (nI np)), (0, xR 40)] [] G M := by
    intro c0
    induction c0 with
    | zero =>
      intro ts z G M hl hres hf hg hT
      have hres : (true, z) = ry := hres
      have hz12 := hg.1
      rw [← hres] at hy2 hmono
      rw [if_pos rfl] at hy2
      have hmono : np ≤ z.1 := hmono
      refine gx_iload_n X d_Mo_refine_17 rfl rfl ?_
      refine gx_if_lt X d_Mo_refine_18 (tgt := 68) (by decide) (fun h18 => ?_) (fun h18 => ?_)
      · refine gx_iconst X d_Mo_refine_68 (v := nI 0) (by decide) ?_
        refine gx_istore_n X d_Mo_refine_69 rfl (by decide) ?_
        by_cases e1 : z.1 = np
        · rw [if_neg (by show ¬ np < z.1; omega)] at hy2
          refine gx_iload_n X d_Mo_refine_70 rfl rfl ?_
          refine gx_iconst X d_Mo_refine_71 (v := nI 3) (by decide) ?_
          refine gx_icmp_ge X d_Mo_refine_72 (tgt := 168) (by decide) (fun h72 => ?_) (fun h72 => ?_)
          · exact absurd h72 (by decide)
          · refine gx_aload_n X d_Mo_refine_75 rfl rfl ?_
            refine gx_geti X d_Mo_refine_76 (gci in_Mo) (HX _ rfl).1 (HX _ rfl).2 rfl 12 (by decide) (gcw X lk_Mo_155) (fun _ h => h) rfl ?_
            refine gx_top hg.2.1 ?_
            refine gx_iload_n X d_Mo_refine_79 rfl rfl ?_
            refine gx_icmp_ne X d_Mo_refine_80 (tgt := 168) (by decide) (fun h80 => ?_) (fun h80 => ?_)
            · exact absurd (by rw [e1]) h80
            · refine gx_iconst X d_Mo_refine_83 (v := nI 0) (by decide) ?_
              refine gx_istore_n X d_Mo_refine_84 rfl (by decide) ?_
              refine gx_el (main (3 * w) 0 0 z G M (by decide) hw0 (by omega) hf hg e1 ?_) ⟨rfl, rfl, rfl, rfl, trivial⟩
              rw [Nat.zero_mul]
              exact hy2.symm
        · rw [if_pos (by show np < z.1; omega)] at hy2
          exact gx_el (done 0 z G M (by decide) hf hg e1 hy2) ⟨rfl, rfl, rfl, trivial⟩
      · exact absurd (show nI 0 - nI 1 < 0 by decide) h18
    | succ c0 ih =>
      intro ts z G M hl hres hf hg hT
      have hsub : nI (c0 + 1) - nI 1 = nI c0 := by rw [pk_sub (by omega)]; rfl
      obtain ⟨a1, a2⟩ := p3 c0 (by omega)
      rw [take_s 0 (by omega), List.reverse_append] at hres
      have hres : rfM w ek ev tg (es.getD c0 0 :: (es.take c0).reverse) ts z = ry := hres
      generalize es.getD c0 0 = e0 at a1 a2 hres
      rw [rfM] at hres
      have hpl := paM_len w ek ev tg e0 ts
      rw [hsub]
      refine gx_iload_n X d_Mo_refine_17 rfl rfl ?_
      refine gx_if_lt X d_Mo_refine_18 (tgt := 68) (by decide) (fun h18 => ?_) (fun h18 => ?_)
      · exact absurd h18 (nI_pos (by omega))
      · refine gx_aload_n X d_Mo_refine_21 rfl rfl ?_
        refine gx_aload_n X d_Mo_refine_22 rfl rfl ?_
        refine gx_getr X d_Mo_refine_23 (gci in_Mo) (HX _ rfl).1 (HX _ rfl).2 rfl 22 (by decide) (gcw X lk_Mo_54) (fun _ h => h) rfl ?_
        refine gx_iload_n X d_Mo_refine_26 rfl rfl ?_
        refine gx_iald X d_Mo_refine_27 (HX _ rfl).1 (HX _ rfl).2 rfl (by omega) (by omega) ?_
        refine gx_top (y := nI e0) (by rw [hf.1 53 (by decide) (by decide) (by decide) (by decide)]; exact a1) ?_
        refine gx_callV X d_Mo_refine_28 mf_Mo_along lk_Mo_203 (c_Mo_along HX (hf.ms hS) (hf.me hE) hT (by omega) a2) (HX _ rfl).1 (HX _ rfl).2 rfl rfl rfl (Nat.le_of_ble_eq_true rfl) ⟨by decide, by decide⟩ ⟨rfl, rfl⟩ ⟨Nat.zero_le _, Nat.zero_le _⟩ (fun r28 F28 L28 hp28 => ?_)
        obtain ⟨rfl, o1, o2, o3, o4⟩ := hp28
        have hf2 : RfF F F28 L L28 := ⟨fun a b1 b2 b3 b4 => by rw [o2 a b1 b3 b4]; exact hf.1 a b1 b2 b3 b4, fun j b1 b2 => by rw [o3 j b2]; exact hf.2.1 j b1 b2, fun a b1 b2 => by rw [o1 a b2]; exact hf.2.2 a b1 b2⟩
        have hg2 : MgOK F28 L28 (2 ^ (3 * w)) z.1 z.2 := hg.of (o3 12 (by decide)) (o2 48 (by decide) (by decide) (by decide)) (o1 47 (by decide))
        generalize paM w ek ev tg e0 ts = tt at *
        generalize haz : adM (2 ^ (3 * w)) tt z = az at hres
        have loopI : ∀ (d k : Nat) (z2 : Nat × (Nat → Nat)) (G : Nat → Nat → Int32) (M : Nat → Nat → Int64), k + d = tt.length → adM (2 ^ (3 * w)) (tt.drop k) z2 = az → RfF F G L M → MgOK G M (2 ^ (3 * w)) z2.1 z2.2 → TmOK G M (2 ^ (3 * w)) tt → GX p l e rm_Mo_refine s m args below meth c (MQ below (gxQ D vcl ca ks lay ad s.heap.size post) args s 0 0 (gxA ks ad s.heap.size)) 5 A D vcl ca ks lay ad 0 0 33 [(3, xI (nI k)), (2, xI (nI c0)), (1, xI (nI np)), (0, xR 40)] [] G M := by
          intro d
          induction d with
          | zero =>
            intro k z2 G M hd hr2 f1 f2 f3
            rw [List.drop_eq_nil_of_le (by omega)] at hr2
            have hr2 : (true, z2) = az := hr2
            rw [← hr2, if_pos rfl] at hres
            refine gx_iload_n X d_Mo_refine_33 rfl rfl ?_
            refine gx_aload_n X d_Mo_refine_34 rfl rfl ?_
            refine gx_geti X d_Mo_refine_35 (gci in_Mo) (HX _ rfl).1 (HX _ rfl).2 rfl 26 (by decide) (gcw X lk_Mo_190) (fun _ h => h) rfl ?_
            refine gx_top f3.1 ?_
            refine gx_icmp_ge X d_Mo_refine_38 (tgt := 62) (by decide) (fun h38 => ?_) (fun h38 => ?_)
            · refine gx_iinc X d_Mo_refine_62 rfl (v := nI c0 - nI 1) (sub_m1 _) ?_
              refine gx_goto X d_Mo_refine_65 (tgt := 17) (by decide) ?_
              exact gx_el (ih tt z2 G M (by omega) hres f1 f2 f3) ⟨rfl, rfl, rfl, trivial⟩
            · exact absurd ((nI_leI (by omega) (by omega)).mpr (by omega)) h38
          | succ d ih2 =>
            intro k z2 G M hd hr2 f1 f2 f3
            have hk : k < tt.length := by omega
            have hS2 := f1.ms hS
            have hdr : tt.drop k = tt.getD k (fun _ => false) :: tt.drop (k + 1) := by
              rw [List.drop_eq_getElem_cons hk, List.getD_eq_getElem?_getD, List.getElem?_eq_getElem hk]
              rfl
            rw [hdr] at hr2
            have hcur := f3.2 k hk
            refine gx_iload_n X d_Mo_refine_33 rfl rfl ?_
            refine gx_aload_n X d_Mo_refine_34 rfl rfl ?_
            refine gx_geti X d_Mo_refine_35 (gci in_Mo) (HX _ rfl).1 (HX _ rfl).2 rfl 26 (by decide) (gcw X lk_Mo_190) (fun _ h => h) rfl ?_
            refine gx_top f3.1 ?_
            refine gx_icmp_ge X d_Mo_refine_38 (tgt := 62) (by decide) (fun h38 => ?_) (fun h38 => ?_)
            · exact absurd ((nI_leI (by omega) (by omega)).mp h38) (by omega)
            · refine gx_aload_n X d_Mo_refine_41 rfl rfl ?_
              refine gx_iload_n X d_Mo_refine_42 rfl rfl ?_
              refine gx_callV X d_Mo_refine_43 mf_Mo_fetch lk_Mo_193 (c_Mo_fetch HX hS2 (k := k) (by omega)) (HX _ rfl).1 (HX _ rfl).2 rfl rfl rfl (Nat.le_of_ble_eq_true rfl) ⟨by decide, by decide⟩ ⟨rfl, rfl⟩ ⟨Nat.zero_le _, Nat.zero_le _⟩ (fun r43 F43 L43 hp43 => ?_)
              obtain ⟨rfl, rfl, m1, m2⟩ := hp43
              have m2 := m2.congr hcur
              generalize tt.getD k (fun _ => false) = Sk at *
              have g1 : RfF F F43 L L43 := ⟨fun a b1 b2 b3 b4 => by rw [m1 a b4]; exact f1.1 a b1 b2 b3 b4, fun j b1 b2 => by rw [m1 40 (by decide)]; exact f1.2.1 j b1 b2, f1.2.2⟩
              have g2 : MgOK F43 L43 (2 ^ (3 * w)) z2.1 z2.2 := f2.of (by rw [m1 40 (by decide)]) (m1 48 (by decide)) rfl
              refine gx_aload_n X d_Mo_refine_46 rfl rfl ?_
              refine gx_callV X d_Mo_refine_47 mf_Mo_offer lk_Mo_206 (c_Mo_offer HX (g1.ms hS) g2 m2) (HX _ rfl).1 (HX _ rfl).2 rfl rfl rfl (Nat.le_of_ble_eq_true rfl) ⟨by decide, by decide⟩ ⟨rfl, rfl⟩ ⟨Nat.zero_le _, Nat.zero_le _⟩ (fun r47 F47 L47 hp47 => ?_)
              obtain ⟨rfl, u1, u2, u3, u4⟩ := hp47
              have g3 : RfF F F47 L L47 := ⟨fun a b1 b2 b3 b4 => by rw [u2 a b1 b2 b3]; exact g1.1 a b1 b2 b3 b4, fun j b1 b2 => by rw [u3 j b1]; exact g1.2.1 j b1 b2, fun a b1 b2 => by rw [u1 a b1]; exact g1.2.2 a b1 b2⟩
              have g4 : TmOK F47 L47 (2 ^ (3 * w)) tt := ⟨by rw [u3 26 (by decide), m1 40 (by decide)]; exact f3.1, fun k hk q hq => by rw [bB_of (u1 56 (by decide))]; exact f3.2 k hk q hq⟩
              have hof := ofr_1 (N := 2 ^ (3 * w)) Sk z2 (tt.drop (k + 1))
              have u4 : MgOK F47 L47 (2 ^ (3 * w)) (ofr (2 ^ (3 * w)) Sk z2).2.1 (ofr (2 ^ (3 * w)) Sk z2).2.2 := u4
              have ho2 : (ofr (2 ^ (3 * w)) Sk z2).1 < 3 := by unfold ofr; split <;> (try split) <;> simp
              show GX p l e rm_Mo_refine s m args below meth c (MQ below (gxQ D vcl ca ks lay ad s.heap.size post) args s 0 0 (gxA ks ad s.heap.size)) 5 A D vcl ca ks lay ad 0 0 50 _ (xI (nI (ofr (2 ^ (3 * w)) Sk z2).1) :: []) F47 L47
              generalize ofr (2 ^ (3 * w)) Sk z2 = o at hof u4 ho2 ⊢
              rcases hof with ⟨q1, q2⟩ | ⟨q1, q2, q3⟩
              · rw [q2] at hr2
                refine gx_iconst X d_Mo_refine_50 (v := nI 2) (by decide) ?_
                refine gx_icmp_ne X d_Mo_refine_51 (tgt := 56) (by decide) (fun h51 => ?_) (fun h51 => ?_)
                · refine gx_iinc X d_Mo_refine_56 rfl (pu_inc _) ?_
                  refine gx_goto X d_Mo_refine_59 (tgt := 33) (by decide) ?_
                  exact gx_el (ih2 (k + 1) o.2 F47 L47 (by omega) hr2 g3 u4 g4) ⟨rfl, rfl, rfl, rfl, trivial⟩
                · exact absurd ((nI_eq (by omega) (by decide)).mp h51) q1
              · rw [q3] at hr2
                rw [q2] at u4
                rw [← hr2, if_neg (show ¬ false = true by decide)] at hres
                have hyf : y = (false, z2) := by rw [hy2, ← hres, if_neg (show ¬ false = true by decide)]
                subst hyf
                rw [q1]
                refine gx_iconst X d_Mo_refine_50 (v := nI 2) (by decide) ?_
                refine gx_icmp_ne X d_Mo_refine_51 (tgt := 56) (by decide) (fun h51 => ?_) (fun h51 => ?_)
                · exact absurd rfl h51
                · refine gx_iconst X d_Mo_refine_54 (v := nI 3) (by decide) ?_
                  refine gx_iret X hr hA d_Mo_refine_55 (K _ _ _ ⟨rfl, g3, u4⟩)
        refine gx_iconst X d_Mo_refine_31 (v := nI 0) (by decide) ?_
        refine gx_istore_n X d_Mo_refine_32 rfl (by decide) ?_
        exact gx_el (loopI tt.length 0 z F28 L28 (by omega) (by rw [List.drop_zero]; exact haz) hf2 hg2 o4) ⟨rfl, rfl, rfl, rfl, trivial⟩
  refine gx_aload_n X d_Mo_refine_0 rfl rfl ?_
  refine gx_iconst X d_Mo_refine_1 (v := nI 0) (by decide) ?_
  refine gx_puti X d_Mo_refine_2 (gci in_Mo) (HX _ rfl).1 (HX _ rfl).2 rfl 26 (by decide) (gcw X lk_Mo_190) (fun _ h => h) t_Mo ty_Mo nm_Mo rfl (ty_Mo 26 (by decide)) rfl rfl rfl ?_
  refine gx_aload_n X d_Mo_refine_5 rfl rfl ?_
  refine gx_geti X d_Mo_refine_6 (gci in_Mo) (HX _ rfl).1 (HX _ rfl).2 rfl 12 (by decide) (gcw X lk_Mo_155) (fun _ h => h) rfl ?_
  refine gx_top (y := nI np) (by rw [gxu_ne (by decide)]; exact hG.2.1) ?_
  refine gx_istore_n X d_Mo_refine_9 rfl (by decide) ?_
  refine gx_aload_n X d_Mo_refine_10 rfl rfl ?_
  refine gx_geti X d_Mo_refine_11 (gci in_Mo) (HX _ rfl).1 (HX _ rfl).2 rfl 21 (by decide) (gcw X lk_Mo_51) (fun _ h => h) rfl ?_
  refine gx_top (y := nI es.length) (by rw [gxu_ne (by decide)]; exact p2) ?_
  refine gx_iconst X d_Mo_refine_14 (v := nI 1) (by decide) ?_
  refine gx_isub X d_Mo_refine_15 ?_
  refine gx_istore_n X d_Mo_refine_16 rfl (by decide) ?_
  refine gx_el (loopO es.length [] (np, sg) _ L (by simp) (by rw [List.take_length]; exact hry) ⟨fun a b1 _ _ _ => gxu_cell b1, fun j _ b2 => gxu_ne (fun z => b2 z.2), fun _ _ _ => rfl⟩ (hG.of (gxu_ne (by decide)) (gxu_cell (by decide)) rfl) ⟨gxu_at, fun k hk => absurd hk (Nat.not_lt_zero k)⟩) ⟨rfl, rfl, rfl, trivial⟩
end
