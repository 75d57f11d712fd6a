/-! the reference's predicate and edge (own text) -/
section
variable {l : Launch} {D : va_G} {ca : Nat → ClassId} {ks : List Nat} {lay : Nat → gxE} {ad : Nat → Nat} {F : Nat → Nat → Int32} {L : Nat → Nat → Int64} {N w n : Nat} {z : kS}
/-- all but the search -/
def MO0 (F : Nat → Nat → Int32) (L : Nat → Nat → Int64) (w : Nat) (z : kS) : Prop := MsOK F w ∧ MlV F z.n z.ln ∧ MeOK F L w z.ne z.ef z.et z.ek z.ev z.tg ∧ MgOK F L (2 ^ (3 * w)) z.np z.sg
theorem MOK.zero (h : MOK F L w z) : MO0 F L w z := ⟨h.1, h.2.1, h.2.2.1, h.2.2.2.1⟩
/-- the search forgotten -/
theorem MO0.fgt {G : Nat → Nat → Int32} (h : MO0 F L w z) (hG : G = gxu (gxu (gxu (gxu F 40 15 (-1)) 40 16 (nI 0)) 40 21 (-1)) 40 23 (nI 0)) : MOK G L w z.fgt ∧ G 40 3 = F 40 3 := by
  obtain ⟨k1, k2, k3, k4⟩ := h
  have g1 : ∀ a, a ≠ 40 → G a = F a := fun a b1 => by rw [hG, gxu_cell b1, gxu_cell b1, gxu_cell b1, gxu_cell b1]
  have g2 : ∀ j, j ≠ 15 → j ≠ 16 → j ≠ 21 → j ≠ 23 → G 40 j = F 40 j := fun j b1 b2 b3 b4 => by rw [hG, gxu_ne (fun q => b4 q.2), gxu_ne (fun q => b3 q.2), gxu_ne (fun q => b2 q.2), gxu_ne (fun q => b1 q.2)]
  refine ⟨⟨k1.of (fun j hj => g2 j (by omega) (by omega) (by omega) (by omega)), k2.of (g2 5 (by decide) (by decide) (by decide) (by decide)) (g1 41 (by decide)), k3.of (g2 6 (by decide) (by decide) (by decide) (by decide)) (fun a ha => g1 a (by omega)) rfl, k4.of (g2 12 (by decide) (by decide) (by decide) (by decide)) (g1 48 (by decide)) rfl, ⟨Nat.zero_le _, ?_, fun k hk => absurd hk (Nat.not_lt_zero k)⟩, ?_, ⟨Nat.zero_le _, ?_, fun i hi => absurd hi (Nat.not_lt_zero i)⟩, ?_⟩, g2 3 (by decide) (by decide) (by decide) (by decide)⟩
  · rw [hG, gxu_ne (by decide), gxu_ne (by decide), gxu_at]; rfl
  · show G 40 21 = -1
    rw [hG, gxu_ne (by decide), gxu_at]
  · rw [hG, gxu_at]; rfl
  · show G 40 15 = -1
    rw [hG, gxu_ne (by decide), gxu_ne (by decide), gxu_ne (by decide), gxu_at]
theorem lnAt_congr {f g : Nat → Int32} (h : f = g) (i : Nat) : lnAt n f i = lnAt n g i := by rw [h]
set_option maxHeartbeats 8000000 in
theorem m_predicate (HX : gH ks lay N sM) (hz : MOK F L w z) : Con l y_Mo_predicate (Cond.code y_Mo_predicate b_Mo_predicate 3 (some .int) :: WT) rm_Mo_predicate D vcl ca ks lay ad [xR 40] F L (fun r F' L' => ((ptAtom z.n z.ln 0).1 = false → r = some (xI (nI 0)) ∧ F' 40 3 = nI 1 ∧ MOK F' L' w z) ∧ ((ptAtom z.n z.ln 0).1 = true → z.np = 12 → r = some (xI (nI 0)) ∧ F' 40 3 = nI 2 ∧ MOK F' L' w z) ∧ ((ptAtom z.n z.ln 0).1 = true → z.np < 12 → r = some (xI (nI z.np)) ∧ F' 40 3 = nI 0 ∧ MOK F' L' w ((z.prd w (ptAtom z.n z.ln 0).2).wip.fgt))) := by
  have hw : w < 4 := by have := hz.1.1; omega
  have hN := pu_N w hw
  obtain ⟨c1, c2⟩ := hz.c0
  obtain ⟨k1, ⟨l1, l2, l3, l4⟩, k3, k4, k5, k6, k7, k8⟩ := id c1
  have hnz := c1.2.1.nz
  have hat : (ptAtom z.n z.ln 0).1 = (rlA z.n z.ln 0).isSome := rlA_atom l1 hnz 0
  have hnp := k4.1
  refine Con.ofK (fun post K => ?_)
  refine Con.of (ls := [(0, xR 40)]) (by decide) rfl rfl (Nat.le_of_ble_eq_true rfl) ?_
  intro p e s m args below meth c A X hr hA
  refine gx_aload_n X d_Mo_predicate_0 rfl rfl ?_
  refine gx_iconst X d_Mo_predicate_1 (v := nI 0) (by decide) ?_
  refine gx_puti X d_Mo_predicate_2 (gci in_Mo) (HX _ rfl).1 (HX _ rfl).2 rfl 3 (by decide) (gcw X lk_Mo_85) (fun _ h => h) t_Mo ty_Mo nm_Mo rfl (ty_Mo 3 (by decide)) rfl rfl rfl ?_
  refine gx_aload_n X d_Mo_predicate_5 rfl rfl ?_
  refine gx_iconst X d_Mo_predicate_6 (v := nI 0) (by decide) ?_
  refine gx_callV X d_Mo_predicate_7 mf_Mo_relationAt lk_Mo_135 (c_Mo_relationAt HX l1 l2 (b := 0) (by decide)) (HX _ rfl).1 (HX _ rfl).2 rfl rfl rfl (Nat.le_of_ble_eq_true rfl) ⟨by decide, by decide⟩ ⟨rfl, rfl⟩ ⟨Nat.zero_le _, Nat.zero_le _⟩ (fun r7 F7 L7 hp7 => ?_)
  obtain ⟨rfl, hF, hL⟩ := hp7
  rw [hF, hL, l3]
  cases hrl : rlA z.n z.ln 0 with
  | none =>
    rw [hrl] at hat
    refine gx_istore_n X d_Mo_predicate_10 rfl (by decide) ?_
    refine gx_iload_n X d_Mo_predicate_11 rfl rfl ?_
    refine gx_if_ge X d_Mo_predicate_12 (tgt := 21) (by decide) (fun h12 => ?_) (fun h12 => ?_)
    · exact absurd h12 (by decide)
    · refine gx_aload_n X d_Mo_predicate_15 rfl rfl ?_
      refine gx_iconst X d_Mo_predicate_16 (v := nI 1) (by decide) ?_
      refine gx_callV X d_Mo_predicate_17 mf_Mo_fail lk_Mo_132 (c_Mo_fail HX (nI 1)) (HX _ rfl).1 (HX _ rfl).2 rfl rfl rfl (Nat.le_of_ble_eq_true rfl) ⟨by decide, by decide⟩ ⟨rfl, rfl⟩ ⟨Nat.zero_le _, Nat.zero_le _⟩ (fun r17 F17 L17 hp17 => ?_)
      obtain ⟨rfl, hF2, rfl⟩ := hp17
      obtain ⟨b1, b2⟩ := hz.no (nI 1)
      refine gx_iret X hr hA d_Mo_predicate_20 (K _ _ _ ⟨fun _ => ⟨rfl, by rw [hF2]; exact b2, by rw [hF2]; exact b1⟩, fun q => (by rw [hat] at q; exact absurd q (by decide)), fun q => (by rw [hat] at q; exact absurd q (by decide))⟩)
  | some rel =>
    rw [hrl] at hat
    have hat : (ptAtom z.n z.ln 0).1 = true := hat
    obtain ⟨r1, -⟩ := rlA_val (q := 0) hw (by have := k1.1; omega) l1 hrl
    refine gx_istore_n X d_Mo_predicate_10 rfl (by decide) ?_
    refine gx_iload_n X d_Mo_predicate_11 rfl rfl ?_
    refine gx_if_ge X d_Mo_predicate_12 (tgt := 21) (by decide) (fun h12 => ?_) (fun h12 => ?_)
    · refine gx_aload_n X d_Mo_predicate_21 rfl rfl ?_
      refine gx_geti X d_Mo_predicate_22 (gci in_Mo) (HX _ rfl).1 (HX _ rfl).2 rfl 12 (by decide) (gcw X lk_Mo_155) (fun _ h => h) rfl ?_
      refine gx_top k4.2.1 ?_
      by_cases e12 : z.np = 12
      · refine gx_bipush X d_Mo_predicate_25 (v := nI 12) (by decide) ?_
        refine gx_icmp_ne X d_Mo_predicate_27 (tgt := 36) (by decide) (fun h27 => ?_) (fun h27 => ?_)
        · exact absurd (by rw [e12]) h27
        · refine gx_aload_n X d_Mo_predicate_30 rfl rfl ?_
          refine gx_iconst X d_Mo_predicate_31 (v := nI 2) (by decide) ?_
          refine gx_callV X d_Mo_predicate_32 mf_Mo_fail lk_Mo_132 (c_Mo_fail HX (nI 2)) (HX _ rfl).1 (HX _ rfl).2 rfl rfl rfl (Nat.le_of_ble_eq_true rfl) ⟨by decide, by decide⟩ ⟨rfl, rfl⟩ ⟨Nat.zero_le _, Nat.zero_le _⟩ (fun r32 F32 L32 hp32 => ?_)
          obtain ⟨rfl, hF2, rfl⟩ := hp32
          obtain ⟨b1, b2⟩ := hz.no (nI 2)
          refine gx_iret X hr hA d_Mo_predicate_35 (K _ _ _ ⟨fun q => (by rw [hat] at q; cases q), fun _ _ => ⟨rfl, by rw [hF2]; exact b2, by rw [hF2]; exact b1⟩, fun _ q => absurd q (by omega)⟩)
      · have hlt : z.np < 12 := by omega
        generalize hcode : (ptAtom z.n z.ln 0).2 = code
        rw [hcode] at K
        refine gx_bipush X d_Mo_predicate_25 (v := nI 12) (by decide) ?_
        refine gx_icmp_ne X d_Mo_predicate_27 (tgt := 36) (by decide) (fun h27 => ?_) (fun h27 => ?_)
        · refine gx_iconst X d_Mo_predicate_36 (v := nI 0) (by decide) ?_
          refine gx_istore_n X d_Mo_predicate_37 rfl (by decide) ?_
          have loop : ∀ (d i : Nat) (G : Nat → Nat → Int32), i + d = 2 ^ (3 * w) → (∀ a, a ≠ 57 → a ≠ 58 → a ≠ 59 → G a = gxu F 40 3 (nI 0) a) → (∀ q, q < i → G 57 q = cond (Nat.blt 0 (vlC w q code)) 1 0) → GX p l e rm_Mo_predicate s m args below meth c (MQ below (gxQ D vcl ca ks lay ad s.heap.size post) args s 0 0 (gxA ks ad s.heap.size)) 3 A D vcl ca ks lay ad 0 0 38 [(2, xI (nI i)), (1, xI (nI rel)), (0, xR 40)] [] G L := by
            intro d
            induction d with
            | zero =>
              intro i G hd f1 f2
              have g1 : ∀ a, a ≠ 57 → a ≠ 58 → a ≠ 59 → G a = gxu F 40 3 (nI 0) a := f1
              have g40 := f1 40 (by decide) (by decide) (by decide)
              have hS2 : MsOK G w := k1.of (fun j hj => by rw [g40])
              refine gx_iload_n X d_Mo_predicate_38 rfl rfl ?_
              refine gx_aload_n X d_Mo_predicate_39 rfl rfl ?_
              refine gx_geti X d_Mo_predicate_40 (gci in_Mo) (HX _ rfl).1 (HX _ rfl).2 rfl 2 (by decide) (gcw X lk_Mo_82) (fun _ h => h) rfl ?_
              refine gx_top hS2.2.2.2 ?_
              refine gx_icmp_ge X d_Mo_predicate_43 (tgt := 65) (by decide) (fun h43 => ?_) (fun h43 => ?_)
              · refine gx_aload_n X d_Mo_predicate_65 rfl rfl ?_
                refine gx_callV X d_Mo_predicate_66 mf_Mo_addWork lk_Mo_158 (c_Mo_addWork HX hS2 (k4.of (by rw [g40]) (f1 48 (by decide) (by decide) (by decide)) rfl) hlt (S := fun q => Nat.blt 0 (vlC w q code)) (fun q hq => f2 q (by omega))) (HX _ rfl).1 (HX _ rfl).2 rfl rfl rfl (Nat.le_of_ble_eq_true rfl) ⟨by decide, by decide⟩ ⟨rfl, rfl⟩ ⟨Nat.zero_le _, Nat.zero_le _⟩ (fun r66 F66 L66 hp66 => ?_)
                obtain ⟨rfl, a1, a2, a3, a4⟩ := hp66
                refine gx_aload_n X d_Mo_predicate_69 rfl rfl ?_
                refine gx_iconst X d_Mo_predicate_70 (v := nI 0) (by decide) ?_
                refine gx_puti X d_Mo_predicate_71 (gci in_Mo) (HX _ rfl).1 (HX _ rfl).2 rfl 5 (by decide) (gcw X lk_Mo_88) (fun _ h => h) t_Mo ty_Mo nm_Mo rfl (ty_Mo 5 (by decide)) rfl rfl rfl ?_
                refine gx_aload_n X d_Mo_predicate_74 rfl rfl ?_
                have m0 : MO0 (gxu F66 40 5 (nI 0)) L66 w (z.prd w code).wip := by
                  refine ⟨k1.of (fun j hj => by rw [gxu_ne (by omega), a3 j (by omega), g40]), ⟨Nat.zero_le _, gxu_at, by rw [gxu_cell (by decide), a2 41 (by decide) (by decide), f1 41 (by decide) (by decide) (by decide)]; exact l3, fun i hi => absurd hi (Nat.not_lt_zero i)⟩, k3.of (by rw [gxu_ne (by decide), a3 6 (by decide), g40]) (fun a ha => by rw [gxu_cell (by omega), a2 a (by omega) (by omega), f1 a (by omega) (by omega) (by omega)]) (a1 46 (by decide)), a4.of (gxu_ne (by decide)) (gxu_cell (by decide)) rfl⟩
                refine gx_callV X d_Mo_predicate_75 mf_Mo_forget lk_Mo_145 (c_Mo_forget HX) (HX _ rfl).1 (HX _ rfl).2 rfl rfl rfl (Nat.le_of_ble_eq_true rfl) ⟨by decide, by decide⟩ ⟨rfl, rfl⟩ ⟨Nat.zero_le _, Nat.zero_le _⟩ (fun r75 F75 L75 hp75 => ?_)
                obtain ⟨rfl, hF2, rfl⟩ := hp75
                obtain ⟨m1, m2⟩ := m0.fgt hF2
                refine gx_aload_n X d_Mo_predicate_78 rfl rfl ?_
                refine gx_geti X d_Mo_predicate_79 (gci in_Mo) (HX _ rfl).1 (HX _ rfl).2 rfl 12 (by decide) (gcw X lk_Mo_155) (fun _ h => h) rfl ?_
                refine gx_top (y := nI (z.np + 1)) m1.2.2.2.1.2.1 ?_
                refine gx_iconst X d_Mo_predicate_82 (v := nI 1) (by decide) ?_
                refine gx_isub X d_Mo_predicate_83 ?_
                refine gx_top (y := nI z.np) (by rw [pk_sub (by omega)]; rfl) ?_
                refine gx_iret X hr hA d_Mo_predicate_84 (K _ _ _ ⟨fun q => (by rw [hat] at q; cases q), fun _ q => absurd q (by omega), fun _ _ => ⟨rfl, by rw [m2, gxu_ne (by decide), a3 3 (by decide), g40]; exact c2, m1⟩⟩)
              · exact absurd ((nI_leI (by omega) (by omega)).mpr (by omega)) h43
            | succ d ih =>
              intro i G hd f1 f2
              have g40 := f1 40 (by decide) (by decide) (by decide)
              have g41 : G 41 = z.ln := (f1 41 (by decide) (by decide) (by decide)).trans l3
              have hS2 : MsOK G w := k1.of (fun j hj => by rw [g40])
              refine gx_iload_n X d_Mo_predicate_38 rfl rfl ?_
              refine gx_aload_n X d_Mo_predicate_39 rfl rfl ?_
              refine gx_geti X d_Mo_predicate_40 (gci in_Mo) (HX _ rfl).1 (HX _ rfl).2 rfl 2 (by decide) (gcw X lk_Mo_82) (fun _ h => h) rfl ?_
              refine gx_top hS2.2.2.2 ?_
              refine gx_icmp_ge X d_Mo_predicate_43 (tgt := 65) (by decide) (fun h43 => ?_) (fun h43 => ?_)
              · exact absurd ((nI_leI (by omega) (by omega)).mp h43) (by omega)
              · refine gx_aload_n X d_Mo_predicate_46 rfl rfl ?_
                refine gx_getr X d_Mo_predicate_47 (gci in_Mo) (HX _ rfl).1 (HX _ rfl).2 rfl 28 (by decide) (gcw X lk_Mo_66) (fun _ h => h) rfl ?_
                refine gx_iload_n X d_Mo_predicate_50 rfl rfl ?_
                refine gx_aload_n X d_Mo_predicate_51 rfl rfl ?_
                refine gx_iconst X d_Mo_predicate_52 (v := nI 0) (by decide) ?_
                refine gx_iload_n X d_Mo_predicate_53 rfl rfl ?_
                refine gx_iload_n X d_Mo_predicate_54 rfl rfl ?_
                refine gx_callV X d_Mo_predicate_55 mf_Mo_atom lk_Mo_141 (c_Mo_atom HX hS2 l1 (by rw [g40]; exact l2) (b := 0) (rel := rel) (q := i) (by omega) (by rw [g41]; exact hrl)) (HX _ rfl).1 (HX _ rfl).2 rfl rfl rfl (Nat.le_of_ble_eq_true rfl) ⟨by decide, by decide⟩ ⟨rfl, rfl⟩ ⟨Nat.zero_le _, Nat.zero_le _⟩ (fun r55 F55 L55 hp55 => ?_)
                obtain ⟨rfl, rfl, m1⟩ := hp55
                rw [g41, hcode]
                refine gx_zast X d_Mo_predicate_58 (v := (cond (Nat.blt 0 (vlC w i code)) 1 0)) (HX _ rfl).1 (HX _ rfl).2 rfl (by omega) (by omega) (by first | decide | exact zn_cond _) ?_
                refine gx_iinc X d_Mo_predicate_59 rfl (pu_inc _) ?_
                refine gx_goto X d_Mo_predicate_62 (tgt := 38) (by decide) ?_
                refine gx_el (ih (i + 1) _ (by omega) (fun a b1 b2 b3 => by rw [gxu_cell b1, m1 a b2 b3]; exact f1 a b1 b2 b3) (fun q hq => ?_)) ⟨rfl, rfl, rfl, trivial⟩
                by_cases e4 : q = i
                · rw [e4, gxu_at]
                · rw [gxu_ne (fun z => e4 z.2), m1 57 (by decide) (by decide)]; exact f2 q (by omega)
          exact gx_el (loop (2 ^ (3 * w)) 0 _ (by omega) (fun _ _ _ _ => rfl) (fun q hq => absurd hq (Nat.not_lt_zero q))) ⟨rfl, rfl, rfl, trivial⟩
        · exact absurd ((nI_eq (by omega) (by decide)).mp h27) e12
    · exact absurd ((nI_leI (a := 0) (b := rel) (by decide) (by omega)).mpr (Nat.zero_le _)) h12
end
