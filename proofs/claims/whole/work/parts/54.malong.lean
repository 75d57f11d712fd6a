/-! the reference's refinement: along the way (own text) -/
section
variable {l : Launch} {D : va_G} {ca : Nat → ClassId} {ks : List Nat} {lay : Nat → gxE} {ad : Nat → Nat} {F : Nat → Nat → Int32} {L : Nat → Nat → Int64} {N w ne np : Nat} {ef et ek ev : Nat → Nat} {tg : Nat → Nat → Option Nat} {sg : Nat → Nat} {S : Nat → Bool} {ts : List (Nat → Bool)} {es : List Nat}
/-- the sets that are kept -/
def TmOK (F : Nat → Nat → Int32) (L : Nat → Nat → Int64) (N : Nat) (ts : List (Nat → Bool)) : Prop := F 40 26 = nI ts.length ∧ ∀ k, k < ts.length → ∀ q, q < N → bB L 56 (8 * k) q = (ts.getD k (fun _ => false)) q
theorem WkOK.congr {N : Nat} {S2 : Nat → Bool} (h : WkOK F N S) (e : ∀ q, q < N → S q = S2 q) : WkOK F N S2 := fun q hq => by rw [← e q hq]; exact h q hq
theorem prc_len (w : Nat) (ek ev : Nat → Nat) (tg : Nat → Nat → Option Nat) (e : Nat) (ts : List (Nat → Bool)) : (ts.filterMap (prc w ek ev tg e)).length ≤ ts.length := List.length_filterMap_le _ _
theorem take_s {α : Type} (d0 : α) {ts : List α} {i : Nat} (h : i < ts.length) : ts.take (i + 1) = ts.take i ++ [ts.getD i d0] := by
  rw [List.take_succ, List.getD_eq_getElem?_getD, List.getElem?_eq_getElem h]
  rfl
set_option maxHeartbeats 8000000 in
theorem c_Mo_along (HX : gH ks lay N sM) (hS : MsOK F w) (hE : MeOK F L w ne ef et ek ev tg) (hT : TmOK F L (2 ^ (3 * w)) ts) (hl : ts.length ≤ 199) {e0 : Nat} (he : e0 < ne) : Con l y_Mo_along (Cond.code y_Mo_along b_Mo_along 4 none :: WT) rm_Mo_along D vcl ca ks lay ad [xR 40, xI (nI e0)] F L (fun r F' L' => r = none ∧ (∀ a, a ≠ 56 → L' a = L a) ∧ (∀ a, a ≠ 40 → a ≠ 55 → a ≠ 57 → F' a = F a) ∧ (∀ j, j ≠ 26 → F' 40 j = F 40 j) ∧ TmOK F' L' (2 ^ (3 * w)) (paM w ek ev tg e0 ts)) := by
  have hw : w < 4 := by have := hS.1; omega
  have hN := pu_N w hw
  have h20 := hE.1
  obtain ⟨t1, t2⟩ := hT
  obtain ⟨-, -, ⟨hkd, hk3⟩, ⟨hv, hv3⟩, hx⟩ := hE.2.2 e0 he
  have hall := prc_len w ek ev tg e0 ts
  refine Con.ofK (fun post K => ?_)
  refine Con.of (ls := [(0, xR 40), (1, xI (nI e0))]) (by decide) rfl rfl (Nat.le_of_ble_eq_true rfl) ?_
  intro p e s m args below meth c A X hr hA
  -- the end
  have fin : ∀ (G : Nat → Nat → Int32) (M : Nat → Nat → Int64), (∀ a, a ≠ 56 → M a = L a) → (∀ a, a ≠ 55 → a ≠ 57 → G a = F a) → (∀ j, j < (ts.filterMap (prc w ek ev tg e0)).length → ∀ q, q < 2 ^ (3 * w) → bB M 56 (8 * j) q = ((ts.filterMap (prc w ek ev tg e0)).getD j (fun _ => false)) q) → GX p l e rm_Mo_along s m args below meth c (MQ below (gxQ D vcl ca ks lay ad s.heap.size post) args s 0 0 (gxA ks ad s.heap.size)) 4 A D vcl ca ks lay ad 0 0 71 [(2, xI (nI (ts.filterMap (prc w ek ev tg e0)).length)), (1, xI (nI e0)), (0, xR 40)] [] G M := by
    intro G M f1 f2 f3
    have hpa : paM w ek ev tg e0 ts = ts.filterMap (prc w ek ev tg e0) ++ (if ek e0 = 0 then [onS tg e0] else []) := rfl
    generalize ts.filterMap (prc w ek ev tg e0) = dn at *
    have hkd2 : gxu G 40 26 (nI dn.length) 44 e0 = nI (rk3 (ek e0)) := by rw [gxu_cell (by decide), f2 44 (by decide) (by decide)]; exact hkd
    refine gx_aload_n X d_Mo_along_71 rfl rfl ?_
    refine gx_iload_n X d_Mo_along_72 rfl rfl ?_
    refine gx_puti X d_Mo_along_73 (gci in_Mo) (HX _ rfl).1 (HX _ rfl).2 rfl 26 (by decide) (gcw X lk_Mo_190) (fun _ h => h) t_Mo ty_Mo nm_Mo rfl (ty_Mo 26 (by decide)) rfl rfl rfl ?_
    refine gx_aload_n X d_Mo_along_76 rfl rfl ?_
    refine gx_getr X d_Mo_along_77 (gci in_Mo) (HX _ rfl).1 (HX _ rfl).2 rfl 9 (by decide) (gcw X lk_Mo_19) (fun _ h => h) rfl ?_
    refine gx_iload_n X d_Mo_along_80 rfl rfl ?_
    refine gx_iald X d_Mo_along_81 (HX _ rfl).1 (HX _ rfl).2 rfl (by omega) (by omega) ?_
    refine gx_top hkd2 ?_
    by_cases hk : ek e0 = 0
    · have hr2 : rk3 (ek e0) = 2 := by rw [hk]; rfl
      rw [hr2]
      rw [if_pos hk] at hpa
      refine gx_iconst X d_Mo_along_82 (v := nI 2) (by decide) ?_
      refine gx_icmp_eq X d_Mo_along_83 (tgt := 87) (by decide) (fun h83 => ?_) (fun h83 => ?_)
      · refine gx_iconst X d_Mo_along_87 (v := nI 0) (by decide) ?_
        refine gx_istore_n X d_Mo_along_88 rfl (by decide) ?_
        have loop : ∀ (d i : Nat) (G2 : Nat → Nat → Int32), i + d = 2 ^ (3 * w) → (∀ a, a ≠ 57 → G2 a = gxu G 40 26 (nI dn.length) a) → (∀ q, q < i → G2 57 q = cond (onS tg e0 q) 1 0) → GX p l e rm_Mo_along s m args below meth c (MQ below (gxQ D vcl ca ks lay ad s.heap.size post) args s 0 0 (gxA ks ad s.heap.size)) 4 A D vcl ca ks lay ad 0 0 89 [(3, xI (nI i)), (1, xI (nI e0)), (0, xR 40)] [] G2 M := by
          intro d
          induction d with
          | zero =>
            intro i G2 hd e1 e2
            have hS2 : MsOK G2 w := hS.of (fun j hj => by rw [e1 40 (by decide), gxu_ne (by omega), f2 40 (by decide) (by decide)])
            have h26 : G2 40 26 = nI dn.length := by rw [e1 40 (by decide), gxu_at]
            refine gx_iload_n X d_Mo_along_89 rfl rfl ?_
            refine gx_aload_n X d_Mo_along_90 rfl rfl ?_
            refine gx_geti X d_Mo_along_91 (gci in_Mo) (HX _ rfl).1 (HX _ rfl).2 rfl 2 (by decide) (gcw X lk_Mo_82) (fun _ h => h) rfl ?_
            refine gx_top hS2.2.2.2 ?_
            refine gx_icmp_ge X d_Mo_along_94 (tgt := 115) (by decide) (fun h94 => ?_) (fun h94 => ?_)
            · refine gx_aload_n X d_Mo_along_115 rfl rfl ?_
              refine gx_aload_n X d_Mo_along_116 rfl rfl ?_
              refine gx_geti X d_Mo_along_117 (gci in_Mo) (HX _ rfl).1 (HX _ rfl).2 rfl 26 (by decide) (gcw X lk_Mo_190) (fun _ h => h) rfl ?_
              refine gx_top h26 ?_
              refine gx_callV X d_Mo_along_120 mf_Mo_store lk_Mo_183 (c_Mo_store HX hS2 (S := onS tg e0) (fun q hq => e2 q (by omega)) (k := dn.length) (by omega)) (HX _ rfl).1 (HX _ rfl).2 rfl rfl rfl (Nat.le_of_ble_eq_true rfl) ⟨by decide, by decide⟩ ⟨rfl, rfl⟩ ⟨Nat.zero_le _, Nat.zero_le _⟩ (fun r120 F120 L120 hp120 => ?_)
              obtain ⟨rfl, rfl, s1, s2, s3⟩ := hp120
              refine gx_aload_n X d_Mo_along_123 rfl rfl ?_
              refine gx_dup X d_Mo_along_124 rfl ?_
              refine gx_geti X d_Mo_along_125 (gci in_Mo) (HX _ rfl).1 (HX _ rfl).2 rfl 26 (by decide) (gcw X lk_Mo_190) (fun _ h => h) rfl ?_
              refine gx_top h26 ?_
              refine gx_iconst X d_Mo_along_128 (v := nI 1) (by decide) ?_
              refine gx_iadd X d_Mo_along_129 ?_
              refine gx_top (nI_add dn.length 1) ?_
              refine gx_puti X d_Mo_along_130 (gci in_Mo) (HX _ rfl).1 (HX _ rfl).2 rfl 26 (by decide) (gcw X lk_Mo_190) (fun _ h => h) t_Mo ty_Mo nm_Mo rfl (ty_Mo 26 (by decide)) rfl rfl rfl ?_
              refine gx_vret X hr hA d_Mo_along_133 (K _ _ _ ⟨rfl, fun a b1 => by rw [s1 a b1]; exact f1 a b1, fun a b1 b2 b3 => by rw [gxu_cell b1, e1 a b3, gxu_cell b1]; exact f2 a b2 b3, fun j b1 => by rw [gxu_ne (fun z => b1 z.2), e1 40 (by decide), gxu_ne (fun z => b1 z.2), f2 40 (by decide) (by decide)], by rw [gxu_at, hpa]; simp, fun k hk1 q hq => ?_⟩)
              rw [hpa] at hk1 ⊢
              simp only [List.length_append, List.length_singleton] at hk1
              by_cases e4 : k = dn.length
              · subst e4
                rw [s3 q hq, List.getD_eq_getElem?_getD, List.getElem?_append_right (Nat.le_refl _), Nat.sub_self]
                rfl
              · rw [List.getD_eq_getElem?_getD, List.getElem?_append_left (by omega), ← List.getD_eq_getElem?_getD, ← f3 k (by omega) q hq]
                unfold bB
                rw [s2 _ (by omega)]
            · exact absurd ((nI_leI (by omega) (by omega)).mpr (by omega)) h94
          | succ d ih =>
            intro i G2 hd e1 e2
            have hS2 : MsOK G2 w := hS.of (fun j hj => by rw [e1 40 (by decide), gxu_ne (by omega), f2 40 (by decide) (by decide)])
            refine gx_iload_n X d_Mo_along_89 rfl rfl ?_
            refine gx_aload_n X d_Mo_along_90 rfl rfl ?_
            refine gx_geti X d_Mo_along_91 (gci in_Mo) (HX _ rfl).1 (HX _ rfl).2 rfl 2 (by decide) (gcw X lk_Mo_82) (fun _ h => h) rfl ?_
            refine gx_top hS2.2.2.2 ?_
            refine gx_icmp_ge X d_Mo_along_94 (tgt := 115) (by decide) (fun h94 => ?_) (fun h94 => ?_)
            · exact absurd ((nI_leI (by omega) (by omega)).mp h94) (by omega)
            · refine gx_aload_n X d_Mo_along_97 rfl rfl ?_
              refine gx_getr X d_Mo_along_98 (gci in_Mo) (HX _ rfl).1 (HX _ rfl).2 rfl 28 (by decide) (gcw X lk_Mo_66) (fun _ h => h) rfl ?_
              refine gx_iload_n X d_Mo_along_101 rfl rfl ?_
              refine gx_aload_n X d_Mo_along_102 rfl rfl ?_
              refine gx_iload_n X d_Mo_along_103 rfl rfl ?_
              refine gx_iload_n X d_Mo_along_104 rfl rfl ?_
              refine gx_callV X d_Mo_along_105 mf_Mo_isOn lk_Mo_164 (c_Mo_isOn HX (e0 := e0) (q := i) (by omega) (by omega)) (HX _ rfl).1 (HX _ rfl).2 rfl rfl rfl (Nat.le_of_ble_eq_true rfl) ⟨by decide, by decide⟩ ⟨rfl, rfl⟩ ⟨Nat.zero_le _, Nat.zero_le _⟩ (fun r105 F105 L105 hp105 => ?_)
              obtain ⟨rfl, rfl, rfl⟩ := hp105
              have hon : bB L105 46 (24 * e0) i = onS tg e0 i := by
                rw [bB_of (f1 46 (by decide))]
                exact ((hx i (by omega)).2.2.1 hk).1
              rw [hon]
              refine gx_zast X d_Mo_along_108 (v := (cond (onS tg e0 i) 1 0)) (HX _ rfl).1 (HX _ rfl).2 rfl (by omega) (by omega) (by first | decide | exact zn_cond _) ?_
              refine gx_iinc X d_Mo_along_109 rfl (pu_inc _) ?_
              refine gx_goto X d_Mo_along_112 (tgt := 89) (by decide) ?_
              refine gx_el (ih (i + 1) _ (by omega) (fun a b1 => by rw [gxu_cell b1]; exact e1 a b1) (fun q hq => ?_)) ⟨rfl, rfl, rfl, trivial⟩
              by_cases e4 : q = i
              · rw [e4, gxu_at]
              · rw [gxu_ne (fun z => e4 z.2)]; exact e2 q (by omega)
        exact gx_el (loop (2 ^ (3 * w)) 0 _ (by omega) (fun _ _ => rfl) (fun q hq => absurd hq (Nat.not_lt_zero q))) ⟨rfl, rfl, rfl, trivial⟩
      · exact absurd rfl h83
    · rw [if_neg hk, List.append_nil] at hpa
      refine gx_iconst X d_Mo_along_82 (v := nI 2) (by decide) ?_
      refine gx_icmp_eq X d_Mo_along_83 (tgt := 87) (by decide) (fun h83 => ?_) (fun h83 => ?_)
      · exfalso
        have h7 := (nI_eq (a := rk3 (ek e0)) (b := 2) (by unfold rk3; omega) (by decide)).mp h83
        unfold rk3 at h7
        omega
      · refine gx_vret X hr hA d_Mo_along_86 (K _ _ _ ⟨rfl, f1, fun a b1 b2 b3 => by rw [gxu_cell b1]; exact f2 a b2 b3, fun j b1 => by rw [gxu_ne (fun z => b1 z.2), f2 40 (by decide) (by decide)], by rw [gxu_at, hpa], fun k hk1 q hq => by rw [hpa] at hk1 ⊢; exact f3 k hk1 q hq⟩)
  have loop : ∀ (d i : Nat) (dn : List (Nat → Bool)) (lf : Nat) (G : Nat → Nat → Int32) (M : Nat → Nat → Int64), dn.length = lf → i + d = ts.length → (ts.take i).filterMap (prc w ek ev tg e0) = dn → dn.length ≤ i → (∀ a, a ≠ 56 → M a = L a) → (∀ a, a ≠ 55 → a ≠ 57 → G a = F a) → (∀ j, j < dn.length → ∀ q, q < 2 ^ (3 * w) → bB M 56 (8 * j) q = (dn.getD j (fun _ => false)) q) → (∀ k, i ≤ k → k < ts.length → ∀ q, q < 2 ^ (3 * w) → bB M 56 (8 * k) q = (ts.getD k (fun _ => false)) q) → GX p l e rm_Mo_along s m args below meth c (MQ below (gxQ D vcl ca ks lay ad s.heap.size post) args s 0 0 (gxA ks ad s.heap.size)) 4 A D vcl ca ks lay ad 0 0 4 [(3, xI (nI i)), (2, xI (nI lf)), (1, xI (nI e0)), (0, xR 40)] [] G M := by
    intro d
    induction d with
    | zero =>
      intro i dn lf G M hlf hd hdn hle f1 f2 f3 f4
      subst hlf
      refine gx_iload_n X d_Mo_along_4 rfl rfl ?_
      refine gx_aload_n X d_Mo_along_5 rfl rfl ?_
      refine gx_geti X d_Mo_along_6 (gci in_Mo) (HX _ rfl).1 (HX _ rfl).2 rfl 26 (by decide) (gcw X lk_Mo_190) (fun _ h => h) rfl ?_
      refine gx_top (y := nI ts.length) (by rw [f2 40 (by decide) (by decide)]; exact t1) ?_
      refine gx_icmp_ge X d_Mo_along_9 (tgt := 71) (by decide) (fun h9 => ?_) (fun h9 => ?_)
      · rw [show i = ts.length by omega, List.take_length] at hdn
        subst hdn
        exact gx_el (fin G M f1 f2 f3) ⟨rfl, rfl, rfl, trivial⟩
      · exact absurd ((nI_leI (by omega) (by omega)).mpr (by omega)) h9
    | succ d ih =>
      intro i dn lf G M hlf hd hdn hle f1 f2 f3 f4
      subst hlf
      have hi : i < ts.length := by omega
      have hnx : (ts.take (i + 1)).filterMap (prc w ek ev tg e0) = dn ++ (prc w ek ev tg e0 (ts.getD i (fun _ => false))).toList := by
        rw [take_s (fun _ => false) hi, List.filterMap_append, hdn]
        congr 1
      have hcur := f4 i (Nat.le_refl _) hi
      generalize ts.getD i (fun _ => false) = Si at hnx hcur
      have hS2 : MsOK G w := hS.of (fun j hj => by rw [f2 40 (by decide) (by decide)])
      refine gx_iload_n X d_Mo_along_4 rfl rfl ?_
      refine gx_aload_n X d_Mo_along_5 rfl rfl ?_
      refine gx_geti X d_Mo_along_6 (gci in_Mo) (HX _ rfl).1 (HX _ rfl).2 rfl 26 (by decide) (gcw X lk_Mo_190) (fun _ h => h) rfl ?_
      refine gx_top (y := nI ts.length) (by rw [f2 40 (by decide) (by decide)]; exact t1) ?_
      refine gx_icmp_ge X d_Mo_along_9 (tgt := 71) (by decide) (fun h9 => ?_) (fun h9 => ?_)
      · exact absurd ((nI_leI (by omega) (by omega)).mp h9) (by omega)
      · refine gx_aload_n X d_Mo_along_12 rfl rfl ?_
        refine gx_iload_n X d_Mo_along_13 rfl rfl ?_
        refine gx_callV X d_Mo_along_14 mf_Mo_fetch lk_Mo_193 (c_Mo_fetch HX hS2 (k := i) (by omega)) (HX _ rfl).1 (HX _ rfl).2 rfl rfl rfl (Nat.le_of_ble_eq_true rfl) ⟨by decide, by decide⟩ ⟨rfl, rfl⟩ ⟨Nat.zero_le _, Nat.zero_le _⟩ (fun r14 F14 L14 hp14 => ?_)
        obtain ⟨rfl, rfl, m1, m2⟩ := hp14
        have m3 : WkOK F14 (2 ^ (3 * w)) Si := m2.congr hcur
        have e2 : ∀ a, a ≠ 55 → a ≠ 57 → F14 a = F a := fun a b1 b2 => by rw [m1 a b2]; exact f2 a b1 b2
        have hS3 : MsOK F14 w := hS.of (fun j hj => by rw [e2 40 (by decide) (by decide)])
        have hkd2 : F14 44 e0 = nI (rk3 (ek e0)) := by rw [e2 44 (by decide) (by decide)]; exact hkd
        -- the storing
        have put : ∀ (S2 : Nat → Bool) (G2 : Nat → Nat → Int32), (∀ a, a ≠ 55 → a ≠ 57 → G2 a = F a) → WkOK G2 (2 ^ (3 * w)) S2 → prc w ek ev tg e0 Si = some S2 → GX p l e rm_Mo_along s m args below meth c (MQ below (gxQ D vcl ca ks lay ad s.heap.size post) args s 0 0 (gxA ks ad s.heap.size)) 4 A D vcl ca ks lay ad 0 0 57 [(3, xI (nI i)), (2, xI (nI dn.length)), (1, xI (nI e0)), (0, xR 40)] [] G2 L14 := by
          intro S2 G2 g1 g2 g3
          rw [g3] at hnx
          refine gx_aload_n X d_Mo_along_57 rfl rfl ?_
          refine gx_iload_n X d_Mo_along_58 rfl rfl ?_
          refine gx_callV X d_Mo_along_59 mf_Mo_store lk_Mo_183 (c_Mo_store HX (hS.of (fun j hj => by rw [g1 40 (by decide) (by decide)])) g2 (k := dn.length) (by omega)) (HX _ rfl).1 (HX _ rfl).2 rfl rfl rfl (Nat.le_of_ble_eq_true rfl) ⟨by decide, by decide⟩ ⟨rfl, rfl⟩ ⟨Nat.zero_le _, Nat.zero_le _⟩ (fun r59 F59 L59 hp59 => ?_)
          obtain ⟨rfl, rfl, s1, s2, s3⟩ := hp59
          refine gx_iinc X d_Mo_along_62 rfl (pu_inc _) ?_
          refine gx_iinc X d_Mo_along_65 rfl (pu_inc _) ?_
          refine gx_goto X d_Mo_along_68 (tgt := 4) (by decide) ?_
          refine gx_el (ih (i + 1) (dn ++ [S2]) (dn.length + 1) F59 L59 (by simp) (by omega) hnx (by simp; omega) (fun a b1 => by rw [s1 a b1]; exact f1 a b1) g1 (fun j hj q hq => ?_) (fun k b1 b2 q hq => ?_)) ⟨rfl, rfl, rfl, rfl, trivial⟩
          · simp only [List.length_append, List.length_singleton] at hj
            by_cases e4 : j = dn.length
            · subst e4
              rw [s3 q hq, List.getD_eq_getElem?_getD, List.getElem?_append_right (Nat.le_refl _), Nat.sub_self]
              rfl
            · rw [List.getD_eq_getElem?_getD, List.getElem?_append_left (by omega), ← List.getD_eq_getElem?_getD, ← f3 j (by omega) q hq]
              unfold bB
              rw [s2 _ (by omega)]
          · rw [← f4 k (by omega) b2 q hq]
            unfold bB
            rw [s2 _ (by omega)]
        have hcase : ek e0 = 0 ∨ ek e0 = 1 ∨ ek e0 = 2 := by omega
        rcases hcase with hk | hk | hk
        · have hr2 : rk3 (ek e0) = 2 := by rw [hk]; rfl
          rw [hr2] at hkd2
          refine gx_aload_n X d_Mo_along_17 rfl rfl ?_
          refine gx_getr X d_Mo_along_18 (gci in_Mo) (HX _ rfl).1 (HX _ rfl).2 rfl 9 (by decide) (gcw X lk_Mo_19) (fun _ h => h) rfl ?_
          refine gx_iload_n X d_Mo_along_21 rfl rfl ?_
          refine gx_iald X d_Mo_along_22 (HX _ rfl).1 (HX _ rfl).2 rfl (by omega) (by omega) ?_
          refine gx_top hkd2 ?_
          refine gx_iconst X d_Mo_along_23 (v := nI 1) (by decide) ?_
          refine gx_icmp_ne X d_Mo_along_24 (tgt := 43) (by decide) (fun h24 => ?_) (fun h24 => ?_)
          · refine gx_aload_n X d_Mo_along_43 rfl rfl ?_
            refine gx_getr X d_Mo_along_44 (gci in_Mo) (HX _ rfl).1 (HX _ rfl).2 rfl 9 (by decide) (gcw X lk_Mo_19) (fun _ h => h) rfl ?_
            refine gx_iload_n X d_Mo_along_47 rfl rfl ?_
            refine gx_iald X d_Mo_along_48 (HX _ rfl).1 (HX _ rfl).2 rfl (by omega) (by omega) ?_
            refine gx_top hkd2 ?_
            refine gx_if_ne X d_Mo_along_49 (tgt := 57) (by decide) (fun h49 => ?_) (fun h49 => ?_)
            · exact gx_el (put Si F14 e2 m3 (by unfold prc; rw [if_pos hk])) ⟨rfl, rfl, rfl, rfl, trivial⟩
            · exact absurd h49 (by decide)
          · exact absurd h24 (by decide)
        · have hr2 : rk3 (ek e0) = 0 := by rw [hk]; rfl
          rw [hr2] at hkd2
          refine gx_aload_n X d_Mo_along_17 rfl rfl ?_
          refine gx_getr X d_Mo_along_18 (gci in_Mo) (HX _ rfl).1 (HX _ rfl).2 rfl 9 (by decide) (gcw X lk_Mo_19) (fun _ h => h) rfl ?_
          refine gx_iload_n X d_Mo_along_21 rfl rfl ?_
          refine gx_iald X d_Mo_along_22 (HX _ rfl).1 (HX _ rfl).2 rfl (by omega) (by omega) ?_
          refine gx_top hkd2 ?_
          refine gx_iconst X d_Mo_along_23 (v := nI 1) (by decide) ?_
          refine gx_icmp_ne X d_Mo_along_24 (tgt := 43) (by decide) (fun h24 => ?_) (fun h24 => ?_)
          · refine gx_aload_n X d_Mo_along_43 rfl rfl ?_
            refine gx_getr X d_Mo_along_44 (gci in_Mo) (HX _ rfl).1 (HX _ rfl).2 rfl 9 (by decide) (gcw X lk_Mo_19) (fun _ h => h) rfl ?_
            refine gx_iload_n X d_Mo_along_47 rfl rfl ?_
            refine gx_iald X d_Mo_along_48 (HX _ rfl).1 (HX _ rfl).2 rfl (by omega) (by omega) ?_
            refine gx_top hkd2 ?_
            refine gx_if_ne X d_Mo_along_49 (tgt := 57) (by decide) (fun h49 => ?_) (fun h49 => ?_)
            · exact absurd rfl h49
            · refine gx_aload_n X d_Mo_along_52 rfl rfl ?_
              refine gx_iload_n X d_Mo_along_53 rfl rfl ?_
              refine gx_callV X d_Mo_along_54 mf_Mo_before lk_Mo_187 (c_Mo_before HX hS3 (hE.of (by rw [e2 40 (by decide) (by decide)]) (fun a ha => e2 a (by omega) (by omega)) (f1 46 (by decide))) m3 he) (HX _ rfl).1 (HX _ rfl).2 rfl rfl rfl (Nat.le_of_ble_eq_true rfl) ⟨by decide, by decide⟩ ⟨rfl, rfl⟩ ⟨Nat.zero_le _, Nat.zero_le _⟩ (fun r54 F54 L54 hp54 => ?_)
              obtain ⟨rfl, rfl, b1, b2⟩ := hp54
              exact gx_el (put (prB w ek ev tg Si e0) F54 (fun a c1 c2 => by rw [b1 a c1 c2]; exact e2 a c1 c2) b2 (by unfold prc; rw [if_neg (by omega), if_pos hk])) ⟨rfl, rfl, rfl, rfl, trivial⟩
          · exact absurd h24 (by decide)
        · have hr2 : rk3 (ek e0) = 1 := by rw [hk]; rfl
          rw [hr2] at hkd2
          refine gx_aload_n X d_Mo_along_17 rfl rfl ?_
          refine gx_getr X d_Mo_along_18 (gci in_Mo) (HX _ rfl).1 (HX _ rfl).2 rfl 9 (by decide) (gcw X lk_Mo_19) (fun _ h => h) rfl ?_
          refine gx_iload_n X d_Mo_along_21 rfl rfl ?_
          refine gx_iald X d_Mo_along_22 (HX _ rfl).1 (HX _ rfl).2 rfl (by omega) (by omega) ?_
          refine gx_top hkd2 ?_
          refine gx_iconst X d_Mo_along_23 (v := nI 1) (by decide) ?_
          refine gx_icmp_ne X d_Mo_along_24 (tgt := 43) (by decide) (fun h24 => ?_) (fun h24 => ?_)
          · exact absurd rfl h24
          · refine gx_aload_n X d_Mo_along_27 rfl rfl ?_
            refine gx_aload_n X d_Mo_along_28 rfl rfl ?_
            refine gx_getr X d_Mo_along_29 (gci in_Mo) (HX _ rfl).1 (HX _ rfl).2 rfl 10 (by decide) (gcw X lk_Mo_22) (fun _ h => h) rfl ?_
            refine gx_iload_n X d_Mo_along_32 rfl rfl ?_
            refine gx_iald X d_Mo_along_33 (HX _ rfl).1 (HX _ rfl).2 rfl (by omega) (by omega) ?_
            refine gx_top (y := nI (ev e0)) (by rw [e2 45 (by decide) (by decide)]; exact hv) ?_
            refine gx_callV X d_Mo_along_34 mf_Mo_hangsOn lk_Mo_196 (c_Mo_hangsOn HX hS3 m3 (v := ev e0) hv3) (HX _ rfl).1 (HX _ rfl).2 rfl rfl rfl (Nat.le_of_ble_eq_true rfl) ⟨by decide, by decide⟩ ⟨rfl, rfl⟩ ⟨Nat.zero_le _, Nat.zero_le _⟩ (fun r34 F34 L34 hp34 => ?_)
            obtain ⟨rfl, rfl, rfl⟩ := hp34
            cases hh : hgB (2 ^ (3 * w)) Si (fun z => wr w z (ev e0) 0) with
            | true =>
              refine gx_if_eq X d_Mo_along_37 (tgt := 43) (by decide) (fun h37 => ?_) (fun h37 => ?_)
              · refine gx_aload_n X d_Mo_along_43 rfl rfl ?_
                refine gx_getr X d_Mo_along_44 (gci in_Mo) (HX _ rfl).1 (HX _ rfl).2 rfl 9 (by decide) (gcw X lk_Mo_19) (fun _ h => h) rfl ?_
                refine gx_iload_n X d_Mo_along_47 rfl rfl ?_
                refine gx_iald X d_Mo_along_48 (HX _ rfl).1 (HX _ rfl).2 rfl (by omega) (by omega) ?_
                refine gx_top hkd2 ?_
                refine gx_if_ne X d_Mo_along_49 (tgt := 57) (by decide) (fun h49 => ?_) (fun h49 => ?_)
                · exact gx_el (put Si F34 e2 m3 (by unfold prc; rw [if_neg (by omega), if_neg (by omega), if_pos hh])) ⟨rfl, rfl, rfl, rfl, trivial⟩
                · exact absurd h49 (by decide)
              · exact absurd rfl h37
            | false =>
              refine gx_if_eq X d_Mo_along_37 (tgt := 43) (by decide) (fun h37 => ?_) (fun h37 => ?_)
              · exact absurd h37 (by decide)
              · have g3 : prc w ek ev tg e0 Si = none := by unfold prc; rw [if_neg (by omega), if_neg (by omega), if_neg (by rw [hh]; decide)]
                rw [g3] at hnx
                refine gx_goto X d_Mo_along_40 (tgt := 65) (by decide) ?_
                refine gx_iinc X d_Mo_along_65 rfl (pu_inc _) ?_
                refine gx_goto X d_Mo_along_68 (tgt := 4) (by decide) ?_
                exact gx_el (ih (i + 1) dn dn.length F34 L34 rfl (by omega) (by rw [hnx]; simp) (by omega) f1 e2 f3 (fun k b1 b2 q hq => f4 k (by omega) b2 q hq)) ⟨rfl, rfl, rfl, rfl, trivial⟩
  refine gx_iconst X d_Mo_along_0 (v := nI 0) (by decide) ?_
  refine gx_istore_n X d_Mo_along_1 rfl (by decide) ?_
  refine gx_iconst X d_Mo_along_2 (v := nI 0) (by decide) ?_
  refine gx_istore_n X d_Mo_along_3 rfl (by decide) ?_
  exact gx_el (loop ts.length 0 [] 0 F L rfl (by omega) rfl (by simp) (fun _ _ => rfl) (fun _ _ _ => rfl) (fun j hj => absurd hj (Nat.not_lt_zero j)) (fun k _ b2 q hq => t2 k b2 q hq)) ⟨rfl, rfl, rfl, rfl, trivial⟩
/-- what a refinement leaves as it was -/
def RfF (F G : Nat → Nat → Int32) (L M : Nat → Nat → Int64) : Prop := (∀ a, a ≠ 40 → a ≠ 48 → a ≠ 55 → a ≠ 57 → G a = F a) ∧ (∀ j, j ≠ 12 → j ≠ 26 → G 40 j = F 40 j) ∧ ∀ a, a ≠ 47 → a ≠ 56 → M a = L a
theorem RfF.ms {G : Nat → Nat → Int32} {M : Nat → Nat → Int64} (h : RfF F G L M) (hS : MsOK F w) : MsOK G w := hS.of (fun j hj => h.2.1 j (by omega) (by omega))
theorem RfF.me {G : Nat → Nat → Int32} {M : Nat → Nat → Int64} (h : RfF F G L M) (hE : MeOK F L w ne ef et ek ev tg) : MeOK G M w ne ef et ek ev tg := hE.of (h.2.1 6 (by decide) (by decide)) (fun a ha => h.1 a (by omega) (by omega) (by omega) (by omega)) (h.2.2 46 (by decide) (by decide))
theorem bit_v : ∀ w, w < 4 → ∀ v, v < 3 → ∀ b, b < 3 → b < w → ∀ s, s < 512 → Nat.beq (dg w s v / 2 ^ b % 2) (s / 2 ^ (v * w + b) % 2) = true := by decide +kernel
theorem adM_mono {N : Nat} : ∀ (A : List (Nat → Bool)) (z : Nat × (Nat → Nat)), z.1 ≤ (adM N A z).2.1
  | [], z => Nat.le_refl _
  | a :: A, z => by
    rw [adM]
    split
    · split
      · exact Nat.le_refl _
      · exact Nat.le_trans (Nat.le_succ z.1) (adM_mono A (z.1 + 1, exS z.2 z.1 a))
    · exact adM_mono A z
theorem rfM_mono {w : Nat} {ek ev : Nat → Nat} {tg : Nat → Nat → Option Nat} : ∀ (es : List Nat) (ts : List (Nat → Bool)) (z : Nat × (Nat → Nat)), z.1 ≤ (rfM w ek ev tg es ts z).2.1
  | [], _, z => Nat.le_refl _
  | e :: r, ts, z => by
    rw [rfM]
    split
    · exact Nat.le_trans (adM_mono _ _) (rfM_mono r _ _)
    · exact adM_mono _ _
theorem paM_len (w : Nat) (ek ev : Nat → Nat) (tg : Nat → Nat → Option Nat) (e : Nat) (ts : List (Nat → Bool)) : (paM w ek ev tg e ts).length ≤ ts.length + 1 := by
  unfold paM
  have := prc_len w ek ev tg e ts
  split <;> simp <;> omega
theorem ofr_1 {N : Nat} (S : Nat → Bool) (z : Nat × (Nat → Nat)) (r : List (Nat → Bool)) : (¬ (ofr N S z).1 = 2 ∧ adM N (S :: r) z = adM N r (ofr N S z).2) ∨ ((ofr N S z).1 = 2 ∧ (ofr N S z).2 = z ∧ adM N (S :: r) z = (false, z)) := by
  rw [adM]
  unfold ofr
  by_cases e1 : splB N z.2 S = true
  · rw [if_pos e1, if_pos e1]
    by_cases e2 : z.1 = 12
    · rw [if_pos e2, if_pos e2]; exact Or.inr ⟨rfl, rfl, rfl⟩
    · rw [if_neg e2, if_neg e2]; exact Or.inl ⟨(show ¬ (1 : Nat) = 2 by decide), rfl⟩
  · rw [if_neg e1, if_neg e1]; exact Or.inl ⟨(show ¬ (0 : Nat) = 2 by decide), rfl⟩
theorem ofr_2 {N : Nat} (z : Nat × (Nat → Nat)) (r j : Nat) : ((ofr N (fun q => q.testBit j) z).1 = 0 ∧ (ofr N (fun q => q.testBit j) z).2 = z ∧ avb N (r + 1) j z = avb N r (j + 1) z) ∨ ((ofr N (fun q => q.testBit j) z).1 = 1 ∧ (ofr N (fun q => q.testBit j) z).2.1 = z.1 + 1 ∧ avb N (r + 1) j z = (true, (ofr N (fun q => q.testBit j) z).2)) ∨ ((ofr N (fun q => q.testBit j) z).1 = 2 ∧ (ofr N (fun q => q.testBit j) z).2 = z ∧ avb N (r + 1) j z = (false, z)) := by
  rw [avb]
  unfold ofr
  by_cases e1 : splB N z.2 (fun q => q.testBit j) = true
  · rw [if_pos e1, if_pos e1]
    by_cases e2 : z.1 = 12
    · rw [if_pos e2, if_pos e2]; exact Or.inr (Or.inr ⟨rfl, rfl, rfl⟩)
    · rw [if_neg e2, if_neg e2]; exact Or.inr (Or.inl ⟨rfl, rfl, rfl⟩)
  · rw [if_neg e1, if_neg e1]; exact Or.inl ⟨rfl, rfl, rfl⟩
end
