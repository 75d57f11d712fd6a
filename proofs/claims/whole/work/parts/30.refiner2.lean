section
variable {l : Launch} {D : va_G} {ca : Nat → ClassId} {ks : List Nat} {lay : Nat → gxE} {ad : Nat → Nat} {F : Nat → Nat → Int32} {L : Nat → Nat → Int64} {w np : Nat} {sg : Nat → Nat} {ne : Nat} {ef et ek ev : Nat → Nat} {tg : Nat → Nat → Option Nat}
/-- the sets that are taken along: set i is bit i % 64 of the row i / 64 -/
def TkOK (L : Nat → Nat → Int64) (N : Nat) (Tf : Nat → Nat → Bool) (n : Nat) : Prop := ∀ i, i < 64 * ((n + 63) / 64) → ∀ q, q < N → tb (L (rK (i / 64)) q) (i % 64) = (decide (i < n) && Tf i q)
noncomputable def hgB (N : Nat) (S : Nat → Bool) (tf : Nat → Nat) : Bool := @decide (∀ z, z < N → S z = S (tf z)) (Classical.propDecidable _)
theorem hgB_iff {N : Nat} {S : Nat → Bool} {tf : Nat → Nat} : hgB N S tf = true ↔ ∀ z, z < N → S z = S (tf z) := by
  unfold hgB
  exact @decide_eq_true_iff _ (Classical.propDecidable _)
/-- an edge passed backwards -/
noncomputable def paE (w : Nat) (ek ev : Nat → Nat) (tg : Nat → Nat → Option Nat) (e : Nat) (t : Nat × (Nat → Nat → Bool)) : Nat × (Nat → Nat → Bool) :=
  if ek e = 0 then (t.1 + 1, upN t.2 t.1 (onS tg e)) else if ek e = 1 then (t.1, fun i q => t.2 i ((tg e q).getD 0)) else (t.1, fun i q => t.2 i q && hgB (2 ^ (3 * w)) (t.2 i) (fun z => wr w z (ev e) 0))
theorem paE_le (w : Nat) (ek ev : Nat → Nat) (tg : Nat → Nat → Option Nat) (e : Nat) (t : Nat × (Nat → Nat → Bool)) : (paE w ek ev tg e t).1 ≤ t.1 + 1 := by
  unfold paE
  split
  · exact Nat.le_refl _
  · split
    · exact Nat.le_succ _
    · exact Nat.le_succ _
set_option maxHeartbeats 4000000 in
theorem c_Rf_passEdge (HX : gH ks lay (2 ^ (3 * w)) sX) (hS : SpOK F w) (hP : PrOK F w ne ef et ek ev tg) {n e0 : Nat} {Tf : Nat → Nat → Bool} (hn : n < 256) (h6 : F 33 6 = nI n) (he : e0 < ne) (hT : TkOK L (2 ^ (3 * w)) Tf n) : Con l y_Rf_passEdge (Cond.code y_Rf_passEdge b_Rf_passEdge 4 none :: WT) rm_Rf_passEdge D vcl ca ks lay ad [xR 33, xI (nI e0)] F L (fun r F' L' => r = none ∧ (∀ a, a ≠ 33 → F' a = F a) ∧ F' 33 6 = nI (paE w ek ev tg e0 (n, Tf)).1 ∧ (∀ a, a ≠ 35 → ¬ (400 ≤ a ∧ a < 404) → L' a = L a) ∧ TkOK L' (2 ^ (3 * w)) (paE w ek ev tg e0 (n, Tf)).2 (paE w ek ev tg e0 (n, Tf)).1) := by
  have hw : w < 4 := by have := hS.1; omega
  have hN := pu_N w hw
  have h20 := hP.1
  obtain ⟨-, -, ⟨k1, k2⟩, ⟨v1, v2⟩, ht⟩ := hP.2.2 e0 he
  have hR4 : (n + 63) / 64 ≤ 4 := by omega
  refine Con.ofK (fun post K => ?_)
  refine Con.of (ls := [(0, xR 33), (1, xI (nI e0))]) (by decide) rfl rfl (Nat.le_of_ble_eq_true rfl) ?_
  intro p e s m args below meth c A X hr hA
  refine gx_aload_n X d_Rf_passEdge_0 rfl rfl ?_
  refine gx_getr X d_Rf_passEdge_1 (gci in_Rf) (HX _ rfl).1 (HX _ rfl).2 rfl 1 (by decide) (gcw X lk_Rf_19) (fun _ h => h) rfl ?_
  refine gx_getr X d_Rf_passEdge_4 (gci in_Pr) (HX _ rfl).1 (HX _ rfl).2 rfl 3 (by decide) (gcw X lk_Rf_70) (fun _ h => h) rfl ?_
  refine gx_iload_n X d_Rf_passEdge_7 rfl rfl ?_
  refine gx_iald X d_Rf_passEdge_8 (HX _ rfl).1 (HX _ rfl).2 rfl (by omega) (by omega) ?_
  refine gx_top k1 ?_
  refine gx_istore_n X d_Rf_passEdge_9 rfl (by decide) ?_
  refine gx_iload_n X d_Rf_passEdge_10 rfl rfl ?_
  refine gx_if_ne X d_Rf_passEdge_11 (tgt := 28) (by decide) (fun h11 => ?_) (fun h11 => ?_)
  · have hk0 : ek e0 ≠ 0 := fun z => h11 (by rw [z]; rfl)
    refine gx_iconst X d_Rf_passEdge_28 (v := nI 0) (by decide) ?_
    refine gx_istore_n X d_Rf_passEdge_29 rfl (by decide) ?_
    by_cases hk1 : ek e0 = 1
    · have hpa : paE w ek ev tg e0 (n, Tf) = (n, fun i q => Tf i ((tg e0 q).getD 0)) := by unfold paE; rw [if_neg hk0, if_pos hk1]
      rw [hpa] at K
      have htf : ∀ q, q < 2 ^ (3 * w) → F (rT e0) q = nI ((tg e0 q).getD 0) ∧ (tg e0 q).getD 0 < 2 ^ (3 * w) := by
        intro q hq
        obtain ⟨a1, a2, -, a4, -⟩ := ht q hq
        obtain ⟨t, hto⟩ := a4 hk1
        rw [hto] at a1 ⊢
        exact ⟨a1, a2 t hto⟩
      have loop : ∀ (d i : Nat) (M : Nat → Nat → Int64), i + d = (n + 63) / 64 → (∀ a, a ≠ 35 → ¬ (400 ≤ a ∧ a < 404) → M a = L a) → (∀ r, r < i → ∀ q, q < 2 ^ (3 * w) → M (rK r) q = L (rK r) ((tg e0 q).getD 0)) → (∀ r, i ≤ r → M (rK r) = L (rK r)) → GX p l e rm_Rf_passEdge s m args below meth c (MQ below (gxQ D vcl ca ks lay ad s.heap.size post) args s 0 0 (gxA ks ad s.heap.size)) 4 A D vcl ca ks lay ad 0 0 30 [(3, xI (nI i)), (2, xI (nI (ek e0))), (0, xR 33), (1, xI (nI e0))] [] F M := by
        intro d
        induction d with
        | zero =>
          intro i M hd m1 m2 m3
          refine gx_iload_n X d_Rf_passEdge_30 rfl rfl ?_
          refine gx_aload_n X d_Rf_passEdge_31 rfl rfl ?_
          refine gx_callV X d_Rf_passEdge_32 mf_Rf_rowsInUse lk_Rf_83 (c_Rf_rowsInUse HX (n := n) (by omega) h6) (HX _ rfl).1 (HX _ rfl).2 rfl rfl rfl (Nat.le_of_ble_eq_true rfl) ⟨by decide, by decide⟩ ⟨rfl, rfl⟩ ⟨Nat.zero_le _, Nat.zero_le _⟩ (fun r32 F32 L32 hp32 => ?_)
          obtain ⟨rfl, rfl, rfl⟩ := hp32
          refine gx_icmp_ge X d_Rf_passEdge_35 (tgt := 90) (by decide) (fun h35 => ?_) (fun h35 => ?_)
          · refine gx_vret X hr hA d_Rf_passEdge_90 (K _ _ _ ⟨rfl, fun _ _ => rfl, h6, m1, fun j hj q hq => ?_⟩)
            have hj' : j < 64 * ((n + 63) / 64) := hj
            rw [m2 (j / 64) (by omega) q hq, hT j hj' _ (htf q hq).2]
          · exact absurd ((nI_leI (by omega) (by omega)).mpr (by omega)) h35
        | succ d ih =>
          intro i M hd m1 m2 m3
          refine gx_iload_n X d_Rf_passEdge_30 rfl rfl ?_
          refine gx_aload_n X d_Rf_passEdge_31 rfl rfl ?_
          refine gx_callV X d_Rf_passEdge_32 mf_Rf_rowsInUse lk_Rf_83 (c_Rf_rowsInUse HX (n := n) (by omega) h6) (HX _ rfl).1 (HX _ rfl).2 rfl rfl rfl (Nat.le_of_ble_eq_true rfl) ⟨by decide, by decide⟩ ⟨rfl, rfl⟩ ⟨Nat.zero_le _, Nat.zero_le _⟩ (fun r32 F32 L32 hp32 => ?_)
          obtain ⟨rfl, rfl, rfl⟩ := hp32
          refine gx_icmp_ge X d_Rf_passEdge_35 (tgt := 90) (by decide) (fun h35 => ?_) (fun h35 => ?_)
          · exact absurd ((nI_leI (by omega) (by omega)).mp h35) (by omega)
          · refine gx_iload_n X d_Rf_passEdge_38 rfl rfl ?_
            refine gx_iconst X d_Rf_passEdge_39 (v := nI 1) (by decide) ?_
            refine gx_icmp_ne X d_Rf_passEdge_40 (tgt := 65) (by decide) (fun h40 => ?_) (fun h40 => ?_)
            · exact absurd (by rw [hk1]) h40
            · refine gx_aload_n X d_Rf_passEdge_43 rfl rfl ?_
              refine gx_aload_n X d_Rf_passEdge_44 rfl rfl ?_
              refine gx_getr X d_Rf_passEdge_45 (gci in_Rf) (HX _ rfl).1 (HX _ rfl).2 rfl 4 (by decide) (gcw X lk_Rf_38) (fun _ h => h) rfl ?_
              refine gx_iload_n X d_Rf_passEdge_48 rfl rfl ?_
              refine gx_aald X d_Rf_passEdge_49 (HX _ rfl).1 (HX _ rfl).2 rfl rfl rfl (by omega) (by omega) ?_
              refine gx_aload_n X d_Rf_passEdge_50 rfl rfl ?_
              refine gx_getr X d_Rf_passEdge_51 (gci in_Rf) (HX _ rfl).1 (HX _ rfl).2 rfl 1 (by decide) (gcw X lk_Rf_19) (fun _ h => h) rfl ?_
              refine gx_getr X d_Rf_passEdge_54 (gci in_Pr) (HX _ rfl).1 (HX _ rfl).2 rfl 5 (by decide) (gcw X lk_Rf_75) (fun _ h => h) rfl ?_
              refine gx_iload_n X d_Rf_passEdge_57 rfl rfl ?_
              refine gx_aald X d_Rf_passEdge_58 (HX _ rfl).1 (HX _ rfl).2 rfl rfl rfl (by omega) (by omega) ?_
              refine gx_callV X d_Rf_passEdge_59 mf_Rf_pullBack lk_Rf_87 (c_Rf_pullBack HX hS (i0 := i) (e0 := e0) (by omega) (by omega) htf) (HX _ rfl).1 (HX _ rfl).2 rfl rfl rfl (Nat.le_of_ble_eq_true rfl) ⟨by decide, by decide⟩ ⟨rfl, rfl⟩ ⟨Nat.zero_le _, Nat.zero_le _⟩ (fun r59 F59 L59 hp59 => ?_)
              obtain ⟨rfl, rfl, q1, q2⟩ := hp59
              refine gx_goto X d_Rf_passEdge_62 (tgt := 84) (by decide) ?_
              refine gx_iinc X d_Rf_passEdge_84 rfl (pu_inc _) ?_
              refine gx_goto X d_Rf_passEdge_87 (tgt := 30) (by decide) ?_
              refine gx_el (ih (i + 1) L59 (by omega) (fun a a1 a2 => by rw [q1 a a1 (by unfold rK; omega)]; exact m1 a a1 a2) (fun r hr q hq => ?_) (fun r hr => by rw [q1 (rK r) (by unfold rK; omega) (by unfold rK; omega)]; exact m3 r (by omega))) ⟨rfl, rfl, rfl, rfl, trivial⟩
              by_cases e2 : r = i
              · rw [e2, q2 q hq, m3 i (Nat.le_refl _)]
              · rw [q1 (rK r) (by unfold rK; omega) (by unfold rK; omega)]
                exact m2 r (by omega) q hq
      exact gx_el (loop ((n + 63) / 64) 0 L (by omega) (fun _ _ _ => rfl) (fun r hr => absurd hr (by omega)) (fun _ _ => rfl)) ⟨rfl, rfl, rfl, rfl, trivial⟩
    · have hk2 : ek e0 = 2 := by omega
      have hpa : paE w ek ev tg e0 (n, Tf) = (n, fun i q => Tf i q && hgB (2 ^ (3 * w)) (Tf i) (fun z => wr w z (ev e0) 0)) := by unfold paE; rw [if_neg hk0, if_neg hk1]
      rw [hpa] at K
      have htf : ∀ q, q < 2 ^ (3 * w) → F (rT e0) q = nI (wr w q (ev e0) 0) ∧ wr w q (ev e0) 0 < 2 ^ (3 * w) := by
        intro q hq
        obtain ⟨a1, a2, a3, -⟩ := ht q hq
        rw [a3 hk2] at a1
        exact ⟨a1, wr_lt' hw v2 hq⟩
      have loop : ∀ (d i : Nat) (M : Nat → Nat → Int64), i + d = (n + 63) / 64 → (∀ a, a ≠ 35 → ¬ (400 ≤ a ∧ a < 404) → M a = L a) → (∀ r, r < i → ∀ q j, q < 2 ^ (3 * w) → j < 64 → (tb (M (rK r) q) j = true ↔ tb (L (rK r) q) j = true ∧ ∀ z, z < 2 ^ (3 * w) → tb (L (rK r) z) j = tb (L (rK r) (wr w z (ev e0) 0)) j)) → (∀ r, i ≤ r → M (rK r) = L (rK r)) → GX p l e rm_Rf_passEdge s m args below meth c (MQ below (gxQ D vcl ca ks lay ad s.heap.size post) args s 0 0 (gxA ks ad s.heap.size)) 4 A D vcl ca ks lay ad 0 0 30 [(3, xI (nI i)), (2, xI (nI (ek e0))), (0, xR 33), (1, xI (nI e0))] [] F M := by
        intro d
        induction d with
        | zero =>
          intro i M hd m1 m2 m3
          refine gx_iload_n X d_Rf_passEdge_30 rfl rfl ?_
          refine gx_aload_n X d_Rf_passEdge_31 rfl rfl ?_
          refine gx_callV X d_Rf_passEdge_32 mf_Rf_rowsInUse lk_Rf_83 (c_Rf_rowsInUse HX (n := n) (by omega) h6) (HX _ rfl).1 (HX _ rfl).2 rfl rfl rfl (Nat.le_of_ble_eq_true rfl) ⟨by decide, by decide⟩ ⟨rfl, rfl⟩ ⟨Nat.zero_le _, Nat.zero_le _⟩ (fun r32 F32 L32 hp32 => ?_)
          obtain ⟨rfl, rfl, rfl⟩ := hp32
          refine gx_icmp_ge X d_Rf_passEdge_35 (tgt := 90) (by decide) (fun h35 => ?_) (fun h35 => ?_)
          · refine gx_vret X hr hA d_Rf_passEdge_90 (K _ _ _ ⟨rfl, fun _ _ => rfl, h6, m1, fun j hj q hq => ?_⟩)
            have hj' : j < 64 * ((n + 63) / 64) := hj
            have o := m2 (j / 64) (by omega) q (j % 64) hq (Nat.mod_lt _ (by decide))
            have e3 : ∀ z, z < 2 ^ (3 * w) → tb (L (rK (j / 64)) z) (j % 64) = (decide (j < n) && Tf j z) := fun z hz => hT j hj' z hz
            show tb (L32 (rK (j / 64)) q) (j % 64) = (decide (j < n) && (Tf j q && hgB (2 ^ (3 * w)) (Tf j) (fun z => wr w z (ev e0) 0)))
            rw [e3 q hq] at o
            by_cases hjn : j < n
            · rw [decide_eq_true hjn, Bool.true_and] at o ⊢
              have e4 : (∀ z, z < 2 ^ (3 * w) → tb (L (rK (j / 64)) z) (j % 64) = tb (L (rK (j / 64)) (wr w z (ev e0) 0)) (j % 64)) ↔ hgB (2 ^ (3 * w)) (Tf j) (fun z => wr w z (ev e0) 0) = true := by
                rw [hgB_iff]
                constructor
                · intro h z hz
                  have := h z hz
                  rw [e3 z hz, e3 _ (htf z hz).2, decide_eq_true hjn, Bool.true_and, Bool.true_and] at this
                  exact this
                · intro h z hz
                  rw [e3 z hz, e3 _ (htf z hz).2, h z hz]
              rw [e4] at o
              cases hb : (Tf j q && hgB (2 ^ (3 * w)) (Tf j) (fun z => wr w z (ev e0) 0)) with
              | true =>
                rw [Bool.and_eq_true] at hb
                exact o.mpr hb
              | false =>
                cases hc : tb (L32 (rK (j / 64)) q) (j % 64) with
                | false => rfl
                | true =>
                  have := o.mp hc
                  rw [this.1, this.2] at hb
                  cases hb
            · rw [decide_eq_false hjn, Bool.false_and] at o ⊢
              cases hc : tb (L32 (rK (j / 64)) q) (j % 64) with
              | false => rfl
              | true => exact absurd (o.mp hc).1 (by decide)
          · exact absurd ((nI_leI (by omega) (by omega)).mpr (by omega)) h35
        | succ d ih =>
          intro i M hd m1 m2 m3
          refine gx_iload_n X d_Rf_passEdge_30 rfl rfl ?_
          refine gx_aload_n X d_Rf_passEdge_31 rfl rfl ?_
          refine gx_callV X d_Rf_passEdge_32 mf_Rf_rowsInUse lk_Rf_83 (c_Rf_rowsInUse HX (n := n) (by omega) h6) (HX _ rfl).1 (HX _ rfl).2 rfl rfl rfl (Nat.le_of_ble_eq_true rfl) ⟨by decide, by decide⟩ ⟨rfl, rfl⟩ ⟨Nat.zero_le _, Nat.zero_le _⟩ (fun r32 F32 L32 hp32 => ?_)
          obtain ⟨rfl, rfl, rfl⟩ := hp32
          refine gx_icmp_ge X d_Rf_passEdge_35 (tgt := 90) (by decide) (fun h35 => ?_) (fun h35 => ?_)
          · exact absurd ((nI_leI (by omega) (by omega)).mp h35) (by omega)
          · refine gx_iload_n X d_Rf_passEdge_38 rfl rfl ?_
            refine gx_iconst X d_Rf_passEdge_39 (v := nI 1) (by decide) ?_
            refine gx_icmp_ne X d_Rf_passEdge_40 (tgt := 65) (by decide) (fun h40 => ?_) (fun h40 => ?_)
            · refine gx_aload_n X d_Rf_passEdge_65 rfl rfl ?_
              refine gx_aload_n X d_Rf_passEdge_66 rfl rfl ?_
              refine gx_getr X d_Rf_passEdge_67 (gci in_Rf) (HX _ rfl).1 (HX _ rfl).2 rfl 4 (by decide) (gcw X lk_Rf_38) (fun _ h => h) rfl ?_
              refine gx_iload_n X d_Rf_passEdge_70 rfl rfl ?_
              refine gx_aald X d_Rf_passEdge_71 (HX _ rfl).1 (HX _ rfl).2 rfl rfl rfl (by omega) (by omega) ?_
              refine gx_aload_n X d_Rf_passEdge_72 rfl rfl ?_
              refine gx_getr X d_Rf_passEdge_73 (gci in_Rf) (HX _ rfl).1 (HX _ rfl).2 rfl 1 (by decide) (gcw X lk_Rf_19) (fun _ h => h) rfl ?_
              refine gx_getr X d_Rf_passEdge_76 (gci in_Pr) (HX _ rfl).1 (HX _ rfl).2 rfl 5 (by decide) (gcw X lk_Rf_75) (fun _ h => h) rfl ?_
              refine gx_iload_n X d_Rf_passEdge_79 rfl rfl ?_
              refine gx_aald X d_Rf_passEdge_80 (HX _ rfl).1 (HX _ rfl).2 rfl rfl rfl (by omega) (by omega) ?_
              refine gx_callV X d_Rf_passEdge_81 mf_Rf_leaveBehind lk_Rf_91 (c_Rf_leaveBehind HX hS (i0 := i) (e0 := e0) (by omega) (by omega) htf) (HX _ rfl).1 (HX _ rfl).2 rfl rfl rfl (Nat.le_of_ble_eq_true rfl) ⟨by decide, by decide⟩ ⟨rfl, rfl⟩ ⟨Nat.zero_le _, Nat.zero_le _⟩ (fun r81 F81 L81 hp81 => ?_)
              obtain ⟨rfl, rfl, q1, q2⟩ := hp81
              refine gx_iinc X d_Rf_passEdge_84 rfl (pu_inc _) ?_
              refine gx_goto X d_Rf_passEdge_87 (tgt := 30) (by decide) ?_
              refine gx_el (ih (i + 1) L81 (by omega) (fun a a1 a2 => by rw [q1 a (by unfold rK; omega)]; exact m1 a a1 a2) (fun r hr q j hq hj => ?_) (fun r hr => by rw [q1 (rK r) (by unfold rK; omega)]; exact m3 r (by omega))) ⟨rfl, rfl, rfl, rfl, trivial⟩
              by_cases e2 : r = i
              · rw [e2, q2 q j hq hj, m3 i (Nat.le_refl _)]
              · rw [q1 (rK r) (by unfold rK; omega)]
                exact m2 r (by omega) q j hq hj
            · exact absurd ((nI_eq (by omega) (by decide)).mp h40) hk1
      exact gx_el (loop ((n + 63) / 64) 0 L (by omega) (fun _ _ _ => rfl) (fun r hr => absurd hr (by omega)) (fun _ _ => rfl)) ⟨rfl, rfl, rfl, rfl, trivial⟩
  · have hk0 : ek e0 = 0 := Classical.byContradiction fun z => nI_ne0 (by omega) (by omega) h11
    have hpa : paE w ek ev tg e0 (n, Tf) = (n + 1, upN Tf n (onS tg e0)) := by unfold paE; rw [if_pos hk0]
    rw [hpa] at K
    refine gx_aload_n X d_Rf_passEdge_14 rfl rfl ?_
    refine gx_aload_n X d_Rf_passEdge_15 rfl rfl ?_
    refine gx_getr X d_Rf_passEdge_16 (gci in_Rf) (HX _ rfl).1 (HX _ rfl).2 rfl 1 (by decide) (gcw X lk_Rf_19) (fun _ h => h) rfl ?_
    refine gx_getr X d_Rf_passEdge_19 (gci in_Pr) (HX _ rfl).1 (HX _ rfl).2 rfl 5 (by decide) (gcw X lk_Rf_75) (fun _ h => h) rfl ?_
    refine gx_iload_n X d_Rf_passEdge_22 rfl rfl ?_
    refine gx_aald X d_Rf_passEdge_23 (HX _ rfl).1 (HX _ rfl).2 rfl rfl rfl (by omega) (by omega) ?_
    refine gx_callV X d_Rf_passEdge_24 mf_Rf_takeAlong lk_Rf_79 (c_Rf_takeAlong HX hS hP (n := n) (e0 := e0) hn h6 he) (HX _ rfl).1 (HX _ rfl).2 rfl rfl rfl (Nat.le_of_ble_eq_true rfl) ⟨by decide, by decide⟩ ⟨rfl, rfl⟩ ⟨Nat.zero_le _, Nat.zero_le _⟩ (fun r24 F24 L24 hp24 => ?_)
    obtain ⟨rfl, rfl, q1, q2⟩ := hp24
    refine gx_vret X hr hA d_Rf_passEdge_27 (K _ _ _ ⟨rfl, fun a ha => gxu_cell ha, gxu_at, fun a a1 a2 => q1 a (by unfold rK; omega), fun i hi q hq => ?_⟩)
    have hi' : i < 64 * ((n + 1 + 63) / 64) := hi
    show tb (L24 (rK (i / 64)) q) (i % 64) = (decide (i < n + 1) && upN Tf n (onS tg e0) i q)
    by_cases hr : i / 64 = n / 64
    · rw [hr, q2 q (i % 64) hq (Nat.mod_lt _ (by decide))]
      by_cases hin : i = n
      · rw [hin, upN_at]
        by_cases h64 : n % 64 = 0
        · rw [h64]; simp
        · have o := hT n (by omega) q hq
          rw [o]
          simp
      · rw [upN_ne _ _ hin]
        have hne : ¬ i % 64 = n % 64 := by omega
        rw [decide_eq_false hne, Bool.false_and, Bool.or_false]
        by_cases h64 : n % 64 = 0
        · rw [h64, decide_eq_false (show ¬ i < n + 1 by omega)]; simp
        · have o := hT i (by omega) q hq
          rw [hr] at o
          rw [o, decide_eq_true h64, Bool.true_and]
          by_cases hlt : i < n
          · rw [decide_eq_true hlt, decide_eq_true (show i < n + 1 by omega)]
          · rw [decide_eq_false hlt, decide_eq_false (show ¬ i < n + 1 by omega)]
    · rw [q1 (rK (i / 64)) (by unfold rK; omega), hT i (by omega) q hq, upN_ne _ _ (by omega), decide_eq_true (show i < n by omega), decide_eq_true (show i < n + 1 by omega)]
/-- a predicate more: the states of the set have its bit -/
def exS (sg : Nat → Nat) (np : Nat) (S : Nat → Bool) : Nat → Nat := fun q => sg q + cond (S q) (2 ^ np) 0
theorem exS_lt {N : Nat} (h : ∀ q, q < N → sg q < 2 ^ np) (S : Nat → Bool) : ∀ q, q < N → exS sg np S q < 2 ^ (np + 1) := by
  intro q hq
  have h1 := h q hq
  have h2 : 2 ^ (np + 1) = 2 ^ np + 2 ^ np := by rw [Nat.pow_succ]; omega
  unfold exS
  cases S q <;> simp <;> omega
set_option maxHeartbeats 4000000 in
theorem c_Rf_adopt (HX : gH ks lay (2 ^ (3 * w)) sX) (hS : SpOK F w) (hG : GrOK F (2 ^ (3 * w)) np sg) (hnp : np < 12) {k b : Nat} (hk : k ∈ ks) (hlay : lay k = Sum.inr (Sum.inr (Sum.inl (2 ^ (3 * w))))) (hb : b < 64) : Con l y_Rf_adopt (Cond.code y_Rf_adopt b_Rf_adopt 4 none :: WT) rm_Rf_adopt D vcl ca ks lay ad [xR 33, xR k, xI (nI b)] F L (fun r F' L' => r = none ∧ L' = L ∧ (∀ a, ¬ (14 ≤ a ∧ a ≤ 19) → F' a = F a) ∧ GrOK F' (2 ^ (3 * w)) (np + 1) (exS sg np (fun q => tb (L k q) b))) := by
  have hw : w < 4 := by have := hS.1; omega
  have hN := pu_N w hw
  obtain ⟨⟨g1, g2, g3⟩, -⟩ := id hG
  refine Con.ofK (fun post K => ?_)
  refine Con.of (ls := [(0, xR 33), (1, xR k), (2, xI (nI b))]) (by decide) rfl rfl (Nat.le_of_ble_eq_true rfl) ?_
  intro p e s m args below meth c A X hr hA
  refine gx_iconst X d_Rf_adopt_0 (v := nI 0) (by decide) ?_
  refine gx_istore_n X d_Rf_adopt_1 rfl (by decide) ?_
  have loop : ∀ (d i : Nat) (G : Nat → Nat → Int32), i + d = 2 ^ (3 * w) → (∀ a, a ≠ 15 → G a = F a) → (∀ q, q < 2 ^ (3 * w) → G 15 q = nI (if q < i then exS sg np (fun q => tb (L k q) b) q else sg q)) → GX p l e rm_Rf_adopt s m args below meth c (MQ below (gxQ D vcl ca ks lay ad s.heap.size post) args s 0 0 (gxA ks ad s.heap.size)) 4 A D vcl ca ks lay ad 0 0 2 [(3, xI (nI i)), (0, xR 33), (1, xR k), (2, xI (nI b))] [] G L := by
    intro d
    induction d with
    | zero =>
      intro i G hd h1 h2
      refine gx_iload_n X d_Rf_adopt_2 rfl rfl ?_
      refine gx_aload_n X d_Rf_adopt_3 rfl rfl ?_
      refine gx_getr X d_Rf_adopt_4 (gci in_Rf) (HX _ rfl).1 (HX _ rfl).2 rfl 0 (by decide) (gcw X lk_Rf_15) (fun _ h => h) rfl ?_
      refine gx_geti X d_Rf_adopt_7 (gci in_Sp) (HX _ rfl).1 (HX _ rfl).2 rfl 2 (by decide) (gcw X lk_Rf_31) (fun _ h => h) rfl ?_
      refine gx_top (y := nI (2 ^ (3 * w))) (by rw [h1 1 (by decide)]; exact hS.2.2.2) ?_
      refine gx_icmp_ge X d_Rf_adopt_10 (tgt := 39) (by decide) (fun h10 => ?_) (fun h10 => ?_)
      · refine gx_aload_n X d_Rf_adopt_39 rfl rfl ?_
        refine gx_getr X d_Rf_adopt_40 (gci in_Rf) (HX _ rfl).1 (HX _ rfl).2 rfl 2 (by decide) (gcw X lk_Rf_23) (fun _ h => h) rfl ?_
        refine gx_callV X d_Rf_adopt_43 mf_Gr_endPredicate lk_Rf_122 (c_Gr_endPredicate (HX.mono sG_X) (hS.of (h1 1 (by decide))) (np := np) (sg := exS sg np (fun q => tb (L k q) b)) hnp (by rw [h1 14 (by decide)]; exact g2) (fun q hq => ⟨by rw [h2 q hq, if_pos (by omega)], exS_lt (fun q hq => (g3 q hq).2) _ q hq⟩)) (HX _ rfl).1 (HX _ rfl).2 rfl rfl rfl (Nat.le_of_ble_eq_true rfl) ⟨by decide, by decide⟩ ⟨rfl, rfl⟩ ⟨Nat.zero_le _, Nat.zero_le _⟩ (fun r43 F43 L43 hp43 => ?_)
        obtain ⟨rfl, rfl, q1, q2, q3⟩ := hp43
        refine gx_vret X hr hA d_Rf_adopt_46 (K _ _ _ ⟨rfl, rfl, fun a ha => by rw [q1 a ha, h1 a (by omega)], q3⟩)
      · exact absurd ((nI_leI (by omega) (by omega)).mpr (by omega)) h10
    | succ d ih =>
      intro i G hd h1 h2
      have hsi := h2 i (by omega)
      rw [if_neg (by omega)] at hsi
      have nextG : ∀ (G : Nat → Nat → Int32), (∀ a, a ≠ 15 → G a = F a) → (∀ q, q < 2 ^ (3 * w) → G 15 q = nI (if q < i + 1 then exS sg np (fun q => tb (L k q) b) q else sg q)) → GX p l e rm_Rf_adopt s m args below meth c (MQ below (gxQ D vcl ca ks lay ad s.heap.size post) args s 0 0 (gxA ks ad s.heap.size)) 4 A D vcl ca ks lay ad 0 0 33 [(3, xI (nI i)), (0, xR 33), (1, xR k), (2, xI (nI b))] [] G L := by
        intro G a1 a2
        refine gx_iinc X d_Rf_adopt_33 rfl (pu_inc _) ?_
        refine gx_goto X d_Rf_adopt_36 (tgt := 2) (by decide) ?_
        exact gx_el (ih (i + 1) G (by omega) a1 a2) ⟨rfl, rfl, rfl, rfl, trivial⟩
      refine gx_iload_n X d_Rf_adopt_2 rfl rfl ?_
      refine gx_aload_n X d_Rf_adopt_3 rfl rfl ?_
      refine gx_getr X d_Rf_adopt_4 (gci in_Rf) (HX _ rfl).1 (HX _ rfl).2 rfl 0 (by decide) (gcw X lk_Rf_15) (fun _ h => h) rfl ?_
      refine gx_geti X d_Rf_adopt_7 (gci in_Sp) (HX _ rfl).1 (HX _ rfl).2 rfl 2 (by decide) (gcw X lk_Rf_31) (fun _ h => h) rfl ?_
      refine gx_top (y := nI (2 ^ (3 * w))) (by rw [h1 1 (by decide)]; exact hS.2.2.2) ?_
      refine gx_icmp_ge X d_Rf_adopt_10 (tgt := 39) (by decide) (fun h10 => ?_) (fun h10 => ?_)
      · exact absurd ((nI_leI (by omega) (by omega)).mp h10) (by omega)
      · refine gx_aload_n X d_Rf_adopt_13 rfl rfl ?_
        refine gx_iload_n X d_Rf_adopt_14 rfl rfl ?_
        refine gx_lald X d_Rf_adopt_15 hk hlay rfl (by omega) (by omega) ?_
        refine gx_iload_n X d_Rf_adopt_16 rfl rfl ?_
        refine gx_lushr X d_Rf_adopt_17 rfl ?_
        refine gx_lconst X d_Rf_adopt_18 (v := 1) (by decide) ?_
        refine gx_land X d_Rf_adopt_19 ?_
        refine gx_topl (tb_get _ hb) ?_
        refine gx_lconst X d_Rf_adopt_20 (v := 0) (by decide) ?_
        refine gx_lcmp X d_Rf_adopt_21 ?_
        refine gx_if_eq X d_Rf_adopt_22 (tgt := 33) (by decide) (fun h22 => ?_) (fun h22 => ?_)
        · rw [lg_cmp_eq] at h22
          have hbf := ite_cond.mp h22
          refine gx_el (nextG G h1 (fun q hq => ?_)) ⟨rfl, rfl, rfl, rfl, trivial⟩
          rw [h2 q hq]
          by_cases e2 : q = i
          · rw [e2, if_neg (by omega), if_pos (by omega)]
            unfold exS
            simp only [hbf, cond_false, Nat.add_zero]
          · by_cases e3 : q < i
            · rw [if_pos e3, if_pos (by omega)]
            · rw [if_neg e3, if_neg (by omega)]
        · have hbt : tb (L k i) b = true := by
            cases hx : tb (L k i) b with
            | true => rfl
            | false => exact absurd ((lg_cmp_eq _ _).mpr (ite_cond.mpr hx)) h22
          refine gx_aload_n X d_Rf_adopt_25 rfl rfl ?_
          refine gx_getr X d_Rf_adopt_26 (gci in_Rf) (HX _ rfl).1 (HX _ rfl).2 rfl 2 (by decide) (gcw X lk_Rf_23) (fun _ h => h) rfl ?_
          refine gx_iload_n X d_Rf_adopt_29 rfl rfl ?_
          refine gx_callV X d_Rf_adopt_30 mf_Gr_include lk_Rf_119 (c_Gr_include (HX.mono sG_X) hw hnp (by rw [h1 14 (by decide)]; exact g2) (q := i) (g := sg i) (by omega) hsi (g3 i (by omega)).2) (HX _ rfl).1 (HX _ rfl).2 rfl rfl rfl (Nat.le_of_ble_eq_true rfl) ⟨by decide, by decide⟩ ⟨rfl, rfl⟩ ⟨Nat.zero_le _, Nat.zero_le _⟩ (fun r30 F30 L30 hp30 => ?_)
          obtain ⟨rfl, rfl, rfl⟩ := hp30
          refine gx_el (nextG _ (fun a ha => by rw [gxu_cell ha]; exact h1 a ha) (fun q hq => ?_)) ⟨rfl, rfl, rfl, rfl, trivial⟩
          by_cases e2 : q = i
          · rw [e2, gxu_at, if_pos (by omega)]
            unfold exS
            simp only [hbt, cond_true]
          · rw [gxu_ne (fun z => e2 z.2), h2 q hq]
            by_cases e3 : q < i
            · rw [if_pos e3, if_pos (by omega)]
            · rw [if_neg e3, if_neg (by omega)]
  refine gx_el (loop (2 ^ (3 * w)) 0 F (by omega) (fun _ _ => rfl) (fun q hq => ?_)) ⟨rfl, rfl, rfl, rfl, trivial⟩
  rw [if_neg (by omega)]
  exact (g3 q hq).1
end
