/-! the reference's sets of states (own text) -/
section
variable {l : Launch} {D : va_G} {ca : Nat → ClassId} {ks : List Nat} {lay : Nat → gxE} {ad : Nat → Nat} {F : Nat → Nat → Int32} {L : Nat → Nat → Int64} {N w ne np : Nat} {ef et ek ev : Nat → Nat} {tg : Nat → Nat → Option Nat} {sg : Nat → Nat} {S : Nat → Bool}
/-- the set that is worked on -/
def WkOK (F : Nat → Nat → Int32) (N : Nat) (S : Nat → Bool) : Prop := ∀ q, q < N → F 57 q = cond (S q) 1 0
/-- the states that an edge can lead into the set -/
def prB (w : Nat) (ek ev : Nat → Nat) (tg : Nat → Nat → Option Nat) (S : Nat → Bool) (e q : Nat) : Bool := ((List.range (chs w ek e)).find? (fsO w ek ev tg S e q)).isSome
theorem prB_iff {e q : Nat} : prB w ek ev tg S e q = true ↔ ∃ y u, y < chs w ek e ∧ stp w ek ev tg e q y = some u ∧ S u = true := by
  unfold prB
  rw [List.find?_isSome]
  constructor
  · rintro ⟨y, hy, h⟩
    unfold fsO at h
    cases hs : stp w ek ev tg e q y with
    | none => rw [hs] at h; cases h
    | some u => rw [hs] at h; exact ⟨y, u, List.mem_range.mp hy, hs, h⟩
  · rintro ⟨y, u, hy, hs, h⟩
    refine ⟨y, List.mem_range.mpr hy, ?_⟩
    unfold fsO
    rw [hs]
    exact h
theorem prB_eq {e q : Nat} {b : Bool} (h : (∃ y u, y < chs w ek e ∧ stp w ek ev tg e q y = some u ∧ S u = true) ↔ b = true) : prB w ek ev tg S e q = b := by
  cases b with
  | true => exact prB_iff.mpr (h.mpr rfl)
  | false =>
    cases hp : prB w ek ev tg S e q with
    | false => rfl
    | true => exact absurd (h.mp (prB_iff.mp hp)) (by decide)
theorem MeOK.stp_lt (hw : w < 4) (hE : MeOK F L w ne ef et ek ev tg) {e0 q y t : Nat} (he : e0 < ne) (hq : q < 2 ^ (3 * w)) (h : stp w ek ev tg e0 q y = some t) : t < 2 ^ (3 * w) := by
  obtain ⟨-, -, ⟨-, hk3⟩, ⟨-, hv3⟩, hx⟩ := hE.2.2 e0 he
  unfold stp at h
  by_cases e2 : ek e0 = 2
  · rw [if_pos e2] at h
    cases h
    exact wr_lt' hw hv3 hq
  · rw [if_neg e2] at h
    exact (hx q hq).1 t h
theorem prB_congr (hw : w < 4) (hE : MeOK F L w ne ef et ek ev tg) {S2 : Nat → Bool} (h : ∀ q, q < 2 ^ (3 * w) → S q = S2 q) {e0 q : Nat} (he : e0 < ne) (hq : q < 2 ^ (3 * w)) : prB w ek ev tg S e0 q = prB w ek ev tg S2 e0 q := by
  refine prB_eq ?_
  rw [prB_iff]
  constructor
  · rintro ⟨y, u, c1, c2, c3⟩
    exact ⟨y, u, c1, c2, by rw [← h u (hE.stp_lt hw he hq c2)]; exact c3⟩
  · rintro ⟨y, u, c1, c2, c3⟩
    exact ⟨y, u, c1, c2, by rw [h u (hE.stp_lt hw he hq c2)]; exact c3⟩
set_option maxHeartbeats 4000000 in
theorem c_Mo_leadsIn (HX : gH ks lay N sM) (hS : MsOK F w) (hE : MeOK F L w ne ef et ek ev tg) (hW : WkOK F (2 ^ (3 * w)) S) {e0 q : Nat} (he : e0 < ne) (hq : q < 2 ^ (3 * w)) : Con l y_Mo_leadsIn (Cond.code y_Mo_leadsIn b_Mo_leadsIn 5 (some .boolean) :: WT) rm_Mo_leadsIn D vcl ca ks lay ad [xR 40, xI (nI e0), xI (nI q)] F L (fun r F' L' => r = some (xI (cond (prB w ek ev tg S e0 q) 1 0)) ∧ F' = F ∧ L' = L) := by
  have hw : w < 4 := by have := hS.1; omega
  have hN := pu_N w hw
  have hne := hE.1
  have h2w : 1 < 2 ^ w := Nat.one_lt_two_pow (by have := hS.1; omega)
  have h8 := pu_p8 w hw
  obtain ⟨-, -, ⟨hkd, hk3⟩, ⟨hv, hv3⟩, hx⟩ := hE.2.2 e0 he
  obtain ⟨hx0, hx1, hx2, hx4⟩ := hx q hq
  refine Con.ofK (fun post K => ?_)
  refine Con.of (ls := [(0, xR 40), (1, xI (nI e0)), (2, xI (nI q))]) (by decide) rfl rfl (Nat.le_of_ble_eq_true rfl) ?_
  intro p e s m args below meth c A X hr hA
  have hcase : ek e0 = 0 ∨ ek e0 = 1 ∨ ek e0 = 2 := by omega
  rcases hcase with hk | hk | hk
  · have hkd2 : F 44 e0 = nI 2 := by rw [hkd, hk]; rfl
    obtain ⟨o1, o2⟩ := hx2 hk
    have hch : chs w ek e0 = 1 := by unfold chs; rw [if_neg (by omega)]
    have hst : ∀ y, stp w ek ev tg e0 q y = tg e0 q := fun y => by unfold stp; rw [if_neg (by omega)]
    have hpr : prB w ek ev tg S e0 q = ((tg e0 q).isSome && S q) := by
      refine prB_eq ?_
      rw [Bool.and_eq_true]
      constructor
      · rintro ⟨y, u, -, c2, c3⟩
        rw [hst] at c2
        rcases o2 with o2 | o2
        · rw [o2] at c2; cases c2
        · rw [c2] at o2
          cases o2
          exact ⟨by rw [c2]; rfl, c3⟩
      · rintro ⟨c1, c2⟩
        rcases o2 with o2 | o2
        · rw [o2] at c1; cases c1
        · exact ⟨0, q, by omega, by rw [hst, o2], c2⟩
    rw [hpr] at K
    refine gx_aload_n X d_Mo_leadsIn_0 rfl rfl ?_
    refine gx_getr X d_Mo_leadsIn_1 (gci in_Mo) (HX _ rfl).1 (HX _ rfl).2 rfl 9 (by decide) (gcw X lk_Mo_19) (fun _ h => h) rfl ?_
    refine gx_iload_n X d_Mo_leadsIn_4 rfl rfl ?_
    refine gx_iald X d_Mo_leadsIn_5 (HX _ rfl).1 (HX _ rfl).2 rfl (by omega) (by omega) ?_
    refine gx_top hkd2 ?_
    refine gx_if_ne X d_Mo_leadsIn_6 (tgt := 21) (by decide) (fun h6 => ?_) (fun h6 => ?_)
    · refine gx_aload_n X d_Mo_leadsIn_21 rfl rfl ?_
      refine gx_getr X d_Mo_leadsIn_22 (gci in_Mo) (HX _ rfl).1 (HX _ rfl).2 rfl 9 (by decide) (gcw X lk_Mo_19) (fun _ h => h) rfl ?_
      refine gx_iload_n X d_Mo_leadsIn_25 rfl rfl ?_
      refine gx_iald X d_Mo_leadsIn_26 (HX _ rfl).1 (HX _ rfl).2 rfl (by omega) (by omega) ?_
      refine gx_top hkd2 ?_
      refine gx_iconst X d_Mo_leadsIn_27 (v := nI 2) (by decide) ?_
      refine gx_icmp_ne X d_Mo_leadsIn_28 (tgt := 55) (by decide) (fun h28 => ?_) (fun h28 => ?_)
      · exact absurd rfl h28
      · refine gx_aload_n X d_Mo_leadsIn_31 rfl rfl ?_
        refine gx_iload_n X d_Mo_leadsIn_32 rfl rfl ?_
        refine gx_iload_n X d_Mo_leadsIn_33 rfl rfl ?_
        refine gx_callV X d_Mo_leadsIn_34 mf_Mo_isOn lk_Mo_164 (c_Mo_isOn HX (e0 := e0) (q := q) (by omega) (by omega)) (HX _ rfl).1 (HX _ rfl).2 rfl rfl rfl (Nat.le_of_ble_eq_true rfl) ⟨by decide, by decide⟩ ⟨rfl, rfl⟩ ⟨Nat.zero_le _, Nat.zero_le _⟩ (fun r34 F34 L34 hp34 => ?_)
        obtain ⟨rfl, rfl, rfl⟩ := hp34
        rw [o1]
        cases hs : (tg e0 q).isSome with
        | false =>
          rw [hs] at K
          refine gx_if_eq X d_Mo_leadsIn_37 (tgt := 53) (by decide) (fun h37 => ?_) (fun h37 => ?_)
          · refine gx_iconst X d_Mo_leadsIn_53 (v := nI 0) (by decide) ?_
            refine gx_zret X hr (by first | rfl | decide) hA d_Mo_leadsIn_54 (K _ _ _ ⟨rfl, rfl, rfl⟩)
          · exact absurd rfl h37
        | true =>
          rw [hs] at K
          refine gx_if_eq X d_Mo_leadsIn_37 (tgt := 53) (by decide) (fun h37 => ?_) (fun h37 => ?_)
          · exact absurd h37 (by decide)
          · refine gx_aload_n X d_Mo_leadsIn_40 rfl rfl ?_
            refine gx_getr X d_Mo_leadsIn_41 (gci in_Mo) (HX _ rfl).1 (HX _ rfl).2 rfl 28 (by decide) (gcw X lk_Mo_66) (fun _ h => h) rfl ?_
            refine gx_iload_n X d_Mo_leadsIn_44 rfl rfl ?_
            refine gx_zald X d_Mo_leadsIn_45 (HX _ rfl).1 (HX _ rfl).2 rfl (by omega) (by omega) ?_
            refine gx_top (hW q hq) ?_
            cases hsq : S q with
            | false =>
              rw [hsq] at K
              refine gx_if_eq X d_Mo_leadsIn_46 (tgt := 53) (by decide) (fun h46 => ?_) (fun h46 => ?_)
              · refine gx_iconst X d_Mo_leadsIn_53 (v := nI 0) (by decide) ?_
                refine gx_zret X hr (by first | rfl | decide) hA d_Mo_leadsIn_54 (K _ _ _ ⟨rfl, rfl, rfl⟩)
              · exact absurd rfl h46
            | true =>
              rw [hsq] at K
              refine gx_if_eq X d_Mo_leadsIn_46 (tgt := 53) (by decide) (fun h46 => ?_) (fun h46 => ?_)
              · exact absurd h46 (by decide)
              · refine gx_iconst X d_Mo_leadsIn_49 (v := nI 1) (by decide) ?_
                refine gx_goto X d_Mo_leadsIn_50 (tgt := 54) (by decide) ?_
                refine gx_zret X hr (by first | rfl | decide) hA d_Mo_leadsIn_54 (K _ _ _ ⟨rfl, rfl, rfl⟩)
    · exact absurd h6 (by decide)
  · have hkd2 : F 44 e0 = nI 0 := by rw [hkd, hk]; rfl
    obtain ⟨x, hx8, htg, -⟩ := hx1 hk
    have htl := hx0 _ htg
    have hch : chs w ek e0 = 1 := by unfold chs; rw [if_neg (by omega)]
    have hst : ∀ y, stp w ek ev tg e0 q y = tg e0 q := fun y => by unfold stp; rw [if_neg (by omega)]
    have hpr : prB w ek ev tg S e0 q = S (wr w q (ev e0) x) := by
      refine prB_eq ⟨?_, fun c1 => ⟨0, _, by omega, by rw [hst, htg], c1⟩⟩
      rintro ⟨y, u, -, c2, c3⟩
      rw [hst, htg] at c2
      cases c2
      exact c3
    rw [hpr] at K
    refine gx_aload_n X d_Mo_leadsIn_0 rfl rfl ?_
    refine gx_getr X d_Mo_leadsIn_1 (gci in_Mo) (HX _ rfl).1 (HX _ rfl).2 rfl 9 (by decide) (gcw X lk_Mo_19) (fun _ h => h) rfl ?_
    refine gx_iload_n X d_Mo_leadsIn_4 rfl rfl ?_
    refine gx_iald X d_Mo_leadsIn_5 (HX _ rfl).1 (HX _ rfl).2 rfl (by omega) (by omega) ?_
    refine gx_top hkd2 ?_
    refine gx_if_ne X d_Mo_leadsIn_6 (tgt := 21) (by decide) (fun h6 => ?_) (fun h6 => ?_)
    · exact absurd rfl h6
    · refine gx_aload_n X d_Mo_leadsIn_9 rfl rfl ?_
      refine gx_getr X d_Mo_leadsIn_10 (gci in_Mo) (HX _ rfl).1 (HX _ rfl).2 rfl 28 (by decide) (gcw X lk_Mo_66) (fun _ h => h) rfl ?_
      refine gx_aload_n X d_Mo_leadsIn_13 rfl rfl ?_
      refine gx_iload_n X d_Mo_leadsIn_14 rfl rfl ?_
      refine gx_iload_n X d_Mo_leadsIn_15 rfl rfl ?_
      refine gx_callV X d_Mo_leadsIn_16 mf_Mo_led lk_Mo_161 (c_Mo_led HX hS hE he hk hq) (HX _ rfl).1 (HX _ rfl).2 rfl rfl rfl (Nat.le_of_ble_eq_true rfl) ⟨by decide, by decide⟩ ⟨rfl, rfl⟩ ⟨Nat.zero_le _, Nat.zero_le _⟩ (fun r16 F16 L16 hp16 => ?_)
      obtain ⟨rfl, rfl, rfl⟩ := hp16
      refine gx_top (y := nI (wr w q (ev e0) x)) (by rw [htg]; rfl) ?_
      refine gx_zald X d_Mo_leadsIn_19 (HX _ rfl).1 (HX _ rfl).2 rfl (by omega) (by omega) ?_
      refine gx_top (hW _ htl) ?_
      cases hsq : S (wr w q (ev e0) x) with
      | false =>
        rw [hsq] at K
        refine gx_zret X hr (by first | rfl | decide) hA d_Mo_leadsIn_20 (K _ _ _ ⟨rfl, rfl, rfl⟩)
      | true =>
        rw [hsq] at K
        refine gx_zret X hr (by first | rfl | decide) hA d_Mo_leadsIn_20 (K _ _ _ ⟨rfl, rfl, rfl⟩)
  · have hkd2 : F 44 e0 = nI 1 := by rw [hkd, hk]; rfl
    have hch : chs w ek e0 = 2 ^ w := by unfold chs; rw [if_pos hk]
    have hst : ∀ y, stp w ek ev tg e0 q y = some (wr w q (ev e0) y) := fun y => by unfold stp; rw [if_pos hk]
    refine gx_aload_n X d_Mo_leadsIn_0 rfl rfl ?_
    refine gx_getr X d_Mo_leadsIn_1 (gci in_Mo) (HX _ rfl).1 (HX _ rfl).2 rfl 9 (by decide) (gcw X lk_Mo_19) (fun _ h => h) rfl ?_
    refine gx_iload_n X d_Mo_leadsIn_4 rfl rfl ?_
    refine gx_iald X d_Mo_leadsIn_5 (HX _ rfl).1 (HX _ rfl).2 rfl (by omega) (by omega) ?_
    refine gx_top hkd2 ?_
    refine gx_if_ne X d_Mo_leadsIn_6 (tgt := 21) (by decide) (fun h6 => ?_) (fun h6 => ?_)
    · refine gx_aload_n X d_Mo_leadsIn_21 rfl rfl ?_
      refine gx_getr X d_Mo_leadsIn_22 (gci in_Mo) (HX _ rfl).1 (HX _ rfl).2 rfl 9 (by decide) (gcw X lk_Mo_19) (fun _ h => h) rfl ?_
      refine gx_iload_n X d_Mo_leadsIn_25 rfl rfl ?_
      refine gx_iald X d_Mo_leadsIn_26 (HX _ rfl).1 (HX _ rfl).2 rfl (by omega) (by omega) ?_
      refine gx_top hkd2 ?_
      refine gx_iconst X d_Mo_leadsIn_27 (v := nI 2) (by decide) ?_
      refine gx_icmp_ne X d_Mo_leadsIn_28 (tgt := 55) (by decide) (fun h28 => ?_) (fun h28 => ?_)
      · refine gx_iconst X d_Mo_leadsIn_55 (v := nI 0) (by decide) ?_
        refine gx_istore_n X d_Mo_leadsIn_56 rfl (by decide) ?_
        refine gx_iconst X d_Mo_leadsIn_57 (v := nI 0) (by decide) ?_
        refine gx_istore X d_Mo_leadsIn_58 (by decide) ?_
        have loop : ∀ (d v : Nat) (b : Bool), v + d = 2 ^ w → (b = true ↔ ∃ y, y < v ∧ S (wr w q (ev e0) y) = true) → GX p l e rm_Mo_leadsIn s m args below meth c (MQ below (gxQ D vcl ca ks lay ad s.heap.size post) args s 0 0 (gxA ks ad s.heap.size)) 5 A D vcl ca ks lay ad 0 0 60 [(4, xI (nI v)), (3, xI (duI b)), (2, xI (nI q)), (1, xI (nI e0)), (0, xR 40)] [] F L := by
          intro d
          induction d with
          | zero =>
            intro v b hd hb
            refine gx_iload X d_Mo_leadsIn_60 rfl ?_
            refine gx_aload_n X d_Mo_leadsIn_62 rfl rfl ?_
            refine gx_geti X d_Mo_leadsIn_63 (gci in_Mo) (HX _ rfl).1 (HX _ rfl).2 rfl 1 (by decide) (gcw X lk_Mo_79) (fun _ h => h) rfl ?_
            refine gx_top hS.2.2.1 ?_
            refine gx_icmp_gt X d_Mo_leadsIn_66 (tgt := 106) (by decide) (fun h66 => ?_) (fun h66 => ?_)
            · have hpr : prB w ek ev tg S e0 q = b := by
                refine prB_eq ⟨?_, fun c1 => ?_⟩
                · rintro ⟨y, u, c1, c2, c3⟩
                  rw [hst] at c2
                  cases c2
                  exact hb.mpr ⟨y, by omega, c3⟩
                · obtain ⟨y, z1, z2⟩ := hb.mp c1
                  exact ⟨y, _, by omega, hst y, z2⟩
              rw [hpr] at K
              refine gx_iload_n X d_Mo_leadsIn_106 rfl rfl ?_
              cases b with
              | false =>
                refine gx_zret X hr (by first | rfl | decide) hA d_Mo_leadsIn_107 (K _ _ _ ⟨rfl, rfl, rfl⟩)
              | true =>
                refine gx_zret X hr (by first | rfl | decide) hA d_Mo_leadsIn_107 (K _ _ _ ⟨rfl, rfl, rfl⟩)
            · exact absurd ((nI_ltI (a := 2 ^ w - 1) (b := v) (by omega) (by omega)).mpr (by omega)) h66
          | succ d ih =>
            intro v b hd hb
            have hwl : wr w q (ev e0) v < 2 ^ (3 * w) := wr_lt' hw hv3 hq
            refine gx_iload X d_Mo_leadsIn_60 rfl ?_
            refine gx_aload_n X d_Mo_leadsIn_62 rfl rfl ?_
            refine gx_geti X d_Mo_leadsIn_63 (gci in_Mo) (HX _ rfl).1 (HX _ rfl).2 rfl 1 (by decide) (gcw X lk_Mo_79) (fun _ h => h) rfl ?_
            refine gx_top hS.2.2.1 ?_
            refine gx_icmp_gt X d_Mo_leadsIn_66 (tgt := 106) (by decide) (fun h66 => ?_) (fun h66 => ?_)
            · exact absurd ((nI_ltI (by omega) (by omega)).mp h66) (by omega)
            · cases b with
              | true =>
                obtain ⟨y, z1, z2⟩ := hb.mp rfl
                refine gx_iload_n X d_Mo_leadsIn_69 rfl rfl ?_
                refine gx_if_ne X d_Mo_leadsIn_70 (tgt := 94) (by decide) (fun h70 => ?_) (fun h70 => ?_)
                · refine gx_iconst X d_Mo_leadsIn_94 (v := nI 1) (by decide) ?_
                  refine gx_goto X d_Mo_leadsIn_95 (tgt := 99) (by decide) ?_
                  refine gx_istore_n X d_Mo_leadsIn_99 rfl (by decide) ?_
                  refine gx_iinc X d_Mo_leadsIn_100 rfl (pu_inc _) ?_
                  refine gx_goto X d_Mo_leadsIn_103 (tgt := 60) (by decide) ?_
                  refine gx_el (ih (v + 1) true (by omega) ⟨fun _ => ⟨y, by omega, z2⟩, fun _ => rfl⟩) ⟨rfl, rfl, rfl, rfl, rfl, trivial⟩
                · exact absurd h70 (by decide)
              | false =>
                have hno : ∀ y, y < v → ¬ S (wr w q (ev e0) y) = true := fun y hy hs => absurd (hb.mpr ⟨y, hy, hs⟩) (by decide)
                refine gx_iload_n X d_Mo_leadsIn_69 rfl rfl ?_
                refine gx_if_ne X d_Mo_leadsIn_70 (tgt := 94) (by decide) (fun h70 => ?_) (fun h70 => ?_)
                · exact absurd rfl h70
                · refine gx_aload_n X d_Mo_leadsIn_73 rfl rfl ?_
                  refine gx_getr X d_Mo_leadsIn_74 (gci in_Mo) (HX _ rfl).1 (HX _ rfl).2 rfl 28 (by decide) (gcw X lk_Mo_66) (fun _ h => h) rfl ?_
                  refine gx_aload_n X d_Mo_leadsIn_77 rfl rfl ?_
                  refine gx_iload_n X d_Mo_leadsIn_78 rfl rfl ?_
                  refine gx_aload_n X d_Mo_leadsIn_79 rfl rfl ?_
                  refine gx_getr X d_Mo_leadsIn_80 (gci in_Mo) (HX _ rfl).1 (HX _ rfl).2 rfl 10 (by decide) (gcw X lk_Mo_22) (fun _ h => h) rfl ?_
                  refine gx_iload_n X d_Mo_leadsIn_83 rfl rfl ?_
                  refine gx_iald X d_Mo_leadsIn_84 (HX _ rfl).1 (HX _ rfl).2 rfl (by omega) (by omega) ?_
                  refine gx_top hv ?_
                  refine gx_iload X d_Mo_leadsIn_85 rfl ?_
                  refine gx_callV X d_Mo_leadsIn_87 mf_Mo_with lk_Mo_152 (c_Mo_with HX hS (st := q) (v := ev e0) (by omega) hv3 (nI v)) (HX _ rfl).1 (HX _ rfl).2 rfl rfl rfl (Nat.le_of_ble_eq_true rfl) ⟨by decide, by decide⟩ ⟨rfl, rfl⟩ ⟨Nat.zero_le _, Nat.zero_le _⟩ (fun r87 F87 L87 hp87 => ?_)
                  obtain ⟨rfl, rfl, rfl⟩ := hp87
                  refine gx_top (y := nI (wr w q (ev e0) v)) (by rw [nI_nat (by omega)]) ?_
                  refine gx_zald X d_Mo_leadsIn_90 (HX _ rfl).1 (HX _ rfl).2 rfl (by omega) (by omega) ?_
                  refine gx_top (hW _ hwl) ?_
                  cases hsq : S (wr w q (ev e0) v) with
                  | true =>
                    refine gx_if_eq X d_Mo_leadsIn_91 (tgt := 98) (by decide) (fun h91 => ?_) (fun h91 => ?_)
                    · exact absurd h91 (by decide)
                    · refine gx_iconst X d_Mo_leadsIn_94 (v := nI 1) (by decide) ?_
                      refine gx_goto X d_Mo_leadsIn_95 (tgt := 99) (by decide) ?_
                      refine gx_istore_n X d_Mo_leadsIn_99 rfl (by decide) ?_
                      refine gx_iinc X d_Mo_leadsIn_100 rfl (pu_inc _) ?_
                      refine gx_goto X d_Mo_leadsIn_103 (tgt := 60) (by decide) ?_
                      exact gx_el (ih (v + 1) true (by omega) ⟨fun _ => ⟨v, by omega, hsq⟩, fun _ => rfl⟩) ⟨rfl, rfl, rfl, rfl, rfl, trivial⟩
                  | false =>
                    refine gx_if_eq X d_Mo_leadsIn_91 (tgt := 98) (by decide) (fun h91 => ?_) (fun h91 => ?_)
                    · refine gx_iconst X d_Mo_leadsIn_98 (v := nI 0) (by decide) ?_
                      refine gx_istore_n X d_Mo_leadsIn_99 rfl (by decide) ?_
                      refine gx_iinc X d_Mo_leadsIn_100 rfl (pu_inc _) ?_
                      refine gx_goto X d_Mo_leadsIn_103 (tgt := 60) (by decide) ?_
                      refine gx_el (ih (v + 1) false (by omega) ⟨fun z => (by cases z), fun ⟨y, z1, z2⟩ => ?_⟩) ⟨rfl, rfl, rfl, rfl, rfl, trivial⟩
                      by_cases e1 : y = v
                      · rw [e1, hsq] at z2; cases z2
                      · exact absurd z2 (hno y (by omega))
                    · exact absurd rfl h91
        refine gx_el (loop (2 ^ w) 0 false (by omega) ⟨fun z => (by cases z), fun ⟨y, z1, z2⟩ => absurd z1 (Nat.not_lt_zero y)⟩) ⟨rfl, rfl, rfl, rfl, rfl, trivial⟩
      · exact absurd h28 (by decide)
    · exact absurd h6 (by decide)
set_option maxHeartbeats 4000000 in
theorem c_Mo_before (HX : gH ks lay N sM) (hS : MsOK F w) (hE : MeOK F L w ne ef et ek ev tg) (hW : WkOK F (2 ^ (3 * w)) S) {e0 : Nat} (he : e0 < ne) : Con l y_Mo_before (Cond.code y_Mo_before b_Mo_before 3 none :: WT) rm_Mo_before D vcl ca ks lay ad [xR 40, xI (nI e0)] F L (fun r F' L' => r = none ∧ L' = L ∧ (∀ a, a ≠ 55 → a ≠ 57 → F' a = F a) ∧ WkOK F' (2 ^ (3 * w)) (prB w ek ev tg S e0)) := by
  have hw : w < 4 := by have := hS.1; omega
  have hN := pu_N w hw
  have hne := hE.1
  refine Con.ofK (fun post K => ?_)
  refine Con.of (ls := [(0, xR 40), (1, xI (nI e0))]) (by decide) rfl rfl (Nat.le_of_ble_eq_true rfl) ?_
  intro p e s m args below meth c A X hr hA
  generalize hP : prB w ek ev tg S e0 = P at K
  have loop2 : ∀ (d i : Nat) (G : Nat → Nat → Int32), i + d = 2 ^ (3 * w) → (∀ a, a ≠ 55 → a ≠ 57 → G a = F a) → (∀ q, q < 2 ^ (3 * w) → G 55 q = cond (P q) (nI 1) (nI 0)) → (∀ q, q < i → G 57 q = cond (P q) 1 0) → GX p l e rm_Mo_before s m args below meth c (MQ below (gxQ D vcl ca ks lay ad s.heap.size post) args s 0 0 (gxA ks ad s.heap.size)) 3 A D vcl ca ks lay ad 0 0 38 [(2, xI (nI i)), (1, xI (nI e0)), (0, xR 40)] [] G L := by
    intro d
    induction d with
    | zero =>
      intro i G hd f1 f2 f3
      refine gx_iload_n X d_Mo_before_38 rfl rfl ?_
      refine gx_aload_n X d_Mo_before_39 rfl rfl ?_
      refine gx_geti X d_Mo_before_40 (gci in_Mo) (HX _ rfl).1 (HX _ rfl).2 rfl 2 (by decide) (gcw X lk_Mo_82) (fun _ h => h) rfl ?_
      refine gx_top (y := nI (2 ^ (3 * w))) (by rw [f1 40 (by decide) (by decide)]; exact hS.2.2.2) ?_
      refine gx_icmp_ge X d_Mo_before_43 (tgt := 73) (by decide) (fun h43 => ?_) (fun h43 => ?_)
      · refine gx_vret X hr hA d_Mo_before_73 (K _ _ _ ⟨rfl, rfl, f1, fun q hq => f3 q (by omega)⟩)
      · exact absurd ((nI_leI (by omega) (by omega)).mpr (by omega)) h43
    | succ d ih =>
      intro i G hd f1 f2 f3
      refine gx_iload_n X d_Mo_before_38 rfl rfl ?_
      refine gx_aload_n X d_Mo_before_39 rfl rfl ?_
      refine gx_geti X d_Mo_before_40 (gci in_Mo) (HX _ rfl).1 (HX _ rfl).2 rfl 2 (by decide) (gcw X lk_Mo_82) (fun _ h => h) rfl ?_
      refine gx_top (y := nI (2 ^ (3 * w))) (by rw [f1 40 (by decide) (by decide)]; exact hS.2.2.2) ?_
      refine gx_icmp_ge X d_Mo_before_43 (tgt := 73) (by decide) (fun h43 => ?_) (fun h43 => ?_)
      · exact absurd ((nI_leI (by omega) (by omega)).mp h43) (by omega)
      · refine gx_aload_n X d_Mo_before_46 rfl rfl ?_
        refine gx_getr X d_Mo_before_47 (gci in_Mo) (HX _ rfl).1 (HX _ rfl).2 rfl 28 (by decide) (gcw X lk_Mo_66) (fun _ h => h) rfl ?_
        refine gx_iload_n X d_Mo_before_50 rfl rfl ?_
        refine gx_aload_n X d_Mo_before_51 rfl rfl ?_
        refine gx_getr X d_Mo_before_52 (gci in_Mo) (HX _ rfl).1 (HX _ rfl).2 rfl 25 (by decide) (gcw X lk_Mo_60) (fun _ h => h) rfl ?_
        refine gx_iload_n X d_Mo_before_55 rfl rfl ?_
        refine gx_iald X d_Mo_before_56 (HX _ rfl).1 (HX _ rfl).2 rfl (by omega) (by omega) ?_
        refine gx_top (f2 i (by omega)) ?_
        have next : GX p l e rm_Mo_before s m args below meth c (MQ below (gxQ D vcl ca ks lay ad s.heap.size post) args s 0 0 (gxA ks ad s.heap.size)) 3 A D vcl ca ks lay ad 0 0 67 [(2, xI (nI i)), (1, xI (nI e0)), (0, xR 40)] [] (gxu G 57 i (cond (P i) 1 0)) L := by
          refine gx_iinc X d_Mo_before_67 rfl (pu_inc _) ?_
          refine gx_goto X d_Mo_before_70 (tgt := 38) (by decide) ?_
          refine gx_el (ih (i + 1) _ (by omega) (fun a b1 b2 => by rw [gxu_cell b2]; exact f1 a b1 b2) (fun q hq => by rw [gxu_cell (by decide)]; exact f2 q hq) (fun q hq => ?_)) ⟨rfl, rfl, rfl, trivial⟩
          by_cases e1 : q = i
          · rw [e1, gxu_at]
          · rw [gxu_ne (fun z => e1 z.2)]; exact f3 q (by omega)
        cases hb : P i with
        | true =>
          rw [hb] at next
          refine gx_iconst X d_Mo_before_57 (v := nI 1) (by decide) ?_
          refine gx_icmp_ne X d_Mo_before_58 (tgt := 65) (by decide) (fun h58 => ?_) (fun h58 => ?_)
          · exact absurd rfl h58
          · refine gx_iconst X d_Mo_before_61 (v := nI 1) (by decide) ?_
            refine gx_goto X d_Mo_before_62 (tgt := 66) (by decide) ?_
            refine gx_zast X d_Mo_before_66 (v := 1) (HX _ rfl).1 (HX _ rfl).2 rfl (by omega) (by omega) (by first | decide | exact zn_cond _) ?_
            exact next
        | false =>
          rw [hb] at next
          refine gx_iconst X d_Mo_before_57 (v := nI 1) (by decide) ?_
          refine gx_icmp_ne X d_Mo_before_58 (tgt := 65) (by decide) (fun h58 => ?_) (fun h58 => ?_)
          · refine gx_iconst X d_Mo_before_65 (v := nI 0) (by decide) ?_
            refine gx_zast X d_Mo_before_66 (v := 0) (HX _ rfl).1 (HX _ rfl).2 rfl (by omega) (by omega) (by first | decide | exact zn_cond _) ?_
            exact next
          · exact absurd h58 (by decide)
  have loop1 : ∀ (d i : Nat) (G : Nat → Nat → Int32), i + d = 2 ^ (3 * w) → (∀ a, a ≠ 55 → G a = F a) → (∀ q, q < i → G 55 q = cond (P q) (nI 1) (nI 0)) → GX p l e rm_Mo_before s m args below meth c (MQ below (gxQ D vcl ca ks lay ad s.heap.size post) args s 0 0 (gxA ks ad s.heap.size)) 3 A D vcl ca ks lay ad 0 0 2 [(2, xI (nI i)), (1, xI (nI e0)), (0, xR 40)] [] G L := by
    intro d
    induction d with
    | zero =>
      intro i G hd f1 f2
      refine gx_iload_n X d_Mo_before_2 rfl rfl ?_
      refine gx_aload_n X d_Mo_before_3 rfl rfl ?_
      refine gx_geti X d_Mo_before_4 (gci in_Mo) (HX _ rfl).1 (HX _ rfl).2 rfl 2 (by decide) (gcw X lk_Mo_82) (fun _ h => h) rfl ?_
      refine gx_top (y := nI (2 ^ (3 * w))) (by rw [f1 40 (by decide)]; exact hS.2.2.2) ?_
      refine gx_icmp_ge X d_Mo_before_7 (tgt := 36) (by decide) (fun h7 => ?_) (fun h7 => ?_)
      · refine gx_iconst X d_Mo_before_36 (v := nI 0) (by decide) ?_
        refine gx_istore_n X d_Mo_before_37 rfl (by decide) ?_
        exact gx_el (loop2 (2 ^ (3 * w)) 0 G (by omega) (fun a b1 _ => f1 a b1) (fun q hq => f2 q (by omega)) (fun q hq => absurd hq (Nat.not_lt_zero q))) ⟨rfl, rfl, rfl, trivial⟩
      · exact absurd ((nI_leI (by omega) (by omega)).mpr (by omega)) h7
    | succ d ih =>
      intro i G hd f1 f2
      refine gx_iload_n X d_Mo_before_2 rfl rfl ?_
      refine gx_aload_n X d_Mo_before_3 rfl rfl ?_
      refine gx_geti X d_Mo_before_4 (gci in_Mo) (HX _ rfl).1 (HX _ rfl).2 rfl 2 (by decide) (gcw X lk_Mo_82) (fun _ h => h) rfl ?_
      refine gx_top (y := nI (2 ^ (3 * w))) (by rw [f1 40 (by decide)]; exact hS.2.2.2) ?_
      refine gx_icmp_ge X d_Mo_before_7 (tgt := 36) (by decide) (fun h7 => ?_) (fun h7 => ?_)
      · exact absurd ((nI_leI (by omega) (by omega)).mp h7) (by omega)
      · have next : GX p l e rm_Mo_before s m args below meth c (MQ below (gxQ D vcl ca ks lay ad s.heap.size post) args s 0 0 (gxA ks ad s.heap.size)) 3 A D vcl ca ks lay ad 0 0 30 [(2, xI (nI i)), (1, xI (nI e0)), (0, xR 40)] [] (gxu G 55 i (cond (P i) (nI 1) (nI 0))) L := by
          refine gx_iinc X d_Mo_before_30 rfl (pu_inc _) ?_
          refine gx_goto X d_Mo_before_33 (tgt := 2) (by decide) ?_
          refine gx_el (ih (i + 1) _ (by omega) (fun a b1 => by rw [gxu_cell b1]; exact f1 a b1) (fun q hq => ?_)) ⟨rfl, rfl, rfl, trivial⟩
          by_cases e1 : q = i
          · rw [e1, gxu_at]
          · rw [gxu_ne (fun z => e1 z.2)]; exact f2 q (by omega)
        refine gx_aload_n X d_Mo_before_10 rfl rfl ?_
        refine gx_getr X d_Mo_before_11 (gci in_Mo) (HX _ rfl).1 (HX _ rfl).2 rfl 25 (by decide) (gcw X lk_Mo_60) (fun _ h => h) rfl ?_
        refine gx_iload_n X d_Mo_before_14 rfl rfl ?_
        refine gx_aload_n X d_Mo_before_15 rfl rfl ?_
        refine gx_iload_n X d_Mo_before_16 rfl rfl ?_
        refine gx_iload_n X d_Mo_before_17 rfl rfl ?_
        refine gx_callV X d_Mo_before_18 mf_Mo_leadsIn lk_Mo_177 (c_Mo_leadsIn HX (hS.of (fun j _ => by rw [f1 40 (by decide)])) (hE.of (by rw [f1 40 (by decide)]) (fun a ha => f1 a (by omega)) rfl) (S := S) (fun q hq => by rw [f1 57 (by decide)]; exact hW q hq) (e0 := e0) (q := i) he (by omega)) (HX _ rfl).1 (HX _ rfl).2 rfl rfl rfl (Nat.le_of_ble_eq_true rfl) ⟨by decide, by decide⟩ ⟨rfl, rfl⟩ ⟨Nat.zero_le _, Nat.zero_le _⟩ (fun r18 F18 L18 hp18 => ?_)
        obtain ⟨rfl, rfl, rfl⟩ := hp18
        rw [hP]
        cases hb : P i with
        | true =>
          rw [hb] at next
          refine gx_if_eq X d_Mo_before_21 (tgt := 28) (by decide) (fun h21 => ?_) (fun h21 => ?_)
          · exact absurd h21 (by decide)
          · refine gx_iconst X d_Mo_before_24 (v := nI 1) (by decide) ?_
            refine gx_goto X d_Mo_before_25 (tgt := 29) (by decide) ?_
            refine gx_iast X d_Mo_before_29 (HX _ rfl).1 (HX _ rfl).2 rfl (by omega) (by omega) ?_
            exact next
        | false =>
          rw [hb] at next
          refine gx_if_eq X d_Mo_before_21 (tgt := 28) (by decide) (fun h21 => ?_) (fun h21 => ?_)
          · refine gx_iconst X d_Mo_before_28 (v := nI 0) (by decide) ?_
            refine gx_iast X d_Mo_before_29 (HX _ rfl).1 (HX _ rfl).2 rfl (by omega) (by omega) ?_
            exact next
          · exact absurd rfl h21
  refine gx_iconst X d_Mo_before_0 (v := nI 0) (by decide) ?_
  refine gx_istore_n X d_Mo_before_1 rfl (by decide) ?_
  exact gx_el (loop1 (2 ^ (3 * w)) 0 F (by omega) (fun _ _ => rfl) (fun q hq => absurd hq (Nat.not_lt_zero q))) ⟨rfl, rfl, rfl, trivial⟩
theorem c_Mo_fetch (HX : gH ks lay N sM) (hS : MsOK F w) {k : Nat} (hk : k ≤ 200) : Con l y_Mo_fetch (Cond.code y_Mo_fetch b_Mo_fetch 3 none :: WT) rm_Mo_fetch D vcl ca ks lay ad [xR 40, xI (nI k)] F L (fun r F' L' => r = none ∧ L' = L ∧ (∀ a, a ≠ 57 → F' a = F a) ∧ WkOK F' (2 ^ (3 * w)) (fun q => bB L 56 (8 * k) q)) := by
  have hw : w < 4 := by have := hS.1; omega
  have hN := pu_N w hw
  refine Con.ofK (fun post K => ?_)
  refine Con.of (ls := [(0, xR 40), (1, xI (nI k))]) (by decide) rfl rfl (Nat.le_of_ble_eq_true rfl) ?_
  intro p e s m args below meth c A X hr hA
  refine gx_iconst X d_Mo_fetch_0 (v := nI 0) (by decide) ?_
  refine gx_istore_n X d_Mo_fetch_1 rfl (by decide) ?_
  have loop1 : ∀ (d i : Nat) (G : Nat → Nat → Int32), i + d = 2 ^ (3 * w) → (∀ a, a ≠ 57 → G a = F a) → (∀ q, q < i → G 57 q = cond (bB L 56 (8 * k) q) 1 0) → GX p l e rm_Mo_fetch s m args below meth c (MQ below (gxQ D vcl ca ks lay ad s.heap.size post) args s 0 0 (gxA ks ad s.heap.size)) 3 A D vcl ca ks lay ad 0 0 2 [(2, xI (nI i)), (1, xI (nI k)), (0, xR 40)] [] G L := by
    intro d
    induction d with
    | zero =>
      intro i G hd f1 f2
      refine gx_iload_n X d_Mo_fetch_2 rfl rfl ?_
      refine gx_aload_n X d_Mo_fetch_3 rfl rfl ?_
      refine gx_geti X d_Mo_fetch_4 (gci in_Mo) (HX _ rfl).1 (HX _ rfl).2 rfl 2 (by decide) (gcw X lk_Mo_82) (fun _ h => h) rfl ?_
      refine gx_top (y := nI (2 ^ (3 * w))) (by rw [f1 40 (by decide)]; exact hS.2.2.2) ?_
      refine gx_icmp_ge X d_Mo_fetch_7 (tgt := 28) (by decide) (fun h7 => ?_) (fun h7 => ?_)
      · refine gx_vret X hr hA d_Mo_fetch_28 (K _ _ _ ⟨rfl, rfl, f1, fun q hq => f2 q (by omega)⟩)
      · exact absurd ((nI_leI (by omega) (by omega)).mpr (by omega)) h7
    | succ d ih =>
      intro i G hd f1 f2
      refine gx_iload_n X d_Mo_fetch_2 rfl rfl ?_
      refine gx_aload_n X d_Mo_fetch_3 rfl rfl ?_
      refine gx_geti X d_Mo_fetch_4 (gci in_Mo) (HX _ rfl).1 (HX _ rfl).2 rfl 2 (by decide) (gcw X lk_Mo_82) (fun _ h => h) rfl ?_
      refine gx_top (y := nI (2 ^ (3 * w))) (by rw [f1 40 (by decide)]; exact hS.2.2.2) ?_
      refine gx_icmp_ge X d_Mo_fetch_7 (tgt := 28) (by decide) (fun h7 => ?_) (fun h7 => ?_)
      · exact absurd ((nI_leI (by omega) (by omega)).mp h7) (by omega)
      · refine gx_aload_n X d_Mo_fetch_10 rfl rfl ?_
        refine gx_getr X d_Mo_fetch_11 (gci in_Mo) (HX _ rfl).1 (HX _ rfl).2 rfl 28 (by decide) (gcw X lk_Mo_66) (fun _ h => h) rfl ?_
        refine gx_iload_n X d_Mo_fetch_14 rfl rfl ?_
        refine gx_aload_n X d_Mo_fetch_15 rfl rfl ?_
        refine gx_iload_n X d_Mo_fetch_16 rfl rfl ?_
        refine gx_iload_n X d_Mo_fetch_17 rfl rfl ?_
        refine gx_callV X d_Mo_fetch_18 mf_Mo_isIn lk_Mo_180 (c_Mo_isIn HX (e0 := k) (q := i) hk (by omega)) (HX _ rfl).1 (HX _ rfl).2 rfl rfl rfl (Nat.le_of_ble_eq_true rfl) ⟨by decide, by decide⟩ ⟨rfl, rfl⟩ ⟨Nat.zero_le _, Nat.zero_le _⟩ (fun r18 F18 L18 hp18 => ?_)
        obtain ⟨rfl, rfl, rfl⟩ := hp18
        refine gx_zast X d_Mo_fetch_21 (v := (cond (bB L18 56 (8 * k) i) 1 0)) (HX _ rfl).1 (HX _ rfl).2 rfl (by omega) (by omega) (by first | decide | exact zn_cond _) ?_
        refine gx_iinc X d_Mo_fetch_22 rfl (pu_inc _) ?_
        refine gx_goto X d_Mo_fetch_25 (tgt := 2) (by decide) ?_
        refine gx_el (ih (i + 1) _ (by omega) (fun a b1 => by rw [gxu_cell b1]; exact f1 a b1) (fun q hq => ?_)) ⟨rfl, rfl, rfl, trivial⟩
        by_cases e1 : q = i
        · rw [e1, gxu_at]
        · rw [gxu_ne (fun z => e1 z.2)]; exact f2 q (by omega)
  exact gx_el (loop1 (2 ^ (3 * w)) 0 F (by omega) (fun _ _ => rfl) (fun q hq => absurd hq (Nat.not_lt_zero q))) ⟨rfl, rfl, rfl, trivial⟩
set_option maxHeartbeats 4000000 in
theorem c_Mo_store (HX : gH ks lay N sM) (hS : MsOK F w) (hW : WkOK F (2 ^ (3 * w)) S) {k : Nat} (hk : k ≤ 200) : Con l y_Mo_store (Cond.code y_Mo_store b_Mo_store 3 none :: WT) rm_Mo_store D vcl ca ks lay ad [xR 40, xI (nI k)] F L (fun r F' L' => r = none ∧ F' = F ∧ (∀ a, a ≠ 56 → L' a = L a) ∧ (∀ j, j < 8 * k ∨ 8 * k + 8 ≤ j → L' 56 j = L 56 j) ∧ ∀ q, q < 2 ^ (3 * w) → bB L' 56 (8 * k) q = S q) := by
  have hw : w < 4 := by have := hS.1; omega
  have hN := pu_N w hw
  refine Con.ofK (fun post K => ?_)
  refine Con.of (ls := [(0, xR 40), (1, xI (nI k))]) (by decide) rfl rfl (Nat.le_of_ble_eq_true rfl) ?_
  intro p e s m args below meth c A X hr hA
  have loop2 : ∀ (d i : Nat) (M : Nat → Nat → Int64), i + d = 2 ^ (3 * w) → (∀ a, a ≠ 56 → M a = L a) → (∀ j, j < 8 * k ∨ 8 * k + 8 ≤ j → M 56 j = L 56 j) → (∀ q, q < 512 → bB M 56 (8 * k) q = (decide (q < i) && S q)) → GX p l e rm_Mo_store s m args below meth c (MQ below (gxQ D vcl ca ks lay ad s.heap.size post) args s 0 0 (gxA ks ad s.heap.size)) 3 A D vcl ca ks lay ad 0 0 31 [(2, xI (nI i)), (1, xI (nI k)), (0, xR 40)] [] F M := by
    intro d
    induction d with
    | zero =>
      intro i M hd f1 f2 f3
      refine gx_iload_n X d_Mo_store_31 rfl rfl ?_
      refine gx_aload_n X d_Mo_store_32 rfl rfl ?_
      refine gx_geti X d_Mo_store_33 (gci in_Mo) (HX _ rfl).1 (HX _ rfl).2 rfl 2 (by decide) (gcw X lk_Mo_82) (fun _ h => h) rfl ?_
      refine gx_top hS.2.2.2 ?_
      refine gx_icmp_ge X d_Mo_store_36 (tgt := 77) (by decide) (fun h36 => ?_) (fun h36 => ?_)
      · refine gx_vret X hr hA d_Mo_store_77 (K _ _ _ ⟨rfl, rfl, f1, f2, fun q hq => by rw [f3 q (by omega), decide_eq_true (by omega), Bool.true_and]⟩)
      · exact absurd ((nI_leI (by omega) (by omega)).mpr (by omega)) h36
    | succ d ih =>
      intro i M hd f1 f2 f3
      have step : ∀ q, q < 512 → ¬ q = i → (decide (q < i + 1) && S q) = (decide (q < i) && S q) := fun q _ hne => by
        by_cases e3 : q < i
        · rw [decide_eq_true e3, decide_eq_true (show q < i + 1 by omega)]
        · rw [decide_eq_false e3, decide_eq_false (show ¬ q < i + 1 by omega)]
      refine gx_iload_n X d_Mo_store_31 rfl rfl ?_
      refine gx_aload_n X d_Mo_store_32 rfl rfl ?_
      refine gx_geti X d_Mo_store_33 (gci in_Mo) (HX _ rfl).1 (HX _ rfl).2 rfl 2 (by decide) (gcw X lk_Mo_82) (fun _ h => h) rfl ?_
      refine gx_top hS.2.2.2 ?_
      refine gx_icmp_ge X d_Mo_store_36 (tgt := 77) (by decide) (fun h36 => ?_) (fun h36 => ?_)
      · exact absurd ((nI_leI (by omega) (by omega)).mp h36) (by omega)
      · refine gx_aload_n X d_Mo_store_39 rfl rfl ?_
        refine gx_getr X d_Mo_store_40 (gci in_Mo) (HX _ rfl).1 (HX _ rfl).2 rfl 28 (by decide) (gcw X lk_Mo_66) (fun _ h => h) rfl ?_
        refine gx_iload_n X d_Mo_store_43 rfl rfl ?_
        refine gx_zald X d_Mo_store_44 (HX _ rfl).1 (HX _ rfl).2 rfl (by omega) (by omega) ?_
        refine gx_top (hW i (by omega)) ?_
        cases hb : S i with
        | false =>
          refine gx_if_eq X d_Mo_store_45 (tgt := 71) (by decide) (fun h45 => ?_) (fun h45 => ?_)
          · refine gx_iinc X d_Mo_store_71 rfl (pu_inc _) ?_
            refine gx_goto X d_Mo_store_74 (tgt := 31) (by decide) ?_
            refine gx_el (ih (i + 1) M (by omega) f1 f2 (fun q hq => ?_)) ⟨rfl, rfl, rfl, trivial⟩
            rw [f3 q hq]
            by_cases e1 : q = i
            · rw [e1, hb, Bool.and_false, Bool.and_false]
            · rw [step q hq e1]
          · exact absurd rfl h45
        | true =>
          refine gx_if_eq X d_Mo_store_45 (tgt := 71) (by decide) (fun h45 => ?_) (fun h45 => ?_)
          · exact absurd h45 (by decide)
          · refine gx_aload_n X d_Mo_store_48 rfl rfl ?_
            refine gx_getr X d_Mo_store_49 (gci in_Mo) (HX _ rfl).1 (HX _ rfl).2 rfl 27 (by decide) (gcw X lk_Mo_63) (fun _ h => h) rfl ?_
            refine gx_bipush X d_Mo_store_52 (v := nI 8) (by decide) ?_
            refine gx_iload_n X d_Mo_store_54 rfl rfl ?_
            refine gx_imul X d_Mo_store_55 ?_
            refine gx_top (pk_mul 8 k) ?_
            refine gx_iload_n X d_Mo_store_56 rfl rfl ?_
            refine gx_bipush X d_Mo_store_57 (v := nI 64) (by decide) ?_
            refine gx_idiv X d_Mo_store_59 (by decide) ?_
            refine gx_top (y := nI (i / 64)) (pk_div (by omega) (by decide) (by decide)) ?_
            refine gx_iadd X d_Mo_store_60 ?_
            refine gx_top (nI_add (8 * k) (i / 64)) ?_
            first | refine gx_dup2_11 X d_Mo_store_61 rfl rfl ?_ | refine gx_dup2_2 X d_Mo_store_61 rfl ?_
            refine gx_lald X d_Mo_store_62 (HX _ rfl).1 (HX _ rfl).2 rfl (by omega) (by omega) ?_
            refine gx_lconst X d_Mo_store_63 (v := 1) (by decide) ?_
            refine gx_iload_n X d_Mo_store_64 rfl rfl ?_
            refine gx_bipush X d_Mo_store_65 (v := nI 64) (by decide) ?_
            refine gx_irem X d_Mo_store_67 (by decide) ?_
            refine gx_top (y := nI (i % 64)) (pk_rem (by omega) (by decide) (by decide)) ?_
            refine gx_lshl X d_Mo_store_68 rfl ?_
            refine gx_lor X d_Mo_store_69 ?_
            refine gx_last X d_Mo_store_70 (HX _ rfl).1 (HX _ rfl).2 rfl (by omega) (by omega) ?_
            refine gx_iinc X d_Mo_store_71 rfl (pu_inc _) ?_
            refine gx_goto X d_Mo_store_74 (tgt := 31) (by decide) ?_
            refine gx_el (ih (i + 1) _ (by omega) (fun a b1 => by rw [gxU_cell b1]; exact f1 a b1) (fun j hj => by rw [gxU_ne (fun z => by omega)]; exact f2 j hj) (fun q hq => ?_)) ⟨rfl, rfl, rfl, trivial⟩
            rw [bB_set _ rfl, f3 q hq]
            by_cases e1 : q = i
            · rw [e1, hb]; simp
            · rw [beq_ne e1, Bool.or_false, step q hq e1]
      
  have loop1 : ∀ (d i : Nat) (M : Nat → Nat → Int64), i + d = 8 * k + 8 → 8 * k ≤ i → (∀ a, a ≠ 56 → M a = L a) → (∀ j, j < 8 * k ∨ 8 * k + 8 ≤ j → M 56 j = L 56 j) → (∀ j, 8 * k ≤ j → j < i → M 56 j = 0) → GX p l e rm_Mo_store s m args below meth c (MQ below (gxQ D vcl ca ks lay ad s.heap.size post) args s 0 0 (gxA ks ad s.heap.size)) 3 A D vcl ca ks lay ad 0 0 5 [(2, xI (nI i)), (1, xI (nI k)), (0, xR 40)] [] F M := by
    intro d
    induction d with
    | zero =>
      intro i M hd hi f1 f2 f3
      refine gx_iload_n X d_Mo_store_5 rfl rfl ?_
      refine gx_bipush X d_Mo_store_6 (v := nI 8) (by decide) ?_
      refine gx_iload_n X d_Mo_store_8 rfl rfl ?_
      refine gx_imul X d_Mo_store_9 ?_
      refine gx_top (pk_mul 8 k) ?_
      refine gx_bipush X d_Mo_store_10 (v := nI 8) (by decide) ?_
      refine gx_iadd X d_Mo_store_12 ?_
      refine gx_top (nI_add (8 * k) 8) ?_
      refine gx_icmp_ge X d_Mo_store_13 (tgt := 29) (by decide) (fun h13 => ?_) (fun h13 => ?_)
      · refine gx_iconst X d_Mo_store_29 (v := nI 0) (by decide) ?_
        refine gx_istore_n X d_Mo_store_30 rfl (by decide) ?_
        refine gx_el (loop2 (2 ^ (3 * w)) 0 M (by omega) f1 f2 (fun q hq => ?_)) ⟨rfl, rfl, rfl, trivial⟩
        unfold bB
        rw [f3 _ (by omega) (by omega), tb_0]
        simp
      · exact absurd ((nI_leI (by omega) (by omega)).mpr (by omega)) h13
    | succ d ih =>
      intro i M hd hi f1 f2 f3
      refine gx_iload_n X d_Mo_store_5 rfl rfl ?_
      refine gx_bipush X d_Mo_store_6 (v := nI 8) (by decide) ?_
      refine gx_iload_n X d_Mo_store_8 rfl rfl ?_
      refine gx_imul X d_Mo_store_9 ?_
      refine gx_top (pk_mul 8 k) ?_
      refine gx_bipush X d_Mo_store_10 (v := nI 8) (by decide) ?_
      refine gx_iadd X d_Mo_store_12 ?_
      refine gx_top (nI_add (8 * k) 8) ?_
      refine gx_icmp_ge X d_Mo_store_13 (tgt := 29) (by decide) (fun h13 => ?_) (fun h13 => ?_)
      · exact absurd ((nI_leI (by omega) (by omega)).mp h13) (by omega)
      · refine gx_aload_n X d_Mo_store_16 rfl rfl ?_
        refine gx_getr X d_Mo_store_17 (gci in_Mo) (HX _ rfl).1 (HX _ rfl).2 rfl 27 (by decide) (gcw X lk_Mo_63) (fun _ h => h) rfl ?_
        refine gx_iload_n X d_Mo_store_20 rfl rfl ?_
        refine gx_lconst X d_Mo_store_21 (v := 0) (by decide) ?_
        refine gx_last X d_Mo_store_22 (HX _ rfl).1 (HX _ rfl).2 rfl (by omega) (by omega) ?_
        refine gx_iinc X d_Mo_store_23 rfl (pu_inc _) ?_
        refine gx_goto X d_Mo_store_26 (tgt := 5) (by decide) ?_
        refine gx_el (ih (i + 1) _ (by omega) (by omega) (fun a b1 => by rw [gxU_cell b1]; exact f1 a b1) (fun j hj => by rw [gxU_ne (fun z => by omega)]; exact f2 j hj) (fun j b1 b2 => ?_)) ⟨rfl, rfl, rfl, trivial⟩
        by_cases e1 : j = i
        · rw [e1, gxU_at]
        · rw [gxU_ne (fun z => e1 z.2)]; exact f3 j b1 (by omega)
  refine gx_bipush X d_Mo_store_0 (v := nI 8) (by decide) ?_
  refine gx_iload_n X d_Mo_store_2 rfl rfl ?_
  refine gx_imul X d_Mo_store_3 ?_
  refine gx_top (pk_mul 8 k) ?_
  refine gx_istore_n X d_Mo_store_4 rfl (by decide) ?_
  exact gx_el (loop1 8 (8 * k) L (by omega) (Nat.le_refl _) (fun _ _ => rfl) (fun _ _ => rfl) (fun j b1 b2 => absurd b1 (by omega))) ⟨rfl, rfl, rfl, trivial⟩
end
