/-! the reference: its words of bits, its edges (own text) -/
section
variable {l : Launch} {D : va_G} {ca : Nat → ClassId} {ks : List Nat} {lay : Nat → gxE} {ad : Nat → Nat} {F : Nat → Nat → Int32} {L : Nat → Nat → Int64} {N w : Nat}
theorem zn_cond (b : Bool) : vp_nar .boolean (cond b 1 0) = cond b 1 0 := by cases b <;> decide
theorem nI_one : nI 1 = (1 : Int32) := by decide
/-- bit q of the words from a0 on -/
def bB (L : Nat → Nat → Int64) (k a0 q : Nat) : Bool := tb (L k (a0 + q / 64)) (q % 64)
theorem bB_of {L2 : Nat → Nat → Int64} {k a0 q : Nat} (h : L2 k = L k) : bB L2 k a0 q = bB L k a0 q := by unfold bB; rw [h]
theorem beq_ne {s q : Nat} (h : ¬ s = q) : Nat.beq s q = false := by
  cases hc : Nat.beq s q with
  | false => rfl
  | true => exact absurd (Nat.eq_of_beq_eq_true hc) h
theorem bB_set {k a0 q s : Nat} (b : Int64) (hb : b = L k (a0 + q / 64) ||| ((1 : Int64) <<< ((nI (q % 64)).toInt64 &&& 63))) : bB (gxU L k (a0 + q / 64) b) k a0 s = (bB L k a0 s || Nat.beq s q) := by
  unfold bB
  by_cases h : s / 64 = q / 64
  · rw [h, gxU_at, hb, tb_or, tb_one (Nat.mod_lt _ (by decide))]
    congr 1
    by_cases h2 : s % 64 = q % 64
    · have : s = q := by omega
      rw [this]
      simp
    · have h3 : ¬ s = q := fun z => h2 (by rw [z])
      rw [beq_ne h3]
      simp [h2]
  · have h3 : ¬ s = q := fun z => h (by rw [z])
    rw [gxU_ne (fun z => h (by omega)), beq_ne h3, Bool.or_false]
theorem c_Mo_bit {k n : Nat} (hk : k ∈ ks) (hlay : lay k = Sum.inr (Sum.inr (Sum.inl n))) (hn : n < 2 ^ 31) {a0 q : Nat} (hq : q < 512) (ha : a0 + q / 64 < n) : Con l y_Mo_bit (Cond.code y_Mo_bit b_Mo_bit 3 (some .int) :: WT) rm_Mo_bit D vcl ca ks lay ad [xR k, xI (nI a0), xI (nI q)] F L (fun r F' L' => r = some (xI (cond (bB L k a0 q) 1 0)) ∧ F' = F ∧ L' = L) := by
  refine Con.ofK (fun post K => ?_)
  refine Con.of (ls := [(0, xR k), (1, xI (nI a0)), (2, xI (nI q))]) (by decide) rfl rfl (Nat.le_of_ble_eq_true rfl) ?_
  intro p e s m args below meth c A X hr hA
  refine gx_aload_n X d_Mo_bit_0 rfl rfl ?_
  refine gx_iload_n X d_Mo_bit_1 rfl rfl ?_
  refine gx_iload_n X d_Mo_bit_2 rfl rfl ?_
  refine gx_bipush X d_Mo_bit_3 (v := nI 64) (by decide) ?_
  refine gx_idiv X d_Mo_bit_5 (by decide) ?_
  refine gx_top (y := nI (q / 64)) (pk_div (by omega) (by decide) (by decide)) ?_
  refine gx_iadd X d_Mo_bit_6 ?_
  refine gx_top (nI_add a0 (q / 64)) ?_
  refine gx_lald X d_Mo_bit_7 hk hlay rfl ha hn ?_
  refine gx_iload_n X d_Mo_bit_8 rfl rfl ?_
  refine gx_bipush X d_Mo_bit_9 (v := nI 64) (by decide) ?_
  refine gx_irem X d_Mo_bit_11 (by decide) ?_
  refine gx_top (y := nI (q % 64)) (pk_rem (by omega) (by decide) (by decide)) ?_
  refine gx_lshr X d_Mo_bit_12 rfl ?_
  refine gx_l2i X d_Mo_bit_13 rfl ?_
  refine gx_iconst X d_Mo_bit_14 (v := nI 1) (by decide) ?_
  refine gx_iand X d_Mo_bit_15 ?_
  refine gx_top (y := cond (bB L k a0 q) 1 0) ?_ ?_
  · rw [nI_one]
    refine (tb_geti _ (Nat.mod_lt _ (by decide))).trans ?_
    unfold bB
    cases tb (L k (a0 + q / 64)) (q % 64) <;> rfl
  refine gx_iret X hr hA d_Mo_bit_16 (K _ _ _ ⟨rfl, rfl, rfl⟩)
theorem c_Mo_isOn (HX : gH ks lay N sM) {e0 q : Nat} (he : e0 < 20) (hq : q < 512) : Con l y_Mo_isOn (Cond.code y_Mo_isOn b_Mo_isOn 3 (some .boolean) :: WT) rm_Mo_isOn D vcl ca ks lay ad [xR 40, xI (nI e0), xI (nI q)] F L (fun r F' L' => r = some (xI (cond (bB L 46 (24 * e0) q) 1 0)) ∧ F' = F ∧ L' = L) := by
  refine Con.ofK (fun post K => ?_)
  refine Con.of (ls := [(0, xR 40), (1, xI (nI e0)), (2, xI (nI q))]) (by decide) rfl rfl (Nat.le_of_ble_eq_true rfl) ?_
  intro p e s m args below meth c A X hr hA
  refine gx_aload_n X d_Mo_isOn_0 rfl rfl ?_
  refine gx_getr X d_Mo_isOn_1 (gci in_Mo) (HX _ rfl).1 (HX _ rfl).2 rfl 11 (by decide) (gcw X lk_Mo_25) (fun _ h => h) rfl ?_
  refine gx_bipush X d_Mo_isOn_4 (v := nI 24) (by decide) ?_
  refine gx_iload_n X d_Mo_isOn_6 rfl rfl ?_
  refine gx_imul X d_Mo_isOn_7 ?_
  refine gx_top (pk_mul 24 e0) ?_
  refine gx_iload_n X d_Mo_isOn_8 rfl rfl ?_
  refine gx_callS X d_Mo_isOn_9 mf_Mo_bit lk_Mo_148 (c_Mo_bit (k := 46) (n := 480) (HX 46 rfl).1 (HX 46 rfl).2 (by decide) (a0 := 24 * e0) (q := q) hq (by omega)) rfl rfl (Nat.le_of_ble_eq_true rfl) ⟨by decide, by decide⟩ ⟨rfl, rfl⟩ ⟨Nat.zero_le _, Nat.zero_le _⟩ (fun r9 F9 L9 hp9 => ?_)
  obtain ⟨rfl, rfl, rfl⟩ := hp9
  cases hb : bB L9 46 (24 * e0) q with
  | true =>
    rw [hb] at K
    refine gx_iconst X d_Mo_isOn_12 (v := nI 1) (by decide) ?_
    refine gx_icmp_ne X d_Mo_isOn_13 (tgt := 20) (by decide) (fun h13 => ?_) (fun h13 => ?_)
    · exact absurd (show (1 : Int32) = nI 1 by decide) h13
    · refine gx_iconst X d_Mo_isOn_16 (v := nI 1) (by decide) ?_
      refine gx_goto X d_Mo_isOn_17 (tgt := 21) (by decide) ?_
      refine gx_zret X hr (by first | rfl | decide) hA d_Mo_isOn_21 (K _ _ _ ⟨rfl, rfl, rfl⟩)
  | false =>
    rw [hb] at K
    refine gx_iconst X d_Mo_isOn_12 (v := nI 1) (by decide) ?_
    refine gx_icmp_ne X d_Mo_isOn_13 (tgt := 20) (by decide) (fun h13 => ?_) (fun h13 => ?_)
    · refine gx_iconst X d_Mo_isOn_20 (v := nI 0) (by decide) ?_
      refine gx_zret X hr (by first | rfl | decide) hA d_Mo_isOn_21 (K _ _ _ ⟨rfl, rfl, rfl⟩)
    · exact absurd h13 (show ¬ (0 : Int32) = nI 1 by decide)
theorem c_Mo_isIn (HX : gH ks lay N sM) {e0 q : Nat} (he : e0 ≤ 200) (hq : q < 512) : Con l y_Mo_isIn (Cond.code y_Mo_isIn b_Mo_isIn 3 (some .boolean) :: WT) rm_Mo_isIn D vcl ca ks lay ad [xR 40, xI (nI e0), xI (nI q)] F L (fun r F' L' => r = some (xI (cond (bB L 56 (8 * e0) q) 1 0)) ∧ F' = F ∧ L' = L) := by
  refine Con.ofK (fun post K => ?_)
  refine Con.of (ls := [(0, xR 40), (1, xI (nI e0)), (2, xI (nI q))]) (by decide) rfl rfl (Nat.le_of_ble_eq_true rfl) ?_
  intro p e s m args below meth c A X hr hA
  refine gx_aload_n X d_Mo_isIn_0 rfl rfl ?_
  refine gx_getr X d_Mo_isIn_1 (gci in_Mo) (HX _ rfl).1 (HX _ rfl).2 rfl 27 (by decide) (gcw X lk_Mo_63) (fun _ h => h) rfl ?_
  refine gx_bipush X d_Mo_isIn_4 (v := nI 8) (by decide) ?_
  refine gx_iload_n X d_Mo_isIn_6 rfl rfl ?_
  refine gx_imul X d_Mo_isIn_7 ?_
  refine gx_top (pk_mul 8 e0) ?_
  refine gx_iload_n X d_Mo_isIn_8 rfl rfl ?_
  refine gx_callS X d_Mo_isIn_9 mf_Mo_bit lk_Mo_148 (c_Mo_bit (k := 56) (n := 1608) (HX 56 rfl).1 (HX 56 rfl).2 (by decide) (a0 := 8 * e0) (q := q) hq (by omega)) rfl rfl (Nat.le_of_ble_eq_true rfl) ⟨by decide, by decide⟩ ⟨rfl, rfl⟩ ⟨Nat.zero_le _, Nat.zero_le _⟩ (fun r9 F9 L9 hp9 => ?_)
  obtain ⟨rfl, rfl, rfl⟩ := hp9
  cases hb : bB L9 56 (8 * e0) q with
  | true =>
    rw [hb] at K
    refine gx_iconst X d_Mo_isIn_12 (v := nI 1) (by decide) ?_
    refine gx_icmp_ne X d_Mo_isIn_13 (tgt := 20) (by decide) (fun h13 => ?_) (fun h13 => ?_)
    · exact absurd (show (1 : Int32) = nI 1 by decide) h13
    · refine gx_iconst X d_Mo_isIn_16 (v := nI 1) (by decide) ?_
      refine gx_goto X d_Mo_isIn_17 (tgt := 21) (by decide) ?_
      refine gx_zret X hr (by first | rfl | decide) hA d_Mo_isIn_21 (K _ _ _ ⟨rfl, rfl, rfl⟩)
  | false =>
    rw [hb] at K
    refine gx_iconst X d_Mo_isIn_12 (v := nI 1) (by decide) ?_
    refine gx_icmp_ne X d_Mo_isIn_13 (tgt := 20) (by decide) (fun h13 => ?_) (fun h13 => ?_)
    · refine gx_iconst X d_Mo_isIn_20 (v := nI 0) (by decide) ?_
      refine gx_zret X hr (by first | rfl | decide) hA d_Mo_isIn_21 (K _ _ _ ⟨rfl, rfl, rfl⟩)
    · exact absurd h13 (show ¬ (0 : Int32) = nI 1 by decide)
/-- the kinds by the reference's numbers -/
def rk3 (k : Nat) : Nat := (k + 2) % 3
/-- the reference's edges -/
def MeOK (F : Nat → Nat → Int32) (L : Nat → Nat → Int64) (w ne : Nat) (ef et ek ev : Nat → Nat) (tg : Nat → Nat → Option Nat) : Prop :=
  ne ≤ 20 ∧ F 40 6 = nI ne ∧ ∀ e, e < ne → (F 42 e = nI (ef e) ∧ ef e < 12) ∧ (F 43 e = nI (et e) ∧ et e < 12) ∧ (F 44 e = nI (rk3 (ek e)) ∧ ek e < 3) ∧ (F 45 e = nI (ev e) ∧ ev e < 3) ∧
    ∀ s, s < 2 ^ (3 * w) → (∀ t, tg e s = some t → t < 2 ^ (3 * w)) ∧ (ek e = 1 → ∃ x, x < 8 ∧ tg e s = some (wr w s (ev e) x) ∧ ∀ b, b < 3 → bB L 46 (24 * e + 8 * b) s = x.testBit b) ∧ (ek e = 0 → bB L 46 (24 * e) s = (tg e s).isSome ∧ (tg e s = none ∨ tg e s = some s)) ∧ (ek e = 2 → tg e s = some (wr w s (ev e) 0))
variable {ne : Nat} {ef et ek ev : Nat → Nat} {tg : Nat → Nat → Option Nat}
theorem MeOK.of {G : Nat → Nat → Int32} {M : Nat → Nat → Int64} (h : MeOK F L w ne ef et ek ev tg) (h6 : G 40 6 = F 40 6) (hG : ∀ a, 42 ≤ a ∧ a ≤ 45 → G a = F a) (hM : M 46 = L 46) : MeOK G M w ne ef et ek ev tg := by
  obtain ⟨h1, h2, h3⟩ := h
  refine ⟨h1, h6.trans h2, fun e he => ?_⟩
  rw [hG 42 (by omega), hG 43 (by omega), hG 44 (by omega), hG 45 (by omega)]
  obtain ⟨a1, a2, a3, a4, a5⟩ := h3 e he
  refine ⟨a1, a2, a3, a4, fun s hs => ?_⟩
  obtain ⟨b1, b2, b3, b4⟩ := a5 s hs
  refine ⟨b1, fun hk => ?_, fun hk => ?_, b4⟩
  · obtain ⟨x, c1, c2, c3⟩ := b2 hk
    exact ⟨x, c1, c2, fun b hb => by rw [bB_of hM]; exact c3 b hb⟩
  · rw [bB_of hM]; exact b3 hk
theorem led_x : ∀ x, x < 8 → (((cond (x.testBit 0) 1 0 : Int32) ||| ((cond (x.testBit 1) 1 0 : Int32) <<< (nI 1 &&& 31))) ||| ((cond (x.testBit 2) 1 0 : Int32) <<< (nI 2 &&& 31))) = nI x := by decide +kernel
theorem c_Mo_led (HX : gH ks lay N sM) (hS : MsOK F w) (hE : MeOK F L w ne ef et ek ev tg) {e0 q : Nat} (he : e0 < ne) (hk : ek e0 = 1) (hq : q < 2 ^ (3 * w)) : Con l y_Mo_led (Cond.code y_Mo_led b_Mo_led 3 (some .int) :: WT) rm_Mo_led D vcl ca ks lay ad [xR 40, xI (nI e0), xI (nI q)] F L (fun r F' L' => r = some (xI (nI ((tg e0 q).getD 0))) ∧ F' = F ∧ L' = L) := by
  have hw : w < 4 := by have := hS.1; omega
  have hN := pu_N w hw
  have hne := hE.1
  obtain ⟨-, -, -, ⟨hv, hv3⟩, hx⟩ := hE.2.2 e0 he
  obtain ⟨-, hx1, -, -⟩ := hx q hq
  obtain ⟨x, hx8, htg, hbits⟩ := hx1 hk
  refine Con.ofK (fun post K => ?_)
  refine Con.of (ls := [(0, xR 40), (1, xI (nI e0)), (2, xI (nI q))]) (by decide) rfl rfl (Nat.le_of_ble_eq_true rfl) ?_
  intro p e s m args below meth c A X hr hA
  refine gx_aload_n X d_Mo_led_0 rfl rfl ?_
  refine gx_iload_n X d_Mo_led_1 rfl rfl ?_
  refine gx_aload_n X d_Mo_led_2 rfl rfl ?_
  refine gx_getr X d_Mo_led_3 (gci in_Mo) (HX _ rfl).1 (HX _ rfl).2 rfl 10 (by decide) (gcw X lk_Mo_22) (fun _ h => h) rfl ?_
  refine gx_iload_n X d_Mo_led_6 rfl rfl ?_
  refine gx_iald X d_Mo_led_7 (HX _ rfl).1 (HX _ rfl).2 rfl (by omega) (by omega) ?_
  refine gx_top hv ?_
  refine gx_aload_n X d_Mo_led_8 rfl rfl ?_
  refine gx_getr X d_Mo_led_9 (gci in_Mo) (HX _ rfl).1 (HX _ rfl).2 rfl 11 (by decide) (gcw X lk_Mo_25) (fun _ h => h) rfl ?_
  refine gx_bipush X d_Mo_led_12 (v := nI 24) (by decide) ?_
  refine gx_iload_n X d_Mo_led_14 rfl rfl ?_
  refine gx_imul X d_Mo_led_15 ?_
  refine gx_top (pk_mul 24 e0) ?_
  refine gx_iload_n X d_Mo_led_16 rfl rfl ?_
  refine gx_callS X d_Mo_led_17 mf_Mo_bit lk_Mo_148 (c_Mo_bit (k := 46) (n := 480) (HX 46 rfl).1 (HX 46 rfl).2 (by decide) (a0 := 24 * e0) (q := q) (by omega) (by omega)) rfl rfl (Nat.le_of_ble_eq_true rfl) ⟨by decide, by decide⟩ ⟨rfl, rfl⟩ ⟨Nat.zero_le _, Nat.zero_le _⟩ (fun r17 F17 L17 hp17 => ?_)
  obtain ⟨rfl, rfl, rfl⟩ := hp17
  refine gx_aload_n X d_Mo_led_20 rfl rfl ?_
  refine gx_getr X d_Mo_led_21 (gci in_Mo) (HX _ rfl).1 (HX _ rfl).2 rfl 11 (by decide) (gcw X lk_Mo_25) (fun _ h => h) rfl ?_
  refine gx_bipush X d_Mo_led_24 (v := nI 24) (by decide) ?_
  refine gx_iload_n X d_Mo_led_26 rfl rfl ?_
  refine gx_imul X d_Mo_led_27 ?_
  refine gx_top (pk_mul 24 e0) ?_
  refine gx_bipush X d_Mo_led_28 (v := nI 8) (by decide) ?_
  refine gx_iadd X d_Mo_led_30 ?_
  refine gx_top (nI_add (24 * e0) 8) ?_
  refine gx_iload_n X d_Mo_led_31 rfl rfl ?_
  refine gx_callS X d_Mo_led_32 mf_Mo_bit lk_Mo_148 (c_Mo_bit (k := 46) (n := 480) (HX 46 rfl).1 (HX 46 rfl).2 (by decide) (a0 := 24 * e0 + 8) (q := q) (by omega) (by omega)) rfl rfl (Nat.le_of_ble_eq_true rfl) ⟨by decide, by decide⟩ ⟨rfl, rfl⟩ ⟨Nat.zero_le _, Nat.zero_le _⟩ (fun r32 F32 L32 hp32 => ?_)
  obtain ⟨rfl, rfl, rfl⟩ := hp32
  refine gx_iconst X d_Mo_led_35 (v := nI 1) (by decide) ?_
  refine gx_ishl X d_Mo_led_36 ?_
  refine gx_ior X d_Mo_led_37 ?_
  refine gx_aload_n X d_Mo_led_38 rfl rfl ?_
  refine gx_getr X d_Mo_led_39 (gci in_Mo) (HX _ rfl).1 (HX _ rfl).2 rfl 11 (by decide) (gcw X lk_Mo_25) (fun _ h => h) rfl ?_
  refine gx_bipush X d_Mo_led_42 (v := nI 24) (by decide) ?_
  refine gx_iload_n X d_Mo_led_44 rfl rfl ?_
  refine gx_imul X d_Mo_led_45 ?_
  refine gx_top (pk_mul 24 e0) ?_
  refine gx_bipush X d_Mo_led_46 (v := nI 16) (by decide) ?_
  refine gx_iadd X d_Mo_led_48 ?_
  refine gx_top (nI_add (24 * e0) 16) ?_
  refine gx_iload_n X d_Mo_led_49 rfl rfl ?_
  refine gx_callS X d_Mo_led_50 mf_Mo_bit lk_Mo_148 (c_Mo_bit (k := 46) (n := 480) (HX 46 rfl).1 (HX 46 rfl).2 (by decide) (a0 := 24 * e0 + 16) (q := q) (by omega) (by omega)) rfl rfl (Nat.le_of_ble_eq_true rfl) ⟨by decide, by decide⟩ ⟨rfl, rfl⟩ ⟨Nat.zero_le _, Nat.zero_le _⟩ (fun r50 F50 L50 hp50 => ?_)
  obtain ⟨rfl, rfl, rfl⟩ := hp50
  refine gx_iconst X d_Mo_led_53 (v := nI 2) (by decide) ?_
  refine gx_ishl X d_Mo_led_54 ?_
  refine gx_ior X d_Mo_led_55 ?_
  refine gx_top (y := nI x) ?_ ?_
  · rw [show bB L50 46 (24 * e0) q = x.testBit 0 from hbits 0 (by decide), show bB L50 46 (24 * e0 + 8) q = x.testBit 1 from hbits 1 (by decide), show bB L50 46 (24 * e0 + 16) q = x.testBit 2 from hbits 2 (by decide)]
    exact led_x x hx8
  refine gx_callV X d_Mo_led_56 mf_Mo_with lk_Mo_152 (c_Mo_with HX hS (st := q) (v := ev e0) (by omega) hv3 (nI x)) (HX _ rfl).1 (HX _ rfl).2 rfl rfl rfl (Nat.le_of_ble_eq_true rfl) ⟨by decide, by decide⟩ ⟨rfl, rfl⟩ ⟨Nat.zero_le _, Nat.zero_le _⟩ (fun r56 F56 L56 hp56 => ?_)
  obtain ⟨rfl, rfl, rfl⟩ := hp56
  refine gx_iret X hr hA d_Mo_led_59 (K _ _ _ ⟨by rw [htg, nI_nat (by omega)]; rfl, rfl, rfl⟩)
/-- the reference's signatures -/
def MgOK (F : Nat → Nat → Int32) (L : Nat → Nat → Int64) (N np : Nat) (sg : Nat → Nat) : Prop := np ≤ 12 ∧ F 40 12 = nI np ∧ ∀ s, s < N → F 48 s = nI (sg s) ∧ sg s < 2 ^ np ∧ ∀ k, k < np → bB L 47 (8 * k) s = (sg s).testBit k
variable {np : Nat} {sg : Nat → Nat}
theorem MgOK.of {G : Nat → Nat → Int32} {M : Nat → Nat → Int64} {N : Nat} (h : MgOK F L N np sg) (h12 : G 40 12 = F 40 12) (h48 : G 48 = F 48) (hM : M 47 = L 47) : MgOK G M N np sg := by
  obtain ⟨h1, h2, h3⟩ := h
  refine ⟨h1, h12.trans h2, fun s hs => ?_⟩
  obtain ⟨a1, a2, a3⟩ := h3 s hs
  rw [h48]
  exact ⟨a1, a2, fun k hk => by rw [bB_of hM]; exact a3 k hk⟩
theorem MgOK.lt {N : Nat} (h : MgOK F L N np sg) {s : Nat} (hs : s < N) : sg s < 4096 := Nat.lt_of_lt_of_le (h.2.2 s hs).2.1 (pw12 _ h.1)
/-- what an edge leads to from a state -/
def lds (w : Nat) (ek ev : Nat → Nat) (tg : Nat → Nat → Option Nat) (sg : Nat → Nat) (e q g : Nat) : Prop := ∃ y u, y < chs w ek e ∧ stp w ek ev tg e q y = some u ∧ sg u = g
set_option maxHeartbeats 4000000 in
theorem c_Mo_mark (HX : gH ks lay N sM) (hS : MsOK F w) (hE : MeOK F L w ne ef et ek ev tg) (hG : MgOK F L (2 ^ (3 * w)) np sg) {e0 q : Nat} (he : e0 < ne) (hq : q < 2 ^ (3 * w)) : Con l y_Mo_mark (Cond.code y_Mo_mark b_Mo_mark 4 none :: WT) rm_Mo_mark D vcl ca ks lay ad [xR 40, xI (nI e0), xI (nI q)] F L (fun r F' L' => r = none ∧ L' = L ∧ (∀ a, a ≠ 55 → F' a = F a) ∧ (∀ g, lds w ek ev tg sg e0 q g → F' 55 g = nI 1) ∧ ∀ g, ¬ lds w ek ev tg sg e0 q g → F' 55 g = F 55 g) := by
  have hw : w < 4 := by have := hS.1; omega
  have hN := pu_N w hw
  have hne := hE.1
  have h2w : 1 < 2 ^ w := Nat.one_lt_two_pow (by have := hS.1; omega)
  have h8 := pu_p8 w hw
  obtain ⟨-, -, ⟨hkd, hk3⟩, ⟨hv, hv3⟩, hx⟩ := hE.2.2 e0 he
  obtain ⟨hx0, hx1, hx2, hx4⟩ := hx q hq
  refine Con.ofK (fun post K => ?_)
  refine Con.of (ls := [(0, xR 40), (1, xI (nI e0)), (2, xI (nI q))]) (by decide) rfl rfl (Nat.le_of_ble_eq_true rfl) ?_
  intro p e s m args below meth c A X hr hA
  have skip : ek e0 ≠ 2 → ∀ G : Nat → Nat → Int32, (∀ a, a ≠ 55 → G a = F a) → post none G L → GX p l e rm_Mo_mark s m args below meth c (MQ below (gxQ D vcl ca ks lay ad s.heap.size post) args s 0 0 (gxA ks ad s.heap.size)) 4 A D vcl ca ks lay ad 0 0 57 [(2, xI (nI q)), (1, xI (nI e0)), (0, xR 40)] [] G L := by
    intro hk2 G hG1 hp
    refine gx_iconst X d_Mo_mark_57 (v := nI 0) (by decide) ?_
    refine gx_istore_n X d_Mo_mark_58 rfl (by decide) ?_
    refine gx_iload_n X d_Mo_mark_59 rfl rfl ?_
    refine gx_aload_n X d_Mo_mark_60 rfl rfl ?_
    refine gx_geti X d_Mo_mark_61 (gci in_Mo) (HX _ rfl).1 (HX _ rfl).2 rfl 1 (by decide) (gcw X lk_Mo_79) (fun _ h => h) rfl ?_
    refine gx_top (y := nI (2 ^ w - 1)) (by rw [hG1 40 (by decide)]; exact hS.2.2.1) ?_
    refine gx_icmp_gt X d_Mo_mark_64 (tgt := 106) (by decide) (fun h64 => ?_) (fun h64 => ?_)
    · exact absurd ((nI_ltI (by omega) (by omega)).mp h64) (by omega)
    · refine gx_aload_n X d_Mo_mark_67 rfl rfl ?_
      refine gx_getr X d_Mo_mark_68 (gci in_Mo) (HX _ rfl).1 (HX _ rfl).2 rfl 9 (by decide) (gcw X lk_Mo_19) (fun _ h => h) rfl ?_
      refine gx_iload_n X d_Mo_mark_71 rfl rfl ?_
      refine gx_iald X d_Mo_mark_72 (HX _ rfl).1 (HX _ rfl).2 rfl (by omega) (by omega) ?_
      refine gx_top (y := nI (rk3 (ek e0))) (by rw [hG1 44 (by decide)]; exact hkd) ?_
      refine gx_iconst X d_Mo_mark_73 (v := nI 1) (by decide) ?_
      refine gx_icmp_ne X d_Mo_mark_74 (tgt := 106) (by decide) (fun h74 => ?_) (fun h74 => ?_)
      · exact gx_vret X hr hA d_Mo_mark_106 hp
      · exfalso
        have h7 := (nI_eq (a := rk3 (ek e0)) (b := 1) (by unfold rk3; omega) (by decide)).mp h74
        unfold rk3 at h7
        omega
  have hcase : ek e0 = 0 ∨ ek e0 = 1 ∨ ek e0 = 2 := by omega
  rcases hcase with hk | hk | hk
  · have hkd2 : F 44 e0 = nI 2 := by rw [hkd, hk]; rfl
    obtain ⟨o1, o2⟩ := hx2 hk
    have hch : chs w ek e0 = 1 := by unfold chs; rw [if_neg (by omega)]
    have hst : ∀ y, stp w ek ev tg e0 q y = tg e0 q := fun y => by unfold stp; rw [if_neg (by omega)]
    refine gx_aload_n X d_Mo_mark_0 rfl rfl ?_
    refine gx_getr X d_Mo_mark_1 (gci in_Mo) (HX _ rfl).1 (HX _ rfl).2 rfl 9 (by decide) (gcw X lk_Mo_19) (fun _ h => h) rfl ?_
    refine gx_iload_n X d_Mo_mark_4 rfl rfl ?_
    refine gx_iald X d_Mo_mark_5 (HX _ rfl).1 (HX _ rfl).2 rfl (by omega) (by omega) ?_
    refine gx_top hkd2 ?_
    refine gx_if_ne X d_Mo_mark_6 (tgt := 26) (by decide) (fun h6 => ?_) (fun h6 => ?_)
    · refine gx_aload_n X d_Mo_mark_26 rfl rfl ?_
      refine gx_getr X d_Mo_mark_27 (gci in_Mo) (HX _ rfl).1 (HX _ rfl).2 rfl 9 (by decide) (gcw X lk_Mo_19) (fun _ h => h) rfl ?_
      refine gx_iload_n X d_Mo_mark_30 rfl rfl ?_
      refine gx_iald X d_Mo_mark_31 (HX _ rfl).1 (HX _ rfl).2 rfl (by omega) (by omega) ?_
      refine gx_top hkd2 ?_
      refine gx_iconst X d_Mo_mark_32 (v := nI 2) (by decide) ?_
      refine gx_icmp_ne X d_Mo_mark_33 (tgt := 57) (by decide) (fun h33 => ?_) (fun h33 => ?_)
      · exact absurd rfl h33
      · refine gx_aload_n X d_Mo_mark_36 rfl rfl ?_
        refine gx_iload_n X d_Mo_mark_37 rfl rfl ?_
        refine gx_iload_n X d_Mo_mark_38 rfl rfl ?_
        refine gx_callV X d_Mo_mark_39 mf_Mo_isOn lk_Mo_164 (c_Mo_isOn HX (e0 := e0) (q := q) (by omega) (by omega)) (HX _ rfl).1 (HX _ rfl).2 rfl rfl rfl (Nat.le_of_ble_eq_true rfl) ⟨by decide, by decide⟩ ⟨rfl, rfl⟩ ⟨Nat.zero_le _, Nat.zero_le _⟩ (fun r39 F39 L39 hp39 => ?_)
        obtain ⟨rfl, rfl, rfl⟩ := hp39
        rw [o1]
        cases htg : tg e0 q with
        | none =>
          refine gx_if_eq X d_Mo_mark_42 (tgt := 57) (by decide) (fun h42 => ?_) (fun h42 => ?_)
          · refine gx_el (skip (by omega) F39 (fun _ _ => rfl) (K _ _ _ ⟨rfl, rfl, fun _ _ => rfl, fun g hg => ?_, fun _ _ => rfl⟩)) ⟨rfl, rfl, rfl, trivial⟩
            obtain ⟨y, u, -, z2, -⟩ := hg
            rw [hst, htg] at z2
            cases z2
          · exact absurd rfl h42
        | some t =>
          have ht : t = q := by
            rcases o2 with o2 | o2
            · rw [htg] at o2; cases o2
            · rw [htg] at o2; exact Option.some.inj o2
          refine gx_if_eq X d_Mo_mark_42 (tgt := 57) (by decide) (fun h42 => ?_) (fun h42 => ?_)
          · exact absurd h42 (show ¬ (1 : Int32) = 0 by decide)
          · have hsl := hG.lt hq
            refine gx_aload_n X d_Mo_mark_45 rfl rfl ?_
            refine gx_getr X d_Mo_mark_46 (gci in_Mo) (HX _ rfl).1 (HX _ rfl).2 rfl 25 (by decide) (gcw X lk_Mo_60) (fun _ h => h) rfl ?_
            refine gx_aload_n X d_Mo_mark_49 rfl rfl ?_
            refine gx_getr X d_Mo_mark_50 (gci in_Mo) (HX _ rfl).1 (HX _ rfl).2 rfl 14 (by decide) (gcw X lk_Mo_32) (fun _ h => h) rfl ?_
            refine gx_iload_n X d_Mo_mark_53 rfl rfl ?_
            refine gx_iald X d_Mo_mark_54 (HX _ rfl).1 (HX _ rfl).2 rfl (by omega) (by omega) ?_
            refine gx_top (hG.2.2 q hq).1 ?_
            refine gx_iconst X d_Mo_mark_55 (v := nI 1) (by decide) ?_
            refine gx_iast X d_Mo_mark_56 (HX _ rfl).1 (HX _ rfl).2 rfl (by omega) (by omega) ?_
            refine gx_el (skip (by omega) _ (fun a ha => gxu_cell ha) (K _ _ _ ⟨rfl, rfl, fun a ha => gxu_cell ha, fun g hg => ?_, fun g hg => ?_⟩)) ⟨rfl, rfl, rfl, trivial⟩
            · obtain ⟨y, u, -, z2, z3⟩ := hg
              rw [hst, htg, ht] at z2
              cases z2
              rw [← z3, gxu_at]
            · refine gxu_ne (fun z => hg ⟨0, q, by omega, by rw [hst, htg, ht], z.2.symm⟩)
    · exact absurd h6 (by decide)
  · have hkd2 : F 44 e0 = nI 0 := by rw [hkd, hk]; rfl
    obtain ⟨x, hx8, htg, -⟩ := hx1 hk
    have htl := hx0 _ htg
    have hch : chs w ek e0 = 1 := by unfold chs; rw [if_neg (by omega)]
    have hst : ∀ y, stp w ek ev tg e0 q y = tg e0 q := fun y => by unfold stp; rw [if_neg (by omega)]
    refine gx_aload_n X d_Mo_mark_0 rfl rfl ?_
    refine gx_getr X d_Mo_mark_1 (gci in_Mo) (HX _ rfl).1 (HX _ rfl).2 rfl 9 (by decide) (gcw X lk_Mo_19) (fun _ h => h) rfl ?_
    refine gx_iload_n X d_Mo_mark_4 rfl rfl ?_
    refine gx_iald X d_Mo_mark_5 (HX _ rfl).1 (HX _ rfl).2 rfl (by omega) (by omega) ?_
    refine gx_top hkd2 ?_
    refine gx_if_ne X d_Mo_mark_6 (tgt := 26) (by decide) (fun h6 => ?_) (fun h6 => ?_)
    · exact absurd rfl h6
    · refine gx_aload_n X d_Mo_mark_9 rfl rfl ?_
      refine gx_getr X d_Mo_mark_10 (gci in_Mo) (HX _ rfl).1 (HX _ rfl).2 rfl 25 (by decide) (gcw X lk_Mo_60) (fun _ h => h) rfl ?_
      refine gx_aload_n X d_Mo_mark_13 rfl rfl ?_
      refine gx_getr X d_Mo_mark_14 (gci in_Mo) (HX _ rfl).1 (HX _ rfl).2 rfl 14 (by decide) (gcw X lk_Mo_32) (fun _ h => h) rfl ?_
      refine gx_aload_n X d_Mo_mark_17 rfl rfl ?_
      refine gx_iload_n X d_Mo_mark_18 rfl rfl ?_
      refine gx_iload_n X d_Mo_mark_19 rfl rfl ?_
      refine gx_callV X d_Mo_mark_20 mf_Mo_led lk_Mo_161 (c_Mo_led HX hS hE he hk hq) (HX _ rfl).1 (HX _ rfl).2 rfl rfl rfl (Nat.le_of_ble_eq_true rfl) ⟨by decide, by decide⟩ ⟨rfl, rfl⟩ ⟨Nat.zero_le _, Nat.zero_le _⟩ (fun r20 F20 L20 hp20 => ?_)
      obtain ⟨rfl, rfl, rfl⟩ := hp20
      refine gx_top (y := nI (wr w q (ev e0) x)) (by rw [htg]; rfl) ?_
      have hsl := hG.lt htl
      refine gx_iald X d_Mo_mark_23 (HX _ rfl).1 (HX _ rfl).2 rfl (by omega) (by omega) ?_
      refine gx_top (hG.2.2 _ htl).1 ?_
      refine gx_iconst X d_Mo_mark_24 (v := nI 1) (by decide) ?_
      refine gx_iast X d_Mo_mark_25 (HX _ rfl).1 (HX _ rfl).2 rfl (by omega) (by omega) ?_
      refine gx_aload_n X d_Mo_mark_26 rfl rfl ?_
      refine gx_getr X d_Mo_mark_27 (gci in_Mo) (HX _ rfl).1 (HX _ rfl).2 rfl 9 (by decide) (gcw X lk_Mo_19) (fun _ h => h) rfl ?_
      refine gx_iload_n X d_Mo_mark_30 rfl rfl ?_
      refine gx_iald X d_Mo_mark_31 (HX _ rfl).1 (HX _ rfl).2 rfl (by omega) (by omega) ?_
      refine gx_top (y := nI 0) (by rw [gxu_cell (by decide)]; exact hkd2) ?_
      refine gx_iconst X d_Mo_mark_32 (v := nI 2) (by decide) ?_
      refine gx_icmp_ne X d_Mo_mark_33 (tgt := 57) (by decide) (fun h33 => ?_) (fun h33 => ?_)
      · refine gx_el (skip (by omega) _ (fun a ha => gxu_cell ha) (K _ _ _ ⟨rfl, rfl, fun a ha => gxu_cell ha, fun g hg => ?_, fun g hg => ?_⟩)) ⟨rfl, rfl, rfl, trivial⟩
        · obtain ⟨y, u, -, z2, z3⟩ := hg
          rw [hst, htg] at z2
          cases z2
          rw [← z3, gxu_at]
        · refine gxu_ne (fun z => hg ⟨0, _, by omega, by rw [hst, htg], z.2.symm⟩)
      · exact absurd h33 (by decide)
  · have hkd2 : F 44 e0 = nI 1 := by rw [hkd, hk]; rfl
    have hch : chs w ek e0 = 2 ^ w := by unfold chs; rw [if_pos hk]
    have hst : ∀ y, stp w ek ev tg e0 q y = some (wr w q (ev e0) y) := fun y => by unfold stp; rw [if_pos hk]
    refine gx_aload_n X d_Mo_mark_0 rfl rfl ?_
    refine gx_getr X d_Mo_mark_1 (gci in_Mo) (HX _ rfl).1 (HX _ rfl).2 rfl 9 (by decide) (gcw X lk_Mo_19) (fun _ h => h) rfl ?_
    refine gx_iload_n X d_Mo_mark_4 rfl rfl ?_
    refine gx_iald X d_Mo_mark_5 (HX _ rfl).1 (HX _ rfl).2 rfl (by omega) (by omega) ?_
    refine gx_top hkd2 ?_
    refine gx_if_ne X d_Mo_mark_6 (tgt := 26) (by decide) (fun h6 => ?_) (fun h6 => ?_)
    · refine gx_aload_n X d_Mo_mark_26 rfl rfl ?_
      refine gx_getr X d_Mo_mark_27 (gci in_Mo) (HX _ rfl).1 (HX _ rfl).2 rfl 9 (by decide) (gcw X lk_Mo_19) (fun _ h => h) rfl ?_
      refine gx_iload_n X d_Mo_mark_30 rfl rfl ?_
      refine gx_iald X d_Mo_mark_31 (HX _ rfl).1 (HX _ rfl).2 rfl (by omega) (by omega) ?_
      refine gx_top hkd2 ?_
      refine gx_iconst X d_Mo_mark_32 (v := nI 2) (by decide) ?_
      refine gx_icmp_ne X d_Mo_mark_33 (tgt := 57) (by decide) (fun h33 => ?_) (fun h33 => ?_)
      · refine gx_iconst X d_Mo_mark_57 (v := nI 0) (by decide) ?_
        refine gx_istore_n X d_Mo_mark_58 rfl (by decide) ?_
        have loop : ∀ (d v : Nat) (G : Nat → Nat → Int32), v + d = 2 ^ w → (∀ a, a ≠ 55 → G a = F a) → (∀ g, (∃ y, y < v ∧ sg (wr w q (ev e0) y) = g) → G 55 g = nI 1) → (∀ g, ¬ (∃ y, y < v ∧ sg (wr w q (ev e0) y) = g) → G 55 g = F 55 g) → GX p l e rm_Mo_mark s m args below meth c (MQ below (gxQ D vcl ca ks lay ad s.heap.size post) args s 0 0 (gxA ks ad s.heap.size)) 4 A D vcl ca ks lay ad 0 0 59 [(3, xI (nI v)), (2, xI (nI q)), (1, xI (nI e0)), (0, xR 40)] [] G L := by
          intro d
          induction d with
          | zero =>
            intro v G hd hG1 hG2 hG3
            refine gx_iload_n X d_Mo_mark_59 rfl rfl ?_
            refine gx_aload_n X d_Mo_mark_60 rfl rfl ?_
            refine gx_geti X d_Mo_mark_61 (gci in_Mo) (HX _ rfl).1 (HX _ rfl).2 rfl 1 (by decide) (gcw X lk_Mo_79) (fun _ h => h) rfl ?_
            refine gx_top (y := nI (2 ^ w - 1)) (by rw [hG1 40 (by decide)]; exact hS.2.2.1) ?_
            refine gx_icmp_gt X d_Mo_mark_64 (tgt := 106) (by decide) (fun h64 => ?_) (fun h64 => ?_)
            · refine gx_vret X hr hA d_Mo_mark_106 (K _ _ _ ⟨rfl, rfl, hG1, fun g hg => ?_, fun g hg => ?_⟩)
              · obtain ⟨y, u, z1, z2, z3⟩ := hg
                rw [hst] at z2
                cases z2
                exact hG2 g ⟨y, by omega, z3⟩
              · exact hG3 g (fun ⟨y, z1, z3⟩ => hg ⟨y, _, by omega, hst y, z3⟩)
            · exact absurd ((nI_ltI (a := 2 ^ w - 1) (b := v) (by omega) (by omega)).mpr (by omega)) h64
          | succ d ih =>
            intro v G hd hG1 hG2 hG3
            refine gx_iload_n X d_Mo_mark_59 rfl rfl ?_
            refine gx_aload_n X d_Mo_mark_60 rfl rfl ?_
            refine gx_geti X d_Mo_mark_61 (gci in_Mo) (HX _ rfl).1 (HX _ rfl).2 rfl 1 (by decide) (gcw X lk_Mo_79) (fun _ h => h) rfl ?_
            refine gx_top (y := nI (2 ^ w - 1)) (by rw [hG1 40 (by decide)]; exact hS.2.2.1) ?_
            refine gx_icmp_gt X d_Mo_mark_64 (tgt := 106) (by decide) (fun h64 => ?_) (fun h64 => ?_)
            · exact absurd ((nI_ltI (by omega) (by omega)).mp h64) (by omega)
            · refine gx_aload_n X d_Mo_mark_67 rfl rfl ?_
              refine gx_getr X d_Mo_mark_68 (gci in_Mo) (HX _ rfl).1 (HX _ rfl).2 rfl 9 (by decide) (gcw X lk_Mo_19) (fun _ h => h) rfl ?_
              refine gx_iload_n X d_Mo_mark_71 rfl rfl ?_
              refine gx_iald X d_Mo_mark_72 (HX _ rfl).1 (HX _ rfl).2 rfl (by omega) (by omega) ?_
              refine gx_top (y := nI 1) (by rw [hG1 44 (by decide)]; exact hkd2) ?_
              refine gx_iconst X d_Mo_mark_73 (v := nI 1) (by decide) ?_
              refine gx_icmp_ne X d_Mo_mark_74 (tgt := 106) (by decide) (fun h74 => ?_) (fun h74 => ?_)
              · exact absurd rfl h74
              · have hwl : wr w q (ev e0) v < 2 ^ (3 * w) := wr_lt' hw hv3 hq
                have hsl := hG.lt hwl
                have hS1 : MsOK G w := by unfold MsOK; rw [hG1 40 (by decide)]; exact hS
                refine gx_aload_n X d_Mo_mark_77 rfl rfl ?_
                refine gx_getr X d_Mo_mark_78 (gci in_Mo) (HX _ rfl).1 (HX _ rfl).2 rfl 25 (by decide) (gcw X lk_Mo_60) (fun _ h => h) rfl ?_
                refine gx_aload_n X d_Mo_mark_81 rfl rfl ?_
                refine gx_getr X d_Mo_mark_82 (gci in_Mo) (HX _ rfl).1 (HX _ rfl).2 rfl 14 (by decide) (gcw X lk_Mo_32) (fun _ h => h) rfl ?_
                refine gx_aload_n X d_Mo_mark_85 rfl rfl ?_
                refine gx_iload_n X d_Mo_mark_86 rfl rfl ?_
                refine gx_aload_n X d_Mo_mark_87 rfl rfl ?_
                refine gx_getr X d_Mo_mark_88 (gci in_Mo) (HX _ rfl).1 (HX _ rfl).2 rfl 10 (by decide) (gcw X lk_Mo_22) (fun _ h => h) rfl ?_
                refine gx_iload_n X d_Mo_mark_91 rfl rfl ?_
                refine gx_iald X d_Mo_mark_92 (HX _ rfl).1 (HX _ rfl).2 rfl (by omega) (by omega) ?_
                refine gx_top (y := nI (ev e0)) (by rw [hG1 45 (by decide)]; exact hv) ?_
                refine gx_iload_n X d_Mo_mark_93 rfl rfl ?_
                refine gx_callV X d_Mo_mark_94 mf_Mo_with lk_Mo_152 (c_Mo_with HX hS1 (st := q) (v := ev e0) (by omega) hv3 (nI v)) (HX _ rfl).1 (HX _ rfl).2 rfl rfl rfl (Nat.le_of_ble_eq_true rfl) ⟨by decide, by decide⟩ ⟨rfl, rfl⟩ ⟨Nat.zero_le _, Nat.zero_le _⟩ (fun r94 F94 L94 hp94 => ?_)
                obtain ⟨rfl, rfl, rfl⟩ := hp94
                refine gx_top (y := nI (wr w q (ev e0) v)) (by rw [nI_nat (by omega)]) ?_
                refine gx_iald X d_Mo_mark_97 (HX _ rfl).1 (HX _ rfl).2 rfl (by omega) (by omega) ?_
                refine gx_top (y := nI (sg (wr w q (ev e0) v))) (by rw [hG1 48 (by decide)]; exact (hG.2.2 _ hwl).1) ?_
                refine gx_iconst X d_Mo_mark_98 (v := nI 1) (by decide) ?_
                refine gx_iast X d_Mo_mark_99 (HX _ rfl).1 (HX _ rfl).2 rfl (by omega) (by omega) ?_
                refine gx_iinc X d_Mo_mark_100 rfl (pu_inc _) ?_
                refine gx_goto X d_Mo_mark_103 (tgt := 59) (by decide) ?_
                refine gx_el (ih (v + 1) _ (by omega) (fun a ha => by rw [gxu_cell ha]; exact hG1 a ha) (fun g hg => ?_) (fun g hg => ?_)) ⟨rfl, rfl, rfl, rfl, trivial⟩
                · by_cases e2 : g = sg (wr w q (ev e0) v)
                  · rw [e2, gxu_at]
                  · rw [gxu_ne (fun z => e2 z.2)]
                    obtain ⟨y, z1, z3⟩ := hg
                    refine hG2 g ⟨y, ?_, z3⟩
                    have : y ≠ v := fun z => e2 (by rw [← z3, z])
                    omega
                · rw [gxu_ne (fun z => hg ⟨v, by omega, z.2.symm⟩)]
                  exact hG3 g (fun ⟨y, z1, z3⟩ => hg ⟨y, by omega, z3⟩)
        refine gx_el (loop (2 ^ w) 0 F (by omega) (fun _ _ => rfl) (fun g hg => ?_) (fun _ _ => rfl)) ⟨rfl, rfl, rfl, rfl, trivial⟩
        obtain ⟨y, z1, -⟩ := hg
        exact absurd z1 (Nat.not_lt_zero y)
      · exact absurd h33 (by decide)
    · exact absurd h6 (by decide)
end
