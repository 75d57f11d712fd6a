section
variable {l : Launch} {D : va_G} {ca : Nat → ClassId} {ks : List Nat} {lay : Nat → gxE} {ad : Nat → Nat} {F : Nat → Nat → Int32} {L : Nat → Nat → Int64} {n w : Nat} {ln : Nat → Int32}
def tgI (o : Option Nat) : Int32 := match o with
  | some t => nI t
  | none => -1
def stp (w : Nat) (ek ev : Nat → Nat) (tg : Nat → Nat → Option Nat) (e s x : Nat) : Option Nat := if ek e = 2 then some (wr w s (ev e) x) else tg e s
def chs (w : Nat) (ek : Nat → Nat) (e : Nat) : Nat := if ek e = 2 then 2 ^ w else 1
/-- the edges: from, to, kind (0 a test, 1 a setting, 2 an input), variable, and where each leads from a state -/
def PrOK (F : Nat → Nat → Int32) (w ne : Nat) (ef et ek ev : Nat → Nat) (tg : Nat → Nat → Option Nat) : Prop :=
  ne ≤ 20 ∧ F 8 6 = nI ne ∧ ∀ e, e < ne → (F 9 e = nI (ef e) ∧ ef e < 12) ∧ (F 10 e = nI (et e) ∧ et e < 12) ∧ (F 11 e = nI (ek e) ∧ ek e < 3) ∧ (F 12 e = nI (ev e) ∧ ev e < 3) ∧
    ∀ s, s < 2 ^ (3 * w) → F (rT e) s = tgI (tg e s) ∧ (∀ t, tg e s = some t → t < 2 ^ (3 * w)) ∧ (ek e = 2 → tg e s = some (wr w s (ev e) 0)) ∧ (ek e = 1 → ∃ t, tg e s = some t) ∧ (ek e = 0 → tg e s = none ∨ tg e s = some s)
variable {ne : Nat} {ef et ek ev : Nat → Nat} {tg : Nat → Nat → Option Nat}
theorem PrOK.of {G : Nat → Nat → Int32} (h : PrOK F w ne ef et ek ev tg) (hG : ∀ a, (8 ≤ a ∧ a ≤ 12) ∨ (100 ≤ a ∧ a < 120) → G a = F a) : PrOK G w ne ef et ek ev tg := by
  obtain ⟨h1, h2, h3⟩ := h
  refine ⟨h1, by rw [hG 8 (by omega)]; exact h2, fun e he => ?_⟩
  rw [hG 9 (by omega), hG 10 (by omega), hG 11 (by omega), hG 12 (by omega), hG (rT e) (by unfold rT; omega)]
  exact h3 e he
theorem c_Pr_isFull (HX : gH ks lay (2 ^ (3 * w)) sX) (hP : PrOK F w ne ef et ek ev tg) : Con l y_Pr_isFull (Cond.code y_Pr_isFull b_Pr_isFull 1 (some .boolean) :: WT) rm_Pr_isFull D vcl ca ks lay ad [xR 8] F L (fun r F' L' => r = some (xI (cond (decide (20 ≤ ne)) 1 0)) ∧ F' = F ∧ L' = L) := by
  have h20 := hP.1
  refine Con.ofK (fun post K => ?_)
  refine Con.of (ls := [(0, xR 8)]) (by decide) rfl rfl (Nat.le_of_ble_eq_true rfl) ?_
  intro p e s m args below meth c A X hr hA
  refine gx_aload_n X d_Pr_isFull_0 rfl rfl ?_
  refine gx_geti X d_Pr_isFull_1 (gci in_Pr) (HX _ rfl).1 (HX _ rfl).2 rfl 6 (by decide) (gcw X lk_Pr_24) (fun _ h => h) rfl ?_
  refine gx_top hP.2.1 ?_
  refine gx_bipush X d_Pr_isFull_4 (v := nI 20) (by decide) ?_
  refine gx_icmp_lt X d_Pr_isFull_6 (tgt := 13) (by decide) (fun h6 => ?_) (fun h6 => ?_)
  · have : ne < 20 := (nI_ltI (by omega) (by decide)).mp h6
    refine gx_iconst X d_Pr_isFull_13 (v := nI 0) (by decide) ?_
    refine gx_zret X hr (by first | rfl | decide) hA d_Pr_isFull_14 (K _ _ _ ⟨by rw [decide_eq_false (by omega)]; rfl, rfl, rfl⟩)
  · have : ¬ ne < 20 := fun z => h6 ((nI_ltI (by omega) (by decide)).mpr z)
    refine gx_iconst X d_Pr_isFull_9 (v := nI 1) (by decide) ?_
    refine gx_goto X d_Pr_isFull_10 (tgt := 14) (by decide) ?_
    refine gx_zret X hr (by first | rfl | decide) hA d_Pr_isFull_14 (K _ _ _ ⟨by rw [decide_eq_true (by omega)]; rfl, rfl, rfl⟩)
theorem c_Pr_choices (HX : gH ks lay (2 ^ (3 * w)) sX) (hS : SpOK F w) (hP : PrOK F w ne ef et ek ev tg) {e0 : Nat} (he : e0 < ne) : Con l y_Pr_choices (Cond.code y_Pr_choices b_Pr_choices 2 (some .int) :: WT) rm_Pr_choices D vcl ca ks lay ad [xR 8, xI (nI e0)] F L (fun r F' L' => r = some (xI (nI (chs w ek e0))) ∧ F' = F ∧ L' = L) := by
  have h20 := hP.1
  obtain ⟨-, -, ⟨k1, k2⟩, -⟩ := hP.2.2 e0 he
  refine Con.ofK (fun post K => ?_)
  refine Con.of (ls := [(0, xR 8), (1, xI (nI e0))]) (by decide) rfl rfl (Nat.le_of_ble_eq_true rfl) ?_
  intro p e s m args below meth c A X hr hA
  refine gx_aload_n X d_Pr_choices_0 rfl rfl ?_
  refine gx_getr X d_Pr_choices_1 (gci in_Pr) (HX _ rfl).1 (HX _ rfl).2 rfl 3 (by decide) (gcw X lk_Pr_18) (fun _ h => h) rfl ?_
  refine gx_iload_n X d_Pr_choices_4 rfl rfl ?_
  refine gx_iald X d_Pr_choices_5 (HX _ rfl).1 (HX _ rfl).2 rfl (by omega) (by omega) ?_
  refine gx_top k1 ?_
  refine gx_iconst X d_Pr_choices_6 (v := nI 2) (by decide) ?_
  refine gx_icmp_ne X d_Pr_choices_7 (tgt := 22) (by decide) (fun h7 => ?_) (fun h7 => ?_)
  · have hk : ¬ ek e0 = 2 := fun z => h7 (by rw [z])
    refine gx_iconst X d_Pr_choices_22 (v := nI 1) (by decide) ?_
    refine gx_iret X hr hA d_Pr_choices_23 (K _ _ _ ⟨by unfold chs; rw [if_neg hk], rfl, rfl⟩)
  · have hk : ek e0 = 2 := (nI_eq (by omega) (by decide)).mp h7
    refine gx_aload_n X d_Pr_choices_10 rfl rfl ?_
    refine gx_getr X d_Pr_choices_11 (gci in_Pr) (HX _ rfl).1 (HX _ rfl).2 rfl 0 (by decide) (gcw X lk_Pr_28) (fun _ h => h) rfl ?_
    refine gx_geti X d_Pr_choices_14 (gci in_Sp) (HX _ rfl).1 (HX _ rfl).2 rfl 1 (by decide) (gcw X lk_Pr_62) (fun _ h => h) rfl ?_
    refine gx_top hS.2.2.1 ?_
    refine gx_iconst X d_Pr_choices_17 (v := nI 1) (by decide) ?_
    refine gx_iadd X d_Pr_choices_18 ?_
    refine gx_top (y := nI (2 ^ w)) (by rw [nI_add]; congr 1; have := Nat.two_pow_pos w; omega) ?_
    refine gx_goto X d_Pr_choices_19 (tgt := 23) (by decide) ?_
    refine gx_iret X hr hA d_Pr_choices_23 (K _ _ _ ⟨by unfold chs; rw [if_pos hk], rfl, rfl⟩)
theorem c_Pr_step (HX : gH ks lay (2 ^ (3 * w)) sX) (hS : SpOK F w) (hP : PrOK F w ne ef et ek ev tg) {e0 q : Nat} (he : e0 < ne) (hq : q < 2 ^ (3 * w)) (x : Int32) : Con l y_Pr_step (Cond.code y_Pr_step b_Pr_step 5 (some .int) :: WT) rm_Pr_step D vcl ca ks lay ad [xR 8, xI (nI e0), xI (nI q), xI x] F L (fun r F' L' => r = some (xI (tgI (stp w ek ev tg e0 q x.toBitVec.toNat))) ∧ F' = F ∧ L' = L) := by
  have h20 := hP.1
  obtain ⟨-, -, ⟨k1, k2⟩, ⟨v1, v2⟩, ht⟩ := hP.2.2 e0 he
  obtain ⟨t1, t2, t3, -⟩ := ht q hq
  have hw : w < 4 := by have := hS.1; omega
  have hN := pu_N w hw
  refine Con.ofK (fun post K => ?_)
  refine Con.of (ls := [(0, xR 8), (1, xI (nI e0)), (2, xI (nI q)), (3, xI x)]) (by decide) rfl rfl (Nat.le_of_ble_eq_true rfl) ?_
  intro p e s m args below meth c A X hr hA
  refine gx_aload_n X d_Pr_step_0 rfl rfl ?_
  refine gx_getr X d_Pr_step_1 (gci in_Pr) (HX _ rfl).1 (HX _ rfl).2 rfl 5 (by decide) (gcw X lk_Pr_39) (fun _ h => h) rfl ?_
  refine gx_iload_n X d_Pr_step_4 rfl rfl ?_
  refine gx_aald X d_Pr_step_5 (HX _ rfl).1 (HX _ rfl).2 rfl rfl rfl (by omega) (by omega) ?_
  refine gx_iload_n X d_Pr_step_6 rfl rfl ?_
  refine gx_iald X d_Pr_step_7 (hxT HX (by omega)).1 (hxT HX (by omega)).2 rfl hq (by omega) ?_
  refine gx_top t1 ?_
  refine gx_istore X d_Pr_step_8 (by decide) ?_
  refine gx_aload_n X d_Pr_step_10 rfl rfl ?_
  refine gx_getr X d_Pr_step_11 (gci in_Pr) (HX _ rfl).1 (HX _ rfl).2 rfl 3 (by decide) (gcw X lk_Pr_18) (fun _ h => h) rfl ?_
  refine gx_iload_n X d_Pr_step_14 rfl rfl ?_
  refine gx_iald X d_Pr_step_15 (HX _ rfl).1 (HX _ rfl).2 rfl (by omega) (by omega) ?_
  refine gx_top k1 ?_
  refine gx_iconst X d_Pr_step_16 (v := nI 2) (by decide) ?_
  refine gx_icmp_ne X d_Pr_step_17 (tgt := 39) (by decide) (fun h17 => ?_) (fun h17 => ?_)
  · have hk : ¬ ek e0 = 2 := fun z => h17 (by rw [z])
    refine gx_iload X d_Pr_step_39 rfl ?_
    refine gx_iret X hr hA d_Pr_step_41 (K _ _ _ ⟨by unfold stp; rw [if_neg hk], rfl, rfl⟩)
  · have hk : ek e0 = 2 := (nI_eq (by omega) (by decide)).mp h17
    rw [t3 hk] at t1
    have hlt : wr w q (ev e0) 0 < 2 ^ (3 * w) := wr_lt' hw v2 hq
    refine gx_aload_n X d_Pr_step_20 rfl rfl ?_
    refine gx_getr X d_Pr_step_21 (gci in_Pr) (HX _ rfl).1 (HX _ rfl).2 rfl 0 (by decide) (gcw X lk_Pr_28) (fun _ h => h) rfl ?_
    refine gx_iload X d_Pr_step_24 rfl ?_
    refine gx_top (y := nI (wr w q (ev e0) 0)) (by rw [t3 hk]; rfl) ?_
    refine gx_aload_n X d_Pr_step_26 rfl rfl ?_
    refine gx_getr X d_Pr_step_27 (gci in_Pr) (HX _ rfl).1 (HX _ rfl).2 rfl 4 (by decide) (gcw X lk_Pr_21) (fun _ h => h) rfl ?_
    refine gx_iload_n X d_Pr_step_30 rfl rfl ?_
    refine gx_iald X d_Pr_step_31 (HX _ rfl).1 (HX _ rfl).2 rfl (by omega) (by omega) ?_
    refine gx_top v1 ?_
    refine gx_iload_n X d_Pr_step_32 rfl rfl ?_
    refine gx_callV X d_Pr_step_33 mf_Sp_write lk_Pr_52 (c_Sp_write (HX.mono sG_X) hS (st := wr w q (ev e0) 0) (v := ev e0) (by omega) v2 x) (HX _ rfl).1 (HX _ rfl).2 rfl rfl rfl (Nat.le_of_ble_eq_true rfl) ⟨by decide, by decide⟩ ⟨rfl, rfl⟩ ⟨Nat.zero_le _, Nat.zero_le _⟩ (fun r33 F33 L33 hp33 => ?_)
    obtain ⟨rfl, rfl, rfl⟩ := hp33
    refine gx_goto X d_Pr_step_36 (tgt := 41) (by decide) ?_
    refine gx_iret X hr hA d_Pr_step_41 (K _ _ _ ⟨by unfold stp; rw [if_pos hk, wr_wr' hw v2 hq]; rfl, rfl, rfl⟩)
theorem evS_lt {w q : Nat} (hw : w < 4) (h0 : 0 < w) (ch : Int32) {st : List Nat} (h : ∀ x ∈ st, x < 2 ^ w) : ∀ x ∈ evS w q ch st, x < 2 ^ w := by
  unfold evS
  split
  · intro x hx
    rcases List.mem_cons.mp hx with e | e
    · rw [e]; exact leafV_lt ch
    · exact h x e
  · match st, h with
    | [], h => exact h
    | [_], h => exact h
    | y :: z :: r, h =>
      intro x hx
      rcases List.mem_cons.mp hx with e | e
      · rw [e]; exact opV_lt hw h0 (h z (by simp)) (h y (by simp)) ch
      · exact h x (by simp [e])
theorem evC_lt {w q : Nat} (hw : w < 4) (h0 : 0 < w) : ∀ (code : List Int32) {st : List Nat}, (∀ x ∈ st, x < 2 ^ w) → ∀ x ∈ evC w q code st, x < 2 ^ w
  | [], _, h => h
  | ch :: r, st, h => evC_lt hw h0 r (evS_lt hw h0 ch h)
/-- where a new edge leads from the state q -/
def tgN (w k v q z : Nat) : Option Nat := if k = 2 then some (wr w q v 0) else if k = 1 then some (wr w q v z) else if z = 0 then none else some q
def vlC (w q : Nat) (code : List Int32) : Nat := (evC w q code []).headD 0
theorem c_Pr_targetOf (HX : gH ks lay (2 ^ (3 * w)) sX) (hS : SpOK F w) {e0 q k v : Nat} (he : e0 < 20) (hk : F 11 e0 = nI k) (hk3 : k < 3) (hv : F 12 e0 = nI v) (hv3 : v < 3) (hq : q < 2 ^ (3 * w)) {code : List Int32} (hc : k ≠ 2 → FoOK F code ∧ ∃ z, evC w q code [] = [z]) : Con l y_Pr_targetOf (Cond.code y_Pr_targetOf b_Pr_targetOf 5 (some .int) :: WT) rm_Pr_targetOf D vcl ca ks lay ad [xR 8, xI (nI e0), xI (nI q), xR 4] F L (fun r F' L' => r = some (xI (tgI (tgN w k v q (vlC w q code)))) ∧ L' = L ∧ ∀ a, a ≠ 6 → F' a = F a) := by
  have hw : w < 4 := by have := hS.1; omega
  have hN := pu_N w hw
  refine Con.ofK (fun post K => ?_)
  refine Con.of (ls := [(0, xR 8), (1, xI (nI e0)), (2, xI (nI q)), (3, xR 4)]) (by decide) rfl rfl (Nat.le_of_ble_eq_true rfl) ?_
  intro p e s m args below meth c A X hr hA
  refine gx_aload_n X d_Pr_targetOf_0 rfl rfl ?_
  refine gx_getr X d_Pr_targetOf_1 (gci in_Pr) (HX _ rfl).1 (HX _ rfl).2 rfl 3 (by decide) (gcw X lk_Pr_18) (fun _ h => h) rfl ?_
  refine gx_iload_n X d_Pr_targetOf_4 rfl rfl ?_
  refine gx_iald X d_Pr_targetOf_5 (HX _ rfl).1 (HX _ rfl).2 rfl (by omega) (by omega) ?_
  refine gx_top hk ?_
  refine gx_iconst X d_Pr_targetOf_6 (v := nI 2) (by decide) ?_
  refine gx_icmp_ne X d_Pr_targetOf_7 (tgt := 26) (by decide) (fun h7 => ?_) (fun h7 => ?_)
  · have h2 : ¬ k = 2 := fun z => h7 (by rw [z])
    obtain ⟨hc1, z, hz⟩ := hc h2
    have hvl : vlC w q code = z := by unfold vlC; rw [hz]; rfl
    have hz8 : z < 8 := Nat.lt_of_lt_of_le (evC_lt hw (by have := hS.1; omega) code (st := []) (fun x hx => by simp at hx) z (by rw [hz]; simp)) (pu_p8 w hw)
    refine gx_aload_n X d_Pr_targetOf_26 rfl rfl ?_
    refine gx_iload_n X d_Pr_targetOf_27 rfl rfl ?_
    refine gx_callV X d_Pr_targetOf_28 mf_Fo_valueIn lk_Pr_56 (c_Fo_valueIn HX hS hc1 (by omega) hz) (HX _ rfl).1 (HX _ rfl).2 rfl rfl rfl (Nat.le_of_ble_eq_true rfl) ⟨by decide, by decide⟩ ⟨rfl, rfl⟩ ⟨Nat.zero_le _, Nat.zero_le _⟩ (fun r28 F28 L28 hp28 => ?_)
    obtain ⟨rfl, rfl, g1⟩ := hp28
    refine gx_istore X d_Pr_targetOf_31 (by decide) ?_
    refine gx_aload_n X d_Pr_targetOf_33 rfl rfl ?_
    refine gx_getr X d_Pr_targetOf_34 (gci in_Pr) (HX _ rfl).1 (HX _ rfl).2 rfl 3 (by decide) (gcw X lk_Pr_18) (fun _ h => h) rfl ?_
    refine gx_iload_n X d_Pr_targetOf_37 rfl rfl ?_
    refine gx_iald X d_Pr_targetOf_38 (HX _ rfl).1 (HX _ rfl).2 rfl (by omega) (by omega) ?_
    refine gx_top (y := nI k) (by rw [g1 11 (by decide)]; exact hk) ?_
    refine gx_iconst X d_Pr_targetOf_39 (v := nI 1) (by decide) ?_
    refine gx_icmp_ne X d_Pr_targetOf_40 (tgt := 60) (by decide) (fun h40 => ?_) (fun h40 => ?_)
    · have h1 : ¬ k = 1 := fun y => h40 (by rw [y])
      refine gx_iload X d_Pr_targetOf_60 rfl ?_
      refine gx_if_eq X d_Pr_targetOf_62 (tgt := 69) (by decide) (fun h62 => ?_) (fun h62 => ?_)
      · have h0 : z = 0 := Classical.byContradiction fun y => nI_ne0 (by omega) (by omega) h62
        refine gx_iconst X d_Pr_targetOf_69 (v := (-1)) (by decide) ?_
        refine gx_iret X hr hA d_Pr_targetOf_70 (K _ _ _ ⟨by unfold tgN; rw [if_neg h2, if_neg h1, hvl, if_pos h0]; rfl, rfl, g1⟩)
      · have h0 : ¬ z = 0 := fun y => h62 (by rw [y]; rfl)
        refine gx_iload_n X d_Pr_targetOf_65 rfl rfl ?_
        refine gx_goto X d_Pr_targetOf_66 (tgt := 70) (by decide) ?_
        refine gx_iret X hr hA d_Pr_targetOf_70 (K _ _ _ ⟨by unfold tgN; rw [if_neg h2, if_neg h1, hvl, if_neg h0]; rfl, rfl, g1⟩)
    · have h1 : k = 1 := (nI_eq (by omega) (by decide)).mp h40
      refine gx_aload_n X d_Pr_targetOf_43 rfl rfl ?_
      refine gx_getr X d_Pr_targetOf_44 (gci in_Pr) (HX _ rfl).1 (HX _ rfl).2 rfl 0 (by decide) (gcw X lk_Pr_28) (fun _ h => h) rfl ?_
      refine gx_iload_n X d_Pr_targetOf_47 rfl rfl ?_
      refine gx_aload_n X d_Pr_targetOf_48 rfl rfl ?_
      refine gx_getr X d_Pr_targetOf_49 (gci in_Pr) (HX _ rfl).1 (HX _ rfl).2 rfl 4 (by decide) (gcw X lk_Pr_21) (fun _ h => h) rfl ?_
      refine gx_iload_n X d_Pr_targetOf_52 rfl rfl ?_
      refine gx_iald X d_Pr_targetOf_53 (HX _ rfl).1 (HX _ rfl).2 rfl (by omega) (by omega) ?_
      refine gx_top (y := nI v) (by rw [g1 12 (by decide)]; exact hv) ?_
      refine gx_iload X d_Pr_targetOf_54 rfl ?_
      refine gx_callV X d_Pr_targetOf_56 mf_Sp_write lk_Pr_52 (c_Sp_write (HX.mono sG_X) (hS.of (g1 1 (by decide))) (st := q) (v := v) (by omega) hv3 (nI z)) (HX _ rfl).1 (HX _ rfl).2 rfl rfl rfl (Nat.le_of_ble_eq_true rfl) ⟨by decide, by decide⟩ ⟨rfl, rfl⟩ ⟨Nat.zero_le _, Nat.zero_le _⟩ (fun r56 F56 L56 hp56 => ?_)
      obtain ⟨rfl, rfl, rfl⟩ := hp56
      refine gx_iret X hr hA d_Pr_targetOf_59 (K _ _ _ ⟨?_, rfl, g1⟩)
      unfold tgN
      rw [if_neg h2, if_pos h1, hvl, pk_tn (by omega)]
      rfl
  · have h2 : k = 2 := (nI_eq (by omega) (by decide)).mp h7
    refine gx_aload_n X d_Pr_targetOf_10 rfl rfl ?_
    refine gx_getr X d_Pr_targetOf_11 (gci in_Pr) (HX _ rfl).1 (HX _ rfl).2 rfl 0 (by decide) (gcw X lk_Pr_28) (fun _ h => h) rfl ?_
    refine gx_iload_n X d_Pr_targetOf_14 rfl rfl ?_
    refine gx_aload_n X d_Pr_targetOf_15 rfl rfl ?_
    refine gx_getr X d_Pr_targetOf_16 (gci in_Pr) (HX _ rfl).1 (HX _ rfl).2 rfl 4 (by decide) (gcw X lk_Pr_21) (fun _ h => h) rfl ?_
    refine gx_iload_n X d_Pr_targetOf_19 rfl rfl ?_
    refine gx_iald X d_Pr_targetOf_20 (HX _ rfl).1 (HX _ rfl).2 rfl (by omega) (by omega) ?_
    refine gx_top hv ?_
    refine gx_iconst X d_Pr_targetOf_21 (v := nI 0) (by decide) ?_
    refine gx_callV X d_Pr_targetOf_22 mf_Sp_write lk_Pr_52 (c_Sp_write (HX.mono sG_X) hS (st := q) (v := v) (by omega) hv3 (nI 0)) (HX _ rfl).1 (HX _ rfl).2 rfl rfl rfl (Nat.le_of_ble_eq_true rfl) ⟨by decide, by decide⟩ ⟨rfl, rfl⟩ ⟨Nat.zero_le _, Nat.zero_le _⟩ (fun r22 F22 L22 hp22 => ?_)
    obtain ⟨rfl, rfl, rfl⟩ := hp22
    refine gx_iret X hr hA d_Pr_targetOf_25 (K _ _ _ ⟨by unfold tgN; rw [if_pos h2]; rfl, rfl, fun _ _ => rfl⟩)
theorem cb_loc {ch : Int32} (h : isLoc ch = true) : ∃ k, k < 12 ∧ ch - nI 65 = nI k := by
  rw [isLoc_eq] at h
  obtain ⟨k, a, b, rfl⟩ := rg_nI (by decide) (by decide) h
  exact ⟨k - 65, by omega, pk_sub a⟩
theorem cb_var {ch : Int32} (h : isVar ch = true) : ∃ k, k < 3 ∧ ch - nI 120 = nI k := by
  obtain ⟨k, a, b, rfl⟩ := rg_nI (by decide) (by decide) h
  exact ⟨k - 120, by omega, pk_sub a⟩
theorem rdEdge_facts {n : Nat} {f : Nat → Int32} {k : Nat} {code : List Int32} (h : rdEdge n f = some (k, code)) : isLoc (lnAt n f 0) = true ∧ isLoc (lnAt n f 1) = true ∧ k < 3 ∧ (k ≠ 0 → isVar (lnAt n f 3) = true) := by
  unfold rdEdge at h
  split at h
  · rename_i h1
    refine ⟨h1.1, h1.2.1, ?_⟩
    split at h
    · rename_i h2
      split at h
      · cases h; exact ⟨by decide, fun _ => h2.1⟩
      · cases h
    · split at h
      · rename_i h2
        split at h
        · cases h; exact ⟨by decide, fun _ => h2.1⟩
        · cases h
      · split at h
        · cases h; exact ⟨by decide, fun z => absurd rfl z⟩
        · cases h
  · cases h
/-- the numbers of a new edge -/
def nwF (n : Nat) (f : Nat → Int32) (i : Nat) : Nat := (lnAt n f i - nI 65).toBitVec.toNat
def nwV (n : Nat) (f : Nat → Int32) (k : Nat) : Nat := if k = 0 then 0 else (lnAt n f 3 - nI 120).toBitVec.toNat
theorem nwF_ok {n : Nat} {f : Nat → Int32} {i : Nat} (h : isLoc (lnAt n f i) = true) : lnAt n f i - nI 65 = nI (nwF n f i) ∧ nwF n f i < 12 := by
  obtain ⟨k, a, b⟩ := cb_loc h
  unfold nwF
  rw [b, pk_tn (by omega)]
  exact ⟨rfl, a⟩
theorem nwV_ok {n : Nat} {f : Nat → Int32} {k : Nat} (hk : k ≠ 0) (h : isVar (lnAt n f 3) = true) : lnAt n f 3 - nI 120 = nI (nwV n f k) ∧ nwV n f k < 3 := by
  obtain ⟨v, a, b⟩ := cb_var h
  unfold nwV
  rw [if_neg hk, b, pk_tn (by omega)]
  exact ⟨rfl, a⟩
def upN {α : Type} (f : Nat → α) (k : Nat) (v : α) : Nat → α := fun j => if j = k then v else f j
theorem upN_at {α : Type} (f : Nat → α) (k : Nat) (v : α) : upN f k v k = v := by simp [upN]
theorem upN_ne {α : Type} (f : Nat → α) {k j : Nat} (v : α) (h : j ≠ k) : upN f k v j = f j := by simp [upN, h]
set_option maxHeartbeats 4000000 in
theorem c_Pr_add (HX : gH ks lay (2 ^ (3 * w)) sX) (hS : SpOK F w) (hL : LiOK F n) (h3 : F 3 = ln) (hP : PrOK F w ne ef et ek ev tg) (hne : ne < 20) {k : Nat} {code : List Int32} (hrd : rdEdge n ln = some (k, code)) (hc : k ≠ 2 → FoOK F code ∧ ∀ q, q < 2 ^ (3 * w) → ∃ z, evC w q code [] = [z]) :
    Con l y_Pr_add (Cond.code y_Pr_add b_Pr_add 6 (some .int) :: WT) rm_Pr_add D vcl ca ks lay ad [xR 8, xI (nI k), xR 2, xR 4] F L (fun r F' L' => r = some (xI (nI ne)) ∧ L' = L ∧ PrOK F' w (ne + 1) (upN ef ne (nwF n ln 0)) (upN et ne (nwF n ln 1)) (upN ek ne k) (upN ev ne (nwV n ln k)) (upN tg ne (fun q => tgN w k (nwV n ln k) q (vlC w q code))) ∧ ∀ a, a ≠ 6 → ¬ (8 ≤ a ∧ a ≤ 12) → ¬ (100 ≤ a ∧ a < 120) → F' a = F a) := by
  have hw : w < 4 := by have := hS.1; omega
  have hN := pu_N w hw
  obtain ⟨l0, l1, hk3, hv⟩ := rdEdge_facts hrd
  obtain ⟨f0, f0b⟩ := nwF_ok l0
  obtain ⟨f1, f1b⟩ := nwF_ok l1
  obtain ⟨p1, p2, p3⟩ := hP
  have hvv : nwV n ln k < 3 := by
    by_cases hk : k = 0
    · unfold nwV; rw [if_pos hk]; decide
    · exact (nwV_ok hk (hv hk)).2
  refine Con.ofK (fun post K => ?_)
  refine Con.of (ls := [(0, xR 8), (1, xI (nI k)), (2, xR 2), (3, xR 4)]) (by decide) rfl rfl (Nat.le_of_ble_eq_true rfl) ?_
  intro p e s m args below meth c A X hr hA
  refine gx_aload_n X d_Pr_add_0 rfl rfl ?_
  refine gx_geti X d_Pr_add_1 (gci in_Pr) (HX _ rfl).1 (HX _ rfl).2 rfl 6 (by decide) (gcw X lk_Pr_24) (fun _ h => h) rfl ?_
  refine gx_top p2 ?_
  refine gx_istore X d_Pr_add_4 (by decide) ?_
  refine gx_aload_n X d_Pr_add_6 rfl rfl ?_
  refine gx_getr X d_Pr_add_7 (gci in_Pr) (HX _ rfl).1 (HX _ rfl).2 rfl 1 (by decide) (gcw X lk_Pr_9) (fun _ h => h) rfl ?_
  refine gx_iload X d_Pr_add_10 rfl ?_
  refine gx_aload_n X d_Pr_add_12 rfl rfl ?_
  refine gx_iconst X d_Pr_add_13 (v := nI 0) (by decide) ?_
  refine gx_callV X d_Pr_add_14 mf_Li_at lk_Pr_42 (c_Li_at HX hL (j := 0) (by omega)) (HX _ rfl).1 (HX _ rfl).2 rfl rfl rfl (Nat.le_of_ble_eq_true rfl) ⟨by decide, by decide⟩ ⟨rfl, rfl⟩ ⟨Nat.zero_le _, Nat.zero_le _⟩ (fun r14 F14 L14 hp14 => ?_)
  obtain ⟨rfl, rfl, rfl⟩ := hp14
  rw [h3]
  refine gx_bipush X d_Pr_add_17 (v := nI 65) (by decide) ?_
  refine gx_isub X d_Pr_add_19 ?_
  refine gx_top f0 ?_
  refine gx_iast X d_Pr_add_20 (HX _ rfl).1 (HX _ rfl).2 rfl (by omega) (by omega) ?_
  refine gx_aload_n X d_Pr_add_21 rfl rfl ?_
  refine gx_getr X d_Pr_add_22 (gci in_Pr) (HX _ rfl).1 (HX _ rfl).2 rfl 2 (by decide) (gcw X lk_Pr_15) (fun _ h => h) rfl ?_
  refine gx_iload X d_Pr_add_25 rfl ?_
  refine gx_aload_n X d_Pr_add_27 rfl rfl ?_
  refine gx_iconst X d_Pr_add_28 (v := nI 1) (by decide) ?_
  refine gx_callV X d_Pr_add_29 mf_Li_at lk_Pr_42 (c_Li_at HX (n := n) (hL.of (gxu_cell (by decide)) (gxu_cell (by decide))) (j := 1) (by omega)) (HX _ rfl).1 (HX _ rfl).2 rfl rfl rfl (Nat.le_of_ble_eq_true rfl) ⟨by decide, by decide⟩ ⟨rfl, rfl⟩ ⟨Nat.zero_le _, Nat.zero_le _⟩ (fun r29 F29 L29 hp29 => ?_)
  obtain ⟨rfl, rfl, rfl⟩ := hp29
  rw [gxu_cell (by decide), h3]
  refine gx_bipush X d_Pr_add_32 (v := nI 65) (by decide) ?_
  refine gx_isub X d_Pr_add_34 ?_
  refine gx_top f1 ?_
  refine gx_iast X d_Pr_add_35 (HX _ rfl).1 (HX _ rfl).2 rfl (by omega) (by omega) ?_
  refine gx_aload_n X d_Pr_add_36 rfl rfl ?_
  refine gx_getr X d_Pr_add_37 (gci in_Pr) (HX _ rfl).1 (HX _ rfl).2 rfl 3 (by decide) (gcw X lk_Pr_18) (fun _ h => h) rfl ?_
  refine gx_iload X d_Pr_add_40 rfl ?_
  refine gx_iload_n X d_Pr_add_42 rfl rfl ?_
  refine gx_iast X d_Pr_add_43 (HX _ rfl).1 (HX _ rfl).2 rfl (by omega) (by omega) ?_
  refine gx_aload_n X d_Pr_add_44 rfl rfl ?_
  refine gx_getr X d_Pr_add_45 (gci in_Pr) (HX _ rfl).1 (HX _ rfl).2 rfl 4 (by decide) (gcw X lk_Pr_21) (fun _ h => h) rfl ?_
  refine gx_iload X d_Pr_add_48 rfl ?_
  -- behind the variable
  have body : ∀ (G : Nat → Nat → Int32), G = gxu (gxu (gxu (gxu F14 9 ne (nI (nwF n ln 0))) 10 ne (nI (nwF n ln 1))) 11 ne (nI k)) 12 ne (nI (nwV n ln k)) → GX p l e rm_Pr_add s m args below meth c (MQ below (gxQ D vcl ca ks lay ad s.heap.size post) args s 0 0 (gxA ks ad s.heap.size)) 6 A D vcl ca ks lay ad 0 0 67 [(4, xI (nI ne)), (0, xR 8), (1, xI (nI k)), (2, xR 2), (3, xR 4)] [] G L29 := by
    intro G hG
    have hG0 : ∀ a, ¬ (8 ≤ a ∧ a ≤ 12) → G a = F14 a := fun a ha => by
      rw [hG, gxu_cell (by omega), gxu_cell (by omega), gxu_cell (by omega), gxu_cell (by omega)]
    have loop : ∀ (d i : Nat) (G2 : Nat → Nat → Int32), i + d = 2 ^ (3 * w) → (∀ a, a ≠ 6 → a ≠ rT ne → G2 a = G a) → (∀ q, q < i → G2 (rT ne) q = tgI (tgN w k (nwV n ln k) q (vlC w q code))) → GX p l e rm_Pr_add s m args below meth c (MQ below (gxQ D vcl ca ks lay ad s.heap.size post) args s 0 0 (gxA ks ad s.heap.size)) 6 A D vcl ca ks lay ad 0 0 70 [(5, xI (nI i)), (4, xI (nI ne)), (0, xR 8), (1, xI (nI k)), (2, xR 2), (3, xR 4)] [] G2 L29 := by
      intro d
      induction d with
      | zero =>
        intro i G2 hd h1 h2
        have hrn : rT ne ≠ 1 ∧ rT ne ≠ 8 := by unfold rT; omega
        have e1 : G2 1 2 = nI (2 ^ (3 * w)) := by rw [h1 1 (by decide) (Ne.symm hrn.1), hG0 1 (by omega)]; exact hS.2.2.2
        have e8 : G2 8 6 = nI ne := by rw [h1 8 (by decide) (Ne.symm hrn.2), hG]; simp [gxu]; exact p2
        refine gx_iload X d_Pr_add_70 rfl ?_
        refine gx_aload_n X d_Pr_add_72 rfl rfl ?_
        refine gx_getr X d_Pr_add_73 (gci in_Pr) (HX _ rfl).1 (HX _ rfl).2 rfl 0 (by decide) (gcw X lk_Pr_28) (fun _ h => h) rfl ?_
        refine gx_geti X d_Pr_add_76 (gci in_Sp) (HX _ rfl).1 (HX _ rfl).2 rfl 2 (by decide) (gcw X lk_Pr_32) (fun _ h => h) rfl ?_
        refine gx_top e1 ?_
        refine gx_icmp_ge X d_Pr_add_79 (tgt := 107) (by decide) (fun h79 => ?_) (fun h79 => ?_)
        · refine gx_aload_n X d_Pr_add_107 rfl rfl ?_
          refine gx_dup X d_Pr_add_108 rfl ?_
          refine gx_geti X d_Pr_add_109 (gci in_Pr) (HX _ rfl).1 (HX _ rfl).2 rfl 6 (by decide) (gcw X lk_Pr_24) (fun _ h => h) rfl ?_
          refine gx_top e8 ?_
          refine gx_iconst X d_Pr_add_112 (v := nI 1) (by decide) ?_
          refine gx_iadd X d_Pr_add_113 ?_
          refine gx_top (nI_add ne 1) ?_
          refine gx_puti X d_Pr_add_114 (gci in_Pr) (HX _ rfl).1 (HX _ rfl).2 rfl 6 (by decide) (gcw X lk_Pr_24) (fun _ h => h) t_Pr ty_Pr nm_Pr rfl (ty_Pr 6 (by decide)) rfl rfl rfl ?_
          refine gx_iload X d_Pr_add_117 rfl ?_
          refine gx_iret X hr hA d_Pr_add_119 (K _ _ _ ⟨rfl, rfl, ⟨by omega, gxu_at, fun e he => ?_⟩, fun a a6 a8 a100 => ?_⟩)
          · have hrt : rT e ≠ 8 ∧ rT e ≠ 6 ∧ ¬ (8 ≤ rT e ∧ rT e ≤ 12) := by unfold rT; omega
            have hrr : ∀ a, 9 ≤ a → a ≤ 12 → a ≠ 8 ∧ a ≠ 6 ∧ a ≠ rT ne := by intro a _ _; unfold rT; omega
            by_cases hen : e = ne
            · subst hen
              simp only [upN_at]
              refine ⟨⟨?_, f0b⟩, ⟨?_, f1b⟩, ⟨?_, hk3⟩, ⟨?_, hvv⟩, fun q hq => ⟨?_, ?_, ?_, ?_, ?_⟩⟩
              · rw [gxu_cell (by decide), h1 9 (by decide) (hrr 9 (by omega) (by omega)).2.2, hG]; simp [gxu]
              · rw [gxu_cell (by decide), h1 10 (by decide) (hrr 10 (by omega) (by omega)).2.2, hG]; simp [gxu]
              · rw [gxu_cell (by decide), h1 11 (by decide) (hrr 11 (by omega) (by omega)).2.2, hG]; simp [gxu]
              · rw [gxu_cell (by decide), h1 12 (by decide) (hrr 12 (by omega) (by omega)).2.2, hG]; simp [gxu]
              · rw [gxu_cell hrt.1]; exact h2 q (by omega)
              · intro t ht
                unfold tgN at ht
                split at ht
                · cases ht; exact wr_lt' hw hvv hq
                split at ht
                · cases ht; exact wr_lt' hw hvv hq
                split at ht
                · cases ht
                · cases ht; exact hq
              · intro h; unfold tgN; rw [if_pos h]
              · intro h; unfold tgN; rw [if_neg (by omega), if_pos h]; exact ⟨_, rfl⟩
              · intro h; unfold tgN; rw [if_neg (by omega), if_neg (by omega)]; split
                · exact Or.inl rfl
                · exact Or.inr rfl
            · have hlt : e < ne := by omega
              have hre : rT e ≠ rT ne := by unfold rT; omega
              simp only [upN_ne _ _ hen]
              have o := p3 e hlt
              have hg : ∀ a, 9 ≤ a → a ≤ 12 → gxu G2 8 6 (nI (ne + 1)) a e = F14 a e := by
                intro a ha hb
                rw [gxu_cell (by omega), h1 a (by omega) (hrr a ha hb).2.2, hG]
                rw [gxu_ne (by omega), gxu_ne (by omega), gxu_ne (by omega), gxu_ne (by omega)]
              rw [hg 9 (by omega) (by omega), hg 10 (by omega) (by omega), hg 11 (by omega) (by omega), hg 12 (by omega) (by omega), gxu_cell hrt.1, h1 (rT e) hrt.2.1 hre, hG0 (rT e) hrt.2.2]
              exact o
          · have hre : a ≠ rT ne := by unfold rT; omega
            rw [gxu_cell (by omega), h1 a a6 hre, hG0 a a8]
        · exact absurd ((nI_leI (by omega) (by omega)).mpr (by omega)) h79
      | succ d ih =>
        intro i G2 hd h1 h2
        have hrn : rT ne ≠ 1 ∧ rT ne ≠ 8 ∧ rT ne ≠ 6 ∧ rT ne ≠ 4 ∧ rT ne ≠ 5 ∧ rT ne ≠ 11 ∧ rT ne ≠ 12 := by unfold rT; omega
        have e1 : G2 1 = F14 1 := by rw [h1 1 (by decide) (Ne.symm hrn.1), hG0 1 (by omega)]
        have e12 : G2 1 2 = nI (2 ^ (3 * w)) := by rw [e1]; exact hS.2.2.2
        refine gx_iload X d_Pr_add_70 rfl ?_
        refine gx_aload_n X d_Pr_add_72 rfl rfl ?_
        refine gx_getr X d_Pr_add_73 (gci in_Pr) (HX _ rfl).1 (HX _ rfl).2 rfl 0 (by decide) (gcw X lk_Pr_28) (fun _ h => h) rfl ?_
        refine gx_geti X d_Pr_add_76 (gci in_Sp) (HX _ rfl).1 (HX _ rfl).2 rfl 2 (by decide) (gcw X lk_Pr_32) (fun _ h => h) rfl ?_
        refine gx_top e12 ?_
        refine gx_icmp_ge X d_Pr_add_79 (tgt := 107) (by decide) (fun h79 => ?_) (fun h79 => ?_)
        · exact absurd ((nI_leI (by omega) (by omega)).mp h79) (by omega)
        · refine gx_aload_n X d_Pr_add_82 rfl rfl ?_
          refine gx_getr X d_Pr_add_83 (gci in_Pr) (HX _ rfl).1 (HX _ rfl).2 rfl 5 (by decide) (gcw X lk_Pr_39) (fun _ h => h) rfl ?_
          refine gx_iload X d_Pr_add_86 rfl ?_
          refine gx_aald X d_Pr_add_88 (HX _ rfl).1 (HX _ rfl).2 rfl rfl rfl (by omega) (by omega) ?_
          refine gx_iload X d_Pr_add_89 rfl ?_
          refine gx_aload_n X d_Pr_add_91 rfl rfl ?_
          refine gx_iload X d_Pr_add_92 rfl ?_
          refine gx_iload X d_Pr_add_94 rfl ?_
          refine gx_aload_n X d_Pr_add_96 rfl rfl ?_
          refine gx_callV X d_Pr_add_97 mf_Pr_targetOf lk_Pr_48 (c_Pr_targetOf HX (hS.of e1) (e0 := ne) (q := i) (k := k) (v := nwV n ln k) hne (by rw [h1 11 (by decide) (by omega), hG]; simp [gxu]) hk3 (by rw [h1 12 (by decide) (by omega), hG]; simp [gxu]) hvv (by omega) (code := code) (fun hk2 => ⟨(hc hk2).1.of (by rw [h1 4 (by decide) (by omega), hG0 4 (by omega)]) (by rw [h1 5 (by decide) (by omega), hG0 5 (by omega)]), (hc hk2).2 i (by omega)⟩)) (HX _ rfl).1 (HX _ rfl).2 rfl rfl rfl (Nat.le_of_ble_eq_true rfl) ⟨by decide, by decide⟩ ⟨rfl, rfl⟩ ⟨Nat.zero_le _, Nat.zero_le _⟩ (fun r97 F97 L97 hp97 => ?_)
          obtain ⟨rfl, rfl, g1⟩ := hp97
          refine gx_iast X d_Pr_add_100 (hxT HX hne).1 (hxT HX hne).2 rfl (by omega) (by omega) ?_
          refine gx_iinc X d_Pr_add_101 rfl (pu_inc _) ?_
          refine gx_goto X d_Pr_add_104 (tgt := 70) (by decide) ?_
          refine gx_el (ih (i + 1) _ (by omega) (fun a a6 ar => ?_) (fun q hq => ?_)) ⟨rfl, rfl, rfl, rfl, rfl, rfl, trivial⟩
          · rw [gxu_cell ar, g1 a a6, h1 a a6 ar]
          · by_cases hqi : q = i
            · subst hqi; exact gxu_at
            · rw [gxu_ne (by omega), g1 (rT ne) hrn.2.2.1, h2 q (by omega)]
    refine gx_iconst X d_Pr_add_67 (v := nI 0) (by decide) ?_
    refine gx_istore X d_Pr_add_68 (by decide) ?_
    exact gx_el (loop (2 ^ (3 * w)) 0 G (by omega) (fun _ _ _ => rfl) (fun q hq => absurd hq (by omega))) ⟨rfl, rfl, rfl, rfl, rfl, rfl, trivial⟩
  refine gx_iload_n X d_Pr_add_50 rfl rfl ?_
  refine gx_if_ne X d_Pr_add_51 (tgt := 58) (by decide) (fun h51 => ?_) (fun h51 => ?_)
  · have hk : k ≠ 0 := fun z => h51 (by rw [z]; rfl)
    refine gx_aload_n X d_Pr_add_58 rfl rfl ?_
    refine gx_iconst X d_Pr_add_59 (v := nI 3) (by decide) ?_
    refine gx_callV X d_Pr_add_60 mf_Li_at lk_Pr_42 (c_Li_at HX (n := n) (hL.of (by rw [gxu_cell (by decide), gxu_cell (by decide), gxu_cell (by decide)]) (by rw [gxu_cell (by decide), gxu_cell (by decide), gxu_cell (by decide)])) (j := 3) (by omega)) (HX _ rfl).1 (HX _ rfl).2 rfl rfl rfl (Nat.le_of_ble_eq_true rfl) ⟨by decide, by decide⟩ ⟨rfl, rfl⟩ ⟨Nat.zero_le _, Nat.zero_le _⟩ (fun r60 F60 L60 hp60 => ?_)
    obtain ⟨rfl, rfl, rfl⟩ := hp60
    rw [gxu_cell (by decide), gxu_cell (by decide), gxu_cell (by decide), h3]
    refine gx_bipush X d_Pr_add_63 (v := nI 120) (by decide) ?_
    refine gx_isub X d_Pr_add_65 ?_
    refine gx_top (nwV_ok hk (hv hk)).1 ?_
    refine gx_iast X d_Pr_add_66 (HX _ rfl).1 (HX _ rfl).2 rfl (by omega) (by omega) ?_
    exact gx_el (body _ rfl) ⟨rfl, rfl, rfl, rfl, rfl, trivial⟩
  · have hk : k = 0 := Classical.byContradiction fun z => nI_ne0 (by omega) (by omega) h51
    refine gx_iconst X d_Pr_add_54 (v := nI 0) (by decide) ?_
    refine gx_goto X d_Pr_add_55 (tgt := 66) (by decide) ?_
    refine gx_top (y := nI (nwV n ln k)) (by unfold nwV; rw [if_pos hk]) ?_
    refine gx_iast X d_Pr_add_66 (HX _ rfl).1 (HX _ rfl).2 rfl (by omega) (by omega) ?_
    exact gx_el (body _ rfl) ⟨rfl, rfl, rfl, rfl, rfl, trivial⟩
end
