/-! the law's helpers: what the class answers, or which refusal it throws (own text; printed by gen_help.py) -/
section
variable {l : Launch} {D : va_G} {ca : Nat → ClassId} {ks : List Nat} {lay : Nat → gxE} {ad : Nat → Nat} {F F1 : Nat → Nat → Int32} {L L1 : Nat → Nat → Int64} {N w : Nat} {z : kS} {S : Nat → Bool}
theorem flt_sub : ∀ k ∈ ks.filter S, k ∈ ks := fun _ h => (List.mem_filter.mp h).1
theorem gH.flt (h : gH ks lay N S) : gH (ks.filter S) lay N S := fun k hk => ⟨List.mem_filter.mpr ⟨(h k hk).1, hk⟩, (h k hk).2⟩
theorem mF_in (h : gH ks lay N S) {a : Nat} (ha : S a = true) : mF (ks.filter S) F1 F a = F1 a := by
  unfold mF
  rw [if_pos (List.mem_filter.mpr ⟨(h a ha).1, ha⟩)]
theorem mF_out {a : Nat} (ha : S a = false) : mF (ks.filter S) F1 F a = F a := by
  unfold mF
  rw [if_neg (fun h => by rw [(List.mem_filter.mp h).2] at ha; cases ha)]
theorem mL_in (h : gH ks lay N S) {a : Nat} (ha : S a = true) : mL (ks.filter S) L1 L a = L1 a := by
  unfold mL
  rw [if_pos (List.mem_filter.mpr ⟨(h a ha).1, ha⟩)]
theorem mL_out {a : Nat} (ha : S a = false) : mL (ks.filter S) L1 L a = L a := by
  unfold mL
  rw [if_neg (fun h => by rw [(List.mem_filter.mp h).2] at ha; cases ha)]
theorem KOK.ofX {G : Nat → Nat → Int32} (h : KOK F w z) (e : ∀ a, sX a = true → G a = F a) : KOK G w z := h.of (fun a ha => e a (by simp [sX]; omega))
def s60 (k : Nat) : Bool := Nat.beq k 60
def rmH : Room := { frames := 64, cells := 1, slots := 6, locals := 12000 }
/-- what a helper says: which refusal (0 none), the answer in the law's long[], the class's new holding -/
def hPo (w : Nat) (F : Nat → Nat → Int32) (L : Nat → Nat → Int64) (Sp : Nat → Int32 → kS → Prop) (r : Option xV) (F' : Nat → Nat → Int32) (L' : Nat → Nat → Int64) : Prop :=
  ∃ k v z', k < 3 ∧ Sp k v z' ∧ r = some (xI (nI k)) ∧ (k = 0 → L' 60 0 = v.toInt64) ∧ KOK F' w z' ∧ (∀ a, sX a = false → F' a = F a) ∧ (∀ a, sX a = false → a ≠ 60 → L' a = L a)
/-- what the reference says -/
def mPo (w : Nat) (Sp : Nat → Int32 → kS → Prop) (r : Option xV) (F' : Nat → Nat → Int32) (L' : Nat → Nat → Int64) : Prop := ∀ k v z', Sp k v z' → r = some (xI v) ∧ F' 40 3 = nI k ∧ MOK F' L' w z'
theorem hPo.ret (HX : gH ks lay N sX) {Sp : Nat → Int32 → kS → Prop} {v : Int32} {z' : kS} {v2 : Int64} (hs : Sp 0 v z') (hv : v2 = v.toInt64) (hk : KOK F1 w z') : hPo w F L Sp (some (xI (nI 0))) (mF (ks.filter sX) F1 F) (gxU (mL (ks.filter sX) L1 L) 60 0 v2) :=
  ⟨0, v, z', by decide, hs, rfl, fun _ => by rw [gxU_at, hv], hk.ofX (fun a ha => mF_in HX ha), fun a ha => mF_out ha, fun a ha h6 => by rw [gxU_cell h6]; exact mL_out ha⟩
theorem hPo.thr (HX : gH ks lay N sX) {Sp : Nat → Int32 → kS → Prop} {k : Nat} {v : Int32} {z' : kS} (hk3 : k < 3) (h0 : k ≠ 0) (hs : Sp k v z') (hk : KOK F1 w z') : hPo w F L Sp (some (xI (nI k))) (mF (ks.filter sX) F1 F) (mL (ks.filter sX) L1 L) :=
  ⟨k, v, z', hk3, hs, rfl, fun h => absurd h h0, hk.ofX (fun a ha => mF_in HX ha), fun a ha => mF_out ha, fun a ha _ => mL_out ha⟩
def SpE (w : Nat) (z : kS) (k : Nat) (v : Int32) (z' : kS) : Prop := (rdEdge z.n z.ln = none ∧ k = 1 ∧ v = nI 0 ∧ z' = z) ∨ ∃ kd code, rdEdge z.n z.ln = some (kd, code) ∧ ((z.ne = 20 ∧ k = 2 ∧ v = nI 0 ∧ z' = z) ∨ (z.ne < 20 ∧ k = 0 ∧ v = nI z.ne ∧ z' = (z.edg w kd code).wip.fgt))
def SpP (w : Nat) (z : kS) (k : Nat) (v : Int32) (z' : kS) : Prop := ((ptAtom z.n z.ln 0).1 = false ∧ k = 1 ∧ v = nI 0 ∧ z' = z) ∨ ((ptAtom z.n z.ln 0).1 = true ∧ ((z.np = 12 ∧ k = 2 ∧ v = nI 0 ∧ z' = z) ∨ (z.np < 12 ∧ k = 0 ∧ v = nI z.np ∧ z' = (z.prd w (ptAtom z.n z.ln 0).2).wip.fgt)))
def SpV (w : Nat) (z : kS) (x : Int32) (k : Nat) (v : Int32) (z' : kS) : Prop := (¬ (nI 1 ≤ x ∧ x ≤ nI 40) ∧ k = 1 ∧ v = nI 0 ∧ z' = z) ∨ ∃ f, x = nI f ∧ 1 ≤ f ∧ f ≤ 40 ∧ k = 0 ∧ v = (prv w f z.beg).oc ∧ z' = prv w f z.beg
def SpH (w : Nat) (z : kS) (x y : Int32) (k : Nat) (v : Int32) (z' : kS) : Prop := z' = z ∧ ((¬ (inR x z.np ∧ inR y (2 ^ (3 * w))) ∧ k = 1 ∧ v = nI 0) ∨ ∃ a q, x = nI a ∧ y = nI q ∧ a < z.np ∧ q < 2 ^ (3 * w) ∧ k = 0 ∧ v = cond ((z.sg q).testBit a) 1 0)
def SpS (w : Nat) (z : kS) (x : Int32) (k : Nat) (v : Int32) (z' : kS) : Prop := z' = z ∧ ((¬ inR x (2 ^ (3 * w)) ∧ k = 1 ∧ v = nI 0) ∨ ∃ q, x = nI q ∧ q < 2 ^ (3 * w) ∧ k = 0 ∧ v = nI (z.sg q))
def SpA (z : kS) (x : Int32) (k : Nat) (v : Int32) (z' : kS) : Prop := z' = z ∧ (((∀ es, z.pt = some es → ¬ inR x es.length) ∧ k = 1 ∧ v = nI 0) ∨ ∃ es a, z.pt = some es ∧ x = nI a ∧ a < es.length ∧ k = 0 ∧ v = nI (es.getD a 0))
def SpI (z : kS) (x : Int32) (k : Nat) (v : Int32) (z' : kS) : Prop := z' = z ∧ ((¬ inR x z.iq.length ∧ k = 1 ∧ v = nI 0) ∨ ∃ a, x = nI a ∧ a < z.iq.length ∧ k = 0 ∧ v = nI (z.iq.getD a 0))
def SpN (z : kS) (x y : Int32) (k : Nat) (v : Int32) (z' : kS) : Prop := z' = z ∧ ((¬ inR x z.ns.length ∧ k = 1 ∧ v = nI 0) ∨ (inR x z.ns.length ∧ ¬ inR y 4 ∧ k = 2 ∧ v = nI 0) ∨ ∃ i t, x = nI i ∧ y = nI t ∧ i < z.ns.length ∧ t < 4 ∧ k = 0 ∧ v = ndI z.ns i t)
def SpF (w : Nat) (z : kS) (x y u : Int32) (k : Nat) (v : Int32) (z' : kS) : Prop := z' = z ∧ ((¬ (inR x z.ne ∧ inR y (2 ^ (3 * w))) ∧ k = 1 ∧ v = nI 0) ∨ ∃ e q, x = nI e ∧ y = nI q ∧ e < z.ne ∧ q < 2 ^ (3 * w) ∧ k = 0 ∧ v = tgI (stp w z.ek z.ev z.tg e q u.toBitVec.toNat))
theorem cst_IAE {args : Array Value} {s : State} (h : hSt s) : (Cond.castable nIAE nIAE).before args s = true := h.1.1 args _ (by decide)
theorem cst_ISE {args : Array Value} {s : State} (h : hSt s) : (Cond.castable nISE nISE).before args s = true := h.1.1 args _ (by decide)
theorem cst_IOE {args : Array Value} {s : State} (h : hSt s) : (Cond.castable nIOE nIOE).before args s = true := h.1.1 args _ (by decide)
theorem inR_no4 {y : Int32} (h : ¬ inR y 4) : y.toInt < 0 ∨ 3 < y.toInt := by
  refine Decidable.byContradiction (fun q => h ⟨?_, ?_⟩)
  · rw [Int32.le_iff_toInt_le]
    have : (0 : Int32).toInt = 0 := by decide
    omega
  · rw [Int32.lt_iff_toInt_lt]
    have : (nI 4).toInt = 4 := by decide
    omega
theorem in40 {x : Int32} (h : nI 1 ≤ x ∧ x ≤ nI 40) : ∃ f, x = nI f ∧ 1 ≤ f ∧ f ≤ 40 := by
  have h0 : 0 ≤ x := Int32.le_trans (by decide) h.1
  obtain ⟨k, hk, rfl⟩ := nI_of (Int32.not_lt.mpr h0)
  exact ⟨k, rfl, (nI_leI (by decide) hk).mp h.1, (nI_leI hk (by decide)).mp h.2⟩
theorem pt_no {x : Int32} {o : Option (List Nat)} (h : ∀ es, o = some es → ¬ inR x es.length) : ¬ (0 ≤ x ∧ x < ptL o) := by
  intro q
  cases o with
  | none =>
    have h1 : (0 : Int32) < -1 := Int32.lt_of_le_of_lt q.1 q.2
    exact absurd h1 (by decide)
  | some es => exact h es rfl q
theorem np_le (hz : KOK F w z) : z.np ≤ 12 := hz.2.2.2.2.1.1.1
theorem ne_le (hz : KOK F w z) : z.ne ≤ 20 := hz.2.2.2.1.1
theorem ns_lt (hz : KOK F w z) : z.ns.length < 2 ^ 31 := by have := hz.2.2.2.2.2.1.1; omega
theorem iq_lt (hz : KOK F w z) : z.iq.length < 2 ^ 31 := by have := hz.2.2.2.2.2.2.2.1.1; omega
theorem pt_lt (hz : KOK F w z) {es : List Nat} (h : z.pt = some es) : es.length < 2 ^ 31 := by
  have := hz.2.2.2.2.2.2.1
  rw [h] at this
  have := this.1
  omega
theorem w_lt (hz : KOK F w z) : 2 ^ (3 * w) < 2 ^ 31 := by
  have h1 : w < 4 := by have := hz.1.1; omega
  have := pu_N w h1
  omega

set_option maxHeartbeats 4000000 in
theorem h_edge (HX : gH ks lay (2 ^ (3 * w)) sX) (H6 : gH ks lay (2 ^ (3 * w)) s60) (hnd : ks.Nodup) (hf : l.flags = pinnedFlags ++ [noTraceFlag]) (hz : KOK F w z) : ConH l y_Lw_edge (Cond.codeWith y_Lw_edge b_Lw_edge 3 (some .int) [(0, 8, 11, 13), (0, 8, 14, 15)] :: WT) rmH D vcl ca ks lay ad [xR 0, xR 60] F L (hPo w F L (SpE w z)) := by
  refine ConH.of (ls := [(0, xR 0), (1, xR 60)]) (by decide) rfl rfl (Nat.le_of_ble_eq_true rfl) ?_
  intro p e s m args below meth c A X hE hT hst hr hA
  rcases hrd : rdEdge z.n z.ln with _ | ⟨kd, code⟩
  · skip
    refine gx_aload_n X d_Lw_edge_0 rfl rfl ?_
    refine gx_iconst X d_Lw_edge_1 (v := nI 0) (by decide) ?_
    refine gx_aload_n X d_Lw_edge_2 rfl rfl ?_
    refine gx_callC X hT hst hA hr [] [mkE (0, 8, 14, 15)] (x := mkE (0, 8, 11, 13)) d_Lw_edge_3 mf_PP_edge lk_Lw_7 (ConT.widen flt_sub (List.Pairwise.filter _ hnd) (t_PP_edge HX.flt hz hf hrd)) (HX _ rfl).1 (HX _ rfl).2 rfl rfl rfl (Nat.le_of_ble_eq_true rfl) ⟨Nat.le_of_ble_eq_true rfl, Nat.le_of_ble_eq_true rfl⟩ ⟨rfl, rfl⟩ ⟨Nat.le_refl _, Nat.le_refl _⟩ hE (by decide) (by decide) (gcw X gw_4) (cst_IAE hT) (fun q hq => absurd hq List.not_mem_nil) (hStore.n X.1.1 X.1.2.1 d_Lw_edge_11 (by decide)) d_Lw_edge_12 (v := nI 1) (by decide) d_Lw_edge_13 (fun F9 L9 q9 => ?_)
    obtain ⟨F1, L1, q1, rfl, rfl⟩ := q9
    exact hPo.thr HX (by decide) (by decide) (Or.inl ⟨hrd, rfl, rfl, rfl⟩) q1.2
  · by_cases hn : z.ne < 20
    · skip
      refine gx_aload_n X d_Lw_edge_0 rfl rfl ?_
      refine gx_iconst X d_Lw_edge_1 (v := nI 0) (by decide) ?_
      refine gx_aload_n X d_Lw_edge_2 rfl rfl ?_
      refine gx_callV X d_Lw_edge_3 mf_PP_edge lk_Lw_7 (Con.widen flt_sub (List.Pairwise.filter _ hnd) (c_PP_edge HX.flt hz hn hrd)) (HX _ rfl).1 (HX _ rfl).2 rfl rfl rfl (Nat.le_of_ble_eq_true rfl) ⟨by decide, by decide⟩ ⟨rfl, rfl⟩ ⟨Nat.zero_le _, Nat.zero_le _⟩ (fun r3 F3 L3 hp3 => ?_)
      obtain ⟨F1, L1, ⟨rfl, -, q2⟩, rfl, rfl⟩ := hp3
      refine gx_i2l X d_Lw_edge_6 rfl ?_
      refine gx_last X d_Lw_edge_7 (H6 _ rfl).1 (H6 _ rfl).2 rfl (by omega) (by omega) ?_
      refine gx_goto X d_Lw_edge_8 (tgt := 17) (by decide) ?_
      refine gx_iconst X d_Lw_edge_17 (v := nI 0) (by decide) ?_
      exact gx_iretH X hr hA d_Lw_edge_18 (hPo.ret HX (Or.inr ⟨kd, code, hrd, Or.inr ⟨hn, rfl, rfl, rfl⟩⟩) rfl q2) ⟨Nat.zero_le _, Nat.zero_le _⟩
    · skip
      refine gx_aload_n X d_Lw_edge_0 rfl rfl ?_
      refine gx_iconst X d_Lw_edge_1 (v := nI 0) (by decide) ?_
      refine gx_aload_n X d_Lw_edge_2 rfl rfl ?_
      refine gx_callC X hT hst hA hr [mkE (0, 8, 11, 13)] [] (x := mkE (0, 8, 14, 15)) d_Lw_edge_3 mf_PP_edge lk_Lw_7 (ConT.widen flt_sub (List.Pairwise.filter _ hnd) (t_PP_edge2 HX.flt hz hf (Nat.le_of_not_lt hn) hrd)) (HX _ rfl).1 (HX _ rfl).2 rfl rfl rfl (Nat.le_of_ble_eq_true rfl) ⟨Nat.le_of_ble_eq_true rfl, Nat.le_of_ble_eq_true rfl⟩ ⟨rfl, rfl⟩ ⟨Nat.le_refl _, Nat.le_refl _⟩ hE (by decide) (by decide) (gcw X gw_5) (cst_ISE hT) (fun q hq => by cases List.mem_singleton.mp hq; exact ⟨by decide, _, gcw X gw_4, hT.2.1⟩) (hStore.n X.1.1 X.1.2.1 d_Lw_edge_14 (by decide)) d_Lw_edge_15 (v := nI 2) (by decide) d_Lw_edge_16 (fun F9 L9 q9 => ?_)
      obtain ⟨F1, L1, q1, rfl, rfl⟩ := q9
      exact hPo.thr HX (by decide) (by decide) (Or.inr ⟨kd, code, hrd, Or.inl ⟨by have := ne_le hz; omega, rfl, rfl, rfl⟩⟩) q1.2
set_option maxHeartbeats 4000000 in
theorem h_predicate (HX : gH ks lay (2 ^ (3 * w)) sX) (H6 : gH ks lay (2 ^ (3 * w)) s60) (hnd : ks.Nodup) (hf : l.flags = pinnedFlags ++ [noTraceFlag]) (hz : KOK F w z) : ConH l y_Lw_predicate (Cond.codeWith y_Lw_predicate b_Lw_predicate 3 (some .int) [(0, 8, 11, 13), (0, 8, 14, 15)] :: WT) rmH D vcl ca ks lay ad [xR 0, xR 60] F L (hPo w F L (SpP w z)) := by
  refine ConH.of (ls := [(0, xR 0), (1, xR 60)]) (by decide) rfl rfl (Nat.le_of_ble_eq_true rfl) ?_
  intro p e s m args below meth c A X hE hT hst hr hA
  rcases hat : (ptAtom z.n z.ln 0).1 with _ | _
  · skip
    refine gx_aload_n X d_Lw_predicate_0 rfl rfl ?_
    refine gx_iconst X d_Lw_predicate_1 (v := nI 0) (by decide) ?_
    refine gx_aload_n X d_Lw_predicate_2 rfl rfl ?_
    refine gx_callC X hT hst hA hr [] [mkE (0, 8, 14, 15)] (x := mkE (0, 8, 11, 13)) d_Lw_predicate_3 mf_PP_predicate lk_Lw_17 (ConT.widen flt_sub (List.Pairwise.filter _ hnd) (t_PP_predicate HX.flt hz hf hat)) (HX _ rfl).1 (HX _ rfl).2 rfl rfl rfl (Nat.le_of_ble_eq_true rfl) ⟨Nat.le_of_ble_eq_true rfl, Nat.le_of_ble_eq_true rfl⟩ ⟨rfl, rfl⟩ ⟨Nat.le_refl _, Nat.le_refl _⟩ hE (by decide) (by decide) (gcw X gw_4) (cst_IAE hT) (fun q hq => absurd hq List.not_mem_nil) (hStore.n X.1.1 X.1.2.1 d_Lw_predicate_11 (by decide)) d_Lw_predicate_12 (v := nI 1) (by decide) d_Lw_predicate_13 (fun F9 L9 q9 => ?_)
    obtain ⟨F1, L1, q1, rfl, rfl⟩ := q9
    exact hPo.thr HX (by decide) (by decide) (Or.inl ⟨hat, rfl, rfl, rfl⟩) q1.2
  · by_cases hn : z.np < 12
    · skip
      refine gx_aload_n X d_Lw_predicate_0 rfl rfl ?_
      refine gx_iconst X d_Lw_predicate_1 (v := nI 0) (by decide) ?_
      refine gx_aload_n X d_Lw_predicate_2 rfl rfl ?_
      refine gx_callV X d_Lw_predicate_3 mf_PP_predicate lk_Lw_17 (Con.widen flt_sub (List.Pairwise.filter _ hnd) (c_PP_predicate HX.flt hz hn hat)) (HX _ rfl).1 (HX _ rfl).2 rfl rfl rfl (Nat.le_of_ble_eq_true rfl) ⟨by decide, by decide⟩ ⟨rfl, rfl⟩ ⟨Nat.zero_le _, Nat.zero_le _⟩ (fun r3 F3 L3 hp3 => ?_)
      obtain ⟨F1, L1, ⟨rfl, -, q2⟩, rfl, rfl⟩ := hp3
      refine gx_i2l X d_Lw_predicate_6 rfl ?_
      refine gx_last X d_Lw_predicate_7 (H6 _ rfl).1 (H6 _ rfl).2 rfl (by omega) (by omega) ?_
      refine gx_goto X d_Lw_predicate_8 (tgt := 17) (by decide) ?_
      refine gx_iconst X d_Lw_predicate_17 (v := nI 0) (by decide) ?_
      exact gx_iretH X hr hA d_Lw_predicate_18 (hPo.ret HX (Or.inr ⟨hat, Or.inr ⟨hn, rfl, rfl, rfl⟩⟩) rfl q2) ⟨Nat.zero_le _, Nat.zero_le _⟩
    · skip
      refine gx_aload_n X d_Lw_predicate_0 rfl rfl ?_
      refine gx_iconst X d_Lw_predicate_1 (v := nI 0) (by decide) ?_
      refine gx_aload_n X d_Lw_predicate_2 rfl rfl ?_
      refine gx_callC X hT hst hA hr [mkE (0, 8, 11, 13)] [] (x := mkE (0, 8, 14, 15)) d_Lw_predicate_3 mf_PP_predicate lk_Lw_17 (ConT.widen flt_sub (List.Pairwise.filter _ hnd) (t_PP_predicate2 HX.flt hz hf (Nat.le_of_not_lt hn) hat)) (HX _ rfl).1 (HX _ rfl).2 rfl rfl rfl (Nat.le_of_ble_eq_true rfl) ⟨Nat.le_of_ble_eq_true rfl, Nat.le_of_ble_eq_true rfl⟩ ⟨rfl, rfl⟩ ⟨Nat.le_refl _, Nat.le_refl _⟩ hE (by decide) (by decide) (gcw X gw_5) (cst_ISE hT) (fun q hq => by cases List.mem_singleton.mp hq; exact ⟨by decide, _, gcw X gw_4, hT.2.1⟩) (hStore.n X.1.1 X.1.2.1 d_Lw_predicate_14 (by decide)) d_Lw_predicate_15 (v := nI 2) (by decide) d_Lw_predicate_16 (fun F9 L9 q9 => ?_)
      obtain ⟨F1, L1, q1, rfl, rfl⟩ := q9
      exact hPo.thr HX (by decide) (by decide) (Or.inr ⟨hat, Or.inl ⟨by have := np_le hz; omega, rfl, rfl, rfl⟩⟩) q1.2
set_option maxHeartbeats 4000000 in
theorem h_prove (HX : gH ks lay (2 ^ (3 * w)) sX) (H6 : gH ks lay (2 ^ (3 * w)) s60) (hnd : ks.Nodup) (hf : l.flags = pinnedFlags ++ [noTraceFlag]) (hz : KOK F w z) (x : Int32) : ConH l y_Lw_prove (Cond.codeWith y_Lw_prove b_Lw_prove 4 (some .int) [(0, 9, 12, 13)] :: WT) rmH D vcl ca ks lay ad [xR 0, xI x, xR 60] F L (hPo w F L (SpV w z x)) := by
  refine ConH.of (ls := [(0, xR 0), (1, xI x), (2, xR 60)]) (by decide) rfl rfl (Nat.le_of_ble_eq_true rfl) ?_
  intro p e s m args below meth c A X hE hT hst hr hA
  by_cases hx : nI 1 ≤ x ∧ x ≤ nI 40
  · obtain ⟨f, rfl, g1, g2⟩ := in40 hx
    refine gx_aload_n X d_Lw_prove_0 rfl rfl ?_
    refine gx_iconst X d_Lw_prove_1 (v := nI 0) (by decide) ?_
    refine gx_aload_n X d_Lw_prove_2 rfl rfl ?_
    refine gx_iload_n X d_Lw_prove_3 rfl rfl ?_
    refine gx_callV X d_Lw_prove_4 mf_PP_prove lk_Lw_20 (Con.widen flt_sub (List.Pairwise.filter _ hnd) (c_PP_prove HX.flt hz g1 g2)) (HX _ rfl).1 (HX _ rfl).2 rfl rfl rfl (Nat.le_of_ble_eq_true rfl) ⟨by decide, by decide⟩ ⟨rfl, rfl⟩ ⟨Nat.zero_le _, Nat.zero_le _⟩ (fun r4 F4 L4 hp4 => ?_)
    obtain ⟨F1, L1, ⟨rfl, -, q2⟩, rfl, rfl⟩ := hp4
    refine gx_i2l X d_Lw_prove_7 rfl ?_
    refine gx_last X d_Lw_prove_8 (H6 _ rfl).1 (H6 _ rfl).2 rfl (by omega) (by omega) ?_
    refine gx_goto X d_Lw_prove_9 (tgt := 15) (by decide) ?_
    refine gx_iconst X d_Lw_prove_15 (v := nI 0) (by decide) ?_
    exact gx_iretH X hr hA d_Lw_prove_16 (hPo.ret HX (Or.inr ⟨f, rfl, g1, g2, rfl, rfl, rfl⟩) rfl q2) ⟨Nat.zero_le _, Nat.zero_le _⟩
  · skip
    refine gx_aload_n X d_Lw_prove_0 rfl rfl ?_
    refine gx_iconst X d_Lw_prove_1 (v := nI 0) (by decide) ?_
    refine gx_aload_n X d_Lw_prove_2 rfl rfl ?_
    refine gx_iload_n X d_Lw_prove_3 rfl rfl ?_
    refine gx_callC X hT hst hA hr [] [] (x := mkE (0, 9, 12, 13)) d_Lw_prove_4 mf_PP_prove lk_Lw_20 (ConT.widen flt_sub (List.Pairwise.filter _ hnd) (t_PP_prove (ks := ks.filter sX) hf x hx)) (HX _ rfl).1 (HX _ rfl).2 rfl rfl rfl (Nat.le_of_ble_eq_true rfl) ⟨Nat.le_of_ble_eq_true rfl, Nat.le_of_ble_eq_true rfl⟩ ⟨rfl, rfl⟩ ⟨Nat.le_refl _, Nat.le_refl _⟩ hE (by decide) (by decide) (gcw X gw_4) (cst_IAE hT) (fun q hq => absurd hq List.not_mem_nil) (hStore.n X.1.1 X.1.2.1 d_Lw_prove_12 (by decide)) d_Lw_prove_13 (v := nI 1) (by decide) d_Lw_prove_14 (fun F9 L9 q9 => ?_)
    obtain ⟨F1, L1, q1, rfl, rfl⟩ := q9
    exact hPo.thr HX (by decide) (by decide) (Or.inl ⟨hx, rfl, rfl, rfl⟩) (by rw [q1.1]; exact hz)
set_option maxHeartbeats 4000000 in
theorem h_holds (HX : gH ks lay (2 ^ (3 * w)) sX) (H6 : gH ks lay (2 ^ (3 * w)) s60) (hnd : ks.Nodup) (hf : l.flags = pinnedFlags ++ [noTraceFlag]) (hz : KOK F w z) (x y : Int32) : ConH l y_Lw_holds (Cond.codeWith y_Lw_holds b_Lw_holds 5 (some .int) [(0, 17, 20, 28)] :: WT) rmH D vcl ca ks lay ad [xR 0, xI x, xI y, xR 60] F L (hPo w F L (SpH w z x y)) := by
  refine ConH.of (ls := [(0, xR 0), (1, xI x), (2, xI y), (3, xR 60)]) (by decide) rfl rfl (Nat.le_of_ble_eq_true rfl) ?_
  intro p e s m args below meth c A X hE hT hst hr hA
  by_cases hx : inR x z.np ∧ inR y (2 ^ (3 * w))
  · obtain ⟨k, hk, rfl⟩ := inR_nI hx.1 (by have := np_le hz; omega)
    obtain ⟨q, hq, rfl⟩ := inR_nI hx.2 (w_lt hz)
    refine gx_aload_n X d_Lw_holds_0 rfl rfl ?_
    refine gx_iconst X d_Lw_holds_1 (v := nI 0) (by decide) ?_
    refine gx_aload_n X d_Lw_holds_2 rfl rfl ?_
    refine gx_iload_n X d_Lw_holds_3 rfl rfl ?_
    refine gx_iload_n X d_Lw_holds_4 rfl rfl ?_
    refine gx_callV X d_Lw_holds_5 mf_PP_holds lk_Lw_24 (Con.widen flt_sub (List.Pairwise.filter _ hnd) (c_PP_holds HX.flt hz hk hq)) (HX _ rfl).1 (HX _ rfl).2 rfl rfl rfl (Nat.le_of_ble_eq_true rfl) ⟨by decide, by decide⟩ ⟨rfl, rfl⟩ ⟨Nat.zero_le _, Nat.zero_le _⟩ (fun r5 F5 L5 hp5 => ?_)
    obtain ⟨F1, L1, ⟨rfl, rfl, rfl⟩, rfl, rfl⟩ := hp5
    refine gx_if_eq X d_Lw_holds_8 (tgt := 15) (by decide) (fun h8 => ?_) (fun h8 => ?_)
    · refine gx_lconst X d_Lw_holds_15 (v := 0) (by decide) ?_
      refine gx_last X d_Lw_holds_16 (H6 _ rfl).1 (H6 _ rfl).2 rfl (by omega) (by omega) ?_
      refine gx_goto X d_Lw_holds_17 (tgt := 24) (by decide) ?_
      refine gx_iconst X d_Lw_holds_24 (v := nI 0) (by decide) ?_
      exact gx_iretH X hr hA d_Lw_holds_25 (hPo.ret HX (v := cond ((z.sg q).testBit k) 1 0) (⟨rfl, Or.inr ⟨k, q, rfl, rfl, hk, hq, rfl, rfl⟩⟩) (by rcases hb : (z.sg q).testBit k with _ | _ <;> rw [hb] at h8 <;> first | rfl | exact absurd h8 (by decide)) hz) ⟨Nat.zero_le _, Nat.zero_le _⟩
    · refine gx_lconst X d_Lw_holds_11 (v := 1) (by decide) ?_
      refine gx_goto X d_Lw_holds_12 (tgt := 16) (by decide) ?_
      refine gx_last X d_Lw_holds_16 (H6 _ rfl).1 (H6 _ rfl).2 rfl (by omega) (by omega) ?_
      refine gx_goto X d_Lw_holds_17 (tgt := 24) (by decide) ?_
      refine gx_iconst X d_Lw_holds_24 (v := nI 0) (by decide) ?_
      exact gx_iretH X hr hA d_Lw_holds_25 (hPo.ret HX (v := cond ((z.sg q).testBit k) 1 0) (⟨rfl, Or.inr ⟨k, q, rfl, rfl, hk, hq, rfl, rfl⟩⟩) (by rcases hb : (z.sg q).testBit k with _ | _ <;> rw [hb] at h8 <;> first | rfl | exact absurd rfl h8 | exact absurd h8 (by decide)) hz) ⟨Nat.zero_le _, Nat.zero_le _⟩
  · skip
    refine gx_aload_n X d_Lw_holds_0 rfl rfl ?_
    refine gx_iconst X d_Lw_holds_1 (v := nI 0) (by decide) ?_
    refine gx_aload_n X d_Lw_holds_2 rfl rfl ?_
    refine gx_iload_n X d_Lw_holds_3 rfl rfl ?_
    refine gx_iload_n X d_Lw_holds_4 rfl rfl ?_
    refine gx_callC X hT hst hA hr [] [] (x := mkE (0, 17, 20, 28)) d_Lw_holds_5 mf_PP_holds lk_Lw_24 (ConT.widen flt_sub (List.Pairwise.filter _ hnd) (t_PP_holds HX.flt hz hf x y hx)) (HX _ rfl).1 (HX _ rfl).2 rfl rfl rfl (Nat.le_of_ble_eq_true rfl) ⟨Nat.le_of_ble_eq_true rfl, Nat.le_of_ble_eq_true rfl⟩ ⟨rfl, rfl⟩ ⟨Nat.le_refl _, Nat.le_refl _⟩ hE (by decide) (by decide) (gcw X gw_6) (cst_IOE hT) (fun q hq => absurd hq List.not_mem_nil) (hStore.i X.1.1 X.1.2.1 d_Lw_holds_20 (by decide)) d_Lw_holds_22 (v := nI 1) (by decide) d_Lw_holds_23 (fun F9 L9 q9 => ?_)
    obtain ⟨F1, L1, q1, rfl, rfl⟩ := q9
    exact hPo.thr HX (by decide) (by decide) (⟨rfl, Or.inl ⟨hx, rfl, rfl⟩⟩) (by rw [q1.1]; exact hz)
set_option maxHeartbeats 4000000 in
theorem h_signature (HX : gH ks lay (2 ^ (3 * w)) sX) (H6 : gH ks lay (2 ^ (3 * w)) s60) (hnd : ks.Nodup) (hf : l.flags = pinnedFlags ++ [noTraceFlag]) (hz : KOK F w z) (x : Int32) : ConH l y_Lw_signature (Cond.codeWith y_Lw_signature b_Lw_signature 4 (some .int) [(0, 9, 12, 28)] :: WT) rmH D vcl ca ks lay ad [xR 0, xI x, xR 60] F L (hPo w F L (SpS w z x)) := by
  refine ConH.of (ls := [(0, xR 0), (1, xI x), (2, xR 60)]) (by decide) rfl rfl (Nat.le_of_ble_eq_true rfl) ?_
  intro p e s m args below meth c A X hE hT hst hr hA
  by_cases hx : inR x (2 ^ (3 * w))
  · obtain ⟨q, hq, rfl⟩ := inR_nI hx (w_lt hz)
    refine gx_aload_n X d_Lw_signature_0 rfl rfl ?_
    refine gx_iconst X d_Lw_signature_1 (v := nI 0) (by decide) ?_
    refine gx_aload_n X d_Lw_signature_2 rfl rfl ?_
    refine gx_iload_n X d_Lw_signature_3 rfl rfl ?_
    refine gx_callV X d_Lw_signature_4 mf_PP_signature lk_Lw_30 (Con.widen flt_sub (List.Pairwise.filter _ hnd) (c_PP_signature HX.flt hz hq)) (HX _ rfl).1 (HX _ rfl).2 rfl rfl rfl (Nat.le_of_ble_eq_true rfl) ⟨by decide, by decide⟩ ⟨rfl, rfl⟩ ⟨Nat.zero_le _, Nat.zero_le _⟩ (fun r4 F4 L4 hp4 => ?_)
    obtain ⟨F1, L1, ⟨rfl, rfl, rfl⟩, rfl, rfl⟩ := hp4
    refine gx_i2l X d_Lw_signature_7 rfl ?_
    refine gx_last X d_Lw_signature_8 (H6 _ rfl).1 (H6 _ rfl).2 rfl (by omega) (by omega) ?_
    refine gx_goto X d_Lw_signature_9 (tgt := 15) (by decide) ?_
    refine gx_iconst X d_Lw_signature_15 (v := nI 0) (by decide) ?_
    exact gx_iretH X hr hA d_Lw_signature_16 (hPo.ret HX (⟨rfl, Or.inr ⟨q, rfl, hq, rfl, rfl⟩⟩) rfl hz) ⟨Nat.zero_le _, Nat.zero_le _⟩
  · skip
    refine gx_aload_n X d_Lw_signature_0 rfl rfl ?_
    refine gx_iconst X d_Lw_signature_1 (v := nI 0) (by decide) ?_
    refine gx_aload_n X d_Lw_signature_2 rfl rfl ?_
    refine gx_iload_n X d_Lw_signature_3 rfl rfl ?_
    refine gx_callC X hT hst hA hr [] [] (x := mkE (0, 9, 12, 28)) d_Lw_signature_4 mf_PP_signature lk_Lw_30 (ConT.widen flt_sub (List.Pairwise.filter _ hnd) (t_PP_signature HX.flt hz hf x hx)) (HX _ rfl).1 (HX _ rfl).2 rfl rfl rfl (Nat.le_of_ble_eq_true rfl) ⟨Nat.le_of_ble_eq_true rfl, Nat.le_of_ble_eq_true rfl⟩ ⟨rfl, rfl⟩ ⟨Nat.le_refl _, Nat.le_refl _⟩ hE (by decide) (by decide) (gcw X gw_6) (cst_IOE hT) (fun q hq => absurd hq List.not_mem_nil) (hStore.n X.1.1 X.1.2.1 d_Lw_signature_12 (by decide)) d_Lw_signature_13 (v := nI 1) (by decide) d_Lw_signature_14 (fun F9 L9 q9 => ?_)
    obtain ⟨F1, L1, q1, rfl, rfl⟩ := q9
    exact hPo.thr HX (by decide) (by decide) (⟨rfl, Or.inl ⟨hx, rfl, rfl⟩⟩) (by rw [q1.1]; exact hz)
set_option maxHeartbeats 4000000 in
theorem h_path (HX : gH ks lay (2 ^ (3 * w)) sX) (H6 : gH ks lay (2 ^ (3 * w)) s60) (hnd : ks.Nodup) (hf : l.flags = pinnedFlags ++ [noTraceFlag]) (hz : KOK F w z) (x : Int32) : ConH l y_Lw_path (Cond.codeWith y_Lw_path b_Lw_path 4 (some .int) [(0, 9, 12, 28)] :: WT) rmH D vcl ca ks lay ad [xR 0, xI x, xR 60] F L (hPo w F L (SpA z x)) := by
  refine ConH.of (ls := [(0, xR 0), (1, xI x), (2, xR 60)]) (by decide) rfl rfl (Nat.le_of_ble_eq_true rfl) ?_
  intro p e s m args below meth c A X hE hT hst hr hA
  by_cases hx : ∃ es, z.pt = some es ∧ inR x es.length
  · obtain ⟨es, hes, hx⟩ := hx
    obtain ⟨k, hk, rfl⟩ := inR_nI hx (pt_lt hz hes)
    refine gx_aload_n X d_Lw_path_0 rfl rfl ?_
    refine gx_iconst X d_Lw_path_1 (v := nI 0) (by decide) ?_
    refine gx_aload_n X d_Lw_path_2 rfl rfl ?_
    refine gx_iload_n X d_Lw_path_3 rfl rfl ?_
    refine gx_callV X d_Lw_path_4 mf_PP_path lk_Lw_42 (Con.widen flt_sub (List.Pairwise.filter _ hnd) (c_PP_path HX.flt hz hes hk)) (HX _ rfl).1 (HX _ rfl).2 rfl rfl rfl (Nat.le_of_ble_eq_true rfl) ⟨by decide, by decide⟩ ⟨rfl, rfl⟩ ⟨Nat.zero_le _, Nat.zero_le _⟩ (fun r4 F4 L4 hp4 => ?_)
    obtain ⟨F1, L1, ⟨rfl, rfl, rfl⟩, rfl, rfl⟩ := hp4
    refine gx_i2l X d_Lw_path_7 rfl ?_
    refine gx_last X d_Lw_path_8 (H6 _ rfl).1 (H6 _ rfl).2 rfl (by omega) (by omega) ?_
    refine gx_goto X d_Lw_path_9 (tgt := 15) (by decide) ?_
    refine gx_iconst X d_Lw_path_15 (v := nI 0) (by decide) ?_
    exact gx_iretH X hr hA d_Lw_path_16 (hPo.ret HX (⟨rfl, Or.inr ⟨es, k, hes, rfl, hk, rfl, rfl⟩⟩) rfl hz) ⟨Nat.zero_le _, Nat.zero_le _⟩
  · skip
    refine gx_aload_n X d_Lw_path_0 rfl rfl ?_
    refine gx_iconst X d_Lw_path_1 (v := nI 0) (by decide) ?_
    refine gx_aload_n X d_Lw_path_2 rfl rfl ?_
    refine gx_iload_n X d_Lw_path_3 rfl rfl ?_
    refine gx_callC X hT hst hA hr [] [] (x := mkE (0, 9, 12, 28)) d_Lw_path_4 mf_PP_path lk_Lw_42 (ConT.widen flt_sub (List.Pairwise.filter _ hnd) (t_PP_path HX.flt hz hf x (pt_no (fun es h1 h2 => hx ⟨es, h1, h2⟩)))) (HX _ rfl).1 (HX _ rfl).2 rfl rfl rfl (Nat.le_of_ble_eq_true rfl) ⟨Nat.le_of_ble_eq_true rfl, Nat.le_of_ble_eq_true rfl⟩ ⟨rfl, rfl⟩ ⟨Nat.le_refl _, Nat.le_refl _⟩ hE (by decide) (by decide) (gcw X gw_6) (cst_IOE hT) (fun q hq => absurd hq List.not_mem_nil) (hStore.n X.1.1 X.1.2.1 d_Lw_path_12 (by decide)) d_Lw_path_13 (v := nI 1) (by decide) d_Lw_path_14 (fun F9 L9 q9 => ?_)
    obtain ⟨F1, L1, q1, rfl, rfl⟩ := q9
    exact hPo.thr HX (by decide) (by decide) (⟨rfl, Or.inl ⟨fun es h1 h2 => hx ⟨es, h1, h2⟩, rfl, rfl⟩⟩) (by rw [q1.1]; exact hz)
set_option maxHeartbeats 4000000 in
theorem h_input (HX : gH ks lay (2 ^ (3 * w)) sX) (H6 : gH ks lay (2 ^ (3 * w)) s60) (hnd : ks.Nodup) (hf : l.flags = pinnedFlags ++ [noTraceFlag]) (hz : KOK F w z) (x : Int32) : ConH l y_Lw_input (Cond.codeWith y_Lw_input b_Lw_input 4 (some .int) [(0, 9, 12, 28)] :: WT) rmH D vcl ca ks lay ad [xR 0, xI x, xR 60] F L (hPo w F L (SpI z x)) := by
  refine ConH.of (ls := [(0, xR 0), (1, xI x), (2, xR 60)]) (by decide) rfl rfl (Nat.le_of_ble_eq_true rfl) ?_
  intro p e s m args below meth c A X hE hT hst hr hA
  by_cases hx : inR x z.iq.length
  · obtain ⟨k, hk, rfl⟩ := inR_nI hx (iq_lt hz)
    refine gx_aload_n X d_Lw_input_0 rfl rfl ?_
    refine gx_iconst X d_Lw_input_1 (v := nI 0) (by decide) ?_
    refine gx_aload_n X d_Lw_input_2 rfl rfl ?_
    refine gx_iload_n X d_Lw_input_3 rfl rfl ?_
    refine gx_callV X d_Lw_input_4 mf_PP_input lk_Lw_45 (Con.widen flt_sub (List.Pairwise.filter _ hnd) (c_PP_input HX.flt hz hk)) (HX _ rfl).1 (HX _ rfl).2 rfl rfl rfl (Nat.le_of_ble_eq_true rfl) ⟨by decide, by decide⟩ ⟨rfl, rfl⟩ ⟨Nat.zero_le _, Nat.zero_le _⟩ (fun r4 F4 L4 hp4 => ?_)
    obtain ⟨F1, L1, ⟨rfl, rfl, rfl⟩, rfl, rfl⟩ := hp4
    refine gx_i2l X d_Lw_input_7 rfl ?_
    refine gx_last X d_Lw_input_8 (H6 _ rfl).1 (H6 _ rfl).2 rfl (by omega) (by omega) ?_
    refine gx_goto X d_Lw_input_9 (tgt := 15) (by decide) ?_
    refine gx_iconst X d_Lw_input_15 (v := nI 0) (by decide) ?_
    exact gx_iretH X hr hA d_Lw_input_16 (hPo.ret HX (⟨rfl, Or.inr ⟨k, rfl, hk, rfl, rfl⟩⟩) rfl hz) ⟨Nat.zero_le _, Nat.zero_le _⟩
  · skip
    refine gx_aload_n X d_Lw_input_0 rfl rfl ?_
    refine gx_iconst X d_Lw_input_1 (v := nI 0) (by decide) ?_
    refine gx_aload_n X d_Lw_input_2 rfl rfl ?_
    refine gx_iload_n X d_Lw_input_3 rfl rfl ?_
    refine gx_callC X hT hst hA hr [] [] (x := mkE (0, 9, 12, 28)) d_Lw_input_4 mf_PP_input lk_Lw_45 (ConT.widen flt_sub (List.Pairwise.filter _ hnd) (t_PP_input HX.flt hz hf x hx)) (HX _ rfl).1 (HX _ rfl).2 rfl rfl rfl (Nat.le_of_ble_eq_true rfl) ⟨Nat.le_of_ble_eq_true rfl, Nat.le_of_ble_eq_true rfl⟩ ⟨rfl, rfl⟩ ⟨Nat.le_refl _, Nat.le_refl _⟩ hE (by decide) (by decide) (gcw X gw_6) (cst_IOE hT) (fun q hq => absurd hq List.not_mem_nil) (hStore.n X.1.1 X.1.2.1 d_Lw_input_12 (by decide)) d_Lw_input_13 (v := nI 1) (by decide) d_Lw_input_14 (fun F9 L9 q9 => ?_)
    obtain ⟨F1, L1, q1, rfl, rfl⟩ := q9
    exact hPo.thr HX (by decide) (by decide) (⟨rfl, Or.inl ⟨hx, rfl, rfl⟩⟩) (by rw [q1.1]; exact hz)
set_option maxHeartbeats 4000000 in
theorem h_node (HX : gH ks lay (2 ^ (3 * w)) sX) (H6 : gH ks lay (2 ^ (3 * w)) s60) (hnd : ks.Nodup) (hf : l.flags = pinnedFlags ++ [noTraceFlag]) (hz : KOK F w z) (x y : Int32) : ConH l y_Lw_node (Cond.codeWith y_Lw_node b_Lw_node 5 (some .int) [(0, 10, 13, 28), (0, 10, 17, 13)] :: WT) rmH D vcl ca ks lay ad [xR 0, xI x, xI y, xR 60] F L (hPo w F L (SpN z x y)) := by
  refine ConH.of (ls := [(0, xR 0), (1, xI x), (2, xI y), (3, xR 60)]) (by decide) rfl rfl (Nat.le_of_ble_eq_true rfl) ?_
  intro p e s m args below meth c A X hE hT hst hr hA
  by_cases hx : inR x z.ns.length
  · by_cases hy : inR y 4
    · obtain ⟨i, hi, rfl⟩ := inR_nI hx (ns_lt hz)
      obtain ⟨t, ht, rfl⟩ := inR_nI hy (by decide)
      refine gx_aload_n X d_Lw_node_0 rfl rfl ?_
      refine gx_iconst X d_Lw_node_1 (v := nI 0) (by decide) ?_
      refine gx_aload_n X d_Lw_node_2 rfl rfl ?_
      refine gx_iload_n X d_Lw_node_3 rfl rfl ?_
      refine gx_iload_n X d_Lw_node_4 rfl rfl ?_
      refine gx_callV X d_Lw_node_5 mf_PP_node lk_Lw_38 (Con.widen flt_sub (List.Pairwise.filter _ hnd) (c_PP_node HX.flt hz hi ht)) (HX _ rfl).1 (HX _ rfl).2 rfl rfl rfl (Nat.le_of_ble_eq_true rfl) ⟨by decide, by decide⟩ ⟨rfl, rfl⟩ ⟨Nat.zero_le _, Nat.zero_le _⟩ (fun r5 F5 L5 hp5 => ?_)
      obtain ⟨F1, L1, ⟨rfl, rfl, rfl⟩, rfl, rfl⟩ := hp5
      refine gx_i2l X d_Lw_node_8 rfl ?_
      refine gx_last X d_Lw_node_9 (H6 _ rfl).1 (H6 _ rfl).2 rfl (by omega) (by omega) ?_
      refine gx_goto X d_Lw_node_10 (tgt := 21) (by decide) ?_
      refine gx_iconst X d_Lw_node_21 (v := nI 0) (by decide) ?_
      exact gx_iretH X hr hA d_Lw_node_22 (hPo.ret HX (⟨rfl, Or.inr (Or.inr ⟨i, t, rfl, rfl, hi, ht, rfl, rfl⟩)⟩) rfl hz) ⟨Nat.zero_le _, Nat.zero_le _⟩
    · skip
      refine gx_aload_n X d_Lw_node_0 rfl rfl ?_
      refine gx_iconst X d_Lw_node_1 (v := nI 0) (by decide) ?_
      refine gx_aload_n X d_Lw_node_2 rfl rfl ?_
      refine gx_iload_n X d_Lw_node_3 rfl rfl ?_
      refine gx_iload_n X d_Lw_node_4 rfl rfl ?_
      refine gx_callC X hT hst hA hr [mkE (0, 10, 13, 28)] [] (x := mkE (0, 10, 17, 13)) d_Lw_node_5 mf_PP_node lk_Lw_38 (ConT.widen flt_sub (List.Pairwise.filter _ hnd) (t_PP_node2 HX.flt hz hf x y hx (inR_no4 hy))) (HX _ rfl).1 (HX _ rfl).2 rfl rfl rfl (Nat.le_of_ble_eq_true rfl) ⟨Nat.le_of_ble_eq_true rfl, Nat.le_of_ble_eq_true rfl⟩ ⟨rfl, rfl⟩ ⟨Nat.le_refl _, Nat.le_refl _⟩ hE (by decide) (by decide) (gcw X gw_4) (cst_IAE hT) (fun q hq => by cases List.mem_singleton.mp hq; exact ⟨by decide, _, gcw X gw_6, hT.2.2⟩) (hStore.i X.1.1 X.1.2.1 d_Lw_node_17 (by decide)) d_Lw_node_19 (v := nI 2) (by decide) d_Lw_node_20 (fun F9 L9 q9 => ?_)
      obtain ⟨F1, L1, q1, rfl, rfl⟩ := q9
      exact hPo.thr HX (by decide) (by decide) (⟨rfl, Or.inr (Or.inl ⟨hx, hy, rfl, rfl⟩)⟩) (by rw [q1.1]; exact hz)
  · skip
    refine gx_aload_n X d_Lw_node_0 rfl rfl ?_
    refine gx_iconst X d_Lw_node_1 (v := nI 0) (by decide) ?_
    refine gx_aload_n X d_Lw_node_2 rfl rfl ?_
    refine gx_iload_n X d_Lw_node_3 rfl rfl ?_
    refine gx_iload_n X d_Lw_node_4 rfl rfl ?_
    refine gx_callC X hT hst hA hr [] [mkE (0, 10, 17, 13)] (x := mkE (0, 10, 13, 28)) d_Lw_node_5 mf_PP_node lk_Lw_38 (ConT.widen flt_sub (List.Pairwise.filter _ hnd) (t_PP_node HX.flt hz hf x y hx)) (HX _ rfl).1 (HX _ rfl).2 rfl rfl rfl (Nat.le_of_ble_eq_true rfl) ⟨Nat.le_of_ble_eq_true rfl, Nat.le_of_ble_eq_true rfl⟩ ⟨rfl, rfl⟩ ⟨Nat.le_refl _, Nat.le_refl _⟩ hE (by decide) (by decide) (gcw X gw_6) (cst_IOE hT) (fun q hq => absurd hq List.not_mem_nil) (hStore.i X.1.1 X.1.2.1 d_Lw_node_13 (by decide)) d_Lw_node_15 (v := nI 1) (by decide) d_Lw_node_16 (fun F9 L9 q9 => ?_)
    obtain ⟨F1, L1, q1, rfl, rfl⟩ := q9
    exact hPo.thr HX (by decide) (by decide) (⟨rfl, Or.inl ⟨hx, rfl, rfl⟩⟩) (by rw [q1.1]; exact hz)
set_option maxHeartbeats 4000000 in
theorem h_follow (HX : gH ks lay (2 ^ (3 * w)) sX) (H6 : gH ks lay (2 ^ (3 * w)) s60) (hnd : ks.Nodup) (hf : l.flags = pinnedFlags ++ [noTraceFlag]) (hz : KOK F w z) (x y u : Int32) : ConH l y_Lw_follow (Cond.codeWith y_Lw_follow b_Lw_follow 6 (some .int) [(0, 12, 15, 28)] :: WT) rmH D vcl ca ks lay ad [xR 0, xI x, xI y, xI u, xR 60] F L (hPo w F L (SpF w z x y u)) := by
  refine ConH.of (ls := [(0, xR 0), (1, xI x), (2, xI y), (3, xI u), (4, xR 60)]) (by decide) rfl rfl (Nat.le_of_ble_eq_true rfl) ?_
  intro p e s m args below meth c A X hE hT hst hr hA
  by_cases hx : inR x z.ne ∧ inR y (2 ^ (3 * w))
  · obtain ⟨a, ha, rfl⟩ := inR_nI hx.1 (by have := ne_le hz; omega)
    obtain ⟨q, hq, rfl⟩ := inR_nI hx.2 (w_lt hz)
    refine gx_aload X d_Lw_follow_0 rfl ?_
    refine gx_iconst X d_Lw_follow_2 (v := nI 0) (by decide) ?_
    refine gx_aload_n X d_Lw_follow_3 rfl rfl ?_
    refine gx_iload_n X d_Lw_follow_4 rfl rfl ?_
    refine gx_iload_n X d_Lw_follow_5 rfl rfl ?_
    refine gx_iload_n X d_Lw_follow_6 rfl rfl ?_
    refine gx_callV X d_Lw_follow_7 mf_PP_follow lk_Lw_34 (Con.widen flt_sub (List.Pairwise.filter _ hnd) (c_PP_follow HX.flt hz ha hq u)) (HX _ rfl).1 (HX _ rfl).2 rfl rfl rfl (Nat.le_of_ble_eq_true rfl) ⟨by decide, by decide⟩ ⟨rfl, rfl⟩ ⟨Nat.zero_le _, Nat.zero_le _⟩ (fun r7 F7 L7 hp7 => ?_)
    obtain ⟨F1, L1, ⟨rfl, rfl, rfl⟩, rfl, rfl⟩ := hp7
    refine gx_i2l X d_Lw_follow_10 rfl ?_
    refine gx_last X d_Lw_follow_11 (H6 _ rfl).1 (H6 _ rfl).2 rfl (by omega) (by omega) ?_
    refine gx_goto X d_Lw_follow_12 (tgt := 19) (by decide) ?_
    refine gx_iconst X d_Lw_follow_19 (v := nI 0) (by decide) ?_
    exact gx_iretH X hr hA d_Lw_follow_20 (hPo.ret HX (⟨rfl, Or.inr ⟨a, q, rfl, rfl, ha, hq, rfl, rfl⟩⟩) rfl hz) ⟨Nat.zero_le _, Nat.zero_le _⟩
  · skip
    refine gx_aload X d_Lw_follow_0 rfl ?_
    refine gx_iconst X d_Lw_follow_2 (v := nI 0) (by decide) ?_
    refine gx_aload_n X d_Lw_follow_3 rfl rfl ?_
    refine gx_iload_n X d_Lw_follow_4 rfl rfl ?_
    refine gx_iload_n X d_Lw_follow_5 rfl rfl ?_
    refine gx_iload_n X d_Lw_follow_6 rfl rfl ?_
    refine gx_callC X hT hst hA hr [] [] (x := mkE (0, 12, 15, 28)) d_Lw_follow_7 mf_PP_follow lk_Lw_34 (ConT.widen flt_sub (List.Pairwise.filter _ hnd) (t_PP_follow HX.flt hz hf x y u hx)) (HX _ rfl).1 (HX _ rfl).2 rfl rfl rfl (Nat.le_of_ble_eq_true rfl) ⟨Nat.le_of_ble_eq_true rfl, Nat.le_of_ble_eq_true rfl⟩ ⟨rfl, rfl⟩ ⟨Nat.le_refl _, Nat.le_refl _⟩ hE (by decide) (by decide) (gcw X gw_6) (cst_IOE hT) (fun q hq => absurd hq List.not_mem_nil) (hStore.i X.1.1 X.1.2.1 d_Lw_follow_15 (by decide)) d_Lw_follow_17 (v := nI 1) (by decide) d_Lw_follow_18 (fun F9 L9 q9 => ?_)
    obtain ⟨F1, L1, q1, rfl, rfl⟩ := q9
    exact hPo.thr HX (by decide) (by decide) (⟨rfl, Or.inl ⟨hx, rfl, rfl⟩⟩) (by rw [q1.1]; exact hz)
end
