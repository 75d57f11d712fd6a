/-! the reference's edge (own text) -/
section
variable {l : Launch} {D : va_G} {ca : Nat → ClassId} {ks : List Nat} {lay : Nat → gxE} {ad : Nat → Nat} {F : Nat → Nat → Int32} {L : Nat → Nat → Int64} {N w n : Nat} {z : kS}
theorem gxU_same {k j : Nat} : gxU L k j (L k j) = L := by
  funext a b
  unfold gxU
  by_cases h : a = k ∧ b = j
  · rw [if_pos h, h.1, h.2]
  · rw [if_neg h]
theorem lor_0 (x : Int64) : x ||| 0 = x := by
  apply tb_ext
  intro i _
  rw [tb_or, tb_0, Bool.or_false]
theorem sh_0 : ∀ i, i < 64 → ((nI 0).toInt64 <<< ((nI i).toInt64 &&& 63) : Int64) = 0 := by decide +kernel
theorem one_64 : (nI 1).toInt64 = 1 := by decide
/-- one bit of the effect is written -/
theorem bB_or {k a0 q s c : Nat} (hc : c < 2) (b : Int64) (hb : b = L k (a0 + q / 64) ||| ((nI c).toInt64 <<< ((nI (q % 64)).toInt64 &&& 63))) : bB (gxU L k (a0 + q / 64) b) k a0 s = (bB L k a0 s || (Nat.beq s q && decide (c = 1))) := by
  have hcase : c = 0 ∨ c = 1 := by omega
  rcases hcase with rfl | rfl
  · rw [sh_0 _ (Nat.mod_lt _ (by decide)), lor_0] at hb
    rw [hb, gxU_same]
    simp
  · rw [one_64] at hb
    rw [bB_set b hb]
    simp
theorem bB_far {k a0 a1 q s : Nat} {b : Int64} (h : ¬ a1 + s / 64 = a0 + q / 64) : bB (gxU L k (a0 + q / 64) b) k a1 s = bB L k a1 s := by
  unfold bB
  rw [gxU_ne (fun z => h z.2)]
theorem dg_bit : ∀ x, x < 8 → ∀ b, b < 3 → (nI x >>> (nI b &&& 31)) &&& nI 1 = nI (x / 2 ^ b % 2) := by decide +kernel
/-- where a line is an edge, as the reference asks it -/
theorem rdE_no {f : Nat → Int32} (h : ¬ (isLoc (lnAt n f 0) = true ∧ isLoc (lnAt n f 1) = true ∧ lnAt n f 2 = nI 32)) : rdEdge n f = none := by
  unfold rdEdge
  rw [if_neg h]
theorem rdE_ask {f : Nat → Int32} (hnz : ∀ i, i < n → ¬ f i = 0) (h : isLoc (lnAt n f 0) = true ∧ isLoc (lnAt n f 1) = true ∧ lnAt n f 2 = nI 32) (hv : isVar (lnAt n f 3) = true) (h4 : lnAt n f 4 = nI 63) : rdEdge n f = if n = 5 then some (2, []) else none := by
  unfold rdEdge
  rw [if_pos h, if_pos ⟨hv, h4⟩]
  have h4n : 4 < n := lnAt_lt (by rw [h4]; decide)
  by_cases e : n = 5
  · rw [if_pos e, if_pos ((ln0 hnz).mpr (by omega))]
  · rw [if_neg e, if_neg (fun q => (ln0 hnz).mp q (by omega))]
theorem rdE_set {f : Nat → Int32} (hn : n ≤ 24) (hnz : ∀ i, i < n → ¬ f i = 0) (h : isLoc (lnAt n f 0) = true ∧ isLoc (lnAt n f 1) = true ∧ lnAt n f 2 = nI 32) (hv : isVar (lnAt n f 3) = true) (h4 : lnAt n f 4 = nI 58) : rdEdge n f = if sc n f 0 true 5 = some n then some (1, (ptTerm n f (ptPart n f 4) (5, [])).2.2) else none := by
  unfold rdEdge
  rw [if_pos h, if_neg (by rw [h4]; exact fun q => absurd q.2 (by decide)), if_pos ⟨hv, h4⟩]
  have e1 : sc n f 0 true 5 = _ := sc_term (f := f) hn (5, [])
  rw [e1]
  by_cases t1 : (ptTerm n f (ptPart n f 4) (5, [])).1 = true
  · obtain ⟨-, -, -, h3, -⟩ := trm_ok hn (5, []) (Nat.zero_le _) t1
    rw [if_pos t1, t1, Bool.true_and]
    by_cases e : (ptTerm n f (ptPart n f 4) (5, [])).2.1 = n
    · rw [if_pos (decide_eq_true ((ln0 hnz).mpr (by omega))), if_pos (by rw [e])]
    · rw [if_neg (fun q => (ln0 hnz).mp (of_decide_eq_true q) (by omega)), if_neg (fun q => e (Option.some.inj q))]
  · rw [if_neg t1, show (ptTerm n f (ptPart n f 4) (5, [])).1 = false by simpa using t1, Bool.false_and, if_neg (by decide), if_neg (fun q => by cases q)]
theorem rdE_atom {f : Nat → Int32} (hn : n ≤ 24) (hnz : ∀ i, i < n → ¬ f i = 0) (h : isLoc (lnAt n f 0) = true ∧ isLoc (lnAt n f 1) = true ∧ lnAt n f 2 = nI 32) (hv : ¬ (isVar (lnAt n f 3) = true ∧ (lnAt n f 4 = nI 58 ∨ lnAt n f 4 = nI 63))) : rdEdge n f = if (rlA n f 3).isSome = true then some (0, (ptAtom n f 3).2) else none := by
  unfold rdEdge
  rw [if_pos h, if_neg (fun q => hv ⟨q.1, Or.inr q.2⟩), if_neg (fun q => hv ⟨q.1, Or.inl q.2⟩), rlA_atom hn hnz 3]
/-- the edge is written -/
theorem MeOK.add {G : Nat → Nat → Int32} {M : Nat → Nat → Int64} {ne : Nat} {ef et ek ev : Nat → Nat} {tg : Nat → Nat → Option Nat} (hw : w < 4) (h : MeOK F L w ne ef et ek ev tg) (hne : ne < 20) {a b k v : Nat} {val : Nat → Nat} (ha : a < 12) (hb : b < 12) (hk : k < 3) (hv : v < 3) (hval : k = 1 → ∀ q, q < 2 ^ (3 * w) → val q < 8)
    (h6 : G 40 6 = nI (ne + 1)) (h42 : G 42 = upd (F 42) ne (nI a)) (h43 : G 43 = upd (F 43) ne (nI b)) (h44 : G 44 = upd (F 44) ne (nI (rk3 k))) (h45 : G 45 = upd (F 45) ne (nI v)) (hM : ∀ j, j < 24 * ne → M 46 j = L 46 j)
    (h1 : k = 1 → ∀ c, c < 3 → ∀ q, q < 2 ^ (3 * w) → bB M 46 (24 * ne + 8 * c) q = (val q).testBit c) (h0 : k = 0 → ∀ q, q < 2 ^ (3 * w) → bB M 46 (24 * ne) q = Nat.blt 0 (val q)) :
    MeOK G M w (ne + 1) (upN ef ne a) (upN et ne b) (upN ek ne k) (upN ev ne v) (upN tg ne (fun q => tgN w k v q (val q))) := by
  obtain ⟨g1, g2, g3⟩ := h
  refine ⟨by omega, h6, fun e he => ?_⟩
  by_cases e1 : e = ne
  · subst e1
    rw [h42, h43, h44, h45, upd_at, upd_at, upd_at, upd_at, upN_at, upN_at, upN_at, upN_at, upN_at]
    refine ⟨⟨rfl, ha⟩, ⟨rfl, hb⟩, ⟨rfl, hk⟩, ⟨rfl, hv⟩, fun s hs => ⟨fun t ht => ?_, fun hk1 => ?_, fun hk0 => ?_, fun hk2 => ?_⟩⟩
    · unfold tgN at ht
      by_cases c1 : k = 2
      · rw [if_pos c1] at ht; cases ht; exact wr_lt' hw hv hs
      · rw [if_neg c1] at ht
        by_cases c2 : k = 1
        · rw [if_pos c2] at ht; cases ht; exact wr_lt' hw hv hs
        · rw [if_neg c2] at ht
          by_cases c3 : val s = 0
          · rw [if_pos c3] at ht; cases ht
          · rw [if_neg c3] at ht; cases ht; exact hs
    · exact ⟨val s, hval hk1 s hs, by unfold tgN; rw [if_neg (by omega), if_pos hk1], fun c hc => h1 hk1 c hc s hs⟩
    · rw [h0 hk0 s hs]
      unfold tgN
      rw [if_neg (by omega), if_neg (by omega)]
      by_cases c3 : val s = 0
      · rw [if_pos c3, c3]; exact ⟨rfl, Or.inl rfl⟩
      · rw [if_neg c3]
        refine ⟨?_, Or.inr rfl⟩
        show Nat.blt 0 (val s) = true
        exact Nat.ble_eq.mpr (by omega)
    · unfold tgN; rw [if_pos hk2]
  · rw [h42, h43, h44, h45, upd_ne e1, upd_ne e1, upd_ne e1, upd_ne e1, upN_ne _ _ e1, upN_ne _ _ e1, upN_ne _ _ e1, upN_ne _ _ e1, upN_ne _ _ e1]
    obtain ⟨a1, a2, a3, a4, a5⟩ := g3 e (by omega)
    have hbb : ∀ c s, c < 3 → s < 512 → bB M 46 (24 * e + 8 * c) s = bB L 46 (24 * e + 8 * c) s := fun c s hc hs => by
      unfold bB
      rw [hM _ (by omega)]
    have hN := pu_N w hw
    refine ⟨a1, a2, a3, a4, fun s hs => ?_⟩
    obtain ⟨b1, b2, b3, b4⟩ := a5 s hs
    refine ⟨b1, fun hk1 => ?_, fun hk0 => ?_, b4⟩
    · obtain ⟨x, c1, c2, c3⟩ := b2 hk1
      exact ⟨x, c1, c2, fun b hb => by rw [hbb b s hb (by omega)]; exact c3 b hb⟩
    · have := hbb 0 s (by decide) (by omega)
      rw [Nat.mul_zero, Nat.add_zero] at this
      rw [this]
      exact b3 hk0
set_option maxHeartbeats 16000000 in
theorem m_edge (HX : gH ks lay N sM) (hz : MOK F L w z) : Con l y_Mo_edge (Cond.code y_Mo_edge b_Mo_edge 9 (some .int) :: WT) rm_Mo_edge D vcl ca ks lay ad [xR 40] F L (fun r F' L' => (rdEdge z.n z.ln = none → r = some (xI (nI 0)) ∧ F' 40 3 = nI 1 ∧ MOK F' L' w z) ∧ (∀ k code, rdEdge z.n z.ln = some (k, code) → z.ne = 20 → r = some (xI (nI 0)) ∧ F' 40 3 = nI 2 ∧ MOK F' L' w z) ∧ (∀ k code, rdEdge z.n z.ln = some (k, code) → z.ne < 20 → r = some (xI (nI z.ne)) ∧ F' 40 3 = nI 0 ∧ MOK F' L' w ((z.edg w k code).wip.fgt))) := by
  have hw : w < 4 := by have := hz.1.1; omega
  have hw0 : 0 < w := by have := hz.1.1; omega
  have hN := pu_N w hw
  have h8 := pu_p8 w hw
  obtain ⟨c1, c2⟩ := hz.c0
  obtain ⟨b1, b2⟩ := hz.no (nI 1)
  obtain ⟨b3, b4⟩ := hz.no (nI 2)
  obtain ⟨k1, ⟨l1, l2, l3, l4⟩, k3, k4, k5, k6, k7, k8⟩ := id c1
  have hnz := c1.2.1.nz
  have hne := k3.1
  refine Con.ofK (fun post K => ?_)
  refine Con.of (ls := [(0, xR 40)]) (by decide) rfl rfl (Nat.le_of_ble_eq_true rfl) ?_
  intro p e s m args below meth c A X hr hA
  generalize hG0 : gxu F 40 3 (nI 0) = G0 at *
  -- the state loop: val is worked out for every state
  have run3 : ∀ (k : Nat) (code : List Int32) (rel : Int32) (a b v : Nat) (G : Nat → Nat → Int32) (M : Nat → Nat → Int64), rdEdge z.n z.ln = some (k, code) → z.ne < 20 → k < 3 → a = nwF z.n z.ln 0 → b = nwF z.n z.ln 1 → v = nwV z.n z.ln k → a < 12 → b < 12 → v < 3 → (k = 1 → sc z.n z.ln 0 true 5 = some z.n ∧ code = (ptTerm z.n z.ln (ptPart z.n z.ln 4) (5, [])).2.2) → (k = 0 → ∃ r0, rel = nI r0 ∧ rlA z.n z.ln 3 = some r0 ∧ code = (ptAtom z.n z.ln 3).2) → (∀ x, ¬ (42 ≤ x ∧ x ≤ 45) → G x = G0 x) → G 42 = upd (G0 42) z.ne (nI a) → G 43 = upd (G0 43) z.ne (nI b) → G 44 = upd (G0 44) z.ne (nI (rk3 k)) → G 45 = upd (G0 45) z.ne (nI v) → (∀ x, x ≠ 46 → M x = L x) → (∀ j, j < 24 * z.ne → M 46 j = L 46 j) → (∀ j, 24 * z.ne ≤ j → j < 24 * z.ne + 24 → M 46 j = 0) → GX p l e rm_Mo_edge s m args below meth c (MQ below (gxQ D vcl ca ks lay ad s.heap.size post) args s 0 0 (gxA ks ad s.heap.size)) 9 A D vcl ca ks lay ad 0 0 307 [(5, xI (nI z.ne)), (4, xI (cond (decide (k = 2)) (nI 1) (nI 0))), (3, xI (cond (decide (k = 1)) (nI 1) (nI 0))), (2, xI rel), (0, xR 40)] [] G M := by
    intro k code rel a b v G M hrd hlt hk3 ha hb hv ha12 hb12 hv3 hc1 hc0 f1 f42 f43 f44 f45 fM1 fM2 fM3
    generalize hval : (fun q => vlC w q code) = val
    have e425 : ∀ (G2 : Nat → Nat → Int32) (M2 : Nat → Nat → Int64), (∀ x, x ≠ 58 → x ≠ 59 → G2 x = G x) → (∀ x, x ≠ 46 → M2 x = L x) → (∀ j, j < 24 * z.ne → M2 46 j = L 46 j) → (k = 1 → ∀ c, c < 3 → ∀ q, q < 2 ^ (3 * w) → bB M2 46 (24 * z.ne + 8 * c) q = (val q).testBit c) → (k = 0 → ∀ q, q < 2 ^ (3 * w) → bB M2 46 (24 * z.ne) q = Nat.blt 0 (val q)) → (k = 1 → ∀ q, q < 2 ^ (3 * w) → val q < 8) → GX p l e rm_Mo_edge s m args below meth c (MQ below (gxQ D vcl ca ks lay ad s.heap.size post) args s 0 0 (gxA ks ad s.heap.size)) 9 A D vcl ca ks lay ad 0 0 425 [(5, xI (nI z.ne)), (0, xR 40)] [] G2 M2 := by
      intro G2 M2 g1 g2 g3 g4 g5 g6
      have g40 : G2 40 = G0 40 := (g1 40 (by decide) (by decide)).trans (f1 40 (by decide))
      refine gx_aload_n X d_Mo_edge_425 rfl rfl ?_
      refine gx_dup X d_Mo_edge_426 rfl ?_
      refine gx_geti X d_Mo_edge_427 (gci in_Mo) (HX _ rfl).1 (HX _ rfl).2 rfl 6 (by decide) (gcw X lk_Mo_138) (fun _ h => h) rfl ?_
      refine gx_top (y := nI z.ne) (by rw [g40]; exact k3.2.1) ?_
      refine gx_iconst X d_Mo_edge_430 (v := nI 1) (by decide) ?_
      refine gx_iadd X d_Mo_edge_431 ?_
      refine gx_top (nI_add z.ne 1) ?_
      refine gx_puti X d_Mo_edge_432 (gci in_Mo) (HX _ rfl).1 (HX _ rfl).2 rfl 6 (by decide) (gcw X lk_Mo_138) (fun _ h => h) t_Mo ty_Mo nm_Mo rfl (ty_Mo 6 (by decide)) rfl rfl rfl ?_
      refine gx_aload_n X d_Mo_edge_435 rfl rfl ?_
      refine gx_iconst X d_Mo_edge_436 (v := nI 0) (by decide) ?_
      refine gx_puti X d_Mo_edge_437 (gci in_Mo) (HX _ rfl).1 (HX _ rfl).2 rfl 5 (by decide) (gcw X lk_Mo_88) (fun _ h => h) t_Mo ty_Mo nm_Mo rfl (ty_Mo 5 (by decide)) rfl rfl rfl ?_
      refine gx_aload_n X d_Mo_edge_440 rfl rfl ?_
      have m0 : MO0 (gxu (gxu G2 40 6 (nI (z.ne + 1))) 40 5 (nI 0)) M2 w (z.edg w k code).wip := by
        have hme := k3.add (G := gxu (gxu G2 40 6 (nI (z.ne + 1))) 40 5 (nI 0)) (M := M2) hw hlt ha12 hb12 hk3 hv3 g6 (by rw [gxu_ne (by decide), gxu_at]) (by rw [gxu_cell (by decide), gxu_cell (by decide), g1 42 (by decide) (by decide)]; exact f42) (by rw [gxu_cell (by decide), gxu_cell (by decide), g1 43 (by decide) (by decide)]; exact f43) (by rw [gxu_cell (by decide), gxu_cell (by decide), g1 44 (by decide) (by decide)]; exact f44) (by rw [gxu_cell (by decide), gxu_cell (by decide), g1 45 (by decide) (by decide)]; exact f45) g3 g4 g5
        refine ⟨k1.of (fun j hj => by rw [gxu_ne (by omega), gxu_ne (by omega), g40]), ⟨Nat.zero_le _, gxu_at, by rw [gxu_cell (by decide), gxu_cell (by decide), g1 41 (by decide) (by decide), f1 41 (by decide)]; exact l3, fun i hi => absurd hi (Nat.not_lt_zero i)⟩, ?_, k4.of (by rw [gxu_ne (by decide), gxu_ne (by decide), g40]) (by rw [gxu_cell (by decide), gxu_cell (by decide), g1 48 (by decide) (by decide), f1 48 (by decide)]) (g2 47 (by decide))⟩
        rw [ha, hb, hv, ← hval] at hme
        exact hme
      refine gx_callV X d_Mo_edge_441 mf_Mo_forget lk_Mo_145 (c_Mo_forget HX) (HX _ rfl).1 (HX _ rfl).2 rfl rfl rfl (Nat.le_of_ble_eq_true rfl) ⟨by decide, by decide⟩ ⟨rfl, rfl⟩ ⟨Nat.zero_le _, Nat.zero_le _⟩ (fun r441 F441 L441 hp441 => ?_)
      obtain ⟨rfl, hF2, rfl⟩ := hp441
      obtain ⟨m1, m2⟩ := m0.fgt hF2
      refine gx_iload X d_Mo_edge_444 rfl ?_
      have hlast : MOK F441 L441 w ((z.edg w k code).wip.fgt) ∧ F441 40 3 = nI 0 := ⟨m1, by rw [m2, gxu_ne (by decide), gxu_ne (by decide), g40]; exact c2⟩
      have hthird : ∀ k2 code2, rdEdge z.n z.ln = some (k2, code2) → MOK F441 L441 w ((z.edg w k2 code2).wip.fgt) ∧ F441 40 3 = nI 0 := by
        intro k2 code2 q
        rw [hrd] at q
        cases q
        exact hlast
      refine gx_iret X hr hA d_Mo_edge_446 (K _ _ _ ⟨fun q => (by rw [hrd] at q; cases q), fun _ _ _ q => absurd q (by omega), fun k2 code2 q _ => ⟨rfl, (hthird k2 code2 q).2, (hthird k2 code2 q).1⟩⟩)
    by_cases hk2 : k = 2
    · rw [decide_eq_true hk2]
      refine gx_iconst X d_Mo_edge_307 (v := nI 0) (by decide) ?_
      refine gx_istore X d_Mo_edge_308 (by decide) ?_
      refine gx_iload X d_Mo_edge_310 rfl ?_
      refine gx_aload_n X d_Mo_edge_312 rfl rfl ?_
      refine gx_geti X d_Mo_edge_313 (gci in_Mo) (HX _ rfl).1 (HX _ rfl).2 rfl 2 (by decide) (gcw X lk_Mo_82) (fun _ h => h) rfl ?_
      refine gx_top (y := nI (2 ^ (3 * w))) (by rw [f1 40 (by decide)]; exact k1.2.2.2) ?_
      refine gx_icmp_ge X d_Mo_edge_316 (tgt := 425) (by decide) (fun h316 => ?_) (fun h316 => ?_)
      · exact gx_el (e425 G M (fun _ _ _ => rfl) fM1 fM2 (fun q => absurd q (by omega)) (fun q => absurd q (by omega)) (fun q => absurd q (by omega))) ⟨rfl, rfl, trivial⟩
      · refine gx_iload X d_Mo_edge_319 rfl ?_
        refine gx_if_ne X d_Mo_edge_321 (tgt := 425) (by decide) (fun h321 => ?_) (fun h321 => ?_)
        · exact gx_el (e425 G M (fun _ _ _ => rfl) fM1 fM2 (fun q => absurd q (by omega)) (fun q => absurd q (by omega)) (fun q => absurd q (by omega))) ⟨rfl, rfl, trivial⟩
        · exact absurd h321 (by decide)
    · rw [decide_eq_false hk2]
      -- the value written for a state
      generalize hvx : (fun q => if k = 1 then val q else cond (Nat.blt 0 (val q)) 1 0) = vx
      have hvx8 : ∀ q, q < 2 ^ (3 * w) → vx q < 8 ∧ (k = 1 → val q < 8) := by
        intro q hq
        rw [← hvx]
        show (if k = 1 then val q else cond (Nat.blt 0 (val q)) 1 0) < 8 ∧ _
        by_cases e1 : k = 1
        · rw [if_pos e1]
          have : val q < 2 ^ w := by
            rw [← hval]
            show vlC w q code < 2 ^ w
            unfold vlC
            obtain ⟨x, hx⟩ := edge_ok l1 hrd hk2 w q
            rw [hx]
            exact evC_lt hw hw0 code (st := []) (fun y hy => by simp at hy) x (by rw [hx]; simp)
          exact ⟨by omega, fun _ => by omega⟩
        · rw [if_neg e1]
          refine ⟨?_, fun q => absurd q e1⟩
          cases Nat.blt 0 (val q) <;> decide
      have loop : ∀ (d i : Nat) (G2 : Nat → Nat → Int32) (M2 : Nat → Nat → Int64), i + d = 2 ^ (3 * w) → (∀ x, x ≠ 58 → x ≠ 59 → G2 x = G x) → (∀ x, x ≠ 46 → M2 x = L x) → (∀ j, j < 24 * z.ne → M2 46 j = L 46 j) → (∀ c, c < 3 → ∀ q, q < 512 → bB M2 46 (24 * z.ne + 8 * c) q = (decide (q < i) && (vx q).testBit c)) → GX p l e rm_Mo_edge s m args below meth c (MQ below (gxQ D vcl ca ks lay ad s.heap.size post) args s 0 0 (gxA ks ad s.heap.size)) 9 A D vcl ca ks lay ad 0 0 310 [(6, xI (nI i)), (5, xI (nI z.ne)), (4, xI (nI 0)), (3, xI (cond (decide (k = 1)) (nI 1) (nI 0))), (2, xI rel), (0, xR 40)] [] G2 M2 := by
        intro d
        induction d with
        | zero =>
          intro i G2 M2 hd g1 g2 g3 g4
          have g40 : G2 40 = G0 40 := (g1 40 (by decide) (by decide)).trans (f1 40 (by decide))
          refine gx_iload X d_Mo_edge_310 rfl ?_
          refine gx_aload_n X d_Mo_edge_312 rfl rfl ?_
          refine gx_geti X d_Mo_edge_313 (gci in_Mo) (HX _ rfl).1 (HX _ rfl).2 rfl 2 (by decide) (gcw X lk_Mo_82) (fun _ h => h) rfl ?_
          refine gx_top (y := nI (2 ^ (3 * w))) (by rw [g40]; exact k1.2.2.2) ?_
          refine gx_icmp_ge X d_Mo_edge_316 (tgt := 425) (by decide) (fun h316 => ?_) (fun h316 => ?_)
          · refine gx_el (e425 G2 M2 g1 g2 g3 (fun q1 c hc q hq => ?_) (fun q1 q hq => ?_) (fun q1 q hq => (hvx8 q hq).2 q1)) ⟨rfl, rfl, trivial⟩
            · rw [g4 c hc q (by omega), decide_eq_true (by omega), Bool.true_and, ← hvx]
              show (if k = 1 then val q else _).testBit c = _
              rw [if_pos q1]
            · have := g4 0 (by decide) q (by omega)
              rw [Nat.mul_zero, Nat.add_zero] at this
              rw [this, decide_eq_true (by omega), Bool.true_and, ← hvx]
              show (if k = 1 then val q else cond (Nat.blt 0 (val q)) 1 0).testBit 0 = _
              rw [if_neg (by omega)]
              cases Nat.blt 0 (val q) <;> decide
          · exact absurd ((nI_leI (by omega) (by omega)).mpr (by omega)) h316
        | succ d ih =>
          intro i G2 M2 hd g1 g2 g3 g4
          have hiN : i < 2 ^ (3 * w) := by omega
          have g40 : G2 40 = G0 40 := (g1 40 (by decide) (by decide)).trans (f1 40 (by decide))
          have g41 : G2 41 = z.ln := (g1 41 (by decide) (by decide)).trans ((f1 41 (by decide)).trans l3)
          have hS2 : MsOK G2 w := k1.of (fun j hj => by rw [g40])
          have g5 : G2 40 5 = nI z.n := by rw [g40]; exact l2
          have hv8 := (hvx8 i hiN).1
          -- the three bits
          have bits : ∀ (d2 cb : Nat) (G3 : Nat → Nat → Int32) (M3 : Nat → Nat → Int64), cb + d2 = 3 → (∀ x, x ≠ 58 → x ≠ 59 → G3 x = G x) → (∀ x, x ≠ 46 → M3 x = L x) → (∀ j, j < 24 * z.ne → M3 46 j = L 46 j) → (∀ c', c' < 3 → ∀ q, q < 512 → bB M3 46 (24 * z.ne + 8 * c') q = (decide (q < (if c' < cb then i + 1 else i)) && (vx q).testBit c')) → GX p l e rm_Mo_edge s m args below meth c (MQ below (gxQ D vcl ca ks lay ad s.heap.size post) args s 0 0 (gxA ks ad s.heap.size)) 9 A D vcl ca ks lay ad 0 0 368 [(8, xI (nI cb)), (7, xI (nI (vx i))), (6, xI (nI i)), (5, xI (nI z.ne)), (4, xI (nI 0)), (3, xI (cond (decide (k = 1)) (nI 1) (nI 0))), (2, xI rel), (0, xR 40)] [] G3 M3 := by
            intro d2
            induction d2 with
            | zero =>
              intro cb G3 M3 hd2 e1 e2 e3 e4
              refine gx_iload X d_Mo_edge_368 rfl ?_
              refine gx_iconst X d_Mo_edge_370 (v := nI 3) (by decide) ?_
              refine gx_icmp_ge X d_Mo_edge_371 (tgt := 419) (by decide) (fun h371 => ?_) (fun h371 => ?_)
              · refine gx_iinc X d_Mo_edge_419 rfl (pu_inc _) ?_
                refine gx_goto X d_Mo_edge_422 (tgt := 310) (by decide) ?_
                refine gx_el (ih (i + 1) G3 M3 (by omega) e1 e2 e3 (fun c' hc' q hq => ?_)) ⟨rfl, rfl, rfl, rfl, rfl, rfl, trivial⟩
                rw [e4 c' hc' q hq, if_pos (by omega)]
              · exact absurd ((nI_leI (by decide) (by omega)).mpr (by omega)) h371
            | succ d2 ih2 =>
              intro cb G3 M3 hd2 e1 e2 e3 e4
              have hc3 : cb < 3 := by omega
              have hm2 : vx i / 2 ^ cb % 2 < 2 := Nat.mod_lt _ (by decide)
              refine gx_iload X d_Mo_edge_368 rfl ?_
              refine gx_iconst X d_Mo_edge_370 (v := nI 3) (by decide) ?_
              refine gx_icmp_ge X d_Mo_edge_371 (tgt := 419) (by decide) (fun h371 => ?_) (fun h371 => ?_)
              · exact absurd ((nI_leI (by decide) (by omega)).mp h371) (by omega)
              · refine gx_aload_n X d_Mo_edge_374 rfl rfl ?_
                refine gx_getr X d_Mo_edge_375 (gci in_Mo) (HX _ rfl).1 (HX _ rfl).2 rfl 11 (by decide) (gcw X lk_Mo_25) (fun _ h => h) rfl ?_
                refine gx_bipush X d_Mo_edge_378 (v := nI 24) (by decide) ?_
                refine gx_iload X d_Mo_edge_380 rfl ?_
                refine gx_imul X d_Mo_edge_382 ?_
                refine gx_top (pk_mul 24 z.ne) ?_
                refine gx_bipush X d_Mo_edge_383 (v := nI 8) (by decide) ?_
                refine gx_iload X d_Mo_edge_385 rfl ?_
                refine gx_imul X d_Mo_edge_387 ?_
                refine gx_top (pk_mul 8 cb) ?_
                refine gx_iadd X d_Mo_edge_388 ?_
                refine gx_top (nI_add (24 * z.ne) (8 * cb)) ?_
                refine gx_iload X d_Mo_edge_389 rfl ?_
                refine gx_bipush X d_Mo_edge_391 (v := nI 64) (by decide) ?_
                refine gx_idiv X d_Mo_edge_393 (by decide) ?_
                refine gx_top (y := nI (i / 64)) (pk_div (by omega) (by decide) (by decide)) ?_
                refine gx_iadd X d_Mo_edge_394 ?_
                refine gx_top (nI_add (24 * z.ne + 8 * cb) (i / 64)) ?_
                first | refine gx_dup2_11 X d_Mo_edge_395 rfl rfl ?_ | refine gx_dup2_2 X d_Mo_edge_395 rfl ?_
                refine gx_lald X d_Mo_edge_396 (HX _ rfl).1 (HX _ rfl).2 rfl (by omega) (by omega) ?_
                refine gx_iload X d_Mo_edge_397 rfl ?_
                refine gx_iload X d_Mo_edge_399 rfl ?_
                refine gx_ishr X d_Mo_edge_401 ?_
                refine gx_iconst X d_Mo_edge_402 (v := nI 1) (by decide) ?_
                refine gx_iand X d_Mo_edge_403 ?_
                refine gx_top (dg_bit (vx i) hv8 cb hc3) ?_
                refine gx_i2l X d_Mo_edge_404 rfl ?_
                refine gx_iload X d_Mo_edge_405 rfl ?_
                refine gx_bipush X d_Mo_edge_407 (v := nI 64) (by decide) ?_
                refine gx_irem X d_Mo_edge_409 (by decide) ?_
                refine gx_top (y := nI (i % 64)) (pk_rem (by omega) (by decide) (by decide)) ?_
                refine gx_lshl X d_Mo_edge_410 rfl ?_
                refine gx_lor X d_Mo_edge_411 ?_
                refine gx_last X d_Mo_edge_412 (HX _ rfl).1 (HX _ rfl).2 rfl (by omega) (by omega) ?_
                refine gx_iinc X d_Mo_edge_413 rfl (pu_inc _) ?_
                refine gx_goto X d_Mo_edge_416 (tgt := 368) (by decide) ?_
                refine gx_el (ih2 (cb + 1) G3 _ (by omega) e1 (fun x hx => by rw [gxU_cell hx]; exact e2 x hx) (fun j hj => by rw [gxU_ne (fun q => by omega)]; exact e3 j hj) (fun c' hc' q hq => ?_)) ⟨rfl, rfl, rfl, rfl, rfl, rfl, rfl, rfl, trivial⟩
                by_cases e5 : c' = cb
                · subst e5
                  rw [bB_or hm2 _ rfl, e4 c' hc' q hq, if_neg (by omega), if_pos (by omega)]
                  have htb : (vx i).testBit c' = decide (vx i / 2 ^ c' % 2 = 1) := by rw [Nat.testBit_eq_decide_div_mod_eq]
                  by_cases e6 : q = i
                  · subst e6
                    rw [htb]
                    simp
                  · rw [beq_ne e6, Bool.false_and, Bool.or_false]
                    congr 1
                    by_cases e7 : q < i
                    · rw [decide_eq_true e7, decide_eq_true (show q < i + 1 by omega)]
                    · rw [decide_eq_false e7, decide_eq_false (show ¬ q < i + 1 by omega)]
                · rw [bB_far (by omega), e4 c' hc' q hq]
                  by_cases e6 : c' < cb
                  · rw [if_pos e6, if_pos (by omega)]
                  · rw [if_neg e6, if_neg (by omega)]
          have start : ∀ (G3 : Nat → Nat → Int32), (∀ x, x ≠ 58 → x ≠ 59 → G3 x = G x) → GX p l e rm_Mo_edge s m args below meth c (MQ below (gxQ D vcl ca ks lay ad s.heap.size post) args s 0 0 (gxA ks ad s.heap.size)) 9 A D vcl ca ks lay ad 0 0 365 [(7, xI (nI (vx i))), (6, xI (nI i)), (5, xI (nI z.ne)), (4, xI (nI 0)), (3, xI (cond (decide (k = 1)) (nI 1) (nI 0))), (2, xI rel), (0, xR 40)] [] G3 M2 := by
            intro G3 e1
            refine gx_iconst X d_Mo_edge_365 (v := nI 0) (by decide) ?_
            refine gx_istore X d_Mo_edge_366 (by decide) ?_
            exact gx_el (bits 3 0 G3 M2 (by decide) e1 g2 g3 (fun c' hc' q hq => by rw [if_neg (by omega)]; exact g4 c' hc' q hq)) ⟨rfl, rfl, rfl, rfl, rfl, rfl, rfl, rfl, trivial⟩
          refine gx_iload X d_Mo_edge_310 rfl ?_
          refine gx_aload_n X d_Mo_edge_312 rfl rfl ?_
          refine gx_geti X d_Mo_edge_313 (gci in_Mo) (HX _ rfl).1 (HX _ rfl).2 rfl 2 (by decide) (gcw X lk_Mo_82) (fun _ h => h) rfl ?_
          refine gx_top (y := nI (2 ^ (3 * w))) (by rw [g40]; exact k1.2.2.2) ?_
          refine gx_icmp_ge X d_Mo_edge_316 (tgt := 425) (by decide) (fun h316 => ?_) (fun h316 => ?_)
          · exact absurd ((nI_leI (by omega) (by omega)).mp h316) (by omega)
          · refine gx_iload X d_Mo_edge_319 rfl ?_
            refine gx_if_ne X d_Mo_edge_321 (tgt := 425) (by decide) (fun h321 => ?_) (fun h321 => ?_)
            · exact absurd rfl h321
            · by_cases e1 : k = 1
              · obtain ⟨s1, s2⟩ := hc1 e1
                have e2 : sc z.n z.ln 0 true 5 = _ := sc_term (f := z.ln) l1 (5, [])
                rw [s1] at e2
                have hvi : vx i = vlC w i code := by rw [← hvx, ← hval]; show (if k = 1 then _ else _) = _; rw [if_pos e1]
                by_cases t1 : (ptTerm z.n z.ln (ptPart z.n z.ln 4) (5, [])).1 = true
                · rw [if_pos t1] at e2
                  have he5 := (Option.some.inj e2).symm
                  obtain ⟨tl, x, a1, a2, a3, a4, a5, a6, a7⟩ := wq_ok (q := i) hw hw0 l1 (5, []) (Nat.zero_le _) t1
                  have a3 : 5 < _ := a3
                  have a1 : _ = [] ++ tl := a1
                  obtain ⟨V1, O1, x1, -, x3⟩ := a7 (G2 58) (upd (G2 59) 0 (nI 0)) upd_at
                  have x1 : rnW w i z.ln ((ptTerm z.n z.ln (ptPart z.n z.ln 4) (5, [])).2.1 - 5) 5 (0, G2 58, upd (G2 59) 0 (nI 0)) (0, V1, O1) := x1
                  rw [he5] at x1 a3
                  have hx : vx i = x := by
                    rw [hvi, s2]
                    unfold vlC
                    rw [a1, List.nil_append, a6]
                    rfl
                  rw [decide_eq_true e1] at start ⊢
                  refine gx_iconst X d_Mo_edge_324 (v := nI 0) (by decide) ?_
                  refine gx_istore X d_Mo_edge_325 (by decide) ?_
                  refine gx_iload_n X d_Mo_edge_327 rfl rfl ?_
                  refine gx_if_eq X d_Mo_edge_328 (tgt := 347) (by decide) (fun h328 => ?_) (fun h328 => ?_)
                  · exact absurd h328 (by decide)
                  · refine gx_aload_n X d_Mo_edge_331 rfl rfl ?_
                    refine gx_iconst X d_Mo_edge_332 (v := nI 5) (by decide) ?_
                    refine gx_aload_n X d_Mo_edge_333 rfl rfl ?_
                    refine gx_geti X d_Mo_edge_334 (gci in_Mo) (HX _ rfl).1 (HX _ rfl).2 rfl 5 (by decide) (gcw X lk_Mo_88) (fun _ h => h) rfl ?_
                    refine gx_top g5 ?_
                    refine gx_iload X d_Mo_edge_337 rfl ?_
                    refine gx_callV X d_Mo_edge_339 mf_Mo_worked lk_Mo_119 (c_Mo_worked HX hS2 (i0 := 5) (m0 := z.n - 5) (e0 := z.n) (q := i) (by omega) l1 (by omega) (by rw [g41]; exact x1)) (HX _ rfl).1 (HX _ rfl).2 rfl rfl rfl (Nat.le_of_ble_eq_true rfl) ⟨by decide, by decide⟩ ⟨rfl, rfl⟩ ⟨Nat.zero_le _, Nat.zero_le _⟩ (fun r339 F339 L339 hp339 => ?_)
                    obtain ⟨rfl, rfl, m1⟩ := hp339
                    refine gx_top (y := nI (vx i)) (by rw [hx]; exact x3) ?_
                    refine gx_istore X d_Mo_edge_342 (by decide) ?_
                    refine gx_goto X d_Mo_edge_344 (tgt := 365) (by decide) ?_
                    exact gx_el (start F339 (fun x b1 b2 => by rw [m1 x b1 b2]; exact g1 x b1 b2)) ⟨rfl, rfl, rfl, rfl, rfl, rfl, rfl, trivial⟩
                · rw [if_neg t1] at e2
                  cases e2
              · obtain ⟨r0, s1, s2, s3⟩ := hc0 (by omega)
                have hvi : vx i = cond (Nat.blt 0 (vlC w i code)) 1 0 := by rw [← hvx, ← hval]; show (if k = 1 then _ else _) = _; rw [if_neg e1]
                rw [decide_eq_false e1, s1] at start ⊢
                refine gx_iconst X d_Mo_edge_324 (v := nI 0) (by decide) ?_
                refine gx_istore X d_Mo_edge_325 (by decide) ?_
                refine gx_iload_n X d_Mo_edge_327 rfl rfl ?_
                refine gx_if_eq X d_Mo_edge_328 (tgt := 347) (by decide) (fun h328 => ?_) (fun h328 => ?_)
                · refine gx_aload_n X d_Mo_edge_347 rfl rfl ?_
                  refine gx_iconst X d_Mo_edge_348 (v := nI 3) (by decide) ?_
                  refine gx_iload_n X d_Mo_edge_349 rfl rfl ?_
                  refine gx_iload X d_Mo_edge_350 rfl ?_
                  refine gx_callV X d_Mo_edge_352 mf_Mo_atom lk_Mo_141 (c_Mo_atom HX hS2 l1 g5 (b := 3) (rel := r0) (q := i) (by omega) (by rw [g41]; exact s2)) (HX _ rfl).1 (HX _ rfl).2 rfl rfl rfl (Nat.le_of_ble_eq_true rfl) ⟨by decide, by decide⟩ ⟨rfl, rfl⟩ ⟨Nat.zero_le _, Nat.zero_le _⟩ (fun r352 F352 L352 hp352 => ?_)
                  obtain ⟨rfl, rfl, m1⟩ := hp352
                  rw [g41, ← s3]
                  cases hbl : Nat.blt 0 (vlC w i code) with
                  | true =>
                    rw [hbl] at hvi
                    have hvi : vx i = 1 := hvi
                    rw [hvi] at start
                    refine gx_if_eq X d_Mo_edge_355 (tgt := 362) (by decide) (fun h355 => ?_) (fun h355 => ?_)
                    · exact absurd h355 (by decide)
                    · refine gx_iconst X d_Mo_edge_358 (v := nI 1) (by decide) ?_
                      refine gx_goto X d_Mo_edge_359 (tgt := 363) (by decide) ?_
                      refine gx_istore X d_Mo_edge_363 (by decide) ?_
                      exact gx_el (start F352 (fun x b1 b2 => by rw [m1 x b1 b2]; exact g1 x b1 b2)) ⟨rfl, rfl, rfl, rfl, rfl, rfl, rfl, trivial⟩
                  | false =>
                    rw [hbl] at hvi
                    have hvi : vx i = 0 := hvi
                    rw [hvi] at start
                    refine gx_if_eq X d_Mo_edge_355 (tgt := 362) (by decide) (fun h355 => ?_) (fun h355 => ?_)
                    · refine gx_iconst X d_Mo_edge_362 (v := nI 0) (by decide) ?_
                      refine gx_istore X d_Mo_edge_363 (by decide) ?_
                      exact gx_el (start F352 (fun x b1 b2 => by rw [m1 x b1 b2]; exact g1 x b1 b2)) ⟨rfl, rfl, rfl, rfl, rfl, rfl, rfl, trivial⟩
                    · exact absurd rfl h355
                · exact absurd rfl h328
      refine gx_iconst X d_Mo_edge_307 (v := nI 0) (by decide) ?_
      refine gx_istore X d_Mo_edge_308 (by decide) ?_
      refine gx_el (loop (2 ^ (3 * w)) 0 G M (by omega) (fun _ _ _ => rfl) fM1 fM2 (fun c hc q hq => ?_)) ⟨rfl, rfl, rfl, rfl, rfl, rfl, trivial⟩
      unfold bB
      rw [fM3 _ (by omega) (by omega), tb_0]
      simp
  -- the words of the effect are cleared
  have run2 : ∀ (k : Nat) (code : List Int32) (rel : Int32) (v : Nat), rdEdge z.n z.ln = some (k, code) → z.ne < 20 → v = nwV z.n z.ln k → v < 3 → (k = 1 → sc z.n z.ln 0 true 5 = some z.n ∧ code = (ptTerm z.n z.ln (ptPart z.n z.ln 4) (5, [])).2.2) → (k = 0 → ∃ r0, rel = nI r0 ∧ rlA z.n z.ln 3 = some r0 ∧ code = (ptAtom z.n z.ln 3).2) → ∀ (G : Nat → Nat → Int32), (∀ x, ¬ (42 ≤ x ∧ x ≤ 45) → G x = G0 x) → G 42 = upd (G0 42) z.ne (nI (nwF z.n z.ln 0)) → G 43 = upd (G0 43) z.ne (nI (nwF z.n z.ln 1)) → G 44 = upd (G0 44) z.ne (nI (rk3 k)) → G 45 = upd (G0 45) z.ne (nI v) → GX p l e rm_Mo_edge s m args below meth c (MQ below (gxQ D vcl ca ks lay ad s.heap.size post) args s 0 0 (gxA ks ad s.heap.size)) 9 A D vcl ca ks lay ad 0 0 273 [(5, xI (nI z.ne)), (4, xI (cond (decide (k = 2)) (nI 1) (nI 0))), (3, xI (cond (decide (k = 1)) (nI 1) (nI 0))), (2, xI rel), (0, xR 40)] [] G L := by
    intro k code rel v hrd hlt hv hv3 hc1 hc0 G f1 f42 f43 f44 f45
    obtain ⟨q1, q2, q3, q4⟩ := rdEdge_facts hrd
    have loop : ∀ (d i : Nat) (M : Nat → Nat → Int64), i + d = 24 * z.ne + 24 → 24 * z.ne ≤ i → (∀ x, x ≠ 46 → M x = L x) → (∀ j, j < 24 * z.ne → M 46 j = L 46 j) → (∀ j, 24 * z.ne ≤ j → j < i → M 46 j = 0) → GX p l e rm_Mo_edge s m args below meth c (MQ below (gxQ D vcl ca ks lay ad s.heap.size post) args s 0 0 (gxA ks ad s.heap.size)) 9 A D vcl ca ks lay ad 0 0 280 [(6, xI (nI i)), (5, xI (nI z.ne)), (4, xI (cond (decide (k = 2)) (nI 1) (nI 0))), (3, xI (cond (decide (k = 1)) (nI 1) (nI 0))), (2, xI rel), (0, xR 40)] [] G M := by
      intro d
      induction d with
      | zero =>
        intro i M hd hi g1 g2 g3
        refine gx_iload X d_Mo_edge_280 rfl ?_
        refine gx_bipush X d_Mo_edge_282 (v := nI 24) (by decide) ?_
        refine gx_iload X d_Mo_edge_284 rfl ?_
        refine gx_imul X d_Mo_edge_286 ?_
        refine gx_top (pk_mul 24 z.ne) ?_
        refine gx_bipush X d_Mo_edge_287 (v := nI 24) (by decide) ?_
        refine gx_iadd X d_Mo_edge_289 ?_
        refine gx_top (nI_add (24 * z.ne) 24) ?_
        refine gx_icmp_ge X d_Mo_edge_290 (tgt := 307) (by decide) (fun h290 => ?_) (fun h290 => ?_)
        · exact gx_el (run3 k code rel _ _ v G M hrd hlt q3 rfl rfl hv (nwF_ok q1).2 (nwF_ok q2).2 hv3 hc1 hc0 f1 f42 f43 f44 f45 g1 g2 (fun j b1 b2 => g3 j b1 (by omega))) ⟨rfl, rfl, rfl, rfl, rfl, trivial⟩
        · exact absurd ((nI_leI (by omega) (by omega)).mpr (by omega)) h290
      | succ d ih =>
        intro i M hd hi g1 g2 g3
        refine gx_iload X d_Mo_edge_280 rfl ?_
        refine gx_bipush X d_Mo_edge_282 (v := nI 24) (by decide) ?_
        refine gx_iload X d_Mo_edge_284 rfl ?_
        refine gx_imul X d_Mo_edge_286 ?_
        refine gx_top (pk_mul 24 z.ne) ?_
        refine gx_bipush X d_Mo_edge_287 (v := nI 24) (by decide) ?_
        refine gx_iadd X d_Mo_edge_289 ?_
        refine gx_top (nI_add (24 * z.ne) 24) ?_
        refine gx_icmp_ge X d_Mo_edge_290 (tgt := 307) (by decide) (fun h290 => ?_) (fun h290 => ?_)
        · exact absurd ((nI_leI (by omega) (by omega)).mp h290) (by omega)
        · refine gx_aload_n X d_Mo_edge_293 rfl rfl ?_
          refine gx_getr X d_Mo_edge_294 (gci in_Mo) (HX _ rfl).1 (HX _ rfl).2 rfl 11 (by decide) (gcw X lk_Mo_25) (fun _ h => h) rfl ?_
          refine gx_iload X d_Mo_edge_297 rfl ?_
          refine gx_lconst X d_Mo_edge_299 (v := 0) (by decide) ?_
          refine gx_last X d_Mo_edge_300 (HX _ rfl).1 (HX _ rfl).2 rfl (by omega) (by omega) ?_
          refine gx_iinc X d_Mo_edge_301 rfl (pu_inc _) ?_
          refine gx_goto X d_Mo_edge_304 (tgt := 280) (by decide) ?_
          refine gx_el (ih (i + 1) _ (by omega) (by omega) (fun x hx => by rw [gxU_cell hx]; exact g1 x hx) (fun j hj => by rw [gxU_ne (fun q => by omega)]; exact g2 j hj) (fun j b1 b2 => ?_)) ⟨rfl, rfl, rfl, rfl, rfl, rfl, trivial⟩
          by_cases e1 : j = i
          · rw [e1, gxU_at]
          · rw [gxU_ne (fun q => e1 q.2)]; exact g3 j b1 (by omega)
    refine gx_bipush X d_Mo_edge_273 (v := nI 24) (by decide) ?_
    refine gx_iload X d_Mo_edge_275 rfl ?_
    refine gx_imul X d_Mo_edge_277 ?_
    refine gx_top (pk_mul 24 z.ne) ?_
    refine gx_istore X d_Mo_edge_278 (by decide) ?_
    exact gx_el (loop 24 (24 * z.ne) L (by omega) (Nat.le_refl _) (fun _ _ => rfl) (fun _ _ => rfl) (fun j b1 b2 => absurd b1 (by omega))) ⟨rfl, rfl, rfl, rfl, rfl, rfl, trivial⟩
  -- from, to, kind and variable
  have run1 : ∀ (k : Nat) (code : List Int32) (rel ch : Int32), rdEdge z.n z.ln = some (k, code) → (¬ ch = 0 ↔ ¬ k = 0) → (k = 1 → sc z.n z.ln 0 true 5 = some z.n ∧ code = (ptTerm z.n z.ln (ptPart z.n z.ln 4) (5, [])).2.2) → (k = 0 → ∃ r0, rel = nI r0 ∧ rlA z.n z.ln 3 = some r0 ∧ code = (ptAtom z.n z.ln 3).2) → GX p l e rm_Mo_edge s m args below meth c (MQ below (gxQ D vcl ca ks lay ad s.heap.size post) args s 0 0 (gxA ks ad s.heap.size)) 9 A D vcl ca ks lay ad 0 0 174 [(4, xI (cond (decide (k = 2)) (nI 1) (nI 0))), (3, xI (cond (decide (k = 1)) (nI 1) (nI 0))), (2, xI rel), (1, xI ch), (0, xR 40)] [] G0 L := by
    intro k code rel ch hrd hch hc1 hc0
    obtain ⟨q1, q2, q3, q4⟩ := rdEdge_facts hrd
    refine gx_aload_n X d_Mo_edge_174 rfl rfl ?_
    refine gx_geti X d_Mo_edge_175 (gci in_Mo) (HX _ rfl).1 (HX _ rfl).2 rfl 6 (by decide) (gcw X lk_Mo_138) (fun _ h => h) rfl ?_
    refine gx_top k3.2.1 ?_
    by_cases e20 : z.ne = 20
    · refine gx_bipush X d_Mo_edge_178 (v := nI 20) (by decide) ?_
      refine gx_icmp_ne X d_Mo_edge_180 (tgt := 189) (by decide) (fun h180 => ?_) (fun h180 => ?_)
      · exact absurd (by rw [e20]) h180
      · refine gx_aload_n X d_Mo_edge_183 rfl rfl ?_
        refine gx_iconst X d_Mo_edge_184 (v := nI 2) (by decide) ?_
        refine gx_callV X d_Mo_edge_185 mf_Mo_fail lk_Mo_132 (c_Mo_fail HX (nI 2)) (HX _ rfl).1 (HX _ rfl).2 rfl rfl rfl (Nat.le_of_ble_eq_true rfl) ⟨by decide, by decide⟩ ⟨rfl, rfl⟩ ⟨Nat.zero_le _, Nat.zero_le _⟩ (fun r185 F185 L185 hp185 => ?_)
        obtain ⟨rfl, hF2, rfl⟩ := hp185
        refine gx_iret X hr hA d_Mo_edge_188 (K _ _ _ ⟨fun q => (by rw [hrd] at q; cases q), fun _ _ _ _ => ⟨rfl, by rw [hF2]; exact b4, by rw [hF2]; exact b3⟩, fun _ _ _ q => absurd q (by omega)⟩)
    · have hlt : z.ne < 20 := by omega
      refine gx_bipush X d_Mo_edge_178 (v := nI 20) (by decide) ?_
      refine gx_icmp_ne X d_Mo_edge_180 (tgt := 189) (by decide) (fun h180 => ?_) (fun h180 => ?_)
      · refine gx_aload_n X d_Mo_edge_189 rfl rfl ?_
        refine gx_geti X d_Mo_edge_190 (gci in_Mo) (HX _ rfl).1 (HX _ rfl).2 rfl 6 (by decide) (gcw X lk_Mo_138) (fun _ h => h) rfl ?_
        refine gx_top k3.2.1 ?_
        refine gx_istore X d_Mo_edge_193 (by decide) ?_
        refine gx_aload_n X d_Mo_edge_195 rfl rfl ?_
        refine gx_getr X d_Mo_edge_196 (gci in_Mo) (HX _ rfl).1 (HX _ rfl).2 rfl 7 (by decide) (gcw X lk_Mo_13) (fun _ h => h) rfl ?_
        refine gx_iload X d_Mo_edge_199 rfl ?_
        refine gx_aload_n X d_Mo_edge_201 rfl rfl ?_
        refine gx_iconst X d_Mo_edge_202 (v := nI 0) (by decide) ?_
        refine gx_callV X d_Mo_edge_203 mf_Mo_at lk_Mo_91 (c_Mo_at HX l1 l2 (i := 0) (by decide)) (HX _ rfl).1 (HX _ rfl).2 rfl rfl rfl (Nat.le_of_ble_eq_true rfl) ⟨by decide, by decide⟩ ⟨rfl, rfl⟩ ⟨Nat.zero_le _, Nat.zero_le _⟩ (fun r203 F203 L203 hp203 => ?_)
        obtain ⟨rfl, rfl, rfl⟩ := hp203
        rw [l3]
        refine gx_bipush X d_Mo_edge_206 (v := nI 65) (by decide) ?_
        refine gx_isub X d_Mo_edge_208 ?_
        refine gx_top (nwF_ok q1).1 ?_
        refine gx_iast X d_Mo_edge_209 (HX _ rfl).1 (HX _ rfl).2 rfl (by omega) (by omega) ?_
        refine gx_aload_n X d_Mo_edge_210 rfl rfl ?_
        refine gx_getr X d_Mo_edge_211 (gci in_Mo) (HX _ rfl).1 (HX _ rfl).2 rfl 8 (by decide) (gcw X lk_Mo_16) (fun _ h => h) rfl ?_
        refine gx_iload X d_Mo_edge_214 rfl ?_
        refine gx_aload_n X d_Mo_edge_216 rfl rfl ?_
        refine gx_iconst X d_Mo_edge_217 (v := nI 1) (by decide) ?_
        have h41a : ∀ (k0 j0 : Nat) (x0 : Int32), k0 ≠ 41 → k0 ≠ 40 → gxu F203 k0 j0 x0 40 5 = nI z.n ∧ gxu F203 k0 j0 x0 41 = z.ln := fun k0 j0 x0 d1 d2 => ⟨by rw [gxu_cell (fun q => d2 q.symm)]; exact l2, by rw [gxu_cell (fun q => d1 q.symm)]; exact l3⟩
        refine gx_callV X d_Mo_edge_218 mf_Mo_at lk_Mo_91 (c_Mo_at HX l1 (h41a 42 _ _ (by decide) (by decide)).1 (i := 1) (by decide)) (HX _ rfl).1 (HX _ rfl).2 rfl rfl rfl (Nat.le_of_ble_eq_true rfl) ⟨by decide, by decide⟩ ⟨rfl, rfl⟩ ⟨Nat.zero_le _, Nat.zero_le _⟩ (fun r218 F218 L218 hp218 => ?_)
        obtain ⟨rfl, hF2, rfl⟩ := hp218
        rw [(h41a 42 _ _ (by decide) (by decide)).2, hF2]
        refine gx_bipush X d_Mo_edge_221 (v := nI 65) (by decide) ?_
        refine gx_isub X d_Mo_edge_223 ?_
        refine gx_top (nwF_ok q2).1 ?_
        refine gx_iast X d_Mo_edge_224 (HX _ rfl).1 (HX _ rfl).2 rfl (by omega) (by omega) ?_
        refine gx_aload_n X d_Mo_edge_225 rfl rfl ?_
        refine gx_getr X d_Mo_edge_226 (gci in_Mo) (HX _ rfl).1 (HX _ rfl).2 rfl 9 (by decide) (gcw X lk_Mo_19) (fun _ h => h) rfl ?_
        refine gx_iload X d_Mo_edge_229 rfl ?_
        refine gx_iload_n X d_Mo_edge_231 rfl rfl ?_
        generalize hG2 : gxu (gxu F203 42 z.ne (nI (nwF z.n z.ln 0))) 43 z.ne (nI (nwF z.n z.ln 1)) = G2
        have m1 : ∀ x, x ≠ 42 → x ≠ 43 → G2 x = F203 x := fun x d1 d2 => by rw [← hG2, gxu_cell d2, gxu_cell d1]
        have m42 : G2 42 = upd (F203 42) z.ne (nI (nwF z.n z.ln 0)) := by rw [← hG2, gxu_cell (by decide), gxu_in]
        have m43 : G2 43 = upd (F203 43) z.ne (nI (nwF z.n z.ln 1)) := by rw [← hG2, gxu_in, gxu_cell (by decide)]
        -- the kind is on the stack
        have atkind : GX p l e rm_Mo_edge s m args below meth c (MQ below (gxQ D vcl ca ks lay ad s.heap.size post) args s 0 0 (gxA ks ad s.heap.size)) 9 A D vcl ca ks lay ad 0 0 249 [(5, xI (nI z.ne)), (4, xI (cond (decide (k = 2)) (nI 1) (nI 0))), (3, xI (cond (decide (k = 1)) (nI 1) (nI 0))), (2, xI rel), (1, xI ch), (0, xR 40)] [xI (nI (rk3 k)), xI (nI z.ne), xR 44] G2 L218 := by
          refine gx_iast X d_Mo_edge_249 (HX _ rfl).1 (HX _ rfl).2 rfl (by omega) (by omega) ?_
          refine gx_aload_n X d_Mo_edge_250 rfl rfl ?_
          refine gx_getr X d_Mo_edge_251 (gci in_Mo) (HX _ rfl).1 (HX _ rfl).2 rfl 10 (by decide) (gcw X lk_Mo_22) (fun _ h => h) rfl ?_
          refine gx_iload X d_Mo_edge_254 rfl ?_
          refine gx_iload_n X d_Mo_edge_256 rfl rfl ?_
          have n1 : ∀ x, x ≠ 44 → gxu G2 44 z.ne (nI (rk3 k)) x = G2 x := fun x d1 => gxu_cell d1
          have go : ∀ v, v = nwV z.n z.ln k → v < 3 → GX p l e rm_Mo_edge s m args below meth c (MQ below (gxQ D vcl ca ks lay ad s.heap.size post) args s 0 0 (gxA ks ad s.heap.size)) 9 A D vcl ca ks lay ad 0 0 272 [(5, xI (nI z.ne)), (4, xI (cond (decide (k = 2)) (nI 1) (nI 0))), (3, xI (cond (decide (k = 1)) (nI 1) (nI 0))), (2, xI rel), (1, xI ch), (0, xR 40)] [xI (nI v), xI (nI z.ne), xR 45] (gxu G2 44 z.ne (nI (rk3 k))) L218 := by
            intro v hv hv3
            refine gx_iast X d_Mo_edge_272 (HX _ rfl).1 (HX _ rfl).2 rfl (by omega) (by omega) ?_
            refine gx_el (run2 k code rel v hrd hlt hv hv3 hc1 hc0 _ (fun x hx => by rw [gxu_cell (by omega), n1 x (by omega)]; exact m1 x (by omega) (by omega)) (by rw [gxu_cell (by decide), n1 42 (by decide)]; exact m42) (by rw [gxu_cell (by decide), n1 43 (by decide)]; exact m43) (by rw [gxu_cell (by decide), gxu_in, m1 44 (by decide) (by decide)]) (by rw [gxu_in, n1 45 (by decide), m1 45 (by decide) (by decide)])) ⟨rfl, rfl, rfl, rfl, rfl, trivial⟩
          by_cases hk0 : k = 0
          · have hc : ch = 0 := by
              by_cases q : ch = 0
              · exact q
              · exact absurd hk0 (hch.mp q)
            refine gx_if_eq X d_Mo_edge_257 (tgt := 271) (by decide) (fun h257 => ?_) (fun h257 => ?_)
            · refine gx_iconst X d_Mo_edge_271 (v := nI 0) (by decide) ?_
              exact gx_el (go 0 (by unfold nwV; rw [if_pos hk0]) (by decide)) ⟨rfl, rfl, rfl, rfl, rfl, rfl, trivial⟩
            · exact absurd hc h257
          · have hv := q4 hk0
            refine gx_if_eq X d_Mo_edge_257 (tgt := 271) (by decide) (fun h257 => ?_) (fun h257 => ?_)
            · exact absurd h257 (hch.mpr hk0)
            · refine gx_aload_n X d_Mo_edge_260 rfl rfl ?_
              refine gx_iconst X d_Mo_edge_261 (v := nI 3) (by decide) ?_
              refine gx_callV X d_Mo_edge_262 mf_Mo_at lk_Mo_91 (c_Mo_at HX l1 (n := z.n) (by rw [n1 40 (by decide), m1 40 (by decide) (by decide)]; exact l2) (i := 3) (by decide)) (HX _ rfl).1 (HX _ rfl).2 rfl rfl rfl (Nat.le_of_ble_eq_true rfl) ⟨by decide, by decide⟩ ⟨rfl, rfl⟩ ⟨Nat.zero_le _, Nat.zero_le _⟩ (fun r262 F262 L262 hp262 => ?_)
              obtain ⟨rfl, hF3, hL3⟩ := hp262
              rw [hF3, hL3, n1 41 (by decide), m1 41 (by decide) (by decide), l3]
              refine gx_bipush X d_Mo_edge_265 (v := nI 120) (by decide) ?_
              refine gx_isub X d_Mo_edge_267 ?_
              refine gx_top (nwV_ok hk0 hv).1 ?_
              refine gx_goto X d_Mo_edge_268 (tgt := 272) (by decide) ?_
              exact gx_el (go _ rfl (nwV_ok hk0 hv).2) ⟨rfl, rfl, rfl, rfl, rfl, rfl, trivial⟩
        have hcase : k = 0 ∨ k = 1 ∨ k = 2 := by omega
        rcases hcase with hk | hk | hk
        · subst hk
          refine gx_if_eq X d_Mo_edge_232 (tgt := 239) (by decide) (fun h232 => ?_) (fun h232 => ?_)
          · refine gx_iload X d_Mo_edge_239 rfl ?_
            refine gx_if_eq X d_Mo_edge_241 (tgt := 248) (by decide) (fun h241 => ?_) (fun h241 => ?_)
            · refine gx_iconst X d_Mo_edge_248 (v := nI 2) (by decide) ?_
              exact atkind
            · exact absurd rfl h241
          · exact absurd rfl h232
        · subst hk
          refine gx_if_eq X d_Mo_edge_232 (tgt := 239) (by decide) (fun h232 => ?_) (fun h232 => ?_)
          · exact absurd h232 (by decide)
          · refine gx_iconst X d_Mo_edge_235 (v := nI 0) (by decide) ?_
            refine gx_goto X d_Mo_edge_236 (tgt := 249) (by decide) ?_
            exact atkind
        · subst hk
          refine gx_if_eq X d_Mo_edge_232 (tgt := 239) (by decide) (fun h232 => ?_) (fun h232 => ?_)
          · refine gx_iload X d_Mo_edge_239 rfl ?_
            refine gx_if_eq X d_Mo_edge_241 (tgt := 248) (by decide) (fun h241 => ?_) (fun h241 => ?_)
            · exact absurd h241 (by decide)
            · refine gx_iconst X d_Mo_edge_244 (v := nI 1) (by decide) ?_
              refine gx_goto X d_Mo_edge_245 (tgt := 249) (by decide) ?_
              exact atkind
          · exact absurd rfl h232
      · exact absurd ((nI_eq (by omega) (by decide)).mp h180) e20
  have no37 : rdEdge z.n z.ln = none → GX p l e rm_Mo_edge s m args below meth c (MQ below (gxQ D vcl ca ks lay ad s.heap.size post) args s 0 0 (gxA ks ad s.heap.size)) 9 A D vcl ca ks lay ad 0 0 37 [(0, xR 40)] [] G0 L := by
    intro h
    refine gx_aload_n X d_Mo_edge_37 rfl rfl ?_
    refine gx_iconst X d_Mo_edge_38 (v := nI 1) (by decide) ?_
    refine gx_callV X d_Mo_edge_39 mf_Mo_fail lk_Mo_132 (c_Mo_fail HX (nI 1)) (HX _ rfl).1 (HX _ rfl).2 rfl rfl rfl (Nat.le_of_ble_eq_true rfl) ⟨by decide, by decide⟩ ⟨rfl, rfl⟩ ⟨Nat.zero_le _, Nat.zero_le _⟩ (fun r39 F39 L39 hp39 => ?_)
    obtain ⟨rfl, hF2, rfl⟩ := hp39
    refine gx_iret X hr hA d_Mo_edge_42 (K _ _ _ ⟨fun _ => ⟨rfl, by rw [hF2]; exact b2, by rw [hF2]; exact b1⟩, fun _ _ q => (by rw [h] at q; cases q), fun _ _ q => (by rw [h] at q; cases q)⟩)
  have no168 : rdEdge z.n z.ln = none → GX p l e rm_Mo_edge s m args below meth c (MQ below (gxQ D vcl ca ks lay ad s.heap.size post) args s 0 0 (gxA ks ad s.heap.size)) 9 A D vcl ca ks lay ad 0 0 168 [(0, xR 40)] [] G0 L := by
    intro h
    refine gx_aload_n X d_Mo_edge_168 rfl rfl ?_
    refine gx_iconst X d_Mo_edge_169 (v := nI 1) (by decide) ?_
    refine gx_callV X d_Mo_edge_170 mf_Mo_fail lk_Mo_132 (c_Mo_fail HX (nI 1)) (HX _ rfl).1 (HX _ rfl).2 rfl rfl rfl (Nat.le_of_ble_eq_true rfl) ⟨by decide, by decide⟩ ⟨rfl, rfl⟩ ⟨Nat.zero_le _, Nat.zero_le _⟩ (fun r170 F170 L170 hp170 => ?_)
    obtain ⟨rfl, hF2, rfl⟩ := hp170
    refine gx_iret X hr hA d_Mo_edge_173 (K _ _ _ ⟨fun _ => ⟨rfl, by rw [hF2]; exact b2, by rw [hF2]; exact b1⟩, fun _ _ q => (by rw [h] at q; cases q), fun _ _ q => (by rw [h] at q; cases q)⟩)
  refine gx_aload_n X d_Mo_edge_0 rfl rfl ?_
  refine gx_iconst X d_Mo_edge_1 (v := nI 0) (by decide) ?_
  refine gx_puti X d_Mo_edge_2 (gci in_Mo) (HX _ rfl).1 (HX _ rfl).2 rfl 3 (by decide) (gcw X lk_Mo_85) (fun _ h => h) t_Mo ty_Mo nm_Mo rfl (ty_Mo 3 (by decide)) rfl rfl rfl ?_
  refine gx_aload_n X d_Mo_edge_5 rfl rfl ?_
  refine gx_iconst X d_Mo_edge_6 (v := nI 0) (by decide) ?_
  rw [hG0]
  refine gx_callV X d_Mo_edge_7 mf_Mo_at lk_Mo_91 (c_Mo_at HX l1 l2 (i := 0) (by decide)) (HX _ rfl).1 (HX _ rfl).2 rfl rfl rfl (Nat.le_of_ble_eq_true rfl) ⟨by decide, by decide⟩ ⟨rfl, rfl⟩ ⟨Nat.zero_le _, Nat.zero_le _⟩ (fun r7 F7 L7 hp7 => ?_)
  obtain ⟨rfl, hF7, hL7⟩ := hp7
  rw [hF7, hL7, l3]
  refine gx_callS X d_Mo_edge_10 mf_Mo_isLocation lk_Mo_129 (c_Mo_isLocation (lnAt z.n z.ln 0)) rfl rfl (Nat.le_of_ble_eq_true rfl) ⟨by decide, by decide⟩ ⟨rfl, rfl⟩ ⟨Nat.zero_le _, Nat.zero_le _⟩ (fun r10 F10 L10 hp10 => ?_)
  obtain ⟨rfl, hF10, hL10⟩ := hp10
  rw [hF10, hL10]
  refine gx_if_eq X d_Mo_edge_13 (tgt := 37) (by decide) (fun h13 => ?_) (fun h13 => ?_)
  · exact gx_el (no37 (rdE_no (fun q => by rw [cb_f h13] at q; cases q.1))) ⟨rfl, trivial⟩
  · have i0 := cb_t h13
    refine gx_aload_n X d_Mo_edge_16 rfl rfl ?_
    refine gx_iconst X d_Mo_edge_17 (v := nI 1) (by decide) ?_
    refine gx_callV X d_Mo_edge_18 mf_Mo_at lk_Mo_91 (c_Mo_at HX l1 l2 (i := 1) (by decide)) (HX _ rfl).1 (HX _ rfl).2 rfl rfl rfl (Nat.le_of_ble_eq_true rfl) ⟨by decide, by decide⟩ ⟨rfl, rfl⟩ ⟨Nat.zero_le _, Nat.zero_le _⟩ (fun r18 F18 L18 hp18 => ?_)
    obtain ⟨rfl, hF18, hL18⟩ := hp18
    rw [hF18, hL18, l3]
    refine gx_callS X d_Mo_edge_21 mf_Mo_isLocation lk_Mo_129 (c_Mo_isLocation (lnAt z.n z.ln 1)) rfl rfl (Nat.le_of_ble_eq_true rfl) ⟨by decide, by decide⟩ ⟨rfl, rfl⟩ ⟨Nat.zero_le _, Nat.zero_le _⟩ (fun r21 F21 L21 hp21 => ?_)
    obtain ⟨rfl, hF21, hL21⟩ := hp21
    rw [hF21, hL21]
    refine gx_if_eq X d_Mo_edge_24 (tgt := 37) (by decide) (fun h24 => ?_) (fun h24 => ?_)
    · exact gx_el (no37 (rdE_no (fun q => by rw [cb_f h24] at q; cases q.2.1))) ⟨rfl, trivial⟩
    · have i1 := cb_t h24
      refine gx_aload_n X d_Mo_edge_27 rfl rfl ?_
      refine gx_iconst X d_Mo_edge_28 (v := nI 2) (by decide) ?_
      refine gx_callV X d_Mo_edge_29 mf_Mo_at lk_Mo_91 (c_Mo_at HX l1 l2 (i := 2) (by decide)) (HX _ rfl).1 (HX _ rfl).2 rfl rfl rfl (Nat.le_of_ble_eq_true rfl) ⟨by decide, by decide⟩ ⟨rfl, rfl⟩ ⟨Nat.zero_le _, Nat.zero_le _⟩ (fun r29 F29 L29 hp29 => ?_)
      obtain ⟨rfl, hF29, hL29⟩ := hp29
      rw [hF29, hL29, l3]
      refine gx_bipush X d_Mo_edge_32 (v := nI 32) (by decide) ?_
      refine gx_icmp_eq X d_Mo_edge_34 (tgt := 43) (by decide) (fun h34 => ?_) (fun h34 => ?_)
      · have hloc : isLoc (lnAt z.n z.ln 0) = true ∧ isLoc (lnAt z.n z.ln 1) = true ∧ lnAt z.n z.ln 2 = nI 32 := ⟨i0, i1, h34⟩
        -- no change of a variable: an atom
        have at79f : ¬ (isVar (lnAt z.n z.ln 3) = true ∧ (lnAt z.n z.ln 4 = nI 58 ∨ lnAt z.n z.ln 4 = nI 63)) → GX p l e rm_Mo_edge s m args below meth c (MQ below (gxQ D vcl ca ks lay ad s.heap.size post) args s 0 0 (gxA ks ad s.heap.size)) 9 A D vcl ca ks lay ad 0 0 79 [(0, xR 40)] [xI (nI 0)] G0 L := by
          intro hno
          have hrd := rdE_atom l1 hnz hloc hno
          refine gx_istore_n X d_Mo_edge_79 rfl (by decide) ?_
          refine gx_iload_n X d_Mo_edge_80 rfl rfl ?_
          refine gx_if_eq X d_Mo_edge_81 (tgt := 88) (by decide) (fun h81 => ?_) (fun h81 => ?_)
          · refine gx_aload_n X d_Mo_edge_88 rfl rfl ?_
            refine gx_iconst X d_Mo_edge_89 (v := nI 3) (by decide) ?_
            refine gx_callV X d_Mo_edge_90 mf_Mo_relationAt lk_Mo_135 (c_Mo_relationAt HX l1 l2 (b := 3) (by decide)) (HX _ rfl).1 (HX _ rfl).2 rfl rfl rfl (Nat.le_of_ble_eq_true rfl) ⟨by decide, by decide⟩ ⟨rfl, rfl⟩ ⟨Nat.zero_le _, Nat.zero_le _⟩ (fun r90 F90 L90 hp90 => ?_)
            obtain ⟨rfl, hF90, hL90⟩ := hp90
            rw [hF90, hL90, l3]
            refine gx_istore_n X d_Mo_edge_93 rfl (by decide) ?_
            refine gx_iload_n X d_Mo_edge_94 rfl rfl ?_
            refine gx_if_eq X d_Mo_edge_95 (tgt := 124) (by decide) (fun h95 => ?_) (fun h95 => ?_)
            · refine gx_iconst X d_Mo_edge_124 (v := nI 0) (by decide) ?_
              refine gx_istore_n X d_Mo_edge_125 rfl (by decide) ?_
              refine gx_iload_n X d_Mo_edge_126 rfl rfl ?_
              refine gx_if_eq X d_Mo_edge_127 (tgt := 152) (by decide) (fun h127 => ?_) (fun h127 => ?_)
              · refine gx_iconst X d_Mo_edge_152 (v := nI 0) (by decide) ?_
                refine gx_istore X d_Mo_edge_153 (by decide) ?_
                refine gx_iload_n X d_Mo_edge_155 rfl rfl ?_
                refine gx_if_ne X d_Mo_edge_156 (tgt := 174) (by decide) (fun h156 => ?_) (fun h156 => ?_)
                · exact absurd rfl h156
                · refine gx_iload X d_Mo_edge_159 rfl ?_
                  refine gx_if_ne X d_Mo_edge_161 (tgt := 174) (by decide) (fun h161 => ?_) (fun h161 => ?_)
                  · exact absurd rfl h161
                  · cases hrl : rlA z.n z.ln 3 with
                    | none =>
                      rw [hrl, if_neg (by decide)] at hrd
                      refine gx_iload_n X d_Mo_edge_164 rfl rfl ?_
                      refine gx_if_ge X d_Mo_edge_165 (tgt := 174) (by decide) (fun h165 => ?_) (fun h165 => ?_)
                      · exact absurd h165 (by decide)
                      · exact gx_el (no168 hrd) ⟨rfl, trivial⟩
                    | some r0 =>
                      rw [hrl, if_pos (show (some r0).isSome = true from rfl)] at hrd
                      have hr24 := (rlA_val (q := 0) hw hw0 l1 hrl).1
                      refine gx_iload_n X d_Mo_edge_164 rfl rfl ?_
                      refine gx_if_ge X d_Mo_edge_165 (tgt := 174) (by decide) (fun h165 => ?_) (fun h165 => ?_)
                      · exact gx_el (run1 0 _ (nI r0) (nI 0) hrd ⟨fun q => absurd rfl q, fun q => absurd rfl q⟩ (fun q => absurd q (by decide)) (fun _ => ⟨r0, rfl, hrl, rfl⟩)) ⟨rfl, rfl, rfl, rfl, rfl, trivial⟩
                      · exact absurd ((nI_leI (a := 0) (b := r0) (by decide) (by omega)).mpr (Nat.zero_le _)) h165
              · exact absurd rfl h127
            · exact absurd rfl h95
          · exact absurd rfl h81
        have tell : ∀ x : Int32, teI (sc z.n z.ln 0 true 5) = nI z.n → sc z.n z.ln 0 true 5 = some z.n := by
          intro _ he
          cases hs2 : sc z.n z.ln 0 true 5 with
          | none => rw [hs2] at he; exact absurd he (nI_m1 (by omega))
          | some j =>
            rw [hs2] at he
            have := sc_le l1 hs2
            rw [(nI_eq (a := j) (b := z.n) (by omega) (by omega)).mp he]
        have at79s : isVar (lnAt z.n z.ln 3) = true → lnAt z.n z.ln 4 = nI 58 → GX p l e rm_Mo_edge s m args below meth c (MQ below (gxQ D vcl ca ks lay ad s.heap.size post) args s 0 0 (gxA ks ad s.heap.size)) 9 A D vcl ca ks lay ad 0 0 79 [(0, xR 40)] [xI (nI 1)] G0 L := by
          intro hv h4
          have hrd := rdE_set l1 hnz hloc hv h4
          -- the question whether it asks
          have at126 : ∀ s3 : Int32, (¬ s3 = 0 → GX p l e rm_Mo_edge s m args below meth c (MQ below (gxQ D vcl ca ks lay ad s.heap.size post) args s 0 0 (gxA ks ad s.heap.size)) 9 A D vcl ca ks lay ad 0 0 174 [(4, xI (nI 0)), (3, xI s3), (2, xI (-1)), (1, xI (nI 1)), (0, xR 40)] [] G0 L) → (s3 = 0 → rdEdge z.n z.ln = none) → GX p l e rm_Mo_edge s m args below meth c (MQ below (gxQ D vcl ca ks lay ad s.heap.size post) args s 0 0 (gxA ks ad s.heap.size)) 9 A D vcl ca ks lay ad 0 0 126 [(3, xI s3), (2, xI (-1)), (1, xI (nI 1)), (0, xR 40)] [] G0 L := by
            intro s3 y1 y2
            refine gx_iload_n X d_Mo_edge_126 rfl rfl ?_
            refine gx_if_eq X d_Mo_edge_127 (tgt := 152) (by decide) (fun h127 => ?_) (fun h127 => ?_)
            · exact absurd h127 (by decide)
            · refine gx_aload_n X d_Mo_edge_130 rfl rfl ?_
              refine gx_iconst X d_Mo_edge_131 (v := nI 4) (by decide) ?_
              refine gx_callV X d_Mo_edge_132 mf_Mo_at lk_Mo_91 (c_Mo_at HX l1 l2 (i := 4) (by decide)) (HX _ rfl).1 (HX _ rfl).2 rfl rfl rfl (Nat.le_of_ble_eq_true rfl) ⟨by decide, by decide⟩ ⟨rfl, rfl⟩ ⟨Nat.zero_le _, Nat.zero_le _⟩ (fun r132 F132 L132 hp132 => ?_)
              obtain ⟨rfl, hF132, hL132⟩ := hp132
              rw [hF132, hL132, l3, h4]
              refine gx_bipush X d_Mo_edge_135 (v := nI 63) (by decide) ?_
              refine gx_icmp_ne X d_Mo_edge_137 (tgt := 152) (by decide) (fun h137 => ?_) (fun h137 => ?_)
              · refine gx_iconst X d_Mo_edge_152 (v := nI 0) (by decide) ?_
                refine gx_istore X d_Mo_edge_153 (by decide) ?_
                refine gx_iload_n X d_Mo_edge_155 rfl rfl ?_
                refine gx_if_ne X d_Mo_edge_156 (tgt := 174) (by decide) (fun h156 => ?_) (fun h156 => ?_)
                · exact gx_el (y1 h156) ⟨rfl, rfl, rfl, rfl, rfl, trivial⟩
                · refine gx_iload X d_Mo_edge_159 rfl ?_
                  refine gx_if_ne X d_Mo_edge_161 (tgt := 174) (by decide) (fun h161 => ?_) (fun h161 => ?_)
                  · exact absurd rfl h161
                  · refine gx_iload_n X d_Mo_edge_164 rfl rfl ?_
                    refine gx_if_ge X d_Mo_edge_165 (tgt := 174) (by decide) (fun h165 => ?_) (fun h165 => ?_)
                    · exact absurd h165 (by decide)
                    · exact gx_el (no168 (y2 h156)) ⟨rfl, trivial⟩
              · exact absurd h137 (by decide)
          refine gx_istore_n X d_Mo_edge_79 rfl (by decide) ?_
          refine gx_iload_n X d_Mo_edge_80 rfl rfl ?_
          refine gx_if_eq X d_Mo_edge_81 (tgt := 88) (by decide) (fun h81 => ?_) (fun h81 => ?_)
          · exact absurd h81 (by decide)
          · refine gx_iconst X d_Mo_edge_84 (v := (-1)) (by decide) ?_
            refine gx_goto X d_Mo_edge_85 (tgt := 93) (by decide) ?_
            refine gx_istore_n X d_Mo_edge_93 rfl (by decide) ?_
            refine gx_iload_n X d_Mo_edge_94 rfl rfl ?_
            refine gx_if_eq X d_Mo_edge_95 (tgt := 124) (by decide) (fun h95 => ?_) (fun h95 => ?_)
            · exact absurd h95 (by decide)
            · refine gx_aload_n X d_Mo_edge_98 rfl rfl ?_
              refine gx_iconst X d_Mo_edge_99 (v := nI 4) (by decide) ?_
              refine gx_callV X d_Mo_edge_100 mf_Mo_at lk_Mo_91 (c_Mo_at HX l1 l2 (i := 4) (by decide)) (HX _ rfl).1 (HX _ rfl).2 rfl rfl rfl (Nat.le_of_ble_eq_true rfl) ⟨by decide, by decide⟩ ⟨rfl, rfl⟩ ⟨Nat.zero_le _, Nat.zero_le _⟩ (fun r100 F100 L100 hp100 => ?_)
              obtain ⟨rfl, hF100, hL100⟩ := hp100
              rw [hF100, hL100, l3, h4]
              refine gx_bipush X d_Mo_edge_103 (v := nI 58) (by decide) ?_
              refine gx_icmp_ne X d_Mo_edge_105 (tgt := 124) (by decide) (fun h105 => ?_) (fun h105 => ?_)
              · exact absurd rfl h105
              · refine gx_aload_n X d_Mo_edge_108 rfl rfl ?_
                refine gx_iconst X d_Mo_edge_109 (v := nI 5) (by decide) ?_
                refine gx_callV X d_Mo_edge_110 mf_Mo_termEnd lk_Mo_102 (c_Mo_termEnd HX l1 l2 (b := 5) (by decide)) (HX _ rfl).1 (HX _ rfl).2 rfl rfl rfl (Nat.le_of_ble_eq_true rfl) ⟨by decide, by decide⟩ ⟨rfl, rfl⟩ ⟨Nat.zero_le _, Nat.zero_le _⟩ (fun r110 F110 L110 hp110 => ?_)
                obtain ⟨rfl, hF110, hL110⟩ := hp110
                rw [hF110, hL110, l3]
                refine gx_aload_n X d_Mo_edge_113 rfl rfl ?_
                refine gx_geti X d_Mo_edge_114 (gci in_Mo) (HX _ rfl).1 (HX _ rfl).2 rfl 5 (by decide) (gcw X lk_Mo_88) (fun _ h => h) rfl ?_
                refine gx_top l2 ?_
                refine gx_icmp_ne X d_Mo_edge_117 (tgt := 124) (by decide) (fun h117 => ?_) (fun h117 => ?_)
                · rw [if_neg (fun q => h117 (by rw [q]; rfl))] at hrd
                  refine gx_iconst X d_Mo_edge_124 (v := nI 0) (by decide) ?_
                  refine gx_istore_n X d_Mo_edge_125 rfl (by decide) ?_
                  exact gx_el (at126 (nI 0) (fun q => absurd rfl q) (fun _ => hrd)) ⟨rfl, rfl, rfl, rfl, trivial⟩
                · have hsc := tell 0 h117
                  rw [if_pos hsc] at hrd
                  refine gx_iconst X d_Mo_edge_120 (v := nI 1) (by decide) ?_
                  refine gx_goto X d_Mo_edge_121 (tgt := 125) (by decide) ?_
                  refine gx_istore_n X d_Mo_edge_125 rfl (by decide) ?_
                  exact gx_el (at126 (nI 1) (fun _ => gx_el (run1 1 _ (-1) (nI 1) hrd ⟨fun _ => by decide, fun _ => by decide⟩ (fun _ => ⟨hsc, rfl⟩) (fun q => absurd q (by decide))) ⟨rfl, rfl, rfl, rfl, rfl, trivial⟩) (fun q => absurd q (by decide))) ⟨rfl, rfl, rfl, rfl, trivial⟩
        have at79a : isVar (lnAt z.n z.ln 3) = true → lnAt z.n z.ln 4 = nI 63 → GX p l e rm_Mo_edge s m args below meth c (MQ below (gxQ D vcl ca ks lay ad s.heap.size post) args s 0 0 (gxA ks ad s.heap.size)) 9 A D vcl ca ks lay ad 0 0 79 [(0, xR 40)] [xI (nI 1)] G0 L := by
          intro hv h4
          have hrd := rdE_ask hnz hloc hv h4
          refine gx_istore_n X d_Mo_edge_79 rfl (by decide) ?_
          refine gx_iload_n X d_Mo_edge_80 rfl rfl ?_
          refine gx_if_eq X d_Mo_edge_81 (tgt := 88) (by decide) (fun h81 => ?_) (fun h81 => ?_)
          · exact absurd h81 (by decide)
          · refine gx_iconst X d_Mo_edge_84 (v := (-1)) (by decide) ?_
            refine gx_goto X d_Mo_edge_85 (tgt := 93) (by decide) ?_
            refine gx_istore_n X d_Mo_edge_93 rfl (by decide) ?_
            refine gx_iload_n X d_Mo_edge_94 rfl rfl ?_
            refine gx_if_eq X d_Mo_edge_95 (tgt := 124) (by decide) (fun h95 => ?_) (fun h95 => ?_)
            · exact absurd h95 (by decide)
            · refine gx_aload_n X d_Mo_edge_98 rfl rfl ?_
              refine gx_iconst X d_Mo_edge_99 (v := nI 4) (by decide) ?_
              refine gx_callV X d_Mo_edge_100 mf_Mo_at lk_Mo_91 (c_Mo_at HX l1 l2 (i := 4) (by decide)) (HX _ rfl).1 (HX _ rfl).2 rfl rfl rfl (Nat.le_of_ble_eq_true rfl) ⟨by decide, by decide⟩ ⟨rfl, rfl⟩ ⟨Nat.zero_le _, Nat.zero_le _⟩ (fun r100 F100 L100 hp100 => ?_)
              obtain ⟨rfl, hF100, hL100⟩ := hp100
              rw [hF100, hL100, l3, h4]
              refine gx_bipush X d_Mo_edge_103 (v := nI 58) (by decide) ?_
              refine gx_icmp_ne X d_Mo_edge_105 (tgt := 124) (by decide) (fun h105 => ?_) (fun h105 => ?_)
              · refine gx_iconst X d_Mo_edge_124 (v := nI 0) (by decide) ?_
                refine gx_istore_n X d_Mo_edge_125 rfl (by decide) ?_
                refine gx_iload_n X d_Mo_edge_126 rfl rfl ?_
                refine gx_if_eq X d_Mo_edge_127 (tgt := 152) (by decide) (fun h127 => ?_) (fun h127 => ?_)
                · exact absurd h127 (by decide)
                · refine gx_aload_n X d_Mo_edge_130 rfl rfl ?_
                  refine gx_iconst X d_Mo_edge_131 (v := nI 4) (by decide) ?_
                  refine gx_callV X d_Mo_edge_132 mf_Mo_at lk_Mo_91 (c_Mo_at HX l1 l2 (i := 4) (by decide)) (HX _ rfl).1 (HX _ rfl).2 rfl rfl rfl (Nat.le_of_ble_eq_true rfl) ⟨by decide, by decide⟩ ⟨rfl, rfl⟩ ⟨Nat.zero_le _, Nat.zero_le _⟩ (fun r132 F132 L132 hp132 => ?_)
                  obtain ⟨rfl, hF132, hL132⟩ := hp132
                  rw [hF132, hL132, l3, h4]
                  refine gx_bipush X d_Mo_edge_135 (v := nI 63) (by decide) ?_
                  refine gx_icmp_ne X d_Mo_edge_137 (tgt := 152) (by decide) (fun h137 => ?_) (fun h137 => ?_)
                  · exact absurd rfl h137
                  · refine gx_aload_n X d_Mo_edge_140 rfl rfl ?_
                    refine gx_geti X d_Mo_edge_141 (gci in_Mo) (HX _ rfl).1 (HX _ rfl).2 rfl 5 (by decide) (gcw X lk_Mo_88) (fun _ h => h) rfl ?_
                    refine gx_top l2 ?_
                    refine gx_iconst X d_Mo_edge_144 (v := nI 5) (by decide) ?_
                    refine gx_icmp_ne X d_Mo_edge_145 (tgt := 152) (by decide) (fun h145 => ?_) (fun h145 => ?_)
                    · rw [if_neg (fun q => h145 (by rw [q]))] at hrd
                      refine gx_iconst X d_Mo_edge_152 (v := nI 0) (by decide) ?_
                      refine gx_istore X d_Mo_edge_153 (by decide) ?_
                      refine gx_iload_n X d_Mo_edge_155 rfl rfl ?_
                      refine gx_if_ne X d_Mo_edge_156 (tgt := 174) (by decide) (fun h156 => ?_) (fun h156 => ?_)
                      · exact absurd rfl h156
                      · refine gx_iload X d_Mo_edge_159 rfl ?_
                        refine gx_if_ne X d_Mo_edge_161 (tgt := 174) (by decide) (fun h161 => ?_) (fun h161 => ?_)
                        · exact absurd rfl h161
                        · refine gx_iload_n X d_Mo_edge_164 rfl rfl ?_
                          refine gx_if_ge X d_Mo_edge_165 (tgt := 174) (by decide) (fun h165 => ?_) (fun h165 => ?_)
                          · exact absurd h165 (by decide)
                          · exact gx_el (no168 hrd) ⟨rfl, trivial⟩
                    · rw [if_pos ((nI_eq (by omega) (by decide)).mp h145)] at hrd
                      refine gx_iconst X d_Mo_edge_148 (v := nI 1) (by decide) ?_
                      refine gx_goto X d_Mo_edge_149 (tgt := 153) (by decide) ?_
                      refine gx_istore X d_Mo_edge_153 (by decide) ?_
                      refine gx_iload_n X d_Mo_edge_155 rfl rfl ?_
                      refine gx_if_ne X d_Mo_edge_156 (tgt := 174) (by decide) (fun h156 => ?_) (fun h156 => ?_)
                      · exact absurd rfl h156
                      · refine gx_iload X d_Mo_edge_159 rfl ?_
                        refine gx_if_ne X d_Mo_edge_161 (tgt := 174) (by decide) (fun h161 => ?_) (fun h161 => ?_)
                        · exact gx_el (run1 2 _ (-1) (nI 1) hrd ⟨fun _ => by decide, fun _ => by decide⟩ (fun q => absurd q (by decide)) (fun q => absurd q (by decide))) ⟨rfl, rfl, rfl, rfl, rfl, trivial⟩
                        · exact absurd h161 (by decide)
              · exact absurd h105 (by decide)
        refine gx_aload_n X d_Mo_edge_43 rfl rfl ?_
        refine gx_iconst X d_Mo_edge_44 (v := nI 3) (by decide) ?_
        refine gx_callV X d_Mo_edge_45 mf_Mo_at lk_Mo_91 (c_Mo_at HX l1 l2 (i := 3) (by decide)) (HX _ rfl).1 (HX _ rfl).2 rfl rfl rfl (Nat.le_of_ble_eq_true rfl) ⟨by decide, by decide⟩ ⟨rfl, rfl⟩ ⟨Nat.zero_le _, Nat.zero_le _⟩ (fun r45 F45 L45 hp45 => ?_)
        obtain ⟨rfl, hF45, hL45⟩ := hp45
        rw [hF45, hL45, l3]
        refine gx_callS X d_Mo_edge_48 mf_Mo_isVariable lk_Mo_95 (c_Mo_isVariable (lnAt z.n z.ln 3)) rfl rfl (Nat.le_of_ble_eq_true rfl) ⟨by decide, by decide⟩ ⟨rfl, rfl⟩ ⟨Nat.zero_le _, Nat.zero_le _⟩ (fun r48 F48 L48 hp48 => ?_)
        obtain ⟨rfl, hF48, hL48⟩ := hp48
        rw [hF48, hL48]
        refine gx_if_eq X d_Mo_edge_51 (tgt := 78) (by decide) (fun h51 => ?_) (fun h51 => ?_)
        · refine gx_iconst X d_Mo_edge_78 (v := nI 0) (by decide) ?_
          exact gx_el (at79f (fun q => by rw [cb_f h51] at q; cases q.1)) ⟨rfl, trivial⟩
        · have hv := cb_t h51
          refine gx_aload_n X d_Mo_edge_54 rfl rfl ?_
          refine gx_iconst X d_Mo_edge_55 (v := nI 4) (by decide) ?_
          refine gx_callV X d_Mo_edge_56 mf_Mo_at lk_Mo_91 (c_Mo_at HX l1 l2 (i := 4) (by decide)) (HX _ rfl).1 (HX _ rfl).2 rfl rfl rfl (Nat.le_of_ble_eq_true rfl) ⟨by decide, by decide⟩ ⟨rfl, rfl⟩ ⟨Nat.zero_le _, Nat.zero_le _⟩ (fun r56 F56 L56 hp56 => ?_)
          obtain ⟨rfl, hF56, hL56⟩ := hp56
          rw [hF56, hL56, l3]
          refine gx_bipush X d_Mo_edge_59 (v := nI 58) (by decide) ?_
          refine gx_icmp_eq X d_Mo_edge_61 (tgt := 74) (by decide) (fun h61 => ?_) (fun h61 => ?_)
          · refine gx_iconst X d_Mo_edge_74 (v := nI 1) (by decide) ?_
            refine gx_goto X d_Mo_edge_75 (tgt := 79) (by decide) ?_
            exact gx_el (at79s hv h61) ⟨rfl, trivial⟩
          · refine gx_aload_n X d_Mo_edge_64 rfl rfl ?_
            refine gx_iconst X d_Mo_edge_65 (v := nI 4) (by decide) ?_
            refine gx_callV X d_Mo_edge_66 mf_Mo_at lk_Mo_91 (c_Mo_at HX l1 l2 (i := 4) (by decide)) (HX _ rfl).1 (HX _ rfl).2 rfl rfl rfl (Nat.le_of_ble_eq_true rfl) ⟨by decide, by decide⟩ ⟨rfl, rfl⟩ ⟨Nat.zero_le _, Nat.zero_le _⟩ (fun r66 F66 L66 hp66 => ?_)
            obtain ⟨rfl, hF66, hL66⟩ := hp66
            rw [hF66, hL66, l3]
            refine gx_bipush X d_Mo_edge_69 (v := nI 63) (by decide) ?_
            refine gx_icmp_ne X d_Mo_edge_71 (tgt := 78) (by decide) (fun h71 => ?_) (fun h71 => ?_)
            · refine gx_iconst X d_Mo_edge_78 (v := nI 0) (by decide) ?_
              exact gx_el (at79f (fun q => by rcases q.2 with q | q; exact h61 q; exact h71 q)) ⟨rfl, trivial⟩
            · refine gx_iconst X d_Mo_edge_74 (v := nI 1) (by decide) ?_
              refine gx_goto X d_Mo_edge_75 (tgt := 79) (by decide) ?_
              exact gx_el (at79a hv h71) ⟨rfl, trivial⟩
      · exact gx_el (no37 (rdE_no (fun q => h34 q.2.2))) ⟨rfl, trivial⟩
end
