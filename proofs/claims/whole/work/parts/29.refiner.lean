theorem wn_copy : Cond.native arraycopyName ∈ WT := WT_in (k := 270) (by decide +kernel) (by decide +kernel)
theorem wt_copy : Cond.static arraycopyName ∈ WT := WT_in (k := 269) (by decide +kernel) (by decide +kernel)
theorem wi_copy : Cond.initialized "java/lang/System" ∈ WT := WT_in (k := 18) (by decide +kernel) (by decide +kernel)
/-- the first n longs of the cell k0 go to the cell k1 -/
def cpL (L : Nat → Nat → Int64) (k0 k1 n : Nat) : Nat → Nat → Int64 := fun a j => if a = k1 ∧ j < n then L k0 j else L a j
theorem cpL_cell {L : Nat → Nat → Int64} {k0 k1 n a : Nat} (h : a ≠ k1) : cpL L k0 k1 n a = L a := by
  funext j
  unfold cpL
  rw [if_neg (fun z => h z.1)]
theorem cpL_in {L : Nat → Nat → Int64} {k0 k1 n j : Nat} (h : j < n) : cpL L k0 k1 n k1 j = L k0 j := by
  unfold cpL
  rw [if_pos ⟨rfl, h⟩]
section
variable {p : Program} {l : Launch} {e : Env} {R : Room} {s : State} {m : MethodId} {args : Array Value} {below : List Frame} {meth : Method} {c : Code} {Q : State → Prop} {nL cells slots pc : Nat} {A : Nat → Prop} {D : va_G} {cl : List vw_C} {ca : Nat → ClassId} {ks : List Nat} {lay : Nat → gxE} {ad : Nat → Nat} {ls : List (Nat × xV)} {st : List xV} {F : Nat → Nat → Int32} {L : Nat → Nat → Int64} {cc : ByteArray} {own : String} {c0 : Cond}
theorem gx_copyl (X : GC p s m args meth c cc nL own (c0 :: WT) A D cl ca ks ad) {index k0 k1 n0 n1 n : Nat} (d : decode cc pc = .ok (.invokestatic index, 3)) (hlink : Cond.methodLink own index arraycopyName ∈ WT) (hk0 : k0 ∈ ks) (hl0 : lay k0 = Sum.inr (Sum.inr (Sum.inl n0))) (hk1 : k1 ∈ ks) (hl1 : lay k1 = Sum.inr (Sum.inr (Sum.inl n1))) (h4 : n ≤ n0) (h5 : n ≤ n1) (hn : n < 2 ^ 31) (hf : 1 ≤ R.frames) (hlo : (st.map (fun v => cond (gxis v) 2 1)).sum + 18 ≤ R.locals)
    (kk : GX p l e R s m args below meth c Q nL A D cl ca ks lay ad cells slots (pc + 3) ls st F (cpL L k0 k1 n)) : GX p l e R s m args below meth c Q nL A D cl ca ks lay ad cells slots pc ls (xI (nI n) :: xI (nI 0) :: xR k1 :: xI (nI 0) :: xR k0 :: st) F L := by
  intro H locs la hl hP hS
  obtain ⟨q0, hq0⟩ := List.getElem?_of_mem hk0
  obtain ⟨q1, hq1⟩ := List.getElem?_of_mem hk1
  have ha0 := gxw_at (lay := lay) (ca := ca) (ad := ad) (F := F) (L := L) hq0
  rw [hl0] at ha0
  have ha0 : (gxw ks lay ca ad F L)[q0]? = some (ad k0, .inl (ca 1, n0, .inr (.inl (L k0)))) := ha0
  have ha1 := gxw_at (lay := lay) (ca := ca) (ad := ad) (F := F) (L := L) hq1
  rw [hl1] at ha1
  have ha1 : (gxw ks lay ca ad F L)[q1]? = some (ad k1, .inl (ca 1, n1, .inr (.inl (L k1)))) := ha1
  have hc : (nI n).toNatClampNeg = n := nI_clamp hn
  have hc0 : (nI 0).toNatClampNeg = 0 := by decide
  have ecat : ((st.map (gxv ad)).map fun v => v.category) = st.map (fun v => cond (gxis v) 2 1) := by
    rw [List.map_map]
    apply List.map_congr_left
    intro v _
    exact gxv_cat ad v
  refine va_copyl X.1.1 X.1.2.1 (X.1.2.2.1.trans hl.1.symm) X.1.2.2.2.1 (gcw X hlink) (gcw X wn_copy) (gcw X wt_copy) (gcw X wi_copy) X.2.1 hP X.2.2.1.D hS q0 q1 1 1 ha0 ha1 rfl rfl rfl (by decide) (by decide) (nI_pos hn) (by rw [hc, hc0]; omega) (by rw [hc, hc0]; omega) (fun i _ => rfl) hf (by rw [ecat]; exact hlo) d (fun H1 locs1 hP1 _ hS1 => ?_)
  rw [hc, hc0] at hP1
  have e1 := gxw_set (lay := lay) (ca := ca) (F := F) (F' := F) (L := L) (L' := cpL L k0 k1 n) X.2.2.1 hq1 (fun _ _ => rfl) (fun a h => cpL_cell h)
  rw [hl1] at e1
  have e2 : gxc ca ad F (cpL L k0 k1 n) k1 (Sum.inr (Sum.inr (Sum.inl n1))) = .inl (ca 1, n1, .inr (.inl (va_cpy (L k0) (L k1) 0 0 n))) := by
    show (Sum.inl (ca 1, n1, Sum.inr (Sum.inl (cpL L k0 k1 n k1))) : va_E) = _
    have : cpL L k0 k1 n k1 = va_cpy (L k0) (L k1) 0 0 n := by
      funext j
      unfold cpL va_cpy
      by_cases hj : j < n
      · rw [if_pos ⟨rfl, hj⟩, if_pos ⟨Nat.zero_le _, by omega⟩]
        congr 1
        omega
      · rw [if_neg (fun z => hj z.2), if_neg (fun z => hj (by omega))]
    rw [this]
  rw [e2] at e1
  rw [e1] at hP1
  exact kk H1 locs1 la hl hP1 hS1
end
section
variable {l : Launch} {D : va_G} {ca : Nat → ClassId} {ks : List Nat} {lay : Nat → gxE} {ad : Nat → Nat} {F : Nat → Nat → Int32} {L : Nat → Nat → Int64} {w np : Nat} {sg : Nat → Nat} {ne : Nat} {ef et ek ev : Nat → Nat} {tg : Nat → Nat → Option Nat}
theorem c_Rf_rowsInUse (HX : gH ks lay (2 ^ (3 * w)) sX) {n : Nat} (hn : n ≤ 256) (h6 : F 33 6 = nI n) : Con l y_Rf_rowsInUse (Cond.code y_Rf_rowsInUse b_Rf_rowsInUse 1 (some .int) :: WT) rm_Rf_rowsInUse D vcl ca ks lay ad [xR 33] F L (fun r F' L' => r = some (xI (nI ((n + 63) / 64))) ∧ F' = F ∧ L' = L) := by
  refine Con.ofK (fun post K => ?_)
  refine Con.of (ls := [(0, xR 33)]) (by decide) rfl rfl (Nat.le_of_ble_eq_true rfl) ?_
  intro p e s m args below meth c A X hr hA
  refine gx_aload_n X d_Rf_rowsInUse_0 rfl rfl ?_
  refine gx_geti X d_Rf_rowsInUse_1 (gci in_Rf) (HX _ rfl).1 (HX _ rfl).2 rfl 6 (by decide) (gcw X lk_Rf_9) (fun _ h => h) rfl ?_
  refine gx_top h6 ?_
  refine gx_bipush X d_Rf_rowsInUse_4 (v := nI 64) (by decide) ?_
  refine gx_iadd X d_Rf_rowsInUse_6 ?_
  refine gx_top (nI_add _ _) ?_
  refine gx_iconst X d_Rf_rowsInUse_7 (v := nI 1) (by decide) ?_
  refine gx_isub X d_Rf_rowsInUse_8 ?_
  refine gx_top (y := nI (n + 63)) (by rw [pk_sub (by omega)]; rfl) ?_
  refine gx_bipush X d_Rf_rowsInUse_9 (v := nI 64) (by decide) ?_
  refine gx_idiv X d_Rf_rowsInUse_11 (by decide) ?_
  refine gx_top (y := nI ((n + 63) / 64)) (pk_div (by omega) (by decide) (by decide)) ?_
  refine gx_iret X hr hA d_Rf_rowsInUse_12 (K _ _ _ ⟨rfl, rfl, rfl⟩)
/-- a set more: where the edge's test holds -/
def onS (tg : Nat → Nat → Option Nat) (e s : Nat) : Bool := (tg e s).isSome
set_option maxHeartbeats 4000000 in
theorem c_Rf_takeAlong (HX : gH ks lay (2 ^ (3 * w)) sX) (hS : SpOK F w) (hP : PrOK F w ne ef et ek ev tg) {n e0 : Nat} (hn : n < 256) (h6 : F 33 6 = nI n) (he : e0 < ne) : Con l y_Rf_takeAlong (Cond.code y_Rf_takeAlong b_Rf_takeAlong 5 none :: WT) rm_Rf_takeAlong D vcl ca ks lay ad [xR 33, xR (rT e0)] F L (fun r F' L' => r = none ∧ F' = gxu F 33 6 (nI (n + 1)) ∧ (∀ a, a ≠ rK (n / 64) → L' a = L a) ∧ ∀ q j, q < 2 ^ (3 * w) → j < 64 → tb (L' (rK (n / 64)) q) j = ((decide (n % 64 ≠ 0) && tb (L (rK (n / 64)) q) j) || (decide (j = n % 64) && onS tg e0 q))) := by
  have hw : w < 4 := by have := hS.1; omega
  have hN := pu_N w hw
  have h20 := hP.1
  have hr4 : n / 64 < 4 := by omega
  obtain ⟨-, -, -, -, ht⟩ := hP.2.2 e0 he
  refine Con.ofK (fun post K => ?_)
  refine Con.of (ls := [(0, xR 33), (1, xR (rT e0))]) (by decide) rfl rfl (Nat.le_of_ble_eq_true rfl) ?_
  intro p e s m args below meth c A X hr hA
  refine gx_aload_n X d_Rf_takeAlong_0 rfl rfl ?_
  refine gx_getr X d_Rf_takeAlong_1 (gci in_Rf) (HX _ rfl).1 (HX _ rfl).2 rfl 4 (by decide) (gcw X lk_Rf_38) (fun _ h => h) rfl ?_
  refine gx_aload_n X d_Rf_takeAlong_4 rfl rfl ?_
  refine gx_geti X d_Rf_takeAlong_5 (gci in_Rf) (HX _ rfl).1 (HX _ rfl).2 rfl 6 (by decide) (gcw X lk_Rf_9) (fun _ h => h) rfl ?_
  refine gx_top h6 ?_
  refine gx_bipush X d_Rf_takeAlong_8 (v := nI 64) (by decide) ?_
  refine gx_idiv X d_Rf_takeAlong_10 (by decide) ?_
  refine gx_top (y := nI (n / 64)) (pk_div (by omega) (by decide) (by decide)) ?_
  refine gx_aald X d_Rf_takeAlong_11 (HX _ rfl).1 (HX _ rfl).2 rfl rfl rfl (by omega) (by omega) ?_
  refine gx_astore_n X d_Rf_takeAlong_12 rfl (by decide) ?_
  refine gx_aload_n X d_Rf_takeAlong_13 rfl rfl ?_
  refine gx_geti X d_Rf_takeAlong_14 (gci in_Rf) (HX _ rfl).1 (HX _ rfl).2 rfl 6 (by decide) (gcw X lk_Rf_9) (fun _ h => h) rfl ?_
  refine gx_top h6 ?_
  refine gx_bipush X d_Rf_takeAlong_17 (v := nI 64) (by decide) ?_
  refine gx_irem X d_Rf_takeAlong_19 (by decide) ?_
  refine gx_top (y := nI (n % 64)) (pk_rem (by omega) (by decide) (by decide)) ?_
  refine gx_istore_n X d_Rf_takeAlong_20 rfl (by decide) ?_
  have body : ∀ (M : Nat → Nat → Int64), (∀ a, a ≠ rK (n / 64) → M a = L a) → (∀ q j, q < 2 ^ (3 * w) → j < 64 → tb (M (rK (n / 64)) q) j = (decide (n % 64 ≠ 0) && tb (L (rK (n / 64)) q) j)) → GX p l e rm_Rf_takeAlong s m args below meth c (MQ below (gxQ D vcl ca ks lay ad s.heap.size post) args s 0 0 (gxA ks ad s.heap.size)) 5 A D vcl ca ks lay ad 0 0 30 [(3, xI (nI (n % 64))), (2, xR (rK (n / 64))), (0, xR 33), (1, xR (rT e0))] [] F M := by
    intro M hM1 hM2
    refine gx_iconst X d_Rf_takeAlong_30 (v := nI 0) (by decide) ?_
    refine gx_istore X d_Rf_takeAlong_31 (by decide) ?_
    have loop : ∀ (d i : Nat) (M2 : Nat → Nat → Int64), i + d = 2 ^ (3 * w) → (∀ a, a ≠ rK (n / 64) → M2 a = L a) → (∀ q j, q < 2 ^ (3 * w) → j < 64 → tb (M2 (rK (n / 64)) q) j = ((decide (n % 64 ≠ 0) && tb (L (rK (n / 64)) q) j) || (decide (q < i) && (decide (j = n % 64) && onS tg e0 q)))) → GX p l e rm_Rf_takeAlong s m args below meth c (MQ below (gxQ D vcl ca ks lay ad s.heap.size post) args s 0 0 (gxA ks ad s.heap.size)) 5 A D vcl ca ks lay ad 0 0 33 [(4, xI (nI i)), (3, xI (nI (n % 64))), (2, xR (rK (n / 64))), (0, xR 33), (1, xR (rT e0))] [] F M2 := by
      intro d
      induction d with
      | zero =>
        intro i M2 hd h1 h2
        refine gx_iload X d_Rf_takeAlong_33 rfl ?_
        refine gx_aload_n X d_Rf_takeAlong_35 rfl rfl ?_
        refine gx_getr X d_Rf_takeAlong_36 (gci in_Rf) (HX _ rfl).1 (HX _ rfl).2 rfl 0 (by decide) (gcw X lk_Rf_15) (fun _ h => h) rfl ?_
        refine gx_geti X d_Rf_takeAlong_39 (gci in_Sp) (HX _ rfl).1 (HX _ rfl).2 rfl 2 (by decide) (gcw X lk_Rf_31) (fun _ h => h) rfl ?_
        refine gx_top hS.2.2.2 ?_
        refine gx_icmp_ge X d_Rf_takeAlong_42 (tgt := 68) (by decide) (fun h42 => ?_) (fun h42 => ?_)
        · refine gx_aload_n X d_Rf_takeAlong_68 rfl rfl ?_
          refine gx_dup X d_Rf_takeAlong_69 rfl ?_
          refine gx_geti X d_Rf_takeAlong_70 (gci in_Rf) (HX _ rfl).1 (HX _ rfl).2 rfl 6 (by decide) (gcw X lk_Rf_9) (fun _ h => h) rfl ?_
          refine gx_top h6 ?_
          refine gx_iconst X d_Rf_takeAlong_73 (v := nI 1) (by decide) ?_
          refine gx_iadd X d_Rf_takeAlong_74 ?_
          refine gx_top (nI_add _ 1) ?_
          refine gx_puti X d_Rf_takeAlong_75 (gci in_Rf) (HX _ rfl).1 (HX _ rfl).2 rfl 6 (by decide) (gcw X lk_Rf_9) (fun _ h => h) t_Rf ty_Rf nm_Rf rfl (ty_Rf 6 (by decide)) rfl rfl rfl ?_
          refine gx_vret X hr hA d_Rf_takeAlong_78 (K _ _ _ ⟨rfl, rfl, h1, fun q j hq hj => ?_⟩)
          rw [h2 q j hq hj, decide_eq_true (show q < i by omega), Bool.true_and]
        · exact absurd ((nI_leI (by omega) (by omega)).mpr (by omega)) h42
      | succ d ih =>
        intro i M2 hd h1 h2
        obtain ⟨t1, t2, -⟩ := ht i (by omega)
        refine gx_iload X d_Rf_takeAlong_33 rfl ?_
        refine gx_aload_n X d_Rf_takeAlong_35 rfl rfl ?_
        refine gx_getr X d_Rf_takeAlong_36 (gci in_Rf) (HX _ rfl).1 (HX _ rfl).2 rfl 0 (by decide) (gcw X lk_Rf_15) (fun _ h => h) rfl ?_
        refine gx_geti X d_Rf_takeAlong_39 (gci in_Sp) (HX _ rfl).1 (HX _ rfl).2 rfl 2 (by decide) (gcw X lk_Rf_31) (fun _ h => h) rfl ?_
        refine gx_top hS.2.2.2 ?_
        refine gx_icmp_ge X d_Rf_takeAlong_42 (tgt := 68) (by decide) (fun h42 => ?_) (fun h42 => ?_)
        · exact absurd ((nI_leI (by omega) (by omega)).mp h42) (by omega)
        · refine gx_aload_n X d_Rf_takeAlong_45 rfl rfl ?_
          refine gx_iload X d_Rf_takeAlong_46 rfl ?_
          refine gx_iald X d_Rf_takeAlong_48 (hxT HX (by omega)).1 (hxT HX (by omega)).2 rfl (by omega) (by omega) ?_
          refine gx_top t1 ?_
          cases hto : tg e0 i with
          | none =>
            refine gx_if_lt X d_Rf_takeAlong_49 (tgt := 62) (by decide) (fun h49 => ?_) (fun h49 => ?_)
            · refine gx_iinc X d_Rf_takeAlong_62 rfl (pu_inc _) ?_
              refine gx_goto X d_Rf_takeAlong_65 (tgt := 33) (by decide) ?_
              refine gx_el (ih (i + 1) M2 (by omega) h1 (fun q j hq hj => ?_)) ⟨rfl, rfl, rfl, rfl, rfl, trivial⟩
              rw [h2 q j hq hj]
              by_cases e2 : q = i
              · rw [e2]
                unfold onS
                rw [hto]
                simp
              · congr 2
                by_cases e3 : q < i
                · rw [decide_eq_true e3, decide_eq_true (show q < i + 1 by omega)]
                · rw [decide_eq_false e3, decide_eq_false (show ¬ q < i + 1 by omega)]
            · exact absurd (show (-1 : Int32) < 0 by decide) h49
          | some u0 =>
            have hu := t2 u0 hto
            refine gx_if_lt X d_Rf_takeAlong_49 (tgt := 62) (by decide) (fun h49 => ?_) (fun h49 => ?_)
            · exact absurd h49 (nI_pos (by omega))
            · refine gx_aload_n X d_Rf_takeAlong_52 rfl rfl ?_
              refine gx_iload X d_Rf_takeAlong_53 rfl ?_
              refine gx_dup2_11 X d_Rf_takeAlong_55 rfl rfl ?_
              refine gx_lald X d_Rf_takeAlong_56 (hxK HX hr4).1 (hxK HX hr4).2 rfl (by omega) (by omega) ?_
              refine gx_lconst X d_Rf_takeAlong_57 (v := 1) (by decide) ?_
              refine gx_iload_n X d_Rf_takeAlong_58 rfl rfl ?_
              refine gx_lshl X d_Rf_takeAlong_59 rfl ?_
              refine gx_lor X d_Rf_takeAlong_60 ?_
              refine gx_last X d_Rf_takeAlong_61 (hxK HX hr4).1 (hxK HX hr4).2 rfl (by omega) (by omega) ?_
              refine gx_iinc X d_Rf_takeAlong_62 rfl (pu_inc _) ?_
              refine gx_goto X d_Rf_takeAlong_65 (tgt := 33) (by decide) ?_
              refine gx_el (ih (i + 1) _ (by omega) (fun a ha => by rw [gxU_cell ha]; exact h1 a ha) (fun q j hq hj => ?_)) ⟨rfl, rfl, rfl, rfl, rfl, trivial⟩
              by_cases e2 : q = i
              · rw [e2, gxU_at, tb_or, tb_one (Nat.mod_lt _ (by decide)), h2 i j (by omega) hj]
                unfold onS
                rw [hto]
                simp
              · rw [gxU_ne (fun z => e2 z.2), h2 q j hq hj]
                congr 2
                by_cases e3 : q < i
                · rw [decide_eq_true e3, decide_eq_true (show q < i + 1 by omega)]
                · rw [decide_eq_false e3, decide_eq_false (show ¬ q < i + 1 by omega)]
    exact gx_el (loop (2 ^ (3 * w)) 0 M (by omega) hM1 (fun q j hq hj => by rw [hM2 q j hq hj]; simp)) ⟨rfl, rfl, rfl, rfl, rfl, trivial⟩
  refine gx_iload_n X d_Rf_takeAlong_21 rfl rfl ?_
  refine gx_if_ne X d_Rf_takeAlong_22 (tgt := 30) (by decide) (fun h22 => ?_) (fun h22 => ?_)
  · have hne : n % 64 ≠ 0 := fun z => h22 (by rw [z]; rfl)
    exact gx_el (body L (fun _ _ => rfl) (fun q j hq hj => by rw [decide_eq_true hne, Bool.true_and])) ⟨rfl, rfl, rfl, rfl, trivial⟩
  · have heq : n % 64 = 0 := Classical.byContradiction fun z => nI_ne0 (by omega) (by omega) h22
    refine gx_aload_n X d_Rf_takeAlong_25 rfl rfl ?_
    refine gx_lconst X d_Rf_takeAlong_26 (v := 0) (by decide) ?_
    refine gx_callS X d_Rf_takeAlong_27 mf_Ar_fill_aJJ lk_Rf_94 (c_fill_J (hxK HX hr4).1 (n := 2 ^ (3 * w)) (hxK HX hr4).2 (by omega) 0) rfl rfl (Nat.le_of_ble_eq_true rfl) ⟨by decide, by decide⟩ ⟨rfl, rfl⟩ ⟨Nat.zero_le _, Nat.zero_le _⟩ (fun r27 F27 L27 hp27 => ?_)
    obtain ⟨rfl, rfl, rfl⟩ := hp27
    exact gx_el (body _ (fun a ha => flL_cell ha) (fun q j hq hj => by rw [flL_in (by omega) hq, tb_0, decide_eq_false (by omega), Bool.false_and])) ⟨rfl, rfl, rfl, rfl, trivial⟩
theorem c_Rf_pullBack (HX : gH ks lay (2 ^ (3 * w)) sX) (hS : SpOK F w) {i0 e0 : Nat} (hi : i0 < 4) (he : e0 < 20) {tf : Nat → Nat} (htf : ∀ q, q < 2 ^ (3 * w) → F (rT e0) q = nI (tf q) ∧ tf q < 2 ^ (3 * w)) : Con l y_Rf_pullBack (Cond.code y_Rf_pullBack b_Rf_pullBack 4 none :: WT) rm_Rf_pullBack D vcl ca ks lay ad [xR 33, xR (rK i0), xR (rT e0)] F L (fun r F' L' => r = none ∧ F' = F ∧ (∀ a, a ≠ 35 → a ≠ rK i0 → L' a = L a) ∧ ∀ q, q < 2 ^ (3 * w) → L' (rK i0) q = L (rK i0) (tf q)) := by
  have hw : w < 4 := by have := hS.1; omega
  have hN := pu_N w hw
  refine Con.ofK (fun post K => ?_)
  refine Con.of (ls := [(0, xR 33), (1, xR (rK i0)), (2, xR (rT e0))]) (by decide) rfl rfl (Nat.le_of_ble_eq_true rfl) ?_
  intro p e s m args below meth c A X hr hA
  refine gx_iconst X d_Rf_pullBack_0 (v := nI 0) (by decide) ?_
  refine gx_istore_n X d_Rf_pullBack_1 rfl (by decide) ?_
  have loop : ∀ (d i : Nat) (M : Nat → Nat → Int64), i + d = 2 ^ (3 * w) → (∀ a, a ≠ 35 → M a = L a) → (∀ q, q < i → M 35 q = L (rK i0) (tf q)) → GX p l e rm_Rf_pullBack s m args below meth c (MQ below (gxQ D vcl ca ks lay ad s.heap.size post) args s 0 0 (gxA ks ad s.heap.size)) 4 A D vcl ca ks lay ad 0 0 2 [(3, xI (nI i)), (0, xR 33), (1, xR (rK i0)), (2, xR (rT e0))] [] F M := by
    intro d
    induction d with
    | zero =>
      intro i M hd h1 h2
      refine gx_iload_n X d_Rf_pullBack_2 rfl rfl ?_
      refine gx_aload_n X d_Rf_pullBack_3 rfl rfl ?_
      refine gx_getr X d_Rf_pullBack_4 (gci in_Rf) (HX _ rfl).1 (HX _ rfl).2 rfl 0 (by decide) (gcw X lk_Rf_15) (fun _ h => h) rfl ?_
      refine gx_geti X d_Rf_pullBack_7 (gci in_Sp) (HX _ rfl).1 (HX _ rfl).2 rfl 2 (by decide) (gcw X lk_Rf_31) (fun _ h => h) rfl ?_
      refine gx_top hS.2.2.2 ?_
      refine gx_icmp_ge X d_Rf_pullBack_10 (tgt := 30) (by decide) (fun h10 => ?_) (fun h10 => ?_)
      · refine gx_aload_n X d_Rf_pullBack_30 rfl rfl ?_
        refine gx_getr X d_Rf_pullBack_31 (gci in_Rf) (HX _ rfl).1 (HX _ rfl).2 rfl 5 (by decide) (gcw X lk_Rf_41) (fun _ h => h) rfl ?_
        refine gx_iconst X d_Rf_pullBack_34 (v := nI 0) (by decide) ?_
        refine gx_aload_n X d_Rf_pullBack_35 rfl rfl ?_
        refine gx_iconst X d_Rf_pullBack_36 (v := nI 0) (by decide) ?_
        refine gx_aload_n X d_Rf_pullBack_37 rfl rfl ?_
        refine gx_getr X d_Rf_pullBack_38 (gci in_Rf) (HX _ rfl).1 (HX _ rfl).2 rfl 0 (by decide) (gcw X lk_Rf_15) (fun _ h => h) rfl ?_
        refine gx_geti X d_Rf_pullBack_41 (gci in_Sp) (HX _ rfl).1 (HX _ rfl).2 rfl 2 (by decide) (gcw X lk_Rf_31) (fun _ h => h) rfl ?_
        refine gx_top hS.2.2.2 ?_
        refine gx_copyl X d_Rf_pullBack_44 lk_Rf_100 (HX 35 rfl).1 (n0 := 2 ^ (3 * w)) (HX 35 rfl).2 (hxK HX hi).1 (hxK HX hi).2 (Nat.le_refl _) (Nat.le_refl _) (by omega) (by decide) (by decide) ?_
        refine gx_vret X hr hA d_Rf_pullBack_47 (K _ _ _ ⟨rfl, rfl, fun a a1 a2 => by rw [cpL_cell a2]; exact h1 a a1, fun q hq => by rw [cpL_in hq]; exact h2 q (by omega)⟩)
      · exact absurd ((nI_leI (by omega) (by omega)).mpr (by omega)) h10
    | succ d ih =>
      intro i M hd h1 h2
      obtain ⟨t1, t2⟩ := htf i (by omega)
      refine gx_iload_n X d_Rf_pullBack_2 rfl rfl ?_
      refine gx_aload_n X d_Rf_pullBack_3 rfl rfl ?_
      refine gx_getr X d_Rf_pullBack_4 (gci in_Rf) (HX _ rfl).1 (HX _ rfl).2 rfl 0 (by decide) (gcw X lk_Rf_15) (fun _ h => h) rfl ?_
      refine gx_geti X d_Rf_pullBack_7 (gci in_Sp) (HX _ rfl).1 (HX _ rfl).2 rfl 2 (by decide) (gcw X lk_Rf_31) (fun _ h => h) rfl ?_
      refine gx_top hS.2.2.2 ?_
      refine gx_icmp_ge X d_Rf_pullBack_10 (tgt := 30) (by decide) (fun h10 => ?_) (fun h10 => ?_)
      · exact absurd ((nI_leI (by omega) (by omega)).mp h10) (by omega)
      · refine gx_aload_n X d_Rf_pullBack_13 rfl rfl ?_
        refine gx_getr X d_Rf_pullBack_14 (gci in_Rf) (HX _ rfl).1 (HX _ rfl).2 rfl 5 (by decide) (gcw X lk_Rf_41) (fun _ h => h) rfl ?_
        refine gx_iload_n X d_Rf_pullBack_17 rfl rfl ?_
        refine gx_aload_n X d_Rf_pullBack_18 rfl rfl ?_
        refine gx_aload_n X d_Rf_pullBack_19 rfl rfl ?_
        refine gx_iload_n X d_Rf_pullBack_20 rfl rfl ?_
        refine gx_iald X d_Rf_pullBack_21 (hxT HX he).1 (hxT HX he).2 rfl (by omega) (by omega) ?_
        refine gx_top t1 ?_
        refine gx_lald X d_Rf_pullBack_22 (hxK HX hi).1 (hxK HX hi).2 rfl t2 (by omega) ?_
        refine gx_last X d_Rf_pullBack_23 (HX _ rfl).1 (HX _ rfl).2 rfl (by omega) (by omega) ?_
        refine gx_iinc X d_Rf_pullBack_24 rfl (pu_inc _) ?_
        refine gx_goto X d_Rf_pullBack_27 (tgt := 2) (by decide) ?_
        refine gx_el (ih (i + 1) _ (by omega) (fun a ha => by rw [gxU_cell ha]; exact h1 a ha) (fun q hq => ?_)) ⟨rfl, rfl, rfl, rfl, trivial⟩
        by_cases e2 : q = i
        · rw [e2, gxU_at, h1 (rK i0) (by unfold rK; omega)]
        · rw [gxU_ne (fun z => e2 z.2), h2 q (by omega)]
  exact gx_el (loop (2 ^ (3 * w)) 0 L (by omega) (fun _ _ => rfl) (fun q hq => absurd hq (by omega))) ⟨rfl, rfl, rfl, rfl, trivial⟩
set_option maxHeartbeats 4000000 in
theorem c_Rf_leaveBehind (HX : gH ks lay (2 ^ (3 * w)) sX) (hS : SpOK F w) {i0 e0 : Nat} (hi : i0 < 4) (he : e0 < 20) {tf : Nat → Nat} (htf : ∀ q, q < 2 ^ (3 * w) → F (rT e0) q = nI (tf q) ∧ tf q < 2 ^ (3 * w)) : Con l y_Rf_leaveBehind (Cond.code y_Rf_leaveBehind b_Rf_leaveBehind 6 none :: WT) rm_Rf_leaveBehind D vcl ca ks lay ad [xR 33, xR (rK i0), xR (rT e0)] F L (fun r F' L' => r = none ∧ F' = F ∧ (∀ a, a ≠ rK i0 → L' a = L a) ∧ ∀ q j, q < 2 ^ (3 * w) → j < 64 → (tb (L' (rK i0) q) j = true ↔ tb (L (rK i0) q) j = true ∧ ∀ z, z < 2 ^ (3 * w) → tb (L (rK i0) z) j = tb (L (rK i0) (tf z)) j)) := by
  have hw : w < 4 := by have := hS.1; omega
  have hN := pu_N w hw
  refine Con.ofK (fun post K => ?_)
  refine Con.of (ls := [(0, xR 33), (1, xR (rK i0)), (2, xR (rT e0))]) (by decide) rfl rfl (Nat.le_of_ble_eq_true rfl) ?_
  intro p e s m args below meth c A X hr hA
  refine gx_lconst X d_Rf_leaveBehind_0 (v := 0) (by decide) ?_
  refine gx_lstore_n X d_Rf_leaveBehind_1 rfl (by decide) ?_
  refine gx_iconst X d_Rf_leaveBehind_2 (v := nI 0) (by decide) ?_
  refine gx_istore X d_Rf_leaveBehind_3 (by decide) ?_
  have loop2 : ∀ (v : Int64), (∀ j, j < 64 → (tb v j = true ↔ ∃ z, z < 2 ^ (3 * w) ∧ tb (L (rK i0) z) j ≠ tb (L (rK i0) (tf z)) j)) → ∀ (d i : Nat) (M : Nat → Nat → Int64), i + d = 2 ^ (3 * w) → (∀ a, a ≠ rK i0 → M a = L a) → (∀ q, q < i → M (rK i0) q = L (rK i0) q &&& (v ^^^ (-1))) → (∀ q, i ≤ q → M (rK i0) q = L (rK i0) q) → GX p l e rm_Rf_leaveBehind s m args below meth c (MQ below (gxQ D vcl ca ks lay ad s.heap.size post) args s 0 0 (gxA ks ad s.heap.size)) 6 A D vcl ca ks lay ad 0 0 40 [(5, xI (nI i)), (3, xL v), (0, xR 33), (1, xR (rK i0)), (2, xR (rT e0))] [] F M := by
    intro v hv d
    induction d with
    | zero =>
      intro i M hd h1 h2 h3
      refine gx_iload X d_Rf_leaveBehind_40 rfl ?_
      refine gx_aload_n X d_Rf_leaveBehind_42 rfl rfl ?_
      refine gx_getr X d_Rf_leaveBehind_43 (gci in_Rf) (HX _ rfl).1 (HX _ rfl).2 rfl 0 (by decide) (gcw X lk_Rf_15) (fun _ h => h) rfl ?_
      refine gx_geti X d_Rf_leaveBehind_46 (gci in_Sp) (HX _ rfl).1 (HX _ rfl).2 rfl 2 (by decide) (gcw X lk_Rf_31) (fun _ h => h) rfl ?_
      refine gx_top hS.2.2.2 ?_
      refine gx_icmp_ge X d_Rf_leaveBehind_49 (tgt := 70) (by decide) (fun h49 => ?_) (fun h49 => ?_)
      · refine gx_vret X hr hA d_Rf_leaveBehind_70 (K _ _ _ ⟨rfl, rfl, h1, fun q j hq hj => ?_⟩)
        rw [h2 q (by omega), tb_and, tb_not v hj, Bool.and_eq_true]
        refine and_congr Iff.rfl ?_
        constructor
        · intro hn z hz
          refine Classical.byContradiction fun hne => ?_
          rw [(hv j hj).mpr ⟨z, hz, hne⟩] at hn
          cases hn
        · intro hall
          cases hb : tb v j with
          | false => rfl
          | true =>
            obtain ⟨z, hz, hne⟩ := (hv j hj).mp hb
            exact absurd (hall z hz) hne
      · exact absurd ((nI_leI (by omega) (by omega)).mpr (by omega)) h49
    | succ d ih =>
      intro i M hd h1 h2 h3
      refine gx_iload X d_Rf_leaveBehind_40 rfl ?_
      refine gx_aload_n X d_Rf_leaveBehind_42 rfl rfl ?_
      refine gx_getr X d_Rf_leaveBehind_43 (gci in_Rf) (HX _ rfl).1 (HX _ rfl).2 rfl 0 (by decide) (gcw X lk_Rf_15) (fun _ h => h) rfl ?_
      refine gx_geti X d_Rf_leaveBehind_46 (gci in_Sp) (HX _ rfl).1 (HX _ rfl).2 rfl 2 (by decide) (gcw X lk_Rf_31) (fun _ h => h) rfl ?_
      refine gx_top hS.2.2.2 ?_
      refine gx_icmp_ge X d_Rf_leaveBehind_49 (tgt := 70) (by decide) (fun h49 => ?_) (fun h49 => ?_)
      · exact absurd ((nI_leI (by omega) (by omega)).mp h49) (by omega)
      · refine gx_aload_n X d_Rf_leaveBehind_52 rfl rfl ?_
        refine gx_iload X d_Rf_leaveBehind_53 rfl ?_
        refine gx_dup2_11 X d_Rf_leaveBehind_55 rfl rfl ?_
        refine gx_lald X d_Rf_leaveBehind_56 (hxK HX hi).1 (hxK HX hi).2 rfl (by omega) (by omega) ?_
        refine gx_topl (h3 i (Nat.le_refl _)) ?_
        refine gx_lload_n X d_Rf_leaveBehind_57 rfl rfl ?_
        refine gx_ldc2 X d_Rf_leaveBehind_58 (gcw X wk_Rf_106) ?_
        refine gx_lxor X d_Rf_leaveBehind_61 ?_
        refine gx_land X d_Rf_leaveBehind_62 ?_
        refine gx_last X d_Rf_leaveBehind_63 (hxK HX hi).1 (hxK HX hi).2 rfl (by omega) (by omega) ?_
        refine gx_iinc X d_Rf_leaveBehind_64 rfl (pu_inc _) ?_
        refine gx_goto X d_Rf_leaveBehind_67 (tgt := 40) (by decide) ?_
        refine gx_el (ih (i + 1) _ (by omega) (fun a ha => by rw [gxU_cell ha]; exact h1 a ha) (fun q hq => ?_) (fun q hq => ?_)) ⟨rfl, rfl, rfl, rfl, rfl, trivial⟩
        · by_cases e2 : q = i
          · rw [e2, gxU_at]
          · rw [gxU_ne (fun z => e2 z.2), h2 q (by omega)]
        · rw [gxU_ne (fun z => absurd z.2 (by omega)), h3 q (by omega)]
  have loop1 : ∀ (d i : Nat) (v : Int64), i + d = 2 ^ (3 * w) → (∀ j, j < 64 → (tb v j = true ↔ ∃ z, z < i ∧ tb (L (rK i0) z) j ≠ tb (L (rK i0) (tf z)) j)) → GX p l e rm_Rf_leaveBehind s m args below meth c (MQ below (gxQ D vcl ca ks lay ad s.heap.size post) args s 0 0 (gxA ks ad s.heap.size)) 6 A D vcl ca ks lay ad 0 0 5 [(5, xI (nI i)), (3, xL v), (0, xR 33), (1, xR (rK i0)), (2, xR (rT e0))] [] F L := by
    intro d
    induction d with
    | zero =>
      intro i v hd hv
      refine gx_iload X d_Rf_leaveBehind_5 rfl ?_
      refine gx_aload_n X d_Rf_leaveBehind_7 rfl rfl ?_
      refine gx_getr X d_Rf_leaveBehind_8 (gci in_Rf) (HX _ rfl).1 (HX _ rfl).2 rfl 0 (by decide) (gcw X lk_Rf_15) (fun _ h => h) rfl ?_
      refine gx_geti X d_Rf_leaveBehind_11 (gci in_Sp) (HX _ rfl).1 (HX _ rfl).2 rfl 2 (by decide) (gcw X lk_Rf_31) (fun _ h => h) rfl ?_
      refine gx_top hS.2.2.2 ?_
      refine gx_icmp_ge X d_Rf_leaveBehind_14 (tgt := 37) (by decide) (fun h14 => ?_) (fun h14 => ?_)
      · refine gx_iconst X d_Rf_leaveBehind_37 (v := nI 0) (by decide) ?_
        refine gx_istore X d_Rf_leaveBehind_38 (by decide) ?_
        refine gx_el (loop2 v (fun j hj => by rw [hv j hj, show i = 2 ^ (3 * w) by omega]) (2 ^ (3 * w)) 0 L (by omega) (fun _ _ => rfl) (fun q hq => absurd hq (by omega)) (fun _ _ => rfl)) ⟨rfl, rfl, rfl, rfl, rfl, trivial⟩
      · exact absurd ((nI_leI (by omega) (by omega)).mpr (by omega)) h14
    | succ d ih =>
      intro i v hd hv
      obtain ⟨t1, t2⟩ := htf i (by omega)
      refine gx_iload X d_Rf_leaveBehind_5 rfl ?_
      refine gx_aload_n X d_Rf_leaveBehind_7 rfl rfl ?_
      refine gx_getr X d_Rf_leaveBehind_8 (gci in_Rf) (HX _ rfl).1 (HX _ rfl).2 rfl 0 (by decide) (gcw X lk_Rf_15) (fun _ h => h) rfl ?_
      refine gx_geti X d_Rf_leaveBehind_11 (gci in_Sp) (HX _ rfl).1 (HX _ rfl).2 rfl 2 (by decide) (gcw X lk_Rf_31) (fun _ h => h) rfl ?_
      refine gx_top hS.2.2.2 ?_
      refine gx_icmp_ge X d_Rf_leaveBehind_14 (tgt := 37) (by decide) (fun h14 => ?_) (fun h14 => ?_)
      · exact absurd ((nI_leI (by omega) (by omega)).mp h14) (by omega)
      · refine gx_lload_n X d_Rf_leaveBehind_17 rfl rfl ?_
        refine gx_aload_n X d_Rf_leaveBehind_18 rfl rfl ?_
        refine gx_iload X d_Rf_leaveBehind_19 rfl ?_
        refine gx_lald X d_Rf_leaveBehind_21 (hxK HX hi).1 (hxK HX hi).2 rfl (by omega) (by omega) ?_
        refine gx_aload_n X d_Rf_leaveBehind_22 rfl rfl ?_
        refine gx_aload_n X d_Rf_leaveBehind_23 rfl rfl ?_
        refine gx_iload X d_Rf_leaveBehind_24 rfl ?_
        refine gx_iald X d_Rf_leaveBehind_26 (hxT HX he).1 (hxT HX he).2 rfl (by omega) (by omega) ?_
        refine gx_top t1 ?_
        refine gx_lald X d_Rf_leaveBehind_27 (hxK HX hi).1 (hxK HX hi).2 rfl t2 (by omega) ?_
        refine gx_lxor X d_Rf_leaveBehind_28 ?_
        refine gx_lor X d_Rf_leaveBehind_29 ?_
        refine gx_lstore_n X d_Rf_leaveBehind_30 rfl (by decide) ?_
        refine gx_iinc X d_Rf_leaveBehind_31 rfl (pu_inc _) ?_
        refine gx_goto X d_Rf_leaveBehind_34 (tgt := 5) (by decide) ?_
        refine gx_el (ih (i + 1) (v ||| (L (rK i0) i ^^^ L (rK i0) (tf i))) (by omega) (fun j hj => ?_)) ⟨rfl, rfl, rfl, rfl, rfl, trivial⟩
        rw [tb_or, tb_xor, Bool.or_eq_true, hv j hj]
        constructor
        · rintro (⟨z, hz, hne⟩ | hx)
          · exact ⟨z, by omega, hne⟩
          · exact ⟨i, by omega, fun z => by rw [z] at hx; simp at hx⟩
        · rintro ⟨z, hz, hne⟩
          by_cases e2 : z = i
          · right
            rw [e2] at hne
            cases x1 : tb (L (rK i0) i) j <;> cases x2 : tb (L (rK i0) (tf i)) j <;> simp [x1, x2] at hne ⊢
          · exact Or.inl ⟨z, by omega, hne⟩
  exact gx_el (loop1 (2 ^ (3 * w)) 0 0 (by omega) (fun j hj => by rw [tb_0]; exact ⟨fun z => (by cases z), fun ⟨z, hz, _⟩ => absurd hz (by omega)⟩)) ⟨rfl, rfl, rfl, rfl, rfl, trivial⟩
end
