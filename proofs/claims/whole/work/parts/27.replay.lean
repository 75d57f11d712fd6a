section
variable {p : Program} {l : Launch} {e : Env} {R : Room} {s : State} {m : MethodId} {args : Array Value} {below : List Frame} {meth : Method} {c : Code} {Q : State → Prop} {nL cells slots pc : Nat} {A : Nat → Prop} {D : va_G} {cl : List vw_C} {ca : Nat → ClassId} {ks : List Nat} {lay : Nat → gxE} {ad : Nat → Nat} {ls : List (Nat × xV)} {st : List xV} {F : Nat → Nat → Int32} {L : Nat → Nat → Int64} {cc : ByteArray} {own : String} {Ts : List Cond}
theorem gx_ldc2 (X : GC p s m args meth c cc nL own Ts A D cl ca ks ad) {index : Nat} {v : Int64} (d : decode cc pc = .ok (.ldc2_w index, 3)) (hc : (Cond.constantLong own index v).before args s = true) (k : GX p l e R s m args below meth c Q nL A D cl ca ks lay ad cells slots (pc + 3) ls (xL v :: st) F L) : GX p l e R s m args below meth c Q nL A D cl ca ks lay ad cells slots pc ls st F L := fun H locs la hl hP hS => lv_ldc2 X.1.1 X.1.2.1 X.1.2.2.2.1 hc d (k H locs la hl hP hS)
end
theorem wk_Re_46 : Cond.constantLong R_Re 46 (-1) ∈ WT := WT_in (k := 931) (by decide +kernel) (by decide +kernel)
theorem wk_Rf_106 : Cond.constantLong R_Rf 106 (-1) ∈ WT := WT_in (k := 979) (by decide +kernel) (by decide +kernel)
section
variable {l : Launch} {D : va_G} {ca : Nat → ClassId} {ks : List Nat} {lay : Nat → gxE} {ad : Nat → Nat} {F : Nat → Nat → Int32} {L : Nat → Nat → Int64} {w np : Nat} {sg : Nat → Nat} {ne : Nat} {ef et ek ev : Nat → Nat} {tg : Nat → Nat → Option Nat}
theorem c_Re_forget (HX : gH ks lay (2 ^ (3 * w)) sX) : Con l y_Re_forget (Cond.code y_Re_forget b_Re_forget 1 none :: WT) rm_Re_forget D vcl ca ks lay ad [xR 30] F L (fun r F' L' => r = none ∧ F' = gxu F 30 5 (nI 0) ∧ L' = L) := by
  refine Con.ofK (fun post K => ?_)
  refine Con.of (ls := [(0, xR 30)]) (by decide) rfl rfl (Nat.le_of_ble_eq_true rfl) ?_
  intro p e s m args below meth c A X hr hA
  refine gx_aload_n X d_Re_forget_0 rfl rfl ?_
  refine gx_iconst X d_Re_forget_1 (v := nI 0) (by decide) ?_
  refine gx_puti X d_Re_forget_2 (gci in_Re) (HX _ rfl).1 (HX _ rfl).2 rfl 5 (by decide) (gcw X lk_Re_15) (fun _ h => h) t_Re ty_Re nm_Re rfl (ty_Re 5 (by decide)) rfl rfl rfl ?_
  refine gx_vret X hr hA d_Re_forget_5 (K _ _ _ ⟨rfl, rfl, rfl⟩)
/-- bit s of the row k -/
def opB (L : Nat → Nat → Int64) (k s : Nat) : Bool := tb (L (rO k) (s / 64)) (s % 64)
theorem ite_cond {b : Bool} : (if b = true then (1 : Int64) else 0) = 0 ↔ b = false := by cases b <;> decide
theorem c_Re_isOpen (HX : gH ks lay (2 ^ (3 * w)) sX) (hw : w < 4) {k q : Nat} (hk : k < 200) (hq : q < 2 ^ (3 * w)) : Con l y_Re_isOpen (Cond.code y_Re_isOpen b_Re_isOpen 3 (some .boolean) :: WT) rm_Re_isOpen D vcl ca ks lay ad [xR 30, xI (nI k), xI (nI q)] F L (fun r F' L' => r = some (xI (cond (opB L k q) 1 0)) ∧ F' = F ∧ L' = L) := by
  have hN := pu_N w hw
  refine Con.ofK (fun post K => ?_)
  refine Con.of (ls := [(0, xR 30), (1, xI (nI k)), (2, xI (nI q))]) (by decide) rfl rfl (Nat.le_of_ble_eq_true rfl) ?_
  intro p e s m args below meth c A X hr hA
  refine gx_aload_n X d_Re_isOpen_0 rfl rfl ?_
  refine gx_getr X d_Re_isOpen_1 (gci in_Re) (HX _ rfl).1 (HX _ rfl).2 rfl 3 (by decide) (gcw X lk_Re_38) (fun _ h => h) rfl ?_
  refine gx_iload_n X d_Re_isOpen_4 rfl rfl ?_
  refine gx_aald X d_Re_isOpen_5 (HX _ rfl).1 (HX _ rfl).2 rfl rfl rfl (by omega) (by omega) ?_
  refine gx_iload_n X d_Re_isOpen_6 rfl rfl ?_
  refine gx_bipush X d_Re_isOpen_7 (v := nI 6) (by decide) ?_
  refine gx_ishr X d_Re_isOpen_9 ?_
  refine gx_top (y := nI (q / 64)) (pk_shrN (by omega) _ 6 (by decide)) ?_
  refine gx_lald X d_Re_isOpen_10 (hxO HX hk).1 (hxO HX hk).2 rfl (by omega) (by omega) ?_
  refine gx_iload_n X d_Re_isOpen_11 rfl rfl ?_
  refine gx_bipush X d_Re_isOpen_12 (v := nI 63) (by decide) ?_
  refine gx_iand X d_Re_isOpen_14 ?_
  refine gx_top (y := nI (q % 64)) (pk_andN (by omega) 6 (by decide)) ?_
  refine gx_lushr X d_Re_isOpen_15 rfl ?_
  refine gx_lconst X d_Re_isOpen_16 (v := 1) (by decide) ?_
  refine gx_land X d_Re_isOpen_17 ?_
  refine gx_topl (tb_get _ (Nat.mod_lt _ (by decide))) ?_
  refine gx_lconst X d_Re_isOpen_18 (v := 0) (by decide) ?_
  refine gx_lcmp X d_Re_isOpen_19 ?_
  refine gx_if_eq X d_Re_isOpen_20 (tgt := 27) (by decide) (fun h20 => ?_) (fun h20 => ?_)
  · rw [lg_cmp_eq] at h20
    refine gx_iconst X d_Re_isOpen_27 (v := nI 0) (by decide) ?_
    refine gx_zret X hr (by first | rfl | decide) hA d_Re_isOpen_28 (K _ _ _ ⟨by rw [show opB L k q = false from ite_cond.mp h20]; rfl, rfl, rfl⟩)
  · have : opB L k q = true := by
      cases hb : opB L k q with
      | true => rfl
      | false => exact absurd ((lg_cmp_eq _ _).mpr (ite_cond.mpr hb)) h20
    refine gx_iconst X d_Re_isOpen_23 (v := nI 1) (by decide) ?_
    refine gx_goto X d_Re_isOpen_24 (tgt := 28) (by decide) ?_
    refine gx_zret X hr (by first | rfl | decide) hA d_Re_isOpen_28 (K _ _ _ ⟨by rw [this]; rfl, rfl, rfl⟩)
/-- an input leads on -/
def fsO (w : Nat) (ek ev : Nat → Nat) (tg : Nat → Nat → Option Nat) (O : Nat → Bool) (e s x : Nat) : Bool := match stp w ek ev tg e s x with
  | some t => O t
  | none => false
theorem find_none {n : Nat} {P : Nat → Bool} (h : ∀ x, x < n → P x = false) : (List.range n).find? P = none := by
  rw [List.find?_eq_none]
  intro x hx
  rw [h x (List.mem_range.mp hx)]
  decide
theorem find_some {n x : Nat} {P : Nat → Bool} (hx : x < n) (hp : P x = true) (h : ∀ y, y < x → P y = false) : (List.range n).find? P = some x := by
  cases hf : (List.range n).find? P with
  | none =>
    have := List.find?_eq_none.mp hf x (List.mem_range.mpr hx)
    exact absurd hp this
  | some z =>
    have h1 := List.find?_some hf
    rw [List.find?_range_eq_some] at hf
    rcases Nat.lt_trichotomy z x with h2 | h2 | h2
    · rw [h z h2] at h1; cases h1
    · rw [h2]
    · have := hf.2.2 x h2
      rw [hp] at this
      cases this
theorem c_Re_leastInput (HX : gH ks lay (2 ^ (3 * w)) sX) (hS : SpOK F w) (hP : PrOK F w ne ef et ek ev tg) {k q e0 : Nat} (hk : k + 1 < 200) (hq : q < 2 ^ (3 * w)) (h29 : F 29 k = nI e0) (he : e0 < ne) : Con l y_Re_leastInput (Cond.code y_Re_leastInput b_Re_leastInput 7 (some .int) :: WT) rm_Re_leastInput D vcl ca ks lay ad [xR 30, xI (nI k), xI (nI q)] F L (fun r F' L' => r = some (xI (tgI ((List.range (chs w ek e0)).find? (fsO w ek ev tg (opB L (k + 1)) e0 q)))) ∧ F' = F ∧ L' = L) := by
  have hw : w < 4 := by have := hS.1; omega
  have hN := pu_N w hw
  have hch := chs_le hw ek e0
  have h20 := hP.1
  refine Con.ofK (fun post K => ?_)
  refine Con.of (ls := [(0, xR 30), (1, xI (nI k)), (2, xI (nI q))]) (by decide) rfl rfl (Nat.le_of_ble_eq_true rfl) ?_
  intro p e s m args below meth c A X hr hA
  refine gx_aload_n X d_Re_leastInput_0 rfl rfl ?_
  refine gx_getr X d_Re_leastInput_1 (gci in_Re) (HX _ rfl).1 (HX _ rfl).2 rfl 2 (by decide) (gcw X lk_Re_27) (fun _ h => h) rfl ?_
  refine gx_getr X d_Re_leastInput_4 (gci in_Se) (HX _ rfl).1 (HX _ rfl).2 rfl 14 (by decide) (gcw X lk_Re_69) (fun _ h => h) rfl ?_
  refine gx_iload_n X d_Re_leastInput_7 rfl rfl ?_
  refine gx_iald X d_Re_leastInput_8 (HX _ rfl).1 (HX _ rfl).2 rfl (by omega) (by omega) ?_
  refine gx_top h29 ?_
  refine gx_istore_n X d_Re_leastInput_9 rfl (by decide) ?_
  refine gx_aload_n X d_Re_leastInput_10 rfl rfl ?_
  refine gx_getr X d_Re_leastInput_11 (gci in_Re) (HX _ rfl).1 (HX _ rfl).2 rfl 1 (by decide) (gcw X lk_Re_23) (fun _ h => h) rfl ?_
  refine gx_iload_n X d_Re_leastInput_14 rfl rfl ?_
  refine gx_callV X d_Re_leastInput_15 mf_Pr_choices lk_Re_72 (c_Pr_choices HX hS hP he) (HX _ rfl).1 (HX _ rfl).2 rfl rfl rfl (Nat.le_of_ble_eq_true rfl) ⟨by decide, by decide⟩ ⟨rfl, rfl⟩ ⟨Nat.zero_le _, Nat.zero_le _⟩ (fun r15 F15 L15 hp15 => ?_)
  obtain ⟨rfl, rfl, rfl⟩ := hp15
  refine gx_istore X d_Re_leastInput_18 (by decide) ?_
  refine gx_iconst X d_Re_leastInput_20 (v := nI 0) (by decide) ?_
  refine gx_istore X d_Re_leastInput_21 (by decide) ?_
  have loop : ∀ (d x : Nat), x + d = chs w ek e0 → (∀ y, y < x → fsO w ek ev tg (opB L15 (k + 1)) e0 q y = false) → GX p l e rm_Re_leastInput s m args below meth c (MQ below (gxQ D vcl ca ks lay ad s.heap.size post) args s 0 0 (gxA ks ad s.heap.size)) 7 A D vcl ca ks lay ad 0 0 23 [(5, xI (nI x)), (4, xI (nI (chs w ek e0))), (3, xI (nI e0)), (0, xR 30), (1, xI (nI k)), (2, xI (nI q))] [] F15 L15 := by
    intro d
    induction d with
    | zero =>
      intro x hx hno
      refine gx_iload X d_Re_leastInput_23 rfl ?_
      refine gx_iload X d_Re_leastInput_25 rfl ?_
      refine gx_icmp_ge X d_Re_leastInput_27 (tgt := 69) (by decide) (fun h27 => ?_) (fun h27 => ?_)
      · refine gx_iconst X d_Re_leastInput_69 (v := (-1)) (by decide) ?_
        refine gx_iret X hr hA d_Re_leastInput_70 (K _ _ _ ⟨by rw [find_none (fun y hy => hno y (by omega))]; rfl, rfl, rfl⟩)
      · exact absurd ((nI_leI (by omega) (by omega)).mpr (by omega)) h27
    | succ d ih =>
      intro x hx hno
      refine gx_iload X d_Re_leastInput_23 rfl ?_
      refine gx_iload X d_Re_leastInput_25 rfl ?_
      refine gx_icmp_ge X d_Re_leastInput_27 (tgt := 69) (by decide) (fun h27 => ?_) (fun h27 => ?_)
      · exact absurd ((nI_leI (by omega) (by omega)).mp h27) (by omega)
      · have next : fsO w ek ev tg (opB L15 (k + 1)) e0 q x = false → GX p l e rm_Re_leastInput s m args below meth c (MQ below (gxQ D vcl ca ks lay ad s.heap.size post) args s 0 0 (gxA ks ad s.heap.size)) 7 A D vcl ca ks lay ad 0 0 63 [(5, xI (nI x)), (4, xI (nI (chs w ek e0))), (3, xI (nI e0)), (0, xR 30), (1, xI (nI k)), (2, xI (nI q))] [] F15 L15 := by
          intro hf
          refine gx_iinc X d_Re_leastInput_63 rfl (pu_inc _) ?_
          refine gx_goto X d_Re_leastInput_66 (tgt := 23) (by decide) ?_
          exact gx_el (ih (x + 1) (by omega) (fun y hy => by
            by_cases e2 : y = x
            · rw [e2]; exact hf
            · exact hno y (by omega))) ⟨rfl, rfl, rfl, rfl, rfl, rfl, trivial⟩
        refine gx_aload_n X d_Re_leastInput_30 rfl rfl ?_
        refine gx_getr X d_Re_leastInput_31 (gci in_Re) (HX _ rfl).1 (HX _ rfl).2 rfl 1 (by decide) (gcw X lk_Re_23) (fun _ h => h) rfl ?_
        refine gx_iload_n X d_Re_leastInput_34 rfl rfl ?_
        refine gx_iload_n X d_Re_leastInput_35 rfl rfl ?_
        refine gx_iload X d_Re_leastInput_36 rfl ?_
        refine gx_callV X d_Re_leastInput_38 mf_Pr_step lk_Re_78 (c_Pr_step HX hS hP he hq (nI x)) (HX _ rfl).1 (HX _ rfl).2 rfl rfl rfl (Nat.le_of_ble_eq_true rfl) ⟨by decide, by decide⟩ ⟨rfl, rfl⟩ ⟨Nat.zero_le _, Nat.zero_le _⟩ (fun r38 F38 L38 hp38 => ?_)
        obtain ⟨rfl, rfl, rfl⟩ := hp38
        rw [pk_tn (by omega)]
        refine gx_istore X d_Re_leastInput_41 (by decide) ?_
        refine gx_iload X d_Re_leastInput_43 rfl ?_
        cases hst : stp w ek ev tg e0 q x with
        | none =>
          refine gx_if_lt X d_Re_leastInput_45 (tgt := 63) (by decide) (fun h45 => ?_) (fun h45 => ?_)
          · exact gx_el (next (by unfold fsO; rw [hst])) ⟨rfl, rfl, rfl, rfl, rfl, rfl, trivial⟩
          · exact absurd (show (-1 : Int32) < 0 by decide) h45
        | some u0 =>
          have hu := stp_lt hw hP he hq hst
          refine gx_if_lt X d_Re_leastInput_45 (tgt := 63) (by decide) (fun h45 => ?_) (fun h45 => ?_)
          · exact absurd h45 (nI_pos (by omega))
          · refine gx_aload_n X d_Re_leastInput_48 rfl rfl ?_
            refine gx_iload_n X d_Re_leastInput_49 rfl rfl ?_
            refine gx_iconst X d_Re_leastInput_50 (v := nI 1) (by decide) ?_
            refine gx_iadd X d_Re_leastInput_51 ?_
            refine gx_top (nI_add k 1) ?_
            refine gx_iload X d_Re_leastInput_52 (x := nI u0) rfl ?_
            refine gx_callV X d_Re_leastInput_54 mf_Re_isOpen lk_Re_58 (c_Re_isOpen HX hw hk hu) (HX _ rfl).1 (HX _ rfl).2 rfl rfl rfl (Nat.le_of_ble_eq_true rfl) ⟨by decide, by decide⟩ ⟨rfl, rfl⟩ ⟨Nat.zero_le _, Nat.zero_le _⟩ (fun r54 F54 L54 hp54 => ?_)
            obtain ⟨rfl, rfl, rfl⟩ := hp54
            refine gx_if_eq X d_Re_leastInput_57 (tgt := 63) (by decide) (fun h57 => ?_) (fun h57 => ?_)
            · exact gx_el (next (by unfold fsO; rw [hst]; exact cb_f h57)) ⟨rfl, rfl, rfl, rfl, rfl, rfl, trivial⟩
            · have hf : fsO w ek ev tg (opB L54 (k + 1)) e0 q x = true := by unfold fsO; rw [hst]; exact cb_t h57
              refine gx_iload X d_Re_leastInput_60 rfl ?_
              refine gx_iret X hr hA d_Re_leastInput_62 (K _ _ _ ⟨by rw [find_some (by omega) hf hno]; rfl, rfl, rfl⟩)
  exact gx_el (loop (chs w ek e0) 0 (by omega) (fun y hy => absurd hy (by omega))) ⟨rfl, rfl, rfl, rfl, rfl, rfl, trivial⟩
theorem opB_set {L : Nat → Nat → Int64} {k q s : Nat} (b : Int64) (hb : b = L (rO k) (q / 64) ||| ((1 : Int64) <<< ((nI (q % 64)).toInt64 &&& 63))) : opB (gxU L (rO k) (q / 64) b) k s = (opB L k s || Nat.beq s q) := by
  unfold opB
  by_cases h : s / 64 = q / 64
  · rw [h, gxU_at, hb, tb_or, tb_one (Nat.mod_lt _ (by decide))]
    congr 1
    by_cases h2 : s % 64 = q % 64
    · have : s = q := by omega
      rw [this]
      simp
    · have h3 : ¬ s = q := fun z => h2 (by rw [z])
      have h4 : Nat.beq s q = false := by
        cases hc : Nat.beq s q with
        | false => rfl
        | true => exact absurd (Nat.eq_of_beq_eq_true hc) h3
      rw [h4]
      simp [h2]
  · have h3 : ¬ s = q := fun z => h (by rw [z])
    have h4 : Nat.beq s q = false := by
      cases hc : Nat.beq s q with
      | false => rfl
      | true => exact absurd (Nat.eq_of_beq_eq_true hc) h3
    rw [gxU_ne (fun z => h z.2), h4, Bool.or_false]
set_option maxHeartbeats 4000000 in
theorem c_Re_openBefore (HX : gH ks lay (2 ^ (3 * w)) sX) (hS : SpOK F w) (hP : PrOK F w ne ef et ek ev tg) {k e0 : Nat} (hk : k + 1 < 200) (h29 : F 29 k = nI e0) (he : e0 < ne) : Con l y_Re_openBefore (Cond.code y_Re_openBefore b_Re_openBefore 3 none :: WT) rm_Re_openBefore D vcl ca ks lay ad [xR 30, xI (nI k)] F L (fun r F' L' => r = none ∧ F' = F ∧ (∀ a, a ≠ rO k → L' a = L a) ∧ ∀ q, q < 2 ^ (3 * w) → opB L' k q = ((List.range (chs w ek e0)).find? (fsO w ek ev tg (opB L (k + 1)) e0 q)).isSome) := by
  have hw : w < 4 := by have := hS.1; omega
  have hN := pu_N w hw
  refine Con.ofK (fun post K => ?_)
  refine Con.of (ls := [(0, xR 30), (1, xI (nI k))]) (by decide) rfl rfl (Nat.le_of_ble_eq_true rfl) ?_
  intro p e s m args below meth c A X hr hA
  refine gx_aload_n X d_Re_openBefore_0 rfl rfl ?_
  refine gx_getr X d_Re_openBefore_1 (gci in_Re) (HX _ rfl).1 (HX _ rfl).2 rfl 3 (by decide) (gcw X lk_Re_38) (fun _ h => h) rfl ?_
  refine gx_iload_n X d_Re_openBefore_4 rfl rfl ?_
  refine gx_aald X d_Re_openBefore_5 (HX _ rfl).1 (HX _ rfl).2 rfl rfl rfl (by omega) (by omega) ?_
  refine gx_lconst X d_Re_openBefore_6 (v := 0) (by decide) ?_
  refine gx_callS X d_Re_openBefore_7 mf_Ar_fill_aJJ lk_Re_48 (c_fill_J (hxO HX (e := k) (by omega)).1 (n := (2 ^ (3 * w) + 63) / 64) (hxO HX (e := k) (by omega)).2 (by omega) 0) rfl rfl (Nat.le_of_ble_eq_true rfl) ⟨by decide, by decide⟩ ⟨rfl, rfl⟩ ⟨Nat.zero_le _, Nat.zero_le _⟩ (fun r7 F7 L7 hp7 => ?_)
  obtain ⟨rfl, rfl, rfl⟩ := hp7
  refine gx_iconst X d_Re_openBefore_10 (v := nI 0) (by decide) ?_
  refine gx_istore_n X d_Re_openBefore_11 rfl (by decide) ?_
  have loop : ∀ (d i : Nat) (M : Nat → Nat → Int64), i + d = 2 ^ (3 * w) → (∀ a, a ≠ rO k → M a = L a) → (∀ q, q < 2 ^ (3 * w) → opB M k q = (decide (q < i) && ((List.range (chs w ek e0)).find? (fsO w ek ev tg (opB L (k + 1)) e0 q)).isSome)) → GX p l e rm_Re_openBefore s m args below meth c (MQ below (gxQ D vcl ca ks lay ad s.heap.size post) args s 0 0 (gxA ks ad s.heap.size)) 3 A D vcl ca ks lay ad 0 0 12 [(2, xI (nI i)), (0, xR 30), (1, xI (nI k))] [] F7 M := by
    intro d
    induction d with
    | zero =>
      intro i M hd h1 h2
      refine gx_iload_n X d_Re_openBefore_12 rfl rfl ?_
      refine gx_aload_n X d_Re_openBefore_13 rfl rfl ?_
      refine gx_getr X d_Re_openBefore_14 (gci in_Re) (HX _ rfl).1 (HX _ rfl).2 rfl 0 (by decide) (gcw X lk_Re_19) (fun _ h => h) rfl ?_
      refine gx_geti X d_Re_openBefore_17 (gci in_Sp) (HX _ rfl).1 (HX _ rfl).2 rfl 2 (by decide) (gcw X lk_Re_31) (fun _ h => h) rfl ?_
      refine gx_top hS.2.2.2 ?_
      refine gx_icmp_ge X d_Re_openBefore_20 (tgt := 58) (by decide) (fun h20 => ?_) (fun h20 => ?_)
      · refine gx_vret X hr hA d_Re_openBefore_58 (K _ _ _ ⟨rfl, rfl, h1, fun q hq => by rw [h2 q hq, decide_eq_true (show q < i by omega), Bool.true_and]⟩)
      · exact absurd ((nI_leI (by omega) (by omega)).mpr (by omega)) h20
    | succ d ih =>
      intro i M hd h1 h2
      have hrow : opB M (k + 1) = opB L (k + 1) := by
        funext q
        unfold opB
        rw [h1 (rO (k + 1)) (by unfold rO; omega)]
      refine gx_iload_n X d_Re_openBefore_12 rfl rfl ?_
      refine gx_aload_n X d_Re_openBefore_13 rfl rfl ?_
      refine gx_getr X d_Re_openBefore_14 (gci in_Re) (HX _ rfl).1 (HX _ rfl).2 rfl 0 (by decide) (gcw X lk_Re_19) (fun _ h => h) rfl ?_
      refine gx_geti X d_Re_openBefore_17 (gci in_Sp) (HX _ rfl).1 (HX _ rfl).2 rfl 2 (by decide) (gcw X lk_Re_31) (fun _ h => h) rfl ?_
      refine gx_top hS.2.2.2 ?_
      refine gx_icmp_ge X d_Re_openBefore_20 (tgt := 58) (by decide) (fun h20 => ?_) (fun h20 => ?_)
      · exact absurd ((nI_leI (by omega) (by omega)).mp h20) (by omega)
      · refine gx_aload_n X d_Re_openBefore_23 rfl rfl ?_
        refine gx_iload_n X d_Re_openBefore_24 rfl rfl ?_
        refine gx_iload_n X d_Re_openBefore_25 rfl rfl ?_
        refine gx_callV X d_Re_openBefore_26 mf_Re_leastInput lk_Re_65 (c_Re_leastInput HX hS hP (k := k) (q := i) (e0 := e0) hk (by omega) h29 he) (HX _ rfl).1 (HX _ rfl).2 rfl rfl rfl (Nat.le_of_ble_eq_true rfl) ⟨by decide, by decide⟩ ⟨rfl, rfl⟩ ⟨Nat.zero_le _, Nat.zero_le _⟩ (fun r26 F26 L26 hp26 => ?_)
        obtain ⟨rfl, rfl, rfl⟩ := hp26
        rw [hrow]
        cases hfd : (List.range (chs w ek e0)).find? (fsO w ek ev tg (opB L (k + 1)) e0 i) with
        | none =>
          refine gx_if_lt X d_Re_openBefore_29 (tgt := 52) (by decide) (fun h29 => ?_) (fun h29 => ?_)
          · refine gx_iinc X d_Re_openBefore_52 rfl (pu_inc _) ?_
            refine gx_goto X d_Re_openBefore_55 (tgt := 12) (by decide) ?_
            refine gx_el (ih (i + 1) L26 (by omega) h1 (fun q hq => ?_)) ⟨rfl, rfl, rfl, trivial⟩
            rw [h2 q hq]
            by_cases e2 : q = i
            · rw [e2, hfd]; simp
            · congr 1
              by_cases e3 : q < i
              · rw [decide_eq_true e3, decide_eq_true (show q < i + 1 by omega)]
              · rw [decide_eq_false e3, decide_eq_false (show ¬ q < i + 1 by omega)]
          · exact absurd (show (-1 : Int32) < 0 by decide) h29
        | some x =>
          have hx8 : x < 2 ^ 31 := by
            have := (chs_le hw ek e0).1
            have h3 := List.mem_range.mp (List.mem_of_find?_eq_some hfd)
            omega
          refine gx_if_lt X d_Re_openBefore_29 (tgt := 52) (by decide) (fun h29 => ?_) (fun h29 => ?_)
          · exact absurd h29 (nI_pos hx8)
          · refine gx_aload_n X d_Re_openBefore_32 rfl rfl ?_
            refine gx_getr X d_Re_openBefore_33 (gci in_Re) (HX _ rfl).1 (HX _ rfl).2 rfl 3 (by decide) (gcw X lk_Re_38) (fun _ h => h) rfl ?_
            refine gx_iload_n X d_Re_openBefore_36 rfl rfl ?_
            refine gx_aald X d_Re_openBefore_37 (HX _ rfl).1 (HX _ rfl).2 rfl rfl rfl (by omega) (by omega) ?_
            refine gx_iload_n X d_Re_openBefore_38 rfl rfl ?_
            refine gx_bipush X d_Re_openBefore_39 (v := nI 6) (by decide) ?_
            refine gx_ishr X d_Re_openBefore_41 ?_
            refine gx_top (y := nI (i / 64)) (pk_shrN (by omega) _ 6 (by decide)) ?_
            refine gx_dup2_11 X d_Re_openBefore_42 rfl rfl ?_
            refine gx_lald X d_Re_openBefore_43 (hxO HX (e := k) (by omega)).1 (hxO HX (e := k) (by omega)).2 rfl (by omega) (by omega) ?_
            refine gx_lconst X d_Re_openBefore_44 (v := 1) (by decide) ?_
            refine gx_iload_n X d_Re_openBefore_45 rfl rfl ?_
            refine gx_bipush X d_Re_openBefore_46 (v := nI 63) (by decide) ?_
            refine gx_iand X d_Re_openBefore_48 ?_
            refine gx_top (y := nI (i % 64)) (pk_andN (by omega) 6 (by decide)) ?_
            refine gx_lshl X d_Re_openBefore_49 rfl ?_
            refine gx_lor X d_Re_openBefore_50 ?_
            refine gx_last X d_Re_openBefore_51 (hxO HX (e := k) (by omega)).1 (hxO HX (e := k) (by omega)).2 rfl (by omega) (by omega) ?_
            refine gx_iinc X d_Re_openBefore_52 rfl (pu_inc _) ?_
            refine gx_goto X d_Re_openBefore_55 (tgt := 12) (by decide) ?_
            refine gx_el (ih (i + 1) _ (by omega) (fun a ha => by rw [gxU_cell ha]; exact h1 a ha) (fun q hq => ?_)) ⟨rfl, rfl, rfl, trivial⟩
            rw [opB_set _ rfl, h2 q hq]
            by_cases e2 : q = i
            · rw [e2, hfd]; simp
            · have h4 : Nat.beq q i = false := by
                cases hc : Nat.beq q i with
                | false => rfl
                | true => exact absurd (Nat.eq_of_beq_eq_true hc) e2
              rw [h4, Bool.or_false]
              congr 1
              by_cases e3 : q < i
              · rw [decide_eq_true e3, decide_eq_true (show q < i + 1 by omega)]
              · rw [decide_eq_false e3, decide_eq_false (show ¬ q < i + 1 by omega)]
  refine gx_el (loop (2 ^ (3 * w)) 0 _ (by omega) (fun a ha => flL_cell ha) (fun q hq => ?_)) ⟨rfl, rfl, rfl, trivial⟩
  unfold opB
  rw [flL_in (by omega) (by omega), tb_0]
  simp
end
