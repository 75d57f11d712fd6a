section
variable {l : Launch} {D : va_G} {ca : Nat → ClassId} {ks : List Nat} {lay : Nat → gxE} {ad : Nat → Nat} {F : Nat → Nat → Int32} {L : Nat → Nat → Int64} {w np : Nat} {sg : Nat → Nat}
/-- the signatures of the states: np bits each -/
def SgOK (F : Nat → Nat → Int32) (N np : Nat) (sg : Nat → Nat) : Prop := np ≤ 12 ∧ F 14 1 = nI np ∧ ∀ s, s < N → F 15 s = nI (sg s) ∧ sg s < 2 ^ np
theorem pw12 : ∀ n, n ≤ 12 → 2 ^ n ≤ 4096 := by
  intro n h
  exact Nat.pow_le_pow_right (by decide) h
theorem m1ne0 {b : Bool} : (cond b (nI 0) (-1) : Int32) = 0 ↔ b = true := by cases b <;> decide
set_option maxHeartbeats 4000000 in
theorem c_Gr_numberGroups (HX : gH ks lay (2 ^ (3 * w)) sG) (hS : SpOK F w) (hG : SgOK F (2 ^ (3 * w)) np sg) : Con l y_Gr_numberGroups (Cond.code y_Gr_numberGroups b_Gr_numberGroups 3 none :: WT) rm_Gr_numberGroups D vcl ca ks lay ad [xR 14] F L (fun r F' L' => r = none ∧ L' = L ∧ (∀ a, a ≠ 14 → a ≠ 19 → F' a = F a) ∧ F' 14 1 = F 14 1 ∧ F' 14 3 = nI (cnt (prs (2 ^ (3 * w)) sg) (2 ^ np)) ∧ ∀ p, p < 2 ^ np → F' 19 p = cond (prs (2 ^ (3 * w)) sg p) (nI (cnt (prs (2 ^ (3 * w)) sg) p)) (-1)) := by
  have hw : w < 4 := by have := hS.1; omega
  have hN := pu_N w hw
  obtain ⟨hnp, hc, hsg⟩ := hG
  have h4 := pw12 np hnp
  generalize hNe : 2 ^ (3 * w) = N at *
  refine Con.ofK (fun post K => ?_)
  refine Con.of (ls := [(0, xR 14)]) (by decide) rfl rfl (Nat.le_of_ble_eq_true rfl) ?_
  intro p e s m args below meth c A X hr hA
  refine gx_iconst X d_Gr_numberGroups_0 (v := nI 1) (by decide) ?_
  refine gx_aload_n X d_Gr_numberGroups_1 rfl rfl ?_
  refine gx_geti X d_Gr_numberGroups_2 (gci in_Gr) (HX _ rfl).1 (HX _ rfl).2 rfl 1 (by decide) (gcw X lk_Gr_9) (fun _ h => h) rfl ?_
  refine gx_top hc ?_
  refine gx_ishl X d_Gr_numberGroups_5 ?_
  refine gx_top (sh1 np (by omega)) ?_
  refine gx_istore_n X d_Gr_numberGroups_6 rfl (by decide) ?_
  refine gx_aload_n X d_Gr_numberGroups_7 rfl rfl ?_
  refine gx_getr X d_Gr_numberGroups_8 (gci in_Gr) (HX _ rfl).1 (HX _ rfl).2 rfl 7 (by decide) (gcw X lk_Gr_18) (fun _ h => h) rfl ?_
  refine gx_iconst X d_Gr_numberGroups_11 (v := nI 0) (by decide) ?_
  refine gx_iload_n X d_Gr_numberGroups_12 rfl rfl ?_
  refine gx_iconst X d_Gr_numberGroups_13 (v := (-1)) (by decide) ?_
  refine gx_callS X d_Gr_numberGroups_14 mf_Ar_fill_aIIII lk_Gr_55 (c_fill_IR (HX 19 rfl).1 (n := 4096) (HX 19 rfl).2 (by decide) (a := 0) (b := 2 ^ np) (Nat.zero_le _) h4 (-1)) rfl rfl (Nat.le_of_ble_eq_true rfl) ⟨by decide, by decide⟩ ⟨rfl, rfl⟩ ⟨Nat.zero_le _, Nat.zero_le _⟩ (fun r14 F14 L14 hp14 => ?_)
  obtain ⟨rfl, rfl, rfl⟩ := hp14
  have e14 : ∀ a, a ≠ 19 → flF F 19 0 (2 ^ np) (-1) a = F a := fun a h => flF_cell h
  refine gx_iconst X d_Gr_numberGroups_17 (v := nI 0) (by decide) ?_
  refine gx_istore_n X d_Gr_numberGroups_18 rfl (by decide) ?_
  -- the third loop: numbers
  have loop2 : ∀ (d i : Nat) (G : Nat → Nat → Int32), i + d = 2 ^ np → (∀ a, a ≠ 14 → a ≠ 19 → G a = F a) → G 14 1 = F 14 1 → G 14 3 = nI (cnt (prs N sg) i) → (∀ p, p < 2 ^ np → G 19 p = cond (prs N sg p) (if p < i then nI (cnt (prs N sg) p) else nI 0) (-1)) → GX p l e rm_Gr_numberGroups s m args below meth c (MQ below (gxQ D vcl ca ks lay ad s.heap.size post) args s 0 0 (gxA ks ad s.heap.size)) 3 A D vcl ca ks lay ad 0 0 55 [(2, xI (nI i)), (1, xI (nI (2 ^ np))), (0, xR 14)] [] G L14 := by
    intro d
    induction d with
    | zero =>
      intro i G hd h1 h2 h3 h5
      refine gx_iload_n X d_Gr_numberGroups_55 rfl rfl ?_
      refine gx_iload_n X d_Gr_numberGroups_56 rfl rfl ?_
      refine gx_icmp_ge X d_Gr_numberGroups_57 (tgt := 95) (by decide) (fun h57 => ?_) (fun h57 => ?_)
      · refine gx_vret X hr hA d_Gr_numberGroups_95 (K _ _ _ ⟨rfl, rfl, h1, h2, by rw [h3, show i = 2 ^ np by omega], fun p hp => ?_⟩)
        rw [h5 p hp, if_pos (by omega)]
      · exact absurd ((nI_leI (by omega) (by omega)).mpr (by omega)) h57
    | succ d ih =>
      intro i G hd h1 h2 h3 h5
      have hle : cnt (prs N sg) i ≤ i := cnt_le _ _
      have hi := h5 i (by omega)
      rw [if_neg (by omega)] at hi
      refine gx_iload_n X d_Gr_numberGroups_55 rfl rfl ?_
      refine gx_iload_n X d_Gr_numberGroups_56 rfl rfl ?_
      refine gx_icmp_ge X d_Gr_numberGroups_57 (tgt := 95) (by decide) (fun h57 => ?_) (fun h57 => ?_)
      · exact absurd ((nI_leI (by omega) (by omega)).mp h57) (by omega)
      · refine gx_aload_n X d_Gr_numberGroups_60 rfl rfl ?_
        refine gx_getr X d_Gr_numberGroups_61 (gci in_Gr) (HX _ rfl).1 (HX _ rfl).2 rfl 7 (by decide) (gcw X lk_Gr_18) (fun _ h => h) rfl ?_
        refine gx_iload_n X d_Gr_numberGroups_64 rfl rfl ?_
        refine gx_iald X d_Gr_numberGroups_65 (HX _ rfl).1 (HX _ rfl).2 rfl (by omega) (by omega) ?_
        refine gx_top hi ?_
        refine gx_if_ne X d_Gr_numberGroups_66 (tgt := 89) (by decide) (fun h66 => ?_) (fun h66 => ?_)
        · have hp : prs N sg i = false := by
            cases e : prs N sg i with
            | false => rfl
            | true => exact absurd (m1ne0.mpr e) h66
          refine gx_iinc X d_Gr_numberGroups_89 rfl (pu_inc _) ?_
          refine gx_goto X d_Gr_numberGroups_92 (tgt := 55) (by decide) ?_
          refine gx_el (ih (i + 1) G (by omega) h1 h2 (by rw [h3]; show _ = nI (cnt _ i + cond (prs N sg i) 1 0); rw [hp]; rfl) (fun p hp2 => ?_)) ⟨rfl, rfl, rfl, trivial⟩
          rw [h5 p hp2]
          by_cases e : p = i
          · rw [e, hp]; rfl
          · by_cases e2 : p < i
            · rw [if_pos e2, if_pos (by omega)]
            · rw [if_neg e2, if_neg (by omega)]
        · have hp : prs N sg i = true := m1ne0.mp h66
          refine gx_aload_n X d_Gr_numberGroups_69 rfl rfl ?_
          refine gx_getr X d_Gr_numberGroups_70 (gci in_Gr) (HX _ rfl).1 (HX _ rfl).2 rfl 7 (by decide) (gcw X lk_Gr_18) (fun _ h => h) rfl ?_
          refine gx_iload_n X d_Gr_numberGroups_73 rfl rfl ?_
          refine gx_aload_n X d_Gr_numberGroups_74 rfl rfl ?_
          refine gx_geti X d_Gr_numberGroups_75 (gci in_Gr) (HX _ rfl).1 (HX _ rfl).2 rfl 3 (by decide) (gcw X lk_Gr_15) (fun _ h => h) rfl ?_
          refine gx_top h3 ?_
          refine gx_iast X d_Gr_numberGroups_78 (HX _ rfl).1 (HX _ rfl).2 rfl (by omega) (by omega) ?_
          refine gx_aload_n X d_Gr_numberGroups_79 rfl rfl ?_
          refine gx_dup X d_Gr_numberGroups_80 rfl ?_
          refine gx_geti X d_Gr_numberGroups_81 (gci in_Gr) (HX _ rfl).1 (HX _ rfl).2 rfl 3 (by decide) (gcw X lk_Gr_15) (fun _ h => h) rfl ?_
          refine gx_top (y := nI (cnt (prs N sg) i)) (by rw [gxu_cell (by decide)]; exact h3) ?_
          refine gx_iconst X d_Gr_numberGroups_84 (v := nI 1) (by decide) ?_
          refine gx_iadd X d_Gr_numberGroups_85 ?_
          refine gx_top (nI_add _ 1) ?_
          refine gx_puti X d_Gr_numberGroups_86 (gci in_Gr) (HX _ rfl).1 (HX _ rfl).2 rfl 3 (by decide) (gcw X lk_Gr_15) (fun _ h => h) t_Gr ty_Gr nm_Gr rfl (ty_Gr 3 (by decide)) rfl rfl rfl ?_
          refine gx_iinc X d_Gr_numberGroups_89 rfl (pu_inc _) ?_
          refine gx_goto X d_Gr_numberGroups_92 (tgt := 55) (by decide) ?_
          refine gx_el (ih (i + 1) _ (by omega) (fun a a1 a2 => by rw [gxu_cell a1, gxu_cell a2]; exact h1 a a1 a2) (by rw [gxu_ne (by decide), gxu_cell (by decide)]; exact h2) (by rw [gxu_at]; show _ = nI (cnt _ i + cond (prs N sg i) 1 0); rw [hp]; rfl) (fun p hp2 => ?_)) ⟨rfl, rfl, rfl, trivial⟩
          rw [gxu_cell (by decide)]
          by_cases e : p = i
          · rw [e, gxu_at, hp, if_pos (by omega)]; rfl
          · rw [gxu_ne (by omega), h5 p hp2]
            by_cases e2 : p < i
            · rw [if_pos e2, if_pos (by omega)]
            · rw [if_neg e2, if_neg (by omega)]
  -- the first loop: which signatures there are
  have loop1 : ∀ (d i : Nat) (G : Nat → Nat → Int32), i + d = N → (∀ a, a ≠ 19 → G a = F a) → (∀ p, p < 2 ^ np → G 19 p = cond (prs i sg p) (nI 0) (-1)) → GX p l e rm_Gr_numberGroups s m args below meth c (MQ below (gxQ D vcl ca ks lay ad s.heap.size post) args s 0 0 (gxA ks ad s.heap.size)) 3 A D vcl ca ks lay ad 0 0 19 [(2, xI (nI i)), (1, xI (nI (2 ^ np))), (0, xR 14)] [] G L14 := by
    intro d
    induction d with
    | zero =>
      intro i G hd h1 h2
      have e12 : G 1 2 = nI N := by rw [h1 1 (by decide), hS.2.2.2, hNe]
      refine gx_iload_n X d_Gr_numberGroups_19 rfl rfl ?_
      refine gx_aload_n X d_Gr_numberGroups_20 rfl rfl ?_
      refine gx_getr X d_Gr_numberGroups_21 (gci in_Gr) (HX _ rfl).1 (HX _ rfl).2 rfl 0 (by decide) (gcw X lk_Gr_22) (fun _ h => h) rfl ?_
      refine gx_geti X d_Gr_numberGroups_24 (gci in_Sp) (HX _ rfl).1 (HX _ rfl).2 rfl 2 (by decide) (gcw X lk_Gr_26) (fun _ h => h) rfl ?_
      refine gx_top e12 ?_
      refine gx_icmp_ge X d_Gr_numberGroups_27 (tgt := 48) (by decide) (fun h27 => ?_) (fun h27 => ?_)
      · refine gx_aload_n X d_Gr_numberGroups_48 rfl rfl ?_
        refine gx_iconst X d_Gr_numberGroups_49 (v := nI 0) (by decide) ?_
        refine gx_puti X d_Gr_numberGroups_50 (gci in_Gr) (HX _ rfl).1 (HX _ rfl).2 rfl 3 (by decide) (gcw X lk_Gr_15) (fun _ h => h) t_Gr ty_Gr nm_Gr rfl (ty_Gr 3 (by decide)) rfl rfl rfl ?_
        refine gx_iconst X d_Gr_numberGroups_53 (v := nI 0) (by decide) ?_
        refine gx_istore_n X d_Gr_numberGroups_54 rfl (by decide) ?_
        refine gx_el (loop2 (2 ^ np) 0 _ (by omega) (fun a a1 a2 => by rw [gxu_cell a1]; exact h1 a a2) (by rw [gxu_ne (by decide), h1 14 (by decide)]) gxu_at (fun p hp => ?_)) ⟨rfl, rfl, rfl, trivial⟩
        rw [gxu_cell (by decide), h2 p hp, show i = N by omega, if_neg (by omega)]
      · exact absurd ((nI_leI (by omega) (by omega)).mpr (by omega)) h27
    | succ d ih =>
      intro i G hd h1 h2
      have e12 : G 1 2 = nI N := by rw [h1 1 (by decide), hS.2.2.2, hNe]
      obtain ⟨q1, q2⟩ := hsg i (by omega)
      refine gx_iload_n X d_Gr_numberGroups_19 rfl rfl ?_
      refine gx_aload_n X d_Gr_numberGroups_20 rfl rfl ?_
      refine gx_getr X d_Gr_numberGroups_21 (gci in_Gr) (HX _ rfl).1 (HX _ rfl).2 rfl 0 (by decide) (gcw X lk_Gr_22) (fun _ h => h) rfl ?_
      refine gx_geti X d_Gr_numberGroups_24 (gci in_Sp) (HX _ rfl).1 (HX _ rfl).2 rfl 2 (by decide) (gcw X lk_Gr_26) (fun _ h => h) rfl ?_
      refine gx_top e12 ?_
      refine gx_icmp_ge X d_Gr_numberGroups_27 (tgt := 48) (by decide) (fun h27 => ?_) (fun h27 => ?_)
      · exact absurd ((nI_leI (by omega) (by omega)).mp h27) (by omega)
      · refine gx_aload_n X d_Gr_numberGroups_30 rfl rfl ?_
        refine gx_getr X d_Gr_numberGroups_31 (gci in_Gr) (HX _ rfl).1 (HX _ rfl).2 rfl 7 (by decide) (gcw X lk_Gr_18) (fun _ h => h) rfl ?_
        refine gx_aload_n X d_Gr_numberGroups_34 rfl rfl ?_
        refine gx_getr X d_Gr_numberGroups_35 (gci in_Gr) (HX _ rfl).1 (HX _ rfl).2 rfl 2 (by decide) (gcw X lk_Gr_31) (fun _ h => h) rfl ?_
        refine gx_iload_n X d_Gr_numberGroups_38 rfl rfl ?_
        refine gx_iald X d_Gr_numberGroups_39 (HX _ rfl).1 (HX _ rfl).2 rfl (by omega) (by omega) ?_
        refine gx_top (y := nI (sg i)) (by rw [h1 15 (by decide)]; exact q1) ?_
        refine gx_iconst X d_Gr_numberGroups_40 (v := nI 0) (by decide) ?_
        refine gx_iast X d_Gr_numberGroups_41 (HX _ rfl).1 (HX _ rfl).2 rfl (by omega) (by omega) ?_
        refine gx_iinc X d_Gr_numberGroups_42 rfl (pu_inc _) ?_
        refine gx_goto X d_Gr_numberGroups_45 (tgt := 19) (by decide) ?_
        refine gx_el (ih (i + 1) _ (by omega) (fun a a1 => by rw [gxu_cell a1]; exact h1 a a1) (fun p hp => ?_)) ⟨rfl, rfl, rfl, trivial⟩
        rw [prs_succ]
        by_cases e : p = sg i
        · rw [e, gxu_at, Nat.beq_refl, Bool.or_true]; rfl
        · have e2 : Nat.beq (sg i) p = false := by
            cases e3 : Nat.beq (sg i) p with
            | false => rfl
            | true => exact absurd (Nat.eq_of_beq_eq_true e3).symm e
          rw [gxu_ne (by omega), h2 p hp, e2, Bool.or_false]
  refine gx_el (loop1 N 0 _ (by omega) e14 (fun p hp => ?_)) ⟨rfl, rfl, rfl, trivial⟩
  rw [flF_in (by omega) hp]
  rfl
end
