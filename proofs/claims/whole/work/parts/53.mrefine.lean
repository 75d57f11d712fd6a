/-! the reference's refinement: its steps (own text) -/
section
variable {l : Launch} {D : va_G} {ca : Nat → ClassId} {ks : List Nat} {lay : Nat → gxE} {ad : Nat → Nat} {F : Nat → Nat → Int32} {L : Nat → Nat → Int64} {N w ne np : Nat} {ef et ek ev : Nat → Nat} {tg : Nat → Nat → Option Nat} {sg : Nat → Nat} {S : Nat → Bool}
theorem exS_bit {k q : Nat} (hq : sg q < 2 ^ np) : (k < np → (exS sg np S q).testBit k = (sg q).testBit k) ∧ (exS sg np S q).testBit np = S q := by
  unfold exS
  cases hb : S q with
  | false =>
    simp only [cond_false, Nat.add_zero]
    exact ⟨fun _ => trivial, Nat.testBit_lt_two_pow hq⟩
  | true =>
    simp only [cond_true]
    rw [Nat.add_comm]
    refine ⟨fun h => Nat.testBit_two_pow_add_gt h _, ?_⟩
    rw [Nat.testBit_two_pow_add_eq, Nat.testBit_lt_two_pow hq]
    rfl
set_option maxHeartbeats 4000000 in
theorem c_Mo_addWork (HX : gH ks lay N sM) (hS : MsOK F w) (hG : MgOK F L (2 ^ (3 * w)) np sg) (hnp : np < 12) (hW : WkOK F (2 ^ (3 * w)) S) : Con l y_Mo_addWork (Cond.code y_Mo_addWork b_Mo_addWork 2 none :: WT) rm_Mo_addWork D vcl ca ks lay ad [xR 40] F L (fun r F' L' => r = none ∧ (∀ a, a ≠ 47 → L' a = L a) ∧ (∀ a, a ≠ 40 → a ≠ 48 → F' a = F a) ∧ (∀ j, j ≠ 12 → F' 40 j = F 40 j) ∧ MgOK F' L' (2 ^ (3 * w)) (np + 1) (exS sg np S)) := by
  have hw : w < 4 := by have := hS.1; omega
  have hN := pu_N w hw
  obtain ⟨g1, g2, g3⟩ := hG
  have hp12 : 2 ^ np ≤ 4096 := pw12 np g1
  have hsh := sh1 np (by omega)
  refine Con.ofK (fun post K => ?_)
  refine Con.of (ls := [(0, xR 40)]) (by decide) rfl rfl (Nat.le_of_ble_eq_true rfl) ?_
  intro p e s m args below meth c A X hr hA
  have loop2 : ∀ (d i : Nat) (G : Nat → Nat → Int32) (M : Nat → Nat → Int64), i + d = 2 ^ (3 * w) → (∀ a, a ≠ 47 → M a = L a) → (∀ j, j < 8 * np → M 47 j = L 47 j) → (∀ q, q < 512 → bB M 47 (8 * np) q = (decide (q < i) && S q)) → (∀ a, a ≠ 48 → G a = F a) → (∀ q, q < 2 ^ (3 * w) → G 48 q = nI (if q < i then exS sg np S q else sg q)) → GX p l e rm_Mo_addWork s m args below meth c (MQ below (gxQ D vcl ca ks lay ad s.heap.size post) args s 0 0 (gxA ks ad s.heap.size)) 2 A D vcl ca ks lay ad 0 0 37 [(1, xI (nI i)), (0, xR 40)] [] G M := by
    intro d
    induction d with
    | zero =>
      intro i G M hd f1 f2 f3 f4 f5
      refine gx_iload_n X d_Mo_addWork_37 rfl rfl ?_
      refine gx_aload_n X d_Mo_addWork_38 rfl rfl ?_
      refine gx_geti X d_Mo_addWork_39 (gci in_Mo) (HX _ rfl).1 (HX _ rfl).2 rfl 2 (by decide) (gcw X lk_Mo_82) (fun _ h => h) rfl ?_
      refine gx_top (y := nI (2 ^ (3 * w))) (by rw [f4 40 (by decide)]; exact hS.2.2.2) ?_
      refine gx_icmp_ge X d_Mo_addWork_42 (tgt := 104) (by decide) (fun h42 => ?_) (fun h42 => ?_)
      · refine gx_aload_n X d_Mo_addWork_104 rfl rfl ?_
        refine gx_dup X d_Mo_addWork_105 rfl ?_
        refine gx_geti X d_Mo_addWork_106 (gci in_Mo) (HX _ rfl).1 (HX _ rfl).2 rfl 12 (by decide) (gcw X lk_Mo_155) (fun _ h => h) rfl ?_
        refine gx_top (y := nI np) (by rw [f4 40 (by decide)]; exact g2) ?_
        refine gx_iconst X d_Mo_addWork_109 (v := nI 1) (by decide) ?_
        refine gx_iadd X d_Mo_addWork_110 ?_
        refine gx_top (nI_add np 1) ?_
        refine gx_puti X d_Mo_addWork_111 (gci in_Mo) (HX _ rfl).1 (HX _ rfl).2 rfl 12 (by decide) (gcw X lk_Mo_155) (fun _ h => h) t_Mo ty_Mo nm_Mo rfl (ty_Mo 12 (by decide)) rfl rfl rfl ?_
        refine gx_vret X hr hA d_Mo_addWork_114 (K _ _ _ ⟨rfl, f1, fun a b1 b2 => by rw [gxu_cell b1]; exact f4 a b2, fun j b1 => by rw [gxu_ne (fun z => b1 z.2), f4 40 (by decide)], by omega, gxu_at, fun q hq => ⟨by rw [gxu_cell (by decide), f5 q hq, if_pos (by omega)], exS_lt (N := 2 ^ (3 * w)) (fun q hq => (g3 q hq).2.1) S q hq, fun k hk => ?_⟩⟩)
        obtain ⟨-, c2, c3⟩ := g3 q hq
        obtain ⟨x1, x2⟩ := exS_bit (S := S) (k := k) c2
        by_cases e1 : k = np
        · rw [e1, x2, f3 q (by omega), decide_eq_true (by omega), Bool.true_and]
        · rw [x1 (by omega), ← c3 k (by omega)]
          unfold bB
          rw [f2 _ (by omega)]
      · exact absurd ((nI_leI (by omega) (by omega)).mpr (by omega)) h42
    | succ d ih =>
      intro i G M hd f1 f2 f3 f4 f5
      have h12 : G 40 12 = nI np := by rw [f4 40 (by decide)]; exact g2
      have step : ∀ q, q < 512 → ¬ q = i → (decide (q < i + 1) && S q) = (decide (q < i) && S q) := fun q _ hne => by
        by_cases e3 : q < i
        · rw [decide_eq_true e3, decide_eq_true (show q < i + 1 by omega)]
        · rw [decide_eq_false e3, decide_eq_false (show ¬ q < i + 1 by omega)]
      have step2 : ∀ q, ¬ q = i → (if q < i + 1 then exS sg np S q else sg q) = (if q < i then exS sg np S q else sg q) := fun q hne => by
        by_cases e3 : q < i
        · rw [if_pos e3, if_pos (show q < i + 1 by omega)]
        · rw [if_neg e3, if_neg (show ¬ q < i + 1 by omega)]
      refine gx_iload_n X d_Mo_addWork_37 rfl rfl ?_
      refine gx_aload_n X d_Mo_addWork_38 rfl rfl ?_
      refine gx_geti X d_Mo_addWork_39 (gci in_Mo) (HX _ rfl).1 (HX _ rfl).2 rfl 2 (by decide) (gcw X lk_Mo_82) (fun _ h => h) rfl ?_
      refine gx_top (y := nI (2 ^ (3 * w))) (by rw [f4 40 (by decide)]; exact hS.2.2.2) ?_
      refine gx_icmp_ge X d_Mo_addWork_42 (tgt := 104) (by decide) (fun h42 => ?_) (fun h42 => ?_)
      · exact absurd ((nI_leI (by omega) (by omega)).mp h42) (by omega)
      · refine gx_aload_n X d_Mo_addWork_45 rfl rfl ?_
        refine gx_getr X d_Mo_addWork_46 (gci in_Mo) (HX _ rfl).1 (HX _ rfl).2 rfl 28 (by decide) (gcw X lk_Mo_66) (fun _ h => h) rfl ?_
        refine gx_iload_n X d_Mo_addWork_49 rfl rfl ?_
        refine gx_zald X d_Mo_addWork_50 (HX _ rfl).1 (HX _ rfl).2 rfl (by omega) (by omega) ?_
        refine gx_top (y := cond (S i) 1 0) (by rw [f4 57 (by decide)]; exact hW i (by omega)) ?_
        cases hb : S i with
        | false =>
          refine gx_if_ne X d_Mo_addWork_51 (tgt := 57) (by decide) (fun h51 => ?_) (fun h51 => ?_)
          · exact absurd rfl h51
          · refine gx_goto X d_Mo_addWork_54 (tgt := 98) (by decide) ?_
            refine gx_iinc X d_Mo_addWork_98 rfl (pu_inc _) ?_
            refine gx_goto X d_Mo_addWork_101 (tgt := 37) (by decide) ?_
            refine gx_el (ih (i + 1) G M (by omega) f1 f2 (fun q hq => ?_) f4 (fun q hq => ?_)) ⟨rfl, rfl, trivial⟩
            · rw [f3 q hq]
              by_cases e1 : q = i
              · rw [e1, hb, Bool.and_false, Bool.and_false]
              · rw [step q hq e1]
            · rw [f5 q hq]
              by_cases e1 : q = i
              · rw [e1, if_neg (by omega), if_pos (by omega)]
                unfold exS
                rw [hb]
                rfl
              · rw [step2 q e1]
        | true =>
          refine gx_if_ne X d_Mo_addWork_51 (tgt := 57) (by decide) (fun h51 => ?_) (fun h51 => ?_)
          · refine gx_aload_n X d_Mo_addWork_57 rfl rfl ?_
            refine gx_getr X d_Mo_addWork_58 (gci in_Mo) (HX _ rfl).1 (HX _ rfl).2 rfl 13 (by decide) (gcw X lk_Mo_29) (fun _ h => h) rfl ?_
            refine gx_bipush X d_Mo_addWork_61 (v := nI 8) (by decide) ?_
            refine gx_aload_n X d_Mo_addWork_63 rfl rfl ?_
            refine gx_geti X d_Mo_addWork_64 (gci in_Mo) (HX _ rfl).1 (HX _ rfl).2 rfl 12 (by decide) (gcw X lk_Mo_155) (fun _ h => h) rfl ?_
            refine gx_top h12 ?_
            refine gx_imul X d_Mo_addWork_67 ?_
            refine gx_top (pk_mul 8 np) ?_
            refine gx_iload_n X d_Mo_addWork_68 rfl rfl ?_
            refine gx_bipush X d_Mo_addWork_69 (v := nI 64) (by decide) ?_
            refine gx_idiv X d_Mo_addWork_71 (by decide) ?_
            refine gx_top (y := nI (i / 64)) (pk_div (by omega) (by decide) (by decide)) ?_
            refine gx_iadd X d_Mo_addWork_72 ?_
            refine gx_top (nI_add (8 * np) (i / 64)) ?_
            first | refine gx_dup2_11 X d_Mo_addWork_73 rfl rfl ?_ | refine gx_dup2_2 X d_Mo_addWork_73 rfl ?_
            refine gx_lald X d_Mo_addWork_74 (HX _ rfl).1 (HX _ rfl).2 rfl (by omega) (by omega) ?_
            refine gx_lconst X d_Mo_addWork_75 (v := 1) (by decide) ?_
            refine gx_iload_n X d_Mo_addWork_76 rfl rfl ?_
            refine gx_bipush X d_Mo_addWork_77 (v := nI 64) (by decide) ?_
            refine gx_irem X d_Mo_addWork_79 (by decide) ?_
            refine gx_top (y := nI (i % 64)) (pk_rem (by omega) (by decide) (by decide)) ?_
            refine gx_lshl X d_Mo_addWork_80 rfl ?_
            refine gx_lor X d_Mo_addWork_81 ?_
            refine gx_last X d_Mo_addWork_82 (HX _ rfl).1 (HX _ rfl).2 rfl (by omega) (by omega) ?_
            refine gx_aload_n X d_Mo_addWork_83 rfl rfl ?_
            refine gx_getr X d_Mo_addWork_84 (gci in_Mo) (HX _ rfl).1 (HX _ rfl).2 rfl 14 (by decide) (gcw X lk_Mo_32) (fun _ h => h) rfl ?_
            refine gx_iload_n X d_Mo_addWork_87 rfl rfl ?_
            first | refine gx_dup2_11 X d_Mo_addWork_88 rfl rfl ?_ | refine gx_dup2_2 X d_Mo_addWork_88 rfl ?_
            refine gx_iald X d_Mo_addWork_89 (HX _ rfl).1 (HX _ rfl).2 rfl (by omega) (by omega) ?_
            refine gx_top (y := nI (sg i)) (by rw [f5 i (by omega), if_neg (by omega)]) ?_
            refine gx_iconst X d_Mo_addWork_90 (v := nI 1) (by decide) ?_
            refine gx_aload_n X d_Mo_addWork_91 rfl rfl ?_
            refine gx_geti X d_Mo_addWork_92 (gci in_Mo) (HX _ rfl).1 (HX _ rfl).2 rfl 12 (by decide) (gcw X lk_Mo_155) (fun _ h => h) rfl ?_
            refine gx_top h12 ?_
            refine gx_ishl X d_Mo_addWork_95 ?_
            refine gx_top hsh ?_
            refine gx_ior X d_Mo_addWork_96 ?_
            refine gx_top (or_bit np hnp (sg i) (g3 i (by omega)).2.1) ?_
            refine gx_iast X d_Mo_addWork_97 (HX _ rfl).1 (HX _ rfl).2 rfl (by omega) (by omega) ?_
            refine gx_iinc X d_Mo_addWork_98 rfl (pu_inc _) ?_
            refine gx_goto X d_Mo_addWork_101 (tgt := 37) (by decide) ?_
            refine gx_el (ih (i + 1) _ _ (by omega) (fun a b1 => by rw [gxU_cell b1]; exact f1 a b1) (fun j hj => by rw [gxU_ne (fun z => by omega)]; exact f2 j hj) (fun q hq => ?_) (fun a b1 => by rw [gxu_cell b1]; exact f4 a b1) (fun q hq => ?_)) ⟨rfl, rfl, trivial⟩
            · rw [bB_set _ rfl, f3 q hq]
              by_cases e1 : q = i
              · rw [e1, hb]; simp
              · rw [beq_ne e1, Bool.or_false, step q hq e1]
            · by_cases e1 : q = i
              · rw [e1, gxu_at, if_pos (by omega)]
                unfold exS
                rw [hb]
                rfl
              · rw [gxu_ne (fun z => e1 z.2), f5 q hq, step2 q e1]
          · exact absurd h51 (by decide)
  have loop1 : ∀ (d i : Nat) (M : Nat → Nat → Int64), i + d = 8 * np + 8 → 8 * np ≤ i → (∀ a, a ≠ 47 → M a = L a) → (∀ j, j < 8 * np → M 47 j = L 47 j) → (∀ j, 8 * np ≤ j → j < i → M 47 j = 0) → GX p l e rm_Mo_addWork s m args below meth c (MQ below (gxQ D vcl ca ks lay ad s.heap.size post) args s 0 0 (gxA ks ad s.heap.size)) 2 A D vcl ca ks lay ad 0 0 8 [(1, xI (nI i)), (0, xR 40)] [] F M := by
    intro d
    induction d with
    | zero =>
      intro i M hd hi f1 f2 f3
      refine gx_iload_n X d_Mo_addWork_8 rfl rfl ?_
      refine gx_bipush X d_Mo_addWork_9 (v := nI 8) (by decide) ?_
      refine gx_aload_n X d_Mo_addWork_11 rfl rfl ?_
      refine gx_geti X d_Mo_addWork_12 (gci in_Mo) (HX _ rfl).1 (HX _ rfl).2 rfl 12 (by decide) (gcw X lk_Mo_155) (fun _ h => h) rfl ?_
      refine gx_top g2 ?_
      refine gx_imul X d_Mo_addWork_15 ?_
      refine gx_top (pk_mul 8 np) ?_
      refine gx_bipush X d_Mo_addWork_16 (v := nI 8) (by decide) ?_
      refine gx_iadd X d_Mo_addWork_18 ?_
      refine gx_top (nI_add (8 * np) 8) ?_
      refine gx_icmp_ge X d_Mo_addWork_19 (tgt := 35) (by decide) (fun h19 => ?_) (fun h19 => ?_)
      · refine gx_iconst X d_Mo_addWork_35 (v := nI 0) (by decide) ?_
        refine gx_istore_n X d_Mo_addWork_36 rfl (by decide) ?_
        refine gx_el (loop2 (2 ^ (3 * w)) 0 F M (by omega) f1 f2 (fun q hq => ?_) (fun _ _ => rfl) (fun q hq => by rw [if_neg (by omega)]; exact (g3 q hq).1)) ⟨rfl, rfl, trivial⟩
        unfold bB
        rw [f3 _ (by omega) (by omega), tb_0]
        simp
      · exact absurd ((nI_leI (by omega) (by omega)).mpr (by omega)) h19
    | succ d ih =>
      intro i M hd hi f1 f2 f3
      refine gx_iload_n X d_Mo_addWork_8 rfl rfl ?_
      refine gx_bipush X d_Mo_addWork_9 (v := nI 8) (by decide) ?_
      refine gx_aload_n X d_Mo_addWork_11 rfl rfl ?_
      refine gx_geti X d_Mo_addWork_12 (gci in_Mo) (HX _ rfl).1 (HX _ rfl).2 rfl 12 (by decide) (gcw X lk_Mo_155) (fun _ h => h) rfl ?_
      refine gx_top g2 ?_
      refine gx_imul X d_Mo_addWork_15 ?_
      refine gx_top (pk_mul 8 np) ?_
      refine gx_bipush X d_Mo_addWork_16 (v := nI 8) (by decide) ?_
      refine gx_iadd X d_Mo_addWork_18 ?_
      refine gx_top (nI_add (8 * np) 8) ?_
      refine gx_icmp_ge X d_Mo_addWork_19 (tgt := 35) (by decide) (fun h19 => ?_) (fun h19 => ?_)
      · exact absurd ((nI_leI (by omega) (by omega)).mp h19) (by omega)
      · refine gx_aload_n X d_Mo_addWork_22 rfl rfl ?_
        refine gx_getr X d_Mo_addWork_23 (gci in_Mo) (HX _ rfl).1 (HX _ rfl).2 rfl 13 (by decide) (gcw X lk_Mo_29) (fun _ h => h) rfl ?_
        refine gx_iload_n X d_Mo_addWork_26 rfl rfl ?_
        refine gx_lconst X d_Mo_addWork_27 (v := 0) (by decide) ?_
        refine gx_last X d_Mo_addWork_28 (HX _ rfl).1 (HX _ rfl).2 rfl (by omega) (by omega) ?_
        refine gx_iinc X d_Mo_addWork_29 rfl (pu_inc _) ?_
        refine gx_goto X d_Mo_addWork_32 (tgt := 8) (by decide) ?_
        refine gx_el (ih (i + 1) _ (by omega) (by omega) (fun a b1 => by rw [gxU_cell b1]; exact f1 a b1) (fun j hj => by rw [gxU_ne (fun z => by omega)]; exact f2 j hj) (fun j b1 b2 => ?_)) ⟨rfl, rfl, trivial⟩
        by_cases e1 : j = i
        · rw [e1, gxU_at]
        · rw [gxU_ne (fun z => e1 z.2)]; exact f3 j b1 (by omega)
  refine gx_bipush X d_Mo_addWork_0 (v := nI 8) (by decide) ?_
  refine gx_aload_n X d_Mo_addWork_2 rfl rfl ?_
  refine gx_geti X d_Mo_addWork_3 (gci in_Mo) (HX _ rfl).1 (HX _ rfl).2 rfl 12 (by decide) (gcw X lk_Mo_155) (fun _ h => h) rfl ?_
  refine gx_top g2 ?_
  refine gx_imul X d_Mo_addWork_6 ?_
  refine gx_top (pk_mul 8 np) ?_
  refine gx_istore_n X d_Mo_addWork_7 rfl (by decide) ?_
  exact gx_el (loop1 8 (8 * np) L (by omega) (Nat.le_refl _) (fun _ _ => rfl) (fun _ _ => rfl) (fun j b1 b2 => absurd b1 (by omega))) ⟨rfl, rfl, trivial⟩
/-- a state before i of this signature is in the set -/
def sA (sg : Nat → Nat) (S : Nat → Bool) : Nat → Nat → Bool
  | 0, _ => false
  | i + 1, g => sA sg S i g || (Nat.beq (sg i) g && S i)
theorem sA_iff : ∀ {i g : Nat}, sA sg S i g = true ↔ ∃ s, s < i ∧ sg s = g ∧ S s = true
  | 0, g => ⟨fun z => (by cases z), fun ⟨s, c1, _⟩ => absurd c1 (Nat.not_lt_zero s)⟩
  | i + 1, g => by
    rw [sA, Bool.or_eq_true, Bool.and_eq_true, sA_iff]
    constructor
    · rintro (⟨s, c1, c2, c3⟩ | ⟨c1, c2⟩)
      · exact ⟨s, by omega, c2, c3⟩
      · exact ⟨i, by omega, Nat.eq_of_beq_eq_true c1, c2⟩
    · rintro ⟨s, c1, c2, c3⟩
      by_cases e1 : s = i
      · subst e1
        exact Or.inr ⟨by rw [c2]; simp, c3⟩
      · exact Or.inl ⟨s, by omega, c2, c3⟩
theorem sn_1 : ∀ a b : Bool, nI (cond a 1 0 + cond b 2 0) ||| nI 1 = nI (1 + cond b 2 0) := by decide
theorem sn_2 : ∀ a b : Bool, nI (cond a 1 0 + cond b 2 0) ||| nI 2 = nI (cond a 1 0 + 2) := by decide
theorem sn_3 : ∀ a b : Bool, decide (nI (cond a 1 0 + cond b 2 0) = nI 3) = (a && b) := by decide
set_option maxHeartbeats 8000000 in
theorem c_Mo_splits (HX : gH ks lay N sM) (hS : MsOK F w) (hG : MgOK F L (2 ^ (3 * w)) np sg) (hW : WkOK F (2 ^ (3 * w)) S) : Con l y_Mo_splits (Cond.code y_Mo_splits b_Mo_splits 3 (some .boolean) :: WT) rm_Mo_splits D vcl ca ks lay ad [xR 40] F L (fun r F' L' => r = some (xI (cond (splB (2 ^ (3 * w)) sg S) 1 0)) ∧ L' = L ∧ ∀ a, a ≠ 55 → F' a = F a) := by
  have hw : w < 4 := by have := hS.1; omega
  have hN := pu_N w hw
  have hnp := hG.1
  have hp12 : 2 ^ np ≤ 4096 := pw12 np hnp
  have hsh := sh1 np (by omega)
  refine Con.ofK (fun post K => ?_)
  refine Con.of (ls := [(0, xR 40)]) (by decide) rfl rfl (Nat.le_of_ble_eq_true rfl) ?_
  intro p e s m args below meth c A X hr hA
  have loop2 : ∀ (d i : Nat) (b : Bool) (G : Nat → Nat → Int32), i + d = 2 ^ (3 * w) → (b = true ↔ ∃ s t, s < i ∧ t < i ∧ sg s = sg t ∧ S s = true ∧ S t = false) → (∀ a, a ≠ 55 → G a = F a) → (∀ g, g < 2 ^ np → G 55 g = nI (cond (sA sg S i g) 1 0 + cond (sA sg (fun q => !S q) i g) 2 0)) → GX p l e rm_Mo_splits s m args below meth c (MQ below (gxQ D vcl ca ks lay ad s.heap.size post) args s 0 0 (gxA ks ad s.heap.size)) 3 A D vcl ca ks lay ad 0 0 29 [(2, xI (nI i)), (1, xI (duI b)), (0, xR 40)] [] G L := by
    intro d
    induction d with
    | zero =>
      intro i b G hd hb f1 f2
      refine gx_iload_n X d_Mo_splits_29 rfl rfl ?_
      refine gx_aload_n X d_Mo_splits_30 rfl rfl ?_
      refine gx_geti X d_Mo_splits_31 (gci in_Mo) (HX _ rfl).1 (HX _ rfl).2 rfl 2 (by decide) (gcw X lk_Mo_82) (fun _ h => h) rfl ?_
      refine gx_top (y := nI (2 ^ (3 * w))) (by rw [f1 40 (by decide)]; exact hS.2.2.2) ?_
      refine gx_icmp_ge X d_Mo_splits_34 (tgt := 96) (by decide) (fun h34 => ?_) (fun h34 => ?_)
      · have hsp : splB (2 ^ (3 * w)) sg S = b := by
          refine bool_iff ?_
          rw [splB_iff, hb]
          unfold spl
          constructor
          · rintro ⟨s, t, c1, c2, c3, c4⟩
            cases h1 : S s with
            | true => exact ⟨s, t, by omega, by omega, c3, h1, by cases h2 : S t with
                | false => rfl
                | true => exact absurd (by rw [h1, h2]) c4⟩
            | false => exact ⟨t, s, by omega, by omega, c3.symm, by cases h2 : S t with
                | true => rfl
                | false => exact absurd (by rw [h1, h2]) c4, h1⟩
          · rintro ⟨s, t, c1, c2, c3, c4, c5⟩
            exact ⟨s, t, by omega, by omega, c3, by rw [c4, c5]; decide⟩
        rw [hsp] at K
        refine gx_iload_n X d_Mo_splits_96 rfl rfl ?_
        cases b with
        | false =>
          refine gx_zret X hr (by first | rfl | decide) hA d_Mo_splits_97 (K _ _ _ ⟨rfl, rfl, f1⟩)
        | true =>
          refine gx_zret X hr (by first | rfl | decide) hA d_Mo_splits_97 (K _ _ _ ⟨rfl, rfl, f1⟩)
      · exact absurd ((nI_leI (by omega) (by omega)).mpr (by omega)) h34
    | succ d ih =>
      intro i b G hd hb f1 f2
      have hiN : i < 2 ^ (3 * w) := by omega
      obtain ⟨c1, c2, -⟩ := hG.2.2 i hiN
      have hsl : sg i < 4096 := by omega
      have g48 : G 48 i = nI (sg i) := by rw [f1 48 (by decide)]; exact c1
      refine gx_iload_n X d_Mo_splits_29 rfl rfl ?_
      refine gx_aload_n X d_Mo_splits_30 rfl rfl ?_
      refine gx_geti X d_Mo_splits_31 (gci in_Mo) (HX _ rfl).1 (HX _ rfl).2 rfl 2 (by decide) (gcw X lk_Mo_82) (fun _ h => h) rfl ?_
      refine gx_top (y := nI (2 ^ (3 * w))) (by rw [f1 40 (by decide)]; exact hS.2.2.2) ?_
      refine gx_icmp_ge X d_Mo_splits_34 (tgt := 96) (by decide) (fun h34 => ?_) (fun h34 => ?_)
      · exact absurd ((nI_leI (by omega) (by omega)).mp h34) (by omega)
      · -- the second half of the step
        have half : ∀ (x : Nat) (G2 : Nat → Nat → Int32), (∀ a, a ≠ 55 → G2 a = F a) → (∀ g, g < 2 ^ np → G2 55 g = nI (cond (sA sg S (i + 1) g) 1 0 + cond (sA sg (fun q => !S q) (i + 1) g) 2 0)) → GX p l e rm_Mo_splits s m args below meth c (MQ below (gxQ D vcl ca ks lay ad s.heap.size post) args s 0 0 (gxA ks ad s.heap.size)) 3 A D vcl ca ks lay ad 0 0 65 [(2, xI (nI i)), (1, xI (duI b)), (0, xR 40)] [] G2 L := by
          intro x G2 e1 e2
          have hb2 : (b || (sA sg S (i + 1) (sg i) && sA sg (fun q => !S q) (i + 1) (sg i))) = true ↔ ∃ s t, s < i + 1 ∧ t < i + 1 ∧ sg s = sg t ∧ S s = true ∧ S t = false := by
            rw [Bool.or_eq_true, Bool.and_eq_true, hb, sA_iff, sA_iff]
            constructor
            · rintro (⟨s, t, z1, z2, z3⟩ | ⟨⟨s, z1, z2, z3⟩, t, y1, y2, y3⟩)
              · exact ⟨s, t, by omega, by omega, z3⟩
              · exact ⟨s, t, z1, y1, by rw [z2, y2], z3, by simpa using y3⟩
            · rintro ⟨s, t, z1, z2, z3, z4, z5⟩
              by_cases q1 : s < i ∧ t < i
              · exact Or.inl ⟨s, t, q1.1, q1.2, z3, z4, z5⟩
              · refine Or.inr ⟨⟨s, z1, ?_, z4⟩, t, z2, ?_, by simp [z5]⟩
                · by_cases q2 : s = i
                  · rw [q2]
                  · rw [z3, show t = i by omega]
                · by_cases q2 : t = i
                  · rw [q2]
                  · rw [← z3, show s = i by omega]
          have g48b : G2 48 i = nI (sg i) := by rw [e1 48 (by decide)]; exact c1
          have next : ∀ b2 : Bool, (b2 = true ↔ ∃ s t, s < i + 1 ∧ t < i + 1 ∧ sg s = sg t ∧ S s = true ∧ S t = false) → GX p l e rm_Mo_splits s m args below meth c (MQ below (gxQ D vcl ca ks lay ad s.heap.size post) args s 0 0 (gxA ks ad s.heap.size)) 3 A D vcl ca ks lay ad 0 0 90 [(1, xI (duI b2)), (2, xI (nI i)), (0, xR 40)] [] G2 L := by
            intro b2 hb3
            refine gx_iinc X d_Mo_splits_90 rfl (pu_inc _) ?_
            refine gx_goto X d_Mo_splits_93 (tgt := 29) (by decide) ?_
            exact gx_el (ih (i + 1) b2 G2 (by omega) hb3 e1 e2) ⟨rfl, rfl, rfl, trivial⟩
          cases b with
          | true =>
            rw [Bool.true_or] at hb2
            refine gx_iload_n X d_Mo_splits_65 rfl rfl ?_
            refine gx_if_ne X d_Mo_splits_66 (tgt := 84) (by decide) (fun h66 => ?_) (fun h66 => ?_)
            · refine gx_iconst X d_Mo_splits_84 (v := nI 1) (by decide) ?_
              refine gx_goto X d_Mo_splits_85 (tgt := 89) (by decide) ?_
              refine gx_istore_n X d_Mo_splits_89 rfl (by decide) ?_
              exact gx_el (next true hb2) ⟨rfl, rfl, rfl, trivial⟩
            · exact absurd h66 (by decide)
          | false =>
            rw [Bool.false_or] at hb2
            refine gx_iload_n X d_Mo_splits_65 rfl rfl ?_
            refine gx_if_ne X d_Mo_splits_66 (tgt := 84) (by decide) (fun h66 => ?_) (fun h66 => ?_)
            · exact absurd rfl h66
            · refine gx_aload_n X d_Mo_splits_69 rfl rfl ?_
              refine gx_getr X d_Mo_splits_70 (gci in_Mo) (HX _ rfl).1 (HX _ rfl).2 rfl 25 (by decide) (gcw X lk_Mo_60) (fun _ h => h) rfl ?_
              refine gx_aload_n X d_Mo_splits_73 rfl rfl ?_
              refine gx_getr X d_Mo_splits_74 (gci in_Mo) (HX _ rfl).1 (HX _ rfl).2 rfl 14 (by decide) (gcw X lk_Mo_32) (fun _ h => h) rfl ?_
              refine gx_iload_n X d_Mo_splits_77 rfl rfl ?_
              refine gx_iald X d_Mo_splits_78 (HX _ rfl).1 (HX _ rfl).2 rfl (by omega) (by omega) ?_
              refine gx_top g48b ?_
              refine gx_iald X d_Mo_splits_79 (HX _ rfl).1 (HX _ rfl).2 rfl (by omega) (by omega) ?_
              refine gx_top (e2 (sg i) c2) ?_
              cases hx : (sA sg S (i + 1) (sg i) && sA sg (fun q => !S q) (i + 1) (sg i)) with
              | true =>
                rw [hx] at hb2
                have h3 := (sn_3 (sA sg S (i + 1) (sg i)) (sA sg (fun q => !S q) (i + 1) (sg i)))
                rw [hx] at h3
                refine gx_iconst X d_Mo_splits_80 (v := nI 3) (by decide) ?_
                refine gx_icmp_ne X d_Mo_splits_81 (tgt := 88) (by decide) (fun h81 => ?_) (fun h81 => ?_)
                · exact absurd (of_decide_eq_true h3) h81
                · refine gx_iconst X d_Mo_splits_84 (v := nI 1) (by decide) ?_
                  refine gx_goto X d_Mo_splits_85 (tgt := 89) (by decide) ?_
                  refine gx_istore_n X d_Mo_splits_89 rfl (by decide) ?_
                  exact gx_el (next true hb2) ⟨rfl, rfl, rfl, trivial⟩
              | false =>
                rw [hx] at hb2
                have h3 := (sn_3 (sA sg S (i + 1) (sg i)) (sA sg (fun q => !S q) (i + 1) (sg i)))
                rw [hx] at h3
                refine gx_iconst X d_Mo_splits_80 (v := nI 3) (by decide) ?_
                refine gx_icmp_ne X d_Mo_splits_81 (tgt := 88) (by decide) (fun h81 => ?_) (fun h81 => ?_)
                · refine gx_iconst X d_Mo_splits_88 (v := nI 0) (by decide) ?_
                  refine gx_istore_n X d_Mo_splits_89 rfl (by decide) ?_
                  exact gx_el (next false hb2) ⟨rfl, rfl, rfl, trivial⟩
                · exact absurd h81 (of_decide_eq_false h3)
        refine gx_aload_n X d_Mo_splits_37 rfl rfl ?_
        refine gx_getr X d_Mo_splits_38 (gci in_Mo) (HX _ rfl).1 (HX _ rfl).2 rfl 25 (by decide) (gcw X lk_Mo_60) (fun _ h => h) rfl ?_
        refine gx_aload_n X d_Mo_splits_41 rfl rfl ?_
        refine gx_getr X d_Mo_splits_42 (gci in_Mo) (HX _ rfl).1 (HX _ rfl).2 rfl 14 (by decide) (gcw X lk_Mo_32) (fun _ h => h) rfl ?_
        refine gx_iload_n X d_Mo_splits_45 rfl rfl ?_
        refine gx_iald X d_Mo_splits_46 (HX _ rfl).1 (HX _ rfl).2 rfl (by omega) (by omega) ?_
        refine gx_top g48 ?_
        first | refine gx_dup2_11 X d_Mo_splits_47 rfl rfl ?_ | refine gx_dup2_2 X d_Mo_splits_47 rfl ?_
        refine gx_iald X d_Mo_splits_48 (HX _ rfl).1 (HX _ rfl).2 rfl (by omega) (by omega) ?_
        refine gx_top (f2 (sg i) c2) ?_
        refine gx_aload_n X d_Mo_splits_49 rfl rfl ?_
        refine gx_getr X d_Mo_splits_50 (gci in_Mo) (HX _ rfl).1 (HX _ rfl).2 rfl 28 (by decide) (gcw X lk_Mo_66) (fun _ h => h) rfl ?_
        refine gx_iload_n X d_Mo_splits_53 rfl rfl ?_
        refine gx_zald X d_Mo_splits_54 (HX _ rfl).1 (HX _ rfl).2 rfl (by omega) (by omega) ?_
        refine gx_top (y := cond (S i) 1 0) (by rw [f1 57 (by decide)]; exact hW i hiN) ?_
        cases hb2 : S i with
        | true =>
          refine gx_if_eq X d_Mo_splits_55 (tgt := 62) (by decide) (fun h55 => ?_) (fun h55 => ?_)
          · exact absurd h55 (by decide)
          · refine gx_iconst X d_Mo_splits_58 (v := nI 1) (by decide) ?_
            refine gx_goto X d_Mo_splits_59 (tgt := 63) (by decide) ?_
            refine gx_ior X d_Mo_splits_63 ?_
            refine gx_top (sn_1 _ _) ?_
            refine gx_iast X d_Mo_splits_64 (HX _ rfl).1 (HX _ rfl).2 rfl (by omega) (by omega) ?_
            refine gx_el (half 0 _ (fun a ha => by rw [gxu_cell ha]; exact f1 a ha) (fun g hg => ?_)) ⟨rfl, rfl, rfl, trivial⟩
            rw [sA, sA, hb2]
            by_cases e1 : g = sg i
            · subst e1
              rw [gxu_at]
              simp
            · rw [gxu_ne (fun z => e1 z.2), f2 g hg, beq_ne (fun z => e1 z.symm)]
              simp
        | false =>
          refine gx_if_eq X d_Mo_splits_55 (tgt := 62) (by decide) (fun h55 => ?_) (fun h55 => ?_)
          · refine gx_iconst X d_Mo_splits_62 (v := nI 2) (by decide) ?_
            refine gx_ior X d_Mo_splits_63 ?_
            refine gx_top (sn_2 _ _) ?_
            refine gx_iast X d_Mo_splits_64 (HX _ rfl).1 (HX _ rfl).2 rfl (by omega) (by omega) ?_
            refine gx_el (half 0 _ (fun a ha => by rw [gxu_cell ha]; exact f1 a ha) (fun g hg => ?_)) ⟨rfl, rfl, rfl, trivial⟩
            rw [sA, sA, hb2]
            by_cases e1 : g = sg i
            · subst e1
              rw [gxu_at]
              simp
            · rw [gxu_ne (fun z => e1 z.2), f2 g hg, beq_ne (fun z => e1 z.symm)]
              simp
          · exact absurd rfl h55
  have loop1 : ∀ (d i : Nat) (G : Nat → Nat → Int32), i + d = 2 ^ np → (∀ a, a ≠ 55 → G a = F a) → (∀ g, g < i → G 55 g = nI 0) → GX p l e rm_Mo_splits s m args below meth c (MQ below (gxQ D vcl ca ks lay ad s.heap.size post) args s 0 0 (gxA ks ad s.heap.size)) 3 A D vcl ca ks lay ad 0 0 2 [(1, xI (nI i)), (0, xR 40)] [] G L := by
    intro d
    induction d with
    | zero =>
      intro i G hd f1 f2
      refine gx_iload_n X d_Mo_splits_2 rfl rfl ?_
      refine gx_iconst X d_Mo_splits_3 (v := nI 1) (by decide) ?_
      refine gx_aload_n X d_Mo_splits_4 rfl rfl ?_
      refine gx_geti X d_Mo_splits_5 (gci in_Mo) (HX _ rfl).1 (HX _ rfl).2 rfl 12 (by decide) (gcw X lk_Mo_155) (fun _ h => h) rfl ?_
      refine gx_top (y := nI np) (by rw [f1 40 (by decide)]; exact hG.2.1) ?_
      refine gx_ishl X d_Mo_splits_8 ?_
      refine gx_top hsh ?_
      refine gx_icmp_ge X d_Mo_splits_9 (tgt := 25) (by decide) (fun h9 => ?_) (fun h9 => ?_)
      · refine gx_iconst X d_Mo_splits_25 (v := nI 0) (by decide) ?_
        refine gx_istore_n X d_Mo_splits_26 rfl (by decide) ?_
        refine gx_iconst X d_Mo_splits_27 (v := nI 0) (by decide) ?_
        refine gx_istore_n X d_Mo_splits_28 rfl (by decide) ?_
        exact gx_el (loop2 (2 ^ (3 * w)) 0 false G (by omega) ⟨fun z => (by cases z), fun ⟨s, t, z1, _⟩ => absurd z1 (Nat.not_lt_zero s)⟩ f1 (fun g hg => f2 g (by omega))) ⟨rfl, rfl, rfl, trivial⟩
      · exact absurd ((nI_leI (by omega) (by omega)).mpr (by omega)) h9
    | succ d ih =>
      intro i G hd f1 f2
      refine gx_iload_n X d_Mo_splits_2 rfl rfl ?_
      refine gx_iconst X d_Mo_splits_3 (v := nI 1) (by decide) ?_
      refine gx_aload_n X d_Mo_splits_4 rfl rfl ?_
      refine gx_geti X d_Mo_splits_5 (gci in_Mo) (HX _ rfl).1 (HX _ rfl).2 rfl 12 (by decide) (gcw X lk_Mo_155) (fun _ h => h) rfl ?_
      refine gx_top (y := nI np) (by rw [f1 40 (by decide)]; exact hG.2.1) ?_
      refine gx_ishl X d_Mo_splits_8 ?_
      refine gx_top hsh ?_
      refine gx_icmp_ge X d_Mo_splits_9 (tgt := 25) (by decide) (fun h9 => ?_) (fun h9 => ?_)
      · exact absurd ((nI_leI (by omega) (by omega)).mp h9) (by omega)
      · refine gx_aload_n X d_Mo_splits_12 rfl rfl ?_
        refine gx_getr X d_Mo_splits_13 (gci in_Mo) (HX _ rfl).1 (HX _ rfl).2 rfl 25 (by decide) (gcw X lk_Mo_60) (fun _ h => h) rfl ?_
        refine gx_iload_n X d_Mo_splits_16 rfl rfl ?_
        refine gx_iconst X d_Mo_splits_17 (v := nI 0) (by decide) ?_
        refine gx_iast X d_Mo_splits_18 (HX _ rfl).1 (HX _ rfl).2 rfl (by omega) (by omega) ?_
        refine gx_iinc X d_Mo_splits_19 rfl (pu_inc _) ?_
        refine gx_goto X d_Mo_splits_22 (tgt := 2) (by decide) ?_
        refine gx_el (ih (i + 1) _ (by omega) (fun a ha => by rw [gxu_cell ha]; exact f1 a ha) (fun g hg => ?_)) ⟨rfl, rfl, trivial⟩
        by_cases e1 : g = i
        · rw [e1, gxu_at]
        · rw [gxu_ne (fun q => e1 q.2)]
          exact f2 g (by omega)
  refine gx_iconst X d_Mo_splits_0 (v := nI 0) (by decide) ?_
  refine gx_istore_n X d_Mo_splits_1 rfl (by decide) ?_
  exact gx_el (loop1 (2 ^ np) 0 F (by omega) (fun _ _ => rfl) (fun g hg => absurd hg (Nat.not_lt_zero g))) ⟨rfl, rfl, trivial⟩
set_option maxHeartbeats 4000000 in
theorem c_Mo_hangsOn (HX : gH ks lay N sM) (hS : MsOK F w) (hW : WkOK F (2 ^ (3 * w)) S) {v : Nat} (hv : v < 3) : Con l y_Mo_hangsOn (Cond.code y_Mo_hangsOn b_Mo_hangsOn 4 (some .boolean) :: WT) rm_Mo_hangsOn D vcl ca ks lay ad [xR 40, xI (nI v)] F L (fun r F' L' => r = some (xI (cond (hgB (2 ^ (3 * w)) S (fun z => wr w z v 0)) 0 1)) ∧ F' = F ∧ L' = L) := by
  have hw : w < 4 := by have := hS.1; omega
  have hN := pu_N w hw
  refine Con.ofK (fun post K => ?_)
  refine Con.of (ls := [(0, xR 40), (1, xI (nI v))]) (by decide) rfl rfl (Nat.le_of_ble_eq_true rfl) ?_
  intro p e s m args below meth c A X hr hA
  have loop : ∀ (d i : Nat) (b : Bool), i + d = 2 ^ (3 * w) → (b = true ↔ ∃ z, z < i ∧ ¬ S z = S (wr w z v 0)) → GX p l e rm_Mo_hangsOn s m args below meth c (MQ below (gxQ D vcl ca ks lay ad s.heap.size post) args s 0 0 (gxA ks ad s.heap.size)) 4 A D vcl ca ks lay ad 0 0 4 [(3, xI (nI i)), (2, xI (duI b)), (1, xI (nI v)), (0, xR 40)] [] F L := by
    intro d
    induction d with
    | zero =>
      intro i b hd hb
      refine gx_iload_n X d_Mo_hangsOn_4 rfl rfl ?_
      refine gx_aload_n X d_Mo_hangsOn_5 rfl rfl ?_
      refine gx_geti X d_Mo_hangsOn_6 (gci in_Mo) (HX _ rfl).1 (HX _ rfl).2 rfl 2 (by decide) (gcw X lk_Mo_82) (fun _ h => h) rfl ?_
      refine gx_top hS.2.2.2 ?_
      refine gx_icmp_ge X d_Mo_hangsOn_9 (tgt := 49) (by decide) (fun h9 => ?_) (fun h9 => ?_)
      · have hh : hgB (2 ^ (3 * w)) S (fun z => wr w z v 0) = !b := by
          refine bool_iff ?_
          rw [hgB_iff]
          constructor
          · intro h
            cases b with
            | false => rfl
            | true =>
              obtain ⟨z, c1, c2⟩ := hb.mp rfl
              exact absurd (h z (by omega)) c2
          · intro h z hz
            cases b with
            | true => cases h
            | false =>
              by_cases e1 : S z = S (wr w z v 0)
              · exact e1
              · exact absurd (hb.mpr ⟨z, by omega, e1⟩) (by decide)
        rw [hh] at K
        refine gx_iload_n X d_Mo_hangsOn_49 rfl rfl ?_
        cases b with
        | false =>
          refine gx_zret X hr (by first | rfl | decide) hA d_Mo_hangsOn_50 (K _ _ _ ⟨rfl, rfl, rfl⟩)
        | true =>
          refine gx_zret X hr (by first | rfl | decide) hA d_Mo_hangsOn_50 (K _ _ _ ⟨rfl, rfl, rfl⟩)
      · exact absurd ((nI_leI (by omega) (by omega)).mpr (by omega)) h9
    | succ d ih =>
      intro i b hd hb
      have hiN : i < 2 ^ (3 * w) := by omega
      have hwl : wr w i v 0 < 2 ^ (3 * w) := wr_lt' hw hv hiN
      refine gx_iload_n X d_Mo_hangsOn_4 rfl rfl ?_
      refine gx_aload_n X d_Mo_hangsOn_5 rfl rfl ?_
      refine gx_geti X d_Mo_hangsOn_6 (gci in_Mo) (HX _ rfl).1 (HX _ rfl).2 rfl 2 (by decide) (gcw X lk_Mo_82) (fun _ h => h) rfl ?_
      refine gx_top hS.2.2.2 ?_
      refine gx_icmp_ge X d_Mo_hangsOn_9 (tgt := 49) (by decide) (fun h9 => ?_) (fun h9 => ?_)
      · exact absurd ((nI_leI (by omega) (by omega)).mp h9) (by omega)
      · cases b with
        | true =>
          obtain ⟨z, c1, c2⟩ := hb.mp rfl
          refine gx_iload_n X d_Mo_hangsOn_12 rfl rfl ?_
          refine gx_if_ne X d_Mo_hangsOn_13 (tgt := 37) (by decide) (fun h13 => ?_) (fun h13 => ?_)
          · refine gx_iconst X d_Mo_hangsOn_37 (v := nI 1) (by decide) ?_
            refine gx_goto X d_Mo_hangsOn_38 (tgt := 42) (by decide) ?_
            refine gx_istore_n X d_Mo_hangsOn_42 rfl (by decide) ?_
            refine gx_iinc X d_Mo_hangsOn_43 rfl (pu_inc _) ?_
            refine gx_goto X d_Mo_hangsOn_46 (tgt := 4) (by decide) ?_
            exact gx_el (ih (i + 1) true (by omega) ⟨fun _ => ⟨z, by omega, c2⟩, fun _ => rfl⟩) ⟨rfl, rfl, rfl, rfl, trivial⟩
          · exact absurd h13 (by decide)
        | false =>
          have hno : ∀ z, z < i → S z = S (wr w z v 0) := fun z hz => by
            by_cases e1 : S z = S (wr w z v 0)
            · exact e1
            · exact absurd (hb.mpr ⟨z, hz, e1⟩) (by decide)
          refine gx_iload_n X d_Mo_hangsOn_12 rfl rfl ?_
          refine gx_if_ne X d_Mo_hangsOn_13 (tgt := 37) (by decide) (fun h13 => ?_) (fun h13 => ?_)
          · exact absurd rfl h13
          · refine gx_aload_n X d_Mo_hangsOn_16 rfl rfl ?_
            refine gx_getr X d_Mo_hangsOn_17 (gci in_Mo) (HX _ rfl).1 (HX _ rfl).2 rfl 28 (by decide) (gcw X lk_Mo_66) (fun _ h => h) rfl ?_
            refine gx_iload_n X d_Mo_hangsOn_20 rfl rfl ?_
            refine gx_zald X d_Mo_hangsOn_21 (HX _ rfl).1 (HX _ rfl).2 rfl (by omega) (by omega) ?_
            refine gx_top (hW i hiN) ?_
            refine gx_aload_n X d_Mo_hangsOn_22 rfl rfl ?_
            refine gx_getr X d_Mo_hangsOn_23 (gci in_Mo) (HX _ rfl).1 (HX _ rfl).2 rfl 28 (by decide) (gcw X lk_Mo_66) (fun _ h => h) rfl ?_
            refine gx_aload_n X d_Mo_hangsOn_26 rfl rfl ?_
            refine gx_iload_n X d_Mo_hangsOn_27 rfl rfl ?_
            refine gx_iload_n X d_Mo_hangsOn_28 rfl rfl ?_
            refine gx_iconst X d_Mo_hangsOn_29 (v := nI 0) (by decide) ?_
            refine gx_callV X d_Mo_hangsOn_30 mf_Mo_with lk_Mo_152 (c_Mo_with HX hS (st := i) (v := v) (by omega) hv (nI 0)) (HX _ rfl).1 (HX _ rfl).2 rfl rfl rfl (Nat.le_of_ble_eq_true rfl) ⟨by decide, by decide⟩ ⟨rfl, rfl⟩ ⟨Nat.zero_le _, Nat.zero_le _⟩ (fun r30 F30 L30 hp30 => ?_)
            obtain ⟨rfl, rfl, rfl⟩ := hp30
            refine gx_top (y := nI (wr w i v 0)) (by rw [nI_nat (by decide)]) ?_
            refine gx_zald X d_Mo_hangsOn_33 (HX _ rfl).1 (HX _ rfl).2 rfl (by omega) (by omega) ?_
            refine gx_top (hW _ hwl) ?_
            by_cases e1 : S i = S (wr w i v 0)
            · refine gx_icmp_eq X d_Mo_hangsOn_34 (tgt := 41) (by decide) (fun h34 => ?_) (fun h34 => ?_)
              · refine gx_iconst X d_Mo_hangsOn_41 (v := nI 0) (by decide) ?_
                refine gx_istore_n X d_Mo_hangsOn_42 rfl (by decide) ?_
                refine gx_iinc X d_Mo_hangsOn_43 rfl (pu_inc _) ?_
                refine gx_goto X d_Mo_hangsOn_46 (tgt := 4) (by decide) ?_
                refine gx_el (ih (i + 1) false (by omega) ⟨fun z => (by cases z), fun ⟨z, c1, c2⟩ => ?_⟩) ⟨rfl, rfl, rfl, rfl, trivial⟩
                by_cases e2 : z = i
                · rw [e2] at c2; exact absurd e1 c2
                · exact absurd (hno z (by omega)) c2
              · exact absurd (by rw [e1]) h34
            · refine gx_icmp_eq X d_Mo_hangsOn_34 (tgt := 41) (by decide) (fun h34 => ?_) (fun h34 => ?_)
              · exfalso
                cases h1 : S i <;> cases h2 : S (wr w i v 0)
                · exact e1 (by rw [h1, h2])
                · rw [h1, h2] at h34; exact absurd h34 (by decide)
                · rw [h1, h2] at h34; exact absurd h34 (by decide)
                · exact e1 (by rw [h1, h2])
              · refine gx_iconst X d_Mo_hangsOn_37 (v := nI 1) (by decide) ?_
                refine gx_goto X d_Mo_hangsOn_38 (tgt := 42) (by decide) ?_
                refine gx_istore_n X d_Mo_hangsOn_42 rfl (by decide) ?_
                refine gx_iinc X d_Mo_hangsOn_43 rfl (pu_inc _) ?_
                refine gx_goto X d_Mo_hangsOn_46 (tgt := 4) (by decide) ?_
                exact gx_el (ih (i + 1) true (by omega) ⟨fun _ => ⟨i, by omega, e1⟩, fun _ => rfl⟩) ⟨rfl, rfl, rfl, rfl, trivial⟩
  refine gx_iconst X d_Mo_hangsOn_0 (v := nI 0) (by decide) ?_
  refine gx_istore_n X d_Mo_hangsOn_1 rfl (by decide) ?_
  refine gx_iconst X d_Mo_hangsOn_2 (v := nI 0) (by decide) ?_
  refine gx_istore_n X d_Mo_hangsOn_3 rfl (by decide) ?_
  exact gx_el (loop (2 ^ (3 * w)) 0 false (by omega) ⟨fun z => (by cases z), fun ⟨z, c1, _⟩ => absurd c1 (Nat.not_lt_zero z)⟩) ⟨rfl, rfl, rfl, rfl, trivial⟩
/-- what an offer leaves -/
noncomputable def ofr (N : Nat) (S : Nat → Bool) (z : Nat × (Nat → Nat)) : Nat × (Nat × (Nat → Nat)) := if splB N z.2 S = true then (if z.1 = 12 then (2, z) else (1, (z.1 + 1, exS z.2 z.1 S))) else (0, z)
theorem c_Mo_offer (HX : gH ks lay N sM) (hS : MsOK F w) (hG : MgOK F L (2 ^ (3 * w)) np sg) (hW : WkOK F (2 ^ (3 * w)) S) : Con l y_Mo_offer (Cond.code y_Mo_offer b_Mo_offer 1 (some .int) :: WT) rm_Mo_offer D vcl ca ks lay ad [xR 40] F L (fun r F' L' => r = some (xI (nI (ofr (2 ^ (3 * w)) S (np, sg)).1)) ∧ (∀ a, a ≠ 47 → L' a = L a) ∧ (∀ a, a ≠ 40 → a ≠ 48 → a ≠ 55 → F' a = F a) ∧ (∀ j, j ≠ 12 → F' 40 j = F 40 j) ∧ MgOK F' L' (2 ^ (3 * w)) (ofr (2 ^ (3 * w)) S (np, sg)).2.1 (ofr (2 ^ (3 * w)) S (np, sg)).2.2) := by
  have hnp := hG.1
  refine Con.ofK (fun post K => ?_)
  refine Con.of (ls := [(0, xR 40)]) (by decide) rfl rfl (Nat.le_of_ble_eq_true rfl) ?_
  intro p e s m args below meth c A X hr hA
  refine gx_aload_n X d_Mo_offer_0 rfl rfl ?_
  refine gx_callV X d_Mo_offer_1 mf_Mo_splits lk_Mo_199 (c_Mo_splits HX hS hG hW) (HX _ rfl).1 (HX _ rfl).2 rfl rfl rfl (Nat.le_of_ble_eq_true rfl) ⟨by decide, by decide⟩ ⟨rfl, rfl⟩ ⟨Nat.zero_le _, Nat.zero_le _⟩ (fun r1 F1 L1 hp1 => ?_)
  obtain ⟨rfl, rfl, m1⟩ := hp1
  have hS2 : MsOK F1 w := hS.of (fun j hj => by rw [m1 40 (by decide)])
  have hG2 : MgOK F1 L1 (2 ^ (3 * w)) np sg := hG.of (by rw [m1 40 (by decide)]) (m1 48 (by decide)) rfl
  cases hs : splB (2 ^ (3 * w)) sg S with
  | false =>
    have ho : ofr (2 ^ (3 * w)) S (np, sg) = (0, (np, sg)) := by unfold ofr; rw [if_neg (by show ¬ splB _ sg S = true; rw [hs]; decide)]
    rw [ho] at K
    refine gx_if_ne X d_Mo_offer_4 (tgt := 9) (by decide) (fun h4 => ?_) (fun h4 => ?_)
    · exact absurd rfl h4
    · refine gx_iconst X d_Mo_offer_7 (v := nI 0) (by decide) ?_
      refine gx_iret X hr hA d_Mo_offer_8 (K _ _ _ ⟨rfl, fun _ _ => rfl, fun a _ _ b3 => m1 a b3, fun j _ => by rw [m1 40 (by decide)], hG2⟩)
  | true =>
    refine gx_if_ne X d_Mo_offer_4 (tgt := 9) (by decide) (fun h4 => ?_) (fun h4 => ?_)
    · refine gx_aload_n X d_Mo_offer_9 rfl rfl ?_
      refine gx_geti X d_Mo_offer_10 (gci in_Mo) (HX _ rfl).1 (HX _ rfl).2 rfl 12 (by decide) (gcw X lk_Mo_155) (fun _ h => h) rfl ?_
      refine gx_top hG2.2.1 ?_
      by_cases e1 : np = 12
      · have ho : ofr (2 ^ (3 * w)) S (np, sg) = (2, (np, sg)) := by unfold ofr; rw [if_pos hs, if_pos e1]
        rw [ho] at K
        refine gx_bipush X d_Mo_offer_13 (v := nI 12) (by decide) ?_
        refine gx_icmp_ne X d_Mo_offer_15 (tgt := 20) (by decide) (fun h15 => ?_) (fun h15 => ?_)
        · exact absurd (by rw [e1]) h15
        · refine gx_iconst X d_Mo_offer_18 (v := nI 2) (by decide) ?_
          refine gx_iret X hr hA d_Mo_offer_19 (K _ _ _ ⟨rfl, fun _ _ => rfl, fun a _ _ b3 => m1 a b3, fun j _ => by rw [m1 40 (by decide)], hG2⟩)
      · have ho : ofr (2 ^ (3 * w)) S (np, sg) = (1, (np + 1, exS sg np S)) := by unfold ofr; rw [if_pos hs, if_neg e1]
        rw [ho] at K
        refine gx_bipush X d_Mo_offer_13 (v := nI 12) (by decide) ?_
        refine gx_icmp_ne X d_Mo_offer_15 (tgt := 20) (by decide) (fun h15 => ?_) (fun h15 => ?_)
        · refine gx_aload_n X d_Mo_offer_20 rfl rfl ?_
          refine gx_callV X d_Mo_offer_21 mf_Mo_addWork lk_Mo_158 (c_Mo_addWork HX hS2 hG2 (by omega) (S := S) (fun q hq => by rw [m1 57 (by decide)]; exact hW q hq)) (HX _ rfl).1 (HX _ rfl).2 rfl rfl rfl (Nat.le_of_ble_eq_true rfl) ⟨by decide, by decide⟩ ⟨rfl, rfl⟩ ⟨Nat.zero_le _, Nat.zero_le _⟩ (fun r21 F21 L21 hp21 => ?_)
          obtain ⟨rfl, a1, a2, a3, a4⟩ := hp21
          refine gx_iconst X d_Mo_offer_24 (v := nI 1) (by decide) ?_
          refine gx_iret X hr hA d_Mo_offer_25 (K _ _ _ ⟨rfl, a1, fun a b1 b2 b3 => by rw [a2 a b1 b2]; exact m1 a b3, fun j b1 => by rw [a3 j b1, m1 40 (by decide)], a4⟩)
        · exact absurd ((nI_eq (by omega) (by decide)).mp h15) e1
    · exact absurd h4 (by decide)
end
