section
variable {l : Launch} {D : va_G} {ca : Nat → ClassId} {ks : List Nat} {lay : Nat → gxE} {ad : Nat → Nat} {F : Nat → Nat → Int32} {L : Nat → Nat → Int64} {w : Nat}
/-- rounds, until one gives an answer -/
noncomputable def prv (w : Nat) : Nat → kS → kS
  | 0, z => z
  | r + 1, z => if z.oc = nI 0 then prv w r (mkR w z) else z
def kS.beg (z : kS) : kS := kM z.n z.ln z.ne z.ef z.et z.ek z.ev z.tg z.np z.sg (nI 0) z.ns z.pt z.iq
set_option maxHeartbeats 4000000 in
theorem c_PP_prove (HX : gH ks lay (2 ^ (3 * w)) sX) {z : kS} (hz : KOK F w z) {f : Nat} (hf1 : 1 ≤ f) (hf2 : f ≤ 40) : Con l y_PP_prove (Cond.code y_PP_prove b_PP_prove 3 (some .int) :: WT) rm_PP_prove D vcl ca ks lay ad [xR 0, xI (nI f)] F L (fun r F' L' => r = some (xI (prv w f z.beg).oc) ∧ (∀ a, ¬ (200 ≤ a ∧ a < 404) → a ≠ 35 → L' a = L a) ∧ KOK F' w (prv w f z.beg)) := by
  refine Con.ofK (fun post K => ?_)
  refine Con.of (ls := [(0, xR 0), (1, xI (nI f))]) (by decide) rfl rfl (Nat.le_of_ble_eq_true rfl) ?_
  intro p e s m args below meth c A X hr hA
  refine gx_iload_n X d_PP_prove_0 rfl rfl ?_
  refine gx_iconst X d_PP_prove_1 (v := nI 1) (by decide) ?_
  refine gx_icmp_lt X d_PP_prove_2 (tgt := 11) (by decide) (fun h2 => ?_) (fun h2 => ?_)
  · exact absurd ((nI_ltI (by omega) (by omega)).mp h2) (by omega)
  · refine gx_iload_n X d_PP_prove_5 rfl rfl ?_
    refine gx_bipush X d_PP_prove_6 (v := nI 40) (by decide) ?_
    refine gx_icmp_le X d_PP_prove_8 (tgt := 21) (by decide) (fun h8 => ?_) (fun h8 => ?_)
    · refine gx_aload_n X d_PP_prove_21 rfl rfl ?_
      refine gx_iconst X d_PP_prove_22 (v := nI 0) (by decide) ?_
      refine gx_puti X d_PP_prove_23 (gci in_PP) (HX _ rfl).1 (HX _ rfl).2 rfl 9 (by decide) (gcw X lk_PP_84) (fun _ h => h) t_PP ty_PP nm_PP rfl (ty_PP 9 (by decide)) rfl rfl rfl ?_
      refine gx_iconst X d_PP_prove_26 (v := nI 0) (by decide) ?_
      refine gx_istore_n X d_PP_prove_27 rfl (by decide) ?_
      have loop : ∀ (d i : Nat) (y : kS) (G : Nat → Nat → Int32) (M : Nat → Nat → Int64), i + d = f → KOK G w y → (∀ a, ¬ (200 ≤ a ∧ a < 404) → a ≠ 35 → M a = L a) → prv w d y = prv w f z.beg → GX p l e rm_PP_prove s m args below meth c (MQ below (gxQ D vcl ca ks lay ad s.heap.size post) args s 0 0 (gxA ks ad s.heap.size)) 3 A D vcl ca ks lay ad 0 0 28 [(2, xI (nI i)), (1, xI (nI f)), (0, xR 0)] [] G M := by
        intro d
        induction d with
        | zero =>
          intro i y G M hd hy hM hres
          have hres : y = prv w f z.beg := hres
          subst hres
          refine gx_iload_n X d_PP_prove_28 rfl rfl ?_
          refine gx_iload_n X d_PP_prove_29 rfl rfl ?_
          refine gx_icmp_ge X d_PP_prove_30 (tgt := 54) (by decide) (fun h30 => ?_) (fun h30 => ?_)
          · refine gx_aload_n X d_PP_prove_54 rfl rfl ?_
            refine gx_geti X d_PP_prove_55 (gci in_PP) (HX _ rfl).1 (HX _ rfl).2 rfl 9 (by decide) (gcw X lk_PP_84) (fun _ h => h) rfl ?_
            refine gx_top hy.2.2.2.2.2.2.2.2 ?_
            refine gx_iret X hr hA d_PP_prove_58 (K _ _ _ ⟨rfl, hM, hy⟩)
          · exact absurd ((nI_leI (by omega) (by omega)).mpr (by omega)) h30
        | succ d ih =>
          intro i y G M hd hy hM hres
          rw [prv] at hres
          refine gx_iload_n X d_PP_prove_28 rfl rfl ?_
          refine gx_iload_n X d_PP_prove_29 rfl rfl ?_
          refine gx_icmp_ge X d_PP_prove_30 (tgt := 54) (by decide) (fun h30 => ?_) (fun h30 => ?_)
          · exact absurd ((nI_leI (by omega) (by omega)).mp h30) (by omega)
          · refine gx_aload_n X d_PP_prove_33 rfl rfl ?_
            refine gx_geti X d_PP_prove_34 (gci in_PP) (HX _ rfl).1 (HX _ rfl).2 rfl 9 (by decide) (gcw X lk_PP_84) (fun _ h => h) rfl ?_
            refine gx_top hy.2.2.2.2.2.2.2.2 ?_
            refine gx_if_ne X d_PP_prove_37 (tgt := 54) (by decide) (fun h37 => ?_) (fun h37 => ?_)
            · rw [if_neg (show ¬ y.oc = nI 0 from h37)] at hres
              subst hres
              refine gx_aload_n X d_PP_prove_54 rfl rfl ?_
              refine gx_geti X d_PP_prove_55 (gci in_PP) (HX _ rfl).1 (HX _ rfl).2 rfl 9 (by decide) (gcw X lk_PP_84) (fun _ h => h) rfl ?_
              refine gx_top hy.2.2.2.2.2.2.2.2 ?_
              refine gx_iret X hr hA d_PP_prove_58 (K _ _ _ ⟨rfl, hM, hy⟩)
            · rw [if_pos (show y.oc = nI 0 from h37)] at hres
              refine gx_aload_n X d_PP_prove_40 rfl rfl ?_
              refine gx_aload_n X d_PP_prove_41 rfl rfl ?_
              refine gx_callV X d_PP_prove_42 mf_PP_makeRound lk_PP_153 (c_PP_makeRound HX hy.zero) (HX _ rfl).1 (HX _ rfl).2 rfl rfl rfl (Nat.le_of_ble_eq_true rfl) ⟨by decide, by decide⟩ ⟨rfl, rfl⟩ ⟨Nat.zero_le _, Nat.zero_le _⟩ (fun r42 F42 L42 hp42 => ?_)
              obtain ⟨rfl, q1, q2, q3⟩ := hp42
              refine gx_puti X d_PP_prove_45 (gci in_PP) (HX _ rfl).1 (HX _ rfl).2 rfl 9 (by decide) (gcw X lk_PP_84) (fun _ h => h) t_PP ty_PP nm_PP rfl (ty_PP 9 (by decide)) rfl rfl rfl ?_
              refine gx_iinc X d_PP_prove_48 rfl (pu_inc _) ?_
              refine gx_goto X d_PP_prove_51 (tgt := 28) (by decide) ?_
              exact gx_el (ih (i + 1) _ _ _ (by omega) (q3.put rfl) (fun a x1 x2 => (q1 a x1 x2).trans (hM a x1 x2)) hres) ⟨rfl, rfl, rfl, trivial⟩
      refine gx_el (loop f 0 z.beg _ L (by omega) ?_ (fun _ _ _ => rfl) rfl) ⟨rfl, rfl, rfl, trivial⟩
      exact KO1.put (z := z.beg) ⟨hz.1, hz.2.1, hz.2.2.1, hz.2.2.2.1, hz.2.2.2.2.1, hz.2.2.2.2.2.1, hz.2.2.2.2.2.2.1, hz.2.2.2.2.2.2.2.1⟩ rfl
    · exact absurd ((nI_leI (by omega) (by omega)).mpr hf2) h8
theorem sg_lt {z : kS} (hz : KOK F w z) {q : Nat} (hq : q < 2 ^ (3 * w)) : F 15 q = nI (z.sg q) ∧ z.sg q < 4096 := by
  obtain ⟨h1, -, h2⟩ := hz.2.2.2.2.1.1
  exact ⟨(h2 q hq).1, Nat.lt_of_lt_of_le (h2 q hq).2 (pw12 _ h1)⟩
theorem i16_dec2 : ∀ a, a < 64 → ∀ b, b < 64 → (nI (64 * a + b)).toInt16.toInt32 = nI (64 * a + b) := by decide +kernel
theorem i16_dec (g : Nat) (h : g < 4096) : (nI g).toInt16.toInt32 = nI g := by
  have := i16_dec2 (g / 64) (by omega) (g % 64) (by omega)
  rwa [Nat.div_add_mod] at this
theorem contI {st : Nat} (h : st < 2 ^ (3 * w)) (hw : w < 4) : (if 0 ≤ nI st ∧ nI st < nI (2 ^ (3 * w)) then (1 : Int32) else 0) = 1 := by
  have := pu_N w hw
  rw [if_pos ⟨(nI_leI (a := 0) (by decide) (by omega)).mpr (Nat.zero_le _), (nI_ltI (by omega) (by omega)).mpr h⟩]
theorem c_PP_signature (HX : gH ks lay (2 ^ (3 * w)) sX) {z : kS} (hz : KOK F w z) {q : Nat} (hq : q < 2 ^ (3 * w)) : Con l y_PP_signature (Cond.code y_PP_signature b_PP_signature 2 (some .short) :: WT) rm_PP_signature D vcl ca ks lay ad [xR 0, xI (nI q)] F L (fun r F' L' => r = some (xI (nI (z.sg q))) ∧ F' = F ∧ L' = L) := by
  have hw : w < 4 := by have := hz.1.1; omega
  have hN := pu_N w hw
  obtain ⟨s1, s2⟩ := sg_lt hz hq
  refine Con.ofK (fun post K => ?_)
  refine Con.of (ls := [(0, xR 0), (1, xI (nI q))]) (by decide) rfl rfl (Nat.le_of_ble_eq_true rfl) ?_
  intro p e s m args below meth c A X hr hA
  refine gx_aload_n X d_PP_signature_0 rfl rfl ?_
  refine gx_getr X d_PP_signature_1 (gci in_PP) (HX _ rfl).1 (HX _ rfl).2 rfl 0 (by decide) (gcw X lk_PP_31) (fun _ h => h) rfl ?_
  refine gx_iload_n X d_PP_signature_4 rfl rfl ?_
  refine gx_callV X d_PP_signature_5 mf_Sp_contains lk_PP_156 (c_Sp_contains (HX.mono sG_X) hz.1 (nI q)) (HX _ rfl).1 (HX _ rfl).2 rfl rfl rfl (Nat.le_of_ble_eq_true rfl) ⟨by decide, by decide⟩ ⟨rfl, rfl⟩ ⟨Nat.zero_le _, Nat.zero_le _⟩ (fun r5 F5 L5 hp5 => ?_)
  obtain ⟨rfl, rfl, rfl⟩ := hp5
  refine gx_top (contI hq hw) ?_
  refine gx_if_ne X d_PP_signature_8 (tgt := 21) (by decide) (fun h8 => ?_) (fun h8 => ?_)
  · refine gx_aload_n X d_PP_signature_21 rfl rfl ?_
    refine gx_getr X d_PP_signature_22 (gci in_PP) (HX _ rfl).1 (HX _ rfl).2 rfl 5 (by decide) (gcw X lk_PP_58) (fun _ h => h) rfl ?_
    refine gx_getr X d_PP_signature_25 (gci in_Gr) (HX _ rfl).1 (HX _ rfl).2 rfl 2 (by decide) (gcw X lk_PP_164) (fun _ h => h) rfl ?_
    refine gx_iload_n X d_PP_signature_28 rfl rfl ?_
    refine gx_iald X d_PP_signature_29 (HX _ rfl).1 (HX _ rfl).2 rfl (by omega) (by omega) ?_
    refine gx_top s1 ?_
    refine gx_i2s X d_PP_signature_30 (i16_dec _ s2) ?_
    refine gx_zret X hr (by show Value.int _ = _; rw [i16_dec _ s2]) hA d_PP_signature_31 (K _ _ _ ⟨rfl, rfl, rfl⟩)
  · exact absurd h8 (by decide)
theorem c_PP_follow (HX : gH ks lay (2 ^ (3 * w)) sX) {z : kS} (hz : KOK F w z) {e0 q : Nat} (he : e0 < z.ne) (hq : q < 2 ^ (3 * w)) (x : Int32) : Con l y_PP_follow (Cond.code y_PP_follow b_PP_follow 4 (some .int) :: WT) rm_PP_follow D vcl ca ks lay ad [xR 0, xI (nI e0), xI (nI q), xI x] F L (fun r F' L' => r = some (xI (tgI (stp w z.ek z.ev z.tg e0 q x.toBitVec.toNat))) ∧ F' = F ∧ L' = L) := by
  have hw : w < 4 := by have := hz.1.1; omega
  have hN := pu_N w hw
  have hne := hz.2.2.2.1.1
  refine Con.ofK (fun post K => ?_)
  refine Con.of (ls := [(0, xR 0), (1, xI (nI e0)), (2, xI (nI q)), (3, xI x)]) (by decide) rfl rfl (Nat.le_of_ble_eq_true rfl) ?_
  intro p e s m args below meth c A X hr hA
  refine gx_iload_n X d_PP_follow_0 rfl rfl ?_
  refine gx_if_lt X d_PP_follow_1 (tgt := 26) (by decide) (fun h1 => ?_) (fun h1 => ?_)
  · exact absurd ((nI_leI (a := 0) (b := e0) (by decide) (by omega)).mpr (Nat.zero_le _)) (Int32.not_le.mpr h1)
  · refine gx_iload_n X d_PP_follow_4 rfl rfl ?_
    refine gx_aload_n X d_PP_follow_5 rfl rfl ?_
    refine gx_getr X d_PP_follow_6 (gci in_PP) (HX _ rfl).1 (HX _ rfl).2 rfl 4 (by decide) (gcw X lk_PP_54) (fun _ h => h) rfl ?_
    refine gx_geti X d_PP_follow_9 (gci in_Pr) (HX _ rfl).1 (HX _ rfl).2 rfl 6 (by decide) (gcw X lk_PP_147) (fun _ h => h) rfl ?_
    refine gx_top hz.2.2.2.1.2.1 ?_
    refine gx_icmp_ge X d_PP_follow_12 (tgt := 26) (by decide) (fun h12 => ?_) (fun h12 => ?_)
    · exact absurd ((nI_leI (by omega) (by omega)).mp h12) (by omega)
    · refine gx_aload_n X d_PP_follow_15 rfl rfl ?_
      refine gx_getr X d_PP_follow_16 (gci in_PP) (HX _ rfl).1 (HX _ rfl).2 rfl 0 (by decide) (gcw X lk_PP_31) (fun _ h => h) rfl ?_
      refine gx_iload_n X d_PP_follow_19 rfl rfl ?_
      refine gx_callV X d_PP_follow_20 mf_Sp_contains lk_PP_156 (c_Sp_contains (HX.mono sG_X) hz.1 (nI q)) (HX _ rfl).1 (HX _ rfl).2 rfl rfl rfl (Nat.le_of_ble_eq_true rfl) ⟨by decide, by decide⟩ ⟨rfl, rfl⟩ ⟨Nat.zero_le _, Nat.zero_le _⟩ (fun r20 F20 L20 hp20 => ?_)
      obtain ⟨rfl, rfl, rfl⟩ := hp20
      refine gx_top (contI hq hw) ?_
      refine gx_if_ne X d_PP_follow_23 (tgt := 36) (by decide) (fun h23 => ?_) (fun h23 => ?_)
      · refine gx_aload_n X d_PP_follow_36 rfl rfl ?_
        refine gx_getr X d_PP_follow_37 (gci in_PP) (HX _ rfl).1 (HX _ rfl).2 rfl 4 (by decide) (gcw X lk_PP_54) (fun _ h => h) rfl ?_
        refine gx_iload_n X d_PP_follow_40 rfl rfl ?_
        refine gx_iload_n X d_PP_follow_41 rfl rfl ?_
        refine gx_iload_n X d_PP_follow_42 rfl rfl ?_
        refine gx_callV X d_PP_follow_43 mf_Pr_step lk_PP_172 (c_Pr_step HX hz.1 hz.2.2.2.1 he hq x) (HX _ rfl).1 (HX _ rfl).2 rfl rfl rfl (Nat.le_of_ble_eq_true rfl) ⟨by decide, by decide⟩ ⟨rfl, rfl⟩ ⟨Nat.zero_le _, Nat.zero_le _⟩ (fun r43 F43 L43 hp43 => ?_)
        obtain ⟨rfl, rfl, rfl⟩ := hp43
        refine gx_iret X hr hA d_PP_follow_46 (K _ _ _ ⟨rfl, rfl, rfl⟩)
      · exact absurd h23 (by decide)
theorem c_PP_path (HX : gH ks lay (2 ^ (3 * w)) sX) {z : kS} (hz : KOK F w z) {k : Nat} {es : List Nat} (hes : z.pt = some es) (hk : k < es.length) : Con l y_PP_path (Cond.code y_PP_path b_PP_path 2 (some .int) :: WT) rm_PP_path D vcl ca ks lay ad [xR 0, xI (nI k)] F L (fun r F' L' => r = some (xI (nI (es.getD k 0))) ∧ F' = F ∧ L' = L) := by
  have hp := hz.2.2.2.2.2.2.1
  rw [hes] at hp
  obtain ⟨p1, p2, p3⟩ := hp
  refine Con.ofK (fun post K => ?_)
  refine Con.of (ls := [(0, xR 0), (1, xI (nI k))]) (by decide) rfl rfl (Nat.le_of_ble_eq_true rfl) ?_
  intro p e s m args below meth c A X hr hA
  refine gx_iload_n X d_PP_path_0 rfl rfl ?_
  refine gx_if_lt X d_PP_path_1 (tgt := 15) (by decide) (fun h1 => ?_) (fun h1 => ?_)
  · exact absurd ((nI_leI (a := 0) (b := k) (by decide) (by omega)).mpr (Nat.zero_le _)) (Int32.not_le.mpr h1)
  · refine gx_iload_n X d_PP_path_4 rfl rfl ?_
    refine gx_aload_n X d_PP_path_5 rfl rfl ?_
    refine gx_getr X d_PP_path_6 (gci in_PP) (HX _ rfl).1 (HX _ rfl).2 rfl 6 (by decide) (gcw X lk_PP_62) (fun _ h => h) rfl ?_
    refine gx_geti X d_PP_path_9 (gci in_Se) (HX _ rfl).1 (HX _ rfl).2 rfl 13 (by decide) (gcw X lk_PP_191) (fun _ h => h) rfl ?_
    refine gx_top p2 ?_
    refine gx_icmp_lt X d_PP_path_12 (tgt := 25) (by decide) (fun h12 => ?_) (fun h12 => ?_)
    · refine gx_aload_n X d_PP_path_25 rfl rfl ?_
      refine gx_getr X d_PP_path_26 (gci in_PP) (HX _ rfl).1 (HX _ rfl).2 rfl 6 (by decide) (gcw X lk_PP_62) (fun _ h => h) rfl ?_
      refine gx_getr X d_PP_path_29 (gci in_Se) (HX _ rfl).1 (HX _ rfl).2 rfl 14 (by decide) (gcw X lk_PP_196) (fun _ h => h) rfl ?_
      refine gx_iload_n X d_PP_path_32 rfl rfl ?_
      refine gx_iald X d_PP_path_33 (HX _ rfl).1 (HX _ rfl).2 rfl (by omega) (by omega) ?_
      refine gx_top (p3 k hk) ?_
      refine gx_iret X hr hA d_PP_path_34 (K _ _ _ ⟨rfl, rfl, rfl⟩)
    · exact absurd ((nI_ltI (by omega) (by omega)).mpr hk) h12
theorem c_PP_input (HX : gH ks lay (2 ^ (3 * w)) sX) {z : kS} (hz : KOK F w z) {k : Nat} (hk : k < z.iq.length) : Con l y_PP_input (Cond.code y_PP_input b_PP_input 2 (some .int) :: WT) rm_PP_input D vcl ca ks lay ad [xR 0, xI (nI k)] F L (fun r F' L' => r = some (xI (nI (z.iq.getD k 0))) ∧ F' = F ∧ L' = L) := by
  obtain ⟨p1, p2, p3⟩ := hz.2.2.2.2.2.2.2.1
  refine Con.ofK (fun post K => ?_)
  refine Con.of (ls := [(0, xR 0), (1, xI (nI k))]) (by decide) rfl rfl (Nat.le_of_ble_eq_true rfl) ?_
  intro p e s m args below meth c A X hr hA
  refine gx_iload_n X d_PP_input_0 rfl rfl ?_
  refine gx_if_lt X d_PP_input_1 (tgt := 15) (by decide) (fun h1 => ?_) (fun h1 => ?_)
  · exact absurd ((nI_leI (a := 0) (b := k) (by decide) (by omega)).mpr (Nat.zero_le _)) (Int32.not_le.mpr h1)
  · refine gx_iload_n X d_PP_input_4 rfl rfl ?_
    refine gx_aload_n X d_PP_input_5 rfl rfl ?_
    refine gx_getr X d_PP_input_6 (gci in_PP) (HX _ rfl).1 (HX _ rfl).2 rfl 7 (by decide) (gcw X lk_PP_71) (fun _ h => h) rfl ?_
    refine gx_geti X d_PP_input_9 (gci in_Re) (HX _ rfl).1 (HX _ rfl).2 rfl 5 (by decide) (gcw X lk_PP_199) (fun _ h => h) rfl ?_
    refine gx_top p2 ?_
    refine gx_icmp_lt X d_PP_input_12 (tgt := 25) (by decide) (fun h12 => ?_) (fun h12 => ?_)
    · refine gx_aload_n X d_PP_input_25 rfl rfl ?_
      refine gx_getr X d_PP_input_26 (gci in_PP) (HX _ rfl).1 (HX _ rfl).2 rfl 7 (by decide) (gcw X lk_PP_71) (fun _ h => h) rfl ?_
      refine gx_getr X d_PP_input_29 (gci in_Re) (HX _ rfl).1 (HX _ rfl).2 rfl 4 (by decide) (gcw X lk_PP_204) (fun _ h => h) rfl ?_
      refine gx_iload_n X d_PP_input_32 rfl rfl ?_
      refine gx_iald X d_PP_input_33 (HX _ rfl).1 (HX _ rfl).2 rfl (by omega) (by omega) ?_
      refine gx_top (p3 k hk) ?_
      refine gx_iret X hr hA d_PP_input_34 (K _ _ _ ⟨rfl, rfl, rfl⟩)
    · exact absurd ((nI_ltI (by omega) (by omega)).mpr hk) h12
theorem sm32 : ∀ k, k < 12 → (((nI k &&& 31).toBitVec.smod 32).toNat = k ∧ ((nI k).toBitVec.smod 32).toNat = k) := by decide +kernel
theorem bit_dec : (nI 1).toBitVec.toNat = 2 ^ 1 - 1 := by decide
theorem nI_nat {n : Nat} (h : n < 2 ^ 31) : (nI n).toBitVec.toNat = n := by
  show (BitVec.ofNat 32 n).toNat = n
  rw [BitVec.toNat_ofNat]
  omega
theorem c_PP_holds (HX : gH ks lay (2 ^ (3 * w)) sX) {z : kS} (hz : KOK F w z) {k q : Nat} (hk : k < z.np) (hq : q < 2 ^ (3 * w)) : Con l y_PP_holds (Cond.code y_PP_holds b_PP_holds 3 (some .boolean) :: WT) rm_PP_holds D vcl ca ks lay ad [xR 0, xI (nI k), xI (nI q)] F L (fun r F' L' => r = some (xI (cond ((z.sg q).testBit k) 1 0)) ∧ F' = F ∧ L' = L) := by
  have hw : w < 4 := by have := hz.1.1; omega
  have hN := pu_N w hw
  have hnp := hz.2.2.2.2.1.1.1
  obtain ⟨s1, s2⟩ := sg_lt hz hq
  have hdiv : z.sg q / 2 ^ k < 2 ^ 31 := Nat.lt_of_le_of_lt (Nat.div_le_self _ _) (by omega)
  have hbit : (nI (z.sg q) >>> (nI k &&& 31)) &&& nI 1 = nI (z.sg q / 2 ^ k % 2) := by
    rw [pk_shrN (by omega) _ k (sm32 k (by omega)).1, pk_and _ 1 bit_dec, nI_nat hdiv]
  have htb : (z.sg q).testBit k = decide (z.sg q / 2 ^ k % 2 = 1) := by rw [Nat.testBit_eq_decide_div_mod_eq]
  refine Con.ofK (fun post K => ?_)
  refine Con.of (ls := [(0, xR 0), (1, xI (nI k)), (2, xI (nI q))]) (by decide) rfl rfl (Nat.le_of_ble_eq_true rfl) ?_
  intro p e s m args below meth c A X hr hA
  refine gx_iload_n X d_PP_holds_0 rfl rfl ?_
  refine gx_if_lt X d_PP_holds_1 (tgt := 26) (by decide) (fun h1 => ?_) (fun h1 => ?_)
  · exact absurd ((nI_leI (a := 0) (b := k) (by decide) (by omega)).mpr (Nat.zero_le _)) (Int32.not_le.mpr h1)
  · refine gx_iload_n X d_PP_holds_4 rfl rfl ?_
    refine gx_aload_n X d_PP_holds_5 rfl rfl ?_
    refine gx_getr X d_PP_holds_6 (gci in_PP) (HX _ rfl).1 (HX _ rfl).2 rfl 5 (by decide) (gcw X lk_PP_58) (fun _ h => h) rfl ?_
    refine gx_geti X d_PP_holds_9 (gci in_Gr) (HX _ rfl).1 (HX _ rfl).2 rfl 1 (by decide) (gcw X lk_PP_131) (fun _ h => h) rfl ?_
    refine gx_top hz.2.2.2.2.1.1.2.1 ?_
    refine gx_icmp_ge X d_PP_holds_12 (tgt := 26) (by decide) (fun h12 => ?_) (fun h12 => ?_)
    · exact absurd ((nI_leI (by omega) (by omega)).mp h12) (by omega)
    · refine gx_aload_n X d_PP_holds_15 rfl rfl ?_
      refine gx_getr X d_PP_holds_16 (gci in_PP) (HX _ rfl).1 (HX _ rfl).2 rfl 0 (by decide) (gcw X lk_PP_31) (fun _ h => h) rfl ?_
      refine gx_iload_n X d_PP_holds_19 rfl rfl ?_
      refine gx_callV X d_PP_holds_20 mf_Sp_contains lk_PP_156 (c_Sp_contains (HX.mono sG_X) hz.1 (nI q)) (HX _ rfl).1 (HX _ rfl).2 rfl rfl rfl (Nat.le_of_ble_eq_true rfl) ⟨by decide, by decide⟩ ⟨rfl, rfl⟩ ⟨Nat.zero_le _, Nat.zero_le _⟩ (fun r20 F20 L20 hp20 => ?_)
      obtain ⟨rfl, rfl, rfl⟩ := hp20
      refine gx_top (contI hq hw) ?_
      refine gx_if_ne X d_PP_holds_23 (tgt := 36) (by decide) (fun h23 => ?_) (fun h23 => ?_)
      · refine gx_aload_n X d_PP_holds_36 rfl rfl ?_
        refine gx_getr X d_PP_holds_37 (gci in_PP) (HX _ rfl).1 (HX _ rfl).2 rfl 5 (by decide) (gcw X lk_PP_58) (fun _ h => h) rfl ?_
        refine gx_getr X d_PP_holds_40 (gci in_Gr) (HX _ rfl).1 (HX _ rfl).2 rfl 2 (by decide) (gcw X lk_PP_164) (fun _ h => h) rfl ?_
        refine gx_iload_n X d_PP_holds_43 rfl rfl ?_
        refine gx_iald X d_PP_holds_44 (HX _ rfl).1 (HX _ rfl).2 rfl (by omega) (by omega) ?_
        refine gx_iload_n X d_PP_holds_45 rfl rfl ?_
        refine gx_ishr X d_PP_holds_46 ?_
        refine gx_iconst X d_PP_holds_47 (v := nI 1) (by decide) ?_
        refine gx_iand X d_PP_holds_48 ?_
        refine gx_top (y := nI (z.sg q / 2 ^ k % 2)) (by rw [s1]; exact hbit) ?_
        rw [htb] at K
        rcases Nat.mod_two_eq_zero_or_one (z.sg q / 2 ^ k) with h2 | h2
        · rw [h2] at K ⊢
          refine gx_if_eq X d_PP_holds_49 (tgt := 56) (by decide) (fun h49 => ?_) (fun h49 => ?_)
          · refine gx_iconst X d_PP_holds_56 (v := nI 0) (by decide) ?_
            refine gx_zret X hr (by first | rfl | decide) hA d_PP_holds_57 (K _ _ _ ⟨rfl, rfl, rfl⟩)
          · exact absurd rfl h49
        · rw [h2] at K ⊢
          refine gx_if_eq X d_PP_holds_49 (tgt := 56) (by decide) (fun h49 => ?_) (fun h49 => ?_)
          · exact absurd h49 (by decide)
          · refine gx_iconst X d_PP_holds_52 (v := nI 1) (by decide) ?_
            refine gx_goto X d_PP_holds_53 (tgt := 57) (by decide) ?_
            refine gx_zret X hr (by first | rfl | decide) hA d_PP_holds_57 (K _ _ _ ⟨rfl, rfl, rfl⟩)
      · exact absurd h23 (by decide)
def ndI (ns : List nd) (i t : Nat) : Int32 := match t with
  | 0 => nI (nAt ns i).1
  | 1 => nI (nAt ns i).2.1
  | 2 => if i = 0 then -1 else nI (nAt ns i).2.2.1
  | _ => if i = 0 then -1 else nI (nAt ns i).2.2.2.1
theorem c_PP_node (HX : gH ks lay (2 ^ (3 * w)) sX) {z : kS} (hz : KOK F w z) {i t : Nat} (hi : i < z.ns.length) (ht : t < 4) : Con l y_PP_node (Cond.code y_PP_node b_PP_node 3 (some .int) :: WT) rm_PP_node D vcl ca ks lay ad [xR 0, xI (nI i), xI (nI t)] F L (fun r F' L' => r = some (xI (ndI z.ns i t)) ∧ F' = F ∧ L' = L) := by
  obtain ⟨n1, n2, n3⟩ := hz.2.2.2.2.2.1
  obtain ⟨a1, a2, a3, a4⟩ := n3 i hi
  refine Con.ofK (fun post K => ?_)
  refine Con.of (ls := [(0, xR 0), (1, xI (nI i)), (2, xI (nI t))]) (by decide) rfl rfl (Nat.le_of_ble_eq_true rfl) ?_
  intro p e s m args below meth c A X hr hA
  refine gx_iload_n X d_PP_node_0 rfl rfl ?_
  refine gx_if_lt X d_PP_node_1 (tgt := 15) (by decide) (fun h1 => ?_) (fun h1 => ?_)
  · exact absurd ((nI_leI (a := 0) (b := i) (by decide) (by omega)).mpr (Nat.zero_le _)) (Int32.not_le.mpr h1)
  · refine gx_iload_n X d_PP_node_4 rfl rfl ?_
    refine gx_aload_n X d_PP_node_5 rfl rfl ?_
    refine gx_getr X d_PP_node_6 (gci in_PP) (HX _ rfl).1 (HX _ rfl).2 rfl 6 (by decide) (gcw X lk_PP_62) (fun _ h => h) rfl ?_
    refine gx_geti X d_PP_node_9 (gci in_Se) (HX _ rfl).1 (HX _ rfl).2 rfl 3 (by decide) (gcw X lk_PP_176) (fun _ h => h) rfl ?_
    refine gx_top n2 ?_
    refine gx_icmp_lt X d_PP_node_12 (tgt := 25) (by decide) (fun h12 => ?_) (fun h12 => ?_)
    · refine gx_iload_n X d_PP_node_25 rfl rfl ?_
      match t, ht with
      | 0, _ =>
        refine gx_tableIn X d_PP_node_26 (off := 30) (tgt := 56) (by decide) (by decide) (by decide) (by decide) ?_
        refine gx_aload_n X d_PP_node_56 rfl rfl ?_
        refine gx_getr X d_PP_node_57 (gci in_PP) (HX _ rfl).1 (HX _ rfl).2 rfl 6 (by decide) (gcw X lk_PP_62) (fun _ h => h) rfl ?_
        refine gx_getr X d_PP_node_60 (gci in_Se) (HX _ rfl).1 (HX _ rfl).2 rfl 4 (by decide) (gcw X lk_PP_179) (fun _ h => h) rfl ?_
        refine gx_iload_n X d_PP_node_63 rfl rfl ?_
        refine gx_iald X d_PP_node_64 (HX _ rfl).1 (HX _ rfl).2 rfl (by omega) (by omega) ?_
        refine gx_top a1 ?_
        refine gx_iret X hr hA d_PP_node_65 (K _ _ _ ⟨rfl, rfl, rfl⟩)
      | 1, _ =>
        refine gx_tableIn X d_PP_node_26 (off := 40) (tgt := 66) (by decide) (by decide) (by decide) (by decide) ?_
        refine gx_aload_n X d_PP_node_66 rfl rfl ?_
        refine gx_getr X d_PP_node_67 (gci in_PP) (HX _ rfl).1 (HX _ rfl).2 rfl 6 (by decide) (gcw X lk_PP_62) (fun _ h => h) rfl ?_
        refine gx_getr X d_PP_node_70 (gci in_Se) (HX _ rfl).1 (HX _ rfl).2 rfl 5 (by decide) (gcw X lk_PP_182) (fun _ h => h) rfl ?_
        refine gx_iload_n X d_PP_node_73 rfl rfl ?_
        refine gx_iald X d_PP_node_74 (HX _ rfl).1 (HX _ rfl).2 rfl (by omega) (by omega) ?_
        refine gx_top a2 ?_
        refine gx_iret X hr hA d_PP_node_75 (K _ _ _ ⟨rfl, rfl, rfl⟩)
      | 2, _ =>
        refine gx_tableIn X d_PP_node_26 (off := 50) (tgt := 76) (by decide) (by decide) (by decide) (by decide) ?_
        refine gx_aload_n X d_PP_node_76 rfl rfl ?_
        refine gx_getr X d_PP_node_77 (gci in_PP) (HX _ rfl).1 (HX _ rfl).2 rfl 6 (by decide) (gcw X lk_PP_62) (fun _ h => h) rfl ?_
        refine gx_getr X d_PP_node_80 (gci in_Se) (HX _ rfl).1 (HX _ rfl).2 rfl 6 (by decide) (gcw X lk_PP_183) (fun _ h => h) rfl ?_
        refine gx_iload_n X d_PP_node_83 rfl rfl ?_
        refine gx_iald X d_PP_node_84 (HX _ rfl).1 (HX _ rfl).2 rfl (by omega) (by omega) ?_
        refine gx_top a3 ?_
        refine gx_iret X hr hA d_PP_node_85 (K _ _ _ ⟨rfl, rfl, rfl⟩)
      | 3, _ =>
        refine gx_tableIn X d_PP_node_26 (off := 60) (tgt := 86) (by decide) (by decide) (by decide) (by decide) ?_
        refine gx_aload_n X d_PP_node_86 rfl rfl ?_
        refine gx_getr X d_PP_node_87 (gci in_PP) (HX _ rfl).1 (HX _ rfl).2 rfl 6 (by decide) (gcw X lk_PP_62) (fun _ h => h) rfl ?_
        refine gx_getr X d_PP_node_90 (gci in_Se) (HX _ rfl).1 (HX _ rfl).2 rfl 7 (by decide) (gcw X lk_PP_186) (fun _ h => h) rfl ?_
        refine gx_iload_n X d_PP_node_93 rfl rfl ?_
        refine gx_iald X d_PP_node_94 (HX _ rfl).1 (HX _ rfl).2 rfl (by omega) (by omega) ?_
        refine gx_top a4 ?_
        refine gx_iret X hr hA d_PP_node_95 (K _ _ _ ⟨rfl, rfl, rfl⟩)
    · exact absurd ((nI_ltI (by omega) (by omega)).mpr hi) h12
end
