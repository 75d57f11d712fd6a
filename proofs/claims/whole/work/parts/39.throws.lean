/-! the face where it throws (own text) -/
def rX : Room := { frames := 40, cells := 1, slots := 6, locals := 1200 }
abbrev nIAE : String := "java/lang/IllegalArgumentException"
abbrev nISE : String := "java/lang/IllegalStateException"
abbrev nIOE : String := "java/lang/IndexOutOfBoundsException"
theorem xk_99 : Cond.classLink R_PP 99 nIAE ∈ WT := WT_lw (List.mem_append_right _ (by decide +kernel)) (by decide +kernel)
theorem xk_110 : Cond.classLink R_PP 110 nISE ∈ WT := WT_lw (List.mem_append_right _ (by decide +kernel)) (by decide +kernel)
theorem xk_159 : Cond.classLink R_PP 159 nIOE ∈ WT := WT_lw (List.mem_append_right _ (by decide +kernel)) (by decide +kernel)
theorem xi_99 : Cond.initialized nIAE ∈ WT := WT_lw (List.mem_append_right _ (by decide +kernel)) (by decide +kernel)
theorem xi_110 : Cond.initialized nISE ∈ WT := WT_lw (List.mem_append_right _ (by decide +kernel)) (by decide +kernel)
theorem xi_159 : Cond.initialized nIOE ∈ WT := WT_lw (List.mem_append_right _ (by decide +kernel)) (by decide +kernel)
theorem xs_101 : (101, "the line is no edge") ∈ strL := by simp [strL]
theorem xs_112 : (112, "there are 20 edges") ∈ strL := by simp [strL]
theorem xs_126 : (126, "the line is no atom") ∈ strL := by simp [strL]
theorem xs_129 : (129, "there are 12 predicates") ∈ strL := by simp [strL]
theorem xs_151 : (151, "fuel is not 1 .. 40") ∈ strL := by simp [strL]
theorem xs_161 : (161, "no such predicate or state") ∈ strL := by simp [strL]
theorem xs_168 : (168, "no such state") ∈ strL := by simp [strL]
theorem xs_170 : (170, "no such edge or state") ∈ strL := by simp [strL]
theorem xs_177 : (177, "no such node") ∈ strL := by simp [strL]
theorem xs_189 : (189, "no such what") ∈ strL := by simp [strL]
theorem xs_194 : (194, "no such edge of a path") ∈ strL := by simp [strL]
theorem xs_202 : (202, "no such input") ∈ strL := by simp [strL]
section
variable {l : Launch} {D : va_G} {ca : Nat → ClassId} {ks : List Nat} {lay : Nat → gxE} {ad : Nat → Nat} {F : Nat → Nat → Int32} {L : Nat → Nat → Int64} {w : Nat}
theorem t_PP_prove (hf : l.flags = pinnedFlags ++ [noTraceFlag]) (x : Int32) (hx : ¬ (nI 1 ≤ x ∧ x ≤ nI 40)) : ConT l y_PP_prove (Cond.code y_PP_prove b_PP_prove 3 (some .int) :: WT) rX D vcl ca ks lay ad [xR 0, xI x] F L nIAE (fun F' L' => F' = F ∧ L' = L) := by
  refine ConT.of (ls := [(0, xR 0), (1, xI x)]) (by decide) rfl rfl (Nat.le_of_ble_eq_true rfl) ?_
  intro p e s m args below meth c A X E hA
  refine gx_iload_n X d_PP_prove_0 rfl rfl ?_
  refine gx_iconst X d_PP_prove_1 (v := nI 1) (by decide) ?_
  refine gx_icmp_lt X d_PP_prove_2 (tgt := 11) (by decide) (fun h2 => ?_) (fun h2 => ?_)
  · exact gx_throw X E hA hf d_PP_prove_11 d_PP_prove_14 d_PP_prove_15 d_PP_prove_17 d_PP_prove_20 xk_99 xi_99 xs_151 ok_IAE (by decide +kernel) ⟨by decide, by decide, by decide, by decide⟩ ⟨rfl, rfl⟩
  · refine gx_iload_n X d_PP_prove_5 rfl rfl ?_
    refine gx_bipush X d_PP_prove_6 (v := nI 40) (by decide) ?_
    refine gx_icmp_le X d_PP_prove_8 (tgt := 21) (by decide) (fun h8 => ?_) (fun h8 => ?_)
    · exact absurd ⟨Int32.not_lt.mp h2, h8⟩ hx
    · exact gx_throw X E hA hf d_PP_prove_11 d_PP_prove_14 d_PP_prove_15 d_PP_prove_17 d_PP_prove_20 xk_99 xi_99 xs_151 ok_IAE (by decide +kernel) ⟨by decide, by decide, by decide, by decide⟩ ⟨rfl, rfl⟩
theorem contN {x : Int32} (h : ¬ (0 ≤ x ∧ x < nI (2 ^ (3 * w)))) : (if 0 ≤ x ∧ x < nI (2 ^ (3 * w)) then (1 : Int32) else 0) = 0 := if_neg h
theorem t_PP_signature (HX : gH ks lay (2 ^ (3 * w)) sX) {z : kS} (hz : KOK F w z) (hf : l.flags = pinnedFlags ++ [noTraceFlag]) (x : Int32) (hx : ¬ (0 ≤ x ∧ x < nI (2 ^ (3 * w)))) : ConT l y_PP_signature (Cond.code y_PP_signature b_PP_signature 2 (some .short) :: WT) rX D vcl ca ks lay ad [xR 0, xI x] F L nIOE (fun F' L' => F' = F ∧ L' = L) := by
  refine ConT.of (ls := [(0, xR 0), (1, xI x)]) (by decide) rfl rfl (Nat.le_of_ble_eq_true rfl) ?_
  intro p e s m args below meth c A X E hA
  refine gx_aload_n X d_PP_signature_0 rfl rfl ?_
  refine gx_getr X d_PP_signature_1 (gci in_PP) (HX _ rfl).1 (HX _ rfl).2 rfl 0 (by decide) (gcw X lk_PP_31) (fun _ h => h) rfl ?_
  refine gx_iload_n X d_PP_signature_4 rfl rfl ?_
  refine gx_callV X d_PP_signature_5 mf_Sp_contains lk_PP_156 (c_Sp_contains (HX.mono sG_X) hz.1 x) (HX _ rfl).1 (HX _ rfl).2 rfl rfl rfl (Nat.le_of_ble_eq_true rfl) ⟨by decide, by decide⟩ ⟨rfl, rfl⟩ ⟨Nat.zero_le _, Nat.zero_le _⟩ (fun r5 F5 L5 hp5 => ?_)
  obtain ⟨rfl, rfl, rfl⟩ := hp5
  refine gx_top (contN hx) ?_
  refine gx_if_ne X d_PP_signature_8 (tgt := 21) (by decide) (fun h8 => ?_) (fun h8 => ?_)
  · exact absurd rfl h8
  · exact gx_throw X E hA hf d_PP_signature_11 d_PP_signature_14 d_PP_signature_15 d_PP_signature_17 d_PP_signature_20 xk_159 xi_159 xs_168 ok_IOE (by decide +kernel) ⟨by decide, by decide, by decide, by decide⟩ ⟨rfl, rfl⟩
theorem contY {x : Int32} (h : 0 ≤ x ∧ x < nI (2 ^ (3 * w))) : (if 0 ≤ x ∧ x < nI (2 ^ (3 * w)) then (1 : Int32) else 0) = 1 := if_pos h
theorem t_PP_holds (HX : gH ks lay (2 ^ (3 * w)) sX) {z : kS} (hz : KOK F w z) (hf : l.flags = pinnedFlags ++ [noTraceFlag]) (x y : Int32) (hx : ¬ ((0 ≤ x ∧ x < nI z.np) ∧ (0 ≤ y ∧ y < nI (2 ^ (3 * w))))) : ConT l y_PP_holds (Cond.code y_PP_holds b_PP_holds 3 (some .boolean) :: WT) rX D vcl ca ks lay ad [xR 0, xI x, xI y] F L nIOE (fun F' L' => F' = F ∧ L' = L) := by
  refine ConT.of (ls := [(0, xR 0), (1, xI x), (2, xI y)]) (by decide) rfl rfl (Nat.le_of_ble_eq_true rfl) ?_
  intro p e s m args below meth c A X E hA
  refine gx_iload_n X d_PP_holds_0 rfl rfl ?_
  refine gx_if_lt X d_PP_holds_1 (tgt := 26) (by decide) (fun h1 => ?_) (fun h1 => ?_)
  · exact gx_throw X E hA hf d_PP_holds_26 d_PP_holds_29 d_PP_holds_30 d_PP_holds_32 d_PP_holds_35 xk_159 xi_159 xs_161 ok_IOE (by decide +kernel) ⟨by decide, by decide, by decide, by decide⟩ ⟨rfl, rfl⟩
  · refine gx_iload_n X d_PP_holds_4 rfl rfl ?_
    refine gx_aload_n X d_PP_holds_5 rfl rfl ?_
    refine gx_getr X d_PP_holds_6 (gci in_PP) (HX _ rfl).1 (HX _ rfl).2 rfl 5 (by decide) (gcw X lk_PP_58) (fun _ h => h) rfl ?_
    refine gx_geti X d_PP_holds_9 (gci in_Gr) (HX _ rfl).1 (HX _ rfl).2 rfl 1 (by decide) (gcw X lk_PP_131) (fun _ h => h) rfl ?_
    refine gx_top hz.2.2.2.2.1.1.2.1 ?_
    refine gx_icmp_ge X d_PP_holds_12 (tgt := 26) (by decide) (fun h12 => ?_) (fun h12 => ?_)
    · exact gx_throw X E hA hf d_PP_holds_26 d_PP_holds_29 d_PP_holds_30 d_PP_holds_32 d_PP_holds_35 xk_159 xi_159 xs_161 ok_IOE (by decide +kernel) ⟨by decide, by decide, by decide, by decide⟩ ⟨rfl, rfl⟩
    · refine gx_aload_n X d_PP_holds_15 rfl rfl ?_
      refine gx_getr X d_PP_holds_16 (gci in_PP) (HX _ rfl).1 (HX _ rfl).2 rfl 0 (by decide) (gcw X lk_PP_31) (fun _ h => h) rfl ?_
      refine gx_iload_n X d_PP_holds_19 rfl rfl ?_
      refine gx_callV X d_PP_holds_20 mf_Sp_contains lk_PP_156 (c_Sp_contains (HX.mono sG_X) hz.1 y) (HX _ rfl).1 (HX _ rfl).2 rfl rfl rfl (Nat.le_of_ble_eq_true rfl) ⟨by decide, by decide⟩ ⟨rfl, rfl⟩ ⟨Nat.zero_le _, Nat.zero_le _⟩ (fun r20 F20 L20 hp20 => ?_)
      obtain ⟨rfl, rfl, rfl⟩ := hp20
      refine gx_top (contN (fun q => hx ⟨⟨Int32.not_lt.mp h1, Int32.not_le.mp h12⟩, q⟩)) ?_
      refine gx_if_ne X d_PP_holds_23 (tgt := 36) (by decide) (fun h23 => ?_) (fun h23 => ?_)
      · exact absurd rfl h23
      · exact gx_throw X E hA hf d_PP_holds_26 d_PP_holds_29 d_PP_holds_30 d_PP_holds_32 d_PP_holds_35 xk_159 xi_159 xs_161 ok_IOE (by decide +kernel) ⟨by decide, by decide, by decide, by decide⟩ ⟨rfl, rfl⟩
theorem t_PP_follow (HX : gH ks lay (2 ^ (3 * w)) sX) {z : kS} (hz : KOK F w z) (hf : l.flags = pinnedFlags ++ [noTraceFlag]) (x y v : Int32) (hx : ¬ ((0 ≤ x ∧ x < nI z.ne) ∧ (0 ≤ y ∧ y < nI (2 ^ (3 * w))))) : ConT l y_PP_follow (Cond.code y_PP_follow b_PP_follow 4 (some .int) :: WT) rX D vcl ca ks lay ad [xR 0, xI x, xI y, xI v] F L nIOE (fun F' L' => F' = F ∧ L' = L) := by
  refine ConT.of (ls := [(0, xR 0), (1, xI x), (2, xI y), (3, xI v)]) (by decide) rfl rfl (Nat.le_of_ble_eq_true rfl) ?_
  intro p e s m args below meth c A X E hA
  refine gx_iload_n X d_PP_follow_0 rfl rfl ?_
  refine gx_if_lt X d_PP_follow_1 (tgt := 26) (by decide) (fun h1 => ?_) (fun h1 => ?_)
  · exact gx_throw X E hA hf d_PP_follow_26 d_PP_follow_29 d_PP_follow_30 d_PP_follow_32 d_PP_follow_35 xk_159 xi_159 xs_170 ok_IOE (by decide +kernel) ⟨by decide, by decide, by decide, by decide⟩ ⟨rfl, rfl⟩
  · refine gx_iload_n X d_PP_follow_4 rfl rfl ?_
    refine gx_aload_n X d_PP_follow_5 rfl rfl ?_
    refine gx_getr X d_PP_follow_6 (gci in_PP) (HX _ rfl).1 (HX _ rfl).2 rfl 4 (by decide) (gcw X lk_PP_54) (fun _ h => h) rfl ?_
    refine gx_geti X d_PP_follow_9 (gci in_Pr) (HX _ rfl).1 (HX _ rfl).2 rfl 6 (by decide) (gcw X lk_PP_147) (fun _ h => h) rfl ?_
    refine gx_top hz.2.2.2.1.2.1 ?_
    refine gx_icmp_ge X d_PP_follow_12 (tgt := 26) (by decide) (fun h12 => ?_) (fun h12 => ?_)
    · exact gx_throw X E hA hf d_PP_follow_26 d_PP_follow_29 d_PP_follow_30 d_PP_follow_32 d_PP_follow_35 xk_159 xi_159 xs_170 ok_IOE (by decide +kernel) ⟨by decide, by decide, by decide, by decide⟩ ⟨rfl, rfl⟩
    · refine gx_aload_n X d_PP_follow_15 rfl rfl ?_
      refine gx_getr X d_PP_follow_16 (gci in_PP) (HX _ rfl).1 (HX _ rfl).2 rfl 0 (by decide) (gcw X lk_PP_31) (fun _ h => h) rfl ?_
      refine gx_iload_n X d_PP_follow_19 rfl rfl ?_
      refine gx_callV X d_PP_follow_20 mf_Sp_contains lk_PP_156 (c_Sp_contains (HX.mono sG_X) hz.1 y) (HX _ rfl).1 (HX _ rfl).2 rfl rfl rfl (Nat.le_of_ble_eq_true rfl) ⟨by decide, by decide⟩ ⟨rfl, rfl⟩ ⟨Nat.zero_le _, Nat.zero_le _⟩ (fun r20 F20 L20 hp20 => ?_)
      obtain ⟨rfl, rfl, rfl⟩ := hp20
      refine gx_top (contN (fun q => hx ⟨⟨Int32.not_lt.mp h1, Int32.not_le.mp h12⟩, q⟩)) ?_
      refine gx_if_ne X d_PP_follow_23 (tgt := 36) (by decide) (fun h23 => ?_) (fun h23 => ?_)
      · exact absurd rfl h23
      · exact gx_throw X E hA hf d_PP_follow_26 d_PP_follow_29 d_PP_follow_30 d_PP_follow_32 d_PP_follow_35 xk_159 xi_159 xs_170 ok_IOE (by decide +kernel) ⟨by decide, by decide, by decide, by decide⟩ ⟨rfl, rfl⟩
theorem t_PP_path (HX : gH ks lay (2 ^ (3 * w)) sX) {z : kS} (hz : KOK F w z) (hf : l.flags = pinnedFlags ++ [noTraceFlag]) (x : Int32) (hx : ¬ (0 ≤ x ∧ x < ptL z.pt)) : ConT l y_PP_path (Cond.code y_PP_path b_PP_path 2 (some .int) :: WT) rX D vcl ca ks lay ad [xR 0, xI x] F L nIOE (fun F' L' => F' = F ∧ L' = L) := by
  refine ConT.of (ls := [(0, xR 0), (1, xI x)]) (by decide) rfl rfl (Nat.le_of_ble_eq_true rfl) ?_
  intro p e s m args below meth c A X E hA
  refine gx_iload_n X d_PP_path_0 rfl rfl ?_
  refine gx_if_lt X d_PP_path_1 (tgt := 15) (by decide) (fun h1 => ?_) (fun h1 => ?_)
  · exact gx_throw X E hA hf d_PP_path_15 d_PP_path_18 d_PP_path_19 d_PP_path_21 d_PP_path_24 xk_159 xi_159 xs_194 ok_IOE (by decide +kernel) ⟨by decide, by decide, by decide, by decide⟩ ⟨rfl, rfl⟩
  · refine gx_iload_n X d_PP_path_4 rfl rfl ?_
    refine gx_aload_n X d_PP_path_5 rfl rfl ?_
    refine gx_getr X d_PP_path_6 (gci in_PP) (HX _ rfl).1 (HX _ rfl).2 rfl 6 (by decide) (gcw X lk_PP_62) (fun _ h => h) rfl ?_
    refine gx_geti X d_PP_path_9 (gci in_Se) (HX _ rfl).1 (HX _ rfl).2 rfl 13 (by decide) (gcw X lk_PP_191) (fun _ h => h) rfl ?_
    refine gx_top hz.2.2.2.2.2.2.1.len ?_
    refine gx_icmp_lt X d_PP_path_12 (tgt := 25) (by decide) (fun h12 => ?_) (fun h12 => ?_)
    · exact absurd ⟨Int32.not_lt.mp h1, h12⟩ hx
    · exact gx_throw X E hA hf d_PP_path_15 d_PP_path_18 d_PP_path_19 d_PP_path_21 d_PP_path_24 xk_159 xi_159 xs_194 ok_IOE (by decide +kernel) ⟨by decide, by decide, by decide, by decide⟩ ⟨rfl, rfl⟩
theorem t_PP_input (HX : gH ks lay (2 ^ (3 * w)) sX) {z : kS} (hz : KOK F w z) (hf : l.flags = pinnedFlags ++ [noTraceFlag]) (x : Int32) (hx : ¬ (0 ≤ x ∧ x < nI z.iq.length)) : ConT l y_PP_input (Cond.code y_PP_input b_PP_input 2 (some .int) :: WT) rX D vcl ca ks lay ad [xR 0, xI x] F L nIOE (fun F' L' => F' = F ∧ L' = L) := by
  refine ConT.of (ls := [(0, xR 0), (1, xI x)]) (by decide) rfl rfl (Nat.le_of_ble_eq_true rfl) ?_
  intro p e s m args below meth c A X E hA
  refine gx_iload_n X d_PP_input_0 rfl rfl ?_
  refine gx_if_lt X d_PP_input_1 (tgt := 15) (by decide) (fun h1 => ?_) (fun h1 => ?_)
  · exact gx_throw X E hA hf d_PP_input_15 d_PP_input_18 d_PP_input_19 d_PP_input_21 d_PP_input_24 xk_159 xi_159 xs_202 ok_IOE (by decide +kernel) ⟨by decide, by decide, by decide, by decide⟩ ⟨rfl, rfl⟩
  · refine gx_iload_n X d_PP_input_4 rfl rfl ?_
    refine gx_aload_n X d_PP_input_5 rfl rfl ?_
    refine gx_getr X d_PP_input_6 (gci in_PP) (HX _ rfl).1 (HX _ rfl).2 rfl 7 (by decide) (gcw X lk_PP_71) (fun _ h => h) rfl ?_
    refine gx_geti X d_PP_input_9 (gci in_Re) (HX _ rfl).1 (HX _ rfl).2 rfl 5 (by decide) (gcw X lk_PP_199) (fun _ h => h) rfl ?_
    refine gx_top hz.2.2.2.2.2.2.2.1.2.1 ?_
    refine gx_icmp_lt X d_PP_input_12 (tgt := 25) (by decide) (fun h12 => ?_) (fun h12 => ?_)
    · exact absurd ⟨Int32.not_lt.mp h1, h12⟩ hx
    · exact gx_throw X E hA hf d_PP_input_15 d_PP_input_18 d_PP_input_19 d_PP_input_21 d_PP_input_24 xk_159 xi_159 xs_202 ok_IOE (by decide +kernel) ⟨by decide, by decide, by decide, by decide⟩ ⟨rfl, rfl⟩
theorem t_PP_node (HX : gH ks lay (2 ^ (3 * w)) sX) {z : kS} (hz : KOK F w z) (hf : l.flags = pinnedFlags ++ [noTraceFlag]) (x y : Int32) (hx : ¬ (0 ≤ x ∧ x < nI z.ns.length)) : ConT l y_PP_node (Cond.code y_PP_node b_PP_node 3 (some .int) :: WT) rX D vcl ca ks lay ad [xR 0, xI x, xI y] F L nIOE (fun F' L' => F' = F ∧ L' = L) := by
  refine ConT.of (ls := [(0, xR 0), (1, xI x), (2, xI y)]) (by decide) rfl rfl (Nat.le_of_ble_eq_true rfl) ?_
  intro p e s m args below meth c A X E hA
  refine gx_iload_n X d_PP_node_0 rfl rfl ?_
  refine gx_if_lt X d_PP_node_1 (tgt := 15) (by decide) (fun h1 => ?_) (fun h1 => ?_)
  · exact gx_throw X E hA hf d_PP_node_15 d_PP_node_18 d_PP_node_19 d_PP_node_21 d_PP_node_24 xk_159 xi_159 xs_177 ok_IOE (by decide +kernel) ⟨by decide, by decide, by decide, by decide⟩ ⟨rfl, rfl⟩
  · refine gx_iload_n X d_PP_node_4 rfl rfl ?_
    refine gx_aload_n X d_PP_node_5 rfl rfl ?_
    refine gx_getr X d_PP_node_6 (gci in_PP) (HX _ rfl).1 (HX _ rfl).2 rfl 6 (by decide) (gcw X lk_PP_62) (fun _ h => h) rfl ?_
    refine gx_geti X d_PP_node_9 (gci in_Se) (HX _ rfl).1 (HX _ rfl).2 rfl 3 (by decide) (gcw X lk_PP_176) (fun _ h => h) rfl ?_
    refine gx_top hz.2.2.2.2.2.1.2.1 ?_
    refine gx_icmp_lt X d_PP_node_12 (tgt := 25) (by decide) (fun h12 => ?_) (fun h12 => ?_)
    · exact absurd ⟨Int32.not_lt.mp h1, h12⟩ hx
    · exact gx_throw X E hA hf d_PP_node_15 d_PP_node_18 d_PP_node_19 d_PP_node_21 d_PP_node_24 xk_159 xi_159 xs_177 ok_IOE (by decide +kernel) ⟨by decide, by decide, by decide, by decide⟩ ⟨rfl, rfl⟩
theorem t_PP_node2 (HX : gH ks lay (2 ^ (3 * w)) sX) {z : kS} (hz : KOK F w z) (hf : l.flags = pinnedFlags ++ [noTraceFlag]) (x y : Int32) (hx : 0 ≤ x ∧ x < nI z.ns.length) (hy : y.toInt < 0 ∨ 3 < y.toInt) : ConT l y_PP_node (Cond.code y_PP_node b_PP_node 3 (some .int) :: WT) rX D vcl ca ks lay ad [xR 0, xI x, xI y] F L nIAE (fun F' L' => F' = F ∧ L' = L) := by
  refine ConT.of (ls := [(0, xR 0), (1, xI x), (2, xI y)]) (by decide) rfl rfl (Nat.le_of_ble_eq_true rfl) ?_
  intro p e s m args below meth c A X E hA
  refine gx_iload_n X d_PP_node_0 rfl rfl ?_
  refine gx_if_lt X d_PP_node_1 (tgt := 15) (by decide) (fun h1 => ?_) (fun h1 => ?_)
  · exact absurd h1 (Int32.not_lt.mpr hx.1)
  · refine gx_iload_n X d_PP_node_4 rfl rfl ?_
    refine gx_aload_n X d_PP_node_5 rfl rfl ?_
    refine gx_getr X d_PP_node_6 (gci in_PP) (HX _ rfl).1 (HX _ rfl).2 rfl 6 (by decide) (gcw X lk_PP_62) (fun _ h => h) rfl ?_
    refine gx_geti X d_PP_node_9 (gci in_Se) (HX _ rfl).1 (HX _ rfl).2 rfl 3 (by decide) (gcw X lk_PP_176) (fun _ h => h) rfl ?_
    refine gx_top hz.2.2.2.2.2.1.2.1 ?_
    refine gx_icmp_lt X d_PP_node_12 (tgt := 25) (by decide) (fun h12 => ?_) (fun h12 => ?_)
    · refine gx_iload_n X d_PP_node_25 rfl rfl ?_
      refine gx_tableOut X d_PP_node_26 (tgt := 96) hy (by decide) ?_
      exact gx_throw X E hA hf d_PP_node_96 d_PP_node_99 d_PP_node_100 d_PP_node_102 d_PP_node_105 xk_99 xi_99 xs_189 ok_IAE (by decide +kernel) ⟨by decide, by decide, by decide, by decide⟩ ⟨rfl, rfl⟩
    · exact absurd hx.2 h12
theorem t_PP_edge (HX : gH ks lay (2 ^ (3 * w)) sX) {z : kS} (hz : KOK F w z) (hf : l.flags = pinnedFlags ++ [noTraceFlag]) (hrd : rdEdge z.n z.ln = none) : ConT l y_PP_edge (Cond.code y_PP_edge b_PP_edge 3 (some .int) :: WT) rX D vcl ca ks lay ad [xR 0] F L nIAE (fun F' L' => L' = L ∧ KOK F' w z) := by
  obtain ⟨h1, h2, h3, h4, h5, -⟩ := id hz
  refine ConT.of (ls := [(0, xR 0)]) (by decide) rfl rfl (Nat.le_of_ble_eq_true rfl) ?_
  intro p e s m args below meth c A X E hA
  refine gx_aload_n X d_PP_edge_0 rfl rfl ?_
  refine gx_getr X d_PP_edge_1 (gci in_PP) (HX _ rfl).1 (HX _ rfl).2 rfl 3 (by decide) (gcw X lk_PP_50) (fun _ h => h) rfl ?_
  refine gx_callV X d_PP_edge_4 mf_Pa_readEdge lk_PP_95 (c_Pa_readEdge HX h2 h3) (HX _ rfl).1 (HX _ rfl).2 rfl rfl rfl (Nat.le_of_ble_eq_true rfl) ⟨by decide, by decide⟩ ⟨rfl, rfl⟩ ⟨Nat.zero_le _, Nat.zero_le _⟩ (fun r4 F4 L4 hp4 => ?_)
  obtain ⟨rfl, rfl, -, q3⟩ := hp4
  refine gx_top (y := -1) (by rw [hrd]; rfl) ?_
  refine gx_istore_n X d_PP_edge_7 rfl (by decide) ?_
  refine gx_iload_n X d_PP_edge_8 rfl rfl ?_
  refine gx_iconst X d_PP_edge_9 (v := (-1)) (by decide) ?_
  refine gx_icmp_ne X d_PP_edge_10 (tgt := 23) (by decide) (fun h10 => ?_) (fun h10 => ?_)
  · exact absurd rfl h10
  · exact gx_throw X E hA hf d_PP_edge_13 d_PP_edge_16 d_PP_edge_17 d_PP_edge_19 d_PP_edge_22 xk_99 xi_99 xs_101 ok_IAE (by decide +kernel) ⟨by decide, by decide, by decide, by decide⟩ ⟨rfl, hz.of (fun a ha => q3 a (by omega) (by omega) (by omega))⟩
theorem t_PP_edge2 (HX : gH ks lay (2 ^ (3 * w)) sX) {z : kS} (hz : KOK F w z) (hf : l.flags = pinnedFlags ++ [noTraceFlag]) (hne : 20 ≤ z.ne) {k : Nat} {code : List Int32} (hrd : rdEdge z.n z.ln = some (k, code)) : ConT l y_PP_edge (Cond.code y_PP_edge b_PP_edge 3 (some .int) :: WT) rX D vcl ca ks lay ad [xR 0] F L nISE (fun F' L' => L' = L ∧ KOK F' w z) := by
  obtain ⟨h1, h2, h3, h4, h5, -⟩ := id hz
  have hk3 := rdEdge_lt hrd
  refine ConT.of (ls := [(0, xR 0)]) (by decide) rfl rfl (Nat.le_of_ble_eq_true rfl) ?_
  intro p e s m args below meth c A X E hA
  refine gx_aload_n X d_PP_edge_0 rfl rfl ?_
  refine gx_getr X d_PP_edge_1 (gci in_PP) (HX _ rfl).1 (HX _ rfl).2 rfl 3 (by decide) (gcw X lk_PP_50) (fun _ h => h) rfl ?_
  refine gx_callV X d_PP_edge_4 mf_Pa_readEdge lk_PP_95 (c_Pa_readEdge HX h2 h3) (HX _ rfl).1 (HX _ rfl).2 rfl rfl rfl (Nat.le_of_ble_eq_true rfl) ⟨by decide, by decide⟩ ⟨rfl, rfl⟩ ⟨Nat.zero_le _, Nat.zero_le _⟩ (fun r4 F4 L4 hp4 => ?_)
  obtain ⟨rfl, rfl, -, q3⟩ := hp4
  refine gx_top (y := nI k) (by rw [hrd]; rfl) ?_
  refine gx_istore_n X d_PP_edge_7 rfl (by decide) ?_
  refine gx_iload_n X d_PP_edge_8 rfl rfl ?_
  refine gx_iconst X d_PP_edge_9 (v := (-1)) (by decide) ?_
  refine gx_icmp_ne X d_PP_edge_10 (tgt := 23) (by decide) (fun h10 => ?_) (fun h10 => ?_)
  · refine gx_aload_n X d_PP_edge_23 rfl rfl ?_
    refine gx_getr X d_PP_edge_24 (gci in_PP) (HX _ rfl).1 (HX _ rfl).2 rfl 4 (by decide) (gcw X lk_PP_54) (fun _ h => h) rfl ?_
    have g4 := h4.of (fun a ha => q3 a (by omega) (by omega) (by omega))
    refine gx_callV X d_PP_edge_27 mf_Pr_isFull lk_PP_106 (c_Pr_isFull HX g4) (HX _ rfl).1 (HX _ rfl).2 rfl rfl rfl (Nat.le_of_ble_eq_true rfl) ⟨by decide, by decide⟩ ⟨rfl, rfl⟩ ⟨Nat.zero_le _, Nat.zero_le _⟩ (fun r27 F27 L27 hp27 => ?_)
    obtain ⟨rfl, rfl, rfl⟩ := hp27
    refine gx_if_eq X d_PP_edge_30 (tgt := 43) (by decide) (fun h30 => ?_) (fun h30 => ?_)
    · exact absurd hne (of_decide_eq_false (cb_f h30))
    · exact gx_throw X E hA hf d_PP_edge_33 d_PP_edge_36 d_PP_edge_37 d_PP_edge_39 d_PP_edge_42 xk_110 xi_110 xs_112 ok_ISE (by decide +kernel) ⟨by decide, by decide, by decide, by decide⟩ ⟨rfl, hz.of (fun a ha => q3 a (by omega) (by omega) (by omega))⟩
  · exfalso
    have hx : nI k = -1 := h10
    have hk : k = 0 ∨ k = 1 ∨ k = 2 := by omega
    rcases hk with rfl | rfl | rfl <;> exact absurd hx (by decide)
theorem t_PP_predicate (HX : gH ks lay (2 ^ (3 * w)) sX) {z : kS} (hz : KOK F w z) (hf : l.flags = pinnedFlags ++ [noTraceFlag]) (hat : (ptAtom z.n z.ln 0).1 = false) : ConT l y_PP_predicate (Cond.code y_PP_predicate b_PP_predicate 3 (some .int) :: WT) rX D vcl ca ks lay ad [xR 0] F L nIAE (fun F' L' => L' = L ∧ KOK F' w z) := by
  obtain ⟨h1, h2, h3, h4, h5, -⟩ := id hz
  refine ConT.of (ls := [(0, xR 0)]) (by decide) rfl rfl (Nat.le_of_ble_eq_true rfl) ?_
  intro p e s m args below meth c A X E hA
  refine gx_aload_n X d_PP_predicate_0 rfl rfl ?_
  refine gx_getr X d_PP_predicate_1 (gci in_PP) (HX _ rfl).1 (HX _ rfl).2 rfl 3 (by decide) (gcw X lk_PP_50) (fun _ h => h) rfl ?_
  refine gx_iconst X d_PP_predicate_4 (v := nI 0) (by decide) ?_
  refine gx_callV X d_PP_predicate_5 mf_Pa_readAtom lk_PP_122 (c_Pa_readAtom HX h2 h3 (b := 0) (by decide)) (HX _ rfl).1 (HX _ rfl).2 rfl rfl rfl (Nat.le_of_ble_eq_true rfl) ⟨by decide, by decide⟩ ⟨rfl, rfl⟩ ⟨Nat.zero_le _, Nat.zero_le _⟩ (fun r5 F5 L5 hp5 => ?_)
  obtain ⟨rfl, rfl, -, q3⟩ := hp5
  refine gx_top (y := 0) (by rw [hat]; rfl) ?_
  refine gx_if_ne X d_PP_predicate_8 (tgt := 21) (by decide) (fun h8 => ?_) (fun h8 => ?_)
  · exact absurd rfl h8
  · exact gx_throw X E hA hf d_PP_predicate_11 d_PP_predicate_14 d_PP_predicate_15 d_PP_predicate_17 d_PP_predicate_20 xk_99 xi_99 xs_126 ok_IAE (by decide +kernel) ⟨by decide, by decide, by decide, by decide⟩ ⟨rfl, hz.of (fun a ha => q3 a (by omega) (by omega) (by omega))⟩
theorem t_PP_predicate2 (HX : gH ks lay (2 ^ (3 * w)) sX) {z : kS} (hz : KOK F w z) (hf : l.flags = pinnedFlags ++ [noTraceFlag]) (hnp : 12 ≤ z.np) (hat : (ptAtom z.n z.ln 0).1 = true) : ConT l y_PP_predicate (Cond.code y_PP_predicate b_PP_predicate 3 (some .int) :: WT) rX D vcl ca ks lay ad [xR 0] F L nISE (fun F' L' => L' = L ∧ KOK F' w z) := by
  obtain ⟨h1, h2, h3, h4, h5, -⟩ := id hz
  refine ConT.of (ls := [(0, xR 0)]) (by decide) rfl rfl (Nat.le_of_ble_eq_true rfl) ?_
  intro p e s m args below meth c A X E hA
  refine gx_aload_n X d_PP_predicate_0 rfl rfl ?_
  refine gx_getr X d_PP_predicate_1 (gci in_PP) (HX _ rfl).1 (HX _ rfl).2 rfl 3 (by decide) (gcw X lk_PP_50) (fun _ h => h) rfl ?_
  refine gx_iconst X d_PP_predicate_4 (v := nI 0) (by decide) ?_
  refine gx_callV X d_PP_predicate_5 mf_Pa_readAtom lk_PP_122 (c_Pa_readAtom HX h2 h3 (b := 0) (by decide)) (HX _ rfl).1 (HX _ rfl).2 rfl rfl rfl (Nat.le_of_ble_eq_true rfl) ⟨by decide, by decide⟩ ⟨rfl, rfl⟩ ⟨Nat.zero_le _, Nat.zero_le _⟩ (fun r5 F5 L5 hp5 => ?_)
  obtain ⟨rfl, rfl, -, q3⟩ := hp5
  refine gx_top (y := 1) (by rw [hat]; rfl) ?_
  refine gx_if_ne X d_PP_predicate_8 (tgt := 21) (by decide) (fun h8 => ?_) (fun h8 => ?_)
  · refine gx_aload_n X d_PP_predicate_21 rfl rfl ?_
    refine gx_getr X d_PP_predicate_22 (gci in_PP) (HX _ rfl).1 (HX _ rfl).2 rfl 5 (by decide) (gcw X lk_PP_58) (fun _ h => h) rfl ?_
    have g5 := h5.of (fun a x1 x2 => q3 a (by omega) (by omega) (by omega))
    refine gx_callV X d_PP_predicate_25 mf_Gr_isFull lk_PP_128 (c_Gr_isFull (HX.mono sG_X) g5.1.1 g5.1.2.1) (HX _ rfl).1 (HX _ rfl).2 rfl rfl rfl (Nat.le_of_ble_eq_true rfl) ⟨by decide, by decide⟩ ⟨rfl, rfl⟩ ⟨Nat.zero_le _, Nat.zero_le _⟩ (fun r25 F25 L25 hp25 => ?_)
    obtain ⟨rfl, rfl, rfl⟩ := hp25
    refine gx_if_eq X d_PP_predicate_28 (tgt := 41) (by decide) (fun h28 => ?_) (fun h28 => ?_)
    · exact absurd hnp (of_decide_eq_false (cb_f h28))
    · exact gx_throw X E hA hf d_PP_predicate_31 d_PP_predicate_34 d_PP_predicate_35 d_PP_predicate_37 d_PP_predicate_40 xk_110 xi_110 xs_129 ok_ISE (by decide +kernel) ⟨by decide, by decide, by decide, by decide⟩ ⟨rfl, hz.of (fun a ha => q3 a (by omega) (by omega) (by omega))⟩
  · exact absurd h8 (by decide)
end
