/-! the face where it throws (own text) -/
def rX : Room := { frames := 40, cells := 1, slots := 6, locals := 1200 }
abbrev nIAE : String := "java/lang/IllegalArgumentException"
abbrev nISE : String := "java/lang/IllegalStateException"
abbrev nIOE : String := "java/lang/IndexOutOfBoundsException"
theorem xk_99 : Cond.classLink R_PP 99 nIAE ∈ WT := WT_lw (List.mem_append_right _ (by decide +kernel)) (by decide +kernel)
theorem xk_110 : Cond.classLink R_PP 110 nISE ∈ WT := WT_lw (List.mem_append_right _ (by decide +kernel)) (by decide +kernel)
theorem xk_159 : Cond.classLink R_PP 159 nIOE ∈ WT := WT_lw (List.mem_append_right _ (by decide +kernel)) (by decide +kernel)
theorem xi_99 : Cond.initialized nIAE ∈ WT := WT_lw (List.mem_append_right _ (by decide +kernel)) (by decide +kernel)
theorem xi_110 : Cond.initialized nISE ∈ WT := WT_lw (List.mem_append_right _ (by decide +kernel)) (by decide +kernel)
theorem xi_159 : Cond.initialized nIOE ∈ WT := WT_lw (List.mem_append_right _ (by decide +kernel)) (by decide +kernel)
theorem xs_101 : (101, "the line is no edge") ∈ strL := by simp [strL]
theorem xs_112 : (112, "there are 20 edges") ∈ strL := by simp [strL]
theorem xs_126 : (126, "the line is no atom") ∈ strL := by simp [strL]
theorem xs_129 : (129, "there are 12 predicates") ∈ strL := by simp [strL]
theorem xs_151 : (151, "fuel is not 1 .. 40") ∈ strL := by simp [strL]
theorem xs_161 : (161, "no such predicate or state") ∈ strL := by simp [strL]
theorem xs_168 : (168, "no such state") ∈ strL := by simp [strL]
theorem xs_170 : (170, "no such edge or state") ∈ strL := by simp [strL]
theorem xs_177 : (177, "no such node") ∈ strL := by simp [strL]
theorem xs_189 : (189, "no such what") ∈ strL := by simp [strL]
theorem xs_194 : (194, "no such edge of a path") ∈ strL := by simp [strL]
theorem xs_202 : (202, "no such input") ∈ strL := by simp [strL]
section
variable {l : Launch} {D : va_G} {ca : Nat → ClassId} {ks : List Nat} {lay : Nat → gxE} {ad : Nat → Nat} {F : Nat → Nat → Int32} {L : Nat → Nat → Int64} {w : Nat}
theorem t_PP_prove (hf : l.flags = pinnedFlags ++ [noTraceFlag]) (x : Int32) (hx : ¬ (nI 1 ≤ x ∧ x ≤ nI 40)) : ConT l y_PP_prove (Cond.code y_PP_prove b_PP_prove 3 (some .int) :: WT) rX D vcl ca ks lay ad [xR 0, xI x] F L nIAE (fun F' L' => F' = F ∧ L' = L) := by
  refine ConT.of (ls := [(0, xR 0), (1, xI x)]) (by decide) rfl rfl (Nat.le_of_ble_eq_true rfl) ?_
  intro p e s m args below meth c A X E hA
  refine gx_iload_n X d_PP_prove_0 rfl rfl ?_
  refine gx_iconst X d_PP_prove_1 (v := nI 1) (by decide) ?_
  refine gx_icmp_lt X d_PP_prove_2 (tgt := 11) (by decide) (fun h2 => ?_) (fun h2 => ?_)
  · exact gx_throw X E hA hf d_PP_prove_11 d_PP_prove_14 d_PP_prove_15 d_PP_prove_17 d_PP_prove_20 xk_99 xi_99 xs_151 ok_IAE (by decide +kernel) ⟨by decide, by decide, by decide, by decide⟩ ⟨rfl, rfl⟩
  · refine gx_iload_n X d_PP_prove_5 rfl rfl ?_
    refine gx_bipush X d_PP_prove_6 (v := nI 40) (by decide) ?_
    refine gx_icmp_le X d_PP_prove_8 (tgt := 21) (by decide) (fun h8 => ?_) (fun h8 => ?_)
    · exact absurd ⟨Int32.not_lt.mp h2, h8⟩ hx
    · exact gx_throw X E hA hf d_PP_prove_11 d_PP_prove_14 d_PP_prove_15 d_PP_prove_17 d_PP_prove_20 xk_99 xi_99 xs_151 ok_IAE (by decide +kernel) ⟨by decide, by decide, by decide, by decide⟩ ⟨rfl, rfl⟩
theorem contN {x : Int32} (h : ¬ (0 ≤ x ∧ x < nI (2 ^ (3 * w)))) : (if 0 ≤ x ∧ x < nI (2 ^ (3 * w)) then (1 : Int32) else 0) = 0 := if_neg h
theorem t_PP_signature (HX : gH ks lay (2 ^ (3 * w)) sX) {z : kS} (hz : KOK F w z) (hf : l.flags = pinnedFlags ++ [noTraceFlag]) (x : Int32) (hx : ¬ (0 ≤ x ∧ x < nI (2 ^ (3 * w)))) : ConT l y_PP_signature (Cond.code y_PP_signature b_PP_signature 2 (some .short) :: WT) rX D vcl ca ks lay ad [xR 0, xI x] F L nIOE (fun F' L' => F' = F ∧ L' = L) := by
  refine ConT.of (ls := [(0, xR 0), (1, xI x)]) (by decide) rfl rfl (Nat.le_of_ble_eq_true rfl) ?_
  intro p e s m args below meth c A X E hA
  refine gx_aload_n X d_PP_signature_0 rfl rfl ?_
  refine gx_getr X d_PP_signature_1 (gci in_PP) (HX _ rfl).1 (HX _ rfl).2 rfl 0 (by decide) (gcw X lk_PP_31) (fun _ h => h) rfl ?_
  refine gx_iload_n X d_PP_signature_4 rfl rfl ?_
  refine gx_callV X d_PP_signature_5 mf_Sp_contains lk_PP_156 (c_Sp_contains (HX.mono sG_X) hz.1 x) (HX _ rfl).1 (HX _ rfl).2 rfl rfl rfl (Nat.le_of_ble_eq_true rfl) ⟨by decide, by decide⟩ ⟨rfl, rfl⟩ ⟨Nat.zero_le _, Nat.zero_le _⟩ (fun r5 F5 L5 hp5 => ?_)
  obtain ⟨rfl, rfl, rfl⟩ := hp5
  refine gx_top (contN hx) ?_
  refine gx_if_ne X d_PP_signature_8 (tgt := 21) (by decide) (fun h8 => ?_) (fun h8 => ?_)
  · exact absurd rfl h8
  · exact gx_throw X E hA hf d_PP_signature_11 d_PP_signature_14 d_PP_signature_15 d_PP_signature_17 d_PP_signature_20 xk_159 xi_159 xs_168 ok_IOE (by decide +kernel) ⟨by decide, by decide, by decide, by decide⟩ ⟨rfl, rfl⟩
end
