section
variable {l : Launch} {D : va_G} {ca : Nat → ClassId} {ks : List Nat} {lay : Nat → gxE} {ad : Nat → Nat} {F : Nat → Nat → Int32} {L : Nat → Nat → Int64} {N w : Nat}
set_option maxRecDepth 100000 in
theorem cm_add : ∀ w, w < 4 → ∀ a, a < 8 → ∀ b, b < 8 → (nI a + nI b) &&& nI (2 ^ w - 1) = nI ((a + b) % 2 ^ w) := by decide +kernel
set_option maxRecDepth 100000 in
theorem cm_sub : ∀ w, w < 4 → ∀ a, a < 8 → ∀ b, b < 8 → b < 2 ^ w → (nI a - nI b) &&& nI (2 ^ w - 1) = nI ((a + 2 ^ w - b) % 2 ^ w) := by decide +kernel
set_option maxRecDepth 100000 in
theorem cm_mul : ∀ w, w < 4 → ∀ a, a < 8 → ∀ b, b < 8 → (nI a * nI b) &&& nI (2 ^ w - 1) = nI ((a * b) % 2 ^ w) := by decide +kernel
set_option maxRecDepth 100000 in
theorem cm_and : ∀ w, w < 4 → ∀ a, a < 8 → ∀ b, b < 8 → a < 2 ^ w → (nI a &&& nI b) &&& nI (2 ^ w - 1) = nI (a &&& b) := by decide +kernel
set_option maxRecDepth 100000 in
theorem cm_xor : ∀ w, w < 4 → ∀ a, a < 8 → ∀ b, b < 8 → a < 2 ^ w → b < 2 ^ w → (nI a ^^^ nI b) &&& nI (2 ^ w - 1) = nI (a ^^^ b) := by decide +kernel
theorem cm_one : ∀ w, w < 4 → 0 < w → (1 : Int32) &&& nI (2 ^ w - 1) = nI 1 ∧ (0 : Int32) &&& nI (2 ^ w - 1) = nI 0 := by decide +kernel
theorem cmb_mask {w a b : Nat} (hw : w < 4) (h0 : 0 < w) (ha : a < 2 ^ w) (hb : b < 2 ^ w) (ch : Int32) : cmb ch (nI a) (nI b) &&& nI (2 ^ w - 1) = nI (opV w ch a b) := by
  have a8 : a < 8 := Nat.lt_of_lt_of_le ha (pu_p8 w hw)
  have b8 : b < 8 := Nat.lt_of_lt_of_le hb (pu_p8 w hw)
  have h31 : a < 2 ^ 31 := Nat.lt_trans a8 (by decide)
  have g31 : b < 2 ^ 31 := Nat.lt_trans b8 (by decide)
  have o := cm_one w hw h0
  unfold cmb opV
  split
  · exact cm_add w hw a a8 b b8
  split
  · exact cm_sub w hw a a8 b b8 hb
  split
  · exact cm_mul w hw a a8 b b8
  split
  · exact cm_and w hw a a8 b b8 ha
  split
  · exact cm_xor w hw a a8 b b8 ha hb
  split
  · by_cases e : a < b
    · rw [if_pos ((nI_ltI h31 g31).mpr e), if_pos e]; exact o.1
    · rw [if_neg (fun q => e ((nI_ltI h31 g31).mp q)), if_neg e]; exact o.2
  split
  · by_cases e : a = b
    · rw [if_pos ((nI_eq h31 g31).mpr e), if_pos e]; exact o.1
    · rw [if_neg (fun q => e ((nI_eq h31 g31).mp q)), if_neg e]; exact o.2
  · by_cases e : a = b
    · rw [if_pos ((nI_eq h31 g31).mpr e), if_pos e]; exact o.2
    · rw [if_neg (fun q => e ((nI_eq h31 g31).mp q)), if_neg e]; exact o.1
theorem op_dec1 : ∀ w, w < 4 → ∀ a, a < 8 → ∀ b, b < 8 → a < 2 ^ w → b < 2 ^ w → Nat.blt (a &&& b) (2 ^ w) = true := by decide +kernel
theorem op_dec2 : ∀ w, w < 4 → ∀ a, a < 8 → ∀ b, b < 8 → a < 2 ^ w → b < 2 ^ w → Nat.blt (a ^^^ b) (2 ^ w) = true := by decide +kernel
theorem opV_lt {w a b : Nat} (hw : w < 4) (h0 : 0 < w) (ha : a < 2 ^ w) (hb : b < 2 ^ w) (ch : Int32) : opV w ch a b < 2 ^ w := by
  have a8 : a < 8 := Nat.lt_of_lt_of_le ha (pu_p8 w hw)
  have b8 : b < 8 := Nat.lt_of_lt_of_le hb (pu_p8 w hw)
  have o1 : (a &&& b) < 2 ^ w := by have := op_dec1 w hw a a8 b b8 ha hb; exact Nat.lt_of_succ_le (by simpa [Nat.blt] using this)
  have o2 : (a ^^^ b) < 2 ^ w := by have := op_dec2 w hw a a8 b b8 ha hb; exact Nat.lt_of_succ_le (by simpa [Nat.blt] using this)
  have h2 : 0 < 2 ^ w := Nat.two_pow_pos w
  have h1 : 1 < 2 ^ w := Nat.one_lt_two_pow (by omega)
  unfold opV
  split
  · exact Nat.mod_lt _ h2
  split
  · exact Nat.mod_lt _ h2
  split
  · exact Nat.mod_lt _ h2
  split
  · exact o1
  split
  · exact o2
  split
  · split <;> omega
  split
  · split <;> omega
  · split <;> omega
theorem leafV_lt {w s : Nat} (ch : Int32) : leafV w s ch < 2 ^ w := by
  unfold leafV dg
  split
  · exact Nat.mod_lt _ (Nat.two_pow_pos w)
  · exact Nat.mod_lt _ (Nat.two_pow_pos w)
theorem SpOK.of {F G : Nat → Nat → Int32} {w : Nat} (h : SpOK F w) (e : G 1 = F 1) : SpOK G w := by
  unfold SpOK
  rw [e]
  exact h
theorem evC_snoc (w s : Nat) (code : List Int32) (ch : Int32) (st : List Nat) : evC w s (code ++ [ch]) st = evS w s ch (evC w s code st) := by simp [evC]
theorem take_snoc {code : List Int32} {i : Nat} (h : i < code.length) : code.take (i + 1) = code.take i ++ [code.getD i 0] := by
  rw [List.take_succ, List.getD_eq_getElem?_getD, List.getElem?_eq_getElem h]
  rfl
/-- the numbers on the stack, the latest first -/
def stk (F : Nat → Nat → Int32) (st : List Nat) : Prop := ∀ j, j < st.length → F 6 j = nI (st.getD (st.length - 1 - j) 0)
theorem stk_push {F : Nat → Nat → Int32} {st : List Nat} (h : stk F st) (v : Nat) : stk (gxu F 6 st.length (nI v)) (v :: st) := by
  intro j hj
  simp only [List.length_cons] at hj
  by_cases e : j = st.length
  · subst e
    simp [gxu]
  · have h1 : j < st.length := by omega
    rw [gxu_ne (by simp [e]), h j h1]
    have e2 : (v :: st).length - 1 - j = (st.length - 1 - j) + 1 := by simp only [List.length_cons]; omega
    rw [e2]
    simp
theorem stk_op {F : Nat → Nat → Int32} {r : List Nat} {x y : Nat} (h : stk F (y :: x :: r)) (v : Nat) : F 6 r.length = nI x ∧ F 6 (r.length + 1) = nI y ∧ stk (gxu F 6 r.length (nI v)) (v :: r) := by
  refine ⟨?_, ?_, fun j hj => ?_⟩
  · have := h r.length (by simp; omega)
    simpa using this
  · have := h (r.length + 1) (by simp)
    simpa using this
  · simp only [List.length_cons] at hj
    by_cases e : j = r.length
    · subst e
      simp [gxu]
    · have h1 : j < r.length := by omega
      rw [gxu_ne (by simp [e]), h j (by simp; omega)]
      have e1 : (y :: x :: r).length - 1 - j = (r.length - 1 - j) + 2 := by simp only [List.length_cons]; omega
      have e2 : (v :: r).length - 1 - j = (r.length - 1 - j) + 1 := by simp only [List.length_cons]; omega
      rw [e1, e2]
      simp
set_option maxHeartbeats 4000000 in
theorem c_Fo_valueIn (HX : gH ks lay N sX) (hS : SpOK F w) {code : List Int32} (hc : FoOK F code) {q v : Nat} (hq : q < 512) (hv : evC w q code [] = [v]) : Con l y_Fo_valueIn (Cond.code y_Fo_valueIn b_Fo_valueIn 5 (some .int) :: WT) rm_Fo_valueIn D vcl ca ks lay ad [xR 4, xI (nI q)] F L (fun r F' L' => r = some (xI (nI v)) ∧ L' = L ∧ ∀ a, a ≠ 6 → F' a = F a) := by
  obtain ⟨hl, hF, hcd⟩ := hc
  have hw : w < 4 := by have := hS.1; omega
  have hw0 : 0 < w := by have := hS.1; omega
  refine Con.ofK (fun post K => ?_)
  refine Con.of (ls := [(0, xR 4), (1, xI (nI q))]) (by decide) rfl rfl (Nat.le_of_ble_eq_true rfl) ?_
  intro p e s m args below meth c A X hr hA
  refine gx_iconst X d_Fo_valueIn_0 (v := nI 0) (by decide) ?_
  refine gx_istore_n X d_Fo_valueIn_1 rfl (by decide) ?_
  refine gx_iconst X d_Fo_valueIn_2 (v := nI 0) (by decide) ?_
  refine gx_istore_n X d_Fo_valueIn_3 rfl (by decide) ?_
  have loop : ∀ (d i : Nat) (st : List Nat) (G : Nat → Nat → Int32), i + d = code.length → evC w q (code.take i) [] = st → (∀ x ∈ st, x < 2 ^ w) → st.length ≤ i → stk G st → (∀ a, a ≠ 6 → G a = F a) → GX p l e rm_Fo_valueIn s m args below meth c (MQ below (gxQ D vcl ca ks lay ad s.heap.size post) args s 0 0 (gxA ks ad s.heap.size)) 5 A D vcl ca ks lay ad 0 0 4 [(3, xI (nI i)), (2, xI (nI st.length)), (0, xR 4), (1, xI (nI q))] [] G L := by
    intro d
    induction d with
    | zero =>
      intro i st G hd hev hlt hle hst hG
      have e4 : G 4 3 = nI code.length := by rw [hG 4 (by decide)]; exact hF
      refine gx_iload_n X d_Fo_valueIn_4 rfl rfl ?_
      refine gx_aload_n X d_Fo_valueIn_5 rfl rfl ?_
      refine gx_geti X d_Fo_valueIn_6 (gci in_Fo) (HX _ rfl).1 (HX _ rfl).2 rfl 3 (by decide) (gcw X lk_Fo_19) (fun _ h => h) rfl ?_
      refine gx_top e4 ?_
      refine gx_icmp_ge X d_Fo_valueIn_9 (tgt := 135) (by decide) (fun h9 => ?_) (fun h9 => ?_)
      · rw [show i = code.length by omega, List.take_length, hv] at hev
        subst hev
        refine gx_aload_n X d_Fo_valueIn_135 rfl rfl ?_
        refine gx_getr X d_Fo_valueIn_136 (gci in_Fo) (HX _ rfl).1 (HX _ rfl).2 rfl 2 (by decide) (gcw X lk_Fo_15) (fun _ h => h) rfl ?_
        refine gx_iconst X d_Fo_valueIn_139 (v := nI 0) (by decide) ?_
        refine gx_iald X d_Fo_valueIn_140 (HX _ rfl).1 (HX _ rfl).2 rfl (by omega) (by omega) ?_
        refine gx_top (hst 0 (by simp)) ?_
        refine gx_iret X hr hA d_Fo_valueIn_141 (K _ _ _ ⟨rfl, rfl, hG⟩)
      · exact absurd ((nI_leI (by omega) (by omega)).mpr (by omega)) h9
    | succ d ih =>
      intro i st G hd hev hlt hle hst hG
      have e4 : G 4 3 = nI code.length := by rw [hG 4 (by decide)]; exact hF
      have e5 : G 5 i = code.getD i 0 := by rw [hG 5 (by decide)]; exact hcd i (by omega)
      have hS2 : SpOK G w := hS.of (hG 1 (by decide))
      have hnext : evC w q (code.take (i + 1)) [] = evS w q (code.getD i 0) st := by rw [take_snoc (by omega), evC_snoc, hev]
      refine gx_iload_n X d_Fo_valueIn_4 rfl rfl ?_
      refine gx_aload_n X d_Fo_valueIn_5 rfl rfl ?_
      refine gx_geti X d_Fo_valueIn_6 (gci in_Fo) (HX _ rfl).1 (HX _ rfl).2 rfl 3 (by decide) (gcw X lk_Fo_19) (fun _ h => h) rfl ?_
      refine gx_top e4 ?_
      refine gx_icmp_ge X d_Fo_valueIn_9 (tgt := 135) (by decide) (fun h9 => ?_) (fun h9 => ?_)
      · exact absurd ((nI_leI (by omega) (by omega)).mp h9) (by omega)
      · refine gx_aload_n X d_Fo_valueIn_12 rfl rfl ?_
        refine gx_getr X d_Fo_valueIn_13 (gci in_Fo) (HX _ rfl).1 (HX _ rfl).2 rfl 1 (by decide) (gcw X lk_Fo_9) (fun _ h => h) rfl ?_
        refine gx_iload_n X d_Fo_valueIn_16 rfl rfl ?_
        refine gx_cald X d_Fo_valueIn_17 (HX _ rfl).1 (HX _ rfl).2 rfl (by omega) (by decide) ?_
        refine gx_top e5 ?_
        generalize hch : code.getD i 0 = ch at hnext
        refine gx_istore X d_Fo_valueIn_18 (by decide) ?_
        refine gx_iload X d_Fo_valueIn_20 rfl ?_
        refine gx_callS X d_Fo_valueIn_22 mf_Fo_isVariable lk_Fo_27 (c_Fo_isVariable ch) rfl rfl (Nat.le_of_ble_eq_true rfl) ⟨by decide, by decide⟩ ⟨rfl, rfl⟩ ⟨Nat.zero_le _, Nat.zero_le _⟩ (fun r22 F22 L22 hp22 => ?_)
        obtain ⟨rfl, rfl, rfl⟩ := hp22
        refine gx_if_eq X d_Fo_valueIn_25 (tgt := 53) (by decide) (fun h25 => ?_) (fun h25 => ?_)
        · have hiv : isVar ch = false := by cases h : isVar ch with
            | false => rfl
            | true => rw [h] at h25; exact absurd h25 (by decide)
          refine gx_iload X d_Fo_valueIn_53 rfl ?_
          refine gx_callS X d_Fo_valueIn_55 mf_Fo_isDigit lk_Fo_37 (c_Fo_isDigit ch) rfl rfl (Nat.le_of_ble_eq_true rfl) ⟨by decide, by decide⟩ ⟨rfl, rfl⟩ ⟨Nat.zero_le _, Nat.zero_le _⟩ (fun r55 F55 L55 hp55 => ?_)
          obtain ⟨rfl, rfl, rfl⟩ := hp55
          refine gx_if_eq X d_Fo_valueIn_58 (tgt := 86) (by decide) (fun h58 => ?_) (fun h58 => ?_)
          · have hid : isDig ch = false := by cases h : isDig ch with
              | false => rfl
              | true => rw [h] at h58; exact absurd h58 (by decide)
            have hev2 : evS w q ch st = evO w ch st := by
              unfold evS
              rw [if_neg (by simp [hiv, hid])]
            refine gx_iload_n X d_Fo_valueIn_86 rfl rfl ?_
            refine gx_iconst X d_Fo_valueIn_87 (v := nI 2) (by decide) ?_
            refine gx_icmp_lt X d_Fo_valueIn_88 (tgt := 129) (by decide) (fun h88 => ?_) (fun h88 => ?_)
            · have h2 : st.length < 2 := (nI_ltI (by omega) (by decide)).mp h88
              refine gx_iinc X d_Fo_valueIn_129 rfl (pu_inc _) ?_
              refine gx_goto X d_Fo_valueIn_132 (tgt := 4) (by decide) ?_
              have e : evS w q ch st = st := by
                rw [hev2]
                match st, h2 with
                | [], _ => rfl
                | [_], _ => rfl
              rw [e] at hnext
              exact gx_el (ih (i + 1) st F55 (by omega) hnext hlt (by omega) hst hG) ⟨rfl, rfl, rfl, rfl, trivial⟩
            · have h2 : ¬ st.length < 2 := fun z => h88 ((nI_ltI (by omega) (by decide)).mpr z)
              match st, h2 with
              | [], h2 => exact absurd (by simp) h2
              | [_], h2 => exact absurd (by simp) h2
              | y :: x :: r, _ =>
                obtain ⟨f1, f2, f3⟩ := stk_op hst (opV w ch x y)
                have hx : x < 2 ^ w := hlt x (by simp)
                have hy : y < 2 ^ w := hlt y (by simp)
                simp only [List.length_cons] at hle
                refine gx_iinc X d_Fo_valueIn_91 rfl (pu_dec _) ?_
                refine gx_aload_n X d_Fo_valueIn_94 rfl rfl ?_
                refine gx_getr X d_Fo_valueIn_95 (gci in_Fo) (HX _ rfl).1 (HX _ rfl).2 rfl 2 (by decide) (gcw X lk_Fo_15) (fun _ h => h) rfl ?_
                refine gx_iload_n X d_Fo_valueIn_98 rfl rfl ?_
                refine gx_iconst X d_Fo_valueIn_99 (v := nI 1) (by decide) ?_
                refine gx_isub X d_Fo_valueIn_100 ?_
                refine gx_top (y := nI r.length) (by show nI (r.length + 1) - nI 1 = nI r.length; rw [pk_sub (by omega)]; rfl) ?_
                refine gx_iload X d_Fo_valueIn_101 rfl ?_
                refine gx_aload_n X d_Fo_valueIn_103 rfl rfl ?_
                refine gx_getr X d_Fo_valueIn_104 (gci in_Fo) (HX _ rfl).1 (HX _ rfl).2 rfl 2 (by decide) (gcw X lk_Fo_15) (fun _ h => h) rfl ?_
                refine gx_iload_n X d_Fo_valueIn_107 rfl rfl ?_
                refine gx_iconst X d_Fo_valueIn_108 (v := nI 1) (by decide) ?_
                refine gx_isub X d_Fo_valueIn_109 ?_
                refine gx_top (y := nI r.length) (by show nI (r.length + 1) - nI 1 = nI r.length; rw [pk_sub (by omega)]; rfl) ?_
                refine gx_iald X d_Fo_valueIn_110 (HX _ rfl).1 (HX _ rfl).2 rfl (by omega) (by omega) ?_
                refine gx_top f1 ?_
                refine gx_aload_n X d_Fo_valueIn_111 rfl rfl ?_
                refine gx_getr X d_Fo_valueIn_112 (gci in_Fo) (HX _ rfl).1 (HX _ rfl).2 rfl 2 (by decide) (gcw X lk_Fo_15) (fun _ h => h) rfl ?_
                refine gx_iload_n X d_Fo_valueIn_115 rfl rfl ?_
                refine gx_iald X d_Fo_valueIn_116 (HX _ rfl).1 (HX _ rfl).2 rfl (by simp only [List.length_cons]; omega) (by decide) ?_
                refine gx_top f2 ?_
                refine gx_callS X d_Fo_valueIn_117 mf_Fo_combine lk_Fo_43 (c_Fo_combine ch (nI x) (nI y)) rfl rfl (Nat.le_of_ble_eq_true rfl) ⟨by decide, by decide⟩ ⟨rfl, rfl⟩ ⟨Nat.zero_le _, Nat.zero_le _⟩ (fun r117 F117 L117 hp117 => ?_)
                obtain ⟨rfl, rfl, rfl⟩ := hp117
                refine gx_aload_n X d_Fo_valueIn_120 rfl rfl ?_
                refine gx_getr X d_Fo_valueIn_121 (gci in_Fo) (HX _ rfl).1 (HX _ rfl).2 rfl 0 (by decide) (gcw X lk_Fo_23) (fun _ h => h) rfl ?_
                refine gx_geti X d_Fo_valueIn_124 (gci in_Sp) (HX _ rfl).1 (HX _ rfl).2 rfl 1 (by decide) (gcw X lk_Fo_40) (fun _ h => h) rfl ?_
                refine gx_iand X d_Fo_valueIn_127 ?_
                refine gx_top (y := nI (opV w ch x y)) (by rw [hS2.2.2.1]; exact cmb_mask hw hw0 hx hy ch) ?_
                refine gx_iast X d_Fo_valueIn_128 (HX _ rfl).1 (HX _ rfl).2 rfl (by omega) (by omega) ?_
                refine gx_iinc X d_Fo_valueIn_129 rfl (pu_inc _) ?_
                refine gx_goto X d_Fo_valueIn_132 (tgt := 4) (by decide) ?_
                rw [hev2] at hnext
                refine gx_le (l' := [(3, xI (nI (i + 1))), (2, xI (nI (opV w ch x y :: r).length)), (0, xR 4), (1, xI (nI q))]) ⟨rfl, rfl, rfl, rfl, trivial⟩ (ih (i + 1) (opV w ch x y :: r) _ (by omega) hnext (fun z hz => ?_) (by simp; omega) f3 (fun a ha => ?_))
                · rcases List.mem_cons.mp hz with h | h
                  · rw [h]; exact opV_lt hw hw0 hx hy ch
                  · exact hlt z (by simp [h])
                · rw [gxu_cell ha]; exact hG a ha
          · have hid : isDig ch = true := by cases h : isDig ch with
              | true => rfl
              | false => rw [h] at h58; exact absurd rfl h58
            have hev2 : evS w q ch st = leafV w q ch :: st := by
              unfold evS
              rw [if_pos (Or.inr hid)]
            refine gx_aload_n X d_Fo_valueIn_61 rfl rfl ?_
            refine gx_getr X d_Fo_valueIn_62 (gci in_Fo) (HX _ rfl).1 (HX _ rfl).2 rfl 2 (by decide) (gcw X lk_Fo_15) (fun _ h => h) rfl ?_
            refine gx_iload_n X d_Fo_valueIn_65 rfl rfl ?_
            refine gx_iload X d_Fo_valueIn_66 rfl ?_
            refine gx_bipush X d_Fo_valueIn_68 (v := nI 48) (by decide) ?_
            refine gx_isub X d_Fo_valueIn_70 ?_
            refine gx_aload_n X d_Fo_valueIn_71 rfl rfl ?_
            refine gx_getr X d_Fo_valueIn_72 (gci in_Fo) (HX _ rfl).1 (HX _ rfl).2 rfl 0 (by decide) (gcw X lk_Fo_23) (fun _ h => h) rfl ?_
            refine gx_geti X d_Fo_valueIn_75 (gci in_Sp) (HX _ rfl).1 (HX _ rfl).2 rfl 1 (by decide) (gcw X lk_Fo_40) (fun _ h => h) rfl ?_
            refine gx_iand X d_Fo_valueIn_78 ?_
            refine gx_top (y := nI (leafV w q ch)) (by rw [hS2.2.2.1, pk_and _ w (pu_mask w hw)]; unfold leafV; rw [if_neg (by simp [hiv])]) ?_
            refine gx_iast X d_Fo_valueIn_79 (HX _ rfl).1 (HX _ rfl).2 rfl (by omega) (by omega) ?_
            refine gx_iinc X d_Fo_valueIn_80 rfl (pu_inc _) ?_
            refine gx_goto X d_Fo_valueIn_83 (tgt := 129) (by decide) ?_
            refine gx_iinc X d_Fo_valueIn_129 rfl (pu_inc _) ?_
            refine gx_goto X d_Fo_valueIn_132 (tgt := 4) (by decide) ?_
            rw [hev2] at hnext
            refine gx_le (l' := [(3, xI (nI (i + 1))), (2, xI (nI (leafV w q ch :: st).length)), (0, xR 4), (1, xI (nI q))]) ⟨rfl, rfl, rfl, rfl, trivial⟩ (ih (i + 1) (leafV w q ch :: st) _ (by omega) hnext (fun z hz => ?_) (by simp; omega) (stk_push hst _) (fun a ha => ?_))
            · rcases List.mem_cons.mp hz with h | h
              · rw [h]; exact leafV_lt ch
              · exact hlt z h
            · rw [gxu_cell ha]; exact hG a ha
        · have hiv : isVar ch = true := by cases h : isVar ch with
            | true => rfl
            | false => rw [h] at h25; exact absurd rfl h25
          obtain ⟨k, hk1, hk2, hk3⟩ := rg_nI (by decide) (by decide) hiv
          have hev2 : evS w q ch st = leafV w q ch :: st := by
            unfold evS
            rw [if_pos (Or.inl hiv)]
          have hsub : ch - nI 120 = nI (k - 120) := by rw [hk3]; exact pk_sub hk1
          have hlf : leafV w q ch = dg w q (k - 120) := by
            unfold leafV
            rw [if_pos hiv, hsub, pk_tn (by omega)]
          refine gx_aload_n X d_Fo_valueIn_28 rfl rfl ?_
          refine gx_getr X d_Fo_valueIn_29 (gci in_Fo) (HX _ rfl).1 (HX _ rfl).2 rfl 2 (by decide) (gcw X lk_Fo_15) (fun _ h => h) rfl ?_
          refine gx_iload_n X d_Fo_valueIn_32 rfl rfl ?_
          refine gx_aload_n X d_Fo_valueIn_33 rfl rfl ?_
          refine gx_getr X d_Fo_valueIn_34 (gci in_Fo) (HX _ rfl).1 (HX _ rfl).2 rfl 0 (by decide) (gcw X lk_Fo_23) (fun _ h => h) rfl ?_
          refine gx_iload_n X d_Fo_valueIn_37 rfl rfl ?_
          refine gx_iload X d_Fo_valueIn_38 rfl ?_
          refine gx_bipush X d_Fo_valueIn_40 (v := nI 120) (by decide) ?_
          refine gx_isub X d_Fo_valueIn_42 ?_
          refine gx_top hsub ?_
          refine gx_callV X d_Fo_valueIn_43 mf_Sp_read lk_Fo_31 (c_Sp_read (HX.mono sG_X) hS2 (st := q) (v := k - 120) hq (by omega)) (HX _ rfl).1 (HX _ rfl).2 rfl rfl rfl (Nat.le_of_ble_eq_true rfl) ⟨by decide, by decide⟩ ⟨rfl, rfl⟩ ⟨Nat.zero_le _, Nat.zero_le _⟩ (fun r43 F43 L43 hp43 => ?_)
          obtain ⟨rfl, rfl, rfl⟩ := hp43
          refine gx_iast X d_Fo_valueIn_46 (HX _ rfl).1 (HX _ rfl).2 rfl (by omega) (by omega) ?_
          refine gx_iinc X d_Fo_valueIn_47 rfl (pu_inc _) ?_
          refine gx_goto X d_Fo_valueIn_50 (tgt := 129) (by decide) ?_
          refine gx_iinc X d_Fo_valueIn_129 rfl (pu_inc _) ?_
          refine gx_goto X d_Fo_valueIn_132 (tgt := 4) (by decide) ?_
          rw [hev2] at hnext
          rw [← hlf]
          refine gx_le (l' := [(3, xI (nI (i + 1))), (2, xI (nI (leafV w q ch :: st).length)), (0, xR 4), (1, xI (nI q))]) ⟨rfl, rfl, rfl, rfl, trivial⟩ (ih (i + 1) (leafV w q ch :: st) _ (by omega) hnext (fun z hz => ?_) (by simp; omega) (stk_push hst _) (fun a ha => ?_))
          · rcases List.mem_cons.mp hz with h | h
            · rw [h]; exact leafV_lt ch
            · exact hlt z h
          · rw [gxu_cell ha]; exact hG a ha
  exact gx_el (loop code.length 0 [] F (by omega) rfl (fun x hx => by simp at hx) (by simp) (fun j hj => by simp at hj) (fun _ _ => rfl)) ⟨rfl, rfl, rfl, rfl, trivial⟩
end
