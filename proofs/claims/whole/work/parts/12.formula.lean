section
variable {l : Launch} {D : va_G} {ca : Nat → ClassId} {ks : List Nat} {lay : Nat → gxE} {ad : Nat → Nat} {F : Nat → Nat → Int32} {L : Nat → Nat → Int64} {N w : Nat}
theorem rg_lo {a b : Nat} {c : Int32} (h : c < nI a) : (decide (nI a ≤ c) && decide (c ≤ nI b)) = false := by
  simp [Int32.not_le.mpr h]
theorem rg_hi {a b : Nat} {c : Int32} (h : nI b < c) : (decide (nI a ≤ c) && decide (c ≤ nI b)) = false := by
  simp [Int32.not_le.mpr h]
theorem rg_in {a b : Nat} {c : Int32} (h : ¬ c < nI a) (h2 : ¬ nI b < c) : (decide (nI a ≤ c) && decide (c ≤ nI b)) = true := by
  simp [Int32.not_lt.mp h, Int32.not_lt.mp h2]
/-- a character of a range, as a number -/
theorem rg_nI {a b : Nat} (ha : a < 2 ^ 31) (hb : b < 2 ^ 31) {c : Int32} (h : (decide (nI a ≤ c) && decide (c ≤ nI b)) = true) : ∃ k, a ≤ k ∧ k ≤ b ∧ c = nI k := by
  simp only [Bool.and_eq_true, decide_eq_true_eq] at h
  have h0 : ¬ c < 0 := by
    have h1 := h.1
    rw [Int32.le_iff_toInt_le, nI_toInt ha] at h1
    rw [Int32.lt_iff_toInt_lt, show (0 : Int32).toInt = 0 from by decide]
    omega
  obtain ⟨j, hj, rfl⟩ := nI_of h0
  rw [nI_leI ha hj, nI_leI hj hb] at h
  exact ⟨j, h.1, h.2, rfl⟩
theorem c_Fo_isVariable (ch : Int32) : Con l y_Fo_isVariable (Cond.code y_Fo_isVariable b_Fo_isVariable 1 (some .boolean) :: WT) rm_Fo_isVariable D vcl ca ks lay ad [xI ch] F L (fun r F' L' => r = some (xI (cond (isVar ch) 1 0)) ∧ F' = F ∧ L' = L) := by
  refine Con.ofK (fun post K => ?_)
  refine Con.of (ls := [(0, xI ch)]) (by decide) rfl rfl (Nat.le_of_ble_eq_true rfl) ?_
  intro p e s m args below meth c A X hr hA
  refine gx_iload_n X d_Fo_isVariable_0 rfl rfl ?_
  refine gx_bipush X d_Fo_isVariable_1 (v := nI 120) (by decide) ?_
  refine gx_icmp_lt X d_Fo_isVariable_3 (tgt := 16) (by decide) (fun h3 => ?_) (fun h3 => ?_)
  · refine gx_iconst X d_Fo_isVariable_16 (v := nI 0) (by decide) ?_
    refine gx_zret X hr (by first | rfl | decide) hA d_Fo_isVariable_17 (K _ _ _ ⟨by rw [isVar, rg_lo h3]; rfl, rfl, rfl⟩)
  · refine gx_iload_n X d_Fo_isVariable_6 rfl rfl ?_
    refine gx_bipush X d_Fo_isVariable_7 (v := nI 122) (by decide) ?_
    refine gx_icmp_gt X d_Fo_isVariable_9 (tgt := 16) (by decide) (fun h9 => ?_) (fun h9 => ?_)
    · refine gx_iconst X d_Fo_isVariable_16 (v := nI 0) (by decide) ?_
      refine gx_zret X hr (by first | rfl | decide) hA d_Fo_isVariable_17 (K _ _ _ ⟨by rw [isVar, rg_hi h9]; rfl, rfl, rfl⟩)
    · refine gx_iconst X d_Fo_isVariable_12 (v := nI 1) (by decide) ?_
      refine gx_goto X d_Fo_isVariable_13 (tgt := 17) (by decide) ?_
      refine gx_zret X hr (by first | rfl | decide) hA d_Fo_isVariable_17 (K _ _ _ ⟨by rw [isVar, rg_in h3 h9]; rfl, rfl, rfl⟩)
theorem c_Fo_isDigit (ch : Int32) : Con l y_Fo_isDigit (Cond.code y_Fo_isDigit b_Fo_isDigit 1 (some .boolean) :: WT) rm_Fo_isDigit D vcl ca ks lay ad [xI ch] F L (fun r F' L' => r = some (xI (cond (isDig ch) 1 0)) ∧ F' = F ∧ L' = L) := by
  refine Con.ofK (fun post K => ?_)
  refine Con.of (ls := [(0, xI ch)]) (by decide) rfl rfl (Nat.le_of_ble_eq_true rfl) ?_
  intro p e s m args below meth c A X hr hA
  refine gx_iload_n X d_Fo_isDigit_0 rfl rfl ?_
  refine gx_bipush X d_Fo_isDigit_1 (v := nI 48) (by decide) ?_
  refine gx_icmp_lt X d_Fo_isDigit_3 (tgt := 16) (by decide) (fun h3 => ?_) (fun h3 => ?_)
  · refine gx_iconst X d_Fo_isDigit_16 (v := nI 0) (by decide) ?_
    refine gx_zret X hr (by first | rfl | decide) hA d_Fo_isDigit_17 (K _ _ _ ⟨by rw [isDig, rg_lo h3]; rfl, rfl, rfl⟩)
  · refine gx_iload_n X d_Fo_isDigit_6 rfl rfl ?_
    refine gx_bipush X d_Fo_isDigit_7 (v := nI 55) (by decide) ?_
    refine gx_icmp_gt X d_Fo_isDigit_9 (tgt := 16) (by decide) (fun h9 => ?_) (fun h9 => ?_)
    · refine gx_iconst X d_Fo_isDigit_16 (v := nI 0) (by decide) ?_
      refine gx_zret X hr (by first | rfl | decide) hA d_Fo_isDigit_17 (K _ _ _ ⟨by rw [isDig, rg_hi h9]; rfl, rfl, rfl⟩)
    · refine gx_iconst X d_Fo_isDigit_12 (v := nI 1) (by decide) ?_
      refine gx_goto X d_Fo_isDigit_13 (tgt := 17) (by decide) ?_
      refine gx_zret X hr (by first | rfl | decide) hA d_Fo_isDigit_17 (K _ _ _ ⟨by rw [isDig, rg_in h3 h9]; rfl, rfl, rfl⟩)
theorem c_Fo_begin (HX : gH ks lay N sX) : Con l y_Fo_begin (Cond.code y_Fo_begin b_Fo_begin 1 none :: WT) rm_Fo_begin D vcl ca ks lay ad [xR 4] F L (fun r F' L' => r = none ∧ F' = gxu F 4 3 (nI 0) ∧ L' = L) := by
  refine Con.ofK (fun post K => ?_)
  refine Con.of (ls := [(0, xR 4)]) (by decide) rfl rfl (Nat.le_of_ble_eq_true rfl) ?_
  intro p e s m args below meth c A X hr hA
  refine gx_aload_n X d_Fo_begin_0 rfl rfl ?_
  refine gx_iconst X d_Fo_begin_1 (v := nI 0) (by decide) ?_
  refine gx_puti X d_Fo_begin_2 (gci in_Fo) (HX _ rfl).1 (HX _ rfl).2 rfl 3 (by decide) (gcw X lk_Fo_19) (fun _ h => h) t_Fo ty_Fo nm_Fo rfl (ty_Fo 3 (by decide)) rfl rfl rfl ?_
  refine gx_vret X hr hA d_Fo_begin_5 (K _ _ _ ⟨rfl, rfl, rfl⟩)
/-- the formula holds this code -/
def FoOK (F : Nat → Nat → Int32) (code : List Int32) : Prop := code.length ≤ 24 ∧ F 4 3 = nI code.length ∧ ∀ i, i < code.length → F 5 i = code.getD i 0
theorem FoOK.nil {F : Nat → Nat → Int32} (h : F 4 3 = nI 0) : FoOK F [] := ⟨by simp, h, fun i hi => by simp at hi⟩
theorem c_Fo_add (HX : gH ks lay N sX) {code : List Int32} (hc : FoOK F code) {q : Nat} (hq : q < 65536) : Con l y_Fo_add (Cond.code y_Fo_add b_Fo_add 2 none :: WT) rm_Fo_add D vcl ca ks lay ad [xR 4, xI (nI q)] F L (fun r F' L' => r = none ∧ L' = L ∧ FoOK F' (addC (nI q) code) ∧ ∀ a, a ≠ 4 → a ≠ 5 → F' a = F a) := by
  obtain ⟨hl, hF, hcd⟩ := hc
  refine Con.ofK (fun post K => ?_)
  refine Con.of (ls := [(0, xR 4), (1, xI (nI q))]) (by decide) rfl rfl (Nat.le_of_ble_eq_true rfl) ?_
  intro p e s m args below meth c A X hr hA
  refine gx_aload_n X d_Fo_add_0 rfl rfl ?_
  refine gx_geti X d_Fo_add_1 (gci in_Fo) (HX _ rfl).1 (HX _ rfl).2 rfl 3 (by decide) (gcw X lk_Fo_19) (fun _ h => h) rfl ?_
  refine gx_top hF ?_
  refine gx_bipush X d_Fo_add_4 (v := nI 24) (by decide) ?_
  refine gx_icmp_ge X d_Fo_add_6 (tgt := 29) (by decide) (fun h6 => ?_) (fun h6 => ?_)
  · have hge : 24 ≤ code.length := (nI_leI (by decide) (by omega)).mp h6
    refine gx_vret X hr hA d_Fo_add_29 (K _ _ _ ⟨rfl, rfl, by unfold addC; rw [if_neg (by omega)]; exact ⟨hl, hF, hcd⟩, fun _ _ _ => rfl⟩)
  · have hlt : code.length < 24 := Nat.not_le.mp (fun z => h6 ((nI_leI (by decide) (by omega)).mpr z))
    refine gx_aload_n X d_Fo_add_9 rfl rfl ?_
    refine gx_getr X d_Fo_add_10 (gci in_Fo) (HX _ rfl).1 (HX _ rfl).2 rfl 1 (by decide) (gcw X lk_Fo_9) (fun _ h => h) rfl ?_
    refine gx_aload_n X d_Fo_add_13 rfl rfl ?_
    refine gx_geti X d_Fo_add_14 (gci in_Fo) (HX _ rfl).1 (HX _ rfl).2 rfl 3 (by decide) (gcw X lk_Fo_19) (fun _ h => h) rfl ?_
    refine gx_top hF ?_
    refine gx_iload_n X d_Fo_add_17 rfl rfl ?_
    refine gx_cast X d_Fo_add_18 (HX _ rfl).1 (HX _ rfl).2 rfl hlt (by decide) (vn_char hq) ?_
    refine gx_aload_n X d_Fo_add_19 rfl rfl ?_
    refine gx_dup X d_Fo_add_20 rfl ?_
    refine gx_geti X d_Fo_add_21 (gci in_Fo) (HX _ rfl).1 (HX _ rfl).2 rfl 3 (by decide) (gcw X lk_Fo_19) (fun _ h => h) rfl ?_
    refine gx_top (y := nI code.length) (by simp [gxu, hF]) ?_
    refine gx_iconst X d_Fo_add_24 (v := nI 1) (by decide) ?_
    refine gx_iadd X d_Fo_add_25 ?_
    refine gx_top (nI_add code.length 1) ?_
    refine gx_puti X d_Fo_add_26 (gci in_Fo) (HX _ rfl).1 (HX _ rfl).2 rfl 3 (by decide) (gcw X lk_Fo_19) (fun _ h => h) t_Fo ty_Fo nm_Fo rfl (ty_Fo 3 (by decide)) rfl rfl rfl ?_
    refine gx_vret X hr hA d_Fo_add_29 (K _ _ _ ⟨rfl, rfl, ?_, fun a h1 h2 => by rw [gxu_cell h1, gxu_cell h2]⟩)
    unfold addC
    rw [if_pos hlt]
    refine ⟨by simp; omega, by simp [gxu], fun i hi => ?_⟩
    simp only [List.length_append, List.length_singleton] at hi
    by_cases e : i = code.length
    · subst e
      simp [gxu]
    · have hi2 : i < code.length := by omega
      rw [gxu_ne (by simp), gxu_ne (by simp [e]), hcd i hi2, List.getD_eq_getElem?_getD, List.getD_eq_getElem?_getD, List.getElem?_append_left hi2]
/-- the raw sign between two numbers -/
def cmb (ch x y : Int32) : Int32 := if ch = nI 43 then x + y else if ch = nI 45 then x - y else if ch = nI 42 then x * y else if ch = nI 38 then x &&& y else if ch = nI 94 then x ^^^ y else if ch = nI 60 then (if x < y then 1 else 0) else if ch = nI 61 then (if x = y then 1 else 0) else (if x = y then 0 else 1)
theorem c_Fo_combine (ch x y : Int32) : Con l y_Fo_combine (Cond.code y_Fo_combine b_Fo_combine 3 (some .int) :: WT) rm_Fo_combine D vcl ca ks lay ad [xI ch, xI x, xI y] F L (fun r F' L' => r = some (xI (cmb ch x y)) ∧ F' = F ∧ L' = L) := by
  refine Con.ofK (fun post K => ?_)
  refine Con.of (ls := [(0, xI ch), (1, xI x), (2, xI y)]) (by decide) rfl rfl (Nat.le_of_ble_eq_true rfl) ?_
  intro p e s m args below meth c A X hr hA
  refine gx_iload_n X d_Fo_combine_0 rfl rfl ?_
  by_cases c38 : ch = nI 38
  · subst c38
    refine gx_lookup X d_Fo_combine_1 (off := 79) (tgt := 80) (by decide) (by decide) (by decide) ?_
    refine gx_iload_n X d_Fo_combine_80 rfl rfl ?_
    refine gx_iload_n X d_Fo_combine_81 rfl rfl ?_
    refine gx_iand X d_Fo_combine_82 ?_
    refine gx_iret X hr hA d_Fo_combine_83 (K _ _ _ ⟨rfl, rfl, rfl⟩)
  by_cases c42 : ch = nI 42
  · subst c42
    refine gx_lookup X d_Fo_combine_1 (off := 75) (tgt := 76) (by decide) (by decide) (by decide) ?_
    refine gx_iload_n X d_Fo_combine_76 rfl rfl ?_
    refine gx_iload_n X d_Fo_combine_77 rfl rfl ?_
    refine gx_imul X d_Fo_combine_78 ?_
    refine gx_iret X hr hA d_Fo_combine_79 (K _ _ _ ⟨rfl, rfl, rfl⟩)
  by_cases c43 : ch = nI 43
  · subst c43
    refine gx_lookup X d_Fo_combine_1 (off := 67) (tgt := 68) (by decide) (by decide) (by decide) ?_
    refine gx_iload_n X d_Fo_combine_68 rfl rfl ?_
    refine gx_iload_n X d_Fo_combine_69 rfl rfl ?_
    refine gx_iadd X d_Fo_combine_70 ?_
    refine gx_iret X hr hA d_Fo_combine_71 (K _ _ _ ⟨rfl, rfl, rfl⟩)
  by_cases c45 : ch = nI 45
  · subst c45
    refine gx_lookup X d_Fo_combine_1 (off := 71) (tgt := 72) (by decide) (by decide) (by decide) ?_
    refine gx_iload_n X d_Fo_combine_72 rfl rfl ?_
    refine gx_iload_n X d_Fo_combine_73 rfl rfl ?_
    refine gx_isub X d_Fo_combine_74 ?_
    refine gx_iret X hr hA d_Fo_combine_75 (K _ _ _ ⟨rfl, rfl, rfl⟩)
  by_cases c60 : ch = nI 60
  · subst c60
    refine gx_lookup X d_Fo_combine_1 (off := 87) (tgt := 88) (by decide) (by decide) (by decide) ?_
    refine gx_iload_n X d_Fo_combine_88 rfl rfl ?_
    refine gx_iload_n X d_Fo_combine_89 rfl rfl ?_
    refine gx_icmp_ge X d_Fo_combine_90 (tgt := 97) (by decide) (fun h90 => ?_) (fun h90 => ?_)
    · refine gx_iconst X d_Fo_combine_97 (v := nI 0) (by decide) ?_
      refine gx_iret X hr hA d_Fo_combine_98 (K _ _ _ ⟨by show some (xI (nI 0)) = some (xI (if x < y then 1 else 0)); rw [if_neg (Int32.not_lt.mpr h90)]; rfl, rfl, rfl⟩)
    · refine gx_iconst X d_Fo_combine_93 (v := nI 1) (by decide) ?_
      refine gx_goto X d_Fo_combine_94 (tgt := 98) (by decide) ?_
      refine gx_iret X hr hA d_Fo_combine_98 (K _ _ _ ⟨by show some (xI (nI 1)) = some (xI (if x < y then 1 else 0)); rw [if_pos (Int32.not_le.mp h90)]; rfl, rfl, rfl⟩)
  by_cases c61 : ch = nI 61
  · subst c61
    refine gx_lookup X d_Fo_combine_1 (off := 98) (tgt := 99) (by decide) (by decide) (by decide) ?_
    refine gx_iload_n X d_Fo_combine_99 rfl rfl ?_
    refine gx_iload_n X d_Fo_combine_100 rfl rfl ?_
    refine gx_icmp_ne X d_Fo_combine_101 (tgt := 108) (by decide) (fun h101 => ?_) (fun h101 => ?_)
    · refine gx_iconst X d_Fo_combine_108 (v := nI 0) (by decide) ?_
      refine gx_iret X hr hA d_Fo_combine_109 (K _ _ _ ⟨by show some (xI (nI 0)) = some (xI (if x = y then 1 else 0)); rw [if_neg h101]; rfl, rfl, rfl⟩)
    · refine gx_iconst X d_Fo_combine_104 (v := nI 1) (by decide) ?_
      refine gx_goto X d_Fo_combine_105 (tgt := 109) (by decide) ?_
      refine gx_iret X hr hA d_Fo_combine_109 (K _ _ _ ⟨by show some (xI (nI 1)) = some (xI (if x = y then 1 else 0)); rw [if_pos h101]; rfl, rfl, rfl⟩)
  by_cases c94 : ch = nI 94
  · subst c94
    refine gx_lookup X d_Fo_combine_1 (off := 83) (tgt := 84) (by decide) (by decide) (by decide) ?_
    refine gx_iload_n X d_Fo_combine_84 rfl rfl ?_
    refine gx_iload_n X d_Fo_combine_85 rfl rfl ?_
    refine gx_ixor X d_Fo_combine_86 ?_
    refine gx_iret X hr hA d_Fo_combine_87 (K _ _ _ ⟨rfl, rfl, rfl⟩)
  refine gx_lookup X d_Fo_combine_1 (off := 109) (tgt := 110) (by decide) (by
    show Op.lookupswitch.offset [(38, 79), (42, 75), (43, 67), (45, 71), (60, 87), (61, 98), (94, 83)] 109 ch.toInt = 109
    rw [lv_osw c38 (by decide), lv_osw c42 (by decide), lv_osw c43 (by decide), lv_osw c45 (by decide), lv_osw c60 (by decide), lv_osw c61 (by decide), lv_osw c94 (by decide)]
    rfl) (by decide) ?_
  have hcm : cmb ch x y = if x = y then 0 else 1 := by
    unfold cmb
    rw [if_neg c43, if_neg c45, if_neg c42, if_neg c38, if_neg c94, if_neg c60, if_neg c61]
  refine gx_iload_n X d_Fo_combine_110 rfl rfl ?_
  refine gx_iload_n X d_Fo_combine_111 rfl rfl ?_
  refine gx_icmp_eq X d_Fo_combine_112 (tgt := 119) (by decide) (fun h112 => ?_) (fun h112 => ?_)
  · refine gx_iconst X d_Fo_combine_119 (v := nI 0) (by decide) ?_
    refine gx_iret X hr hA d_Fo_combine_120 (K _ _ _ ⟨by rw [hcm, if_pos h112]; rfl, rfl, rfl⟩)
  · refine gx_iconst X d_Fo_combine_115 (v := nI 1) (by decide) ?_
    refine gx_goto X d_Fo_combine_116 (tgt := 120) (by decide) ?_
    refine gx_iret X hr hA d_Fo_combine_120 (K _ _ _ ⟨by rw [hcm, if_neg h112]; rfl, rfl, rfl⟩)
end
