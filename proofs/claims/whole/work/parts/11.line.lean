section
variable {l : Launch} {D : va_G} {ca : Nat → ClassId} {ks : List Nat} {lay : Nat → gxE} {ad : Nat → Nat} {F : Nat → Nat → Int32} {L : Nat → Nat → Int64} {N n : Nat}
theorem vn_char {q : Nat} (h : q < 65536) : vp_nar .char (nI q) = nI q := by
  unfold vp_nar
  rw [(pk_charN h).1]
/-- the line holds n characters, each from 32 to 126 -/
def LiOK (F : Nat → Nat → Int32) (n : Nat) : Prop := n ≤ 24 ∧ F 2 1 = nI n ∧ ∀ i, i < n → ∃ c, 32 ≤ c ∧ c ≤ 126 ∧ F 3 i = nI c
def tyOK (x : Int32) (n : Nat) : Prop := nI 32 ≤ x ∧ x ≤ nI 126 ∧ n < 24
theorem tyOK_nI {x : Int32} {n : Nat} (h : tyOK x n) : ∃ c, 32 ≤ c ∧ c ≤ 126 ∧ x = nI c := by
  obtain ⟨h1, h2, -⟩ := h
  have h0 : ¬ x < 0 := by
    rw [Int32.le_iff_toInt_le, show (nI 32).toInt = 32 from by decide] at h1
    rw [Int32.lt_iff_toInt_lt, show (0 : Int32).toInt = 0 from by decide]
    omega
  obtain ⟨j, hj, rfl⟩ := nI_of h0
  rw [nI_leI (by decide) hj] at h1
  rw [nI_leI hj (by decide)] at h2
  exact ⟨j, h1, h2, rfl⟩
theorem c_Li_append (HX : gH ks lay N sX) (hn : n ≤ 24) (hF : F 2 1 = nI n) (x : Int32) : Con l y_Li_append (Cond.code y_Li_append b_Li_append 2 (some .int) :: WT) rm_Li_append D vcl ca ks lay ad [xR 2, xI x] F L (fun r F' L' => L' = L ∧ ((tyOK x n ∧ r = some (xI (nI (n + 1))) ∧ F' = gxu (gxu F 3 n x) 2 1 (nI (n + 1))) ∨ (¬ tyOK x n ∧ r = some (xI (-1)) ∧ F' = F))) := by
  refine Con.ofK (fun post K => ?_)
  refine Con.of (ls := [(0, xR 2), (1, xI x)]) (by decide) rfl rfl (Nat.le_of_ble_eq_true rfl) ?_
  intro p e s m args below meth c A X hr hA
  refine gx_iload_n X d_Li_append_0 rfl rfl ?_
  refine gx_bipush X d_Li_append_1 (v := nI 32) (by decide) ?_
  refine gx_icmp_lt X d_Li_append_3 (tgt := 21) (by decide) (fun h3 => ?_) (fun h3 => ?_)
  · refine gx_iconst X d_Li_append_21 (v := (-1)) (by decide) ?_
    exact gx_iret X hr hA d_Li_append_22 (K _ _ _ ⟨rfl, Or.inr ⟨fun q => absurd h3 (Int32.not_lt.mpr q.1), rfl, rfl⟩⟩)
  · refine gx_iload_n X d_Li_append_6 rfl rfl ?_
    refine gx_bipush X d_Li_append_7 (v := nI 126) (by decide) ?_
    refine gx_icmp_gt X d_Li_append_9 (tgt := 21) (by decide) (fun h9 => ?_) (fun h9 => ?_)
    · refine gx_iconst X d_Li_append_21 (v := (-1)) (by decide) ?_
      exact gx_iret X hr hA d_Li_append_22 (K _ _ _ ⟨rfl, Or.inr ⟨fun q => absurd h9 (Int32.not_lt.mpr q.2.1), rfl, rfl⟩⟩)
    · refine gx_aload_n X d_Li_append_12 rfl rfl ?_
      refine gx_geti X d_Li_append_13 (gci in_Li) (HX _ rfl).1 (HX _ rfl).2 rfl 1 (by decide) (gcw X lk_Li_15) (fun _ h => h) rfl ?_
      refine gx_top hF ?_
      refine gx_bipush X d_Li_append_16 (v := nI 24) (by decide) ?_
      refine gx_icmp_lt X d_Li_append_18 (tgt := 23) (by decide) (fun h18 => ?_) (fun h18 => ?_)
      · have hlt : n < 24 := (nI_ltI (by omega) (by decide)).mp h18
        have hx : tyOK x n := ⟨Int32.not_lt.mp h3, Int32.not_lt.mp h9, hlt⟩
        obtain ⟨ch, hc1, hc2, rfl⟩ := tyOK_nI hx
        refine gx_aload_n X d_Li_append_23 rfl rfl ?_
        refine gx_getr X d_Li_append_24 (gci in_Li) (HX _ rfl).1 (HX _ rfl).2 rfl 0 (by decide) (gcw X lk_Li_9) (fun _ h => h) rfl ?_
        refine gx_aload_n X d_Li_append_27 rfl rfl ?_
        refine gx_geti X d_Li_append_28 (gci in_Li) (HX _ rfl).1 (HX _ rfl).2 rfl 1 (by decide) (gcw X lk_Li_15) (fun _ h => h) rfl ?_
        refine gx_top hF ?_
        refine gx_iload_n X d_Li_append_31 rfl rfl ?_
        refine gx_cast X d_Li_append_32 (HX _ rfl).1 (HX _ rfl).2 rfl hlt (by decide) (vn_char (by omega)) ?_
        refine gx_aload_n X d_Li_append_33 rfl rfl ?_
        refine gx_dup X d_Li_append_34 rfl ?_
        refine gx_geti X d_Li_append_35 (gci in_Li) (HX _ rfl).1 (HX _ rfl).2 rfl 1 (by decide) (gcw X lk_Li_15) (fun _ h => h) rfl ?_
        refine gx_top (y := nI n) (by simp [gxu, hF]) ?_
        refine gx_iconst X d_Li_append_38 (v := nI 1) (by decide) ?_
        refine gx_iadd X d_Li_append_39 ?_
        refine gx_top (nI_add n 1) ?_
        refine gx_puti X d_Li_append_40 (gci in_Li) (HX _ rfl).1 (HX _ rfl).2 rfl 1 (by decide) (gcw X lk_Li_15) (fun _ h => h) t_Li ty_Li nm_Li rfl (ty_Li 1 (by decide)) rfl rfl rfl ?_
        refine gx_aload_n X d_Li_append_43 rfl rfl ?_
        refine gx_geti X d_Li_append_44 (gci in_Li) (HX _ rfl).1 (HX _ rfl).2 rfl 1 (by decide) (gcw X lk_Li_15) (fun _ h => h) rfl ?_
        refine gx_top gxu_at ?_
        exact gx_iret X hr hA d_Li_append_47 (K _ _ _ ⟨rfl, Or.inl ⟨hx, rfl, rfl⟩⟩)
      · refine gx_iconst X d_Li_append_21 (v := (-1)) (by decide) ?_
        exact gx_iret X hr hA d_Li_append_22 (K _ _ _ ⟨rfl, Or.inr ⟨fun q => absurd ((nI_ltI (by omega) (by decide)).mpr q.2.2) h18, rfl, rfl⟩⟩)
theorem c_Li_at (HX : gH ks lay N sX) (hL : LiOK F n) {j : Nat} (hj : j < 2 ^ 31) : Con l y_Li_at (Cond.code y_Li_at b_Li_at 2 (some .char) :: WT) rm_Li_at D vcl ca ks lay ad [xR 2, xI (nI j)] F L (fun r F' L' => r = some (xI (lnAt n (F 3) j)) ∧ F' = F ∧ L' = L) := by
  obtain ⟨hn, hF, hch⟩ := hL
  refine Con.ofK (fun post K => ?_)
  refine Con.of (ls := [(0, xR 2), (1, xI (nI j))]) (by decide) rfl rfl (Nat.le_of_ble_eq_true rfl) ?_
  intro p e s m args below meth c A X hr hA
  refine gx_iload_n X d_Li_at_0 rfl rfl ?_
  refine gx_if_lt X d_Li_at_1 (tgt := 21) (by decide) (fun h1 => ?_) (fun h1 => ?_)
  · exact absurd h1 (nI_pos hj)
  · refine gx_iload_n X d_Li_at_4 rfl rfl ?_
    refine gx_aload_n X d_Li_at_5 rfl rfl ?_
    refine gx_geti X d_Li_at_6 (gci in_Li) (HX _ rfl).1 (HX _ rfl).2 rfl 1 (by decide) (gcw X lk_Li_15) (fun _ h => h) rfl ?_
    refine gx_top hF ?_
    refine gx_icmp_ge X d_Li_at_9 (tgt := 21) (by decide) (fun h9 => ?_) (fun h9 => ?_)
    · have hge : n ≤ j := (nI_leI (by omega) hj).mp h9
      refine gx_iconst X d_Li_at_21 (v := nI 0) (by decide) ?_
      exact gx_zret X hr (by first | rfl | decide) hA d_Li_at_22 (K _ _ _ ⟨by unfold lnAt; rw [if_neg (by omega)]; rfl, rfl, rfl⟩)
    · have hlt : j < n := Nat.not_le.mp (fun q => h9 ((nI_leI (by omega) hj).mpr q))
      obtain ⟨ch, hc1, hc2, hc3⟩ := hch j hlt
      refine gx_aload_n X d_Li_at_12 rfl rfl ?_
      refine gx_getr X d_Li_at_13 (gci in_Li) (HX _ rfl).1 (HX _ rfl).2 rfl 0 (by decide) (gcw X lk_Li_9) (fun _ h => h) rfl ?_
      refine gx_iload_n X d_Li_at_16 rfl rfl ?_
      refine gx_cald X d_Li_at_17 (HX _ rfl).1 (HX _ rfl).2 rfl (by omega) (by decide) ?_
      refine gx_goto X d_Li_at_18 (tgt := 22) (by decide) ?_
      refine gx_top hc3 ?_
      exact gx_zret X hr ((pk_charN (by omega)).1) hA d_Li_at_22 (K _ _ _ ⟨by unfold lnAt; rw [if_pos hlt, hc3], rfl, rfl⟩)
theorem c_Li_makeEmpty (HX : gH ks lay N sX) : Con l y_Li_makeEmpty (Cond.code y_Li_makeEmpty b_Li_makeEmpty 1 none :: WT) rm_Li_makeEmpty D vcl ca ks lay ad [xR 2] F L (fun r F' L' => r = none ∧ F' = gxu F 2 1 (nI 0) ∧ L' = L) := by
  refine Con.ofK (fun post K => ?_)
  refine Con.of (ls := [(0, xR 2)]) (by decide) rfl rfl (Nat.le_of_ble_eq_true rfl) ?_
  intro p e s m args below meth c A X hr hA
  refine gx_aload_n X d_Li_makeEmpty_0 rfl rfl ?_
  refine gx_iconst X d_Li_makeEmpty_1 (v := nI 0) (by decide) ?_
  refine gx_puti X d_Li_makeEmpty_2 (gci in_Li) (HX _ rfl).1 (HX _ rfl).2 rfl 1 (by decide) (gcw X lk_Li_15) (fun _ h => h) t_Li ty_Li nm_Li rfl (ty_Li 1 (by decide)) rfl rfl rfl ?_
  exact gx_vret X hr hA d_Li_makeEmpty_5 (K _ _ _ ⟨rfl, rfl, rfl⟩)
end
