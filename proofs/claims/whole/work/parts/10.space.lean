section
variable {l : Launch} {D : va_G} {ca : Nat → ClassId} {ks : List Nat} {lay : Nat → gxE} {ad : Nat → Nat} {F : Nat → Nat → Int32} {L : Nat → Nat → Int64} {w N : Nat}
/-- the numbers of the space: w bits a variable -/
def SpOK (F : Nat → Nat → Int32) (w : Nat) : Prop := (1 ≤ w ∧ w ≤ 3) ∧ F 1 0 = nI w ∧ F 1 1 = nI (2 ^ w - 1) ∧ F 1 2 = nI (2 ^ (3 * w))
/-- contains(x) -/
theorem c_Sp_contains (HX : gH ks lay N sG) (hS : SpOK F w) (x : Int32) : Con l y_Sp_contains (Cond.code y_Sp_contains b_Sp_contains 2 (some .boolean) :: WT) rm_Sp_contains D vcl ca ks lay ad [xR 1, xI x] F L (fun r F' L' => r = some (xI (if 0 ≤ x ∧ x < nI (2 ^ (3 * w)) then 1 else 0)) ∧ F' = F ∧ L' = L) := by
  refine Con.ofK (fun post K => ?_)
  refine Con.of (ls := [(0, xR 1), (1, xI x)]) (by decide) rfl rfl (Nat.le_of_ble_eq_true rfl) ?_
  intro p e s m args below meth c A X hr hA
  refine gx_iload_n X d_Sp_contains_0 rfl rfl ?_
  refine gx_if_lt X d_Sp_contains_1 (tgt := 16) (by decide) (fun h1 => ?_) (fun h1 => ?_)
  · refine gx_iconst X d_Sp_contains_16 (v := nI 0) (by decide) ?_
    exact gx_zret X hr (by first | rfl | decide) hA d_Sp_contains_17 (K _ _ _ ⟨by rw [if_neg (fun q => absurd q.1 (Int32.not_le.mpr h1))]; rfl, rfl, rfl⟩)
  · refine gx_iload_n X d_Sp_contains_4 rfl rfl ?_
    refine gx_aload_n X d_Sp_contains_5 rfl rfl ?_
    refine gx_geti X d_Sp_contains_6 (gci in_Sp) (HX _ rfl).1 (HX _ rfl).2 rfl 2 (by decide) (gcw X lk_Sp_18) (fun _ h => h) rfl ?_
    refine gx_icmp_ge X d_Sp_contains_9 (tgt := 16) (by decide) (fun h9 => ?_) (fun h9 => ?_)
    · refine gx_iconst X d_Sp_contains_16 (v := nI 0) (by decide) ?_
      exact gx_zret X hr (by first | rfl | decide) hA d_Sp_contains_17 (K _ _ _ ⟨by rw [hS.2.2.2] at h9; rw [if_neg (fun q => absurd h9 (Int32.not_le.mpr q.2))]; rfl, rfl, rfl⟩)
    · refine gx_iconst X d_Sp_contains_12 (v := nI 1) (by decide) ?_
      refine gx_goto X d_Sp_contains_13 (tgt := 17) (by decide) ?_
      exact gx_zret X hr (by first | rfl | decide) hA d_Sp_contains_17 (K _ _ _ ⟨by rw [hS.2.2.2] at h9; rw [if_pos ⟨Int32.not_lt.mp h1, Int32.not_le.mp h9⟩]; rfl, rfl, rfl⟩)
/-- read(s, v) of a state -/
theorem c_Sp_read (HX : gH ks lay N sG) (hS : SpOK F w) {st v : Nat} (hst : st < 512) (hv : v < 3) : Con l y_Sp_read (Cond.code y_Sp_read b_Sp_read 3 (some .int) :: WT) rm_Sp_read D vcl ca ks lay ad [xR 1, xI (nI st), xI (nI v)] F L (fun r F' L' => r = some (xI (nI (dg w st v))) ∧ F' = F ∧ L' = L) := by
  refine Con.ofK (fun post K => ?_)
  refine Con.of (ls := [(0, xR 1), (1, xI (nI st)), (2, xI (nI v))]) (by decide) rfl rfl (Nat.le_of_ble_eq_true rfl) ?_
  intro p e s m args below meth c A X hr hA
  refine gx_iload_n X d_Sp_read_0 rfl rfl ?_
  refine gx_iload_n X d_Sp_read_1 rfl rfl ?_
  refine gx_aload_n X d_Sp_read_2 rfl rfl ?_
  refine gx_geti X d_Sp_read_3 (gci in_Sp) (HX _ rfl).1 (HX _ rfl).2 rfl 0 (by decide) (gcw X lk_Sp_9) (fun _ h => h) rfl ?_
  refine gx_imul X d_Sp_read_6 ?_
  refine gx_ishr X d_Sp_read_7 ?_
  refine gx_aload_n X d_Sp_read_8 rfl rfl ?_
  refine gx_geti X d_Sp_read_9 (gci in_Sp) (HX _ rfl).1 (HX _ rfl).2 rfl 1 (by decide) (gcw X lk_Sp_15) (fun _ h => h) rfl ?_
  refine gx_iand X d_Sp_read_12 ?_
  refine gx_top (y := nI (dg w st v)) ?_ ?_
  · rw [hS.2.1, hS.2.2.1]
    exact rdI_dec w (by have := hS.1; omega) v hv st hst
  exact gx_iret X hr hA d_Sp_read_13 (K _ _ _ ⟨rfl, rfl, rfl⟩)
/-- write(s, v, x) of a state: the number x is cut to its lowest bits -/
theorem c_Sp_write (HX : gH ks lay N sG) (hS : SpOK F w) {st v : Nat} (hst : st < 512) (hv : v < 3) (x : Int32) : Con l y_Sp_write (Cond.code y_Sp_write b_Sp_write 5 (some .int) :: WT) rm_Sp_write D vcl ca ks lay ad [xR 1, xI (nI st), xI (nI v), xI x] F L (fun r F' L' => r = some (xI (nI (wr w st v x.toBitVec.toNat))) ∧ F' = F ∧ L' = L) := by
  refine Con.ofK (fun post K => ?_)
  refine Con.of (ls := [(0, xR 1), (1, xI (nI st)), (2, xI (nI v)), (3, xI x)]) (by decide) rfl rfl (Nat.le_of_ble_eq_true rfl) ?_
  intro p e s m args below meth c A X hr hA
  refine gx_iload_n X d_Sp_write_0 rfl rfl ?_
  refine gx_aload_n X d_Sp_write_1 rfl rfl ?_
  refine gx_geti X d_Sp_write_2 (gci in_Sp) (HX _ rfl).1 (HX _ rfl).2 rfl 0 (by decide) (gcw X lk_Sp_9) (fun _ h => h) rfl ?_
  refine gx_imul X d_Sp_write_5 ?_
  refine gx_istore X d_Sp_write_6 (by decide) ?_
  refine gx_iload_n X d_Sp_write_8 rfl rfl ?_
  refine gx_aload_n X d_Sp_write_9 rfl rfl ?_
  refine gx_geti X d_Sp_write_10 (gci in_Sp) (HX _ rfl).1 (HX _ rfl).2 rfl 1 (by decide) (gcw X lk_Sp_15) (fun _ h => h) rfl ?_
  refine gx_iload X d_Sp_write_13 rfl ?_
  refine gx_ishl X d_Sp_write_15 ?_
  refine gx_iconst X d_Sp_write_16 (v := (-1)) (by decide) ?_
  refine gx_ixor X d_Sp_write_17 ?_
  refine gx_iand X d_Sp_write_18 ?_
  refine gx_iload_n X d_Sp_write_19 rfl rfl ?_
  refine gx_aload_n X d_Sp_write_20 rfl rfl ?_
  refine gx_geti X d_Sp_write_21 (gci in_Sp) (HX _ rfl).1 (HX _ rfl).2 rfl 1 (by decide) (gcw X lk_Sp_15) (fun _ h => h) rfl ?_
  refine gx_iand X d_Sp_write_24 ?_
  refine gx_iload X d_Sp_write_25 rfl ?_
  refine gx_ishl X d_Sp_write_27 ?_
  refine gx_ior X d_Sp_write_28 ?_
  refine gx_top (y := nI (wr w st v x.toBitVec.toNat)) ?_ ?_
  · rw [hS.2.1, hS.2.2.1]
    exact wrI_eq (by have := hS.1; omega) hv hst x
  exact gx_iret X hr hA d_Sp_write_29 (K _ _ _ ⟨rfl, rfl, rfl⟩)
end
