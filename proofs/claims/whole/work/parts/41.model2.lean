section
variable {l : Launch} {D : va_G} {ca : Nat → ClassId} {ks : List Nat} {lay : Nat → gxE} {ad : Nat → Nat} {F : Nat → Nat → Int32} {L : Nat → Nat → Int64} {N w : Nat}
/-- the reference's three numbers -/
def MsOK (F : Nat → Nat → Int32) (w : Nat) : Prop := (1 ≤ w ∧ w ≤ 3) ∧ F 40 0 = nI w ∧ F 40 1 = nI (2 ^ w - 1) ∧ F 40 2 = nI (2 ^ (3 * w))
theorem c_Mo_valueOf (HX : gH ks lay N sM) (hS : MsOK F w) {st v : Nat} (hst : st < 512) (hv : v < 3) : Con l y_Mo_valueOf (Cond.code y_Mo_valueOf b_Mo_valueOf 3 (some .int) :: WT) rm_Mo_valueOf D vcl ca ks lay ad [xR 40, xI (nI st), xI (nI v)] F L (fun r F' L' => r = some (xI (nI (dg w st v))) ∧ F' = F ∧ L' = L) := by
  refine Con.ofK (fun post K => ?_)
  refine Con.of (ls := [(0, xR 40), (1, xI (nI st)), (2, xI (nI v))]) (by decide) rfl rfl (Nat.le_of_ble_eq_true rfl) ?_
  intro p e s m args below meth c A X hr hA
  refine gx_iload_n X d_Mo_valueOf_0 rfl rfl ?_
  refine gx_iload_n X d_Mo_valueOf_1 rfl rfl ?_
  refine gx_aload_n X d_Mo_valueOf_2 rfl rfl ?_
  refine gx_geti X d_Mo_valueOf_3 (gci in_Mo) (HX _ rfl).1 (HX _ rfl).2 rfl 0 (by decide) (gcw X lk_Mo_76) (fun _ h => h) rfl ?_
  refine gx_imul X d_Mo_valueOf_6 ?_
  refine gx_ishr X d_Mo_valueOf_7 ?_
  refine gx_aload_n X d_Mo_valueOf_8 rfl rfl ?_
  refine gx_geti X d_Mo_valueOf_9 (gci in_Mo) (HX _ rfl).1 (HX _ rfl).2 rfl 1 (by decide) (gcw X lk_Mo_79) (fun _ h => h) rfl ?_
  refine gx_iand X d_Mo_valueOf_12 ?_
  refine gx_top (y := nI (dg w st v)) ?_ ?_
  · rw [hS.2.1, hS.2.2.1]
    exact rdI_dec w (by have := hS.1; omega) v hv st hst
  refine gx_iret X hr hA d_Mo_valueOf_13 (K _ _ _ ⟨rfl, rfl, rfl⟩)
theorem c_Mo_with (HX : gH ks lay N sM) (hS : MsOK F w) {st v : Nat} (hst : st < 512) (hv : v < 3) (x : Int32) : Con l y_Mo_with (Cond.code y_Mo_with b_Mo_with 4 (some .int) :: WT) rm_Mo_with D vcl ca ks lay ad [xR 40, xI (nI st), xI (nI v), xI x] F L (fun r F' L' => r = some (xI (nI (wr w st v x.toBitVec.toNat))) ∧ F' = F ∧ L' = L) := by
  refine Con.ofK (fun post K => ?_)
  refine Con.of (ls := [(0, xR 40), (1, xI (nI st)), (2, xI (nI v)), (3, xI x)]) (by decide) rfl rfl (Nat.le_of_ble_eq_true rfl) ?_
  intro p e s m args below meth c A X hr hA
  refine gx_iload_n X d_Mo_with_0 rfl rfl ?_
  refine gx_aload_n X d_Mo_with_1 rfl rfl ?_
  refine gx_geti X d_Mo_with_2 (gci in_Mo) (HX _ rfl).1 (HX _ rfl).2 rfl 1 (by decide) (gcw X lk_Mo_79) (fun _ h => h) rfl ?_
  refine gx_iload_n X d_Mo_with_5 rfl rfl ?_
  refine gx_aload_n X d_Mo_with_6 rfl rfl ?_
  refine gx_geti X d_Mo_with_7 (gci in_Mo) (HX _ rfl).1 (HX _ rfl).2 rfl 0 (by decide) (gcw X lk_Mo_76) (fun _ h => h) rfl ?_
  refine gx_imul X d_Mo_with_10 ?_
  refine gx_ishl X d_Mo_with_11 ?_
  refine gx_iconst X d_Mo_with_12 (v := (-1)) (by decide) ?_
  refine gx_ixor X d_Mo_with_13 ?_
  refine gx_iand X d_Mo_with_14 ?_
  refine gx_iload_n X d_Mo_with_15 rfl rfl ?_
  refine gx_aload_n X d_Mo_with_16 rfl rfl ?_
  refine gx_geti X d_Mo_with_17 (gci in_Mo) (HX _ rfl).1 (HX _ rfl).2 rfl 1 (by decide) (gcw X lk_Mo_79) (fun _ h => h) rfl ?_
  refine gx_iand X d_Mo_with_20 ?_
  refine gx_iload_n X d_Mo_with_21 rfl rfl ?_
  refine gx_aload_n X d_Mo_with_22 rfl rfl ?_
  refine gx_geti X d_Mo_with_23 (gci in_Mo) (HX _ rfl).1 (HX _ rfl).2 rfl 0 (by decide) (gcw X lk_Mo_76) (fun _ h => h) rfl ?_
  refine gx_imul X d_Mo_with_26 ?_
  refine gx_ishl X d_Mo_with_27 ?_
  refine gx_ior X d_Mo_with_28 ?_
  refine gx_top (y := nI (wr w st v x.toBitVec.toNat)) ?_ ?_
  · rw [hS.2.1, hS.2.2.1]
    exact wrI_eq (by have := hS.1; omega) hv hst x
  refine gx_iret X hr hA d_Mo_with_29 (K _ _ _ ⟨rfl, rfl, rfl⟩)
end
