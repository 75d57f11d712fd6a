/-! Space's constructor (own text) -/
def wdN (x : Int32) : Nat := if x.toBitVec.toNat % 4 = 3 then 3 else 1 + x.toBitVec.toNat % 4
theorem wdN_ok (x : Int32) : 1 ≤ wdN x ∧ wdN x ≤ 3 := by
  unfold wdN
  split <;> omega
section
variable {l : Launch} {D : va_G} {ca : Nat → ClassId} {ks : List Nat} {lay : Nat → gxE} {ad : Nat → Nat} {sz : Nat} {F : Nat → Nat → Int32} {L : Nat → Nat → Int64} {w : Nat}
theorem x_and3 (x : Int32) : x &&& nI 3 = nI (x.toBitVec.toNat % 4) := pk_and x 2 (by decide)
theorem n_Sp_init (m1 : 1 ∈ ks) (y1 : lay 1 = Sum.inl (1, [none, none, none])) (x : Int32) : ConG l y_Sp_init (Cond.code y_Sp_init b_Sp_init 3 none :: WT) rmG_Sp D vcl ca ks ks lay ad sz [xR 1, xI x] F L (fun lay' F' L' => lay' = lay ∧ L' = L ∧ (∀ a, a ≠ 1 → F' a = F a) ∧ SpOK F' (wdN x)) := by
  have hb := wdN_ok x
  have hx4 : x.toBitVec.toNat % 4 < 4 := Nat.mod_lt _ (by decide)
  have hwd : wdN x = if x.toBitVec.toNat % 4 = 3 then 3 else 1 + x.toBitVec.toNat % 4 := rfl
  generalize wdN x = w at *
  generalize hx : x.toBitVec.toNat % 4 = q at *
  refine ConG.ofK (fun post K => ?_)
  refine ConG.of (ls := [(0, xR 1), (1, xI x)]) (by decide) rfl rfl (Nat.le_of_ble_eq_true rfl) ?_
  intro p e s m args below meth c A hsz hI hN X hr hA
  have h2w : 2 ^ w ≤ 8 := pu_p8 w (by omega)
  have h2w1 : 1 ≤ 2 ^ w := Nat.one_le_two_pow
  have tail : ∀ y : Int32, GX p l e rmG_Sp s m args below meth c (MQ below (gxQG D vcl ca ks (ks) ad sz post) args s rmG_Sp.cells rmG_Sp.slots (gxA ks ad sz)) 3 A D vcl ca ks lay ad 0 0 21 [(2, xI y), (0, xR 1), (1, xI x)] [xI (nI w), xR 1] F L := by
    intro y
    refine gx_putFi X d_Sp_init_21 (gci in_Sp) m1 y1 rfl 0 (by decide) (gcw X lk_Sp_9) (fun _ h => h) t_Sp ty_Sp nm_Sp rfl hI rfl (ty_Sp 0 (by decide)) rfl rfl rfl ?_
    refine gx_aload_n X d_Sp_init_24 rfl rfl ?_
    refine gx_iconst X d_Sp_init_25 (v := nI 1) (by decide) ?_
    refine gx_aload_n X d_Sp_init_26 rfl rfl ?_
    refine gx_geti X d_Sp_init_27 (gci in_Sp) m1 y1 rfl 0 (by decide) (gcw X lk_Sp_9) (fun _ h => h) rfl ?_
    refine gx_top (y := nI w) gxu_at ?_
    refine gx_ishl X d_Sp_init_30 ?_
    refine gx_top (sh1 w (by omega)) ?_
    refine gx_iconst X d_Sp_init_31 (v := nI 1) (by decide) ?_
    refine gx_isub X d_Sp_init_32 ?_
    refine gx_top (y := nI (2 ^ w - 1)) (pk_sub (by omega)) ?_
    refine gx_putFi X d_Sp_init_33 (gci in_Sp) m1 y1 rfl 1 (by decide) (gcw X lk_Sp_15) (fun _ h => h) t_Sp ty_Sp nm_Sp rfl hI rfl (ty_Sp 1 (by decide)) rfl rfl rfl ?_
    refine gx_aload_n X d_Sp_init_36 rfl rfl ?_
    refine gx_iconst X d_Sp_init_37 (v := nI 1) (by decide) ?_
    refine gx_iconst X d_Sp_init_38 (v := nI 3) (by decide) ?_
    refine gx_aload_n X d_Sp_init_39 rfl rfl ?_
    refine gx_geti X d_Sp_init_40 (gci in_Sp) m1 y1 rfl 0 (by decide) (gcw X lk_Sp_9) (fun _ h => h) rfl ?_
    refine gx_top (y := nI w) (by rw [gxu_ne (by decide), gxu_at]) ?_
    refine gx_imul X d_Sp_init_43 ?_
    refine gx_top (pk_mul 3 w) ?_
    refine gx_ishl X d_Sp_init_44 ?_
    refine gx_top (sh1 (3 * w) (by omega)) ?_
    refine gx_putFi X d_Sp_init_45 (gci in_Sp) m1 y1 rfl 2 (by decide) (gcw X lk_Sp_18) (fun _ h => h) t_Sp ty_Sp nm_Sp rfl hI rfl (ty_Sp 2 (by decide)) rfl rfl rfl ?_
    refine gx_vretG X hr hsz hA ⟨Nat.le_refl _, Nat.le_refl _⟩ d_Sp_init_48 (K _ _ _ ⟨rfl, rfl, fun a ha => by rw [gxu_cell ha, gxu_cell ha, gxu_cell ha], hb, ?_, ?_, gxu_at⟩)
    · rw [gxu_ne (by decide), gxu_ne (by decide), gxu_at]
    · rw [gxu_ne (by decide), gxu_at]
  refine gx_aload_n X d_Sp_init_0 rfl rfl ?_
  refine gx_obj X d_Sp_init_1 (gcw X lk_Sp_3) (gcw X wo_inst) (gcw X wo_code) (Nat.le_of_ble_eq_true rfl) ⟨Nat.le_of_ble_eq_true rfl, Nat.le_of_ble_eq_true rfl⟩ ?_
  refine gx_iconst X d_Sp_init_4 (v := nI 1) (by decide) ?_
  refine gx_iload_n X d_Sp_init_5 rfl rfl ?_
  refine gx_iconst X d_Sp_init_6 (v := nI 3) (by decide) ?_
  refine gx_iand X d_Sp_init_7 ?_
  refine gx_top (y := nI q) (by rw [x_and3, hx]) ?_
  refine gx_iadd X d_Sp_init_8 ?_
  refine gx_top (nI_add 1 q) ?_
  refine gx_istore_n X d_Sp_init_9 rfl (by decide) ?_
  refine gx_aload_n X d_Sp_init_10 rfl rfl ?_
  refine gx_iload_n X d_Sp_init_11 rfl rfl ?_
  refine gx_iconst X d_Sp_init_12 (v := nI 3) (by decide) ?_
  refine gx_icmp_le X d_Sp_init_13 (tgt := 20) (by decide) (fun h13 => ?_) (fun h13 => ?_)
  · have hle : 1 + q ≤ 3 := (nI_leI (by omega) (by decide)).mp h13
    refine gx_iload_n X d_Sp_init_20 rfl rfl ?_
    refine gx_top (y := nI w) (by rw [hwd, if_neg (by omega)]) ?_
    exact gx_el (tail _) ⟨rfl, rfl, rfl, trivial⟩
  · have hq : q = 3 := by
      have : ¬ 1 + q ≤ 3 := fun z => h13 ((nI_leI (by omega) (by decide)).mpr z)
      omega
    refine gx_iconst X d_Sp_init_16 (v := nI 3) (by decide) ?_
    refine gx_goto X d_Sp_init_17 (tgt := 21) (by decide) ?_
    refine gx_top (y := nI w) (by rw [hwd, if_pos hq]) ?_
    exact gx_el (tail _) ⟨rfl, rfl, rfl, trivial⟩
end
