/-! constructors (own text, printed by gen_ctor2.py) -/
theorem str_int : "[" ++ (FieldType.array .int).toString = "[[I" := by decide +kernel
theorem str_long : "[" ++ (FieldType.array .long).toString = "[[J" := by decide +kernel
theorem nrw_rT {a : Nat} (h : ¬ (100 ≤ a ∧ a < 120)) : a ∉ rwL rT 20 0 := fun z => by
  obtain ⟨i, -, h2, e⟩ := rwL_mem.mp z
  unfold rT at e
  omega
theorem nrw_rO {a : Nat} (h : ¬ (200 ≤ a ∧ a < 400)) : a ∉ rwL rO 200 0 := fun z => by
  obtain ⟨i, -, h2, e⟩ := rwL_mem.mp z
  unfold rO at e
  omega
theorem nrw_rK {a : Nat} (h : ¬ (400 ≤ a ∧ a < 404)) : a ∉ rwL rK 4 0 := fun z => by
  obtain ⟨i, -, h2, e⟩ := rwL_mem.mp z
  unfold rK at e
  omega
theorem irw_rT {a : Nat} (h : 100 ≤ a ∧ a < 120) : a ∈ rwL rT 20 0 := rwL_mem.mpr ⟨a - 100, Nat.zero_le _, by omega, by unfold rT; omega⟩
theorem irw_rO {a : Nat} (h : 200 ≤ a ∧ a < 400) : a ∈ rwL rO 200 0 := rwL_mem.mpr ⟨a - 200, Nat.zero_le _, by omega, by unfold rO; omega⟩
theorem irw_rK {a : Nat} (h : 400 ≤ a ∧ a < 404) : a ∈ rwL rK 4 0 := rwL_mem.mpr ⟨a - 400, Nat.zero_le _, by omega, by unfold rK; omega⟩
theorem LX_rT {N a : Nat} (h : 100 ≤ a ∧ a < 120) : LX N a = Sum.inr (Sum.inl (0, N)) := by
  unfold LX
  rw [if_neg (by omega), if_pos (by omega)]
theorem LX_rO {N a : Nat} (h : 200 ≤ a ∧ a < 400) : LX N a = Sum.inr (Sum.inr (Sum.inl ((N + 63) / 64))) := by
  unfold LX
  rw [if_neg (by omega), if_neg (by omega), if_pos (by omega)]
theorem LX_rK {N a : Nat} (h : 400 ≤ a ∧ a < 404) : LX N a = Sum.inr (Sum.inr (Sum.inl N)) := by
  unfold LX
  rw [if_neg (by omega), if_neg (by omega), if_neg (by omega)]
section
variable {l : Launch} {D : va_G} {ca : Nat → ClassId} {ks : List Nat} {lay : Nat → gxE} {ad : Nat → Nat} {sz : Nat} {F : Nat → Nat → Int32} {L : Nat → Nat → Int64} {w : Nat}
set_option maxHeartbeats 4000000 in
theorem n_Li_init (m2 : 2 ∈ ks) (y2 : lay 2 = Sum.inl (2, [some 9999, none])) (f3 : 3 ∉ ks) (a3 : ad 3 = sz + 0) : ConG l y_Li_init (Cond.code y_Li_init b_Li_init 1 none :: WT) rmG_Li D vcl ca ks (3 :: ks) lay ad sz [xR 2] F L (fun lay' F' L' => (∀ a, a ≠ 2 → a ≠ 3 → lay' a = lay a ∧ F' a = F a) ∧ (∀ k, k = 2 ∨ k = 3 → lay' k = LX (2 ^ (3 * w)) k) ∧ F' 2 1 = nI 0 ∧ F' 3 = fun _ => 0) := by
  refine ConG.ofK (fun post K => ?_)
  refine ConG.of (ls := [(0, xR 2)]) (by decide) rfl rfl (Nat.le_of_ble_eq_true rfl) ?_
  intro p e s m args below meth c A hsz hI hN X hr hA
  refine gx_aload_n X d_Li_init_0 rfl rfl ?_
  refine gx_obj X d_Li_init_1 (gcw X lk_Li_3) (gcw X wo_inst) (gcw X wo_code) (Nat.le_of_ble_eq_true rfl) ⟨Nat.le_of_ble_eq_true rfl, Nat.le_of_ble_eq_true rfl⟩ ?_
  refine gx_aload_n X d_Li_init_4 rfl rfl ?_
  refine gx_bipush X d_Li_init_5 (v := nI 24) (by decide) ?_
  refine gx_newi X (τ := 2) (n := 24) 3 d_Li_init_7 (gcw X wa_char) rfl (fun h => h) (fun _ => rfl) (by omega) (by show 24 * 2 ≤ 536870912; omega) (Nat.le_of_ble_eq_true rfl) (by show 0 + 24 ≤ (24 : Nat); omega) f3 (a3.trans (by subst hsz; rfl)) (Or.inl rfl) (fun X => ?_)
  refine gx_putr X d_Li_init_9 (gci in_Li) (List.mem_cons_of_mem _ m2) ((lyU_ne (by decide)).trans y2) rfl 0 (by decide) (gcw X lk_Li_9) (fun _ h => h) t_Li ty_Li nm_Li hI rfl (ty_Li 0 (by decide)) (fun _ => rfl) (fun _ => rfl) (by decide) rfl ?_
  refine gx_aload_n X d_Li_init_12 rfl rfl ?_
  refine gx_iconst X d_Li_init_13 (v := nI 0) (by decide) ?_
  refine gx_puti X d_Li_init_14 (gci in_Li) (List.mem_cons_of_mem _ m2) lyU_at rfl 1 (by decide) (gcw X lk_Li_15) (fun _ h => h) t_Li ty_Li nm_Li rfl (ty_Li 1 (by decide)) rfl rfl rfl ?_
  refine gx_vretG X hr hsz hA ⟨Nat.le_of_ble_eq_true rfl, by show 0 + 24 ≤ (24 : Nat); omega⟩ d_Li_init_17 (K _ _ _ ⟨fun a h0 h1 => ⟨by rw [lyU_ne (by omega), lyU_ne (by omega)], by rw [gxu_cell (by omega), zF_ne (by omega)]⟩, fun k hk => ?_, gxu_at, by rw [gxu_cell (by decide), zF_at]⟩)
  rcases hk with rfl | rfl
  · exact lyU_at
  · exact ((lyU_ne (by decide)).trans lyU_at)
set_option maxHeartbeats 4000000 in
theorem n_Fo_init (m4 : 4 ∈ ks) (y4 : lay 4 = Sum.inl (3, [some 9999, some 9999, some 9999, none])) (f5 : 5 ∉ ks) (a5 : ad 5 = sz + 0) (f6 : 6 ∉ ks) (a6 : ad 6 = sz + 1) : ConG l y_Fo_init (Cond.code y_Fo_init b_Fo_init 2 none :: WT) rmG_Fo D vcl ca ks (6 :: 5 :: ks) lay ad sz [xR 4, xR 1] F L (fun lay' F' L' => (∀ a, a ≠ 4 → a ≠ 5 → a ≠ 6 → lay' a = lay a ∧ F' a = F a) ∧ (∀ k, k = 4 ∨ k = 5 ∨ k = 6 → lay' k = LX (2 ^ (3 * w)) k)) := by
  refine ConG.ofK (fun post K => ?_)
  refine ConG.of (ls := [(0, xR 4), (1, xR 1)]) (by decide) rfl rfl (Nat.le_of_ble_eq_true rfl) ?_
  intro p e s m args below meth c A hsz hI hN X hr hA
  refine gx_aload_n X d_Fo_init_0 rfl rfl ?_
  refine gx_obj X d_Fo_init_1 (gcw X lk_Fo_3) (gcw X wo_inst) (gcw X wo_code) (Nat.le_of_ble_eq_true rfl) ⟨Nat.le_of_ble_eq_true rfl, Nat.le_of_ble_eq_true rfl⟩ ?_
  refine gx_aload_n X d_Fo_init_4 rfl rfl ?_
  refine gx_bipush X d_Fo_init_5 (v := nI 24) (by decide) ?_
  refine gx_newi X (τ := 2) (n := 24) 5 d_Fo_init_7 (gcw X wa_char) rfl (fun h => h) (fun _ => rfl) (by omega) (by show 24 * 2 ≤ 536870912; omega) (Nat.le_of_ble_eq_true rfl) (by show 0 + 24 ≤ (48 : Nat); omega) f5 (a5.trans (by subst hsz; rfl)) (Or.inl rfl) (fun X => ?_)
  refine gx_putr X d_Fo_init_9 (gci in_Fo) (List.mem_cons_of_mem _ m4) ((lyU_ne (by decide)).trans y4) rfl 1 (by decide) (gcw X lk_Fo_9) (fun _ h => h) t_Fo ty_Fo nm_Fo hI rfl (ty_Fo 1 (by decide)) (fun _ => rfl) (fun _ => rfl) (by decide) rfl ?_
  refine gx_aload_n X d_Fo_init_12 rfl rfl ?_
  refine gx_bipush X d_Fo_init_13 (v := nI 24) (by decide) ?_
  refine gx_newi X (τ := 0) (n := 24) 6 d_Fo_init_15 (gcw X wa_int) rfl (fun h => h) (fun _ => rfl) (by omega) (by show 24 * 4 ≤ 536870912; omega) (Nat.le_of_ble_eq_true rfl) (by show 0 + 24 + 24 ≤ (48 : Nat); omega) (nm_cons (by decide) f6) (a6.trans (by subst hsz; rfl)) (Or.inr ⟨_, List.mem_cons_self, hl_of a5 (by subst hsz; rfl)⟩) (fun X => ?_)
  refine gx_putr X d_Fo_init_17 (gci in_Fo) (List.mem_cons_of_mem _ (List.mem_cons_of_mem _ m4)) ((lyU_ne (by decide)).trans lyU_at) rfl 2 (by decide) (gcw X lk_Fo_15) (fun _ h => h) t_Fo ty_Fo nm_Fo hI rfl (ty_Fo 2 (by decide)) (fun _ => rfl) (fun _ => rfl) (by decide) rfl ?_
  refine gx_aload_n X d_Fo_init_20 rfl rfl ?_
  refine gx_iconst X d_Fo_init_21 (v := nI 0) (by decide) ?_
  refine gx_puti X d_Fo_init_22 (gci in_Fo) (List.mem_cons_of_mem _ (List.mem_cons_of_mem _ m4)) lyU_at rfl 3 (by decide) (gcw X lk_Fo_19) (fun _ h => h) t_Fo ty_Fo nm_Fo rfl (ty_Fo 3 (by decide)) rfl rfl rfl ?_
  refine gx_aload_n X d_Fo_init_25 rfl rfl ?_
  refine gx_aload_n X d_Fo_init_26 rfl rfl ?_
  refine gx_putr X d_Fo_init_27 (gci in_Fo) (List.mem_cons_of_mem _ (List.mem_cons_of_mem _ m4)) lyU_at rfl 0 (by decide) (gcw X lk_Fo_23) (fun _ h => h) t_Fo ty_Fo nm_Fo hI rfl (ty_Fo 0 (by decide)) (fun _ => rfl) (fun _ => rfl) (by decide) rfl ?_
  refine gx_vretG X hr hsz hA ⟨Nat.le_of_ble_eq_true rfl, by show 0 + 24 + 24 ≤ (48 : Nat); omega⟩ d_Fo_init_30 (K _ _ _ ⟨fun a h0 h1 h2 => ⟨by rw [lyU_ne (by omega), lyU_ne (by omega), lyU_ne (by omega), lyU_ne (by omega), lyU_ne (by omega)], by rw [gxu_cell (by omega), zF_ne (by omega), zF_ne (by omega)]⟩, fun k hk => ?_⟩)
  rcases hk with rfl | rfl | rfl
  · exact lyU_at
  · exact ((lyU_ne (by decide)).trans ((lyU_ne (by decide)).trans ((lyU_ne (by decide)).trans ((lyU_ne (by decide)).trans lyU_at))))
  · exact ((lyU_ne (by decide)).trans ((lyU_ne (by decide)).trans lyU_at))
set_option maxHeartbeats 4000000 in
theorem n_Pa_init (m7 : 7 ∈ ks) (y7 : lay 7 = Sum.inl (4, [some 9999, some 9999, none]))  : ConG l y_Pa_init (Cond.code y_Pa_init b_Pa_init 3 none :: WT) rmG_Pa D vcl ca ks (ks) lay ad sz [xR 7, xR 2, xR 4] F L (fun lay' F' L' => (∀ a, a ≠ 7 → lay' a = lay a ∧ F' a = F a) ∧ (∀ k, k = 7 → lay' k = LX (2 ^ (3 * w)) k)) := by
  refine ConG.ofK (fun post K => ?_)
  refine ConG.of (ls := [(0, xR 7), (1, xR 2), (2, xR 4)]) (by decide) rfl rfl (Nat.le_of_ble_eq_true rfl) ?_
  intro p e s m args below meth c A hsz hI hN X hr hA
  refine gx_aload_n X d_Pa_init_0 rfl rfl ?_
  refine gx_obj X d_Pa_init_1 (gcw X lk_Pa_3) (gcw X wo_inst) (gcw X wo_code) (Nat.le_of_ble_eq_true rfl) ⟨Nat.le_of_ble_eq_true rfl, Nat.le_of_ble_eq_true rfl⟩ ?_
  refine gx_aload_n X d_Pa_init_4 rfl rfl ?_
  refine gx_iconst X d_Pa_init_5 (v := nI 0) (by decide) ?_
  refine gx_puti X d_Pa_init_6 (gci in_Pa) m7 y7 rfl 2 (by decide) (gcw X lk_Pa_9) (fun _ h => h) t_Pa ty_Pa nm_Pa rfl (ty_Pa 2 (by decide)) rfl rfl rfl ?_
  refine gx_aload_n X d_Pa_init_9 rfl rfl ?_
  refine gx_aload_n X d_Pa_init_10 rfl rfl ?_
  refine gx_putr X d_Pa_init_11 (gci in_Pa) m7 y7 rfl 0 (by decide) (gcw X lk_Pa_15) (fun _ h => h) t_Pa ty_Pa nm_Pa hI rfl (ty_Pa 0 (by decide)) (fun _ => rfl) (fun _ => rfl) (by decide) rfl ?_
  refine gx_aload_n X d_Pa_init_14 rfl rfl ?_
  refine gx_aload_n X d_Pa_init_15 rfl rfl ?_
  refine gx_putr X d_Pa_init_16 (gci in_Pa) m7 lyU_at rfl 1 (by decide) (gcw X lk_Pa_19) (fun _ h => h) t_Pa ty_Pa nm_Pa hI rfl (ty_Pa 1 (by decide)) (fun _ => rfl) (fun _ => rfl) (by decide) rfl ?_
  refine gx_vretG X hr hsz hA ⟨Nat.le_of_ble_eq_true rfl, by show 0 ≤ (0 : Nat); omega⟩ d_Pa_init_19 (K _ _ _ ⟨fun a h0 => ⟨by rw [lyU_ne (by omega), lyU_ne (by omega)], by rw [gxu_cell (by omega)]⟩, fun k hk => ?_⟩)
  subst hk
  exact lyU_at
set_option maxHeartbeats 4000000 in
theorem n_Pr_init (m8 : 8 ∈ ks) (y8 : lay 8 = Sum.inl (5, [some 9999, some 9999, some 9999, some 9999, some 9999, some 9999, none])) (m1 : 1 ∈ ks) (y1 : lay 1 = LX (2 ^ (3 * w)) 1) (hS : SpOK F w) (f9 : 9 ∉ ks) (a9 : ad 9 = sz + 0) (f10 : 10 ∉ ks) (a10 : ad 10 = sz + 1) (f11 : 11 ∉ ks) (a11 : ad 11 = sz + 2) (f12 : 12 ∉ ks) (a12 : ad 12 = sz + 3) (f13 : 13 ∉ ks) (a13 : ad 13 = sz + 4) (fr_rT : ∀ a ∈ rwL rT 20 0, a ∉ ks) (ar_rT : ∀ j, j < 20 → ad (rT j) = sz + 4 + 1 + j) : ConG l y_Pr_init (Cond.code y_Pr_init b_Pr_init 2 none :: WT) rmG_Pr D vcl ca ks (13 :: (rwL rT 20 0 ++ (12 :: 11 :: 10 :: 9 :: ks))) lay ad sz [xR 8, xR 1] F L (fun lay' F' L' => (∀ a, a ≠ 8 → a ≠ 9 → a ≠ 10 → a ≠ 11 → a ≠ 12 → a ≠ 13 → ¬ (100 ≤ a ∧ a < 120) → lay' a = lay a ∧ F' a = F a) ∧ (∀ k, k = 8 ∨ k = 9 ∨ k = 10 ∨ k = 11 ∨ k = 12 ∨ k = 13 ∨ (100 ≤ k ∧ k < 120) → lay' k = LX (2 ^ (3 * w)) k) ∧ F' 8 6 = nI 0) := by
  have hN2 := pu_N w (by have := hS.1; omega)
  refine ConG.ofK (fun post K => ?_)
  refine ConG.of (ls := [(0, xR 8), (1, xR 1)]) (by decide) rfl rfl (Nat.le_of_ble_eq_true rfl) ?_
  intro p e s m args below meth c A hsz hI hN X hr hA
  refine gx_aload_n X d_Pr_init_0 rfl rfl ?_
  refine gx_obj X d_Pr_init_1 (gcw X lk_Pr_3) (gcw X wo_inst) (gcw X wo_code) (Nat.le_of_ble_eq_true rfl) ⟨Nat.le_of_ble_eq_true rfl, Nat.le_of_ble_eq_true rfl⟩ ?_
  refine gx_aload_n X d_Pr_init_4 rfl rfl ?_
  refine gx_bipush X d_Pr_init_5 (v := nI 20) (by decide) ?_
  refine gx_newi X (τ := 0) (n := 20) 9 d_Pr_init_7 (gcw X wa_int) rfl (fun h => h) (fun _ => rfl) (by omega) (by show 20 * 4 ≤ 536870912; omega) (Nat.le_of_ble_eq_true rfl) (by show 0 + 20 ≤ (10340 : Nat); omega) f9 (a9.trans (by subst hsz; rfl)) (Or.inl rfl) (fun X => ?_)
  refine gx_putr X d_Pr_init_9 (gci in_Pr) (List.mem_cons_of_mem _ m8) ((lyU_ne (by decide)).trans y8) rfl 1 (by decide) (gcw X lk_Pr_9) (fun _ h => h) t_Pr ty_Pr nm_Pr hI rfl (ty_Pr 1 (by decide)) (fun _ => rfl) (fun _ => rfl) (by decide) rfl ?_
  refine gx_aload_n X d_Pr_init_12 rfl rfl ?_
  refine gx_bipush X d_Pr_init_13 (v := nI 20) (by decide) ?_
  refine gx_newi X (τ := 0) (n := 20) 10 d_Pr_init_15 (gcw X wa_int) rfl (fun h => h) (fun _ => rfl) (by omega) (by show 20 * 4 ≤ 536870912; omega) (Nat.le_of_ble_eq_true rfl) (by show 0 + 20 + 20 ≤ (10340 : Nat); omega) (nm_cons (by decide) f10) (a10.trans (by subst hsz; rfl)) (Or.inr ⟨_, List.mem_cons_self, hl_of a9 (by subst hsz; rfl)⟩) (fun X => ?_)
  refine gx_putr X d_Pr_init_17 (gci in_Pr) (List.mem_cons_of_mem _ (List.mem_cons_of_mem _ m8)) ((lyU_ne (by decide)).trans lyU_at) rfl 2 (by decide) (gcw X lk_Pr_15) (fun _ h => h) t_Pr ty_Pr nm_Pr hI rfl (ty_Pr 2 (by decide)) (fun _ => rfl) (fun _ => rfl) (by decide) rfl ?_
  refine gx_aload_n X d_Pr_init_20 rfl rfl ?_
  refine gx_bipush X d_Pr_init_21 (v := nI 20) (by decide) ?_
  refine gx_newi X (τ := 0) (n := 20) 11 d_Pr_init_23 (gcw X wa_int) rfl (fun h => h) (fun _ => rfl) (by omega) (by show 20 * 4 ≤ 536870912; omega) (Nat.le_of_ble_eq_true rfl) (by show 0 + 20 + 20 + 20 ≤ (10340 : Nat); omega) (nm_cons (by decide) (nm_cons (by decide) f11)) (a11.trans (by subst hsz; rfl)) (Or.inr ⟨_, List.mem_cons_self, hl_of a10 (by subst hsz; rfl)⟩) (fun X => ?_)
  refine gx_putr X d_Pr_init_25 (gci in_Pr) (List.mem_cons_of_mem _ (List.mem_cons_of_mem _ (List.mem_cons_of_mem _ m8))) ((lyU_ne (by decide)).trans lyU_at) rfl 3 (by decide) (gcw X lk_Pr_18) (fun _ h => h) t_Pr ty_Pr nm_Pr hI rfl (ty_Pr 3 (by decide)) (fun _ => rfl) (fun _ => rfl) (by decide) rfl ?_
  refine gx_aload_n X d_Pr_init_28 rfl rfl ?_
  refine gx_bipush X d_Pr_init_29 (v := nI 20) (by decide) ?_
  refine gx_newi X (τ := 0) (n := 20) 12 d_Pr_init_31 (gcw X wa_int) rfl (fun h => h) (fun _ => rfl) (by omega) (by show 20 * 4 ≤ 536870912; omega) (Nat.le_of_ble_eq_true rfl) (by show 0 + 20 + 20 + 20 + 20 ≤ (10340 : Nat); omega) (nm_cons (by decide) (nm_cons (by decide) (nm_cons (by decide) f12))) (a12.trans (by subst hsz; rfl)) (Or.inr ⟨_, List.mem_cons_self, hl_of a11 (by subst hsz; rfl)⟩) (fun X => ?_)
  refine gx_putr X d_Pr_init_33 (gci in_Pr) (List.mem_cons_of_mem _ (List.mem_cons_of_mem _ (List.mem_cons_of_mem _ (List.mem_cons_of_mem _ m8)))) ((lyU_ne (by decide)).trans lyU_at) rfl 4 (by decide) (gcw X lk_Pr_21) (fun _ h => h) t_Pr ty_Pr nm_Pr hI rfl (ty_Pr 4 (by decide)) (fun _ => rfl) (fun _ => rfl) (by decide) rfl ?_
  refine gx_aload_n X d_Pr_init_36 rfl rfl ?_
  refine gx_iconst X d_Pr_init_37 (v := nI 0) (by decide) ?_
  refine gx_puti X d_Pr_init_38 (gci in_Pr) (List.mem_cons_of_mem _ (List.mem_cons_of_mem _ (List.mem_cons_of_mem _ (List.mem_cons_of_mem _ m8)))) lyU_at rfl 6 (by decide) (gcw X lk_Pr_24) (fun _ h => h) t_Pr ty_Pr nm_Pr rfl (ty_Pr 6 (by decide)) rfl rfl rfl ?_
  refine gx_aload_n X d_Pr_init_41 rfl rfl ?_
  refine gx_aload_n X d_Pr_init_42 rfl rfl ?_
  refine gx_putr X d_Pr_init_43 (gci in_Pr) (List.mem_cons_of_mem _ (List.mem_cons_of_mem _ (List.mem_cons_of_mem _ (List.mem_cons_of_mem _ m8)))) lyU_at rfl 0 (by decide) (gcw X lk_Pr_28) (fun _ h => h) t_Pr ty_Pr nm_Pr hI rfl (ty_Pr 0 (by decide)) (fun _ => rfl) (fun _ => rfl) (by decide) rfl ?_
  refine gx_aload_n X d_Pr_init_46 rfl rfl ?_
  refine gx_bipush X d_Pr_init_47 (v := nI 20) (by decide) ?_
  refine gx_aload_n X d_Pr_init_49 rfl rfl ?_
  refine gx_geti X d_Pr_init_50 (gci in_Sp) (List.mem_cons_of_mem _ (List.mem_cons_of_mem _ (List.mem_cons_of_mem _ (List.mem_cons_of_mem _ m1)))) ((lyU_ne (by decide)).trans ((lyU_ne (by decide)).trans ((lyU_ne (by decide)).trans ((lyU_ne (by decide)).trans ((lyU_ne (by decide)).trans ((lyU_ne (by decide)).trans ((lyU_ne (by decide)).trans ((lyU_ne (by decide)).trans ((lyU_ne (by decide)).trans y1))))))))) rfl 2 (by decide) (gcw X lk_Pr_32) (fun _ h => h) rfl ?_
  refine gx_top (y := nI (2 ^ (3 * w))) (by simp only [gxu, zF, Nat.reduceEqDiff, false_and, and_false, if_false]; exact hS.2.2.2) ?_
  refine gx_mna X (ty := .int) (n := 20) (M := 2 ^ (3 * w)) (τo := 5) (τ := 0) (er := Sum.inr (Sum.inl (0, 2 ^ (3 * w)))) (arr := (2 ^ (3 * w), .inl (fun _ => 0))) 13 rT (zFm _ rT 20) _ d_Pr_init_53 (by rw [str_int]; exact gcw X wc_Pr_37) (hN.1 _) (gcw X wa_int) rfl rfl (fun h => h) (fun h => h) rfl rfl (by omega) (by omega) (by show (2 ^ (3 * w)) * 4 ≤ 536870912; omega) (Nat.le_of_ble_eq_true rfl) (by show 0 + 20 + 20 + 20 + 20 + (20 + 20 * (2 ^ (3 * w))) ≤ (10340 : Nat); omega) (fun j hj => by unfold gxc; rw [zFm_at (rwL_mem.mpr ⟨j, Nat.zero_le _, by omega, rfl⟩)]) rfl (fun a ha => zFm_ne ha) (fun _ _ => rfl) (nm_cons (by decide) (nm_cons (by decide) (nm_cons (by decide) (nm_cons (by decide) f13)))) (no_rT 13 (by decide)) (nr_cons (no_rT 12 (by decide)) (nr_cons (no_rT 11 (by decide)) (nr_cons (no_rT 10 (by decide)) (nr_cons (no_rT 9 (by decide)) fr_rT)))) (a13.trans (by subst hsz; rfl)) (fun j hj => (ar_rT j hj).trans (by subst hsz; rfl)) (Or.inr ⟨_, List.mem_cons_self, hl_of a12 (by subst hsz; rfl)⟩) (fun X => ?_)
  refine gx_putr X d_Pr_init_57 (gci in_Pr) (List.mem_cons_of_mem _ (List.mem_append_right _ (List.mem_cons_of_mem _ (List.mem_cons_of_mem _ (List.mem_cons_of_mem _ (List.mem_cons_of_mem _ m8)))))) ((lyM_ne (by decide) (no_rT 8 (by decide))).trans lyU_at) rfl 5 (by decide) (gcw X lk_Pr_39) (fun _ h => h) t_Pr ty_Pr nm_Pr hI rfl (ty_Pr 5 (by decide)) (fun _ => rfl) (fun _ => rfl) (by decide) rfl ?_
  refine gx_vretG X hr hsz hA ⟨Nat.le_of_ble_eq_true rfl, by show 0 + 20 + 20 + 20 + 20 + 20 + 20 * (2 ^ (3 * w)) ≤ (10340 : Nat); omega⟩ d_Pr_init_60 (K _ _ _ ⟨fun a h0 h1 h2 h3 h4 h5 h6 => ⟨by rw [lyU_ne (by omega), lyM_ne (by omega) (nrw_rT (by omega)), lyU_ne (by omega), lyU_ne (by omega), lyU_ne (by omega), lyU_ne (by omega), lyU_ne (by omega), lyU_ne (by omega), lyU_ne (by omega), lyU_ne (by omega), lyU_ne (by omega)], by rw [zFm_ne (nrw_rT (by omega)), gxu_cell (by omega), zF_ne (by omega), zF_ne (by omega), zF_ne (by omega), zF_ne (by omega)]⟩, fun k hk => ?_, by rw [zFm_ne (no_rT 8 (by decide)), gxu_at]⟩)
  rcases hk with rfl | rfl | rfl | rfl | rfl | rfl | hk
  · exact lyU_at
  · exact ((lyU_ne (by decide)).trans ((lyM_ne (by decide) (no_rT 9 (by decide))).trans ((lyU_ne (by decide)).trans ((lyU_ne (by decide)).trans ((lyU_ne (by decide)).trans ((lyU_ne (by decide)).trans ((lyU_ne (by decide)).trans ((lyU_ne (by decide)).trans ((lyU_ne (by decide)).trans ((lyU_ne (by decide)).trans lyU_at))))))))))
  · exact ((lyU_ne (by decide)).trans ((lyM_ne (by decide) (no_rT 10 (by decide))).trans ((lyU_ne (by decide)).trans ((lyU_ne (by decide)).trans ((lyU_ne (by decide)).trans ((lyU_ne (by decide)).trans ((lyU_ne (by decide)).trans ((lyU_ne (by decide)).trans lyU_at))))))))
  · exact ((lyU_ne (by decide)).trans ((lyM_ne (by decide) (no_rT 11 (by decide))).trans ((lyU_ne (by decide)).trans ((lyU_ne (by decide)).trans ((lyU_ne (by decide)).trans ((lyU_ne (by decide)).trans lyU_at))))))
  · exact ((lyU_ne (by decide)).trans ((lyM_ne (by decide) (no_rT 12 (by decide))).trans ((lyU_ne (by decide)).trans ((lyU_ne (by decide)).trans lyU_at))))
  · exact ((lyU_ne (by decide)).trans lyM_at)
  · exact ((lyU_ne (by omega)).trans (lyM_row (by omega) (irw_rT hk))).trans (LX_rT hk).symm
set_option maxHeartbeats 4000000 in
theorem n_Se_init (m20 : 20 ∈ ks) (y20 : lay 20 = Sum.inl (7, [some 9999, some 9999, some 9999, none, some 9999, some 9999, some 9999, some 9999, some 9999, some 9999, some 9999, some 9999, none, none, some 9999])) (m1 : 1 ∈ ks) (y1 : lay 1 = LX (2 ^ (3 * w)) 1) (hS : SpOK F w) (f21 : 21 ∉ ks) (a21 : ad 21 = sz + 0) (f22 : 22 ∉ ks) (a22 : ad 22 = sz + 1) (f23 : 23 ∉ ks) (a23 : ad 23 = sz + 2) (f24 : 24 ∉ ks) (a24 : ad 24 = sz + 3) (f25 : 25 ∉ ks) (a25 : ad 25 = sz + 4) (f26 : 26 ∉ ks) (a26 : ad 26 = sz + 5) (f29 : 29 ∉ ks) (a29 : ad 29 = sz + 6) (f27 : 27 ∉ ks) (a27 : ad 27 = sz + 7) (f28 : 28 ∉ ks) (a28 : ad 28 = sz + 8) : ConG l y_Se_init (Cond.code y_Se_init b_Se_init 4 none :: WT) rmG_Se D vcl ca ks (28 :: 27 :: 29 :: 26 :: 25 :: 24 :: 23 :: 22 :: 21 :: ks) lay ad sz [xR 20, xR 1, xR 8, xR 14] F L (fun lay' F' L' => (∀ a, a ≠ 20 → a ≠ 21 → a ≠ 22 → a ≠ 23 → a ≠ 24 → a ≠ 25 → a ≠ 26 → a ≠ 29 → a ≠ 27 → a ≠ 28 → lay' a = lay a ∧ F' a = F a) ∧ (∀ k, k = 20 ∨ k = 21 ∨ k = 22 ∨ k = 23 ∨ k = 24 ∨ k = 25 ∨ k = 26 ∨ k = 29 ∨ k = 27 ∨ k = 28 → lay' k = LX (2 ^ (3 * w)) k) ∧ F' 20 3 = nI 0 ∧ F' 20 13 = -1) := by
  have hN2 := pu_N w (by have := hS.1; omega)
  refine ConG.ofK (fun post K => ?_)
  refine ConG.of (ls := [(0, xR 20), (1, xR 1), (2, xR 8), (3, xR 14)]) (by decide) rfl rfl (Nat.le_of_ble_eq_true rfl) ?_
  intro p e s m args below meth c A hsz hI hN X hr hA
  refine gx_aload_n X d_Se_init_0 rfl rfl ?_
  refine gx_obj X d_Se_init_1 (gcw X lk_Se_3) (gcw X wo_inst) (gcw X wo_code) (Nat.le_of_ble_eq_true rfl) ⟨Nat.le_of_ble_eq_true rfl, Nat.le_of_ble_eq_true rfl⟩ ?_
  refine gx_aload_n X d_Se_init_4 rfl rfl ?_
  refine gx_iconst X d_Se_init_5 (v := nI 0) (by decide) ?_
  refine gx_puti X d_Se_init_6 (gci in_Se) m20 y20 rfl 3 (by decide) (gcw X lk_Se_9) (fun _ h => h) t_Se ty_Se nm_Se rfl (ty_Se 3 (by decide)) rfl rfl rfl ?_
  refine gx_aload_n X d_Se_init_9 rfl rfl ?_
  refine gx_sipush X d_Se_init_10 (v := nI 200) (by decide) ?_
  refine gx_newi X (τ := 0) (n := 200) 21 d_Se_init_13 (gcw X wa_int) rfl (fun h => h) (fun _ => rfl) (by omega) (by show 200 * 4 ≤ 536870912; omega) (Nat.le_of_ble_eq_true rfl) (by show 0 + 200 ≤ (8056 : Nat); omega) f21 (a21.trans (by subst hsz; rfl)) (Or.inl rfl) (fun X => ?_)
  refine gx_putr X d_Se_init_15 (gci in_Se) (List.mem_cons_of_mem _ m20) ((lyU_ne (by decide)).trans y20) rfl 4 (by decide) (gcw X lk_Se_15) (fun _ h => h) t_Se ty_Se nm_Se hI rfl (ty_Se 4 (by decide)) (fun _ => rfl) (fun _ => rfl) (by decide) rfl ?_
  refine gx_aload_n X d_Se_init_18 rfl rfl ?_
  refine gx_sipush X d_Se_init_19 (v := nI 200) (by decide) ?_
  refine gx_newi X (τ := 0) (n := 200) 22 d_Se_init_22 (gcw X wa_int) rfl (fun h => h) (fun _ => rfl) (by omega) (by show 200 * 4 ≤ 536870912; omega) (Nat.le_of_ble_eq_true rfl) (by show 0 + 200 + 200 ≤ (8056 : Nat); omega) (nm_cons (by decide) f22) (a22.trans (by subst hsz; rfl)) (Or.inr ⟨_, List.mem_cons_self, hl_of a21 (by subst hsz; rfl)⟩) (fun X => ?_)
  refine gx_putr X d_Se_init_24 (gci in_Se) (List.mem_cons_of_mem _ (List.mem_cons_of_mem _ m20)) ((lyU_ne (by decide)).trans lyU_at) rfl 5 (by decide) (gcw X lk_Se_19) (fun _ h => h) t_Se ty_Se nm_Se hI rfl (ty_Se 5 (by decide)) (fun _ => rfl) (fun _ => rfl) (by decide) rfl ?_
  refine gx_aload_n X d_Se_init_27 rfl rfl ?_
  refine gx_sipush X d_Se_init_28 (v := nI 200) (by decide) ?_
  refine gx_newi X (τ := 0) (n := 200) 23 d_Se_init_31 (gcw X wa_int) rfl (fun h => h) (fun _ => rfl) (by omega) (by show 200 * 4 ≤ 536870912; omega) (Nat.le_of_ble_eq_true rfl) (by show 0 + 200 + 200 + 200 ≤ (8056 : Nat); omega) (nm_cons (by decide) (nm_cons (by decide) f23)) (a23.trans (by subst hsz; rfl)) (Or.inr ⟨_, List.mem_cons_self, hl_of a22 (by subst hsz; rfl)⟩) (fun X => ?_)
  refine gx_putr X d_Se_init_33 (gci in_Se) (List.mem_cons_of_mem _ (List.mem_cons_of_mem _ (List.mem_cons_of_mem _ m20))) ((lyU_ne (by decide)).trans lyU_at) rfl 6 (by decide) (gcw X lk_Se_22) (fun _ h => h) t_Se ty_Se nm_Se hI rfl (ty_Se 6 (by decide)) (fun _ => rfl) (fun _ => rfl) (by decide) rfl ?_
  refine gx_aload_n X d_Se_init_36 rfl rfl ?_
  refine gx_sipush X d_Se_init_37 (v := nI 200) (by decide) ?_
  refine gx_newi X (τ := 0) (n := 200) 24 d_Se_init_40 (gcw X wa_int) rfl (fun h => h) (fun _ => rfl) (by omega) (by show 200 * 4 ≤ 536870912; omega) (Nat.le_of_ble_eq_true rfl) (by show 0 + 200 + 200 + 200 + 200 ≤ (8056 : Nat); omega) (nm_cons (by decide) (nm_cons (by decide) (nm_cons (by decide) f24))) (a24.trans (by subst hsz; rfl)) (Or.inr ⟨_, List.mem_cons_self, hl_of a23 (by subst hsz; rfl)⟩) (fun X => ?_)
  refine gx_putr X d_Se_init_42 (gci in_Se) (List.mem_cons_of_mem _ (List.mem_cons_of_mem _ (List.mem_cons_of_mem _ (List.mem_cons_of_mem _ m20)))) ((lyU_ne (by decide)).trans lyU_at) rfl 7 (by decide) (gcw X lk_Se_25) (fun _ h => h) t_Se ty_Se nm_Se hI rfl (ty_Se 7 (by decide)) (fun _ => rfl) (fun _ => rfl) (by decide) rfl ?_
  refine gx_aload_n X d_Se_init_45 rfl rfl ?_
  refine gx_sipush X d_Se_init_46 (v := nI 200) (by decide) ?_
  refine gx_newi X (τ := 0) (n := 200) 25 d_Se_init_49 (gcw X wa_int) rfl (fun h => h) (fun _ => rfl) (by omega) (by show 200 * 4 ≤ 536870912; omega) (Nat.le_of_ble_eq_true rfl) (by show 0 + 200 + 200 + 200 + 200 + 200 ≤ (8056 : Nat); omega) (nm_cons (by decide) (nm_cons (by decide) (nm_cons (by decide) (nm_cons (by decide) f25)))) (a25.trans (by subst hsz; rfl)) (Or.inr ⟨_, List.mem_cons_self, hl_of a24 (by subst hsz; rfl)⟩) (fun X => ?_)
  refine gx_putr X d_Se_init_51 (gci in_Se) (List.mem_cons_of_mem _ (List.mem_cons_of_mem _ (List.mem_cons_of_mem _ (List.mem_cons_of_mem _ (List.mem_cons_of_mem _ m20))))) ((lyU_ne (by decide)).trans lyU_at) rfl 8 (by decide) (gcw X lk_Se_28) (fun _ h => h) t_Se ty_Se nm_Se hI rfl (ty_Se 8 (by decide)) (fun _ => rfl) (fun _ => rfl) (by decide) rfl ?_
  refine gx_aload_n X d_Se_init_54 rfl rfl ?_
  refine gx_sipush X d_Se_init_55 (v := nI 200) (by decide) ?_
  refine gx_newi X (τ := 0) (n := 200) 26 d_Se_init_58 (gcw X wa_int) rfl (fun h => h) (fun _ => rfl) (by omega) (by show 200 * 4 ≤ 536870912; omega) (Nat.le_of_ble_eq_true rfl) (by show 0 + 200 + 200 + 200 + 200 + 200 + 200 ≤ (8056 : Nat); omega) (nm_cons (by decide) (nm_cons (by decide) (nm_cons (by decide) (nm_cons (by decide) (nm_cons (by decide) f26))))) (a26.trans (by subst hsz; rfl)) (Or.inr ⟨_, List.mem_cons_self, hl_of a25 (by subst hsz; rfl)⟩) (fun X => ?_)
  refine gx_putr X d_Se_init_60 (gci in_Se) (List.mem_cons_of_mem _ (List.mem_cons_of_mem _ (List.mem_cons_of_mem _ (List.mem_cons_of_mem _ (List.mem_cons_of_mem _ (List.mem_cons_of_mem _ m20)))))) ((lyU_ne (by decide)).trans lyU_at) rfl 9 (by decide) (gcw X lk_Se_31) (fun _ h => h) t_Se ty_Se nm_Se hI rfl (ty_Se 9 (by decide)) (fun _ => rfl) (fun _ => rfl) (by decide) rfl ?_
  refine gx_aload_n X d_Se_init_63 rfl rfl ?_
  refine gx_iconst X d_Se_init_64 (v := nI 0) (by decide) ?_
  refine gx_puti X d_Se_init_65 (gci in_Se) (List.mem_cons_of_mem _ (List.mem_cons_of_mem _ (List.mem_cons_of_mem _ (List.mem_cons_of_mem _ (List.mem_cons_of_mem _ (List.mem_cons_of_mem _ m20)))))) lyU_at rfl 12 (by decide) (gcw X lk_Se_34) (fun _ h => h) t_Se ty_Se nm_Se rfl (ty_Se 12 (by decide)) (by decide) (by decide) rfl ?_
  refine gx_aload_n X d_Se_init_68 rfl rfl ?_
  refine gx_iconst X d_Se_init_69 (v := (-1)) (by decide) ?_
  refine gx_puti X d_Se_init_70 (gci in_Se) (List.mem_cons_of_mem _ (List.mem_cons_of_mem _ (List.mem_cons_of_mem _ (List.mem_cons_of_mem _ (List.mem_cons_of_mem _ (List.mem_cons_of_mem _ m20)))))) lyU_at rfl 13 (by decide) (gcw X lk_Se_38) (fun _ h => h) t_Se ty_Se nm_Se rfl (ty_Se 13 (by decide)) rfl rfl rfl ?_
  refine gx_aload_n X d_Se_init_73 rfl rfl ?_
  refine gx_sipush X d_Se_init_74 (v := nI 200) (by decide) ?_
  refine gx_newi X (τ := 0) (n := 200) 29 d_Se_init_77 (gcw X wa_int) rfl (fun h => h) (fun _ => rfl) (by omega) (by show 200 * 4 ≤ 536870912; omega) (Nat.le_of_ble_eq_true rfl) (by show 0 + 200 + 200 + 200 + 200 + 200 + 200 + 200 ≤ (8056 : Nat); omega) (nm_cons (by decide) (nm_cons (by decide) (nm_cons (by decide) (nm_cons (by decide) (nm_cons (by decide) (nm_cons (by decide) f29)))))) (a29.trans (by subst hsz; rfl)) (Or.inr ⟨_, List.mem_cons_self, hl_of a26 (by subst hsz; rfl)⟩) (fun X => ?_)
  refine gx_putr X d_Se_init_79 (gci in_Se) (List.mem_cons_of_mem _ (List.mem_cons_of_mem _ (List.mem_cons_of_mem _ (List.mem_cons_of_mem _ (List.mem_cons_of_mem _ (List.mem_cons_of_mem _ (List.mem_cons_of_mem _ m20))))))) ((lyU_ne (by decide)).trans lyU_at) rfl 14 (by decide) (gcw X lk_Se_41) (fun _ h => h) t_Se ty_Se nm_Se hI rfl (ty_Se 14 (by decide)) (fun _ => rfl) (fun _ => rfl) (by decide) rfl ?_
  refine gx_aload_n X d_Se_init_82 rfl rfl ?_
  refine gx_aload_n X d_Se_init_83 rfl rfl ?_
  refine gx_putr X d_Se_init_84 (gci in_Se) (List.mem_cons_of_mem _ (List.mem_cons_of_mem _ (List.mem_cons_of_mem _ (List.mem_cons_of_mem _ (List.mem_cons_of_mem _ (List.mem_cons_of_mem _ (List.mem_cons_of_mem _ m20))))))) lyU_at rfl 0 (by decide) (gcw X lk_Se_44) (fun _ h => h) t_Se ty_Se nm_Se hI rfl (ty_Se 0 (by decide)) (fun _ => rfl) (fun _ => rfl) (by decide) rfl ?_
  refine gx_aload_n X d_Se_init_87 rfl rfl ?_
  refine gx_aload_n X d_Se_init_88 rfl rfl ?_
  refine gx_putr X d_Se_init_89 (gci in_Se) (List.mem_cons_of_mem _ (List.mem_cons_of_mem _ (List.mem_cons_of_mem _ (List.mem_cons_of_mem _ (List.mem_cons_of_mem _ (List.mem_cons_of_mem _ (List.mem_cons_of_mem _ m20))))))) lyU_at rfl 1 (by decide) (gcw X lk_Se_48) (fun _ h => h) t_Se ty_Se nm_Se hI rfl (ty_Se 1 (by decide)) (fun _ => rfl) (fun _ => rfl) (by decide) rfl ?_
  refine gx_aload_n X d_Se_init_92 rfl rfl ?_
  refine gx_aload_n X d_Se_init_93 rfl rfl ?_
  refine gx_putr X d_Se_init_94 (gci in_Se) (List.mem_cons_of_mem _ (List.mem_cons_of_mem _ (List.mem_cons_of_mem _ (List.mem_cons_of_mem _ (List.mem_cons_of_mem _ (List.mem_cons_of_mem _ (List.mem_cons_of_mem _ m20))))))) lyU_at rfl 2 (by decide) (gcw X lk_Se_52) (fun _ h => h) t_Se ty_Se nm_Se hI rfl (ty_Se 2 (by decide)) (fun _ => rfl) (fun _ => rfl) (by decide) rfl ?_
  refine gx_aload_n X d_Se_init_97 rfl rfl ?_
  refine gx_bipush X d_Se_init_98 (v := nI 12) (by decide) ?_
  refine gx_aload_n X d_Se_init_100 rfl rfl ?_
  refine gx_geti X d_Se_init_101 (gci in_Sp) (List.mem_cons_of_mem _ (List.mem_cons_of_mem _ (List.mem_cons_of_mem _ (List.mem_cons_of_mem _ (List.mem_cons_of_mem _ (List.mem_cons_of_mem _ (List.mem_cons_of_mem _ m1))))))) ((lyU_ne (by decide)).trans ((lyU_ne (by decide)).trans ((lyU_ne (by decide)).trans ((lyU_ne (by decide)).trans ((lyU_ne (by decide)).trans ((lyU_ne (by decide)).trans ((lyU_ne (by decide)).trans ((lyU_ne (by decide)).trans ((lyU_ne (by decide)).trans ((lyU_ne (by decide)).trans ((lyU_ne (by decide)).trans ((lyU_ne (by decide)).trans ((lyU_ne (by decide)).trans ((lyU_ne (by decide)).trans ((lyU_ne (by decide)).trans ((lyU_ne (by decide)).trans ((lyU_ne (by decide)).trans y1))))))))))))))))) rfl 2 (by decide) (gcw X lk_Se_56) (fun _ h => h) rfl ?_
  refine gx_top (y := nI (2 ^ (3 * w))) (by simp only [gxu, zF, Nat.reduceEqDiff, false_and, and_false, if_false]; exact hS.2.2.2) ?_
  refine gx_imul X d_Se_init_104 ?_
  refine gx_top (y := nI (12 * 2 ^ (3 * w))) (pk_mul 12 (2 ^ (3 * w))) ?_
  refine gx_newi X (τ := 3) (n := (12 * 2 ^ (3 * w))) 27 d_Se_init_105 (gcw X wa_byte) rfl (fun h => h) (fun _ => rfl) (by omega) (by show (12 * 2 ^ (3 * w)) * 1 ≤ 536870912; omega) (Nat.le_of_ble_eq_true rfl) (by show 0 + 200 + 200 + 200 + 200 + 200 + 200 + 200 + (12 * 2 ^ (3 * w)) ≤ (8056 : Nat); omega) (nm_cons (by decide) (nm_cons (by decide) (nm_cons (by decide) (nm_cons (by decide) (nm_cons (by decide) (nm_cons (by decide) (nm_cons (by decide) f27))))))) (a27.trans (by subst hsz; rfl)) (Or.inr ⟨_, List.mem_cons_self, hl_of a29 (by subst hsz; rfl)⟩) (fun X => ?_)
  refine gx_putr X d_Se_init_107 (gci in_Se) (List.mem_cons_of_mem _ (List.mem_cons_of_mem _ (List.mem_cons_of_mem _ (List.mem_cons_of_mem _ (List.mem_cons_of_mem _ (List.mem_cons_of_mem _ (List.mem_cons_of_mem _ (List.mem_cons_of_mem _ m20)))))))) ((lyU_ne (by decide)).trans lyU_at) rfl 10 (by decide) (gcw X lk_Se_61) (fun _ h => h) t_Se ty_Se nm_Se hI rfl (ty_Se 10 (by decide)) (fun _ => rfl) (fun _ => rfl) (by decide) rfl ?_
  refine gx_aload_n X d_Se_init_110 rfl rfl ?_
  refine gx_aload_n X d_Se_init_111 rfl rfl ?_
  refine gx_geti X d_Se_init_112 (gci in_Sp) (List.mem_cons_of_mem _ (List.mem_cons_of_mem _ (List.mem_cons_of_mem _ (List.mem_cons_of_mem _ (List.mem_cons_of_mem _ (List.mem_cons_of_mem _ (List.mem_cons_of_mem _ (List.mem_cons_of_mem _ m1)))))))) ((lyU_ne (by decide)).trans ((lyU_ne (by decide)).trans ((lyU_ne (by decide)).trans ((lyU_ne (by decide)).trans ((lyU_ne (by decide)).trans ((lyU_ne (by decide)).trans ((lyU_ne (by decide)).trans ((lyU_ne (by decide)).trans ((lyU_ne (by decide)).trans ((lyU_ne (by decide)).trans ((lyU_ne (by decide)).trans ((lyU_ne (by decide)).trans ((lyU_ne (by decide)).trans ((lyU_ne (by decide)).trans ((lyU_ne (by decide)).trans ((lyU_ne (by decide)).trans ((lyU_ne (by decide)).trans ((lyU_ne (by decide)).trans ((lyU_ne (by decide)).trans y1))))))))))))))))))) rfl 2 (by decide) (gcw X lk_Se_56) (fun _ h => h) rfl ?_
  refine gx_top (y := nI (2 ^ (3 * w))) (by simp only [gxu, zF, Nat.reduceEqDiff, false_and, and_false, if_false]; exact hS.2.2.2) ?_
  refine gx_newi X (τ := 3) (n := (2 ^ (3 * w))) 28 d_Se_init_115 (gcw X wa_byte) rfl (fun h => h) (fun _ => rfl) (by omega) (by show (2 ^ (3 * w)) * 1 ≤ 536870912; omega) (Nat.le_of_ble_eq_true rfl) (by show 0 + 200 + 200 + 200 + 200 + 200 + 200 + 200 + (12 * 2 ^ (3 * w)) + (2 ^ (3 * w)) ≤ (8056 : Nat); omega) (nm_cons (by decide) (nm_cons (by decide) (nm_cons (by decide) (nm_cons (by decide) (nm_cons (by decide) (nm_cons (by decide) (nm_cons (by decide) (nm_cons (by decide) f28)))))))) (a28.trans (by subst hsz; rfl)) (Or.inr ⟨_, List.mem_cons_self, hl_of a27 (by subst hsz; rfl)⟩) (fun X => ?_)
  refine gx_putr X d_Se_init_117 (gci in_Se) (List.mem_cons_of_mem _ (List.mem_cons_of_mem _ (List.mem_cons_of_mem _ (List.mem_cons_of_mem _ (List.mem_cons_of_mem _ (List.mem_cons_of_mem _ (List.mem_cons_of_mem _ (List.mem_cons_of_mem _ (List.mem_cons_of_mem _ m20))))))))) ((lyU_ne (by decide)).trans lyU_at) rfl 11 (by decide) (gcw X lk_Se_65) (fun _ h => h) t_Se ty_Se nm_Se hI rfl (ty_Se 11 (by decide)) (fun _ => rfl) (fun _ => rfl) (by decide) rfl ?_
  refine gx_vretG X hr hsz hA ⟨Nat.le_of_ble_eq_true rfl, by show 0 + 200 + 200 + 200 + 200 + 200 + 200 + 200 + (12 * 2 ^ (3 * w)) + (2 ^ (3 * w)) ≤ (8056 : Nat); omega⟩ d_Se_init_120 (K _ _ _ ⟨fun a h0 h1 h2 h3 h4 h5 h6 h7 h8 h9 => ⟨by rw [lyU_ne (by omega), lyU_ne (by omega), lyU_ne (by omega), lyU_ne (by omega), lyU_ne (by omega), lyU_ne (by omega), lyU_ne (by omega), lyU_ne (by omega), lyU_ne (by omega), lyU_ne (by omega), lyU_ne (by omega), lyU_ne (by omega), lyU_ne (by omega), lyU_ne (by omega), lyU_ne (by omega), lyU_ne (by omega), lyU_ne (by omega), lyU_ne (by omega), lyU_ne (by omega), lyU_ne (by omega), lyU_ne (by omega)], by funext b; simp only [gxu, zF, h0, h1, h2, h3, h4, h5, h6, h7, h8, h9, false_and, if_false]⟩, fun k hk => ?_, by simp [gxu, zF], by simp [gxu, zF]⟩)
  rcases hk with rfl | rfl | rfl | rfl | rfl | rfl | rfl | rfl | rfl | rfl
  · exact lyU_at
  · exact ((lyU_ne (by decide)).trans ((lyU_ne (by decide)).trans ((lyU_ne (by decide)).trans ((lyU_ne (by decide)).trans ((lyU_ne (by decide)).trans ((lyU_ne (by decide)).trans ((lyU_ne (by decide)).trans ((lyU_ne (by decide)).trans ((lyU_ne (by decide)).trans ((lyU_ne (by decide)).trans ((lyU_ne (by decide)).trans ((lyU_ne (by decide)).trans ((lyU_ne (by decide)).trans ((lyU_ne (by decide)).trans ((lyU_ne (by decide)).trans ((lyU_ne (by decide)).trans ((lyU_ne (by decide)).trans ((lyU_ne (by decide)).trans ((lyU_ne (by decide)).trans ((lyU_ne (by decide)).trans lyU_at))))))))))))))))))))
  · exact ((lyU_ne (by decide)).trans ((lyU_ne (by decide)).trans ((lyU_ne (by decide)).trans ((lyU_ne (by decide)).trans ((lyU_ne (by decide)).trans ((lyU_ne (by decide)).trans ((lyU_ne (by decide)).trans ((lyU_ne (by decide)).trans ((lyU_ne (by decide)).trans ((lyU_ne (by decide)).trans ((lyU_ne (by decide)).trans ((lyU_ne (by decide)).trans ((lyU_ne (by decide)).trans ((lyU_ne (by decide)).trans ((lyU_ne (by decide)).trans ((lyU_ne (by decide)).trans ((lyU_ne (by decide)).trans ((lyU_ne (by decide)).trans lyU_at))))))))))))))))))
  · exact ((lyU_ne (by decide)).trans ((lyU_ne (by decide)).trans ((lyU_ne (by decide)).trans ((lyU_ne (by decide)).trans ((lyU_ne (by decide)).trans ((lyU_ne (by decide)).trans ((lyU_ne (by decide)).trans ((lyU_ne (by decide)).trans ((lyU_ne (by decide)).trans ((lyU_ne (by decide)).trans ((lyU_ne (by decide)).trans ((lyU_ne (by decide)).trans ((lyU_ne (by decide)).trans ((lyU_ne (by decide)).trans ((lyU_ne (by decide)).trans ((lyU_ne (by decide)).trans lyU_at))))))))))))))))
  · exact ((lyU_ne (by decide)).trans ((lyU_ne (by decide)).trans ((lyU_ne (by decide)).trans ((lyU_ne (by decide)).trans ((lyU_ne (by decide)).trans ((lyU_ne (by decide)).trans ((lyU_ne (by decide)).trans ((lyU_ne (by decide)).trans ((lyU_ne (by decide)).trans ((lyU_ne (by decide)).trans ((lyU_ne (by decide)).trans ((lyU_ne (by decide)).trans ((lyU_ne (by decide)).trans ((lyU_ne (by decide)).trans lyU_at))))))))))))))
  · exact ((lyU_ne (by decide)).trans ((lyU_ne (by decide)).trans ((lyU_ne (by decide)).trans ((lyU_ne (by decide)).trans ((lyU_ne (by decide)).trans ((lyU_ne (by decide)).trans ((lyU_ne (by decide)).trans ((lyU_ne (by decide)).trans ((lyU_ne (by decide)).trans ((lyU_ne (by decide)).trans ((lyU_ne (by decide)).trans ((lyU_ne (by decide)).trans lyU_at))))))))))))
  · exact ((lyU_ne (by decide)).trans ((lyU_ne (by decide)).trans ((lyU_ne (by decide)).trans ((lyU_ne (by decide)).trans ((lyU_ne (by decide)).trans ((lyU_ne (by decide)).trans ((lyU_ne (by decide)).trans ((lyU_ne (by decide)).trans ((lyU_ne (by decide)).trans ((lyU_ne (by decide)).trans lyU_at))))))))))
  · exact ((lyU_ne (by decide)).trans ((lyU_ne (by decide)).trans ((lyU_ne (by decide)).trans ((lyU_ne (by decide)).trans ((lyU_ne (by decide)).trans ((lyU_ne (by decide)).trans ((lyU_ne (by decide)).trans ((lyU_ne (by decide)).trans lyU_at))))))))
  · exact ((lyU_ne (by decide)).trans ((lyU_ne (by decide)).trans ((lyU_ne (by decide)).trans lyU_at)))
  · exact ((lyU_ne (by decide)).trans lyU_at)
set_option maxHeartbeats 4000000 in
theorem n_Re_init (m30 : 30 ∈ ks) (y30 : lay 30 = Sum.inl (8, [some 9999, some 9999, some 9999, some 9999, some 9999, none])) (m1 : 1 ∈ ks) (y1 : lay 1 = LX (2 ^ (3 * w)) 1) (hS : SpOK F w) (f32 : 32 ∉ ks) (a32 : ad 32 = sz + 0) (f31 : 31 ∉ ks) (a31 : ad 31 = sz + 1) (fr_rO : ∀ a ∈ rwL rO 200 0, a ∉ ks) (ar_rO : ∀ j, j < 200 → ad (rO j) = sz + 1 + 1 + j) : ConG l y_Re_init (Cond.code y_Re_init b_Re_init 4 none :: WT) rmG_Re D vcl ca ks (31 :: (rwL rO 200 0 ++ (32 :: ks))) lay ad sz [xR 30, xR 1, xR 8, xR 20] F L (fun lay' F' L' => (∀ a, a ≠ 30 → a ≠ 32 → a ≠ 31 → ¬ (200 ≤ a ∧ a < 400) → lay' a = lay a ∧ F' a = F a) ∧ (∀ k, k = 30 ∨ k = 32 ∨ k = 31 ∨ (200 ≤ k ∧ k < 400) → lay' k = LX (2 ^ (3 * w)) k) ∧ F' 30 5 = nI 0) := by
  have hN2 := pu_N w (by have := hS.1; omega)
  refine ConG.ofK (fun post K => ?_)
  refine ConG.of (ls := [(0, xR 30), (1, xR 1), (2, xR 8), (3, xR 20)]) (by decide) rfl rfl (Nat.le_of_ble_eq_true rfl) ?_
  intro p e s m args below meth c A hsz hI hN X hr hA
  refine gx_aload_n X d_Re_init_0 rfl rfl ?_
  refine gx_obj X d_Re_init_1 (gcw X lk_Re_3) (gcw X wo_inst) (gcw X wo_code) (Nat.le_of_ble_eq_true rfl) ⟨Nat.le_of_ble_eq_true rfl, Nat.le_of_ble_eq_true rfl⟩ ?_
  refine gx_aload_n X d_Re_init_4 rfl rfl ?_
  refine gx_sipush X d_Re_init_5 (v := nI 200) (by decide) ?_
  refine gx_newi X (τ := 0) (n := 200) 32 d_Re_init_8 (gcw X wa_int) rfl (fun h => h) (fun _ => rfl) (by omega) (by show 200 * 4 ≤ 536870912; omega) (Nat.le_of_ble_eq_true rfl) (by show 0 + 200 ≤ (2000 : Nat); omega) f32 (a32.trans (by subst hsz; rfl)) (Or.inl rfl) (fun X => ?_)
  refine gx_putr X d_Re_init_10 (gci in_Re) (List.mem_cons_of_mem _ m30) ((lyU_ne (by decide)).trans y30) rfl 4 (by decide) (gcw X lk_Re_9) (fun _ h => h) t_Re ty_Re nm_Re hI rfl (ty_Re 4 (by decide)) (fun _ => rfl) (fun _ => rfl) (by decide) rfl ?_
  refine gx_aload_n X d_Re_init_13 rfl rfl ?_
  refine gx_iconst X d_Re_init_14 (v := nI 0) (by decide) ?_
  refine gx_puti X d_Re_init_15 (gci in_Re) (List.mem_cons_of_mem _ m30) lyU_at rfl 5 (by decide) (gcw X lk_Re_15) (fun _ h => h) t_Re ty_Re nm_Re rfl (ty_Re 5 (by decide)) rfl rfl rfl ?_
  refine gx_aload_n X d_Re_init_18 rfl rfl ?_
  refine gx_aload_n X d_Re_init_19 rfl rfl ?_
  refine gx_putr X d_Re_init_20 (gci in_Re) (List.mem_cons_of_mem _ m30) lyU_at rfl 0 (by decide) (gcw X lk_Re_19) (fun _ h => h) t_Re ty_Re nm_Re hI rfl (ty_Re 0 (by decide)) (fun _ => rfl) (fun _ => rfl) (by decide) rfl ?_
  refine gx_aload_n X d_Re_init_23 rfl rfl ?_
  refine gx_aload_n X d_Re_init_24 rfl rfl ?_
  refine gx_putr X d_Re_init_25 (gci in_Re) (List.mem_cons_of_mem _ m30) lyU_at rfl 1 (by decide) (gcw X lk_Re_23) (fun _ h => h) t_Re ty_Re nm_Re hI rfl (ty_Re 1 (by decide)) (fun _ => rfl) (fun _ => rfl) (by decide) rfl ?_
  refine gx_aload_n X d_Re_init_28 rfl rfl ?_
  refine gx_aload_n X d_Re_init_29 rfl rfl ?_
  refine gx_putr X d_Re_init_30 (gci in_Re) (List.mem_cons_of_mem _ m30) lyU_at rfl 2 (by decide) (gcw X lk_Re_27) (fun _ h => h) t_Re ty_Re nm_Re hI rfl (ty_Re 2 (by decide)) (fun _ => rfl) (fun _ => rfl) (by decide) rfl ?_
  refine gx_aload_n X d_Re_init_33 rfl rfl ?_
  refine gx_sipush X d_Re_init_34 (v := nI 200) (by decide) ?_
  refine gx_aload_n X d_Re_init_37 rfl rfl ?_
  refine gx_geti X d_Re_init_38 (gci in_Sp) (List.mem_cons_of_mem _ m1) ((lyU_ne (by decide)).trans ((lyU_ne (by decide)).trans ((lyU_ne (by decide)).trans ((lyU_ne (by decide)).trans ((lyU_ne (by decide)).trans y1))))) rfl 2 (by decide) (gcw X lk_Re_31) (fun _ h => h) rfl ?_
  refine gx_top (y := nI (2 ^ (3 * w))) (by simp only [gxu, zF, Nat.reduceEqDiff, false_and, and_false, if_false]; exact hS.2.2.2) ?_
  refine gx_bipush X d_Re_init_41 (v := nI 63) (by decide) ?_
  refine gx_iadd X d_Re_init_43 ?_
  refine gx_top (nI_add (2 ^ (3 * w)) 63) ?_
  refine gx_bipush X d_Re_init_44 (v := nI 64) (by decide) ?_
  refine gx_idiv X d_Re_init_46 (by decide) ?_
  refine gx_top (y := nI ((2 ^ (3 * w) + 63) / 64)) (pk_div (by omega) (by decide) (by decide)) ?_
  refine gx_mna X (ty := .long) (n := 200) (M := (2 ^ (3 * w) + 63) / 64) (τo := 6) (τ := 1) (er := Sum.inr (Sum.inr (Sum.inl ((2 ^ (3 * w) + 63) / 64)))) (arr := ((2 ^ (3 * w) + 63) / 64, .inr (.inl (fun _ => 0)))) 31 rO _ (zLm _ rO 200) d_Re_init_47 (by rw [str_long]; exact gcw X wc_Re_36) (hN.2.1 _) (gcw X wa_long) rfl rfl (fun h => h) (fun h => h) rfl rfl (by omega) (by omega) (by show ((2 ^ (3 * w) + 63) / 64) * 8 ≤ 536870912; omega) (Nat.le_of_ble_eq_true rfl) (by show 0 + 200 + (200 + 200 * ((2 ^ (3 * w) + 63) / 64)) ≤ (2000 : Nat); omega) (fun j hj => by unfold gxc; rw [zLm_at (rwL_mem.mpr ⟨j, Nat.zero_le _, by omega, rfl⟩)]) rfl (fun _ _ => rfl) (fun a ha => zLm_ne ha) (nm_cons (by decide) f31) (no_rO 31 (by decide)) (nr_cons (no_rO 32 (by decide)) fr_rO) (a31.trans (by subst hsz; rfl)) (fun j hj => (ar_rO j hj).trans (by subst hsz; rfl)) (Or.inr ⟨_, List.mem_cons_self, hl_of a32 (by subst hsz; rfl)⟩) (fun X => ?_)
  refine gx_putr X d_Re_init_51 (gci in_Re) (List.mem_cons_of_mem _ (List.mem_append_right _ (List.mem_cons_of_mem _ m30))) ((lyM_ne (by decide) (no_rO 30 (by decide))).trans lyU_at) rfl 3 (by decide) (gcw X lk_Re_38) (fun _ h => h) t_Re ty_Re nm_Re hI rfl (ty_Re 3 (by decide)) (fun _ => rfl) (fun _ => rfl) (by decide) rfl ?_
  refine gx_vretG X hr hsz hA ⟨Nat.le_of_ble_eq_true rfl, by show 0 + 200 + 200 + 200 * ((2 ^ (3 * w) + 63) / 64) ≤ (2000 : Nat); omega⟩ d_Re_init_54 (K _ _ _ ⟨fun a h0 h1 h2 h3 => ⟨by rw [lyU_ne (by omega), lyM_ne (by omega) (nrw_rO (by omega)), lyU_ne (by omega), lyU_ne (by omega), lyU_ne (by omega), lyU_ne (by omega), lyU_ne (by omega)], by rw [gxu_cell (by omega), zF_ne (by omega)]⟩, fun k hk => ?_, gxu_at⟩)
  rcases hk with rfl | rfl | rfl | hk
  · exact lyU_at
  · exact ((lyU_ne (by decide)).trans ((lyM_ne (by decide) (no_rO 32 (by decide))).trans ((lyU_ne (by decide)).trans ((lyU_ne (by decide)).trans ((lyU_ne (by decide)).trans ((lyU_ne (by decide)).trans lyU_at))))))
  · exact ((lyU_ne (by decide)).trans lyM_at)
  · exact ((lyU_ne (by omega)).trans (lyM_row (by omega) (irw_rO hk))).trans (LX_rO hk).symm
set_option maxHeartbeats 4000000 in
theorem n_Rf_init (m33 : 33 ∈ ks) (y33 : lay 33 = Sum.inl (9, [some 9999, some 9999, some 9999, some 9999, some 9999, some 9999, none])) (m1 : 1 ∈ ks) (y1 : lay 1 = LX (2 ^ (3 * w)) 1) (hS : SpOK F w) (f34 : 34 ∉ ks) (a34 : ad 34 = sz + 0) (fr_rK : ∀ a ∈ rwL rK 4 0, a ∉ ks) (ar_rK : ∀ j, j < 4 → ad (rK j) = sz + 0 + 1 + j) (f35 : 35 ∉ ks) (a35 : ad 35 = sz + 5) : ConG l y_Rf_init (Cond.code y_Rf_init b_Rf_init 5 none :: WT) rmG_Rf D vcl ca ks (35 :: 34 :: (rwL rK 4 0 ++ ks)) lay ad sz [xR 33, xR 1, xR 8, xR 14, xR 20] F L (fun lay' F' L' => (∀ a, a ≠ 33 → a ≠ 34 → a ≠ 35 → ¬ (400 ≤ a ∧ a < 404) → lay' a = lay a ∧ F' a = F a) ∧ (∀ k, k = 33 ∨ k = 34 ∨ k = 35 ∨ (400 ≤ k ∧ k < 404) → lay' k = LX (2 ^ (3 * w)) k)) := by
  have hN2 := pu_N w (by have := hS.1; omega)
  refine ConG.ofK (fun post K => ?_)
  refine ConG.of (ls := [(0, xR 33), (1, xR 1), (2, xR 8), (3, xR 14), (4, xR 20)]) (by decide) rfl rfl (Nat.le_of_ble_eq_true rfl) ?_
  intro p e s m args below meth c A hsz hI hN X hr hA
  refine gx_aload_n X d_Rf_init_0 rfl rfl ?_
  refine gx_obj X d_Rf_init_1 (gcw X lk_Rf_3) (gcw X wo_inst) (gcw X wo_code) (Nat.le_of_ble_eq_true rfl) ⟨Nat.le_of_ble_eq_true rfl, Nat.le_of_ble_eq_true rfl⟩ ?_
  refine gx_aload_n X d_Rf_init_4 rfl rfl ?_
  refine gx_iconst X d_Rf_init_5 (v := nI 0) (by decide) ?_
  refine gx_puti X d_Rf_init_6 (gci in_Rf) m33 y33 rfl 6 (by decide) (gcw X lk_Rf_9) (fun _ h => h) t_Rf ty_Rf nm_Rf rfl (ty_Rf 6 (by decide)) rfl rfl rfl ?_
  refine gx_aload_n X d_Rf_init_9 rfl rfl ?_
  refine gx_aload_n X d_Rf_init_10 rfl rfl ?_
  refine gx_putr X d_Rf_init_11 (gci in_Rf) m33 y33 rfl 0 (by decide) (gcw X lk_Rf_15) (fun _ h => h) t_Rf ty_Rf nm_Rf hI rfl (ty_Rf 0 (by decide)) (fun _ => rfl) (fun _ => rfl) (by decide) rfl ?_
  refine gx_aload_n X d_Rf_init_14 rfl rfl ?_
  refine gx_aload_n X d_Rf_init_15 rfl rfl ?_
  refine gx_putr X d_Rf_init_16 (gci in_Rf) m33 lyU_at rfl 1 (by decide) (gcw X lk_Rf_19) (fun _ h => h) t_Rf ty_Rf nm_Rf hI rfl (ty_Rf 1 (by decide)) (fun _ => rfl) (fun _ => rfl) (by decide) rfl ?_
  refine gx_aload_n X d_Rf_init_19 rfl rfl ?_
  refine gx_aload_n X d_Rf_init_20 rfl rfl ?_
  refine gx_putr X d_Rf_init_21 (gci in_Rf) m33 lyU_at rfl 2 (by decide) (gcw X lk_Rf_23) (fun _ h => h) t_Rf ty_Rf nm_Rf hI rfl (ty_Rf 2 (by decide)) (fun _ => rfl) (fun _ => rfl) (by decide) rfl ?_
  refine gx_aload_n X d_Rf_init_24 rfl rfl ?_
  refine gx_aload X d_Rf_init_25 rfl ?_
  refine gx_putr X d_Rf_init_27 (gci in_Rf) m33 lyU_at rfl 3 (by decide) (gcw X lk_Rf_27) (fun _ h => h) t_Rf ty_Rf nm_Rf hI rfl (ty_Rf 3 (by decide)) (fun _ => rfl) (fun _ => rfl) (by decide) rfl ?_
  refine gx_aload_n X d_Rf_init_30 rfl rfl ?_
  refine gx_iconst X d_Rf_init_31 (v := nI 4) (by decide) ?_
  refine gx_aload_n X d_Rf_init_32 rfl rfl ?_
  refine gx_geti X d_Rf_init_33 (gci in_Sp) m1 ((lyU_ne (by decide)).trans ((lyU_ne (by decide)).trans ((lyU_ne (by decide)).trans ((lyU_ne (by decide)).trans y1)))) rfl 2 (by decide) (gcw X lk_Rf_31) (fun _ h => h) rfl ?_
  refine gx_top (y := nI (2 ^ (3 * w))) (by simp only [gxu, zF, Nat.reduceEqDiff, false_and, and_false, if_false]; exact hS.2.2.2) ?_
  refine gx_mna X (ty := .long) (n := 4) (M := 2 ^ (3 * w)) (τo := 6) (τ := 1) (er := Sum.inr (Sum.inr (Sum.inl (2 ^ (3 * w))))) (arr := (2 ^ (3 * w), .inr (.inl (fun _ => 0)))) 34 rK _ (zLm _ rK 4) d_Rf_init_36 (by rw [str_long]; exact gcw X wc_Rf_36) (hN.2.1 _) (gcw X wa_long) rfl rfl (fun h => h) (fun h => h) rfl rfl (by omega) (by omega) (by show (2 ^ (3 * w)) * 8 ≤ 536870912; omega) (Nat.le_of_ble_eq_true rfl) (by show 0 + (4 + 4 * (2 ^ (3 * w))) ≤ (2564 : Nat); omega) (fun j hj => by unfold gxc; rw [zLm_at (rwL_mem.mpr ⟨j, Nat.zero_le _, by omega, rfl⟩)]) rfl (fun _ _ => rfl) (fun a ha => zLm_ne ha) f34 (no_rK 34 (by decide)) fr_rK (a34.trans (by subst hsz; rfl)) (fun j hj => (ar_rK j hj).trans (by subst hsz; rfl)) (Or.inl rfl) (fun X => ?_)
  refine gx_putr X d_Rf_init_40 (gci in_Rf) (List.mem_cons_of_mem _ (List.mem_append_right _ m33)) ((lyM_ne (by decide) (no_rK 33 (by decide))).trans lyU_at) rfl 4 (by decide) (gcw X lk_Rf_38) (fun _ h => h) t_Rf ty_Rf nm_Rf hI rfl (ty_Rf 4 (by decide)) (fun _ => rfl) (fun _ => rfl) (by decide) rfl ?_
  refine gx_aload_n X d_Rf_init_43 rfl rfl ?_
  refine gx_aload_n X d_Rf_init_44 rfl rfl ?_
  refine gx_geti X d_Rf_init_45 (gci in_Sp) (List.mem_cons_of_mem _ (List.mem_append_right _ m1)) ((lyU_ne (by decide)).trans ((lyM_ne (by decide) (no_rK 1 (by decide))).trans ((lyU_ne (by decide)).trans ((lyU_ne (by decide)).trans ((lyU_ne (by decide)).trans ((lyU_ne (by decide)).trans y1)))))) rfl 2 (by decide) (gcw X lk_Rf_31) (fun _ h => h) rfl ?_
  refine gx_top (y := nI (2 ^ (3 * w))) (by simp only [gxu, zF, Nat.reduceEqDiff, false_and, and_false, if_false]; exact hS.2.2.2) ?_
  refine gx_newl X (n := (2 ^ (3 * w))) 35 d_Rf_init_48 (gcw X wa_long) rfl (fun h => h) (fun _ => rfl) (by omega) (by show (2 ^ (3 * w)) * 8 ≤ 536870912; omega) (Nat.le_of_ble_eq_true rfl) (by show 0 + 4 + 4 * (2 ^ (3 * w)) + (2 ^ (3 * w)) ≤ (2564 : Nat); omega) (nm_cons (by decide) (nm_app (no_rK 35 (by decide)) f35)) (a35.trans (by subst hsz; rfl)) (Or.inr ⟨_, (List.mem_cons_of_mem _ (List.mem_append_left _ (rwL_mem.mpr ⟨3, Nat.zero_le _, by decide, rfl⟩))), hl_of (ar_rK 3 (by decide)) (by subst hsz; rfl)⟩) (fun X => ?_)
  refine gx_putr X d_Rf_init_50 (gci in_Rf) (List.mem_cons_of_mem _ (List.mem_cons_of_mem _ (List.mem_append_right _ m33))) ((lyU_ne (by decide)).trans lyU_at) rfl 5 (by decide) (gcw X lk_Rf_41) (fun _ h => h) t_Rf ty_Rf nm_Rf hI rfl (ty_Rf 5 (by decide)) (fun _ => rfl) (fun _ => rfl) (by decide) rfl ?_
  refine gx_vretG X hr hsz hA ⟨Nat.le_of_ble_eq_true rfl, by show 0 + 4 + 4 * (2 ^ (3 * w)) + (2 ^ (3 * w)) ≤ (2564 : Nat); omega⟩ d_Rf_init_53 (K _ _ _ ⟨fun a h0 h1 h2 h3 => ⟨by rw [lyU_ne (by omega), lyU_ne (by omega), lyU_ne (by omega), lyM_ne (by omega) (nrw_rK (by omega)), lyU_ne (by omega), lyU_ne (by omega), lyU_ne (by omega), lyU_ne (by omega)], by rw [gxu_cell (by omega)]⟩, fun k hk => ?_⟩)
  rcases hk with rfl | rfl | rfl | hk
  · exact lyU_at
  · exact ((lyU_ne (by decide)).trans ((lyU_ne (by decide)).trans ((lyU_ne (by decide)).trans lyM_at)))
  · exact ((lyU_ne (by decide)).trans lyU_at)
  · exact ((lyU_ne (by omega)).trans ((lyU_ne (by omega)).trans ((lyU_ne (by omega)).trans (lyM_row (by omega) (irw_rK hk))))).trans (LX_rK hk).symm
end
