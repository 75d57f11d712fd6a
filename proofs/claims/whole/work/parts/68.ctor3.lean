/-! the constructor of Groups (own text, printed by gen_ctor3.py) -/
theorem sG_cases {k : Nat} (h : sG k = true) : k = 1 ∨ k = 14 ∨ k = 15 ∨ k = 16 ∨ k = 17 ∨ k = 18 ∨ k = 19 := by
  simp [sG] at h
  omega
section
variable {l : Launch} {D : va_G} {ca : Nat → ClassId} {ks : List Nat} {lay : Nat → gxE} {ad : Nat → Nat} {sz : Nat} {F : Nat → Nat → Int32} {L : Nat → Nat → Int64} {w : Nat}
set_option maxHeartbeats 4000000 in
theorem n_Gr_init (m14 : 14 ∈ ks) (y14 : lay 14 = Sum.inl (6, [some 9999, none, some 9999, none, some 9999, some 9999, some 9999, some 9999])) (m1 : 1 ∈ ks) (y1 : lay 1 = LX (2 ^ (3 * w)) 1) (hS : SpOK F w) (f19 : 19 ∉ ks) (a19 : ad 19 = sz + 0) (f15 : 15 ∉ ks) (a15 : ad 15 = sz + 1) (f16 : 16 ∉ ks) (a16 : ad 16 = sz + 2) (f17 : 17 ∉ ks) (a17 : ad 17 = sz + 3) (f18 : 18 ∉ ks) (a18 : ad 18 = sz + 4) : ConG l y_Gr_init (Cond.code y_Gr_init b_Gr_init 2 none :: WT) rmG_Gr D vcl ca ks (18 :: 17 :: 16 :: 15 :: 19 :: ks) lay ad sz [xR 14, xR 1] F L (fun lay' F' L' => (∀ a, ¬ (14 ≤ a ∧ a ≤ 19) → lay' a = lay a ∧ F' a = F a) ∧ (∀ k, (14 ≤ k ∧ k ≤ 19) → lay' k = LX (2 ^ (3 * w)) k) ∧ GrOK F' (2 ^ (3 * w)) 0 (fun _ => 0)) := by
  have hN2 := pu_N w (by have := hS.1; omega)
  refine ConG.ofK (fun post K => ?_)
  refine ConG.of (ls := [(0, xR 14), (1, xR 1)]) (by decide) rfl rfl (Nat.le_of_ble_eq_true rfl) ?_
  intro p e s m args below meth c A hsz hI hN X hr hA
  refine gx_aload_n X d_Gr_init_0 rfl rfl ?_
  refine gx_obj X d_Gr_init_1 (gcw X lk_Gr_3) (gcw X wo_inst) (gcw X wo_code) (Nat.le_of_ble_eq_true rfl) ⟨Nat.le_of_ble_eq_true rfl, Nat.le_of_ble_eq_true rfl⟩ ?_
  refine gx_aload_n X d_Gr_init_4 rfl rfl ?_
  refine gx_iconst X d_Gr_init_5 (v := nI 0) (by decide) ?_
  refine gx_puti X d_Gr_init_6 (gci in_Gr) m14 y14 rfl 1 (by decide) (gcw X lk_Gr_9) (fun _ h => h) t_Gr ty_Gr nm_Gr rfl (ty_Gr 1 (by decide)) rfl rfl rfl ?_
  refine gx_aload_n X d_Gr_init_9 rfl rfl ?_
  refine gx_iconst X d_Gr_init_10 (v := nI 0) (by decide) ?_
  refine gx_puti X d_Gr_init_11 (gci in_Gr) m14 y14 rfl 3 (by decide) (gcw X lk_Gr_15) (fun _ h => h) t_Gr ty_Gr nm_Gr rfl (ty_Gr 3 (by decide)) rfl rfl rfl ?_
  refine gx_aload_n X d_Gr_init_14 rfl rfl ?_
  refine gx_sipush X d_Gr_init_15 (v := nI 4096) (by decide) ?_
  refine gx_newi X (τ := 0) (n := 4096) 19 d_Gr_init_18 (gcw X wa_int) rfl (fun h => h) (fun _ => rfl) (by omega) (by show 4096 * 4 ≤ 536870912; omega) (Nat.le_of_ble_eq_true rfl) (by show 0 + 4096 ≤ (6145 : Nat); omega) f19 (a19.trans (by subst hsz; rfl)) (Or.inl rfl) (fun X => ?_)
  refine gx_putr X d_Gr_init_20 (gci in_Gr) (List.mem_cons_of_mem _ m14) ((lyU_ne (by decide)).trans y14) rfl 7 (by decide) (gcw X lk_Gr_18) (fun _ h => h) t_Gr ty_Gr nm_Gr hI rfl (ty_Gr 7 (by decide)) (fun _ => rfl) (fun _ => rfl) (by decide) rfl ?_
  refine gx_aload_n X d_Gr_init_23 rfl rfl ?_
  refine gx_aload_n X d_Gr_init_24 rfl rfl ?_
  refine gx_putr X d_Gr_init_25 (gci in_Gr) (List.mem_cons_of_mem _ m14) lyU_at rfl 0 (by decide) (gcw X lk_Gr_22) (fun _ h => h) t_Gr ty_Gr nm_Gr hI rfl (ty_Gr 0 (by decide)) (fun _ => rfl) (fun _ => rfl) (by decide) rfl ?_
  refine gx_aload_n X d_Gr_init_28 rfl rfl ?_
  refine gx_aload_n X d_Gr_init_29 rfl rfl ?_
  refine gx_geti X d_Gr_init_30 (gci in_Sp) (List.mem_cons_of_mem _ m1) ((lyU_ne (by decide)).trans ((lyU_ne (by decide)).trans ((lyU_ne (by decide)).trans y1))) rfl 2 (by decide) (gcw X lk_Gr_26) (fun _ h => h) rfl ?_
  refine gx_top (y := nI (2 ^ (3 * w))) (by simp only [gxu, zF, Nat.reduceEqDiff, false_and, and_false, if_false]; exact hS.2.2.2) ?_
  refine gx_newi X (τ := 0) (n := (2 ^ (3 * w))) 15 d_Gr_init_33 (gcw X wa_int) rfl (fun h => h) (fun _ => rfl) (by omega) (by show (2 ^ (3 * w)) * 4 ≤ 536870912; omega) (Nat.le_of_ble_eq_true rfl) (by show 0 + 4096 + (2 ^ (3 * w)) ≤ (6145 : Nat); omega) (nm_cons (by decide) f15) (a15.trans (by subst hsz; rfl)) (Or.inr ⟨_, List.mem_cons_self, hl_of a19 (by subst hsz; rfl)⟩) (fun X => ?_)
  refine gx_putr X d_Gr_init_35 (gci in_Gr) (List.mem_cons_of_mem _ (List.mem_cons_of_mem _ m14)) ((lyU_ne (by decide)).trans lyU_at) rfl 2 (by decide) (gcw X lk_Gr_31) (fun _ h => h) t_Gr ty_Gr nm_Gr hI rfl (ty_Gr 2 (by decide)) (fun _ => rfl) (fun _ => rfl) (by decide) rfl ?_
  refine gx_aload_n X d_Gr_init_38 rfl rfl ?_
  refine gx_aload_n X d_Gr_init_39 rfl rfl ?_
  refine gx_geti X d_Gr_init_40 (gci in_Sp) (List.mem_cons_of_mem _ (List.mem_cons_of_mem _ m1)) ((lyU_ne (by decide)).trans ((lyU_ne (by decide)).trans ((lyU_ne (by decide)).trans ((lyU_ne (by decide)).trans ((lyU_ne (by decide)).trans y1))))) rfl 2 (by decide) (gcw X lk_Gr_26) (fun _ h => h) rfl ?_
  refine gx_top (y := nI (2 ^ (3 * w))) (by simp only [gxu, zF, Nat.reduceEqDiff, false_and, and_false, if_false]; exact hS.2.2.2) ?_
  refine gx_newi X (τ := 0) (n := (2 ^ (3 * w))) 16 d_Gr_init_43 (gcw X wa_int) rfl (fun h => h) (fun _ => rfl) (by omega) (by show (2 ^ (3 * w)) * 4 ≤ 536870912; omega) (Nat.le_of_ble_eq_true rfl) (by show 0 + 4096 + (2 ^ (3 * w)) + (2 ^ (3 * w)) ≤ (6145 : Nat); omega) (nm_cons (by decide) (nm_cons (by decide) f16)) (a16.trans (by subst hsz; rfl)) (Or.inr ⟨_, List.mem_cons_self, hl_of a15 (by subst hsz; rfl)⟩) (fun X => ?_)
  refine gx_putr X d_Gr_init_45 (gci in_Gr) (List.mem_cons_of_mem _ (List.mem_cons_of_mem _ (List.mem_cons_of_mem _ m14))) ((lyU_ne (by decide)).trans lyU_at) rfl 4 (by decide) (gcw X lk_Gr_34) (fun _ h => h) t_Gr ty_Gr nm_Gr hI rfl (ty_Gr 4 (by decide)) (fun _ => rfl) (fun _ => rfl) (by decide) rfl ?_
  refine gx_aload_n X d_Gr_init_48 rfl rfl ?_
  refine gx_aload_n X d_Gr_init_49 rfl rfl ?_
  refine gx_geti X d_Gr_init_50 (gci in_Sp) (List.mem_cons_of_mem _ (List.mem_cons_of_mem _ (List.mem_cons_of_mem _ m1))) ((lyU_ne (by decide)).trans ((lyU_ne (by decide)).trans ((lyU_ne (by decide)).trans ((lyU_ne (by decide)).trans ((lyU_ne (by decide)).trans ((lyU_ne (by decide)).trans ((lyU_ne (by decide)).trans y1))))))) rfl 2 (by decide) (gcw X lk_Gr_26) (fun _ h => h) rfl ?_
  refine gx_top (y := nI (2 ^ (3 * w))) (by simp only [gxu, zF, Nat.reduceEqDiff, false_and, and_false, if_false]; exact hS.2.2.2) ?_
  refine gx_newi X (τ := 0) (n := (2 ^ (3 * w))) 17 d_Gr_init_53 (gcw X wa_int) rfl (fun h => h) (fun _ => rfl) (by omega) (by show (2 ^ (3 * w)) * 4 ≤ 536870912; omega) (Nat.le_of_ble_eq_true rfl) (by show 0 + 4096 + (2 ^ (3 * w)) + (2 ^ (3 * w)) + (2 ^ (3 * w)) ≤ (6145 : Nat); omega) (nm_cons (by decide) (nm_cons (by decide) (nm_cons (by decide) f17))) (a17.trans (by subst hsz; rfl)) (Or.inr ⟨_, List.mem_cons_self, hl_of a16 (by subst hsz; rfl)⟩) (fun X => ?_)
  refine gx_putr X d_Gr_init_55 (gci in_Gr) (List.mem_cons_of_mem _ (List.mem_cons_of_mem _ (List.mem_cons_of_mem _ (List.mem_cons_of_mem _ m14)))) ((lyU_ne (by decide)).trans lyU_at) rfl 5 (by decide) (gcw X lk_Gr_37) (fun _ h => h) t_Gr ty_Gr nm_Gr hI rfl (ty_Gr 5 (by decide)) (fun _ => rfl) (fun _ => rfl) (by decide) rfl ?_
  refine gx_aload_n X d_Gr_init_58 rfl rfl ?_
  refine gx_aload_n X d_Gr_init_59 rfl rfl ?_
  refine gx_geti X d_Gr_init_60 (gci in_Sp) (List.mem_cons_of_mem _ (List.mem_cons_of_mem _ (List.mem_cons_of_mem _ (List.mem_cons_of_mem _ m1)))) ((lyU_ne (by decide)).trans ((lyU_ne (by decide)).trans ((lyU_ne (by decide)).trans ((lyU_ne (by decide)).trans ((lyU_ne (by decide)).trans ((lyU_ne (by decide)).trans ((lyU_ne (by decide)).trans ((lyU_ne (by decide)).trans ((lyU_ne (by decide)).trans y1))))))))) rfl 2 (by decide) (gcw X lk_Gr_26) (fun _ h => h) rfl ?_
  refine gx_top (y := nI (2 ^ (3 * w))) (by simp only [gxu, zF, Nat.reduceEqDiff, false_and, and_false, if_false]; exact hS.2.2.2) ?_
  refine gx_iconst X d_Gr_init_63 (v := nI 1) (by decide) ?_
  refine gx_iadd X d_Gr_init_64 ?_
  refine gx_top (nI_add (2 ^ (3 * w)) 1) ?_
  refine gx_newi X (τ := 0) (n := (2 ^ (3 * w) + 1)) 18 d_Gr_init_65 (gcw X wa_int) rfl (fun h => h) (fun _ => rfl) (by omega) (by show (2 ^ (3 * w) + 1) * 4 ≤ 536870912; omega) (Nat.le_of_ble_eq_true rfl) (by show 0 + 4096 + (2 ^ (3 * w)) + (2 ^ (3 * w)) + (2 ^ (3 * w)) + (2 ^ (3 * w) + 1) ≤ (6145 : Nat); omega) (nm_cons (by decide) (nm_cons (by decide) (nm_cons (by decide) (nm_cons (by decide) f18)))) (a18.trans (by subst hsz; rfl)) (Or.inr ⟨_, List.mem_cons_self, hl_of a17 (by subst hsz; rfl)⟩) (fun X => ?_)
  refine gx_putr X d_Gr_init_67 (gci in_Gr) (List.mem_cons_of_mem _ (List.mem_cons_of_mem _ (List.mem_cons_of_mem _ (List.mem_cons_of_mem _ (List.mem_cons_of_mem _ m14))))) ((lyU_ne (by decide)).trans lyU_at) rfl 6 (by decide) (gcw X lk_Gr_40) (fun _ h => h) t_Gr ty_Gr nm_Gr hI rfl (ty_Gr 6 (by decide)) (fun _ => rfl) (fun _ => rfl) (by decide) rfl ?_
  generalize hFx : zF (zF (zF (zF (zF (gxu (gxu F 14 1 (nI 0)) 14 3 (nI 0)) 19) 15) 16) 17) 18 = Fx
  have x1 : ∀ a, ¬ (14 ≤ a ∧ a ≤ 19) → Fx a = F a := fun a ha => by rw [← hFx, zF_ne (by omega), zF_ne (by omega), zF_ne (by omega), zF_ne (by omega), zF_ne (by omega), gxu_cell (by omega), gxu_cell (by omega)]
  have hS1 : SpOK Fx w := hS.of (x1 1 (by decide))
  have hG1 : SgOK Fx (2 ^ (3 * w)) 0 (fun _ => 0) := ⟨by decide, by rw [← hFx]; simp [gxu, zF], fun s0 hs0 => ⟨by rw [← hFx, zF_ne (by decide), zF_ne (by decide), zF_ne (by decide), zF_at]; rfl, Nat.zero_lt_succ 0⟩⟩
  refine gx_aload_n X d_Gr_init_70 rfl rfl ?_
  refine gx_callV X d_Gr_init_71 mf_Gr_numberGroups lk_Gr_43 (c_Gr_numberGroups (w := w) (np := 0) (sg := fun _ => 0) (fun k hk => by
      rcases sG_cases hk with rfl | rfl | rfl | rfl | rfl | rfl | rfl
      · exact ⟨(List.mem_cons_of_mem _ (List.mem_cons_of_mem _ (List.mem_cons_of_mem _ (List.mem_cons_of_mem _ (List.mem_cons_of_mem _ m1))))), ((lyU_ne (by decide)).trans ((lyU_ne (by decide)).trans ((lyU_ne (by decide)).trans ((lyU_ne (by decide)).trans ((lyU_ne (by decide)).trans ((lyU_ne (by decide)).trans ((lyU_ne (by decide)).trans ((lyU_ne (by decide)).trans ((lyU_ne (by decide)).trans ((lyU_ne (by decide)).trans ((lyU_ne (by decide)).trans y1)))))))))))⟩
      · exact ⟨(List.mem_cons_of_mem _ (List.mem_cons_of_mem _ (List.mem_cons_of_mem _ (List.mem_cons_of_mem _ (List.mem_cons_of_mem _ m14))))), lyU_at⟩
      · exact ⟨(List.mem_cons_of_mem _ (List.mem_cons_of_mem _ (List.mem_cons_of_mem _ List.mem_cons_self))), ((lyU_ne (by decide)).trans ((lyU_ne (by decide)).trans ((lyU_ne (by decide)).trans ((lyU_ne (by decide)).trans ((lyU_ne (by decide)).trans ((lyU_ne (by decide)).trans ((lyU_ne (by decide)).trans lyU_at)))))))⟩
      · exact ⟨(List.mem_cons_of_mem _ (List.mem_cons_of_mem _ List.mem_cons_self)), ((lyU_ne (by decide)).trans ((lyU_ne (by decide)).trans ((lyU_ne (by decide)).trans ((lyU_ne (by decide)).trans ((lyU_ne (by decide)).trans lyU_at)))))⟩
      · exact ⟨(List.mem_cons_of_mem _ List.mem_cons_self), ((lyU_ne (by decide)).trans ((lyU_ne (by decide)).trans ((lyU_ne (by decide)).trans lyU_at)))⟩
      · exact ⟨List.mem_cons_self, ((lyU_ne (by decide)).trans lyU_at)⟩
      · exact ⟨(List.mem_cons_of_mem _ (List.mem_cons_of_mem _ (List.mem_cons_of_mem _ (List.mem_cons_of_mem _ List.mem_cons_self)))), ((lyU_ne (by decide)).trans ((lyU_ne (by decide)).trans ((lyU_ne (by decide)).trans ((lyU_ne (by decide)).trans ((lyU_ne (by decide)).trans ((lyU_ne (by decide)).trans ((lyU_ne (by decide)).trans ((lyU_ne (by decide)).trans ((lyU_ne (by decide)).trans ((lyU_ne (by decide)).trans lyU_at))))))))))⟩) hS1 hG1) (List.mem_cons_of_mem _ (List.mem_cons_of_mem _ (List.mem_cons_of_mem _ (List.mem_cons_of_mem _ (List.mem_cons_of_mem _ m14))))) lyU_at rfl rfl rfl (Nat.le_of_ble_eq_true rfl) ⟨by decide, by decide⟩ ⟨rfl, rfl⟩ ⟨Nat.le_of_ble_eq_true rfl, by show 0 + 4096 + (2 ^ (3 * w)) + (2 ^ (3 * w)) + (2 ^ (3 * w)) + (2 ^ (3 * w) + 1) ≤ (6145 : Nat); omega⟩ (fun r71 F71 L71 hp71 => ?_)
  obtain ⟨rfl, rfl, n1, n2, n3, n4⟩ := hp71
  refine gx_aload_n X d_Gr_init_74 rfl rfl ?_
  refine gx_callV X d_Gr_init_75 mf_Gr_placeStates lk_Gr_46 (c_Gr_placeStates (w := w) (np := 0) (sg := fun _ => 0) (fun k hk => by
      rcases sG_cases hk with rfl | rfl | rfl | rfl | rfl | rfl | rfl
      · exact ⟨(List.mem_cons_of_mem _ (List.mem_cons_of_mem _ (List.mem_cons_of_mem _ (List.mem_cons_of_mem _ (List.mem_cons_of_mem _ m1))))), ((lyU_ne (by decide)).trans ((lyU_ne (by decide)).trans ((lyU_ne (by decide)).trans ((lyU_ne (by decide)).trans ((lyU_ne (by decide)).trans ((lyU_ne (by decide)).trans ((lyU_ne (by decide)).trans ((lyU_ne (by decide)).trans ((lyU_ne (by decide)).trans ((lyU_ne (by decide)).trans ((lyU_ne (by decide)).trans y1)))))))))))⟩
      · exact ⟨(List.mem_cons_of_mem _ (List.mem_cons_of_mem _ (List.mem_cons_of_mem _ (List.mem_cons_of_mem _ (List.mem_cons_of_mem _ m14))))), lyU_at⟩
      · exact ⟨(List.mem_cons_of_mem _ (List.mem_cons_of_mem _ (List.mem_cons_of_mem _ List.mem_cons_self))), ((lyU_ne (by decide)).trans ((lyU_ne (by decide)).trans ((lyU_ne (by decide)).trans ((lyU_ne (by decide)).trans ((lyU_ne (by decide)).trans ((lyU_ne (by decide)).trans ((lyU_ne (by decide)).trans lyU_at)))))))⟩
      · exact ⟨(List.mem_cons_of_mem _ (List.mem_cons_of_mem _ List.mem_cons_self)), ((lyU_ne (by decide)).trans ((lyU_ne (by decide)).trans ((lyU_ne (by decide)).trans ((lyU_ne (by decide)).trans ((lyU_ne (by decide)).trans lyU_at)))))⟩
      · exact ⟨(List.mem_cons_of_mem _ List.mem_cons_self), ((lyU_ne (by decide)).trans ((lyU_ne (by decide)).trans ((lyU_ne (by decide)).trans lyU_at)))⟩
      · exact ⟨List.mem_cons_self, ((lyU_ne (by decide)).trans lyU_at)⟩
      · exact ⟨(List.mem_cons_of_mem _ (List.mem_cons_of_mem _ (List.mem_cons_of_mem _ (List.mem_cons_of_mem _ List.mem_cons_self)))), ((lyU_ne (by decide)).trans ((lyU_ne (by decide)).trans ((lyU_ne (by decide)).trans ((lyU_ne (by decide)).trans ((lyU_ne (by decide)).trans ((lyU_ne (by decide)).trans ((lyU_ne (by decide)).trans ((lyU_ne (by decide)).trans ((lyU_ne (by decide)).trans ((lyU_ne (by decide)).trans lyU_at))))))))))⟩) (hS1.of (n1 1 (by decide) (by decide))) (hG1.of n2 (n1 15 (by decide) (by decide))) n3 n4) (List.mem_cons_of_mem _ (List.mem_cons_of_mem _ (List.mem_cons_of_mem _ (List.mem_cons_of_mem _ (List.mem_cons_of_mem _ m14))))) lyU_at rfl rfl rfl (Nat.le_of_ble_eq_true rfl) ⟨by decide, by decide⟩ ⟨rfl, rfl⟩ ⟨Nat.le_of_ble_eq_true rfl, by show 0 + 4096 + (2 ^ (3 * w)) + (2 ^ (3 * w)) + (2 ^ (3 * w)) + (2 ^ (3 * w) + 1) ≤ (6145 : Nat); omega⟩ (fun r75 F75 L75 hp75 => ?_)
  obtain ⟨rfl, rfl, q1, q2⟩ := hp75
  refine gx_vretG X hr hsz hA ⟨Nat.le_of_ble_eq_true rfl, by show 0 + 4096 + (2 ^ (3 * w)) + (2 ^ (3 * w)) + (2 ^ (3 * w)) + (2 ^ (3 * w) + 1) ≤ (6145 : Nat); omega⟩ d_Gr_init_78 (K _ _ _ ⟨fun a ha => ⟨by rw [lyU_ne (by omega), lyU_ne (by omega), lyU_ne (by omega), lyU_ne (by omega), lyU_ne (by omega), lyU_ne (by omega), lyU_ne (by omega), lyU_ne (by omega), lyU_ne (by omega), lyU_ne (by omega), lyU_ne (by omega)], by rw [q1 a (by omega) (by omega) (by omega), n1 a (by omega) (by omega), x1 a ha]⟩, fun k hk => ?_, q2⟩)
  have hk2 : k = 14 ∨ k = 15 ∨ k = 16 ∨ k = 17 ∨ k = 18 ∨ k = 19 := by omega
  rcases hk2 with rfl | rfl | rfl | rfl | rfl | rfl
  · exact lyU_at
  · exact ((lyU_ne (by decide)).trans ((lyU_ne (by decide)).trans ((lyU_ne (by decide)).trans ((lyU_ne (by decide)).trans ((lyU_ne (by decide)).trans ((lyU_ne (by decide)).trans ((lyU_ne (by decide)).trans lyU_at)))))))
  · exact ((lyU_ne (by decide)).trans ((lyU_ne (by decide)).trans ((lyU_ne (by decide)).trans ((lyU_ne (by decide)).trans ((lyU_ne (by decide)).trans lyU_at)))))
  · exact ((lyU_ne (by decide)).trans ((lyU_ne (by decide)).trans ((lyU_ne (by decide)).trans lyU_at)))
  · exact ((lyU_ne (by decide)).trans lyU_at)
  · exact ((lyU_ne (by decide)).trans ((lyU_ne (by decide)).trans ((lyU_ne (by decide)).trans ((lyU_ne (by decide)).trans ((lyU_ne (by decide)).trans ((lyU_ne (by decide)).trans ((lyU_ne (by decide)).trans ((lyU_ne (by decide)).trans ((lyU_ne (by decide)).trans ((lyU_ne (by decide)).trans lyU_at))))))))))
end
