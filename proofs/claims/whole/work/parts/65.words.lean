/-! words of constructors (own text) -/
theorem wo_inst : Cond.instanceMethod Lib.objectInit ∈ WT := WT_lw (List.mem_append_right _ (by decide +kernel)) (by decide +kernel)
theorem wo_code : Cond.code Lib.objectInit ⟨#[0xb1]⟩ 1 none ∈ WT := WT_lw (List.mem_append_right _ (by decide +kernel)) (by decide +kernel)
theorem wa_int : Cond.arrayClass .int ∈ WT := WT_lw (List.mem_append_right _ (by decide +kernel)) (by decide +kernel)
theorem wa_long : Cond.arrayClass .long ∈ WT := WT_lw (List.mem_append_right _ (by decide +kernel)) (by decide +kernel)
theorem wa_char : Cond.arrayClass .char ∈ WT := WT_lw (List.mem_append_right _ (by decide +kernel)) (by decide +kernel)
theorem wa_byte : Cond.arrayClass .byte ∈ WT := WT_lw (List.mem_append_right _ (by decide +kernel)) (by decide +kernel)
theorem wa_boolean : Cond.arrayClass .boolean ∈ WT := WT_lw (List.mem_append_right _ (by decide +kernel)) (by decide +kernel)
theorem wc_PP_7 : Cond.classLink R_PP 7 "PredicateProver$Space" ∈ WT := WT_lw (List.mem_append_right _ (by decide +kernel)) (by decide +kernel)
theorem wc_PP_12 : Cond.classLink R_PP 12 "PredicateProver$Line" ∈ WT := WT_lw (List.mem_append_right _ (by decide +kernel)) (by decide +kernel)
theorem wc_PP_15 : Cond.classLink R_PP 15 "PredicateProver$Formula" ∈ WT := WT_lw (List.mem_append_right _ (by decide +kernel)) (by decide +kernel)
theorem wc_PP_20 : Cond.classLink R_PP 20 "PredicateProver$Program" ∈ WT := WT_lw (List.mem_append_right _ (by decide +kernel)) (by decide +kernel)
theorem wc_PP_23 : Cond.classLink R_PP 23 "PredicateProver$Groups" ∈ WT := WT_lw (List.mem_append_right _ (by decide +kernel)) (by decide +kernel)
theorem wc_PP_26 : Cond.classLink R_PP 26 "PredicateProver$Search" ∈ WT := WT_lw (List.mem_append_right _ (by decide +kernel)) (by decide +kernel)
theorem wc_PP_45 : Cond.classLink R_PP 45 "PredicateProver$Parser" ∈ WT := WT_lw (List.mem_append_right _ (by decide +kernel)) (by decide +kernel)
theorem wc_PP_66 : Cond.classLink R_PP 66 "PredicateProver$Replay" ∈ WT := WT_lw (List.mem_append_right _ (by decide +kernel)) (by decide +kernel)
theorem wc_PP_75 : Cond.classLink R_PP 75 "PredicateProver$Refiner" ∈ WT := WT_lw (List.mem_append_right _ (by decide +kernel)) (by decide +kernel)
theorem wc_Pr_37 : Cond.classLink R_Pr 37 "[[I" ∈ WT := WT_lw (List.mem_append_right _ (by decide +kernel)) (by decide +kernel)
theorem wc_Re_36 : Cond.classLink R_Re 36 "[[J" ∈ WT := WT_lw (List.mem_append_right _ (by decide +kernel)) (by decide +kernel)
theorem wc_Rf_36 : Cond.classLink R_Rf 36 "[[J" ∈ WT := WT_lw (List.mem_append_right _ (by decide +kernel)) (by decide +kernel)
theorem wc_Lw_8 : Cond.classLink R_Lw 8 "PredicateProver" ∈ WT := WT_lw (List.mem_append_right _ (by decide +kernel)) (by decide +kernel)
theorem wc_Lw_57 : Cond.classLink R_Lw 57 "PredicateProverModel" ∈ WT := WT_lw (List.mem_append_right _ (by decide +kernel)) (by decide +kernel)
theorem wn_PP : Cond.instantiable R_PP 10 ∈ WT := WT_lw (List.mem_append_right _ (by decide +kernel)) (by decide +kernel)
theorem mi_PP : gMI y_PP_init b_PP_init 8 1 := ⟨WT_lw (List.mem_append_right _ (by decide +kernel)) (by decide +kernel), WT_lw (List.mem_append_right _ (by decide +kernel)) (by decide +kernel), WT_lw (List.mem_append_right _ (by decide +kernel)) (by decide +kernel), by decide, by decide, by decide +kernel⟩
theorem wn_Sp : Cond.instantiable R_Sp 3 ∈ WT := WT_lw (List.mem_append_right _ (by decide +kernel)) (by decide +kernel)
theorem mi_Sp : gMI y_Sp_init b_Sp_init 3 1 := ⟨WT_lw (List.mem_append_right _ (by decide +kernel)) (by decide +kernel), WT_lw (List.mem_append_right _ (by decide +kernel)) (by decide +kernel), WT_lw (List.mem_append_right _ (by decide +kernel)) (by decide +kernel), by decide, by decide, by decide +kernel⟩
theorem wn_Li : Cond.instantiable R_Li 2 ∈ WT := WT_lw (List.mem_append_right _ (by decide +kernel)) (by decide +kernel)
theorem mi_Li : gMI y_Li_init b_Li_init 1 0 := ⟨WT_lw (List.mem_append_right _ (by decide +kernel)) (by decide +kernel), WT_lw (List.mem_append_right _ (by decide +kernel)) (by decide +kernel), WT_lw (List.mem_append_right _ (by decide +kernel)) (by decide +kernel), by decide, by decide, by decide +kernel⟩
theorem wn_Fo : Cond.instantiable R_Fo 4 ∈ WT := WT_lw (List.mem_append_right _ (by decide +kernel)) (by decide +kernel)
theorem mi_Fo : gMI y_Fo_init b_Fo_init 2 1 := ⟨WT_lw (List.mem_append_right _ (by decide +kernel)) (by decide +kernel), WT_lw (List.mem_append_right _ (by decide +kernel)) (by decide +kernel), WT_lw (List.mem_append_right _ (by decide +kernel)) (by decide +kernel), by decide, by decide, by decide +kernel⟩
theorem wn_Pa : Cond.instantiable R_Pa 3 ∈ WT := WT_lw (List.mem_append_right _ (by decide +kernel)) (by decide +kernel)
theorem mi_Pa : gMI y_Pa_init b_Pa_init 3 2 := ⟨WT_lw (List.mem_append_right _ (by decide +kernel)) (by decide +kernel), WT_lw (List.mem_append_right _ (by decide +kernel)) (by decide +kernel), WT_lw (List.mem_append_right _ (by decide +kernel)) (by decide +kernel), by decide, by decide, by decide +kernel⟩
theorem wn_Pr : Cond.instantiable R_Pr 7 ∈ WT := WT_lw (List.mem_append_right _ (by decide +kernel)) (by decide +kernel)
theorem mi_Pr : gMI y_Pr_init b_Pr_init 2 1 := ⟨WT_lw (List.mem_append_right _ (by decide +kernel)) (by decide +kernel), WT_lw (List.mem_append_right _ (by decide +kernel)) (by decide +kernel), WT_lw (List.mem_append_right _ (by decide +kernel)) (by decide +kernel), by decide, by decide, by decide +kernel⟩
theorem wn_Gr : Cond.instantiable R_Gr 8 ∈ WT := WT_lw (List.mem_append_right _ (by decide +kernel)) (by decide +kernel)
theorem mi_Gr : gMI y_Gr_init b_Gr_init 2 1 := ⟨WT_lw (List.mem_append_right _ (by decide +kernel)) (by decide +kernel), WT_lw (List.mem_append_right _ (by decide +kernel)) (by decide +kernel), WT_lw (List.mem_append_right _ (by decide +kernel)) (by decide +kernel), by decide, by decide, by decide +kernel⟩
theorem wn_Se : Cond.instantiable R_Se 15 ∈ WT := WT_lw (List.mem_append_right _ (by decide +kernel)) (by decide +kernel)
theorem mi_Se : gMI y_Se_init b_Se_init 4 3 := ⟨WT_lw (List.mem_append_right _ (by decide +kernel)) (by decide +kernel), WT_lw (List.mem_append_right _ (by decide +kernel)) (by decide +kernel), WT_lw (List.mem_append_right _ (by decide +kernel)) (by decide +kernel), by decide, by decide, by decide +kernel⟩
theorem wn_Re : Cond.instantiable R_Re 6 ∈ WT := WT_lw (List.mem_append_right _ (by decide +kernel)) (by decide +kernel)
theorem mi_Re : gMI y_Re_init b_Re_init 4 3 := ⟨WT_lw (List.mem_append_right _ (by decide +kernel)) (by decide +kernel), WT_lw (List.mem_append_right _ (by decide +kernel)) (by decide +kernel), WT_lw (List.mem_append_right _ (by decide +kernel)) (by decide +kernel), by decide, by decide, by decide +kernel⟩
theorem wn_Rf : Cond.instantiable R_Rf 7 ∈ WT := WT_lw (List.mem_append_right _ (by decide +kernel)) (by decide +kernel)
theorem mi_Rf : gMI y_Rf_init b_Rf_init 5 4 := ⟨WT_lw (List.mem_append_right _ (by decide +kernel)) (by decide +kernel), WT_lw (List.mem_append_right _ (by decide +kernel)) (by decide +kernel), WT_lw (List.mem_append_right _ (by decide +kernel)) (by decide +kernel), by decide, by decide, by decide +kernel⟩
theorem wn_Mo : Cond.instantiable R_Mo 31 ∈ WT := WT_lw (List.mem_append_right _ (by decide +kernel)) (by decide +kernel)
theorem mi_Mo : gMI y_Mo_init b_Mo_init 2 1 := ⟨WT_lw (List.mem_append_right _ (by decide +kernel)) (by decide +kernel), WT_lw (List.mem_append_right _ (by decide +kernel)) (by decide +kernel), WT_lw (List.mem_append_right _ (by decide +kernel)) (by decide +kernel), by decide, by decide, by decide +kernel⟩
abbrev rmG_PP : Room := { frames := 17, cells := 259, slots := 29232, locals := 10518 }
abbrev rmG_Sp : Room := { frames := 1, cells := 0, slots := 0, locals := 20 }
abbrev rmG_Li : Room := { frames := 1, cells := 1, slots := 24, locals := 20 }
abbrev rmG_Fo : Room := { frames := 1, cells := 2, slots := 48, locals := 20 }
abbrev rmG_Pa : Room := { frames := 1, cells := 0, slots := 0, locals := 20 }
abbrev rmG_Pr : Room := { frames := 1, cells := 25, slots := 10340, locals := 20 }
abbrev rmG_Gr : Room := { frames := 16, cells := 5, slots := 6145, locals := 10497 }
abbrev rmG_Se : Room := { frames := 1, cells := 9, slots := 8056, locals := 20 }
abbrev rmG_Re : Room := { frames := 1, cells := 202, slots := 2000, locals := 20 }
abbrev rmG_Rf : Room := { frames := 1, cells := 6, slots := 2564, locals := 20 }
abbrev rmG_Mo : Room := { frames := 1, cells := 19, slots := 20000, locals := 20 }
theorem nm_cons {a b : Nat} {l : List Nat} (h1 : a ≠ b) (h2 : a ∉ l) : a ∉ b :: l := fun h => by
  rcases List.mem_cons.mp h with h | h
  · exact h1 h
  · exact h2 h
theorem nm_app {a : Nat} {l l2 : List Nat} (h1 : a ∉ l) (h2 : a ∉ l2) : a ∉ l ++ l2 := fun h => by
  rcases List.mem_append.mp h with h | h
  · exact h1 h
  · exact h2 h
theorem nr_cons {b : Nat} {r l : List Nat} (h1 : b ∉ r) (h2 : ∀ a ∈ r, a ∉ l) : ∀ a ∈ r, a ∉ b :: l := fun a ha => nm_cons (fun z => h1 (z ▸ ha)) (h2 a ha)
theorem nr_app {r l l2 : List Nat} (h1 : ∀ a ∈ r, a ∉ l) (h2 : ∀ a ∈ r, a ∉ l2) : ∀ a ∈ r, a ∉ l ++ l2 := fun a ha => nm_app (h1 a ha) (h2 a ha)
theorem no_rT (a : Nat) (h : a < 100) : a ∉ rwL rT 20 0 := fun z => by
  obtain ⟨i, -, -, e⟩ := rwL_mem.mp z
  unfold rT at e
  omega
theorem no_rO (a : Nat) (h : a < 100) : a ∉ rwL rO 200 0 := fun z => by
  obtain ⟨i, -, -, e⟩ := rwL_mem.mp z
  unfold rO at e
  omega
theorem no_rK (a : Nat) (h : a < 100) : a ∉ rwL rK 4 0 := fun z => by
  obtain ⟨i, -, -, e⟩ := rwL_mem.mp z
  unfold rK at e
  omega
theorem lyM_at {lay : Nat → gxE} {k0 : Nat} {rw : Nat → Nat} {n : Nat} {eo er : gxE} : lyM lay k0 rw n eo er k0 = eo := by simp [lyM]
theorem lyM_ne {lay : Nat → gxE} {k0 a : Nat} {rw : Nat → Nat} {n : Nat} {eo er : gxE} (h : a ≠ k0) (h2 : a ∉ rwL rw n 0) : lyM lay k0 rw n eo er a = lay a := by simp [lyM, h, h2]
theorem lyM_row {lay : Nat → gxE} {k0 a : Nat} {rw : Nat → Nat} {n : Nat} {eo er : gxE} (h : a ≠ k0) (h2 : a ∈ rwL rw n 0) : lyM lay k0 rw n eo er a = er := by simp [lyM, h, h2]
theorem zFm_at {F : Nat → Nat → Int32} {rw : Nat → Nat} {n a : Nat} (h : a ∈ rwL rw n 0) : zFm F rw n a = fun _ => 0 := by funext b; simp [zFm, h]
theorem zFm_ne {F : Nat → Nat → Int32} {rw : Nat → Nat} {n a : Nat} (h : a ∉ rwL rw n 0) : zFm F rw n a = F a := by funext b; simp [zFm, h]
theorem zLm_at {L : Nat → Nat → Int64} {rw : Nat → Nat} {n a : Nat} (h : a ∈ rwL rw n 0) : zLm L rw n a = fun _ => 0 := by funext b; simp [zLm, h]
theorem zLm_ne {L : Nat → Nat → Int64} {rw : Nat → Nat} {n a : Nat} (h : a ∉ rwL rw n 0) : zLm L rw n a = L a := by funext b; simp [zLm, h]
theorem hl_of {a b x : Nat} (h : a = b) (h2 : b + 1 = x) : a + 1 = x := by omega
