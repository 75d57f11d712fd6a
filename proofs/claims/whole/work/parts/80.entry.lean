/-! what the law's entry gives (own text) -/
theorem arrT_of {s : State} {args : Array Value} {t : FieldType} (h : (Cond.arrayClass t).before args s = true) : ∃ cA : ClassId, ArrOfT s cA t ∧ s.vm.findClass ("[" ++ t.toString) = some cA := by
  obtain ⟨cA, kA, comp, h1, h2, h3⟩ := Cond.arrayClass_spec h
  exact ⟨cA, fun n z => ⟨fun k h => (by cases h), kA, h2, comp, h3⟩, h1⟩
theorem arrA_of {s : State} {args : Array Value} {t : FieldType} (h : (Cond.arrayOver (.array t)).before args s = true) : ∃ cA : ClassId, ArrOfT s cA (.array t) ∧ s.vm.findClass ("[" ++ (FieldType.array t).toString) = some cA := by
  obtain ⟨comp, c, k, h1, h3, h4, h5⟩ := Cond.arrayOver_specA h
  exact ⟨c, fun n z => ⟨fun k h => (by cases h), k, h3, comp, h4⟩, h5⟩
theorem wa_all : Cond.arrayClass .int ∈ WT ∧ Cond.arrayClass .long ∈ WT ∧ Cond.arrayClass .char ∈ WT ∧ Cond.arrayClass .byte ∈ WT ∧ Cond.arrayClass .boolean ∈ WT := ⟨WT_lw (List.mem_append_right _ (by decide +kernel)) (by decide +kernel), WT_lw (List.mem_append_right _ (by decide +kernel)) (by decide +kernel), WT_lw (List.mem_append_right _ (by decide +kernel)) (by decide +kernel), WT_lw (List.mem_append_right _ (by decide +kernel)) (by decide +kernel), WT_lw (List.mem_append_right _ (by decide +kernel)) (by decide +kernel)⟩
theorem tb_over : Cond.arrayOver (.array .int) ∈ tables_1 ∧ Cond.arrayOver (.array .long) ∈ tables_1 ∧ Cond.methodLinkNest R_PP 14 y_Li_init R_PP ∈ tables_1 := ⟨by decide +kernel, by decide +kernel, by decide +kernel⟩
section ENT
variable {s : State} {b : Nat} {ca : Nat → ClassId}
theorem nSt_in (hts : ∀ w ∈ lw_tbl, w.before #[Value.ref b] s = true) : nSt s := ⟨fun a' => arrOver_alike (U := s) (U' := s) (Vm.Alike.refl _) (hts _ (List.mem_append_right _ tb_over.1)), fun a' => arrOver_alike (U := s) (U' := s) (Vm.Alike.refl _) (hts _ (List.mem_append_right _ tb_over.2.1)), hts _ (List.mem_append_right _ tb_over.2.2)⟩
theorem known_in (hts : ∀ w ∈ lw_tbl, w.before #[Value.ref b] s = true) : ∃ (D : va_G) (ca : Nat → ClassId), va_K D vcl (gxT ca) s := by
  have hw : ∀ w ∈ WT, w.before #[Value.ref b] s = true := fun w h => hts w (List.mem_filter.mp h).1
  obtain ⟨c0, i0, k0⟩ := u_known hw in_PP (hw _ wn_PP)
  obtain ⟨c1, i1, k1⟩ := u_known hw in_Sp (hw _ wn_Sp)
  obtain ⟨c2, i2, k2⟩ := u_known hw in_Li (hw _ wn_Li)
  obtain ⟨c3, i3, k3⟩ := u_known hw in_Fo (hw _ wn_Fo)
  obtain ⟨c4, i4, k4⟩ := u_known hw in_Pa (hw _ wn_Pa)
  obtain ⟨c5, i5, k5⟩ := u_known hw in_Pr (hw _ wn_Pr)
  obtain ⟨c6, i6, k6⟩ := u_known hw in_Gr (hw _ wn_Gr)
  obtain ⟨c7, i7, k7⟩ := u_known hw in_Se (hw _ wn_Se)
  obtain ⟨c8, i8, k8⟩ := u_known hw in_Re (hw _ wn_Re)
  obtain ⟨c9, i9, k9⟩ := u_known hw in_Rf (hw _ wn_Rf)
  obtain ⟨c10, i10, k10⟩ := u_known hw in_Mo (hw _ wn_Mo)
  obtain ⟨a0, q0, r0⟩ := arrT_of (hw _ wa_all.1)
  obtain ⟨a1, q1, r1⟩ := arrT_of (hw _ wa_all.2.1)
  obtain ⟨a2, q2, r2⟩ := arrT_of (hw _ wa_all.2.2.1)
  obtain ⟨a3, q3, r3⟩ := arrT_of (hw _ wa_all.2.2.2.1)
  obtain ⟨a4, q4, r4⟩ := arrT_of (hw _ wa_all.2.2.2.2)
  obtain ⟨a5, q5, r5⟩ := arrA_of (hts _ (List.mem_append_right _ tb_over.1))
  obtain ⟨a6, q6, r6⟩ := arrA_of (hts _ (List.mem_append_right _ tb_over.2.1))
  refine ⟨(fun k => match k with | 0 => c0 | 1 => c1 | 2 => c2 | 3 => c3 | 4 => c4 | 5 => c5 | 6 => c6 | 7 => c7 | 8 => c8 | 9 => c9 | _ => c10, fun k => match k with | 0 => i0 | 1 => i1 | 2 => i2 | 3 => i3 | 4 => i4 | 5 => i5 | 6 => i6 | 7 => i7 | 8 => i8 | 9 => i9 | _ => i10), fun k => match k with | 0 => a0 | 1 => a1 | 2 => a2 | 3 => a3 | 4 => a4 | 5 => a5 | _ => a6, ⟨fun k q hq => ?_, fun k q hq => ?_⟩⟩
  · match k, hq with
    | 0, hq => cases hq; exact k0
    | 1, hq => cases hq; exact k1
    | 2, hq => cases hq; exact k2
    | 3, hq => cases hq; exact k3
    | 4, hq => cases hq; exact k4
    | 5, hq => cases hq; exact k5
    | 6, hq => cases hq; exact k6
    | 7, hq => cases hq; exact k7
    | 8, hq => cases hq; exact k8
    | 9, hq => cases hq; exact k9
    | 10, hq => cases hq; exact k10
    | k + 11, hq => simp [vcl] at hq
  · match k, hq with
    | 0, hq => cases hq; exact ⟨q0, r0⟩
    | 1, hq => cases hq; exact ⟨q1, r1⟩
    | 2, hq => cases hq; exact ⟨q2, r2⟩
    | 3, hq => cases hq; exact ⟨q3, r3⟩
    | 4, hq => cases hq; exact ⟨q4, r4⟩
    | 5, hq => cases hq; exact ⟨q5, r5⟩
    | 6, hq => cases hq; exact ⟨q6, r6⟩
    | k + 7, hq => simp [gxT] at hq
theorem tb_ex : Cond.laysStatic Bundle.tN "UNASSIGNED_STACK" Bundle.steD ∈ tables_1 ∧ Cond.laysStatic Bundle.tN "SUPPRESSED_SENTINEL" Bundle.listD ∈ tables_1 ∧ Cond.declares (Bundle.initS "java/lang/RuntimeException") ∈ tables_1 ∧ Cond.declares (Bundle.initS "java/lang/Exception") ∈ tables_1 ∧ Cond.declares (Bundle.initS Bundle.tN) ∈ tables_1 ∧ Cond.castable "java/lang/IllegalArgumentException" "java/lang/IllegalArgumentException" ∈ tables_1 ∧ Cond.castable "java/lang/IllegalStateException" "java/lang/IllegalStateException" ∈ tables_1 ∧ Cond.castable "java/lang/IndexOutOfBoundsException" "java/lang/IndexOutOfBoundsException" ∈ tables_1 := ⟨by decide +kernel, by decide +kernel, by decide +kernel, by decide +kernel, by decide +kernel, by decide +kernel, by decide +kernel, by decide +kernel⟩
theorem gv_ex : Cond.isRef (.static Bundle.tN "UNASSIGNED_STACK" Bundle.steD) ∈ flatC (Jvm.Cond.and given_1 narrow_1) ∧ Cond.isRef (.static Bundle.tN "SUPPRESSED_SENTINEL" Bundle.listD) ∈ flatC (Jvm.Cond.and given_1 narrow_1) ∧ Cond.not (.castable nISE nIAE) ∈ flatC (Jvm.Cond.and given_1 narrow_1) ∧ Cond.not (.castable nIAE nIOE) ∈ flatC (Jvm.Cond.and given_1 narrow_1) := ⟨by decide +kernel, by decide +kernel, by decide +kernel, by decide +kernel⟩
theorem tb_str : strL.all (fun q => decide (Cond.stringRef R_PP q.1 q.2 ∈ tables_1)) = true := by decide +kernel
theorem gv_str : strL.all (fun q => decide (Cond.exactly (.string R_PP q.1) "java/lang/String" ∈ flatC (Jvm.Cond.and given_1 narrow_1))) = true := by decide +kernel
theorem tSt_in (hts : ∀ w ∈ lw_tbl, w.before #[Value.ref b] s = true) (hg : (Jvm.Cond.and given_1 narrow_1).before #[Value.ref b] s = true) : tSt s := by
  have hs := flat_of_before _ hg
  have ht : ∀ w ∈ tables_1, w.before #[Value.ref b] s = true := fun w h => hts w (List.mem_append_right _ h)
  refine ⟨fun a' w hw => ?_, fun q hq => ?_⟩
  · simp only [exW, List.mem_cons, List.not_mem_nil, or_false] at hw
    rcases hw with rfl | rfl | rfl | rfl | rfl | rfl | rfl | rfl | rfl | rfl
    · exact ht _ tb_ex.1
    · exact ht _ tb_ex.2.1
    · exact hs _ gv_ex.1
    · exact hs _ gv_ex.2.1
    · exact ht _ tb_ex.2.2.1
    · exact ht _ tb_ex.2.2.2.1
    · exact ht _ tb_ex.2.2.2.2.1
    · exact ht _ tb_ex.2.2.2.2.2.1
    · exact ht _ tb_ex.2.2.2.2.2.2.1
    · exact ht _ tb_ex.2.2.2.2.2.2.2
  · have h1 := of_decide_eq_true (List.all_eq_true.mp tb_str q hq)
    have h2 := of_decide_eq_true (List.all_eq_true.mp gv_str q hq)
    obtain ⟨a, c, cell, k, e1, -⟩ := Cond.exactly_spec (hs _ h2)
    exact ⟨a, vk_R.of (ht _ h1) e1⟩
theorem nCa_of {x y : String} (h : (Cond.not (.castable x y)).before #[Value.ref b] s = true) : nCa s x y := fun c1 c2 h1 h2 => by
  simpa [Cond.before, Cond.holds, Cond.value, h1, h2] using h
theorem hSt_in (hts : ∀ w ∈ lw_tbl, w.before #[Value.ref b] s = true) (hg : (Jvm.Cond.and given_1 narrow_1).before #[Value.ref b] s = true) : hSt s := ⟨tSt_in hts hg, nCa_of (flat_of_before _ hg _ gv_ex.2.2.1), nCa_of (flat_of_before _ hg _ gv_ex.2.2.2)⟩
end ENT
