/-! rooms, by the graph of calls; what a call needs to know of its callee -/
abbrev rm_PP_init : Room := { frames := 17, cells := 0, slots := 0, locals := 10518 }
abbrev rm_Sp_init : Room := { frames := 1, cells := 0, slots := 0, locals := 20 }
abbrev rm_Li_init : Room := { frames := 1, cells := 0, slots := 0, locals := 20 }
abbrev rm_Fo_init : Room := { frames := 1, cells := 0, slots := 0, locals := 20 }
abbrev rm_Pr_init : Room := { frames := 1, cells := 0, slots := 0, locals := 20 }
abbrev rm_Gr_init : Room := { frames := 16, cells := 0, slots := 0, locals := 10497 }
abbrev rm_Gr_numberGroups : Room := { frames := 15, cells := 0, slots := 0, locals := 10475 }
abbrev rm_Ar_fill_aIIII : Room := { frames := 14, cells := 0, slots := 0, locals := 10451 }
abbrev rm_Ar_rangeCheck : Room := { frames := 13, cells := 0, slots := 0, locals := 10429 }
abbrev rm_Gr_placeStates : Room := { frames := 1, cells := 0, slots := 0, locals := 23 }
abbrev rm_Ar_fill_aII : Room := { frames := 0, cells := 0, slots := 0, locals := 0 }
abbrev rm_Se_init : Room := { frames := 1, cells := 0, slots := 0, locals := 20 }
abbrev rm_Pa_init : Room := { frames := 1, cells := 0, slots := 0, locals := 20 }
abbrev rm_Re_init : Room := { frames := 1, cells := 0, slots := 0, locals := 20 }
abbrev rm_Rf_init : Room := { frames := 1, cells := 0, slots := 0, locals := 20 }
abbrev rm_PP_type : Room := { frames := 1, cells := 0, slots := 0, locals := 21 }
abbrev rm_Li_append : Room := { frames := 0, cells := 0, slots := 0, locals := 0 }
abbrev rm_PP_wipe : Room := { frames := 1, cells := 0, slots := 0, locals := 20 }
abbrev rm_Li_makeEmpty : Room := { frames := 0, cells := 0, slots := 0, locals := 0 }
abbrev rm_PP_clear : Room := { frames := 17, cells := 0, slots := 0, locals := 10517 }
abbrev rm_Gr_dropPredicates : Room := { frames := 16, cells := 0, slots := 0, locals := 10497 }
abbrev rm_PP_forgetSearch : Room := { frames := 1, cells := 0, slots := 0, locals := 20 }
abbrev rm_Se_forget : Room := { frames := 0, cells := 0, slots := 0, locals := 0 }
abbrev rm_Re_forget : Room := { frames := 0, cells := 0, slots := 0, locals := 0 }
abbrev rm_PP_outcome : Room := { frames := 0, cells := 0, slots := 0, locals := 0 }
abbrev rm_PP_edges : Room := { frames := 0, cells := 0, slots := 0, locals := 0 }
abbrev rm_PP_predicates : Room := { frames := 0, cells := 0, slots := 0, locals := 0 }
abbrev rm_PP_nodes : Room := { frames := 0, cells := 0, slots := 0, locals := 0 }
abbrev rm_PP_length : Room := { frames := 0, cells := 0, slots := 0, locals := 0 }
abbrev rm_Lw_cell : Room := { frames := 0, cells := 0, slots := 0, locals := 0 }
abbrev rm_Lw_edge : Room := { frames := 29, cells := 0, slots := 0, locals := 10451 }
abbrev rm_PP_edge : Room := { frames := 28, cells := 0, slots := 0, locals := 10429 }
abbrev rm_Pa_readEdge : Room := { frames := 27, cells := 0, slots := 0, locals := 1026 }
abbrev rm_Li_at : Room := { frames := 0, cells := 0, slots := 0, locals := 0 }
abbrev rm_Pa_isLocation : Room := { frames := 0, cells := 0, slots := 0, locals := 0 }
abbrev rm_Fo_isVariable : Room := { frames := 0, cells := 0, slots := 0, locals := 0 }
abbrev rm_Pa_readTerm : Room := { frames := 26, cells := 0, slots := 0, locals := 1004 }
abbrev rm_Fo_begin : Room := { frames := 0, cells := 0, slots := 0, locals := 0 }
abbrev rm_Pa_passTerm : Room := { frames := 25, cells := 0, slots := 0, locals := 981 }
abbrev rm_Pa_passPart : Room := { frames := 25, cells := 0, slots := 0, locals := 981 }
abbrev rm_Fo_isDigit : Room := { frames := 0, cells := 0, slots := 0, locals := 0 }
abbrev rm_Fo_add : Room := { frames := 0, cells := 0, slots := 0, locals := 0 }
abbrev rm_Pa_isOperator : Room := { frames := 0, cells := 0, slots := 0, locals := 0 }
abbrev rm_Pa_readAtom : Room := { frames := 26, cells := 0, slots := 0, locals := 1004 }
abbrev rm_Pa_isComparison : Room := { frames := 0, cells := 0, slots := 0, locals := 0 }
abbrev rm_Pr_isFull : Room := { frames := 0, cells := 0, slots := 0, locals := 0 }
abbrev rm_Pr_add : Room := { frames := 3, cells := 0, slots := 0, locals := 70 }
abbrev rm_Pr_targetOf : Room := { frames := 2, cells := 0, slots := 0, locals := 46 }
abbrev rm_Sp_write : Room := { frames := 0, cells := 0, slots := 0, locals := 0 }
abbrev rm_Fo_valueIn : Room := { frames := 1, cells := 0, slots := 0, locals := 22 }
abbrev rm_Sp_read : Room := { frames := 0, cells := 0, slots := 0, locals := 0 }
abbrev rm_Fo_combine : Room := { frames := 0, cells := 0, slots := 0, locals := 0 }
abbrev rm_Lw_predicate : Room := { frames := 28, cells := 0, slots := 0, locals := 10539 }
abbrev rm_PP_predicate : Room := { frames := 27, cells := 0, slots := 0, locals := 10517 }
abbrev rm_Gr_isFull : Room := { frames := 0, cells := 0, slots := 0, locals := 0 }
abbrev rm_Gr_include : Room := { frames := 0, cells := 0, slots := 0, locals := 0 }
abbrev rm_Gr_endPredicate : Room := { frames := 16, cells := 0, slots := 0, locals := 10497 }
abbrev rm_Lw_prove : Room := { frames := 22, cells := 0, slots := 0, locals := 10628 }
abbrev rm_PP_prove : Room := { frames := 21, cells := 0, slots := 0, locals := 10606 }
abbrev rm_PP_makeRound : Room := { frames := 20, cells := 0, slots := 0, locals := 10586 }
abbrev rm_Se_run : Room := { frames := 17, cells := 0, slots := 0, locals := 10525 }
abbrev rm_Ar_fill_aBB : Room := { frames := 0, cells := 0, slots := 0, locals := 0 }
abbrev rm_Se_addNode : Room := { frames := 1, cells := 0, slots := 0, locals := 21 }
abbrev rm_Gr_signatureOf : Room := { frames := 0, cells := 0, slots := 0, locals := 0 }
abbrev rm_Se_take : Room := { frames := 16, cells := 0, slots := 0, locals := 10501 }
abbrev rm_Se_markReached : Room := { frames := 15, cells := 0, slots := 0, locals := 10475 }
abbrev rm_Ar_fill_aBIIB : Room := { frames := 14, cells := 0, slots := 0, locals := 10451 }
abbrev rm_Pr_choices : Room := { frames := 0, cells := 0, slots := 0, locals := 0 }
abbrev rm_Pr_step : Room := { frames := 1, cells := 0, slots := 0, locals := 24 }
abbrev rm_Se_tracePath : Room := { frames := 0, cells := 0, slots := 0, locals := 0 }
abbrev rm_Re_succeeds : Room := { frames := 4, cells := 0, slots := 0, locals := 98 }
abbrev rm_Ar_fill_aJJ : Room := { frames := 0, cells := 0, slots := 0, locals := 0 }
abbrev rm_Re_openBefore : Room := { frames := 3, cells := 0, slots := 0, locals := 74 }
abbrev rm_Re_leastInput : Room := { frames := 2, cells := 0, slots := 0, locals := 48 }
abbrev rm_Re_isOpen : Room := { frames := 0, cells := 0, slots := 0, locals := 0 }
abbrev rm_Re_collectInputs : Room := { frames := 3, cells := 0, slots := 0, locals := 74 }
abbrev rm_Rf_refine : Room := { frames := 19, cells := 0, slots := 0, locals := 10564 }
abbrev rm_Rf_passEdge : Room := { frames := 2, cells := 0, slots := 0, locals := 62 }
abbrev rm_Rf_takeAlong : Room := { frames := 1, cells := 0, slots := 0, locals := 24 }
abbrev rm_Rf_rowsInUse : Room := { frames := 0, cells := 0, slots := 0, locals := 0 }
abbrev rm_Rf_pullBack : Room := { frames := 1, cells := 0, slots := 0, locals := 39 }
abbrev rm_Rf_leaveBehind : Room := { frames := 0, cells := 0, slots := 0, locals := 0 }
abbrev rm_Rf_adoptTaken : Room := { frames := 18, cells := 0, slots := 0, locals := 10540 }
abbrev rm_Gr_splitting : Room := { frames := 0, cells := 0, slots := 0, locals := 0 }
abbrev rm_Rf_adopt : Room := { frames := 17, cells := 0, slots := 0, locals := 10517 }
abbrev rm_Rf_adoptVariableBit : Room := { frames := 18, cells := 0, slots := 0, locals := 10540 }
abbrev rm_Lw_holds : Room := { frames := 14, cells := 0, slots := 0, locals := 10451 }
abbrev rm_PP_holds : Room := { frames := 13, cells := 0, slots := 0, locals := 10429 }
abbrev rm_Sp_contains : Room := { frames := 0, cells := 0, slots := 0, locals := 0 }
abbrev rm_Lw_signature : Room := { frames := 14, cells := 0, slots := 0, locals := 10450 }
abbrev rm_PP_signature : Room := { frames := 13, cells := 0, slots := 0, locals := 10429 }
abbrev rm_Lw_follow : Room := { frames := 14, cells := 0, slots := 0, locals := 10452 }
abbrev rm_PP_follow : Room := { frames := 13, cells := 0, slots := 0, locals := 10429 }
abbrev rm_Lw_node : Room := { frames := 14, cells := 0, slots := 0, locals := 10451 }
abbrev rm_PP_node : Room := { frames := 13, cells := 0, slots := 0, locals := 10429 }
abbrev rm_Lw_path : Room := { frames := 14, cells := 0, slots := 0, locals := 10450 }
abbrev rm_PP_path : Room := { frames := 13, cells := 0, slots := 0, locals := 10429 }
abbrev rm_Lw_input : Room := { frames := 14, cells := 0, slots := 0, locals := 10450 }
abbrev rm_PP_input : Room := { frames := 13, cells := 0, slots := 0, locals := 10429 }
abbrev rm_Mo_init : Room := { frames := 1, cells := 0, slots := 0, locals := 20 }
abbrev rm_Mo_thrown : Room := { frames := 0, cells := 0, slots := 0, locals := 0 }
abbrev rm_Mo_type : Room := { frames := 0, cells := 0, slots := 0, locals := 0 }
abbrev rm_Mo_wipe : Room := { frames := 0, cells := 0, slots := 0, locals := 0 }
abbrev rm_Mo_edge : Room := { frames := 4, cells := 0, slots := 0, locals := 96 }
abbrev rm_Mo_at : Room := { frames := 0, cells := 0, slots := 0, locals := 0 }
abbrev rm_Mo_isLocation : Room := { frames := 0, cells := 0, slots := 0, locals := 0 }
abbrev rm_Mo_fail : Room := { frames := 0, cells := 0, slots := 0, locals := 0 }
abbrev rm_Mo_isVariable : Room := { frames := 0, cells := 0, slots := 0, locals := 0 }
abbrev rm_Mo_relationAt : Room := { frames := 2, cells := 0, slots := 0, locals := 47 }
abbrev rm_Mo_termEnd : Room := { frames := 1, cells := 0, slots := 0, locals := 21 }
abbrev rm_Mo_isSign : Room := { frames := 0, cells := 0, slots := 0, locals := 0 }
abbrev rm_Mo_isRelation : Room := { frames := 0, cells := 0, slots := 0, locals := 0 }
abbrev rm_Mo_worked : Room := { frames := 2, cells := 0, slots := 0, locals := 44 }
abbrev rm_Mo_join : Room := { frames := 0, cells := 0, slots := 0, locals := 0 }
abbrev rm_Mo_part : Room := { frames := 1, cells := 0, slots := 0, locals := 22 }
abbrev rm_Mo_valueOf : Room := { frames := 0, cells := 0, slots := 0, locals := 0 }
abbrev rm_Mo_atom : Room := { frames := 3, cells := 0, slots := 0, locals := 71 }
abbrev rm_Mo_forget : Room := { frames := 0, cells := 0, slots := 0, locals := 0 }
abbrev rm_Mo_predicate : Room := { frames := 4, cells := 0, slots := 0, locals := 96 }
abbrev rm_Mo_addWork : Room := { frames := 0, cells := 0, slots := 0, locals := 0 }
abbrev rm_Mo_clear : Room := { frames := 1, cells := 0, slots := 0, locals := 20 }
abbrev rm_Mo_prove : Room := { frames := 6, cells := 0, slots := 0, locals := 138 }
abbrev rm_Mo_search : Room := { frames := 4, cells := 0, slots := 0, locals := 91 }
abbrev rm_Mo_spread : Room := { frames := 3, cells := 0, slots := 0, locals := 68 }
abbrev rm_Mo_mark : Room := { frames := 2, cells := 0, slots := 0, locals := 45 }
abbrev rm_Mo_led : Room := { frames := 1, cells := 0, slots := 0, locals := 23 }
abbrev rm_Mo_bit : Room := { frames := 0, cells := 0, slots := 0, locals := 0 }
abbrev rm_Mo_with : Room := { frames := 0, cells := 0, slots := 0, locals := 0 }
abbrev rm_Mo_isOn : Room := { frames := 1, cells := 0, slots := 0, locals := 22 }
abbrev rm_Mo_known : Room := { frames := 0, cells := 0, slots := 0, locals := 0 }
abbrev rm_Mo_isTrue : Room := { frames := 4, cells := 0, slots := 0, locals := 91 }
abbrev rm_Mo_store : Room := { frames := 0, cells := 0, slots := 0, locals := 0 }
abbrev rm_Mo_before : Room := { frames := 3, cells := 0, slots := 0, locals := 69 }
abbrev rm_Mo_leadsIn : Room := { frames := 2, cells := 0, slots := 0, locals := 45 }
abbrev rm_Mo_isIn : Room := { frames := 1, cells := 0, slots := 0, locals := 22 }
abbrev rm_Mo_refine : Room := { frames := 5, cells := 0, slots := 0, locals := 114 }
abbrev rm_Mo_along : Room := { frames := 4, cells := 0, slots := 0, locals := 91 }
abbrev rm_Mo_fetch : Room := { frames := 2, cells := 0, slots := 0, locals := 44 }
abbrev rm_Mo_hangsOn : Room := { frames := 1, cells := 0, slots := 0, locals := 23 }
abbrev rm_Mo_offer : Room := { frames := 1, cells := 0, slots := 0, locals := 22 }
abbrev rm_Mo_splits : Room := { frames := 0, cells := 0, slots := 0, locals := 0 }
abbrev rm_Mo_outcome : Room := { frames := 0, cells := 0, slots := 0, locals := 0 }
abbrev rm_Mo_edges : Room := { frames := 0, cells := 0, slots := 0, locals := 0 }
abbrev rm_Mo_predicates : Room := { frames := 0, cells := 0, slots := 0, locals := 0 }
abbrev rm_Mo_holds : Room := { frames := 1, cells := 0, slots := 0, locals := 22 }
abbrev rm_Mo_isState : Room := { frames := 0, cells := 0, slots := 0, locals := 0 }
abbrev rm_Mo_signature : Room := { frames := 1, cells := 0, slots := 0, locals := 21 }
abbrev rm_Mo_follow : Room := { frames := 2, cells := 0, slots := 0, locals := 45 }
abbrev rm_Mo_nodes : Room := { frames := 0, cells := 0, slots := 0, locals := 0 }
abbrev rm_Mo_node : Room := { frames := 1, cells := 0, slots := 0, locals := 21 }
abbrev rm_Mo_length : Room := { frames := 0, cells := 0, slots := 0, locals := 0 }
abbrev rm_Mo_path : Room := { frames := 1, cells := 0, slots := 0, locals := 21 }
abbrev rm_Mo_input : Room := { frames := 1, cells := 0, slots := 0, locals := 21 }
theorem gG {c0 : Cond} {y : MethodName} {bytes : ByteArray} {maxL : Nat} {ret : Option FieldType} (h : Cond.code y bytes maxL ret ∈ WT) : GoodIn (c0 :: WT) (Cond.code y bytes maxL ret :: WT) := fun w hw => by
  rcases List.mem_cons.mp hw with h1 | h2
  · rw [h1]; exact ⟨List.mem_cons_of_mem _ h, WT_good _ h⟩
  · exact ⟨List.mem_cons_of_mem _ h2, WT_good _ h2⟩
def gMV (y : MethodName) (bytes : ByteArray) (maxL : Nat) (ret : Option FieldType) (n : Nat) : Prop := Cond.code y bytes maxL ret ∈ WT ∧ Cond.instanceMethod y ∈ WT ∧ Cond.selects y.cls y y ∈ WT ∧ Cond.initialized y.cls ∈ WT ∧ y.cls ≠ "java/lang/invoke/MethodHandle" ∧ y.cls ≠ "java/lang/invoke/VarHandle" ∧ (parseMethodDescriptor y.desc).map (fun d => d.parameters.length) = some n
def gMS (y : MethodName) (bytes : ByteArray) (maxL : Nat) (ret : Option FieldType) (n : Nat) : Prop := Cond.code y bytes maxL ret ∈ WT ∧ Cond.static y ∈ WT ∧ Cond.initialized y.cls ∈ WT ∧ y.cls ≠ "java/lang/invoke/MethodHandle" ∧ y.cls ≠ "java/lang/invoke/VarHandle" ∧ (parseMethodDescriptor y.desc).map (fun d => d.parameters.length) = some n
section GXC
variable {p : Program} {l : Launch} {e : Env} {R : Room} {s : State} {m : MethodId} {args : Array Value} {below : List Frame} {meth : Method} {c : Code} {Q : State → Prop} {nL cells slots pc : Nat} {A : Nat → Prop} {D : va_G} {cl : List vw_C} {ca : Nat → ClassId} {ks : List Nat} {lay : Nat → gxE} {ad : Nat → Nat}
variable {ls : List (Nat × xV)} {st : List xV} {F : Nat → Nat → Int32} {L : Nat → Nat → Int64} {cc : ByteArray} {own : String} {c0 : Cond} {post : Option xV → (Nat → Nat → Int32) → (Nat → Nat → Int64) → Prop}
/-- a call of an instance method of ours, private or not -/
theorem gx_callV (X : GC p s m args meth c cc nL own (c0 :: WT) A D cl ca ks ad) {index n maxL k N ci : Nat} {y : MethodName} {bytes : ByteArray} {ret : Option FieldType} {rm : Room} {av rest st0 : List xV} {T : u_T} {fs : List (Option Nat)}
    (d : decode cc pc = .ok (.invokevirtual index, 3)) (hm : gMV y bytes maxL ret n) (hlink : Cond.methodLink own index y ∈ WT) (hcon : Con l y (Cond.code y bytes maxL ret :: WT) rm D cl ca ks lay ad (xR k :: av) F L post)
    (hk : k ∈ ks) (hlay : lay k = Sum.inl (ci, fs)) (hc : cl[ci]? = some (y.cls, T, N)) (hn : av.length = n) (hst : st0 = av.reverse ++ xR k :: rest) (h8 : (rest.map (fun v => cond (gxis v) 2 1)).sum ≤ 8) (hR : rm.frames + 1 ≤ R.frames ∧ 8 + (maxL + 11) + rm.locals ≤ R.locals) (hrc : rm.cells = 0 ∧ rm.slots = 0) (hcs : cells ≤ R.cells ∧ slots ≤ R.slots)
    (kk : ∀ (r : Option xV) (F' : Nat → Nat → Int32) (L' : Nat → Nat → Int64), post r F' L' → GX p l e R s m args below meth c Q nL A D cl ca ks lay ad cells slots (pc + 3) ls (r.toList ++ rest) F' L') : GX p l e R s m args below meth c Q nL A D cl ca ks lay ad cells slots pc ls st0 F L := by
  subst hst
  obtain ⟨hcode, him, hsel, hini, hd1, hd2, hd3⟩ := hm
  have hts := X.1.2.2.2.2
  have ok : ∀ w, w ∈ WT → w.before args s = true := fun w h => hts w (List.mem_cons_of_mem _ h)
  refine gx_go X (post := post) (a := (Value.ref (ad k) :: av.map (gxv ad)).toArray) (rest := rest) (fun H locs la hsz hP => ?_) kk
  obtain ⟨q, hq⟩ := List.getElem?_of_mem hk
  have ha := gxw_at (lay := lay) (ca := ca) (ad := ad) (F := F) (L := L) hq
  rw [hlay] at ha
  have ha : (gxw ks lay ca ad F L)[q]? = some (ad k, .inr (ci, gxfl ad (F k) 0 fs)) := ha
  have hrecv := va_recv X.2.1 hP hc ha
  have cw : CallW R s args own y.cls index y bytes maxL ret (Cond.code y bytes maxL ret :: WT) rm 0 0 n := ⟨callB_of n hts (gG hcode) rfl hrc.1 hrc.2 (ok _ hini) (ok _ hlink) ⟨hd1, hd2, hd3⟩ hR, ok _ him, ok _ hsel⟩
  exact va_runV (g := F0 m pc la ((av.reverse ++ xR k :: rest).map (gxv ad))) X.1 (hcon H.size) cw ⟨gxP_blind (av := xR k :: av), hrecv, fun U hU hW => gxP_at X (av := xR k :: av) hP U hU hW⟩ rfl (by rw [List.length_map]; exact hn) hsz (by simp [gxv]) (gx_cat8 h8) d (by simpa using hcs)
/-- a call of a static method -/
theorem gx_callS (X : GC p s m args meth c cc nL own (c0 :: WT) A D cl ca ks ad) {index n maxL : Nat} {y : MethodName} {bytes : ByteArray} {ret : Option FieldType} {rm : Room} {av rest st0 : List xV}
    (d : decode cc pc = .ok (.invokestatic index, 3)) (hm : gMS y bytes maxL ret n) (hlink : Cond.methodLink own index y ∈ WT) (hcon : Con l y (Cond.code y bytes maxL ret :: WT) rm D cl ca ks lay ad av F L post)
    (hn : av.length = n) (hst : st0 = av.reverse ++ rest) (h8 : (rest.map (fun v => cond (gxis v) 2 1)).sum ≤ 8) (hR : rm.frames + 1 ≤ R.frames ∧ 8 + (maxL + 11) + rm.locals ≤ R.locals) (hrc : rm.cells = 0 ∧ rm.slots = 0) (hcs : cells ≤ R.cells ∧ slots ≤ R.slots)
    (kk : ∀ (r : Option xV) (F' : Nat → Nat → Int32) (L' : Nat → Nat → Int64), post r F' L' → GX p l e R s m args below meth c Q nL A D cl ca ks lay ad cells slots (pc + 3) ls (r.toList ++ rest) F' L') : GX p l e R s m args below meth c Q nL A D cl ca ks lay ad cells slots pc ls st0 F L := by
  subst hst
  obtain ⟨hcode, hstt, hini, hd1, hd2, hd3⟩ := hm
  have hts := X.1.2.2.2.2
  have ok : ∀ w, w ∈ WT → w.before args s = true := fun w h => hts w (List.mem_cons_of_mem _ h)
  refine gx_go X (post := post) (a := (av.map (gxv ad)).toArray) (rest := rest) (fun H locs la hsz hP => ?_) kk
  have cw : CallB R s args own index y bytes maxL ret (Cond.code y bytes maxL ret :: WT) rm 0 0 n ∧ (Cond.static y).before args s = true := ⟨callB_of n hts (gG hcode) rfl hrc.1 hrc.2 (ok _ hini) (ok _ hlink) ⟨hd1, hd2, hd3⟩ hR, ok _ hstt⟩
  exact va_runS (g := F0 m pc la ((av.reverse ++ rest).map (gxv ad))) X.1 (hcon H.size) cw ⟨gxP_blind (av := av), fun U hU hW => gxP_at X (av := av) hP U hU hW⟩ rfl (by rw [List.length_map]; exact hn) hsz (by simp) (gx_cat8 h8) d (by simpa using hcs)
end GXC
theorem mf_Gr_numberGroups : gMV y_Gr_numberGroups b_Gr_numberGroups 3 none 0 := ⟨wc_Gr_numberGroups, wm_Gr_numberGroups, ws_Gr_numberGroups, wi_Gr, by decide, by decide, by decide +kernel⟩
theorem mf_Ar_fill_aIIII : gMS y_Ar_fill_aIIII b_Ar_fill_aIIII 5 none 4 := ⟨wc_Ar_fill_aIIII, wt_Ar_fill_aIIII, wi_Ar, by decide, by decide, by decide +kernel⟩
theorem mf_Ar_rangeCheck : gMS y_Ar_rangeCheck b_Ar_rangeCheck 3 none 3 := ⟨wc_Ar_rangeCheck, wt_Ar_rangeCheck, wi_Ar, by decide, by decide, by decide +kernel⟩
theorem mf_Gr_placeStates : gMV y_Gr_placeStates b_Gr_placeStates 3 none 0 := ⟨wc_Gr_placeStates, wm_Gr_placeStates, ws_Gr_placeStates, wi_Gr, by decide, by decide, by decide +kernel⟩
theorem mf_Ar_fill_aII : gMS y_Ar_fill_aII b_Ar_fill_aII 4 none 2 := ⟨wc_Ar_fill_aII, wt_Ar_fill_aII, wi_Ar, by decide, by decide, by decide +kernel⟩
theorem mf_PP_type : gMV y_PP_type b_PP_type 2 (some .int) 1 := ⟨wc_PP_type, wm_PP_type, ws_PP_type, wi_PP, by decide, by decide, by decide +kernel⟩
theorem mf_Li_append : gMV y_Li_append b_Li_append 2 (some .int) 1 := ⟨wc_Li_append, wm_Li_append, ws_Li_append, wi_Li, by decide, by decide, by decide +kernel⟩
theorem mf_PP_wipe : gMV y_PP_wipe b_PP_wipe 1 none 0 := ⟨wc_PP_wipe, wm_PP_wipe, ws_PP_wipe, wi_PP, by decide, by decide, by decide +kernel⟩
theorem mf_Li_makeEmpty : gMV y_Li_makeEmpty b_Li_makeEmpty 1 none 0 := ⟨wc_Li_makeEmpty, wm_Li_makeEmpty, ws_Li_makeEmpty, wi_Li, by decide, by decide, by decide +kernel⟩
theorem mf_PP_clear : gMV y_PP_clear b_PP_clear 1 none 0 := ⟨wc_PP_clear, wm_PP_clear, ws_PP_clear, wi_PP, by decide, by decide, by decide +kernel⟩
theorem mf_Gr_dropPredicates : gMV y_Gr_dropPredicates b_Gr_dropPredicates 1 none 0 := ⟨wc_Gr_dropPredicates, wm_Gr_dropPredicates, ws_Gr_dropPredicates, wi_Gr, by decide, by decide, by decide +kernel⟩
theorem mf_PP_forgetSearch : gMV y_PP_forgetSearch b_PP_forgetSearch 1 none 0 := ⟨wc_PP_forgetSearch, wm_PP_forgetSearch, ws_PP_forgetSearch, wi_PP, by decide, by decide, by decide +kernel⟩
theorem mf_Se_forget : gMV y_Se_forget b_Se_forget 1 none 0 := ⟨wc_Se_forget, wm_Se_forget, ws_Se_forget, wi_Se, by decide, by decide, by decide +kernel⟩
theorem mf_Re_forget : gMV y_Re_forget b_Re_forget 1 none 0 := ⟨wc_Re_forget, wm_Re_forget, ws_Re_forget, wi_Re, by decide, by decide, by decide +kernel⟩
theorem mf_PP_outcome : gMV y_PP_outcome b_PP_outcome 1 (some .int) 0 := ⟨wc_PP_outcome, wm_PP_outcome, ws_PP_outcome, wi_PP, by decide, by decide, by decide +kernel⟩
theorem mf_PP_edges : gMV y_PP_edges b_PP_edges 1 (some .int) 0 := ⟨wc_PP_edges, wm_PP_edges, ws_PP_edges, wi_PP, by decide, by decide, by decide +kernel⟩
theorem mf_PP_predicates : gMV y_PP_predicates b_PP_predicates 1 (some .int) 0 := ⟨wc_PP_predicates, wm_PP_predicates, ws_PP_predicates, wi_PP, by decide, by decide, by decide +kernel⟩
theorem mf_PP_nodes : gMV y_PP_nodes b_PP_nodes 1 (some .int) 0 := ⟨wc_PP_nodes, wm_PP_nodes, ws_PP_nodes, wi_PP, by decide, by decide, by decide +kernel⟩
theorem mf_PP_length : gMV y_PP_length b_PP_length 1 (some .int) 0 := ⟨wc_PP_length, wm_PP_length, ws_PP_length, wi_PP, by decide, by decide, by decide +kernel⟩
theorem mf_Lw_cell : gMS y_Lw_cell b_Lw_cell 2 (some .int) 2 := ⟨wc_Lw_cell, wt_Lw_cell, wi_Lw, by decide, by decide, by decide +kernel⟩
theorem mf_PP_edge : gMV y_PP_edge b_PP_edge 3 (some .int) 0 := ⟨wc_PP_edge, wm_PP_edge, ws_PP_edge, wi_PP, by decide, by decide, by decide +kernel⟩
theorem mf_Pa_readEdge : gMV y_Pa_readEdge b_Pa_readEdge 1 (some .int) 0 := ⟨wc_Pa_readEdge, wm_Pa_readEdge, ws_Pa_readEdge, wi_Pa, by decide, by decide, by decide +kernel⟩
theorem mf_Li_at : gMV y_Li_at b_Li_at 2 (some .char) 1 := ⟨wc_Li_at, wm_Li_at, ws_Li_at, wi_Li, by decide, by decide, by decide +kernel⟩
theorem mf_Pa_isLocation : gMS y_Pa_isLocation b_Pa_isLocation 1 (some .boolean) 1 := ⟨wc_Pa_isLocation, wt_Pa_isLocation, wi_Pa, by decide, by decide, by decide +kernel⟩
theorem mf_Fo_isVariable : gMS y_Fo_isVariable b_Fo_isVariable 1 (some .boolean) 1 := ⟨wc_Fo_isVariable, wt_Fo_isVariable, wi_Fo, by decide, by decide, by decide +kernel⟩
theorem mf_Pa_readTerm : gMV y_Pa_readTerm b_Pa_readTerm 2 (some .boolean) 1 := ⟨wc_Pa_readTerm, wm_Pa_readTerm, ws_Pa_readTerm, wi_Pa, by decide, by decide, by decide +kernel⟩
theorem mf_Fo_begin : gMV y_Fo_begin b_Fo_begin 1 none 0 := ⟨wc_Fo_begin, wm_Fo_begin, ws_Fo_begin, wi_Fo, by decide, by decide, by decide +kernel⟩
theorem mf_Pa_passTerm : gMV y_Pa_passTerm b_Pa_passTerm 4 (some .boolean) 1 := ⟨wc_Pa_passTerm, wm_Pa_passTerm, ws_Pa_passTerm, wi_Pa, by decide, by decide, by decide +kernel⟩
theorem mf_Pa_passPart : gMV y_Pa_passPart b_Pa_passPart 3 (some .boolean) 1 := ⟨wc_Pa_passPart, wm_Pa_passPart, ws_Pa_passPart, wi_Pa, by decide, by decide, by decide +kernel⟩
theorem mf_Fo_isDigit : gMS y_Fo_isDigit b_Fo_isDigit 1 (some .boolean) 1 := ⟨wc_Fo_isDigit, wt_Fo_isDigit, wi_Fo, by decide, by decide, by decide +kernel⟩
theorem mf_Fo_add : gMV y_Fo_add b_Fo_add 2 none 1 := ⟨wc_Fo_add, wm_Fo_add, ws_Fo_add, wi_Fo, by decide, by decide, by decide +kernel⟩
theorem mf_Pa_isOperator : gMS y_Pa_isOperator b_Pa_isOperator 1 (some .boolean) 1 := ⟨wc_Pa_isOperator, wt_Pa_isOperator, wi_Pa, by decide, by decide, by decide +kernel⟩
theorem mf_Pa_readAtom : gMV y_Pa_readAtom b_Pa_readAtom 3 (some .boolean) 1 := ⟨wc_Pa_readAtom, wm_Pa_readAtom, ws_Pa_readAtom, wi_Pa, by decide, by decide, by decide +kernel⟩
theorem mf_Pa_isComparison : gMS y_Pa_isComparison b_Pa_isComparison 1 (some .boolean) 1 := ⟨wc_Pa_isComparison, wt_Pa_isComparison, wi_Pa, by decide, by decide, by decide +kernel⟩
theorem mf_Pr_isFull : gMV y_Pr_isFull b_Pr_isFull 1 (some .boolean) 0 := ⟨wc_Pr_isFull, wm_Pr_isFull, ws_Pr_isFull, wi_Pr, by decide, by decide, by decide +kernel⟩
theorem mf_Pr_add : gMV y_Pr_add b_Pr_add 6 (some .int) 3 := ⟨wc_Pr_add, wm_Pr_add, ws_Pr_add, wi_Pr, by decide, by decide, by decide +kernel⟩
theorem mf_Pr_targetOf : gMV y_Pr_targetOf b_Pr_targetOf 5 (some .int) 3 := ⟨wc_Pr_targetOf, wm_Pr_targetOf, ws_Pr_targetOf, wi_Pr, by decide, by decide, by decide +kernel⟩
theorem mf_Sp_write : gMV y_Sp_write b_Sp_write 5 (some .int) 3 := ⟨wc_Sp_write, wm_Sp_write, ws_Sp_write, wi_Sp, by decide, by decide, by decide +kernel⟩
theorem mf_Fo_valueIn : gMV y_Fo_valueIn b_Fo_valueIn 5 (some .int) 1 := ⟨wc_Fo_valueIn, wm_Fo_valueIn, ws_Fo_valueIn, wi_Fo, by decide, by decide, by decide +kernel⟩
theorem mf_Sp_read : gMV y_Sp_read b_Sp_read 3 (some .int) 2 := ⟨wc_Sp_read, wm_Sp_read, ws_Sp_read, wi_Sp, by decide, by decide, by decide +kernel⟩
theorem mf_Fo_combine : gMS y_Fo_combine b_Fo_combine 3 (some .int) 3 := ⟨wc_Fo_combine, wt_Fo_combine, wi_Fo, by decide, by decide, by decide +kernel⟩
theorem mf_PP_predicate : gMV y_PP_predicate b_PP_predicate 3 (some .int) 0 := ⟨wc_PP_predicate, wm_PP_predicate, ws_PP_predicate, wi_PP, by decide, by decide, by decide +kernel⟩
theorem mf_Gr_isFull : gMV y_Gr_isFull b_Gr_isFull 1 (some .boolean) 0 := ⟨wc_Gr_isFull, wm_Gr_isFull, ws_Gr_isFull, wi_Gr, by decide, by decide, by decide +kernel⟩
theorem mf_Gr_include : gMV y_Gr_include b_Gr_include 2 none 1 := ⟨wc_Gr_include, wm_Gr_include, ws_Gr_include, wi_Gr, by decide, by decide, by decide +kernel⟩
theorem mf_Gr_endPredicate : gMV y_Gr_endPredicate b_Gr_endPredicate 1 none 0 := ⟨wc_Gr_endPredicate, wm_Gr_endPredicate, ws_Gr_endPredicate, wi_Gr, by decide, by decide, by decide +kernel⟩
theorem mf_PP_prove : gMV y_PP_prove b_PP_prove 3 (some .int) 1 := ⟨wc_PP_prove, wm_PP_prove, ws_PP_prove, wi_PP, by decide, by decide, by decide +kernel⟩
theorem mf_PP_makeRound : gMV y_PP_makeRound b_PP_makeRound 1 (some .int) 0 := ⟨wc_PP_makeRound, wm_PP_makeRound, ws_PP_makeRound, wi_PP, by decide, by decide, by decide +kernel⟩
theorem mf_Se_run : gMV y_Se_run b_Se_run 4 none 0 := ⟨wc_Se_run, wm_Se_run, ws_Se_run, wi_Se, by decide, by decide, by decide +kernel⟩
theorem mf_Ar_fill_aBB : gMS y_Ar_fill_aBB b_Ar_fill_aBB 4 none 2 := ⟨wc_Ar_fill_aBB, wt_Ar_fill_aBB, wi_Ar, by decide, by decide, by decide +kernel⟩
theorem mf_Se_addNode : gMV y_Se_addNode b_Se_addNode 5 none 4 := ⟨wc_Se_addNode, wm_Se_addNode, ws_Se_addNode, wi_Se, by decide, by decide, by decide +kernel⟩
theorem mf_Gr_signatureOf : gMV y_Gr_signatureOf b_Gr_signatureOf 2 (some .int) 1 := ⟨wc_Gr_signatureOf, wm_Gr_signatureOf, ws_Gr_signatureOf, wi_Gr, by decide, by decide, by decide +kernel⟩
theorem mf_Se_take : gMV y_Se_take b_Se_take 5 (some .boolean) 2 := ⟨wc_Se_take, wm_Se_take, ws_Se_take, wi_Se, by decide, by decide, by decide +kernel⟩
theorem mf_Se_markReached : gMV y_Se_markReached b_Se_markReached 7 none 2 := ⟨wc_Se_markReached, wm_Se_markReached, ws_Se_markReached, wi_Se, by decide, by decide, by decide +kernel⟩
theorem mf_Ar_fill_aBIIB : gMS y_Ar_fill_aBIIB b_Ar_fill_aBIIB 5 none 4 := ⟨wc_Ar_fill_aBIIB, wt_Ar_fill_aBIIB, wi_Ar, by decide, by decide, by decide +kernel⟩
theorem mf_Pr_choices : gMV y_Pr_choices b_Pr_choices 2 (some .int) 1 := ⟨wc_Pr_choices, wm_Pr_choices, ws_Pr_choices, wi_Pr, by decide, by decide, by decide +kernel⟩
theorem mf_Pr_step : gMV y_Pr_step b_Pr_step 5 (some .int) 3 := ⟨wc_Pr_step, wm_Pr_step, ws_Pr_step, wi_Pr, by decide, by decide, by decide +kernel⟩
theorem mf_Se_tracePath : gMV y_Se_tracePath b_Se_tracePath 4 none 1 := ⟨wc_Se_tracePath, wm_Se_tracePath, ws_Se_tracePath, wi_Se, by decide, by decide, by decide +kernel⟩
theorem mf_Re_succeeds : gMV y_Re_succeeds b_Re_succeeds 2 (some .boolean) 0 := ⟨wc_Re_succeeds, wm_Re_succeeds, ws_Re_succeeds, wi_Re, by decide, by decide, by decide +kernel⟩
theorem mf_Ar_fill_aJJ : gMS y_Ar_fill_aJJ b_Ar_fill_aJJ 5 none 2 := ⟨wc_Ar_fill_aJJ, wt_Ar_fill_aJJ, wi_Ar, by decide, by decide, by decide +kernel⟩
theorem mf_Re_openBefore : gMV y_Re_openBefore b_Re_openBefore 3 none 1 := ⟨wc_Re_openBefore, wm_Re_openBefore, ws_Re_openBefore, wi_Re, by decide, by decide, by decide +kernel⟩
theorem mf_Re_leastInput : gMV y_Re_leastInput b_Re_leastInput 7 (some .int) 2 := ⟨wc_Re_leastInput, wm_Re_leastInput, ws_Re_leastInput, wi_Re, by decide, by decide, by decide +kernel⟩
theorem mf_Re_isOpen : gMV y_Re_isOpen b_Re_isOpen 3 (some .boolean) 2 := ⟨wc_Re_isOpen, wm_Re_isOpen, ws_Re_isOpen, wi_Re, by decide, by decide, by decide +kernel⟩
theorem mf_Re_collectInputs : gMV y_Re_collectInputs b_Re_collectInputs 5 none 0 := ⟨wc_Re_collectInputs, wm_Re_collectInputs, ws_Re_collectInputs, wi_Re, by decide, by decide, by decide +kernel⟩
theorem mf_Rf_refine : gMV y_Rf_refine b_Rf_refine 3 (some .boolean) 0 := ⟨wc_Rf_refine, wm_Rf_refine, ws_Rf_refine, wi_Rf, by decide, by decide, by decide +kernel⟩
theorem mf_Rf_passEdge : gMV y_Rf_passEdge b_Rf_passEdge 4 none 1 := ⟨wc_Rf_passEdge, wm_Rf_passEdge, ws_Rf_passEdge, wi_Rf, by decide, by decide, by decide +kernel⟩
theorem mf_Rf_takeAlong : gMV y_Rf_takeAlong b_Rf_takeAlong 5 none 1 := ⟨wc_Rf_takeAlong, wm_Rf_takeAlong, ws_Rf_takeAlong, wi_Rf, by decide, by decide, by decide +kernel⟩
theorem mf_Rf_rowsInUse : gMV y_Rf_rowsInUse b_Rf_rowsInUse 1 (some .int) 0 := ⟨wc_Rf_rowsInUse, wm_Rf_rowsInUse, ws_Rf_rowsInUse, wi_Rf, by decide, by decide, by decide +kernel⟩
theorem mf_Rf_pullBack : gMV y_Rf_pullBack b_Rf_pullBack 4 none 2 := ⟨wc_Rf_pullBack, wm_Rf_pullBack, ws_Rf_pullBack, wi_Rf, by decide, by decide, by decide +kernel⟩
theorem mf_Rf_leaveBehind : gMV y_Rf_leaveBehind b_Rf_leaveBehind 6 none 2 := ⟨wc_Rf_leaveBehind, wm_Rf_leaveBehind, ws_Rf_leaveBehind, wi_Rf, by decide, by decide, by decide +kernel⟩
theorem mf_Rf_adoptTaken : gMV y_Rf_adoptTaken b_Rf_adoptTaken 5 (some .boolean) 0 := ⟨wc_Rf_adoptTaken, wm_Rf_adoptTaken, ws_Rf_adoptTaken, wi_Rf, by decide, by decide, by decide +kernel⟩
theorem mf_Gr_splitting : gMV y_Gr_splitting b_Gr_splitting 5 (some .long) 1 := ⟨wc_Gr_splitting, wm_Gr_splitting, ws_Gr_splitting, wi_Gr, by decide, by decide, by decide +kernel⟩
theorem mf_Rf_adopt : gMV y_Rf_adopt b_Rf_adopt 4 none 2 := ⟨wc_Rf_adopt, wm_Rf_adopt, ws_Rf_adopt, wi_Rf, by decide, by decide, by decide +kernel⟩
theorem mf_Rf_adoptVariableBit : gMV y_Rf_adoptVariableBit b_Rf_adoptVariableBit 4 (some .boolean) 0 := ⟨wc_Rf_adoptVariableBit, wm_Rf_adoptVariableBit, ws_Rf_adoptVariableBit, wi_Rf, by decide, by decide, by decide +kernel⟩
theorem mf_PP_holds : gMV y_PP_holds b_PP_holds 3 (some .boolean) 2 := ⟨wc_PP_holds, wm_PP_holds, ws_PP_holds, wi_PP, by decide, by decide, by decide +kernel⟩
theorem mf_Sp_contains : gMV y_Sp_contains b_Sp_contains 2 (some .boolean) 1 := ⟨wc_Sp_contains, wm_Sp_contains, ws_Sp_contains, wi_Sp, by decide, by decide, by decide +kernel⟩
theorem mf_PP_signature : gMV y_PP_signature b_PP_signature 2 (some .short) 1 := ⟨wc_PP_signature, wm_PP_signature, ws_PP_signature, wi_PP, by decide, by decide, by decide +kernel⟩
theorem mf_PP_follow : gMV y_PP_follow b_PP_follow 4 (some .int) 3 := ⟨wc_PP_follow, wm_PP_follow, ws_PP_follow, wi_PP, by decide, by decide, by decide +kernel⟩
theorem mf_PP_node : gMV y_PP_node b_PP_node 3 (some .int) 2 := ⟨wc_PP_node, wm_PP_node, ws_PP_node, wi_PP, by decide, by decide, by decide +kernel⟩
theorem mf_PP_path : gMV y_PP_path b_PP_path 2 (some .int) 1 := ⟨wc_PP_path, wm_PP_path, ws_PP_path, wi_PP, by decide, by decide, by decide +kernel⟩
theorem mf_PP_input : gMV y_PP_input b_PP_input 2 (some .int) 1 := ⟨wc_PP_input, wm_PP_input, ws_PP_input, wi_PP, by decide, by decide, by decide +kernel⟩
theorem mf_Mo_thrown : gMV y_Mo_thrown b_Mo_thrown 1 (some .int) 0 := ⟨wc_Mo_thrown, wm_Mo_thrown, ws_Mo_thrown, wi_Mo, by decide, by decide, by decide +kernel⟩
theorem mf_Mo_type : gMV y_Mo_type b_Mo_type 2 (some .int) 1 := ⟨wc_Mo_type, wm_Mo_type, ws_Mo_type, wi_Mo, by decide, by decide, by decide +kernel⟩
theorem mf_Mo_wipe : gMV y_Mo_wipe b_Mo_wipe 1 none 0 := ⟨wc_Mo_wipe, wm_Mo_wipe, ws_Mo_wipe, wi_Mo, by decide, by decide, by decide +kernel⟩
theorem mf_Mo_edge : gMV y_Mo_edge b_Mo_edge 9 (some .int) 0 := ⟨wc_Mo_edge, wm_Mo_edge, ws_Mo_edge, wi_Mo, by decide, by decide, by decide +kernel⟩
theorem mf_Mo_at : gMV y_Mo_at b_Mo_at 2 (some .int) 1 := ⟨wc_Mo_at, wm_Mo_at, ws_Mo_at, wi_Mo, by decide, by decide, by decide +kernel⟩
theorem mf_Mo_isLocation : gMS y_Mo_isLocation b_Mo_isLocation 1 (some .boolean) 1 := ⟨wc_Mo_isLocation, wt_Mo_isLocation, wi_Mo, by decide, by decide, by decide +kernel⟩
theorem mf_Mo_fail : gMV y_Mo_fail b_Mo_fail 2 (some .int) 1 := ⟨wc_Mo_fail, wm_Mo_fail, ws_Mo_fail, wi_Mo, by decide, by decide, by decide +kernel⟩
theorem mf_Mo_isVariable : gMS y_Mo_isVariable b_Mo_isVariable 1 (some .boolean) 1 := ⟨wc_Mo_isVariable, wt_Mo_isVariable, wi_Mo, by decide, by decide, by decide +kernel⟩
theorem mf_Mo_relationAt : gMV y_Mo_relationAt b_Mo_relationAt 3 (some .int) 1 := ⟨wc_Mo_relationAt, wm_Mo_relationAt, ws_Mo_relationAt, wi_Mo, by decide, by decide, by decide +kernel⟩
theorem mf_Mo_termEnd : gMV y_Mo_termEnd b_Mo_termEnd 7 (some .int) 1 := ⟨wc_Mo_termEnd, wm_Mo_termEnd, ws_Mo_termEnd, wi_Mo, by decide, by decide, by decide +kernel⟩
theorem mf_Mo_isSign : gMS y_Mo_isSign b_Mo_isSign 1 (some .boolean) 1 := ⟨wc_Mo_isSign, wt_Mo_isSign, wi_Mo, by decide, by decide, by decide +kernel⟩
theorem mf_Mo_isRelation : gMS y_Mo_isRelation b_Mo_isRelation 1 (some .boolean) 1 := ⟨wc_Mo_isRelation, wt_Mo_isRelation, wi_Mo, by decide, by decide, by decide +kernel⟩
theorem mf_Mo_worked : gMV y_Mo_worked b_Mo_worked 8 (some .int) 3 := ⟨wc_Mo_worked, wm_Mo_worked, ws_Mo_worked, wi_Mo, by decide, by decide, by decide +kernel⟩
theorem mf_Mo_join : gMV y_Mo_join b_Mo_join 5 none 2 := ⟨wc_Mo_join, wm_Mo_join, ws_Mo_join, wi_Mo, by decide, by decide, by decide +kernel⟩
theorem mf_Mo_part : gMV y_Mo_part b_Mo_part 3 (some .int) 2 := ⟨wc_Mo_part, wm_Mo_part, ws_Mo_part, wi_Mo, by decide, by decide, by decide +kernel⟩
theorem mf_Mo_valueOf : gMV y_Mo_valueOf b_Mo_valueOf 3 (some .int) 2 := ⟨wc_Mo_valueOf, wm_Mo_valueOf, ws_Mo_valueOf, wi_Mo, by decide, by decide, by decide +kernel⟩
theorem mf_Mo_atom : gMV y_Mo_atom b_Mo_atom 6 (some .boolean) 3 := ⟨wc_Mo_atom, wm_Mo_atom, ws_Mo_atom, wi_Mo, by decide, by decide, by decide +kernel⟩
theorem mf_Mo_forget : gMV y_Mo_forget b_Mo_forget 1 none 0 := ⟨wc_Mo_forget, wm_Mo_forget, ws_Mo_forget, wi_Mo, by decide, by decide, by decide +kernel⟩
theorem mf_Mo_predicate : gMV y_Mo_predicate b_Mo_predicate 3 (some .int) 0 := ⟨wc_Mo_predicate, wm_Mo_predicate, ws_Mo_predicate, wi_Mo, by decide, by decide, by decide +kernel⟩
theorem mf_Mo_addWork : gMV y_Mo_addWork b_Mo_addWork 2 none 0 := ⟨wc_Mo_addWork, wm_Mo_addWork, ws_Mo_addWork, wi_Mo, by decide, by decide, by decide +kernel⟩
theorem mf_Mo_clear : gMV y_Mo_clear b_Mo_clear 2 none 0 := ⟨wc_Mo_clear, wm_Mo_clear, ws_Mo_clear, wi_Mo, by decide, by decide, by decide +kernel⟩
theorem mf_Mo_prove : gMV y_Mo_prove b_Mo_prove 5 (some .int) 1 := ⟨wc_Mo_prove, wm_Mo_prove, ws_Mo_prove, wi_Mo, by decide, by decide, by decide +kernel⟩
theorem mf_Mo_search : gMV y_Mo_search b_Mo_search 4 none 0 := ⟨wc_Mo_search, wm_Mo_search, ws_Mo_search, wi_Mo, by decide, by decide, by decide +kernel⟩
theorem mf_Mo_spread : gMV y_Mo_spread b_Mo_spread 4 (some .boolean) 2 := ⟨wc_Mo_spread, wm_Mo_spread, ws_Mo_spread, wi_Mo, by decide, by decide, by decide +kernel⟩
theorem mf_Mo_mark : gMV y_Mo_mark b_Mo_mark 4 none 2 := ⟨wc_Mo_mark, wm_Mo_mark, ws_Mo_mark, wi_Mo, by decide, by decide, by decide +kernel⟩
theorem mf_Mo_led : gMV y_Mo_led b_Mo_led 3 (some .int) 2 := ⟨wc_Mo_led, wm_Mo_led, ws_Mo_led, wi_Mo, by decide, by decide, by decide +kernel⟩
theorem mf_Mo_bit : gMS y_Mo_bit b_Mo_bit 3 (some .int) 3 := ⟨wc_Mo_bit, wt_Mo_bit, wi_Mo, by decide, by decide, by decide +kernel⟩
theorem mf_Mo_with : gMV y_Mo_with b_Mo_with 4 (some .int) 3 := ⟨wc_Mo_with, wm_Mo_with, ws_Mo_with, wi_Mo, by decide, by decide, by decide +kernel⟩
theorem mf_Mo_isOn : gMV y_Mo_isOn b_Mo_isOn 3 (some .boolean) 2 := ⟨wc_Mo_isOn, wm_Mo_isOn, ws_Mo_isOn, wi_Mo, by decide, by decide, by decide +kernel⟩
theorem mf_Mo_known : gMV y_Mo_known b_Mo_known 4 (some .boolean) 2 := ⟨wc_Mo_known, wm_Mo_known, ws_Mo_known, wi_Mo, by decide, by decide, by decide +kernel⟩
theorem mf_Mo_isTrue : gMV y_Mo_isTrue b_Mo_isTrue 5 (some .boolean) 0 := ⟨wc_Mo_isTrue, wm_Mo_isTrue, ws_Mo_isTrue, wi_Mo, by decide, by decide, by decide +kernel⟩
theorem mf_Mo_store : gMV y_Mo_store b_Mo_store 3 none 1 := ⟨wc_Mo_store, wm_Mo_store, ws_Mo_store, wi_Mo, by decide, by decide, by decide +kernel⟩
theorem mf_Mo_before : gMV y_Mo_before b_Mo_before 3 none 1 := ⟨wc_Mo_before, wm_Mo_before, ws_Mo_before, wi_Mo, by decide, by decide, by decide +kernel⟩
theorem mf_Mo_leadsIn : gMV y_Mo_leadsIn b_Mo_leadsIn 5 (some .boolean) 2 := ⟨wc_Mo_leadsIn, wm_Mo_leadsIn, ws_Mo_leadsIn, wi_Mo, by decide, by decide, by decide +kernel⟩
theorem mf_Mo_isIn : gMV y_Mo_isIn b_Mo_isIn 3 (some .boolean) 2 := ⟨wc_Mo_isIn, wm_Mo_isIn, ws_Mo_isIn, wi_Mo, by decide, by decide, by decide +kernel⟩
theorem mf_Mo_refine : gMV y_Mo_refine b_Mo_refine 5 (some .int) 0 := ⟨wc_Mo_refine, wm_Mo_refine, ws_Mo_refine, wi_Mo, by decide, by decide, by decide +kernel⟩
theorem mf_Mo_along : gMV y_Mo_along b_Mo_along 4 none 1 := ⟨wc_Mo_along, wm_Mo_along, ws_Mo_along, wi_Mo, by decide, by decide, by decide +kernel⟩
theorem mf_Mo_fetch : gMV y_Mo_fetch b_Mo_fetch 3 none 1 := ⟨wc_Mo_fetch, wm_Mo_fetch, ws_Mo_fetch, wi_Mo, by decide, by decide, by decide +kernel⟩
theorem mf_Mo_hangsOn : gMV y_Mo_hangsOn b_Mo_hangsOn 4 (some .boolean) 1 := ⟨wc_Mo_hangsOn, wm_Mo_hangsOn, ws_Mo_hangsOn, wi_Mo, by decide, by decide, by decide +kernel⟩
theorem mf_Mo_offer : gMV y_Mo_offer b_Mo_offer 1 (some .int) 0 := ⟨wc_Mo_offer, wm_Mo_offer, ws_Mo_offer, wi_Mo, by decide, by decide, by decide +kernel⟩
theorem mf_Mo_splits : gMV y_Mo_splits b_Mo_splits 3 (some .boolean) 0 := ⟨wc_Mo_splits, wm_Mo_splits, ws_Mo_splits, wi_Mo, by decide, by decide, by decide +kernel⟩
theorem mf_Mo_outcome : gMV y_Mo_outcome b_Mo_outcome 1 (some .int) 0 := ⟨wc_Mo_outcome, wm_Mo_outcome, ws_Mo_outcome, wi_Mo, by decide, by decide, by decide +kernel⟩
theorem mf_Mo_edges : gMV y_Mo_edges b_Mo_edges 1 (some .int) 0 := ⟨wc_Mo_edges, wm_Mo_edges, ws_Mo_edges, wi_Mo, by decide, by decide, by decide +kernel⟩
theorem mf_Mo_predicates : gMV y_Mo_predicates b_Mo_predicates 1 (some .int) 0 := ⟨wc_Mo_predicates, wm_Mo_predicates, ws_Mo_predicates, wi_Mo, by decide, by decide, by decide +kernel⟩
theorem mf_Mo_holds : gMV y_Mo_holds b_Mo_holds 3 (some .boolean) 2 := ⟨wc_Mo_holds, wm_Mo_holds, ws_Mo_holds, wi_Mo, by decide, by decide, by decide +kernel⟩
theorem mf_Mo_isState : gMV y_Mo_isState b_Mo_isState 2 (some .boolean) 1 := ⟨wc_Mo_isState, wm_Mo_isState, ws_Mo_isState, wi_Mo, by decide, by decide, by decide +kernel⟩
theorem mf_Mo_signature : gMV y_Mo_signature b_Mo_signature 2 (some .short) 1 := ⟨wc_Mo_signature, wm_Mo_signature, ws_Mo_signature, wi_Mo, by decide, by decide, by decide +kernel⟩
theorem mf_Mo_follow : gMV y_Mo_follow b_Mo_follow 4 (some .int) 3 := ⟨wc_Mo_follow, wm_Mo_follow, ws_Mo_follow, wi_Mo, by decide, by decide, by decide +kernel⟩
theorem mf_Mo_nodes : gMV y_Mo_nodes b_Mo_nodes 1 (some .int) 0 := ⟨wc_Mo_nodes, wm_Mo_nodes, ws_Mo_nodes, wi_Mo, by decide, by decide, by decide +kernel⟩
theorem mf_Mo_node : gMV y_Mo_node b_Mo_node 3 (some .int) 2 := ⟨wc_Mo_node, wm_Mo_node, ws_Mo_node, wi_Mo, by decide, by decide, by decide +kernel⟩
theorem mf_Mo_length : gMV y_Mo_length b_Mo_length 1 (some .int) 0 := ⟨wc_Mo_length, wm_Mo_length, ws_Mo_length, wi_Mo, by decide, by decide, by decide +kernel⟩
theorem mf_Mo_path : gMV y_Mo_path b_Mo_path 2 (some .int) 1 := ⟨wc_Mo_path, wm_Mo_path, ws_Mo_path, wi_Mo, by decide, by decide, by decide +kernel⟩
theorem mf_Mo_input : gMV y_Mo_input b_Mo_input 2 (some .int) 1 := ⟨wc_Mo_input, wm_Mo_input, ws_Mo_input, wi_Mo, by decide, by decide, by decide +kernel⟩
