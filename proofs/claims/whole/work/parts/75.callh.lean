/-! calls of the law's helpers, and the script (own text) -/
def gMH (y : MethodName) (bytes : ByteArray) (maxL : Nat) (ret : Option FieldType) (hh : List (Nat × Nat × Nat × Nat)) (n : Nat) : Prop := Cond.codeWith y bytes maxL ret hh ∈ WT ∧ Cond.static y ∈ WT ∧ Cond.initialized y.cls ∈ WT ∧ y.cls ≠ "java/lang/invoke/MethodHandle" ∧ y.cls ≠ "java/lang/invoke/VarHandle" ∧ (parseMethodDescriptor y.desc).map (fun d => d.parameters.length) = some n
theorem gGH {c0 : Cond} {y : MethodName} {bytes : ByteArray} {maxL : Nat} {ret : Option FieldType} {hh : List (Nat × Nat × Nat × Nat)} (h : Cond.codeWith y bytes maxL ret hh ∈ WT) : GoodIn (c0 :: WT) (Cond.codeWith y bytes maxL ret hh :: WT) := fun w hw => by
  rcases List.mem_cons.mp hw with h1 | h2
  · rw [h1]; exact ⟨List.mem_cons_of_mem _ h, WT_good _ h⟩
  · exact ⟨List.mem_cons_of_mem _ h2, WT_good _ h2⟩
section GXH
variable {p : Program} {l : Launch} {e : Env} {R : Room} {s : State} {m : MethodId} {args : Array Value} {below : List Frame} {meth : Method} {c : Code} {Q : State → Prop} {nL pc cells slots : Nat} {A : Nat → Prop} {D : va_G} {cl : List vw_C} {ca : Nat → ClassId} {ks : List Nat} {lay : Nat → gxE} {ad : Nat → Nat}
variable {ls : List (Nat × xV)} {st : List xV} {F : Nat → Nat → Int32} {L : Nat → Nat → Int64} {cc : ByteArray} {own : String} {c0 : Cond} {Ts : List Cond} {post : Option xV → (Nat → Nat → Int32) → (Nat → Nat → Int64) → Prop}
theorem gxPH_blind {av : List xV} {sz : Nat} : FrameBlind (va_Pc (av.map (gxv ad)) (gxPH D cl ca ks lay ad sz F L)) := by
  intro a U g mk ⟨q0, ⟨q1, qP, qK, qD⟩, qT⟩
  exact ⟨q0, ⟨q1, qP, va_K.moved (u := U) (U := U.calling g mk a) (Vm.Alike.refl U.vm) qK, qD⟩, qT.move (U := U.calling g mk a) (State.WarmedH.refl U) (Jvm.Free.Str.KeepsShape.of_heap rfl) (fun q cell h _ => h)⟩
/-- less used is as good -/
theorem gx_wd {c2 s2 : Nat} (h1 : cells ≤ c2) (h2 : slots ≤ s2) (k : GX p l e R s m args below meth c Q nL A D cl ca ks lay ad c2 s2 pc ls st F L) : GX p l e R s m args below meth c Q nL A D cl ca ks lay ad cells slots pc ls st F L := fun H locs la hl hP hS => W.widen h1 h2 (k H locs la hl hP hS)
set_option maxHeartbeats 4000000 in
/-- a call of a static method with a catch of its own -/
theorem gx_callH (X : GC p s m args meth c cc nL own (c0 :: WT) A D cl ca ks ad) (hH : hSt s) (hstt : ∀ q, A q → ∀ cell, s.heap[q]? = some cell → cell.vm.isStatics = false) {index n maxL : Nat} {y : MethodName} {bytes : ByteArray} {ret : Option FieldType} {hh : List (Nat × Nat × Nat × Nat)} {rm : Room} {av rest st0 : List xV}
    (d : decode cc pc = .ok (.invokestatic index, 3)) (hm : gMH y bytes maxL ret hh n) (hlink : Cond.methodLink own index y ∈ WT) (hcon : ConH l y (Cond.codeWith y bytes maxL ret hh :: WT) rm D cl ca ks lay ad av F L post)
    (hn : av.length = n) (hst : st0 = av.reverse ++ rest) (h8 : (rest.map (fun v => cond (gxis v) 2 1)).sum ≤ 8) (hR : rm.frames + 1 ≤ R.frames ∧ 8 + (maxL + 11) + rm.locals ≤ R.locals) (hrc : rm.cells = 1 ∧ rm.slots = 6) (hcs : cells + 1 ≤ R.cells ∧ slots + 6 ≤ R.slots)
    (kk : ∀ (r : Option xV) (F' : Nat → Nat → Int32) (L' : Nat → Nat → Int64), post r F' L' → GX p l e R s m args below meth c Q nL A D cl ca ks lay ad (cells + 1) (slots + 6) (pc + 3) ls (r.toList ++ rest) F' L') : GX p l e R s m args below meth c Q nL A D cl ca ks lay ad cells slots pc ls st0 F L := by
  subst hst
  obtain ⟨hcode, hstc, hini, hd1, hd2, hd3⟩ := hm
  have hts := X.1.2.2.2.2
  have ok : ∀ w, w ∈ WT → w.before args s = true := fun w h => hts w (List.mem_cons_of_mem _ h)
  intro H locs la hl hP hS T hT Z
  have hws : ∀ w ∈ Cond.codeWith y bytes maxL ret hh :: WT, ∀ (a' : Array Value) (U : State), s.WarmedH U.vm → w.before a' U = true := pay_in hts (gGH hcode)
  have hK : Back l R p e below s args y 3 8 (PreOf R 1 6 (va_Pc (av.map (gxv ad)) (gxPH D cl ca ks lay ad H.size F L))) (PostOf (gxQ D cl ca ks lay ad H.size post) 1 6 (gxA ks ad H.size)) :=
    va_backW (hh := hh) (bytes := bytes) (maxL := maxL) (ret := ret) (hcon H.size) gxPH_blind hrc.1 hrc.2 hR.1 hR.2 hws List.mem_cons_self (fun a' U hW => word_at hW (WT_good _ hini) (ok _ hini))
  obtain ⟨mk, methM, cM, hnamed, hmethM, -, -, -, -, -, -, hsigM⟩ := Cond.codeWith_spec (ok _ hcode)
  have hstatic : methM.isStatic = true := Cond.static_spec hnamed hmethM (ok _ hstc)
  obtain ⟨kP, hkP, -⟩ := className_of_methodNamed hnamed
  have hinitP : kP.init = .initialized := Cond.initialized_spec (findClass_of_methodNamed hnamed) hkP (ok _ hini)
  have hlen : (av.map (gxv ad)).length = methM.sig.parameters.length := by
    rw [hsigM] at hd3
    rw [List.length_map, hn]
    exact (Option.some.inj hd3).symm
  obtain ⟨vm₁, X₁, hstep₁⟩ := Z.invokestatic X.1.1 X.1.2.2.2.1 (ok _ hlink) hnamed hmethM hstatic hkP hinitP ⟨hd1, hd2⟩ (g := F0 m pc la ((av.reverse ++ rest).map (gxv ad))) rfl (argsL := av.map (gxv ad)) (rest := rest.map (gxv ad)) hlen (by simp [F0]) (by rw [X.1.2.1]; exact d)
  have htS : hSt (T.setVm vm₁) := hH.move (U := T.setVm vm₁) X₁.warmed (Jvm.Free.Str.KeepsShape.of_stand X₁) (fun q cell hc hi => by
    show T.heap[q]? = some cell
    rw [hT, hS.2.1 q (Array.getElem?_eq_some_iff.mp hc).1 (fun z => by rw [hstt q z cell hc] at hi; cases hi)]
    exact hc)
  obtain ⟨v, B, X', hpost, hsteps⟩ := hK m meth c ⟨T.setVm vm₁, locs, cells, slots⟩ { F0 m pc la ((av.reverse ++ rest).map (gxv ad)) with stack := rest.map (gxv ad) } (.invokestatic index) mk (av.map (gxv ad)).toArray X₁ rfl (hl.1.trans X.1.2.2.1.symm) (by rw [X.1.2.1]; exact d) (gx_cat8 (m := m) (pc := pc) (ad := ad) (rest := rest) (la := la) (st0 := rest.map (gxv ad)) h8) (X₁.named hnamed) ⟨hcs.1, hcs.2, (gxP_at X (av := av) hP (T.setVm vm₁) hT X₁.warmed).1, (gxP_at X (av := av) hP (T.setVm vm₁) hT X₁.warmed).2, htS⟩
  obtain ⟨U', l2, cc2, ss2⟩ := B
  obtain ⟨g', mk', t, L2, e1, e2, hq2, e3, hL2, e4, e5⟩ := hpost
  dsimp only [Pt.U, Pt.locs, Pt.cells, Pt.slots] at X' e1 e2 e3 e4 e5 hsteps hq2
  subst e3; subst e4; subst e5
  obtain ⟨⟨r, F', L', hv, hp, hP'⟩, hz, hk⟩ := hq2
  have h7 : ((T.setVm vm₁).calling g' mk' (av.map (gxv ad)).toArray).heap = H := hT
  rw [h7] at hz hk
  have hA1 : ∀ q, gxA ks ad H.size q → A q := by
    intro q hq
    rcases hq with ⟨k, h1, rfl⟩ | h1
    · exact X.2.2.1.2 k h1
    · exact X.2.2.2.1 q (Nat.le_trans hS.1 h1)
  have hv2 : v = r.map (gxv ad) := by cases hv; rfl
  subst hv2
  obtain ⟨t2, a1, b1⟩ := kk r F' L' hp U'.heap (locs ++ L2) la hl (by rw [e1]; exact hP')
    ⟨Nat.le_trans hS.1 (by rw [e1]; exact hz), fun q h1 h2 => by rw [e1, hk q (Nat.lt_of_lt_of_le h1 hS.1) (fun z => h2 (hA1 q z))]; exact hS.2.1 q h1 h2, fun q hq => by
      rcases List.mem_append.mp hq with h | h
      · exact hS.2.2 q h
      · exact hA1 _ (hL2 q h)⟩ U' rfl X'
  have e3 : (r.toList ++ rest).map (gxv ad) = (r.map (gxv ad)).toList ++ rest.map (gxv ad) := by cases r <;> simp
  rw [e3] at a1
  exact ⟨t2, hstep₁ _ (fun acts => by rw [doInvoke_state]; exact hsteps.trans a1), b1⟩
/-- the script: its length, a number of it -/
theorem gx_slen (X : GC p s m args meth c cc nL own Ts A D cl ca ks ad) {k n : Nat} {xs : Nat → Int32} (hX : va_X (ad k) n xs s s.heap) (hb : ad k < s.heap.size) (hbA : ¬ A (ad k)) (d : decode cc pc = .ok (.arraylength, 1)) (kk : GX p l e R s m args below meth c Q nL A D cl ca ks lay ad cells slots (pc + 1) ls (xI (nI n) :: st) F L) : GX p l e R s m args below meth c Q nL A D cl ca ks lay ad cells slots pc ls (xR k :: st) F L := fun H locs la hl hP hS => va_slen X.1.1 X.1.2.1 hX hb hbA hS d (kk H locs la hl hP hS)
theorem gx_sld (X : GC p s m args meth c cc nL own Ts A D cl ca ks ad) {k n j : Nat} {i : Int32} {xs : Nat → Int32} (hX : va_X (ad k) n xs s s.heap) (hb : ad k < s.heap.size) (hbA : ¬ A (ad k)) (d : decode cc pc = .ok (.iaload, 1)) (hi : i = nI j) (hj : j < n) (hn : n < 2 ^ 31) (kk : GX p l e R s m args below meth c Q nL A D cl ca ks lay ad cells slots (pc + 1) ls (xI (xs j) :: st) F L) : GX p l e R s m args below meth c Q nL A D cl ca ks lay ad cells slots pc ls (xI i :: xR k :: st) F L := fun H locs la hl hP hS => by
  subst hi
  refine va_sld X.1.1 X.1.2.1 hX hb hbA hS (vp_in_nI hj hn) d ?_
  rw [nI_clamp (Nat.lt_trans hj hn)]
  exact kk H locs la hl hP hS
end GXH
/-- a world with the script beside it -/
def gxPS (k n : Nat) (xs : Nat → Int32) (D : va_G) (cl : List vw_C) (ca : Nat → ClassId) (ks : List Nat) (lay : Nat → gxE) (ad : Nat → Nat) (sz : Nat) (F : Nat → Nat → Int32) (L : Nat → Nat → Int64) (U : State) : Prop := gxP D cl ca ks lay ad sz F L U ∧ va_X (ad k) n xs U U.heap ∧ ad k < sz ∧ ∀ a ∈ ks, ad k ≠ ad a
def ConS (k n : Nat) (xs : Nat → Int32) (l : Launch) (y : MethodName) (ws : List Cond) (rm : Room) (D : va_G) (cl : List vw_C) (ca : Nat → ClassId) (ks : List Nat) (lay : Nat → gxE) (ad : Nat → Nat) (av : List xV) (F : Nat → Nat → Int32) (L : Nat → Nat → Int64) (post : Option xV → (Nat → Nat → Int32) → (Nat → Nat → Int64) → Prop) : Prop :=
  ∀ sz : Nat, Met l y ws rm (va_Pc (av.map (gxv ad)) (gxPS k n xs D cl ca ks lay ad sz F L)) (gxQ D cl ca ks lay ad sz post) 0 0 (gxA ks ad sz)
theorem ConS.of {k n : Nat} {xs : Nat → Int32} {l : Launch} {y : MethodName} {ws ws' : List Cond} {rm : Room} {D : va_G} {cl : List vw_C} {ca : Nat → ClassId} {ks : List Nat} {lay : Nat → gxE} {ad : Nat → Nat} {av : List xV} {F : Nat → Nat → Int32} {L : Nat → Nat → Int64} {post : Option xV → (Nat → Nat → Int32) → (Nat → Nat → Int64) → Prop} {cc : ByteArray} {nL : Nat} {ret : Option FieldType} {ls : List (Nat × xV)}
    (hy : plainName y.cls = true) (hw : ws = Cond.code y cc nL ret :: ws') (hls : gxargs 0 av = ls) (hlen : (lg_sl (av.map (gxv (fun _ => 0)))).length ≤ nL)
    (body : ∀ (p : Program) (e : Env) (s : State) (m : MethodId) (args : Array Value) (below : List Frame) (meth : Method) (c : Code) (A : Nat → Prop), GC p s m args meth c cc nL y.cls ws A D cl ca ks ad → meth.sig.returnType = ret → (∀ q, A q → gxA ks ad s.heap.size q) → va_X (ad k) n xs s s.heap → ad k < s.heap.size → ¬ A (ad k) →
      GX p l e rm s m args below meth c (MQ below (gxQ D cl ca ks lay ad s.heap.size post) args s 0 0 (gxA ks ad s.heap.size)) nL A D cl ca ks lay ad 0 0 0 ls [] F L) : ConS k n xs l y ws rm D cl ca ks lay ad av F L post := by
  intro sz
  refine Met.ofW (cc := cc) (maxL := nL) (ret := ret) hy hw ?_
  intro p e s m args below meth c s₁ B hml hv
  obtain ⟨rfl, ⟨hsz, hP, hK, hD0⟩, hV, hb, hne⟩ := hv
  have hts := atoms_spec (ws := ws) B.pre
  have hown : s.vm.findClass y.cls = some m.cls := findClass_of_methodNamed B.named
  subst hsz
  have hX : GC p s m (av.map (gxv ad)).toArray meth c cc nL y.cls ws (gxA ks ad s.heap.size) D cl ca ks ad := ⟨⟨B.exec, B.bytes, hml, hown, hts⟩, hK, hD0.self, fun q h => Or.inr h, B.notSynchronized⟩
  have hlen2 : (lg_sl (av.map (gxv ad))).length ≤ nL := by
    have e : ∀ l : List xV, (lg_sl (l.map (gxv ad))).length = (lg_sl (l.map (gxv (fun _ => 0)))).length := by
      intro l
      induction l with
      | nil => rfl
      | cons v r ih =>
        simp only [lg_sl, List.map_cons, List.flatMap_cons, List.length_append] at ih ⊢
        rw [ih, gxv_cat, gxv_cat]
        cases gxis v <;> rfl
    rw [e]
    exact hlen
  have hl := gxhas_entry (lv_entry (av.map (gxv ad)) (n := nL) hlen2)
  rw [lg_entry_eq]
  rw [hls] at hl
  refine body p e s m _ below meth c (gxA ks ad s.heap.size) hX B.returns (fun _ h => h) hV hb (fun z => ?_) s.heap [] _ hl hP va_S.rf
  rcases z with ⟨a, ha, e⟩ | z
  · exact hne a ha e
  · have z : s.heap.size ≤ ad k := z
    omega
section GXS
variable {p : Program} {l : Launch} {e : Env} {R : Room} {s : State} {m : MethodId} {args : Array Value} {below : List Frame} {meth : Method} {c : Code} {Q : State → Prop} {nL pc cells slots : Nat} {A : Nat → Prop} {D : va_G} {ca : Nat → ClassId} {ks : List Nat} {lay : Nat → gxE} {ad : Nat → Nat}
variable {ls : List (Nat × xV)} {F : Nat → Nat → Int32} {L : Nat → Nat → Int64} {cc : ByteArray} {own : String} {c0 : Cond} {post : Option xV → (Nat → Nat → Int32) → (Nat → Nat → Int64) → Prop} {k n : Nat} {xs : Nat → Int32}
theorem gxPS_blind {cl : List vw_C} {av : List xV} {sz : Nat} : FrameBlind (va_Pc (av.map (gxv ad)) (gxPS k n xs D cl ca ks lay ad sz F L)) := by
  intro a U g mk ⟨q0, ⟨q1, qP, qK, qD⟩, qT, qr⟩
  exact ⟨q0, ⟨q1, qP, va_K.moved (u := U) (U := U.calling g mk a) (Vm.Alike.refl U.vm) qK, qD⟩, va_X.moved (u := U) (U := U.calling g mk a) (Vm.Alike.refl U.vm) qT, qr⟩
/-- a call of a static method that reads the script -/
theorem gx_callX {cl : List vw_C} (X : GC p s m args meth c cc nL own (c0 :: WT) A D cl ca ks ad) (hX : va_X (ad k) n xs s s.heap) (hb : ad k < s.heap.size) (hbA : ¬ A (ad k)) {index nn maxL : Nat} {y : MethodName} {bytes : ByteArray} {ret : Option FieldType} {rm : Room} {av rest st0 : List xV}
    (d : decode cc pc = .ok (.invokestatic index, 3)) (hm : gMS y bytes maxL ret nn) (hlink : Cond.methodLink own index y ∈ WT) (hcon : ConS k n xs l y (Cond.code y bytes maxL ret :: WT) rm D cl ca ks lay ad av F L post)
    (hn : av.length = nn) (hst : st0 = av.reverse ++ rest) (h8 : (rest.map (fun v => cond (gxis v) 2 1)).sum ≤ 8) (hR : rm.frames + 1 ≤ R.frames ∧ 8 + (maxL + 11) + rm.locals ≤ R.locals) (hrc : rm.cells = 0 ∧ rm.slots = 0) (hcs : cells ≤ R.cells ∧ slots ≤ R.slots)
    (kk : ∀ (r : Option xV) (F' : Nat → Nat → Int32) (L' : Nat → Nat → Int64), post r F' L' → GX p l e R s m args below meth c Q nL A D cl ca ks lay ad cells slots (pc + 3) ls (r.toList ++ rest) F' L') : GX p l e R s m args below meth c Q nL A D cl ca ks lay ad cells slots pc ls st0 F L := by
  subst hst
  obtain ⟨hcode, hstt, hini, hd1, hd2, hd3⟩ := hm
  have hts := X.1.2.2.2.2
  have ok : ∀ w, w ∈ WT → w.before args s = true := fun w h => hts w (List.mem_cons_of_mem _ h)
  intro H locs la hl hP hS
  have hXH : va_X (ad k) n xs s H := hX.kept (hS.2.1 _ hb hbA)
  have hne : ∀ a ∈ ks, ad k ≠ ad a := fun a ha e => hbA (e ▸ X.2.2.1.2 a ha)
  have cw : CallB R s args own index y bytes maxL ret (Cond.code y bytes maxL ret :: WT) rm 0 0 nn ∧ (Cond.static y).before args s = true := ⟨callB_of nn hts (gG hcode) rfl hrc.1 hrc.2 (ok _ hini) (ok _ hlink) ⟨hd1, hd2, hd3⟩ hR, ok _ hstt⟩
  have hrun := va_runS (below := below) (e := e) (meth := meth) (locs := locs) (cells := cells) (slots := slots) (rest := rest.map (gxv ad)) (g := F0 m pc la ((av.reverse ++ rest).map (gxv ad))) X.1 (hcon H.size) cw ⟨gxPS_blind (av := av), fun U hU hW => ⟨rfl, (gxP_at X (av := av) hP U hU hW).2, by rw [hU]; exact hXH.moved hW.alike, Nat.lt_of_lt_of_le hb hS.1, hne⟩⟩ rfl (by rw [List.length_map]; exact hn) hl.1 (by simp) (gx_cat8 h8) d (by simpa using hcs)
  intro T hT Z
  obtain ⟨v, st₀, t, T', L2, h0, Z', hL, e1, e2, ⟨⟨r, F', L', hv, hp, hP'⟩, hz, hk⟩, stp⟩ := hrun T hT Z
  rw [h0] at hz hk
  have hA1 : ∀ q, gxA ks ad H.size q → A q := by
    intro q hq
    rcases hq with ⟨k, h1, rfl⟩ | h1
    · exact X.2.2.1.2 k h1
    · exact X.2.2.2.1 q (Nat.le_trans hS.1 h1)
  have hv2 : v = r.map (gxv ad) := by cases hv; rfl
  subst hv2
  obtain ⟨t2, a1, b1⟩ := kk r F' L' hp T'.heap (locs ++ L2) la hl (by rw [e1]; exact hP')
    ⟨Nat.le_trans hS.1 (by rw [e1]; exact hz), fun q h1 h2 => by rw [e1, hk q (Nat.lt_of_lt_of_le h1 hS.1) (fun z => h2 (hA1 q z))]; exact hS.2.1 q h1 h2, fun q hq => by
      rcases List.mem_append.mp hq with h | h
      · exact hS.2.2 q h
      · exact hA1 _ (hL q h)⟩ T' rfl Z'
  refine ⟨t2, stp t2 ?_, b1⟩
  have e3 : (r.toList ++ rest).map (gxv ad) = (r.map (gxv ad)).toList ++ rest.map (gxv ad) := by cases r <;> simp
  rw [e3] at a1
  exact a1
/-- the script's first number, or 0 -/
def hd0 (n : Nat) (xs : Nat → Int32) : Int32 := if 0 < n then xs 0 else 0
theorem c_Lw_cell (hn : n < 2 ^ 31) : ConS 61 n xs l y_Lw_cell (Cond.code y_Lw_cell b_Lw_cell 2 (some .int) :: WT) rm_Lw_cell D vcl ca ks lay ad [xR 61, xI (nI 0)] F L (fun r F' L' => r = some (xI (hd0 n xs)) ∧ F' = F ∧ L' = L) := by
  refine ConS.of (ls := [(0, xR 61), (1, xI (nI 0))]) (by decide) rfl rfl (Nat.le_of_ble_eq_true rfl) ?_
  intro p e s m args below meth c A X hr hA hV hb hbA
  refine gx_iload_n X d_Lw_cell_0 rfl rfl ?_
  refine gx_aload_n X d_Lw_cell_1 rfl rfl ?_
  refine gx_slen X hV hb hbA d_Lw_cell_2 ?_
  refine gx_icmp_ge X d_Lw_cell_3 (tgt := 12) (by decide) (fun h3 => ?_) (fun h3 => ?_)
  · refine gx_iconst X d_Lw_cell_12 (v := nI 0) (by decide) ?_
    refine gx_iret X hr hA d_Lw_cell_13 ⟨?_, rfl, rfl⟩
    have h : ¬ 0 < n := fun h => absurd ((nI_ltI (a := 0) (b := n) (by decide) hn).mpr h) (Int32.not_lt.mpr h3)
    simp [hd0, h]
    rfl
  · refine gx_aload_n X d_Lw_cell_6 rfl rfl ?_
    refine gx_iload_n X d_Lw_cell_7 rfl rfl ?_
    have h : 0 < n := (nI_ltI (a := 0) (b := n) (by decide) hn).mp (Int32.not_le.mp h3)
    refine gx_sld X hV hb hbA d_Lw_cell_8 rfl h hn ?_
    refine gx_goto X d_Lw_cell_9 (tgt := 13) (by decide) ?_
    refine gx_iret X hr hA d_Lw_cell_13 ⟨?_, rfl, rfl⟩
    simp [hd0, h]
end GXS
theorem mh_edge : gMH y_Lw_edge b_Lw_edge 3 (some .int) [(0, 8, 11, 13), (0, 8, 14, 15)] 2 := ⟨WT_lw (List.mem_append_right _ (by decide +kernel)) (by decide +kernel), WT_lw (List.mem_append_right _ (by decide +kernel)) (by decide +kernel), wi_Lw, by decide, by decide, by decide +kernel⟩
theorem mh_predicate : gMH y_Lw_predicate b_Lw_predicate 3 (some .int) [(0, 8, 11, 13), (0, 8, 14, 15)] 2 := ⟨WT_lw (List.mem_append_right _ (by decide +kernel)) (by decide +kernel), WT_lw (List.mem_append_right _ (by decide +kernel)) (by decide +kernel), wi_Lw, by decide, by decide, by decide +kernel⟩
theorem mh_prove : gMH y_Lw_prove b_Lw_prove 4 (some .int) [(0, 9, 12, 13)] 3 := ⟨WT_lw (List.mem_append_right _ (by decide +kernel)) (by decide +kernel), WT_lw (List.mem_append_right _ (by decide +kernel)) (by decide +kernel), wi_Lw, by decide, by decide, by decide +kernel⟩
theorem mh_holds : gMH y_Lw_holds b_Lw_holds 5 (some .int) [(0, 17, 20, 28)] 4 := ⟨WT_lw (List.mem_append_right _ (by decide +kernel)) (by decide +kernel), WT_lw (List.mem_append_right _ (by decide +kernel)) (by decide +kernel), wi_Lw, by decide, by decide, by decide +kernel⟩
theorem mh_signature : gMH y_Lw_signature b_Lw_signature 4 (some .int) [(0, 9, 12, 28)] 3 := ⟨WT_lw (List.mem_append_right _ (by decide +kernel)) (by decide +kernel), WT_lw (List.mem_append_right _ (by decide +kernel)) (by decide +kernel), wi_Lw, by decide, by decide, by decide +kernel⟩
theorem mh_path : gMH y_Lw_path b_Lw_path 4 (some .int) [(0, 9, 12, 28)] 3 := ⟨WT_lw (List.mem_append_right _ (by decide +kernel)) (by decide +kernel), WT_lw (List.mem_append_right _ (by decide +kernel)) (by decide +kernel), wi_Lw, by decide, by decide, by decide +kernel⟩
theorem mh_input : gMH y_Lw_input b_Lw_input 4 (some .int) [(0, 9, 12, 28)] 3 := ⟨WT_lw (List.mem_append_right _ (by decide +kernel)) (by decide +kernel), WT_lw (List.mem_append_right _ (by decide +kernel)) (by decide +kernel), wi_Lw, by decide, by decide, by decide +kernel⟩
theorem mh_node : gMH y_Lw_node b_Lw_node 5 (some .int) [(0, 10, 13, 28), (0, 10, 17, 13)] 4 := ⟨WT_lw (List.mem_append_right _ (by decide +kernel)) (by decide +kernel), WT_lw (List.mem_append_right _ (by decide +kernel)) (by decide +kernel), wi_Lw, by decide, by decide, by decide +kernel⟩
theorem mh_follow : gMH y_Lw_follow b_Lw_follow 6 (some .int) [(0, 12, 15, 28)] 5 := ⟨WT_lw (List.mem_append_right _ (by decide +kernel)) (by decide +kernel), WT_lw (List.mem_append_right _ (by decide +kernel)) (by decide +kernel), wi_Lw, by decide, by decide, by decide +kernel⟩
