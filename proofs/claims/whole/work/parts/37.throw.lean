/-! methods that throw (own text) -/
def exW : List Cond := [.laysStatic Bundle.tN "UNASSIGNED_STACK" Bundle.steD, .laysStatic Bundle.tN "SUPPRESSED_SENTINEL" Bundle.listD, .isRef (.static Bundle.tN "UNASSIGNED_STACK" Bundle.steD), .isRef (.static Bundle.tN "SUPPRESSED_SENTINEL" Bundle.listD),
  .declares (Bundle.initS "java/lang/RuntimeException"), .declares (Bundle.initS "java/lang/Exception"), .declares (Bundle.initS Bundle.tN),
  .castable "java/lang/IllegalArgumentException" "java/lang/IllegalArgumentException", .castable "java/lang/IllegalStateException" "java/lang/IllegalStateException", .castable "java/lang/IndexOutOfBoundsException" "java/lang/IndexOutOfBoundsException"]
def upX : List String := ["java/lang/RuntimeException", "java/lang/Exception"]
def strL : List (Nat × String) := [(101, "the line is no edge"), (112, "there are 20 edges"), (126, "the line is no atom"), (129, "there are 12 predicates"), (151, "fuel is not 1 .. 40"), (161, "no such predicate or state"), (168, "no such state"), (170, "no such edge or state"), (177, "no such node"), (189, "no such what"), (194, "no such edge of a path"), (202, "no such input")]
def tSt (U : State) : Prop := (∀ (a' : Array Value), ∀ w ∈ exW, w.before a' U = true) ∧ ∀ q ∈ strL, ∃ a, vk_R R_PP q.1 q.2 a U
def okX (ic : Nat) (X : String) : Bool := (Bundle.ownAtoms R_PP ic X upX).all (fun a => (goodWord a && decide (a ∈ tables_1)) || decide (a ∈ exW))
theorem ok_IAE : okX 103 "java/lang/IllegalArgumentException" = true := by decide +kernel
theorem ok_ISE : okX 114 "java/lang/IllegalStateException" = true := by decide +kernel
theorem ok_IOE : okX 163 "java/lang/IndexOutOfBoundsException" = true := by decide +kernel
theorem ownW {ic : Nat} {X : String} (h : okX ic X = true) {args : Array Value} {s : State} (h1 : ∀ w ∈ WT, w.before args s = true) (h2 : tSt s) : ∀ a ∈ Bundle.ownAtoms R_PP ic X upX, a.before args s = true := by
  intro a ha
  have := List.all_eq_true.mp h a ha
  simp only [Bool.or_eq_true, Bool.and_eq_true, decide_eq_true_eq] at this
  rcases this with ⟨g, hm⟩ | hm
  · exact h1 a (WT_lw (List.mem_append_right _ hm) g)
  · exact h2.1 args a hm
def MetT (l : Launch) (y : MethodName) (ws : List Cond) (rm : Room) (Pc : Array Value → State → Prop) (Qc : Array Value → State → Outcome → State → Prop) (mc ms : Nat) (free : Addr → Prop) : Prop :=
  MetFree l y (headSpec ws rm) Pc (fun _ _ _ _ _ => True) (fun a st o t => Qc a st o t ∧ ∃ L, FrameEndT st o t L mc ms ∧ ∀ q ∈ L, free q.base)
def MQT (below : List Frame) (Qc : Array Value → State → Outcome → State → Prop) (a : Array Value) (s : State) (mc ms : Nat) (free : Addr → Prop) : State → Prop := fun t =>
  ∃ o, t.status = .running ∧ Ended t below o ∧ Qc a s o t ∧ ∃ L, FrameEndT s o t L mc ms ∧ ∀ q ∈ L, free q.base
theorem MetT.ofW {l : Launch} {y : MethodName} {ws ws' : List Cond} {rm : Room} {Pc : Array Value → State → Prop} {Qc : Array Value → State → Outcome → State → Prop} {mc ms : Nat} {free : Addr → Prop} {cc : ByteArray} {maxL : Nat} {ret : Option FieldType}
    (hy : plainName y.cls = true) (hw : ws = Cond.code y cc maxL ret :: ws')
    (body : ∀ p e s m args below meth c s₁, BodyLoose p l y (headSpec ws rm) cc maxL ret e s m args below meth c s₁ → c.maxLocals = maxL → Pc args s →
      W p l e (headSpec ws rm).room s m args below meth c s.heap [] 0 0 (MQT below Qc args s mc ms free) (entryFrame m args maxL)) : MetT l y ws rm Pc Qc mc ms free := by
  refine MetFree.of_bodyS (code := cc) (maxLocals := maxL) (ret := ret) hy ?_ ?_
  · intro args s m h hn
    obtain ⟨meth, c, h1, h2, h3, h4, h5, h6, -, -⟩ := Cond.code_spec hn (atoms_spec (ws := ws) h _ (by rw [hw]; exact List.mem_cons_self))
    exact ⟨meth, c, h1, h2, h3, h4, h5, h6⟩
  · intro p e s m args below meth c s₁ B hml hP _
    have hh0 : s₁.heap = s.heap := by rw [B.state]; rfl
    obtain ⟨t, a1, o, b1, b2, b3⟩ := body p e s m args below meth c s₁ B hml hP s₁ hh0 (Stand.of_body B)
    exact ⟨t, o, a1, b1, b2, ⟨b3.1, b3.2⟩⟩
def gxPT (D : va_G) (cl : List vw_C) (ca : Nat → ClassId) (ks : List Nat) (lay : Nat → gxE) (ad : Nat → Nat) (sz : Nat) (F : Nat → Nat → Int32) (L : Nat → Nat → Int64) (U : State) : Prop := gxP D cl ca ks lay ad sz F L U ∧ tSt U
def gxQT (D : va_G) (cl : List vw_C) (ca : Nat → ClassId) (ks : List Nat) (lay : Nat → gxE) (ad : Nat → Nat) (sz : Nat) (xc : String) (post : (Nat → Nat → Int32) → (Nat → Nat → Int64) → Prop) : Array Value → State → Outcome → State → Prop := fun _ st oc t =>
  (∃ (a : Nat) (F' : Nat → Nat → Int32) (L' : Nat → Nat → Int64), oc = .threw a ∧ post F' L' ∧ va_P D cl (gxw ks lay ca ad F' L') t.heap ∧ ∃ ce : Cell, t.heap[a]? = some ce ∧ ce.vm = .none ∧ st.vm.findClass xc = some ce.cls) ∧ va_F (gxA ks ad sz) st t
def ConT (l : Launch) (y : MethodName) (ws : List Cond) (rm : Room) (D : va_G) (cl : List vw_C) (ca : Nat → ClassId) (ks : List Nat) (lay : Nat → gxE) (ad : Nat → Nat) (av : List xV) (F : Nat → Nat → Int32) (L : Nat → Nat → Int64) (xc : String) (post : (Nat → Nat → Int32) → (Nat → Nat → Int64) → Prop) : Prop :=
  ∀ sz : Nat, MetT l y ws rm (va_Pc (av.map (gxv ad)) (gxPT D cl ca ks lay ad sz F L)) (gxQT D cl ca ks lay ad sz xc post) 1 6 (gxA ks ad sz)
theorem world_vm {D : va_G} {cl : List vw_C} {ks : List Nat} {lay : Nat → gxE} {ca : Nat → ClassId} {ad : Nat → Nat} {F : Nat → Nat → Int32} {L : Nat → Nat → Int64} {H : Heap} (hP : va_P D cl (gxw ks lay ca ad F L) H) {k : Nat} (hk : k ∈ ks) : ∃ cell : Cell, H[ad k]? = some cell ∧ cell.vm = .none := by
  obtain ⟨q, hq⟩ := List.getElem?_of_mem hk
  have h := hP q _ (gxw_at (lay := lay) (ca := ca) (ad := ad) (F := F) (L := L) hq)
  unfold va_at at h
  unfold gxc at h
  rcases hlay : lay k with o | a | n | g
  · rw [hlay] at h
    obtain ⟨r, -, cell, h1, -, h3, -⟩ := h
    exact ⟨cell, h1, h3⟩
  · rw [hlay] at h
    exact ⟨_, h, rfl⟩
  · rw [hlay] at h
    exact ⟨_, h, rfl⟩
  · rw [hlay] at h
    exact ⟨_, h, rfl⟩
abbrev gE (s : State) (c : Code) (A : Nat → Prop) : Prop := (∀ pc, ∀ x ∈ c.exceptionTable.toList, covers x pc = false) ∧ tSt s ∧ ∀ q, A q → ∀ cell, s.heap[q]? = some cell → cell.vm.isStatics = false
theorem ConT.of {l : Launch} {y : MethodName} {ws ws' : List Cond} {rm : Room} {D : va_G} {cl : List vw_C} {ca : Nat → ClassId} {ks : List Nat} {lay : Nat → gxE} {ad : Nat → Nat} {av : List xV} {F : Nat → Nat → Int32} {L : Nat → Nat → Int64} {xc : String} {post : (Nat → Nat → Int32) → (Nat → Nat → Int64) → Prop} {cc : ByteArray} {nL : Nat} {ret : Option FieldType} {ls : List (Nat × xV)}
    (hy : plainName y.cls = true) (hw : ws = Cond.code y cc nL ret :: ws') (hls : gxargs 0 av = ls) (hlen : (lg_sl (av.map (gxv (fun _ => 0)))).length ≤ nL)
    (body : ∀ (p : Program) (e : Env) (s : State) (m : MethodId) (args : Array Value) (below : List Frame) (meth : Method) (c : Code) (A : Nat → Prop), GC p s m args meth c cc nL y.cls ws A D cl ca ks ad → gE s c A → (∀ q, A q → gxA ks ad s.heap.size q) →
      GX p l e rm s m args below meth c (MQT below (gxQT D cl ca ks lay ad s.heap.size xc post) args s 1 6 (gxA ks ad s.heap.size)) nL A D cl ca ks lay ad 0 0 0 ls [] F L) : ConT l y ws rm D cl ca ks lay ad av F L xc post := by
  intro sz
  refine MetT.ofW (cc := cc) (maxL := nL) (ret := ret) hy hw ?_
  intro p e s m args below meth c s₁ B hml hv
  obtain ⟨rfl, ⟨hsz, hP, hK, hD0⟩, hT⟩ := hv
  have hts := atoms_spec (ws := ws) B.pre
  have hown : s.vm.findClass y.cls = some m.cls := findClass_of_methodNamed B.named
  subst hsz
  have hX : GC p s m (av.map (gxv ad)).toArray meth c cc nL y.cls ws (gxA ks ad s.heap.size) D cl ca ks ad := ⟨⟨B.exec, B.bytes, hml, hown, hts⟩, hK, hD0.self, fun q h => Or.inr h, B.notSynchronized⟩
  have hlen2 : (lg_sl (av.map (gxv ad))).length ≤ nL := by
    have e : ∀ l : List xV, (lg_sl (l.map (gxv ad))).length = (lg_sl (l.map (gxv (fun _ => 0)))).length := by
      intro l
      induction l with
      | nil => rfl
      | cons v r ih =>
        simp only [lg_sl, List.map_cons, List.flatMap_cons, List.length_append] at ih ⊢
        rw [ih, gxv_cat, gxv_cat]
        cases gxis v <;> rfl
    rw [e]
    exact hlen
  have hl := gxhas_entry (lv_entry (av.map (gxv ad)) (n := nL) hlen2)
  rw [lg_entry_eq]
  rw [hls] at hl
  refine body p e s m _ below meth c (gxA ks ad s.heap.size) hX ⟨covers_of_empty (B.noHandlers (hts _ (by rw [hw]; exact List.mem_cons_self))), hT, fun q hq cell hc => ?_⟩ (fun _ h => h) s.heap [] _ hl hP va_S.rf
  rcases hq with ⟨k, hk, rfl⟩ | hq
  · obtain ⟨c2, h1, h2⟩ := world_vm hP hk
    cases h1.symm.trans hc
    rw [h2]; rfl
  · exact absurd hc (by rw [Array.getElem?_eq_none hq]; exact fun z => by cases z)
