/-! a call that throws, and its catch (own text) -/
def nCa (U : State) (tn name : String) : Prop := ∀ c1 c2 : ClassId, U.vm.findClass tn = some c1 → U.vm.findClass name = some c2 → U.vm.assignable c1 c2 = false
theorem nCa.move {s U : State} {tn name : String} (h : nCa s tn name) (hal : s.vm.Alike U.vm) : nCa U tn name := fun c1 c2 h1 h2 => by
  rw [hal.assignable]
  exact h c1 c2 (by rw [← hal.findClass]; exact h1) (by rw [← hal.findClass]; exact h2)
def hSt (U : State) : Prop := tSt U ∧ nCa U nISE nIAE ∧ nCa U nIAE nIOE
theorem hSt.move {s U : State} (h : hSt s) (hW : s.WarmedH U.vm) (hs : Jvm.Free.Str.KeepsShape s U) (hz : ∀ (q : Nat) (cell : Cell), s.heap[q]? = some cell → cell.vm.isStatics = true → U.heap[q]? = some cell) : hSt U := ⟨h.1.move hW hs hz, h.2.1.move hW.alike, h.2.2.move hW.alike⟩
def gxPH (D : va_G) (cl : List vw_C) (ca : Nat → ClassId) (ks : List Nat) (lay : Nat → gxE) (ad : Nat → Nat) (sz : Nat) (F : Nat → Nat → Int32) (L : Nat → Nat → Int64) (U : State) : Prop := gxP D cl ca ks lay ad sz F L U ∧ hSt U
def ConH (l : Launch) (y : MethodName) (ws : List Cond) (rm : Room) (D : va_G) (cl : List vw_C) (ca : Nat → ClassId) (ks : List Nat) (lay : Nat → gxE) (ad : Nat → Nat) (av : List xV) (F : Nat → Nat → Int32) (L : Nat → Nat → Int64) (post : Option xV → (Nat → Nat → Int32) → (Nat → Nat → Int64) → Prop) : Prop :=
  ∀ sz : Nat, Met l y ws rm (va_Pc (av.map (gxv ad)) (gxPH D cl ca ks lay ad sz F L)) (gxQ D cl ca ks lay ad sz post) 1 6 (gxA ks ad sz)
def mkE (q : Nat × Nat × Nat × Nat) : ExceptionTableEntry := ⟨q.1, q.2.1, q.2.2.1, q.2.2.2⟩
theorem mkE_map {l : List ExceptionTableEntry} {hh : List (Nat × Nat × Nat × Nat)} (h : l.map (fun h => (h.startPc, h.endPc, h.handlerPc, h.catchType)) = hh) : l = hh.map mkE := by
  rw [← h, List.map_map]
  have : (mkE ∘ fun h : ExceptionTableEntry => (h.startPc, h.endPc, h.handlerPc, h.catchType)) = id := by
    funext x
    rfl
  rw [this, List.map_id]
theorem ConH.of {l : Launch} {y : MethodName} {ws ws' : List Cond} {rm : Room} {D : va_G} {cl : List vw_C} {ca : Nat → ClassId} {ks : List Nat} {lay : Nat → gxE} {ad : Nat → Nat} {av : List xV} {F : Nat → Nat → Int32} {L : Nat → Nat → Int64} {post : Option xV → (Nat → Nat → Int32) → (Nat → Nat → Int64) → Prop} {cc : ByteArray} {nL : Nat} {ret : Option FieldType} {ls : List (Nat × xV)} {hh : List (Nat × Nat × Nat × Nat)}
    (hy : plainName y.cls = true) (hw : ws = Cond.codeWith y cc nL ret hh :: ws') (hls : gxargs 0 av = ls) (hlen : (lg_sl (av.map (gxv (fun _ => 0)))).length ≤ nL)
    (body : ∀ (p : Program) (e : Env) (s : State) (m : MethodId) (args : Array Value) (below : List Frame) (meth : Method) (c : Code) (A : Nat → Prop), GC p s m args meth c cc nL y.cls ws A D cl ca ks ad → c.exceptionTable.toList = hh.map mkE → hSt s → (∀ q, A q → ∀ cell, s.heap[q]? = some cell → cell.vm.isStatics = false) → meth.sig.returnType = ret → (∀ q, A q → gxA ks ad s.heap.size q) →
      GX p l e rm s m args below meth c (MQ below (gxQ D cl ca ks lay ad s.heap.size post) args s 1 6 (gxA ks ad s.heap.size)) nL A D cl ca ks lay ad 0 0 0 ls [] F L) : ConH l y ws rm D cl ca ks lay ad av F L post := by
  intro sz
  refine va_MetW (cc := cc) (maxL := nL) (ret := ret) (hh := hh) hy hw ?_
  intro p e s m args below meth c s₁ B hml hv
  obtain ⟨rfl, ⟨hsz, hP, hK, hD0⟩, hT⟩ := hv
  have hts := atoms_spec (ws := ws) B.pre
  have hown : s.vm.findClass y.cls = some m.cls := findClass_of_methodNamed B.named
  subst hsz
  have hX : GC p s m (av.map (gxv ad)).toArray meth c cc nL y.cls ws (gxA ks ad s.heap.size) D cl ca ks ad := ⟨⟨B.exec, B.bytes, hml, hown, hts⟩, hK, hD0.self, fun q h => Or.inr h, B.notSynchronized⟩
  have hlen2 : (lg_sl (av.map (gxv ad))).length ≤ nL := by
    have e : ∀ l : List xV, (lg_sl (l.map (gxv ad))).length = (lg_sl (l.map (gxv (fun _ => 0)))).length := by
      intro l
      induction l with
      | nil => rfl
      | cons v r ih =>
        simp only [lg_sl, List.map_cons, List.flatMap_cons, List.length_append] at ih ⊢
        rw [ih, gxv_cat, gxv_cat]
        cases gxis v <;> rfl
    rw [e]
    exact hlen
  have hl := gxhas_entry (lv_entry (av.map (gxv ad)) (n := nL) hlen2)
  rw [lg_entry_eq]
  rw [hls] at hl
  have hE : c.exceptionTable.toList = hh.map mkE := by
    obtain ⟨m9, meth9, c9, hn9, h1, h2, -, -, h5, -⟩ := Cond.codeWith_spec (hts _ (by rw [hw]; exact List.mem_cons_self))
    cases B.named.symm.trans hn9
    cases B.method.symm.trans h1
    have e1 : s₁.code? m = some c := B.here.code
    rw [State.code?_eq, B.state] at e1
    have e1 : (s.vm.method? m).bind (fun k => k.code) = some c := e1
    rw [B.method] at e1
    have e2 : c = c9 := Option.some.inj (e1.symm.trans h2)
    rw [e2]
    exact mkE_map h5
  refine body p e s m _ below meth c (gxA ks ad s.heap.size) hX hE hT (fun q hq cell hc => ?_) B.returns (fun _ h => h) s.heap [] _ hl hP va_S.rf
  rcases hq with ⟨k, hk, rfl⟩ | hq
  · obtain ⟨c2, h1, h2⟩ := world_vm hP hk
    cases h1.symm.trans hc
    rw [h2]; rfl
  · exact absurd hc (by rw [Array.getElem?_eq_none hq]; exact fun z => by cases z)
def PostT (Qc : Array Value → State → Outcome → State → Prop) (mc ms : Nat) (free : Addr → Prop) : Pt → Array Value → Addr → Pt → Prop := fun A a v B =>
  ∃ (g : JFrame) (mk : MethodId) (t : State) (L : List Loc), B.U.heap = t.heap ∧ B.U.vm = t.vm ∧ Qc a (A.U.calling g mk a) (.threw v) t ∧ B.locs = A.locs ++ L ∧ (∀ q ∈ L, free q.base) ∧ B.cells = A.cells + mc ∧ B.slots = A.slots + ms
theorem backT_of {l : Launch} {R : Room} {p : Program} {e : Env} {below : List Frame} {s : State} {sargs : Array Value} {y : MethodName} {len W : Nat} {ws : List Cond} {rm : Room} {Pc : Array Value → State → Prop} {Qc : Array Value → State → Outcome → State → Prop} {mc ms : Nat} {free : Addr → Prop} {bytes : ByteArray} {maxL : Nat} {ret : Option FieldType}
    (hM : MetT l y ws rm Pc Qc mc ms free) (hblind : FrameBlind Pc) (hrc : rm.cells = mc) (hrs : rm.slots = ms)
    (hframes : rm.frames + 1 ≤ R.frames) (hlocals : W + (maxL + 11) + rm.locals ≤ R.locals)
    (hws : ∀ w ∈ ws, ∀ a' U, s.WarmedH U.vm → w.before a' U = true) (hcode : Cond.code y bytes maxL ret ∈ ws) (hinit : ∀ a' U, s.WarmedH U.vm → (Cond.initialized y.cls).before a' U = true) :
    Jvm.Free.BackT l R p e below s sargs y len W (PreOf R mc ms Pc) (PostT Qc mc ms free) := by
  refine Jvm.Free.BackT.of_free (S := headSpec ws rm) (P := Pc) (K := fun _ _ _ _ _ => True) (Q := fun a st o t => Qc a st o t ∧ ∃ L, Jvm.Free.FrameEndT st o t L mc ms ∧ ∀ q ∈ L, free q.base) (bytes := bytes) (maxL := maxL) (ret := ret)
    (E := fun a st o t L k n => k = mc ∧ n = ms ∧ ∀ q ∈ L, free q.base) hM hframes hlocals ?_ ?_ (fun _ _ _ _ _ _ _ _ _ => trivial) ?_ ?_
  · intro m meth c A a X hp
    exact ⟨atoms_intro fun w hw => hws w hw _ _ X.warmed, hws _ hcode _ _ X.warmed, hinit _ _ X.warmed, by rw [show (headSpec ws rm).room.cells = mc from hrc]; exact hp.1, by rw [show (headSpec ws rm).room.slots = ms from hrs]; exact hp.2.1⟩
  · intro m meth c A a g mk X hp
    exact hblind _ _ _ _ hp.2.2
  · intro a st o t ⟨hq, L, hF, hL⟩
    exact ⟨L, mc, ms, hF, rfl, rfl, hL⟩
  · intro m meth c A a g mk v t L k n X hp hq hF ⟨e1, e2, hL⟩
    subst e1; subst e2
    exact ⟨g, mk, t, L, rfl, rfl, hq.1, rfl, hL, rfl, rfl⟩
section GXC2
variable {p : Program} {l : Launch} {e : Env} {R : Room} {s : State} {m : MethodId} {args : Array Value} {below : List Frame} {meth : Method} {c : Code} {nL pc : Nat} {A : Nat → Prop} {D : va_G} {cl : List vw_C} {ca : Nat → ClassId} {ks : List Nat} {lay : Nat → gxE} {ad : Nat → Nat}
variable {ls : List (Nat × xV)} {F : Nat → Nat → Int32} {L : Nat → Nat → Int64} {cc : ByteArray} {own : String} {c0 : Cond} {post : Option xV → (Nat → Nat → Int32) → (Nat → Nat → Int64) → Prop} {post0 : (Nat → Nat → Int32) → (Nat → Nat → Int64) → Prop}
theorem gxPT_blind {av : List xV} {sz : Nat} : FrameBlind (va_Pc (av.map (gxv ad)) (gxPT D cl ca ks lay ad sz F L)) := by
  intro a U g mk ⟨q0, ⟨q1, qP, qK, qD⟩, qT⟩
  exact ⟨q0, ⟨q1, qP, va_K.moved (u := U) (U := U.calling g mk a) (Vm.Alike.refl U.vm) qK, qD⟩, qT.move (U := U.calling g mk a) (State.WarmedH.refl U) (Jvm.Free.Str.KeepsShape.of_heap rfl) (fun q cell h _ => h)⟩
theorem gx_iretH (X : GC p s m args meth c cc nL own (c0 :: WT) A D cl ca ks ad) {v : Int32} (hr : meth.sig.returnType = some .int) (hA : ∀ q, A q → gxA ks ad s.heap.size q) (d : decode cc pc = .ok (.ireturn, 1)) (hp : post (some (xI v)) F L) {cells slots : Nat} (hc : cells ≤ 1 ∧ slots ≤ 6) : GX p l e R s m args below meth c (MQ below (gxQ D cl ca ks lay ad s.heap.size post) args s 1 6 (gxA ks ad s.heap.size)) nL A D cl ca ks lay ad cells slots pc ls [xI v] F L := fun H locs la hl hP hS =>
  W.widen hc.1 hc.2 (W.iret X.1.1 X.1.2.1 hr (fun t ht hW => ⟨⟨(some (xI v)), F, L, rfl, hp, by rw [ht]; exact hP⟩, by rw [ht]; exact hS.1, fun q h1 h2 => by rw [ht]; exact hS.2.1 q h1 (fun z => h2 (hA q z))⟩) (fun q hq => hA _ (hS.2.2 q hq)) d X.2.2.2.2)
end GXC2
