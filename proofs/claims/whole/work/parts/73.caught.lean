section GXC3
variable {p : Program} {l : Launch} {e : Env} {R : Room} {s : State} {m : MethodId} {args : Array Value} {below : List Frame} {meth : Method} {c : Code} {nL pc : Nat} {A : Nat → Prop} {D : va_G} {cl : List vw_C} {ca : Nat → ClassId} {ks : List Nat} {lay : Nat → gxE} {ad : Nat → Nat}
variable {ls : List (Nat × xV)} {F : Nat → Nat → Int32} {L : Nat → Nat → Int64} {cc : ByteArray} {own : String} {c0 : Cond} {post : Option xV → (Nat → Nat → Int32) → (Nat → Nat → Int64) → Prop} {post0 : (Nat → Nat → Int32) → (Nat → Nat → Int64) → Prop}
/-- what a handler does: it stores, and goes on -/
def hStore (p : Program) (l : Launch) (e : Env) (R : Room) (s : State) (m : MethodId) (args : Array Value) (below : List Frame) (meth : Method) (c : Code) (nL hp h1 : Nat) : Prop := ∀ (Q : State → Prop) (H : Heap) (locs : List Loc) (cells slots a : Nat) (la : Array Slot) (ls : List (Nat × xV)) (ad : Nat → Nat), gxhas la nL ls ad → (∀ la' : Array Slot, W p l e R s m args below meth c H locs cells slots Q (F0 m h1 la' [])) → W p l e R s m args below meth c H locs cells slots Q (F0 m hp la [.ref a])
theorem hStore.n (hexec : p.tables.exec = Jvm.exec) (hb : c.code = cc) {z : Fin 4} {hp : Nat} (d : decode cc hp = .ok (.astore_n z, 1)) (hn : (z : Nat) < nL) : hStore p l e R s m args below meth c nL hp (hp + 1) := fun Q H locs cells slots a la ls ad hl k => lv_astore_n hexec hb d rfl (gxl_has hl) hn rfl (fun la' _ => k la')
theorem hStore.i (hexec : p.tables.exec = Jvm.exec) (hb : c.code = cc) {i hp : Nat} (d : decode cc hp = .ok (.astore i, 2)) (hn : i < nL) : hStore p l e R s m args below meth c nL hp (hp + 2) := fun Q H locs cells slots a la ls ad hl k => lv_astore hexec hb d (gxl_has hl) hn rfl (fun la' _ => k la')
set_option maxHeartbeats 4000000 in
/-- a call that throws; the handler gives a number back -/
theorem gx_callC (X : GC p s m args meth c cc nL own (c0 :: WT) A D cl ca ks ad) (hH : hSt s) (hstt : ∀ q, A q → ∀ cell, s.heap[q]? = some cell → cell.vm.isStatics = false) (hA : ∀ q, A q → gxA ks ad s.heap.size q) (hr : meth.sig.returnType = some .int) {index n maxL k N ci h1 : Nat} {y : MethodName} {bytes : ByteArray} {ret : Option FieldType} {rm : Room} {av rest st0 : List xV} {T0 : u_T} {fs : List (Option Nat)} {xc : String} {nn : Int} {v : Int32} {x : ExceptionTableEntry} (pre rst : List ExceptionTableEntry)
    (d : decode cc pc = .ok (.invokevirtual index, 3)) (hm : gMV y bytes maxL ret n) (hlink : Cond.methodLink own index y ∈ WT) (hcon : ConT l y (Cond.code y bytes maxL ret :: WT) rm D cl ca ks lay ad (xR k :: av) F L xc post0)
    (hk : k ∈ ks) (hlay : lay k = Sum.inl (ci, fs)) (hc : cl[ci]? = some (y.cls, T0, N)) (hn : av.length = n) (hst : st0 = av.reverse ++ xR k :: rest) (h8 : (rest.map (fun v => cond (gxis v) 2 1)).sum ≤ 8) (hR : rm.frames + 1 ≤ R.frames ∧ 8 + (maxL + 11) + rm.locals ≤ R.locals) (hrc : rm.cells = 1 ∧ rm.slots = 6) (hcs : 1 ≤ R.cells ∧ 6 ≤ R.slots)
    (hsplit : c.exceptionTable.toList = pre ++ x :: rst) (hx : covers x pc = true) (h0 : x.catchType ≠ 0) (hcl : (Cond.classLink own x.catchType xc).before args s = true) (hcast : (Cond.castable xc xc).before args s = true)
    (hpass : ∀ z ∈ pre, z.catchType ≠ 0 ∧ ∃ nm, (Cond.classLink own z.catchType nm).before args s = true ∧ nCa s xc nm)
    (hh : hStore p l e R s m args below meth c nL x.handlerPc h1) (d1 : decode cc h1 = .ok (.iconst nn, 1)) (hv : Int32.ofInt nn = v) (d2 : decode cc (h1 + 1) = .ok (.ireturn, 1)) (hp : ∀ F' L', post0 F' L' → post (some (xI v)) F' L') :
    GX p l e R s m args below meth c (MQ below (gxQ D cl ca ks lay ad s.heap.size post) args s 1 6 (gxA ks ad s.heap.size)) nL A D cl ca ks lay ad 0 0 pc ls st0 F L := by
  subst hst
  obtain ⟨hcode, him, hsel, hini, hd1, hd2, hd3⟩ := hm
  have hts := X.1.2.2.2.2
  have ok : ∀ w, w ∈ WT → w.before args s = true := fun w h => hts w (List.mem_cons_of_mem _ h)
  intro H locs la hl hP hS T hT Z
  obtain ⟨q, hq⟩ := List.getElem?_of_mem hk
  have ha := gxw_at (lay := lay) (ca := ca) (ad := ad) (F := F) (L := L) hq
  rw [hlay] at ha
  have ha : (gxw ks lay ca ad F L)[q]? = some (ad k, .inr (ci, gxfl ad (F k) 0 fs)) := ha
  obtain ⟨cellB, hcB, hoB, hclB⟩ := va_recv X.2.1 hP hc ha
  have hws : ∀ w ∈ Cond.code y bytes maxL ret :: WT, ∀ (a' : Array Value) (U : State), s.WarmedH U.vm → w.before a' U = true := pay_in hts (gG hcode)
  have hKT : Jvm.Free.BackT l R p e below s args y 3 8 (PreOf R 1 6 (va_Pc ((xR k :: av).map (gxv ad)) (gxPT D cl ca ks lay ad H.size F L))) (PostT (gxQT D cl ca ks lay ad H.size xc post0) 1 6 (gxA ks ad H.size)) :=
    backT_of (bytes := bytes) (maxL := maxL) (ret := ret) (hcon H.size) gxPT_blind hrc.1 hrc.2 hR.1 hR.2 hws List.mem_cons_self (fun a' U hW => word_at hW (WT_good _ hini) (ok _ hini))
  obtain ⟨mk, methM, hnamed, hmethM, hstM, habM⟩ := Cond.instanceMethod_spec (ok _ him)
  obtain ⟨methM', cM, hmethM', -, -, -, -, -, -, hsigM⟩ := Cond.code_spec hnamed (ok _ hcode)
  cases hmethM.symm.trans hmethM'
  obtain ⟨c2, r2, m2, q1, q2, q3, q4, kP, hkP, hkPi⟩ := Cond.selects_spec (ok _ hsel)
  cases hclB.symm.trans q1
  cases (State.methodFound?_of_named hnamed ⟨hd1, hd2⟩).symm.trans q2
  cases hnamed.symm.trans q3
  have hselP : selectMethod e.platform s.vm cellB.cls mk = .method mk := by rw [Launch.admits_selectMethod Z.admits]; exact q4
  have hlen : ((av.map (gxv ad))).length = methM.sig.parameters.length := by
    rw [hsigM] at hd3
    rw [List.length_map, hn]
    exact (Option.some.inj hd3).symm
  obtain ⟨vm₁, X₁, hstep₁⟩ := Z.invokevirtual X.1.1 X.1.2.2.2.1 (ok _ hlink) hnamed hmethM hstM hkP hkPi ⟨hd1, hd2⟩ (a := ad k) (cell := cellB) (by rw [hT]; exact hcB)
    (fun z h => by rw [h] at hoB; cases hoB) hselP hmethM habM hkP hkPi (g := F0 m pc la ((av.reverse ++ xR k :: rest).map (gxv ad))) rfl (argsL := av.map (gxv ad)) (rest := rest.map (gxv ad)) hlen (by simp [F0, gxv]) (by rw [X.1.2.1]; exact d)
  have htS : tSt (T.setVm vm₁) := hH.1.move (U := T.setVm vm₁) X₁.warmed (Jvm.Free.Str.KeepsShape.of_stand X₁) (fun q cell hc hi => by
    show T.heap[q]? = some cell
    rw [hT, hS.2.1 q (Array.getElem?_eq_some_iff.mp hc).1 (fun z => by rw [hstt q z cell hc] at hi; cases hi)]
    exact hc)
  obtain ⟨v0, B, X', hpost, hsteps⟩ := hKT m meth c ⟨T.setVm vm₁, locs, 0, 0⟩ { F0 m pc la ((av.reverse ++ xR k :: rest).map (gxv ad)) with stack := rest.map (gxv ad) } (.invokevirtual index) mk (Value.ref (ad k) :: av.map (gxv ad)).toArray X₁ rfl (hl.1.trans X.1.2.2.1.symm) (by rw [X.1.2.1]; exact d) (gx_cat8 (m := m) (pc := pc) (ad := ad) (rest := rest) (la := la) (st0 := rest.map (gxv ad)) h8) (X₁.named hnamed) ⟨by simpa using hcs.1, by simpa using hcs.2, gxP_at X (av := xR k :: av) hP (T.setVm vm₁) hT X₁.warmed |>.1, (gxP_at X (av := xR k :: av) hP (T.setVm vm₁) hT X₁.warmed).2, htS⟩
  obtain ⟨U', l2, cc2, ss2⟩ := B
  obtain ⟨g', mk', t, L2, e1, e2, hq2, e3, hL2, e4, e5⟩ := hpost
  dsimp only [Pt.U, Pt.locs, Pt.cells, Pt.slots] at X' e1 e2 e3 e4 e5 hsteps hq2
  subst e3; subst e4; subst e5
  obtain ⟨⟨a, F', L', ho, hpo, hP', ce, hce, hvm, hcls⟩, hF2⟩ := hq2
  cases ho
  have hcls : s.vm.findClass xc = some ce.cls := by
    have h9 : (T.setVm vm₁).vm.findClass xc = some ce.cls := hcls
    rw [← X₁.warmed.alike.findClass]
    exact h9
  have hfit : s.vm.assignable ce.cls ce.cls = true := by
    simpa [Cond.before, Cond.holds, Cond.value, hcls] using hcast
  have hpl : e.platform.magicAccessors = ({} : Platform).magicAccessors := by rw [Z.admits.platform]
  obtain ⟨hend, hk0⟩ := X'.catches_of_link (own := own) (name := xc) X.1.2.2.2.1 h0 hcl hcls hfit
  have hcell : U'.heap[v0]? = some ce := by rw [e1]; exact hce
  have hpass2 : ∀ z ∈ pre, RowPassed e.platform s m.cls pc ce.cls z := fun z hz => by
    obtain ⟨g1, nm, g2, g3⟩ := hpass z hz
    obtain ⟨c', hc', hcl'⟩ := Cond.classLink_spec X.1.2.2.2.1 g2 e.platform hpl
    exact Or.inr ⟨g1, c', hcl', g3 _ _ hcls hc'⟩
  obtain ⟨vm', XV, stp⟩ := X'.thenCaughtThrough v0 (g := { F0 m pc la ((av.reverse ++ xR k :: rest).map (gxv ad)) with stack := rest.map (gxv ad) }) rfl
    (s₀ := T.setTop (F0 m pc la ((av.reverse ++ xR k :: rest).map (gxv ad)))) (hstep₁ _ fun acts => by rw [doInvoke_state]; exact hsteps) hcell (by rw [hvm]; rfl) hk0 pre x rst hsplit hpass2 hx hend
  have hA1 : ∀ q, gxA ks ad H.size q → gxA ks ad s.heap.size q := fun q h => by
    rcases h with h | h
    · exact Or.inl h
    · exact Or.inr (Nat.le_trans hS.1 h)
  have hz9 : H.size ≤ t.heap.size := by
    have := hF2.1
    have h7 : ((T.setVm vm₁).calling g' mk' (Value.ref (ad k) :: av.map (gxv ad)).toArray).heap = H := hT
    rw [h7] at this
    exact this
  have hk9 : ∀ q : Nat, q < H.size → ¬ gxA ks ad H.size q → t.heap[q]? = H[q]? := fun q g1 g2 => by
    have := hF2.2 q (by show q < T.heap.size; rw [hT]; exact g1) g2
    rw [this]
    show T.heap[q]? = H[q]?
    rw [hT]
  have hW2 := hh (MQ below (gxQ D cl ca ks lay ad s.heap.size post) args s 1 6 (gxA ks ad s.heap.size)) U'.heap (locs ++ L2) (0 + 1) (0 + 6) v0 la ls ad hl (fun la' => lv_iconst X.1.1 X.1.2.1 d1 hv (W.iret X.1.1 X.1.2.1 hr (fun t2 ht2 hWt => ⟨⟨some (xI v), F', L', rfl, hp F' L' hpo, by rw [ht2, e1]; exact hP'⟩, by rw [ht2, e1]; exact Nat.le_trans hS.1 hz9, fun q g1 g2 => by
    rw [ht2, e1, hk9 q (Nat.lt_of_lt_of_le g1 hS.1) (fun z => g2 (hA1 q z))]
    exact hS.2.1 q g1 (fun z => g2 (hA q z))⟩) (fun q hq => by
      rcases List.mem_append.mp hq with h | h
      · exact hA _ (hS.2.2 q h)
      · exact hA1 _ (hL2 q h)) d2 X.2.2.2.2))
  obtain ⟨t2, a1, b1⟩ := hW2 (U'.setVm vm') rfl XV
  exact ⟨t2, stp.trans a1, b1⟩
end GXC3
