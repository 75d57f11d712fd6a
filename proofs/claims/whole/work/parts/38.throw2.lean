theorem isRef_move {C f d : String} {a a' : Array Value} {s U : State} (hal : s.vm.Alike U.vm) (hz : ∀ (q : Nat) (cell : Cell), s.heap[q]? = some cell → cell.vm.isStatics = true → U.heap[q]? = some cell) (hl : (Cond.laysStatic C f d).before a s = true) (h : (Cond.isRef (.static C f d)).before a s = true) : (Cond.isRef (.static C f d)).before a' U = true := by
  obtain ⟨c, k, i, fd, st, cell, hc, hf, hst, hsta, hcell, hiss, hcls, hlt, hty⟩ := Cond.laysStatic_spec hl
  obtain ⟨u, hu⟩ := Cond.staticRefV hf hst hsta hcell hiss h
  obtain ⟨k', hf', he⟩ := State.fieldFound?_setVm hal hf
  have hfU : U.fieldFound? C f d = some (c, k', i, fd) := by
    have e : U.fieldFound? = (s.setVm U.vm).fieldFound? := by funext x y z; simp only [State.fieldFound?]; rfl
    rw [e]; exact hf'
  have hsta' : k'.statics = some st := by rw [he]; exact hsta
  have hcell' := hz st cell hcell hiss
  have hv := u.2
  simp [Cond.before, Cond.holds, Cond.value, Term.eval, State.fieldNamed?, hfU, hst, hsta', hcell', hiss, hu, hv]
  clear hu h
  revert hv
  generalize u.v = v
  intro hv
  cases v <;> first | rfl | cases hv
theorem exW_mem : exW.all (fun w => Jvm.Free.Str.ridesW w || decide (w = .isRef (.static Bundle.tN "UNASSIGNED_STACK" Bundle.steD)) || decide (w = .isRef (.static Bundle.tN "SUPPRESSED_SENTINEL" Bundle.listD))) = true := by decide +kernel
theorem tSt.move {s U : State} (h : tSt s) (hW : s.WarmedH U.vm) (hs : Jvm.Free.Str.KeepsShape s U) (hz : ∀ (q : Nat) (cell : Cell), s.heap[q]? = some cell → cell.vm.isStatics = true → U.heap[q]? = some cell) : tSt U := by
  refine ⟨?_, fun q hq => let ⟨a, h1⟩ := h.2 q hq; ⟨a, vk_R.warm hW h1⟩⟩
  intro a' w hw
  have := List.all_eq_true.mp exW_mem w hw
  simp only [Bool.or_eq_true, decide_eq_true_eq] at this
  rcases this with (hr | rfl) | rfl
  · exact Jvm.Free.Str.rides_of_W w hr hW hs (h.1 #[] w hw)
  · exact isRef_move hW.alike hz (h.1 #[] (.laysStatic Bundle.tN "UNASSIGNED_STACK" Bundle.steD) (by simp [exW])) (h.1 #[] _ hw)
  · exact isRef_move hW.alike hz (h.1 #[] (.laysStatic Bundle.tN "SUPPRESSED_SENTINEL" Bundle.listD) (by simp [exW])) (h.1 #[] _ hw)
/-- the walk begun anew where it stands -/
def reb (s T : State) : State := { s with heap := T.heap, slotsUsed := T.slotsUsed }
theorem rebStand {p : Program} {l : Launch} {e : Env} {R : Room} {s : State} {m : MethodId} {args : Array Value} {below : List Frame} {meth : Method} {c : Code} {T : State} {locs : List Loc} (X : Stand p l e R s m args below meth c T locs 0 0) : Stand p l e R (reb s T) m args below meth c T [] 0 0 := by
  have hsz : T.heap.size = s.heap.size := Nat.le_antisymm X.heapSize X.same.2.1
  have hus : T.slotsUsed = s.slotsUsed := by
    have h4 : T.slotsUsed = s.slotsUsed + _ := X.same.2.2.2.1
    have h5 := X.used
    omega
  have hroom : (reb s T).hasRoom e.platform R = true := by
    have hr := X.room
    have hb : T.slotsTrue = true := X.book
    simp only [State.hasRoom, Bool.and_eq_true] at hr ⊢
    refine ⟨⟨⟨⟨hr.1.1.1.1, hr.1.1.1.2⟩, ?_⟩, ?_⟩, hb⟩
    · have h1 := hr.1.1.2
      simp only [decide_eq_true_eq] at h1 ⊢
      show T.heap.size + R.cells ≤ _
      rw [hsz]; exact h1
    · have h1 := hr.1.2
      simp only [decide_eq_true_eq] at h1 ⊢
      show T.slotsUsed + R.slots ≤ _
      rw [hus]; exact h1
  refine ⟨X.admits, X.cas, X.clock, X.frames, hroom, X.hears, X.method, X.code, X.here, X.tail, X.warmed, X.limits, X.bytes, ?_⟩
  refine ⟨?_, Nat.le_refl _, Nat.le_refl _, ?_, ?_, fun a c hc => ⟨c, hc, rfl, rfl, fun _ _ => rfl⟩⟩
  · exact X.same.1
  · show T.slotsUsed = T.slotsUsed + ((T.heap.toList.drop T.heap.size).map (·.slots.size)).sum
    rw [List.drop_eq_nil_of_le (by simp)]
    rfl
  · show ((T.heap.toList.drop T.heap.size).map (·.slots.size)).sum ≤ 0
    rw [List.drop_eq_nil_of_le (by simp)]
    exact Nat.le_refl _
section
variable {p : Program} {l : Launch} {e : Env} {R : Room} {s : State} {m : MethodId} {args : Array Value} {below : List Frame} {meth : Method} {c : Code} {nL pc : Nat} {A : Nat → Prop} {D : va_G} {cl : List vw_C} {ca : Nat → ClassId} {ks : List Nat} {lay : Nat → gxE} {ad : Nat → Nat}
variable {ls : List (Nat × xV)} {F : Nat → Nat → Int32} {L : Nat → Nat → Int64} {cc : ByteArray} {c0 : Cond} {post : (Nat → Nat → Int32) → (Nat → Nat → Int64) → Prop}
theorem gx_throw (X : GC p s m args meth c cc nL R_PP (c0 :: WT) A D cl ca ks ad) (E : gE s c A) (hA : ∀ q, A q → gxA ks ad s.heap.size q) (hf : l.flags = pinnedFlags ++ [noTraceFlag]) {ik kx ic : Nat} {tx xc : String}
    (d0 : decode cc pc = .ok (.new ik, 3)) (d1 : decode cc (pc + 3) = .ok (.dup, 1)) (d2 : decode cc (pc + 4) = .ok (.ldc kx, 2)) (d3 : decode cc (pc + 6) = .ok (.invokespecial ic, 3)) (d4 : decode cc (pc + 9) = .ok (.athrow, 1))
    (hcl : Cond.classLink R_PP ik xc ∈ WT) (hin : Cond.initialized xc ∈ WT) (hstr : (kx, tx) ∈ strL) (hok : okX ic xc = true) (hfit : Bundle.fit xc = true) (hR : 5 < R.frames ∧ 82 ≤ R.locals ∧ 1 ≤ R.cells ∧ 6 ≤ R.slots) (hp : post F L) :
    GX p l e R s m args below meth c (MQT below (gxQT D cl ca ks lay ad s.heap.size xc post) args s 1 6 (gxA ks ad s.heap.size)) nL A D cl ca ks lay ad 0 0 pc ls [] F L := by
  intro H locs la hl hP hS T hT Z
  have hts : ∀ w ∈ WT, w.before args s = true := fun w h => X.1.2.2.2.2 w (List.mem_cons_of_mem _ h)
  have hstt : ∀ (q : Nat) (cell : Cell), s.heap[q]? = some cell → cell.vm.isStatics = true → T.heap[q]? = some cell := by
    intro q cell hc hi
    rw [hT, hS.2.1 q (Array.getElem?_eq_some_iff.mp hc).1 (fun z => by rw [E.2.2 q z cell hc] at hi; cases hi)]
    exact hc
  have hT2 : tSt (reb s T) := E.2.1.move (U := reb s T) (State.WarmedH.refl s) (show Jvm.Free.Str.KeepsShape s (reb s T) from Jvm.Free.Str.KeepsShape.of_stand (T := T) Z) hstt
  have hts2 : ∀ w ∈ WT, w.before args (reb s T) = true := fun w h => word_at (s := s) (U := reb s T) (State.WarmedH.refl s) (WT_good w h) (hts w h)
  have hw := ownW hok hts2 hT2
  have htr : e.platform.stackTraces = false := Jvm.ShelfD.Launch.traces_off hf Z.admits
  have Z0 := rebStand Z
  have hown : (reb s T).vm.findClass R_PP = some m.cls := X.1.2.2.2.1
  obtain ⟨vm₁, cX, kX, hfX, hkX, -, -, X₁, st1⟩ := Z0.newCold X.1.1 (own := R_PP) (C := xc) (index := ik) (n := 6) hown (hts2 _ hcl) (hw (.instantiable xc 6) (by simp [Bundle.ownAtoms])) (hts2 _ hin)
    (g := F0 m pc la []) rfl (by rw [X.1.2.1]; exact d0) (by omega) (by omega)
  generalize hT1 : (T.setVm vm₁).pushCell { cls := cX, slots := kX.instanceTypes.map defaultValue, vm := .none } = T1 at X₁ st1
  have hcellA : T1.heap[T.heap.size]? = some (freshCell cX kX) := by rw [← hT1]; exact State.heap_pushCell_size _ _
  obtain ⟨sa, hconst, hev⟩ := hT2.2 _ hstr
  obtain ⟨U, hsteps, hrun, hend, hW, hsame, ce, hce, K⟩ := X₁.ctorThrowS X.1.1 htr (own := R_PP) (cls := xc) (names := upX) (ic := ic) hown hfit (by decide +kernel) hw (fun y hy => by cases hy) hfX hkX hcellA (Nat.le_refl _) (msg := .ref sa) rfl
    (g := F0 m (pc + 6) la [.ref sa, .ref T.heap.size, .ref T.heap.size]) rfl (hl.1.trans X.1.2.2.1.symm) rfl rfl (rest := []) rfl (by rw [X.1.2.1]; exact d3) (by rw [X.1.2.1]; exact d4) (E.1 _) (by show 2 + 3 < R.frames; omega) (by show 0 + 1 + (13 * (2 + 1) + 42) ≤ R.locals; omega) X.2.2.2.2
  have hkeep : ∀ (q : Nat) (cell : Cell), T.heap[q]? = some cell → U.heap[q]? = some cell := by
    intro q cell hc
    obtain ⟨c', h1, h2, h3, h4⟩ := hsame.2.2.2.2.2 q cell hc
    have e1 : c'.slots = cell.slots := Array.ext_getElem? (fun i => h4 i (fun z => by cases z))
    have e2 : c' = cell := by rw [h2, e1]
    rw [← e2]
    exact h1
  have hkeep2 : ∀ q : Nat, q < H.size → U.heap[q]? = H[q]? := by
    intro q hq
    rw [hkeep q H[q] (by rw [hT]; exact Array.getElem?_eq_getElem hq), Array.getElem?_eq_getElem hq]
  have hsame2 : (T.setVm s.vm).sameButNew ({ U with vm := s.vm } : State) [] 1 6 := by
    refine ⟨?_, hsame.2⟩
    refine hsame.1.trans ?_
    have e0 : T.setVm s.vm = ({ s.setFrames T.frames with heap := T.heap, slotsUsed := T.slotsUsed } : State) := Z.same.1
    have e3 : ∀ fs, (T.setVm s.vm).setFrames fs = ({ s.setFrames fs with heap := T.heap, slotsUsed := T.slotsUsed } : State) := by
      intro fs
      rw [e0]
      show ({ (s.setFrames T.frames).setFrames fs with heap := T.heap, slotsUsed := T.slotsUsed } : State) = _
      rw [State.setFrames_setFrames]
    rw [e3]
    rfl
  refine ⟨U, st1 _ ?_, .threw T.heap.size, hrun, hend, ⟨⟨T.heap.size, F, L, rfl, hp, hP.kept (fun k q hq => hkeep2 _ (hP k q hq).lt), ce, hce, K.vm, K.cls⟩, Nat.le_trans hS.1 (by rw [← hT]; exact hsame.2.1), fun q h1 h2 => by rw [hkeep2 q (Nat.lt_of_lt_of_le h1 hS.1)]; exact hS.2.1 q h1 (fun z => h2 (hA q z))⟩, locs, ⟨⟨_, rfl⟩, hW, ?_⟩, fun q hq => hA _ (hS.2.2 q hq)⟩
  · show Steps p.tables e below (T1.setTop (F0 m (pc + 3) la [.ref T.heap.size])) U
    jvm_step X₁.here [X₁.here.top, X.1.1, X.1.2.1, d1, Value.category]
    exact X₁.ldcString X.1.1 (own := R_PP) (text := tx) (index := kx) (a := sa) hown hconst hev (g := F0 m (pc + 4) la [.ref T.heap.size, .ref T.heap.size]) rfl (by rw [X.1.2.1]; exact d2) _ hsteps
  · have h := Z.same.trans hsame2
    rw [List.append_nil] at h
    exact h
end
