/-! contracts of constructors (own text) -/
def gxQG (D : va_G) (cl : List vw_C) (ca : Nat → ClassId) (ks0 ks1 : List Nat) (ad : Nat → Nat) (sz : Nat) (post : (Nat → gxE) → (Nat → Nat → Int32) → (Nat → Nat → Int64) → Prop) : Array Value → State → Outcome → State → Prop := fun _ st oc t =>
  (∃ (lay' : Nat → gxE) (F' : Nat → Nat → Int32) (L' : Nat → Nat → Int64), oc = .returned none ∧ post lay' F' L' ∧ va_P D cl (gxw ks1 lay' ca ad F' L') t.heap ∧ gxD (gxA ks0 ad sz) ks1 ad) ∧ va_F (gxA ks0 ad sz) st t
theorem arrOver_alike {t : FieldType} {a a' : Array Value} {U U' : State} (hal : U.vm.Alike U'.vm) (h : (Cond.arrayOver (.array t)).before a U = true) : (Cond.arrayOver (.array t)).before a' U' = true := by
  simp only [Cond.before, Cond.holds, Cond.value] at h ⊢
  rw [hal.findClass]
  cases hf : U.vm.findClass (FieldType.array t).toString with
  | none => rw [hf] at h; simp at h
  | some comp =>
    rw [hf] at h
    simp only [Option.bind_some] at h ⊢
    rw [hal.findIdx_congr _ (fun _ _ _ _ => rfl)]
    generalize hF : (U.vm.classes.findIdx? fun (x : Class) => match x.kind with | .array component _ => component == comp | _ => false) = fi at h ⊢
    cases fi with
    | none => simp at h
    | some c =>
      simp only [Option.bind_some] at h ⊢
      cases hk : U.vm.classes[c]? with
      | none => rw [hk] at h; simp at h
      | some k =>
        obtain ⟨k', hk', ek⟩ := hal.2.2 _ _ hk
        rw [hk] at h
        rw [hk', hal.findClass]
        have ekind : k'.kind = k.kind := by rw [ek]
        simp only [Option.map_some] at h ⊢
        rw [ekind]
        exact h
/-- words that are not good, yet ride -/
def nSt (U : State) : Prop := (∀ a' : Array Value, (Cond.arrayOver (.array .int)).before a' U = true) ∧ (∀ a' : Array Value, (Cond.arrayOver (.array .long)).before a' U = true) ∧ va_Nw (.methodLinkNest R_PP 14 y_Li_init R_PP) U
theorem nSt.move {s U : State} (h : nSt s) (hW : s.WarmedH U.vm) : nSt U := ⟨fun a' => arrOver_alike (U' := U) hW.alike (h.1 #[]), fun a' => arrOver_alike (U' := U) hW.alike (h.2.1 #[]), va_Nw.warmM hW h.2.2⟩
def gxPG (D : va_G) (cl : List vw_C) (ca : Nat → ClassId) (ks : List Nat) (lay : Nat → gxE) (ad : Nat → Nat) (sz : Nat) (F : Nat → Nat → Int32) (L : Nat → Nat → Int64) (U : State) : Prop := gxP D cl ca ks lay ad sz F L U ∧ nSt U
def ConG (l : Launch) (y : MethodName) (ws : List Cond) (rm : Room) (D : va_G) (cl : List vw_C) (ca : Nat → ClassId) (ks0 ks1 : List Nat) (lay : Nat → gxE) (ad : Nat → Nat) (sz : Nat) (av : List xV) (F : Nat → Nat → Int32) (L : Nat → Nat → Int64) (post : (Nat → gxE) → (Nat → Nat → Int32) → (Nat → Nat → Int64) → Prop) : Prop :=
  Met l y ws rm (va_Pc (av.map (gxv ad)) (gxPG D cl ca ks0 lay ad sz F L)) (gxQG D cl ca ks0 ks1 ad sz post) rm.cells rm.slots (gxA ks0 ad sz)
theorem ConG.of {l : Launch} {y : MethodName} {ws ws' : List Cond} {rm : Room} {D : va_G} {cl : List vw_C} {ca : Nat → ClassId} {ks0 ks1 : List Nat} {lay : Nat → gxE} {ad : Nat → Nat} {sz : Nat} {av : List xV} {F : Nat → Nat → Int32} {L : Nat → Nat → Int64} {post : (Nat → gxE) → (Nat → Nat → Int32) → (Nat → Nat → Int64) → Prop} {cc : ByteArray} {nL : Nat} {ls : List (Nat × xV)}
    (hy : plainName y.cls = true) (hw : ws = Cond.code y cc nL none :: ws') (hls : gxargs 0 av = ls) (hlen : (lg_sl (av.map (gxv (fun _ => 0)))).length ≤ nL)
    (body : ∀ (p : Program) (e : Env) (s : State) (m : MethodId) (args : Array Value) (below : List Frame) (meth : Method) (c : Code) (A : Nat → Prop), s.heap.size = sz → meth.name = y.name → nSt s → GC p s m args meth c cc nL y.cls ws A D cl ca ks0 ad → meth.sig.returnType = none → (∀ q, A q → gxA ks0 ad sz q) →
      GX p l e rm s m args below meth c (MQ below (gxQG D cl ca ks0 ks1 ad sz post) args s rm.cells rm.slots (gxA ks0 ad sz)) nL A D cl ca ks0 lay ad 0 0 0 ls [] F L) : ConG l y ws rm D cl ca ks0 ks1 lay ad sz av F L post := by
  refine Met.ofW (cc := cc) (maxL := nL) (ret := none) hy hw ?_
  intro p e s m args below meth c s₁ B hml hv
  obtain ⟨rfl, ⟨hsz, hP, hK, hD0⟩, hN⟩ := hv
  have hts := atoms_spec (ws := ws) B.pre
  have hown : s.vm.findClass y.cls = some m.cls := findClass_of_methodNamed B.named
  have hX : GC p s m (av.map (gxv ad)).toArray meth c cc nL y.cls ws (gxA ks0 ad sz) D cl ca ks0 ad := ⟨⟨B.exec, B.bytes, hml, hown, hts⟩, hK, hD0.self, fun q h => Or.inr (by omega), B.notSynchronized⟩
  have hlen2 : (lg_sl (av.map (gxv ad))).length ≤ nL := by
    have e : ∀ l : List xV, (lg_sl (l.map (gxv ad))).length = (lg_sl (l.map (gxv (fun _ => 0)))).length := by
      intro l
      induction l with
      | nil => rfl
      | cons v r ih =>
        simp only [lg_sl, List.map_cons, List.flatMap_cons, List.length_append] at ih ⊢
        rw [ih, gxv_cat, gxv_cat]
        cases gxis v <;> rfl
    rw [e]
    exact hlen
  have hl := gxhas_entry (lv_entry (av.map (gxv ad)) (n := nL) hlen2)
  rw [lg_entry_eq]
  rw [hls] at hl
  exact body p e s m _ below meth c (gxA ks0 ad sz) hsz (name_of_methodNamed B.named B.method).1 hN hX B.returns (fun _ h => h) s.heap [] _ hl hP va_S.rf
theorem ConG.ofK {l : Launch} {y : MethodName} {ws : List Cond} {rm : Room} {D : va_G} {cl : List vw_C} {ca : Nat → ClassId} {ks0 ks1 : List Nat} {lay : Nat → gxE} {ad : Nat → Nat} {sz : Nat} {av : List xV} {F : Nat → Nat → Int32} {L : Nat → Nat → Int64} {post0 : (Nat → gxE) → (Nat → Nat → Int32) → (Nat → Nat → Int64) → Prop} (h : ∀ post : (Nat → gxE) → (Nat → Nat → Int32) → (Nat → Nat → Int64) → Prop, (∀ lay' F' L', post0 lay' F' L' → post lay' F' L') → ConG l y ws rm D cl ca ks0 ks1 lay ad sz av F L post) : ConG l y ws rm D cl ca ks0 ks1 lay ad sz av F L post0 := h post0 (fun _ _ _ h => h)
section GXG
variable {p : Program} {l : Launch} {e : Env} {R : Room} {s : State} {m : MethodId} {args : Array Value} {below : List Frame} {meth : Method} {c : Code} {Q : State → Prop} {nL cells slots pc : Nat} {A : Nat → Prop} {D : va_G} {cl : List vw_C} {ca : Nat → ClassId} {ks ks0 ks1 : List Nat} {lay : Nat → gxE} {ad : Nat → Nat} {sz : Nat}
variable {ls : List (Nat × xV)} {st : List xV} {F : Nat → Nat → Int32} {L : Nat → Nat → Int64} {cc : ByteArray} {own : String} {Ts : List Cond} {c0 : Cond} {post : (Nat → gxE) → (Nat → Nat → Int32) → (Nat → Nat → Int64) → Prop}
theorem gx_vretG (X : GC p s m args meth c cc nL own Ts A D cl ca ks1 ad) (hr : meth.sig.returnType = none) (hsz : s.heap.size = sz) (hA : ∀ q, A q → gxA ks0 ad sz q) {mc ms : Nat} (hc : cells ≤ mc ∧ slots ≤ ms) (d : decode cc pc = .ok (.return_, 1)) (hp : post lay F L) : GX p l e R s m args below meth c (MQ below (gxQG D cl ca ks0 ks1 ad sz post) args s mc ms (gxA ks0 ad sz)) nL A D cl ca ks1 lay ad cells slots pc ls [] F L := fun H locs la hl hP hS =>
  W.widen hc.1 hc.2 (W.vret X.1.1 X.1.2.1 hr (fun t ht hW => ⟨⟨lay, F, L, rfl, hp, by rw [ht]; exact hP, ⟨X.2.2.1.1, fun k hk => hA _ (X.2.2.1.2 k hk)⟩⟩, by rw [ht]; exact hS.1, fun q h1 h2 => by rw [ht]; exact hS.2.1 q h1 (fun z => h2 (hA q z))⟩) (fun q hq => hA _ (hS.2.2 q hq)) d X.2.2.2.2)
theorem gx_goG (X : GC p s m args meth c cc nL own Ts A D cl ca ks ad) {a : Array Value} {st0 rest : List xV} {mc ms : Nat} (hlast : cells = 0 ∨ ∃ k ∈ ks, ad k + 1 = s.heap.size + cells) (hr : ∀ (H : Heap) (locs : List Loc) (la : Array Slot), la.size = nL → va_P D cl (gxw ks lay ca ad F L) H → H.size = s.heap.size + cells → va_Run p l e R s m args below meth c H locs cells slots mc ms (F0 m pc la (st0.map (gxv ad))) (rest.map (gxv ad)) (gxQG D cl ca ks ks1 ad (s.heap.size + cells) post a) (gxA ks ad (s.heap.size + cells)))
    (kk : ∀ (lay' : Nat → gxE) (F' : Nat → Nat → Int32) (L' : Nat → Nat → Int64), post lay' F' L' → GC p s m args meth c cc nL own Ts A D cl ca ks1 ad → GX p l e R s m args below meth c Q nL A D cl ca ks1 lay' ad (cells + mc) (slots + ms) (pc + 3) ls rest F' L') : GX p l e R s m args below meth c Q nL A D cl ca ks lay ad cells slots pc ls st0 F L := by
  intro H locs la hl hP hS T hT Z
  have hsz := gx_exact hP hS hlast Z hT
  obtain ⟨v, st₀, t, T', L2, h0, Z', hL, e1, e2, ⟨⟨lay', F', L', hv, hp, hP', hD'⟩, hz, hk⟩, stp⟩ := hr H locs la hl.1 hP hsz T hT Z
  rw [h0] at hz hk
  have hA1 : ∀ q, gxA ks ad (s.heap.size + cells) q → A q := by
    intro q hq
    rcases hq with ⟨k, h1, rfl⟩ | h1
    · exact X.2.2.1.2 k h1
    · exact X.2.2.2.1 q (by omega)
  have X2 : GC p s m args meth c cc nL own Ts A D cl ca ks1 ad := ⟨X.1, X.2.1, ⟨hD'.1, fun k hk => hA1 _ (hD'.2 k hk)⟩, X.2.2.2⟩
  have hv2 : v = none := by cases hv; rfl
  subst hv2
  obtain ⟨t2, a1, b1⟩ := kk lay' F' L' hp X2 T'.heap (locs ++ L2) la hl (by rw [e1]; exact hP')
    ⟨Nat.le_trans hS.1 (by rw [e1]; exact hz), fun q h1 h2 => by rw [e1, hk q (Nat.lt_of_lt_of_le h1 hS.1) (fun z => h2 (hA1 q z))]; exact hS.2.1 q h1 h2, fun q hq => by
      rcases List.mem_append.mp hq with h | h
      · exact hS.2.2 q h
      · exact hA1 _ (hL q h)⟩ T' rfl Z'
  exact ⟨t2, stp t2 a1, b1⟩
theorem gxPG_blind {av : List xV} {sz : Nat} : FrameBlind (va_Pc (av.map (gxv ad)) (gxPG D cl ca ks lay ad sz F L)) := by
  intro a U g mk ⟨q0, ⟨q1, qP, qK, qD⟩, qN⟩
  exact ⟨q0, ⟨q1, qP, va_K.moved (u := U) (U := U.calling g mk a) (Vm.Alike.refl U.vm) qK, qD⟩, qN.move (U := U.calling g mk a) (State.WarmedH.refl U)⟩
theorem gxPG_at (X : GC p s m args meth c cc nL own Ts A D cl ca ks ad) (hN : nSt s) {av : List xV} {H : Heap} (hP : va_P D cl (gxw ks lay ca ad F L) H) (U : State) (hU : U.heap = H) (hW : s.WarmedH U.vm) : va_Pc (av.map (gxv ad)) (gxPG D cl ca ks lay ad H.size F L) (av.map (gxv ad)).toArray U :=
  ⟨rfl, ⟨by rw [hU], by rw [hU]; exact hP, va_K.moved hW.alike X.2.1, ⟨X.2.2.1.1, fun _ _ => trivial⟩⟩, hN.move hW⟩
def gMI (y : MethodName) (bytes : ByteArray) (maxL : Nat) (n : Nat) : Prop := Cond.code y bytes maxL none ∈ WT ∧ Cond.instanceMethod y ∈ WT ∧ Cond.initialized y.cls ∈ WT ∧ y.cls ≠ "java/lang/invoke/MethodHandle" ∧ y.cls ≠ "java/lang/invoke/VarHandle" ∧ (parseMethodDescriptor y.desc).map (fun d => d.parameters.length) = some n
/-- a call of a constructor -/
theorem gx_callI (X : GC p s m args meth c cc nL own (c0 :: WT) A D cl ca ks ad) (hN : nSt s) {index n maxL k : Nat} {y : MethodName} {bytes : ByteArray} {rm : Room} {av rest st0 : List xV}
    (d : decode cc pc = .ok (.invokespecial index, 3)) (hm : gMI y bytes maxL n) (hlink : Cond.methodLink own index y ∈ WT) (hI : y.name = "<init>") (hcon : ConG l y (Cond.code y bytes maxL none :: WT) rm D cl ca ks ks1 lay ad (s.heap.size + cells) (xR k :: av) F L post)
    (hlast : cells = 0 ∨ ∃ k ∈ ks, ad k + 1 = s.heap.size + cells) (hn : av.length = n) (hst : st0 = av.reverse ++ xR k :: rest) (h8 : (rest.map (fun v => cond (gxis v) 2 1)).sum ≤ 8) (hR : rm.frames + 1 ≤ R.frames ∧ 8 + (maxL + 11) + rm.locals ≤ R.locals) (hcs : cells + rm.cells ≤ R.cells ∧ slots + rm.slots ≤ R.slots)
    (kk : ∀ (lay' : Nat → gxE) (F' : Nat → Nat → Int32) (L' : Nat → Nat → Int64), post lay' F' L' → GC p s m args meth c cc nL own (c0 :: WT) A D cl ca ks1 ad → GX p l e R s m args below meth c Q nL A D cl ca ks1 lay' ad (cells + rm.cells) (slots + rm.slots) (pc + 3) ls rest F' L') : GX p l e R s m args below meth c Q nL A D cl ca ks lay ad cells slots pc ls st0 F L := by
  subst hst
  obtain ⟨hcode, him, hini, hd1, hd2, hd3⟩ := hm
  have hts := X.1.2.2.2.2
  have ok : ∀ w, w ∈ WT → w.before args s = true := fun w h => hts w (List.mem_cons_of_mem _ h)
  refine gx_goG X (post := post) (a := (Value.ref (ad k) :: av.map (gxv ad)).toArray) (rest := rest) hlast (fun H locs la hsz hP hH => ?_) kk
  have cw : CallB R s args own index y bytes maxL none (Cond.code y bytes maxL none :: WT) rm rm.cells rm.slots n ∧ y.name = "<init>" ∧ (Cond.instanceMethod y).before args s = true := ⟨callB_of n hts (gG hcode) rfl rfl rfl (ok _ hini) (ok _ hlink) ⟨hd1, hd2, hd3⟩ hR, hI, ok _ him⟩
  rw [← hH] at hcon ⊢
  exact va_runI (g := F0 m pc la ((av.reverse ++ xR k :: rest).map (gxv ad))) X.1 hcon cw ⟨gxPG_blind (av := xR k :: av), fun U hU hW => gxPG_at X hN (av := xR k :: av) hP U hU hW⟩ rfl (by rw [List.length_map]; exact hn) hsz (by simp [gxv]) (gx_cat8 h8) d (by simpa using hcs)
/-- a call of a nest mate's private constructor -/
theorem gx_callIN (X : GC p s m args meth c cc nL own (c0 :: WT) A D cl ca ks ad) (hN : nSt s) {index n maxL k : Nat} {y : MethodName} {bytes : ByteArray} {rm : Room} {av rest st0 : List xV} {host : String}
    (d : decode cc pc = .ok (.invokespecial index, 3)) (hm : gMI y bytes maxL n) (hlink : (Cond.methodLinkNest own index y host).before args s = true) (hI : y.name = "<init>") (hcon : ConG l y (Cond.code y bytes maxL none :: WT) rm D cl ca ks ks1 lay ad (s.heap.size + cells) (xR k :: av) F L post)
    (hlast : cells = 0 ∨ ∃ k ∈ ks, ad k + 1 = s.heap.size + cells) (hn : av.length = n) (hst : st0 = av.reverse ++ xR k :: rest) (h8 : (rest.map (fun v => cond (gxis v) 2 1)).sum ≤ 8) (hR : rm.frames + 1 ≤ R.frames ∧ 8 + (maxL + 11) + rm.locals ≤ R.locals) (hcs : cells + rm.cells ≤ R.cells ∧ slots + rm.slots ≤ R.slots)
    (kk : ∀ (lay' : Nat → gxE) (F' : Nat → Nat → Int32) (L' : Nat → Nat → Int64), post lay' F' L' → GC p s m args meth c cc nL own (c0 :: WT) A D cl ca ks1 ad → GX p l e R s m args below meth c Q nL A D cl ca ks1 lay' ad (cells + rm.cells) (slots + rm.slots) (pc + 3) ls rest F' L') : GX p l e R s m args below meth c Q nL A D cl ca ks lay ad cells slots pc ls st0 F L := by
  subst hst
  obtain ⟨hcode, him, hini, hd1, hd2, hd3⟩ := hm
  have hts := X.1.2.2.2.2
  have ok : ∀ w, w ∈ WT → w.before args s = true := fun w h => hts w (List.mem_cons_of_mem _ h)
  refine gx_goG X (post := post) (a := (Value.ref (ad k) :: av.map (gxv ad)).toArray) (rest := rest) hlast (fun H locs la hsz hP hH => ?_) kk
  have cw : va_CN R s args own index y host bytes maxL none (Cond.code y bytes maxL none :: WT) rm rm.cells rm.slots n ∧ y.name = "<init>" ∧ (Cond.instanceMethod y).before args s = true := ⟨va_cnB n hts (gG hcode) rfl rfl rfl (va_Nw.of rfl hlink) (ok _ hini) ⟨hd1, hd2, hd3⟩ hR, hI, ok _ him⟩
  rw [← hH] at hcon ⊢
  exact va_runIN (g := F0 m pc la ((av.reverse ++ xR k :: rest).map (gxv ad))) X.1 hcon cw ⟨gxPG_blind (av := xR k :: av), fun U hU hW => gxPG_at X hN (av := xR k :: av) hP U hU hW⟩ rfl (by rw [List.length_map]; exact hn) hsz (by simp [gxv]) (gx_cat8 h8) d (by simpa using hcs)
end GXG
