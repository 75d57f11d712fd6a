/-! worlds that grow (own text): new cells at known places; fields that are written for the first time -/
def lyU (lay : Nat → gxE) (k : Nat) (e : gxE) : Nat → gxE := fun a => if a = k then e else lay a
def zF (F : Nat → Nat → Int32) (k : Nat) : Nat → Nat → Int32 := fun a b => if a = k then 0 else F a b
def zL (L : Nat → Nat → Int64) (k : Nat) : Nat → Nat → Int64 := fun a b => if a = k then 0 else L a b
theorem lyU_at {lay : Nat → gxE} {k : Nat} {e : gxE} : lyU lay k e k = e := by simp [lyU]
theorem lyU_ne {lay : Nat → gxE} {k a : Nat} {e : gxE} (h : a ≠ k) : lyU lay k e a = lay a := by simp [lyU, h]
theorem zF_at {F : Nat → Nat → Int32} {k : Nat} : zF F k k = fun _ => 0 := by funext b; simp [zF]
theorem zF_ne {F : Nat → Nat → Int32} {k a : Nat} (h : a ≠ k) : zF F k a = F a := by funext b; simp [zF, h]
theorem zL_at {L : Nat → Nat → Int64} {k : Nat} : zL L k k = fun _ => 0 := by funext b; simp [zL]
theorem zL_ne {L : Nat → Nat → Int64} {k a : Nat} (h : a ≠ k) : zL L k a = L a := by funext b; simp [zL, h]
theorem gxw_push {ks : List Nat} {lay : Nat → gxE} {ca : Nat → ClassId} {ad : Nat → Nat} {F F' : Nat → Nat → Int32} {L L' : Nat → Nat → Int64} {k0 : Nat} {e : gxE} (hk : k0 ∉ ks) (hF : ∀ a, a ≠ k0 → F' a = F a) (hL : ∀ a, a ≠ k0 → L' a = L a) : gxw (k0 :: ks) (lyU lay k0 e) ca ad F' L' = (ad k0, gxc ca ad F' L' k0 e) :: gxw ks lay ca ad F L := by
  unfold gxw
  rw [List.map_cons, lyU_at]
  congr 1
  apply List.map_congr_left
  intro a ha
  have hne : a ≠ k0 := fun z => hk (z ▸ ha)
  rw [lyU_ne hne]
  have e2 : gxc ca ad F' L' a (lay a) = gxc ca ad F L a (lay a) := by
    unfold gxc
    rw [hF a hne, hL a hne]
  rw [e2]
theorem gxw_setl {A : Nat → Prop} {ks : List Nat} {lay : Nat → gxE} {ca : Nat → ClassId} {ad : Nat → Nat} {F : Nat → Nat → Int32} {L : Nat → Nat → Int64} {q k : Nat} {e : gxE} (hd : gxD A ks ad) (hq : ks[q]? = some k) : (gxw ks lay ca ad F L).set q (ad k, gxc ca ad F L k e) = gxw ks (lyU lay k e) ca ad F L := by
  apply List.ext_getElem?
  intro i
  by_cases hi : i = q
  · subst hi
    have h1 : i < ks.length := (List.getElem?_eq_some_iff.mp hq).1
    rw [gxw_at hq, List.getElem?_set_self (by simpa [gxw] using h1), lyU_at]
  · rw [List.getElem?_set_ne (Ne.symm hi)]
    cases ha : ks[i]? with
    | none => simp [gxw, ha]
    | some a =>
      have hne : a ≠ k := fun z => hi (hd.1 i q a k ha hq (by rw [z]))
      rw [gxw_at ha, gxw_at ha, lyU_ne hne]
theorem gxD.push {A : Nat → Prop} {ks : List Nat} {ad : Nat → Nat} {k0 : Nat} (h : gxD A ks ad) (hne : ∀ k ∈ ks, ad k ≠ ad k0) (hA : A (ad k0)) : gxD A (k0 :: ks) ad := by
  refine ⟨fun i j a b hi hj he => ?_, fun k hk => ?_⟩
  · cases i with
    | zero =>
      have ha : k0 = a := by simpa using hi
      subst ha
      cases j with
      | zero => rfl
      | succ j => exact absurd he.symm (hne b (List.mem_of_getElem? (by simpa using hj)))
    | succ i =>
      have ha : ks[i]? = some a := by simpa using hi
      cases j with
      | zero =>
        have hb : k0 = b := by simpa using hj
        subst hb
        exact absurd he (hne a (List.mem_of_getElem? ha))
      | succ j =>
        have hb : ks[j]? = some b := by simpa using hj
        rw [h.1 i j a b ha hb he]
  · rcases List.mem_cons.mp hk with rfl | h2
    · exact hA
    · exact h.2 k h2
theorem va_Pc1 {D : va_G} {cl : List vw_C} {q0 : Nat × va_E} {ws : va_W} {H : Heap} (h0 : va_at D cl q0 H) (h : va_P D cl ws H) : va_P D cl (q0 :: ws) H := fun k q hk => by
  cases k with
  | zero =>
    have e : q0 = q := by simpa using hk
    exact e ▸ h0
  | succ k => exact h k q (by simpa using hk)
theorem gxfl_setr (ad : Nat → Nat) (f : Nat → Int32) (k2 : Nat) : ∀ (fs : List (Option Nat)) (i j : Nat), (gxfl ad f i fs).set j (gxrf ad k2) = if j < fs.length then gxfl ad f i (fs.set j (some k2)) else gxfl ad f i fs
  | [], i, j => by simp [gxfl]
  | none :: r, i, 0 => by simp [gxfl]
  | some _ :: r, i, 0 => by simp [gxfl]
  | none :: r, i, j + 1 => by
    have ih := gxfl_setr ad f k2 r (i + 1) j
    by_cases h : j < r.length
    · rw [if_pos h] at ih
      simp [gxfl, ih, h]
    · rw [if_neg h] at ih
      simp [gxfl, ih, h]
  | some a :: r, i, j + 1 => by
    have ih := gxfl_setr ad f k2 r (i + 1) j
    by_cases h : j < r.length
    · rw [if_pos h] at ih
      simp [gxfl, ih, h]
    · rw [if_neg h] at ih
      simp [gxfl, ih, h]
/-- a fresh field, by its type -/
def gxd (t : FieldType) : Option (Option Nat) := match t with
  | .int => some none
  | .byte => some none
  | .char => some none
  | .short => some none
  | .boolean => some none
  | .object _ => some (some 9999)
  | .array _ => some (some 9999)
  | _ => none
theorem gxd_ok {ad : Nat → Nat} {fs : List (Option Nat)} {j : Nat} {t : FieldType} (h : (gxd t).isSome = true ∧ fs[j]? = gxd t) : defaultValue t = vp_V (gxfl ad (fun _ => 0) 0 fs) j := by
  obtain ⟨h1, h2⟩ := h
  unfold vp_V
  rw [List.getD_eq_getElem?_getD]
  cases t with
  | int => rw [gxfl_i ad (fun _ => 0) fs 0 j h2]; rfl
  | byte => rw [gxfl_i ad (fun _ => 0) fs 0 j h2]; rfl
  | char => rw [gxfl_i ad (fun _ => 0) fs 0 j h2]; rfl
  | short => rw [gxfl_i ad (fun _ => 0) fs 0 j h2]; rfl
  | boolean => rw [gxfl_i ad (fun _ => 0) fs 0 j h2]; rfl
  | object C => rw [gxfl_r ad (fun _ => 0) fs 0 j 9999 h2]; rfl
  | array C => rw [gxfl_r ad (fun _ => 0) fs 0 j 9999 h2]; rfl
  | _ => cases h1
section GXN
variable {p : Program} {l : Launch} {e : Env} {R : Room} {s : State} {m : MethodId} {args : Array Value} {below : List Frame} {meth : Method} {c : Code} {Q : State → Prop} {nL cells slots pc : Nat} {A : Nat → Prop} {D : va_G} {cl : List vw_C} {ca : Nat → ClassId} {ks : List Nat} {lay : Nat → gxE} {ad : Nat → Nat}
variable {ls : List (Nat × xV)} {st : List xV} {F : Nat → Nat → Int32} {L : Nat → Nat → Int64} {cc : ByteArray} {own : String} {Ts : List Cond}
/-- the heap's size is known exactly -/
theorem gx_exact {H : Heap} {locs : List Loc} {T : State} (hP : va_P D cl (gxw ks lay ca ad F L) H) (hS : va_S A s.heap H locs) (hlast : cells = 0 ∨ ∃ k ∈ ks, ad k + 1 = s.heap.size + cells) (Z : Stand p l e R s m args below meth c T locs cells slots) (hT : T.heap = H) : H.size = s.heap.size + cells := by
  have h1 := Z.heapSize
  rw [hT] at h1
  rcases hlast with h | ⟨k, hk, h⟩
  · have := hS.1
    omega
  · obtain ⟨q, hq⟩ := List.getElem?_of_mem hk
    have h2 : ad k < H.size := (hP q _ (gxw_at (lay := lay) (ca := ca) (ad := ad) (F := F) (L := L) hq)).lt
    omega
theorem gx_apart {H : Heap} (hP : va_P D cl (gxw ks lay ca ad F L) H) {a : Nat} (ha : H.size ≤ a) : ∀ k ∈ ks, ad k ≠ a := fun k hk he => by
  obtain ⟨q, hq⟩ := List.getElem?_of_mem hk
  have h2 : ad k < H.size := (hP q _ (gxw_at (lay := lay) (ca := ca) (ad := ad) (F := F) (L := L) hq)).lt
  omega
/-- a new object: its fields are 0 and null -/
theorem gx_new (X : GC p s m args meth c cc nL own Ts A D cl ca ks ad) {C : String} {T0 : u_T} {N0 ci index : Nat} {fs : List (Option Nat)} (k0 : Nat) (d : decode cc pc = .ok (.new index, 3)) (hin : ∀ w ∈ u_ws C T0 N0, w ∈ Ts) (ty : Nat → FieldType) (hty : ∀ k, k < N0 → parseFieldDescriptor (T0 k).2.2.1 = some (ty k)) (hcl : (Cond.classLink own index C).before args s = true) (hinst : (Cond.instantiable C N0).before args s = true) (hini : (Cond.initialized C).before args s = true) (hc : cl[ci]? = some (C, T0, N0)) (hfs : ∀ j, j < N0 → (gxd (ty j)).isSome = true ∧ fs[j]? = gxd (ty j)) (hcells : cells + 1 ≤ R.cells) (hslots : slots + N0 ≤ R.slots) (hk0 : k0 ∉ ks) (had : ad k0 = s.heap.size + cells) (hlast : cells = 0 ∨ ∃ k ∈ ks, ad k + 1 = s.heap.size + cells)
    (kk : GC p s m args meth c cc nL own Ts A D cl ca (k0 :: ks) ad → GX p l e R s m args below meth c Q nL A D cl ca (k0 :: ks) (lyU lay k0 (Sum.inl (ci, fs))) ad (cells + 1) (slots + N0) (pc + 3) ls (xR k0 :: st) (zF F k0) L) : GX p l e R s m args below meth c Q nL A D cl ca ks lay ad cells slots pc ls st F L := by
  intro H locs la hl hP hS T hT Z
  have hsz := gx_exact hP hS hlast Z hT
  have e0 : ad k0 = H.size := by omega
  have X2 : GC p s m args meth c cc nL own Ts A D cl ca (k0 :: ks) ad := ⟨X.1, X.2.1, X.2.2.1.push (gx_apart hP (by omega)) (X.2.2.2.1 _ (by omega)), X.2.2.2⟩
  have hKn := X.2.1.1 ci _ hc
  refine W.newcK X.1.1 X.1.2.1 X.1.2.2.2.1 hcl hinst hini (g := F0 m pc la (st.map (gxv ad))) rfl d hcells hslots hKn.2.1 rfl (fun H1 kC hkC e1 z1 o1 => ?_) T hT Z
  have hk : ∀ (k : Nat) (x : Nat × va_E), (gxw ks lay ca ad F L)[k]? = some x → H1[x.1]? = H[x.1]? := fun k x hx => o1 x.1 ((hP k x hx).lt)
  have hW : va_P D cl (gxw (k0 :: ks) (lyU lay k0 (Sum.inl (ci, fs))) ca ad (zF F k0) L) H1 := by
    rw [gxw_push hk0 (fun a ha => zF_ne ha) (fun _ _ => rfl)]
    refine va_Pc1 ?_ (hP.kept hk)
    show va_at D cl (ad k0, .inr (ci, gxfl ad (zF F k0 k0) 0 fs)) H1
    rw [zF_at, e0]
    exact ⟨_, hc, (u_born ty X.1.2.2.2.2 hin hKn hkC e1 hty).to (fun j hj => gxd_ok (hfs j hj))⟩
  have h := kk X2 H1 locs la hl hW ⟨Nat.le_trans hS.1 (by omega), fun x h1 h2 => (o1 x (Nat.lt_of_lt_of_le h1 hS.1)).trans (hS.2.1 x h1 h2), hS.2.2⟩
  have h : W p l e R s m args below meth c H1 locs (cells + 1) (slots + N0) Q (F0 m (pc + 3) la (.ref (ad k0) :: st.map (gxv ad))) := h
  rw [e0] at h
  exact h
/-- a new array of ints, characters, bytes or booleans -/
theorem gx_newi (X : GC p s m args meth c cc nL own Ts A D cl ca ks ad) {atype : ArrayType} {τ n : Nat} (k0 : Nat) (d : decode cc pc = .ok (.newarray atype, 2)) (harr : (Cond.arrayClass (newarray.typeOf atype)).before args s = true) (hτ : (gxT ca)[τ]? = some (ca τ, newarray.typeOf atype)) (hra : va_RA s (ca τ) (newarray.typeOf atype) → s.vm.findClass ("[" ++ (newarray.typeOf atype).toString) = some (ca τ)) (hcell : ∀ cA : ClassId, vp_cell cA (n, .inl (fun _ => 0)) = arrV cA n (fun _ => defaultValue (newarray.typeOf atype))) (hn : n < 2 ^ 31) (hbytes : n * componentBytes (newarray.typeOf atype) ≤ 536870912) (hcells : cells + 1 ≤ R.cells) (hslots : slots + n ≤ R.slots) (hk0 : k0 ∉ ks) (had : ad k0 = s.heap.size + cells) (hlast : cells = 0 ∨ ∃ k ∈ ks, ad k + 1 = s.heap.size + cells)
    (kk : GC p s m args meth c cc nL own Ts A D cl ca (k0 :: ks) ad → GX p l e R s m args below meth c Q nL A D cl ca (k0 :: ks) (lyU lay k0 (Sum.inr (Sum.inl (τ, n)))) ad (cells + 1) (slots + n) (pc + 2) ls (xR k0 :: st) (zF F k0) L) : GX p l e R s m args below meth c Q nL A D cl ca ks lay ad cells slots pc ls (xI (nI n) :: st) F L := by
  intro H locs la hl hP hS T hT Z
  have hsz := gx_exact hP hS hlast Z hT
  have e0 : ad k0 = H.size := by omega
  have X2 : GC p s m args meth c cc nL own Ts A D cl ca (k0 :: ks) ad := ⟨X.1, X.2.1, X.2.2.1.push (gx_apart hP (by omega)) (X.2.2.2.1 _ (by omega)), X.2.2.2⟩
  refine va_newaK X.1.1 X.1.2.1 harr (g := F0 m pc la ((xI (nI n) :: st).map (gxv ad))) rfl d rfl (nI_pos hn) (nI_clamp hn) hbytes hcells hslots rfl (fun H1 cA e1 z1 o1 hAr hNm => ?_) T hT Z
  have ec : cA = ca τ := Option.some.inj (hNm.symm.trans (hra (X.2.1.2 τ _ hτ).2))
  have hk : ∀ (k : Nat) (x : Nat × va_E), (gxw ks lay ca ad F L)[k]? = some x → H1[x.1]? = H[x.1]? := fun k x hx => o1 x.1 ((hP k x hx).lt)
  have hW : va_P D cl (gxw (k0 :: ks) (lyU lay k0 (Sum.inr (Sum.inl (τ, n)))) ca ad (zF F k0) L) H1 := by
    rw [gxw_push hk0 (fun a ha => zF_ne ha) (fun _ _ => rfl)]
    refine va_Pc1 ?_ (hP.kept hk)
    show H1[ad k0]? = some (vp_cell (ca τ) (n, .inl (zF F k0 k0)))
    rw [zF_at, e0, hcell, e1, ec]
  have h := kk X2 H1 locs la hl hW ⟨Nat.le_trans hS.1 (by omega), fun x h1 h2 => (o1 x (Nat.lt_of_lt_of_le h1 hS.1)).trans (hS.2.1 x h1 h2), hS.2.2⟩
  have h : W p l e R s m args below meth c H1 locs (cells + 1) (slots + n) Q (F0 m (pc + 2) la (.ref (ad k0) :: st.map (gxv ad))) := h
  rw [e0] at h
  exact h
/-- a new array of longs -/
theorem gx_newl (X : GC p s m args meth c cc nL own Ts A D cl ca ks ad) {atype : ArrayType} {n : Nat} (k0 : Nat) (d : decode cc pc = .ok (.newarray atype, 2)) (harr : (Cond.arrayClass (newarray.typeOf atype)).before args s = true) (hτ : (gxT ca)[1]? = some (ca 1, newarray.typeOf atype)) (hra : va_RA s (ca 1) (newarray.typeOf atype) → s.vm.findClass ("[" ++ (newarray.typeOf atype).toString) = some (ca 1)) (hcell : ∀ cA : ClassId, vp_cell cA (n, .inr (.inl (fun _ => 0))) = arrV cA n (fun _ => defaultValue (newarray.typeOf atype))) (hn : n < 2 ^ 31) (hbytes : n * componentBytes (newarray.typeOf atype) ≤ 536870912) (hcells : cells + 1 ≤ R.cells) (hslots : slots + n ≤ R.slots) (hk0 : k0 ∉ ks) (had : ad k0 = s.heap.size + cells) (hlast : cells = 0 ∨ ∃ k ∈ ks, ad k + 1 = s.heap.size + cells)
    (kk : GC p s m args meth c cc nL own Ts A D cl ca (k0 :: ks) ad → GX p l e R s m args below meth c Q nL A D cl ca (k0 :: ks) (lyU lay k0 (Sum.inr (Sum.inr (Sum.inl n)))) ad (cells + 1) (slots + n) (pc + 2) ls (xR k0 :: st) F (zL L k0)) : GX p l e R s m args below meth c Q nL A D cl ca ks lay ad cells slots pc ls (xI (nI n) :: st) F L := by
  intro H locs la hl hP hS T hT Z
  have hsz := gx_exact hP hS hlast Z hT
  have e0 : ad k0 = H.size := by omega
  have X2 : GC p s m args meth c cc nL own Ts A D cl ca (k0 :: ks) ad := ⟨X.1, X.2.1, X.2.2.1.push (gx_apart hP (by omega)) (X.2.2.2.1 _ (by omega)), X.2.2.2⟩
  refine va_newaK X.1.1 X.1.2.1 harr (g := F0 m pc la ((xI (nI n) :: st).map (gxv ad))) rfl d rfl (nI_pos hn) (nI_clamp hn) hbytes hcells hslots rfl (fun H1 cA e1 z1 o1 hAr hNm => ?_) T hT Z
  have ec : cA = ca 1 := Option.some.inj (hNm.symm.trans (hra (X.2.1.2 1 _ hτ).2))
  have hk : ∀ (k : Nat) (x : Nat × va_E), (gxw ks lay ca ad F L)[k]? = some x → H1[x.1]? = H[x.1]? := fun k x hx => o1 x.1 ((hP k x hx).lt)
  have hW : va_P D cl (gxw (k0 :: ks) (lyU lay k0 (Sum.inr (Sum.inr (Sum.inl n)))) ca ad F (zL L k0)) H1 := by
    rw [gxw_push hk0 (fun _ _ => rfl) (fun a ha => zL_ne ha)]
    refine va_Pc1 ?_ (hP.kept hk)
    show H1[ad k0]? = some (vp_cell (ca 1) (n, .inr (.inl (zL L k0 k0))))
    rw [zL_at, e0, hcell, e1, ec]
  have h := kk X2 H1 locs la hl hW ⟨Nat.le_trans hS.1 (by omega), fun x h1 h2 => (o1 x (Nat.lt_of_lt_of_le h1 hS.1)).trans (hS.2.1 x h1 h2), hS.2.2⟩
  have h : W p l e R s m args below meth c H1 locs (cells + 1) (slots + n) Q (F0 m (pc + 2) la (.ref (ad k0) :: st.map (gxv ad))) := h
  rw [e0] at h
  exact h
/-- Object's own constructor -/
theorem gx_obj (X : GC p s m args meth c cc nL own Ts A D cl ca ks ad) {index k : Nat} (d : decode cc pc = .ok (.invokespecial index, 3)) (hlink : (Cond.methodLink own index Lib.objectInit).before args s = true) (hinst : (Cond.instanceMethod Lib.objectInit).before args s = true) (hcode : (Cond.code Lib.objectInit ⟨#[0xb1]⟩ 1 none).before args s = true) (h8 : (st.map (fun v => cond (gxis v) 2 1)).sum ≤ 8) (hR : 1 ≤ R.frames ∧ 20 ≤ R.locals)
    (kk : GX p l e R s m args below meth c Q nL A D cl ca ks lay ad cells slots (pc + 3) ls st F L) : GX p l e R s m args below meth c Q nL A D cl ca ks lay ad cells slots pc ls (xR k :: st) F L := by
  intro H locs la hl hP hS
  refine W.objInit X.1.1 X.1.2.1 X.1.2.2.2.1 hlink hinst hcode (g := F0 m pc la ((xR k :: st).map (gxv ad))) rfl (hl.1.trans X.1.2.2.1.symm) (a := ad k) (rest := st.map (gxv ad)) rfl d hR.1 ?_ (kk H locs la hl hP hS)
  have := gx_cat8 (m := m) (pc := pc) (ad := ad) (rest := st) (la := la) (st0 := (xR k :: st).map (gxv ad)) h8
  omega
/-- a final field of ints -/
theorem gx_putFi (X : GC p s m args meth c cc nL own Ts A D cl ca ks ad) {C ref : String} {T : u_T} {N ci index : Nat} {fs : List (Option Nat)} {k : Nat} {ty : FieldType} {v : Int32} (d : decode cc pc = .ok (.putfield index, 3)) (hin : ∀ w ∈ u_ws C T N, w ∈ Ts) (hk : k ∈ ks) (hlay : lay k = Sum.inl (ci, fs)) (hc : cl[ci]? = some (C, T, N)) (j : Nat) (hj : j < N) (hlink : (Cond.fieldLink own index ref (T j).2.1 (T j).2.2.1).before args s = true) (hsame : ∀ x, s.fieldFound? (T j).1 (T j).2.1 (T j).2.2.1 = some x → s.fieldFound? ref (T j).2.1 (T j).2.2.1 = some x) (ty0 : Nat → FieldType) (hty : ∀ k, k < N → parseFieldDescriptor (T k).2.2.1 = some (ty0 k)) (hnm : ∀ a, a < N → ∀ b, b < N → a ≠ b → (T a).2.1 ≠ (T b).2.1) (hfin : (T j).2.2.2 = true) (hI : meth.name = "<init>") (hdecl : (T j).1 = own) (hd : parseFieldDescriptor (T j).2.2.1 = some ty) (hn : narrow ty (.int v) = .int v) (hfit : fits ty (.int v) = true) (hf : fs[j]? = some none) (kk : GX p l e R s m args below meth c Q nL A D cl ca ks lay ad cells slots (pc + 3) ls st (gxu F k j v) L) : GX p l e R s m args below meth c Q nL A D cl ca ks lay ad cells slots pc ls (xI v :: xR k :: st) F L := by
  intro H locs la hl hP hS
  obtain ⟨q, hq⟩ := List.getElem?_of_mem hk
  have ha := gxw_at (lay := lay) (ca := ca) (ad := ad) (F := F) (L := L) hq
  rw [hlay] at ha
  have ha : (gxw ks lay ca ad F L)[q]? = some (ad k, .inr (ci, gxfl ad (F k) 0 fs)) := ha
  have hlt : j < (gxfl ad (F k) 0 fs).length := by rw [gxfl_len]; exact (List.getElem?_eq_some_iff.mp hf).1
  refine va_putF (v := .int v) X.1.1 X.1.2.1 X.1.2.2.2.2 hin ty0 hty hnm X.1.2.2.2.1 X.2.1 hP (X.2.2.1.D) hS q ha hc j hj hlink hsame hfin hI hdecl hd hn hfit hlt d (fun H1 locs1 hP1 _ hS1 => ?_)
  have e := gxw_set (lay := lay) (ca := ca) (F := F) (F' := gxu F k j v) (L := L) (L' := L) X.2.2.1 hq (fun a h => gxu_cell h) (fun _ _ => rfl)
  rw [hlay] at e
  have e2 : gxc ca ad (gxu F k j v) L k (Sum.inl (ci, fs)) = .inr (ci, (gxfl ad (F k) 0 fs).set j (.int v)) := by
    show (Sum.inr (ci, gxfl ad (gxu F k j v k) 0 fs) : va_E) = _
    rw [gxu_in, gxfl_set ad (F k) v fs 0 j hf, Nat.zero_add]
  rw [e2] at e
  rw [e] at hP1
  exact kk H1 locs1 la hl hP1 hS1
/-- a reference is written: the layout says so -/
theorem gx_putr (X : GC p s m args meth c cc nL own Ts A D cl ca ks ad) {C ref : String} {T : u_T} {N ci index : Nat} {fs : List (Option Nat)} {k k2 : Nat} {ty : FieldType} (d : decode cc pc = .ok (.putfield index, 3)) (hin : ∀ w ∈ u_ws C T N, w ∈ Ts) (hk : k ∈ ks) (hlay : lay k = Sum.inl (ci, fs)) (hc : cl[ci]? = some (C, T, N)) (j : Nat) (hj : j < N) (hlink : (Cond.fieldLink own index ref (T j).2.1 (T j).2.2.1).before args s = true) (hsame : ∀ x, s.fieldFound? (T j).1 (T j).2.1 (T j).2.2.1 = some x → s.fieldFound? ref (T j).2.1 (T j).2.2.1 = some x) (ty0 : Nat → FieldType) (hty : ∀ k, k < N → parseFieldDescriptor (T k).2.2.1 = some (ty0 k)) (hnm : ∀ a, a < N → ∀ b, b < N → a ≠ b → (T a).2.1 ≠ (T b).2.1) (hI : meth.name = "<init>") (hdecl : (T j).1 = own) (hd : parseFieldDescriptor (T j).2.2.1 = some ty) (hn : ∀ a : Nat, narrow ty (.ref a) = .ref a) (hfit : ∀ a : Nat, fits ty (.ref a) = true) (hlj : j < fs.length) (hk2 : Nat.beq k2 9999 = false) (kk : GX p l e R s m args below meth c Q nL A D cl ca ks (lyU lay k (Sum.inl (ci, fs.set j (some k2)))) ad cells slots (pc + 3) ls st F L) : GX p l e R s m args below meth c Q nL A D cl ca ks lay ad cells slots pc ls (xR k2 :: xR k :: st) F L := by
  intro H locs la hl hP hS
  obtain ⟨q, hq⟩ := List.getElem?_of_mem hk
  have ha := gxw_at (lay := lay) (ca := ca) (ad := ad) (F := F) (L := L) hq
  rw [hlay] at ha
  have ha : (gxw ks lay ca ad F L)[q]? = some (ad k, .inr (ci, gxfl ad (F k) 0 fs)) := ha
  have hlt : j < (gxfl ad (F k) 0 fs).length := by rw [gxfl_len]; exact hlj
  have fin : ∀ (H1 : Heap) (locs1 : List Loc), va_P D cl ((gxw ks lay ca ad F L).set q (ad k, .inr (ci, (gxfl ad (F k) 0 fs).set j (.ref (ad k2))))) H1 → va_S A s.heap H1 locs1 → W p l e R s m args below meth c H1 locs1 cells slots Q (F0 m (pc + 3) la (st.map (gxv ad))) := by
    intro H1 locs1 hP1 hS1
    have e := gxw_setl (lay := lay) (ca := ca) (F := F) (L := L) (e := Sum.inl (ci, fs.set j (some k2))) X.2.2.1 hq
    have e2 : gxc ca ad F L k (Sum.inl (ci, fs.set j (some k2))) = .inr (ci, (gxfl ad (F k) 0 fs).set j (.ref (ad k2))) := by
      show (Sum.inr (ci, gxfl ad (F k) 0 (fs.set j (some k2))) : va_E) = _
      have e3 := gxfl_setr ad (F k) k2 fs 0 j
      rw [if_pos hlj] at e3
      have e4 : gxrf ad k2 = .ref (ad k2) := by unfold gxrf; rw [hk2]; rfl
      rw [e4] at e3
      rw [e3]
    rw [e2] at e
    rw [e] at hP1
    exact kk H1 locs1 la hl hP1 hS1
  cases hfin : (T j).2.2.2 with
  | false => exact va_put (v := .ref (ad k2)) X.1.1 X.1.2.1 X.1.2.2.2.2 hin ty0 hty hnm X.1.2.2.2.1 X.2.1 hP (X.2.2.1.D) hS q ha hc j hj hlink hsame hfin hd (hn _) (hfit _) hlt d (fun H1 locs1 hP1 _ hS1 => fin H1 locs1 hP1 hS1)
  | true => exact va_putF (v := .ref (ad k2)) X.1.1 X.1.2.1 X.1.2.2.2.2 hin ty0 hty hnm X.1.2.2.2.1 X.2.1 hP (X.2.2.1.D) hS q ha hc j hj hlink hsame hfin hI hdecl hd (hn _) (hfit _) hlt d (fun H1 locs1 hP1 _ hS1 => fin H1 locs1 hP1 hS1)
end GXN
