/-! The frame of all walks of this claim (own text): values, locals, cells and worlds by numbers; one judgement GX over the kit's W. A world is a list ks of cell numbers, a layout (what each number is), the addresses ad, and the contents F (ints by cell and place), L (longs). -/
abbrev xV : Type := Int32 ⊕ Int64 ⊕ Nat
abbrev xI (x : Int32) : xV := Sum.inl x
abbrev xL (x : Int64) : xV := Sum.inr (Sum.inl x)
abbrev xR (k : Nat) : xV := Sum.inr (Sum.inr k)
def gxv (ad : Nat → Nat) (v : xV) : Value := match v with
  | Sum.inl x => .int x
  | Sum.inr (Sum.inl x) => .long x
  | Sum.inr (Sum.inr k) => .ref (ad k)
def gxis (v : xV) : Bool := match v with
  | Sum.inr (Sum.inl _) => true
  | _ => false
theorem gxv_cat (ad : Nat → Nat) (v : xV) : (gxv ad v).category = cond (gxis v) 2 1 := by
  rcases v with x | x | x <;> rfl
/-- the locals: the latest store first -/
def gxlk : List (Nat × xV) → Nat → Option xV
  | [], _ => none
  | q :: r, i => cond (Nat.beq q.1 i) (some q.2) (cond (Nat.beq (q.1 + 1) i && gxis q.2) none (match gxlk r i with
      | none => none
      | some v => cond (Nat.beq (i + 1) q.1 && gxis v) none (some v)))
def gxhas (la : Array Slot) (nL : Nat) (ls : List (Nat × xV)) (ad : Nat → Nat) : Prop := la.size = nL ∧ lv_wf la ∧ ∀ (i : Nat) (v : xV), gxlk ls i = some v → la[i]? = some (.val (gxv ad v))
def gxl (ls : List (Nat × xV)) (nL : Nat) (ad : Nat → Nat) : List (Nat × Value) := (List.range nL).filterMap (fun i => (gxlk ls i).map (fun v => (i, gxv ad v)))
theorem gxl_mem {la : Array Slot} {nL : Nat} {ls : List (Nat × xV)} {ad : Nat → Nat} (h : gxhas la nL ls ad) {i : Nat} {v : xV} (hi : gxlk ls i = some v) : (i, gxv ad v) ∈ gxl ls nL ad := by
  have h1 := h.2.2 i v hi
  have h2 : i < nL := by rw [← h.1]; exact lv_lt h1
  exact List.mem_filterMap.mpr ⟨i, List.mem_range.mpr h2, by rw [hi]; rfl⟩
theorem gxl_has {la : Array Slot} {nL : Nat} {ls : List (Nat × xV)} {ad : Nat → Nat} (h : gxhas la nL ls ad) : lv_has la nL (gxl ls nL ad) := by
  refine ⟨h.1, h.2.1, fun q hq => ?_⟩
  obtain ⟨i, -, hi⟩ := List.mem_filterMap.mp hq
  cases hk : gxlk ls i with
  | none => rw [hk] at hi; cases hi
  | some v => rw [hk] at hi; cases hi; exact h.2.2 i v hk
theorem gxlk_cons {ls : List (Nat × xV)} {i j : Nat} {v w : xV} (h : gxlk ((i, v) :: ls) j = some w) : (i = j ∧ v = w) ∨ (i ≠ j ∧ gxlk ls j = some w ∧ ¬ (i + 1 = j ∧ gxis v = true) ∧ ¬ (j + 1 = i ∧ gxis w = true)) := by
  unfold gxlk at h
  by_cases h1 : i = j
  · subst h1
    simp at h
    exact Or.inl ⟨rfl, h⟩
  · have h2 : Nat.beq i j = false := by
      cases hb : Nat.beq i j with
      | false => rfl
      | true => exact absurd (Nat.eq_of_beq_eq_true hb) h1
    rw [h2] at h
    simp only [cond_false] at h
    cases h3 : (Nat.beq (i + 1) j && gxis v) with
    | true => rw [h3] at h; simp at h
    | false =>
      rw [h3] at h
      simp only [cond_false] at h
      cases h4 : gxlk ls j with
      | none => rw [h4] at h; simp at h
      | some u =>
        rw [h4] at h
        simp only at h
        cases h5 : (Nat.beq (j + 1) i && gxis u) with
        | true => rw [h5] at h; simp at h
        | false =>
          rw [h5] at h
          simp only [cond_false, Option.some.injEq] at h
          subst h
          refine Or.inr ⟨h1, rfl, ?_, ?_⟩
          · rintro ⟨e1, e2⟩
            subst e1
            rw [e2] at h3
            simp at h3
          · rintro ⟨e1, e2⟩
            subst e1
            rw [e2] at h5
            simp at h5
theorem gx_st1 {la la' : Array Slot} {nL i : Nat} {ls : List (Nat × xV)} {ad : Nat → Nat} {v : xV} (h0 : gxhas la nL ls ad)
    (h : lv_has la' nL ((i, gxv ad v) :: (gxl ls nL ad).filter (fun q => !(q.1 == i) && !(q.1 + 1 == i && q.2.category == 2)))) : gxhas la' nL ((i, v) :: ls) ad := by
  refine ⟨h.1, h.2.1, fun j w hj => ?_⟩
  rcases gxlk_cons hj with ⟨rfl, rfl⟩ | ⟨h1, h2, -, h4⟩
  · exact h.2.2 _ List.mem_cons_self
  · refine h.2.2 (j, gxv ad w) (List.mem_cons_of_mem _ (List.mem_filter.mpr ⟨gxl_mem h0 h2, ?_⟩))
    have e1 : (j == i) = false := by simpa using Ne.symm h1
    by_cases e2 : j + 1 = i
    · have e3 : gxis w = false := by
        cases hw : gxis w with
        | false => rfl
        | true => exact absurd ⟨e2, hw⟩ h4
      simp [e1, gxv_cat, e3]
    · simp [e1, e2]
theorem gx_st2 {la la' : Array Slot} {nL i : Nat} {ls : List (Nat × xV)} {ad : Nat → Nat} {v : xV} (h0 : gxhas la nL ls ad) (hv : gxis v = true)
    (h : lv_has la' nL ((i, gxv ad v) :: (gxl ls nL ad).filter (fun q => !(q.1 == i) && (!(q.1 == i + 1) && !(q.1 + 1 == i && q.2.category == 2))))) : gxhas la' nL ((i, v) :: ls) ad := by
  refine ⟨h.1, h.2.1, fun j w hj => ?_⟩
  rcases gxlk_cons hj with ⟨rfl, rfl⟩ | ⟨h1, h2, h3, h4⟩
  · exact h.2.2 _ List.mem_cons_self
  · refine h.2.2 (j, gxv ad w) (List.mem_cons_of_mem _ (List.mem_filter.mpr ⟨gxl_mem h0 h2, ?_⟩))
    have e1 : (j == i) = false := by simpa using Ne.symm h1
    have e0 : (j == i + 1) = false := by
      have : ¬ j = i + 1 := fun q => h3 ⟨q.symm, hv⟩
      simpa using this
    by_cases e2 : j + 1 = i
    · have e3 : gxis w = false := by
        cases hw : gxis w with
        | false => rfl
        | true => exact absurd ⟨e2, hw⟩ h4
      simp [e1, e0, gxv_cat, e3]
    · simp [e1, e0, e2]
/-- fewer locals are known -/
def gxle : List (Nat × xV) → List (Nat × xV) → Prop
  | [], _ => True
  | q :: r, ls => gxlk ls q.1 = some q.2 ∧ gxle r ls
theorem gxle_lk {ls : List (Nat × xV)} : ∀ {l' : List (Nat × xV)}, gxle l' ls → ∀ {i : Nat} {v : xV}, gxlk l' i = some v → gxlk ls i = some v
  | [], _, i, v, h => by simp [gxlk] at h
  | (j, w) :: r, hl, i, v, h => by
    rcases gxlk_cons h with ⟨rfl, rfl⟩ | ⟨-, h2, -, -⟩
    · exact hl.1
    · exact gxle_lk hl.2 h2
theorem gxhas.le {la : Array Slot} {nL : Nat} {ls l' : List (Nat × xV)} {ad : Nat → Nat} (h : gxhas la nL ls ad) (hl : gxle l' ls) : gxhas la nL l' ad := ⟨h.1, h.2.1, fun i v hi => h.2.2 i v (gxle_lk hl hi)⟩
/-! cells -/
def gxT (ca : Nat → ClassId) : List (ClassId × FieldType) := [(ca 0, .int), (ca 1, .long), (ca 2, .char), (ca 3, .byte), (ca 4, .boolean), (ca 5, .array .int), (ca 6, .array .long)]
abbrev gxE : Type := (Nat × List (Option Nat)) ⊕ (Nat × Nat) ⊕ Nat ⊕ (Nat × Nat × (Nat → Nat))
/-- a field's reference: the key 9999 stands for null -/
def gxrf (ad : Nat → Nat) (k : Nat) : Value := cond (Nat.beq k 9999) .null (.ref (ad k))
def gxfl (ad : Nat → Nat) (f : Nat → Int32) : Nat → List (Option Nat) → List Value
  | _, [] => []
  | j, none :: r => .int (f j) :: gxfl ad f (j + 1) r
  | j, some k :: r => gxrf ad k :: gxfl ad f (j + 1) r
def gxff (fs : List (Option Nat)) (j : Nat) : Option Nat := match fs[j]? with
  | some (some k) => cond (Nat.beq k 9999) none (some k)
  | _ => none
theorem gxff_iff {fs : List (Option Nat)} {j k : Nat} (h : gxff fs j = some k) : fs[j]? = some (some k) ∧ Nat.beq k 9999 = false := by
  unfold gxff at h
  rcases hq : fs[j]? with _ | _ | q
  · rw [hq] at h; cases h
  · rw [hq] at h; cases h
  · rw [hq] at h
    cases hb : Nat.beq q 9999 with
    | true => simp only [hb] at h; cases h
    | false =>
      simp only [hb] at h
      have : q = k := by simpa using h
      subst this
      exact ⟨rfl, hb⟩
def gxc (ca : Nat → ClassId) (ad : Nat → Nat) (F : Nat → Nat → Int32) (L : Nat → Nat → Int64) (k : Nat) (e : gxE) : va_E := match e with
  | Sum.inl o => .inr (o.1, gxfl ad (F k) 0 o.2)
  | Sum.inr (Sum.inl a) => .inl (ca a.1, a.2, .inl (F k))
  | Sum.inr (Sum.inr (Sum.inl n)) => .inl (ca 1, n, .inr (.inl (L k)))
  | Sum.inr (Sum.inr (Sum.inr g)) => .inl (ca g.1, g.2.1, .inr (.inr (.inr (.inr (fun j => some (ad (g.2.2 j)))))))
def gxw (ks : List Nat) (lay : Nat → gxE) (ca : Nat → ClassId) (ad : Nat → Nat) (F : Nat → Nat → Int32) (L : Nat → Nat → Int64) : va_W := ks.map (fun k => (ad k, gxc ca ad F L k (lay k)))
def gxD (A : Nat → Prop) (ks : List Nat) (ad : Nat → Nat) : Prop := (∀ (i j a b : Nat), ks[i]? = some a → ks[j]? = some b → ad a = ad b → i = j) ∧ ∀ k ∈ ks, A (ad k)
theorem gxw_at {ks : List Nat} {lay : Nat → gxE} {ca : Nat → ClassId} {ad : Nat → Nat} {F : Nat → Nat → Int32} {L : Nat → Nat → Int64} {q k : Nat} (h : ks[q]? = some k) : (gxw ks lay ca ad F L)[q]? = some (ad k, gxc ca ad F L k (lay k)) := by
  simp [gxw, h]
theorem gxw_of {ks : List Nat} {lay : Nat → gxE} {ca : Nat → ClassId} {ad : Nat → Nat} {F : Nat → Nat → Int32} {L : Nat → Nat → Int64} {q : Nat} {z : Nat × va_E} (h : (gxw ks lay ca ad F L)[q]? = some z) : ∃ k, ks[q]? = some k ∧ z = (ad k, gxc ca ad F L k (lay k)) := by
  simp only [gxw, List.getElem?_map] at h
  cases hk : ks[q]? with
  | none => rw [hk] at h; cases h
  | some k => rw [hk] at h; cases h; exact ⟨k, rfl, rfl⟩
theorem gxD.D {A : Nat → Prop} {ks : List Nat} {ad : Nat → Nat} (h : gxD A ks ad) {lay : Nat → gxE} {ca : Nat → ClassId} {F : Nat → Nat → Int32} {L : Nat → Nat → Int64} : va_D A (gxw ks lay ca ad F L) := by
  refine ⟨fun i j p q hi hj he => ?_, fun k q hk => ?_⟩
  · obtain ⟨a, ha, rfl⟩ := gxw_of hi
    obtain ⟨b, hb, rfl⟩ := gxw_of hj
    exact h.1 i j a b ha hb he
  · obtain ⟨a, ha, rfl⟩ := gxw_of hk
    exact h.2 a (List.mem_of_getElem? ha)
theorem gxD.inj {A : Nat → Prop} {ks : List Nat} {ad : Nat → Nat} (h : gxD A ks ad) {a b : Nat} (ha : a ∈ ks) (hb : b ∈ ks) (he : ad a = ad b) : a = b := by
  obtain ⟨i, hi⟩ := List.getElem?_of_mem ha
  obtain ⟨j, hj⟩ := List.getElem?_of_mem hb
  have := h.1 i j a b hi hj he
  subst this
  exact Option.some.inj (hi.symm.trans hj)
theorem gxw_set {A : Nat → Prop} {ks : List Nat} {lay : Nat → gxE} {ca : Nat → ClassId} {ad : Nat → Nat} {F F' : Nat → Nat → Int32} {L L' : Nat → Nat → Int64} {q k : Nat} (hd : gxD A ks ad) (hq : ks[q]? = some k)
    (hF : ∀ a, a ≠ k → F' a = F a) (hL : ∀ a, a ≠ k → L' a = L a) : (gxw ks lay ca ad F L).set q (ad k, gxc ca ad F' L' k (lay k)) = gxw ks lay ca ad F' L' := by
  apply List.ext_getElem?
  intro i
  by_cases hi : i = q
  · subst hi
    have h1 : i < ks.length := (List.getElem?_eq_some_iff.mp hq).1
    rw [gxw_at hq, List.getElem?_set_self (by simpa [gxw] using h1)]
  · rw [List.getElem?_set_ne (Ne.symm hi)]
    cases ha : ks[i]? with
    | none => simp [gxw, ha]
    | some a =>
      have hne : a ≠ k := fun z => hi (hd.1 i q a k ha hq (by rw [z]))
      rw [gxw_at ha, gxw_at ha]
      have e : gxc ca ad F L a (lay a) = gxc ca ad F' L' a (lay a) := by
        unfold gxc
        rw [hF a hne, hL a hne]
      rw [e]
/-- one int of a cell is set -/
def gxu (F : Nat → Nat → Int32) (k j : Nat) (v : Int32) : Nat → Nat → Int32 := fun a b => if a = k ∧ b = j then v else F a b
def gxU (L : Nat → Nat → Int64) (k j : Nat) (v : Int64) : Nat → Nat → Int64 := fun a b => if a = k ∧ b = j then v else L a b
theorem gxu_ne {F : Nat → Nat → Int32} {k j a b : Nat} {v : Int32} (h : ¬ (a = k ∧ b = j)) : gxu F k j v a b = F a b := by simp [gxu, h]
theorem gxu_cell {F : Nat → Nat → Int32} {k j a : Nat} {v : Int32} (h : a ≠ k) : gxu F k j v a = F a := by funext b; simp [gxu, h]
theorem gxu_at {F : Nat → Nat → Int32} {k j : Nat} {v : Int32} : gxu F k j v k j = v := by simp [gxu]
theorem gxu_in {F : Nat → Nat → Int32} {k j : Nat} {v : Int32} : gxu F k j v k = upd (F k) j v := by funext b; simp [gxu, upd]
theorem gxU_ne {L : Nat → Nat → Int64} {k j a b : Nat} {v : Int64} (h : ¬ (a = k ∧ b = j)) : gxU L k j v a b = L a b := by simp [gxU, h]
theorem gxU_cell {L : Nat → Nat → Int64} {k j a : Nat} {v : Int64} (h : a ≠ k) : gxU L k j v a = L a := by funext b; simp [gxU, h]
theorem gxU_at {L : Nat → Nat → Int64} {k j : Nat} {v : Int64} : gxU L k j v k j = v := by simp [gxU]
theorem gxU_in {L : Nat → Nat → Int64} {k j : Nat} {v : Int64} : gxU L k j v k = vp_updL (L k) j v := by funext b; simp [gxU, vp_updL]
theorem gxfl_len (ad : Nat → Nat) (f : Nat → Int32) : ∀ (fs : List (Option Nat)) (i : Nat), (gxfl ad f i fs).length = fs.length
  | [], _ => rfl
  | none :: r, i => by simp [gxfl, gxfl_len ad f r]
  | some _ :: r, i => by simp [gxfl, gxfl_len ad f r]
theorem gxfl_i (ad : Nat → Nat) (f : Nat → Int32) : ∀ (fs : List (Option Nat)) (i j : Nat), fs[j]? = some none → (gxfl ad f i fs)[j]? = some (.int (f (i + j)))
  | [], _, _, h => by simp at h
  | none :: r, i, 0, _ => by simp [gxfl]
  | some _ :: r, i, 0, h => by simp at h
  | none :: r, i, j + 1, h => by
    have := gxfl_i ad f r (i + 1) j (by simpa using h)
    simp [gxfl, this, Nat.add_assoc, Nat.add_comm 1 j]
  | some _ :: r, i, j + 1, h => by
    have := gxfl_i ad f r (i + 1) j (by simpa using h)
    simp [gxfl, this, Nat.add_assoc, Nat.add_comm 1 j]
theorem gxfl_r (ad : Nat → Nat) (f : Nat → Int32) : ∀ (fs : List (Option Nat)) (i j k : Nat), fs[j]? = some (some k) → (gxfl ad f i fs)[j]? = some (gxrf ad k)
  | [], _, _, _, h => by simp at h
  | none :: r, i, 0, _, h => by simp at h
  | some a :: r, i, 0, k, h => by
    have : a = k := by simpa using h
    subst this
    simp [gxfl]
  | none :: r, i, j + 1, k, h => by
    have := gxfl_r ad f r (i + 1) j k (by simpa using h)
    simp [gxfl, this]
  | some _ :: r, i, j + 1, k, h => by
    have := gxfl_r ad f r (i + 1) j k (by simpa using h)
    simp [gxfl, this]
theorem gxfl_ref (ad : Nat → Nat) (f : Nat → Int32) {fs : List (Option Nat)} {j k : Nat} (h : gxff fs j = some k) : (gxfl ad f 0 fs)[j]? = some (.ref (ad k)) := by
  obtain ⟨h1, h2⟩ := gxff_iff h
  rw [gxfl_r ad f fs 0 j k h1]
  unfold gxrf
  rw [h2]
  rfl
theorem gxfl_set (ad : Nat → Nat) (f : Nat → Int32) (v : Int32) : ∀ (fs : List (Option Nat)) (i j : Nat), fs[j]? = some none → (gxfl ad f i fs).set j (.int v) = gxfl ad (upd f (i + j) v) i fs := by
  have far : ∀ (fs : List (Option Nat)) (i n : Nat), n < i → gxfl ad (upd f n v) i fs = gxfl ad f i fs := by
    intro fs
    induction fs with
    | nil => intro i n _; rfl
    | cons q r ih =>
      intro i n h
      cases q with
      | none => simp [gxfl, ih (i + 1) n (by omega), upd, show ¬ i = n by omega]
      | some k => simp [gxfl, ih (i + 1) n (by omega)]
  intro fs
  induction fs with
  | nil => intro i j h; simp at h
  | cons q r ih =>
    intro i j h
    cases j with
    | zero =>
      cases q with
      | some k => simp at h
      | none => simp [gxfl, far r (i + 1) i (by omega), upd]
    | succ j =>
      have h' : r[j]? = some none := by simpa using h
      have e := ih (i + 1) j h'
      have e2 : i + 1 + j = i + (j + 1) := by omega
      rw [e2] at e
      cases q with
      | none => simp [gxfl, e, upd, show ¬ i = i + (j + 1) by omega]
      | some k => simp [gxfl, e]
section GXS
variable {p : Program} {l : Launch} {e : Env} {R : Room} {s : State} {m : MethodId} {args : Array Value} {below : List Frame} {meth : Method} {c : Code} {Q : State → Prop} {nL cells slots pc : Nat} {A : Nat → Prop} {D : va_G} {cl : List vw_C} {ca : Nat → ClassId} {ks : List Nat} {lay : Nat → gxE} {ad : Nat → Nat}
variable {ls : List (Nat × xV)} {st : List xV} {F : Nat → Nat → Int32} {L : Nat → Nat → Int64} {cc : ByteArray} {own : String} {Ts : List Cond}
/-- what a walk of one method stands on: the code, the words, the classes, the cells' places -/
abbrev GC (p : Program) (s : State) (m : MethodId) (args : Array Value) (meth : Method) (c : Code) (cc : ByteArray) (nL : Nat) (own : String) (Ts : List Cond) (A : Nat → Prop) (D : va_G) (cl : List vw_C) (ca : Nat → ClassId) (ks : List Nat) (ad : Nat → Nat) : Prop :=
  (p.tables.exec = Jvm.exec ∧ c.code = cc ∧ c.maxLocals = nL ∧ s.vm.findClass own = some m.cls ∧ ∀ w ∈ Ts, w.before args s = true) ∧ va_K D cl (gxT ca) s ∧ gxD A ks ad ∧ (∀ q, s.heap.size ≤ q → A q) ∧ meth.locks = false
def GX (p : Program) (l : Launch) (e : Env) (R : Room) (s : State) (m : MethodId) (args : Array Value) (below : List Frame) (meth : Method) (c : Code) (Q : State → Prop) (nL : Nat) (A : Nat → Prop) (D : va_G) (cl : List vw_C) (ca : Nat → ClassId) (ks : List Nat) (lay : Nat → gxE) (ad : Nat → Nat) (cells slots : Nat) (pc : Nat) (ls : List (Nat × xV)) (st : List xV) (F : Nat → Nat → Int32) (L : Nat → Nat → Int64) : Prop :=
  ∀ (H : Heap) (locs : List Loc) (la : Array Slot), gxhas la nL ls ad → va_P D cl (gxw ks lay ca ad F L) H → va_S A s.heap H locs → W p l e R s m args below meth c H locs cells slots Q (F0 m pc la (st.map (gxv ad)))
theorem gx_le {l' : List (Nat × xV)} (h : gxle l' ls) (k : GX p l e R s m args below meth c Q nL A D cl ca ks lay ad cells slots pc l' st F L) : GX p l e R s m args below meth c Q nL A D cl ca ks lay ad cells slots pc ls st F L := fun H locs la hl hP hS => k H locs la (hl.le h) hP hS
theorem gx_iconst (X : GC p s m args meth c cc nL own Ts A D cl ca ks ad) {n : Int} {v : Int32} (d : decode cc pc = .ok (.iconst n, 1)) (hv : Int32.ofInt n = v) (k : GX p l e R s m args below meth c Q nL A D cl ca ks lay ad cells slots (pc + 1) ls (xI v :: st) F L) : GX p l e R s m args below meth c Q nL A D cl ca ks lay ad cells slots pc ls (st) F L := fun H locs la hl hP hS => lv_iconst X.1.1 X.1.2.1 d hv (k H locs la hl hP hS)
theorem gx_bipush (X : GC p s m args meth c cc nL own Ts A D cl ca ks ad) {n : Int} {v : Int32} (d : decode cc pc = .ok (.bipush n, 2)) (hv : (Int8.ofInt n).toInt32 = v) (k : GX p l e R s m args below meth c Q nL A D cl ca ks lay ad cells slots (pc + 2) ls (xI v :: st) F L) : GX p l e R s m args below meth c Q nL A D cl ca ks lay ad cells slots pc ls (st) F L := fun H locs la hl hP hS => lv_bipush X.1.1 X.1.2.1 d hv (k H locs la hl hP hS)
theorem gx_sipush (X : GC p s m args meth c cc nL own Ts A D cl ca ks ad) {n : Int} {v : Int32} (d : decode cc pc = .ok (.sipush n, 3)) (hv : (Int16.ofInt n).toInt32 = v) (k : GX p l e R s m args below meth c Q nL A D cl ca ks lay ad cells slots (pc + 3) ls (xI v :: st) F L) : GX p l e R s m args below meth c Q nL A D cl ca ks lay ad cells slots pc ls (st) F L := fun H locs la hl hP hS => lv_sipush X.1.1 X.1.2.1 d hv (k H locs la hl hP hS)
theorem gx_lconst (X : GC p s m args meth c cc nL own Ts A D cl ca ks ad) {n : Fin 2} {v : Int64} (d : decode cc pc = .ok (.lconst n, 1)) (hv : Int64.ofNat (n : Nat) = v) (k : GX p l e R s m args below meth c Q nL A D cl ca ks lay ad cells slots (pc + 1) ls (xL v :: st) F L) : GX p l e R s m args below meth c Q nL A D cl ca ks lay ad cells slots pc ls (st) F L := fun H locs la hl hP hS => lv_lconst X.1.1 X.1.2.1 d hv (k H locs la hl hP hS)
theorem gx_iload_n (X : GC p s m args meth c cc nL own Ts A D cl ca ks ad) {z : Fin 4} {i : Nat} {x : Int32} (d : decode cc pc = .ok (.iload_n z, 1)) (hi : (z : Nat) = i) (hx : gxlk ls i = some (xI x)) (k : GX p l e R s m args below meth c Q nL A D cl ca ks lay ad cells slots (pc + 1) ls (xI x :: st) F L) : GX p l e R s m args below meth c Q nL A D cl ca ks lay ad cells slots pc ls (st) F L := fun H locs la hl hP hS => lv_iload_n X.1.1 X.1.2.1 d hi (hl.2.2 i _ hx) (k H locs la hl hP hS)
theorem gx_iload (X : GC p s m args meth c cc nL own Ts A D cl ca ks ad) {i : Nat} {x : Int32} (d : decode cc pc = .ok (.iload i, 2)) (hx : gxlk ls i = some (xI x)) (k : GX p l e R s m args below meth c Q nL A D cl ca ks lay ad cells slots (pc + 2) ls (xI x :: st) F L) : GX p l e R s m args below meth c Q nL A D cl ca ks lay ad cells slots pc ls (st) F L := fun H locs la hl hP hS => lv_iload X.1.1 X.1.2.1 d (hl.2.2 i _ hx) (k H locs la hl hP hS)
theorem gx_lload_n (X : GC p s m args meth c cc nL own Ts A D cl ca ks ad) {z : Fin 4} {i : Nat} {x : Int64} (d : decode cc pc = .ok (.lload_n z, 1)) (hi : (z : Nat) = i) (hx : gxlk ls i = some (xL x)) (k : GX p l e R s m args below meth c Q nL A D cl ca ks lay ad cells slots (pc + 1) ls (xL x :: st) F L) : GX p l e R s m args below meth c Q nL A D cl ca ks lay ad cells slots pc ls (st) F L := fun H locs la hl hP hS => lv_lload_n X.1.1 X.1.2.1 d hi (hl.2.2 i _ hx) (k H locs la hl hP hS)
theorem gx_lload (X : GC p s m args meth c cc nL own Ts A D cl ca ks ad) {i : Nat} {x : Int64} (d : decode cc pc = .ok (.lload i, 2)) (hx : gxlk ls i = some (xL x)) (k : GX p l e R s m args below meth c Q nL A D cl ca ks lay ad cells slots (pc + 2) ls (xL x :: st) F L) : GX p l e R s m args below meth c Q nL A D cl ca ks lay ad cells slots pc ls (st) F L := fun H locs la hl hP hS => lv_lload X.1.1 X.1.2.1 d (hl.2.2 i _ hx) (k H locs la hl hP hS)
theorem gx_aload_n (X : GC p s m args meth c cc nL own Ts A D cl ca ks ad) {z : Fin 4} {i : Nat} {x : Nat} (d : decode cc pc = .ok (.aload_n z, 1)) (hi : (z : Nat) = i) (hx : gxlk ls i = some (xR x)) (k : GX p l e R s m args below meth c Q nL A D cl ca ks lay ad cells slots (pc + 1) ls (xR x :: st) F L) : GX p l e R s m args below meth c Q nL A D cl ca ks lay ad cells slots pc ls (st) F L := fun H locs la hl hP hS => lv_aload_n X.1.1 X.1.2.1 d hi (hl.2.2 i _ hx) (k H locs la hl hP hS)
theorem gx_aload (X : GC p s m args meth c cc nL own Ts A D cl ca ks ad) {i : Nat} {x : Nat} (d : decode cc pc = .ok (.aload i, 2)) (hx : gxlk ls i = some (xR x)) (k : GX p l e R s m args below meth c Q nL A D cl ca ks lay ad cells slots (pc + 2) ls (xR x :: st) F L) : GX p l e R s m args below meth c Q nL A D cl ca ks lay ad cells slots pc ls (st) F L := fun H locs la hl hP hS => lv_aload X.1.1 X.1.2.1 d (hl.2.2 i _ hx) (k H locs la hl hP hS)
theorem gx_istore_n (X : GC p s m args meth c cc nL own Ts A D cl ca ks ad) {z : Fin 4} {i : Nat} {x : Int32} (d : decode cc pc = .ok (.istore_n z, 1)) (hi : (z : Nat) = i) (hn : i < nL) (k : GX p l e R s m args below meth c Q nL A D cl ca ks lay ad cells slots (pc + 1) ((i, xI x) :: ls) st F L) : GX p l e R s m args below meth c Q nL A D cl ca ks lay ad cells slots pc ls (xI x :: st) F L := fun H locs la hl hP hS => lv_istore_n X.1.1 X.1.2.1 d hi (gxl_has hl) hn rfl (fun la2 h2 => k H locs la2 (gx_st1 hl h2) hP hS)
theorem gx_istore (X : GC p s m args meth c cc nL own Ts A D cl ca ks ad) {i : Nat} {x : Int32} (d : decode cc pc = .ok (.istore i, 2)) (hn : i < nL) (k : GX p l e R s m args below meth c Q nL A D cl ca ks lay ad cells slots (pc + 2) ((i, xI x) :: ls) st F L) : GX p l e R s m args below meth c Q nL A D cl ca ks lay ad cells slots pc ls (xI x :: st) F L := fun H locs la hl hP hS => lv_istore X.1.1 X.1.2.1 d (gxl_has hl) hn rfl (fun la2 h2 => k H locs la2 (gx_st1 hl h2) hP hS)
theorem gx_lstore_n (X : GC p s m args meth c cc nL own Ts A D cl ca ks ad) {z : Fin 4} {i : Nat} {x : Int64} (d : decode cc pc = .ok (.lstore_n z, 1)) (hi : (z : Nat) = i) (hn : i + 1 < nL) (k : GX p l e R s m args below meth c Q nL A D cl ca ks lay ad cells slots (pc + 1) ((i, xL x) :: ls) st F L) : GX p l e R s m args below meth c Q nL A D cl ca ks lay ad cells slots pc ls (xL x :: st) F L := fun H locs la hl hP hS => lv_lstore_n X.1.1 X.1.2.1 d hi (gxl_has hl) hn rfl (fun la2 h2 => k H locs la2 (gx_st2 hl rfl h2) hP hS)
theorem gx_lstore (X : GC p s m args meth c cc nL own Ts A D cl ca ks ad) {i : Nat} {x : Int64} (d : decode cc pc = .ok (.lstore i, 2)) (hn : i + 1 < nL) (k : GX p l e R s m args below meth c Q nL A D cl ca ks lay ad cells slots (pc + 2) ((i, xL x) :: ls) st F L) : GX p l e R s m args below meth c Q nL A D cl ca ks lay ad cells slots pc ls (xL x :: st) F L := fun H locs la hl hP hS => lv_lstore X.1.1 X.1.2.1 d (gxl_has hl) hn rfl (fun la2 h2 => k H locs la2 (gx_st2 hl rfl h2) hP hS)
theorem gx_astore_n (X : GC p s m args meth c cc nL own Ts A D cl ca ks ad) {z : Fin 4} {i : Nat} {x : Nat} (d : decode cc pc = .ok (.astore_n z, 1)) (hi : (z : Nat) = i) (hn : i < nL) (k : GX p l e R s m args below meth c Q nL A D cl ca ks lay ad cells slots (pc + 1) ((i, xR x) :: ls) st F L) : GX p l e R s m args below meth c Q nL A D cl ca ks lay ad cells slots pc ls (xR x :: st) F L := fun H locs la hl hP hS => lv_astore_n X.1.1 X.1.2.1 d hi (gxl_has hl) hn rfl (fun la2 h2 => k H locs la2 (gx_st1 hl h2) hP hS)
theorem gx_astore (X : GC p s m args meth c cc nL own Ts A D cl ca ks ad) {i : Nat} {x : Nat} (d : decode cc pc = .ok (.astore i, 2)) (hn : i < nL) (k : GX p l e R s m args below meth c Q nL A D cl ca ks lay ad cells slots (pc + 2) ((i, xR x) :: ls) st F L) : GX p l e R s m args below meth c Q nL A D cl ca ks lay ad cells slots pc ls (xR x :: st) F L := fun H locs la hl hP hS => lv_astore X.1.1 X.1.2.1 d (gxl_has hl) hn rfl (fun la2 h2 => k H locs la2 (gx_st1 hl h2) hP hS)
theorem gx_iinc (X : GC p s m args meth c cc nL own Ts A D cl ca ks ad) {i : Nat} {n : Int} {x v : Int32} (d : decode cc pc = .ok (.iinc i n, 3)) (hx : gxlk ls i = some (xI x)) (hv : x + Int32.ofInt n = v) (k : GX p l e R s m args below meth c Q nL A D cl ca ks lay ad cells slots (pc + 3) ((i, xI v) :: ls) st F L) : GX p l e R s m args below meth c Q nL A D cl ca ks lay ad cells slots pc ls st F L := by
  intro H locs la hl hP hS
  obtain ⟨q, hq⟩ := List.getElem?_of_mem (gxl_mem hl hx)
  have hn : i < nL := by rw [← hl.1]; exact lv_lt (hl.2.2 i _ hx)
  exact lv_iinc X.1.1 X.1.2.1 d (gxl_has hl) hq hv hn rfl (fun la2 h2 => k H locs la2 (gx_st1 hl h2) hP hS)
theorem gx_iadd (X : GC p s m args meth c cc nL own Ts A D cl ca ks ad) {x y : Int32} (d : decode cc pc = .ok (.iadd, 1))  (k : GX p l e R s m args below meth c Q nL A D cl ca ks lay ad cells slots (pc + 1) ls (xI (x + y) :: st) F L) : GX p l e R s m args below meth c Q nL A D cl ca ks lay ad cells slots pc ls (xI y :: xI x :: st) F L := fun H locs la hl hP hS => lv_iadd X.1.1 X.1.2.1 d (k H locs la hl hP hS)
theorem gx_isub (X : GC p s m args meth c cc nL own Ts A D cl ca ks ad) {x y : Int32} (d : decode cc pc = .ok (.isub, 1))  (k : GX p l e R s m args below meth c Q nL A D cl ca ks lay ad cells slots (pc + 1) ls (xI (x - y) :: st) F L) : GX p l e R s m args below meth c Q nL A D cl ca ks lay ad cells slots pc ls (xI y :: xI x :: st) F L := fun H locs la hl hP hS => lv_isub X.1.1 X.1.2.1 d (k H locs la hl hP hS)
theorem gx_imul (X : GC p s m args meth c cc nL own Ts A D cl ca ks ad) {x y : Int32} (d : decode cc pc = .ok (.imul, 1))  (k : GX p l e R s m args below meth c Q nL A D cl ca ks lay ad cells slots (pc + 1) ls (xI (x * y) :: st) F L) : GX p l e R s m args below meth c Q nL A D cl ca ks lay ad cells slots pc ls (xI y :: xI x :: st) F L := fun H locs la hl hP hS => lv_imul X.1.1 X.1.2.1 d (k H locs la hl hP hS)
theorem gx_iand (X : GC p s m args meth c cc nL own Ts A D cl ca ks ad) {x y : Int32} (d : decode cc pc = .ok (.iand, 1))  (k : GX p l e R s m args below meth c Q nL A D cl ca ks lay ad cells slots (pc + 1) ls (xI (x &&& y) :: st) F L) : GX p l e R s m args below meth c Q nL A D cl ca ks lay ad cells slots pc ls (xI y :: xI x :: st) F L := fun H locs la hl hP hS => lv_iand X.1.1 X.1.2.1 d (k H locs la hl hP hS)
theorem gx_ior (X : GC p s m args meth c cc nL own Ts A D cl ca ks ad) {x y : Int32} (d : decode cc pc = .ok (.ior, 1))  (k : GX p l e R s m args below meth c Q nL A D cl ca ks lay ad cells slots (pc + 1) ls (xI (x ||| y) :: st) F L) : GX p l e R s m args below meth c Q nL A D cl ca ks lay ad cells slots pc ls (xI y :: xI x :: st) F L := fun H locs la hl hP hS => lv_ior X.1.1 X.1.2.1 d (k H locs la hl hP hS)
theorem gx_ixor (X : GC p s m args meth c cc nL own Ts A D cl ca ks ad) {x y : Int32} (d : decode cc pc = .ok (.ixor, 1))  (k : GX p l e R s m args below meth c Q nL A D cl ca ks lay ad cells slots (pc + 1) ls (xI (x ^^^ y) :: st) F L) : GX p l e R s m args below meth c Q nL A D cl ca ks lay ad cells slots pc ls (xI y :: xI x :: st) F L := fun H locs la hl hP hS => lv_ixor X.1.1 X.1.2.1 d (k H locs la hl hP hS)
theorem gx_ishl (X : GC p s m args meth c cc nL own Ts A D cl ca ks ad) {x y : Int32} (d : decode cc pc = .ok (.ishl, 1))  (k : GX p l e R s m args below meth c Q nL A D cl ca ks lay ad cells slots (pc + 1) ls (xI (x <<< (y &&& 31)) :: st) F L) : GX p l e R s m args below meth c Q nL A D cl ca ks lay ad cells slots pc ls (xI y :: xI x :: st) F L := fun H locs la hl hP hS => lv_ishl X.1.1 X.1.2.1 d (k H locs la hl hP hS)
theorem gx_ishr (X : GC p s m args meth c cc nL own Ts A D cl ca ks ad) {x y : Int32} (d : decode cc pc = .ok (.ishr, 1))  (k : GX p l e R s m args below meth c Q nL A D cl ca ks lay ad cells slots (pc + 1) ls (xI (x >>> (y &&& 31)) :: st) F L) : GX p l e R s m args below meth c Q nL A D cl ca ks lay ad cells slots pc ls (xI y :: xI x :: st) F L := fun H locs la hl hP hS => lv_ishr X.1.1 X.1.2.1 d (k H locs la hl hP hS)
theorem gx_idiv (X : GC p s m args meth c cc nL own Ts A D cl ca ks ad) {x y : Int32} (d : decode cc pc = .ok (.idiv, 1)) (hne : ¬ y = 0) (k : GX p l e R s m args below meth c Q nL A D cl ca ks lay ad cells slots (pc + 1) ls (xI (x / y) :: st) F L) : GX p l e R s m args below meth c Q nL A D cl ca ks lay ad cells slots pc ls (xI y :: xI x :: st) F L := fun H locs la hl hP hS => lv_idiv X.1.1 X.1.2.1 d hne (k H locs la hl hP hS)
theorem gx_irem (X : GC p s m args meth c cc nL own Ts A D cl ca ks ad) {x y : Int32} (d : decode cc pc = .ok (.irem, 1)) (hne : ¬ y = 0) (k : GX p l e R s m args below meth c Q nL A D cl ca ks lay ad cells slots (pc + 1) ls (xI (x - x / y * y) :: st) F L) : GX p l e R s m args below meth c Q nL A D cl ca ks lay ad cells slots pc ls (xI y :: xI x :: st) F L := fun H locs la hl hP hS => lv_irem X.1.1 X.1.2.1 d hne (k H locs la hl hP hS)
theorem gx_ineg (X : GC p s m args meth c cc nL own Ts A D cl ca ks ad) {x : Int32} (d : decode cc pc = .ok (.ineg, 1))  (k : GX p l e R s m args below meth c Q nL A D cl ca ks lay ad cells slots (pc + 1) ls (xI (-x) :: st) F L) : GX p l e R s m args below meth c Q nL A D cl ca ks lay ad cells slots pc ls (xI x :: st) F L := fun H locs la hl hP hS => lv_ineg X.1.1 X.1.2.1 d (k H locs la hl hP hS)
theorem gx_ladd (X : GC p s m args meth c cc nL own Ts A D cl ca ks ad) {x y : Int64} (d : decode cc pc = .ok (.ladd, 1))  (k : GX p l e R s m args below meth c Q nL A D cl ca ks lay ad cells slots (pc + 1) ls (xL (x + y) :: st) F L) : GX p l e R s m args below meth c Q nL A D cl ca ks lay ad cells slots pc ls (xL y :: xL x :: st) F L := fun H locs la hl hP hS => lv_ladd X.1.1 X.1.2.1 d (k H locs la hl hP hS)
theorem gx_lsub (X : GC p s m args meth c cc nL own Ts A D cl ca ks ad) {x y : Int64} (d : decode cc pc = .ok (.lsub, 1))  (k : GX p l e R s m args below meth c Q nL A D cl ca ks lay ad cells slots (pc + 1) ls (xL (x - y) :: st) F L) : GX p l e R s m args below meth c Q nL A D cl ca ks lay ad cells slots pc ls (xL y :: xL x :: st) F L := fun H locs la hl hP hS => lv_lsub X.1.1 X.1.2.1 d (k H locs la hl hP hS)
theorem gx_land (X : GC p s m args meth c cc nL own Ts A D cl ca ks ad) {x y : Int64} (d : decode cc pc = .ok (.land, 1))  (k : GX p l e R s m args below meth c Q nL A D cl ca ks lay ad cells slots (pc + 1) ls (xL (x &&& y) :: st) F L) : GX p l e R s m args below meth c Q nL A D cl ca ks lay ad cells slots pc ls (xL y :: xL x :: st) F L := fun H locs la hl hP hS => lv_land X.1.1 X.1.2.1 d (k H locs la hl hP hS)
theorem gx_lor (X : GC p s m args meth c cc nL own Ts A D cl ca ks ad) {x y : Int64} (d : decode cc pc = .ok (.lor, 1))  (k : GX p l e R s m args below meth c Q nL A D cl ca ks lay ad cells slots (pc + 1) ls (xL (x ||| y) :: st) F L) : GX p l e R s m args below meth c Q nL A D cl ca ks lay ad cells slots pc ls (xL y :: xL x :: st) F L := fun H locs la hl hP hS => lv_lor X.1.1 X.1.2.1 d (k H locs la hl hP hS)
theorem gx_lxor (X : GC p s m args meth c cc nL own Ts A D cl ca ks ad) {x y : Int64} (d : decode cc pc = .ok (.lxor, 1))  (k : GX p l e R s m args below meth c Q nL A D cl ca ks lay ad cells slots (pc + 1) ls (xL (x ^^^ y) :: st) F L) : GX p l e R s m args below meth c Q nL A D cl ca ks lay ad cells slots pc ls (xL y :: xL x :: st) F L := fun H locs la hl hP hS => lv_lxor X.1.1 X.1.2.1 d (k H locs la hl hP hS)
theorem gx_i2l (X : GC p s m args meth c cc nL own Ts A D cl ca ks ad) {x : Int32} {v : Int64} (d : decode cc pc = .ok (.i2l, 1)) (hv : x.toInt64 = v) (k : GX p l e R s m args below meth c Q nL A D cl ca ks lay ad cells slots (pc + 1) ls (xL v :: st) F L) : GX p l e R s m args below meth c Q nL A D cl ca ks lay ad cells slots pc ls (xI x :: st) F L := fun H locs la hl hP hS => lv_i2l X.1.1 X.1.2.1 d hv (k H locs la hl hP hS)
theorem gx_l2i (X : GC p s m args meth c cc nL own Ts A D cl ca ks ad) {x : Int64} {v : Int32} (d : decode cc pc = .ok (.l2i, 1)) (hv : x.toInt32 = v) (k : GX p l e R s m args below meth c Q nL A D cl ca ks lay ad cells slots (pc + 1) ls (xI v :: st) F L) : GX p l e R s m args below meth c Q nL A D cl ca ks lay ad cells slots pc ls (xL x :: st) F L := fun H locs la hl hP hS => lv_l2i X.1.1 X.1.2.1 d hv (k H locs la hl hP hS)
theorem gx_i2b (X : GC p s m args meth c cc nL own Ts A D cl ca ks ad) {x v : Int32} (d : decode cc pc = .ok (.i2b, 1)) (hv : x.toInt8.toInt32 = v) (k : GX p l e R s m args below meth c Q nL A D cl ca ks lay ad cells slots (pc + 1) ls (xI v :: st) F L) : GX p l e R s m args below meth c Q nL A D cl ca ks lay ad cells slots pc ls (xI x :: st) F L := fun H locs la hl hP hS => lv_i2b X.1.1 X.1.2.1 d hv (k H locs la hl hP hS)
theorem gx_i2s (X : GC p s m args meth c cc nL own Ts A D cl ca ks ad) {x v : Int32} (d : decode cc pc = .ok (.i2s, 1)) (hv : x.toInt16.toInt32 = v) (k : GX p l e R s m args below meth c Q nL A D cl ca ks lay ad cells slots (pc + 1) ls (xI v :: st) F L) : GX p l e R s m args below meth c Q nL A D cl ca ks lay ad cells slots pc ls (xI x :: st) F L := fun H locs la hl hP hS => lv_i2s X.1.1 X.1.2.1 d hv (k H locs la hl hP hS)
theorem gx_i2c (X : GC p s m args meth c cc nL own Ts A D cl ca ks ad) {x v : Int32} (d : decode cc pc = .ok (.i2c, 1)) (hv : (x.toUInt32 % 65536).toInt32 = v) (k : GX p l e R s m args below meth c Q nL A D cl ca ks lay ad cells slots (pc + 1) ls (xI v :: st) F L) : GX p l e R s m args below meth c Q nL A D cl ca ks lay ad cells slots pc ls (xI x :: st) F L := fun H locs la hl hP hS => lv_i2c X.1.1 X.1.2.1 d hv (k H locs la hl hP hS)
theorem gx_iushr (X : GC p s m args meth c cc nL own Ts A D cl ca ks ad) {x y v : Int32} (d : decode cc pc = .ok (.iushr, 1)) (hv : (x.toUInt32 >>> (y.toUInt32 &&& Int32.toUInt32 31)).toInt32 = v) (k : GX p l e R s m args below meth c Q nL A D cl ca ks lay ad cells slots (pc + 1) ls (xI v :: st) F L) : GX p l e R s m args below meth c Q nL A D cl ca ks lay ad cells slots pc ls (xI y :: xI x :: st) F L := fun H locs la hl hP hS => lv_iushr X.1.1 X.1.2.1 d hv (k H locs la hl hP hS)
theorem gx_lushr (X : GC p s m args meth c cc nL own Ts A D cl ca ks ad) {x v : Int64} {y : Int32} (d : decode cc pc = .ok (.lushr, 1)) (hv : (x.toUInt64 >>> (y.toInt64.toUInt64 &&& Int64.toUInt64 63)).toInt64 = v) (k : GX p l e R s m args below meth c Q nL A D cl ca ks lay ad cells slots (pc + 1) ls (xL v :: st) F L) : GX p l e R s m args below meth c Q nL A D cl ca ks lay ad cells slots pc ls (xI y :: xL x :: st) F L := fun H locs la hl hP hS => lv_lushr X.1.1 X.1.2.1 d hv (k H locs la hl hP hS)
theorem gx_lshl (X : GC p s m args meth c cc nL own Ts A D cl ca ks ad) {x v : Int64} {y : Int32} (d : decode cc pc = .ok (.lshl, 1)) (hv : x <<< (y.toInt64 &&& 63) = v) (k : GX p l e R s m args below meth c Q nL A D cl ca ks lay ad cells slots (pc + 1) ls (xL v :: st) F L) : GX p l e R s m args below meth c Q nL A D cl ca ks lay ad cells slots pc ls (xI y :: xL x :: st) F L := fun H locs la hl hP hS => lv_lshl X.1.1 X.1.2.1 d hv (k H locs la hl hP hS)
theorem gx_lshr (X : GC p s m args meth c cc nL own Ts A D cl ca ks ad) {x v : Int64} {y : Int32} (d : decode cc pc = .ok (.lshr, 1)) (hv : x >>> (y.toInt64 &&& 63) = v) (k : GX p l e R s m args below meth c Q nL A D cl ca ks lay ad cells slots (pc + 1) ls (xL v :: st) F L) : GX p l e R s m args below meth c Q nL A D cl ca ks lay ad cells slots pc ls (xI y :: xL x :: st) F L := fun H locs la hl hP hS => lv_lshr X.1.1 X.1.2.1 d hv (k H locs la hl hP hS)
theorem gx_lcmp (X : GC p s m args meth c cc nL own Ts A D cl ca ks ad) {x y : Int64} (d : decode cc pc = .ok (.lcmp, 1))  (k : GX p l e R s m args below meth c Q nL A D cl ca ks lay ad cells slots (pc + 1) ls (xI (lg_cmp x y) :: st) F L) : GX p l e R s m args below meth c Q nL A D cl ca ks lay ad cells slots pc ls (xL y :: xL x :: st) F L := fun H locs la hl hP hS => W.lcmp X.1.1 X.1.2.1 d (k H locs la hl hP hS)
theorem gx_dup (X : GC p s m args meth c cc nL own Ts A D cl ca ks ad) {a : xV} (d : decode cc pc = .ok (.dup, 1)) (ha : gxis a = false) (k : GX p l e R s m args below meth c Q nL A D cl ca ks lay ad cells slots (pc + 1) ls (a :: a :: st) F L) : GX p l e R s m args below meth c Q nL A D cl ca ks lay ad cells slots pc ls (a :: st) F L := fun H locs la hl hP hS => lv_dup X.1.1 X.1.2.1 d (by rw [gxv_cat, ha]; rfl) (k H locs la hl hP hS)
theorem gx_pop (X : GC p s m args meth c cc nL own Ts A D cl ca ks ad) {a : xV} (d : decode cc pc = .ok (.pop, 1)) (ha : gxis a = false) (k : GX p l e R s m args below meth c Q nL A D cl ca ks lay ad cells slots (pc + 1) ls (st) F L) : GX p l e R s m args below meth c Q nL A D cl ca ks lay ad cells slots pc ls (a :: st) F L := fun H locs la hl hP hS => lv_pop X.1.1 X.1.2.1 d (by rw [gxv_cat, ha]; rfl) (k H locs la hl hP hS)
theorem gx_dup_x1 (X : GC p s m args meth c cc nL own Ts A D cl ca ks ad) {a b : xV} (d : decode cc pc = .ok (.dup_x1, 1)) (ha : gxis a = false) (hb : gxis b = false) (k : GX p l e R s m args below meth c Q nL A D cl ca ks lay ad cells slots (pc + 1) ls (a :: b :: a :: st) F L) : GX p l e R s m args below meth c Q nL A D cl ca ks lay ad cells slots pc ls (a :: b :: st) F L := fun H locs la hl hP hS => lv_dup_x1 X.1.1 X.1.2.1 d (by rw [gxv_cat, ha]; rfl) (by rw [gxv_cat, hb]; rfl) (k H locs la hl hP hS)
theorem gx_dup_x2 (X : GC p s m args meth c cc nL own Ts A D cl ca ks ad) {a b z : xV} (d : decode cc pc = .ok (.dup_x2, 1)) (ha : gxis a = false) (hb : gxis b = false) (hz : gxis z = false) (k : GX p l e R s m args below meth c Q nL A D cl ca ks lay ad cells slots (pc + 1) ls (a :: b :: z :: a :: st) F L) : GX p l e R s m args below meth c Q nL A D cl ca ks lay ad cells slots pc ls (a :: b :: z :: st) F L := fun H locs la hl hP hS => lv_dup_x2 X.1.1 X.1.2.1 d (by rw [gxv_cat, ha]; rfl) (by rw [gxv_cat, hb]; rfl) (by rw [gxv_cat, hz]; rfl) (k H locs la hl hP hS)
theorem gx_dup2_11 (X : GC p s m args meth c cc nL own Ts A D cl ca ks ad) {a b : xV} (d : decode cc pc = .ok (.dup2, 1)) (ha : gxis a = false) (hb : gxis b = false) (k : GX p l e R s m args below meth c Q nL A D cl ca ks lay ad cells slots (pc + 1) ls (a :: b :: a :: b :: st) F L) : GX p l e R s m args below meth c Q nL A D cl ca ks lay ad cells slots pc ls (a :: b :: st) F L := fun H locs la hl hP hS => lv_dup2_11 X.1.1 X.1.2.1 d (by rw [gxv_cat, ha]; rfl) (by rw [gxv_cat, hb]; rfl) (k H locs la hl hP hS)
theorem gx_dup2_2 (X : GC p s m args meth c cc nL own Ts A D cl ca ks ad) {a : xV} (d : decode cc pc = .ok (.dup2, 1)) (ha : gxis a = true) (k : GX p l e R s m args below meth c Q nL A D cl ca ks lay ad cells slots (pc + 1) ls (a :: a :: st) F L) : GX p l e R s m args below meth c Q nL A D cl ca ks lay ad cells slots pc ls (a :: st) F L := fun H locs la hl hP hS => lv_dup2_2 X.1.1 X.1.2.1 d (by rw [gxv_cat, ha]; rfl) (k H locs la hl hP hS)
theorem gx_if_eq (X : GC p s m args meth c cc nL own Ts A D cl ca ks ad) {x : Int32} {off : Int} {tgt : Nat} (d : decode cc pc = .ok (.ifCond .eq off, 3)) (ht : (pc : Int) + off = (tgt : Int)) (kt : x = 0 → GX p l e R s m args below meth c Q nL A D cl ca ks lay ad cells slots tgt ls st F L) (kf : ¬ x = 0 → GX p l e R s m args below meth c Q nL A D cl ca ks lay ad cells slots (pc + 3) ls st F L) : GX p l e R s m args below meth c Q nL A D cl ca ks lay ad cells slots pc ls (xI x :: st) F L := fun H locs la hl hP hS => lv_if_eq X.1.1 X.1.2.1 d ht (fun h => kt h H locs la hl hP hS) (fun h => kf h H locs la hl hP hS)
theorem gx_icmp_eq (X : GC p s m args meth c cc nL own Ts A D cl ca ks ad) {x y : Int32} {off : Int} {tgt : Nat} (d : decode cc pc = .ok (.if_icmp .eq off, 3)) (ht : (pc : Int) + off = (tgt : Int)) (kt : x = y → GX p l e R s m args below meth c Q nL A D cl ca ks lay ad cells slots tgt ls st F L) (kf : ¬ x = y → GX p l e R s m args below meth c Q nL A D cl ca ks lay ad cells slots (pc + 3) ls st F L) : GX p l e R s m args below meth c Q nL A D cl ca ks lay ad cells slots pc ls (xI y :: xI x :: st) F L := fun H locs la hl hP hS => lv_icmp_eq X.1.1 X.1.2.1 d ht (fun h => kt h H locs la hl hP hS) (fun h => kf h H locs la hl hP hS)
theorem gx_if_lt (X : GC p s m args meth c cc nL own Ts A D cl ca ks ad) {x : Int32} {off : Int} {tgt : Nat} (d : decode cc pc = .ok (.ifCond .lt off, 3)) (ht : (pc : Int) + off = (tgt : Int)) (kt : x < 0 → GX p l e R s m args below meth c Q nL A D cl ca ks lay ad cells slots tgt ls st F L) (kf : ¬ x < 0 → GX p l e R s m args below meth c Q nL A D cl ca ks lay ad cells slots (pc + 3) ls st F L) : GX p l e R s m args below meth c Q nL A D cl ca ks lay ad cells slots pc ls (xI x :: st) F L := fun H locs la hl hP hS => lv_if_lt X.1.1 X.1.2.1 d ht (fun h => kt h H locs la hl hP hS) (fun h => kf h H locs la hl hP hS)
theorem gx_icmp_lt (X : GC p s m args meth c cc nL own Ts A D cl ca ks ad) {x y : Int32} {off : Int} {tgt : Nat} (d : decode cc pc = .ok (.if_icmp .lt off, 3)) (ht : (pc : Int) + off = (tgt : Int)) (kt : x < y → GX p l e R s m args below meth c Q nL A D cl ca ks lay ad cells slots tgt ls st F L) (kf : ¬ x < y → GX p l e R s m args below meth c Q nL A D cl ca ks lay ad cells slots (pc + 3) ls st F L) : GX p l e R s m args below meth c Q nL A D cl ca ks lay ad cells slots pc ls (xI y :: xI x :: st) F L := fun H locs la hl hP hS => lv_icmp_lt X.1.1 X.1.2.1 d ht (fun h => kt h H locs la hl hP hS) (fun h => kf h H locs la hl hP hS)
theorem gx_if_ge (X : GC p s m args meth c cc nL own Ts A D cl ca ks ad) {x : Int32} {off : Int} {tgt : Nat} (d : decode cc pc = .ok (.ifCond .ge off, 3)) (ht : (pc : Int) + off = (tgt : Int)) (kt : 0 ≤ x → GX p l e R s m args below meth c Q nL A D cl ca ks lay ad cells slots tgt ls st F L) (kf : ¬ 0 ≤ x → GX p l e R s m args below meth c Q nL A D cl ca ks lay ad cells slots (pc + 3) ls st F L) : GX p l e R s m args below meth c Q nL A D cl ca ks lay ad cells slots pc ls (xI x :: st) F L := fun H locs la hl hP hS => lv_if_ge X.1.1 X.1.2.1 d ht (fun h => kt h H locs la hl hP hS) (fun h => kf h H locs la hl hP hS)
theorem gx_icmp_ge (X : GC p s m args meth c cc nL own Ts A D cl ca ks ad) {x y : Int32} {off : Int} {tgt : Nat} (d : decode cc pc = .ok (.if_icmp .ge off, 3)) (ht : (pc : Int) + off = (tgt : Int)) (kt : y ≤ x → GX p l e R s m args below meth c Q nL A D cl ca ks lay ad cells slots tgt ls st F L) (kf : ¬ y ≤ x → GX p l e R s m args below meth c Q nL A D cl ca ks lay ad cells slots (pc + 3) ls st F L) : GX p l e R s m args below meth c Q nL A D cl ca ks lay ad cells slots pc ls (xI y :: xI x :: st) F L := fun H locs la hl hP hS => lv_icmp_ge X.1.1 X.1.2.1 d ht (fun h => kt h H locs la hl hP hS) (fun h => kf h H locs la hl hP hS)
theorem gx_if_gt (X : GC p s m args meth c cc nL own Ts A D cl ca ks ad) {x : Int32} {off : Int} {tgt : Nat} (d : decode cc pc = .ok (.ifCond .gt off, 3)) (ht : (pc : Int) + off = (tgt : Int)) (kt : 0 < x → GX p l e R s m args below meth c Q nL A D cl ca ks lay ad cells slots tgt ls st F L) (kf : ¬ 0 < x → GX p l e R s m args below meth c Q nL A D cl ca ks lay ad cells slots (pc + 3) ls st F L) : GX p l e R s m args below meth c Q nL A D cl ca ks lay ad cells slots pc ls (xI x :: st) F L := fun H locs la hl hP hS => lv_if_gt X.1.1 X.1.2.1 d ht (fun h => kt h H locs la hl hP hS) (fun h => kf h H locs la hl hP hS)
theorem gx_icmp_gt (X : GC p s m args meth c cc nL own Ts A D cl ca ks ad) {x y : Int32} {off : Int} {tgt : Nat} (d : decode cc pc = .ok (.if_icmp .gt off, 3)) (ht : (pc : Int) + off = (tgt : Int)) (kt : y < x → GX p l e R s m args below meth c Q nL A D cl ca ks lay ad cells slots tgt ls st F L) (kf : ¬ y < x → GX p l e R s m args below meth c Q nL A D cl ca ks lay ad cells slots (pc + 3) ls st F L) : GX p l e R s m args below meth c Q nL A D cl ca ks lay ad cells slots pc ls (xI y :: xI x :: st) F L := fun H locs la hl hP hS => lv_icmp_gt X.1.1 X.1.2.1 d ht (fun h => kt h H locs la hl hP hS) (fun h => kf h H locs la hl hP hS)
theorem gx_if_le (X : GC p s m args meth c cc nL own Ts A D cl ca ks ad) {x : Int32} {off : Int} {tgt : Nat} (d : decode cc pc = .ok (.ifCond .le off, 3)) (ht : (pc : Int) + off = (tgt : Int)) (kt : x ≤ 0 → GX p l e R s m args below meth c Q nL A D cl ca ks lay ad cells slots tgt ls st F L) (kf : ¬ x ≤ 0 → GX p l e R s m args below meth c Q nL A D cl ca ks lay ad cells slots (pc + 3) ls st F L) : GX p l e R s m args below meth c Q nL A D cl ca ks lay ad cells slots pc ls (xI x :: st) F L := fun H locs la hl hP hS => lv_if_le X.1.1 X.1.2.1 d ht (fun h => kt h H locs la hl hP hS) (fun h => kf h H locs la hl hP hS)
theorem gx_icmp_le (X : GC p s m args meth c cc nL own Ts A D cl ca ks ad) {x y : Int32} {off : Int} {tgt : Nat} (d : decode cc pc = .ok (.if_icmp .le off, 3)) (ht : (pc : Int) + off = (tgt : Int)) (kt : x ≤ y → GX p l e R s m args below meth c Q nL A D cl ca ks lay ad cells slots tgt ls st F L) (kf : ¬ x ≤ y → GX p l e R s m args below meth c Q nL A D cl ca ks lay ad cells slots (pc + 3) ls st F L) : GX p l e R s m args below meth c Q nL A D cl ca ks lay ad cells slots pc ls (xI y :: xI x :: st) F L := fun H locs la hl hP hS => lv_icmp_le X.1.1 X.1.2.1 d ht (fun h => kt h H locs la hl hP hS) (fun h => kf h H locs la hl hP hS)
theorem gx_if_ne (X : GC p s m args meth c cc nL own Ts A D cl ca ks ad) {x : Int32} {off : Int} {tgt : Nat} (d : decode cc pc = .ok (.ifCond .ne off, 3)) (ht : (pc : Int) + off = (tgt : Int)) (kt : ¬ x = 0 → GX p l e R s m args below meth c Q nL A D cl ca ks lay ad cells slots tgt ls st F L) (kf : x = 0 → GX p l e R s m args below meth c Q nL A D cl ca ks lay ad cells slots (pc + 3) ls st F L) : GX p l e R s m args below meth c Q nL A D cl ca ks lay ad cells slots pc ls (xI x :: st) F L := fun H locs la hl hP hS => lv_if_ne X.1.1 X.1.2.1 d ht (fun h => kt h H locs la hl hP hS) (fun h => kf h H locs la hl hP hS)
theorem gx_icmp_ne (X : GC p s m args meth c cc nL own Ts A D cl ca ks ad) {x y : Int32} {off : Int} {tgt : Nat} (d : decode cc pc = .ok (.if_icmp .ne off, 3)) (ht : (pc : Int) + off = (tgt : Int)) (kt : ¬ x = y → GX p l e R s m args below meth c Q nL A D cl ca ks lay ad cells slots tgt ls st F L) (kf : x = y → GX p l e R s m args below meth c Q nL A D cl ca ks lay ad cells slots (pc + 3) ls st F L) : GX p l e R s m args below meth c Q nL A D cl ca ks lay ad cells slots pc ls (xI y :: xI x :: st) F L := fun H locs la hl hP hS => lv_icmp_ne X.1.1 X.1.2.1 d ht (fun h => kt h H locs la hl hP hS) (fun h => kf h H locs la hl hP hS)
theorem gx_goto (X : GC p s m args meth c cc nL own Ts A D cl ca ks ad) {off : Int} {tgt : Nat} (d : decode cc pc = .ok (.goto off, 3)) (ht : (pc : Int) + off = (tgt : Int)) (k : GX p l e R s m args below meth c Q nL A D cl ca ks lay ad cells slots tgt ls st F L) : GX p l e R s m args below meth c Q nL A D cl ca ks lay ad cells slots pc ls st F L := fun H locs la hl hP hS => lv_goto X.1.1 X.1.2.1 d ht (k H locs la hl hP hS)
theorem gx_lookup (X : GC p s m args meth c cc nL own Ts A D cl ca ks ad) {dflt : Int} {ps : Array (Int × Int)} {len : Nat} {x : Int32} {off : Int} {tgt : Nat} (d : decode cc pc = .ok (.lookupswitch dflt ps, len)) (hp : (ps.toList.zip (ps.toList.drop 1)).all (fun (a, next) => a.1 < next.1) = true) (ho : Op.lookupswitch.offset ps.toList dflt x.toInt = off) (ht : (pc : Int) + off = (tgt : Int)) (k : GX p l e R s m args below meth c Q nL A D cl ca ks lay ad cells slots tgt ls st F L) : GX p l e R s m args below meth c Q nL A D cl ca ks lay ad cells slots pc ls (xI x :: st) F L := fun H locs la hl hP hS => lv_lookup X.1.1 X.1.2.1 d hp ho ht (k H locs la hl hP hS)
theorem gx_tableOut (X : GC p s m args meth c cc nL own Ts A D cl ca ks ad) {dflt lo hi : Int} {offs : Array Int} {len : Nat} {x : Int32} {tgt : Nat} (d : decode cc pc = .ok (.tableswitch dflt lo hi offs, len)) (h : x.toInt < lo ∨ hi < x.toInt) (ht : (pc : Int) + dflt = (tgt : Int)) (k : GX p l e R s m args below meth c Q nL A D cl ca ks lay ad cells slots tgt ls st F L) : GX p l e R s m args below meth c Q nL A D cl ca ks lay ad cells slots pc ls (xI x :: st) F L := fun H locs la hl hP hS => lv_tableOut X.1.1 X.1.2.1 d h ht (k H locs la hl hP hS)
theorem gx_tableIn (X : GC p s m args meth c cc nL own Ts A D cl ca ks ad) {dflt lo hi : Int} {offs : Array Int} {len : Nat} {x : Int32} {off : Int} {tgt : Nat} (d : decode cc pc = .ok (.tableswitch dflt lo hi offs, len)) (h1 : ¬ x.toInt < lo) (h2 : ¬ hi < x.toInt) (ho : offs[(x.toInt - lo).toNat]? = some off) (ht : (pc : Int) + off = (tgt : Int)) (k : GX p l e R s m args below meth c Q nL A D cl ca ks lay ad cells slots tgt ls st F L) : GX p l e R s m args below meth c Q nL A D cl ca ks lay ad cells slots pc ls (xI x :: st) F L := fun H locs la hl hP hS => lv_tableIn X.1.1 X.1.2.1 d h1 h2 ho ht (k H locs la hl hP hS)
theorem gx_top {x y : Int32} (h : x = y) (k : GX p l e R s m args below meth c Q nL A D cl ca ks lay ad cells slots pc ls (xI y :: st) F L) : GX p l e R s m args below meth c Q nL A D cl ca ks lay ad cells slots pc ls (xI x :: st) F L := by rw [h]; exact k
theorem gx_topl {x y : Int64} (h : x = y) (k : GX p l e R s m args below meth c Q nL A D cl ca ks lay ad cells slots pc ls (xL y :: st) F L) : GX p l e R s m args below meth c Q nL A D cl ca ks lay ad cells slots pc ls (xL x :: st) F L := by rw [h]; exact k
theorem gx_F {F2 : Nat → Nat → Int32} (h : F = F2) (k : GX p l e R s m args below meth c Q nL A D cl ca ks lay ad cells slots pc ls st F2 L) : GX p l e R s m args below meth c Q nL A D cl ca ks lay ad cells slots pc ls st F L := by rw [h]; exact k
theorem gx_iald (X : GC p s m args meth c cc nL own Ts A D cl ca ks ad) {k n j : Nat} {i : Int32} (d : decode cc pc = .ok (.iaload, 1)) (hk : k ∈ ks) (hlay : lay k = Sum.inr (Sum.inl (0, n))) (hi : i = nI j) (hj : j < n) (hn : n < 2 ^ 31) (kk : GX p l e R s m args below meth c Q nL A D cl ca ks lay ad cells slots (pc + 1) ls (xI (F k j) :: st) F L) : GX p l e R s m args below meth c Q nL A D cl ca ks lay ad cells slots pc ls (xI i :: xR k :: st) F L := by
  subst hi
  intro H locs la hl hP hS
  obtain ⟨q, hq⟩ := List.getElem?_of_mem hk
  have ha := gxw_at (lay := lay) (ca := ca) (ad := ad) (F := F) (L := L) hq
  rw [hlay] at ha
  have ha : (gxw ks lay ca ad F L)[q]? = some (ad k, .inl (ca 0, n, .inl (F k))) := ha
  refine va_iald X.1.1 X.1.2.1 X.2.1 hP q 0 ha rfl (vp_in_nI hj hn) d ?_
  rw [nI_clamp (Nat.lt_trans hj hn)]
  exact kk H locs la hl hP hS
theorem gx_cald (X : GC p s m args meth c cc nL own Ts A D cl ca ks ad) {k n j : Nat} {i : Int32} (d : decode cc pc = .ok (.caload, 1)) (hk : k ∈ ks) (hlay : lay k = Sum.inr (Sum.inl (2, n))) (hi : i = nI j) (hj : j < n) (hn : n < 2 ^ 31) (kk : GX p l e R s m args below meth c Q nL A D cl ca ks lay ad cells slots (pc + 1) ls (xI (F k j) :: st) F L) : GX p l e R s m args below meth c Q nL A D cl ca ks lay ad cells slots pc ls (xI i :: xR k :: st) F L := by
  subst hi
  intro H locs la hl hP hS
  obtain ⟨q, hq⟩ := List.getElem?_of_mem hk
  have ha := gxw_at (lay := lay) (ca := ca) (ad := ad) (F := F) (L := L) hq
  rw [hlay] at ha
  have ha : (gxw ks lay ca ad F L)[q]? = some (ad k, .inl (ca 2, n, .inl (F k))) := ha
  refine va_cald X.1.1 X.1.2.1 X.2.1 hP q 2 ha rfl (vp_in_nI hj hn) d ?_
  rw [nI_clamp (Nat.lt_trans hj hn)]
  exact kk H locs la hl hP hS
theorem gx_bald (X : GC p s m args meth c cc nL own Ts A D cl ca ks ad) {k n j : Nat} {i : Int32} (d : decode cc pc = .ok (.baload, 1)) (hk : k ∈ ks) (hlay : lay k = Sum.inr (Sum.inl (3, n))) (hi : i = nI j) (hj : j < n) (hn : n < 2 ^ 31) (kk : GX p l e R s m args below meth c Q nL A D cl ca ks lay ad cells slots (pc + 1) ls (xI (F k j) :: st) F L) : GX p l e R s m args below meth c Q nL A D cl ca ks lay ad cells slots pc ls (xI i :: xR k :: st) F L := by
  subst hi
  intro H locs la hl hP hS
  obtain ⟨q, hq⟩ := List.getElem?_of_mem hk
  have ha := gxw_at (lay := lay) (ca := ca) (ad := ad) (F := F) (L := L) hq
  rw [hlay] at ha
  have ha : (gxw ks lay ca ad F L)[q]? = some (ad k, .inl (ca 3, n, .inl (F k))) := ha
  refine va_bald X.1.1 X.1.2.1 X.2.1 hP q 3 ha rfl (vp_in_nI hj hn) d ?_
  rw [nI_clamp (Nat.lt_trans hj hn)]
  exact kk H locs la hl hP hS
theorem gx_zald (X : GC p s m args meth c cc nL own Ts A D cl ca ks ad) {k n j : Nat} {i : Int32} (d : decode cc pc = .ok (.baload, 1)) (hk : k ∈ ks) (hlay : lay k = Sum.inr (Sum.inl (4, n))) (hi : i = nI j) (hj : j < n) (hn : n < 2 ^ 31) (kk : GX p l e R s m args below meth c Q nL A D cl ca ks lay ad cells slots (pc + 1) ls (xI (F k j) :: st) F L) : GX p l e R s m args below meth c Q nL A D cl ca ks lay ad cells slots pc ls (xI i :: xR k :: st) F L := by
  subst hi
  intro H locs la hl hP hS
  obtain ⟨q, hq⟩ := List.getElem?_of_mem hk
  have ha := gxw_at (lay := lay) (ca := ca) (ad := ad) (F := F) (L := L) hq
  rw [hlay] at ha
  have ha : (gxw ks lay ca ad F L)[q]? = some (ad k, .inl (ca 4, n, .inl (F k))) := ha
  refine va_zald X.1.1 X.1.2.1 X.2.1 hP q 4 ha rfl (vp_in_nI hj hn) d ?_
  rw [nI_clamp (Nat.lt_trans hj hn)]
  exact kk H locs la hl hP hS
theorem gx_lald (X : GC p s m args meth c cc nL own Ts A D cl ca ks ad) {k n j : Nat} {i : Int32} (d : decode cc pc = .ok (.laload, 1)) (hk : k ∈ ks) (hlay : lay k = Sum.inr (Sum.inr (Sum.inl n))) (hi : i = nI j) (hj : j < n) (hn : n < 2 ^ 31) (kk : GX p l e R s m args below meth c Q nL A D cl ca ks lay ad cells slots (pc + 1) ls (xL (L k j) :: st) F L) : GX p l e R s m args below meth c Q nL A D cl ca ks lay ad cells slots pc ls (xI i :: xR k :: st) F L := by
  subst hi
  intro H locs la hl hP hS
  obtain ⟨q, hq⟩ := List.getElem?_of_mem hk
  have ha := gxw_at (lay := lay) (ca := ca) (ad := ad) (F := F) (L := L) hq
  rw [hlay] at ha
  have ha : (gxw ks lay ca ad F L)[q]? = some (ad k, .inl (ca 1, n, .inr (.inl (L k)))) := ha
  refine va_lald X.1.1 X.1.2.1 X.2.1 hP q 1 ha rfl (vp_in_nI hj hn) d ?_
  rw [nI_clamp (Nat.lt_trans hj hn)]
  exact kk H locs la hl hP hS
theorem gx_aald (X : GC p s m args meth c cc nL own Ts A D cl ca ks ad) {k n j : Nat} {τ : Nat} {ty : FieldType} {g : Nat → Nat} {i : Int32} (d : decode cc pc = .ok (.aaload, 1)) (hk : k ∈ ks) (hlay : lay k = Sum.inr (Sum.inr (Sum.inr (τ, n, g)))) (hτ : (gxT ca)[τ]? = some (ca τ, ty)) (hty : ty.isReference = true) (hi : i = nI j) (hj : j < n) (hn : n < 2 ^ 31) (kk : GX p l e R s m args below meth c Q nL A D cl ca ks lay ad cells slots (pc + 1) ls (xR (g j) :: st) F L) : GX p l e R s m args below meth c Q nL A D cl ca ks lay ad cells slots pc ls (xI i :: xR k :: st) F L := by
  subst hi
  intro H locs la hl hP hS
  obtain ⟨q, hq⟩ := List.getElem?_of_mem hk
  have ha := gxw_at (lay := lay) (ca := ca) (ad := ad) (F := F) (L := L) hq
  rw [hlay] at ha
  have ha : (gxw ks lay ca ad F L)[q]? = some (ad k, .inl (ca τ, n, .inr (.inr (.inr (.inr (fun j => some (ad (g j)))))))) := ha
  have hin := vp_in_nI hj hn
  have hc := nI_clamp (Nat.lt_trans hj hn)
  have hcell := hP q _ ha
  refine W.aald (v := .ref (ad (g j))) (ty := ty) X.1.1 X.1.2.1 hcell ((X.2.1.2 τ _ hτ).1 n (fun j => va_rf (some (ad (g j))))) hty (fun q => by cases q) (by show ¬ (nI j < 0 ∨ (arrV _ _ _).slots.size ≤ _); rw [arrV_size]; exact hin) (by show (arrV _ _ _).slots[_]? = _; rw [hc, arrV_read _ _ hj]; rfl) rfl rfl d ?_
  exact kk H locs la hl hP hS
theorem gx_iast (X : GC p s m args meth c cc nL own Ts A D cl ca ks ad) {k n j : Nat} {i : Int32} {x : Int32} (d : decode cc pc = .ok (.iastore, 1)) (hk : k ∈ ks) (hlay : lay k = Sum.inr (Sum.inl (0, n))) (hi : i = nI j) (hj : j < n) (hn : n < 2 ^ 31) (kk : GX p l e R s m args below meth c Q nL A D cl ca ks lay ad cells slots (pc + 1) ls st (gxu F k j x) L) : GX p l e R s m args below meth c Q nL A D cl ca ks lay ad cells slots pc ls (xI x :: xI i :: xR k :: st) F L := by
  subst hi
  intro H locs la hl hP hS
  obtain ⟨q, hq⟩ := List.getElem?_of_mem hk
  have ha := gxw_at (lay := lay) (ca := ca) (ad := ad) (F := F) (L := L) hq
  rw [hlay] at ha
  have ha : (gxw ks lay ca ad F L)[q]? = some (ad k, .inl (ca 0, n, .inl (F k))) := ha
  refine va_iast X.1.1 X.1.2.1 X.2.1 hP (X.2.2.1.D) hS q 0 ha rfl (vp_in_nI hj hn) d (fun H1 locs1 hP1 _ hS1 => ?_)
  rw [nI_clamp (Nat.lt_trans hj hn)] at hP1
  have e := gxw_set (lay := lay) (ca := ca) (F := F) (F' := gxu F k j x) (L := L) (L' := L) X.2.2.1 hq (fun a h => gxu_cell h) (fun _ _ => rfl)
  rw [hlay] at e
  have e2 : gxc ca ad (gxu F k j x) L k (Sum.inr (Sum.inl (0, n))) = .inl (ca 0, n, .inl (upd (F k) j x)) := by
    show (Sum.inl (ca 0, n, Sum.inl (gxu F k j x k)) : va_E) = _
    rw [gxu_in]
  rw [e2] at e
  rw [e] at hP1
  exact kk H1 locs1 la hl hP1 hS1
theorem gx_cast (X : GC p s m args meth c cc nL own Ts A D cl ca ks ad) {k n j : Nat} {i : Int32} {x v : Int32} (d : decode cc pc = .ok (.castore, 1)) (hk : k ∈ ks) (hlay : lay k = Sum.inr (Sum.inl (2, n))) (hi : i = nI j) (hj : j < n) (hn : n < 2 ^ 31) (hv : vp_nar .char x = v) (kk : GX p l e R s m args below meth c Q nL A D cl ca ks lay ad cells slots (pc + 1) ls st (gxu F k j v) L) : GX p l e R s m args below meth c Q nL A D cl ca ks lay ad cells slots pc ls (xI x :: xI i :: xR k :: st) F L := by
  subst hi
  intro H locs la hl hP hS
  obtain ⟨q, hq⟩ := List.getElem?_of_mem hk
  have ha := gxw_at (lay := lay) (ca := ca) (ad := ad) (F := F) (L := L) hq
  rw [hlay] at ha
  have ha : (gxw ks lay ca ad F L)[q]? = some (ad k, .inl (ca 2, n, .inl (F k))) := ha
  refine va_cast X.1.1 X.1.2.1 X.2.1 hP (X.2.2.1.D) hS q 2 ha rfl (vp_in_nI hj hn) d (fun H1 locs1 hP1 _ hS1 => ?_)
  rw [nI_clamp (Nat.lt_trans hj hn), hv] at hP1
  have e := gxw_set (lay := lay) (ca := ca) (F := F) (F' := gxu F k j v) (L := L) (L' := L) X.2.2.1 hq (fun a h => gxu_cell h) (fun _ _ => rfl)
  rw [hlay] at e
  have e2 : gxc ca ad (gxu F k j v) L k (Sum.inr (Sum.inl (2, n))) = .inl (ca 2, n, .inl (upd (F k) j v)) := by
    show (Sum.inl (ca 2, n, Sum.inl (gxu F k j v k)) : va_E) = _
    rw [gxu_in]
  rw [e2] at e
  rw [e] at hP1
  exact kk H1 locs1 la hl hP1 hS1
theorem gx_bast (X : GC p s m args meth c cc nL own Ts A D cl ca ks ad) {k n j : Nat} {i : Int32} {x v : Int32} (d : decode cc pc = .ok (.bastore, 1)) (hk : k ∈ ks) (hlay : lay k = Sum.inr (Sum.inl (3, n))) (hi : i = nI j) (hj : j < n) (hn : n < 2 ^ 31) (hv : vp_nar .byte x = v) (kk : GX p l e R s m args below meth c Q nL A D cl ca ks lay ad cells slots (pc + 1) ls st (gxu F k j v) L) : GX p l e R s m args below meth c Q nL A D cl ca ks lay ad cells slots pc ls (xI x :: xI i :: xR k :: st) F L := by
  subst hi
  intro H locs la hl hP hS
  obtain ⟨q, hq⟩ := List.getElem?_of_mem hk
  have ha := gxw_at (lay := lay) (ca := ca) (ad := ad) (F := F) (L := L) hq
  rw [hlay] at ha
  have ha : (gxw ks lay ca ad F L)[q]? = some (ad k, .inl (ca 3, n, .inl (F k))) := ha
  refine va_bast X.1.1 X.1.2.1 X.2.1 hP (X.2.2.1.D) hS q 3 ha rfl (vp_in_nI hj hn) d (fun H1 locs1 hP1 _ hS1 => ?_)
  rw [nI_clamp (Nat.lt_trans hj hn), hv] at hP1
  have e := gxw_set (lay := lay) (ca := ca) (F := F) (F' := gxu F k j v) (L := L) (L' := L) X.2.2.1 hq (fun a h => gxu_cell h) (fun _ _ => rfl)
  rw [hlay] at e
  have e2 : gxc ca ad (gxu F k j v) L k (Sum.inr (Sum.inl (3, n))) = .inl (ca 3, n, .inl (upd (F k) j v)) := by
    show (Sum.inl (ca 3, n, Sum.inl (gxu F k j v k)) : va_E) = _
    rw [gxu_in]
  rw [e2] at e
  rw [e] at hP1
  exact kk H1 locs1 la hl hP1 hS1
theorem gx_zast (X : GC p s m args meth c cc nL own Ts A D cl ca ks ad) {k n j : Nat} {i : Int32} {x v : Int32} (d : decode cc pc = .ok (.bastore, 1)) (hk : k ∈ ks) (hlay : lay k = Sum.inr (Sum.inl (4, n))) (hi : i = nI j) (hj : j < n) (hn : n < 2 ^ 31) (hv : vp_nar .boolean x = v) (kk : GX p l e R s m args below meth c Q nL A D cl ca ks lay ad cells slots (pc + 1) ls st (gxu F k j v) L) : GX p l e R s m args below meth c Q nL A D cl ca ks lay ad cells slots pc ls (xI x :: xI i :: xR k :: st) F L := by
  subst hi
  intro H locs la hl hP hS
  obtain ⟨q, hq⟩ := List.getElem?_of_mem hk
  have ha := gxw_at (lay := lay) (ca := ca) (ad := ad) (F := F) (L := L) hq
  rw [hlay] at ha
  have ha : (gxw ks lay ca ad F L)[q]? = some (ad k, .inl (ca 4, n, .inl (F k))) := ha
  refine va_zast X.1.1 X.1.2.1 X.2.1 hP (X.2.2.1.D) hS q 4 ha rfl (vp_in_nI hj hn) d (fun H1 locs1 hP1 _ hS1 => ?_)
  rw [nI_clamp (Nat.lt_trans hj hn), hv] at hP1
  have e := gxw_set (lay := lay) (ca := ca) (F := F) (F' := gxu F k j v) (L := L) (L' := L) X.2.2.1 hq (fun a h => gxu_cell h) (fun _ _ => rfl)
  rw [hlay] at e
  have e2 : gxc ca ad (gxu F k j v) L k (Sum.inr (Sum.inl (4, n))) = .inl (ca 4, n, .inl (upd (F k) j v)) := by
    show (Sum.inl (ca 4, n, Sum.inl (gxu F k j v k)) : va_E) = _
    rw [gxu_in]
  rw [e2] at e
  rw [e] at hP1
  exact kk H1 locs1 la hl hP1 hS1
theorem gx_last (X : GC p s m args meth c cc nL own Ts A D cl ca ks ad) {k n j : Nat} {i : Int32} {x : Int64} (d : decode cc pc = .ok (.lastore, 1)) (hk : k ∈ ks) (hlay : lay k = Sum.inr (Sum.inr (Sum.inl n))) (hi : i = nI j) (hj : j < n) (hn : n < 2 ^ 31) (kk : GX p l e R s m args below meth c Q nL A D cl ca ks lay ad cells slots (pc + 1) ls st F (gxU L k j x)) : GX p l e R s m args below meth c Q nL A D cl ca ks lay ad cells slots pc ls (xL x :: xI i :: xR k :: st) F L := by
  subst hi
  intro H locs la hl hP hS
  obtain ⟨q, hq⟩ := List.getElem?_of_mem hk
  have ha := gxw_at (lay := lay) (ca := ca) (ad := ad) (F := F) (L := L) hq
  rw [hlay] at ha
  have ha : (gxw ks lay ca ad F L)[q]? = some (ad k, .inl (ca 1, n, .inr (.inl (L k)))) := ha
  refine va_last X.1.1 X.1.2.1 X.2.1 hP (X.2.2.1.D) hS q 1 ha rfl (vp_in_nI hj hn) d (fun H1 locs1 hP1 _ hS1 => ?_)
  rw [nI_clamp (Nat.lt_trans hj hn)] at hP1
  have e := gxw_set (lay := lay) (ca := ca) (F := F) (F' := F) (L := L) (L' := gxU L k j x) X.2.2.1 hq (fun _ _ => rfl) (fun a h => gxU_cell h)
  rw [hlay] at e
  have e2 : gxc ca ad F (gxU L k j x) k (Sum.inr (Sum.inr (Sum.inl n))) = .inl (ca 1, n, .inr (.inl (vp_updL (L k) j x))) := by
    show (Sum.inl (ca 1, n, Sum.inr (Sum.inl (gxU L k j x k))) : va_E) = _
    rw [gxU_in]
  rw [e2] at e
  rw [e] at hP1
  exact kk H1 locs1 la hl hP1 hS1
theorem gx_alen (X : GC p s m args meth c cc nL own Ts A D cl ca ks ad) {k : Nat} {τ n : Nat} {ty : FieldType} {x : vp_A} {v : Int32} (d : decode cc pc = .ok (.arraylength, 1)) (hk : k ∈ ks) (hlay : gxc ca ad F L k (lay k) = .inl (ca τ, x)) (hx : x.1 = n) (hτ : (gxT ca)[τ]? = some (ca τ, ty)) (hv : Int32.ofNat n = v) (kk : GX p l e R s m args below meth c Q nL A D cl ca ks lay ad cells slots (pc + 1) ls (xI v :: st) F L) : GX p l e R s m args below meth c Q nL A D cl ca ks lay ad cells slots pc ls (xR k :: st) F L := by
  subst hx
  intro H locs la hl hP hS
  obtain ⟨q, hq⟩ := List.getElem?_of_mem hk
  have ha := gxw_at (lay := lay) (ca := ca) (ad := ad) (F := F) (L := L) hq
  rw [hlay] at ha
  exact va_alen X.1.1 X.1.2.1 X.2.1 hP q τ ha hτ hv d (kk H locs la hl hP hS)
theorem gx_geti (X : GC p s m args meth c cc nL own Ts A D cl ca ks ad) {C ref : String} {T : u_T} {N ci index : Nat} {fs : List (Option Nat)} {k : Nat} (d : decode cc pc = .ok (.getfield index, 3)) (hin : ∀ w ∈ u_ws C T N, w ∈ Ts) (hk : k ∈ ks) (hlay : lay k = Sum.inl (ci, fs)) (hc : cl[ci]? = some (C, T, N)) (j : Nat) (hj : j < N) (hlink : (Cond.fieldLink own index ref (T j).2.1 (T j).2.2.1).before args s = true) (hsame : ∀ x, s.fieldFound? (T j).1 (T j).2.1 (T j).2.2.1 = some x → s.fieldFound? ref (T j).2.1 (T j).2.2.1 = some x) (hf : fs[j]? = some none) (kk : GX p l e R s m args below meth c Q nL A D cl ca ks lay ad cells slots (pc + 3) ls (xI (F k j) :: st) F L) : GX p l e R s m args below meth c Q nL A D cl ca ks lay ad cells slots pc ls (xR k :: st) F L := by
  intro H locs la hl hP hS
  obtain ⟨q, hq⟩ := List.getElem?_of_mem hk
  have ha := gxw_at (lay := lay) (ca := ca) (ad := ad) (F := F) (L := L) hq
  rw [hlay] at ha
  have ha : (gxw ks lay ca ad F L)[q]? = some (ad k, .inr (ci, gxfl ad (F k) 0 fs)) := ha
  have hv := gxfl_i ad (F k) fs 0 j hf
  rw [Nat.zero_add] at hv
  exact va_get X.1.1 X.1.2.1 X.1.2.2.2.2 hin X.1.2.2.2.1 X.2.1 hP q ha hc j hj hlink hsame hv d (kk H locs la hl hP hS)
theorem gx_getr (X : GC p s m args meth c cc nL own Ts A D cl ca ks ad) {C ref : String} {T : u_T} {N ci index : Nat} {fs : List (Option Nat)} {k : Nat} {k2 : Nat} (d : decode cc pc = .ok (.getfield index, 3)) (hin : ∀ w ∈ u_ws C T N, w ∈ Ts) (hk : k ∈ ks) (hlay : lay k = Sum.inl (ci, fs)) (hc : cl[ci]? = some (C, T, N)) (j : Nat) (hj : j < N) (hlink : (Cond.fieldLink own index ref (T j).2.1 (T j).2.2.1).before args s = true) (hsame : ∀ x, s.fieldFound? (T j).1 (T j).2.1 (T j).2.2.1 = some x → s.fieldFound? ref (T j).2.1 (T j).2.2.1 = some x) (hf : gxff fs j = some k2) (kk : GX p l e R s m args below meth c Q nL A D cl ca ks lay ad cells slots (pc + 3) ls (xR k2 :: st) F L) : GX p l e R s m args below meth c Q nL A D cl ca ks lay ad cells slots pc ls (xR k :: st) F L := by
  intro H locs la hl hP hS
  obtain ⟨q, hq⟩ := List.getElem?_of_mem hk
  have ha := gxw_at (lay := lay) (ca := ca) (ad := ad) (F := F) (L := L) hq
  rw [hlay] at ha
  have ha : (gxw ks lay ca ad F L)[q]? = some (ad k, .inr (ci, gxfl ad (F k) 0 fs)) := ha
  exact va_get X.1.1 X.1.2.1 X.1.2.2.2.2 hin X.1.2.2.2.1 X.2.1 hP q ha hc j hj hlink hsame (gxfl_ref ad (F k) hf) d (kk H locs la hl hP hS)
theorem gx_puti (X : GC p s m args meth c cc nL own Ts A D cl ca ks ad) {C ref : String} {T : u_T} {N ci index : Nat} {fs : List (Option Nat)} {k : Nat} {ty : FieldType} {v : Int32} (d : decode cc pc = .ok (.putfield index, 3)) (hin : ∀ w ∈ u_ws C T N, w ∈ Ts) (hk : k ∈ ks) (hlay : lay k = Sum.inl (ci, fs)) (hc : cl[ci]? = some (C, T, N)) (j : Nat) (hj : j < N) (hlink : (Cond.fieldLink own index ref (T j).2.1 (T j).2.2.1).before args s = true) (hsame : ∀ x, s.fieldFound? (T j).1 (T j).2.1 (T j).2.2.1 = some x → s.fieldFound? ref (T j).2.1 (T j).2.2.1 = some x) (ty0 : Nat → FieldType) (hty : ∀ k, k < N → parseFieldDescriptor (T k).2.2.1 = some (ty0 k)) (hnm : ∀ a, a < N → ∀ b, b < N → a ≠ b → (T a).2.1 ≠ (T b).2.1) (hfin : (T j).2.2.2 = false) (hd : parseFieldDescriptor (T j).2.2.1 = some ty) (hn : narrow ty (.int v) = .int v) (hfit : fits ty (.int v) = true) (hf : fs[j]? = some none) (kk : GX p l e R s m args below meth c Q nL A D cl ca ks lay ad cells slots (pc + 3) ls st (gxu F k j v) L) : GX p l e R s m args below meth c Q nL A D cl ca ks lay ad cells slots pc ls (xI v :: xR k :: st) F L := by
  intro H locs la hl hP hS
  obtain ⟨q, hq⟩ := List.getElem?_of_mem hk
  have ha := gxw_at (lay := lay) (ca := ca) (ad := ad) (F := F) (L := L) hq
  rw [hlay] at ha
  have ha : (gxw ks lay ca ad F L)[q]? = some (ad k, .inr (ci, gxfl ad (F k) 0 fs)) := ha
  have hlt : j < (gxfl ad (F k) 0 fs).length := by rw [gxfl_len]; exact (List.getElem?_eq_some_iff.mp hf).1
  refine va_put (v := .int v) X.1.1 X.1.2.1 X.1.2.2.2.2 hin ty0 hty hnm X.1.2.2.2.1 X.2.1 hP (X.2.2.1.D) hS q ha hc j hj hlink hsame hfin hd hn hfit hlt d (fun H1 locs1 hP1 _ hS1 => ?_)
  have e := gxw_set (lay := lay) (ca := ca) (F := F) (F' := gxu F k j v) (L := L) (L' := L) X.2.2.1 hq (fun a h => gxu_cell h) (fun _ _ => rfl)
  rw [hlay] at e
  have e2 : gxc ca ad (gxu F k j v) L k (Sum.inl (ci, fs)) = .inr (ci, (gxfl ad (F k) 0 fs).set j (.int v)) := by
    show (Sum.inr (ci, gxfl ad (gxu F k j v k) 0 fs) : va_E) = _
    rw [gxu_in, gxfl_set ad (F k) v fs 0 j hf, Nat.zero_add]
  rw [e2] at e
  rw [e] at hP1
  exact kk H1 locs1 la hl hP1 hS1
end GXS
/-! contracts over worlds: any caller, the whole world goes in and comes back -/
def gxA (ks : List Nat) (ad : Nat → Nat) (sz : Nat) : Nat → Prop := fun q => (∃ k, k ∈ ks ∧ q = ad k) ∨ sz ≤ q
def gxP (D : va_G) (cl : List vw_C) (ca : Nat → ClassId) (ks : List Nat) (lay : Nat → gxE) (ad : Nat → Nat) (sz : Nat) (F : Nat → Nat → Int32) (L : Nat → Nat → Int64) (U : State) : Prop :=
  U.heap.size = sz ∧ va_P D cl (gxw ks lay ca ad F L) U.heap ∧ va_K D cl (gxT ca) U ∧ gxD (fun _ => True) ks ad
def gxQ (D : va_G) (cl : List vw_C) (ca : Nat → ClassId) (ks : List Nat) (lay : Nat → gxE) (ad : Nat → Nat) (sz : Nat) (post : Option xV → (Nat → Nat → Int32) → (Nat → Nat → Int64) → Prop) : Array Value → State → Outcome → State → Prop := fun _ st oc t =>
  (∃ (r : Option xV) (F' : Nat → Nat → Int32) (L' : Nat → Nat → Int64), oc = .returned (r.map (gxv ad)) ∧ post r F' L' ∧ va_P D cl (gxw ks lay ca ad F' L') t.heap) ∧ va_F (gxA ks ad sz) st t
def Con (l : Launch) (y : MethodName) (ws : List Cond) (rm : Room) (D : va_G) (cl : List vw_C) (ca : Nat → ClassId) (ks : List Nat) (lay : Nat → gxE) (ad : Nat → Nat) (av : List xV) (F : Nat → Nat → Int32) (L : Nat → Nat → Int64) (post : Option xV → (Nat → Nat → Int32) → (Nat → Nat → Int64) → Prop) : Prop :=
  ∀ sz : Nat, Met l y ws rm (va_Pc (av.map (gxv ad)) (gxP D cl ca ks lay ad sz F L)) (gxQ D cl ca ks lay ad sz post) 0 0 (gxA ks ad sz)
def gxargs : Nat → List xV → List (Nat × xV)
  | _, [] => []
  | i, v :: r => (i, v) :: gxargs (cond (gxis v) (i + 2) (i + 1)) r
theorem gxlk_mem : ∀ {ls : List (Nat × xV)} {i : Nat} {v : xV}, gxlk ls i = some v → (i, v) ∈ ls
  | [], _, _, h => by simp [gxlk] at h
  | (j, w) :: r, i, v, h => by
    rcases gxlk_cons h with ⟨rfl, rfl⟩ | ⟨-, h2, -, -⟩
    · exact List.mem_cons_self
    · exact List.mem_cons_of_mem _ (gxlk_mem h2)
theorem gxargs_mem (ad : Nat → Nat) : ∀ (av : List xV) (i j : Nat) (v : xV), (j, v) ∈ gxargs i av → (j, gxv ad v) ∈ lv_args i (av.map (gxv ad))
  | [], _, _, _, h => by simp [gxargs] at h
  | w :: r, i, j, v, h => by
    simp only [gxargs, List.mem_cons] at h
    rcases h with h | h
    · cases h
      simp [lv_args]
    · have := gxargs_mem ad r _ j v h
      have e : (if (gxv ad w).category = 2 then i + 2 else i + 1) = cond (gxis w) (i + 2) (i + 1) := by
        rw [gxv_cat]
        cases gxis w <;> rfl
      simp only [List.map_cons, lv_args, List.mem_cons, e]
      exact Or.inr this
theorem gxhas_entry {la : Array Slot} {n : Nat} {ad : Nat → Nat} {av : List xV} (h : lv_has la n (lv_args 0 (av.map (gxv ad)))) : gxhas la n (gxargs 0 av) ad :=
  ⟨h.1, h.2.1, fun i v hi => h.2.2 _ (gxargs_mem ad av 0 i v (gxlk_mem hi))⟩
theorem gxD.self {A : Nat → Prop} {ks : List Nat} {ad : Nat → Nat} {sz : Nat} (h : gxD A ks ad) : gxD (gxA ks ad sz) ks ad := ⟨h.1, fun k hk => Or.inl ⟨k, hk, rfl⟩⟩
theorem Con.of {l : Launch} {y : MethodName} {ws ws' : List Cond} {rm : Room} {D : va_G} {cl : List vw_C} {ca : Nat → ClassId} {ks : List Nat} {lay : Nat → gxE} {ad : Nat → Nat} {av : List xV} {F : Nat → Nat → Int32} {L : Nat → Nat → Int64} {post : Option xV → (Nat → Nat → Int32) → (Nat → Nat → Int64) → Prop} {cc : ByteArray} {nL : Nat} {ret : Option FieldType} {ls : List (Nat × xV)}
    (hy : plainName y.cls = true) (hw : ws = Cond.code y cc nL ret :: ws') (hls : gxargs 0 av = ls) (hlen : (lg_sl (av.map (gxv (fun _ => 0)))).length ≤ nL)
    (body : ∀ (p : Program) (e : Env) (s : State) (m : MethodId) (args : Array Value) (below : List Frame) (meth : Method) (c : Code) (A : Nat → Prop), GC p s m args meth c cc nL y.cls ws A D cl ca ks ad → meth.sig.returnType = ret → (∀ q, A q → gxA ks ad s.heap.size q) →
      GX p l e rm s m args below meth c (MQ below (gxQ D cl ca ks lay ad s.heap.size post) args s 0 0 (gxA ks ad s.heap.size)) nL A D cl ca ks lay ad 0 0 0 ls [] F L) : Con l y ws rm D cl ca ks lay ad av F L post := by
  intro sz
  refine Met.ofW (cc := cc) (maxL := nL) (ret := ret) hy hw ?_
  intro p e s m args below meth c s₁ B hml hv
  obtain ⟨rfl, hsz, hP, hK, hD0⟩ := hv
  have hts := atoms_spec (ws := ws) B.pre
  have hown : s.vm.findClass y.cls = some m.cls := findClass_of_methodNamed B.named
  subst hsz
  have hX : GC p s m (av.map (gxv ad)).toArray meth c cc nL y.cls ws (gxA ks ad s.heap.size) D cl ca ks ad := ⟨⟨B.exec, B.bytes, hml, hown, hts⟩, hK, hD0.self, fun q h => Or.inr h, B.notSynchronized⟩
  have hlen2 : (lg_sl (av.map (gxv ad))).length ≤ nL := by
    have e : ∀ l : List xV, (lg_sl (l.map (gxv ad))).length = (lg_sl (l.map (gxv (fun _ => 0)))).length := by
      intro l
      induction l with
      | nil => rfl
      | cons v r ih =>
        simp only [lg_sl, List.map_cons, List.flatMap_cons, List.length_append] at ih ⊢
        rw [ih, gxv_cat, gxv_cat]
        cases gxis v <;> rfl
    rw [e]
    exact hlen
  have hl := gxhas_entry (lv_entry (av.map (gxv ad)) (n := nL) hlen2)
  rw [lg_entry_eq]
  rw [hls] at hl
  exact body p e s m _ below meth c (gxA ks ad s.heap.size) hX B.returns (fun _ h => h) s.heap [] _ hl hP va_S.rf
section GXR
variable {p : Program} {l : Launch} {e : Env} {R : Room} {s : State} {m : MethodId} {args : Array Value} {below : List Frame} {meth : Method} {c : Code} {Q : State → Prop} {nL cells slots pc : Nat} {A : Nat → Prop} {D : va_G} {cl : List vw_C} {ca : Nat → ClassId} {ks : List Nat} {lay : Nat → gxE} {ad : Nat → Nat}
variable {ls : List (Nat × xV)} {st : List xV} {F : Nat → Nat → Int32} {L : Nat → Nat → Int64} {cc : ByteArray} {own : String} {Ts : List Cond} {post : Option xV → (Nat → Nat → Int32) → (Nat → Nat → Int64) → Prop}
theorem gx_vret (X : GC p s m args meth c cc nL own Ts A D cl ca ks ad) (hr : meth.sig.returnType = none) (hA : ∀ q, A q → gxA ks ad s.heap.size q) (d : decode cc pc = .ok (.return_, 1)) (hp : post none F L) : GX p l e R s m args below meth c (MQ below (gxQ D cl ca ks lay ad s.heap.size post) args s 0 0 (gxA ks ad s.heap.size)) nL A D cl ca ks lay ad 0 0 pc ls [] F L := fun H locs la hl hP hS =>
  W.vret X.1.1 X.1.2.1 hr (fun t ht hW => ⟨⟨none, F, L, rfl, hp, by rw [ht]; exact hP⟩, by rw [ht]; exact hS.1, fun q h1 h2 => by rw [ht]; exact hS.2.1 q h1 (fun z => h2 (hA q z))⟩) (fun q hq => hA _ (hS.2.2 q hq)) d X.2.2.2.2
theorem gx_iret (X : GC p s m args meth c cc nL own Ts A D cl ca ks ad) {v : Int32} (hr : meth.sig.returnType = some .int) (hA : ∀ q, A q → gxA ks ad s.heap.size q) (d : decode cc pc = .ok (.ireturn, 1)) (hp : post (some (xI v)) F L) : GX p l e R s m args below meth c (MQ below (gxQ D cl ca ks lay ad s.heap.size post) args s 0 0 (gxA ks ad s.heap.size)) nL A D cl ca ks lay ad 0 0 pc ls [xI v] F L := fun H locs la hl hP hS =>
  W.iret X.1.1 X.1.2.1 hr (fun t ht hW => ⟨⟨(some (xI v)), F, L, rfl, hp, by rw [ht]; exact hP⟩, by rw [ht]; exact hS.1, fun q h1 h2 => by rw [ht]; exact hS.2.1 q h1 (fun z => h2 (hA q z))⟩) (fun q hq => hA _ (hS.2.2 q hq)) d X.2.2.2.2
theorem gx_lret (X : GC p s m args meth c cc nL own Ts A D cl ca ks ad) {v : Int64} (hr : meth.sig.returnType = some .long) (hA : ∀ q, A q → gxA ks ad s.heap.size q) (d : decode cc pc = .ok (.lreturn, 1)) (hp : post (some (xL v)) F L) : GX p l e R s m args below meth c (MQ below (gxQ D cl ca ks lay ad s.heap.size post) args s 0 0 (gxA ks ad s.heap.size)) nL A D cl ca ks lay ad 0 0 pc ls [xL v] F L := fun H locs la hl hP hS =>
  W.lret X.1.1 X.1.2.1 hr (fun t ht hW => ⟨⟨(some (xL v)), F, L, rfl, hp, by rw [ht]; exact hP⟩, by rw [ht]; exact hS.1, fun q h1 h2 => by rw [ht]; exact hS.2.1 q h1 (fun z => h2 (hA q z))⟩) (fun q hq => hA _ (hS.2.2 q hq)) d X.2.2.2.2
theorem gx_zret (X : GC p s m args meth c cc nL own Ts A D cl ca ks ad) {v : Int32} {ty : FieldType} (hr : meth.sig.returnType = some ty) (hn : narrow ty (.int v) = .int v) (hA : ∀ q, A q → gxA ks ad s.heap.size q) (d : decode cc pc = .ok (.ireturn, 1)) (hp : post (some (xI v)) F L) : GX p l e R s m args below meth c (MQ below (gxQ D cl ca ks lay ad s.heap.size post) args s 0 0 (gxA ks ad s.heap.size)) nL A D cl ca ks lay ad 0 0 pc ls [xI v] F L := fun H locs la hl hP hS =>
  W.zret X.1.1 X.1.2.1 hr hn (fun t ht hW => ⟨⟨some (xI v), F, L, rfl, hp, by rw [ht]; exact hP⟩, by rw [ht]; exact hS.1, fun q h1 h2 => by rw [ht]; exact hS.2.1 q h1 (fun z => h2 (hA q z))⟩) (fun q hq => hA _ (hS.2.2 q hq)) d X.2.2.2.2
/-- a call that has come back: the world with its new contents, the answer on the stack -/
theorem gx_go (X : GC p s m args meth c cc nL own Ts A D cl ca ks ad) {a : Array Value} {st0 rest : List xV} (hr : ∀ (H : Heap) (locs : List Loc) (la : Array Slot), la.size = nL → va_P D cl (gxw ks lay ca ad F L) H → va_Run p l e R s m args below meth c H locs cells slots 0 0 (F0 m pc la (st0.map (gxv ad))) (rest.map (gxv ad)) (gxQ D cl ca ks lay ad H.size post a) (gxA ks ad H.size))
    (kk : ∀ (r : Option xV) (F' : Nat → Nat → Int32) (L' : Nat → Nat → Int64), post r F' L' → GX p l e R s m args below meth c Q nL A D cl ca ks lay ad cells slots (pc + 3) ls (r.toList ++ rest) F' L') : GX p l e R s m args below meth c Q nL A D cl ca ks lay ad cells slots pc ls st0 F L := by
  intro H locs la hl hP hS T hT Z
  obtain ⟨v, st₀, t, T', L2, h0, Z', hL, e1, e2, ⟨⟨r, F', L', hv, hp, hP'⟩, hz, hk⟩, stp⟩ := hr H locs la hl.1 hP T hT Z
  rw [h0] at hz hk
  have hA1 : ∀ q, gxA ks ad H.size q → A q := by
    intro q hq
    rcases hq with ⟨k, h1, rfl⟩ | h1
    · exact X.2.2.1.2 k h1
    · exact X.2.2.2.1 q (Nat.le_trans hS.1 h1)
  have hv2 : v = r.map (gxv ad) := by cases hv; rfl
  subst hv2
  obtain ⟨t2, a1, b1⟩ := kk r F' L' hp T'.heap (locs ++ L2) la hl (by rw [e1]; exact hP')
    ⟨Nat.le_trans hS.1 (by rw [e1]; exact hz), fun q h1 h2 => by rw [e1, hk q (Nat.lt_of_lt_of_le h1 hS.1) (fun z => h2 (hA1 q z))]; exact hS.2.1 q h1 h2, fun q hq => by
      rcases List.mem_append.mp hq with h | h
      · exact hS.2.2 q h
      · exact hA1 _ (hL q h)⟩ T' rfl Z'
  refine ⟨t2, stp t2 ?_, b1⟩
  have e3 : (r.toList ++ rest).map (gxv ad) = (r.map (gxv ad)).toList ++ rest.map (gxv ad) := by cases r <;> simp
  rw [e3] at a1
  exact a1
theorem gxP_blind {av : List xV} {sz : Nat} : FrameBlind (va_Pc (av.map (gxv ad)) (gxP D cl ca ks lay ad sz F L)) := by
  intro a U g mk ⟨q0, q1, qP, qK, qD⟩
  exact ⟨q0, q1, qP, va_K.moved (u := U) (U := U.calling g mk a) (Vm.Alike.refl U.vm) qK, qD⟩
theorem gxP_at (X : GC p s m args meth c cc nL own Ts A D cl ca ks ad) {av : List xV} {H : Heap} (hP : va_P D cl (gxw ks lay ca ad F L) H) (U : State) (hU : U.heap = H) (hW : s.WarmedH U.vm) : va_Pc (av.map (gxv ad)) (gxP D cl ca ks lay ad H.size F L) (av.map (gxv ad)).toArray U :=
  ⟨rfl, by rw [hU], by rw [hU]; exact hP, va_K.moved hW.alike X.2.1, ⟨X.2.2.1.1, fun _ _ => trivial⟩⟩
theorem gx_cat8 {rest : List xV} {la : Array Slot} {st0 : List Value} (h : (rest.map (fun v => cond (gxis v) 2 1)).sum ≤ 8) : 2 * (F0 m pc la st0).monitorRoom + ((rest.map (gxv ad)).map fun v => v.category).sum ≤ 8 := by
  have e : ((rest.map (gxv ad)).map fun v => v.category) = rest.map (fun v => cond (gxis v) 2 1) := by
    rw [List.map_map]
    apply List.map_congr_left
    intro v _
    exact gxv_cat ad v
  exact lv_room (by rw [e]; exact h)
end GXR
