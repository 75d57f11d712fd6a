/-! rows of rows (own text) -/
def rwL (rw : Nat → Nat) : Nat → Nat → List Nat
  | 0, _ => []
  | d + 1, j => rw j :: rwL rw d (j + 1)
theorem rwL_mem {rw : Nat → Nat} : ∀ {d j a : Nat}, a ∈ rwL rw d j ↔ ∃ i, j ≤ i ∧ i < j + d ∧ a = rw i
  | 0, j, a => ⟨fun h => (by cases h), fun ⟨i, h1, h2, _⟩ => (by omega)⟩
  | d + 1, j, a => by
    rw [rwL, List.mem_cons, rwL_mem]
    constructor
    · rintro (h | ⟨i, h1, h2, h3⟩)
      · exact ⟨j, Nat.le_refl _, by omega, h⟩
      · exact ⟨i, by omega, by omega, h3⟩
    · rintro ⟨i, h1, h2, h3⟩
      by_cases e : i = j
      · subst e; exact Or.inl h3
      · exact Or.inr ⟨i, by omega, by omega, h3⟩
theorem outer_i (cA : ClassId) (N h0 : Nat) : ∀ i, Jvm.Free.Multi.outerC cA N h0 i = arrV cA N (fun j => if j < i then .ref (h0 + 1 + j) else .null)
  | 0 => by
    rw [Jvm.Free.Multi.outerC, arrV_new]
    rfl
  | i + 1 => by
    rw [Jvm.Free.Multi.outerC, outer_i cA N h0 i, arrV_store]
    congr 1
    funext j
    unfold updV
    by_cases h : j = i
    · subst h
      simp
    · by_cases h2 : j < i
      · simp [h, h2, show j < i + 1 by omega]
      · simp [h, h2, show ¬ j < i + 1 by omega]
theorem arrV_congr {cA : ClassId} {N : Nat} {f g : Nat → Value} (h : ∀ j, j < N → f j = g j) : arrV cA N f = arrV cA N g := by
  unfold arrV
  congr 1
  apply Array.ext_getElem?
  intro j
  by_cases hj : j < N
  · simp only [Array.getElem?_ofFn, hj, dif_pos]
    rw [h j hj]
  · rw [Array.getElem?_eq_none (by simp; omega), Array.getElem?_eq_none (by simp; omega)]
theorem outer_arr (cA : ClassId) (N h0 : Nat) : Jvm.Free.Multi.outerC cA N h0 N = arrV cA N (fun j => .ref (h0 + 1 + j)) := by
  rw [outer_i]
  exact arrV_congr (fun j hj => by rw [if_pos hj])
/-- the layout with the rows -/
def lyM (lay : Nat → gxE) (k0 : Nat) (rw : Nat → Nat) (n : Nat) (eo er : gxE) : Nat → gxE := fun a => if a = k0 then eo else if a ∈ rwL rw n 0 then er else lay a
def zFm (F : Nat → Nat → Int32) (rw : Nat → Nat) (n : Nat) : Nat → Nat → Int32 := fun a b => if a ∈ rwL rw n 0 then 0 else F a b
def zLm (L : Nat → Nat → Int64) (rw : Nat → Nat) (n : Nat) : Nat → Nat → Int64 := fun a b => if a ∈ rwL rw n 0 then 0 else L a b
theorem va_Pall {D : va_G} {cl : List vw_C} {ks : List Nat} {lay : Nat → gxE} {ca : Nat → ClassId} {ad : Nat → Nat} {F : Nat → Nat → Int32} {L : Nat → Nat → Int64} {H : Heap} (h : ∀ a ∈ ks, va_at D cl (ad a, gxc ca ad F L a (lay a)) H) : va_P D cl (gxw ks lay ca ad F L) H := fun k q hk => by
  obtain ⟨a, h1, rfl⟩ := gxw_of hk
  exact h a (List.mem_of_getElem? h1)
theorem gxD.rows {A : Nat → Prop} {ks : List Nat} {ad : Nat → Nat} {rw : Nat → Nat} {b : Nat} (h : gxD A ks ad) (hold : ∀ k ∈ ks, ad k < b) (hA : ∀ q, b ≤ q → A q) : ∀ (d j : Nat), (∀ i, j ≤ i → i < j + d → ad (rw i) = b + 1 + i) → gxD A (rwL rw d j ++ ks) ad
  | 0, j, _ => h
  | d + 1, j, hr => by
    have ih := gxD.rows h hold hA d (j + 1) (fun i h1 h2 => hr i (by omega) (by omega))
    have e := hr j (Nat.le_refl _) (by omega)
    refine ih.push (fun k hk => ?_) (hA _ (by omega))
    rcases List.mem_append.mp hk with h1 | h1
    · obtain ⟨i, h2, h3, h4⟩ := rwL_mem.mp h1
      rw [h4, hr i (by omega) (by omega), e]
      omega
    · have := hold k h1
      omega
section GXM
variable {p : Program} {l : Launch} {e : Env} {R : Room} {s : State} {m : MethodId} {args : Array Value} {below : List Frame} {meth : Method} {c : Code} {Q : State → Prop} {nL cells slots pc : Nat} {A : Nat → Prop} {D : va_G} {cl : List vw_C} {ca : Nat → ClassId} {ks : List Nat} {lay : Nat → gxE} {ad : Nat → Nat}
variable {ls : List (Nat × xV)} {st : List xV} {F : Nat → Nat → Int32} {L : Nat → Nat → Int64} {cc : ByteArray} {own : String} {Ts : List Cond}
/-- new rows: the outer array and its rows -/
theorem gx_mna (X : GC p s m args meth c cc nL own Ts A D cl ca ks ad) {index n M τo τ : Nat} {ty : FieldType} {er : gxE} {arr : vp_A} (k0 : Nat) (rw : Nat → Nat) (F' : Nat → Nat → Int32) (L' : Nat → Nat → Int64) (d : decode cc pc = .ok (.multianewarray index 2, 4)) (hclink : (Cond.classLink own index ("[" ++ (FieldType.array ty).toString)).before args s = true) (hover : (Cond.arrayOver (.array ty)).before args s = true) (harr : (Cond.arrayClass ty).before args s = true)
    (hτo : (gxT ca)[τo]? = some (ca τo, .array ty)) (hτ : (gxT ca)[τ]? = some (ca τ, ty)) (hra : va_RA s (ca τo) (.array ty) → s.vm.findClass ("[" ++ (FieldType.array ty).toString) = some (ca τo)) (hra2 : va_RA s (ca τ) ty → s.vm.findClass (FieldType.array ty).toString = some (ca τ))
    (hdf : fits ty (defaultValue ty) = true) (hdd : (defaultValue ty).isDefault = true) (hn : n < 2 ^ 20) (hM : M < 2 ^ 20) (hb2 : M * componentBytes ty ≤ 536870912) (hcells : cells + (1 + n) ≤ R.cells) (hslots : slots + (n + n * M) ≤ R.slots)
    (her : ∀ j, j < n → gxc ca ad F' L' (rw j) er = .inl (ca τ, arr)) (harc : vp_cell (ca τ) arr = arrV (ca τ) M (fun _ => defaultValue ty)) (hF' : ∀ a, a ∉ rwL rw n 0 → F' a = F a) (hL' : ∀ a, a ∉ rwL rw n 0 → L' a = L a)
    (hk0 : k0 ∉ ks) (hk1 : k0 ∉ rwL rw n 0) (hrk : ∀ a ∈ rwL rw n 0, a ∉ ks) (had : ad k0 = s.heap.size + cells) (hadr : ∀ j, j < n → ad (rw j) = s.heap.size + cells + 1 + j) (hlast : cells = 0 ∨ ∃ k ∈ ks, ad k + 1 = s.heap.size + cells)
    (kk : GC p s m args meth c cc nL own Ts A D cl ca (k0 :: (rwL rw n 0 ++ ks)) ad → GX p l e R s m args below meth c Q nL A D cl ca (k0 :: (rwL rw n 0 ++ ks)) (lyM lay k0 rw n (Sum.inr (Sum.inr (Sum.inr (τo, n, rw)))) er) ad (cells + 1 + n) (slots + n + n * M) (pc + 4) ls (xR k0 :: st) F' L') : GX p l e R s m args below meth c Q nL A D cl ca ks lay ad cells slots pc ls (xI (nI M) :: xI (nI n) :: st) F L := by
  intro H locs la hl hP hS T hT Z
  have hsz := gx_exact hP hS hlast Z hT
  have hTz : T.heap.size = s.heap.size + cells := by rw [hT]; exact hsz
  have c1 : (nI n).toNatClampNeg = n := nI_clamp (by omega)
  have c2 : (nI M).toNatClampNeg = M := nI_clamp (by omega)
  have hmul : n * M < 2 ^ 40 := by
    have := Nat.mul_lt_mul_of_lt_of_lt hn hM
    omega
  obtain ⟨vm₁, cA, comp, hW, hfA, hfC, X1, step⟩ := Z.multianewarray2 X.1.1 (own := own) (index := index) (ty := ty) X.1.2.2.2.1 hclink hover harr (g := F0 m pc la ((xI (nI M) :: xI (nI n) :: st).map (gxv ad))) rfl (by rw [X.1.2.1]; exact d) (n := nI n) (k := nI M) (rest := st.map (gxv ad)) rfl (nI_pos (by omega)) (nI_pos (by omega)) (by rw [c1]; omega) (by rw [c2]; exact hb2) (by rw [c2]; omega) hdf hdd (by rw [c1]; exact hcells) (by rw [c1, c2]; exact hslots)
  rw [c1, c2] at X1
  rw [c1, c2] at step
  have ecA : cA = ca τo := Option.some.inj (hfA.symm.trans (hra (X.2.1.2 τo _ hτo).2))
  have ecomp : comp = ca τ := Option.some.inj (hfC.symm.trans (hra2 (X.2.1.2 τ _ hτ).2))
  subst ecA
  subst ecomp
  have hz : (T.setVm vm₁).heap = T.heap := rfl
  obtain ⟨f1, f2, -, -⟩ := Jvm.Free.Multi.fill_facts (T.setVm vm₁) (ca τo) (ca τ) n M (defaultValue ty) n
  have f3 := Jvm.Free.Multi.fill_inner (T.setVm vm₁) (ca τo) (ca τ) n M (defaultValue ty) n
  have f4 : ∀ {a : Addr}, a < (T.setVm vm₁).heap.size → _ := fun {a} ha => Jvm.Free.Multi.fill_old (T.setVm vm₁) (ca τo) (ca τ) n M (defaultValue ty) ha n
  generalize Jvm.Free.Multi.fill (T.setVm vm₁) (ca τo) (ca τ) n M (defaultValue ty) n = T1 at X1 step f1 f2 f3 f4
  rw [hz] at f1 f2 f3
  have f4 : ∀ a : Nat, a < H.size → T1.heap[a]? = H[a]? := fun a ha => by
    have := f4 (a := a) (by rw [hz, hT]; exact ha)
    rw [hz, hT] at this
    exact this
  rw [outer_arr] at f2
  have hold : ∀ k ∈ ks, ad k < s.heap.size + cells := fun k hk => by
    obtain ⟨q, hq⟩ := List.getElem?_of_mem hk
    have h2 : ad k < H.size := (hP q _ (gxw_at (lay := lay) (ca := ca) (ad := ad) (F := F) (L := L) hq)).lt
    omega
  have hAn : ∀ q, s.heap.size + cells ≤ q → A q := fun q hq => X.2.2.2.1 q (by omega)
  have hDr := gxD.rows X.2.2.1 hold hAn n 0 (fun i _ h2 => hadr i (by omega))
  have X2 : GC p s m args meth c cc nL own Ts A D cl ca (k0 :: (rwL rw n 0 ++ ks)) ad := ⟨X.1, X.2.1, hDr.push (fun k hk => by
    rcases List.mem_append.mp hk with h1 | h1
    · obtain ⟨i, h2, h3, h4⟩ := rwL_mem.mp h1
      rw [h4, hadr i (by omega), had]
      omega
    · have := hold k h1
      omega) (hAn _ (by omega)), X.2.2.2⟩
  have hWd : va_P D cl (gxw (k0 :: (rwL rw n 0 ++ ks)) (lyM lay k0 rw n (Sum.inr (Sum.inr (Sum.inr (τo, n, rw)))) er) ca ad F' L') T1.heap := by
    refine va_Pall (fun a ha => ?_)
    unfold lyM
    by_cases ea : a = k0
    · rw [if_pos ea, ea]
      show T1.heap[ad k0]? = some (vp_cell (ca τo) (n, .inr (.inr (.inr (.inr (fun j => some (ad (rw j))))))))
      rw [had, ← hTz, f2, vp_cell_q]
      have e5 : arrV (ca τo) n (fun j => .ref (T.heap.size + 1 + j)) = arrV (ca τo) n (fun j => va_rf (some (ad (rw j)))) := arrV_congr (fun j hj => by rw [hadr j hj, hTz]; rfl)
      rw [e5]
    · rw [if_neg ea]
      by_cases er2 : a ∈ rwL rw n 0
      · rw [if_pos er2]
        obtain ⟨i, -, h3, h4⟩ := rwL_mem.mp er2
        subst h4
        rw [her i (by omega)]
        show T1.heap[ad (rw i)]? = some (vp_cell (ca τ) arr)
        rw [hadr i (by omega), ← hTz, f3 i (by omega), harc]
        unfold Jvm.Free.Multi.innerC
        rw [arrV_new]
      · rw [if_neg er2]
        have hak : a ∈ ks := by
          rcases List.mem_cons.mp ha with h | h
          · exact absurd h ea
          · rcases List.mem_append.mp h with h | h
            · exact absurd h er2
            · exact h
        obtain ⟨q, hq⟩ := List.getElem?_of_mem hak
        have h2 := hP q _ (gxw_at (lay := lay) (ca := ca) (ad := ad) (F := F) (L := L) hq)
        have e6 : gxc ca ad F' L' a (lay a) = gxc ca ad F L a (lay a) := by
          unfold gxc
          rw [hF' a er2, hL' a er2]
        rw [e6]
        exact h2.kept (f4 _ h2.lt)
  have hS1 : va_S A s.heap T1.heap (locs ++ (List.range n).map fun j => ⟨T.heap.size, j⟩) := by
    refine ⟨by rw [f1]; omega, fun q h1 h2 => ?_, fun q hq => ?_⟩
    · rw [f4 q (Nat.lt_of_lt_of_le h1 hS.1)]
      exact hS.2.1 q h1 h2
    · rcases List.mem_append.mp hq with h | h
      · exact hS.2.2 q h
      · obtain ⟨j, -, rfl⟩ := List.mem_map.mp h
        exact hAn _ (by show _ ≤ T.heap.size; omega)
  obtain ⟨t, a1, b1⟩ := kk X2 T1.heap _ la hl hWd hS1 T1 rfl X1
  refine ⟨t, step t ?_, b1⟩
  have e0 : T.heap.size = ad k0 := by omega
  rw [e0]
  exact a1
end GXM
