/-! the cells of the class (0 .. 35, rows from 100, 200, 400 on), of the reference (40 .. 59), the law's own long[] (60); N states (own text) -/
def rT (e : Nat) : Nat := 100 + e
def rO (k : Nat) : Nat := 200 + k
def rK (i : Nat) : Nat := 400 + i
def LX (N : Nat) (k : Nat) : gxE :=
  if k < 100 then (match k with
    | 0 => Sum.inl (0, [some 1, some 2, some 4, some 7, some 8, some 14, some 20, some 30, some 33, none])
    | 1 => Sum.inl (1, [none, none, none])
    | 2 => Sum.inl (2, [some 3, none])
    | 3 => Sum.inr (Sum.inl (2, 24))
    | 4 => Sum.inl (3, [some 1, some 5, some 6, none])
    | 5 => Sum.inr (Sum.inl (2, 24))
    | 6 => Sum.inr (Sum.inl (0, 24))
    | 7 => Sum.inl (4, [some 2, some 4, none])
    | 8 => Sum.inl (5, [some 1, some 9, some 10, some 11, some 12, some 13, none])
    | 9 => Sum.inr (Sum.inl (0, 20))
    | 10 => Sum.inr (Sum.inl (0, 20))
    | 11 => Sum.inr (Sum.inl (0, 20))
    | 12 => Sum.inr (Sum.inl (0, 20))
    | 13 => Sum.inr (Sum.inr (Sum.inr (5, 20, rT)))
    | 14 => Sum.inl (6, [some 1, none, some 15, none, some 16, some 17, some 18, some 19])
    | 15 => Sum.inr (Sum.inl (0, N))
    | 16 => Sum.inr (Sum.inl (0, N))
    | 17 => Sum.inr (Sum.inl (0, N))
    | 18 => Sum.inr (Sum.inl (0, N + 1))
    | 19 => Sum.inr (Sum.inl (0, 4096))
    | 20 => Sum.inl (7, [some 1, some 8, some 14, none, some 21, some 22, some 23, some 24, some 25, some 26, some 27, some 28, none, none, some 29])
    | 27 => Sum.inr (Sum.inl (3, 12 * N))
    | 28 => Sum.inr (Sum.inl (3, N))
    | 30 => Sum.inl (8, [some 1, some 8, some 20, some 31, some 32, none])
    | 31 => Sum.inr (Sum.inr (Sum.inr (6, 200, rO)))
    | 33 => Sum.inl (9, [some 1, some 8, some 14, some 20, some 34, some 35, none])
    | 34 => Sum.inr (Sum.inr (Sum.inr (6, 4, rK)))
    | 35 => Sum.inr (Sum.inr (Sum.inl N))
    | 40 => Sum.inl (10, [none, none, none, none, some 41, none, none, some 42, some 43, some 44, some 45, some 46, none, some 47, some 48, none, none, some 49, some 50, some 51, some 52, none, some 53, none, some 54, some 55, none, some 56, some 57, some 58, some 59])
    | 41 => Sum.inr (Sum.inl (0, 24))
    | 42 => Sum.inr (Sum.inl (0, 20))
    | 43 => Sum.inr (Sum.inl (0, 20))
    | 44 => Sum.inr (Sum.inl (0, 20))
    | 45 => Sum.inr (Sum.inl (0, 20))
    | 46 => Sum.inr (Sum.inr (Sum.inl 480))
    | 47 => Sum.inr (Sum.inr (Sum.inl 96))
    | 48 => Sum.inr (Sum.inl (0, 512))
    | 55 => Sum.inr (Sum.inl (0, 4096))
    | 56 => Sum.inr (Sum.inr (Sum.inl 1608))
    | 57 => Sum.inr (Sum.inl (4, 512))
    | 58 => Sum.inr (Sum.inl (0, 5))
    | 59 => Sum.inr (Sum.inl (0, 5))
    | 60 => Sum.inr (Sum.inr (Sum.inl 1))
    | _ => Sum.inr (Sum.inl (0, 200)))
  else if k < 200 then Sum.inr (Sum.inl (0, N)) else if k < 400 then Sum.inr (Sum.inr (Sum.inl ((N + 63) / 64))) else Sum.inr (Sum.inr (Sum.inl N))
/-- these cells are there, as the layout has them -/
def gH (ks : List Nat) (lay : Nat → gxE) (N : Nat) (S : Nat → Bool) : Prop := ∀ k, S k = true → k ∈ ks ∧ lay k = LX N k
def sX (k : Nat) : Bool := Nat.ble k 35 || (Nat.ble 100 k && Nat.ble k 119) || (Nat.ble 200 k && Nat.ble k 403)
def sG (k : Nat) : Bool := Nat.beq k 1 || (Nat.ble 14 k && Nat.ble k 19)
def sM (k : Nat) : Bool := Nat.ble 40 k && Nat.ble k 59
theorem sG_X : ∀ k, sG k = true → sX k = true := by
  intro k h
  simp [sG, sX] at h ⊢
  omega
theorem gH.mono {ks : List Nat} {lay : Nat → gxE} {N : Nat} {S S2 : Nat → Bool} (h : gH ks lay N S) (hs : ∀ k, S2 k = true → S k = true) : gH ks lay N S2 := fun k hk => h k (hs k hk)
theorem gcw {p : Program} {s : State} {m : MethodId} {args : Array Value} {meth : Method} {c : Code} {cc : ByteArray} {nL : Nat} {own : String} {c0 : Cond} {A : Nat → Prop} {D : va_G} {cl : List vw_C} {ca : Nat → ClassId} {ks : List Nat} {ad : Nat → Nat} (X : GC p s m args meth c cc nL own (c0 :: WT) A D cl ca ks ad) {w : Cond} (h : w ∈ WT) : w.before args s = true := X.1.2.2.2.2 w (List.mem_cons_of_mem _ h)
theorem gci {c0 : Cond} {C : String} {T : u_T} {N : Nat} (h : ∀ w ∈ u_ws C T N, w ∈ WT) : ∀ w ∈ u_ws C T N, w ∈ c0 :: WT := fun w hw => List.mem_cons_of_mem _ (h w hw)
theorem Con.ofK {l : Launch} {y : MethodName} {ws : List Cond} {rm : Room} {D : va_G} {cl : List vw_C} {ca : Nat → ClassId} {ks : List Nat} {lay : Nat → gxE} {ad : Nat → Nat} {av : List xV} {F : Nat → Nat → Int32} {L : Nat → Nat → Int64} {post0 : Option xV → (Nat → Nat → Int32) → (Nat → Nat → Int64) → Prop} (h : ∀ post : Option xV → (Nat → Nat → Int32) → (Nat → Nat → Int64) → Prop, (∀ r F' L', post0 r F' L' → post r F' L') → Con l y ws rm D cl ca ks lay ad av F L post) : Con l y ws rm D cl ca ks lay ad av F L post0 := h post0 (fun _ _ _ h => h)
theorem gx_el {p : Program} {l : Launch} {e : Env} {R : Room} {s : State} {m : MethodId} {args : Array Value} {below : List Frame} {meth : Method} {c : Code} {Q : State → Prop} {nL cells slots pc : Nat} {A : Nat → Prop} {D : va_G} {cl : List vw_C} {ca : Nat → ClassId} {ks : List Nat} {lay : Nat → gxE} {ad : Nat → Nat} {ls l' : List (Nat × xV)} {st : List xV} {F : Nat → Nat → Int32} {L : Nat → Nat → Int64} (k : GX p l e R s m args below meth c Q nL A D cl ca ks lay ad cells slots pc l' st F L) (h : gxle l' ls) : GX p l e R s m args below meth c Q nL A D cl ca ks lay ad cells slots pc ls st F L := gx_le h k
theorem hxT {ks : List Nat} {lay : Nat → gxE} {N : Nat} (HX : gH ks lay N sX) {e : Nat} (he : e < 20) : rT e ∈ ks ∧ lay (rT e) = Sum.inr (Sum.inl (0, N)) := by
  have h := HX (rT e) (by simp [sX, rT]; omega)
  refine ⟨h.1, h.2.trans ?_⟩
  unfold LX rT
  rw [if_neg (by omega), if_pos (by omega)]
theorem hxO {ks : List Nat} {lay : Nat → gxE} {N : Nat} (HX : gH ks lay N sX) {e : Nat} (he : e < 200) : rO e ∈ ks ∧ lay (rO e) = Sum.inr (Sum.inr (Sum.inl ((N + 63) / 64))) := by
  have h := HX (rO e) (by simp [sX, rO]; omega)
  refine ⟨h.1, h.2.trans ?_⟩
  unfold LX rO
  rw [if_neg (by omega), if_neg (by omega), if_pos (by omega)]
theorem hxK {ks : List Nat} {lay : Nat → gxE} {N : Nat} (HX : gH ks lay N sX) {e : Nat} (he : e < 4) : rK e ∈ ks ∧ lay (rK e) = Sum.inr (Sum.inr (Sum.inl N)) := by
  have h := HX (rK e) (by simp [sX, rK]; omega)
  refine ⟨h.1, h.2.trans ?_⟩
  unfold LX rK
  rw [if_neg (by omega), if_neg (by omega), if_neg (by omega)]
