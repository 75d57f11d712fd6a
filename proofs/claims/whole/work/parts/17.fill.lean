section
variable {l : Launch} {D : va_G} {ca : Nat → ClassId} {ks : List Nat} {lay : Nat → gxE} {ad : Nat → Nat} {F : Nat → Nat → Int32} {L : Nat → Nat → Int64} {k n : Nat}
/-- the places from a to b of the cell k hold x -/
def flF (F : Nat → Nat → Int32) (k a b : Nat) (x : Int32) : Nat → Nat → Int32 := fun c j => if c = k ∧ a ≤ j ∧ j < b then x else F c j
def flL (L : Nat → Nat → Int64) (k a b : Nat) (x : Int64) : Nat → Nat → Int64 := fun c j => if c = k ∧ a ≤ j ∧ j < b then x else L c j
theorem flF_0 (F : Nat → Nat → Int32) (k a : Nat) (x : Int32) : flF F k a a x = F := by
  funext c j
  unfold flF
  rw [if_neg (by omega)]
theorem flL_0 (L : Nat → Nat → Int64) (k a : Nat) (x : Int64) : flL L k a a x = L := by
  funext c j
  unfold flL
  rw [if_neg (by omega)]
theorem flF_s (F : Nat → Nat → Int32) {k a b : Nat} (x : Int32) (h : a ≤ b) : gxu (flF F k a b x) k b x = flF F k a (b + 1) x := by
  funext c j
  unfold gxu flF
  by_cases e1 : c = k
  · by_cases e2 : j = b
    · rw [if_pos ⟨e1, e2⟩, if_pos ⟨e1, by omega, by omega⟩]
    · rw [if_neg (fun z => e2 z.2)]
      by_cases e3 : a ≤ j ∧ j < b
      · rw [if_pos ⟨e1, e3⟩, if_pos ⟨e1, e3.1, by omega⟩]
      · rw [if_neg (fun z => e3 z.2), if_neg (fun z => e3 ⟨z.2.1, by omega⟩)]
  · rw [if_neg (fun z => e1 z.1), if_neg (fun z => e1 z.1), if_neg (fun z => e1 z.1)]
theorem flL_s (L : Nat → Nat → Int64) {k a b : Nat} (x : Int64) (h : a ≤ b) : gxU (flL L k a b x) k b x = flL L k a (b + 1) x := by
  funext c j
  unfold gxU flL
  by_cases e1 : c = k
  · by_cases e2 : j = b
    · rw [if_pos ⟨e1, e2⟩, if_pos ⟨e1, by omega, by omega⟩]
    · rw [if_neg (fun z => e2 z.2)]
      by_cases e3 : a ≤ j ∧ j < b
      · rw [if_pos ⟨e1, e3⟩, if_pos ⟨e1, e3.1, by omega⟩]
      · rw [if_neg (fun z => e3 z.2), if_neg (fun z => e3 ⟨z.2.1, by omega⟩)]
  · rw [if_neg (fun z => e1 z.1), if_neg (fun z => e1 z.1), if_neg (fun z => e1 z.1)]
theorem flF_cell {F : Nat → Nat → Int32} {k a b c : Nat} {x : Int32} (h : c ≠ k) : flF F k a b x c = F c := by
  funext j
  unfold flF
  rw [if_neg (fun z => h z.1)]
theorem flF_in {F : Nat → Nat → Int32} {k a b j : Nat} {x : Int32} (h : a ≤ j) (h2 : j < b) : flF F k a b x k j = x := by
  unfold flF
  rw [if_pos ⟨rfl, h, h2⟩]
theorem flF_out {F : Nat → Nat → Int32} {k a b c j : Nat} {x : Int32} (h : ¬ (c = k ∧ a ≤ j ∧ j < b)) : flF F k a b x c j = F c j := by
  unfold flF
  rw [if_neg h]
theorem flL_cell {L : Nat → Nat → Int64} {k a b c : Nat} {x : Int64} (h : c ≠ k) : flL L k a b x c = L c := by
  funext j
  unfold flL
  rw [if_neg (fun z => h z.1)]
theorem flL_in {L : Nat → Nat → Int64} {k a b j : Nat} {x : Int64} (h : a ≤ j) (h2 : j < b) : flL L k a b x k j = x := by
  unfold flL
  rw [if_pos ⟨rfl, h, h2⟩]
theorem c_fill_I (hk : k ∈ ks) (hlay : lay k = Sum.inr (Sum.inl (0, n))) (hn : n < 2 ^ 31) (x : Int32) : Con l y_Ar_fill_aII (Cond.code y_Ar_fill_aII b_Ar_fill_aII 4 none :: WT) rm_Ar_fill_aII D vcl ca ks lay ad [xR k, xI x] F L (fun r F' L' => r = none ∧ F' = flF F k 0 n x ∧ L' = L) := by
  refine Con.ofK (fun post K => ?_)
  refine Con.of (ls := [(0, xR k), (1, xI x)]) (by decide) rfl rfl (Nat.le_of_ble_eq_true rfl) ?_
  intro p e s m args below meth c A X hr hA
  refine gx_iconst X d_Ar_fill_aII_0 (v := nI 0) (by decide) ?_
  refine gx_istore_n X d_Ar_fill_aII_1 rfl (by decide) ?_
  refine gx_aload_n X d_Ar_fill_aII_2 rfl rfl ?_
  refine gx_alen X d_Ar_fill_aII_3 hk (τ := 0) (ty := .int) (by rw [hlay]; rfl) rfl rfl (v := nI n) rfl ?_
  refine gx_istore_n X d_Ar_fill_aII_4 rfl (by decide) ?_
  have loop : ∀ (d i : Nat), i + d = n → GX p l e rm_Ar_fill_aII s m args below meth c (MQ below (gxQ D vcl ca ks lay ad s.heap.size post) args s 0 0 (gxA ks ad s.heap.size)) 4 A D vcl ca ks lay ad 0 0 5 [(3, xI (nI n)), (2, xI (nI i)), (0, xR k), (1, xI x)] [] (flF F k 0 i x) L := by
    intro d
    induction d with
    | zero =>
      intro i hi
      refine gx_iload_n X d_Ar_fill_aII_5 rfl rfl ?_
      refine gx_iload_n X d_Ar_fill_aII_6 rfl rfl ?_
      refine gx_icmp_ge X d_Ar_fill_aII_7 (tgt := 20) (by decide) (fun h7 => ?_) (fun h7 => ?_)
      · refine gx_vret X hr hA d_Ar_fill_aII_20 (K _ _ _ ⟨rfl, by rw [show i = n by omega], rfl⟩)
      · exact absurd ((nI_leI (by omega) (by omega)).mpr (by omega)) h7
    | succ d ih =>
      intro i hi
      refine gx_iload_n X d_Ar_fill_aII_5 rfl rfl ?_
      refine gx_iload_n X d_Ar_fill_aII_6 rfl rfl ?_
      refine gx_icmp_ge X d_Ar_fill_aII_7 (tgt := 20) (by decide) (fun h7 => ?_) (fun h7 => ?_)
      · exact absurd ((nI_leI (by omega) (by omega)).mp h7) (by omega)
      · refine gx_aload_n X d_Ar_fill_aII_10 rfl rfl ?_
        refine gx_iload_n X d_Ar_fill_aII_11 rfl rfl ?_
        refine gx_iload_n X d_Ar_fill_aII_12 rfl rfl ?_
        refine gx_iast X d_Ar_fill_aII_13 hk hlay rfl (by omega) hn ?_
        refine gx_iinc X d_Ar_fill_aII_14 rfl (pu_inc _) ?_
        refine gx_goto X d_Ar_fill_aII_17 (tgt := 5) (by decide) ?_
        rw [flF_s F x (Nat.zero_le _)]
        exact gx_el (ih (i + 1) (by omega)) ⟨rfl, rfl, rfl, rfl, trivial⟩
  have h := loop n 0 (by omega)
  rw [flF_0] at h
  exact gx_el h ⟨rfl, rfl, rfl, rfl, trivial⟩
theorem c_fill_B (hk : k ∈ ks) (hlay : lay k = Sum.inr (Sum.inl (3, n))) (hn : n < 2 ^ 31) : Con l y_Ar_fill_aBB (Cond.code y_Ar_fill_aBB b_Ar_fill_aBB 4 none :: WT) rm_Ar_fill_aBB D vcl ca ks lay ad [xR k, xI (nI 0)] F L (fun r F' L' => r = none ∧ F' = flF F k 0 n (nI 0) ∧ L' = L) := by
  refine Con.ofK (fun post K => ?_)
  refine Con.of (ls := [(0, xR k), (1, xI (nI 0))]) (by decide) rfl rfl (Nat.le_of_ble_eq_true rfl) ?_
  intro p e s m args below meth c A X hr hA
  refine gx_iconst X d_Ar_fill_aBB_0 (v := nI 0) (by decide) ?_
  refine gx_istore_n X d_Ar_fill_aBB_1 rfl (by decide) ?_
  refine gx_aload_n X d_Ar_fill_aBB_2 rfl rfl ?_
  refine gx_alen X d_Ar_fill_aBB_3 hk (τ := 3) (ty := .byte) (by rw [hlay]; rfl) rfl rfl (v := nI n) rfl ?_
  refine gx_istore_n X d_Ar_fill_aBB_4 rfl (by decide) ?_
  have loop : ∀ (d i : Nat), i + d = n → GX p l e rm_Ar_fill_aBB s m args below meth c (MQ below (gxQ D vcl ca ks lay ad s.heap.size post) args s 0 0 (gxA ks ad s.heap.size)) 4 A D vcl ca ks lay ad 0 0 5 [(3, xI (nI n)), (2, xI (nI i)), (0, xR k), (1, xI (nI 0))] [] (flF F k 0 i (nI 0)) L := by
    intro d
    induction d with
    | zero =>
      intro i hi
      refine gx_iload_n X d_Ar_fill_aBB_5 rfl rfl ?_
      refine gx_iload_n X d_Ar_fill_aBB_6 rfl rfl ?_
      refine gx_icmp_ge X d_Ar_fill_aBB_7 (tgt := 20) (by decide) (fun h7 => ?_) (fun h7 => ?_)
      · refine gx_vret X hr hA d_Ar_fill_aBB_20 (K _ _ _ ⟨rfl, by rw [show i = n by omega], rfl⟩)
      · exact absurd ((nI_leI (by omega) (by omega)).mpr (by omega)) h7
    | succ d ih =>
      intro i hi
      refine gx_iload_n X d_Ar_fill_aBB_5 rfl rfl ?_
      refine gx_iload_n X d_Ar_fill_aBB_6 rfl rfl ?_
      refine gx_icmp_ge X d_Ar_fill_aBB_7 (tgt := 20) (by decide) (fun h7 => ?_) (fun h7 => ?_)
      · exact absurd ((nI_leI (by omega) (by omega)).mp h7) (by omega)
      · refine gx_aload_n X d_Ar_fill_aBB_10 rfl rfl ?_
        refine gx_iload_n X d_Ar_fill_aBB_11 rfl rfl ?_
        refine gx_iload_n X d_Ar_fill_aBB_12 rfl rfl ?_
        refine gx_bast X d_Ar_fill_aBB_13 hk hlay rfl (by omega) hn (v := nI 0) (by decide) ?_
        refine gx_iinc X d_Ar_fill_aBB_14 rfl (pu_inc _) ?_
        refine gx_goto X d_Ar_fill_aBB_17 (tgt := 5) (by decide) ?_
        rw [flF_s F (nI 0) (Nat.zero_le _)]
        exact gx_el (ih (i + 1) (by omega)) ⟨rfl, rfl, rfl, rfl, trivial⟩
  have h := loop n 0 (by omega)
  rw [flF_0] at h
  exact gx_el h ⟨rfl, rfl, rfl, rfl, trivial⟩
theorem c_fill_J (hk : k ∈ ks) (hlay : lay k = Sum.inr (Sum.inr (Sum.inl n))) (hn : n < 2 ^ 31) (x : Int64) : Con l y_Ar_fill_aJJ (Cond.code y_Ar_fill_aJJ b_Ar_fill_aJJ 5 none :: WT) rm_Ar_fill_aJJ D vcl ca ks lay ad [xR k, xL x] F L (fun r F' L' => r = none ∧ F' = F ∧ L' = flL L k 0 n x) := by
  refine Con.ofK (fun post K => ?_)
  refine Con.of (ls := [(0, xR k), (1, xL x)]) (by decide) rfl rfl (Nat.le_of_ble_eq_true rfl) ?_
  intro p e s m args below meth c A X hr hA
  refine gx_iconst X d_Ar_fill_aJJ_0 (v := nI 0) (by decide) ?_
  refine gx_istore_n X d_Ar_fill_aJJ_1 rfl (by decide) ?_
  refine gx_aload_n X d_Ar_fill_aJJ_2 rfl rfl ?_
  refine gx_alen X d_Ar_fill_aJJ_3 hk (τ := 1) (ty := .long) (by rw [hlay]; rfl) rfl rfl (v := nI n) rfl ?_
  refine gx_istore X d_Ar_fill_aJJ_4 (by decide) ?_
  have loop : ∀ (d i : Nat), i + d = n → GX p l e rm_Ar_fill_aJJ s m args below meth c (MQ below (gxQ D vcl ca ks lay ad s.heap.size post) args s 0 0 (gxA ks ad s.heap.size)) 5 A D vcl ca ks lay ad 0 0 6 [(4, xI (nI n)), (3, xI (nI i)), (0, xR k), (1, xL x)] [] F (flL L k 0 i x) := by
    intro d
    induction d with
    | zero =>
      intro i hi
      refine gx_iload_n X d_Ar_fill_aJJ_6 rfl rfl ?_
      refine gx_iload X d_Ar_fill_aJJ_7 rfl ?_
      refine gx_icmp_ge X d_Ar_fill_aJJ_9 (tgt := 22) (by decide) (fun h9 => ?_) (fun h9 => ?_)
      · refine gx_vret X hr hA d_Ar_fill_aJJ_22 (K _ _ _ ⟨rfl, rfl, by rw [show i = n by omega]⟩)
      · exact absurd ((nI_leI (by omega) (by omega)).mpr (by omega)) h9
    | succ d ih =>
      intro i hi
      refine gx_iload_n X d_Ar_fill_aJJ_6 rfl rfl ?_
      refine gx_iload X d_Ar_fill_aJJ_7 rfl ?_
      refine gx_icmp_ge X d_Ar_fill_aJJ_9 (tgt := 22) (by decide) (fun h9 => ?_) (fun h9 => ?_)
      · exact absurd ((nI_leI (by omega) (by omega)).mp h9) (by omega)
      · refine gx_aload_n X d_Ar_fill_aJJ_12 rfl rfl ?_
        refine gx_iload_n X d_Ar_fill_aJJ_13 rfl rfl ?_
        refine gx_lload_n X d_Ar_fill_aJJ_14 rfl rfl ?_
        refine gx_last X d_Ar_fill_aJJ_15 hk hlay rfl (by omega) hn ?_
        refine gx_iinc X d_Ar_fill_aJJ_16 rfl (pu_inc _) ?_
        refine gx_goto X d_Ar_fill_aJJ_19 (tgt := 6) (by decide) ?_
        rw [flL_s L x (Nat.zero_le _)]
        exact gx_el (ih (i + 1) (by omega)) ⟨rfl, rfl, rfl, rfl, trivial⟩
  have h := loop n 0 (by omega)
  rw [flL_0] at h
  exact gx_el h ⟨rfl, rfl, rfl, rfl, trivial⟩
theorem c_rangeCheck {a b : Nat} (hab : a ≤ b) (hb : b ≤ n) (hn : n < 2 ^ 31) : Con l y_Ar_rangeCheck (Cond.code y_Ar_rangeCheck b_Ar_rangeCheck 3 none :: WT) rm_Ar_rangeCheck D vcl ca ks lay ad [xI (nI n), xI (nI a), xI (nI b)] F L (fun r F' L' => r = none ∧ F' = F ∧ L' = L) := by
  refine Con.ofK (fun post K => ?_)
  refine Con.of (ls := [(0, xI (nI n)), (1, xI (nI a)), (2, xI (nI b))]) (by decide) rfl rfl (Nat.le_of_ble_eq_true rfl) ?_
  intro p e s m args below meth c A X hr hA
  refine gx_iload_n X d_Ar_rangeCheck_0 rfl rfl ?_
  refine gx_iload_n X d_Ar_rangeCheck_1 rfl rfl ?_
  refine gx_icmp_le X d_Ar_rangeCheck_2 (tgt := 46) (by decide) (fun h2 => ?_) (fun h2 => ?_)
  · refine gx_iload_n X d_Ar_rangeCheck_46 rfl rfl ?_
    refine gx_if_ge X d_Ar_rangeCheck_47 (tgt := 59) (by decide) (fun h47 => ?_) (fun h47 => ?_)
    · refine gx_iload_n X d_Ar_rangeCheck_59 rfl rfl ?_
      refine gx_iload_n X d_Ar_rangeCheck_60 rfl rfl ?_
      refine gx_icmp_le X d_Ar_rangeCheck_61 (tgt := 73) (by decide) (fun h61 => ?_) (fun h61 => ?_)
      · refine gx_vret X hr hA d_Ar_rangeCheck_73 (K _ _ _ ⟨rfl, rfl, rfl⟩)
      · exact absurd ((nI_leI (by omega) (by omega)).mpr hb) h61
    · exact absurd (nI_pos' (by omega)) h47
  · exact absurd ((nI_leI (by omega) (by omega)).mpr hab) h2
theorem c_fill_IR (hk : k ∈ ks) (hlay : lay k = Sum.inr (Sum.inl (0, n))) (hn : n < 2 ^ 31) {a b : Nat} (hab : a ≤ b) (hb : b ≤ n) (x : Int32) : Con l y_Ar_fill_aIIII (Cond.code y_Ar_fill_aIIII b_Ar_fill_aIIII 5 none :: WT) rm_Ar_fill_aIIII D vcl ca ks lay ad [xR k, xI (nI a), xI (nI b), xI x] F L (fun r F' L' => r = none ∧ F' = flF F k a b x ∧ L' = L) := by
  refine Con.ofK (fun post K => ?_)
  refine Con.of (ls := [(0, xR k), (1, xI (nI a)), (2, xI (nI b)), (3, xI x)]) (by decide) rfl rfl (Nat.le_of_ble_eq_true rfl) ?_
  intro p e s m args below meth c A X hr hA
  refine gx_aload_n X d_Ar_fill_aIIII_0 rfl rfl ?_
  refine gx_alen X d_Ar_fill_aIIII_1 hk (τ := 0) (ty := .int) (by rw [hlay]; rfl) rfl rfl (v := nI n) rfl ?_
  refine gx_iload_n X d_Ar_fill_aIIII_2 rfl rfl ?_
  refine gx_iload_n X d_Ar_fill_aIIII_3 rfl rfl ?_
  refine gx_callS X d_Ar_fill_aIIII_4 mf_Ar_rangeCheck lk_Ar_13 (c_rangeCheck hab hb hn) rfl rfl (Nat.le_of_ble_eq_true rfl) ⟨by decide, by decide⟩ ⟨rfl, rfl⟩ ⟨Nat.zero_le _, Nat.zero_le _⟩ (fun r4 F4 L4 hp4 => ?_)
  obtain ⟨rfl, rfl, rfl⟩ := hp4
  refine gx_iload_n X d_Ar_fill_aIIII_7 rfl rfl ?_
  refine gx_istore X d_Ar_fill_aIIII_8 (by decide) ?_
  have loop : ∀ (d i : Nat), a ≤ i → i + d = b → GX p l e rm_Ar_fill_aIIII s m args below meth c (MQ below (gxQ D vcl ca ks lay ad s.heap.size post) args s 0 0 (gxA ks ad s.heap.size)) 5 A D vcl ca ks lay ad 0 0 10 [(4, xI (nI i)), (0, xR k), (1, xI (nI a)), (2, xI (nI b)), (3, xI x)] [] (flF F4 k a i x) L4 := by
    intro d
    induction d with
    | zero =>
      intro i ha hi
      refine gx_iload X d_Ar_fill_aIIII_10 rfl ?_
      refine gx_iload_n X d_Ar_fill_aIIII_12 rfl rfl ?_
      refine gx_icmp_ge X d_Ar_fill_aIIII_13 (tgt := 27) (by decide) (fun h13 => ?_) (fun h13 => ?_)
      · refine gx_vret X hr hA d_Ar_fill_aIIII_27 (K _ _ _ ⟨rfl, by rw [show i = b by omega], rfl⟩)
      · exact absurd ((nI_leI (by omega) (by omega)).mpr (by omega)) h13
    | succ d ih =>
      intro i ha hi
      refine gx_iload X d_Ar_fill_aIIII_10 rfl ?_
      refine gx_iload_n X d_Ar_fill_aIIII_12 rfl rfl ?_
      refine gx_icmp_ge X d_Ar_fill_aIIII_13 (tgt := 27) (by decide) (fun h13 => ?_) (fun h13 => ?_)
      · exact absurd ((nI_leI (by omega) (by omega)).mp h13) (by omega)
      · refine gx_aload_n X d_Ar_fill_aIIII_16 rfl rfl ?_
        refine gx_iload X d_Ar_fill_aIIII_17 rfl ?_
        refine gx_iload_n X d_Ar_fill_aIIII_19 rfl rfl ?_
        refine gx_iast X d_Ar_fill_aIIII_20 hk hlay rfl (by omega) hn ?_
        refine gx_iinc X d_Ar_fill_aIIII_21 rfl (pu_inc _) ?_
        refine gx_goto X d_Ar_fill_aIIII_24 (tgt := 10) (by decide) ?_
        rw [flF_s F4 x ha]
        exact gx_el (ih (i + 1) (by omega) (by omega)) ⟨rfl, rfl, rfl, rfl, rfl, trivial⟩
  have h := loop (b - a) a (by omega) (by omega)
  rw [flF_0] at h
  exact gx_el h ⟨rfl, rfl, rfl, rfl, rfl, trivial⟩
theorem c_fill_BR (hk : k ∈ ks) (hlay : lay k = Sum.inr (Sum.inl (3, n))) (hn : n < 2 ^ 31) {a b : Nat} (hab : a ≤ b) (hb : b ≤ n) : Con l y_Ar_fill_aBIIB (Cond.code y_Ar_fill_aBIIB b_Ar_fill_aBIIB 5 none :: WT) rm_Ar_fill_aBIIB D vcl ca ks lay ad [xR k, xI (nI a), xI (nI b), xI (nI 0)] F L (fun r F' L' => r = none ∧ F' = flF F k a b (nI 0) ∧ L' = L) := by
  refine Con.ofK (fun post K => ?_)
  refine Con.of (ls := [(0, xR k), (1, xI (nI a)), (2, xI (nI b)), (3, xI (nI 0))]) (by decide) rfl rfl (Nat.le_of_ble_eq_true rfl) ?_
  intro p e s m args below meth c A X hr hA
  refine gx_aload_n X d_Ar_fill_aBIIB_0 rfl rfl ?_
  refine gx_alen X d_Ar_fill_aBIIB_1 hk (τ := 3) (ty := .byte) (by rw [hlay]; rfl) rfl rfl (v := nI n) rfl ?_
  refine gx_iload_n X d_Ar_fill_aBIIB_2 rfl rfl ?_
  refine gx_iload_n X d_Ar_fill_aBIIB_3 rfl rfl ?_
  refine gx_callS X d_Ar_fill_aBIIB_4 mf_Ar_rangeCheck lk_Ar_13 (c_rangeCheck hab hb hn) rfl rfl (Nat.le_of_ble_eq_true rfl) ⟨by decide, by decide⟩ ⟨rfl, rfl⟩ ⟨Nat.zero_le _, Nat.zero_le _⟩ (fun r4 F4 L4 hp4 => ?_)
  obtain ⟨rfl, rfl, rfl⟩ := hp4
  refine gx_iload_n X d_Ar_fill_aBIIB_7 rfl rfl ?_
  refine gx_istore X d_Ar_fill_aBIIB_8 (by decide) ?_
  have loop : ∀ (d i : Nat), a ≤ i → i + d = b → GX p l e rm_Ar_fill_aBIIB s m args below meth c (MQ below (gxQ D vcl ca ks lay ad s.heap.size post) args s 0 0 (gxA ks ad s.heap.size)) 5 A D vcl ca ks lay ad 0 0 10 [(4, xI (nI i)), (0, xR k), (1, xI (nI a)), (2, xI (nI b)), (3, xI (nI 0))] [] (flF F4 k a i (nI 0)) L4 := by
    intro d
    induction d with
    | zero =>
      intro i ha hi
      refine gx_iload X d_Ar_fill_aBIIB_10 rfl ?_
      refine gx_iload_n X d_Ar_fill_aBIIB_12 rfl rfl ?_
      refine gx_icmp_ge X d_Ar_fill_aBIIB_13 (tgt := 27) (by decide) (fun h13 => ?_) (fun h13 => ?_)
      · refine gx_vret X hr hA d_Ar_fill_aBIIB_27 (K _ _ _ ⟨rfl, by rw [show i = b by omega], rfl⟩)
      · exact absurd ((nI_leI (by omega) (by omega)).mpr (by omega)) h13
    | succ d ih =>
      intro i ha hi
      refine gx_iload X d_Ar_fill_aBIIB_10 rfl ?_
      refine gx_iload_n X d_Ar_fill_aBIIB_12 rfl rfl ?_
      refine gx_icmp_ge X d_Ar_fill_aBIIB_13 (tgt := 27) (by decide) (fun h13 => ?_) (fun h13 => ?_)
      · exact absurd ((nI_leI (by omega) (by omega)).mp h13) (by omega)
      · refine gx_aload_n X d_Ar_fill_aBIIB_16 rfl rfl ?_
        refine gx_iload X d_Ar_fill_aBIIB_17 rfl ?_
        refine gx_iload_n X d_Ar_fill_aBIIB_19 rfl rfl ?_
        refine gx_bast X d_Ar_fill_aBIIB_20 hk hlay rfl (by omega) hn (v := nI 0) (by decide) ?_
        refine gx_iinc X d_Ar_fill_aBIIB_21 rfl (pu_inc _) ?_
        refine gx_goto X d_Ar_fill_aBIIB_24 (tgt := 10) (by decide) ?_
        rw [flF_s F4 (nI 0) ha]
        exact gx_el (ih (i + 1) (by omega) (by omega)) ⟨rfl, rfl, rfl, rfl, rfl, trivial⟩
  have h := loop (b - a) a (by omega) (by omega)
  rw [flF_0] at h
  exact gx_el h ⟨rfl, rfl, rfl, rfl, rfl, trivial⟩
end
