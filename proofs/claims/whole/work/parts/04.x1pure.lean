/-! pure rows: small numbers, states of three variables, bits of longs (own text) -/
theorem pu_inc (a : Nat) : nI a + Int32.ofInt 1 = nI (a + 1) := (nI_succ a).symm
theorem pu_dec (a : Nat) : nI (a + 1) + Int32.ofInt (-1) = nI a := pk_m1 a
/-- the digit v of the state s (w bits each), and the state with the digit v put to x -/
def dg (w s v : Nat) : Nat := s / 2 ^ (v * w) % 2 ^ w
def wr (w s v x : Nat) : Nat := s - dg w s v * 2 ^ (v * w) + x % 2 ^ w * 2 ^ (v * w)
def rdI (m sh st : Int32) : Int32 := (st >>> (sh &&& 31)) &&& m
def wrI (m sh st v : Int32) : Int32 := (st &&& ((m <<< (sh &&& 31)) ^^^ (-1))) ||| ((v &&& m) <<< (sh &&& 31))
set_option maxRecDepth 100000 in
theorem wrI_dec : ∀ w, w < 4 → ∀ v, v < 3 → ∀ x, x < 8 → ∀ s, s < 512 → wrI (nI (2 ^ w - 1)) (nI v * nI w) (nI s) (nI x) = nI (wr w s v x) := by decide +kernel
set_option maxRecDepth 100000 in
theorem rdI_dec : ∀ w, w < 4 → ∀ v, v < 3 → ∀ s, s < 512 → rdI (nI (2 ^ w - 1)) (nI v * nI w) (nI s) = nI (dg w s v) := by decide +kernel
set_option maxRecDepth 100000 in
theorem wr_lt : ∀ w, w < 4 → ∀ v, v < 3 → ∀ x, x < 8 → ∀ s, s < 2 ^ (3 * w) → wr w s v x < 2 ^ (3 * w) := by decide +kernel
set_option maxRecDepth 100000 in
theorem wr_wr : ∀ w, w < 4 → ∀ v, v < 3 → ∀ x, x < 8 → ∀ s, s < 2 ^ (3 * w) → wr w (wr w s v 0) v x = wr w s v x := by decide +kernel
theorem pu_mask : ∀ w, w < 4 → (nI (2 ^ w - 1)).toBitVec.toNat = 2 ^ w - 1 := by decide +kernel
theorem wr_mod (w s v x : Nat) : wr w s v (x % 2 ^ w) = wr w s v x := by unfold wr; rw [Nat.mod_mod]
theorem pu_p8 : ∀ w, w < 4 → 2 ^ w ≤ 8 := by decide
theorem wrI_eq {w v s : Nat} (hw : w < 4) (hv : v < 3) (hs : s < 512) (z : Int32) : wrI (nI (2 ^ w - 1)) (nI v * nI w) (nI s) z = nI (wr w s v z.toBitVec.toNat) := by
  have h1 : z &&& nI (2 ^ w - 1) = nI (z.toBitVec.toNat % 2 ^ w) := pk_and z w (pu_mask w hw)
  have hx : z.toBitVec.toNat % 2 ^ w < 2 ^ w := Nat.mod_lt _ (Nat.two_pow_pos w)
  have h8 : z.toBitVec.toNat % 2 ^ w < 8 := Nat.lt_of_lt_of_le hx (pu_p8 w hw)
  have h2 : nI (z.toBitVec.toNat % 2 ^ w) &&& nI (2 ^ w - 1) = nI (z.toBitVec.toNat % 2 ^ w) := by
    rw [pk_andN (Nat.lt_trans h8 (by decide)) w (pu_mask w hw), Nat.mod_mod]
  have h3 := wrI_dec w hw v hv _ h8 s hs
  rw [wr_mod] at h3
  rw [← h3]
  unfold wrI
  rw [h1, h2]
theorem wrI_nat {w v s x : Nat} (hw : w < 4) (hv : v < 3) (hs : s < 512) (hx : x < 2 ^ 32) : wrI (nI (2 ^ w - 1)) (nI v * nI w) (nI s) (nI x) = nI (wr w s v x) := by
  rw [wrI_eq hw hv hs, pk_tn hx]
theorem pu_N : ∀ w, w < 4 → 2 ^ (3 * w) ≤ 512 := by decide
theorem wr_lt' {w v s x : Nat} (hw : w < 4) (hv : v < 3) (hs : s < 2 ^ (3 * w)) : wr w s v x < 2 ^ (3 * w) := by
  rw [← wr_mod]
  exact wr_lt w hw v hv _ (Nat.lt_of_lt_of_le (Nat.mod_lt _ (Nat.two_pow_pos w)) (pu_p8 w hw)) s hs
theorem wr_wr' {w v s x : Nat} (hw : w < 4) (hv : v < 3) (hs : s < 2 ^ (3 * w)) : wr w (wr w s v 0) v x = wr w s v x := by
  rw [← wr_mod w (wr w s v 0), ← wr_mod w s v x]
  exact wr_wr w hw v hv _ (Nat.lt_of_lt_of_le (Nat.mod_lt _ (Nat.two_pow_pos w)) (pu_p8 w hw)) s hs
/-! bits of a long -/
def tb (x : Int64) (i : Nat) : Bool := x.toBitVec.getLsbD i
theorem tb_ext {x y : Int64} (h : ∀ i, i < 64 → tb x i = tb y i) : x = y := Int64.toBitVec_inj.mp (BitVec.eq_of_getLsbD_eq h)
theorem tb_or (x y : Int64) (i : Nat) : tb (x ||| y) i = (tb x i || tb y i) := by
  unfold tb; rw [Int64.toBitVec_or, BitVec.getLsbD_or]
theorem tb_and (x y : Int64) (i : Nat) : tb (x &&& y) i = (tb x i && tb y i) := by
  unfold tb; rw [Int64.toBitVec_and, BitVec.getLsbD_and]
theorem tb_xor (x y : Int64) (i : Nat) : tb (x ^^^ y) i = (tb x i ^^ tb y i) := by
  unfold tb; rw [Int64.toBitVec_xor, BitVec.getLsbD_xor]
theorem tb_big {x : Int64} {i : Nat} (h : 64 ≤ i) : tb x i = false := BitVec.getLsbD_of_ge _ _ h
theorem tb_0 (i : Nat) : tb 0 i = false := by
  unfold tb
  show (0#64).getLsbD i = false
  simp
theorem tb_m1 : ∀ i, i < 64 → tb (-1) i = true := by decide +kernel
set_option maxRecDepth 100000 in
theorem tb_one_dec : ∀ i, i < 64 → ∀ j, j < 64 → tb ((1 : Int64) <<< ((nI i).toInt64 &&& 63)) j = decide (j = i) := by decide +kernel
theorem tb_one {i : Nat} (hi : i < 64) (j : Nat) : tb ((1 : Int64) <<< ((nI i).toInt64 &&& 63)) j = decide (j = i) := by
  by_cases hj : j < 64
  · exact tb_one_dec i hi j hj
  · rw [tb_big (by omega)]
    have : ¬ j = i := by omega
    simp [this]
theorem tb_not (x : Int64) {i : Nat} (hi : i < 64) : tb (x ^^^ (-1)) i = !(tb x i) := by
  rw [tb_xor, tb_m1 i hi]
  cases tb x i <;> rfl
theorem pu_cu : ∀ k, k < 64 → ((nI k).toInt64.toUInt64 &&& Int64.toUInt64 63).toNat = k := by decide +kernel
theorem pu_cs : ∀ k, k < 64 → ((nI k).toInt64 &&& 63).toBitVec.smod 64 = BitVec.ofNat 64 k := by decide +kernel
theorem tb_ushr (x : Int64) {i : Nat} (hi : i < 64) (j : Nat) : tb ((x.toUInt64 >>> ((nI i).toInt64.toUInt64 &&& Int64.toUInt64 63)).toInt64) j = tb x (i + j) := by
  have e : (x.toUInt64 >>> ((nI i).toInt64.toUInt64 &&& Int64.toUInt64 63)).toInt64.toBitVec = x.toBitVec >>> i := by
    apply BitVec.eq_of_toNat_eq
    show (x.toUInt64 >>> ((nI i).toInt64.toUInt64 &&& Int64.toUInt64 63)).toNat = _
    rw [UInt64.toNat_shiftRight, pu_cu i hi, Nat.mod_eq_of_lt hi, BitVec.toNat_ushiftRight]
    rfl
  unfold tb
  rw [e, BitVec.getLsbD_ushiftRight]
theorem tb_1 (j : Nat) : tb 1 j = decide (j = 0) := by
  by_cases hj : j < 64
  · have : ∀ j, j < 64 → tb 1 j = decide (j = 0) := by decide +kernel
    exact this j hj
  · rw [tb_big (by omega)]
    have : ¬ j = 0 := by omega
    simp [this]
theorem tb_and1 (x : Int64) : x &&& 1 = if tb x 0 then 1 else 0 := by
  apply tb_ext
  intro i hi
  rw [tb_and, tb_1]
  by_cases h : i = 0
  · subst h
    cases h2 : tb x 0 <;> simp [tb_1, tb_0]
  · cases h2 : tb x 0 <;> simp [tb_1, tb_0, h]
theorem tb_get (x : Int64) {i : Nat} (hi : i < 64) : (x.toUInt64 >>> ((nI i).toInt64.toUInt64 &&& Int64.toUInt64 63)).toInt64 &&& 1 = if tb x i then 1 else 0 := by
  rw [tb_and1, tb_ushr x hi, Nat.add_zero]
/-! bits of an int -/
def ib (x : Int32) (i : Nat) : Bool := x.toBitVec.getLsbD i
theorem ib_and1 (x : Int32) : x &&& 1 = if ib x 0 then 1 else 0 := by
  apply Int32.toBitVec_inj.mp
  apply BitVec.eq_of_getLsbD_eq
  intro i hi
  have h1 : ∀ j, j < 32 → (1 : Int32).toBitVec.getLsbD j = decide (j = 0) := by decide +kernel
  have h0 : ∀ j, j < 32 → (0 : Int32).toBitVec.getLsbD j = false := by decide +kernel
  rw [Int32.toBitVec_and, BitVec.getLsbD_and, h1 i hi]
  unfold ib
  by_cases h : i = 0
  · subst h
    cases h2 : x.toBitVec.getLsbD 0 <;> simp [h1 0 (by decide), h0 0 (by decide)]
  · cases h2 : x.toBitVec.getLsbD 0 <;> simp [h1 i hi, h0 i hi, h]
theorem tb_l2i (x : Int64) {j : Nat} (hj : j < 32) : ib x.toInt32 j = tb x j := by
  unfold ib tb
  show (x.toBitVec.signExtend 32).getLsbD j = x.toBitVec.getLsbD j
  rw [BitVec.getLsbD_signExtend]
  simp [hj]
  omega
theorem tb_sshr (x : Int64) {i j : Nat} (hi : i < 64) (hj : i + j < 64) : tb (x >>> ((nI i).toInt64 &&& 63)) j = tb x (i + j) := by
  unfold tb
  show (x.toBitVec.sshiftRight' (((nI i).toInt64 &&& 63).toBitVec.smod 64)).getLsbD j = _
  rw [pu_cs i hi, BitVec.sshiftRight', BitVec.toNat_ofNat, Nat.mod_eq_of_lt (by omega), BitVec.getLsbD_sshiftRight]
  simp [hj]
  omega
theorem tb_geti (x : Int64) {i : Nat} (hi : i < 64) : (x >>> ((nI i).toInt64 &&& 63)).toInt32 &&& 1 = if tb x i then 1 else 0 := by
  rw [ib_and1, tb_l2i _ (by decide), tb_sshr x hi (by omega), Nat.add_zero]
