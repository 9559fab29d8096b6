-- longs by their bits
def bl (x : Int64) (i : Nat) : Bool := x.toBitVec.getLsbD i
theorem bl_ext {x y : Int64} (h : ∀ i, i < 64 → bl x i = bl y i) : x = y := Int64.toBitVec_inj.mp (BitVec.eq_of_getLsbD_eq (fun i hi => h i hi))
theorem bl_or (x y : Int64) (i : Nat) : bl (x ||| y) i = (bl x i || bl y i) := by unfold bl; rw [Int64.toBitVec_or, BitVec.getLsbD_or]
theorem bl_and (x y : Int64) (i : Nat) : bl (x &&& y) i = (bl x i && bl y i) := by unfold bl; rw [Int64.toBitVec_and, BitVec.getLsbD_and]
theorem bl_xor (x y : Int64) (i : Nat) : bl (x ^^^ y) i = (bl x i ^^ bl y i) := by unfold bl; rw [Int64.toBitVec_xor, BitVec.getLsbD_xor]
theorem bl_big {x : Int64} {i : Nat} (h : 64 ≤ i) : bl x i = false := BitVec.getLsbD_of_ge _ _ h
theorem bl_0 (i : Nat) : bl 0 i = false := BitVec.getLsbD_zero
theorem bl_1 : ∀ i, i < 64 → bl 1 i = decide (i = 0) := by decide +kernel
theorem sl_l : ∀ n, n < 64 → (((nI n).toInt64 &&& 63).toBitVec.smod 64).toNat = n := by decide +kernel
theorem sl_u : ∀ n, n < 64 → (((nI n).toInt64.toUInt64 &&& Int64.toUInt64 63).toBitVec % 64).toNat = n := by decide +kernel
theorem bl_shl {n : Nat} (hn : n < 64) (x : Int64) {i : Nat} (hi : i < 64) : bl (x <<< ((nI n).toInt64 &&& 63)) i = (decide (n ≤ i) && bl x (i - n)) := by
  unfold bl
  rw [Int64.toBitVec_shiftLeft]
  show (x.toBitVec <<< (((nI n).toInt64 &&& 63).toBitVec.smod 64).toNat).getLsbD i = _
  rw [sl_l n hn, BitVec.getLsbD_shiftLeft]
  rcases Nat.lt_or_ge i n with h | h
  · simp [h, Nat.not_le.mpr h]
  · simp [hi, h, Nat.not_lt.mpr h]
def fs_ushl (x : Int64) (y : Int32) : Int64 := (x.toUInt64 >>> (y.toInt64.toUInt64 &&& Int64.toUInt64 63)).toInt64
theorem bl_ushr {n : Nat} (hn : n < 64) (x : Int64) (i : Nat) : bl (fs_ushl x (nI n)) i = bl x (n + i) := by
  show (x.toUInt64 >>> ((nI n).toInt64.toUInt64 &&& Int64.toUInt64 63)).toBitVec.getLsbD i = x.toUInt64.toBitVec.getLsbD (n + i)
  rw [UInt64.toBitVec_shiftRight]
  show (x.toUInt64.toBitVec >>> (((nI n).toInt64.toUInt64 &&& Int64.toUInt64 63).toBitVec % 64).toNat).getLsbD i = _
  rw [sl_u n hn, BitVec.getLsbD_ushiftRight]
theorem bl_sshr {n : Nat} (hn : n < 64) (x : Int64) {i : Nat} (hi : i < 64) : bl (x >>> ((nI n).toInt64 &&& 63)) i = if n + i < 64 then bl x (n + i) else bl x 63 := by
  unfold bl
  rw [Int64.toBitVec_shiftRight]
  show (x.toBitVec.sshiftRight (((nI n).toInt64 &&& 63).toBitVec.smod 64).toNat).getLsbD i = _
  rw [sl_l n hn, BitVec.getLsbD_sshiftRight, BitVec.msb_eq_getLsbD_last]
  simp [hi]
def fs_bL (b : Bool) : Int64 := bif b then 1 else 0
theorem fs_bL_bit : ∀ b : Bool, ∀ i, i < 64 → bl (fs_bL b) i = (decide (i = 0) && b) := by decide +kernel
theorem fs_bL_eq0 : ∀ b : Bool, fs_bL b = 0 ↔ b = false := by decide
theorem fs_bL_eq1 : ∀ b : Bool, fs_bL b = 1 ↔ b = true := by decide
theorem fs_b_L : ∀ b : Bool, (fs_b b).toInt64 = fs_bL b := by decide
theorem fs_andL1 (x : Int64) : x &&& 1 = fs_bL (bl x 0) := by
  refine bl_ext fun i hi => ?_
  rw [bl_and, bl_1 i hi, fs_bL_bit _ i hi]
  by_cases h : i = 0
  · subst h; simp
  · simp [h]
theorem fs_onUL {a : Nat} (ha : a < 64) (x : Int64) : fs_ushl x (nI a) &&& 1 = fs_bL (bl x a) := by
  rw [fs_andL1, bl_ushr ha]
  rfl
theorem fs_onSL {a : Nat} (ha : a < 64) (x : Int64) : (x >>> ((nI a).toInt64 &&& 63)) &&& 1 = fs_bL (bl x a) := by
  rw [fs_andL1, bl_sshr ha x (by omega), if_pos (by omega)]
  rfl
theorem fs_shL {a : Nat} (ha : a < 64) (b : Bool) (i : Nat) : bl (fs_bL b <<< ((nI a).toInt64 &&& 63)) i = (decide (i = a) && b) := by
  rcases Nat.lt_or_ge i 64 with h | h
  · rw [bl_shl ha _ h]
    by_cases q : a ≤ i
    · rw [fs_bL_bit b _ (by omega)]
      by_cases q2 : i = a
      · subst q2; simp
      · have : ¬ i - a = 0 := by omega
        simp [q, q2, this]
    · have : ¬ i = a := by omega
      simp [q, this]
  · have : ¬ i = a := by omega
    rw [bl_big h]; simp [this]
theorem fs_shL1 {a : Nat} (ha : a < 64) (i : Nat) : bl (1 <<< ((nI a).toInt64 &&& 63)) i = decide (i = a) := by
  have := fs_shL ha true i
  rw [Bool.and_true] at this
  exact this
/-- a set lies below n -/
def fs_lt (x : Int64) (n : Nat) : Prop := ∀ i, n ≤ i → bl x i = false
theorem fs_lt_ushr {n : Nat} (hn : n < 64) (x : Int64) : fs_ushl x (nI n) = 0 ↔ fs_lt x n := by
  constructor
  · intro h i hi
    have := bl_ushr hn x (i - n)
    rw [h, bl_0, show n + (i - n) = i by omega] at this
    exact this.symm
  · intro h
    refine bl_ext fun i _ => ?_
    rw [bl_ushr hn, h _ (by omega), bl_0]
theorem fs_neg_bit (x : Int64) : x < 0 ↔ bl x 63 = true := by
  unfold bl
  rw [Int64.lt_iff_toInt_lt, Int64.toInt_zero]
  show x.toBitVec.toInt < 0 ↔ _
  rw [BitVec.toInt_neg_iff, ← BitVec.msb_eq_getLsbD_last (w := 64), BitVec.msb_eq_decide]
  simp
  omega
theorem fs_isSet {n : Nat} (hn : n < 64) (x : Int64) : (0 ≤ x ∧ fs_ushl x (nI n) = 0) ↔ fs_lt x n := by
  rw [fs_lt_ushr hn]
  constructor
  · exact fun h => h.2
  · intro h
    refine ⟨?_, h⟩
    have : ¬ x < 0 := by rw [fs_neg_bit, h 63 (by omega)]; decide
    exact Int64.not_lt.mp this
-- the parity of a set
def fs_pa (x : Int64) : Bool := decide (fs_pc 64 x.toBitVec.toNat % 2 = 1)
theorem fs_bl_nat (x : Int64) (i : Nat) : bl x i = x.toBitVec.toNat.testBit i := rfl
/-- Long.bitCount -/
def fs_bcl (i : Int64) : Int32 :=
  let i1 := i - (fs_ushl i 1 &&& 6148914691236517205)
  let i2 := (i1 &&& 3689348814741910323) + (fs_ushl i1 2 &&& 3689348814741910323)
  let i3 := (i2 + fs_ushl i2 4) &&& 1085102592571150095
  let i4 := i3 + fs_ushl i3 8
  let i5 := i4 + fs_ushl i4 16
  let i6 := i5 + fs_ushl i5 32
  i6.toInt32 &&& 127
def fs_uN (x : Int64) : Nat := x.toBitVec.toNat
theorem fs_uN_lt (x : Int64) : fs_uN x < 2 ^ 64 := x.toBitVec.isLt
theorem fs_uN_sh {n : Nat} (hn : n < 64) (x : Int64) : fs_uN (fs_ushl x (nI n)) = fs_uN x / 2 ^ n := by
  show (x.toUInt64 >>> ((nI n).toInt64.toUInt64 &&& Int64.toUInt64 63)).toBitVec.toNat = _
  rw [UInt64.toBitVec_shiftRight]
  show (x.toUInt64.toBitVec >>> (((nI n).toInt64.toUInt64 &&& Int64.toUInt64 63).toBitVec % 64).toNat).toNat = _
  rw [sl_u n hn, BitVec.toNat_ushiftRight, Nat.shiftRight_eq_div_pow]
  rfl
theorem fs_uN_and (x y : Int64) : fs_uN (x &&& y) = fs_uN x &&& fs_uN y := by
  unfold fs_uN
  rw [Int64.toBitVec_and, BitVec.toNat_and]
theorem fs_uN_add {x y : Int64} (h : fs_uN x + fs_uN y < 2 ^ 64) : fs_uN (x + y) = fs_uN x + fs_uN y := by
  unfold fs_uN at *
  rw [Int64.toBitVec_add, BitVec.toNat_add, Nat.mod_eq_of_lt h]
theorem fs_uN_sub {x y : Int64} (h : fs_uN y ≤ fs_uN x) : fs_uN (x - y) = fs_uN x - fs_uN y := by
  have hx := fs_uN_lt x
  have hy := fs_uN_lt y
  unfold fs_uN at *
  rw [Int64.toBitVec_sub, BitVec.toNat_sub]
  omega
