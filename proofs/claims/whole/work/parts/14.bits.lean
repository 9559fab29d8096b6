-- the first family of kit/laws/BITS.to-paste, as given for pasting
def bt (x : Int32) (i : Nat) : Bool := x.toBitVec.getLsbD i
theorem b_ext {x y : Int32} (h : ∀ i, i < 32 → bt x i = bt y i) : x = y := Int32.toBitVec_inj.mp (BitVec.eq_of_getLsbD_eq (fun i hi => h i hi))
theorem b_or (x y : Int32) (i : Nat) : bt (x ||| y) i = (bt x i || bt y i) := by unfold bt; rw [Int32.toBitVec_or, BitVec.getLsbD_or]
theorem b_and (x y : Int32) (i : Nat) : bt (x &&& y) i = (bt x i && bt y i) := by unfold bt; rw [Int32.toBitVec_and, BitVec.getLsbD_and]
theorem b_xor (x y : Int32) (i : Nat) : bt (x ^^^ y) i = (bt x i ^^ bt y i) := by unfold bt; rw [Int32.toBitVec_xor, BitVec.getLsbD_xor]
theorem b_big {x : Int32} {i : Nat} (h : 32 ≤ i) : bt x i = false := BitVec.getLsbD_of_ge _ _ h
theorem b_m1 : ∀ i, i < 32 → bt (-1) i = true := by decide +kernel
theorem b_0 (i : Nat) : bt 0 i = false := BitVec.getLsbD_zero
theorem s_l : ∀ n, n < 32 → ((nI n &&& 31).toBitVec.smod 32).toNat = n := by decide +kernel
theorem s_u : ∀ n, n < 32 → (((nI n).toUInt32 &&& Int32.toUInt32 31).toBitVec % 32).toNat = n := by decide +kernel
theorem b_shl (n : Nat) (hn : n < 32) (x : Int32) {i : Nat} (hi : i < 32) : bt (x <<< (nI n &&& 31)) i = (decide (n ≤ i) && bt x (i - n)) := by
  unfold bt
  rw [Int32.toBitVec_shiftLeft]
  show (x.toBitVec <<< ((nI n &&& 31).toBitVec.smod 32).toNat).getLsbD i = _
  rw [s_l n hn, BitVec.getLsbD_shiftLeft]
  rcases Nat.lt_or_ge i n with h | h
  · simp [h, Nat.not_le.mpr h]
  · simp [hi, h, Nat.not_lt.mpr h]
theorem b_ushr (n : Nat) (hn : n < 32) (x : Int32) (i : Nat) : bt ((x.toUInt32 >>> ((nI n).toUInt32 &&& Int32.toUInt32 31)).toInt32) i = bt x (n + i) := by
  show (x.toUInt32 >>> ((nI n).toUInt32 &&& Int32.toUInt32 31)).toBitVec.getLsbD i = x.toUInt32.toBitVec.getLsbD (n + i)
  rw [UInt32.toBitVec_shiftRight]
  show (x.toUInt32.toBitVec >>> (((nI n).toUInt32 &&& Int32.toUInt32 31).toBitVec % 32).toNat).getLsbD i = _
  rw [s_u n hn, BitVec.getLsbD_ushiftRight]
theorem b_sshr (n : Nat) (hn : n < 32) (x : Int32) {i : Nat} (hi : i < 32) : bt (x >>> (nI n &&& 31)) i = if n + i < 32 then bt x (n + i) else bt x 31 := by
  unfold bt
  rw [Int32.toBitVec_shiftRight]
  show (x.toBitVec.sshiftRight ((nI n &&& 31).toBitVec.smod 32).toNat).getLsbD i = _
  rw [s_l n hn, BitVec.getLsbD_sshiftRight, BitVec.msb_eq_getLsbD_last]
  simp [hi]
-- one bit as an int
def fs_b (b : Bool) : Int32 := bif b then 1 else 0
theorem fs_b_bit : ∀ b : Bool, ∀ i, i < 32 → bt (fs_b b) i = (decide (i = 0) && b) := by decide +kernel
theorem fs_b_and : ∀ a b : Bool, fs_b a &&& fs_b b = fs_b (a && b) := by decide
theorem fs_b_xor : ∀ a b : Bool, fs_b a ^^^ fs_b b = fs_b (a ^^ b) := by decide
theorem fs_b_not : ∀ a : Bool, fs_b a ^^^ 1 = fs_b (!a) := by decide
theorem fs_b_b0 : ∀ a : Bool, bt (fs_b a) 0 = a := by decide
theorem fs_b_eq1 : ∀ a : Bool, fs_b a = 1 ↔ a = true := by decide
theorem fs_b_eq0 : ∀ a : Bool, fs_b a = 0 ↔ a = false := by decide
theorem fs_b_inj : ∀ a b : Bool, fs_b a = fs_b b → a = b := by decide
theorem fs_1bit : ∀ i, i < 32 → bt 1 i = decide (i = 0) := by decide +kernel
theorem fs_and1 (x : Int32) : x &&& 1 = fs_b (bt x 0) := by
  refine b_ext fun i hi => ?_
  rw [b_and, fs_1bit i hi, fs_b_bit _ i hi]
  by_cases h : i = 0
  · subst h; simp
  · simp [h]
def fs_ush (x y : Int32) : Int32 := (x.toUInt32 >>> (y.toUInt32 &&& Int32.toUInt32 31)).toInt32
theorem fs_onU {a : Nat} (ha : a < 32) (x : Int32) : fs_ush x (nI a) &&& 1 = fs_b (bt x a) := by
  rw [fs_and1]
  unfold fs_ush
  rw [b_ushr a ha]
  rfl
theorem fs_onS {a : Nat} (ha : a < 32) (x : Int32) : (x >>> (nI a &&& 31)) &&& 1 = fs_b (bt x a) := by
  rw [fs_and1, b_sshr a ha x (by omega), if_pos (by omega)]
  rfl
theorem fs_shb {a : Nat} (ha : a < 32) (b : Bool) (i : Nat) : bt (fs_b b <<< (nI a &&& 31)) i = (decide (i = a) && b) := by
  rcases Nat.lt_or_ge i 32 with h | h
  · rw [b_shl a ha _ h]
    by_cases q : a ≤ i
    · rw [fs_b_bit b _ (by omega)]
      by_cases q2 : i = a
      · subst q2; simp
      · have : ¬ i - a = 0 := by omega
        simp [q, q2, this]
    · have : ¬ i = a := by omega
      simp [q, this]
  · have : ¬ i = a := by omega
    rw [b_big h]; simp [this]
theorem fs_sh1 {a : Nat} (ha : a < 32) (i : Nat) : bt (1 <<< (nI a &&& 31)) i = decide (i = a) := by
  have := fs_shb ha true i
  rw [Bool.and_true] at this
  exact this
theorem fs_bs0 : ∀ x : Bool, (x ^^ false) = x := by decide
/-- a bit turned -/
theorem fs_turn {a : Nat} (ha : a < 32) (x : Int32) (b : Bool) : bt (x ^^^ (fs_b b <<< (nI a &&& 31))) = fs_up (bt x) a (bt x a ^^ b) := by
  funext i
  rw [b_xor, fs_shb ha]
  unfold fs_up
  split
  · rename_i h; subst h; simp
  · rename_i h; simp [h]
theorem fs_turn2 {a b : Nat} (ha : a < 32) (hb : b < 32) (hab : a ≠ b) (x : Int32) (c d : Bool) : bt (x ^^^ ((fs_b c <<< (nI a &&& 31)) ||| (fs_b d <<< (nI b &&& 31)))) = fs_up (fs_up (bt x) a (bt x a ^^ c)) b (bt x b ^^ d) := by
  funext i
  rw [b_xor, b_or, fs_shb ha, fs_shb hb]
  unfold fs_up
  by_cases h : i = b
  · subst h
    have : ¬ i = a := fun z => hab z.symm
    simp [this]
  · by_cases h2 : i = a
    · subst h2; simp [h]
    · simp [h, h2]
/-- a bit put out -/
theorem fs_out {a : Nat} (ha : a < 32) (x : Int32) : bt (x &&& ((1 <<< (nI a &&& 31)) ^^^ (-1))) = fs_up (bt x) a false := by
  funext i
  rw [b_and, b_xor, fs_sh1 ha]
  unfold fs_up
  rcases Nat.lt_or_ge i 32 with h | h
  · rw [b_m1 i h]
    split
    · rename_i q; simp [q]
    · rename_i q; simp [q]
  · rw [b_big (x := x) h]
    simp
theorem fs_bt0 : bt 0 = fun _ => false := funext fun i => b_0 i
theorem fs_btZ {a : Nat} (ha : a < 32) : bt (1 <<< (nI a &&& 31)) = fun i => decide (i = a) := funext fun i => fs_sh1 ha i
-- a product as the class has it: xs, zs, constant, randoms
abbrev fs_Q : Type := Int32 × Int32 × Int32 × Int64
def fs_abs (q : fs_Q) : fs_R := ((bt q.1, bt q.2.1), bt q.2.2.1 0, q.2.2.2)
def fs_01 (c : Int32) : Prop := c = fs_b (bt c 0)
theorem fs_01_b (b : Bool) : fs_01 (fs_b b) := by unfold fs_01; rw [fs_b_b0]
theorem fs_01_x {c : Int32} (h : fs_01 c) (b : Bool) : fs_01 (c ^^^ fs_b b) ∧ bt (c ^^^ fs_b b) 0 = (bt c 0 ^^ b) := by
  have e : bt (c ^^^ fs_b b) 0 = (bt c 0 ^^ b) := by rw [b_xor, fs_b_b0]
  refine ⟨?_, e⟩
  unfold fs_01 at h ⊢
  rw [e, ← fs_b_xor, ← h]
-- the methods of the class Pauli, as they stand
def fs_xOn (q : fs_Q) (a : Int32) : Int32 := fs_ush q.1 a &&& 1
def fs_zOn (q : fs_Q) (a : Int32) : Int32 := fs_ush q.2.1 a &&& 1
def fs_pH (q : fs_Q) (a : Int32) : fs_Q :=
  let c := q.2.2.1 ^^^ (fs_xOn q a &&& fs_zOn q a)
  let t := (fs_xOn q a ^^^ fs_zOn q a) <<< (a &&& 31)
  (q.1 ^^^ t, q.2.1 ^^^ t, c, q.2.2.2)
def fs_pS (q : fs_Q) (a : Int32) : fs_Q := (q.1, q.2.1 ^^^ (fs_xOn q a <<< (a &&& 31)), q.2.2.1 ^^^ (fs_xOn q a &&& fs_zOn q a), q.2.2.2)
def fs_pC (q : fs_Q) (a b : Int32) : fs_Q :=
  (q.1 ^^^ (fs_xOn q a <<< (b &&& 31)), q.2.1 ^^^ (fs_zOn q b <<< (a &&& 31)), q.2.2.1 ^^^ (fs_xOn q a &&& fs_zOn q b &&& (fs_xOn q b ^^^ fs_zOn q a ^^^ 1)), q.2.2.2)
def fs_sw (x a b : Int32) : Int32 :=
  let d := (fs_ush x a ^^^ fs_ush x b) &&& 1
  x ^^^ ((d <<< (a &&& 31)) ||| (d <<< (b &&& 31)))
def fs_pW (q : fs_Q) (a b : Int32) : fs_Q := (fs_sw q.1 a b, fs_sw q.2.1 a b, q.2.2.1, q.2.2.2)
def fs_pX (q : fs_Q) (a : Int32) : fs_Q := (q.1, q.2.1, q.2.2.1 ^^^ fs_zOn q a, q.2.2.2)
def fs_pZ (q : fs_Q) (a : Int32) : fs_Q := (q.1, q.2.1, q.2.2.1 ^^^ fs_xOn q a, q.2.2.2)
def fs_ps (q : fs_Q) (k a b : Int32) : fs_Q :=
  if k = 0 then fs_pH q a else if k = 1 then fs_pS q a else if k = 2 then fs_pC q a b else if k = 3 then fs_pH (fs_pC (fs_pH q b) a b) b
  else if k = 4 then fs_pW q a b else if k = 5 then fs_pX q a else if k = 6 then fs_pZ q a else q
theorem fs_xOn_b {a : Nat} (ha : a < 32) (q : fs_Q) : fs_xOn q (nI a) = fs_b ((fs_abs q).1.1 a) := fs_onU ha q.1
theorem fs_zOn_b {a : Nat} (ha : a < 32) (q : fs_Q) : fs_zOn q (nI a) = fs_b ((fs_abs q).1.2 a) := fs_onU ha q.2.1
theorem fs_xzx : ∀ x z : Bool, (x ^^ (x ^^ z)) = z ∧ (z ^^ (x ^^ z)) = x := by decide
theorem fs_pH_abs {a : Nat} (ha : a < 32) {q : fs_Q} (hc : fs_01 q.2.2.1) : fs_abs (fs_pH q (nI a)) = fs_gr 0 a 0 (fs_abs q) ∧ fs_01 (fs_pH q (nI a)).2.2.1 := by
  unfold fs_pH
  rw [fs_xOn_b ha, fs_zOn_b ha, fs_b_and, fs_b_xor]
  obtain ⟨h1, h2⟩ := fs_01_x hc ((fs_abs q).1.1 a && (fs_abs q).1.2 a)
  refine ⟨?_, h1⟩
  refine Prod.ext (Prod.ext ?_ ?_) (Prod.ext h2 rfl)
  · show bt (q.1 ^^^ _) = fs_up (bt q.1) a (bt q.2.1 a)
    rw [fs_turn ha]
    exact congrArg _ (fs_xzx _ _).1
  · show bt (q.2.1 ^^^ _) = fs_up (bt q.2.1) a (bt q.1 a)
    rw [fs_turn ha]
    exact congrArg _ (fs_xzx _ _).2
theorem fs_pS_abs {a : Nat} (ha : a < 32) {q : fs_Q} (hc : fs_01 q.2.2.1) : fs_abs (fs_pS q (nI a)) = fs_gr 1 a 0 (fs_abs q) ∧ fs_01 (fs_pS q (nI a)).2.2.1 := by
  unfold fs_pS
  rw [fs_xOn_b ha, fs_zOn_b ha, fs_b_and]
  obtain ⟨h1, h2⟩ := fs_01_x hc ((fs_abs q).1.1 a && (fs_abs q).1.2 a)
  refine ⟨?_, h1⟩
  refine Prod.ext (Prod.ext rfl ?_) (Prod.ext h2 rfl)
  show bt (q.2.1 ^^^ _) = fs_up (bt q.2.1) a (bt q.2.1 a ^^ bt q.1 a)
  rw [fs_turn ha]
  rfl
theorem fs_nt : ∀ x z : Bool, (!(x ^^ z)) = (x ^^ z ^^ true) := by decide
theorem fs_pC_abs {a b : Nat} (ha : a < 32) (hb : b < 32) {q : fs_Q} (hc : fs_01 q.2.2.1) : fs_abs (fs_pC q (nI a) (nI b)) = fs_gr 2 a b (fs_abs q) ∧ fs_01 (fs_pC q (nI a) (nI b)).2.2.1 := by
  unfold fs_pC
  rw [fs_xOn_b ha, fs_zOn_b ha, fs_xOn_b hb, fs_zOn_b hb, fs_b_and, fs_b_xor, fs_b_not, fs_b_and, fs_nt]
  obtain ⟨h1, h2⟩ := fs_01_x hc ((fs_abs q).1.1 a && (fs_abs q).1.2 b && ((fs_abs q).1.1 b ^^ (fs_abs q).1.2 a ^^ true))
  refine ⟨?_, h1⟩
  refine Prod.ext (Prod.ext ?_ ?_) (Prod.ext h2 rfl)
  · show bt (q.1 ^^^ _) = fs_up (bt q.1) b (bt q.1 b ^^ bt q.1 a)
    rw [fs_turn hb]
    rfl
  · show bt (q.2.1 ^^^ _) = fs_up (bt q.2.1) a (bt q.2.1 a ^^ bt q.2.1 b)
    rw [fs_turn ha]
    rfl
theorem fs_sw_bt {a b : Nat} (ha : a < 32) (hb : b < 32) (hab : a ≠ b) (x : Int32) : bt (fs_sw x (nI a) (nI b)) = fs_up (fs_up (bt x) a (bt x b)) b (bt x a) := by
  unfold fs_sw
  have e : (fs_ush x (nI a) ^^^ fs_ush x (nI b)) &&& 1 = fs_b (bt x a ^^ bt x b) := by
    rw [fs_and1, b_xor]
    unfold fs_ush
    rw [b_ushr a ha, b_ushr b hb]
    rfl
  rw [e]
  dsimp only
  rw [fs_turn2 ha hb hab]
  have e1 : (bt x a ^^ (bt x a ^^ bt x b)) = bt x b := (fs_xzx _ _).1
  have e2 : (bt x b ^^ (bt x a ^^ bt x b)) = bt x a := (fs_xzx _ _).2
  rw [e1, e2]
theorem fs_pW_abs {a b : Nat} (ha : a < 32) (hb : b < 32) (hab : a ≠ b) {q : fs_Q} (hc : fs_01 q.2.2.1) : fs_abs (fs_pW q (nI a) (nI b)) = fs_gr 4 a b (fs_abs q) ∧ fs_01 (fs_pW q (nI a) (nI b)).2.2.1 := by
  refine ⟨?_, hc⟩
  refine Prod.ext (Prod.ext ?_ ?_) (Prod.ext ?_ rfl)
  · exact fs_sw_bt ha hb hab q.1
  · exact fs_sw_bt ha hb hab q.2.1
  · show bt q.2.2.1 0 = (bt q.2.2.1 0 ^^ false)
    rw [fs_bs0]
theorem fs_pX_abs {a : Nat} (ha : a < 32) {q : fs_Q} (hc : fs_01 q.2.2.1) : fs_abs (fs_pX q (nI a)) = fs_gr 5 a 0 (fs_abs q) ∧ fs_01 (fs_pX q (nI a)).2.2.1 := by
  unfold fs_pX
  rw [fs_zOn_b ha]
  obtain ⟨h1, h2⟩ := fs_01_x hc ((fs_abs q).1.2 a)
  exact ⟨Prod.ext rfl (Prod.ext h2 rfl), h1⟩
theorem fs_pZ_abs {a : Nat} (ha : a < 32) {q : fs_Q} (hc : fs_01 q.2.2.1) : fs_abs (fs_pZ q (nI a)) = fs_gr 6 a 0 (fs_abs q) ∧ fs_01 (fs_pZ q (nI a)).2.2.1 := by
  unfold fs_pZ
  rw [fs_xOn_b ha]
  obtain ⟨h1, h2⟩ := fs_01_x hc ((fs_abs q).1.1 a)
  exact ⟨Prod.ext rfl (Prod.ext h2 rfl), h1⟩
/-- z with a control by h, x with a control, h -/
theorem fs_hch : ∀ (c xa za xb zb : Bool), (((c ^^ (xb && zb)) ^^ (xa && xb && (zb ^^ za ^^ true))) ^^ ((zb ^^ xa) && xb)) = (c ^^ (xa && xb && (za ^^ zb))) := by decide
theorem fs_pD_abs {a b : Nat} (ha : a < 32) (hb : b < 32) (hab : a ≠ b) {q : fs_Q} (hc : fs_01 q.2.2.1) : fs_abs (fs_pH (fs_pC (fs_pH q (nI b)) (nI a) (nI b)) (nI b)) = fs_gr 3 a b (fs_abs q) ∧ fs_01 (fs_pH (fs_pC (fs_pH q (nI b)) (nI a) (nI b)) (nI b)).2.2.1 := by
  obtain ⟨a1, c1⟩ := fs_pH_abs hb hc
  obtain ⟨a2, c2⟩ := fs_pC_abs ha hb c1
  obtain ⟨a3, c3⟩ := fs_pH_abs hb c2
  refine ⟨?_, c3⟩
  rw [a3, a2, a1]
  generalize fs_abs q = r
  obtain ⟨⟨x, z⟩, c, h⟩ := r
  unfold fs_gr fs_sg fs_ga
  dsimp only
  unfold fs_gaH fs_gaC fs_gaD
  try dsimp only
  have hba : b ≠ a := Ne.symm hab
  refine Prod.ext (Prod.ext ?_ ?_) (Prod.ext ?_ rfl)
  · funext w
    dsimp only
    by_cases h1 : w = b
    · subst h1; simp only [fs_up_s, fs_up_n hba]
    · simp only [fs_up_n h1]
  · funext w
    dsimp only
    by_cases h1 : w = b
    · subst h1; simp only [fs_up_s, fs_up_n hab]
    · by_cases h2 : w = a
      · subst h2; simp only [fs_up_s, fs_up_n hab]
      · simp only [fs_up_n h1, fs_up_n h2]
  · dsimp only
    simp only [fs_up_s, fs_up_n hab, fs_up_n hba]
    exact fs_hch _ _ _ _ _
theorem fs_nIk : ∀ j : Nat, j < 7 → ∀ k : Nat, k < 7 → (nI j = nI k ↔ j = k) := by decide +kernel
theorem fs_gr_b {k a b b' : Nat} (h : k < 2 ∨ 4 < k) (r : fs_R) : fs_gr k a b r = fs_gr k a b' r := by
  match k, h with
  | 0, _ => rfl
  | 1, _ => rfl
  | 2, h => exact absurd h (by omega)
  | 3, h => exact absurd h (by omega)
  | 4, h => exact absurd h (by omega)
  | 5, _ => rfl
  | (k + 6), _ => rfl
theorem fs_ps_abs {n k a b : Nat} (hn : n ≤ 10) (h : fs_okg n k a b) {bv : Int32} (hb : 2 ≤ k → k ≤ 4 → bv = nI b) {q : fs_Q} (hc : fs_01 q.2.2.1) : fs_abs (fs_ps q (nI k) (nI a) bv) = fs_gr k a b (fs_abs q) ∧ fs_01 (fs_ps q (nI k) (nI a) bv).2.2.1 := by
  obtain ⟨h1, h2, h3⟩ := h
  revert h3 hb
  refine fs_kind7 (P := fun k => (2 ≤ k → k ≤ 4 → bv = nI b) → (2 ≤ k → k ≤ 4 → b < n ∧ a ≠ b) → fs_abs (fs_ps q (nI k) (nI a) bv) = fs_gr k a b (fs_abs q) ∧ fs_01 (fs_ps q (nI k) (nI a) bv).2.2.1) ?_ ?_ ?_ ?_ ?_ ?_ ?_ h1 <;> intro g1 g2
  · rw [fs_gr_b (b' := 0) (by omega)]
    exact fs_pH_abs (by omega) hc
  · rw [fs_gr_b (b' := 0) (by omega)]
    exact fs_pS_abs (by omega) hc
  · obtain ⟨q1, q2⟩ := g2 (by omega) (by omega)
    rw [g1 (by omega) (by omega)]
    exact fs_pC_abs (by omega) (by omega) hc
  · obtain ⟨q1, q2⟩ := g2 (by omega) (by omega)
    rw [g1 (by omega) (by omega)]
    exact fs_pD_abs (by omega) (by omega) q2 hc
  · obtain ⟨q1, q2⟩ := g2 (by omega) (by omega)
    rw [g1 (by omega) (by omega)]
    exact fs_pW_abs (by omega) (by omega) q2 hc
  · rw [fs_gr_b (b' := 0) (by omega)]
    exact fs_pX_abs (by omega) hc
  · rw [fs_gr_b (b' := 0) (by omega)]
    exact fs_pZ_abs (by omega) hc
