-- products of rows, as the class and as the reference make them
theorem fs_s_sub (f g : Nat → BitVec 2) (n : Nat) : fs_s (fun w => f w - g w) n = fs_s f n - fs_s g n := by
  induction n with
  | zero => show 0#2 = 0#2 - 0#2; decide
  | succ n ih =>
    show fs_s (fun w => f w - g w) n + (f n - g n) = fs_s f n + f n - (fs_s g n + g n)
    rw [ih]
    generalize fs_s f n = x; generalize fs_s g n = y; generalize f n = u; generalize g n = v
    revert x y u v; decide +kernel
theorem fs_pc_1 (k n : Nat) : fs_pc (k + 1) n = fs_pc k n + n / 2 ^ k % 2 := by
  rw [fs_pc_add k 1 n]
  rfl
theorem fs_pc_s (n : Nat) (k : Nat) : fs_s (fun w => fs_o (n.testBit w)) k = BitVec.ofNat 2 (fs_pc k n) := by
  induction k with
  | zero => rfl
  | succ k ih =>
    show fs_s (fun w => fs_o (n.testBit w)) k + fs_o (n.testBit k) = _
    rw [ih, fs_pc_1, BitVec.ofNat_add, Nat.testBit_eq_decide_div_mod_eq]
    congr 1
    rcases (show n / 2 ^ k % 2 = 0 ∨ n / 2 ^ k % 2 = 1 by omega) with h | h
    · rw [h]; rfl
    · rw [h]; rfl
def fs_bc (i : Int32) : Int32 :=
  let i1 := i - (fs_ush i 1 &&& 1431655765)
  let i2 := (i1 &&& 858993459) + (fs_ush i1 2 &&& 858993459)
  let i3 := (i2 + fs_ush i2 4) &&& 252645135
  let i4 := i3 + fs_ush i3 8
  let i5 := i4 + fs_ush i4 16
  i5 &&& 63
theorem fs_bc_10 : ∀ m, m < 1024 → fs_bc (nI m) = nI (fs_pc 10 m) := by decide +kernel
theorem fs_bt_nat (x : Int32) (w : Nat) : bt x w = x.toBitVec.toNat.testBit w := rfl
theorem fs_nat10 {x : Int32} (h : ∀ w, 10 ≤ w → bt x w = false) : x.toBitVec.toNat < 1024 := by
  refine Nat.lt_of_not_le fun q => ?_
  obtain ⟨i, hi, hb⟩ := Nat.exists_ge_and_testBit_of_ge_two_pow (n := 10) (x := x.toBitVec.toNat) q
  rw [← fs_bt_nat, h i hi] at hb
  cases hb
theorem fs_nI_of (x : Int32) : x = nI x.toBitVec.toNat := by
  apply Int32.toBitVec_inj.mp
  show x.toBitVec = BitVec.ofNat 32 x.toBitVec.toNat
  rw [BitVec.ofNat_toNat, BitVec.setWidth_eq]
/-- the count of a number whose bits lie below 10 -/
theorem fs_bc_s {x : Int32} (h : ∀ w, 10 ≤ w → bt x w = false) : ∃ k, k ≤ 10 ∧ fs_bc x = nI k ∧ fs_s (fun w => fs_o (bt x w)) 10 = BitVec.ofNat 2 k := by
  refine ⟨fs_pc 10 x.toBitVec.toNat, fs_pc_le 10 _, ?_, fs_pc_s _ 10⟩
  rw [← fs_bc_10 _ (fs_nat10 h), ← fs_nI_of x]
theorem fs_qb : ∀ a, a < 11 → ∀ b, b < 11 → ((nI a - nI b) >>> ((1 : Int32) &&& 31)) &&& 1 = fs_b ((BitVec.ofNat 2 a - BitVec.ofNat 2 b).getLsbD 1) := by decide +kernel
/-- Pauli.multiplyBy -/
def fs_mp (q o : fs_Q) : Int32 := ((o.1 &&& o.2.1) &&& q.2.1 &&& (q.1 ^^^ (-1))) ||| ((o.1 &&& (o.2.1 ^^^ (-1))) &&& q.1 &&& q.2.1) ||| ((o.2.1 &&& (o.1 ^^^ (-1))) &&& q.1 &&& (q.2.1 ^^^ (-1)))
def fs_mn (q o : fs_Q) : Int32 := ((o.1 &&& o.2.1) &&& q.1 &&& (q.2.1 ^^^ (-1))) ||| ((o.1 &&& (o.2.1 ^^^ (-1))) &&& q.2.1 &&& (q.1 ^^^ (-1))) ||| ((o.2.1 &&& (o.1 ^^^ (-1))) &&& q.1 &&& q.2.1)
def fs_mb (q o : fs_Q) : fs_Q :=
  (q.1 ^^^ o.1, q.2.1 ^^^ o.2.1, q.2.2.1 ^^^ (o.2.2.1 ^^^ (((fs_bc (fs_mp q o) - fs_bc (fs_mn q o)) >>> ((1 : Int32) &&& 31)) &&& 1)), q.2.2.2 ^^^ o.2.2.2)
theorem fs_mp_b' (a b c d : Bool) : fs_be a b c d = fs_o (((a && b) && d && (c ^^ true)) || ((a && (b ^^ true)) && c && d) || ((b && (a ^^ true)) && c && (d ^^ true))) - fs_o (((a && b) && c && (d ^^ true)) || ((a && (b ^^ true)) && d && (c ^^ true)) || ((b && (a ^^ true)) && c && d)) := by
  cases a <;> cases b <;> cases c <;> cases d <;> decide
def fs_sq (n : Nat) (q : fs_Q) : Prop := fs_su n (fs_abs q).1 ∧ fs_01 q.2.2.1
theorem fs_mb_abs {q o : fs_Q} (hq : fs_sq 10 q) (ho : fs_sq 10 o) : fs_abs (fs_mb q o) = fs_rm (fs_abs o) (fs_abs q) ∧ fs_01 (fs_mb q o).2.2.1 := by
  obtain ⟨hq1, hq2⟩ := hq
  obtain ⟨ho1, ho2⟩ := ho
  have x0 : ∀ w, 10 ≤ w → bt q.1 w = false := fun w hw => (hq1 w hw).1
  have z0 : ∀ w, 10 ≤ w → bt q.2.1 w = false := fun w hw => (hq1 w hw).2
  have hp : ∀ w, 10 ≤ w → bt (fs_mp q o) w = false := fun w hw => by
    unfold fs_mp
    simp only [b_or, b_and, x0 w hw, z0 w hw, Bool.and_false, Bool.false_and, Bool.or_self]
  have hn : ∀ w, 10 ≤ w → bt (fs_mn q o) w = false := fun w hw => by
    unfold fs_mn
    simp only [b_or, b_and, x0 w hw, z0 w hw, Bool.and_false, Bool.false_and, Bool.or_self]
  obtain ⟨kp, p1, p2, p3⟩ := fs_bc_s hp
  obtain ⟨kn, n1, n2, n3⟩ := fs_bc_s hn
  have hS : fs_S (fs_abs o).1 (fs_abs q).1 = BitVec.ofNat 2 kp - BitVec.ofNat 2 kn := by
    rw [← p3, ← n3, ← fs_s_sub]
    refine fs_s_congr fun w hw => ?_
    have m1 : bt (-1) w = true := b_m1 w (by omega)
    show fs_be (bt o.1 w) (bt o.2.1 w) (bt q.1 w) (bt q.2.1 w) = _
    unfold fs_mp fs_mn
    simp only [b_or, b_and, b_xor, m1]
    exact fs_mp_b' _ _ _ _
  have e : ((fs_bc (fs_mp q o) - fs_bc (fs_mn q o)) >>> ((1 : Int32) &&& 31)) &&& 1 = fs_b ((fs_S (fs_abs o).1 (fs_abs q).1).getLsbD 1) := by
    rw [hS, p2, n2]
    exact fs_qb kp (by omega) kn (by omega)
  unfold fs_mb
  rw [e]
  have ho2' : o.2.2.1 = fs_b (bt o.2.2.1 0) := ho2
  have ec : q.2.2.1 ^^^ (o.2.2.1 ^^^ fs_b ((fs_S (fs_abs o).1 (fs_abs q).1).getLsbD 1)) = q.2.2.1 ^^^ fs_b (bt o.2.2.1 0 ^^ (fs_S (fs_abs o).1 (fs_abs q).1).getLsbD 1) := by
    rw [← fs_b_xor, ← ho2']
  rw [ec]
  obtain ⟨h1, h2⟩ := fs_01_x hq2 (bt o.2.2.1 0 ^^ (fs_S (fs_abs o).1 (fs_abs q).1).getLsbD 1)
  refine ⟨Prod.ext (Prod.ext ?_ ?_) (Prod.ext h2 rfl), h1⟩
  · funext w; exact b_xor _ _ _
  · funext w; exact b_xor _ _ _
-- the reference's
def fs_pw (x1 z1 x2 z2 : Int32) : Int32 := if x1 = 0 ∧ z1 = 0 then 0 else if x1 = 1 ∧ z1 = 1 then z2 - x2 else if x1 = 1 then z2 * (2 * x2 - 1) else x2 * (1 - 2 * z2)
def fs_bi (v k : Int32) : Int32 := (v >>> (k &&& 31)) &&& 1
def fs_pws (x1 z1 x2 z2 : Int32) : Nat → Int32
  | 0 => 0
  | w + 1 => fs_pws x1 z1 x2 z2 w + fs_pw (fs_bi x1 (nI w)) (fs_bi z1 (nI w)) (fs_bi x2 (nI w)) (fs_bi z2 (nI w))
def fs_lo (x : Int32) : BitVec 2 := x.toBitVec.setWidth 2
theorem fs_lo_add (x y : Int32) : fs_lo (x + y) = fs_lo x + fs_lo y := by
  unfold fs_lo
  rw [Int32.toBitVec_add, BitVec.setWidth_add _ _ (by omega)]
theorem fs_pw_lo : ∀ a b c d : Bool, fs_lo (fs_pw (fs_b a) (fs_b b) (fs_b c) (fs_b d)) = fs_be a b c d := by decide +kernel
theorem fs_pws_lo {n : Nat} (hn : n ≤ 10) (x1 z1 x2 z2 : Int32) : fs_lo (fs_pws x1 z1 x2 z2 n) = fs_s (fun w => fs_be (bt x1 w) (bt z1 w) (bt x2 w) (bt z2 w)) n := by
  induction n with
  | zero => rfl
  | succ n ih =>
    show fs_lo (fs_pws x1 z1 x2 z2 n + _) = fs_s _ n + _
    rw [fs_lo_add, ih (by omega)]
    unfold fs_bi
    rw [fs_onS (by omega), fs_onS (by omega), fs_onS (by omega), fs_onS (by omega), fs_pw_lo]
theorem fs_be0 : ∀ c d : Bool, fs_be false false c d = 0#2 := by decide
theorem fs_s_more {f : Nat → BitVec 2} {n : Nat} : ∀ {k : Nat}, n ≤ k → (∀ w, n ≤ w → w < k → f w = 0#2) → fs_s f k = fs_s f n
  | 0, h, _ => by rw [show n = 0 by omega]
  | k + 1, h, h0 => by
    by_cases q : n = k + 1
    · rw [q]
    · show fs_s f k + f k = _
      rw [fs_s_more (k := k) (by omega) (fun w h1 h2 => h0 w h1 (by omega)), h0 k (by omega) (by omega), BitVec.add_zero]
theorem fs_3bit : ∀ i, i < 32 → bt 3 i = decide (i < 2) := by decide +kernel
theorem fs_and3 (x : Int32) : (x &&& 3) >>> ((1 : Int32) &&& 31) = fs_b ((fs_lo x).getLsbD 1) := by
  refine b_ext fun i hi => ?_
  have e : (1 : Int32) = nI 1 := rfl
  rw [e, b_sshr 1 (by omega) _ hi, fs_b_bit _ i hi]
  have h1 : (fs_lo x).getLsbD 1 = bt x 1 := by
    unfold fs_lo bt
    rw [BitVec.getLsbD_setWidth]
    simp
  rw [h1, b_and, b_and]
  by_cases h : i = 0
  · subst h
    rw [if_pos (by omega), fs_3bit _ (by omega)]
    simp
  · rw [fs_3bit 31 (by omega)]
    split
    · rw [fs_3bit _ (by omega)]
      have : ¬ 1 + i < 2 := by omega
      simp [h, this]
    · simp [h]
/-- row 'to' multiplied by row 'by' -/
def fs_ml (n : Nat) (t b : fs_Q) : fs_Q := (t.1 ^^^ b.1, t.2.1 ^^^ b.2.1, t.2.2.1 ^^^ (b.2.2.1 ^^^ ((fs_pws b.1 b.2.1 t.1 t.2.1 n &&& 3) >>> ((1 : Int32) &&& 31))), t.2.2.2 ^^^ b.2.2.2)
theorem fs_ml_abs {n : Nat} (hn : n ≤ 10) {t b : fs_Q} (ht : fs_01 t.2.2.1) (hb : fs_sq n b) : fs_abs (fs_ml n t b) = fs_rm (fs_abs b) (fs_abs t) ∧ fs_01 (fs_ml n t b).2.2.1 := by
  obtain ⟨hb1, hb2⟩ := hb
  have hS : fs_lo (fs_pws b.1 b.2.1 t.1 t.2.1 n) = fs_S (fs_abs b).1 (fs_abs t).1 := by
    rw [fs_pws_lo hn]
    refine (fs_s_more hn fun w h1 h2 => ?_).symm
    show fs_be (bt b.1 w) (bt b.2.1 w) _ _ = 0#2
    rw [show bt b.1 w = false from (hb1 w h1).1, show bt b.2.1 w = false from (hb1 w h1).2]
    exact fs_be0 _ _
  unfold fs_ml
  rw [fs_and3, hS]
  have hb2' : b.2.2.1 = fs_b (bt b.2.2.1 0) := hb2
  have ec : t.2.2.1 ^^^ (b.2.2.1 ^^^ fs_b ((fs_S (fs_abs b).1 (fs_abs t).1).getLsbD 1)) = t.2.2.1 ^^^ fs_b (bt b.2.2.1 0 ^^ (fs_S (fs_abs b).1 (fs_abs t).1).getLsbD 1) := by
    rw [← fs_b_xor, ← hb2']
  rw [ec]
  obtain ⟨h1, h2⟩ := fs_01_x ht (bt b.2.2.1 0 ^^ (fs_S (fs_abs b).1 (fs_abs t).1).getLsbD 1)
  refine ⟨Prod.ext (Prod.ext ?_ ?_) (Prod.ext h2 rfl), h1⟩
  · funext w; exact b_xor _ _ _
  · funext w; exact b_xor _ _ _
-- the reference's gates on a row
def fs_gd (q : fs_Q) (k a b : Int32) : fs_Q :=
  let x := fs_bi q.1 a
  let z := fs_bi q.2.1 a
  if k = 0 then (q.1 ^^^ ((x ^^^ z) <<< (a &&& 31)), q.2.1 ^^^ ((x ^^^ z) <<< (a &&& 31)), q.2.2.1 ^^^ (x &&& z), q.2.2.2)
  else if k = 1 then (q.1, q.2.1 ^^^ (x <<< (a &&& 31)), q.2.2.1 ^^^ (x &&& z), q.2.2.2)
  else if k = 2 then (q.1 ^^^ (x <<< (b &&& 31)), q.2.1 ^^^ (fs_bi q.2.1 b <<< (a &&& 31)), q.2.2.1 ^^^ (x &&& fs_bi q.2.1 b &&& (fs_bi q.1 b ^^^ z ^^^ 1)), q.2.2.2)
  else if k = 3 then (q.1, q.2.1 ^^^ ((fs_bi q.1 b <<< (a &&& 31)) ||| (x <<< (b &&& 31))), q.2.2.1 ^^^ (x &&& fs_bi q.1 b &&& (z ^^^ fs_bi q.2.1 b)), q.2.2.2)
  else if k = 4 then (q.1 ^^^ (((fs_bi q.1 a ^^^ fs_bi q.1 b) <<< (a &&& 31)) ||| ((fs_bi q.1 a ^^^ fs_bi q.1 b) <<< (b &&& 31))), q.2.1 ^^^ (((fs_bi q.2.1 a ^^^ fs_bi q.2.1 b) <<< (a &&& 31)) ||| ((fs_bi q.2.1 a ^^^ fs_bi q.2.1 b) <<< (b &&& 31))), q.2.2.1, q.2.2.2)
  else if k = 5 then (q.1, q.2.1, q.2.2.1 ^^^ z, q.2.2.2)
  else (q.1, q.2.1, q.2.2.1 ^^^ x, q.2.2.2)
theorem fs_bi_b {a : Nat} (ha : a < 32) (x : Int32) : fs_bi x (nI a) = fs_b (bt x a) := fs_onS ha x
theorem fs_gd_abs {n k a b : Nat} (hn : n ≤ 10) (h : fs_okg n k a b) {bv : Int32} (hb : 2 ≤ k → k ≤ 4 → bv = nI b) {q : fs_Q} (hc : fs_01 q.2.2.1) : fs_abs (fs_gd q (nI k) (nI a) bv) = fs_gr k a b (fs_abs q) ∧ fs_01 (fs_gd q (nI k) (nI a) bv).2.2.1 := by
  obtain ⟨h1, h2, h3⟩ := h
  have ha : a < 32 := by omega
  revert h3 hb
  refine fs_kind7 (P := fun k => (2 ≤ k → k ≤ 4 → bv = nI b) → (2 ≤ k → k ≤ 4 → b < n ∧ a ≠ b) → fs_abs (fs_gd q (nI k) (nI a) bv) = fs_gr k a b (fs_abs q) ∧ fs_01 (fs_gd q (nI k) (nI a) bv).2.2.1) ?_ ?_ ?_ ?_ ?_ ?_ ?_ h1 <;> intro g1 g2
  · have e : fs_gd q (nI 0) (nI a) bv = (q.1 ^^^ ((fs_bi q.1 (nI a) ^^^ fs_bi q.2.1 (nI a)) <<< (nI a &&& 31)), q.2.1 ^^^ ((fs_bi q.1 (nI a) ^^^ fs_bi q.2.1 (nI a)) <<< (nI a &&& 31)), q.2.2.1 ^^^ (fs_bi q.1 (nI a) &&& fs_bi q.2.1 (nI a)), q.2.2.2) := rfl
    rw [e, fs_bi_b ha, fs_bi_b ha, fs_b_and, fs_b_xor]
    obtain ⟨c1, c2⟩ := fs_01_x hc (bt q.1 a && bt q.2.1 a)
    refine ⟨Prod.ext (Prod.ext ?_ ?_) (Prod.ext c2 rfl), c1⟩
    · show bt (q.1 ^^^ _) = fs_up (bt q.1) a (bt q.2.1 a)
      rw [fs_turn ha]; exact congrArg _ (fs_xzx _ _).1
    · show bt (q.2.1 ^^^ _) = fs_up (bt q.2.1) a (bt q.1 a)
      rw [fs_turn ha]; exact congrArg _ (fs_xzx _ _).2
  · have e : fs_gd q (nI 1) (nI a) bv = (q.1, q.2.1 ^^^ (fs_bi q.1 (nI a) <<< (nI a &&& 31)), q.2.2.1 ^^^ (fs_bi q.1 (nI a) &&& fs_bi q.2.1 (nI a)), q.2.2.2) := rfl
    rw [e, fs_bi_b ha, fs_bi_b ha, fs_b_and]
    obtain ⟨c1, c2⟩ := fs_01_x hc (bt q.1 a && bt q.2.1 a)
    refine ⟨Prod.ext (Prod.ext rfl ?_) (Prod.ext c2 rfl), c1⟩
    show bt (q.2.1 ^^^ _) = fs_up (bt q.2.1) a (bt q.2.1 a ^^ bt q.1 a)
    rw [fs_turn ha]
  · obtain ⟨q1, q2⟩ := g2 (by omega) (by omega)
    have hb' : b < 32 := by omega
    rw [g1 (by omega) (by omega)]
    have e : fs_gd q (nI 2) (nI a) (nI b) = (q.1 ^^^ (fs_bi q.1 (nI a) <<< (nI b &&& 31)), q.2.1 ^^^ (fs_bi q.2.1 (nI b) <<< (nI a &&& 31)), q.2.2.1 ^^^ (fs_bi q.1 (nI a) &&& fs_bi q.2.1 (nI b) &&& (fs_bi q.1 (nI b) ^^^ fs_bi q.2.1 (nI a) ^^^ 1)), q.2.2.2) := rfl
    rw [e, fs_bi_b ha, fs_bi_b ha, fs_bi_b hb', fs_bi_b hb', fs_b_and, fs_b_xor, fs_b_not, fs_b_and, fs_nt]
    obtain ⟨c1, c2⟩ := fs_01_x hc (bt q.1 a && bt q.2.1 b && (bt q.1 b ^^ bt q.2.1 a ^^ true))
    refine ⟨Prod.ext (Prod.ext ?_ ?_) (Prod.ext c2 rfl), c1⟩
    · show bt (q.1 ^^^ _) = fs_up (bt q.1) b (bt q.1 b ^^ bt q.1 a)
      rw [fs_turn hb']
    · show bt (q.2.1 ^^^ _) = fs_up (bt q.2.1) a (bt q.2.1 a ^^ bt q.2.1 b)
      rw [fs_turn ha]
  · obtain ⟨q1, q2⟩ := g2 (by omega) (by omega)
    have hb' : b < 32 := by omega
    rw [g1 (by omega) (by omega)]
    have e : fs_gd q (nI 3) (nI a) (nI b) = (q.1, q.2.1 ^^^ ((fs_bi q.1 (nI b) <<< (nI a &&& 31)) ||| (fs_bi q.1 (nI a) <<< (nI b &&& 31))), q.2.2.1 ^^^ (fs_bi q.1 (nI a) &&& fs_bi q.1 (nI b) &&& (fs_bi q.2.1 (nI a) ^^^ fs_bi q.2.1 (nI b))), q.2.2.2) := rfl
    rw [e, fs_bi_b ha, fs_bi_b ha, fs_bi_b hb', fs_bi_b hb', fs_b_and, fs_b_xor, fs_b_and]
    obtain ⟨c1, c2⟩ := fs_01_x hc (bt q.1 a && bt q.1 b && (bt q.2.1 a ^^ bt q.2.1 b))
    refine ⟨Prod.ext (Prod.ext rfl ?_) (Prod.ext c2 rfl), c1⟩
    show bt (q.2.1 ^^^ _) = fs_up (fs_up (bt q.2.1) a (bt q.2.1 a ^^ bt q.1 b)) b (bt q.2.1 b ^^ bt q.1 a)
    rw [fs_turn2 ha hb' q2]
  · obtain ⟨q1, q2⟩ := g2 (by omega) (by omega)
    have hb' : b < 32 := by omega
    rw [g1 (by omega) (by omega)]
    have e : fs_gd q (nI 4) (nI a) (nI b) = (q.1 ^^^ (((fs_bi q.1 (nI a) ^^^ fs_bi q.1 (nI b)) <<< (nI a &&& 31)) ||| ((fs_bi q.1 (nI a) ^^^ fs_bi q.1 (nI b)) <<< (nI b &&& 31))), q.2.1 ^^^ (((fs_bi q.2.1 (nI a) ^^^ fs_bi q.2.1 (nI b)) <<< (nI a &&& 31)) ||| ((fs_bi q.2.1 (nI a) ^^^ fs_bi q.2.1 (nI b)) <<< (nI b &&& 31))), q.2.2.1, q.2.2.2) := rfl
    rw [e, fs_bi_b ha, fs_bi_b ha, fs_bi_b hb', fs_bi_b hb', fs_b_xor, fs_b_xor]
    refine ⟨Prod.ext (Prod.ext ?_ ?_) (Prod.ext (fs_bs0 _).symm rfl), hc⟩
    · show bt (q.1 ^^^ _) = fs_up (fs_up (bt q.1) a (bt q.1 b)) b (bt q.1 a)
      rw [fs_turn2 ha hb' q2, (fs_xzx _ _).1, (fs_xzx _ _).2]
    · show bt (q.2.1 ^^^ _) = fs_up (fs_up (bt q.2.1) a (bt q.2.1 b)) b (bt q.2.1 a)
      rw [fs_turn2 ha hb' q2, (fs_xzx _ _).1, (fs_xzx _ _).2]
  · have e : fs_gd q (nI 5) (nI a) bv = (q.1, q.2.1, q.2.2.1 ^^^ fs_bi q.2.1 (nI a), q.2.2.2) := rfl
    rw [e, fs_bi_b ha]
    obtain ⟨c1, c2⟩ := fs_01_x hc (bt q.2.1 a)
    exact ⟨Prod.ext rfl (Prod.ext c2 rfl), c1⟩
  · have e : fs_gd q (nI 6) (nI a) bv = (q.1, q.2.1, q.2.2.1 ^^^ fs_bi q.1 (nI a), q.2.2.2) := rfl
    rw [e, fs_bi_b ha]
    obtain ⟨c1, c2⟩ := fs_01_x hc (bt q.1 a)
    exact ⟨Prod.ext rfl (Prod.ext c2 rfl), c1⟩
