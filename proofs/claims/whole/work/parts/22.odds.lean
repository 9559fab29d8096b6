-- odds: the class counts odd cases out of 16 to the members, the reference halves 8 to the members less a product
/-- j members, o odd and e even cases, E the product of 8 - k -/
def fs_OI (j o e : Nat) (E : Int) : Prop := o + e = 16 ^ j ∧ (e : Int) - o = 2 ^ j * E ∧ -(8 ^ j) ≤ E ∧ E ≤ 8 ^ j
theorem fs_i1 (x k : Int) : x * (2 * (8 - k)) = x * 16 - 2 * (x * k) := by
  have h1 : (2 : Int) * (8 - k) = 16 - 2 * k := by omega
  rw [h1, Int.mul_sub, Int.mul_left_comm]
theorem fs_OI_0 : fs_OI 0 0 1 1 := by
  refine ⟨rfl, ?_, ?_, ?_⟩ <;> decide
theorem fs_OI_s {j o e k : Nat} {E : Int} (hk : k ≤ 16) (h : fs_OI j o e E) : fs_OI (j + 1) (o * (16 - k) + e * k) (e * (16 - k) + o * k) (E * (8 - k)) := by
  obtain ⟨h1, h2, h3, h4⟩ := h
  have e16 : 16 ^ (j + 1) = 16 ^ j * 16 := Nat.pow_succ 16 j
  have e2 : (2 : Int) ^ (j + 1) = 2 ^ j * 2 := Int.pow_succ 2 j
  have e8 : (8 : Int) ^ (j + 1) = 8 ^ j * 8 := Int.pow_succ 8 j
  have ck : ((16 - k : Nat) : Int) = 16 - k := by omega
  refine ⟨?_, ?_, ?_, ?_⟩
  · rw [e16, ← h1]
    have : o * (16 - k) + o * k = o * 16 := by rw [← Nat.mul_add, Nat.sub_add_cancel hk]
    have : e * (16 - k) + e * k = e * 16 := by rw [← Nat.mul_add, Nat.sub_add_cancel hk]
    omega
  · rw [e2]
    have g : ((e * (16 - k) + o * k : Nat) : Int) - ((o * (16 - k) + e * k : Nat) : Int) = ((e : Int) - o) * (2 * (8 - k)) := by
      rw [Int.natCast_add, Int.natCast_add, Int.natCast_mul, Int.natCast_mul, Int.natCast_mul, Int.natCast_mul, ck]
      rw [Int.sub_mul]
      have a1 : (e : Int) * (16 - (k : Int)) = e * 16 - e * k := Int.mul_sub _ _ _
      have a2 : (o : Int) * (16 - (k : Int)) = o * 16 - o * k := Int.mul_sub _ _ _
      have a3 : (e : Int) * (2 * (8 - (k : Int))) = e * 16 - 2 * (e * k) := fs_i1 _ _
      have a4 : (o : Int) * (2 * (8 - (k : Int))) = o * 16 - 2 * (o * k) := fs_i1 _ _
      rw [a1, a2, a3, a4]
      omega
    rw [g, h2, Int.mul_assoc, Int.mul_assoc]
    congr 1
    rw [← Int.mul_assoc, Int.mul_comm E 2, Int.mul_assoc]
  · rw [e8]
    have hb : -8 ≤ (8 : Int) - k ∧ (8 : Int) - k ≤ 8 := by omega
    generalize (8 : Int) - k = d at hb ⊢
    have p : (0 : Int) ≤ 8 ^ j := by omega
    generalize (8 : Int) ^ j = A at *
    have q1 : -(A * 8) ≤ E * d := by
      rcases Int.le_total 0 d with hd | hd
      · have : -A * d ≤ E * d := Int.mul_le_mul_of_nonneg_right h3 hd
        have : A * d ≤ A * 8 := Int.mul_le_mul_of_nonneg_left hb.2 p
        rw [Int.neg_mul] at *
        omega
      · have : A * d ≤ E * d := Int.mul_le_mul_of_nonpos_right h4 hd
        have : A * (-8) ≤ A * d := Int.mul_le_mul_of_nonneg_left hb.1 p
        omega
    exact q1
  · rw [e8]
    have hb : -8 ≤ (8 : Int) - k ∧ (8 : Int) - k ≤ 8 := by omega
    generalize (8 : Int) - k = d at hb ⊢
    have p : (0 : Int) ≤ 8 ^ j := by omega
    generalize (8 : Int) ^ j = A at *
    rcases Int.le_total 0 d with hd | hd
    · have : E * d ≤ A * d := Int.mul_le_mul_of_nonneg_right h4 hd
      have : A * d ≤ A * 8 := Int.mul_le_mul_of_nonneg_left hb.2 p
      omega
    · have : E * d ≤ -A * d := Int.mul_le_mul_of_nonpos_right h3 hd
      have : A * (-8) ≤ A * d := Int.mul_le_mul_of_nonneg_left hb.1 p
      rw [Int.neg_mul] at *
      omega
/-- the odd cases are the reference's u, doubled j - 1 times -/
theorem fs_OI_u {j o e U : Nat} {E : Int} (h : fs_OI (j + 1) o e E) (hU : (U : Int) = 8 ^ (j + 1) - E) : o = 2 ^ j * U := by
  obtain ⟨h1, h2, h3, h4⟩ := h
  have e16 : ((16 ^ (j + 1) : Nat) : Int) = 2 ^ (j + 1) * 8 ^ (j + 1) := by
    rw [Int.natCast_pow, ← Int.mul_pow]; rfl
  have hs : ((o : Int) + e) = 2 ^ (j + 1) * 8 ^ (j + 1) := by rw [← e16, ← h1, Int.natCast_add]
  have h5 : 2 * (o : Int) = 2 ^ (j + 1) * (8 ^ (j + 1) - E) := by rw [Int.mul_sub]; omega
  rw [← hU, Int.pow_succ, Int.mul_comm ((2 : Int) ^ j) 2, Int.mul_assoc] at h5
  have h6 : (o : Int) = 2 ^ j * U := Int.eq_of_mul_eq_mul_left (by decide) h5
  have h7 : ((2 ^ j * U : Nat) : Int) = (2 : Int) ^ j * U := by rw [Int.natCast_mul, Int.natCast_pow]; rfl
  rw [← h7] at h6
  exact Int.ofNat.inj h6
-- halving
def fs_hv : Nat → Nat → Nat × Nat
  | 0, u => (u, 0)
  | p + 1, u => if u % 2 = 0 then fs_hv p (u / 2) else (u, p + 1)
theorem fs_hv_odd (p : Nat) {u : Nat} (h : u % 2 = 1) : fs_hv p u = (u, p) := by
  cases p with
  | zero => rfl
  | succ p =>
    show (if u % 2 = 0 then _ else _) = _
    rw [if_neg (by omega)]
theorem fs_hv_v (v : Nat) : ∀ (p u : Nat), u % 2 = 1 → fs_hv p (2 ^ v * u) = (if v ≤ p then (u, p - v) else (2 ^ (v - p) * u, 0)) := by
  induction v with
  | zero => intro p u hu; rw [Nat.pow_zero, Nat.one_mul, fs_hv_odd p hu, if_pos (Nat.zero_le p)]; rfl
  | succ v ih =>
    intro p u hu
    have e : 2 ^ (v + 1) * u = 2 * (2 ^ v * u) := by rw [Nat.pow_succ, Nat.mul_comm (2 ^ v) 2, Nat.mul_assoc]
    cases p with
    | zero =>
      show (2 ^ (v + 1) * u, 0) = _
      rw [if_neg (by omega)]
      rfl
    | succ p =>
      show (if (2 ^ (v + 1) * u) % 2 = 0 then fs_hv p (2 ^ (v + 1) * u / 2) else _) = _
      rw [e, if_pos (by omega), show 2 * (2 ^ v * u) / 2 = 2 ^ v * u by omega, ih p u hu]
      by_cases q : v ≤ p
      · rw [if_pos q, if_pos (by omega), show p + 1 - (v + 1) = p - v by omega]
      · rw [if_neg q, if_neg (by omega), show v + 1 - (p + 1) = v - p by omega]
theorem fs_two (u : Nat) (h : 0 < u) : ∃ v w, u = 2 ^ v * w ∧ w % 2 = 1 := by
  induction u using Nat.strongRecOn with
  | ind u ih =>
    rcases (show u % 2 = 1 ∨ u % 2 = 0 by omega) with q | q
    · exact ⟨0, u, by rw [Nat.pow_zero, Nat.one_mul], q⟩
    · obtain ⟨v, w, h1, h2⟩ := ih (u / 2) (by omega) (by omega)
      refine ⟨v + 1, w, ?_, h2⟩
      rw [Nat.pow_succ, Nat.mul_comm (2 ^ v) 2, Nat.mul_assoc, ← h1]
      omega
/-- the class's shift: the lesser of the trailing zeros and 4 for each member -/
theorem fs_odds {j U : Nat} (hU : 0 < U) : ∃ v w : Nat, w % 2 = 1 ∧ U = 2 ^ v * w ∧ 2 ^ j * U = 2 ^ (j + v) * w ∧
    fs_hv (3 * (j + 1) + 1) U = (2 ^ j * U / 2 ^ (min (j + v) (4 * (j + 1))), 4 * (j + 1) - min (j + v) (4 * (j + 1))) := by
  obtain ⟨v, w, h1, h2⟩ := fs_two U hU
  refine ⟨v, w, h2, h1, ?_, ?_⟩
  · rw [h1, ← Nat.mul_assoc, ← Nat.pow_add]
  · have e : 2 ^ j * U = 2 ^ (j + v) * w := by rw [h1, ← Nat.mul_assoc, ← Nat.pow_add]
    rw [e, h1, fs_hv_v v _ w h2]
    by_cases q : v ≤ 3 * (j + 1) + 1
    · rw [if_pos q, Nat.min_eq_left (by omega), Nat.mul_div_cancel_left _ (Nat.pow_pos (by decide))]
      congr 1
      omega
    · rw [if_neg q, Nat.min_eq_right (by omega)]
      have e2 : 2 ^ (j + v) = 2 ^ (4 * (j + 1)) * 2 ^ (v - (3 * (j + 1) + 1)) := by rw [← Nat.pow_add]; congr 1; omega
      rw [e2, Nat.mul_assoc, Nat.mul_div_cancel_left _ (Nat.pow_pos (by decide)), Nat.sub_self]
