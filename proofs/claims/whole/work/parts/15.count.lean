-- counting bits
def fs_pc : Nat → Nat → Nat
  | 0, _ => 0
  | k + 1, n => n % 2 + fs_pc k (n / 2)
theorem fs_pc_0 (k : Nat) : fs_pc k 0 = 0 := by
  induction k with
  | zero => rfl
  | succ k ih => show 0 % 2 + fs_pc k (0 / 2) = 0; rw [Nat.zero_div, ih]
theorem fs_pc_le (k n : Nat) : fs_pc k n ≤ k := by
  induction k generalizing n with
  | zero => exact Nat.le_refl 0
  | succ k ih =>
    show n % 2 + fs_pc k (n / 2) ≤ k + 1
    have := ih (n / 2)
    omega
theorem fs_pc_add (j k n : Nat) : fs_pc (j + k) n = fs_pc j n + fs_pc k (n / 2 ^ j) := by
  induction j generalizing n with
  | zero => simp [fs_pc]
  | succ j ih =>
    rw [show j + 1 + k = (j + k) + 1 by omega]
    show n % 2 + fs_pc (j + k) (n / 2) = n % 2 + fs_pc j (n / 2) + fs_pc k (n / 2 ^ (j + 1))
    rw [ih, Nat.div_div_eq_div_mul, show 2 * 2 ^ j = 2 ^ (j + 1) by rw [Nat.pow_succ, Nat.mul_comm]]
    omega
theorem fs_pc_mod (j n : Nat) : fs_pc j (n % 2 ^ j) = fs_pc j n := by
  induction j generalizing n with
  | zero => rfl
  | succ j ih =>
    show n % 2 ^ (j + 1) % 2 + fs_pc j (n % 2 ^ (j + 1) / 2) = n % 2 + fs_pc j (n / 2)
    have h1 : n % 2 ^ (j + 1) % 2 = n % 2 := Nat.mod_mod_of_dvd n ⟨2 ^ j, by rw [Nat.pow_succ, Nat.mul_comm]⟩
    have h2 : n % 2 ^ (j + 1) / 2 = n / 2 % 2 ^ j := by
      rw [Nat.pow_succ, Nat.mul_comm, Nat.mod_mul_right_div_self]
    rw [h1, h2, ih]
/-- bytes side by side -/
def fs_rep (c : Nat) : Nat → Nat
  | 0 => 0
  | k + 1 => c + 256 * fs_rep c k
theorem fs_land8 {a c : Nat} (ha : a < 256) (hc : c < 256) (b d : Nat) : (a + 256 * b) &&& (c + 256 * d) = (a &&& c) + 256 * (b &&& d) := by
  have e1 : a + 256 * b = 2 ^ 8 * b + a := by omega
  have e2 : c + 256 * d = 2 ^ 8 * d + c := by omega
  have e3 : (a &&& c) + 256 * (b &&& d) = 2 ^ 8 * (b &&& d) + (a &&& c) := by omega
  rw [e1, e2, e3]
  apply Nat.eq_of_testBit_eq
  intro i
  have hac : a &&& c < 2 ^ 8 := Nat.lt_of_le_of_lt Nat.and_le_left ha
  rw [Nat.testBit_and, Nat.testBit_two_pow_mul_add b (i := 8) ha i, Nat.testBit_two_pow_mul_add d (i := 8) hc i, Nat.testBit_two_pow_mul_add (b &&& d) (i := 8) hac i]
  split
  · rw [Nat.testBit_and]
  · rw [Nat.testBit_and]
def fs_t1 (m n : Nat) : Nat := n - (n / 2 &&& m)
def fs_t2 (m n : Nat) : Nat := (n &&& m) + (n / 4 &&& m)
def fs_t3 (m n : Nat) : Nat := (n + n / 16) &&& m
theorem fs_w1 : ∀ b, b < 256 → (b / 2 &&& 85) ≤ b ∧ (((b / 2 + 128) &&& 85) = (b / 2 &&& 85)) := by decide +kernel
theorem fs_t1_b {k b n : Nat} (hb : b < 256) : fs_t1 (fs_rep 85 (k + 1)) (b + 256 * n) = fs_t1 85 b + 256 * fs_t1 (fs_rep 85 k) n := by
  unfold fs_t1
  have e : (b + 256 * n) / 2 = (b / 2 + 128 * (n % 2)) + 256 * (n / 2) := by omega
  have h := fs_w1 b hb
  have hl : b / 2 + 128 * (n % 2) < 256 := by omega
  have hx : (b / 2 + 128 * (n % 2)) &&& 85 = b / 2 &&& 85 := by
    rcases (show n % 2 = 0 ∨ n % 2 = 1 by omega) with q | q
    · rw [q]; rfl
    · rw [q]; exact h.2
  have hn : n / 2 &&& fs_rep 85 k ≤ n := Nat.le_trans Nat.and_le_left (Nat.div_le_self n 2)
  show b + 256 * n - ((b + 256 * n) / 2 &&& (85 + 256 * fs_rep 85 k)) = b - (b / 2 &&& 85) + 256 * (n - (n / 2 &&& fs_rep 85 k))
  rw [e, fs_land8 hl (by omega), hx]
  have := h.1
  omega
theorem fs_w2 : ∀ b, b < 256 → (∀ r, r < 4 → ((b / 4 + 64 * r) &&& 51) = (b / 4 &&& 51)) := by decide +kernel
theorem fs_t2_b {k b n : Nat} (hb : b < 256) : fs_t2 (fs_rep 51 (k + 1)) (b + 256 * n) = fs_t2 51 b + 256 * fs_t2 (fs_rep 51 k) n := by
  unfold fs_t2
  have e : (b + 256 * n) / 4 = (b / 4 + 64 * (n % 4)) + 256 * (n / 4) := by omega
  have hl : b / 4 + 64 * (n % 4) < 256 := by omega
  have hx := fs_w2 b hb (n % 4) (by omega)
  show ((b + 256 * n) &&& (51 + 256 * fs_rep 51 k)) + ((b + 256 * n) / 4 &&& (51 + 256 * fs_rep 51 k)) = _
  rw [e, fs_land8 hb (by omega), fs_land8 hl (by omega), hx]
  omega
/-- nibbles of at most 4 -/
def fs_small (b : Nat) : Prop := b % 16 ≤ 4 ∧ b / 16 ≤ 4
theorem fs_w4 : ∀ b, b < 256 → b % 16 ≤ 4 → b / 16 ≤ 4 → ∀ r, r < 5 → b + b / 16 + 16 * r < 256 ∧ ((b + b / 16 + 16 * r) &&& 15) = ((b + b / 16) &&& 15) := by decide +kernel
def fs_pcb (b : Nat) : Nat := fs_t3 15 (fs_t2 51 (fs_t1 85 b))
theorem fs_w5 : ∀ b, b < 256 → fs_pcb b = fs_pc 8 b ∧ fs_t2 51 (fs_t1 85 b) < 256 ∧ fs_t2 51 (fs_t1 85 b) % 16 ≤ 4 ∧ fs_t2 51 (fs_t1 85 b) / 16 ≤ 4 ∧ fs_t1 85 b < 256 := by decide +kernel
def fs_bs (n : Nat) : Nat → Nat
  | 0 => 0
  | k + 1 => fs_pc 8 (n % 256) + 256 * fs_bs (n / 256) k
theorem fs_t12 (k : Nat) : ∀ n, n < 256 ^ k → (fs_t2 (fs_rep 51 k) (fs_t1 (fs_rep 85 k) n)) % 16 ≤ 4 ∧ fs_t3 (fs_rep 15 k) (fs_t2 (fs_rep 51 k) (fs_t1 (fs_rep 85 k) n)) = fs_bs n k := by
  induction k with
  | zero =>
    intro n hn
    have : n = 0 := by simp at hn; exact hn
    subst this
    exact ⟨by decide, rfl⟩
  | succ k ih =>
    intro n hn
    have hq : n / 256 < 256 ^ k := by
      rw [Nat.pow_succ] at hn
      exact Nat.div_lt_of_lt_mul (by rw [Nat.mul_comm]; exact hn)
    have hb : n % 256 < 256 := Nat.mod_lt _ (by omega)
    obtain ⟨i1, i2⟩ := ih (n / 256) hq
    obtain ⟨p1, p2, p3, p4, p5⟩ := fs_w5 (n % 256) hb
    have en : n = n % 256 + 256 * (n / 256) := by omega
    have e1 : fs_t1 (fs_rep 85 (k + 1)) n = fs_t1 85 (n % 256) + 256 * fs_t1 (fs_rep 85 k) (n / 256) := by
      conv => lhs; rw [en]
      exact fs_t1_b hb
    have e2 : fs_t2 (fs_rep 51 (k + 1)) (fs_t1 (fs_rep 85 (k + 1)) n) = fs_t2 51 (fs_t1 85 (n % 256)) + 256 * fs_t2 (fs_rep 51 k) (fs_t1 (fs_rep 85 k) (n / 256)) := by
      rw [e1]; exact fs_t2_b p5
    refine ⟨by rw [e2]; omega, ?_⟩
    rw [e2]
    have p1' : (fs_t2 51 (fs_t1 85 (n % 256)) + fs_t2 51 (fs_t1 85 (n % 256)) / 16) &&& 15 = fs_pc 8 (n % 256) := p1
    clear p1 e1 e2
    generalize fs_t2 51 (fs_t1 85 (n % 256)) = u at *
    generalize fs_t2 (fs_rep 51 k) (fs_t1 (fs_rep 85 k) (n / 256)) = v at *
    obtain ⟨g1, g2⟩ := fs_w4 u p2 p3 p4 (v % 16) (by omega)
    have e3 : u + 256 * v + (u + 256 * v) / 16 = (u + u / 16 + 16 * (v % 16)) + 256 * (v + v / 16) := by omega
    have hp1 : (u + u / 16) &&& 15 = fs_pc 8 (n % 256) := p1'
    show (u + 256 * v + (u + 256 * v) / 16) &&& (15 + 256 * fs_rep 15 k) = fs_pc 8 (n % 256) + 256 * fs_bs (n / 256) k
    rw [e3, fs_land8 g1 (by omega), g2, hp1]
    have i2' : (v + v / 16) &&& fs_rep 15 k = fs_bs (n / 256) k := i2
    rw [i2']
theorem fs_pc8 (n : Nat) : fs_pc 8 (n % 256) = fs_pc 8 n := fs_pc_mod 8 n
theorem fs_bs8 (n : Nat) : ∃ p0 p1 p2 p3 p4 p5 p6 p7 : Nat, (p0 ≤ 8 ∧ p1 ≤ 8 ∧ p2 ≤ 8 ∧ p3 ≤ 8 ∧ p4 ≤ 8 ∧ p5 ≤ 8 ∧ p6 ≤ 8 ∧ p7 ≤ 8) ∧ fs_bs n 8 = p0 + 256 * (p1 + 256 * (p2 + 256 * (p3 + 256 * (p4 + 256 * (p5 + 256 * (p6 + 256 * p7)))))) ∧ fs_pc 64 n = p0 + p1 + p2 + p3 + p4 + p5 + p6 + p7 := by
  have st : ∀ k n, fs_pc (8 + k) n = fs_pc 8 n + fs_pc k (n / 256) := fun k n => fs_pc_add 8 k n
  refine ⟨_, _, _, _, _, _, _, _, ⟨fs_pc_le 8 (n % 256), fs_pc_le 8 (n / 256 % 256), fs_pc_le 8 (n / 256 / 256 % 256), fs_pc_le 8 (n / 256 / 256 / 256 % 256), fs_pc_le 8 (n / 256 / 256 / 256 / 256 % 256), fs_pc_le 8 (n / 256 / 256 / 256 / 256 / 256 % 256), fs_pc_le 8 (n / 256 / 256 / 256 / 256 / 256 / 256 % 256), fs_pc_le 8 (n / 256 / 256 / 256 / 256 / 256 / 256 / 256 % 256)⟩, ?_, ?_⟩
  · simp only [fs_bs]
    omega
  · simp only [fs_pc8]
    rw [show (64 : Nat) = 8 + 56 from rfl, st 56, show (56 : Nat) = 8 + 48 from rfl, st 48, show (48 : Nat) = 8 + 40 from rfl, st 40, show (40 : Nat) = 8 + 32 from rfl, st 32, show (32 : Nat) = 8 + 24 from rfl, st 24, show (24 : Nat) = 8 + 16 from rfl, st 16, show (16 : Nat) = 8 + 8 from rfl, st 8]
    omega
