-- trailing zeros; odds
theorem fs_tz {t w : Nat} (hw : w % 2 = 1) (j : Nat) : (2 ^ t * w - 1).testBit j = if j < t then true else if j = t then false else (2 ^ t * w).testBit j := by
  have hp : 0 < 2 ^ t := Nat.pow_pos (by decide)
  have e : 2 ^ t * w - 1 = 2 ^ t * (w - 1) + (2 ^ t - 1) := by
    obtain ⟨v, rfl⟩ : ∃ v, w = v + 1 := ⟨w - 1, by omega⟩
    rw [Nat.mul_succ, Nat.add_sub_cancel]
    omega
  rw [e, Nat.testBit_two_pow_mul_add _ (by omega)]
  by_cases h : j < t
  · rw [if_pos h, if_pos h, Nat.testBit_two_pow_sub_one, decide_eq_true h]
  · rw [if_neg h, if_neg h]
    by_cases g : j = t
    · rw [if_pos g, g, Nat.sub_self, Nat.testBit_zero]
      exact decide_eq_false (by omega)
    · rw [if_neg g, Nat.testBit_two_pow_mul, decide_eq_true (show j ≥ t by omega), Bool.true_and]
      obtain ⟨k, hk⟩ : ∃ k, j - t = k + 1 := ⟨j - t - 1, by omega⟩
      rw [hk, Nat.testBit_succ, Nat.testBit_succ, show (w - 1) / 2 = w / 2 by omega]
theorem fs_tzb {t w : Nat} (hw : w % 2 = 1) (j : Nat) : (((2 ^ t * w).testBit j ^^ true) && (2 ^ t * w - 1).testBit j) = decide (j < t) := by
  rw [fs_tz hw j]
  by_cases h : j < t
  · rw [if_pos h, decide_eq_true h, Nat.testBit_two_pow_mul, decide_eq_false (show ¬ j ≥ t by omega)]; rfl
  · rw [if_neg h, decide_eq_false h]
    by_cases g : j = t
    · rw [if_pos g, Bool.and_false]
    · rw [if_neg g]
      cases (2 ^ t * w).testBit j <;> rfl
theorem fs_btn {n : Nat} (h : n < 2 ^ 32) (i : Nat) : bt (nI n) i = n.testBit i := by
  rw [fs_bt_nat, pk_tn h]
def fs_mk0 (x : Int32) : Int32 := (x ^^^ (-1)) &&& (x - 1)
theorem fs_mk0_t {x : Int32} {t w : Nat} (hw : w % 2 = 1) (hx : x.toBitVec.toNat = 2 ^ t * w) (ht : t < 32) : fs_mk0 x = nI (2 ^ t - 1) := by
  have hp : 0 < 2 ^ t := Nat.pow_pos (by decide)
  have h1 : 1 ≤ 2 ^ t * w := Nat.mul_pos hp (by omega)
  have hlt : 2 ^ t * w < 2 ^ 32 := by rw [← hx]; exact x.toBitVec.isLt
  have hxn : x = nI (2 ^ t * w) := by rw [← hx]; exact fs_nI_of x
  have h2 : 2 ^ t ≤ 2 ^ 31 := Nat.pow_le_pow_right (by decide) (by omega)
  unfold fs_mk0
  refine b_ext fun i hi => ?_
  have hs : x - 1 = nI (2 ^ t * w - 1) := by rw [hxn]; exact pk_sub (b := 1) h1
  rw [b_and, b_xor, b_m1 i hi, hs, hxn, fs_btn hlt, fs_btn (by omega), fs_btn (by omega), fs_tzb hw, Nat.testBit_two_pow_sub_one]
def fs_n1 (q : Int32 × Int32) : Int32 × Int32 := if q.2 ≤ 65536 then q else (q.1 + 16, fs_ush q.2 16)
def fs_n2 (q : Int32 × Int32) : Int32 × Int32 := if q.2 ≤ 256 then q else (q.1 + 8, fs_ush q.2 8)
def fs_n3 (q : Int32 × Int32) : Int32 × Int32 := if q.2 ≤ 16 then q else (q.1 + 4, fs_ush q.2 4)
def fs_n4 (q : Int32 × Int32) : Int32 × Int32 := if q.2 ≤ 4 then q else (q.1 + 2, fs_ush q.2 2)
def fs_n5 (q : Int32 × Int32) : Int32 := q.1 + fs_ush q.2 1
def fs_nzb (y : Int32) : Int32 := if 0 < y then fs_n5 (fs_n4 (fs_n3 (fs_n2 (fs_n1 (1, y))))) else y &&& 32
theorem fs_nzb_t : ∀ t, t < 33 → fs_nzb (nI (2 ^ t - 1)) = nI t := by decide +kernel
def fs_nzl (x : Int64) : Int32 := if x.toInt32 = 0 then 32 + fs_nzb (fs_mk0 (fs_ushl x 32).toInt32) else fs_nzb (fs_mk0 x.toInt32)
theorem fs_nzl_0 : fs_nzl 0 = nI 64 := by decide +kernel
theorem fs_lo32 (x : Int64) : x.toInt32.toBitVec.toNat = fs_uN x % 2 ^ 32 := by
  show (x.toBitVec.signExtend 32).toNat = x.toBitVec.toNat % 2 ^ 32
  rw [BitVec.signExtend_eq_setWidth_of_le _ (by decide), BitVec.toNat_setWidth]
theorem fs_nzl_t {x : Int64} {t w : Nat} (hw : w % 2 = 1) (hx : fs_uN x = 2 ^ t * w) : fs_nzl x = nI t := by
  have hlt := fs_uN_lt x
  have hp : 0 < 2 ^ t := Nat.pow_pos (by decide)
  have ht : t < 64 := by
    rcases Nat.lt_or_ge t 64 with h | h
    · exact h
    · have h1 : 2 ^ 64 ≤ 2 ^ t := Nat.pow_le_pow_right (by decide) h
      have h2 : 2 ^ t * 1 ≤ 2 ^ t * w := Nat.mul_le_mul_left _ (by omega)
      omega
  unfold fs_nzl
  rcases Nat.lt_or_ge t 32 with h | h
  · have e32 : 2 ^ 32 = 2 ^ t * 2 ^ (32 - t) := by rw [← Nat.pow_add]; congr 1; omega
    have hl : x.toInt32.toBitVec.toNat = 2 ^ t * (w % 2 ^ (32 - t)) := by rw [fs_lo32, hx, e32, Nat.mul_mod_mul_left]
    have hodd : w % 2 ^ (32 - t) % 2 = 1 := by
      have hd : 2 ∣ 2 ^ (32 - t) := ⟨2 ^ (32 - t - 1), by rw [← Nat.pow_succ']; congr 1; omega⟩
      rw [Nat.mod_mod_of_dvd _ hd]; exact hw
    have hne : ¬ x.toInt32 = 0 := fun z => by
      rw [z] at hl
      have h3 : 1 ≤ 2 ^ t * (w % 2 ^ (32 - t)) := Nat.mul_pos hp (by omega)
      rw [← hl] at h3
      exact absurd h3 (by decide)
    rw [if_neg hne, fs_mk0_t hodd hl h, fs_nzb_t t (by omega)]
  · have e2 : 2 ^ t * w = 2 ^ 32 * (2 ^ (t - 32) * w) := by rw [← Nat.mul_assoc, ← Nat.pow_add]; congr 2; omega
    have hz : x.toInt32 = 0 := by
      have : x.toInt32.toBitVec.toNat = 0 := by rw [fs_lo32, hx, e2, Nat.mul_mod_right]
      exact Int32.toBitVec_inj.mp (BitVec.eq_of_toNat_eq this)
    have hd : fs_uN (fs_ushl x 32) = 2 ^ (t - 32) * w := by
      rw [show (32 : Int32) = nI 32 from rfl, fs_uN_sh (by omega), hx, e2, Nat.mul_div_cancel_left _ (by decide)]
    have hl2 : 2 ^ (t - 32) * w < 2 ^ 32 := by rw [e2] at hx; omega
    have hl : (fs_ushl x 32).toInt32.toBitVec.toNat = 2 ^ (t - 32) * w := by rw [fs_lo32, hd, Nat.mod_eq_of_lt hl2]
    rw [if_pos hz, fs_mk0_t hw hl (by omega), fs_nzb_t _ (by omega), show (32 : Int32) = nI 32 from rfl, nI_add]
    congr 1; omega
-- the odds
def fs_oN (kf : Nat → Nat) (mem : Nat → Bool) : Nat → Nat × Nat × Int × Nat
  | 0 => (0, 1, 1, 0)
  | i + 1 => if mem i = true then ((fs_oN kf mem i).1 * (16 - kf i) + (fs_oN kf mem i).2.1 * kf i, (fs_oN kf mem i).2.1 * (16 - kf i) + (fs_oN kf mem i).1 * kf i, (fs_oN kf mem i).2.2.1 * (8 - kf i), (fs_oN kf mem i).2.2.2 + 1) else fs_oN kf mem i
theorem fs_oN_OI {kf : Nat → Nat} {mem : Nat → Bool} : ∀ {i : Nat}, (∀ j, j < i → kf j ≤ 16) → fs_OI (fs_oN kf mem i).2.2.2 (fs_oN kf mem i).1 (fs_oN kf mem i).2.1 (fs_oN kf mem i).2.2.1 := by
  intro i
  induction i with
  | zero => intro _; exact fs_OI_0
  | succ i ih =>
    intro hk
    have h := ih (fun j hj => hk j (by omega))
    by_cases q : mem i = true
    · rw [show fs_oN kf mem (i + 1) = _ from if_pos q]
      exact fs_OI_s (hk i (by omega)) h
    · rw [show fs_oN kf mem (i + 1) = _ from if_neg q]
      exact h
/-- the class's loop -/
def fs_oe (od : Nat → Int32) (mb : Int64) : Nat → Int64 × Int64
  | 0 => (0, 1)
  | i + 1 => if bl mb i = true then ((fs_oe od mb i).1 * (16 - (od i).toInt64) + (fs_oe od mb i).2 * (od i).toInt64, (fs_oe od mb i).2 * (16 - (od i).toInt64) + (fs_oe od mb i).1 * (od i).toInt64) else fs_oe od mb i
theorem fs_lN16 {k : Nat} (h : k ≤ 16) : (16 : Int64) - lN k = lN (16 - k) := lN_sub (a := 16) h
theorem fs_oe_N {od : Nat → Int32} {kf : Nat → Nat} {mb : Int64} : ∀ {i : Nat}, (∀ j, j < i → kf j ≤ 16 ∧ od j = nI (kf j)) → fs_oe od mb i = (lN (fs_oN kf (bl mb) i).1, lN (fs_oN kf (bl mb) i).2.1) := by
  intro i
  induction i with
  | zero => intro _; rfl
  | succ i ih =>
    intro hk
    have h := ih (fun j hj => hk j (by omega))
    obtain ⟨h1, h2⟩ := hk i (by omega)
    by_cases q : bl mb i = true
    · rw [show fs_oe od mb (i + 1) = _ from if_pos q, show fs_oN kf (bl mb) (i + 1) = _ from if_pos q, h, h2, nI_l (by omega), fs_lN16 h1]
      simp only [lN_mul, lN_add]
    · rw [show fs_oe od mb (i + 1) = _ from if_neg q, show fs_oN kf (bl mb) (i + 1) = _ from if_neg q]
      exact h
/-- the reference's loop: all, even, power -/
def fs_ae (fo : Nat → Int32) (mb : Int64) : Nat → Int64 × Int64 × Int32
  | 0 => (1, 1, 1)
  | i + 1 => if bl mb i = true then ((fs_ae fo mb i).1 * 8, (fs_ae fo mb i).2.1 * (8 - (fo i).toInt64), (fs_ae fo mb i).2.2 + 3) else fs_ae fo mb i
theorem fs_8k {k : Nat} (h : k ≤ 16) : (8 : Int64) - lN k = Int64.ofInt (8 - (k : Int)) := by
  rw [show (8 : Int64) = Int64.ofInt 8 from rfl, show lN k = Int64.ofInt (k : Int) from rfl, ← Int64.ofInt_sub]
theorem fs_ae_N {fo : Nat → Int32} {kf : Nat → Nat} {mb : Int64} : ∀ {i : Nat}, (∀ j, j < i → kf j ≤ 16 ∧ fo j = nI (kf j)) → fs_ae fo mb i = (lN (8 ^ (fs_oN kf (bl mb) i).2.2.2), Int64.ofInt (fs_oN kf (bl mb) i).2.2.1, nI (1 + 3 * (fs_oN kf (bl mb) i).2.2.2)) := by
  intro i
  induction i with
  | zero => intro _; rfl
  | succ i ih =>
    intro hk
    have h := ih (fun j hj => hk j (by omega))
    obtain ⟨h1, h2⟩ := hk i (by omega)
    by_cases q : bl mb i = true
    · rw [show fs_ae fo mb (i + 1) = _ from if_pos q, show fs_oN kf (bl mb) (i + 1) = _ from if_pos q, h, h2, nI_l (by omega), fs_8k h1]
      refine Prod.ext ?_ (Prod.ext ?_ ?_)
      · show lN _ * 8 = lN (8 ^ (_ + 1))
        rw [show (8 : Int64) = lN 8 from rfl, lN_mul, Nat.pow_succ]
      · show Int64.ofInt _ * Int64.ofInt _ = Int64.ofInt _
        rw [← Int64.ofInt_mul]
      · show nI _ + 3 = nI _
        rw [show (3 : Int32) = nI 3 from rfl, nI_add]
        congr 1
    · rw [show fs_ae fo mb (i + 1) = _ from if_neg q, show fs_oN kf (bl mb) (i + 1) = _ from if_neg q]
      exact h
theorem fs_cnt_pc {kf : Nat → Nat} {mb : Int64} : ∀ i, (fs_oN kf (bl mb) i).2.2.2 = fs_pc i (fs_uN mb) := by
  intro i
  induction i with
  | zero => rfl
  | succ i ih =>
    rw [fs_pc_1, ← ih]
    have hb : bl mb i = decide (fs_uN mb / 2 ^ i % 2 = 1) := Nat.testBit_eq_decide_div_mod_eq
    by_cases q : bl mb i = true
    · rw [show fs_oN kf (bl mb) (i + 1) = _ from if_pos q]
      rw [hb] at q
      rw [of_decide_eq_true q]
    · rw [show fs_oN kf (bl mb) (i + 1) = _ from if_neg q]
      rw [hb] at q
      have : ¬ fs_uN mb / 2 ^ i % 2 = 1 := fun z => q (decide_eq_true z)
      rw [show fs_uN mb / 2 ^ i % 2 = 0 by omega]
      rfl
