theorem fs_mm5 : fs_uN 6148914691236517205 = fs_rep 85 8 := by decide +kernel
theorem fs_m3' : fs_uN 3689348814741910323 = fs_rep 51 8 := by decide +kernel
theorem fs_mf : fs_uN 1085102592571150095 = fs_rep 15 8 := by decide +kernel
theorem fs_r3 : fs_rep 51 8 = 3689348814741910323 := by decide +kernel
theorem fs_bc1 (x : Int64) : fs_uN (x - (fs_ushl x 1 &&& 6148914691236517205)) = fs_t1 (fs_rep 85 8) (fs_uN x) := by
  have a : fs_uN (fs_ushl x 1 &&& 6148914691236517205) = fs_uN x / 2 &&& fs_rep 85 8 := by
    rw [fs_uN_and, show (1 : Int32) = nI 1 from rfl, fs_uN_sh (by omega), fs_mm5]
    try rfl
  have b : fs_uN x / 2 &&& fs_rep 85 8 ≤ fs_uN x := Nat.le_trans Nat.and_le_left (Nat.div_le_self _ _)
  rw [fs_uN_sub (by rw [a]; exact b), a]
  rfl
theorem fs_bc2l (n : Nat) : n &&& fs_rep 51 8 ≤ 3689348814741910323 := by rw [← fs_r3]; exact Nat.and_le_right
theorem fs_bc2 (y : Int64) : fs_uN ((y &&& 3689348814741910323) + (fs_ushl y 2 &&& 3689348814741910323)) = fs_t2 (fs_rep 51 8) (fs_uN y) := by
  have a : fs_uN (fs_ushl y 2 &&& 3689348814741910323) = fs_uN y / 4 &&& fs_rep 51 8 := by
    rw [fs_uN_and, show (2 : Int32) = nI 2 from rfl, fs_uN_sh (by omega), fs_m3']
  have b : fs_uN (y &&& 3689348814741910323) = fs_uN y &&& fs_rep 51 8 := by rw [fs_uN_and, fs_m3']
  have h1 := fs_bc2l (fs_uN y)
  have h2 := fs_bc2l (fs_uN y / 4)
  rw [fs_uN_add (by rw [a, b]; exact Nat.lt_of_le_of_lt (Nat.add_le_add h1 h2) (by decide)), a, b]
  rfl
theorem fs_bc2u (n : Nat) : fs_t2 (fs_rep 51 8) n ≤ 7378697629483820646 := Nat.add_le_add (fs_bc2l n) (fs_bc2l (n / 4))
theorem fs_bc3 {y : Int64} (h : fs_uN y ≤ 7378697629483820646) : fs_uN ((y + fs_ushl y 4) &&& 1085102592571150095) = fs_t3 (fs_rep 15 8) (fs_uN y) := by
  have a : fs_uN (fs_ushl y 4) = fs_uN y / 16 := by
    rw [show (4 : Int32) = nI 4 from rfl, fs_uN_sh (by omega)]
  rw [fs_uN_and, fs_uN_add (by rw [a]; omega), a, fs_mf]
  rfl
theorem fs_bcs {y : Int64} {k : Nat} (hk : k < 64) (h : fs_uN y + fs_uN y / 2 ^ k < 2 ^ 64) : fs_uN (y + fs_ushl y (nI k)) = fs_uN y + fs_uN y / 2 ^ k := by
  have a : fs_uN (fs_ushl y (nI k)) = fs_uN y / 2 ^ k := fs_uN_sh hk y
  rw [fs_uN_add (by rw [a]; exact h), a]
theorem fs_bce (i : Int64) : i.toInt32 &&& 127 = nI (fs_uN i % 128) := by
  have g : i.toInt32.toBitVec.toNat = fs_uN i % 2 ^ 32 := by
    rw [Int64.toBitVec_toInt32, BitVec.signExtend_eq_setWidth_of_le _ (by decide), BitVec.toNat_setWidth]
    rfl
  rw [pk_and i.toInt32 7 (by decide), g]
  congr 1
  omega
theorem fs_bcl_pc (x : Int64) : fs_bcl x = nI (fs_pc 64 (fs_uN x)) := by
  obtain ⟨p0, p1, p2, p3, p4, p5, p6, p7, hp, hb, hc⟩ := fs_bs8 (fs_uN x)
  have k2 := (fs_t12 8 (fs_uN x) (Nat.lt_of_lt_of_le (fs_uN_lt x) (by decide))).2
  unfold fs_bcl
  dsimp only
  have e1 := fs_bc1 x
  generalize x - (fs_ushl x 1 &&& 6148914691236517205) = i1 at e1 ⊢
  have e2 := fs_bc2 i1
  have u2 := fs_bc2u (fs_uN i1)
  rw [← e2] at u2
  generalize (i1 &&& 3689348814741910323) + (fs_ushl i1 2 &&& 3689348814741910323) = i2 at e2 u2 ⊢
  have e3 := fs_bc3 u2
  generalize (i2 + fs_ushl i2 4) &&& 1085102592571150095 = i3 at e3 ⊢
  rw [e2, e1, k2, hb] at e3
  clear k2 e1 e2 u2 hb
  obtain ⟨f1, f2, f3, f4⟩ := fs_fold hp e3 (i1 := fs_uN i3 + fs_uN i3 / 256) rfl rfl rfl
  clear hp e3
  have e4 : fs_uN (i3 + fs_ushl i3 8) = fs_uN i3 + fs_uN i3 / 256 := fs_bcs (k := 8) (by decide) f2
  rw [← e4] at f1 f3 f4
  clear f2 e4
  generalize i3 + fs_ushl i3 8 = i4 at *
  have e5 : fs_uN (i4 + fs_ushl i4 16) = fs_uN i4 + fs_uN i4 / 65536 := fs_bcs (k := 16) (by decide) f3
  rw [← e5] at f1 f4
  clear f3 e5
  generalize i4 + fs_ushl i4 16 = i5 at *
  have e6 : fs_uN (i5 + fs_ushl i5 32) = fs_uN i5 + fs_uN i5 / 4294967296 := fs_bcs (k := 32) (by decide) f4
  rw [← e6] at f1
  clear f4 e6
  generalize i5 + fs_ushl i5 32 = i6 at *
  rw [hc, ← f1]
  exact fs_bce i6
theorem fs_pa_class (x : Int64) : fs_bcl x &&& 1 = fs_b (fs_pa x) := by
  rw [fs_bcl_pc, pk_and (nI (fs_pc 64 (fs_uN x))) 1 (by decide), pk_tn (by have := fs_pc_le 64 (fs_uN x); omega)]
  unfold fs_pa fs_uN
  generalize fs_pc 64 x.toBitVec.toNat = k
  rw [show k % 2 ^ 1 = k % 2 from rfl]
  rcases (show k % 2 = 0 ∨ k % 2 = 1 by omega) with h | h
  · rw [h]; rfl
  · rw [h]; rfl
theorem fs_pa_congr {x y : Int64} (h : x = y) : fs_pa x = fs_pa y := by rw [h]
