theorem fs_dv1 (a r : Nat) (h : a < 256) : (a + 256 * r) / 256 = r := by omega
theorem fs_dv2 (a b r : Nat) (ha : a < 256) (hb : b < 256) : (a + 256 * (b + 256 * r)) / 65536 = r := by omega
theorem fs_dv4 (a b c d r : Nat) (ha : a < 256) (hb : b < 256) (hc : c < 256) (hd : d < 256) : (a + 256 * (b + 256 * (c + 256 * (d + 256 * r)))) / 4294967296 = r := by
  rw [show (4294967296 : Nat) = 65536 * 65536 from rfl, ← Nat.div_div_eq_div_mul, fs_dv2 a b _ ha hb, fs_dv2 c d _ hc hd]
theorem fs_fold {i p0 p1 p2 p3 p4 p5 p6 p7 : Nat} (h : p0 ≤ 8 ∧ p1 ≤ 8 ∧ p2 ≤ 8 ∧ p3 ≤ 8 ∧ p4 ≤ 8 ∧ p5 ≤ 8 ∧ p6 ≤ 8 ∧ p7 ≤ 8) (e : i = p0 + 256 * (p1 + 256 * (p2 + 256 * (p3 + 256 * (p4 + 256 * (p5 + 256 * (p6 + 256 * p7)))))))  {i1 i2 i3 : Nat} (h1 : i1 = i + i / 256) (h2 : i2 = i1 + i1 / 65536) (h3 : i3 = i2 + i2 / 4294967296) : i3 % 128 = p0 + p1 + p2 + p3 + p4 + p5 + p6 + p7 ∧ i1 < 2 ^ 64 ∧ i2 < 2 ^ 64 ∧ i3 < 2 ^ 64 := by
  obtain ⟨g0, g1, g2, g3, g4, g5, g6, g7⟩ := h
  have a1 : i1 = (p0 + p1) + 256 * ((p1 + p2) + 256 * ((p2 + p3) + 256 * ((p3 + p4) + 256 * ((p4 + p5) + 256 * ((p5 + p6) + 256 * ((p6 + p7) + 256 * p7)))))) := by
    have d : i / 256 = p1 + 256 * (p2 + 256 * (p3 + 256 * (p4 + 256 * (p5 + 256 * (p6 + 256 * p7))))) := by rw [e]; exact fs_dv1 _ _ (by omega)
    rw [h1, d, e]
    clear h1 h2 h3 d e g0 g1 g2 g3 g4 g5 g6 g7
    simp only [Nat.mul_add]
    omega
  have a2 : i2 = (p0 + p1 + p2 + p3) + 256 * ((p1 + p2 + p3 + p4) + 256 * ((p2 + p3 + p4 + p5) + 256 * ((p3 + p4 + p5 + p6) + 256 * ((p4 + p5 + p6 + p7) + 256 * ((p5 + p6 + p7) + 256 * ((p6 + p7) + 256 * p7)))))) := by
    have d : i1 / 65536 = (p2 + p3) + 256 * ((p3 + p4) + 256 * ((p4 + p5) + 256 * ((p5 + p6) + 256 * ((p6 + p7) + 256 * p7)))) := by rw [a1]; exact fs_dv2 _ _ _ (by omega) (by omega)
    rw [h2, d, a1]
    clear h1 h2 h3 d e a1 g0 g1 g2 g3 g4 g5 g6 g7
    simp only [Nat.mul_add]
    omega
  have a3 : i3 = (p0 + p1 + p2 + p3 + p4 + p5 + p6 + p7) + 256 * ((p1 + p2 + p3 + p4 + p5 + p6 + p7) + 256 * ((p2 + p3 + p4 + p5 + p6 + p7) + 256 * ((p3 + p4 + p5 + p6 + p7) + 256 * ((p4 + p5 + p6 + p7) + 256 * ((p5 + p6 + p7) + 256 * ((p6 + p7) + 256 * p7)))))) := by
    have d : i2 / 4294967296 = (p4 + p5 + p6 + p7) + 256 * ((p5 + p6 + p7) + 256 * ((p6 + p7) + 256 * p7)) := by rw [a2]; exact fs_dv4 _ _ _ _ _ (by omega) (by omega) (by omega) (by omega)
    rw [h3, d, a2]
    clear h1 h2 h3 d e a1 a2 g0 g1 g2 g3 g4 g5 g6 g7
    simp only [Nat.mul_add]
    omega
  clear h1 h2 h3 e
  refine ⟨?_, ?_, ?_, ?_⟩
  · rw [a3]
    clear a1 a2 a3
    generalize (p1 + p2 + p3 + p4 + p5 + p6 + p7) + 256 * ((p2 + p3 + p4 + p5 + p6 + p7) + 256 * ((p3 + p4 + p5 + p6 + p7) + 256 * ((p4 + p5 + p6 + p7) + 256 * ((p5 + p6 + p7) + 256 * ((p6 + p7) + 256 * p7))))) = r
    omega
  · rw [a1]; clear a1 a2 a3; omega
  · rw [a2]; clear a1 a2 a3; omega
  · rw [a3]; clear a1 a2 a3; omega
