-- the cells of an object of the reference
def fs_kt (k : Nat) : Nat := match k with
  | 1 => 0
  | 2 => 0
  | 3 => 0
  | 4 => 0
  | 5 => 0
  | 6 => 0
  | 8 => 0
  | 9 => 0
  | 10 => 0
  | 12 => 0
  | 15 => 0
  | 7 => 1
  | 11 => 1
  | 13 => 1
  | 16 => 1
  | _ => 2
def fs_ln (k : Nat) : Nat := match k with
  | 1 => 300
  | 2 => 300
  | 3 => 300
  | 4 => 40
  | 5 => 40
  | 6 => 40
  | 7 => 16
  | 8 => 10
  | 9 => 10
  | 10 => 10
  | 11 => 10
  | 12 => 60
  | 13 => 60
  | 14 => 10
  | 15 => 40
  | 16 => 40
  | _ => 0
theorem fs_kt0 {k : Nat} (h : fs_kt k < 2) : 1 ≤ k ∧ k ≤ 16 ∧ k ≠ 14 := by
  refine ⟨?_, ?_, ?_⟩
  · rcases Nat.eq_zero_or_pos k with rfl | q; exact absurd h (by decide); exact q
  · rcases Nat.lt_or_ge k 17 with q | q
    · omega
    · obtain ⟨j, rfl⟩ : ∃ j, k = 17 + j := ⟨k - 17, by omega⟩
      rw [show 17 + j = j + 17 by omega] at h
      exact absurd h (by show ¬ (2 < 2); decide)
  · rintro rfl; exact absurd h (by decide)
theorem fs_ktn {j k : Nat} (h : fs_kt j ≠ fs_kt k) : j ≠ k := fun z => h (by rw [z])
def fs_ME (b : Nat) (cn : Nat → Nat) (si : Nat → Int32) (sl : Nat → Int64) : va_E := .inr (4, [.int (si 0), .int (nI (cn 0)), .int (nI (cn 1)), .int (nI (cn 2)), .int (nI (cn 3)), .int (nI (cn 4)), .ref (b + 1), .ref (b + 2), .ref (b + 3), .ref (b + 4), .ref (b + 5), .ref (b + 6), .ref (b + 7), .ref (b + 8), .ref (b + 9), .ref (b + 10), .ref (b + 11), .ref (b + 12), .ref (b + 13), .ref (b + 14), .int (si 20), .int (si 21), .int (si 22), .long (sl 23), .int (si 24), .int (si 25), .long (sl 26), .int (si 27), .ref (b + 15), .ref (b + 16)])
def fs_MW (ct : Nat → ClassId) (M : fm_M) (b : Nat) (cn : Nat → Nat) (si : Nat → Int32) (sl : Nat → Int64) (ia : Nat → Nat → Int32) (la : Nat → Nat → Int64) : Prop :=
  M b = some (fs_ME b cn si sl) ∧ (∀ k, fs_kt k = 0 → M (b + k) = some (.inl (ct 0, fs_ln k, .inl (ia k)))) ∧ (∀ k, fs_kt k = 1 → M (b + k) = some (.inl (ct 1, fs_ln k, .inr (.inl (la k))))) ∧ M (b + 14) = some (.inl (ct 2, 10, .inl (ia 14)))
theorem fs_MW_o {ct : Nat → ClassId} {M : fm_M} {b : Nat} {cn : Nat → Nat} {si : Nat → Int32} {sl : Nat → Int64} {ia : Nat → Nat → Int32} {la : Nat → Nat → Int64} (C : fs_MW ct M b cn si sl ia la) (cn2 : Nat → Nat) (si2 : Nat → Int32) (sl2 : Nat → Int64) : fs_MW ct (va_up M b (some (fs_ME b cn2 si2 sl2))) b cn2 si2 sl2 ia la := by
  obtain ⟨t1, t2, t3, t4⟩ := C
  exact ⟨fm_us, fun k hk => (fm_un (by have := fs_kt0 (k := k) (by omega); omega)).trans (t2 k hk), fun k hk => (fm_un (by have := fs_kt0 (k := k) (by omega); omega)).trans (t3 k hk), (fm_un (by omega)).trans t4⟩
theorem fs_MW_i {ct : Nat → ClassId} {M : fm_M} {b : Nat} {cn : Nat → Nat} {si : Nat → Int32} {sl : Nat → Int64} {ia : Nat → Nat → Int32} {la : Nat → Nat → Int64} (C : fs_MW ct M b cn si sl ia la) (k : Nat) (hk : fs_kt k = 0) (f : Nat → Int32) : fs_MW ct (va_up M (b + k) (some (.inl (ct 0, fs_ln k, .inl f)))) b cn si sl (va_up ia k f) la := by
  obtain ⟨t1, t2, t3, t4⟩ := C
  have hk0 := fs_kt0 (k := k) (by omega)
  refine ⟨(fm_un (by omega)).trans t1, fun j hj => ?_, fun j hj => (fm_un (by have := fs_ktn (j := j) (k := k) (by rw [hj, hk]; decide); omega)).trans (t3 j hj), ?_⟩
  · by_cases q : j = k
    · subst q
      rw [fm_us, fu_s]
    · rw [fm_un (by omega), fu_n q]
      exact t2 j hj
  · rw [fm_un (by omega), fu_n (by omega)]
    exact t4
theorem fs_MW_l {ct : Nat → ClassId} {M : fm_M} {b : Nat} {cn : Nat → Nat} {si : Nat → Int32} {sl : Nat → Int64} {ia : Nat → Nat → Int32} {la : Nat → Nat → Int64} (C : fs_MW ct M b cn si sl ia la) (k : Nat) (hk : fs_kt k = 1) (f : Nat → Int64) : fs_MW ct (va_up M (b + k) (some (.inl (ct 1, fs_ln k, .inr (.inl f))))) b cn si sl ia (va_up la k f) := by
  obtain ⟨t1, t2, t3, t4⟩ := C
  have hk0 := fs_kt0 (k := k) (by omega)
  refine ⟨(fm_un (by omega)).trans t1, fun j hj => (fm_un (by have := fs_ktn (j := j) (k := k) (by rw [hj, hk]; decide); omega)).trans (t2 j hj), fun j hj => ?_, (fm_un (by omega)).trans t4⟩
  by_cases q : j = k
  · subst q
    rw [fm_us, fu_s]
  · rw [fm_un (by omega), fu_n q]
    exact t3 j hj
theorem fs_MW_z {ct : Nat → ClassId} {M : fm_M} {b : Nat} {cn : Nat → Nat} {si : Nat → Int32} {sl : Nat → Int64} {ia : Nat → Nat → Int32} {la : Nat → Nat → Int64} (C : fs_MW ct M b cn si sl ia la) (f : Nat → Int32) : fs_MW ct (va_up M (b + 14) (some (.inl (ct 2, 10, .inl f)))) b cn si sl (va_up ia 14 f) la := by
  obtain ⟨t1, t2, t3, t4⟩ := C
  refine ⟨(fm_un (by omega)).trans t1, fun j hj => ?_, fun j hj => (fm_un (by have := fs_kt0 (k := j) (by omega); omega)).trans (t3 j hj), ?_⟩
  · have := fs_kt0 (k := j) (by omega)
    rw [fm_un (by omega), fu_n (by omega)]
    exact t2 j hj
  · rw [fm_us, fu_s]
theorem fs_MW_frame {ct : Nat → ClassId} {M M2 : fm_M} {b : Nat} {cn : Nat → Nat} {si : Nat → Int32} {sl : Nat → Int64} {ia : Nat → Nat → Int32} {la : Nat → Nat → Int64} (C : fs_MW ct M b cn si sl ia la) (h : ∀ a, b ≤ a → a < b + 17 → M2 a = M a) : fs_MW ct M2 b cn si sl ia la := by
  obtain ⟨t1, t2, t3, t4⟩ := C
  refine ⟨(h _ (by omega) (by omega)).trans t1, fun j hj => ?_, fun j hj => ?_, (h _ (by omega) (by omega)).trans t4⟩
  · have := fs_kt0 (k := j) (by omega)
    exact (h _ (by omega) (by omega)).trans (t2 j hj)
  · have := fs_kt0 (k := j) (by omega)
    exact (h _ (by omega) (by omega)).trans (t3 j hj)
def fs_Mf (b : Nat) (M M2 : fm_M) : Prop := ∀ a, ¬ (b ≤ a ∧ a < b + 17) → M2 a = M a
theorem fs_Mf_r {b : Nat} {M : fm_M} : fs_Mf b M M := fun _ _ => rfl
theorem fs_Mf_u {b : Nat} {M M2 : fm_M} (h : fs_Mf b M M2) {a : Nat} (ha : b ≤ a ∧ a < b + 17) (e : Option va_E) : fs_Mf b M (va_up M2 a e) := fun x hx => by
  rw [fm_un (by intro z; exact hx (by rw [z]; exact ha))]
  exact h x hx
theorem fs_Mf_t {b : Nat} {M M2 M3 : fm_M} (h : fs_Mf b M M2) (g : fs_Mf b M2 M3) : fs_Mf b M M3 := fun x hx => (g x hx).trans (h x hx)
