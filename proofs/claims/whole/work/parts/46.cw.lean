-- the cells of an object of the class
def fs_rf (b : Nat) : Nat → Option Nat := fun i => if i < 40 then some (b + 28 + 2 * i) else none
theorem fs_rf_at {b i : Nat} (h : i < 40) : fs_rf b (nI i).toNatClampNeg = some (b + 28 + 2 * i) := by
  rw [nI_clamp (by omega)]
  exact if_pos h
def fs_CW (ct : Nat → ClassId) (M : fm_M) (b : Nat) (cn : Nat → Nat) (kp pn : Nat → fs_Q) (pr : fs_Q) (lc : Nat → Int32) (lr : Nat → Int64) (fr : Nat → fs_Q) (od : Nat → Int32) (cl : Nat → Int64) (ck : Nat → Int32) (cc : Nat → Int32) (cr : Nat → Int64) : Prop :=
  M b = some (fs_SE b cn) ∧ fs_TB ct M b kp pn pr (nI (cn 0)) ∧ M (b + 25) = some (.inl (ct 0, 60, .inl lc)) ∧ M (b + 26) = some (.inl (ct 1, 60, .inr (.inl lr))) ∧ M (b + 27) = some (fs_ra (ct 4) 40 (fs_rf b)) ∧
  (∀ i, i < 40 → M (b + 28 + 2 * i) = some (fs_FE (b + 29 + 2 * i) (od i) (cl i) (ck i))) ∧ (∀ i, i < 40 → M (b + 29 + 2 * i) = some (fs_PE (fr i))) ∧ M (b + 108) = some (.inl (ct 0, 16, .inl cc)) ∧ M (b + 109) = some (.inl (ct 1, 16, .inr (.inl cr)))
def fs_Cf (b : Nat) (M M2 : fm_M) : Prop := ∀ a, ¬ (b ≤ a ∧ a < b + 110) → M2 a = M a
theorem fs_Cf_r {b : Nat} {M : fm_M} : fs_Cf b M M := fun _ _ => rfl
theorem fs_Cf_u {b : Nat} {M M2 : fm_M} (h : fs_Cf b M M2) {a : Nat} (ha : b ≤ a ∧ a < b + 110) (e : Option va_E) : fs_Cf b M (va_up M2 a e) := fun x hx => by
  rw [fm_un (by intro z; exact hx (by rw [z]; exact ha))]
  exact h x hx
theorem fs_Cf_t {b : Nat} {M M2 M3 : fm_M} (h : fs_Cf b M M2) (g : fs_Tf b M2 M3) : fs_Cf b M M3 := fun x hx => (g x (by omega)).trans (h x hx)
theorem fs_CW_S {ct : Nat → ClassId} {M : fm_M} {b : Nat} {cn : Nat → Nat} {kp pn : Nat → fs_Q} {pr : fs_Q} {lc : Nat → Int32} {lr : Nat → Int64} {fr : Nat → fs_Q} {od : Nat → Int32} {cl : Nat → Int64} {ck : Nat → Int32} {cc : Nat → Int32} {cr : Nat → Int64} (C : fs_CW ct M b cn kp pn pr lc lr fr od cl ck cc cr) {cn2 : Nat → Nat} (h0 : cn2 0 = cn 0) : fs_CW ct (va_up M (b) (some (fs_SE b cn2))) b cn2 kp pn pr lc lr fr od cl ck cc cr := by
  obtain ⟨t1, t2, t3, t4, t5, t6, t7, t8, t9⟩ := C
  refine ⟨fm_us, by rw [h0]; exact fs_TB_frame t2 (fun a h1 h2 => fm_un (by omega)), (fm_un (by omega)).trans t3, (fm_un (by omega)).trans t4, (fm_un (by omega)).trans t5, fun j hj => (fm_un (by omega)).trans (t6 j hj), fun j hj => (fm_un (by omega)).trans (t7 j hj), (fm_un (by omega)).trans t8, (fm_un (by omega)).trans t9⟩
theorem fs_CW_lc {ct : Nat → ClassId} {M : fm_M} {b : Nat} {cn : Nat → Nat} {kp pn : Nat → fs_Q} {pr : fs_Q} {lc : Nat → Int32} {lr : Nat → Int64} {fr : Nat → fs_Q} {od : Nat → Int32} {cl : Nat → Int64} {ck : Nat → Int32} {cc : Nat → Int32} {cr : Nat → Int64} (C : fs_CW ct M b cn kp pn pr lc lr fr od cl ck cc cr) (f : Nat → Int32) : fs_CW ct (va_up M (b + 25) (some (.inl (ct 0, 60, .inl f)))) b cn kp pn pr f lr fr od cl ck cc cr := by
  obtain ⟨t1, t2, t3, t4, t5, t6, t7, t8, t9⟩ := C
  refine ⟨(fm_un (by omega)).trans t1, fs_TB_frame t2 (fun a h1 h2 => fm_un (by omega)), fm_us, (fm_un (by omega)).trans t4, (fm_un (by omega)).trans t5, fun j hj => (fm_un (by omega)).trans (t6 j hj), fun j hj => (fm_un (by omega)).trans (t7 j hj), (fm_un (by omega)).trans t8, (fm_un (by omega)).trans t9⟩
theorem fs_CW_lr {ct : Nat → ClassId} {M : fm_M} {b : Nat} {cn : Nat → Nat} {kp pn : Nat → fs_Q} {pr : fs_Q} {lc : Nat → Int32} {lr : Nat → Int64} {fr : Nat → fs_Q} {od : Nat → Int32} {cl : Nat → Int64} {ck : Nat → Int32} {cc : Nat → Int32} {cr : Nat → Int64} (C : fs_CW ct M b cn kp pn pr lc lr fr od cl ck cc cr) (f : Nat → Int64) : fs_CW ct (va_up M (b + 26) (some (.inl (ct 1, 60, .inr (.inl f))))) b cn kp pn pr lc f fr od cl ck cc cr := by
  obtain ⟨t1, t2, t3, t4, t5, t6, t7, t8, t9⟩ := C
  refine ⟨(fm_un (by omega)).trans t1, fs_TB_frame t2 (fun a h1 h2 => fm_un (by omega)), (fm_un (by omega)).trans t3, fm_us, (fm_un (by omega)).trans t5, fun j hj => (fm_un (by omega)).trans (t6 j hj), fun j hj => (fm_un (by omega)).trans (t7 j hj), (fm_un (by omega)).trans t8, (fm_un (by omega)).trans t9⟩
theorem fs_CW_cc {ct : Nat → ClassId} {M : fm_M} {b : Nat} {cn : Nat → Nat} {kp pn : Nat → fs_Q} {pr : fs_Q} {lc : Nat → Int32} {lr : Nat → Int64} {fr : Nat → fs_Q} {od : Nat → Int32} {cl : Nat → Int64} {ck : Nat → Int32} {cc : Nat → Int32} {cr : Nat → Int64} (C : fs_CW ct M b cn kp pn pr lc lr fr od cl ck cc cr) (f : Nat → Int32) : fs_CW ct (va_up M (b + 108) (some (.inl (ct 0, 16, .inl f)))) b cn kp pn pr lc lr fr od cl ck f cr := by
  obtain ⟨t1, t2, t3, t4, t5, t6, t7, t8, t9⟩ := C
  refine ⟨(fm_un (by omega)).trans t1, fs_TB_frame t2 (fun a h1 h2 => fm_un (by omega)), (fm_un (by omega)).trans t3, (fm_un (by omega)).trans t4, (fm_un (by omega)).trans t5, fun j hj => (fm_un (by omega)).trans (t6 j hj), fun j hj => (fm_un (by omega)).trans (t7 j hj), fm_us, (fm_un (by omega)).trans t9⟩
theorem fs_CW_cr {ct : Nat → ClassId} {M : fm_M} {b : Nat} {cn : Nat → Nat} {kp pn : Nat → fs_Q} {pr : fs_Q} {lc : Nat → Int32} {lr : Nat → Int64} {fr : Nat → fs_Q} {od : Nat → Int32} {cl : Nat → Int64} {ck : Nat → Int32} {cc : Nat → Int32} {cr : Nat → Int64} (C : fs_CW ct M b cn kp pn pr lc lr fr od cl ck cc cr) (f : Nat → Int64) : fs_CW ct (va_up M (b + 109) (some (.inl (ct 1, 16, .inr (.inl f))))) b cn kp pn pr lc lr fr od cl ck cc f := by
  obtain ⟨t1, t2, t3, t4, t5, t6, t7, t8, t9⟩ := C
  refine ⟨(fm_un (by omega)).trans t1, fs_TB_frame t2 (fun a h1 h2 => fm_un (by omega)), (fm_un (by omega)).trans t3, (fm_un (by omega)).trans t4, (fm_un (by omega)).trans t5, fun j hj => (fm_un (by omega)).trans (t6 j hj), fun j hj => (fm_un (by omega)).trans (t7 j hj), (fm_un (by omega)).trans t8, fm_us⟩
theorem fs_CW_F {ct : Nat → ClassId} {M : fm_M} {b : Nat} {cn : Nat → Nat} {kp pn : Nat → fs_Q} {pr : fs_Q} {lc : Nat → Int32} {lr : Nat → Int64} {fr : Nat → fs_Q} {od : Nat → Int32} {cl : Nat → Int64} {ck : Nat → Int32} {cc : Nat → Int32} {cr : Nat → Int64} (C : fs_CW ct M b cn kp pn pr lc lr fr od cl ck cc cr) {i : Nat} (hi : i < 40) (o2 : Int32) (l2 : Int64) (k2 : Int32) : fs_CW ct (va_up M (b + 28 + 2 * i) (some (fs_FE (b + 29 + 2 * i) o2 l2 k2))) b cn kp pn pr lc lr fr (va_up od i o2) (va_up cl i l2) (va_up ck i k2) cc cr := by
  obtain ⟨t1, t2, t3, t4, t5, t6, t7, t8, t9⟩ := C
  refine ⟨(fm_un (by omega)).trans t1, fs_TB_frame t2 (fun a h1 h2 => fm_un (by omega)), (fm_un (by omega)).trans t3, (fm_un (by omega)).trans t4, (fm_un (by omega)).trans t5, fun j hj => ?_, fun j hj => (fm_un (by omega)).trans (t7 j hj), (fm_un (by omega)).trans t8, (fm_un (by omega)).trans t9⟩
  by_cases h : j = i
  · subst h
    rw [fm_us, fu_s, fu_s, fu_s]
  · rw [fm_un (by omega), fu_n h, fu_n h, fu_n h]
    exact t6 j hj
theorem fs_CW_Q {ct : Nat → ClassId} {M : fm_M} {b : Nat} {cn : Nat → Nat} {kp pn : Nat → fs_Q} {pr : fs_Q} {lc : Nat → Int32} {lr : Nat → Int64} {fr : Nat → fs_Q} {od : Nat → Int32} {cl : Nat → Int64} {ck : Nat → Int32} {cc : Nat → Int32} {cr : Nat → Int64} (C : fs_CW ct M b cn kp pn pr lc lr fr od cl ck cc cr) {i : Nat} (hi : i < 40) (q2 : fs_Q) : fs_CW ct (va_up M (b + 29 + 2 * i) (some (fs_PE q2))) b cn kp pn pr lc lr (va_up fr i q2) od cl ck cc cr := by
  obtain ⟨t1, t2, t3, t4, t5, t6, t7, t8, t9⟩ := C
  refine ⟨(fm_un (by omega)).trans t1, fs_TB_frame t2 (fun a h1 h2 => fm_un (by omega)), (fm_un (by omega)).trans t3, (fm_un (by omega)).trans t4, (fm_un (by omega)).trans t5, fun j hj => (fm_un (by omega)).trans (t6 j hj), fun j hj => ?_, (fm_un (by omega)).trans t8, (fm_un (by omega)).trans t9⟩
  by_cases h : j = i
  · subst h
    rw [fm_us, fu_s]
  · rw [fm_un (by omega), fu_n h]
    exact t7 j hj
theorem fs_CW_T {ct : Nat → ClassId} {M M2 : fm_M} {b : Nat} {cn : Nat → Nat} {kp pn : Nat → fs_Q} {pr : fs_Q} {lc : Nat → Int32} {lr : Nat → Int64} {fr : Nat → fs_Q} {od : Nat → Int32} {cl : Nat → Int64} {ck : Nat → Int32} {cc : Nat → Int32} {cr : Nat → Int64} {kp2 pn2 : Nat → fs_Q} {pr2 : fs_Q} (C : fs_CW ct M b cn kp pn pr lc lr fr od cl ck cc cr) (T : fs_TB ct M2 b kp2 pn2 pr2 (nI (cn 0))) (h : fs_Tf b M M2) : fs_CW ct M2 b cn kp2 pn2 pr2 lc lr fr od cl ck cc cr := by
  obtain ⟨t1, t2, t3, t4, t5, t6, t7, t8, t9⟩ := C
  exact ⟨(h _ (by omega)).trans t1, T, (h _ (by omega)).trans t3, (h _ (by omega)).trans t4, (h _ (by omega)).trans t5, fun j hj => (h _ (by omega)).trans (t6 j hj), fun j hj => (h _ (by omega)).trans (t7 j hj), (h _ (by omega)).trans t8, (h _ (by omega)).trans t9⟩
theorem fs_CW_frame {ct : Nat → ClassId} {M M2 : fm_M} {b : Nat} {cn : Nat → Nat} {kp pn : Nat → fs_Q} {pr : fs_Q} {lc : Nat → Int32} {lr : Nat → Int64} {fr : Nat → fs_Q} {od : Nat → Int32} {cl : Nat → Int64} {ck : Nat → Int32} {cc : Nat → Int32} {cr : Nat → Int64} (C : fs_CW ct M b cn kp pn pr lc lr fr od cl ck cc cr) (h : ∀ a, b ≤ a → a < b + 110 → M2 a = M a) : fs_CW ct M2 b cn kp pn pr lc lr fr od cl ck cc cr := by
  obtain ⟨t1, t2, t3, t4, t5, t6, t7, t8, t9⟩ := C
  exact ⟨(h _ (by omega) (by omega)).trans t1, fs_TB_frame t2 (fun a h1 h2 => h a (by omega) (by omega)), (h _ (by omega) (by omega)).trans t3, (h _ (by omega) (by omega)).trans t4, (h _ (by omega) (by omega)).trans t5, fun j hj => (h _ (by omega) (by omega)).trans (t6 j hj), fun j hj => (h _ (by omega) (by omega)).trans (t7 j hj), (h _ (by omega) (by omega)).trans t8, (h _ (by omega) (by omega)).trans t9⟩
