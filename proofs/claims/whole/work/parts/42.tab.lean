-- a loop with a counter; the cells of a tableau
theorem fm_loop {p : Program} {l : Launch} {e : Env} {R : Room} {s : State} {m : MethodId} {args : Array Value} {below : List Frame} {meth : Method} {c : Code} {cells slots : Nat} {Q : State → Prop} {D : va_G} {cl : List vw_C} {A : Nat → Prop} {H0 : Heap} {head maxL : Nat} {σ : Type} (N : Nat) (I : Nat → σ → fm_M → Prop) (lvf : Nat → σ → List (Nat × Value))
    (step : ∀ (i : Nat) (u : σ) (M : fm_M) (H : Heap) (locs : List Loc) (ls : Array Slot), i < N → I i u M → fm_W D cl A M H0 H locs → lv_has ls maxL (lvf i u) →
      (∀ (u' : σ) (M' : fm_M) (H' : Heap) (locs' : List Loc) (ls' : Array Slot), I (i + 1) u' M' → fm_W D cl A M' H0 H' locs' → lv_has ls' maxL (lvf (i + 1) u') → W p l e R s m args below meth c H' locs' cells slots Q (F0 m head ls' [])) → W p l e R s m args below meth c H locs cells slots Q (F0 m head ls []))
    (ex : ∀ (u : σ) (M : fm_M) (H : Heap) (locs : List Loc) (ls : Array Slot), I N u M → fm_W D cl A M H0 H locs → lv_has ls maxL (lvf N u) → W p l e R s m args below meth c H locs cells slots Q (F0 m head ls [])) :
    ∀ (k i : Nat), i + k = N → ∀ (u : σ) (M : fm_M) (H : Heap) (locs : List Loc) (ls : Array Slot), I i u M → fm_W D cl A M H0 H locs → lv_has ls maxL (lvf i u) → W p l e R s m args below meth c H locs cells slots Q (F0 m head ls []) := by
  intro k
  induction k with
  | zero =>
    intro i hi u M H locs ls h1 h2 h3
    have : i = N := by omega
    subst this
    exact ex u M H locs ls h1 h2 h3
  | succ k ih =>
    intro i hi u M H locs ls h1 h2 h3
    exact step i u M H locs ls (by omega) h1 h2 h3 (fun u' M' H' locs' ls' g1 g2 g3 => ih (i + 1) (by omega) u' M' H' locs' ls' g1 g2 g3)
def fs_rk (b : Nat) : Nat → Option Nat := fun i => if i < 10 then some (b + 4 + 2 * i) else none
def fs_rp (b : Nat) : Nat → Option Nat := fun i => if i < 10 then some (b + 5 + 2 * i) else none
theorem fs_rk_at {b i : Nat} (h : i < 10) : fs_rk b (nI i).toNatClampNeg = some (b + 4 + 2 * i) := by
  rw [nI_clamp (by omega)]
  exact if_pos h
theorem fs_rp_at {b i : Nat} (h : i < 10) : fs_rp b (nI i).toNatClampNeg = some (b + 5 + 2 * i) := by
  rw [nI_clamp (by omega)]
  exact if_pos h
abbrev fs_ra (c : ClassId) (n : Nat) (f : Nat → Option Nat) : va_E := .inl (c, n, .inr (.inr (.inr (.inr f))))
def fs_TB (ct : Nat → ClassId) (M : fm_M) (b : Nat) (kp pn : Nat → fs_Q) (pr : fs_Q) (w : Int32) : Prop :=
  M (b + 1) = some (.inr (1, [.ref (b + 2), .ref (b + 3), .ref (b + 24), .int w])) ∧ M (b + 2) = some (fs_ra (ct 3) 10 (fs_rk b)) ∧ M (b + 3) = some (fs_ra (ct 3) 10 (fs_rp b)) ∧
  (∀ i, i < 10 → M (b + 4 + 2 * i) = some (fs_PE (kp i))) ∧ (∀ i, i < 10 → M (b + 5 + 2 * i) = some (fs_PE (pn i))) ∧ M (b + 24) = some (fs_PE pr)
theorem fs_TB_frame {ct : Nat → ClassId} {M M' : fm_M} {b : Nat} {kp pn : Nat → fs_Q} {pr : fs_Q} {w : Int32} (T : fs_TB ct M b kp pn pr w) (h : ∀ a, b + 1 ≤ a → a < b + 25 → M' a = M a) : fs_TB ct M' b kp pn pr w := by
  obtain ⟨t1, t2, t3, t4, t5, t6⟩ := T
  exact ⟨by rw [h _ (by omega) (by omega)]; exact t1, by rw [h _ (by omega) (by omega)]; exact t2, by rw [h _ (by omega) (by omega)]; exact t3, fun i hi => by rw [h _ (by omega) (by omega)]; exact t4 i hi, fun i hi => by rw [h _ (by omega) (by omega)]; exact t5 i hi, by rw [h _ (by omega) (by omega)]; exact t6⟩
theorem fs_TB_K {ct : Nat → ClassId} {M : fm_M} {b : Nat} {kp pn : Nat → fs_Q} {pr : fs_Q} {w : Int32} (T : fs_TB ct M b kp pn pr w) {i : Nat} (hi : i < 10) (q : fs_Q) : fs_TB ct (va_up M (b + 4 + 2 * i) (some (fs_PE q))) b (va_up kp i q) pn pr w := by
  obtain ⟨t1, t2, t3, t4, t5, t6⟩ := T
  refine ⟨(fm_un (by omega)).trans t1, (fm_un (by omega)).trans t2, (fm_un (by omega)).trans t3, fun j hj => ?_, fun j hj => (fm_un (by omega)).trans (t5 j hj), (fm_un (by omega)).trans t6⟩
  by_cases h : j = i
  · subst h
    rw [fm_us, show va_up kp j q j = q from if_pos rfl]
  · rw [fm_un (by omega), show va_up kp i q j = kp j from if_neg h]
    exact t4 j hj
theorem fs_TB_P {ct : Nat → ClassId} {M : fm_M} {b : Nat} {kp pn : Nat → fs_Q} {pr : fs_Q} {w : Int32} (T : fs_TB ct M b kp pn pr w) {i : Nat} (hi : i < 10) (q : fs_Q) : fs_TB ct (va_up M (b + 5 + 2 * i) (some (fs_PE q))) b kp (va_up pn i q) pr w := by
  obtain ⟨t1, t2, t3, t4, t5, t6⟩ := T
  refine ⟨(fm_un (by omega)).trans t1, (fm_un (by omega)).trans t2, (fm_un (by omega)).trans t3, fun j hj => (fm_un (by omega)).trans (t4 j hj), fun j hj => ?_, (fm_un (by omega)).trans t6⟩
  by_cases h : j = i
  · subst h
    rw [fm_us, show va_up pn j q j = q from if_pos rfl]
  · rw [fm_un (by omega), show va_up pn i q j = pn j from if_neg h]
    exact t5 j hj
theorem fs_TB_R {ct : Nat → ClassId} {M : fm_M} {b : Nat} {kp pn : Nat → fs_Q} {pr : fs_Q} {w : Int32} (T : fs_TB ct M b kp pn pr w) (q : fs_Q) : fs_TB ct (va_up M (b + 24) (some (fs_PE q))) b kp pn q w := by
  obtain ⟨t1, t2, t3, t4, t5, t6⟩ := T
  exact ⟨(fm_un (by omega)).trans t1, (fm_un (by omega)).trans t2, (fm_un (by omega)).trans t3, fun j hj => (fm_un (by omega)).trans (t4 j hj), fun j hj => (fm_un (by omega)).trans (t5 j hj), fm_us⟩
theorem fs_TB_W {ct : Nat → ClassId} {M : fm_M} {b : Nat} {kp pn : Nat → fs_Q} {pr : fs_Q} {w : Int32} (T : fs_TB ct M b kp pn pr w) (v : Int32) : fs_TB ct (va_up M (b + 1) (some (.inr (1, [.ref (b + 2), .ref (b + 3), .ref (b + 24), .int v])))) b kp pn pr v := by
  obtain ⟨t1, t2, t3, t4, t5, t6⟩ := T
  exact ⟨fm_us, (fm_un (by omega)).trans t2, (fm_un (by omega)).trans t3, fun j hj => (fm_un (by omega)).trans (t4 j hj), fun j hj => (fm_un (by omega)).trans (t5 j hj), (fm_un (by omega)).trans t6⟩
/-- nothing but the tableau has changed -/
def fs_Tf (b : Nat) (M M' : fm_M) : Prop := ∀ a, ¬ (b + 1 ≤ a ∧ a < b + 25) → M' a = M a
theorem fs_Tf_r {b : Nat} {M : fm_M} : fs_Tf b M M := fun _ _ => rfl
theorem fs_Tf_u {b : Nat} {M M' : fm_M} (h : fs_Tf b M M') {a : Nat} (ha : b + 1 ≤ a ∧ a < b + 25) (e : Option va_E) : fs_Tf b M (va_up M' a e) := fun x hx => by
  rw [fm_un (by intro z; exact hx (by rw [z]; exact ha))]
  exact h x hx
/-- a family, done up to i -/
def fs_Up {α : Type} (i : Nat) (f g h : Nat → α) : Prop := (∀ j, j < i → h j = g j) ∧ ∀ j, i ≤ j → h j = f j
theorem fs_Up_0 {α : Type} (f g : Nat → α) : fs_Up 0 f g f := ⟨fun j hj => absurd hj (Nat.not_lt_zero j), fun _ _ => rfl⟩
theorem fs_Up_s {α : Type} {i : Nat} {f g h : Nat → α} (H : fs_Up i f g h) {v : α} (hv : v = g i) : fs_Up (i + 1) f g (va_up h i v) := by
  refine ⟨fun j hj => ?_, fun j hj => ?_⟩
  · by_cases q : j = i
    · subst q
      rw [show va_up h j v j = v from if_pos rfl, hv]
    · rw [show va_up h i v j = h j from if_neg q]
      exact H.1 j (by omega)
  · rw [show va_up h i v j = h j from if_neg (by omega)]
    exact H.2 j (by omega)
theorem fs_Up_k {α : Type} {i : Nat} {f g h : Nat → α} (H : fs_Up i f g h) (hv : h i = g i) : fs_Up (i + 1) f g h := by
  refine ⟨fun j hj => ?_, fun j hj => H.2 j (by omega)⟩
  by_cases q : j = i
  · rw [q]; exact hv
  · exact H.1 j (by omega)
