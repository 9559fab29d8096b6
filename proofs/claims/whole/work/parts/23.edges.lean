-- edges: faults by the checks v that they change
def fs_any (v : Nat → Int32) (x : Int32) : Nat → Bool
  | 0 => false
  | f + 1 => fs_any v x f || decide (v f = x)
def fs_isb (v : Nat → Int32) (f : Nat) : Bool := !decide (v f = 0) && !fs_any v (v f) f
def fs_ce (v : Nat → Int32) : Nat → Nat
  | 0 => 0
  | f + 1 => if fs_isb v f = true then fs_ce v f + 1 else fs_ce v f
def fs_mem (v : Nat → Int32) (x : Int32) : Nat → Int64
  | 0 => 0
  | f + 1 => if v f = x then fs_mem v x f ||| (1 <<< ((nI f).toInt64 &&& 63)) else fs_mem v x f
theorem fs_any_iff {v : Nat → Int32} {x : Int32} {f : Nat} : fs_any v x f = true ↔ ∃ i, i < f ∧ v i = x := by
  induction f with
  | zero => exact ⟨fun h => absurd (show false = true from h) (by decide), fun ⟨i, h, _⟩ => absurd h (Nat.not_lt_zero i)⟩
  | succ f ih =>
    show (fs_any v x f || decide (v f = x)) = true ↔ _
    rw [Bool.or_eq_true, ih, decide_eq_true_eq]
    constructor
    · rintro (⟨i, h1, h2⟩ | h)
      · exact ⟨i, by omega, h2⟩
      · exact ⟨f, by omega, h⟩
    · rintro ⟨i, h1, h2⟩
      by_cases q : i = f
      · subst q; exact Or.inr h2
      · exact Or.inl ⟨i, by omega, h2⟩
theorem fs_isb_iff {v : Nat → Int32} {f : Nat} : fs_isb v f = true ↔ v f ≠ 0 ∧ ∀ i, i < f → v i ≠ v f := by
  unfold fs_isb
  rw [Bool.and_eq_true, Bool.not_eq_true', Bool.not_eq_true', decide_eq_false_iff_not]
  constructor
  · rintro ⟨h1, h2⟩
    exact ⟨h1, fun i hi e => by rw [fs_any_iff.mpr ⟨i, hi, e⟩] at h2; cases h2⟩
  · rintro ⟨h1, h2⟩
    refine ⟨h1, ?_⟩
    cases h : fs_any v (v f) f with
    | false => rfl
    | true =>
      obtain ⟨i, hi, e⟩ := fs_any_iff.mp h
      exact absurd e (h2 i hi)
theorem fs_ce_mono {v : Nat → Int32} {f g : Nat} (h : f ≤ g) : fs_ce v f ≤ fs_ce v g := by
  induction g with
  | zero => rw [show f = 0 by omega]; exact Nat.le_refl _
  | succ g ih =>
    by_cases q : f = g + 1
    · rw [q]; exact Nat.le_refl _
    · have := ih (by omega)
      show fs_ce v f ≤ if fs_isb v g = true then fs_ce v g + 1 else fs_ce v g
      split <;> omega
theorem fs_ce_lt {v : Nat → Int32} {f g : Nat} (hb : fs_isb v f = true) (h : f < g) : fs_ce v f < fs_ce v g := by
  have h1 : fs_ce v (f + 1) = fs_ce v f + 1 := if_pos hb
  have := fs_ce_mono (v := v) (show f + 1 ≤ g from h)
  omega
theorem fs_ce_inj {v : Nat → Int32} {f g : Nat} (hf : fs_isb v f = true) (hg : fs_isb v g = true) (h : fs_ce v f = fs_ce v g) : f = g := by
  rcases Nat.lt_trichotomy f g with q | q | q
  · have := fs_ce_lt hf q; omega
  · exact q
  · have := fs_ce_lt hg q; omega
theorem fs_isb_inj {v : Nat → Int32} {f g : Nat} (hf : fs_isb v f = true) (hg : fs_isb v g = true) (h : v f = v g) : f = g := by
  rcases Nat.lt_trichotomy f g with q | q | q
  · exact absurd h ((fs_isb_iff.mp hg).2 f q)
  · exact q
  · exact absurd h.symm ((fs_isb_iff.mp hf).2 g q)
theorem fs_ce_ex {v : Nat → Int32} {e : Nat} : ∀ {f : Nat}, e < fs_ce v f → ∃ g, g < f ∧ fs_isb v g = true ∧ fs_ce v g = e
  | 0, h => absurd h (Nat.not_lt_zero e)
  | f + 1, h => by
    by_cases hb : fs_isb v f = true
    · have h1 : fs_ce v (f + 1) = fs_ce v f + 1 := if_pos hb
      by_cases q : e = fs_ce v f
      · exact ⟨f, by omega, hb, q.symm⟩
      · obtain ⟨g, g1, g2, g3⟩ := fs_ce_ex (v := v) (f := f) (e := e) (by omega)
        exact ⟨g, by omega, g2, g3⟩
    · have h1 : fs_ce v (f + 1) = fs_ce v f := if_neg hb
      obtain ⟨g, g1, g2, g3⟩ := fs_ce_ex (v := v) (f := f) (e := e) (by omega)
      exact ⟨g, by omega, g2, g3⟩
theorem fs_first {v : Nat → Int32} {x : Int32} (hx : x ≠ 0) : ∀ {f : Nat}, fs_any v x f = true → ∃ g, g < f ∧ fs_isb v g = true ∧ v g = x
  | 0, h => by cases h
  | f + 1, h => by
    by_cases q : fs_any v x f = true
    · obtain ⟨g, g1, g2, g3⟩ := fs_first hx q
      exact ⟨g, by omega, g2, g3⟩
    · obtain ⟨i, hi, e⟩ := fs_any_iff.mp h
      have hif : i = f := by
        rcases Nat.lt_or_ge i f with z | z
        · exact absurd (fs_any_iff.mpr ⟨i, z, e⟩) q
        · omega
      subst hif
      refine ⟨i, by omega, fs_isb_iff.mpr ⟨by rw [e]; exact hx, fun k hk ek => q (fs_any_iff.mpr ⟨k, hk, by rw [ek, e]⟩)⟩, e⟩
theorem fs_ce_le (v : Nat → Int32) (f : Nat) : fs_ce v f ≤ f := by
  induction f with
  | zero => exact Nat.le_refl 0
  | succ f ih =>
    show (if fs_isb v f = true then fs_ce v f + 1 else fs_ce v f) ≤ f + 1
    split <;> omega
/-- the reference's tables of edges behind f faults -/
def fs_Ed (v : Nat → Int32) (f : Nat) (ec : Nat → Int32) (ef : Nat → Int64) : Prop := ∀ g, g < f → fs_isb v g = true → ec (fs_ce v g) = v g ∧ ef (fs_ce v g) = fs_mem v (v g) f
theorem fs_Ed_0 (v : Nat → Int32) (ec : Nat → Int32) (ef : Nat → Int64) : fs_Ed v 0 ec ef := fun g hg => absurd hg (Nat.not_lt_zero g)
theorem fs_mem_ne {v : Nat → Int32} {x : Int32} {f : Nat} (h : v f ≠ x) : fs_mem v x (f + 1) = fs_mem v x f := if_neg h
theorem fs_mem_eq {v : Nat → Int32} {x : Int32} {f : Nat} (h : v f = x) : fs_mem v x (f + 1) = fs_mem v x f ||| (1 <<< ((nI f).toInt64 &&& 63)) := if_pos h
theorem fs_mem_0 {v : Nat → Int32} {x : Int32} : ∀ {f : Nat}, fs_any v x f = false → fs_mem v x f = 0
  | 0, _ => rfl
  | f + 1, h => by
    have h1 : (fs_any v x f || decide (v f = x)) = false := h
    rw [Bool.or_eq_false_iff, decide_eq_false_iff_not] at h1
    rw [fs_mem_ne h1.2]
    exact fs_mem_0 h1.1
/-- a fault without checks -/
theorem fs_Ed_z {v : Nat → Int32} {f : Nat} {ec : Nat → Int32} {ef : Nat → Int64} (E : fs_Ed v f ec ef) (h : v f = 0) : fs_Ed v (f + 1) ec ef ∧ fs_ce v (f + 1) = fs_ce v f := by
  have hb : ¬ fs_isb v f = true := fun q => (fs_isb_iff.mp q).1 h
  refine ⟨fun g hg hgb => ?_, if_neg hb⟩
  have hgf : g < f := by
    rcases Nat.lt_or_ge g f with q | q
    · exact q
    · rw [show g = f by omega] at hgb; exact absurd hgb hb
  obtain ⟨e1, e2⟩ := E g hgf hgb
  exact ⟨e1, by rw [fs_mem_ne (fun z => (fs_isb_iff.mp hgb).1 (by rw [← z, h]))]; exact e2⟩
/-- a fault of an edge that is there -/
theorem fs_Ed_old {v : Nat → Int32} {f e : Nat} {ec : Nat → Int32} {ef : Nat → Int64} (E : fs_Ed v f ec ef) (he : e < fs_ce v f) (hv : ec e = v f) : fs_Ed v (f + 1) ec (vp_updL ef e (ef e ||| (1 <<< ((nI f).toInt64 &&& 63)))) ∧ fs_ce v (f + 1) = fs_ce v f := by
  obtain ⟨g0, a1, a2, a3⟩ := fs_ce_ex he
  obtain ⟨b1, b2⟩ := E g0 a1 a2
  rw [a3] at b1 b2
  have hvv : v g0 = v f := b1.symm.trans hv
  have hb : ¬ fs_isb v f = true := fun q => (fs_isb_iff.mp q).2 g0 a1 hvv
  refine ⟨fun g hg hgb => ?_, if_neg hb⟩
  have hgf : g < f := by
    rcases Nat.lt_or_ge g f with q | q
    · exact q
    · rw [show g = f by omega] at hgb; exact absurd hgb hb
  obtain ⟨e1, e2⟩ := E g hgf hgb
  refine ⟨e1, ?_⟩
  by_cases q : fs_ce v g = e
  · have hgg : g = g0 := fs_ce_inj hgb a2 (q.trans a3.symm)
    subst hgg
    rw [q, pk_uLs, fs_mem_eq hvv.symm, b2]
  · rw [pk_uLn q, fs_mem_ne (fun z => q (by rw [fs_isb_inj hgb a2 (by rw [← z, hvv])]; exact a3))]
    exact e2
/-- the first fault of an edge -/
theorem fs_Ed_new {v : Nat → Int32} {f : Nat} {ec : Nat → Int32} {ef : Nat → Int64} (E : fs_Ed v f ec ef) (h0 : v f ≠ 0) (hn : ∀ e, e < fs_ce v f → ec e ≠ v f) : fs_Ed v (f + 1) (upd ec (fs_ce v f) (v f)) (vp_updL ef (fs_ce v f) ((0 : Int64) ||| (1 <<< ((nI f).toInt64 &&& 63)))) ∧ fs_ce v (f + 1) = fs_ce v f + 1 := by
  have hany : fs_any v (v f) f = false := by
    cases h : fs_any v (v f) f with
    | false => rfl
    | true =>
      obtain ⟨g, g1, g2, g3⟩ := fs_first h0 h
      exact absurd ((E g g1 g2).1.trans g3) (hn _ (fs_ce_lt g2 g1))
  have hb : fs_isb v f = true := by
    unfold fs_isb
    rw [hany, decide_eq_false h0]; rfl
  refine ⟨fun g hg hgb => ?_, if_pos hb⟩
  by_cases q : g = f
  · subst q
    rw [pk_us, pk_uLs, fs_mem_eq rfl, fs_mem_0 hany]
    exact ⟨rfl, rfl⟩
  · have hgf : g < f := by omega
    have hlt := fs_ce_lt hgb hgf
    obtain ⟨e1, e2⟩ := E g hgf hgb
    rw [pk_un (by omega), pk_uLn (by omega), fs_mem_ne (fun z => q (fs_isb_inj hgb hb z.symm))]
    exact ⟨e1, e2⟩
