-- maps of the group; the keepers and partners of a state; looks
def fs_ap (ga : fs_V → fs_V) (al : fs_V → BitVec 2) (et : fs_V → Int64) (g : fs_E) : fs_E := (ga g.1, g.2.1 + al g.1, g.2.2 ^^^ et g.1)
def fs_Hom (ga : fs_V → fs_V) (al : fs_V → BitVec 2) (et : fs_V → Int64) : Prop :=
  (∀ u v, ga (fs_va u v) = fs_va (ga u) (ga v)) ∧ (∀ u v, al (fs_va u v) + fs_d (fs_lp u.2 v.1) = al u + al v + fs_d (fs_lp (ga u).2 (ga v).1)) ∧ ∀ u v, et (fs_va u v) = et u ^^^ et v
theorem fs_h1 : ∀ (a b A B C : BitVec 2) (l1 l2 : Bool), C + fs_d l1 = A + B + fs_d l2 → a + b + fs_d l1 + C = a + A + (b + B) + fs_d l2 := by decide +kernel
theorem fs_ap_mul {ga : fs_V → fs_V} {al : fs_V → BitVec 2} {et : fs_V → Int64} (H : fs_Hom ga al et) (g h : fs_E) : fs_ap ga al et (fs_mul g h) = fs_mul (fs_ap ga al et g) (fs_ap ga al et h) := by
  obtain ⟨h1, h2, h3⟩ := H
  unfold fs_ap fs_mul
  dsimp only
  refine Prod.ext (h1 _ _) (Prod.ext (fs_h1 _ _ _ _ _ _ _ (h2 _ _)) ?_)
  show g.2.2 ^^^ h.2.2 ^^^ et (fs_va g.1 h.1) = (g.2.2 ^^^ et g.1) ^^^ (h.2.2 ^^^ et h.1)
  rw [h3, fs_x64a, fs_x64a, ← fs_x64a h.2.2 (et g.1) (et h.1), fs_x64c h.2.2 (et g.1), fs_x64a]
theorem fs_va_0u {v : fs_V} (h : v = fs_va v v) : v = fs_v0 := h.trans (fs_va_self v)
theorem fs_hom_0 {ga : fs_V → fs_V} {al : fs_V → BitVec 2} {et : fs_V → Int64} (H : fs_Hom ga al et) : ga fs_v0 = fs_v0 ∧ al fs_v0 = 0#2 ∧ et fs_v0 = 0 := by
  obtain ⟨h1, h2, h3⟩ := H
  have e : fs_va fs_v0 fs_v0 = fs_v0 := fs_va_self _
  have a := h1 fs_v0 fs_v0
  rw [e] at a
  have a0 : ga fs_v0 = fs_v0 := fs_va_0u a
  have b := h2 fs_v0 fs_v0
  rw [e, a0] at b
  have c := h3 fs_v0 fs_v0
  rw [e, fs_x64s] at c
  refine ⟨a0, ?_, c⟩
  revert b
  generalize al fs_v0 = A
  generalize fs_lp fs_v0.2 fs_v0.1 = B
  revert A B
  decide +kernel
theorem fs_ap_1 {ga : fs_V → fs_V} {al : fs_V → BitVec 2} {et : fs_V → Int64} (H : fs_Hom ga al et) : fs_ap ga al et fs_one = fs_one := by
  obtain ⟨h1, h2, h3⟩ := fs_hom_0 H
  unfold fs_ap fs_one
  dsimp only
  rw [h1, h2, h3, fs_x640]
  rfl
theorem fs_h2 : ∀ (A B : BitVec 2) (a b c d : Bool), A + fs_d a = B + fs_d c → A + fs_d b = B + fs_d d → (c ^^ d) = (a ^^ b) := by decide +kernel
theorem fs_hom_om {ga : fs_V → fs_V} {al : fs_V → BitVec 2} {et : fs_V → Int64} (H : fs_Hom ga al et) (u v : fs_V) : fs_om (ga u) (ga v) = fs_om u v := by
  have a := H.2.1 u v
  have b := H.2.1 v u
  rw [fs_va_comm v u, BitVec.add_comm (al v)] at b
  exact fs_h2 _ _ _ _ _ _ a b
def fs_su (n : Nat) (v : fs_V) : Prop := ∀ w, n ≤ w → v.1 w = false ∧ v.2 w = false
theorem fs_su_0 {n : Nat} : fs_su n fs_v0 := fun _ _ => ⟨rfl, rfl⟩
theorem fs_su_a {n : Nat} {u v : fs_V} (hu : fs_su n u) (hv : fs_su n v) : fs_su n (fs_va u v) := fun w hw => by
  obtain ⟨a, b⟩ := hu w hw
  obtain ⟨c, d⟩ := hv w hw
  exact ⟨by show (u.1 w ^^ v.1 w) = false; rw [a, c]; rfl, by show (u.2 w ^^ v.2 w) = false; rw [b, d]; rfl⟩
def fs_Zv (a : Nat) : fs_V := (fun _ => false, fun w => decide (w = a))
def fs_Xv (a : Nat) : fs_V := (fun w => decide (w = a), fun _ => false)
theorem fs_su_Z {n a : Nat} (h : a < n) : fs_su n (fs_Zv a) := fun w hw => ⟨rfl, decide_eq_false (by omega)⟩
theorem fs_su_X {n a : Nat} (h : a < n) : fs_su n (fs_Xv a) := fun w hw => ⟨decide_eq_false (by omega), rfl⟩
theorem fs_par_at {a : Nat} (ha : a < 10) (f : Nat → Bool) : fs_par (fun w => decide (w = a) && f w) 10 = f a := by
  rw [fs_par_upd (g := fun _ => false) ha (fun w _ hw => by rw [decide_eq_false hw]; rfl), fs_par_false]
  simp
theorem fs_om_Z {a : Nat} (ha : a < 10) (v : fs_V) : fs_om v (fs_Zv a) = v.1 a := by
  unfold fs_om fs_Zv
  dsimp only
  rw [fs_lp_0r, Bool.false_xor]
  exact fs_par_at ha v.1
theorem fs_om_X {a : Nat} (ha : a < 10) (v : fs_V) : fs_om (fs_Xv a) v = v.2 a := by
  unfold fs_om fs_Xv
  dsimp only
  rw [fs_lp_0l, Bool.false_xor]
  unfold fs_lp
  rw [fs_par_congr (g := fun w => decide (w = a) && v.2 w) (fun w _ => Bool.and_comm _ _)]
  exact fs_par_at ha v.2
/-- keepers and partners -/
def fs_Tab (n : Nat) (K : Nat → fs_E) (P : Nat → fs_V) : Prop :=
  n ≤ 10 ∧ fs_Cm n K ∧ (∀ i, i < n → fs_inv (K i)) ∧ (∀ i j, i < n → j < n → fs_om (P i) (K j).1 = decide (i = j)) ∧ (∀ i, i < n → fs_su n (K i).1 ∧ fs_su n (P i)) ∧
  ∀ v, fs_su n v → (∀ i, i < n → fs_om (K i).1 v = false) → (∀ i, i < n → fs_om (P i) v = false) → v = fs_v0
theorem fs_Tab_ap {n : Nat} {K : Nat → fs_E} {P : Nat → fs_V} (T : fs_Tab n K P) {ga : fs_V → fs_V} {al : fs_V → BitVec 2} {et : fs_V → Int64} (H : fs_Hom ga al et) (hg : ∀ v, ga (ga v) = v) (hs : ∀ v, fs_su n v → fs_su n (ga v)) : fs_Tab n (fun i => fs_ap ga al et (K i)) (fun i => ga (P i)) := by
  obtain ⟨t0, t1, t2, t3, t4, t5⟩ := T
  have hom := fs_hom_om H
  refine ⟨t0, fun i j hi hj => ?_, fun i hi => ?_, fun i j hi hj => ?_, fun i hi => ⟨hs _ (t4 i hi).1, hs _ (t4 i hi).2⟩, fun v hv h1 h2 => ?_⟩
  · show fs_om (ga (K i).1) (ga (K j).1) = false
    rw [hom]; exact t1 i j hi hj
  · show fs_mul (fs_ap ga al et (K i)) (fs_ap ga al et (K i)) = fs_one
    rw [← fs_ap_mul H, show fs_mul (K i) (K i) = fs_one from t2 i hi, fs_ap_1 H]
  · show fs_om (ga (P i)) (ga (K j).1) = _
    rw [hom]; exact t3 i j hi hj
  · have e : ga v = fs_v0 := by
      refine t5 (ga v) (hs v hv) (fun i hi => ?_) (fun i hi => ?_)
      · have h' : fs_om (ga (K i).1) v = false := h1 i hi
        rw [← hom, hg] at h'
        exact h'
      · have h' : fs_om (ga (P i)) v = false := h2 i hi
        rw [← hom, hg] at h'
        exact h'
    rw [← hg v, e]
    exact (fs_hom_0 H).1
theorem fs_Tab_Sp {n : Nat} {K R : Nat → fs_E} {P : Nat → fs_V} (T : fs_Tab n K P) (hS : ∀ g, fs_Sp n R g ↔ fs_Sp n K g) : fs_Cm n R ∧ (∀ i, i < n → fs_inv (R i)) ∧ ∀ i, i < n → fs_su n (R i).1 := by
  obtain ⟨t0, t1, t2, t3, t4, t5⟩ := T
  refine ⟨fun i j hi hj => fs_Sp_om t1 ((hS _).mp (fs_Sp_g hi)) ((hS _).mp (fs_Sp_g hj)), fun i hi => fs_Sp_inv t1 t2 ((hS _).mp (fs_Sp_g hi)), fun i hi => ?_⟩
  exact ((hS _).mp (fs_Sp_g hi)) (fun g => fs_su n g.1) fs_su_0 (fun g j hj hg => fs_su_a hg (t4 j hj).1)
theorem fs_Tab_0 {n : Nat} (hn : n ≤ 10) : fs_Tab n (fun i => (fs_Zv i, 0#2, 0)) fs_Xv := by
  refine ⟨hn, fun i j hi hj => ?_, fun i hi => ?_, fun i j hi hj => ?_, fun i hi => ⟨fs_su_Z hi, fs_su_X hi⟩, fun v hv h1 h2 => ?_⟩
  · show fs_om (fs_Zv i) (fs_Zv j) = false
    rw [fs_om_Z (by omega)]; rfl
  · unfold fs_inv fs_mul
    dsimp only
    rw [fs_va_self, show fs_lp (fs_Zv i).2 (fs_Zv i).1 = false from fs_lp_0r _]
    rfl
  · show fs_om (fs_Xv i) (fs_Zv j) = _
    rw [fs_om_X (by omega)]; rfl
  · refine fs_V_ext fun w => ?_
    by_cases hw : w < n
    · have a := h1 w hw
      have b := h2 w hw
      rw [fs_om_c, fs_om_Z (by omega)] at a
      rw [fs_om_X (by omega)] at b
      exact ⟨a, b⟩
    · exact hv w (by omega)
/-- a random look of a tableau -/
def fs_colP (K : Nat → fs_E) (P : Nat → fs_V) (p : Nat) (z : fs_V) : Nat → fs_V := fun i => if i = p then (K p).1 else if fs_om (P i) z = true then fs_va (P i) (K p).1 else P i
theorem fs_inv_Z (a : Nat) (h : Int64) : fs_inv (fs_Zv a, 0#2, h) := by
  unfold fs_inv fs_mul
  dsimp only
  rw [fs_va_self, fs_x64s, show fs_lp (fs_Zv a).2 (fs_Zv a).1 = false from fs_lp_0r _]
  rfl
theorem fs_b1 : ∀ a b c : Bool, (a ^^ b) = c → b = true → a = !c := by decide
theorem fs_Tab_col {n p a : Nat} {K : Nat → fs_E} {P : Nat → fs_V} {h : Int64} (T : fs_Tab n K P) (hp : p < n) (ha : a < n) (hk : fs_om (K p).1 (fs_Zv a) = true) : fs_Tab n (fs_col K p (fs_Zv a, 0#2, h)) (fs_colP K P p (fs_Zv a)) := by
  obtain ⟨t0, t1, t2, t3, t4, t5⟩ := T
  have cp : fs_col K p (fs_Zv a, 0#2, h) p = (fs_Zv a, 0#2, h) := by unfold fs_col; rw [if_pos rfl]
  have pp : fs_colP K P p (fs_Zv a) p = (K p).1 := by unfold fs_colP; rw [if_pos rfl]
  have cn : ∀ i, i ≠ p → (fs_col K p (fs_Zv a, 0#2, h) i).1 = if fs_om (K i).1 (fs_Zv a) = true then fs_va (K i).1 (K p).1 else (K i).1 := by
    intro i hip
    unfold fs_col
    rw [if_neg hip]
    show (if fs_om (K i).1 (fs_Zv a) = true then fs_mul (K i) (K p) else K i).1 = _
    split <;> rfl
  have pn : ∀ i, i ≠ p → fs_colP K P p (fs_Zv a) i = if fs_om (P i) (fs_Zv a) = true then fs_va (P i) (K p).1 else P i := by
    intro i hip
    unfold fs_colP
    rw [if_neg hip]
  have ci : ∀ i, i < n → i ≠ p → fs_Sp n K (fs_col K p (fs_Zv a, 0#2, h) i) ∧ fs_om (fs_col K p (fs_Zv a, 0#2, h) i).1 (fs_Zv a) = false := fun i hi hip => fs_col_in hp hi hip hk
  refine ⟨t0, fun i j hi hj => ?_, fun i hi => ?_, fun i j hi hj => ?_, fun i hi => ?_, fun v hv h1 h2 => ?_⟩
  · by_cases hip : i = p
    · subst hip
      rw [cp]
      by_cases hjp : j = i
      · subst hjp; rw [cp]; exact fs_om_s _
      · rw [fs_om_c]; exact (ci j hj hjp).2
    · by_cases hjp : j = p
      · subst hjp; rw [cp]; exact (ci i hi hip).2
      · exact fs_Sp_om t1 (ci i hi hip).1 (ci j hj hjp).1
  · by_cases hip : i = p
    · subst hip; rw [cp]; exact fs_inv_Z a h
    · exact fs_Sp_inv t1 t2 (ci i hi hip).1
  · have kk : ∀ j, j < n → j ≠ p → ∀ u : fs_V, fs_om u (fs_col K p (fs_Zv a, 0#2, h) j).1 = (fs_om u (K j).1 ^^ (fs_om (K j).1 (fs_Zv a) && fs_om u (K p).1)) := by
      intro j hj hjp u
      rw [cn j hjp]
      split
      · rename_i q; rw [fs_om_r, q, Bool.true_and]
      · rename_i q; rw [fs_ndt _ q, Bool.false_and, Bool.xor_false]
    by_cases hip : i = p
    · subst hip
      rw [pp]
      by_cases hjp : j = i
      · subst hjp
        rw [cp, decide_eq_true rfl]; exact hk
      · rw [kk j hj hjp, fs_om_s, t1 i j hi hj, decide_eq_false (Ne.symm hjp)]
        simp
    · have pk : ∀ u : fs_V, fs_om (fs_colP K P p (fs_Zv a) i) u = (fs_om (P i) u ^^ (fs_om (P i) (fs_Zv a) && fs_om (K p).1 u)) := by
        intro u
        rw [pn i hip]
        split
        · rename_i q; rw [fs_om_l, q, Bool.true_and]
        · rename_i q; rw [fs_ndt _ q, Bool.false_and, Bool.xor_false]
      by_cases hjp : j = p
      · subst hjp
        rw [cp]
        show fs_om _ (fs_Zv a) = _
        rw [pk, hk, Bool.and_true, Bool.xor_self, decide_eq_false hip]
      · rw [kk j hj hjp, pk, pk, t3 i j hi hj, t3 i p hi hp, t1 p j hp hj, fs_om_s, decide_eq_false hip]
        simp
  · by_cases hip : i = p
    · subst hip; rw [cp, pp]; exact ⟨fs_su_Z ha, (t4 i hi).1⟩
    · rw [cn i hip, pn i hip]
      constructor
      · split
        · exact fs_su_a (t4 i hi).1 (t4 p hp).1
        · exact (t4 i hi).1
      · split
        · exact fs_su_a (t4 i hi).2 (t4 p hp).1
        · exact (t4 i hi).2
  · have hKp : fs_om (K p).1 v = false := by have := h2 p hp; rw [pp] at this; exact this
    have hZ : fs_om (fs_Zv a) v = false := by have := h1 p hp; rw [cp] at this; exact this
    have hK : ∀ i, i < n → fs_om (K i).1 v = false := by
      intro i hi
      by_cases hip : i = p
      · subst hip; exact hKp
      · have := h1 i hi
        rw [cn i hip] at this
        split at this
        · rw [fs_om_l, hKp, Bool.xor_false] at this; exact this
        · exact this
    have hP : ∀ i, i < n → i ≠ p → fs_om (P i) v = false := by
      intro i hi hip
      have := h2 i hi
      rw [pn i hip] at this
      split at this
      · rw [fs_om_l, hKp, Bool.xor_false] at this; exact this
      · exact this
    by_cases hPp : fs_om (P p) v = true
    · have e : fs_va v (K p).1 = fs_v0 := by
        refine t5 _ (fs_su_a hv (t4 p hp).1) (fun i hi => ?_) (fun i hi => ?_)
        · rw [fs_om_r, hK i hi, t1 i p hi hp]; rfl
        · rw [fs_om_r, t3 i p hi hp]
          by_cases hip : i = p
          · subst hip; rw [hPp, decide_eq_true rfl]; rfl
          · rw [hP i hi hip, decide_eq_false hip]; rfl
      have e2 : v = (K p).1 := by
        have := congrArg (fun u => fs_va u (K p).1) e
        try dsimp only at this
        rw [fs_va_assoc, fs_va_self, fs_va_0, fs_va_0l] at this
        exact this
      rw [e2, fs_om_c, hk] at hZ
      cases hZ
    · exact t5 v hv hK (fun i hi => by
        by_cases hip : i = p
        · subst hip; exact fs_ndt _ hPp
        · exact hP i hi hip)
/-- a look that is told: the partners say of which keepers -/
theorem fs_told {n a : Nat} {K : Nat → fs_E} {P : Nat → fs_V} (T : fs_Tab n K P) (ha : a < n) (h : ∀ i, i < n → fs_om (K i).1 (fs_Zv a) = false) : (fs_pr K (fun i => fs_om (P i) (fs_Zv a)) n).1 = fs_Zv a := by
  obtain ⟨t0, t1, t2, t3, t4, t5⟩ := T
  have key : ∀ m, m ≤ n → ∀ i, i < n → fs_om (P i) (fs_pr K (fun i => fs_om (P i) (fs_Zv a)) m).1 = (decide (i < m) && fs_om (P i) (fs_Zv a)) := by
    intro m
    induction m with
    | zero =>
      intro _ i hi
      show fs_om (P i) fs_v0 = _
      rw [fs_om_0, decide_eq_false (Nat.not_lt_zero i)]; rfl
    | succ m ih =>
      intro hm i hi
      show fs_om (P i) (if fs_om (P m) (fs_Zv a) = true then fs_mul (fs_pr K (fun i => fs_om (P i) (fs_Zv a)) m) (K m) else fs_pr K (fun i => fs_om (P i) (fs_Zv a)) m).1 = _
      by_cases him : i = m
      · subst him
        rw [decide_eq_true (Nat.lt_succ_self i), Bool.true_and]
        split
        · rename_i q
          rw [fs_mul_v, fs_om_r, ih (by omega) i hi, decide_eq_false (Nat.lt_irrefl i), t3 i i hi hi, q]
          simp
        · rename_i q
          rw [ih (by omega) i hi, decide_eq_false (Nat.lt_irrefl i), fs_ndt _ q]; rfl
      · have e : decide (i < m + 1) = decide (i < m) := by
          by_cases q : i < m
          · rw [decide_eq_true q, decide_eq_true (by omega)]
          · rw [decide_eq_false q, decide_eq_false (by omega)]
        rw [e]
        split
        · rw [fs_mul_v, fs_om_r, ih (by omega) i hi, t3 i m hi (by omega), decide_eq_false him, Bool.xor_false]
        · exact ih (by omega) i hi
  have hin : fs_Sp n K (fs_pr K (fun i => fs_om (P i) (fs_Zv a)) n) := fs_pr_in (Nat.le_refl n)
  have hsu : fs_su n (fs_pr K (fun i => fs_om (P i) (fs_Zv a)) n).1 := hin (fun g => fs_su n g.1) fs_su_0 (fun g j hj hg => fs_su_a hg (t4 j hj).1)
  have e : fs_va (fs_pr K (fun i => fs_om (P i) (fs_Zv a)) n).1 (fs_Zv a) = fs_v0 := by
    refine t5 _ (fs_su_a hsu (fs_su_Z ha)) (fun i hi => ?_) (fun i hi => ?_)
    · rw [fs_om_r, h i hi, Bool.xor_false]
      exact fs_Sp_om t1 (fs_Sp_g hi) hin
    · rw [fs_om_r, key n (Nat.le_refl n) i hi, decide_eq_true hi, Bool.true_and, Bool.xor_self]
  have := congrArg (fun u => fs_va u (fs_Zv a)) e
  try dsimp only at this
  rw [fs_va_assoc, fs_va_self, fs_va_0, fs_va_0l] at this
  exact this
-- elimination
def fs_cl (c : Nat) (v : fs_V) : Bool := if c < 10 then v.1 c else v.2 (c - 10)
theorem fs_cl_a (c : Nat) (u v : fs_V) : fs_cl c (fs_va u v) = (fs_cl c u ^^ fs_cl c v) := by
  unfold fs_cl fs_va
  split <;> rfl
theorem fs_cl_0 (c : Nat) : fs_cl c fs_v0 = false := by
  unfold fs_cl fs_v0
  split <;> rfl
def fs_VS (n : Nat) (us : Nat → Bool) (R : Nat → fs_E) (v : fs_V) : Prop := ∀ S : fs_V → Prop, S fs_v0 → (∀ (v : fs_V) (i : Nat), i < n → us i = false → S v → S (fs_va v (R i).1)) → S v
theorem fs_VS_r {n : Nat} {us : Nat → Bool} {R : Nat → fs_E} {v : fs_V} {i : Nat} (hi : i < n) (hu : us i = false) (h : fs_VS n us R v) : fs_VS n us R (fs_va v (R i).1) := fun S h1 h2 => h2 _ i hi hu (h S h1 h2)
theorem fs_VS_of {n : Nat} {us : Nat → Bool} {R : Nat → fs_E} (hu : ∀ i, i < n → us i = false) {g : fs_E} (h : fs_Sp n R g) : fs_VS n us R g.1 :=
  h (fun g => fs_VS n us R g.1) (fun _ h1 _ => h1) (fun _ i hi hk => fs_VS_r hi (hu i hi) hk)
theorem fs_VS_cl {n c : Nat} {us : Nat → Bool} {R : Nat → fs_E} {v : fs_V} (h0 : ∀ i, i < n → us i = false → fs_cl c (R i).1 = false) (h : fs_VS n us R v) : fs_cl c v = false :=
  h (fun v => fs_cl c v = false) (fs_cl_0 c) (fun v i hi hu hv => by rw [fs_cl_a, hv, h0 i hi hu]; rfl)
/-- the rows behind a pivot p of column c -/
def fs_el (us : Nat → Bool) (R : Nat → fs_E) (p c : Nat) : Nat → fs_E := fun i => if us i = false ∧ i ≠ p ∧ fs_cl c (R i).1 = true then fs_mul (R i) (R p) else R i
theorem fs_VS_el {n p c : Nat} {us : Nat → Bool} {R : Nat → fs_E} {v : fs_V} (hpc : fs_cl c (R p).1 = true) (h : fs_VS n us R v) : fs_VS n (fs_up us p true) (fs_el us R p c) (if fs_cl c v = true then fs_va v (R p).1 else v) := by
  refine h (fun v => fs_VS n (fs_up us p true) (fs_el us R p c) (if fs_cl c v = true then fs_va v (R p).1 else v)) ?_ ?_
  · rw [fs_cl_0, if_neg (by decide)]
    exact fun _ h1 _ => h1
  · intro v i hi hu hv
    by_cases hip : i = p
    · subst hip
      rw [fs_cl_a, hpc]
      cases hc : fs_cl c v with
      | true =>
        rw [hc, if_pos rfl] at hv
        rw [if_neg (by decide)]
        exact hv
      | false =>
        rw [hc, if_neg (by decide)] at hv
        rw [if_pos (by decide), fs_va_assoc, fs_va_self, fs_va_0]
        exact hv
    · have hu' : fs_up us p true i = false := by rw [fs_up_n hip]; exact hu
      have h1 := fs_VS_r hi hu' hv
      cases hr : fs_cl c (R i).1 with
      | false =>
        have e : fs_el us R p c i = R i := by unfold fs_el; rw [if_neg (fun q => by rw [hr] at q; exact absurd q.2.2 (by decide))]
        rw [e] at h1
        rw [fs_cl_a, hr, Bool.xor_false]
        split
        · rename_i hc
          rw [if_pos hc, fs_va_assoc, fs_va_comm (R p).1, ← fs_va_assoc] at h1
          exact h1
        · rename_i hc
          rw [if_neg hc] at h1
          exact h1
      | true =>
        have e : (fs_el us R p c i).1 = fs_va (R i).1 (R p).1 := by unfold fs_el; rw [if_pos ⟨hu, hip, hr⟩]; rfl
        rw [e] at h1
        rw [fs_cl_a, hr]
        cases hc : fs_cl c v with
        | true =>
          rw [hc, if_pos rfl, fs_va_assoc, fs_va_comm (R i).1, ← fs_va_assoc (R p).1, fs_va_self, fs_va_0l] at h1
          rw [if_neg (by decide)]
          exact h1
        | false =>
          rw [hc, if_neg (by decide), ← fs_va_assoc] at h1
          rw [if_pos (by decide)]
          exact h1
theorem fs_el_Sp {n p c : Nat} {us : Nat → Bool} {R : Nat → fs_E} (hp : p < n) (hI : fs_inv (R p)) (g : fs_E) : fs_Sp n (fs_el us R p c) g ↔ fs_Sp n R g := by
  have ep : fs_el us R p c p = R p := by unfold fs_el; rw [if_neg (fun q => q.2.1 rfl)]
  constructor
  · refine fs_Sp_le (fun i hi => ?_)
    unfold fs_el
    split
    · exact fs_Sp_mul (fs_Sp_g hi) (fs_Sp_g hp)
    · exact fs_Sp_g hi
  · refine fs_Sp_le (fun i hi => ?_)
    have h1 := fs_Sp_g (R := fs_el us R p c) hi
    have h2 := fs_Sp_g (R := fs_el us R p c) hp
    rw [ep] at h2
    by_cases q : us i = false ∧ i ≠ p ∧ fs_cl c (R i).1 = true
    · have e : fs_el us R p c i = fs_mul (R i) (R p) := by unfold fs_el; rw [if_pos q]
      rw [e] at h1
      have h3 := fs_Sp_mul h1 h2
      rw [fs_mul_assoc, show fs_mul (R p) (R p) = fs_one from hI, fs_mul_1] at h3
      exact h3
    · have e : fs_el us R p c i = R i := by unfold fs_el; rw [if_neg q]
      rw [e] at h1
      exact h1
/-- before column c: the rows span what they did, unused ones are 0 in the columns before, what is made lacks a part that unused rows span -/
def fs_El (n : Nat) (G : fs_E → Prop) (z : fs_V) (c : Nat) (us : Nat → Bool) (R : Nat → fs_E) (md : fs_E) : Prop :=
  (∀ g, fs_Sp n R g ↔ G g) ∧ (∀ i, i < n → us i = false → ∀ d, d < c → fs_cl d (R i).1 = false) ∧ fs_VS n us R (fs_va md.1 z) ∧ G md
theorem fs_El_0 {n : Nat} {G : fs_E → Prop} {z : fs_V} {R : Nat → fs_E} {us : Nat → Bool} (hu : ∀ i, i < n → us i = false) (hS : ∀ g, fs_Sp n R g ↔ G g) {g : fs_E} (hg : G g) (hz : g.1 = z) : fs_El n G z 0 us R fs_one := by
  refine ⟨hS, fun _ _ _ d hd => absurd hd (Nat.not_lt_zero d), ?_, (hS _).mp fs_Sp_1⟩
  have := fs_VS_of (us := us) hu ((hS g).mpr hg)
  rw [hz] at this
  show fs_VS n us R (fs_va fs_v0 z)
  rw [fs_va_0l]
  exact this
theorem fs_El_no {n c : Nat} {G : fs_E → Prop} {z : fs_V} {R : Nat → fs_E} {us : Nat → Bool} {md : fs_E} (E : fs_El n G z c us R md) (h : ∀ i, i < n → us i = false → fs_cl c (R i).1 = false) : fs_El n G z (c + 1) us R md ∧ fs_cl c (fs_va md.1 z) = false := by
  obtain ⟨e1, e2, e3, e4⟩ := E
  refine ⟨⟨e1, fun i hi hu d hd => ?_, e3, e4⟩, fs_VS_cl h e3⟩
  rcases Nat.lt_or_ge d c with q | q
  · exact e2 i hi hu d q
  · rw [show d = c by omega]; exact h i hi hu
theorem fs_El_yes {n c p : Nat} {G : fs_E → Prop} {z : fs_V} {R : Nat → fs_E} {us : Nat → Bool} {md : fs_E} (E : fs_El n G z c us R md) (hI : ∀ g, G g → fs_inv g) (hp : p < n) (hup : us p = false) (hpc : fs_cl c (R p).1 = true) :
    fs_El n G z (c + 1) (fs_up us p true) (fs_el us R p c) (if fs_cl c (fs_va md.1 z) = true then fs_mul md (R p) else md) := by
  obtain ⟨e1, e2, e3, e4⟩ := E
  have hIp := hI _ ((e1 _).mp (fs_Sp_g hp))
  refine ⟨fun g => (fs_el_Sp hp hIp g).trans (e1 g), fun i hi hu d hd => ?_, ?_, ?_⟩
  · have hip : i ≠ p := fun q => by rw [q, fs_up_s] at hu; cases hu
    rw [fs_up_n hip] at hu
    unfold fs_el
    by_cases hc : fs_cl c (R i).1 = true
    · rw [if_pos ⟨hu, hip, hc⟩, fs_mul_v, fs_cl_a]
      rcases Nat.lt_or_ge d c with q | q
      · rw [e2 i hi hu d q, e2 p hp hup d q]; rfl
      · rw [show d = c by omega, hc, hpc]; rfl
    · rw [if_neg (fun q => hc q.2.2)]
      rcases Nat.lt_or_ge d c with q | q
      · exact e2 i hi hu d q
      · rw [show d = c by omega]; exact fs_ndt _ hc
  · have := fs_VS_el hpc e3
    by_cases q : fs_cl c (fs_va md.1 z) = true
    · rw [if_pos q] at this ⊢
      rw [fs_mul_v, fs_va_assoc, fs_va_comm (R p).1, ← fs_va_assoc]
      exact this
    · rw [if_neg q] at this ⊢
      exact this
  · split
    · exact (e1 _).mp (fs_Sp_mul ((e1 _).mpr e4) (fs_Sp_g hp))
    · exact e4
theorem fs_El_end {n : Nat} {G : fs_E → Prop} {z : fs_V} {R : Nat → fs_E} {us : Nat → Bool} {md : fs_E} (E : fs_El n G z 20 us R md) (hz : fs_su 10 z) (hG : ∀ g, G g → fs_su 10 g.1) : md.1 = z := by
  obtain ⟨e1, e2, e3, e4⟩ := E
  have h0 : ∀ c, c < 20 → fs_cl c (fs_va md.1 z) = false := fun c hc => fs_VS_cl (fun i hi hu => e2 i hi hu c hc) e3
  have e : fs_va md.1 z = fs_v0 := by
    refine fs_V_ext fun w => ?_
    rcases Nat.lt_or_ge w 10 with q | q
    · have a := h0 w (by omega)
      have b := h0 (w + 10) (by omega)
      unfold fs_cl at a b
      rw [if_pos q] at a
      rw [if_neg (by omega), show w + 10 - 10 = w by omega] at b
      exact ⟨a, b⟩
    · exact fs_su_a (hG _ e4) hz w q
  have := congrArg (fun u => fs_va u z) e
  try dsimp only at this
  rw [fs_va_assoc, fs_va_self, fs_va_0, fs_va_0l] at this
  exact this
