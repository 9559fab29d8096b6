-- what the reference's playAll does, as a relation: any pivot will do
/-- a random look: rows rw become rw' -/
def fs_kR (n a : Nat) (num : Int64) (rw rw' : Nat → fs_Q) : Prop :=
  ∃ q, q < n ∧ bt (rw q).1 a = true ∧ ∀ i, i < n → rw' i = if i = q then ((0, 1 <<< (nI a &&& 31), 0, num) : fs_Q) else if bt (rw i).1 a = true then fs_ml n (rw i) (rw q) else rw i
def fs_kE (n a : Nat) (rw0 : Nat → fs_Q) : Nat → (Nat → Bool) → (Nat → fs_Q) → fs_Q → Prop
  | 0, us, rw, md => (∀ i, i < n → us i = false) ∧ (∀ i, i < n → rw i = rw0 i) ∧ md = (0, 0, 0, 0)
  | c + 1, us', rw', md' => ∃ (us : Nat → Bool) (rw : Nat → fs_Q) (md : fs_Q), fs_kE n a rw0 c us rw md ∧
      (((∀ i, i < n → us i = false → fs_co (rw i).1 (rw i).2.1 c = false) ∧ (∀ i, i < n → us' i = us i) ∧ (∀ i, i < n → rw' i = rw i) ∧ md' = md) ∨
       ∃ p, p < n ∧ us p = false ∧ fs_co (rw p).1 (rw p).2.1 c = true ∧ (∀ i, i < n → rw' i = if us i = false ∧ i ≠ p ∧ fs_co (rw i).1 (rw i).2.1 c = true then fs_ml n (rw i) (rw p) else rw i) ∧ (∀ i, i < n → us' i = fs_up us p true i) ∧
         md' = if fs_co md.1 (md.2.1 ^^^ (1 <<< (nI a &&& 31))) c = true then fs_ml n md (rw p) else md)
/-- a look: rows, and what the look tells -/
def fs_kL (n a : Nat) (num : Int64) (rw rw' : Nat → fs_Q) (c : Int32) (h : Int64) : Prop :=
  (fs_kR n a num rw rw' ∧ c = 0 ∧ h = num) ∨ ((∀ i, i < n → bt (rw i).1 a = false) ∧ ∃ (us : Nat → Bool) (md : fs_Q), fs_kE n a rw 20 us rw' md ∧ c = md.2.2.1 ∧ h = md.2.2.2)
theorem fs_Eq_congr {n a c : Nat} {kp rw rw' : Nat → fs_Q} {us us' : Nat → Bool} {md : fs_Q} (E : fs_Eq n a kp c us rw md) (hu : ∀ i, i < n → us' i = us i) (hr : ∀ i, i < n → rw' i = rw i) : fs_Eq n a kp c us' rw' md := by
  obtain ⟨E1, E2, E3⟩ := E
  exact ⟨fun i hi => by rw [hr i hi]; exact E1 i hi, E2, fs_El_congr E3 (fun i hi => by show fs_io (fs_abs (rw' i)) = _; rw [hr i hi]) hu⟩
theorem fs_kE_Eq {n a : Nat} {kp pn rw0 : Nat → fs_Q} (T : fs_Tw n kp pn rw0) (ha : a < n) (h : ∀ i, i < n → bt (kp i).1 a = false) : ∀ (c : Nat) (us : Nat → Bool) (rw : Nat → fs_Q) (md : fs_Q), fs_kE n a rw0 c us rw md → fs_Eq n a kp c us rw md := by
  intro c
  induction c with
  | zero =>
    rintro us rw md ⟨h1, h2, h3⟩
    rw [h3]
    exact fs_Eq_congr (fs_Eq_0 (us := us) T ha h h1) (fun _ _ => rfl) h2
  | succ c ih =>
    rintro us' rw' md' ⟨us, rw, md, h1, h2⟩
    have E := ih us rw md h1
    rcases h2 with ⟨g1, g2, g3, g4⟩ | ⟨p, g1, g2, g3, g4, g5, g6⟩
    · rw [g4]
      exact fs_Eq_congr (fs_Eq_no E g1) g2 g3
    · exact fs_Eq_yes T ha E g1 g2 g3 g4 g5 g6
/-- what the class does at a look -/
def fs_cL (n a : Nat) (num : Int64) (kp pn kp' pn' : Nat → fs_Q) (c : Int32) (h : Int64) : Prop :=
  (∃ p, p < n ∧ bt (kp p).1 a = true ∧ (∀ i, i < n → kp' i = if i = p then ((0, 1 <<< (nI a &&& 31), 0, num) : fs_Q) else if bt (kp i).1 a = true then fs_mb (kp i) (kp p) else kp i) ∧ (∀ i, i < n → pn' i = if i = p then kp p else if bt (pn i).1 a = true then fs_mb (pn i) (kp p) else pn i) ∧ c = 0 ∧ h = num) ∨
  ((∀ i, i < n → bt (kp i).1 a = false) ∧ (∀ i, i < n → kp' i = kp i) ∧ (∀ i, i < n → pn' i = pn i) ∧ c = (fs_zk kp pn a n).2.2.1 ∧ h = (fs_zk kp pn a n).2.2.2)
theorem fs_Tw_congr {n : Nat} {kp pn rw kp' pn' rw' : Nat → fs_Q} (T : fs_Tw n kp pn rw) (hk : ∀ i, i < n → kp' i = kp i) (hp : ∀ i, i < n → pn' i = pn i) (hr : ∀ i, i < n → rw' i = rw i) : fs_Tw n kp' pn' rw' := by
  obtain ⟨T1, T2, T3⟩ := T
  refine ⟨fun i hi => by rw [hk i hi, hp i hi, hr i hi]; exact T1 i hi, fs_Tab_congr T2 (fun i hi => by show fs_io (fs_abs (kp' i)) = _; rw [hk i hi]) (fun i hi => by show fs_vv (pn' i) = _; rw [hp i hi]), fun g => ?_⟩
  rw [fs_Sp_congr (R := fun i => fs_io (fs_abs (rw' i))) (R' := fun i => fs_io (fs_abs (rw i))) (fun i hi => by show fs_io (fs_abs (rw' i)) = _; rw [hr i hi]) g,
    fs_Sp_congr (R := fun i => fs_io (fs_abs (kp' i))) (R' := fun i => fs_io (fs_abs (kp i))) (fun i hi => by show fs_io (fs_abs (kp' i)) = _; rw [hk i hi]) g]
  exact T3 g
/-- A LOOK: both tell the same, and go on alike -/
theorem fs_look {n a : Nat} {num : Int64} {kp pn rw kp' pn' rw' : Nat → fs_Q} {c c' : Int32} {h h' : Int64} (T : fs_Tw n kp pn rw) (ha : a < n) (C : fs_cL n a num kp pn kp' pn' c h) (K : fs_kL n a num rw rw' c' h') : fs_Tw n kp' pn' rw' ∧ c' = c ∧ h' = h ∧ fs_01 c := by
  rcases C with ⟨p, p1, p2, p3, p4, p5, p6⟩ | ⟨g1, g2, g3, g4, g5⟩
  · rcases K with ⟨⟨q, q1, q2, q3⟩, q4, q5⟩ | ⟨q1, -⟩
    · exact ⟨fs_Tw_rand T ha p1 q1 p2 q2 p3 p4 q3, by rw [p5, q4], by rw [p6, q5], by rw [p5]; exact fs_01_0⟩
    · have := (fs_Tw_any T ha).mpr q1 p p1
      rw [p2] at this
      cases this
  · rcases K with ⟨⟨q, q1, q2, q3⟩, q4, q5⟩ | ⟨q1, us, md, q2, q3, q4⟩
    · have := (fs_Tw_any T ha).mp g1 q q1
      rw [q2] at this
      cases this
    · obtain ⟨e1, e2, e3⟩ := fs_Eq_end T ha g1 (fs_kE_Eq T ha g1 20 us rw' md q2)
      refine ⟨fs_Tw_congr e1 g2 g3 (fun _ _ => rfl), by rw [q3, g4, e2], by rw [q4, g5, e3], ?_⟩
      rw [g4]
      exact (fs_zk_abs (a := a) T n (Nat.le_refl n)).2.2
-- the acts: kinds kd, wires on, others ot
def fs_kS (n : Nat) (k a o : Int32) (rw : Nat → fs_Q) (ls : Nat → Int32) (lh : Nat → Int64) (rw' : Nat → fs_Q) (ls' : Nat → Int32) (lh' : Nat → Int64) : Prop :=
  (∃ κ α : Nat, κ ≤ 6 ∧ k = nI κ ∧ a = nI α ∧ α < n ∧ (∀ i, i < n → rw' i = fs_gd (rw i) k a o) ∧ ls' = ls ∧ lh' = lh) ∨
  (∃ α j : Nat, (k = 7 ∨ k = 8) ∧ a = nI α ∧ α < n ∧ j < 60 ∧ o = nI j ∧ ∃ (rw1 : Nat → fs_Q) (c : Int32) (h : Int64), fs_kL n α (1 <<< (o.toInt64 &&& 63)) rw rw1 c h ∧ ls' = upd ls j c ∧ lh' = vp_updL lh j h ∧
     ((k = 7 ∧ ∀ i, i < n → rw' i = rw1 i) ∨ (k = 8 ∧ ∀ i, i < n → rw' i = if bt (rw1 i).2.1 α = true then fs_fl (rw1 i) c h else rw1 i))) ∨
  (k = 9 ∧ (∀ i, i < n → rw' i = rw i) ∧ ls' = ls ∧ lh' = lh)
def fs_kP (n : Nat) (kd on ot : Nat → Int32) : Nat → (Nat → fs_Q) → (Nat → Int32) → (Nat → Int64) → Prop
  | 0, rw, _, _ => ∀ i, i < n → rw i = ((0, 1 <<< (nI i &&& 31), 0, 0) : fs_Q)
  | k + 1, rw', ls', lh' => ∃ (rw : Nat → fs_Q) (ls : Nat → Int32) (lh : Nat → Int64), fs_kP n kd on ot k rw ls lh ∧ fs_kS n (kd k) (on k) (ot k) rw ls lh rw' ls' lh'
theorem fs_kP_congr {n : Nat} {kd on ot kd' on' ot' : Nat → Int32} : ∀ (m : Nat), (∀ k, k < m → kd' k = kd k ∧ on' k = on k ∧ ot' k = ot k) → ∀ (rw : Nat → fs_Q) (ls : Nat → Int32) (lh : Nat → Int64), fs_kP n kd' on' ot' m rw ls lh → fs_kP n kd on ot m rw ls lh := by
  intro m
  induction m with
  | zero => intro _ rw ls lh h; exact h
  | succ m ih =>
    rintro he rw' ls' lh' ⟨rw, ls, lh, h1, h2⟩
    obtain ⟨e1, e2, e3⟩ := he m (by omega)
    rw [e1, e2, e3] at h2
    exact ⟨rw, ls, lh, ih (fun k hk => he k (by omega)) rw ls lh h1, h2⟩
/-- the class's keepers, partners and outcomes, against any playing of the reference -/
def fs_RP (n : Nat) (kd on ot : Nat → Int32) (m L : Nat) (kp pn : Nat → fs_Q) (lc : Nat → Int32) (lr : Nat → Int64) : Prop :=
  n ≤ 10 ∧ ∀ (rw : Nat → fs_Q) (ls : Nat → Int32) (lh : Nat → Int64), fs_kP n kd on ot m rw ls lh → fs_Tw n kp pn rw ∧ ∀ i, i < L → ls i = lc i ∧ lh i = lr i
theorem fs_RP_0 {n : Nat} (hn : n ≤ 10) {kd on ot : Nat → Int32} {kp pn : Nat → fs_Q} {lc : Nat → Int32} {lr : Nat → Int64} (hk : ∀ i, i < n → kp i = ((0, 1 <<< (nI i &&& 31), 0, 0) : fs_Q)) (hp : ∀ i, i < n → pn i = ((1 <<< (nI i &&& 31), 0, 0, 0) : fs_Q)) : fs_RP n kd on ot 0 0 kp pn lc lr :=
  ⟨hn, fun rw ls lh h => ⟨fs_Tw_0 hn hk hp h, fun i hi => absurd hi (Nat.not_lt_zero i)⟩⟩
theorem fs_nI9 : ∀ κ : Nat, κ ≤ 6 → ¬ nI κ = 7 ∧ ¬ nI κ = 8 ∧ ¬ nI κ = 9 := by
  intro κ h
  exact fs_kind7 (P := fun κ => ¬ nI κ = 7 ∧ ¬ nI κ = 8 ∧ ¬ nI κ = 9) (by decide) (by decide) (by decide) (by decide) (by decide) (by decide) (by decide) h
theorem fs_nI_inj10 {a b : Nat} (ha : a < 2 ^ 31) (hb : b < 2 ^ 31) (h : nI a = nI b) : a = b := (nI_eq ha hb).mp h
/-- a gate more -/
theorem fs_RP_gate {n m L κ α β : Nat} {o : Int32} {kd on ot kd' on' ot' : Nat → Int32} {kp pn kp' pn' : Nat → fs_Q} {lc : Nat → Int32} {lr : Nat → Int64} (R : fs_RP n kd on ot m L kp pn lc lr) (hg : fs_okg n κ α β) (ho : 2 ≤ κ → κ ≤ 4 → o = nI β)
    (he : ∀ k, k < m → kd' k = kd k ∧ on' k = on k ∧ ot' k = ot k) (h1 : kd' m = nI κ) (h2 : on' m = nI α) (h3 : ot' m = o) (hk : ∀ i, i < n → kp' i = fs_ps (kp i) (nI κ) (nI α) o) (hp : ∀ i, i < n → pn' i = fs_ps (pn i) (nI κ) (nI α) o) : fs_RP n kd' on' ot' (m + 1) L kp' pn' lc lr := by
  obtain ⟨hn, R⟩ := R
  refine ⟨hn, ?_⟩
  rintro rw' ls' lh' ⟨rw, ls, lh, g1, g2⟩
  obtain ⟨T, hL⟩ := R rw ls lh (fs_kP_congr m he rw ls lh g1)
  rw [h1, h2, h3] at g2
  obtain ⟨n7, n8, n9⟩ := fs_nI9 κ hg.1
  rcases g2 with ⟨κ2, α2, -, -, -, -, g3, g4, g5⟩ | ⟨-, -, g3, -⟩ | ⟨g3, -⟩
  · rw [g4, g5]
    exact ⟨fs_Tw_gate T hg ho hk hp g3, hL⟩
  · rcases g3 with q | q
    · exact absurd q n7
    · exact absurd q n8
  · exact absurd g3 n9
/-- a fault more -/
theorem fs_RP_fault {n m L : Nat} {kd on ot kd' on' ot' : Nat → Int32} {kp pn : Nat → fs_Q} {lc : Nat → Int32} {lr : Nat → Int64} (R : fs_RP n kd on ot m L kp pn lc lr)
    (he : ∀ k, k < m → kd' k = kd k ∧ on' k = on k ∧ ot' k = ot k) (h1 : kd' m = 9) : fs_RP n kd' on' ot' (m + 1) L kp pn lc lr := by
  obtain ⟨hn, R⟩ := R
  refine ⟨hn, ?_⟩
  rintro rw' ls' lh' ⟨rw, ls, lh, g1, g2⟩
  obtain ⟨T, hL⟩ := R rw ls lh (fs_kP_congr m he rw ls lh g1)
  rw [h1] at g2
  rcases g2 with ⟨κ2, α2, g0, g3, -⟩ | ⟨-, -, g3, -⟩ | ⟨-, g4, g5, g6⟩
  · exact absurd g3.symm (fs_nI9 κ2 g0).2.2
  · rcases g3 with q | q
    · exact absurd q (by decide)
    · exact absurd q (by decide)
  · rw [g5, g6]
    exact ⟨fs_Tw_congr T (fun _ _ => rfl) (fun _ _ => rfl) g4, hL⟩
/-- a look more -/
theorem fs_RP_look {n m L α : Nat} {rs : Bool} {kd on ot kd' on' ot' : Nat → Int32} {kp pn kp1 kp' pn' : Nat → fs_Q} {lc lc' : Nat → Int32} {lr lr' : Nat → Int64} {c : Int32} {h : Int64} (R : fs_RP n kd on ot m L kp pn lc lr) (ha : α < n) (hL : L < 60)
    (he : ∀ k, k < m → kd' k = kd k ∧ on' k = on k ∧ ot' k = ot k) (h1 : kd' m = if rs = true then 8 else 7) (h2 : on' m = nI α) (h3 : ot' m = nI L)
    (C : fs_cL n α (1 <<< ((nI L).toInt64 &&& 63)) kp pn kp1 pn' c h) (hc : ∀ i, i < n → kp' i = if rs = true ∧ bt (kp1 i).2.1 α = true then fs_fl (kp1 i) c h else kp1 i)
    (hlc : ∀ i, i < L → lc' i = lc i) (hlr : ∀ i, i < L → lr' i = lr i) (hlc1 : lc' L = c) (hlr1 : lr' L = h) : fs_RP n kd' on' ot' (m + 1) (L + 1) kp' pn' lc' lr' := by
  obtain ⟨hn, R⟩ := R
  refine ⟨hn, ?_⟩
  rintro rw' ls' lh' ⟨rw, ls, lh, g1, g2⟩
  obtain ⟨T, hLs⟩ := R rw ls lh (fs_kP_congr m he rw ls lh g1)
  rw [h1, h2, h3] at g2
  rcases g2 with ⟨κ2, α2, g0, g3, -⟩ | ⟨α2, j, g3, g4, g5, g6, g7, rw1, c2, h4, g8, g9, g10, g11⟩ | ⟨g3, -⟩
  · obtain ⟨n7, n8, -⟩ := fs_nI9 κ2 g0
    cases rs with
    | true => exact absurd g3.symm n8
    | false => exact absurd g3.symm n7
  · have ea : α2 = α := fs_nI_inj10 (by omega) (by omega) g4.symm
    have ej : j = L := fs_nI_inj10 (by omega) (by omega) g7.symm
    subst ea; subst ej
    obtain ⟨T2, e1, e2, e3⟩ := fs_look T ha C g8
    subst e1; subst e2
    refine ⟨?_, fun i hi => ?_⟩
    · cases rs with
      | true =>
        rcases g11 with ⟨q, -⟩ | ⟨-, q⟩
        · exact absurd q (by decide)
        · have e3' : c2 = fs_b (bt c2 0) := e3
          rw [e3'] at q hc
          refine fs_Tw_reset (a := α2) (c := bt c2 0) (r := h4) T2 (fun i hi => ?_) q
          rw [hc i hi]
          simp only [true_and]
      | false =>
        rcases g11 with ⟨-, q⟩ | ⟨q, -⟩
        · exact fs_Tw_congr T2 (fun i hi => by rw [hc i hi, if_neg (fun z => absurd z.1 (by decide))]) (fun _ _ => rfl) q
        · exact absurd q (by decide)
    · rw [g9, g10]
      rcases Nat.lt_or_ge i j with q | q
      · rw [pk_un (by omega), pk_uLn (by omega), hlc i q, hlr i q]
        exact hLs i q
      · have : i = j := by omega
        subst this
        rw [pk_us, pk_uLs]
        exact ⟨hlc1.symm, hlr1.symm⟩
  · cases rs with
    | true => exact absurd g3 (by decide)
    | false => exact absurd g3 (by decide)
