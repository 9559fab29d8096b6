-- the class's tableau and the reference's rows, as they stand: what an act does to both
def fs_vv (q : fs_Q) : fs_V := (fs_abs q).1
/-- the class's keepers kp and partners pn, the reference's rows rw, of n wires -/
def fs_Tw (n : Nat) (kp pn rw : Nat → fs_Q) : Prop := (∀ i, i < n → fs_sq n (kp i) ∧ fs_sq n (pn i) ∧ fs_sq n (rw i)) ∧ fs_Sim n (fun i => fs_abs (kp i)) (fun i => fs_vv (pn i)) (fun i => fs_abs (rw i))
theorem fs_Tw_n {n : Nat} {kp pn rw : Nat → fs_Q} (T : fs_Tw n kp pn rw) : n ≤ 10 := T.2.1.1
theorem fs_sq_up {n k : Nat} {q : fs_Q} (h : fs_sq n q) (hk : n ≤ k) : fs_sq k q := ⟨fun w hw => h.1 w (by omega), h.2⟩
theorem fs_abs_0 : fs_abs (0, 0, 0, 0) = fs_r1 := by
  unfold fs_abs fs_r1 fs_v0
  dsimp only
  rw [fs_bt0]
theorem fs_abs_Z {a : Nat} (ha : a < 32) (h : Int64) : fs_abs ((0, 1 <<< (nI a &&& 31), 0, h) : fs_Q) = (fs_Zv a, false, h) := by
  unfold fs_abs fs_Zv
  dsimp only
  rw [fs_bt0, fs_btZ ha]
theorem fs_abs_X {a : Nat} (ha : a < 32) : fs_vv ((1 <<< (nI a &&& 31), 0, 0, 0) : fs_Q) = fs_Xv a := by
  unfold fs_vv fs_abs fs_Xv
  dsimp only
  rw [fs_bt0, fs_btZ ha]
theorem fs_01_0 : fs_01 0 := by unfold fs_01; decide
theorem fs_Tw_0 {n : Nat} (hn : n ≤ 10) {kp pn rw : Nat → fs_Q} (hk : ∀ i, i < n → kp i = ((0, 1 <<< (nI i &&& 31), 0, 0) : fs_Q)) (hp : ∀ i, i < n → pn i = ((1 <<< (nI i &&& 31), 0, 0, 0) : fs_Q)) (hr : ∀ i, i < n → rw i = ((0, 1 <<< (nI i &&& 31), 0, 0) : fs_Q)) : fs_Tw n kp pn rw := by
  have az : ∀ i, i < n → fs_abs ((0, 1 <<< (nI i &&& 31), 0, 0) : fs_Q) = (fs_Zv i, false, 0) := fun i hi => fs_abs_Z (by omega) 0
  have io : ∀ i, fs_io (fs_Zv i, false, 0) = (fs_Zv i, 0#2, 0) := fun i => by
    unfold fs_io
    dsimp only
    rw [fs_q_Z]; rfl
  refine ⟨fun i hi => ⟨⟨?_, ?_⟩, ⟨?_, ?_⟩, ⟨?_, ?_⟩⟩, ?_, fun g => ?_⟩
  · rw [hk i hi, az i hi]; exact fs_su_Z hi
  · rw [hk i hi]; exact fs_01_0
  · rw [hp i hi]; show fs_su n (fs_vv _); rw [fs_abs_X (by omega)]; exact fs_su_X hi
  · rw [hp i hi]; exact fs_01_0
  · rw [hr i hi, az i hi]; exact fs_su_Z hi
  · rw [hr i hi]; exact fs_01_0
  · refine fs_Tab_congr (fs_Tab_0 hn) (fun i hi => ?_) (fun i hi => ?_)
    · show fs_io (fs_abs (kp i)) = _
      rw [hk i hi, az i hi, io i]
    · show fs_vv (pn i) = _
      rw [hp i hi, fs_abs_X (by omega)]
  · exact fs_Sp_congr (fun i hi => by
      show fs_io (fs_abs (rw i)) = fs_io (fs_abs (kp i))
      rw [hk i hi, hr i hi]) g
theorem fs_sq_gr {n k a b : Nat} (h : fs_okg n k a b) {q q' : fs_Q} (hq : fs_sq n q) (e : fs_abs q' = fs_gr k a b (fs_abs q) ∧ fs_01 q'.2.2.1) : fs_sq n q' := ⟨by rw [e.1]; exact fs_su_k h hq.1, e.2⟩
theorem fs_Tw_gate {n k a b : Nat} {bv : Int32} {kp pn rw kp' pn' rw' : Nat → fs_Q} (T : fs_Tw n kp pn rw) (h : fs_okg n k a b) (hb : 2 ≤ k → k ≤ 4 → bv = nI b)
    (hk : ∀ i, i < n → kp' i = fs_ps (kp i) (nI k) (nI a) bv) (hp : ∀ i, i < n → pn' i = fs_ps (pn i) (nI k) (nI a) bv) (hr : ∀ i, i < n → rw' i = fs_gd (rw i) (nI k) (nI a) bv) : fs_Tw n kp' pn' rw' := by
  have hn := fs_Tw_n T
  obtain ⟨T1, T2⟩ := T
  have ek : ∀ i, i < n → fs_abs (kp' i) = fs_gr k a b (fs_abs (kp i)) ∧ fs_01 (kp' i).2.2.1 := fun i hi => by rw [hk i hi]; exact fs_ps_abs hn h hb (T1 i hi).1.2
  have ep : ∀ i, i < n → fs_abs (pn' i) = fs_gr k a b (fs_abs (pn i)) ∧ fs_01 (pn' i).2.2.1 := fun i hi => by rw [hp i hi]; exact fs_ps_abs hn h hb (T1 i hi).2.1.2
  have er : ∀ i, i < n → fs_abs (rw' i) = fs_gr k a b (fs_abs (rw i)) ∧ fs_01 (rw' i).2.2.1 := fun i hi => by rw [hr i hi]; exact fs_gd_abs hn h hb (T1 i hi).2.2.2
  refine ⟨fun i hi => ⟨fs_sq_gr h (T1 i hi).1 (ek i hi), fs_sq_gr h (T1 i hi).2.1 (ep i hi), fs_sq_gr h (T1 i hi).2.2 (er i hi)⟩, ?_⟩
  refine fs_Sim_gate T2 h (fun i hi => (ek i hi).1) (fun i hi => (er i hi).1) (fun i hi => ?_)
  show (fs_abs (pn' i)).1 = _
  rw [(ep i hi).1]; rfl
/-- an x that happens if a look told 1 -/
def fs_fl (q : fs_Q) (c : Int32) (r : Int64) : fs_Q := (q.1, q.2.1, q.2.2.1 ^^^ c, q.2.2.2 ^^^ r)
theorem fs_fl_abs {a : Nat} {q q' : fs_Q} {c : Bool} {r : Int64} (hc : fs_01 q.2.2.1) (e : q' = if bt q.2.1 a = true then fs_fl q (fs_b c) r else q) : fs_abs q' = fs_rr a c r (fs_abs q) ∧ fs_01 q'.2.2.1 := by
  rw [e]
  unfold fs_rr
  by_cases h : bt q.2.1 a = true
  · rw [if_pos h, if_pos (show (fs_abs q).1.2 a = true from h)]
    obtain ⟨c1, c2⟩ := fs_01_x hc c
    exact ⟨Prod.ext rfl (Prod.ext c2 rfl), c1⟩
  · rw [if_neg h, if_neg (show ¬ (fs_abs q).1.2 a = true from h)]
    exact ⟨rfl, hc⟩
theorem fs_rr_v (a : Nat) (c : Bool) (h : Int64) (r : fs_R) : (fs_rr a c h r).1 = r.1 := by
  unfold fs_rr
  split <;> rfl
theorem fs_Tw_reset {n a : Nat} {c : Bool} {r : Int64} {kp pn rw kp' rw' : Nat → fs_Q} (T : fs_Tw n kp pn rw)
    (hk : ∀ i, i < n → kp' i = if bt (kp i).2.1 a = true then fs_fl (kp i) (fs_b c) r else kp i) (hr : ∀ i, i < n → rw' i = if bt (rw i).2.1 a = true then fs_fl (rw i) (fs_b c) r else rw i) : fs_Tw n kp' pn rw' := by
  obtain ⟨T1, T2⟩ := T
  have ek := fun i hi => fs_fl_abs (T1 i hi).1.2 (hk i hi)
  have er := fun i hi => fs_fl_abs (T1 i hi).2.2.2 (hr i hi)
  refine ⟨fun i hi => ⟨⟨?_, (ek i hi).2⟩, (T1 i hi).2.1, ⟨?_, (er i hi).2⟩⟩, fs_Sim_reset T2 (fun i hi => (ek i hi).1) (fun i hi => (er i hi).1)⟩
  · rw [(ek i hi).1, fs_rr_v]; exact (T1 i hi).1.1
  · rw [(er i hi).1, fs_rr_v]; exact (T1 i hi).2.2.1
theorem fs_rm_v (t r : fs_R) : (fs_rm t r).1 = fs_va r.1 t.1 := rfl
/-- a random look -/
theorem fs_Tw_rand {n a p q : Nat} {h : Int64} {kp pn rw kp' pn' rw' : Nat → fs_Q} (T : fs_Tw n kp pn rw) (ha : a < n) (hp : p < n) (hq : q < n) (hKp : bt (kp p).1 a = true) (hRq : bt (rw q).1 a = true)
    (hk : ∀ i, i < n → kp' i = if i = p then ((0, 1 <<< (nI a &&& 31), 0, h) : fs_Q) else if bt (kp i).1 a = true then fs_mb (kp i) (kp p) else kp i)
    (hpn : ∀ i, i < n → pn' i = if i = p then kp p else if bt (pn i).1 a = true then fs_mb (pn i) (kp p) else pn i)
    (hr : ∀ i, i < n → rw' i = if i = q then ((0, 1 <<< (nI a &&& 31), 0, h) : fs_Q) else if bt (rw i).1 a = true then fs_ml n (rw i) (rw q) else rw i) : fs_Tw n kp' pn' rw' := by
  have hn := fs_Tw_n T
  obtain ⟨T1, T2⟩ := T
  have aZ := fs_abs_Z (a := a) (by omega) h
  have sZ : fs_sq n ((0, 1 <<< (nI a &&& 31), 0, h) : fs_Q) := ⟨by rw [aZ]; exact fs_su_Z ha, fs_01_0⟩
  have ek : ∀ i, i < n → fs_abs (kp' i) = fs_cr (fun i => fs_abs (kp i)) p a h i ∧ fs_sq n (kp' i) := by
    intro i hi
    rw [hk i hi]
    unfold fs_cr
    by_cases hip : i = p
    · rw [if_pos hip, if_pos hip]; exact ⟨aZ, sZ⟩
    · rw [if_neg hip, if_neg hip]
      by_cases hx : bt (kp i).1 a = true
      · rw [if_pos hx, if_pos (show (fs_abs (kp i)).1.1 a = true from hx)]
        have := fs_mb_abs (fs_sq_up (T1 i hi).1 hn) (fs_sq_up (T1 p hp).1 hn)
        exact ⟨this.1, by rw [this.1, fs_rm_v]; exact fs_su_a (T1 i hi).1.1 (T1 p hp).1.1, this.2⟩
      · rw [if_neg hx, if_neg (show ¬ (fs_abs (kp i)).1.1 a = true from hx)]; exact ⟨rfl, (T1 i hi).1⟩
  have er : ∀ i, i < n → fs_abs (rw' i) = fs_cr (fun i => fs_abs (rw i)) q a h i ∧ fs_sq n (rw' i) := by
    intro i hi
    rw [hr i hi]
    unfold fs_cr
    by_cases hip : i = q
    · rw [if_pos hip, if_pos hip]; exact ⟨aZ, sZ⟩
    · rw [if_neg hip, if_neg hip]
      by_cases hx : bt (rw i).1 a = true
      · rw [if_pos hx, if_pos (show (fs_abs (rw i)).1.1 a = true from hx)]
        have := fs_ml_abs hn (T1 i hi).2.2.2 (T1 q hq).2.2
        exact ⟨this.1, by rw [this.1, fs_rm_v]; exact fs_su_a (T1 i hi).2.2.1 (T1 q hq).2.2.1, this.2⟩
      · rw [if_neg hx, if_neg (show ¬ (fs_abs (rw i)).1.1 a = true from hx)]; exact ⟨rfl, (T1 i hi).2.2⟩
  have ep : ∀ i, i < n → fs_vv (pn' i) = (if i = p then (fs_abs (kp p)).1 else if (fs_vv (pn i)).1 a = true then fs_va (fs_vv (pn i)) (fs_abs (kp p)).1 else fs_vv (pn i)) ∧ fs_sq n (pn' i) := by
    intro i hi
    rw [hpn i hi]
    by_cases hip : i = p
    · rw [if_pos hip, if_pos hip]; exact ⟨rfl, (T1 p hp).1⟩
    · rw [if_neg hip, if_neg hip]
      by_cases hx : bt (pn i).1 a = true
      · rw [if_pos hx, if_pos (show (fs_vv (pn i)).1 a = true from hx)]
        have := fs_mb_abs (fs_sq_up (T1 i hi).2.1 hn) (fs_sq_up (T1 p hp).1 hn)
        refine ⟨?_, ?_, this.2⟩
        · show (fs_abs _).1 = _
          rw [this.1]; rfl
        · rw [this.1, fs_rm_v]; exact fs_su_a (T1 i hi).2.1.1 (T1 p hp).1.1
      · rw [if_neg hx, if_neg (show ¬ (fs_vv (pn i)).1 a = true from hx)]; exact ⟨rfl, (T1 i hi).2.1⟩
  exact ⟨fun i hi => ⟨(ek i hi).2, (ep i hi).2, (er i hi).2⟩, fs_Sim_rand T2 ha hp hq hKp hRq (fun i hi => (ek i hi).1) (fun i hi => (er i hi).1) (fun i hi => (ep i hi).1)⟩
theorem fs_Tw_any {n a : Nat} {kp pn rw : Nat → fs_Q} (T : fs_Tw n kp pn rw) (ha : a < n) : (∀ i, i < n → bt (kp i).1 a = false) ↔ (∀ i, i < n → bt (rw i).1 a = false) := fs_Sim_any T.2 ha
/-- the class's product of a told look -/
def fs_zk (kp pn : Nat → fs_Q) (a : Nat) : Nat → fs_Q
  | 0 => (0, 0, 0, 0)
  | i + 1 => if bt (pn i).1 a = true then fs_mb (fs_zk kp pn a i) (kp i) else fs_zk kp pn a i
theorem fs_zk_abs {n a : Nat} {kp pn rw : Nat → fs_Q} (T : fs_Tw n kp pn rw) : ∀ i, i ≤ n → fs_abs (fs_zk kp pn a i) = fs_pd (fun i => fs_abs (kp i)) (fun i => fs_vv (pn i)) a i ∧ fs_sq n (fs_zk kp pn a i) := by
  have hn := fs_Tw_n T
  intro i
  induction i with
  | zero => intro _; exact ⟨fs_abs_0, by rw [show fs_zk kp pn a 0 = (0, 0, 0, 0) from rfl, fs_abs_0]; exact fs_su_0, fs_01_0⟩
  | succ i ih =>
    intro hi
    obtain ⟨h1, h2⟩ := ih (by omega)
    show fs_abs (if bt (pn i).1 a = true then fs_mb (fs_zk kp pn a i) (kp i) else fs_zk kp pn a i) = (if (fs_vv (pn i)).1 a = true then _ else _) ∧ fs_sq n (if bt (pn i).1 a = true then fs_mb (fs_zk kp pn a i) (kp i) else fs_zk kp pn a i)
    by_cases hx : bt (pn i).1 a = true
    · rw [if_pos hx, if_pos (show (fs_vv (pn i)).1 a = true from hx)]
      have := fs_mb_abs (fs_sq_up h2 hn) (fs_sq_up (T.1 i (by omega)).1 hn)
      refine ⟨by rw [this.1, h1], ?_, this.2⟩
      rw [this.1, fs_rm_v]; exact fs_su_a h2.1 (T.1 i (by omega)).1.1
    · rw [if_neg hx, if_neg (show ¬ (fs_vv (pn i)).1 a = true from hx)]; exact ⟨h1, h2⟩
/-- one column of the reference's elimination: rows, which are used, what is made -/
def fs_co (x z : Int32) (c : Nat) : Bool := if c < 10 then bt x c else bt z (c - 10)
theorem fs_co_cl (q : fs_Q) (c : Nat) : fs_co q.1 q.2.1 c = fs_cl c (fs_abs q).1 := rfl
theorem fs_coZ {a : Nat} (ha : a < 32) (md : fs_Q) (c : Nat) : fs_co md.1 (md.2.1 ^^^ (1 <<< (nI a &&& 31))) c = fs_cl c (fs_va (fs_abs md).1 (fs_Zv a)) := by
  unfold fs_co fs_cl fs_va fs_abs fs_Zv
  dsimp only
  rw [Bool.xor_false]
  split
  · rfl
  · rw [b_xor, fs_sh1 ha]
/-- the reference's elimination before column c -/
def fs_Eq (n a : Nat) (kp : Nat → fs_Q) (c : Nat) (us : Nat → Bool) (rw : Nat → fs_Q) (md : fs_Q) : Prop :=
  (∀ i, i < n → fs_sq n (rw i)) ∧ fs_sq n md ∧ fs_El n (fs_Sp n (fun i => fs_io (fs_abs (kp i)))) (fs_Zv a) c us (fun i => fs_io (fs_abs (rw i))) (fs_io (fs_abs md))
theorem fs_Eq_0 {n a : Nat} {kp pn rw : Nat → fs_Q} {us : Nat → Bool} (T : fs_Tw n kp pn rw) (ha : a < n) (h : ∀ i, i < n → bt (kp i).1 a = false) (hu : ∀ i, i < n → us i = false) : fs_Eq n a kp 0 us rw (0, 0, 0, 0) := by
  refine ⟨fun i hi => (T.1 i hi).2.2, ⟨by rw [fs_abs_0]; exact fs_su_0, fs_01_0⟩, ?_⟩
  rw [fs_abs_0]
  exact fs_Sim_el0 T.2 ha h hu
theorem fs_Eq_no {n a c : Nat} {kp rw : Nat → fs_Q} {us : Nat → Bool} {md : fs_Q} (E : fs_Eq n a kp c us rw md) (h : ∀ i, i < n → us i = false → fs_co (rw i).1 (rw i).2.1 c = false) : fs_Eq n a kp (c + 1) us rw md :=
  ⟨E.1, E.2.1, (fs_El_no E.2.2 h).1⟩
theorem fs_Eq_yes {n a c p : Nat} {kp pn rw0 rw rw' : Nat → fs_Q} {us us' : Nat → Bool} {md md' : fs_Q} (T : fs_Tw n kp pn rw0) (ha : a < n) (E : fs_Eq n a kp c us rw md) (hp : p < n) (hup : us p = false) (hpc : fs_co (rw p).1 (rw p).2.1 c = true)
    (hr : ∀ i, i < n → rw' i = if us i = false ∧ i ≠ p ∧ fs_co (rw i).1 (rw i).2.1 c = true then fs_ml n (rw i) (rw p) else rw i) (hu : ∀ i, i < n → us' i = fs_up us p true i)
    (hm : md' = if fs_co md.1 (md.2.1 ^^^ (1 <<< (nI a &&& 31))) c = true then fs_ml n md (rw p) else md) : fs_Eq n a kp (c + 1) us' rw' md' := by
  have hn := fs_Tw_n T
  obtain ⟨E1, E2, E3⟩ := E
  have er : ∀ i, i < n → fs_abs (rw' i) = fs_er us (fun i => fs_abs (rw i)) p c i ∧ fs_sq n (rw' i) := by
    intro i hi
    rw [hr i hi]
    unfold fs_er
    by_cases q : us i = false ∧ i ≠ p ∧ fs_co (rw i).1 (rw i).2.1 c = true
    · rw [if_pos q, if_pos (show us i = false ∧ i ≠ p ∧ fs_cl c (fs_abs (rw i)).1 = true from q)]
      have := fs_ml_abs hn (E1 i hi).2 (E1 p hp)
      exact ⟨this.1, by rw [this.1, fs_rm_v]; exact fs_su_a (E1 i hi).1 (E1 p hp).1, this.2⟩
    · rw [if_neg q, if_neg (show ¬ (us i = false ∧ i ≠ p ∧ fs_cl c (fs_abs (rw i)).1 = true) from q)]; exact ⟨rfl, E1 i hi⟩
  have em : fs_abs md' = (if fs_cl c (fs_va (fs_abs md).1 (fs_Zv a)) = true then fs_rm (fs_abs (rw p)) (fs_abs md) else fs_abs md) ∧ fs_sq n md' := by
    rw [hm, fs_coZ (by omega)]
    split
    · have := fs_ml_abs hn E2.2 (E1 p hp)
      exact ⟨this.1, by rw [this.1, fs_rm_v]; exact fs_su_a E2.1 (E1 p hp).1, this.2⟩
    · exact ⟨rfl, E2⟩
  exact ⟨fun i hi => (er i hi).2, em.2, fs_El_step T.2.1.2.1 T.2.1.2.2.1 E3 hp hup hpc (fun i hi => (er i hi).1) hu em.1⟩
theorem fs_Eq_end {n a : Nat} {kp pn rw rw' : Nat → fs_Q} {us : Nat → Bool} {md : fs_Q} (T : fs_Tw n kp pn rw) (ha : a < n) (h : ∀ i, i < n → bt (kp i).1 a = false) (E : fs_Eq n a kp 20 us rw' md) :
    fs_Tw n kp pn rw' ∧ md.2.2.1 = (fs_zk kp pn a n).2.2.1 ∧ md.2.2.2 = (fs_zk kp pn a n).2.2.2 := by
  obtain ⟨E1, E2, E3⟩ := E
  obtain ⟨z1, z2⟩ := fs_zk_abs (a := a) T n (Nat.le_refl n)
  obtain ⟨s1, s2⟩ := fs_Sim_told (md := fs_abs md) T.2 ha h E3
  have e := s2.trans z1.symm
  have e1 : bt md.2.2.1 0 = bt (fs_zk kp pn a n).2.2.1 0 := congrArg (fun r : fs_R => r.2.1) e
  have e2 : md.2.2.2 = (fs_zk kp pn a n).2.2.2 := congrArg (fun r : fs_R => r.2.2) e
  refine ⟨⟨fun i hi => ⟨(T.1 i hi).1, (T.1 i hi).2.1, E1 i hi⟩, s1⟩, ?_, e2⟩
  have a1 : md.2.2.1 = fs_b (bt md.2.2.1 0) := E2.2
  have a2 : (fs_zk kp pn a n).2.2.1 = fs_b (bt (fs_zk kp pn a n).2.2.1 0) := z2.2
  rw [a1, a2, e1]
