-- two lists of rows that span the same: what each act does to both
def fs_Sim (n : Nat) (K : Nat → fs_R) (P : Nat → fs_V) (R : Nat → fs_R) : Prop := fs_Tab n (fun i => fs_io (K i)) P ∧ ∀ g, fs_Sp n (fun i => fs_io (R i)) g ↔ fs_Sp n (fun i => fs_io (K i)) g
theorem fs_Tab_congr {n : Nat} {K K' : Nat → fs_E} {P P' : Nat → fs_V} (T : fs_Tab n K P) (hK : ∀ i, i < n → K' i = K i) (hP : ∀ i, i < n → P' i = P i) : fs_Tab n K' P' := by
  obtain ⟨t0, t1, t2, t3, t4, t5⟩ := T
  refine ⟨t0, fun i j hi hj => ?_, fun i hi => ?_, fun i j hi hj => ?_, fun i hi => ?_, fun v hv h1 h2 => t5 v hv (fun i hi => ?_) (fun i hi => ?_)⟩
  · rw [hK i hi, hK j hj]; exact t1 i j hi hj
  · rw [hK i hi]; exact t2 i hi
  · rw [hP i hi, hK j hj]; exact t3 i j hi hj
  · rw [hK i hi, hP i hi]; exact t4 i hi
  · rw [← hK i hi]; exact h1 i hi
  · rw [← hP i hi]; exact h2 i hi
theorem fs_Sim_map {n : Nat} {K K' R R' : Nat → fs_R} {P P' : Nat → fs_V} (S : fs_Sim n K P R) {ga : fs_V → fs_V} {al : fs_V → BitVec 2} {et : fs_V → Int64} (H : fs_Hom ga al et) (hg : ∀ v, ga (ga v) = v) (hs : ∀ v, fs_su n v → fs_su n (ga v))
    (hK : ∀ i, i < n → fs_io (K' i) = fs_ap ga al et (fs_io (K i))) (hR : ∀ i, i < n → fs_io (R' i) = fs_ap ga al et (fs_io (R i))) (hP : ∀ i, i < n → P' i = ga (P i)) : fs_Sim n K' P' R' := by
  refine ⟨fs_Tab_congr (fs_Tab_ap S.1 H hg hs) hK hP, fun g => ?_⟩
  have a1 := fs_Sp_congr (n := n) (R := fun i => fs_io (R' i)) (R' := fun i => fs_ap ga al et (fs_io (R i))) hR g
  have a2 := fs_Sp_congr (n := n) (R := fun i => fs_io (K' i)) (R' := fun i => fs_ap ga al et (fs_io (K i))) hK g
  have b1 := fs_Sp_map (n := n) (R := fun i => fs_io (R i)) (fs_ap_1 H) (fs_ap_mul H) g
  have b2 := fs_Sp_map (n := n) (R := fun i => fs_io (K i)) (fs_ap_1 H) (fs_ap_mul H) g
  rw [a1, a2, b1, b2]
  constructor
  · rintro ⟨k, hk, e⟩; exact ⟨k, (S.2 k).mp hk, e⟩
  · rintro ⟨k, hk, e⟩; exact ⟨k, (S.2 k).mpr hk, e⟩
theorem fs_Sim_gate {n k a b : Nat} {K K' R R' : Nat → fs_R} {P P' : Nat → fs_V} (S : fs_Sim n K P R) (h : fs_okg n k a b) (hK : ∀ i, i < n → K' i = fs_gr k a b (K i)) (hR : ∀ i, i < n → R' i = fs_gr k a b (R i)) (hP : ∀ i, i < n → P' i = fs_ga k a b (P i)) : fs_Sim n K' P' R' :=
  fs_Sim_map S (fs_hom_k S.1.1 h) (fs_ga2_k h) (fun _ => fs_su_k h) (fun i hi => by rw [hK i hi]; exact fs_gr_io S.1.1 h _) (fun i hi => by rw [hR i hi]; exact fs_gr_io S.1.1 h _) hP
/-- the x of a reset -/
def fs_rr (a : Nat) (c : Bool) (h : Int64) (r : fs_R) : fs_R := if r.1.2 a = true then (r.1, r.2.1 ^^ c, r.2.2 ^^^ h) else r
theorem fs_rr_io (a : Nat) (c : Bool) (h : Int64) (r : fs_R) : fs_io (fs_rr a c h r) = fs_ap fs_gaI (fs_alR a c) (fs_etR a h) (fs_io r) := by
  unfold fs_rr fs_ap fs_alR fs_etR fs_gaI fs_io
  by_cases q : r.1.2 a = true
  · rw [if_pos q]
    dsimp only
    rw [if_pos q, q, Bool.and_true]
    exact Prod.ext rfl (Prod.ext (fs_m5 _ _ _) rfl)
  · rw [if_neg q]
    dsimp only
    rw [if_neg q, fs_ndt _ q, Bool.and_false, fs_x640]
    exact Prod.ext rfl (Prod.ext (by show _ = _ + 0#2; rw [BitVec.add_zero]) rfl)
theorem fs_Sim_reset {n a : Nat} {c : Bool} {h : Int64} {K K' R R' : Nat → fs_R} {P : Nat → fs_V} (S : fs_Sim n K P R) (hK : ∀ i, i < n → K' i = fs_rr a c h (K i)) (hR : ∀ i, i < n → R' i = fs_rr a c h (R i)) : fs_Sim n K' P R' :=
  fs_Sim_map S (fs_hom_R a c h) (fun _ => rfl) (fun _ q => q) (fun i hi => by rw [hK i hi]; exact fs_rr_io _ _ _ _) (fun i hi => by rw [hR i hi]; exact fs_rr_io _ _ _ _) (fun _ _ => rfl)
/-- the rows of a random look -/
def fs_cr (R : Nat → fs_R) (p a : Nat) (h : Int64) : Nat → fs_R := fun i => if i = p then (fs_Zv a, false, h) else if (R i).1.1 a = true then fs_rm (R p) (R i) else R i
theorem fs_q_Z (a : Nat) : fs_q (fs_Zv a) = 0#2 := by
  unfold fs_q fs_Zv
  dsimp only
  have e : fs_s (fun w => fs_o (false && decide (w = a))) 10 = fs_s (fun _ => fs_d false) 10 := fs_s_congr fun w _ => rfl
  rw [e, fs_s_d, fs_par_false]; rfl
theorem fs_cr_io {n p a : Nat} {R : Nat → fs_R} {h : Int64} (ha : a < 10) (hp : p < n) (hC : fs_Cm n (fun i => fs_io (R i))) {i : Nat} (hi : i < n) : fs_io (fs_cr R p a h i) = fs_col (fun i => fs_io (R i)) p (fs_Zv a, 0#2, h) i := by
  unfold fs_cr fs_col
  by_cases hip : i = p
  · rw [if_pos hip, if_pos hip]
    unfold fs_io
    dsimp only
    rw [fs_q_Z]; rfl
  · rw [if_neg hip, if_neg hip]
    show fs_io (if (R i).1.1 a = true then fs_rm (R p) (R i) else R i) = (if fs_om (R i).1 (fs_Zv a) = true then _ else _)
    rw [fs_om_Z ha]
    split
    · have hom : fs_om (fs_io (R i)).1 (fs_io (R p)).1 = false := hC i p hi hp
      exact fs_rm_io' (t := R p) (r := R i) hom
    · rfl
theorem fs_Sim_any {n a : Nat} {K R : Nat → fs_R} {P : Nat → fs_V} (S : fs_Sim n K P R) (ha : a < n) : (∀ i, i < n → (K i).1.1 a = false) ↔ (∀ i, i < n → (R i).1.1 a = false) := by
  have hn := S.1.1
  constructor
  · intro h i hi
    have h1 : fs_Sp n (fun i => fs_io (K i)) (fs_io (R i)) := (S.2 _).mp (fs_Sp_g (R := fun i => fs_io (R i)) hi)
    have := fs_Sp_om1 (v := fs_Zv a) (fun j hj => by rw [fs_om_Z (by omega)]; exact h j hj) h1
    rw [fs_om_Z (by omega)] at this
    exact this
  · intro h i hi
    have h1 : fs_Sp n (fun i => fs_io (R i)) (fs_io (K i)) := (S.2 _).mpr (fs_Sp_g (R := fun i => fs_io (K i)) hi)
    have := fs_Sp_om1 (v := fs_Zv a) (fun j hj => by rw [fs_om_Z (by omega)]; exact h j hj) h1
    rw [fs_om_Z (by omega)] at this
    exact this
theorem fs_Sim_rand {n a p q : Nat} {h : Int64} {K K' R R' : Nat → fs_R} {P P' : Nat → fs_V} (S : fs_Sim n K P R) (ha : a < n) (hp : p < n) (hq : q < n) (hKp : (K p).1.1 a = true) (hRq : (R q).1.1 a = true)
    (hK : ∀ i, i < n → K' i = fs_cr K p a h i) (hR : ∀ i, i < n → R' i = fs_cr R q a h i) (hP : ∀ i, i < n → P' i = if i = p then (K p).1 else if (P i).1 a = true then fs_va (P i) (K p).1 else P i) : fs_Sim n K' P' R' := by
  have hn := S.1.1
  have ha' : a < 10 := by omega
  obtain ⟨r1, r2, -⟩ := fs_Tab_Sp S.1 S.2
  have k1 := S.1.2.1
  have k2 := S.1.2.2.1
  have oK : fs_om (fs_io (K p)).1 (fs_Zv a) = true := by rw [fs_om_Z ha']; exact hKp
  have oR : fs_om (fs_io (R q)).1 (fs_Zv a) = true := by rw [fs_om_Z ha']; exact hRq
  refine ⟨fs_Tab_congr (fs_Tab_col (h := h) S.1 hp ha oK) (fun i hi => by rw [hK i hi]; exact fs_cr_io ha' hp k1 hi) (fun i hi => ?_), fun g => ?_⟩
  · rw [hP i hi]
    unfold fs_colP
    by_cases hip : i = p
    · rw [if_pos hip, if_pos hip]; rfl
    · rw [if_neg hip, if_neg hip, fs_om_Z ha']; rfl
  · have a1 := fs_Sp_congr (n := n) (R := fun i => fs_io (R' i)) (R' := fs_col (fun i => fs_io (R i)) q (fs_Zv a, 0#2, h)) (fun i hi => by rw [hR i hi]; exact fs_cr_io ha' hq r1 hi) g
    have a2 := fs_Sp_congr (n := n) (R := fun i => fs_io (K' i)) (R' := fs_col (fun i => fs_io (K i)) p (fs_Zv a, 0#2, h)) (fun i hi => by rw [hK i hi]; exact fs_cr_io ha' hp k1 hi) g
    rw [a1, a2, fs_Sp_col hq r1 r2 (fs_inv_Z a h) oR g, fs_Sp_col hp k1 k2 (fs_inv_Z a h) oK g]
    constructor
    · rintro ⟨k, hk, e⟩; exact ⟨k, (S.2 k).mp hk, e⟩
    · rintro ⟨k, hk, e⟩; exact ⟨k, (S.2 k).mpr hk, e⟩
-- a look that is told: the class's product
def fs_r1 : fs_R := (fs_v0, false, 0)
def fs_pd (K : Nat → fs_R) (P : Nat → fs_V) (a : Nat) : Nat → fs_R
  | 0 => fs_r1
  | i + 1 => if (P i).1 a = true then fs_rm (K i) (fs_pd K P a i) else fs_pd K P a i
theorem fs_io_1 : fs_io fs_r1 = fs_one := by
  unfold fs_io fs_r1 fs_one
  dsimp only
  have e : fs_q fs_v0 = 0#2 := by
    unfold fs_q fs_v0
    dsimp only
    have e : fs_s (fun _ => fs_o (false && false)) 10 = fs_s (fun _ => fs_d false) 10 := fs_s_congr fun w _ => rfl
    rw [e, fs_s_d, fs_par_false]; rfl
  rw [e]; rfl
theorem fs_pd_io {n a : Nat} {K : Nat → fs_R} {P : Nat → fs_V} (T : fs_Tab n (fun i => fs_io (K i)) P) (ha : a < 10) : ∀ m, m ≤ n → fs_io (fs_pd K P a m) = fs_pr (fun i => fs_io (K i)) (fun i => fs_om (P i) (fs_Zv a)) m := by
  intro m
  induction m with
  | zero => intro _; exact fs_io_1
  | succ m ih =>
    intro hm
    show fs_io (if (P m).1 a = true then fs_rm (K m) (fs_pd K P a m) else fs_pd K P a m) = (if fs_om (P m) (fs_Zv a) = true then fs_mul (fs_pr (fun i => fs_io (K i)) (fun i => fs_om (P i) (fs_Zv a)) m) (fs_io (K m)) else fs_pr (fun i => fs_io (K i)) (fun i => fs_om (P i) (fs_Zv a)) m)
    rw [fs_om_Z ha]
    have e := ih (by omega)
    split
    · have hin : fs_Sp n (fun i => fs_io (K i)) (fs_io (fs_pd K P a m)) := by rw [e]; exact fs_pr_in (by omega)
      have hom : fs_om (fs_io (fs_pd K P a m)).1 (fs_io (K m)).1 = false := fs_Sp_om (g := fs_io (fs_pd K P a m)) (h := fs_io (K m)) T.2.1 hin (fs_Sp_g (R := fun i => fs_io (K i)) (i := m) (by omega))
      rw [fs_rm_io' (t := K m) (r := fs_pd K P a m) hom, e]
    · exact e
theorem fs_Sim_told {n a : Nat} {K R R' : Nat → fs_R} {P : Nat → fs_V} {us : Nat → Bool} {md : fs_R} (S : fs_Sim n K P R) (ha : a < n) (h : ∀ i, i < n → (K i).1.1 a = false)
    (E : fs_El n (fs_Sp n (fun i => fs_io (K i))) (fs_Zv a) 20 us (fun i => fs_io (R' i)) (fs_io md)) : fs_Sim n K P R' ∧ md = fs_pd K P a n := by
  have hn := S.1.1
  have k1 := S.1.2.1
  have k2 := S.1.2.2.1
  refine ⟨⟨S.1, E.1⟩, fs_io_inj ?_⟩
  have hsu : ∀ g, fs_Sp n (fun i => fs_io (K i)) g → fs_su n g.1 := fun g hg => hg (fun g => fs_su n g.1) fs_su_0 (fun g j hj hg => fs_su_a hg (S.1.2.2.2.2.1 j hj).1)
  have hm : (fs_io md).1 = fs_Zv a := fs_El_end E (fs_su_Z (by omega)) (fun g hg w hw => hsu g hg w (by omega))
  have hp : (fs_io (fs_pd K P a n)).1 = fs_Zv a := by
    rw [fs_pd_io S.1 (by omega) n (Nat.le_refl n)]
    exact fs_told S.1 ha (fun i hi => by rw [fs_om_Z (by omega)]; exact h i hi)
  refine fs_Sp_one k1 k2 S.1.2.2.2.1 E.2.2.2 ?_ (hm.trans hp.symm)
  rw [fs_pd_io S.1 (by omega) n (Nat.le_refl n)]
  exact fs_pr_in (Nat.le_refl n)
/-- the start of the reference's elimination -/
theorem fs_Sim_el0 {n a : Nat} {K R : Nat → fs_R} {P : Nat → fs_V} {us : Nat → Bool} (S : fs_Sim n K P R) (ha : a < n) (h : ∀ i, i < n → (K i).1.1 a = false) (hu : ∀ i, i < n → us i = false) :
    fs_El n (fs_Sp n (fun i => fs_io (K i))) (fs_Zv a) 0 us (fun i => fs_io (R i)) (fs_io fs_r1) := by
  have hn := S.1.1
  rw [fs_io_1]
  refine fs_El_0 hu S.2 (g := fs_io (fs_pd K P a n)) ?_ ?_
  · rw [fs_pd_io S.1 (by omega) n (Nat.le_refl n)]
    exact fs_pr_in (Nat.le_refl n)
  · rw [fs_pd_io S.1 (by omega) n (Nat.le_refl n)]
    exact fs_told S.1 ha (fun i hi => by rw [fs_om_Z (by omega)]; exact h i hi)
/-- a row of the elimination with a pivot, in rows -/
def fs_er (us : Nat → Bool) (R : Nat → fs_R) (p c : Nat) : Nat → fs_R := fun i => if us i = false ∧ i ≠ p ∧ fs_cl c (R i).1 = true then fs_rm (R p) (R i) else R i
theorem fs_El_congr {n c : Nat} {G : fs_E → Prop} {z : fs_V} {us us' : Nat → Bool} {R R' : Nat → fs_E} {md : fs_E} (E : fs_El n G z c us R md) (hR : ∀ i, i < n → R' i = R i) (hu : ∀ i, i < n → us' i = us i) : fs_El n G z c us' R' md := by
  obtain ⟨e1, e2, e3, e4⟩ := E
  refine ⟨fun g => (fs_Sp_congr hR g).trans (e1 g), fun i hi hui d hd => ?_, fun Q h1 h2 => e3 Q h1 (fun v i hi hui hv => ?_), e4⟩
  · rw [hR i hi]; rw [hu i hi] at hui; exact e2 i hi hui d hd
  · rw [← hR i hi]; exact h2 v i hi (by rw [hu i hi]; exact hui) hv
theorem fs_El_step {n c p : Nat} {K : Nat → fs_E} {z : fs_V} {R R' : Nat → fs_R} {us us' : Nat → Bool} {md md' : fs_R} (hC : fs_Cm n K) (hI : ∀ i, i < n → fs_inv (K i)) (E : fs_El n (fs_Sp n K) z c us (fun i => fs_io (R i)) (fs_io md)) (hp : p < n) (hup : us p = false) (hpc : fs_cl c (R p).1 = true)
    (hR : ∀ i, i < n → R' i = fs_er us R p c i) (hu : ∀ i, i < n → us' i = fs_up us p true i) (hm : md' = if fs_cl c (fs_va md.1 z) = true then fs_rm (R p) md else md) :
    fs_El n (fs_Sp n K) z (c + 1) us' (fun i => fs_io (R' i)) (fs_io md') := by
  have h1 := fs_El_yes (c := c) (p := p) E (fun g hg => fs_Sp_inv hC hI hg) hp hup hpc
  have inG : ∀ i, i < n → fs_Sp n K (fs_io (R i)) := fun i hi => (E.1 _).mp (fs_Sp_g (R := fun i => fs_io (R i)) hi)
  have e : fs_io md' = if fs_cl c (fs_va (fs_io md).1 z) = true then fs_mul (fs_io md) (fs_io (R p)) else fs_io md := by
    rw [hm]
    show fs_io (if fs_cl c (fs_va md.1 z) = true then fs_rm (R p) md else md) = (if fs_cl c (fs_va md.1 z) = true then _ else _)
    split
    · have hom : fs_om (fs_io md).1 (fs_io (R p)).1 = false := fs_Sp_om (g := fs_io md) (h := fs_io (R p)) hC E.2.2.2 (inG p hp)
      exact fs_rm_io' (t := R p) (r := md) hom
    · rfl
  rw [e]
  refine fs_El_congr h1 (fun i hi => ?_) hu
  rw [hR i hi]
  unfold fs_er fs_el
  split
  · rename_i q
    rw [if_pos (show us i = false ∧ i ≠ p ∧ fs_cl c ((fun i => fs_io (R i)) i).1 = true from q)]
    have hom : fs_om (fs_io (R i)).1 (fs_io (R p)).1 = false := fs_Sp_om (g := fs_io (R i)) (h := fs_io (R p)) hC (inG i hi) (inG p hp)
    exact fs_rm_io' (t := R p) (r := R i) hom
  · rename_i q
    rw [if_neg (show ¬ (us i = false ∧ i ≠ p ∧ fs_cl c ((fun i => fs_io (R i)) i).1 = true) from q)]
