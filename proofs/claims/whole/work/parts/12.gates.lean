-- the gates, on products and on rows
theorem fs_up_xor (f g : Nat → Bool) (a : Nat) (x y : Bool) : fs_up (fun w => f w ^^ g w) a (x ^^ y) = fun w => fs_up f a x w ^^ fs_up g a y w := by
  funext w
  unfold fs_up
  split <;> rfl
def fs_e0 : fs_V → Int64 := fun _ => 0
theorem fs_e0_h (u v : fs_V) : fs_e0 (fs_va u v) = fs_e0 u ^^^ fs_e0 v := by unfold fs_e0; decide
def fs_gaH (a : Nat) (v : fs_V) : fs_V := (fs_up v.1 a (v.2 a), fs_up v.2 a (v.1 a))
def fs_alH (a : Nat) (v : fs_V) : BitVec 2 := fs_d (v.1 a && v.2 a)
def fs_gaS (a : Nat) (v : fs_V) : fs_V := (v.1, fs_up v.2 a (v.2 a ^^ v.1 a))
def fs_alS (a : Nat) (v : fs_V) : BitVec 2 := fs_o (v.1 a)
def fs_gaC (a b : Nat) (v : fs_V) : fs_V := (fs_up v.1 b (v.1 b ^^ v.1 a), fs_up v.2 a (v.2 a ^^ v.2 b))
def fs_al0 (_ : fs_V) : BitVec 2 := 0#2
def fs_gaD (a b : Nat) (v : fs_V) : fs_V := (v.1, fs_up (fs_up v.2 a (v.2 a ^^ v.1 b)) b (v.2 b ^^ v.1 a))
def fs_alD (a b : Nat) (v : fs_V) : BitVec 2 := fs_d (v.1 a && v.1 b)
def fs_gaW (a b : Nat) (v : fs_V) : fs_V := (fs_up (fs_up v.1 a (v.1 b)) b (v.1 a), fs_up (fs_up v.2 a (v.2 b)) b (v.2 a))
def fs_gaI (v : fs_V) : fs_V := v
def fs_alX (a : Nat) (v : fs_V) : BitVec 2 := fs_d (v.2 a)
def fs_alZ (a : Nat) (v : fs_V) : BitVec 2 := fs_d (v.1 a)
def fs_alR (a : Nat) (c : Bool) (v : fs_V) : BitVec 2 := fs_d (c && v.2 a)
def fs_etR (a : Nat) (r : Int64) (v : fs_V) : Int64 := if v.2 a = true then r else 0
theorem fs_k1 : ∀ (xu zu xv zv l : Bool), fs_d ((xu ^^ xv) && (zu ^^ zv)) + fs_d l = fs_d (xu && zu) + fs_d (xv && zv) + fs_d (l ^^ ((xu && zv) ^^ (zu && xv))) := by decide +kernel
theorem fs_hom_H {a : Nat} (ha : a < 10) : fs_Hom (fs_gaH a) (fs_alH a) fs_e0 := by
  refine ⟨fun u v => ?_, fun u v => ?_, fs_e0_h⟩
  · exact Prod.ext (fs_up_xor _ _ _ _ _) (fs_up_xor _ _ _ _ _)
  · have e : fs_lp (fs_gaH a u).2 (fs_gaH a v).1 = (fs_lp u.2 v.1 ^^ ((u.1 a && v.2 a) ^^ (u.2 a && v.1 a))) := by
      unfold fs_lp fs_gaH
      dsimp only
      rw [fs_par_upd (g := fun w => u.2 w && v.1 w) ha (fun w _ hw => by rw [fs_up_n hw, fs_up_n hw])]
      rw [fs_up_s, fs_up_s]
    rw [e]
    exact fs_k1 _ _ _ _ _
theorem fs_k2 : ∀ (xu zu xv l : Bool), fs_o (xu ^^ xv) + fs_d l = fs_o xu + fs_o xv + fs_d (l ^^ (((zu ^^ xu) && xv) ^^ (zu && xv))) := by decide +kernel
theorem fs_hom_S {a : Nat} (ha : a < 10) : fs_Hom (fs_gaS a) (fs_alS a) fs_e0 := by
  refine ⟨fun u v => ?_, fun u v => ?_, fs_e0_h⟩
  · refine Prod.ext rfl ?_
    show fs_up (fun w => u.2 w ^^ v.2 w) a ((u.2 a ^^ v.2 a) ^^ (u.1 a ^^ v.1 a)) = _
    rw [fs_bx4]
    exact fs_up_xor _ _ _ _ _
  · have e : fs_lp (fs_gaS a u).2 (fs_gaS a v).1 = (fs_lp u.2 v.1 ^^ (((u.2 a ^^ u.1 a) && v.1 a) ^^ (u.2 a && v.1 a))) := by
      unfold fs_lp fs_gaS
      dsimp only
      rw [fs_par_upd (g := fun w => u.2 w && v.1 w) ha (fun w _ hw => by rw [fs_up_n hw])]
      rw [fs_up_s]
    rw [e]
    exact fs_k2 _ _ _ _
theorem fs_k3 : ∀ (zua zub xva xvb l : Bool), 0#2 + fs_d l = 0#2 + 0#2 + fs_d (l ^^ ((((zua ^^ zub) && xva) ^^ (zua && xva)) ^^ ((zub && (xvb ^^ xva)) ^^ (zub && xvb)))) := by decide +kernel
theorem fs_hom_C {a b : Nat} (ha : a < 10) (hb : b < 10) (hab : a ≠ b) : fs_Hom (fs_gaC a b) fs_al0 fs_e0 := by
  refine ⟨fun u v => ?_, fun u v => ?_, fs_e0_h⟩
  · refine Prod.ext ?_ ?_
    · show fs_up (fun w => u.1 w ^^ v.1 w) b ((u.1 b ^^ v.1 b) ^^ (u.1 a ^^ v.1 a)) = _
      rw [fs_bx4]
      exact fs_up_xor _ _ _ _ _
    · show fs_up (fun w => u.2 w ^^ v.2 w) a ((u.2 a ^^ v.2 a) ^^ (u.2 b ^^ v.2 b)) = _
      rw [fs_bx4]
      exact fs_up_xor _ _ _ _ _
  · have e : fs_lp (fs_gaC a b u).2 (fs_gaC a b v).1 = (fs_lp u.2 v.1 ^^ ((((u.2 a ^^ u.2 b) && v.1 a) ^^ (u.2 a && v.1 a)) ^^ ((u.2 b && (v.1 b ^^ v.1 a)) ^^ (u.2 b && v.1 b)))) := by
      unfold fs_lp fs_gaC
      dsimp only
      rw [fs_par_upd2 (g := fun w => u.2 w && v.1 w) ha hb hab (fun w _ hwa hwb => by rw [fs_up_n hwa, fs_up_n hwb])]
      rw [fs_up_s, fs_up_s, fs_up_n hab, fs_up_n (Ne.symm hab)]
    rw [e]
    exact fs_k3 _ _ _ _ _
theorem fs_k4 : ∀ (zua zub xua xub xva xvb l : Bool), fs_d ((xua ^^ xva) && (xub ^^ xvb)) + fs_d l = fs_d (xua && xub) + fs_d (xva && xvb) + fs_d (l ^^ ((((zua ^^ xub) && xva) ^^ (zua && xva)) ^^ (((zub ^^ xua) && xvb) ^^ (zub && xvb)))) := by decide +kernel
theorem fs_hom_D {a b : Nat} (ha : a < 10) (hb : b < 10) (hab : a ≠ b) : fs_Hom (fs_gaD a b) (fs_alD a b) fs_e0 := by
  refine ⟨fun u v => ?_, fun u v => ?_, fs_e0_h⟩
  · refine Prod.ext rfl ?_
    show fs_up (fs_up (fun w => u.2 w ^^ v.2 w) a ((u.2 a ^^ v.2 a) ^^ (u.1 b ^^ v.1 b))) b ((u.2 b ^^ v.2 b) ^^ (u.1 a ^^ v.1 a)) = _
    rw [fs_bx4, fs_bx4 (u.2 b), fs_up_xor, fs_up_xor]
    rfl
  · have e : fs_lp (fs_gaD a b u).2 (fs_gaD a b v).1 = (fs_lp u.2 v.1 ^^ ((((u.2 a ^^ u.1 b) && v.1 a) ^^ (u.2 a && v.1 a)) ^^ (((u.2 b ^^ u.1 a) && v.1 b) ^^ (u.2 b && v.1 b)))) := by
      unfold fs_lp fs_gaD
      dsimp only
      rw [fs_par_upd2 (g := fun w => u.2 w && v.1 w) ha hb hab (fun w _ hwa hwb => by rw [fs_up_n hwb, fs_up_n hwa])]
      rw [fs_up_s, fs_up_n hab, fs_up_s]
    rw [e]
    exact fs_k4 _ _ _ _ _ _ _
theorem fs_k5 : ∀ (zua zub xva xvb l : Bool), 0#2 + fs_d l = 0#2 + 0#2 + fs_d (l ^^ (((zub && xvb) ^^ (zua && xva)) ^^ ((zua && xva) ^^ (zub && xvb)))) := by decide +kernel
theorem fs_hom_W {a b : Nat} (ha : a < 10) (hb : b < 10) (hab : a ≠ b) : fs_Hom (fs_gaW a b) fs_al0 fs_e0 := by
  refine ⟨fun u v => ?_, fun u v => ?_, fs_e0_h⟩
  · refine Prod.ext ?_ ?_
    · show fs_up (fs_up (fun w => u.1 w ^^ v.1 w) a (u.1 b ^^ v.1 b)) b (u.1 a ^^ v.1 a) = _
      rw [fs_up_xor, fs_up_xor]
      rfl
    · show fs_up (fs_up (fun w => u.2 w ^^ v.2 w) a (u.2 b ^^ v.2 b)) b (u.2 a ^^ v.2 a) = _
      rw [fs_up_xor, fs_up_xor]
      rfl
  · have e : fs_lp (fs_gaW a b u).2 (fs_gaW a b v).1 = (fs_lp u.2 v.1 ^^ (((u.2 b && v.1 b) ^^ (u.2 a && v.1 a)) ^^ ((u.2 a && v.1 a) ^^ (u.2 b && v.1 b)))) := by
      unfold fs_lp fs_gaW
      dsimp only
      rw [fs_par_upd2 (g := fun w => u.2 w && v.1 w) ha hb hab (fun w _ hwa hwb => by rw [fs_up_n hwb, fs_up_n hwa, fs_up_n hwb, fs_up_n hwa])]
      rw [fs_up_s, fs_up_n hab, fs_up_s, fs_up_s, fs_up_n hab, fs_up_s]
    rw [e]
    exact fs_k5 _ _ _ _ _
theorem fs_hom_I {al : fs_V → BitVec 2} {et : fs_V → Int64} (ha : ∀ u v, al (fs_va u v) = al u + al v) (he : ∀ u v, et (fs_va u v) = et u ^^^ et v) : fs_Hom fs_gaI al et :=
  ⟨fun _ _ => rfl, fun u v => by rw [ha]; rfl, he⟩
theorem fs_hom_X (a : Nat) : fs_Hom fs_gaI (fs_alX a) fs_e0 := fs_hom_I (fun _ _ => fs_d_xor _ _) fs_e0_h
theorem fs_hom_Z (a : Nat) : fs_Hom fs_gaI (fs_alZ a) fs_e0 := fs_hom_I (fun _ _ => fs_d_xor _ _) fs_e0_h
theorem fs_k6 : ∀ c x y : Bool, fs_d (c && (x ^^ y)) = fs_d (c && x) + fs_d (c && y) := by decide
theorem fs_hom_R (a : Nat) (c : Bool) (r : Int64) : fs_Hom fs_gaI (fs_alR a c) (fs_etR a r) := fs_hom_I (fun _ _ => fs_k6 _ _ _) (fun u v => by
  unfold fs_etR fs_va
  dsimp only
  have key : ∀ x y : Bool, (if (x ^^ y) = true then r else (0 : Int64)) = (if x = true then r else 0) ^^^ (if y = true then r else 0) := by
    intro x y
    cases x with
    | true =>
      cases y with
      | true => rw [if_neg (by decide), if_pos rfl, fs_x64s]
      | false => rw [if_pos (by decide), if_pos rfl, if_neg (by decide), fs_x640]
    | false =>
      cases y with
      | true => rw [if_pos (by decide), if_neg (by decide), if_pos rfl, fs_x64c, fs_x640]
      | false => rw [if_neg (by decide), if_neg (by decide), fs_x640]
  exact key _ _)
theorem fs_xx : ∀ x y : Bool, ((x ^^ y) ^^ y) = x := by decide
theorem fs_ga2_H (a : Nat) (v : fs_V) : fs_gaH a (fs_gaH a v) = v := by
  refine fs_V_ext fun w => ?_
  unfold fs_gaH
  dsimp only
  by_cases h : w = a
  · subst h; simp only [fs_up_s]; exact ⟨trivial, trivial⟩
  · simp only [fs_up_n h]; exact ⟨trivial, trivial⟩
theorem fs_ga2_S (a : Nat) (v : fs_V) : fs_gaS a (fs_gaS a v) = v := by
  refine fs_V_ext fun w => ⟨rfl, ?_⟩
  unfold fs_gaS
  dsimp only
  by_cases h : w = a
  · subst h; simp only [fs_up_s]; exact fs_xx _ _
  · simp only [fs_up_n h]
theorem fs_ga2_C {a b : Nat} (hab : a ≠ b) (v : fs_V) : fs_gaC a b (fs_gaC a b v) = v := by
  refine fs_V_ext fun w => ⟨?_, ?_⟩
  · unfold fs_gaC
    dsimp only
    by_cases h : w = b
    · subst h; simp only [fs_up_s, fs_up_n hab]; exact fs_xx _ _
    · simp only [fs_up_n h]
  · unfold fs_gaC
    dsimp only
    by_cases h : w = a
    · subst h; simp only [fs_up_s, fs_up_n (Ne.symm hab)]; exact fs_xx _ _
    · simp only [fs_up_n h]
theorem fs_ga2_D {a b : Nat} (hab : a ≠ b) (v : fs_V) : fs_gaD a b (fs_gaD a b v) = v := by
  refine fs_V_ext fun w => ⟨rfl, ?_⟩
  unfold fs_gaD
  dsimp only
  by_cases h : w = b
  · subst h; simp only [fs_up_s]; exact fs_xx _ _
  · by_cases h2 : w = a
    · subst h2; simp only [fs_up_s, fs_up_n hab]; exact fs_xx _ _
    · simp only [fs_up_n h, fs_up_n h2]
theorem fs_ga2_W {a b : Nat} (hab : a ≠ b) (v : fs_V) : fs_gaW a b (fs_gaW a b v) = v := by
  refine fs_V_ext fun w => ?_
  unfold fs_gaW
  dsimp only
  by_cases h : w = b
  · subst h; simp only [fs_up_s, fs_up_n hab]; exact ⟨trivial, trivial⟩
  · by_cases h2 : w = a
    · subst h2; simp only [fs_up_s, fs_up_n hab]; exact ⟨trivial, trivial⟩
    · simp only [fs_up_n h, fs_up_n h2]; exact ⟨trivial, trivial⟩
theorem fs_su_up {n a : Nat} {f : Nat → Bool} {x : Bool} (ha : a < n) (h : ∀ w, n ≤ w → f w = false) : ∀ w, n ≤ w → fs_up f a x w = false := fun w hw => by rw [fs_up_n (by omega)]; exact h w hw
theorem fs_su_i {n : Nat} {v : fs_V} (h1 : ∀ w, n ≤ w → v.1 w = false) (h2 : ∀ w, n ≤ w → v.2 w = false) : fs_su n v := fun w hw => ⟨h1 w hw, h2 w hw⟩
theorem fs_su_gH {n a : Nat} (ha : a < n) {v : fs_V} (h : fs_su n v) : fs_su n (fs_gaH a v) := fs_su_i (fs_su_up ha fun w hw => (h w hw).1) (fs_su_up ha fun w hw => (h w hw).2)
theorem fs_su_gS {n a : Nat} (ha : a < n) {v : fs_V} (h : fs_su n v) : fs_su n (fs_gaS a v) := fs_su_i (fun w hw => (h w hw).1) (fs_su_up ha fun w hw => (h w hw).2)
theorem fs_su_gC {n a b : Nat} (ha : a < n) (hb : b < n) {v : fs_V} (h : fs_su n v) : fs_su n (fs_gaC a b v) := fs_su_i (fs_su_up hb fun w hw => (h w hw).1) (fs_su_up ha fun w hw => (h w hw).2)
theorem fs_su_gD {n a b : Nat} (ha : a < n) (hb : b < n) {v : fs_V} (h : fs_su n v) : fs_su n (fs_gaD a b v) := fs_su_i (fun w hw => (h w hw).1) (fs_su_up hb (fs_su_up ha fun w hw => (h w hw).2))
theorem fs_su_gW {n a b : Nat} (ha : a < n) (hb : b < n) {v : fs_V} (h : fs_su n v) : fs_su n (fs_gaW a b v) := fs_su_i (fs_su_up hb (fs_su_up ha fun w hw => (h w hw).1)) (fs_su_up hb (fs_su_up ha fun w hw => (h w hw).2))
-- a gate by its kind
def fs_ga (k a b : Nat) : fs_V → fs_V := match k with
  | 0 => fs_gaH a
  | 1 => fs_gaS a
  | 2 => fs_gaC a b
  | 3 => fs_gaD a b
  | 4 => fs_gaW a b
  | _ => fs_gaI
def fs_al (k a b : Nat) : fs_V → BitVec 2 := match k with
  | 0 => fs_alH a
  | 1 => fs_alS a
  | 2 => fs_al0
  | 3 => fs_alD a b
  | 4 => fs_al0
  | 5 => fs_alX a
  | _ => fs_alZ a
/-- a gate that there is -/
def fs_okg (n k a b : Nat) : Prop := k ≤ 6 ∧ a < n ∧ (2 ≤ k → k ≤ 4 → b < n ∧ a ≠ b)
theorem fs_kind7 {P : Nat → Prop} (h0 : P 0) (h1 : P 1) (h2 : P 2) (h3 : P 3) (h4 : P 4) (h5 : P 5) (h6 : P 6) {k : Nat} (h : k ≤ 6) : P k := by
  rcases (show k = 0 ∨ k = 1 ∨ k = 2 ∨ k = 3 ∨ k = 4 ∨ k = 5 ∨ k = 6 by omega) with rfl | rfl | rfl | rfl | rfl | rfl | rfl <;> assumption
theorem fs_hom_k {n k a b : Nat} (hn : n ≤ 10) (h : fs_okg n k a b) : fs_Hom (fs_ga k a b) (fs_al k a b) fs_e0 := by
  obtain ⟨h1, h2, h3⟩ := h
  revert h3
  refine fs_kind7 (P := fun k => (2 ≤ k → k ≤ 4 → b < n ∧ a ≠ b) → fs_Hom (fs_ga k a b) (fs_al k a b) fs_e0) ?_ ?_ ?_ ?_ ?_ ?_ ?_ h1 <;> intro q
  · exact fs_hom_H (by omega)
  · exact fs_hom_S (by omega)
  · obtain ⟨q1, q2⟩ := q (by omega) (by omega); exact fs_hom_C (by omega) (by omega) q2
  · obtain ⟨q1, q2⟩ := q (by omega) (by omega); exact fs_hom_D (by omega) (by omega) q2
  · obtain ⟨q1, q2⟩ := q (by omega) (by omega); exact fs_hom_W (by omega) (by omega) q2
  · exact fs_hom_X a
  · exact fs_hom_Z a
theorem fs_ga2_k {n k a b : Nat} (h : fs_okg n k a b) (v : fs_V) : fs_ga k a b (fs_ga k a b v) = v := by
  obtain ⟨h1, h2, h3⟩ := h
  revert h3
  refine fs_kind7 (P := fun k => (2 ≤ k → k ≤ 4 → b < n ∧ a ≠ b) → fs_ga k a b (fs_ga k a b v) = v) ?_ ?_ ?_ ?_ ?_ ?_ ?_ h1 <;> intro q
  · exact fs_ga2_H a v
  · exact fs_ga2_S a v
  · exact fs_ga2_C (q (by omega) (by omega)).2 v
  · exact fs_ga2_D (q (by omega) (by omega)).2 v
  · exact fs_ga2_W (q (by omega) (by omega)).2 v
  · rfl
  · rfl
theorem fs_su_k {n k a b : Nat} (h : fs_okg n k a b) {v : fs_V} (hv : fs_su n v) : fs_su n (fs_ga k a b v) := by
  obtain ⟨h1, h2, h3⟩ := h
  revert h3
  refine fs_kind7 (P := fun k => (2 ≤ k → k ≤ 4 → b < n ∧ a ≠ b) → fs_su n (fs_ga k a b v)) ?_ ?_ ?_ ?_ ?_ ?_ ?_ h1 <;> intro q
  · exact fs_su_gH h2 hv
  · exact fs_su_gS h2 hv
  · exact fs_su_gC h2 (q (by omega) (by omega)).1 hv
  · exact fs_su_gD h2 (q (by omega) (by omega)).1 hv
  · exact fs_su_gW h2 (q (by omega) (by omega)).1 hv
  · exact hv
  · exact hv
-- rows: bits, a sign, a set
abbrev fs_R : Type := fs_V × Bool × Int64
def fs_q (v : fs_V) : BitVec 2 := fs_s (fun w => fs_o (v.1 w && v.2 w)) 10
def fs_io (r : fs_R) : fs_E := (r.1, fs_d r.2.1 + fs_q r.1, r.2.2)
theorem fs_dinj : ∀ (a b : Bool) (q : BitVec 2), fs_d a + q = fs_d b + q → a = b := by decide +kernel
theorem fs_io_inj {r t : fs_R} (h : fs_io r = fs_io t) : r = t := by
  have h1 : r.1 = t.1 := congrArg (fun g : fs_E => g.1) h
  have h2 : fs_d r.2.1 + fs_q r.1 = fs_d t.2.1 + fs_q t.1 := congrArg (fun g : fs_E => g.2.1) h
  have h3 : r.2.2 = t.2.2 := congrArg (fun g : fs_E => g.2.2) h
  rw [h1] at h2
  exact Prod.ext h1 (Prod.ext (fs_dinj _ _ _ h2) h3)
def fs_sg (k a b : Nat) (v : fs_V) : Bool := match k with
  | 0 => v.1 a && v.2 a
  | 1 => v.1 a && v.2 a
  | 2 => v.1 a && v.2 b && (v.1 b ^^ v.2 a ^^ true)
  | 3 => v.1 a && v.1 b && (v.2 a ^^ v.2 b)
  | 4 => false
  | 5 => v.2 a
  | _ => v.1 a
/-- a gate on a row -/
def fs_gr (k a b : Nat) (r : fs_R) : fs_R := (fs_ga k a b r.1, r.2.1 ^^ fs_sg k a b r.1, r.2.2)
theorem fs_m0 : ∀ (c x z : Bool) (q : BitVec 2), fs_d (c ^^ (x && z)) + q = fs_d c + q + fs_d (x && z) := by decide +kernel
theorem fs_m1 : ∀ (c x z : Bool) (q : BitVec 2), fs_d (c ^^ (x && z)) + (q + (fs_o (x && (z ^^ x)) - fs_o (x && z))) = fs_d c + q + fs_o x := by decide +kernel
theorem fs_m2 : ∀ (c xa za xb zb : Bool) (q : BitVec 2), fs_d (c ^^ (xa && zb && (xb ^^ za ^^ true))) + (q + ((fs_o (xa && (za ^^ zb)) - fs_o (xa && za)) + (fs_o ((xb ^^ xa) && zb) - fs_o (xb && zb)))) = fs_d c + q + 0#2 := by decide +kernel
theorem fs_m3 : ∀ (c xa za xb zb : Bool) (q : BitVec 2), fs_d (c ^^ (xa && xb && (za ^^ zb))) + (q + ((fs_o (xa && (za ^^ xb)) - fs_o (xa && za)) + (fs_o (xb && (zb ^^ xa)) - fs_o (xb && zb)))) = fs_d c + q + fs_d (xa && xb) := by decide +kernel
theorem fs_m4 : ∀ (c xa za xb zb : Bool) (q : BitVec 2), fs_d (c ^^ false) + (q + ((fs_o (xb && zb) - fs_o (xa && za)) + (fs_o (xa && za) - fs_o (xb && zb)))) = fs_d c + q + 0#2 := by decide +kernel
theorem fs_m5 : ∀ (c z : Bool) (q : BitVec 2), fs_d (c ^^ z) + q = fs_d c + q + fs_d z := by decide +kernel
theorem fs_gr_io {n k a b : Nat} (hn : n ≤ 10) (h : fs_okg n k a b) (r : fs_R) : fs_io (fs_gr k a b r) = fs_ap (fs_ga k a b) (fs_al k a b) fs_e0 (fs_io r) := by
  obtain ⟨h1, h2, h3⟩ := h
  refine Prod.ext rfl (Prod.ext ?_ (fs_x640 _).symm)
  show fs_d (r.2.1 ^^ fs_sg k a b r.1) + fs_q (fs_ga k a b r.1) = fs_d r.2.1 + fs_q r.1 + fs_al k a b r.1
  revert h3
  refine fs_kind7 (P := fun k => (2 ≤ k → k ≤ 4 → b < n ∧ a ≠ b) → fs_d (r.2.1 ^^ fs_sg k a b r.1) + fs_q (fs_ga k a b r.1) = fs_d r.2.1 + fs_q r.1 + fs_al k a b r.1) ?_ ?_ ?_ ?_ ?_ ?_ ?_ h1 <;> intro q
  · have e : fs_q (fs_ga 0 a b r.1) = fs_q r.1 := fs_s_congr fun w _ => by
      show fs_o (fs_up r.1.1 a (r.1.2 a) w && fs_up r.1.2 a (r.1.1 a) w) = _
      by_cases hw : w = a
      · subst hw; rw [fs_up_s, fs_up_s, Bool.and_comm]
      · rw [fs_up_n hw, fs_up_n hw]
    rw [e]
    exact fs_m0 _ _ _ _
  · have e : fs_q (fs_ga 1 a b r.1) = fs_q r.1 + (fs_o (r.1.1 a && (r.1.2 a ^^ r.1.1 a)) - fs_o (r.1.1 a && r.1.2 a)) := by
      show fs_s (fun w => fs_o (r.1.1 w && fs_up r.1.2 a (r.1.2 a ^^ r.1.1 a) w)) 10 = _
      rw [fs_s_upd (g := fun w => fs_o (r.1.1 w && r.1.2 w)) (a := a) (by omega) (fun w _ hw => by rw [fs_up_n hw])]
      rw [fs_up_s]
      rfl
    rw [e]
    exact fs_m1 _ _ _ _
  · obtain ⟨q1, q2⟩ := q (by omega) (by omega)
    have e : fs_q (fs_ga 2 a b r.1) = fs_q r.1 + ((fs_o (r.1.1 a && (r.1.2 a ^^ r.1.2 b)) - fs_o (r.1.1 a && r.1.2 a)) + (fs_o ((r.1.1 b ^^ r.1.1 a) && r.1.2 b) - fs_o (r.1.1 b && r.1.2 b))) := by
      show fs_s (fun w => fs_o (fs_up r.1.1 b (r.1.1 b ^^ r.1.1 a) w && fs_up r.1.2 a (r.1.2 a ^^ r.1.2 b) w)) 10 = _
      rw [fs_s_upd2 (g := fun w => fs_o (r.1.1 w && r.1.2 w)) (a := a) (b := b) (by omega) (by omega) q2 (fun w _ hwa hwb => by rw [fs_up_n hwa, fs_up_n hwb])]
      rw [fs_up_s, fs_up_s, fs_up_n q2, fs_up_n (Ne.symm q2)]
      rfl
    rw [e]
    exact fs_m2 _ _ _ _ _ _
  · obtain ⟨q1, q2⟩ := q (by omega) (by omega)
    have e : fs_q (fs_ga 3 a b r.1) = fs_q r.1 + ((fs_o (r.1.1 a && (r.1.2 a ^^ r.1.1 b)) - fs_o (r.1.1 a && r.1.2 a)) + (fs_o (r.1.1 b && (r.1.2 b ^^ r.1.1 a)) - fs_o (r.1.1 b && r.1.2 b))) := by
      show fs_s (fun w => fs_o (r.1.1 w && fs_up (fs_up r.1.2 a (r.1.2 a ^^ r.1.1 b)) b (r.1.2 b ^^ r.1.1 a) w)) 10 = _
      rw [fs_s_upd2 (g := fun w => fs_o (r.1.1 w && r.1.2 w)) (a := a) (b := b) (by omega) (by omega) q2 (fun w _ hwa hwb => by rw [fs_up_n hwb, fs_up_n hwa])]
      rw [fs_up_s, fs_up_n q2, fs_up_s]
      rfl
    rw [e]
    exact fs_m3 _ _ _ _ _ _
  · obtain ⟨q1, q2⟩ := q (by omega) (by omega)
    have e : fs_q (fs_ga 4 a b r.1) = fs_q r.1 + ((fs_o (r.1.1 b && r.1.2 b) - fs_o (r.1.1 a && r.1.2 a)) + (fs_o (r.1.1 a && r.1.2 a) - fs_o (r.1.1 b && r.1.2 b))) := by
      show fs_s (fun w => fs_o (fs_up (fs_up r.1.1 a (r.1.1 b)) b (r.1.1 a) w && fs_up (fs_up r.1.2 a (r.1.2 b)) b (r.1.2 a) w)) 10 = _
      rw [fs_s_upd2 (g := fun w => fs_o (r.1.1 w && r.1.2 w)) (a := a) (b := b) (by omega) (by omega) q2 (fun w _ hwa hwb => by rw [fs_up_n hwb, fs_up_n hwa, fs_up_n hwb, fs_up_n hwa])]
      rw [fs_up_s, fs_up_n q2, fs_up_s, fs_up_s, fs_up_n q2, fs_up_s]
      rfl
    rw [e]
    exact fs_m4 _ _ _ _ _ _
  · exact fs_m5 _ _ _
  · exact fs_m5 _ _ _
-- products of rows
def fs_be (x1 z1 x2 z2 : Bool) : BitVec 2 := bif x1 then (bif z1 then fs_o z2 - fs_o x2 else bif z2 then (bif x2 then 1#2 else 3#2) else 0#2) else (bif z1 then (bif x2 then (bif z2 then 3#2 else 1#2) else 0#2) else 0#2)
def fs_S (u v : fs_V) : BitVec 2 := fs_s (fun w => fs_be (u.1 w) (u.2 w) (v.1 w) (v.2 w)) 10
/-- r multiplied by t (t first) -/
def fs_rm (t r : fs_R) : fs_R := (fs_va r.1 t.1, r.2.1 ^^ (t.2.1 ^^ (fs_S t.1 r.1).getLsbD 1), r.2.2 ^^^ t.2.2)
theorem fs_p1 : ∀ x1 z1 x2 z2 : Bool, fs_o ((x2 ^^ x1) && (z2 ^^ z1)) + fs_be x1 z1 x2 z2 = fs_o (x1 && z1) + fs_o (x2 && z2) + fs_d (z1 && x2) := by decide
theorem fs_p2 : ∀ x1 z1 x2 z2 : Bool, (fs_be x1 z1 x2 z2).getLsbD 0 = ((z1 && x2) ^^ (z2 && x1)) := by decide
theorem fs_p3 : ∀ s t : BitVec 2, (s + t).getLsbD 0 = (s.getLsbD 0 ^^ t.getLsbD 0) := by decide +kernel
theorem fs_p4 : ∀ s : BitVec 2, s.getLsbD 0 = false → s = fs_d (s.getLsbD 1) := by decide +kernel
theorem fs_s_bit (f : Nat → BitVec 2) (n : Nat) : (fs_s f n).getLsbD 0 = fs_par (fun w => (f w).getLsbD 0) n := by
  induction n with
  | zero => show (0#2).getLsbD 0 = false; decide
  | succ n ih =>
    show (fs_s f n + f n).getLsbD 0 = (fs_par (fun w => (f w).getLsbD 0) n ^^ (f n).getLsbD 0)
    rw [fs_p3, ih]
theorem fs_S_even (u v : fs_V) : (fs_S u v).getLsbD 0 = fs_om u v := by
  unfold fs_S fs_om fs_lp
  rw [fs_s_bit, ← fs_par_xor]
  exact fs_par_congr fun w _ => fs_p2 _ _ _ _
theorem fs_S_q (u v : fs_V) : fs_q (fs_va v u) + fs_S u v = fs_q u + fs_q v + fs_d (fs_lp u.2 v.1) := by
  unfold fs_q fs_S fs_lp
  rw [← fs_s_d, ← fs_s_add, ← fs_s_add, ← fs_s_add]
  exact fs_s_congr fun w _ => fs_p1 _ _ _ _
theorem fs_p5 : ∀ (c1 c2 s : Bool) (q q1 q2 l : BitVec 2), q + fs_d s = q1 + q2 + l → fs_d (c2 ^^ (c1 ^^ s)) + q = fs_d c1 + q1 + (fs_d c2 + q2) + l := by decide +kernel
theorem fs_rm_io {t r : fs_R} (h : fs_om t.1 r.1 = false) : fs_io (fs_rm t r) = fs_mul (fs_io t) (fs_io r) := by
  refine Prod.ext (fs_va_comm _ _) (Prod.ext ?_ (fs_x64c _ _))
  show fs_d (r.2.1 ^^ (t.2.1 ^^ (fs_S t.1 r.1).getLsbD 1)) + fs_q (fs_va r.1 t.1) = fs_d t.2.1 + fs_q t.1 + (fs_d r.2.1 + fs_q r.1) + fs_d (fs_lp t.1.2 r.1.1)
  refine fs_p5 _ _ _ _ _ _ _ ?_
  rw [← fs_p4 _ ((fs_S_even _ _).trans h)]
  exact fs_S_q _ _
theorem fs_rm_io' {t r : fs_R} (h : fs_om r.1 t.1 = false) : fs_io (fs_rm t r) = fs_mul (fs_io r) (fs_io t) := by
  rw [fs_rm_io (by rw [fs_om_c]; exact h), fs_mul_comm (by rw [fs_om_c]; exact h)]
