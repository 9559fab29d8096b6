section
-- signed products of x's and z's, with a phase mod 4 and a set of random looks: a group; what its rows span
abbrev fs_V : Type := (Nat → Bool) × (Nat → Bool)
abbrev fs_E : Type := fs_V × BitVec 2 × Int64
def fs_par (f : Nat → Bool) : Nat → Bool
  | 0 => false
  | n + 1 => fs_par f n ^^ f n
def fs_s (f : Nat → BitVec 2) : Nat → BitVec 2
  | 0 => 0#2
  | n + 1 => fs_s f n + f n
def fs_d (b : Bool) : BitVec 2 := bif b then 2#2 else 0#2
def fs_o (b : Bool) : BitVec 2 := bif b then 1#2 else 0#2
theorem fs_d_xor : ∀ a b : Bool, fs_d (a ^^ b) = fs_d a + fs_d b := by decide
theorem fs_d_inj : ∀ a b : Bool, fs_d a = fs_d b → a = b := by decide
theorem fs_par_congr {f g : Nat → Bool} {n : Nat} (h : ∀ w, w < n → f w = g w) : fs_par f n = fs_par g n := by
  induction n with
  | zero => rfl
  | succ n ih =>
    show (fs_par f n ^^ f n) = (fs_par g n ^^ g n)
    rw [ih (fun w hw => h w (by omega)), h n (by omega)]
theorem fs_s_congr {f g : Nat → BitVec 2} {n : Nat} (h : ∀ w, w < n → f w = g w) : fs_s f n = fs_s g n := by
  induction n with
  | zero => rfl
  | succ n ih =>
    show fs_s f n + f n = fs_s g n + g n
    rw [ih (fun w hw => h w (by omega)), h n (by omega)]
theorem fs_bx4 : ∀ a b c d : Bool, ((a ^^ b) ^^ (c ^^ d)) = ((a ^^ c) ^^ (b ^^ d)) := by decide
theorem fs_par_xor (f g : Nat → Bool) (n : Nat) : fs_par (fun w => f w ^^ g w) n = (fs_par f n ^^ fs_par g n) := by
  induction n with
  | zero => rfl
  | succ n ih =>
    show (fs_par (fun w => f w ^^ g w) n ^^ (f n ^^ g n)) = _
    rw [ih]
    exact fs_bx4 _ _ _ _
theorem fs_par_false (n : Nat) : fs_par (fun _ => false) n = false := by
  induction n with
  | zero => rfl
  | succ n ih =>
    show (fs_par (fun _ => false) n ^^ false) = false
    rw [ih]; rfl
theorem fs_va4 : ∀ a b c d : BitVec 2, a + b + (c + d) = a + c + (b + d) := by decide +kernel
theorem fs_s_add (f g : Nat → BitVec 2) (n : Nat) : fs_s (fun w => f w + g w) n = fs_s f n + fs_s g n := by
  induction n with
  | zero => rfl
  | succ n ih =>
    show fs_s (fun w => f w + g w) n + (f n + g n) = _
    rw [ih]
    exact fs_va4 _ _ _ _
theorem fs_s_d (f : Nat → Bool) (n : Nat) : fs_s (fun w => fs_d (f w)) n = fs_d (fs_par f n) := by
  induction n with
  | zero => rfl
  | succ n ih =>
    show fs_s (fun w => fs_d (f w)) n + fs_d (f n) = fs_d (fs_par f n ^^ f n)
    rw [ih, fs_d_xor]
/-- one place changed -/
theorem fs_par_upd {f g : Nat → Bool} {a : Nat} : ∀ {n : Nat}, a < n → (∀ w, w < n → w ≠ a → f w = g w) → fs_par f n = (fs_par g n ^^ (f a ^^ g a))
  | 0, h, _ => absurd h (Nat.not_lt_zero _)
  | n + 1, h, he => by
    show (fs_par f n ^^ f n) = ((fs_par g n ^^ g n) ^^ (f a ^^ g a))
    by_cases hn : a = n
    · subst hn
      rw [fs_par_congr (n := a) (fun w hw => he w (by omega) (by omega))]
      generalize fs_par g a = x; generalize f a = y; generalize g a = z
      revert x y z; decide
    · rw [fs_par_upd (n := n) (by omega) (fun w hw => he w (by omega)), he n (by omega) (fun h => hn h.symm)]
      generalize fs_par g n = x; generalize g n = y; generalize (f a ^^ g a) = z
      revert x y z; decide
theorem fs_s_upd {f g : Nat → BitVec 2} {a : Nat} : ∀ {n : Nat}, a < n → (∀ w, w < n → w ≠ a → f w = g w) → fs_s f n = fs_s g n + (f a - g a)
  | 0, h, _ => absurd h (Nat.not_lt_zero _)
  | n + 1, h, he => by
    show fs_s f n + f n = (fs_s g n + g n) + (f a - g a)
    by_cases hn : a = n
    · subst hn
      rw [fs_s_congr (n := a) (fun w hw => he w (by omega) (by omega))]
      generalize fs_s g a = x; generalize f a = y; generalize g a = z
      revert x y z; decide +kernel
    · rw [fs_s_upd (n := n) (by omega) (fun w hw => he w (by omega)), he n (by omega) (fun h => hn h.symm)]
      generalize fs_s g n = x; generalize g n = y; generalize (f a - g a) = z
      revert x y z; decide +kernel
def fs_up (f : Nat → Bool) (a : Nat) (v : Bool) : Nat → Bool := fun w => if w = a then v else f w
theorem fs_up_s (f : Nat → Bool) (a : Nat) (v : Bool) : fs_up f a v a = v := if_pos rfl
theorem fs_up_n {f : Nat → Bool} {a w : Nat} {v : Bool} (h : w ≠ a) : fs_up f a v w = f w := if_neg h
theorem fs_par_upd2 {f g : Nat → Bool} {a b n : Nat} (ha : a < n) (hb : b < n) (hab : a ≠ b) (he : ∀ w, w < n → w ≠ a → w ≠ b → f w = g w) : fs_par f n = (fs_par g n ^^ ((f a ^^ g a) ^^ (f b ^^ g b))) := by
  have h1 : fs_par f n = (fs_par (fs_up f a (g a)) n ^^ (f a ^^ g a)) := by
    have := fs_par_upd (f := f) (g := fs_up f a (g a)) ha (fun w _ hw => (fs_up_n hw).symm)
    rw [fs_up_s] at this
    exact this
  have h2 : fs_par (fs_up f a (g a)) n = (fs_par g n ^^ (f b ^^ g b)) := by
    have := fs_par_upd (f := fs_up f a (g a)) (g := g) hb (fun w hw hwb => by
      by_cases hwa : w = a
      · subst hwa; exact fs_up_s _ _ _
      · rw [fs_up_n hwa]; exact he w hw hwa hwb)
    rw [fs_up_n (fun h => hab h.symm)] at this
    exact this
  rw [h1, h2]
  generalize fs_par g n = x; generalize (f a ^^ g a) = y; generalize (f b ^^ g b) = z
  revert x y z; decide
theorem fs_s_upd2 {f g : Nat → BitVec 2} {a b n : Nat} (ha : a < n) (hb : b < n) (hab : a ≠ b) (he : ∀ w, w < n → w ≠ a → w ≠ b → f w = g w) : fs_s f n = fs_s g n + ((f a - g a) + (f b - g b)) := by
  have h1 : fs_s f n = fs_s (fun w => if w = a then g a else f w) n + (f a - g a) := by
    have := fs_s_upd (f := f) (g := fun w => if w = a then g a else f w) ha (fun w _ hw => by simp [hw])
    simpa using this
  have h2 : fs_s (fun w => if w = a then g a else f w) n = fs_s g n + (f b - g b) := by
    have := fs_s_upd (f := fun w => if w = a then g a else f w) (g := g) hb (fun w hw hwb => by
      by_cases hwa : w = a
      · subst hwa; simp
      · simp [hwa]; exact he w hw hwa hwb)
    simpa [Ne.symm hab] using this
  rw [h1, h2]
  generalize fs_s g n = x; generalize (f a - g a) = y; generalize (f b - g b) = z
  revert x y z; decide +kernel
-- the form
def fs_lp (z x : Nat → Bool) : Bool := fs_par (fun w => z w && x w) 10
def fs_va (u v : fs_V) : fs_V := (fun w => u.1 w ^^ v.1 w, fun w => u.2 w ^^ v.2 w)
def fs_v0 : fs_V := (fun _ => false, fun _ => false)
def fs_om (u v : fs_V) : Bool := fs_lp u.2 v.1 ^^ fs_lp v.2 u.1
theorem fs_and_xor_l : ∀ a b c : Bool, ((a ^^ b) && c) = ((a && c) ^^ (b && c)) := by decide
theorem fs_and_xor_r : ∀ a b c : Bool, (c && (a ^^ b)) = ((c && a) ^^ (c && b)) := by decide
theorem fs_lp_l (z1 z2 x : Nat → Bool) : fs_lp (fun w => z1 w ^^ z2 w) x = (fs_lp z1 x ^^ fs_lp z2 x) := by
  unfold fs_lp
  rw [← fs_par_xor]
  exact fs_par_congr (fun w _ => fs_and_xor_l _ _ _)
theorem fs_lp_r (z x1 x2 : Nat → Bool) : fs_lp z (fun w => x1 w ^^ x2 w) = (fs_lp z x1 ^^ fs_lp z x2) := by
  unfold fs_lp
  rw [← fs_par_xor]
  exact fs_par_congr (fun w _ => fs_and_xor_r _ _ _)
theorem fs_om_l (u v t : fs_V) : fs_om (fs_va u v) t = (fs_om u t ^^ fs_om v t) := by
  unfold fs_om fs_va
  dsimp only
  rw [fs_lp_l, fs_lp_r]
  exact fs_bx4 _ _ _ _
theorem fs_om_r (u v t : fs_V) : fs_om t (fs_va u v) = (fs_om t u ^^ fs_om t v) := by
  unfold fs_om fs_va
  dsimp only
  rw [fs_lp_l, fs_lp_r]
  exact fs_bx4 _ _ _ _
theorem fs_om_c (u v : fs_V) : fs_om u v = fs_om v u := by
  unfold fs_om
  exact Bool.xor_comm _ _
theorem fs_om_s (u : fs_V) : fs_om u u = false := by
  unfold fs_om
  exact Bool.xor_self _
theorem fs_lp_0l (x : Nat → Bool) : fs_lp (fun _ => false) x = false := by
  unfold fs_lp
  simp only [Bool.false_and]
  exact fs_par_false 10
theorem fs_lp_0r (x : Nat → Bool) : fs_lp x (fun _ => false) = false := by
  unfold fs_lp
  simp only [Bool.and_false]
  exact fs_par_false 10
theorem fs_om_0 (u : fs_V) : fs_om u fs_v0 = false := by
  unfold fs_om fs_v0
  dsimp only
  rw [fs_lp_0l, fs_lp_0r]; rfl
theorem fs_V_ext {u v : fs_V} (h : ∀ w, u.1 w = v.1 w ∧ u.2 w = v.2 w) : u = v := Prod.ext (funext fun w => (h w).1) (funext fun w => (h w).2)
theorem fs_va_assoc (u v t : fs_V) : fs_va (fs_va u v) t = fs_va u (fs_va v t) := fs_V_ext fun w => ⟨Bool.xor_assoc _ _ _, Bool.xor_assoc _ _ _⟩
theorem fs_va_comm (u v : fs_V) : fs_va u v = fs_va v u := fs_V_ext fun w => ⟨Bool.xor_comm _ _, Bool.xor_comm _ _⟩
theorem fs_va_self (u : fs_V) : fs_va u u = fs_v0 := fs_V_ext fun w => ⟨Bool.xor_self _, Bool.xor_self _⟩
theorem fs_va_0 (u : fs_V) : fs_va u fs_v0 = u := fs_V_ext fun w => ⟨Bool.xor_false _, Bool.xor_false _⟩
theorem fs_va_0l (u : fs_V) : fs_va fs_v0 u = u := fs_V_ext fun w => ⟨Bool.false_xor _, Bool.false_xor _⟩
-- the group
def fs_one : fs_E := (fs_v0, 0#2, 0)
def fs_mul (g h : fs_E) : fs_E := (fs_va g.1 h.1, g.2.1 + h.2.1 + fs_d (fs_lp g.1.2 h.1.1), g.2.2 ^^^ h.2.2)
theorem fs_x64a (a b c : Int64) : a ^^^ b ^^^ c = a ^^^ (b ^^^ c) := Int64.toBitVec_inj.mp (by rw [Int64.toBitVec_xor, Int64.toBitVec_xor, Int64.toBitVec_xor, Int64.toBitVec_xor, BitVec.xor_assoc])
theorem fs_x64c (a b : Int64) : a ^^^ b = b ^^^ a := Int64.toBitVec_inj.mp (by rw [Int64.toBitVec_xor, Int64.toBitVec_xor, BitVec.xor_comm])
theorem fs_x64s (a : Int64) : a ^^^ a = 0 := Int64.toBitVec_inj.mp (by rw [Int64.toBitVec_xor, BitVec.xor_self]; rfl)
theorem fs_x640 (a : Int64) : a ^^^ 0 = a := Int64.toBitVec_inj.mp (by rw [Int64.toBitVec_xor]; exact BitVec.xor_zero)
theorem fs_asc : ∀ (a b c : BitVec 2) (l1 l2 l3 : Bool), a + b + fs_d l1 + c + fs_d (l2 ^^ l3) = a + (b + c + fs_d l3) + fs_d (l1 ^^ l2) := by decide +kernel
theorem fs_mul_assoc (g h k : fs_E) : fs_mul (fs_mul g h) k = fs_mul g (fs_mul h k) := by
  unfold fs_mul
  dsimp only
  refine Prod.ext (fs_va_assoc _ _ _) (Prod.ext ?_ (fs_x64a _ _ _))
  show _ + _ = _ + _
  unfold fs_va
  dsimp only
  rw [fs_lp_l, fs_lp_r]
  exact fs_asc _ _ _ _ _ _
theorem fs_mul_1 (g : fs_E) : fs_mul g fs_one = g := by
  unfold fs_mul fs_one
  dsimp only
  refine Prod.ext (fs_va_0 _) (Prod.ext ?_ (fs_x640 _))
  show g.2.1 + 0#2 + fs_d (fs_lp g.1.2 fs_v0.1) = g.2.1
  rw [show fs_lp g.1.2 fs_v0.1 = false from fs_lp_0r _]
  show g.2.1 + 0#2 + 0#2 = g.2.1
  rw [BitVec.add_zero, BitVec.add_zero]
theorem fs_1_mul (g : fs_E) : fs_mul fs_one g = g := by
  unfold fs_mul fs_one
  dsimp only
  refine Prod.ext (fs_va_0l _) (Prod.ext ?_ ((fs_x64c _ _).trans (fs_x640 _)))
  show 0#2 + g.2.1 + fs_d (fs_lp fs_v0.2 g.1.1) = g.2.1
  rw [show fs_lp fs_v0.2 g.1.1 = false from fs_lp_0l _]
  show 0#2 + g.2.1 + 0#2 = g.2.1
  rw [BitVec.zero_add, BitVec.add_zero]
theorem fs_xf : ∀ a b : Bool, (a ^^ b) = false → a = b := by decide
theorem fs_mul_comm {g h : fs_E} (c : fs_om g.1 h.1 = false) : fs_mul g h = fs_mul h g := by
  have e : fs_lp g.1.2 h.1.1 = fs_lp h.1.2 g.1.1 := fs_xf _ _ c
  unfold fs_mul
  try dsimp only
  refine Prod.ext (fs_va_comm _ _) (Prod.ext ?_ (fs_x64c _ _))
  show _ + _ = _ + _
  rw [e, BitVec.add_comm g.2.1]
def fs_inv (g : fs_E) : Prop := fs_mul g g = fs_one
theorem fs_inv_mul {g h : fs_E} (c : fs_om g.1 h.1 = false) (a : fs_inv g) (b : fs_inv h) : fs_inv (fs_mul g h) := by
  unfold fs_inv at *
  rw [fs_mul_assoc, ← fs_mul_assoc h g h, fs_mul_comm (g := h) (h := g) (by rw [fs_om_c]; exact c), fs_mul_assoc g h h, b, fs_mul_1, a]
-- what rows span
def fs_Sp (n : Nat) (R : Nat → fs_E) (g : fs_E) : Prop := ∀ S : fs_E → Prop, S fs_one → (∀ (g : fs_E) (i : Nat), i < n → S g → S (fs_mul g (R i))) → S g
theorem fs_Sp_1 {n : Nat} {R : Nat → fs_E} : fs_Sp n R fs_one := fun _ h _ => h
theorem fs_Sp_r {n : Nat} {R : Nat → fs_E} {g : fs_E} {i : Nat} (hi : i < n) (h : fs_Sp n R g) : fs_Sp n R (fs_mul g (R i)) := fun S h1 h2 => h2 _ i hi (h S h1 h2)
theorem fs_Sp_g {n : Nat} {R : Nat → fs_E} {i : Nat} (hi : i < n) : fs_Sp n R (R i) := by
  have := fs_Sp_r hi (fs_Sp_1 (n := n) (R := R))
  rwa [fs_1_mul] at this
theorem fs_Sp_mul {n : Nat} {R : Nat → fs_E} {g h : fs_E} (hg : fs_Sp n R g) (hh : fs_Sp n R h) : fs_Sp n R (fs_mul g h) := by
  refine hh (fun k => fs_Sp n R (fs_mul g k)) ?_ ?_
  · rw [fs_mul_1]; exact hg
  · intro k i hi hk
    rw [← fs_mul_assoc]
    exact fs_Sp_r hi hk
theorem fs_Sp_le {n : Nat} {R R' : Nat → fs_E} (h : ∀ i, i < n → fs_Sp n R' (R i)) {g : fs_E} (hg : fs_Sp n R g) : fs_Sp n R' g :=
  hg (fs_Sp n R') fs_Sp_1 (fun _ i hi hk => fs_Sp_mul hk (h i hi))
theorem fs_Sp_congr {n : Nat} {R R' : Nat → fs_E} (h : ∀ i, i < n → R i = R' i) (g : fs_E) : fs_Sp n R g ↔ fs_Sp n R' g :=
  ⟨fs_Sp_le (fun i hi => by rw [h i hi]; exact fs_Sp_g hi), fs_Sp_le (fun i hi => by rw [← h i hi]; exact fs_Sp_g hi)⟩
/-- rows commute: so does what they span -/
def fs_Cm (n : Nat) (R : Nat → fs_E) : Prop := ∀ i j, i < n → j < n → fs_om (R i).1 (R j).1 = false
theorem fs_mul_v (g h : fs_E) : (fs_mul g h).1 = fs_va g.1 h.1 := rfl
theorem fs_Sp_om1 {n : Nat} {R : Nat → fs_E} {v : fs_V} (h : ∀ i, i < n → fs_om (R i).1 v = false) {g : fs_E} (hg : fs_Sp n R g) : fs_om g.1 v = false := by
  refine hg (fun g => fs_om g.1 v = false) ?_ ?_
  · rw [fs_om_c]; exact fs_om_0 v
  · intro k i hi hk
    rw [fs_mul_v, fs_om_l, hk, h i hi]; rfl
theorem fs_Sp_om {n : Nat} {R : Nat → fs_E} (hC : fs_Cm n R) {g h : fs_E} (hg : fs_Sp n R g) (hh : fs_Sp n R h) : fs_om g.1 h.1 = false :=
  fs_Sp_om1 (fun i hi => by rw [fs_om_c]; exact fs_Sp_om1 (fun j hj => hC j i hj hi) hh) hg
theorem fs_Sp_inv {n : Nat} {R : Nat → fs_E} (hC : fs_Cm n R) (hI : ∀ i, i < n → fs_inv (R i)) {g : fs_E} (hg : fs_Sp n R g) : fs_inv g := by
  have : fs_Sp n R g ∧ fs_inv g := by
    refine hg (fun g => fs_Sp n R g ∧ fs_inv g) ⟨fs_Sp_1, fs_mul_1 _⟩ ?_
    intro k i hi hk
    exact ⟨fs_Sp_r hi hk.1, fs_inv_mul (fs_Sp_om hC hk.1 (fs_Sp_g hi)) hk.2 (hI i hi)⟩
  exact this.2
/-- a map that keeps products -/
theorem fs_Sp_map {n : Nat} {R : Nat → fs_E} {f : fs_E → fs_E} (h1 : f fs_one = fs_one) (hm : ∀ g h, f (fs_mul g h) = fs_mul (f g) (f h)) (g : fs_E) : fs_Sp n (fun i => f (R i)) g ↔ ∃ k, fs_Sp n R k ∧ g = f k := by
  constructor
  · intro hg
    refine hg (fun g => ∃ k, fs_Sp n R k ∧ g = f k) ⟨fs_one, fs_Sp_1, h1.symm⟩ ?_
    rintro g i hi ⟨k, hk, rfl⟩
    exact ⟨fs_mul k (R i), fs_Sp_r hi hk, (hm _ _).symm⟩
  · rintro ⟨k, hk, rfl⟩
    refine hk (fun k => fs_Sp n (fun i => f (R i)) (f k)) ?_ ?_
    · rw [h1]; exact fs_Sp_1
    · intro k i hi h
      rw [hm]
      exact fs_Sp_r (R := fun i => f (R i)) hi h
/-- a look that is random: the pivot row goes, the rows that have an x there are multiplied by it -/
def fs_col (R : Nat → fs_E) (p : Nat) (q : fs_E) : Nat → fs_E := fun i => if i = p then q else if fs_om (R i).1 q.1 = true then fs_mul (R i) (R p) else R i
theorem fs_ndt : ∀ a : Bool, ¬ a = true → a = false := by decide
theorem fs_col_in {n p : Nat} {R : Nat → fs_E} {q : fs_E} (hp : p < n) {i : Nat} (hi : i < n) (hip : i ≠ p) (hk : fs_om (R p).1 q.1 = true) : fs_Sp n R (fs_col R p q i) ∧ fs_om (fs_col R p q i).1 q.1 = false := by
  unfold fs_col
  rw [if_neg hip]
  by_cases h : fs_om (R i).1 q.1 = true
  · rw [if_pos h]
    exact ⟨fs_Sp_mul (fs_Sp_g hi) (fs_Sp_g hp), by rw [fs_mul_v, fs_om_l, h, hk]; rfl⟩
  · rw [if_neg h]
    exact ⟨fs_Sp_g hi, fs_ndt _ h⟩
theorem fs_Sp_col {n p : Nat} {R : Nat → fs_E} {q : fs_E} (hp : p < n) (hC : fs_Cm n R) (hI : ∀ i, i < n → fs_inv (R i)) (hq : fs_inv q) (hk : fs_om (R p).1 q.1 = true) (g : fs_E) :
    fs_Sp n (fs_col R p q) g ↔ ∃ k, fs_Sp n R k ∧ fs_om k.1 q.1 = false ∧ (g = k ∨ g = fs_mul k q) := by
  constructor
  · intro hg
    refine hg (fun g => ∃ k, fs_Sp n R k ∧ fs_om k.1 q.1 = false ∧ (g = k ∨ g = fs_mul k q)) ⟨fs_one, fs_Sp_1, by rw [fs_om_c]; exact fs_om_0 _, Or.inl rfl⟩ ?_
    rintro g i hi ⟨k, hk1, hk2, hk3⟩
    by_cases hip : i = p
    · have e : fs_col R p q i = q := by unfold fs_col; rw [if_pos hip]
      rw [e]
      rcases hk3 with rfl | rfl
      · exact ⟨g, hk1, hk2, Or.inr rfl⟩
      · exact ⟨k, hk1, hk2, Or.inl (by rw [fs_mul_assoc, show fs_mul q q = fs_one from hq, fs_mul_1])⟩
    · obtain ⟨a1, a2⟩ := fs_col_in hp hi hip hk
      refine ⟨fs_mul k (fs_col R p q i), fs_Sp_mul hk1 a1, by rw [fs_mul_v, fs_om_l, hk2, a2]; rfl, ?_⟩
      rcases hk3 with rfl | rfl
      · exact Or.inl rfl
      · right
        rw [fs_mul_assoc, fs_mul_comm (g := q) (by rw [fs_om_c]; exact a2), ← fs_mul_assoc]
  · have key : ∀ k, fs_Sp n R k → (fs_om k.1 q.1 = false → fs_Sp n (fs_col R p q) k) ∧ (fs_om k.1 q.1 = true → fs_Sp n (fs_col R p q) (fs_mul k (R p))) := by
      intro k hk0
      have : fs_Sp n R k ∧ ((fs_om k.1 q.1 = false → fs_Sp n (fs_col R p q) k) ∧ (fs_om k.1 q.1 = true → fs_Sp n (fs_col R p q) (fs_mul k (R p)))) := by
        refine hk0 (fun k => fs_Sp n R k ∧ ((fs_om k.1 q.1 = false → fs_Sp n (fs_col R p q) k) ∧ (fs_om k.1 q.1 = true → fs_Sp n (fs_col R p q) (fs_mul k (R p))))) ⟨fs_Sp_1, fun _ => fs_Sp_1, fun h => ?_⟩ ?_
        · have := fs_om_0 q.1
          rw [fs_om_c] at this
          rw [show fs_om fs_one.1 q.1 = false from this] at h
          cases h
        · rintro k i hi ⟨hk1, ha, hb⟩
          have hsq : fs_mul (R p) (R p) = fs_one := hI p hp
          refine ⟨fs_Sp_r hi hk1, ?_, ?_⟩
          · intro h
            rw [fs_mul_v, fs_om_l] at h
            by_cases hki : fs_om (R i).1 q.1 = true
            · have hkk : fs_om k.1 q.1 = true := by rw [hki] at h; revert h; generalize fs_om k.1 q.1 = b; revert b; decide
              have h1 := hb hkk
              by_cases hip : i = p
              · rw [hip]; exact h1
              · have e : fs_col R p q i = fs_mul (R i) (R p) := by unfold fs_col; rw [if_neg hip, if_pos hki]
                have h2 := fs_Sp_r hi h1
                rw [e, fs_mul_comm (g := R i) (hC i p hi hp), fs_mul_assoc, ← fs_mul_assoc (R p), hsq, fs_1_mul] at h2
                exact h2
            · have hki' := fs_ndt _ hki
              have hkk : fs_om k.1 q.1 = false := by rw [hki'] at h; revert h; generalize fs_om k.1 q.1 = b; revert b; decide
              have hip : i ≠ p := fun z => hki (by rw [z]; exact hk)
              have e : fs_col R p q i = R i := by unfold fs_col; rw [if_neg hip, if_neg hki]
              have h2 := fs_Sp_r hi (ha hkk)
              rw [e] at h2
              exact h2
          · intro h
            rw [fs_mul_v, fs_om_l] at h
            by_cases hki : fs_om (R i).1 q.1 = true
            · have hkk : fs_om k.1 q.1 = false := by rw [hki] at h; revert h; generalize fs_om k.1 q.1 = b; revert b; decide
              have h1 := ha hkk
              by_cases hip : i = p
              · rw [hip, fs_mul_assoc, hsq, fs_mul_1]; exact h1
              · have e : fs_col R p q i = fs_mul (R i) (R p) := by unfold fs_col; rw [if_neg hip, if_pos hki]
                have h2 := fs_Sp_r hi h1
                rw [e, ← fs_mul_assoc] at h2
                exact h2
            · have hki' := fs_ndt _ hki
              have hkk : fs_om k.1 q.1 = true := by rw [hki'] at h; revert h; generalize fs_om k.1 q.1 = b; revert b; decide
              have hip : i ≠ p := fun z => hki (by rw [z]; exact hk)
              have e : fs_col R p q i = R i := by unfold fs_col; rw [if_neg hip, if_neg hki]
              have h2 := fs_Sp_r hi (hb hkk)
              rw [e, fs_mul_assoc, fs_mul_comm (g := R p) (hC p i hp hi), ← fs_mul_assoc] at h2
              exact h2
      exact this.2
    have hqin : fs_Sp n (fs_col R p q) q := by
      have := fs_Sp_g (R := fs_col R p q) hp
      rwa [show fs_col R p q p = q by unfold fs_col; rw [if_pos rfl]] at this
    rintro ⟨k, hk1, hk2, rfl | rfl⟩
    · exact (key _ hk1).1 hk2
    · exact fs_Sp_mul ((key _ hk1).1 hk2) hqin
/-- a row multiplied by another: the same span -/
theorem fs_Sp_step {n p r : Nat} {R : Nat → fs_E} (hp : p < n) (hr : r < n) (hrp : r ≠ p) (hI : fs_inv (R p)) (g : fs_E) : fs_Sp n (fun i => if i = r then fs_mul (R r) (R p) else R i) g ↔ fs_Sp n R g := by
  have hpp : (fun i => if i = r then fs_mul (R r) (R p) else R i) p = R p := if_neg (Ne.symm hrp)
  constructor
  · refine fs_Sp_le (fun i hi => ?_)
    show fs_Sp n R (if i = r then fs_mul (R r) (R p) else R i)
    split
    · exact fs_Sp_mul (fs_Sp_g hr) (fs_Sp_g hp)
    · exact fs_Sp_g hi
  · refine fs_Sp_le (fun i hi => ?_)
    by_cases h : i = r
    · have h1 := fs_Sp_g (R := fun i => if i = r then fs_mul (R r) (R p) else R i) hr
      have h2 := fs_Sp_g (R := fun i => if i = r then fs_mul (R r) (R p) else R i) hp
      have h3 := fs_Sp_mul h1 h2
      rw [if_pos rfl, if_neg (Ne.symm hrp), fs_mul_assoc, show fs_mul (R p) (R p) = fs_one from hI, fs_mul_1] at h3
      rw [h]; exact h3
    · have h1 := fs_Sp_g (R := fun i => if i = r then fs_mul (R r) (R p) else R i) hi
      rwa [if_neg h] at h1
-- a product of chosen rows
def fs_pr (K : Nat → fs_E) (c : Nat → Bool) : Nat → fs_E
  | 0 => fs_one
  | n + 1 => if c n = true then fs_mul (fs_pr K c n) (K n) else fs_pr K c n
theorem fs_pr_congr {K : Nat → fs_E} {c c' : Nat → Bool} {n : Nat} (h : ∀ i, i < n → c i = c' i) : fs_pr K c n = fs_pr K c' n := by
  induction n with
  | zero => rfl
  | succ n ih =>
    show (if c n = true then fs_mul (fs_pr K c n) (K n) else fs_pr K c n) = (if c' n = true then fs_mul (fs_pr K c' n) (K n) else fs_pr K c' n)
    rw [ih (fun i hi => h i (by omega)), h n (by omega)]
theorem fs_pr_in {N : Nat} {K : Nat → fs_E} {c : Nat → Bool} {n : Nat} (hn : n ≤ N) : fs_Sp N K (fs_pr K c n) := by
  induction n with
  | zero => exact fs_Sp_1
  | succ n ih =>
    show fs_Sp N K (if c n = true then fs_mul (fs_pr K c n) (K n) else fs_pr K c n)
    split
    · exact fs_Sp_r (by omega) (ih (by omega))
    · exact ih (by omega)
theorem fs_pr_flip {N : Nat} {K : Nat → fs_E} (hC : fs_Cm N K) (hI : ∀ i, i < N → fs_inv (K i)) {c c' : Nat → Bool} {j : Nat} (hj : c' j = !c j) (ho : ∀ i, i ≠ j → c' i = c i) : ∀ {n : Nat}, n ≤ N → j < n → fs_pr K c' n = fs_mul (fs_pr K c n) (K j)
  | 0, _, h => absurd h (Nat.not_lt_zero _)
  | n + 1, hN, h => by
    show (if c' n = true then fs_mul (fs_pr K c' n) (K n) else fs_pr K c' n) = fs_mul (if c n = true then fs_mul (fs_pr K c n) (K n) else fs_pr K c n) (K j)
    by_cases hjn : j = n
    · subst hjn
      rw [fs_pr_congr (c := c') (c' := c) (n := j) (fun i hi => ho i (by omega)), hj]
      cases hc : c j with
      | true =>
        simp only [Bool.not_true, if_true, Bool.false_eq_true, if_false]
        rw [fs_mul_assoc, show fs_mul (K j) (K j) = fs_one from hI j (by omega), fs_mul_1]
      | false => simp only [Bool.not_false, if_true, Bool.false_eq_true, if_false]
    · rw [fs_pr_flip hC hI hj ho (n := n) (by omega) (by omega), ho n (fun z => hjn z.symm)]
      split
      · rw [fs_mul_assoc, fs_mul_comm (g := K j) (hC j n (by omega) (by omega)), ← fs_mul_assoc]
      · rfl
/-- partners tell the rows that a product is made of: so the sign is one for each product -/
theorem fs_pr_all {n : Nat} {K : Nat → fs_E} {P : Nat → fs_V} (hC : fs_Cm n K) (hI : ∀ i, i < n → fs_inv (K i)) (hP : ∀ i j, i < n → j < n → fs_om (P i) (K j).1 = decide (i = j)) {g : fs_E} (hg : fs_Sp n K g) : g = fs_pr K (fun i => fs_om (P i) g.1) n := by
  refine hg (fun g => g = fs_pr K (fun i => fs_om (P i) g.1) n) ?_ ?_
  · have : ∀ m, fs_pr K (fun i => fs_om (P i) fs_one.1) m = fs_one := by
      intro m
      induction m with
      | zero => rfl
      | succ m ih =>
        show (if fs_om (P m) fs_one.1 = true then _ else fs_pr K (fun i => fs_om (P i) fs_one.1) m) = fs_one
        rw [if_neg (by rw [show fs_om (P m) fs_one.1 = false from fs_om_0 _]; decide)]
        exact ih
    exact (this n).symm
  · intro g j hj hg
    have h1 := fs_pr_flip (K := K) hC hI (c := fun i => fs_om (P i) g.1) (c' := fun i => if i < n then fs_om (P i) (fs_mul g (K j)).1 else fs_om (P i) g.1) (j := j)
      (by simp only [hj, if_true]; rw [fs_mul_v, fs_om_r, hP j j hj hj]; simp)
      (fun i hij => by
        split
        · rename_i hi
          rw [fs_mul_v, fs_om_r, hP i j hi hj, decide_eq_false hij, Bool.xor_false]
        · rfl) (n := n) (Nat.le_refl n) hj
    rw [← hg] at h1
    refine h1.symm.trans ?_
    exact fs_pr_congr (fun i hi => by rw [if_pos hi])
theorem fs_Sp_one {n : Nat} {K : Nat → fs_E} {P : Nat → fs_V} (hC : fs_Cm n K) (hI : ∀ i, i < n → fs_inv (K i)) (hP : ∀ i j, i < n → j < n → fs_om (P i) (K j).1 = decide (i = j)) {g h : fs_E} (hg : fs_Sp n K g) (hh : fs_Sp n K h) (e : g.1 = h.1) : g = h := by
  rw [fs_pr_all hC hI hP hg, fs_pr_all hC hI hP hh, e]
end
section
-- maps of the group; the keepers and partners of a state; looks
def fs_ap (ga : fs_V → fs_V) (al : fs_V → BitVec 2) (et : fs_V → Int64) (g : fs_E) : fs_E := (ga g.1, g.2.1 + al g.1, g.2.2 ^^^ et g.1)
def fs_Hom (ga : fs_V → fs_V) (al : fs_V → BitVec 2) (et : fs_V → Int64) : Prop :=
  (∀ u v, ga (fs_va u v) = fs_va (ga u) (ga v)) ∧ (∀ u v, al (fs_va u v) + fs_d (fs_lp u.2 v.1) = al u + al v + fs_d (fs_lp (ga u).2 (ga v).1)) ∧ ∀ u v, et (fs_va u v) = et u ^^^ et v
theorem fs_h1 : ∀ (a b A B C : BitVec 2) (l1 l2 : Bool), C + fs_d l1 = A + B + fs_d l2 → a + b + fs_d l1 + C = a + A + (b + B) + fs_d l2 := by decide +kernel
theorem fs_ap_mul {ga : fs_V → fs_V} {al : fs_V → BitVec 2} {et : fs_V → Int64} (H : fs_Hom ga al et) (g h : fs_E) : fs_ap ga al et (fs_mul g h) = fs_mul (fs_ap ga al et g) (fs_ap ga al et h) := by
  obtain ⟨h1, h2, h3⟩ := H
  unfold fs_ap fs_mul
  dsimp only
  refine Prod.ext (h1 _ _) (Prod.ext (fs_h1 _ _ _ _ _ _ _ (h2 _ _)) ?_)
  show g.2.2 ^^^ h.2.2 ^^^ et (fs_va g.1 h.1) = (g.2.2 ^^^ et g.1) ^^^ (h.2.2 ^^^ et h.1)
  rw [h3, fs_x64a, fs_x64a, ← fs_x64a h.2.2 (et g.1) (et h.1), fs_x64c h.2.2 (et g.1), fs_x64a]
theorem fs_va_0u {v : fs_V} (h : v = fs_va v v) : v = fs_v0 := h.trans (fs_va_self v)
theorem fs_hom_0 {ga : fs_V → fs_V} {al : fs_V → BitVec 2} {et : fs_V → Int64} (H : fs_Hom ga al et) : ga fs_v0 = fs_v0 ∧ al fs_v0 = 0#2 ∧ et fs_v0 = 0 := by
  obtain ⟨h1, h2, h3⟩ := H
  have e : fs_va fs_v0 fs_v0 = fs_v0 := fs_va_self _
  have a := h1 fs_v0 fs_v0
  rw [e] at a
  have a0 : ga fs_v0 = fs_v0 := fs_va_0u a
  have b := h2 fs_v0 fs_v0
  rw [e, a0] at b
  have c := h3 fs_v0 fs_v0
  rw [e, fs_x64s] at c
  refine ⟨a0, ?_, c⟩
  revert b
  generalize al fs_v0 = A
  generalize fs_lp fs_v0.2 fs_v0.1 = B
  revert A B
  decide +kernel
theorem fs_ap_1 {ga : fs_V → fs_V} {al : fs_V → BitVec 2} {et : fs_V → Int64} (H : fs_Hom ga al et) : fs_ap ga al et fs_one = fs_one := by
  obtain ⟨h1, h2, h3⟩ := fs_hom_0 H
  unfold fs_ap fs_one
  dsimp only
  rw [h1, h2, h3, fs_x640]
  rfl
theorem fs_h2 : ∀ (A B : BitVec 2) (a b c d : Bool), A + fs_d a = B + fs_d c → A + fs_d b = B + fs_d d → (c ^^ d) = (a ^^ b) := by decide +kernel
theorem fs_hom_om {ga : fs_V → fs_V} {al : fs_V → BitVec 2} {et : fs_V → Int64} (H : fs_Hom ga al et) (u v : fs_V) : fs_om (ga u) (ga v) = fs_om u v := by
  have a := H.2.1 u v
  have b := H.2.1 v u
  rw [fs_va_comm v u, BitVec.add_comm (al v)] at b
  exact fs_h2 _ _ _ _ _ _ a b
def fs_su (n : Nat) (v : fs_V) : Prop := ∀ w, n ≤ w → v.1 w = false ∧ v.2 w = false
theorem fs_su_0 {n : Nat} : fs_su n fs_v0 := fun _ _ => ⟨rfl, rfl⟩
theorem fs_su_a {n : Nat} {u v : fs_V} (hu : fs_su n u) (hv : fs_su n v) : fs_su n (fs_va u v) := fun w hw => by
  obtain ⟨a, b⟩ := hu w hw
  obtain ⟨c, d⟩ := hv w hw
  exact ⟨by show (u.1 w ^^ v.1 w) = false; rw [a, c]; rfl, by show (u.2 w ^^ v.2 w) = false; rw [b, d]; rfl⟩
def fs_Zv (a : Nat) : fs_V := (fun _ => false, fun w => decide (w = a))
def fs_Xv (a : Nat) : fs_V := (fun w => decide (w = a), fun _ => false)
theorem fs_su_Z {n a : Nat} (h : a < n) : fs_su n (fs_Zv a) := fun w hw => ⟨rfl, decide_eq_false (by omega)⟩
theorem fs_su_X {n a : Nat} (h : a < n) : fs_su n (fs_Xv a) := fun w hw => ⟨decide_eq_false (by omega), rfl⟩
theorem fs_par_at {a : Nat} (ha : a < 10) (f : Nat → Bool) : fs_par (fun w => decide (w = a) && f w) 10 = f a := by
  rw [fs_par_upd (g := fun _ => false) ha (fun w _ hw => by rw [decide_eq_false hw]; rfl), fs_par_false]
  simp
theorem fs_om_Z {a : Nat} (ha : a < 10) (v : fs_V) : fs_om v (fs_Zv a) = v.1 a := by
  unfold fs_om fs_Zv
  dsimp only
  rw [fs_lp_0r, Bool.false_xor]
  exact fs_par_at ha v.1
theorem fs_om_X {a : Nat} (ha : a < 10) (v : fs_V) : fs_om (fs_Xv a) v = v.2 a := by
  unfold fs_om fs_Xv
  dsimp only
  rw [fs_lp_0l, Bool.false_xor]
  unfold fs_lp
  rw [fs_par_congr (g := fun w => decide (w = a) && v.2 w) (fun w _ => Bool.and_comm _ _)]
  exact fs_par_at ha v.2
/-- keepers and partners -/
def fs_Tab (n : Nat) (K : Nat → fs_E) (P : Nat → fs_V) : Prop :=
  n ≤ 10 ∧ fs_Cm n K ∧ (∀ i, i < n → fs_inv (K i)) ∧ (∀ i j, i < n → j < n → fs_om (P i) (K j).1 = decide (i = j)) ∧ (∀ i, i < n → fs_su n (K i).1 ∧ fs_su n (P i)) ∧
  ∀ v, fs_su n v → (∀ i, i < n → fs_om (K i).1 v = false) → (∀ i, i < n → fs_om (P i) v = false) → v = fs_v0
theorem fs_Tab_ap {n : Nat} {K : Nat → fs_E} {P : Nat → fs_V} (T : fs_Tab n K P) {ga : fs_V → fs_V} {al : fs_V → BitVec 2} {et : fs_V → Int64} (H : fs_Hom ga al et) (hg : ∀ v, ga (ga v) = v) (hs : ∀ v, fs_su n v → fs_su n (ga v)) : fs_Tab n (fun i => fs_ap ga al et (K i)) (fun i => ga (P i)) := by
  obtain ⟨t0, t1, t2, t3, t4, t5⟩ := T
  have hom := fs_hom_om H
  refine ⟨t0, fun i j hi hj => ?_, fun i hi => ?_, fun i j hi hj => ?_, fun i hi => ⟨hs _ (t4 i hi).1, hs _ (t4 i hi).2⟩, fun v hv h1 h2 => ?_⟩
  · show fs_om (ga (K i).1) (ga (K j).1) = false
    rw [hom]; exact t1 i j hi hj
  · show fs_mul (fs_ap ga al et (K i)) (fs_ap ga al et (K i)) = fs_one
    rw [← fs_ap_mul H, show fs_mul (K i) (K i) = fs_one from t2 i hi, fs_ap_1 H]
  · show fs_om (ga (P i)) (ga (K j).1) = _
    rw [hom]; exact t3 i j hi hj
  · have e : ga v = fs_v0 := by
      refine t5 (ga v) (hs v hv) (fun i hi => ?_) (fun i hi => ?_)
      · have h' : fs_om (ga (K i).1) v = false := h1 i hi
        rw [← hom, hg] at h'
        exact h'
      · have h' : fs_om (ga (P i)) v = false := h2 i hi
        rw [← hom, hg] at h'
        exact h'
    rw [← hg v, e]
    exact (fs_hom_0 H).1
theorem fs_Tab_Sp {n : Nat} {K R : Nat → fs_E} {P : Nat → fs_V} (T : fs_Tab n K P) (hS : ∀ g, fs_Sp n R g ↔ fs_Sp n K g) : fs_Cm n R ∧ (∀ i, i < n → fs_inv (R i)) ∧ ∀ i, i < n → fs_su n (R i).1 := by
  obtain ⟨t0, t1, t2, t3, t4, t5⟩ := T
  refine ⟨fun i j hi hj => fs_Sp_om t1 ((hS _).mp (fs_Sp_g hi)) ((hS _).mp (fs_Sp_g hj)), fun i hi => fs_Sp_inv t1 t2 ((hS _).mp (fs_Sp_g hi)), fun i hi => ?_⟩
  exact ((hS _).mp (fs_Sp_g hi)) (fun g => fs_su n g.1) fs_su_0 (fun g j hj hg => fs_su_a hg (t4 j hj).1)
theorem fs_Tab_0 {n : Nat} (hn : n ≤ 10) : fs_Tab n (fun i => (fs_Zv i, 0#2, 0)) fs_Xv := by
  refine ⟨hn, fun i j hi hj => ?_, fun i hi => ?_, fun i j hi hj => ?_, fun i hi => ⟨fs_su_Z hi, fs_su_X hi⟩, fun v hv h1 h2 => ?_⟩
  · show fs_om (fs_Zv i) (fs_Zv j) = false
    rw [fs_om_Z (by omega)]; rfl
  · unfold fs_inv fs_mul
    dsimp only
    rw [fs_va_self, show fs_lp (fs_Zv i).2 (fs_Zv i).1 = false from fs_lp_0r _]
    rfl
  · show fs_om (fs_Xv i) (fs_Zv j) = _
    rw [fs_om_X (by omega)]; rfl
  · refine fs_V_ext fun w => ?_
    by_cases hw : w < n
    · have a := h1 w hw
      have b := h2 w hw
      rw [fs_om_c, fs_om_Z (by omega)] at a
      rw [fs_om_X (by omega)] at b
      exact ⟨a, b⟩
    · exact hv w (by omega)
/-- a random look of a tableau -/
def fs_colP (K : Nat → fs_E) (P : Nat → fs_V) (p : Nat) (z : fs_V) : Nat → fs_V := fun i => if i = p then (K p).1 else if fs_om (P i) z = true then fs_va (P i) (K p).1 else P i
theorem fs_inv_Z (a : Nat) (h : Int64) : fs_inv (fs_Zv a, 0#2, h) := by
  unfold fs_inv fs_mul
  dsimp only
  rw [fs_va_self, fs_x64s, show fs_lp (fs_Zv a).2 (fs_Zv a).1 = false from fs_lp_0r _]
  rfl
theorem fs_b1 : ∀ a b c : Bool, (a ^^ b) = c → b = true → a = !c := by decide
theorem fs_Tab_col {n p a : Nat} {K : Nat → fs_E} {P : Nat → fs_V} {h : Int64} (T : fs_Tab n K P) (hp : p < n) (ha : a < n) (hk : fs_om (K p).1 (fs_Zv a) = true) : fs_Tab n (fs_col K p (fs_Zv a, 0#2, h)) (fs_colP K P p (fs_Zv a)) := by
  obtain ⟨t0, t1, t2, t3, t4, t5⟩ := T
  have cp : fs_col K p (fs_Zv a, 0#2, h) p = (fs_Zv a, 0#2, h) := by unfold fs_col; rw [if_pos rfl]
  have pp : fs_colP K P p (fs_Zv a) p = (K p).1 := by unfold fs_colP; rw [if_pos rfl]
  have cn : ∀ i, i ≠ p → (fs_col K p (fs_Zv a, 0#2, h) i).1 = if fs_om (K i).1 (fs_Zv a) = true then fs_va (K i).1 (K p).1 else (K i).1 := by
    intro i hip
    unfold fs_col
    rw [if_neg hip]
    show (if fs_om (K i).1 (fs_Zv a) = true then fs_mul (K i) (K p) else K i).1 = _
    split <;> rfl
  have pn : ∀ i, i ≠ p → fs_colP K P p (fs_Zv a) i = if fs_om (P i) (fs_Zv a) = true then fs_va (P i) (K p).1 else P i := by
    intro i hip
    unfold fs_colP
    rw [if_neg hip]
  have ci : ∀ i, i < n → i ≠ p → fs_Sp n K (fs_col K p (fs_Zv a, 0#2, h) i) ∧ fs_om (fs_col K p (fs_Zv a, 0#2, h) i).1 (fs_Zv a) = false := fun i hi hip => fs_col_in hp hi hip hk
  refine ⟨t0, fun i j hi hj => ?_, fun i hi => ?_, fun i j hi hj => ?_, fun i hi => ?_, fun v hv h1 h2 => ?_⟩
  · by_cases hip : i = p
    · subst hip
      rw [cp]
      by_cases hjp : j = i
      · subst hjp; rw [cp]; exact fs_om_s _
      · rw [fs_om_c]; exact (ci j hj hjp).2
    · by_cases hjp : j = p
      · subst hjp; rw [cp]; exact (ci i hi hip).2
      · exact fs_Sp_om t1 (ci i hi hip).1 (ci j hj hjp).1
  · by_cases hip : i = p
    · subst hip; rw [cp]; exact fs_inv_Z a h
    · exact fs_Sp_inv t1 t2 (ci i hi hip).1
  · have kk : ∀ j, j < n → j ≠ p → ∀ u : fs_V, fs_om u (fs_col K p (fs_Zv a, 0#2, h) j).1 = (fs_om u (K j).1 ^^ (fs_om (K j).1 (fs_Zv a) && fs_om u (K p).1)) := by
      intro j hj hjp u
      rw [cn j hjp]
      split
      · rename_i q; rw [fs_om_r, q, Bool.true_and]
      · rename_i q; rw [fs_ndt _ q, Bool.false_and, Bool.xor_false]
    by_cases hip : i = p
    · subst hip
      rw [pp]
      by_cases hjp : j = i
      · subst hjp
        rw [cp, decide_eq_true rfl]; exact hk
      · rw [kk j hj hjp, fs_om_s, t1 i j hi hj, decide_eq_false (Ne.symm hjp)]
        simp
    · have pk : ∀ u : fs_V, fs_om (fs_colP K P p (fs_Zv a) i) u = (fs_om (P i) u ^^ (fs_om (P i) (fs_Zv a) && fs_om (K p).1 u)) := by
        intro u
        rw [pn i hip]
        split
        · rename_i q; rw [fs_om_l, q, Bool.true_and]
        · rename_i q; rw [fs_ndt _ q, Bool.false_and, Bool.xor_false]
      by_cases hjp : j = p
      · subst hjp
        rw [cp]
        show fs_om _ (fs_Zv a) = _
        rw [pk, hk, Bool.and_true, Bool.xor_self, decide_eq_false hip]
      · rw [kk j hj hjp, pk, pk, t3 i j hi hj, t3 i p hi hp, t1 p j hp hj, fs_om_s, decide_eq_false hip]
        simp
  · by_cases hip : i = p
    · subst hip; rw [cp, pp]; exact ⟨fs_su_Z ha, (t4 i hi).1⟩
    · rw [cn i hip, pn i hip]
      constructor
      · split
        · exact fs_su_a (t4 i hi).1 (t4 p hp).1
        · exact (t4 i hi).1
      · split
        · exact fs_su_a (t4 i hi).2 (t4 p hp).1
        · exact (t4 i hi).2
  · have hKp : fs_om (K p).1 v = false := by have := h2 p hp; rw [pp] at this; exact this
    have hZ : fs_om (fs_Zv a) v = false := by have := h1 p hp; rw [cp] at this; exact this
    have hK : ∀ i, i < n → fs_om (K i).1 v = false := by
      intro i hi
      by_cases hip : i = p
      · subst hip; exact hKp
      · have := h1 i hi
        rw [cn i hip] at this
        split at this
        · rw [fs_om_l, hKp, Bool.xor_false] at this; exact this
        · exact this
    have hP : ∀ i, i < n → i ≠ p → fs_om (P i) v = false := by
      intro i hi hip
      have := h2 i hi
      rw [pn i hip] at this
      split at this
      · rw [fs_om_l, hKp, Bool.xor_false] at this; exact this
      · exact this
    by_cases hPp : fs_om (P p) v = true
    · have e : fs_va v (K p).1 = fs_v0 := by
        refine t5 _ (fs_su_a hv (t4 p hp).1) (fun i hi => ?_) (fun i hi => ?_)
        · rw [fs_om_r, hK i hi, t1 i p hi hp]; rfl
        · rw [fs_om_r, t3 i p hi hp]
          by_cases hip : i = p
          · subst hip; rw [hPp, decide_eq_true rfl]; rfl
          · rw [hP i hi hip, decide_eq_false hip]; rfl
      have e2 : v = (K p).1 := by
        have := congrArg (fun u => fs_va u (K p).1) e
        try dsimp only at this
        rw [fs_va_assoc, fs_va_self, fs_va_0, fs_va_0l] at this
        exact this
      rw [e2, fs_om_c, hk] at hZ
      cases hZ
    · exact t5 v hv hK (fun i hi => by
        by_cases hip : i = p
        · subst hip; exact fs_ndt _ hPp
        · exact hP i hi hip)
/-- a look that is told: the partners say of which keepers -/
theorem fs_told {n a : Nat} {K : Nat → fs_E} {P : Nat → fs_V} (T : fs_Tab n K P) (ha : a < n) (h : ∀ i, i < n → fs_om (K i).1 (fs_Zv a) = false) : (fs_pr K (fun i => fs_om (P i) (fs_Zv a)) n).1 = fs_Zv a := by
  obtain ⟨t0, t1, t2, t3, t4, t5⟩ := T
  have key : ∀ m, m ≤ n → ∀ i, i < n → fs_om (P i) (fs_pr K (fun i => fs_om (P i) (fs_Zv a)) m).1 = (decide (i < m) && fs_om (P i) (fs_Zv a)) := by
    intro m
    induction m with
    | zero =>
      intro _ i hi
      show fs_om (P i) fs_v0 = _
      rw [fs_om_0, decide_eq_false (Nat.not_lt_zero i)]; rfl
    | succ m ih =>
      intro hm i hi
      show fs_om (P i) (if fs_om (P m) (fs_Zv a) = true then fs_mul (fs_pr K (fun i => fs_om (P i) (fs_Zv a)) m) (K m) else fs_pr K (fun i => fs_om (P i) (fs_Zv a)) m).1 = _
      by_cases him : i = m
      · subst him
        rw [decide_eq_true (Nat.lt_succ_self i), Bool.true_and]
        split
        · rename_i q
          rw [fs_mul_v, fs_om_r, ih (by omega) i hi, decide_eq_false (Nat.lt_irrefl i), t3 i i hi hi, q]
          simp
        · rename_i q
          rw [ih (by omega) i hi, decide_eq_false (Nat.lt_irrefl i), fs_ndt _ q]; rfl
      · have e : decide (i < m + 1) = decide (i < m) := by
          by_cases q : i < m
          · rw [decide_eq_true q, decide_eq_true (by omega)]
          · rw [decide_eq_false q, decide_eq_false (by omega)]
        rw [e]
        split
        · rw [fs_mul_v, fs_om_r, ih (by omega) i hi, t3 i m hi (by omega), decide_eq_false him, Bool.xor_false]
        · exact ih (by omega) i hi
  have hin : fs_Sp n K (fs_pr K (fun i => fs_om (P i) (fs_Zv a)) n) := fs_pr_in (Nat.le_refl n)
  have hsu : fs_su n (fs_pr K (fun i => fs_om (P i) (fs_Zv a)) n).1 := hin (fun g => fs_su n g.1) fs_su_0 (fun g j hj hg => fs_su_a hg (t4 j hj).1)
  have e : fs_va (fs_pr K (fun i => fs_om (P i) (fs_Zv a)) n).1 (fs_Zv a) = fs_v0 := by
    refine t5 _ (fs_su_a hsu (fs_su_Z ha)) (fun i hi => ?_) (fun i hi => ?_)
    · rw [fs_om_r, h i hi, Bool.xor_false]
      exact fs_Sp_om t1 (fs_Sp_g hi) hin
    · rw [fs_om_r, key n (Nat.le_refl n) i hi, decide_eq_true hi, Bool.true_and, Bool.xor_self]
  have := congrArg (fun u => fs_va u (fs_Zv a)) e
  try dsimp only at this
  rw [fs_va_assoc, fs_va_self, fs_va_0, fs_va_0l] at this
  exact this
-- elimination
def fs_cl (c : Nat) (v : fs_V) : Bool := if c < 10 then v.1 c else v.2 (c - 10)
theorem fs_cl_a (c : Nat) (u v : fs_V) : fs_cl c (fs_va u v) = (fs_cl c u ^^ fs_cl c v) := by
  unfold fs_cl fs_va
  split <;> rfl
theorem fs_cl_0 (c : Nat) : fs_cl c fs_v0 = false := by
  unfold fs_cl fs_v0
  split <;> rfl
def fs_VS (n : Nat) (us : Nat → Bool) (R : Nat → fs_E) (v : fs_V) : Prop := ∀ S : fs_V → Prop, S fs_v0 → (∀ (v : fs_V) (i : Nat), i < n → us i = false → S v → S (fs_va v (R i).1)) → S v
theorem fs_VS_r {n : Nat} {us : Nat → Bool} {R : Nat → fs_E} {v : fs_V} {i : Nat} (hi : i < n) (hu : us i = false) (h : fs_VS n us R v) : fs_VS n us R (fs_va v (R i).1) := fun S h1 h2 => h2 _ i hi hu (h S h1 h2)
theorem fs_VS_of {n : Nat} {us : Nat → Bool} {R : Nat → fs_E} (hu : ∀ i, i < n → us i = false) {g : fs_E} (h : fs_Sp n R g) : fs_VS n us R g.1 :=
  h (fun g => fs_VS n us R g.1) (fun _ h1 _ => h1) (fun _ i hi hk => fs_VS_r hi (hu i hi) hk)
theorem fs_VS_cl {n c : Nat} {us : Nat → Bool} {R : Nat → fs_E} {v : fs_V} (h0 : ∀ i, i < n → us i = false → fs_cl c (R i).1 = false) (h : fs_VS n us R v) : fs_cl c v = false :=
  h (fun v => fs_cl c v = false) (fs_cl_0 c) (fun v i hi hu hv => by rw [fs_cl_a, hv, h0 i hi hu]; rfl)
/-- the rows behind a pivot p of column c -/
def fs_el (us : Nat → Bool) (R : Nat → fs_E) (p c : Nat) : Nat → fs_E := fun i => if us i = false ∧ i ≠ p ∧ fs_cl c (R i).1 = true then fs_mul (R i) (R p) else R i
theorem fs_VS_el {n p c : Nat} {us : Nat → Bool} {R : Nat → fs_E} {v : fs_V} (hpc : fs_cl c (R p).1 = true) (h : fs_VS n us R v) : fs_VS n (fs_up us p true) (fs_el us R p c) (if fs_cl c v = true then fs_va v (R p).1 else v) := by
  refine h (fun v => fs_VS n (fs_up us p true) (fs_el us R p c) (if fs_cl c v = true then fs_va v (R p).1 else v)) ?_ ?_
  · rw [fs_cl_0, if_neg (by decide)]
    exact fun _ h1 _ => h1
  · intro v i hi hu hv
    by_cases hip : i = p
    · subst hip
      rw [fs_cl_a, hpc]
      cases hc : fs_cl c v with
      | true =>
        rw [hc, if_pos rfl] at hv
        rw [if_neg (by decide)]
        exact hv
      | false =>
        rw [hc, if_neg (by decide)] at hv
        rw [if_pos (by decide), fs_va_assoc, fs_va_self, fs_va_0]
        exact hv
    · have hu' : fs_up us p true i = false := by rw [fs_up_n hip]; exact hu
      have h1 := fs_VS_r hi hu' hv
      cases hr : fs_cl c (R i).1 with
      | false =>
        have e : fs_el us R p c i = R i := by unfold fs_el; rw [if_neg (fun q => by rw [hr] at q; exact absurd q.2.2 (by decide))]
        rw [e] at h1
        rw [fs_cl_a, hr, Bool.xor_false]
        split
        · rename_i hc
          rw [if_pos hc, fs_va_assoc, fs_va_comm (R p).1, ← fs_va_assoc] at h1
          exact h1
        · rename_i hc
          rw [if_neg hc] at h1
          exact h1
      | true =>
        have e : (fs_el us R p c i).1 = fs_va (R i).1 (R p).1 := by unfold fs_el; rw [if_pos ⟨hu, hip, hr⟩]; rfl
        rw [e] at h1
        rw [fs_cl_a, hr]
        cases hc : fs_cl c v with
        | true =>
          rw [hc, if_pos rfl, fs_va_assoc, fs_va_comm (R i).1, ← fs_va_assoc (R p).1, fs_va_self, fs_va_0l] at h1
          rw [if_neg (by decide)]
          exact h1
        | false =>
          rw [hc, if_neg (by decide), ← fs_va_assoc] at h1
          rw [if_pos (by decide)]
          exact h1
theorem fs_el_Sp {n p c : Nat} {us : Nat → Bool} {R : Nat → fs_E} (hp : p < n) (hI : fs_inv (R p)) (g : fs_E) : fs_Sp n (fs_el us R p c) g ↔ fs_Sp n R g := by
  have ep : fs_el us R p c p = R p := by unfold fs_el; rw [if_neg (fun q => q.2.1 rfl)]
  constructor
  · refine fs_Sp_le (fun i hi => ?_)
    unfold fs_el
    split
    · exact fs_Sp_mul (fs_Sp_g hi) (fs_Sp_g hp)
    · exact fs_Sp_g hi
  · refine fs_Sp_le (fun i hi => ?_)
    have h1 := fs_Sp_g (R := fs_el us R p c) hi
    have h2 := fs_Sp_g (R := fs_el us R p c) hp
    rw [ep] at h2
    by_cases q : us i = false ∧ i ≠ p ∧ fs_cl c (R i).1 = true
    · have e : fs_el us R p c i = fs_mul (R i) (R p) := by unfold fs_el; rw [if_pos q]
      rw [e] at h1
      have h3 := fs_Sp_mul h1 h2
      rw [fs_mul_assoc, show fs_mul (R p) (R p) = fs_one from hI, fs_mul_1] at h3
      exact h3
    · have e : fs_el us R p c i = R i := by unfold fs_el; rw [if_neg q]
      rw [e] at h1
      exact h1
/-- before column c: the rows span what they did, unused ones are 0 in the columns before, what is made lacks a part that unused rows span -/
def fs_El (n : Nat) (G : fs_E → Prop) (z : fs_V) (c : Nat) (us : Nat → Bool) (R : Nat → fs_E) (md : fs_E) : Prop :=
  (∀ g, fs_Sp n R g ↔ G g) ∧ (∀ i, i < n → us i = false → ∀ d, d < c → fs_cl d (R i).1 = false) ∧ fs_VS n us R (fs_va md.1 z) ∧ G md
theorem fs_El_0 {n : Nat} {G : fs_E → Prop} {z : fs_V} {R : Nat → fs_E} {us : Nat → Bool} (hu : ∀ i, i < n → us i = false) (hS : ∀ g, fs_Sp n R g ↔ G g) {g : fs_E} (hg : G g) (hz : g.1 = z) : fs_El n G z 0 us R fs_one := by
  refine ⟨hS, fun _ _ _ d hd => absurd hd (Nat.not_lt_zero d), ?_, (hS _).mp fs_Sp_1⟩
  have := fs_VS_of (us := us) hu ((hS g).mpr hg)
  rw [hz] at this
  show fs_VS n us R (fs_va fs_v0 z)
  rw [fs_va_0l]
  exact this
theorem fs_El_no {n c : Nat} {G : fs_E → Prop} {z : fs_V} {R : Nat → fs_E} {us : Nat → Bool} {md : fs_E} (E : fs_El n G z c us R md) (h : ∀ i, i < n → us i = false → fs_cl c (R i).1 = false) : fs_El n G z (c + 1) us R md ∧ fs_cl c (fs_va md.1 z) = false := by
  obtain ⟨e1, e2, e3, e4⟩ := E
  refine ⟨⟨e1, fun i hi hu d hd => ?_, e3, e4⟩, fs_VS_cl h e3⟩
  rcases Nat.lt_or_ge d c with q | q
  · exact e2 i hi hu d q
  · rw [show d = c by omega]; exact h i hi hu
theorem fs_El_yes {n c p : Nat} {G : fs_E → Prop} {z : fs_V} {R : Nat → fs_E} {us : Nat → Bool} {md : fs_E} (E : fs_El n G z c us R md) (hI : ∀ g, G g → fs_inv g) (hp : p < n) (hup : us p = false) (hpc : fs_cl c (R p).1 = true) :
    fs_El n G z (c + 1) (fs_up us p true) (fs_el us R p c) (if fs_cl c (fs_va md.1 z) = true then fs_mul md (R p) else md) := by
  obtain ⟨e1, e2, e3, e4⟩ := E
  have hIp := hI _ ((e1 _).mp (fs_Sp_g hp))
  refine ⟨fun g => (fs_el_Sp hp hIp g).trans (e1 g), fun i hi hu d hd => ?_, ?_, ?_⟩
  · have hip : i ≠ p := fun q => by rw [q, fs_up_s] at hu; cases hu
    rw [fs_up_n hip] at hu
    unfold fs_el
    by_cases hc : fs_cl c (R i).1 = true
    · rw [if_pos ⟨hu, hip, hc⟩, fs_mul_v, fs_cl_a]
      rcases Nat.lt_or_ge d c with q | q
      · rw [e2 i hi hu d q, e2 p hp hup d q]; rfl
      · rw [show d = c by omega, hc, hpc]; rfl
    · rw [if_neg (fun q => hc q.2.2)]
      rcases Nat.lt_or_ge d c with q | q
      · exact e2 i hi hu d q
      · rw [show d = c by omega]; exact fs_ndt _ hc
  · have := fs_VS_el hpc e3
    by_cases q : fs_cl c (fs_va md.1 z) = true
    · rw [if_pos q] at this ⊢
      rw [fs_mul_v, fs_va_assoc, fs_va_comm (R p).1, ← fs_va_assoc]
      exact this
    · rw [if_neg q] at this ⊢
      exact this
  · split
    · exact (e1 _).mp (fs_Sp_mul ((e1 _).mpr e4) (fs_Sp_g hp))
    · exact e4
theorem fs_El_end {n : Nat} {G : fs_E → Prop} {z : fs_V} {R : Nat → fs_E} {us : Nat → Bool} {md : fs_E} (E : fs_El n G z 20 us R md) (hz : fs_su 10 z) (hG : ∀ g, G g → fs_su 10 g.1) : md.1 = z := by
  obtain ⟨e1, e2, e3, e4⟩ := E
  have h0 : ∀ c, c < 20 → fs_cl c (fs_va md.1 z) = false := fun c hc => fs_VS_cl (fun i hi hu => e2 i hi hu c hc) e3
  have e : fs_va md.1 z = fs_v0 := by
    refine fs_V_ext fun w => ?_
    rcases Nat.lt_or_ge w 10 with q | q
    · have a := h0 w (by omega)
      have b := h0 (w + 10) (by omega)
      unfold fs_cl at a b
      rw [if_pos q] at a
      rw [if_neg (by omega), show w + 10 - 10 = w by omega] at b
      exact ⟨a, b⟩
    · exact fs_su_a (hG _ e4) hz w q
  have := congrArg (fun u => fs_va u z) e
  try dsimp only at this
  rw [fs_va_assoc, fs_va_self, fs_va_0, fs_va_0l] at this
  exact this
end
section
-- the gates, on products and on rows
theorem fs_up_xor (f g : Nat → Bool) (a : Nat) (x y : Bool) : fs_up (fun w => f w ^^ g w) a (x ^^ y) = fun w => fs_up f a x w ^^ fs_up g a y w := by
  funext w
  unfold fs_up
  split <;> rfl
def fs_e0 : fs_V → Int64 := fun _ => 0
theorem fs_e0_h (u v : fs_V) : fs_e0 (fs_va u v) = fs_e0 u ^^^ fs_e0 v := by unfold fs_e0; decide
def fs_gaH (a : Nat) (v : fs_V) : fs_V := (fs_up v.1 a (v.2 a), fs_up v.2 a (v.1 a))
def fs_alH (a : Nat) (v : fs_V) : BitVec 2 := fs_d (v.1 a && v.2 a)
def fs_gaS (a : Nat) (v : fs_V) : fs_V := (v.1, fs_up v.2 a (v.2 a ^^ v.1 a))
def fs_alS (a : Nat) (v : fs_V) : BitVec 2 := fs_o (v.1 a)
def fs_gaC (a b : Nat) (v : fs_V) : fs_V := (fs_up v.1 b (v.1 b ^^ v.1 a), fs_up v.2 a (v.2 a ^^ v.2 b))
def fs_al0 (_ : fs_V) : BitVec 2 := 0#2
def fs_gaD (a b : Nat) (v : fs_V) : fs_V := (v.1, fs_up (fs_up v.2 a (v.2 a ^^ v.1 b)) b (v.2 b ^^ v.1 a))
def fs_alD (a b : Nat) (v : fs_V) : BitVec 2 := fs_d (v.1 a && v.1 b)
def fs_gaW (a b : Nat) (v : fs_V) : fs_V := (fs_up (fs_up v.1 a (v.1 b)) b (v.1 a), fs_up (fs_up v.2 a (v.2 b)) b (v.2 a))
def fs_gaI (v : fs_V) : fs_V := v
def fs_alX (a : Nat) (v : fs_V) : BitVec 2 := fs_d (v.2 a)
def fs_alZ (a : Nat) (v : fs_V) : BitVec 2 := fs_d (v.1 a)
def fs_alR (a : Nat) (c : Bool) (v : fs_V) : BitVec 2 := fs_d (c && v.2 a)
def fs_etR (a : Nat) (r : Int64) (v : fs_V) : Int64 := if v.2 a = true then r else 0
theorem fs_k1 : ∀ (xu zu xv zv l : Bool), fs_d ((xu ^^ xv) && (zu ^^ zv)) + fs_d l = fs_d (xu && zu) + fs_d (xv && zv) + fs_d (l ^^ ((xu && zv) ^^ (zu && xv))) := by decide +kernel
theorem fs_hom_H {a : Nat} (ha : a < 10) : fs_Hom (fs_gaH a) (fs_alH a) fs_e0 := by
  refine ⟨fun u v => ?_, fun u v => ?_, fs_e0_h⟩
  · exact Prod.ext (fs_up_xor _ _ _ _ _) (fs_up_xor _ _ _ _ _)
  · have e : fs_lp (fs_gaH a u).2 (fs_gaH a v).1 = (fs_lp u.2 v.1 ^^ ((u.1 a && v.2 a) ^^ (u.2 a && v.1 a))) := by
      unfold fs_lp fs_gaH
      dsimp only
      rw [fs_par_upd (g := fun w => u.2 w && v.1 w) ha (fun w _ hw => by rw [fs_up_n hw, fs_up_n hw])]
      rw [fs_up_s, fs_up_s]
    rw [e]
    exact fs_k1 _ _ _ _ _
theorem fs_k2 : ∀ (xu zu xv l : Bool), fs_o (xu ^^ xv) + fs_d l = fs_o xu + fs_o xv + fs_d (l ^^ (((zu ^^ xu) && xv) ^^ (zu && xv))) := by decide +kernel
theorem fs_hom_S {a : Nat} (ha : a < 10) : fs_Hom (fs_gaS a) (fs_alS a) fs_e0 := by
  refine ⟨fun u v => ?_, fun u v => ?_, fs_e0_h⟩
  · refine Prod.ext rfl ?_
    show fs_up (fun w => u.2 w ^^ v.2 w) a ((u.2 a ^^ v.2 a) ^^ (u.1 a ^^ v.1 a)) = _
    rw [fs_bx4]
    exact fs_up_xor _ _ _ _ _
  · have e : fs_lp (fs_gaS a u).2 (fs_gaS a v).1 = (fs_lp u.2 v.1 ^^ (((u.2 a ^^ u.1 a) && v.1 a) ^^ (u.2 a && v.1 a))) := by
      unfold fs_lp fs_gaS
      dsimp only
      rw [fs_par_upd (g := fun w => u.2 w && v.1 w) ha (fun w _ hw => by rw [fs_up_n hw])]
      rw [fs_up_s]
    rw [e]
    exact fs_k2 _ _ _ _
theorem fs_k3 : ∀ (zua zub xva xvb l : Bool), 0#2 + fs_d l = 0#2 + 0#2 + fs_d (l ^^ ((((zua ^^ zub) && xva) ^^ (zua && xva)) ^^ ((zub && (xvb ^^ xva)) ^^ (zub && xvb)))) := by decide +kernel
theorem fs_hom_C {a b : Nat} (ha : a < 10) (hb : b < 10) (hab : a ≠ b) : fs_Hom (fs_gaC a b) fs_al0 fs_e0 := by
  refine ⟨fun u v => ?_, fun u v => ?_, fs_e0_h⟩
  · refine Prod.ext ?_ ?_
    · show fs_up (fun w => u.1 w ^^ v.1 w) b ((u.1 b ^^ v.1 b) ^^ (u.1 a ^^ v.1 a)) = _
      rw [fs_bx4]
      exact fs_up_xor _ _ _ _ _
    · show fs_up (fun w => u.2 w ^^ v.2 w) a ((u.2 a ^^ v.2 a) ^^ (u.2 b ^^ v.2 b)) = _
      rw [fs_bx4]
      exact fs_up_xor _ _ _ _ _
  · have e : fs_lp (fs_gaC a b u).2 (fs_gaC a b v).1 = (fs_lp u.2 v.1 ^^ ((((u.2 a ^^ u.2 b) && v.1 a) ^^ (u.2 a && v.1 a)) ^^ ((u.2 b && (v.1 b ^^ v.1 a)) ^^ (u.2 b && v.1 b)))) := by
      unfold fs_lp fs_gaC
      dsimp only
      rw [fs_par_upd2 (g := fun w => u.2 w && v.1 w) ha hb hab (fun w _ hwa hwb => by rw [fs_up_n hwa, fs_up_n hwb])]
      rw [fs_up_s, fs_up_s, fs_up_n hab, fs_up_n (Ne.symm hab)]
    rw [e]
    exact fs_k3 _ _ _ _ _
theorem fs_k4 : ∀ (zua zub xua xub xva xvb l : Bool), fs_d ((xua ^^ xva) && (xub ^^ xvb)) + fs_d l = fs_d (xua && xub) + fs_d (xva && xvb) + fs_d (l ^^ ((((zua ^^ xub) && xva) ^^ (zua && xva)) ^^ (((zub ^^ xua) && xvb) ^^ (zub && xvb)))) := by decide +kernel
theorem fs_hom_D {a b : Nat} (ha : a < 10) (hb : b < 10) (hab : a ≠ b) : fs_Hom (fs_gaD a b) (fs_alD a b) fs_e0 := by
  refine ⟨fun u v => ?_, fun u v => ?_, fs_e0_h⟩
  · refine Prod.ext rfl ?_
    show fs_up (fs_up (fun w => u.2 w ^^ v.2 w) a ((u.2 a ^^ v.2 a) ^^ (u.1 b ^^ v.1 b))) b ((u.2 b ^^ v.2 b) ^^ (u.1 a ^^ v.1 a)) = _
    rw [fs_bx4, fs_bx4 (u.2 b), fs_up_xor, fs_up_xor]
    rfl
  · have e : fs_lp (fs_gaD a b u).2 (fs_gaD a b v).1 = (fs_lp u.2 v.1 ^^ ((((u.2 a ^^ u.1 b) && v.1 a) ^^ (u.2 a && v.1 a)) ^^ (((u.2 b ^^ u.1 a) && v.1 b) ^^ (u.2 b && v.1 b)))) := by
      unfold fs_lp fs_gaD
      dsimp only
      rw [fs_par_upd2 (g := fun w => u.2 w && v.1 w) ha hb hab (fun w _ hwa hwb => by rw [fs_up_n hwb, fs_up_n hwa])]
      rw [fs_up_s, fs_up_n hab, fs_up_s]
    rw [e]
    exact fs_k4 _ _ _ _ _ _ _
theorem fs_k5 : ∀ (zua zub xva xvb l : Bool), 0#2 + fs_d l = 0#2 + 0#2 + fs_d (l ^^ (((zub && xvb) ^^ (zua && xva)) ^^ ((zua && xva) ^^ (zub && xvb)))) := by decide +kernel
theorem fs_hom_W {a b : Nat} (ha : a < 10) (hb : b < 10) (hab : a ≠ b) : fs_Hom (fs_gaW a b) fs_al0 fs_e0 := by
  refine ⟨fun u v => ?_, fun u v => ?_, fs_e0_h⟩
  · refine Prod.ext ?_ ?_
    · show fs_up (fs_up (fun w => u.1 w ^^ v.1 w) a (u.1 b ^^ v.1 b)) b (u.1 a ^^ v.1 a) = _
      rw [fs_up_xor, fs_up_xor]
      rfl
    · show fs_up (fs_up (fun w => u.2 w ^^ v.2 w) a (u.2 b ^^ v.2 b)) b (u.2 a ^^ v.2 a) = _
      rw [fs_up_xor, fs_up_xor]
      rfl
  · have e : fs_lp (fs_gaW a b u).2 (fs_gaW a b v).1 = (fs_lp u.2 v.1 ^^ (((u.2 b && v.1 b) ^^ (u.2 a && v.1 a)) ^^ ((u.2 a && v.1 a) ^^ (u.2 b && v.1 b)))) := by
      unfold fs_lp fs_gaW
      dsimp only
      rw [fs_par_upd2 (g := fun w => u.2 w && v.1 w) ha hb hab (fun w _ hwa hwb => by rw [fs_up_n hwb, fs_up_n hwa, fs_up_n hwb, fs_up_n hwa])]
      rw [fs_up_s, fs_up_n hab, fs_up_s, fs_up_s, fs_up_n hab, fs_up_s]
    rw [e]
    exact fs_k5 _ _ _ _ _
theorem fs_hom_I {al : fs_V → BitVec 2} {et : fs_V → Int64} (ha : ∀ u v, al (fs_va u v) = al u + al v) (he : ∀ u v, et (fs_va u v) = et u ^^^ et v) : fs_Hom fs_gaI al et :=
  ⟨fun _ _ => rfl, fun u v => by rw [ha]; rfl, he⟩
theorem fs_hom_X (a : Nat) : fs_Hom fs_gaI (fs_alX a) fs_e0 := fs_hom_I (fun _ _ => fs_d_xor _ _) fs_e0_h
theorem fs_hom_Z (a : Nat) : fs_Hom fs_gaI (fs_alZ a) fs_e0 := fs_hom_I (fun _ _ => fs_d_xor _ _) fs_e0_h
theorem fs_k6 : ∀ c x y : Bool, fs_d (c && (x ^^ y)) = fs_d (c && x) + fs_d (c && y) := by decide
theorem fs_hom_R (a : Nat) (c : Bool) (r : Int64) : fs_Hom fs_gaI (fs_alR a c) (fs_etR a r) := fs_hom_I (fun _ _ => fs_k6 _ _ _) (fun u v => by
  unfold fs_etR fs_va
  dsimp only
  have key : ∀ x y : Bool, (if (x ^^ y) = true then r else (0 : Int64)) = (if x = true then r else 0) ^^^ (if y = true then r else 0) := by
    intro x y
    cases x with
    | true =>
      cases y with
      | true => rw [if_neg (by decide), if_pos rfl, fs_x64s]
      | false => rw [if_pos (by decide), if_pos rfl, if_neg (by decide), fs_x640]
    | false =>
      cases y with
      | true => rw [if_pos (by decide), if_neg (by decide), if_pos rfl, fs_x64c, fs_x640]
      | false => rw [if_neg (by decide), if_neg (by decide), fs_x640]
  exact key _ _)
theorem fs_xx : ∀ x y : Bool, ((x ^^ y) ^^ y) = x := by decide
theorem fs_ga2_H (a : Nat) (v : fs_V) : fs_gaH a (fs_gaH a v) = v := by
  refine fs_V_ext fun w => ?_
  unfold fs_gaH
  dsimp only
  by_cases h : w = a
  · subst h; simp only [fs_up_s]; exact ⟨trivial, trivial⟩
  · simp only [fs_up_n h]; exact ⟨trivial, trivial⟩
theorem fs_ga2_S (a : Nat) (v : fs_V) : fs_gaS a (fs_gaS a v) = v := by
  refine fs_V_ext fun w => ⟨rfl, ?_⟩
  unfold fs_gaS
  dsimp only
  by_cases h : w = a
  · subst h; simp only [fs_up_s]; exact fs_xx _ _
  · simp only [fs_up_n h]
theorem fs_ga2_C {a b : Nat} (hab : a ≠ b) (v : fs_V) : fs_gaC a b (fs_gaC a b v) = v := by
  refine fs_V_ext fun w => ⟨?_, ?_⟩
  · unfold fs_gaC
    dsimp only
    by_cases h : w = b
    · subst h; simp only [fs_up_s, fs_up_n hab]; exact fs_xx _ _
    · simp only [fs_up_n h]
  · unfold fs_gaC
    dsimp only
    by_cases h : w = a
    · subst h; simp only [fs_up_s, fs_up_n (Ne.symm hab)]; exact fs_xx _ _
    · simp only [fs_up_n h]
theorem fs_ga2_D {a b : Nat} (hab : a ≠ b) (v : fs_V) : fs_gaD a b (fs_gaD a b v) = v := by
  refine fs_V_ext fun w => ⟨rfl, ?_⟩
  unfold fs_gaD
  dsimp only
  by_cases h : w = b
  · subst h; simp only [fs_up_s]; exact fs_xx _ _
  · by_cases h2 : w = a
    · subst h2; simp only [fs_up_s, fs_up_n hab]; exact fs_xx _ _
    · simp only [fs_up_n h, fs_up_n h2]
theorem fs_ga2_W {a b : Nat} (hab : a ≠ b) (v : fs_V) : fs_gaW a b (fs_gaW a b v) = v := by
  refine fs_V_ext fun w => ?_
  unfold fs_gaW
  dsimp only
  by_cases h : w = b
  · subst h; simp only [fs_up_s, fs_up_n hab]; exact ⟨trivial, trivial⟩
  · by_cases h2 : w = a
    · subst h2; simp only [fs_up_s, fs_up_n hab]; exact ⟨trivial, trivial⟩
    · simp only [fs_up_n h, fs_up_n h2]; exact ⟨trivial, trivial⟩
theorem fs_su_up {n a : Nat} {f : Nat → Bool} {x : Bool} (ha : a < n) (h : ∀ w, n ≤ w → f w = false) : ∀ w, n ≤ w → fs_up f a x w = false := fun w hw => by rw [fs_up_n (by omega)]; exact h w hw
theorem fs_su_i {n : Nat} {v : fs_V} (h1 : ∀ w, n ≤ w → v.1 w = false) (h2 : ∀ w, n ≤ w → v.2 w = false) : fs_su n v := fun w hw => ⟨h1 w hw, h2 w hw⟩
theorem fs_su_gH {n a : Nat} (ha : a < n) {v : fs_V} (h : fs_su n v) : fs_su n (fs_gaH a v) := fs_su_i (fs_su_up ha fun w hw => (h w hw).1) (fs_su_up ha fun w hw => (h w hw).2)
theorem fs_su_gS {n a : Nat} (ha : a < n) {v : fs_V} (h : fs_su n v) : fs_su n (fs_gaS a v) := fs_su_i (fun w hw => (h w hw).1) (fs_su_up ha fun w hw => (h w hw).2)
theorem fs_su_gC {n a b : Nat} (ha : a < n) (hb : b < n) {v : fs_V} (h : fs_su n v) : fs_su n (fs_gaC a b v) := fs_su_i (fs_su_up hb fun w hw => (h w hw).1) (fs_su_up ha fun w hw => (h w hw).2)
theorem fs_su_gD {n a b : Nat} (ha : a < n) (hb : b < n) {v : fs_V} (h : fs_su n v) : fs_su n (fs_gaD a b v) := fs_su_i (fun w hw => (h w hw).1) (fs_su_up hb (fs_su_up ha fun w hw => (h w hw).2))
theorem fs_su_gW {n a b : Nat} (ha : a < n) (hb : b < n) {v : fs_V} (h : fs_su n v) : fs_su n (fs_gaW a b v) := fs_su_i (fs_su_up hb (fs_su_up ha fun w hw => (h w hw).1)) (fs_su_up hb (fs_su_up ha fun w hw => (h w hw).2))
-- a gate by its kind
def fs_ga (k a b : Nat) : fs_V → fs_V := match k with
  | 0 => fs_gaH a
  | 1 => fs_gaS a
  | 2 => fs_gaC a b
  | 3 => fs_gaD a b
  | 4 => fs_gaW a b
  | _ => fs_gaI
def fs_al (k a b : Nat) : fs_V → BitVec 2 := match k with
  | 0 => fs_alH a
  | 1 => fs_alS a
  | 2 => fs_al0
  | 3 => fs_alD a b
  | 4 => fs_al0
  | 5 => fs_alX a
  | _ => fs_alZ a
/-- a gate that there is -/
def fs_okg (n k a b : Nat) : Prop := k ≤ 6 ∧ a < n ∧ (2 ≤ k → k ≤ 4 → b < n ∧ a ≠ b)
theorem fs_kind7 {P : Nat → Prop} (h0 : P 0) (h1 : P 1) (h2 : P 2) (h3 : P 3) (h4 : P 4) (h5 : P 5) (h6 : P 6) {k : Nat} (h : k ≤ 6) : P k := by
  rcases (show k = 0 ∨ k = 1 ∨ k = 2 ∨ k = 3 ∨ k = 4 ∨ k = 5 ∨ k = 6 by omega) with rfl | rfl | rfl | rfl | rfl | rfl | rfl <;> assumption
theorem fs_hom_k {n k a b : Nat} (hn : n ≤ 10) (h : fs_okg n k a b) : fs_Hom (fs_ga k a b) (fs_al k a b) fs_e0 := by
  obtain ⟨h1, h2, h3⟩ := h
  revert h3
  refine fs_kind7 (P := fun k => (2 ≤ k → k ≤ 4 → b < n ∧ a ≠ b) → fs_Hom (fs_ga k a b) (fs_al k a b) fs_e0) ?_ ?_ ?_ ?_ ?_ ?_ ?_ h1 <;> intro q
  · exact fs_hom_H (by omega)
  · exact fs_hom_S (by omega)
  · obtain ⟨q1, q2⟩ := q (by omega) (by omega); exact fs_hom_C (by omega) (by omega) q2
  · obtain ⟨q1, q2⟩ := q (by omega) (by omega); exact fs_hom_D (by omega) (by omega) q2
  · obtain ⟨q1, q2⟩ := q (by omega) (by omega); exact fs_hom_W (by omega) (by omega) q2
  · exact fs_hom_X a
  · exact fs_hom_Z a
theorem fs_ga2_k {n k a b : Nat} (h : fs_okg n k a b) (v : fs_V) : fs_ga k a b (fs_ga k a b v) = v := by
  obtain ⟨h1, h2, h3⟩ := h
  revert h3
  refine fs_kind7 (P := fun k => (2 ≤ k → k ≤ 4 → b < n ∧ a ≠ b) → fs_ga k a b (fs_ga k a b v) = v) ?_ ?_ ?_ ?_ ?_ ?_ ?_ h1 <;> intro q
  · exact fs_ga2_H a v
  · exact fs_ga2_S a v
  · exact fs_ga2_C (q (by omega) (by omega)).2 v
  · exact fs_ga2_D (q (by omega) (by omega)).2 v
  · exact fs_ga2_W (q (by omega) (by omega)).2 v
  · rfl
  · rfl
theorem fs_su_k {n k a b : Nat} (h : fs_okg n k a b) {v : fs_V} (hv : fs_su n v) : fs_su n (fs_ga k a b v) := by
  obtain ⟨h1, h2, h3⟩ := h
  revert h3
  refine fs_kind7 (P := fun k => (2 ≤ k → k ≤ 4 → b < n ∧ a ≠ b) → fs_su n (fs_ga k a b v)) ?_ ?_ ?_ ?_ ?_ ?_ ?_ h1 <;> intro q
  · exact fs_su_gH h2 hv
  · exact fs_su_gS h2 hv
  · exact fs_su_gC h2 (q (by omega) (by omega)).1 hv
  · exact fs_su_gD h2 (q (by omega) (by omega)).1 hv
  · exact fs_su_gW h2 (q (by omega) (by omega)).1 hv
  · exact hv
  · exact hv
-- rows: bits, a sign, a set
abbrev fs_R : Type := fs_V × Bool × Int64
def fs_q (v : fs_V) : BitVec 2 := fs_s (fun w => fs_o (v.1 w && v.2 w)) 10
def fs_io (r : fs_R) : fs_E := (r.1, fs_d r.2.1 + fs_q r.1, r.2.2)
theorem fs_dinj : ∀ (a b : Bool) (q : BitVec 2), fs_d a + q = fs_d b + q → a = b := by decide +kernel
theorem fs_io_inj {r t : fs_R} (h : fs_io r = fs_io t) : r = t := by
  have h1 : r.1 = t.1 := congrArg (fun g : fs_E => g.1) h
  have h2 : fs_d r.2.1 + fs_q r.1 = fs_d t.2.1 + fs_q t.1 := congrArg (fun g : fs_E => g.2.1) h
  have h3 : r.2.2 = t.2.2 := congrArg (fun g : fs_E => g.2.2) h
  rw [h1] at h2
  exact Prod.ext h1 (Prod.ext (fs_dinj _ _ _ h2) h3)
def fs_sg (k a b : Nat) (v : fs_V) : Bool := match k with
  | 0 => v.1 a && v.2 a
  | 1 => v.1 a && v.2 a
  | 2 => v.1 a && v.2 b && (v.1 b ^^ v.2 a ^^ true)
  | 3 => v.1 a && v.1 b && (v.2 a ^^ v.2 b)
  | 4 => false
  | 5 => v.2 a
  | _ => v.1 a
/-- a gate on a row -/
def fs_gr (k a b : Nat) (r : fs_R) : fs_R := (fs_ga k a b r.1, r.2.1 ^^ fs_sg k a b r.1, r.2.2)
theorem fs_m0 : ∀ (c x z : Bool) (q : BitVec 2), fs_d (c ^^ (x && z)) + q = fs_d c + q + fs_d (x && z) := by decide +kernel
theorem fs_m1 : ∀ (c x z : Bool) (q : BitVec 2), fs_d (c ^^ (x && z)) + (q + (fs_o (x && (z ^^ x)) - fs_o (x && z))) = fs_d c + q + fs_o x := by decide +kernel
theorem fs_m2 : ∀ (c xa za xb zb : Bool) (q : BitVec 2), fs_d (c ^^ (xa && zb && (xb ^^ za ^^ true))) + (q + ((fs_o (xa && (za ^^ zb)) - fs_o (xa && za)) + (fs_o ((xb ^^ xa) && zb) - fs_o (xb && zb)))) = fs_d c + q + 0#2 := by decide +kernel
theorem fs_m3 : ∀ (c xa za xb zb : Bool) (q : BitVec 2), fs_d (c ^^ (xa && xb && (za ^^ zb))) + (q + ((fs_o (xa && (za ^^ xb)) - fs_o (xa && za)) + (fs_o (xb && (zb ^^ xa)) - fs_o (xb && zb)))) = fs_d c + q + fs_d (xa && xb) := by decide +kernel
theorem fs_m4 : ∀ (c xa za xb zb : Bool) (q : BitVec 2), fs_d (c ^^ false) + (q + ((fs_o (xb && zb) - fs_o (xa && za)) + (fs_o (xa && za) - fs_o (xb && zb)))) = fs_d c + q + 0#2 := by decide +kernel
theorem fs_m5 : ∀ (c z : Bool) (q : BitVec 2), fs_d (c ^^ z) + q = fs_d c + q + fs_d z := by decide +kernel
theorem fs_gr_io {n k a b : Nat} (hn : n ≤ 10) (h : fs_okg n k a b) (r : fs_R) : fs_io (fs_gr k a b r) = fs_ap (fs_ga k a b) (fs_al k a b) fs_e0 (fs_io r) := by
  obtain ⟨h1, h2, h3⟩ := h
  refine Prod.ext rfl (Prod.ext ?_ (fs_x640 _).symm)
  show fs_d (r.2.1 ^^ fs_sg k a b r.1) + fs_q (fs_ga k a b r.1) = fs_d r.2.1 + fs_q r.1 + fs_al k a b r.1
  revert h3
  refine fs_kind7 (P := fun k => (2 ≤ k → k ≤ 4 → b < n ∧ a ≠ b) → fs_d (r.2.1 ^^ fs_sg k a b r.1) + fs_q (fs_ga k a b r.1) = fs_d r.2.1 + fs_q r.1 + fs_al k a b r.1) ?_ ?_ ?_ ?_ ?_ ?_ ?_ h1 <;> intro q
  · have e : fs_q (fs_ga 0 a b r.1) = fs_q r.1 := fs_s_congr fun w _ => by
      show fs_o (fs_up r.1.1 a (r.1.2 a) w && fs_up r.1.2 a (r.1.1 a) w) = _
      by_cases hw : w = a
      · subst hw; rw [fs_up_s, fs_up_s, Bool.and_comm]
      · rw [fs_up_n hw, fs_up_n hw]
    rw [e]
    exact fs_m0 _ _ _ _
  · have e : fs_q (fs_ga 1 a b r.1) = fs_q r.1 + (fs_o (r.1.1 a && (r.1.2 a ^^ r.1.1 a)) - fs_o (r.1.1 a && r.1.2 a)) := by
      show fs_s (fun w => fs_o (r.1.1 w && fs_up r.1.2 a (r.1.2 a ^^ r.1.1 a) w)) 10 = _
      rw [fs_s_upd (g := fun w => fs_o (r.1.1 w && r.1.2 w)) (a := a) (by omega) (fun w _ hw => by rw [fs_up_n hw])]
      rw [fs_up_s]
      rfl
    rw [e]
    exact fs_m1 _ _ _ _
  · obtain ⟨q1, q2⟩ := q (by omega) (by omega)
    have e : fs_q (fs_ga 2 a b r.1) = fs_q r.1 + ((fs_o (r.1.1 a && (r.1.2 a ^^ r.1.2 b)) - fs_o (r.1.1 a && r.1.2 a)) + (fs_o ((r.1.1 b ^^ r.1.1 a) && r.1.2 b) - fs_o (r.1.1 b && r.1.2 b))) := by
      show fs_s (fun w => fs_o (fs_up r.1.1 b (r.1.1 b ^^ r.1.1 a) w && fs_up r.1.2 a (r.1.2 a ^^ r.1.2 b) w)) 10 = _
      rw [fs_s_upd2 (g := fun w => fs_o (r.1.1 w && r.1.2 w)) (a := a) (b := b) (by omega) (by omega) q2 (fun w _ hwa hwb => by rw [fs_up_n hwa, fs_up_n hwb])]
      rw [fs_up_s, fs_up_s, fs_up_n q2, fs_up_n (Ne.symm q2)]
      rfl
    rw [e]
    exact fs_m2 _ _ _ _ _ _
  · obtain ⟨q1, q2⟩ := q (by omega) (by omega)
    have e : fs_q (fs_ga 3 a b r.1) = fs_q r.1 + ((fs_o (r.1.1 a && (r.1.2 a ^^ r.1.1 b)) - fs_o (r.1.1 a && r.1.2 a)) + (fs_o (r.1.1 b && (r.1.2 b ^^ r.1.1 a)) - fs_o (r.1.1 b && r.1.2 b))) := by
      show fs_s (fun w => fs_o (r.1.1 w && fs_up (fs_up r.1.2 a (r.1.2 a ^^ r.1.1 b)) b (r.1.2 b ^^ r.1.1 a) w)) 10 = _
      rw [fs_s_upd2 (g := fun w => fs_o (r.1.1 w && r.1.2 w)) (a := a) (b := b) (by omega) (by omega) q2 (fun w _ hwa hwb => by rw [fs_up_n hwb, fs_up_n hwa])]
      rw [fs_up_s, fs_up_n q2, fs_up_s]
      rfl
    rw [e]
    exact fs_m3 _ _ _ _ _ _
  · obtain ⟨q1, q2⟩ := q (by omega) (by omega)
    have e : fs_q (fs_ga 4 a b r.1) = fs_q r.1 + ((fs_o (r.1.1 b && r.1.2 b) - fs_o (r.1.1 a && r.1.2 a)) + (fs_o (r.1.1 a && r.1.2 a) - fs_o (r.1.1 b && r.1.2 b))) := by
      show fs_s (fun w => fs_o (fs_up (fs_up r.1.1 a (r.1.1 b)) b (r.1.1 a) w && fs_up (fs_up r.1.2 a (r.1.2 b)) b (r.1.2 a) w)) 10 = _
      rw [fs_s_upd2 (g := fun w => fs_o (r.1.1 w && r.1.2 w)) (a := a) (b := b) (by omega) (by omega) q2 (fun w _ hwa hwb => by rw [fs_up_n hwb, fs_up_n hwa, fs_up_n hwb, fs_up_n hwa])]
      rw [fs_up_s, fs_up_n q2, fs_up_s, fs_up_s, fs_up_n q2, fs_up_s]
      rfl
    rw [e]
    exact fs_m4 _ _ _ _ _ _
  · exact fs_m5 _ _ _
  · exact fs_m5 _ _ _
-- products of rows
def fs_be (x1 z1 x2 z2 : Bool) : BitVec 2 := bif x1 then (bif z1 then fs_o z2 - fs_o x2 else bif z2 then (bif x2 then 1#2 else 3#2) else 0#2) else (bif z1 then (bif x2 then (bif z2 then 3#2 else 1#2) else 0#2) else 0#2)
def fs_S (u v : fs_V) : BitVec 2 := fs_s (fun w => fs_be (u.1 w) (u.2 w) (v.1 w) (v.2 w)) 10
/-- r multiplied by t (t first) -/
def fs_rm (t r : fs_R) : fs_R := (fs_va r.1 t.1, r.2.1 ^^ (t.2.1 ^^ (fs_S t.1 r.1).getLsbD 1), r.2.2 ^^^ t.2.2)
theorem fs_p1 : ∀ x1 z1 x2 z2 : Bool, fs_o ((x2 ^^ x1) && (z2 ^^ z1)) + fs_be x1 z1 x2 z2 = fs_o (x1 && z1) + fs_o (x2 && z2) + fs_d (z1 && x2) := by decide
theorem fs_p2 : ∀ x1 z1 x2 z2 : Bool, (fs_be x1 z1 x2 z2).getLsbD 0 = ((z1 && x2) ^^ (z2 && x1)) := by decide
theorem fs_p3 : ∀ s t : BitVec 2, (s + t).getLsbD 0 = (s.getLsbD 0 ^^ t.getLsbD 0) := by decide +kernel
theorem fs_p4 : ∀ s : BitVec 2, s.getLsbD 0 = false → s = fs_d (s.getLsbD 1) := by decide +kernel
theorem fs_s_bit (f : Nat → BitVec 2) (n : Nat) : (fs_s f n).getLsbD 0 = fs_par (fun w => (f w).getLsbD 0) n := by
  induction n with
  | zero => show (0#2).getLsbD 0 = false; decide
  | succ n ih =>
    show (fs_s f n + f n).getLsbD 0 = (fs_par (fun w => (f w).getLsbD 0) n ^^ (f n).getLsbD 0)
    rw [fs_p3, ih]
theorem fs_S_even (u v : fs_V) : (fs_S u v).getLsbD 0 = fs_om u v := by
  unfold fs_S fs_om fs_lp
  rw [fs_s_bit, ← fs_par_xor]
  exact fs_par_congr fun w _ => fs_p2 _ _ _ _
theorem fs_S_q (u v : fs_V) : fs_q (fs_va v u) + fs_S u v = fs_q u + fs_q v + fs_d (fs_lp u.2 v.1) := by
  unfold fs_q fs_S fs_lp
  rw [← fs_s_d, ← fs_s_add, ← fs_s_add, ← fs_s_add]
  exact fs_s_congr fun w _ => fs_p1 _ _ _ _
theorem fs_p5 : ∀ (c1 c2 s : Bool) (q q1 q2 l : BitVec 2), q + fs_d s = q1 + q2 + l → fs_d (c2 ^^ (c1 ^^ s)) + q = fs_d c1 + q1 + (fs_d c2 + q2) + l := by decide +kernel
theorem fs_rm_io {t r : fs_R} (h : fs_om t.1 r.1 = false) : fs_io (fs_rm t r) = fs_mul (fs_io t) (fs_io r) := by
  refine Prod.ext (fs_va_comm _ _) (Prod.ext ?_ (fs_x64c _ _))
  show fs_d (r.2.1 ^^ (t.2.1 ^^ (fs_S t.1 r.1).getLsbD 1)) + fs_q (fs_va r.1 t.1) = fs_d t.2.1 + fs_q t.1 + (fs_d r.2.1 + fs_q r.1) + fs_d (fs_lp t.1.2 r.1.1)
  refine fs_p5 _ _ _ _ _ _ _ ?_
  rw [← fs_p4 _ ((fs_S_even _ _).trans h)]
  exact fs_S_q _ _
theorem fs_rm_io' {t r : fs_R} (h : fs_om r.1 t.1 = false) : fs_io (fs_rm t r) = fs_mul (fs_io r) (fs_io t) := by
  rw [fs_rm_io (by rw [fs_om_c]; exact h), fs_mul_comm (by rw [fs_om_c]; exact h)]
end
section
-- two lists of rows that span the same: what each act does to both
def fs_Sim (n : Nat) (K : Nat → fs_R) (P : Nat → fs_V) (R : Nat → fs_R) : Prop := fs_Tab n (fun i => fs_io (K i)) P ∧ ∀ g, fs_Sp n (fun i => fs_io (R i)) g ↔ fs_Sp n (fun i => fs_io (K i)) g
theorem fs_Tab_congr {n : Nat} {K K' : Nat → fs_E} {P P' : Nat → fs_V} (T : fs_Tab n K P) (hK : ∀ i, i < n → K' i = K i) (hP : ∀ i, i < n → P' i = P i) : fs_Tab n K' P' := by
  obtain ⟨t0, t1, t2, t3, t4, t5⟩ := T
  refine ⟨t0, fun i j hi hj => ?_, fun i hi => ?_, fun i j hi hj => ?_, fun i hi => ?_, fun v hv h1 h2 => t5 v hv (fun i hi => ?_) (fun i hi => ?_)⟩
  · rw [hK i hi, hK j hj]; exact t1 i j hi hj
  · rw [hK i hi]; exact t2 i hi
  · rw [hP i hi, hK j hj]; exact t3 i j hi hj
  · rw [hK i hi, hP i hi]; exact t4 i hi
  · rw [← hK i hi]; exact h1 i hi
  · rw [← hP i hi]; exact h2 i hi
theorem fs_Sim_map {n : Nat} {K K' R R' : Nat → fs_R} {P P' : Nat → fs_V} (S : fs_Sim n K P R) {ga : fs_V → fs_V} {al : fs_V → BitVec 2} {et : fs_V → Int64} (H : fs_Hom ga al et) (hg : ∀ v, ga (ga v) = v) (hs : ∀ v, fs_su n v → fs_su n (ga v))
    (hK : ∀ i, i < n → fs_io (K' i) = fs_ap ga al et (fs_io (K i))) (hR : ∀ i, i < n → fs_io (R' i) = fs_ap ga al et (fs_io (R i))) (hP : ∀ i, i < n → P' i = ga (P i)) : fs_Sim n K' P' R' := by
  refine ⟨fs_Tab_congr (fs_Tab_ap S.1 H hg hs) hK hP, fun g => ?_⟩
  have a1 := fs_Sp_congr (n := n) (R := fun i => fs_io (R' i)) (R' := fun i => fs_ap ga al et (fs_io (R i))) hR g
  have a2 := fs_Sp_congr (n := n) (R := fun i => fs_io (K' i)) (R' := fun i => fs_ap ga al et (fs_io (K i))) hK g
  have b1 := fs_Sp_map (n := n) (R := fun i => fs_io (R i)) (fs_ap_1 H) (fs_ap_mul H) g
  have b2 := fs_Sp_map (n := n) (R := fun i => fs_io (K i)) (fs_ap_1 H) (fs_ap_mul H) g
  rw [a1, a2, b1, b2]
  constructor
  · rintro ⟨k, hk, e⟩; exact ⟨k, (S.2 k).mp hk, e⟩
  · rintro ⟨k, hk, e⟩; exact ⟨k, (S.2 k).mpr hk, e⟩
theorem fs_Sim_gate {n k a b : Nat} {K K' R R' : Nat → fs_R} {P P' : Nat → fs_V} (S : fs_Sim n K P R) (h : fs_okg n k a b) (hK : ∀ i, i < n → K' i = fs_gr k a b (K i)) (hR : ∀ i, i < n → R' i = fs_gr k a b (R i)) (hP : ∀ i, i < n → P' i = fs_ga k a b (P i)) : fs_Sim n K' P' R' :=
  fs_Sim_map S (fs_hom_k S.1.1 h) (fs_ga2_k h) (fun _ => fs_su_k h) (fun i hi => by rw [hK i hi]; exact fs_gr_io S.1.1 h _) (fun i hi => by rw [hR i hi]; exact fs_gr_io S.1.1 h _) hP
/-- the x of a reset -/
def fs_rr (a : Nat) (c : Bool) (h : Int64) (r : fs_R) : fs_R := if r.1.2 a = true then (r.1, r.2.1 ^^ c, r.2.2 ^^^ h) else r
theorem fs_rr_io (a : Nat) (c : Bool) (h : Int64) (r : fs_R) : fs_io (fs_rr a c h r) = fs_ap fs_gaI (fs_alR a c) (fs_etR a h) (fs_io r) := by
  unfold fs_rr fs_ap fs_alR fs_etR fs_gaI fs_io
  by_cases q : r.1.2 a = true
  · rw [if_pos q]
    dsimp only
    rw [if_pos q, q, Bool.and_true]
    exact Prod.ext rfl (Prod.ext (fs_m5 _ _ _) rfl)
  · rw [if_neg q]
    dsimp only
    rw [if_neg q, fs_ndt _ q, Bool.and_false, fs_x640]
    exact Prod.ext rfl (Prod.ext (by show _ = _ + 0#2; rw [BitVec.add_zero]) rfl)
theorem fs_Sim_reset {n a : Nat} {c : Bool} {h : Int64} {K K' R R' : Nat → fs_R} {P : Nat → fs_V} (S : fs_Sim n K P R) (hK : ∀ i, i < n → K' i = fs_rr a c h (K i)) (hR : ∀ i, i < n → R' i = fs_rr a c h (R i)) : fs_Sim n K' P R' :=
  fs_Sim_map S (fs_hom_R a c h) (fun _ => rfl) (fun _ q => q) (fun i hi => by rw [hK i hi]; exact fs_rr_io _ _ _ _) (fun i hi => by rw [hR i hi]; exact fs_rr_io _ _ _ _) (fun _ _ => rfl)
/-- the rows of a random look -/
def fs_cr (R : Nat → fs_R) (p a : Nat) (h : Int64) : Nat → fs_R := fun i => if i = p then (fs_Zv a, false, h) else if (R i).1.1 a = true then fs_rm (R p) (R i) else R i
theorem fs_q_Z (a : Nat) : fs_q (fs_Zv a) = 0#2 := by
  unfold fs_q fs_Zv
  dsimp only
  have e : fs_s (fun w => fs_o (false && decide (w = a))) 10 = fs_s (fun _ => fs_d false) 10 := fs_s_congr fun w _ => rfl
  rw [e, fs_s_d, fs_par_false]; rfl
theorem fs_cr_io {n p a : Nat} {R : Nat → fs_R} {h : Int64} (ha : a < 10) (hp : p < n) (hC : fs_Cm n (fun i => fs_io (R i))) {i : Nat} (hi : i < n) : fs_io (fs_cr R p a h i) = fs_col (fun i => fs_io (R i)) p (fs_Zv a, 0#2, h) i := by
  unfold fs_cr fs_col
  by_cases hip : i = p
  · rw [if_pos hip, if_pos hip]
    unfold fs_io
    dsimp only
    rw [fs_q_Z]; rfl
  · rw [if_neg hip, if_neg hip]
    show fs_io (if (R i).1.1 a = true then fs_rm (R p) (R i) else R i) = (if fs_om (R i).1 (fs_Zv a) = true then _ else _)
    rw [fs_om_Z ha]
    split
    · have hom : fs_om (fs_io (R i)).1 (fs_io (R p)).1 = false := hC i p hi hp
      exact fs_rm_io' (t := R p) (r := R i) hom
    · rfl
theorem fs_Sim_any {n a : Nat} {K R : Nat → fs_R} {P : Nat → fs_V} (S : fs_Sim n K P R) (ha : a < n) : (∀ i, i < n → (K i).1.1 a = false) ↔ (∀ i, i < n → (R i).1.1 a = false) := by
  have hn := S.1.1
  constructor
  · intro h i hi
    have h1 : fs_Sp n (fun i => fs_io (K i)) (fs_io (R i)) := (S.2 _).mp (fs_Sp_g (R := fun i => fs_io (R i)) hi)
    have := fs_Sp_om1 (v := fs_Zv a) (fun j hj => by rw [fs_om_Z (by omega)]; exact h j hj) h1
    rw [fs_om_Z (by omega)] at this
    exact this
  · intro h i hi
    have h1 : fs_Sp n (fun i => fs_io (R i)) (fs_io (K i)) := (S.2 _).mpr (fs_Sp_g (R := fun i => fs_io (K i)) hi)
    have := fs_Sp_om1 (v := fs_Zv a) (fun j hj => by rw [fs_om_Z (by omega)]; exact h j hj) h1
    rw [fs_om_Z (by omega)] at this
    exact this
theorem fs_Sim_rand {n a p q : Nat} {h : Int64} {K K' R R' : Nat → fs_R} {P P' : Nat → fs_V} (S : fs_Sim n K P R) (ha : a < n) (hp : p < n) (hq : q < n) (hKp : (K p).1.1 a = true) (hRq : (R q).1.1 a = true)
    (hK : ∀ i, i < n → K' i = fs_cr K p a h i) (hR : ∀ i, i < n → R' i = fs_cr R q a h i) (hP : ∀ i, i < n → P' i = if i = p then (K p).1 else if (P i).1 a = true then fs_va (P i) (K p).1 else P i) : fs_Sim n K' P' R' := by
  have hn := S.1.1
  have ha' : a < 10 := by omega
  obtain ⟨r1, r2, -⟩ := fs_Tab_Sp S.1 S.2
  have k1 := S.1.2.1
  have k2 := S.1.2.2.1
  have oK : fs_om (fs_io (K p)).1 (fs_Zv a) = true := by rw [fs_om_Z ha']; exact hKp
  have oR : fs_om (fs_io (R q)).1 (fs_Zv a) = true := by rw [fs_om_Z ha']; exact hRq
  refine ⟨fs_Tab_congr (fs_Tab_col (h := h) S.1 hp ha oK) (fun i hi => by rw [hK i hi]; exact fs_cr_io ha' hp k1 hi) (fun i hi => ?_), fun g => ?_⟩
  · rw [hP i hi]
    unfold fs_colP
    by_cases hip : i = p
    · rw [if_pos hip, if_pos hip]; rfl
    · rw [if_neg hip, if_neg hip, fs_om_Z ha']; rfl
  · have a1 := fs_Sp_congr (n := n) (R := fun i => fs_io (R' i)) (R' := fs_col (fun i => fs_io (R i)) q (fs_Zv a, 0#2, h)) (fun i hi => by rw [hR i hi]; exact fs_cr_io ha' hq r1 hi) g
    have a2 := fs_Sp_congr (n := n) (R := fun i => fs_io (K' i)) (R' := fs_col (fun i => fs_io (K i)) p (fs_Zv a, 0#2, h)) (fun i hi => by rw [hK i hi]; exact fs_cr_io ha' hp k1 hi) g
    rw [a1, a2, fs_Sp_col hq r1 r2 (fs_inv_Z a h) oR g, fs_Sp_col hp k1 k2 (fs_inv_Z a h) oK g]
    constructor
    · rintro ⟨k, hk, e⟩; exact ⟨k, (S.2 k).mp hk, e⟩
    · rintro ⟨k, hk, e⟩; exact ⟨k, (S.2 k).mpr hk, e⟩
-- a look that is told: the class's product
def fs_r1 : fs_R := (fs_v0, false, 0)
def fs_pd (K : Nat → fs_R) (P : Nat → fs_V) (a : Nat) : Nat → fs_R
  | 0 => fs_r1
  | i + 1 => if (P i).1 a = true then fs_rm (K i) (fs_pd K P a i) else fs_pd K P a i
theorem fs_io_1 : fs_io fs_r1 = fs_one := by
  unfold fs_io fs_r1 fs_one
  dsimp only
  have e : fs_q fs_v0 = 0#2 := by
    unfold fs_q fs_v0
    dsimp only
    have e : fs_s (fun _ => fs_o (false && false)) 10 = fs_s (fun _ => fs_d false) 10 := fs_s_congr fun w _ => rfl
    rw [e, fs_s_d, fs_par_false]; rfl
  rw [e]; rfl
theorem fs_pd_io {n a : Nat} {K : Nat → fs_R} {P : Nat → fs_V} (T : fs_Tab n (fun i => fs_io (K i)) P) (ha : a < 10) : ∀ m, m ≤ n → fs_io (fs_pd K P a m) = fs_pr (fun i => fs_io (K i)) (fun i => fs_om (P i) (fs_Zv a)) m := by
  intro m
  induction m with
  | zero => intro _; exact fs_io_1
  | succ m ih =>
    intro hm
    show fs_io (if (P m).1 a = true then fs_rm (K m) (fs_pd K P a m) else fs_pd K P a m) = (if fs_om (P m) (fs_Zv a) = true then fs_mul (fs_pr (fun i => fs_io (K i)) (fun i => fs_om (P i) (fs_Zv a)) m) (fs_io (K m)) else fs_pr (fun i => fs_io (K i)) (fun i => fs_om (P i) (fs_Zv a)) m)
    rw [fs_om_Z ha]
    have e := ih (by omega)
    split
    · have hin : fs_Sp n (fun i => fs_io (K i)) (fs_io (fs_pd K P a m)) := by rw [e]; exact fs_pr_in (by omega)
      have hom : fs_om (fs_io (fs_pd K P a m)).1 (fs_io (K m)).1 = false := fs_Sp_om (g := fs_io (fs_pd K P a m)) (h := fs_io (K m)) T.2.1 hin (fs_Sp_g (R := fun i => fs_io (K i)) (i := m) (by omega))
      rw [fs_rm_io' (t := K m) (r := fs_pd K P a m) hom, e]
    · exact e
theorem fs_Sim_told {n a : Nat} {K R R' : Nat → fs_R} {P : Nat → fs_V} {us : Nat → Bool} {md : fs_R} (S : fs_Sim n K P R) (ha : a < n) (h : ∀ i, i < n → (K i).1.1 a = false)
    (E : fs_El n (fs_Sp n (fun i => fs_io (K i))) (fs_Zv a) 20 us (fun i => fs_io (R' i)) (fs_io md)) : fs_Sim n K P R' ∧ md = fs_pd K P a n := by
  have hn := S.1.1
  have k1 := S.1.2.1
  have k2 := S.1.2.2.1
  refine ⟨⟨S.1, E.1⟩, fs_io_inj ?_⟩
  have hsu : ∀ g, fs_Sp n (fun i => fs_io (K i)) g → fs_su n g.1 := fun g hg => hg (fun g => fs_su n g.1) fs_su_0 (fun g j hj hg => fs_su_a hg (S.1.2.2.2.2.1 j hj).1)
  have hm : (fs_io md).1 = fs_Zv a := fs_El_end E (fs_su_Z (by omega)) (fun g hg w hw => hsu g hg w (by omega))
  have hp : (fs_io (fs_pd K P a n)).1 = fs_Zv a := by
    rw [fs_pd_io S.1 (by omega) n (Nat.le_refl n)]
    exact fs_told S.1 ha (fun i hi => by rw [fs_om_Z (by omega)]; exact h i hi)
  refine fs_Sp_one k1 k2 S.1.2.2.2.1 E.2.2.2 ?_ (hm.trans hp.symm)
  rw [fs_pd_io S.1 (by omega) n (Nat.le_refl n)]
  exact fs_pr_in (Nat.le_refl n)
/-- the start of the reference's elimination -/
theorem fs_Sim_el0 {n a : Nat} {K R : Nat → fs_R} {P : Nat → fs_V} {us : Nat → Bool} (S : fs_Sim n K P R) (ha : a < n) (h : ∀ i, i < n → (K i).1.1 a = false) (hu : ∀ i, i < n → us i = false) :
    fs_El n (fs_Sp n (fun i => fs_io (K i))) (fs_Zv a) 0 us (fun i => fs_io (R i)) (fs_io fs_r1) := by
  have hn := S.1.1
  rw [fs_io_1]
  refine fs_El_0 hu S.2 (g := fs_io (fs_pd K P a n)) ?_ ?_
  · rw [fs_pd_io S.1 (by omega) n (Nat.le_refl n)]
    exact fs_pr_in (Nat.le_refl n)
  · rw [fs_pd_io S.1 (by omega) n (Nat.le_refl n)]
    exact fs_told S.1 ha (fun i hi => by rw [fs_om_Z (by omega)]; exact h i hi)
/-- a row of the elimination with a pivot, in rows -/
def fs_er (us : Nat → Bool) (R : Nat → fs_R) (p c : Nat) : Nat → fs_R := fun i => if us i = false ∧ i ≠ p ∧ fs_cl c (R i).1 = true then fs_rm (R p) (R i) else R i
theorem fs_El_congr {n c : Nat} {G : fs_E → Prop} {z : fs_V} {us us' : Nat → Bool} {R R' : Nat → fs_E} {md : fs_E} (E : fs_El n G z c us R md) (hR : ∀ i, i < n → R' i = R i) (hu : ∀ i, i < n → us' i = us i) : fs_El n G z c us' R' md := by
  obtain ⟨e1, e2, e3, e4⟩ := E
  refine ⟨fun g => (fs_Sp_congr hR g).trans (e1 g), fun i hi hui d hd => ?_, fun Q h1 h2 => e3 Q h1 (fun v i hi hui hv => ?_), e4⟩
  · rw [hR i hi]; rw [hu i hi] at hui; exact e2 i hi hui d hd
  · rw [← hR i hi]; exact h2 v i hi (by rw [hu i hi]; exact hui) hv
theorem fs_El_step {n c p : Nat} {K : Nat → fs_E} {z : fs_V} {R R' : Nat → fs_R} {us us' : Nat → Bool} {md md' : fs_R} (hC : fs_Cm n K) (hI : ∀ i, i < n → fs_inv (K i)) (E : fs_El n (fs_Sp n K) z c us (fun i => fs_io (R i)) (fs_io md)) (hp : p < n) (hup : us p = false) (hpc : fs_cl c (R p).1 = true)
    (hR : ∀ i, i < n → R' i = fs_er us R p c i) (hu : ∀ i, i < n → us' i = fs_up us p true i) (hm : md' = if fs_cl c (fs_va md.1 z) = true then fs_rm (R p) md else md) :
    fs_El n (fs_Sp n K) z (c + 1) us' (fun i => fs_io (R' i)) (fs_io md') := by
  have h1 := fs_El_yes (c := c) (p := p) E (fun g hg => fs_Sp_inv hC hI hg) hp hup hpc
  have inG : ∀ i, i < n → fs_Sp n K (fs_io (R i)) := fun i hi => (E.1 _).mp (fs_Sp_g (R := fun i => fs_io (R i)) hi)
  have e : fs_io md' = if fs_cl c (fs_va (fs_io md).1 z) = true then fs_mul (fs_io md) (fs_io (R p)) else fs_io md := by
    rw [hm]
    show fs_io (if fs_cl c (fs_va md.1 z) = true then fs_rm (R p) md else md) = (if fs_cl c (fs_va md.1 z) = true then _ else _)
    split
    · have hom : fs_om (fs_io md).1 (fs_io (R p)).1 = false := fs_Sp_om (g := fs_io md) (h := fs_io (R p)) hC E.2.2.2 (inG p hp)
      exact fs_rm_io' (t := R p) (r := md) hom
    · rfl
  rw [e]
  refine fs_El_congr h1 (fun i hi => ?_) hu
  rw [hR i hi]
  unfold fs_er fs_el
  split
  · rename_i q
    rw [if_pos (show us i = false ∧ i ≠ p ∧ fs_cl c ((fun i => fs_io (R i)) i).1 = true from q)]
    have hom : fs_om (fs_io (R i)).1 (fs_io (R p)).1 = false := fs_Sp_om (g := fs_io (R i)) (h := fs_io (R p)) hC (inG i hi) (inG p hp)
    exact fs_rm_io' (t := R p) (r := R i) hom
  · rename_i q
    rw [if_neg (show ¬ (us i = false ∧ i ≠ p ∧ fs_cl c ((fun i => fs_io (R i)) i).1 = true) from q)]
end
section
-- the first family of kit/laws/BITS.to-paste, as given for pasting
def bt (x : Int32) (i : Nat) : Bool := x.toBitVec.getLsbD i
theorem b_ext {x y : Int32} (h : ∀ i, i < 32 → bt x i = bt y i) : x = y := Int32.toBitVec_inj.mp (BitVec.eq_of_getLsbD_eq (fun i hi => h i hi))
theorem b_or (x y : Int32) (i : Nat) : bt (x ||| y) i = (bt x i || bt y i) := by unfold bt; rw [Int32.toBitVec_or, BitVec.getLsbD_or]
theorem b_and (x y : Int32) (i : Nat) : bt (x &&& y) i = (bt x i && bt y i) := by unfold bt; rw [Int32.toBitVec_and, BitVec.getLsbD_and]
theorem b_xor (x y : Int32) (i : Nat) : bt (x ^^^ y) i = (bt x i ^^ bt y i) := by unfold bt; rw [Int32.toBitVec_xor, BitVec.getLsbD_xor]
theorem b_big {x : Int32} {i : Nat} (h : 32 ≤ i) : bt x i = false := BitVec.getLsbD_of_ge _ _ h
theorem b_m1 : ∀ i, i < 32 → bt (-1) i = true := by decide +kernel
theorem b_0 (i : Nat) : bt 0 i = false := BitVec.getLsbD_zero
theorem s_l : ∀ n, n < 32 → ((nI n &&& 31).toBitVec.smod 32).toNat = n := by decide +kernel
theorem s_u : ∀ n, n < 32 → (((nI n).toUInt32 &&& Int32.toUInt32 31).toBitVec % 32).toNat = n := by decide +kernel
theorem b_shl (n : Nat) (hn : n < 32) (x : Int32) {i : Nat} (hi : i < 32) : bt (x <<< (nI n &&& 31)) i = (decide (n ≤ i) && bt x (i - n)) := by
  unfold bt
  rw [Int32.toBitVec_shiftLeft]
  show (x.toBitVec <<< ((nI n &&& 31).toBitVec.smod 32).toNat).getLsbD i = _
  rw [s_l n hn, BitVec.getLsbD_shiftLeft]
  rcases Nat.lt_or_ge i n with h | h
  · simp [h, Nat.not_le.mpr h]
  · simp [hi, h, Nat.not_lt.mpr h]
theorem b_ushr (n : Nat) (hn : n < 32) (x : Int32) (i : Nat) : bt ((x.toUInt32 >>> ((nI n).toUInt32 &&& Int32.toUInt32 31)).toInt32) i = bt x (n + i) := by
  show (x.toUInt32 >>> ((nI n).toUInt32 &&& Int32.toUInt32 31)).toBitVec.getLsbD i = x.toUInt32.toBitVec.getLsbD (n + i)
  rw [UInt32.toBitVec_shiftRight]
  show (x.toUInt32.toBitVec >>> (((nI n).toUInt32 &&& Int32.toUInt32 31).toBitVec % 32).toNat).getLsbD i = _
  rw [s_u n hn, BitVec.getLsbD_ushiftRight]
theorem b_sshr (n : Nat) (hn : n < 32) (x : Int32) {i : Nat} (hi : i < 32) : bt (x >>> (nI n &&& 31)) i = if n + i < 32 then bt x (n + i) else bt x 31 := by
  unfold bt
  rw [Int32.toBitVec_shiftRight]
  show (x.toBitVec.sshiftRight ((nI n &&& 31).toBitVec.smod 32).toNat).getLsbD i = _
  rw [s_l n hn, BitVec.getLsbD_sshiftRight, BitVec.msb_eq_getLsbD_last]
  simp [hi]
-- one bit as an int
def fs_b (b : Bool) : Int32 := bif b then 1 else 0
theorem fs_b_bit : ∀ b : Bool, ∀ i, i < 32 → bt (fs_b b) i = (decide (i = 0) && b) := by decide +kernel
theorem fs_b_and : ∀ a b : Bool, fs_b a &&& fs_b b = fs_b (a && b) := by decide
theorem fs_b_xor : ∀ a b : Bool, fs_b a ^^^ fs_b b = fs_b (a ^^ b) := by decide
theorem fs_b_not : ∀ a : Bool, fs_b a ^^^ 1 = fs_b (!a) := by decide
theorem fs_b_b0 : ∀ a : Bool, bt (fs_b a) 0 = a := by decide
theorem fs_b_eq1 : ∀ a : Bool, fs_b a = 1 ↔ a = true := by decide
theorem fs_b_eq0 : ∀ a : Bool, fs_b a = 0 ↔ a = false := by decide
theorem fs_b_inj : ∀ a b : Bool, fs_b a = fs_b b → a = b := by decide
theorem fs_1bit : ∀ i, i < 32 → bt 1 i = decide (i = 0) := by decide +kernel
theorem fs_and1 (x : Int32) : x &&& 1 = fs_b (bt x 0) := by
  refine b_ext fun i hi => ?_
  rw [b_and, fs_1bit i hi, fs_b_bit _ i hi]
  by_cases h : i = 0
  · subst h; simp
  · simp [h]
def fs_ush (x y : Int32) : Int32 := (x.toUInt32 >>> (y.toUInt32 &&& Int32.toUInt32 31)).toInt32
theorem fs_onU {a : Nat} (ha : a < 32) (x : Int32) : fs_ush x (nI a) &&& 1 = fs_b (bt x a) := by
  rw [fs_and1]
  unfold fs_ush
  rw [b_ushr a ha]
  rfl
theorem fs_onS {a : Nat} (ha : a < 32) (x : Int32) : (x >>> (nI a &&& 31)) &&& 1 = fs_b (bt x a) := by
  rw [fs_and1, b_sshr a ha x (by omega), if_pos (by omega)]
  rfl
theorem fs_shb {a : Nat} (ha : a < 32) (b : Bool) (i : Nat) : bt (fs_b b <<< (nI a &&& 31)) i = (decide (i = a) && b) := by
  rcases Nat.lt_or_ge i 32 with h | h
  · rw [b_shl a ha _ h]
    by_cases q : a ≤ i
    · rw [fs_b_bit b _ (by omega)]
      by_cases q2 : i = a
      · subst q2; simp
      · have : ¬ i - a = 0 := by omega
        simp [q, q2, this]
    · have : ¬ i = a := by omega
      simp [q, this]
  · have : ¬ i = a := by omega
    rw [b_big h]; simp [this]
theorem fs_sh1 {a : Nat} (ha : a < 32) (i : Nat) : bt (1 <<< (nI a &&& 31)) i = decide (i = a) := by
  have := fs_shb ha true i
  rw [Bool.and_true] at this
  exact this
theorem fs_bs0 : ∀ x : Bool, (x ^^ false) = x := by decide
/-- a bit turned -/
theorem fs_turn {a : Nat} (ha : a < 32) (x : Int32) (b : Bool) : bt (x ^^^ (fs_b b <<< (nI a &&& 31))) = fs_up (bt x) a (bt x a ^^ b) := by
  funext i
  rw [b_xor, fs_shb ha]
  unfold fs_up
  split
  · rename_i h; subst h; simp
  · rename_i h; simp [h]
theorem fs_turn2 {a b : Nat} (ha : a < 32) (hb : b < 32) (hab : a ≠ b) (x : Int32) (c d : Bool) : bt (x ^^^ ((fs_b c <<< (nI a &&& 31)) ||| (fs_b d <<< (nI b &&& 31)))) = fs_up (fs_up (bt x) a (bt x a ^^ c)) b (bt x b ^^ d) := by
  funext i
  rw [b_xor, b_or, fs_shb ha, fs_shb hb]
  unfold fs_up
  by_cases h : i = b
  · subst h
    have : ¬ i = a := fun z => hab z.symm
    simp [this]
  · by_cases h2 : i = a
    · subst h2; simp [h]
    · simp [h, h2]
/-- a bit put out -/
theorem fs_out {a : Nat} (ha : a < 32) (x : Int32) : bt (x &&& ((1 <<< (nI a &&& 31)) ^^^ (-1))) = fs_up (bt x) a false := by
  funext i
  rw [b_and, b_xor, fs_sh1 ha]
  unfold fs_up
  rcases Nat.lt_or_ge i 32 with h | h
  · rw [b_m1 i h]
    split
    · rename_i q; simp [q]
    · rename_i q; simp [q]
  · rw [b_big (x := x) h]
    simp
theorem fs_bt0 : bt 0 = fun _ => false := funext fun i => b_0 i
theorem fs_btZ {a : Nat} (ha : a < 32) : bt (1 <<< (nI a &&& 31)) = fun i => decide (i = a) := funext fun i => fs_sh1 ha i
-- a product as the class has it: xs, zs, constant, randoms
abbrev fs_Q : Type := Int32 × Int32 × Int32 × Int64
def fs_abs (q : fs_Q) : fs_R := ((bt q.1, bt q.2.1), bt q.2.2.1 0, q.2.2.2)
def fs_01 (c : Int32) : Prop := c = fs_b (bt c 0)
theorem fs_01_b (b : Bool) : fs_01 (fs_b b) := by unfold fs_01; rw [fs_b_b0]
theorem fs_01_x {c : Int32} (h : fs_01 c) (b : Bool) : fs_01 (c ^^^ fs_b b) ∧ bt (c ^^^ fs_b b) 0 = (bt c 0 ^^ b) := by
  have e : bt (c ^^^ fs_b b) 0 = (bt c 0 ^^ b) := by rw [b_xor, fs_b_b0]
  refine ⟨?_, e⟩
  unfold fs_01 at h ⊢
  rw [e, ← fs_b_xor, ← h]
-- the methods of the class Pauli, as they stand
def fs_xOn (q : fs_Q) (a : Int32) : Int32 := fs_ush q.1 a &&& 1
def fs_zOn (q : fs_Q) (a : Int32) : Int32 := fs_ush q.2.1 a &&& 1
def fs_pH (q : fs_Q) (a : Int32) : fs_Q :=
  let c := q.2.2.1 ^^^ (fs_xOn q a &&& fs_zOn q a)
  let t := (fs_xOn q a ^^^ fs_zOn q a) <<< (a &&& 31)
  (q.1 ^^^ t, q.2.1 ^^^ t, c, q.2.2.2)
def fs_pS (q : fs_Q) (a : Int32) : fs_Q := (q.1, q.2.1 ^^^ (fs_xOn q a <<< (a &&& 31)), q.2.2.1 ^^^ (fs_xOn q a &&& fs_zOn q a), q.2.2.2)
def fs_pC (q : fs_Q) (a b : Int32) : fs_Q :=
  (q.1 ^^^ (fs_xOn q a <<< (b &&& 31)), q.2.1 ^^^ (fs_zOn q b <<< (a &&& 31)), q.2.2.1 ^^^ (fs_xOn q a &&& fs_zOn q b &&& (fs_xOn q b ^^^ fs_zOn q a ^^^ 1)), q.2.2.2)
def fs_sw (x a b : Int32) : Int32 :=
  let d := (fs_ush x a ^^^ fs_ush x b) &&& 1
  x ^^^ ((d <<< (a &&& 31)) ||| (d <<< (b &&& 31)))
def fs_pW (q : fs_Q) (a b : Int32) : fs_Q := (fs_sw q.1 a b, fs_sw q.2.1 a b, q.2.2.1, q.2.2.2)
def fs_pX (q : fs_Q) (a : Int32) : fs_Q := (q.1, q.2.1, q.2.2.1 ^^^ fs_zOn q a, q.2.2.2)
def fs_pZ (q : fs_Q) (a : Int32) : fs_Q := (q.1, q.2.1, q.2.2.1 ^^^ fs_xOn q a, q.2.2.2)
def fs_ps (q : fs_Q) (k a b : Int32) : fs_Q :=
  if k = 0 then fs_pH q a else if k = 1 then fs_pS q a else if k = 2 then fs_pC q a b else if k = 3 then fs_pH (fs_pC (fs_pH q b) a b) b
  else if k = 4 then fs_pW q a b else if k = 5 then fs_pX q a else if k = 6 then fs_pZ q a else q
theorem fs_xOn_b {a : Nat} (ha : a < 32) (q : fs_Q) : fs_xOn q (nI a) = fs_b ((fs_abs q).1.1 a) := fs_onU ha q.1
theorem fs_zOn_b {a : Nat} (ha : a < 32) (q : fs_Q) : fs_zOn q (nI a) = fs_b ((fs_abs q).1.2 a) := fs_onU ha q.2.1
theorem fs_xzx : ∀ x z : Bool, (x ^^ (x ^^ z)) = z ∧ (z ^^ (x ^^ z)) = x := by decide
theorem fs_pH_abs {a : Nat} (ha : a < 32) {q : fs_Q} (hc : fs_01 q.2.2.1) : fs_abs (fs_pH q (nI a)) = fs_gr 0 a 0 (fs_abs q) ∧ fs_01 (fs_pH q (nI a)).2.2.1 := by
  unfold fs_pH
  rw [fs_xOn_b ha, fs_zOn_b ha, fs_b_and, fs_b_xor]
  obtain ⟨h1, h2⟩ := fs_01_x hc ((fs_abs q).1.1 a && (fs_abs q).1.2 a)
  refine ⟨?_, h1⟩
  refine Prod.ext (Prod.ext ?_ ?_) (Prod.ext h2 rfl)
  · show bt (q.1 ^^^ _) = fs_up (bt q.1) a (bt q.2.1 a)
    rw [fs_turn ha]
    exact congrArg _ (fs_xzx _ _).1
  · show bt (q.2.1 ^^^ _) = fs_up (bt q.2.1) a (bt q.1 a)
    rw [fs_turn ha]
    exact congrArg _ (fs_xzx _ _).2
theorem fs_pS_abs {a : Nat} (ha : a < 32) {q : fs_Q} (hc : fs_01 q.2.2.1) : fs_abs (fs_pS q (nI a)) = fs_gr 1 a 0 (fs_abs q) ∧ fs_01 (fs_pS q (nI a)).2.2.1 := by
  unfold fs_pS
  rw [fs_xOn_b ha, fs_zOn_b ha, fs_b_and]
  obtain ⟨h1, h2⟩ := fs_01_x hc ((fs_abs q).1.1 a && (fs_abs q).1.2 a)
  refine ⟨?_, h1⟩
  refine Prod.ext (Prod.ext rfl ?_) (Prod.ext h2 rfl)
  show bt (q.2.1 ^^^ _) = fs_up (bt q.2.1) a (bt q.2.1 a ^^ bt q.1 a)
  rw [fs_turn ha]
  rfl
theorem fs_nt : ∀ x z : Bool, (!(x ^^ z)) = (x ^^ z ^^ true) := by decide
theorem fs_pC_abs {a b : Nat} (ha : a < 32) (hb : b < 32) {q : fs_Q} (hc : fs_01 q.2.2.1) : fs_abs (fs_pC q (nI a) (nI b)) = fs_gr 2 a b (fs_abs q) ∧ fs_01 (fs_pC q (nI a) (nI b)).2.2.1 := by
  unfold fs_pC
  rw [fs_xOn_b ha, fs_zOn_b ha, fs_xOn_b hb, fs_zOn_b hb, fs_b_and, fs_b_xor, fs_b_not, fs_b_and, fs_nt]
  obtain ⟨h1, h2⟩ := fs_01_x hc ((fs_abs q).1.1 a && (fs_abs q).1.2 b && ((fs_abs q).1.1 b ^^ (fs_abs q).1.2 a ^^ true))
  refine ⟨?_, h1⟩
  refine Prod.ext (Prod.ext ?_ ?_) (Prod.ext h2 rfl)
  · show bt (q.1 ^^^ _) = fs_up (bt q.1) b (bt q.1 b ^^ bt q.1 a)
    rw [fs_turn hb]
    rfl
  · show bt (q.2.1 ^^^ _) = fs_up (bt q.2.1) a (bt q.2.1 a ^^ bt q.2.1 b)
    rw [fs_turn ha]
    rfl
theorem fs_sw_bt {a b : Nat} (ha : a < 32) (hb : b < 32) (hab : a ≠ b) (x : Int32) : bt (fs_sw x (nI a) (nI b)) = fs_up (fs_up (bt x) a (bt x b)) b (bt x a) := by
  unfold fs_sw
  have e : (fs_ush x (nI a) ^^^ fs_ush x (nI b)) &&& 1 = fs_b (bt x a ^^ bt x b) := by
    rw [fs_and1, b_xor]
    unfold fs_ush
    rw [b_ushr a ha, b_ushr b hb]
    rfl
  rw [e]
  dsimp only
  rw [fs_turn2 ha hb hab]
  have e1 : (bt x a ^^ (bt x a ^^ bt x b)) = bt x b := (fs_xzx _ _).1
  have e2 : (bt x b ^^ (bt x a ^^ bt x b)) = bt x a := (fs_xzx _ _).2
  rw [e1, e2]
theorem fs_pW_abs {a b : Nat} (ha : a < 32) (hb : b < 32) (hab : a ≠ b) {q : fs_Q} (hc : fs_01 q.2.2.1) : fs_abs (fs_pW q (nI a) (nI b)) = fs_gr 4 a b (fs_abs q) ∧ fs_01 (fs_pW q (nI a) (nI b)).2.2.1 := by
  refine ⟨?_, hc⟩
  refine Prod.ext (Prod.ext ?_ ?_) (Prod.ext ?_ rfl)
  · exact fs_sw_bt ha hb hab q.1
  · exact fs_sw_bt ha hb hab q.2.1
  · show bt q.2.2.1 0 = (bt q.2.2.1 0 ^^ false)
    rw [fs_bs0]
theorem fs_pX_abs {a : Nat} (ha : a < 32) {q : fs_Q} (hc : fs_01 q.2.2.1) : fs_abs (fs_pX q (nI a)) = fs_gr 5 a 0 (fs_abs q) ∧ fs_01 (fs_pX q (nI a)).2.2.1 := by
  unfold fs_pX
  rw [fs_zOn_b ha]
  obtain ⟨h1, h2⟩ := fs_01_x hc ((fs_abs q).1.2 a)
  exact ⟨Prod.ext rfl (Prod.ext h2 rfl), h1⟩
theorem fs_pZ_abs {a : Nat} (ha : a < 32) {q : fs_Q} (hc : fs_01 q.2.2.1) : fs_abs (fs_pZ q (nI a)) = fs_gr 6 a 0 (fs_abs q) ∧ fs_01 (fs_pZ q (nI a)).2.2.1 := by
  unfold fs_pZ
  rw [fs_xOn_b ha]
  obtain ⟨h1, h2⟩ := fs_01_x hc ((fs_abs q).1.1 a)
  exact ⟨Prod.ext rfl (Prod.ext h2 rfl), h1⟩
/-- z with a control by h, x with a control, h -/
theorem fs_hch : ∀ (c xa za xb zb : Bool), (((c ^^ (xb && zb)) ^^ (xa && xb && (zb ^^ za ^^ true))) ^^ ((zb ^^ xa) && xb)) = (c ^^ (xa && xb && (za ^^ zb))) := by decide
theorem fs_pD_abs {a b : Nat} (ha : a < 32) (hb : b < 32) (hab : a ≠ b) {q : fs_Q} (hc : fs_01 q.2.2.1) : fs_abs (fs_pH (fs_pC (fs_pH q (nI b)) (nI a) (nI b)) (nI b)) = fs_gr 3 a b (fs_abs q) ∧ fs_01 (fs_pH (fs_pC (fs_pH q (nI b)) (nI a) (nI b)) (nI b)).2.2.1 := by
  obtain ⟨a1, c1⟩ := fs_pH_abs hb hc
  obtain ⟨a2, c2⟩ := fs_pC_abs ha hb c1
  obtain ⟨a3, c3⟩ := fs_pH_abs hb c2
  refine ⟨?_, c3⟩
  rw [a3, a2, a1]
  generalize fs_abs q = r
  obtain ⟨⟨x, z⟩, c, h⟩ := r
  unfold fs_gr fs_sg fs_ga
  dsimp only
  unfold fs_gaH fs_gaC fs_gaD
  try dsimp only
  have hba : b ≠ a := Ne.symm hab
  refine Prod.ext (Prod.ext ?_ ?_) (Prod.ext ?_ rfl)
  · funext w
    dsimp only
    by_cases h1 : w = b
    · subst h1; simp only [fs_up_s, fs_up_n hba]
    · simp only [fs_up_n h1]
  · funext w
    dsimp only
    by_cases h1 : w = b
    · subst h1; simp only [fs_up_s, fs_up_n hab]
    · by_cases h2 : w = a
      · subst h2; simp only [fs_up_s, fs_up_n hab]
      · simp only [fs_up_n h1, fs_up_n h2]
  · dsimp only
    simp only [fs_up_s, fs_up_n hab, fs_up_n hba]
    exact fs_hch _ _ _ _ _
theorem fs_nIk : ∀ j : Nat, j < 7 → ∀ k : Nat, k < 7 → (nI j = nI k ↔ j = k) := by decide +kernel
theorem fs_gr_b {k a b b' : Nat} (h : k < 2 ∨ 4 < k) (r : fs_R) : fs_gr k a b r = fs_gr k a b' r := by
  match k, h with
  | 0, _ => rfl
  | 1, _ => rfl
  | 2, h => exact absurd h (by omega)
  | 3, h => exact absurd h (by omega)
  | 4, h => exact absurd h (by omega)
  | 5, _ => rfl
  | (k + 6), _ => rfl
theorem fs_ps_abs {n k a b : Nat} (hn : n ≤ 10) (h : fs_okg n k a b) {bv : Int32} (hb : 2 ≤ k → k ≤ 4 → bv = nI b) {q : fs_Q} (hc : fs_01 q.2.2.1) : fs_abs (fs_ps q (nI k) (nI a) bv) = fs_gr k a b (fs_abs q) ∧ fs_01 (fs_ps q (nI k) (nI a) bv).2.2.1 := by
  obtain ⟨h1, h2, h3⟩ := h
  revert h3 hb
  refine fs_kind7 (P := fun k => (2 ≤ k → k ≤ 4 → bv = nI b) → (2 ≤ k → k ≤ 4 → b < n ∧ a ≠ b) → fs_abs (fs_ps q (nI k) (nI a) bv) = fs_gr k a b (fs_abs q) ∧ fs_01 (fs_ps q (nI k) (nI a) bv).2.2.1) ?_ ?_ ?_ ?_ ?_ ?_ ?_ h1 <;> intro g1 g2
  · rw [fs_gr_b (b' := 0) (by omega)]
    exact fs_pH_abs (by omega) hc
  · rw [fs_gr_b (b' := 0) (by omega)]
    exact fs_pS_abs (by omega) hc
  · obtain ⟨q1, q2⟩ := g2 (by omega) (by omega)
    rw [g1 (by omega) (by omega)]
    exact fs_pC_abs (by omega) (by omega) hc
  · obtain ⟨q1, q2⟩ := g2 (by omega) (by omega)
    rw [g1 (by omega) (by omega)]
    exact fs_pD_abs (by omega) (by omega) q2 hc
  · obtain ⟨q1, q2⟩ := g2 (by omega) (by omega)
    rw [g1 (by omega) (by omega)]
    exact fs_pW_abs (by omega) (by omega) q2 hc
  · rw [fs_gr_b (b' := 0) (by omega)]
    exact fs_pX_abs (by omega) hc
  · rw [fs_gr_b (b' := 0) (by omega)]
    exact fs_pZ_abs (by omega) hc
end
section
-- counting bits
def fs_pc : Nat → Nat → Nat
  | 0, _ => 0
  | k + 1, n => n % 2 + fs_pc k (n / 2)
theorem fs_pc_0 (k : Nat) : fs_pc k 0 = 0 := by
  induction k with
  | zero => rfl
  | succ k ih => show 0 % 2 + fs_pc k (0 / 2) = 0; rw [Nat.zero_div, ih]
theorem fs_pc_le (k n : Nat) : fs_pc k n ≤ k := by
  induction k generalizing n with
  | zero => exact Nat.le_refl 0
  | succ k ih =>
    show n % 2 + fs_pc k (n / 2) ≤ k + 1
    have := ih (n / 2)
    omega
theorem fs_pc_add (j k n : Nat) : fs_pc (j + k) n = fs_pc j n + fs_pc k (n / 2 ^ j) := by
  induction j generalizing n with
  | zero => simp [fs_pc]
  | succ j ih =>
    rw [show j + 1 + k = (j + k) + 1 by omega]
    show n % 2 + fs_pc (j + k) (n / 2) = n % 2 + fs_pc j (n / 2) + fs_pc k (n / 2 ^ (j + 1))
    rw [ih, Nat.div_div_eq_div_mul, show 2 * 2 ^ j = 2 ^ (j + 1) by rw [Nat.pow_succ, Nat.mul_comm]]
    omega
theorem fs_pc_mod (j n : Nat) : fs_pc j (n % 2 ^ j) = fs_pc j n := by
  induction j generalizing n with
  | zero => rfl
  | succ j ih =>
    show n % 2 ^ (j + 1) % 2 + fs_pc j (n % 2 ^ (j + 1) / 2) = n % 2 + fs_pc j (n / 2)
    have h1 : n % 2 ^ (j + 1) % 2 = n % 2 := Nat.mod_mod_of_dvd n ⟨2 ^ j, by rw [Nat.pow_succ, Nat.mul_comm]⟩
    have h2 : n % 2 ^ (j + 1) / 2 = n / 2 % 2 ^ j := by
      rw [Nat.pow_succ, Nat.mul_comm, Nat.mod_mul_right_div_self]
    rw [h1, h2, ih]
/-- bytes side by side -/
def fs_rep (c : Nat) : Nat → Nat
  | 0 => 0
  | k + 1 => c + 256 * fs_rep c k
theorem fs_land8 {a c : Nat} (ha : a < 256) (hc : c < 256) (b d : Nat) : (a + 256 * b) &&& (c + 256 * d) = (a &&& c) + 256 * (b &&& d) := by
  have e1 : a + 256 * b = 2 ^ 8 * b + a := by omega
  have e2 : c + 256 * d = 2 ^ 8 * d + c := by omega
  have e3 : (a &&& c) + 256 * (b &&& d) = 2 ^ 8 * (b &&& d) + (a &&& c) := by omega
  rw [e1, e2, e3]
  apply Nat.eq_of_testBit_eq
  intro i
  have hac : a &&& c < 2 ^ 8 := Nat.lt_of_le_of_lt Nat.and_le_left ha
  rw [Nat.testBit_and, Nat.testBit_two_pow_mul_add b (i := 8) ha i, Nat.testBit_two_pow_mul_add d (i := 8) hc i, Nat.testBit_two_pow_mul_add (b &&& d) (i := 8) hac i]
  split
  · rw [Nat.testBit_and]
  · rw [Nat.testBit_and]
def fs_t1 (m n : Nat) : Nat := n - (n / 2 &&& m)
def fs_t2 (m n : Nat) : Nat := (n &&& m) + (n / 4 &&& m)
def fs_t3 (m n : Nat) : Nat := (n + n / 16) &&& m
theorem fs_w1 : ∀ b, b < 256 → (b / 2 &&& 85) ≤ b ∧ (((b / 2 + 128) &&& 85) = (b / 2 &&& 85)) := by decide +kernel
theorem fs_t1_b {k b n : Nat} (hb : b < 256) : fs_t1 (fs_rep 85 (k + 1)) (b + 256 * n) = fs_t1 85 b + 256 * fs_t1 (fs_rep 85 k) n := by
  unfold fs_t1
  have e : (b + 256 * n) / 2 = (b / 2 + 128 * (n % 2)) + 256 * (n / 2) := by omega
  have h := fs_w1 b hb
  have hl : b / 2 + 128 * (n % 2) < 256 := by omega
  have hx : (b / 2 + 128 * (n % 2)) &&& 85 = b / 2 &&& 85 := by
    rcases (show n % 2 = 0 ∨ n % 2 = 1 by omega) with q | q
    · rw [q]; rfl
    · rw [q]; exact h.2
  have hn : n / 2 &&& fs_rep 85 k ≤ n := Nat.le_trans Nat.and_le_left (Nat.div_le_self n 2)
  show b + 256 * n - ((b + 256 * n) / 2 &&& (85 + 256 * fs_rep 85 k)) = b - (b / 2 &&& 85) + 256 * (n - (n / 2 &&& fs_rep 85 k))
  rw [e, fs_land8 hl (by omega), hx]
  have := h.1
  omega
theorem fs_w2 : ∀ b, b < 256 → (∀ r, r < 4 → ((b / 4 + 64 * r) &&& 51) = (b / 4 &&& 51)) := by decide +kernel
theorem fs_t2_b {k b n : Nat} (hb : b < 256) : fs_t2 (fs_rep 51 (k + 1)) (b + 256 * n) = fs_t2 51 b + 256 * fs_t2 (fs_rep 51 k) n := by
  unfold fs_t2
  have e : (b + 256 * n) / 4 = (b / 4 + 64 * (n % 4)) + 256 * (n / 4) := by omega
  have hl : b / 4 + 64 * (n % 4) < 256 := by omega
  have hx := fs_w2 b hb (n % 4) (by omega)
  show ((b + 256 * n) &&& (51 + 256 * fs_rep 51 k)) + ((b + 256 * n) / 4 &&& (51 + 256 * fs_rep 51 k)) = _
  rw [e, fs_land8 hb (by omega), fs_land8 hl (by omega), hx]
  omega
/-- nibbles of at most 4 -/
def fs_small (b : Nat) : Prop := b % 16 ≤ 4 ∧ b / 16 ≤ 4
theorem fs_w4 : ∀ b, b < 256 → b % 16 ≤ 4 → b / 16 ≤ 4 → ∀ r, r < 5 → b + b / 16 + 16 * r < 256 ∧ ((b + b / 16 + 16 * r) &&& 15) = ((b + b / 16) &&& 15) := by decide +kernel
def fs_pcb (b : Nat) : Nat := fs_t3 15 (fs_t2 51 (fs_t1 85 b))
theorem fs_w5 : ∀ b, b < 256 → fs_pcb b = fs_pc 8 b ∧ fs_t2 51 (fs_t1 85 b) < 256 ∧ fs_t2 51 (fs_t1 85 b) % 16 ≤ 4 ∧ fs_t2 51 (fs_t1 85 b) / 16 ≤ 4 ∧ fs_t1 85 b < 256 := by decide +kernel
def fs_bs (n : Nat) : Nat → Nat
  | 0 => 0
  | k + 1 => fs_pc 8 (n % 256) + 256 * fs_bs (n / 256) k
theorem fs_t12 (k : Nat) : ∀ n, n < 256 ^ k → (fs_t2 (fs_rep 51 k) (fs_t1 (fs_rep 85 k) n)) % 16 ≤ 4 ∧ fs_t3 (fs_rep 15 k) (fs_t2 (fs_rep 51 k) (fs_t1 (fs_rep 85 k) n)) = fs_bs n k := by
  induction k with
  | zero =>
    intro n hn
    have : n = 0 := by simp at hn; exact hn
    subst this
    exact ⟨by decide, rfl⟩
  | succ k ih =>
    intro n hn
    have hq : n / 256 < 256 ^ k := by
      rw [Nat.pow_succ] at hn
      exact Nat.div_lt_of_lt_mul (by rw [Nat.mul_comm]; exact hn)
    have hb : n % 256 < 256 := Nat.mod_lt _ (by omega)
    obtain ⟨i1, i2⟩ := ih (n / 256) hq
    obtain ⟨p1, p2, p3, p4, p5⟩ := fs_w5 (n % 256) hb
    have en : n = n % 256 + 256 * (n / 256) := by omega
    have e1 : fs_t1 (fs_rep 85 (k + 1)) n = fs_t1 85 (n % 256) + 256 * fs_t1 (fs_rep 85 k) (n / 256) := by
      conv => lhs; rw [en]
      exact fs_t1_b hb
    have e2 : fs_t2 (fs_rep 51 (k + 1)) (fs_t1 (fs_rep 85 (k + 1)) n) = fs_t2 51 (fs_t1 85 (n % 256)) + 256 * fs_t2 (fs_rep 51 k) (fs_t1 (fs_rep 85 k) (n / 256)) := by
      rw [e1]; exact fs_t2_b p5
    refine ⟨by rw [e2]; omega, ?_⟩
    rw [e2]
    have p1' : (fs_t2 51 (fs_t1 85 (n % 256)) + fs_t2 51 (fs_t1 85 (n % 256)) / 16) &&& 15 = fs_pc 8 (n % 256) := p1
    clear p1 e1 e2
    generalize fs_t2 51 (fs_t1 85 (n % 256)) = u at *
    generalize fs_t2 (fs_rep 51 k) (fs_t1 (fs_rep 85 k) (n / 256)) = v at *
    obtain ⟨g1, g2⟩ := fs_w4 u p2 p3 p4 (v % 16) (by omega)
    have e3 : u + 256 * v + (u + 256 * v) / 16 = (u + u / 16 + 16 * (v % 16)) + 256 * (v + v / 16) := by omega
    have hp1 : (u + u / 16) &&& 15 = fs_pc 8 (n % 256) := p1'
    show (u + 256 * v + (u + 256 * v) / 16) &&& (15 + 256 * fs_rep 15 k) = fs_pc 8 (n % 256) + 256 * fs_bs (n / 256) k
    rw [e3, fs_land8 g1 (by omega), g2, hp1]
    have i2' : (v + v / 16) &&& fs_rep 15 k = fs_bs (n / 256) k := i2
    rw [i2']
theorem fs_pc8 (n : Nat) : fs_pc 8 (n % 256) = fs_pc 8 n := fs_pc_mod 8 n
theorem fs_bs8 (n : Nat) : ∃ p0 p1 p2 p3 p4 p5 p6 p7 : Nat, (p0 ≤ 8 ∧ p1 ≤ 8 ∧ p2 ≤ 8 ∧ p3 ≤ 8 ∧ p4 ≤ 8 ∧ p5 ≤ 8 ∧ p6 ≤ 8 ∧ p7 ≤ 8) ∧ fs_bs n 8 = p0 + 256 * (p1 + 256 * (p2 + 256 * (p3 + 256 * (p4 + 256 * (p5 + 256 * (p6 + 256 * p7)))))) ∧ fs_pc 64 n = p0 + p1 + p2 + p3 + p4 + p5 + p6 + p7 := by
  have st : ∀ k n, fs_pc (8 + k) n = fs_pc 8 n + fs_pc k (n / 256) := fun k n => fs_pc_add 8 k n
  refine ⟨_, _, _, _, _, _, _, _, ⟨fs_pc_le 8 (n % 256), fs_pc_le 8 (n / 256 % 256), fs_pc_le 8 (n / 256 / 256 % 256), fs_pc_le 8 (n / 256 / 256 / 256 % 256), fs_pc_le 8 (n / 256 / 256 / 256 / 256 % 256), fs_pc_le 8 (n / 256 / 256 / 256 / 256 / 256 % 256), fs_pc_le 8 (n / 256 / 256 / 256 / 256 / 256 / 256 % 256), fs_pc_le 8 (n / 256 / 256 / 256 / 256 / 256 / 256 / 256 % 256)⟩, ?_, ?_⟩
  · simp only [fs_bs]
    omega
  · simp only [fs_pc8]
    rw [show (64 : Nat) = 8 + 56 from rfl, st 56, show (56 : Nat) = 8 + 48 from rfl, st 48, show (48 : Nat) = 8 + 40 from rfl, st 40, show (40 : Nat) = 8 + 32 from rfl, st 32, show (32 : Nat) = 8 + 24 from rfl, st 24, show (24 : Nat) = 8 + 16 from rfl, st 16, show (16 : Nat) = 8 + 8 from rfl, st 8]
    omega
end
section
theorem fs_dv1 (a r : Nat) (h : a < 256) : (a + 256 * r) / 256 = r := by omega
theorem fs_dv2 (a b r : Nat) (ha : a < 256) (hb : b < 256) : (a + 256 * (b + 256 * r)) / 65536 = r := by omega
theorem fs_dv4 (a b c d r : Nat) (ha : a < 256) (hb : b < 256) (hc : c < 256) (hd : d < 256) : (a + 256 * (b + 256 * (c + 256 * (d + 256 * r)))) / 4294967296 = r := by
  rw [show (4294967296 : Nat) = 65536 * 65536 from rfl, ← Nat.div_div_eq_div_mul, fs_dv2 a b _ ha hb, fs_dv2 c d _ hc hd]
theorem fs_fold {i p0 p1 p2 p3 p4 p5 p6 p7 : Nat} (h : p0 ≤ 8 ∧ p1 ≤ 8 ∧ p2 ≤ 8 ∧ p3 ≤ 8 ∧ p4 ≤ 8 ∧ p5 ≤ 8 ∧ p6 ≤ 8 ∧ p7 ≤ 8) (e : i = p0 + 256 * (p1 + 256 * (p2 + 256 * (p3 + 256 * (p4 + 256 * (p5 + 256 * (p6 + 256 * p7)))))))  {i1 i2 i3 : Nat} (h1 : i1 = i + i / 256) (h2 : i2 = i1 + i1 / 65536) (h3 : i3 = i2 + i2 / 4294967296) : i3 % 128 = p0 + p1 + p2 + p3 + p4 + p5 + p6 + p7 ∧ i1 < 2 ^ 64 ∧ i2 < 2 ^ 64 ∧ i3 < 2 ^ 64 := by
  obtain ⟨g0, g1, g2, g3, g4, g5, g6, g7⟩ := h
  have a1 : i1 = (p0 + p1) + 256 * ((p1 + p2) + 256 * ((p2 + p3) + 256 * ((p3 + p4) + 256 * ((p4 + p5) + 256 * ((p5 + p6) + 256 * ((p6 + p7) + 256 * p7)))))) := by
    have d : i / 256 = p1 + 256 * (p2 + 256 * (p3 + 256 * (p4 + 256 * (p5 + 256 * (p6 + 256 * p7))))) := by rw [e]; exact fs_dv1 _ _ (by omega)
    rw [h1, d, e]
    clear h1 h2 h3 d e g0 g1 g2 g3 g4 g5 g6 g7
    simp only [Nat.mul_add]
    omega
  have a2 : i2 = (p0 + p1 + p2 + p3) + 256 * ((p1 + p2 + p3 + p4) + 256 * ((p2 + p3 + p4 + p5) + 256 * ((p3 + p4 + p5 + p6) + 256 * ((p4 + p5 + p6 + p7) + 256 * ((p5 + p6 + p7) + 256 * ((p6 + p7) + 256 * p7)))))) := by
    have d : i1 / 65536 = (p2 + p3) + 256 * ((p3 + p4) + 256 * ((p4 + p5) + 256 * ((p5 + p6) + 256 * ((p6 + p7) + 256 * p7)))) := by rw [a1]; exact fs_dv2 _ _ _ (by omega) (by omega)
    rw [h2, d, a1]
    clear h1 h2 h3 d e a1 g0 g1 g2 g3 g4 g5 g6 g7
    simp only [Nat.mul_add]
    omega
  have a3 : i3 = (p0 + p1 + p2 + p3 + p4 + p5 + p6 + p7) + 256 * ((p1 + p2 + p3 + p4 + p5 + p6 + p7) + 256 * ((p2 + p3 + p4 + p5 + p6 + p7) + 256 * ((p3 + p4 + p5 + p6 + p7) + 256 * ((p4 + p5 + p6 + p7) + 256 * ((p5 + p6 + p7) + 256 * ((p6 + p7) + 256 * p7)))))) := by
    have d : i2 / 4294967296 = (p4 + p5 + p6 + p7) + 256 * ((p5 + p6 + p7) + 256 * ((p6 + p7) + 256 * p7)) := by rw [a2]; exact fs_dv4 _ _ _ _ _ (by omega) (by omega) (by omega) (by omega)
    rw [h3, d, a2]
    clear h1 h2 h3 d e a1 a2 g0 g1 g2 g3 g4 g5 g6 g7
    simp only [Nat.mul_add]
    omega
  clear h1 h2 h3 e
  refine ⟨?_, ?_, ?_, ?_⟩
  · rw [a3]
    clear a1 a2 a3
    generalize (p1 + p2 + p3 + p4 + p5 + p6 + p7) + 256 * ((p2 + p3 + p4 + p5 + p6 + p7) + 256 * ((p3 + p4 + p5 + p6 + p7) + 256 * ((p4 + p5 + p6 + p7) + 256 * ((p5 + p6 + p7) + 256 * ((p6 + p7) + 256 * p7))))) = r
    omega
  · rw [a1]; clear a1 a2 a3; omega
  · rw [a2]; clear a1 a2 a3; omega
  · rw [a3]; clear a1 a2 a3; omega
end
section
-- products of rows, as the class and as the reference make them
theorem fs_s_sub (f g : Nat → BitVec 2) (n : Nat) : fs_s (fun w => f w - g w) n = fs_s f n - fs_s g n := by
  induction n with
  | zero => show 0#2 = 0#2 - 0#2; decide
  | succ n ih =>
    show fs_s (fun w => f w - g w) n + (f n - g n) = fs_s f n + f n - (fs_s g n + g n)
    rw [ih]
    generalize fs_s f n = x; generalize fs_s g n = y; generalize f n = u; generalize g n = v
    revert x y u v; decide +kernel
theorem fs_pc_1 (k n : Nat) : fs_pc (k + 1) n = fs_pc k n + n / 2 ^ k % 2 := by
  rw [fs_pc_add k 1 n]
  rfl
theorem fs_pc_s (n : Nat) (k : Nat) : fs_s (fun w => fs_o (n.testBit w)) k = BitVec.ofNat 2 (fs_pc k n) := by
  induction k with
  | zero => rfl
  | succ k ih =>
    show fs_s (fun w => fs_o (n.testBit w)) k + fs_o (n.testBit k) = _
    rw [ih, fs_pc_1, BitVec.ofNat_add, Nat.testBit_eq_decide_div_mod_eq]
    congr 1
    rcases (show n / 2 ^ k % 2 = 0 ∨ n / 2 ^ k % 2 = 1 by omega) with h | h
    · rw [h]; rfl
    · rw [h]; rfl
def fs_bc (i : Int32) : Int32 :=
  let i1 := i - (fs_ush i 1 &&& 1431655765)
  let i2 := (i1 &&& 858993459) + (fs_ush i1 2 &&& 858993459)
  let i3 := (i2 + fs_ush i2 4) &&& 252645135
  let i4 := i3 + fs_ush i3 8
  let i5 := i4 + fs_ush i4 16
  i5 &&& 63
theorem fs_bc_10 : ∀ m, m < 1024 → fs_bc (nI m) = nI (fs_pc 10 m) := by decide +kernel
theorem fs_bt_nat (x : Int32) (w : Nat) : bt x w = x.toBitVec.toNat.testBit w := rfl
theorem fs_nat10 {x : Int32} (h : ∀ w, 10 ≤ w → bt x w = false) : x.toBitVec.toNat < 1024 := by
  refine Nat.lt_of_not_le fun q => ?_
  obtain ⟨i, hi, hb⟩ := Nat.exists_ge_and_testBit_of_ge_two_pow (n := 10) (x := x.toBitVec.toNat) q
  rw [← fs_bt_nat, h i hi] at hb
  cases hb
theorem fs_nI_of (x : Int32) : x = nI x.toBitVec.toNat := by
  apply Int32.toBitVec_inj.mp
  show x.toBitVec = BitVec.ofNat 32 x.toBitVec.toNat
  rw [BitVec.ofNat_toNat, BitVec.setWidth_eq]
/-- the count of a number whose bits lie below 10 -/
theorem fs_bc_s {x : Int32} (h : ∀ w, 10 ≤ w → bt x w = false) : ∃ k, k ≤ 10 ∧ fs_bc x = nI k ∧ fs_s (fun w => fs_o (bt x w)) 10 = BitVec.ofNat 2 k := by
  refine ⟨fs_pc 10 x.toBitVec.toNat, fs_pc_le 10 _, ?_, fs_pc_s _ 10⟩
  rw [← fs_bc_10 _ (fs_nat10 h), ← fs_nI_of x]
theorem fs_qb : ∀ a, a < 11 → ∀ b, b < 11 → ((nI a - nI b) >>> ((1 : Int32) &&& 31)) &&& 1 = fs_b ((BitVec.ofNat 2 a - BitVec.ofNat 2 b).getLsbD 1) := by decide +kernel
/-- Pauli.multiplyBy -/
def fs_mp (q o : fs_Q) : Int32 := ((o.1 &&& o.2.1) &&& q.2.1 &&& (q.1 ^^^ (-1))) ||| ((o.1 &&& (o.2.1 ^^^ (-1))) &&& q.1 &&& q.2.1) ||| ((o.2.1 &&& (o.1 ^^^ (-1))) &&& q.1 &&& (q.2.1 ^^^ (-1)))
def fs_mn (q o : fs_Q) : Int32 := ((o.1 &&& o.2.1) &&& q.1 &&& (q.2.1 ^^^ (-1))) ||| ((o.1 &&& (o.2.1 ^^^ (-1))) &&& q.2.1 &&& (q.1 ^^^ (-1))) ||| ((o.2.1 &&& (o.1 ^^^ (-1))) &&& q.1 &&& q.2.1)
def fs_mb (q o : fs_Q) : fs_Q :=
  (q.1 ^^^ o.1, q.2.1 ^^^ o.2.1, q.2.2.1 ^^^ (o.2.2.1 ^^^ (((fs_bc (fs_mp q o) - fs_bc (fs_mn q o)) >>> ((1 : Int32) &&& 31)) &&& 1)), q.2.2.2 ^^^ o.2.2.2)
theorem fs_mp_b' (a b c d : Bool) : fs_be a b c d = fs_o (((a && b) && d && (c ^^ true)) || ((a && (b ^^ true)) && c && d) || ((b && (a ^^ true)) && c && (d ^^ true))) - fs_o (((a && b) && c && (d ^^ true)) || ((a && (b ^^ true)) && d && (c ^^ true)) || ((b && (a ^^ true)) && c && d)) := by
  cases a <;> cases b <;> cases c <;> cases d <;> decide
def fs_sq (n : Nat) (q : fs_Q) : Prop := fs_su n (fs_abs q).1 ∧ fs_01 q.2.2.1
theorem fs_mb_abs {q o : fs_Q} (hq : fs_sq 10 q) (ho : fs_sq 10 o) : fs_abs (fs_mb q o) = fs_rm (fs_abs o) (fs_abs q) ∧ fs_01 (fs_mb q o).2.2.1 := by
  obtain ⟨hq1, hq2⟩ := hq
  obtain ⟨ho1, ho2⟩ := ho
  have x0 : ∀ w, 10 ≤ w → bt q.1 w = false := fun w hw => (hq1 w hw).1
  have z0 : ∀ w, 10 ≤ w → bt q.2.1 w = false := fun w hw => (hq1 w hw).2
  have hp : ∀ w, 10 ≤ w → bt (fs_mp q o) w = false := fun w hw => by
    unfold fs_mp
    simp only [b_or, b_and, x0 w hw, z0 w hw, Bool.and_false, Bool.false_and, Bool.or_self]
  have hn : ∀ w, 10 ≤ w → bt (fs_mn q o) w = false := fun w hw => by
    unfold fs_mn
    simp only [b_or, b_and, x0 w hw, z0 w hw, Bool.and_false, Bool.false_and, Bool.or_self]
  obtain ⟨kp, p1, p2, p3⟩ := fs_bc_s hp
  obtain ⟨kn, n1, n2, n3⟩ := fs_bc_s hn
  have hS : fs_S (fs_abs o).1 (fs_abs q).1 = BitVec.ofNat 2 kp - BitVec.ofNat 2 kn := by
    rw [← p3, ← n3, ← fs_s_sub]
    refine fs_s_congr fun w hw => ?_
    have m1 : bt (-1) w = true := b_m1 w (by omega)
    show fs_be (bt o.1 w) (bt o.2.1 w) (bt q.1 w) (bt q.2.1 w) = _
    unfold fs_mp fs_mn
    simp only [b_or, b_and, b_xor, m1]
    exact fs_mp_b' _ _ _ _
  have e : ((fs_bc (fs_mp q o) - fs_bc (fs_mn q o)) >>> ((1 : Int32) &&& 31)) &&& 1 = fs_b ((fs_S (fs_abs o).1 (fs_abs q).1).getLsbD 1) := by
    rw [hS, p2, n2]
    exact fs_qb kp (by omega) kn (by omega)
  unfold fs_mb
  rw [e]
  have ho2' : o.2.2.1 = fs_b (bt o.2.2.1 0) := ho2
  have ec : q.2.2.1 ^^^ (o.2.2.1 ^^^ fs_b ((fs_S (fs_abs o).1 (fs_abs q).1).getLsbD 1)) = q.2.2.1 ^^^ fs_b (bt o.2.2.1 0 ^^ (fs_S (fs_abs o).1 (fs_abs q).1).getLsbD 1) := by
    rw [← fs_b_xor, ← ho2']
  rw [ec]
  obtain ⟨h1, h2⟩ := fs_01_x hq2 (bt o.2.2.1 0 ^^ (fs_S (fs_abs o).1 (fs_abs q).1).getLsbD 1)
  refine ⟨Prod.ext (Prod.ext ?_ ?_) (Prod.ext h2 rfl), h1⟩
  · funext w; exact b_xor _ _ _
  · funext w; exact b_xor _ _ _
-- the reference's
def fs_pw (x1 z1 x2 z2 : Int32) : Int32 := if x1 = 0 ∧ z1 = 0 then 0 else if x1 = 1 ∧ z1 = 1 then z2 - x2 else if x1 = 1 then z2 * (2 * x2 - 1) else x2 * (1 - 2 * z2)
def fs_bi (v k : Int32) : Int32 := (v >>> (k &&& 31)) &&& 1
def fs_pws (x1 z1 x2 z2 : Int32) : Nat → Int32
  | 0 => 0
  | w + 1 => fs_pws x1 z1 x2 z2 w + fs_pw (fs_bi x1 (nI w)) (fs_bi z1 (nI w)) (fs_bi x2 (nI w)) (fs_bi z2 (nI w))
def fs_lo (x : Int32) : BitVec 2 := x.toBitVec.setWidth 2
theorem fs_lo_add (x y : Int32) : fs_lo (x + y) = fs_lo x + fs_lo y := by
  unfold fs_lo
  rw [Int32.toBitVec_add, BitVec.setWidth_add _ _ (by omega)]
theorem fs_pw_lo : ∀ a b c d : Bool, fs_lo (fs_pw (fs_b a) (fs_b b) (fs_b c) (fs_b d)) = fs_be a b c d := by decide +kernel
theorem fs_pws_lo {n : Nat} (hn : n ≤ 10) (x1 z1 x2 z2 : Int32) : fs_lo (fs_pws x1 z1 x2 z2 n) = fs_s (fun w => fs_be (bt x1 w) (bt z1 w) (bt x2 w) (bt z2 w)) n := by
  induction n with
  | zero => rfl
  | succ n ih =>
    show fs_lo (fs_pws x1 z1 x2 z2 n + _) = fs_s _ n + _
    rw [fs_lo_add, ih (by omega)]
    unfold fs_bi
    rw [fs_onS (by omega), fs_onS (by omega), fs_onS (by omega), fs_onS (by omega), fs_pw_lo]
theorem fs_be0 : ∀ c d : Bool, fs_be false false c d = 0#2 := by decide
theorem fs_s_more {f : Nat → BitVec 2} {n : Nat} : ∀ {k : Nat}, n ≤ k → (∀ w, n ≤ w → w < k → f w = 0#2) → fs_s f k = fs_s f n
  | 0, h, _ => by rw [show n = 0 by omega]
  | k + 1, h, h0 => by
    by_cases q : n = k + 1
    · rw [q]
    · show fs_s f k + f k = _
      rw [fs_s_more (k := k) (by omega) (fun w h1 h2 => h0 w h1 (by omega)), h0 k (by omega) (by omega), BitVec.add_zero]
theorem fs_3bit : ∀ i, i < 32 → bt 3 i = decide (i < 2) := by decide +kernel
theorem fs_and3 (x : Int32) : (x &&& 3) >>> ((1 : Int32) &&& 31) = fs_b ((fs_lo x).getLsbD 1) := by
  refine b_ext fun i hi => ?_
  have e : (1 : Int32) = nI 1 := rfl
  rw [e, b_sshr 1 (by omega) _ hi, fs_b_bit _ i hi]
  have h1 : (fs_lo x).getLsbD 1 = bt x 1 := by
    unfold fs_lo bt
    rw [BitVec.getLsbD_setWidth]
    simp
  rw [h1, b_and, b_and]
  by_cases h : i = 0
  · subst h
    rw [if_pos (by omega), fs_3bit _ (by omega)]
    simp
  · rw [fs_3bit 31 (by omega)]
    split
    · rw [fs_3bit _ (by omega)]
      have : ¬ 1 + i < 2 := by omega
      simp [h, this]
    · simp [h]
/-- row 'to' multiplied by row 'by' -/
def fs_ml (n : Nat) (t b : fs_Q) : fs_Q := (t.1 ^^^ b.1, t.2.1 ^^^ b.2.1, t.2.2.1 ^^^ (b.2.2.1 ^^^ ((fs_pws b.1 b.2.1 t.1 t.2.1 n &&& 3) >>> ((1 : Int32) &&& 31))), t.2.2.2 ^^^ b.2.2.2)
theorem fs_ml_abs {n : Nat} (hn : n ≤ 10) {t b : fs_Q} (ht : fs_01 t.2.2.1) (hb : fs_sq n b) : fs_abs (fs_ml n t b) = fs_rm (fs_abs b) (fs_abs t) ∧ fs_01 (fs_ml n t b).2.2.1 := by
  obtain ⟨hb1, hb2⟩ := hb
  have hS : fs_lo (fs_pws b.1 b.2.1 t.1 t.2.1 n) = fs_S (fs_abs b).1 (fs_abs t).1 := by
    rw [fs_pws_lo hn]
    refine (fs_s_more hn fun w h1 h2 => ?_).symm
    show fs_be (bt b.1 w) (bt b.2.1 w) _ _ = 0#2
    rw [show bt b.1 w = false from (hb1 w h1).1, show bt b.2.1 w = false from (hb1 w h1).2]
    exact fs_be0 _ _
  unfold fs_ml
  rw [fs_and3, hS]
  have hb2' : b.2.2.1 = fs_b (bt b.2.2.1 0) := hb2
  have ec : t.2.2.1 ^^^ (b.2.2.1 ^^^ fs_b ((fs_S (fs_abs b).1 (fs_abs t).1).getLsbD 1)) = t.2.2.1 ^^^ fs_b (bt b.2.2.1 0 ^^ (fs_S (fs_abs b).1 (fs_abs t).1).getLsbD 1) := by
    rw [← fs_b_xor, ← hb2']
  rw [ec]
  obtain ⟨h1, h2⟩ := fs_01_x ht (bt b.2.2.1 0 ^^ (fs_S (fs_abs b).1 (fs_abs t).1).getLsbD 1)
  refine ⟨Prod.ext (Prod.ext ?_ ?_) (Prod.ext h2 rfl), h1⟩
  · funext w; exact b_xor _ _ _
  · funext w; exact b_xor _ _ _
-- the reference's gates on a row
def fs_gd (q : fs_Q) (k a b : Int32) : fs_Q :=
  let x := fs_bi q.1 a
  let z := fs_bi q.2.1 a
  if k = 0 then (q.1 ^^^ ((x ^^^ z) <<< (a &&& 31)), q.2.1 ^^^ ((x ^^^ z) <<< (a &&& 31)), q.2.2.1 ^^^ (x &&& z), q.2.2.2)
  else if k = 1 then (q.1, q.2.1 ^^^ (x <<< (a &&& 31)), q.2.2.1 ^^^ (x &&& z), q.2.2.2)
  else if k = 2 then (q.1 ^^^ (x <<< (b &&& 31)), q.2.1 ^^^ (fs_bi q.2.1 b <<< (a &&& 31)), q.2.2.1 ^^^ (x &&& fs_bi q.2.1 b &&& (fs_bi q.1 b ^^^ z ^^^ 1)), q.2.2.2)
  else if k = 3 then (q.1, q.2.1 ^^^ ((fs_bi q.1 b <<< (a &&& 31)) ||| (x <<< (b &&& 31))), q.2.2.1 ^^^ (x &&& fs_bi q.1 b &&& (z ^^^ fs_bi q.2.1 b)), q.2.2.2)
  else if k = 4 then (q.1 ^^^ (((fs_bi q.1 a ^^^ fs_bi q.1 b) <<< (a &&& 31)) ||| ((fs_bi q.1 a ^^^ fs_bi q.1 b) <<< (b &&& 31))), q.2.1 ^^^ (((fs_bi q.2.1 a ^^^ fs_bi q.2.1 b) <<< (a &&& 31)) ||| ((fs_bi q.2.1 a ^^^ fs_bi q.2.1 b) <<< (b &&& 31))), q.2.2.1, q.2.2.2)
  else if k = 5 then (q.1, q.2.1, q.2.2.1 ^^^ z, q.2.2.2)
  else (q.1, q.2.1, q.2.2.1 ^^^ x, q.2.2.2)
theorem fs_bi_b {a : Nat} (ha : a < 32) (x : Int32) : fs_bi x (nI a) = fs_b (bt x a) := fs_onS ha x
theorem fs_gd_abs {n k a b : Nat} (hn : n ≤ 10) (h : fs_okg n k a b) {bv : Int32} (hb : 2 ≤ k → k ≤ 4 → bv = nI b) {q : fs_Q} (hc : fs_01 q.2.2.1) : fs_abs (fs_gd q (nI k) (nI a) bv) = fs_gr k a b (fs_abs q) ∧ fs_01 (fs_gd q (nI k) (nI a) bv).2.2.1 := by
  obtain ⟨h1, h2, h3⟩ := h
  have ha : a < 32 := by omega
  revert h3 hb
  refine fs_kind7 (P := fun k => (2 ≤ k → k ≤ 4 → bv = nI b) → (2 ≤ k → k ≤ 4 → b < n ∧ a ≠ b) → fs_abs (fs_gd q (nI k) (nI a) bv) = fs_gr k a b (fs_abs q) ∧ fs_01 (fs_gd q (nI k) (nI a) bv).2.2.1) ?_ ?_ ?_ ?_ ?_ ?_ ?_ h1 <;> intro g1 g2
  · have e : fs_gd q (nI 0) (nI a) bv = (q.1 ^^^ ((fs_bi q.1 (nI a) ^^^ fs_bi q.2.1 (nI a)) <<< (nI a &&& 31)), q.2.1 ^^^ ((fs_bi q.1 (nI a) ^^^ fs_bi q.2.1 (nI a)) <<< (nI a &&& 31)), q.2.2.1 ^^^ (fs_bi q.1 (nI a) &&& fs_bi q.2.1 (nI a)), q.2.2.2) := rfl
    rw [e, fs_bi_b ha, fs_bi_b ha, fs_b_and, fs_b_xor]
    obtain ⟨c1, c2⟩ := fs_01_x hc (bt q.1 a && bt q.2.1 a)
    refine ⟨Prod.ext (Prod.ext ?_ ?_) (Prod.ext c2 rfl), c1⟩
    · show bt (q.1 ^^^ _) = fs_up (bt q.1) a (bt q.2.1 a)
      rw [fs_turn ha]; exact congrArg _ (fs_xzx _ _).1
    · show bt (q.2.1 ^^^ _) = fs_up (bt q.2.1) a (bt q.1 a)
      rw [fs_turn ha]; exact congrArg _ (fs_xzx _ _).2
  · have e : fs_gd q (nI 1) (nI a) bv = (q.1, q.2.1 ^^^ (fs_bi q.1 (nI a) <<< (nI a &&& 31)), q.2.2.1 ^^^ (fs_bi q.1 (nI a) &&& fs_bi q.2.1 (nI a)), q.2.2.2) := rfl
    rw [e, fs_bi_b ha, fs_bi_b ha, fs_b_and]
    obtain ⟨c1, c2⟩ := fs_01_x hc (bt q.1 a && bt q.2.1 a)
    refine ⟨Prod.ext (Prod.ext rfl ?_) (Prod.ext c2 rfl), c1⟩
    show bt (q.2.1 ^^^ _) = fs_up (bt q.2.1) a (bt q.2.1 a ^^ bt q.1 a)
    rw [fs_turn ha]
  · obtain ⟨q1, q2⟩ := g2 (by omega) (by omega)
    have hb' : b < 32 := by omega
    rw [g1 (by omega) (by omega)]
    have e : fs_gd q (nI 2) (nI a) (nI b) = (q.1 ^^^ (fs_bi q.1 (nI a) <<< (nI b &&& 31)), q.2.1 ^^^ (fs_bi q.2.1 (nI b) <<< (nI a &&& 31)), q.2.2.1 ^^^ (fs_bi q.1 (nI a) &&& fs_bi q.2.1 (nI b) &&& (fs_bi q.1 (nI b) ^^^ fs_bi q.2.1 (nI a) ^^^ 1)), q.2.2.2) := rfl
    rw [e, fs_bi_b ha, fs_bi_b ha, fs_bi_b hb', fs_bi_b hb', fs_b_and, fs_b_xor, fs_b_not, fs_b_and, fs_nt]
    obtain ⟨c1, c2⟩ := fs_01_x hc (bt q.1 a && bt q.2.1 b && (bt q.1 b ^^ bt q.2.1 a ^^ true))
    refine ⟨Prod.ext (Prod.ext ?_ ?_) (Prod.ext c2 rfl), c1⟩
    · show bt (q.1 ^^^ _) = fs_up (bt q.1) b (bt q.1 b ^^ bt q.1 a)
      rw [fs_turn hb']
    · show bt (q.2.1 ^^^ _) = fs_up (bt q.2.1) a (bt q.2.1 a ^^ bt q.2.1 b)
      rw [fs_turn ha]
  · obtain ⟨q1, q2⟩ := g2 (by omega) (by omega)
    have hb' : b < 32 := by omega
    rw [g1 (by omega) (by omega)]
    have e : fs_gd q (nI 3) (nI a) (nI b) = (q.1, q.2.1 ^^^ ((fs_bi q.1 (nI b) <<< (nI a &&& 31)) ||| (fs_bi q.1 (nI a) <<< (nI b &&& 31))), q.2.2.1 ^^^ (fs_bi q.1 (nI a) &&& fs_bi q.1 (nI b) &&& (fs_bi q.2.1 (nI a) ^^^ fs_bi q.2.1 (nI b))), q.2.2.2) := rfl
    rw [e, fs_bi_b ha, fs_bi_b ha, fs_bi_b hb', fs_bi_b hb', fs_b_and, fs_b_xor, fs_b_and]
    obtain ⟨c1, c2⟩ := fs_01_x hc (bt q.1 a && bt q.1 b && (bt q.2.1 a ^^ bt q.2.1 b))
    refine ⟨Prod.ext (Prod.ext rfl ?_) (Prod.ext c2 rfl), c1⟩
    show bt (q.2.1 ^^^ _) = fs_up (fs_up (bt q.2.1) a (bt q.2.1 a ^^ bt q.1 b)) b (bt q.2.1 b ^^ bt q.1 a)
    rw [fs_turn2 ha hb' q2]
  · obtain ⟨q1, q2⟩ := g2 (by omega) (by omega)
    have hb' : b < 32 := by omega
    rw [g1 (by omega) (by omega)]
    have e : fs_gd q (nI 4) (nI a) (nI b) = (q.1 ^^^ (((fs_bi q.1 (nI a) ^^^ fs_bi q.1 (nI b)) <<< (nI a &&& 31)) ||| ((fs_bi q.1 (nI a) ^^^ fs_bi q.1 (nI b)) <<< (nI b &&& 31))), q.2.1 ^^^ (((fs_bi q.2.1 (nI a) ^^^ fs_bi q.2.1 (nI b)) <<< (nI a &&& 31)) ||| ((fs_bi q.2.1 (nI a) ^^^ fs_bi q.2.1 (nI b)) <<< (nI b &&& 31))), q.2.2.1, q.2.2.2) := rfl
    rw [e, fs_bi_b ha, fs_bi_b ha, fs_bi_b hb', fs_bi_b hb', fs_b_xor, fs_b_xor]
    refine ⟨Prod.ext (Prod.ext ?_ ?_) (Prod.ext (fs_bs0 _).symm rfl), hc⟩
    · show bt (q.1 ^^^ _) = fs_up (fs_up (bt q.1) a (bt q.1 b)) b (bt q.1 a)
      rw [fs_turn2 ha hb' q2, (fs_xzx _ _).1, (fs_xzx _ _).2]
    · show bt (q.2.1 ^^^ _) = fs_up (fs_up (bt q.2.1) a (bt q.2.1 b)) b (bt q.2.1 a)
      rw [fs_turn2 ha hb' q2, (fs_xzx _ _).1, (fs_xzx _ _).2]
  · have e : fs_gd q (nI 5) (nI a) bv = (q.1, q.2.1, q.2.2.1 ^^^ fs_bi q.2.1 (nI a), q.2.2.2) := rfl
    rw [e, fs_bi_b ha]
    obtain ⟨c1, c2⟩ := fs_01_x hc (bt q.2.1 a)
    exact ⟨Prod.ext rfl (Prod.ext c2 rfl), c1⟩
  · have e : fs_gd q (nI 6) (nI a) bv = (q.1, q.2.1, q.2.2.1 ^^^ fs_bi q.1 (nI a), q.2.2.2) := rfl
    rw [e, fs_bi_b ha]
    obtain ⟨c1, c2⟩ := fs_01_x hc (bt q.1 a)
    exact ⟨Prod.ext rfl (Prod.ext c2 rfl), c1⟩
end
section
-- the class's tableau and the reference's rows, as they stand: what an act does to both
def fs_vv (q : fs_Q) : fs_V := (fs_abs q).1
/-- the class's keepers kp and partners pn, the reference's rows rw, of n wires -/
def fs_Tw (n : Nat) (kp pn rw : Nat → fs_Q) : Prop := (∀ i, i < n → fs_sq n (kp i) ∧ fs_sq n (pn i) ∧ fs_sq n (rw i)) ∧ fs_Sim n (fun i => fs_abs (kp i)) (fun i => fs_vv (pn i)) (fun i => fs_abs (rw i))
theorem fs_Tw_n {n : Nat} {kp pn rw : Nat → fs_Q} (T : fs_Tw n kp pn rw) : n ≤ 10 := T.2.1.1
theorem fs_sq_up {n k : Nat} {q : fs_Q} (h : fs_sq n q) (hk : n ≤ k) : fs_sq k q := ⟨fun w hw => h.1 w (by omega), h.2⟩
theorem fs_abs_0 : fs_abs (0, 0, 0, 0) = fs_r1 := by
  unfold fs_abs fs_r1 fs_v0
  dsimp only
  rw [fs_bt0]
theorem fs_abs_Z {a : Nat} (ha : a < 32) (h : Int64) : fs_abs ((0, 1 <<< (nI a &&& 31), 0, h) : fs_Q) = (fs_Zv a, false, h) := by
  unfold fs_abs fs_Zv
  dsimp only
  rw [fs_bt0, fs_btZ ha]
theorem fs_abs_X {a : Nat} (ha : a < 32) : fs_vv ((1 <<< (nI a &&& 31), 0, 0, 0) : fs_Q) = fs_Xv a := by
  unfold fs_vv fs_abs fs_Xv
  dsimp only
  rw [fs_bt0, fs_btZ ha]
theorem fs_01_0 : fs_01 0 := by unfold fs_01; decide
theorem fs_Tw_0 {n : Nat} (hn : n ≤ 10) {kp pn rw : Nat → fs_Q} (hk : ∀ i, i < n → kp i = ((0, 1 <<< (nI i &&& 31), 0, 0) : fs_Q)) (hp : ∀ i, i < n → pn i = ((1 <<< (nI i &&& 31), 0, 0, 0) : fs_Q)) (hr : ∀ i, i < n → rw i = ((0, 1 <<< (nI i &&& 31), 0, 0) : fs_Q)) : fs_Tw n kp pn rw := by
  have az : ∀ i, i < n → fs_abs ((0, 1 <<< (nI i &&& 31), 0, 0) : fs_Q) = (fs_Zv i, false, 0) := fun i hi => fs_abs_Z (by omega) 0
  have io : ∀ i, fs_io (fs_Zv i, false, 0) = (fs_Zv i, 0#2, 0) := fun i => by
    unfold fs_io
    dsimp only
    rw [fs_q_Z]; rfl
  refine ⟨fun i hi => ⟨⟨?_, ?_⟩, ⟨?_, ?_⟩, ⟨?_, ?_⟩⟩, ?_, fun g => ?_⟩
  · rw [hk i hi, az i hi]; exact fs_su_Z hi
  · rw [hk i hi]; exact fs_01_0
  · rw [hp i hi]; show fs_su n (fs_vv _); rw [fs_abs_X (by omega)]; exact fs_su_X hi
  · rw [hp i hi]; exact fs_01_0
  · rw [hr i hi, az i hi]; exact fs_su_Z hi
  · rw [hr i hi]; exact fs_01_0
  · refine fs_Tab_congr (fs_Tab_0 hn) (fun i hi => ?_) (fun i hi => ?_)
    · show fs_io (fs_abs (kp i)) = _
      rw [hk i hi, az i hi, io i]
    · show fs_vv (pn i) = _
      rw [hp i hi, fs_abs_X (by omega)]
  · exact fs_Sp_congr (fun i hi => by
      show fs_io (fs_abs (rw i)) = fs_io (fs_abs (kp i))
      rw [hk i hi, hr i hi]) g
theorem fs_sq_gr {n k a b : Nat} (h : fs_okg n k a b) {q q' : fs_Q} (hq : fs_sq n q) (e : fs_abs q' = fs_gr k a b (fs_abs q) ∧ fs_01 q'.2.2.1) : fs_sq n q' := ⟨by rw [e.1]; exact fs_su_k h hq.1, e.2⟩
theorem fs_Tw_gate {n k a b : Nat} {bv : Int32} {kp pn rw kp' pn' rw' : Nat → fs_Q} (T : fs_Tw n kp pn rw) (h : fs_okg n k a b) (hb : 2 ≤ k → k ≤ 4 → bv = nI b)
    (hk : ∀ i, i < n → kp' i = fs_ps (kp i) (nI k) (nI a) bv) (hp : ∀ i, i < n → pn' i = fs_ps (pn i) (nI k) (nI a) bv) (hr : ∀ i, i < n → rw' i = fs_gd (rw i) (nI k) (nI a) bv) : fs_Tw n kp' pn' rw' := by
  have hn := fs_Tw_n T
  obtain ⟨T1, T2⟩ := T
  have ek : ∀ i, i < n → fs_abs (kp' i) = fs_gr k a b (fs_abs (kp i)) ∧ fs_01 (kp' i).2.2.1 := fun i hi => by rw [hk i hi]; exact fs_ps_abs hn h hb (T1 i hi).1.2
  have ep : ∀ i, i < n → fs_abs (pn' i) = fs_gr k a b (fs_abs (pn i)) ∧ fs_01 (pn' i).2.2.1 := fun i hi => by rw [hp i hi]; exact fs_ps_abs hn h hb (T1 i hi).2.1.2
  have er : ∀ i, i < n → fs_abs (rw' i) = fs_gr k a b (fs_abs (rw i)) ∧ fs_01 (rw' i).2.2.1 := fun i hi => by rw [hr i hi]; exact fs_gd_abs hn h hb (T1 i hi).2.2.2
  refine ⟨fun i hi => ⟨fs_sq_gr h (T1 i hi).1 (ek i hi), fs_sq_gr h (T1 i hi).2.1 (ep i hi), fs_sq_gr h (T1 i hi).2.2 (er i hi)⟩, ?_⟩
  refine fs_Sim_gate T2 h (fun i hi => (ek i hi).1) (fun i hi => (er i hi).1) (fun i hi => ?_)
  show (fs_abs (pn' i)).1 = _
  rw [(ep i hi).1]; rfl
/-- an x that happens if a look told 1 -/
def fs_fl (q : fs_Q) (c : Int32) (r : Int64) : fs_Q := (q.1, q.2.1, q.2.2.1 ^^^ c, q.2.2.2 ^^^ r)
theorem fs_fl_abs {a : Nat} {q q' : fs_Q} {c : Bool} {r : Int64} (hc : fs_01 q.2.2.1) (e : q' = if bt q.2.1 a = true then fs_fl q (fs_b c) r else q) : fs_abs q' = fs_rr a c r (fs_abs q) ∧ fs_01 q'.2.2.1 := by
  rw [e]
  unfold fs_rr
  by_cases h : bt q.2.1 a = true
  · rw [if_pos h, if_pos (show (fs_abs q).1.2 a = true from h)]
    obtain ⟨c1, c2⟩ := fs_01_x hc c
    exact ⟨Prod.ext rfl (Prod.ext c2 rfl), c1⟩
  · rw [if_neg h, if_neg (show ¬ (fs_abs q).1.2 a = true from h)]
    exact ⟨rfl, hc⟩
theorem fs_rr_v (a : Nat) (c : Bool) (h : Int64) (r : fs_R) : (fs_rr a c h r).1 = r.1 := by
  unfold fs_rr
  split <;> rfl
theorem fs_Tw_reset {n a : Nat} {c : Bool} {r : Int64} {kp pn rw kp' rw' : Nat → fs_Q} (T : fs_Tw n kp pn rw)
    (hk : ∀ i, i < n → kp' i = if bt (kp i).2.1 a = true then fs_fl (kp i) (fs_b c) r else kp i) (hr : ∀ i, i < n → rw' i = if bt (rw i).2.1 a = true then fs_fl (rw i) (fs_b c) r else rw i) : fs_Tw n kp' pn rw' := by
  obtain ⟨T1, T2⟩ := T
  have ek := fun i hi => fs_fl_abs (T1 i hi).1.2 (hk i hi)
  have er := fun i hi => fs_fl_abs (T1 i hi).2.2.2 (hr i hi)
  refine ⟨fun i hi => ⟨⟨?_, (ek i hi).2⟩, (T1 i hi).2.1, ⟨?_, (er i hi).2⟩⟩, fs_Sim_reset T2 (fun i hi => (ek i hi).1) (fun i hi => (er i hi).1)⟩
  · rw [(ek i hi).1, fs_rr_v]; exact (T1 i hi).1.1
  · rw [(er i hi).1, fs_rr_v]; exact (T1 i hi).2.2.1
theorem fs_rm_v (t r : fs_R) : (fs_rm t r).1 = fs_va r.1 t.1 := rfl
/-- a random look -/
theorem fs_Tw_rand {n a p q : Nat} {h : Int64} {kp pn rw kp' pn' rw' : Nat → fs_Q} (T : fs_Tw n kp pn rw) (ha : a < n) (hp : p < n) (hq : q < n) (hKp : bt (kp p).1 a = true) (hRq : bt (rw q).1 a = true)
    (hk : ∀ i, i < n → kp' i = if i = p then ((0, 1 <<< (nI a &&& 31), 0, h) : fs_Q) else if bt (kp i).1 a = true then fs_mb (kp i) (kp p) else kp i)
    (hpn : ∀ i, i < n → pn' i = if i = p then kp p else if bt (pn i).1 a = true then fs_mb (pn i) (kp p) else pn i)
    (hr : ∀ i, i < n → rw' i = if i = q then ((0, 1 <<< (nI a &&& 31), 0, h) : fs_Q) else if bt (rw i).1 a = true then fs_ml n (rw i) (rw q) else rw i) : fs_Tw n kp' pn' rw' := by
  have hn := fs_Tw_n T
  obtain ⟨T1, T2⟩ := T
  have aZ := fs_abs_Z (a := a) (by omega) h
  have sZ : fs_sq n ((0, 1 <<< (nI a &&& 31), 0, h) : fs_Q) := ⟨by rw [aZ]; exact fs_su_Z ha, fs_01_0⟩
  have ek : ∀ i, i < n → fs_abs (kp' i) = fs_cr (fun i => fs_abs (kp i)) p a h i ∧ fs_sq n (kp' i) := by
    intro i hi
    rw [hk i hi]
    unfold fs_cr
    by_cases hip : i = p
    · rw [if_pos hip, if_pos hip]; exact ⟨aZ, sZ⟩
    · rw [if_neg hip, if_neg hip]
      by_cases hx : bt (kp i).1 a = true
      · rw [if_pos hx, if_pos (show (fs_abs (kp i)).1.1 a = true from hx)]
        have := fs_mb_abs (fs_sq_up (T1 i hi).1 hn) (fs_sq_up (T1 p hp).1 hn)
        exact ⟨this.1, by rw [this.1, fs_rm_v]; exact fs_su_a (T1 i hi).1.1 (T1 p hp).1.1, this.2⟩
      · rw [if_neg hx, if_neg (show ¬ (fs_abs (kp i)).1.1 a = true from hx)]; exact ⟨rfl, (T1 i hi).1⟩
  have er : ∀ i, i < n → fs_abs (rw' i) = fs_cr (fun i => fs_abs (rw i)) q a h i ∧ fs_sq n (rw' i) := by
    intro i hi
    rw [hr i hi]
    unfold fs_cr
    by_cases hip : i = q
    · rw [if_pos hip, if_pos hip]; exact ⟨aZ, sZ⟩
    · rw [if_neg hip, if_neg hip]
      by_cases hx : bt (rw i).1 a = true
      · rw [if_pos hx, if_pos (show (fs_abs (rw i)).1.1 a = true from hx)]
        have := fs_ml_abs hn (T1 i hi).2.2.2 (T1 q hq).2.2
        exact ⟨this.1, by rw [this.1, fs_rm_v]; exact fs_su_a (T1 i hi).2.2.1 (T1 q hq).2.2.1, this.2⟩
      · rw [if_neg hx, if_neg (show ¬ (fs_abs (rw i)).1.1 a = true from hx)]; exact ⟨rfl, (T1 i hi).2.2⟩
  have ep : ∀ i, i < n → fs_vv (pn' i) = (if i = p then (fs_abs (kp p)).1 else if (fs_vv (pn i)).1 a = true then fs_va (fs_vv (pn i)) (fs_abs (kp p)).1 else fs_vv (pn i)) ∧ fs_sq n (pn' i) := by
    intro i hi
    rw [hpn i hi]
    by_cases hip : i = p
    · rw [if_pos hip, if_pos hip]; exact ⟨rfl, (T1 p hp).1⟩
    · rw [if_neg hip, if_neg hip]
      by_cases hx : bt (pn i).1 a = true
      · rw [if_pos hx, if_pos (show (fs_vv (pn i)).1 a = true from hx)]
        have := fs_mb_abs (fs_sq_up (T1 i hi).2.1 hn) (fs_sq_up (T1 p hp).1 hn)
        refine ⟨?_, ?_, this.2⟩
        · show (fs_abs _).1 = _
          rw [this.1]; rfl
        · rw [this.1, fs_rm_v]; exact fs_su_a (T1 i hi).2.1.1 (T1 p hp).1.1
      · rw [if_neg hx, if_neg (show ¬ (fs_vv (pn i)).1 a = true from hx)]; exact ⟨rfl, (T1 i hi).2.1⟩
  exact ⟨fun i hi => ⟨(ek i hi).2, (ep i hi).2, (er i hi).2⟩, fs_Sim_rand T2 ha hp hq hKp hRq (fun i hi => (ek i hi).1) (fun i hi => (er i hi).1) (fun i hi => (ep i hi).1)⟩
theorem fs_Tw_any {n a : Nat} {kp pn rw : Nat → fs_Q} (T : fs_Tw n kp pn rw) (ha : a < n) : (∀ i, i < n → bt (kp i).1 a = false) ↔ (∀ i, i < n → bt (rw i).1 a = false) := fs_Sim_any T.2 ha
/-- the class's product of a told look -/
def fs_zk (kp pn : Nat → fs_Q) (a : Nat) : Nat → fs_Q
  | 0 => (0, 0, 0, 0)
  | i + 1 => if bt (pn i).1 a = true then fs_mb (fs_zk kp pn a i) (kp i) else fs_zk kp pn a i
theorem fs_zk_abs {n a : Nat} {kp pn rw : Nat → fs_Q} (T : fs_Tw n kp pn rw) : ∀ i, i ≤ n → fs_abs (fs_zk kp pn a i) = fs_pd (fun i => fs_abs (kp i)) (fun i => fs_vv (pn i)) a i ∧ fs_sq n (fs_zk kp pn a i) := by
  have hn := fs_Tw_n T
  intro i
  induction i with
  | zero => intro _; exact ⟨fs_abs_0, by rw [show fs_zk kp pn a 0 = (0, 0, 0, 0) from rfl, fs_abs_0]; exact fs_su_0, fs_01_0⟩
  | succ i ih =>
    intro hi
    obtain ⟨h1, h2⟩ := ih (by omega)
    show fs_abs (if bt (pn i).1 a = true then fs_mb (fs_zk kp pn a i) (kp i) else fs_zk kp pn a i) = (if (fs_vv (pn i)).1 a = true then _ else _) ∧ fs_sq n (if bt (pn i).1 a = true then fs_mb (fs_zk kp pn a i) (kp i) else fs_zk kp pn a i)
    by_cases hx : bt (pn i).1 a = true
    · rw [if_pos hx, if_pos (show (fs_vv (pn i)).1 a = true from hx)]
      have := fs_mb_abs (fs_sq_up h2 hn) (fs_sq_up (T.1 i (by omega)).1 hn)
      refine ⟨by rw [this.1, h1], ?_, this.2⟩
      rw [this.1, fs_rm_v]; exact fs_su_a h2.1 (T.1 i (by omega)).1.1
    · rw [if_neg hx, if_neg (show ¬ (fs_vv (pn i)).1 a = true from hx)]; exact ⟨h1, h2⟩
/-- one column of the reference's elimination: rows, which are used, what is made -/
def fs_co (x z : Int32) (c : Nat) : Bool := if c < 10 then bt x c else bt z (c - 10)
theorem fs_co_cl (q : fs_Q) (c : Nat) : fs_co q.1 q.2.1 c = fs_cl c (fs_abs q).1 := rfl
theorem fs_coZ {a : Nat} (ha : a < 32) (md : fs_Q) (c : Nat) : fs_co md.1 (md.2.1 ^^^ (1 <<< (nI a &&& 31))) c = fs_cl c (fs_va (fs_abs md).1 (fs_Zv a)) := by
  unfold fs_co fs_cl fs_va fs_abs fs_Zv
  dsimp only
  rw [Bool.xor_false]
  split
  · rfl
  · rw [b_xor, fs_sh1 ha]
/-- the reference's elimination before column c -/
def fs_Eq (n a : Nat) (kp : Nat → fs_Q) (c : Nat) (us : Nat → Bool) (rw : Nat → fs_Q) (md : fs_Q) : Prop :=
  (∀ i, i < n → fs_sq n (rw i)) ∧ fs_sq n md ∧ fs_El n (fs_Sp n (fun i => fs_io (fs_abs (kp i)))) (fs_Zv a) c us (fun i => fs_io (fs_abs (rw i))) (fs_io (fs_abs md))
theorem fs_Eq_0 {n a : Nat} {kp pn rw : Nat → fs_Q} {us : Nat → Bool} (T : fs_Tw n kp pn rw) (ha : a < n) (h : ∀ i, i < n → bt (kp i).1 a = false) (hu : ∀ i, i < n → us i = false) : fs_Eq n a kp 0 us rw (0, 0, 0, 0) := by
  refine ⟨fun i hi => (T.1 i hi).2.2, ⟨by rw [fs_abs_0]; exact fs_su_0, fs_01_0⟩, ?_⟩
  rw [fs_abs_0]
  exact fs_Sim_el0 T.2 ha h hu
theorem fs_Eq_no {n a c : Nat} {kp rw : Nat → fs_Q} {us : Nat → Bool} {md : fs_Q} (E : fs_Eq n a kp c us rw md) (h : ∀ i, i < n → us i = false → fs_co (rw i).1 (rw i).2.1 c = false) : fs_Eq n a kp (c + 1) us rw md :=
  ⟨E.1, E.2.1, (fs_El_no E.2.2 h).1⟩
theorem fs_Eq_yes {n a c p : Nat} {kp pn rw0 rw rw' : Nat → fs_Q} {us us' : Nat → Bool} {md md' : fs_Q} (T : fs_Tw n kp pn rw0) (ha : a < n) (E : fs_Eq n a kp c us rw md) (hp : p < n) (hup : us p = false) (hpc : fs_co (rw p).1 (rw p).2.1 c = true)
    (hr : ∀ i, i < n → rw' i = if us i = false ∧ i ≠ p ∧ fs_co (rw i).1 (rw i).2.1 c = true then fs_ml n (rw i) (rw p) else rw i) (hu : ∀ i, i < n → us' i = fs_up us p true i)
    (hm : md' = if fs_co md.1 (md.2.1 ^^^ (1 <<< (nI a &&& 31))) c = true then fs_ml n md (rw p) else md) : fs_Eq n a kp (c + 1) us' rw' md' := by
  have hn := fs_Tw_n T
  obtain ⟨E1, E2, E3⟩ := E
  have er : ∀ i, i < n → fs_abs (rw' i) = fs_er us (fun i => fs_abs (rw i)) p c i ∧ fs_sq n (rw' i) := by
    intro i hi
    rw [hr i hi]
    unfold fs_er
    by_cases q : us i = false ∧ i ≠ p ∧ fs_co (rw i).1 (rw i).2.1 c = true
    · rw [if_pos q, if_pos (show us i = false ∧ i ≠ p ∧ fs_cl c (fs_abs (rw i)).1 = true from q)]
      have := fs_ml_abs hn (E1 i hi).2 (E1 p hp)
      exact ⟨this.1, by rw [this.1, fs_rm_v]; exact fs_su_a (E1 i hi).1 (E1 p hp).1, this.2⟩
    · rw [if_neg q, if_neg (show ¬ (us i = false ∧ i ≠ p ∧ fs_cl c (fs_abs (rw i)).1 = true) from q)]; exact ⟨rfl, E1 i hi⟩
  have em : fs_abs md' = (if fs_cl c (fs_va (fs_abs md).1 (fs_Zv a)) = true then fs_rm (fs_abs (rw p)) (fs_abs md) else fs_abs md) ∧ fs_sq n md' := by
    rw [hm, fs_coZ (by omega)]
    split
    · have := fs_ml_abs hn E2.2 (E1 p hp)
      exact ⟨this.1, by rw [this.1, fs_rm_v]; exact fs_su_a E2.1 (E1 p hp).1, this.2⟩
    · exact ⟨rfl, E2⟩
  exact ⟨fun i hi => (er i hi).2, em.2, fs_El_step T.2.1.2.1 T.2.1.2.2.1 E3 hp hup hpc (fun i hi => (er i hi).1) hu em.1⟩
theorem fs_Eq_end {n a : Nat} {kp pn rw rw' : Nat → fs_Q} {us : Nat → Bool} {md : fs_Q} (T : fs_Tw n kp pn rw) (ha : a < n) (h : ∀ i, i < n → bt (kp i).1 a = false) (E : fs_Eq n a kp 20 us rw' md) :
    fs_Tw n kp pn rw' ∧ md.2.2.1 = (fs_zk kp pn a n).2.2.1 ∧ md.2.2.2 = (fs_zk kp pn a n).2.2.2 := by
  obtain ⟨E1, E2, E3⟩ := E
  obtain ⟨z1, z2⟩ := fs_zk_abs (a := a) T n (Nat.le_refl n)
  obtain ⟨s1, s2⟩ := fs_Sim_told (md := fs_abs md) T.2 ha h E3
  have e := s2.trans z1.symm
  have e1 : bt md.2.2.1 0 = bt (fs_zk kp pn a n).2.2.1 0 := congrArg (fun r : fs_R => r.2.1) e
  have e2 : md.2.2.2 = (fs_zk kp pn a n).2.2.2 := congrArg (fun r : fs_R => r.2.2) e
  refine ⟨⟨fun i hi => ⟨(T.1 i hi).1, (T.1 i hi).2.1, E1 i hi⟩, s1⟩, ?_, e2⟩
  have a1 : md.2.2.1 = fs_b (bt md.2.2.1 0) := E2.2
  have a2 : (fs_zk kp pn a n).2.2.1 = fs_b (bt (fs_zk kp pn a n).2.2.1 0) := z2.2
  rw [a1, a2, e1]
end
section
-- what the reference's playAll does, as a relation: any pivot will do
/-- a random look: rows rw become rw' -/
def fs_kR (n a : Nat) (num : Int64) (rw rw' : Nat → fs_Q) : Prop :=
  ∃ q, q < n ∧ bt (rw q).1 a = true ∧ ∀ i, i < n → rw' i = if i = q then ((0, 1 <<< (nI a &&& 31), 0, num) : fs_Q) else if bt (rw i).1 a = true then fs_ml n (rw i) (rw q) else rw i
def fs_kE (n a : Nat) (rw0 : Nat → fs_Q) : Nat → (Nat → Bool) → (Nat → fs_Q) → fs_Q → Prop
  | 0, us, rw, md => (∀ i, i < n → us i = false) ∧ (∀ i, i < n → rw i = rw0 i) ∧ md = (0, 0, 0, 0)
  | c + 1, us', rw', md' => ∃ (us : Nat → Bool) (rw : Nat → fs_Q) (md : fs_Q), fs_kE n a rw0 c us rw md ∧
      (((∀ i, i < n → us i = false → fs_co (rw i).1 (rw i).2.1 c = false) ∧ (∀ i, i < n → us' i = us i) ∧ (∀ i, i < n → rw' i = rw i) ∧ md' = md) ∨
       ∃ p, p < n ∧ us p = false ∧ fs_co (rw p).1 (rw p).2.1 c = true ∧ (∀ i, i < n → rw' i = if us i = false ∧ i ≠ p ∧ fs_co (rw i).1 (rw i).2.1 c = true then fs_ml n (rw i) (rw p) else rw i) ∧ (∀ i, i < n → us' i = fs_up us p true i) ∧
         md' = if fs_co md.1 (md.2.1 ^^^ (1 <<< (nI a &&& 31))) c = true then fs_ml n md (rw p) else md)
/-- a look: rows, and what the look tells -/
def fs_kL (n a : Nat) (num : Int64) (rw rw' : Nat → fs_Q) (c : Int32) (h : Int64) : Prop :=
  (fs_kR n a num rw rw' ∧ c = 0 ∧ h = num) ∨ ((∀ i, i < n → bt (rw i).1 a = false) ∧ ∃ (us : Nat → Bool) (md : fs_Q), fs_kE n a rw 20 us rw' md ∧ c = md.2.2.1 ∧ h = md.2.2.2)
theorem fs_Eq_congr {n a c : Nat} {kp rw rw' : Nat → fs_Q} {us us' : Nat → Bool} {md : fs_Q} (E : fs_Eq n a kp c us rw md) (hu : ∀ i, i < n → us' i = us i) (hr : ∀ i, i < n → rw' i = rw i) : fs_Eq n a kp c us' rw' md := by
  obtain ⟨E1, E2, E3⟩ := E
  exact ⟨fun i hi => by rw [hr i hi]; exact E1 i hi, E2, fs_El_congr E3 (fun i hi => by show fs_io (fs_abs (rw' i)) = _; rw [hr i hi]) hu⟩
theorem fs_kE_Eq {n a : Nat} {kp pn rw0 : Nat → fs_Q} (T : fs_Tw n kp pn rw0) (ha : a < n) (h : ∀ i, i < n → bt (kp i).1 a = false) : ∀ (c : Nat) (us : Nat → Bool) (rw : Nat → fs_Q) (md : fs_Q), fs_kE n a rw0 c us rw md → fs_Eq n a kp c us rw md := by
  intro c
  induction c with
  | zero =>
    rintro us rw md ⟨h1, h2, h3⟩
    rw [h3]
    exact fs_Eq_congr (fs_Eq_0 (us := us) T ha h h1) (fun _ _ => rfl) h2
  | succ c ih =>
    rintro us' rw' md' ⟨us, rw, md, h1, h2⟩
    have E := ih us rw md h1
    rcases h2 with ⟨g1, g2, g3, g4⟩ | ⟨p, g1, g2, g3, g4, g5, g6⟩
    · rw [g4]
      exact fs_Eq_congr (fs_Eq_no E g1) g2 g3
    · exact fs_Eq_yes T ha E g1 g2 g3 g4 g5 g6
/-- what the class does at a look -/
def fs_cL (n a : Nat) (num : Int64) (kp pn kp' pn' : Nat → fs_Q) (c : Int32) (h : Int64) : Prop :=
  (∃ p, p < n ∧ bt (kp p).1 a = true ∧ (∀ i, i < n → kp' i = if i = p then ((0, 1 <<< (nI a &&& 31), 0, num) : fs_Q) else if bt (kp i).1 a = true then fs_mb (kp i) (kp p) else kp i) ∧ (∀ i, i < n → pn' i = if i = p then kp p else if bt (pn i).1 a = true then fs_mb (pn i) (kp p) else pn i) ∧ c = 0 ∧ h = num) ∨
  ((∀ i, i < n → bt (kp i).1 a = false) ∧ (∀ i, i < n → kp' i = kp i) ∧ (∀ i, i < n → pn' i = pn i) ∧ c = (fs_zk kp pn a n).2.2.1 ∧ h = (fs_zk kp pn a n).2.2.2)
theorem fs_Tw_congr {n : Nat} {kp pn rw kp' pn' rw' : Nat → fs_Q} (T : fs_Tw n kp pn rw) (hk : ∀ i, i < n → kp' i = kp i) (hp : ∀ i, i < n → pn' i = pn i) (hr : ∀ i, i < n → rw' i = rw i) : fs_Tw n kp' pn' rw' := by
  obtain ⟨T1, T2, T3⟩ := T
  refine ⟨fun i hi => by rw [hk i hi, hp i hi, hr i hi]; exact T1 i hi, fs_Tab_congr T2 (fun i hi => by show fs_io (fs_abs (kp' i)) = _; rw [hk i hi]) (fun i hi => by show fs_vv (pn' i) = _; rw [hp i hi]), fun g => ?_⟩
  rw [fs_Sp_congr (R := fun i => fs_io (fs_abs (rw' i))) (R' := fun i => fs_io (fs_abs (rw i))) (fun i hi => by show fs_io (fs_abs (rw' i)) = _; rw [hr i hi]) g,
    fs_Sp_congr (R := fun i => fs_io (fs_abs (kp' i))) (R' := fun i => fs_io (fs_abs (kp i))) (fun i hi => by show fs_io (fs_abs (kp' i)) = _; rw [hk i hi]) g]
  exact T3 g
/-- A LOOK: both tell the same, and go on alike -/
theorem fs_look {n a : Nat} {num : Int64} {kp pn rw kp' pn' rw' : Nat → fs_Q} {c c' : Int32} {h h' : Int64} (T : fs_Tw n kp pn rw) (ha : a < n) (C : fs_cL n a num kp pn kp' pn' c h) (K : fs_kL n a num rw rw' c' h') : fs_Tw n kp' pn' rw' ∧ c' = c ∧ h' = h ∧ fs_01 c := by
  rcases C with ⟨p, p1, p2, p3, p4, p5, p6⟩ | ⟨g1, g2, g3, g4, g5⟩
  · rcases K with ⟨⟨q, q1, q2, q3⟩, q4, q5⟩ | ⟨q1, -⟩
    · exact ⟨fs_Tw_rand T ha p1 q1 p2 q2 p3 p4 q3, by rw [p5, q4], by rw [p6, q5], by rw [p5]; exact fs_01_0⟩
    · have := (fs_Tw_any T ha).mpr q1 p p1
      rw [p2] at this
      cases this
  · rcases K with ⟨⟨q, q1, q2, q3⟩, q4, q5⟩ | ⟨q1, us, md, q2, q3, q4⟩
    · have := (fs_Tw_any T ha).mp g1 q q1
      rw [q2] at this
      cases this
    · obtain ⟨e1, e2, e3⟩ := fs_Eq_end T ha g1 (fs_kE_Eq T ha g1 20 us rw' md q2)
      refine ⟨fs_Tw_congr e1 g2 g3 (fun _ _ => rfl), by rw [q3, g4, e2], by rw [q4, g5, e3], ?_⟩
      rw [g4]
      exact (fs_zk_abs (a := a) T n (Nat.le_refl n)).2.2
-- the acts: kinds kd, wires on, others ot
def fs_kS (n : Nat) (k a o : Int32) (rw : Nat → fs_Q) (ls : Nat → Int32) (lh : Nat → Int64) (rw' : Nat → fs_Q) (ls' : Nat → Int32) (lh' : Nat → Int64) : Prop :=
  (∃ κ α : Nat, κ ≤ 6 ∧ k = nI κ ∧ a = nI α ∧ α < n ∧ (∀ i, i < n → rw' i = fs_gd (rw i) k a o) ∧ ls' = ls ∧ lh' = lh) ∨
  (∃ α j : Nat, (k = 7 ∨ k = 8) ∧ a = nI α ∧ α < n ∧ j < 60 ∧ o = nI j ∧ ∃ (rw1 : Nat → fs_Q) (c : Int32) (h : Int64), fs_kL n α (1 <<< (o.toInt64 &&& 63)) rw rw1 c h ∧ ls' = upd ls j c ∧ lh' = vp_updL lh j h ∧
     ((k = 7 ∧ ∀ i, i < n → rw' i = rw1 i) ∨ (k = 8 ∧ ∀ i, i < n → rw' i = if bt (rw1 i).2.1 α = true then fs_fl (rw1 i) c h else rw1 i))) ∨
  (k = 9 ∧ (∀ i, i < n → rw' i = rw i) ∧ ls' = ls ∧ lh' = lh)
def fs_kP (n : Nat) (kd on ot : Nat → Int32) : Nat → (Nat → fs_Q) → (Nat → Int32) → (Nat → Int64) → Prop
  | 0, rw, _, _ => ∀ i, i < n → rw i = ((0, 1 <<< (nI i &&& 31), 0, 0) : fs_Q)
  | k + 1, rw', ls', lh' => ∃ (rw : Nat → fs_Q) (ls : Nat → Int32) (lh : Nat → Int64), fs_kP n kd on ot k rw ls lh ∧ fs_kS n (kd k) (on k) (ot k) rw ls lh rw' ls' lh'
theorem fs_kP_congr {n : Nat} {kd on ot kd' on' ot' : Nat → Int32} : ∀ (m : Nat), (∀ k, k < m → kd' k = kd k ∧ on' k = on k ∧ ot' k = ot k) → ∀ (rw : Nat → fs_Q) (ls : Nat → Int32) (lh : Nat → Int64), fs_kP n kd' on' ot' m rw ls lh → fs_kP n kd on ot m rw ls lh := by
  intro m
  induction m with
  | zero => intro _ rw ls lh h; exact h
  | succ m ih =>
    rintro he rw' ls' lh' ⟨rw, ls, lh, h1, h2⟩
    obtain ⟨e1, e2, e3⟩ := he m (by omega)
    rw [e1, e2, e3] at h2
    exact ⟨rw, ls, lh, ih (fun k hk => he k (by omega)) rw ls lh h1, h2⟩
/-- the class's keepers, partners and outcomes, against any playing of the reference -/
def fs_RP (n : Nat) (kd on ot : Nat → Int32) (m L : Nat) (kp pn : Nat → fs_Q) (lc : Nat → Int32) (lr : Nat → Int64) : Prop :=
  n ≤ 10 ∧ ∀ (rw : Nat → fs_Q) (ls : Nat → Int32) (lh : Nat → Int64), fs_kP n kd on ot m rw ls lh → fs_Tw n kp pn rw ∧ ∀ i, i < L → ls i = lc i ∧ lh i = lr i
theorem fs_RP_0 {n : Nat} (hn : n ≤ 10) {kd on ot : Nat → Int32} {kp pn : Nat → fs_Q} {lc : Nat → Int32} {lr : Nat → Int64} (hk : ∀ i, i < n → kp i = ((0, 1 <<< (nI i &&& 31), 0, 0) : fs_Q)) (hp : ∀ i, i < n → pn i = ((1 <<< (nI i &&& 31), 0, 0, 0) : fs_Q)) : fs_RP n kd on ot 0 0 kp pn lc lr :=
  ⟨hn, fun rw ls lh h => ⟨fs_Tw_0 hn hk hp h, fun i hi => absurd hi (Nat.not_lt_zero i)⟩⟩
theorem fs_nI9 : ∀ κ : Nat, κ ≤ 6 → ¬ nI κ = 7 ∧ ¬ nI κ = 8 ∧ ¬ nI κ = 9 := by
  intro κ h
  exact fs_kind7 (P := fun κ => ¬ nI κ = 7 ∧ ¬ nI κ = 8 ∧ ¬ nI κ = 9) (by decide) (by decide) (by decide) (by decide) (by decide) (by decide) (by decide) h
theorem fs_nI_inj10 {a b : Nat} (ha : a < 2 ^ 31) (hb : b < 2 ^ 31) (h : nI a = nI b) : a = b := (nI_eq ha hb).mp h
/-- a gate more -/
theorem fs_RP_gate {n m L κ α β : Nat} {o : Int32} {kd on ot kd' on' ot' : Nat → Int32} {kp pn kp' pn' : Nat → fs_Q} {lc : Nat → Int32} {lr : Nat → Int64} (R : fs_RP n kd on ot m L kp pn lc lr) (hg : fs_okg n κ α β) (ho : 2 ≤ κ → κ ≤ 4 → o = nI β)
    (he : ∀ k, k < m → kd' k = kd k ∧ on' k = on k ∧ ot' k = ot k) (h1 : kd' m = nI κ) (h2 : on' m = nI α) (h3 : ot' m = o) (hk : ∀ i, i < n → kp' i = fs_ps (kp i) (nI κ) (nI α) o) (hp : ∀ i, i < n → pn' i = fs_ps (pn i) (nI κ) (nI α) o) : fs_RP n kd' on' ot' (m + 1) L kp' pn' lc lr := by
  obtain ⟨hn, R⟩ := R
  refine ⟨hn, ?_⟩
  rintro rw' ls' lh' ⟨rw, ls, lh, g1, g2⟩
  obtain ⟨T, hL⟩ := R rw ls lh (fs_kP_congr m he rw ls lh g1)
  rw [h1, h2, h3] at g2
  obtain ⟨n7, n8, n9⟩ := fs_nI9 κ hg.1
  rcases g2 with ⟨κ2, α2, -, -, -, -, g3, g4, g5⟩ | ⟨-, -, g3, -⟩ | ⟨g3, -⟩
  · rw [g4, g5]
    exact ⟨fs_Tw_gate T hg ho hk hp g3, hL⟩
  · rcases g3 with q | q
    · exact absurd q n7
    · exact absurd q n8
  · exact absurd g3 n9
/-- a fault more -/
theorem fs_RP_fault {n m L : Nat} {kd on ot kd' on' ot' : Nat → Int32} {kp pn : Nat → fs_Q} {lc : Nat → Int32} {lr : Nat → Int64} (R : fs_RP n kd on ot m L kp pn lc lr)
    (he : ∀ k, k < m → kd' k = kd k ∧ on' k = on k ∧ ot' k = ot k) (h1 : kd' m = 9) : fs_RP n kd' on' ot' (m + 1) L kp pn lc lr := by
  obtain ⟨hn, R⟩ := R
  refine ⟨hn, ?_⟩
  rintro rw' ls' lh' ⟨rw, ls, lh, g1, g2⟩
  obtain ⟨T, hL⟩ := R rw ls lh (fs_kP_congr m he rw ls lh g1)
  rw [h1] at g2
  rcases g2 with ⟨κ2, α2, g0, g3, -⟩ | ⟨-, -, g3, -⟩ | ⟨-, g4, g5, g6⟩
  · exact absurd g3.symm (fs_nI9 κ2 g0).2.2
  · rcases g3 with q | q
    · exact absurd q (by decide)
    · exact absurd q (by decide)
  · rw [g5, g6]
    exact ⟨fs_Tw_congr T (fun _ _ => rfl) (fun _ _ => rfl) g4, hL⟩
/-- a look more -/
theorem fs_RP_look {n m L α : Nat} {rs : Bool} {kd on ot kd' on' ot' : Nat → Int32} {kp pn kp1 kp' pn' : Nat → fs_Q} {lc lc' : Nat → Int32} {lr lr' : Nat → Int64} {c : Int32} {h : Int64} (R : fs_RP n kd on ot m L kp pn lc lr) (ha : α < n) (hL : L < 60)
    (he : ∀ k, k < m → kd' k = kd k ∧ on' k = on k ∧ ot' k = ot k) (h1 : kd' m = if rs = true then 8 else 7) (h2 : on' m = nI α) (h3 : ot' m = nI L)
    (C : fs_cL n α (1 <<< ((nI L).toInt64 &&& 63)) kp pn kp1 pn' c h) (hc : ∀ i, i < n → kp' i = if rs = true ∧ bt (kp1 i).2.1 α = true then fs_fl (kp1 i) c h else kp1 i)
    (hlc : ∀ i, i < L → lc' i = lc i) (hlr : ∀ i, i < L → lr' i = lr i) (hlc1 : lc' L = c) (hlr1 : lr' L = h) : fs_RP n kd' on' ot' (m + 1) (L + 1) kp' pn' lc' lr' := by
  obtain ⟨hn, R⟩ := R
  refine ⟨hn, ?_⟩
  rintro rw' ls' lh' ⟨rw, ls, lh, g1, g2⟩
  obtain ⟨T, hLs⟩ := R rw ls lh (fs_kP_congr m he rw ls lh g1)
  rw [h1, h2, h3] at g2
  rcases g2 with ⟨κ2, α2, g0, g3, -⟩ | ⟨α2, j, g3, g4, g5, g6, g7, rw1, c2, h4, g8, g9, g10, g11⟩ | ⟨g3, -⟩
  · obtain ⟨n7, n8, -⟩ := fs_nI9 κ2 g0
    cases rs with
    | true => exact absurd g3.symm n8
    | false => exact absurd g3.symm n7
  · have ea : α2 = α := fs_nI_inj10 (by omega) (by omega) g4.symm
    have ej : j = L := fs_nI_inj10 (by omega) (by omega) g7.symm
    subst ea; subst ej
    obtain ⟨T2, e1, e2, e3⟩ := fs_look T ha C g8
    subst e1; subst e2
    refine ⟨?_, fun i hi => ?_⟩
    · cases rs with
      | true =>
        rcases g11 with ⟨q, -⟩ | ⟨-, q⟩
        · exact absurd q (by decide)
        · have e3' : c2 = fs_b (bt c2 0) := e3
          rw [e3'] at q hc
          refine fs_Tw_reset (a := α2) (c := bt c2 0) (r := h4) T2 (fun i hi => ?_) q
          rw [hc i hi]
          simp only [true_and]
      | false =>
        rcases g11 with ⟨-, q⟩ | ⟨q, -⟩
        · exact fs_Tw_congr T2 (fun i hi => by rw [hc i hi, if_neg (fun z => absurd z.1 (by decide))]) (fun _ _ => rfl) q
        · exact absurd q (by decide)
    · rw [g9, g10]
      rcases Nat.lt_or_ge i j with q | q
      · rw [pk_un (by omega), pk_uLn (by omega), hlc i q, hlr i q]
        exact hLs i q
      · have : i = j := by omega
        subst this
        rw [pk_us, pk_uLs]
        exact ⟨hlc1.symm, hlr1.symm⟩
  · cases rs with
    | true => exact absurd g3 (by decide)
    | false => exact absurd g3 (by decide)
end
section
-- longs by their bits
def bl (x : Int64) (i : Nat) : Bool := x.toBitVec.getLsbD i
theorem bl_ext {x y : Int64} (h : ∀ i, i < 64 → bl x i = bl y i) : x = y := Int64.toBitVec_inj.mp (BitVec.eq_of_getLsbD_eq (fun i hi => h i hi))
theorem bl_or (x y : Int64) (i : Nat) : bl (x ||| y) i = (bl x i || bl y i) := by unfold bl; rw [Int64.toBitVec_or, BitVec.getLsbD_or]
theorem bl_and (x y : Int64) (i : Nat) : bl (x &&& y) i = (bl x i && bl y i) := by unfold bl; rw [Int64.toBitVec_and, BitVec.getLsbD_and]
theorem bl_xor (x y : Int64) (i : Nat) : bl (x ^^^ y) i = (bl x i ^^ bl y i) := by unfold bl; rw [Int64.toBitVec_xor, BitVec.getLsbD_xor]
theorem bl_big {x : Int64} {i : Nat} (h : 64 ≤ i) : bl x i = false := BitVec.getLsbD_of_ge _ _ h
theorem bl_0 (i : Nat) : bl 0 i = false := BitVec.getLsbD_zero
theorem bl_1 : ∀ i, i < 64 → bl 1 i = decide (i = 0) := by decide +kernel
theorem sl_l : ∀ n, n < 64 → (((nI n).toInt64 &&& 63).toBitVec.smod 64).toNat = n := by decide +kernel
theorem sl_u : ∀ n, n < 64 → (((nI n).toInt64.toUInt64 &&& Int64.toUInt64 63).toBitVec % 64).toNat = n := by decide +kernel
theorem bl_shl {n : Nat} (hn : n < 64) (x : Int64) {i : Nat} (hi : i < 64) : bl (x <<< ((nI n).toInt64 &&& 63)) i = (decide (n ≤ i) && bl x (i - n)) := by
  unfold bl
  rw [Int64.toBitVec_shiftLeft]
  show (x.toBitVec <<< (((nI n).toInt64 &&& 63).toBitVec.smod 64).toNat).getLsbD i = _
  rw [sl_l n hn, BitVec.getLsbD_shiftLeft]
  rcases Nat.lt_or_ge i n with h | h
  · simp [h, Nat.not_le.mpr h]
  · simp [hi, h, Nat.not_lt.mpr h]
def fs_ushl (x : Int64) (y : Int32) : Int64 := (x.toUInt64 >>> (y.toInt64.toUInt64 &&& Int64.toUInt64 63)).toInt64
theorem bl_ushr {n : Nat} (hn : n < 64) (x : Int64) (i : Nat) : bl (fs_ushl x (nI n)) i = bl x (n + i) := by
  show (x.toUInt64 >>> ((nI n).toInt64.toUInt64 &&& Int64.toUInt64 63)).toBitVec.getLsbD i = x.toUInt64.toBitVec.getLsbD (n + i)
  rw [UInt64.toBitVec_shiftRight]
  show (x.toUInt64.toBitVec >>> (((nI n).toInt64.toUInt64 &&& Int64.toUInt64 63).toBitVec % 64).toNat).getLsbD i = _
  rw [sl_u n hn, BitVec.getLsbD_ushiftRight]
theorem bl_sshr {n : Nat} (hn : n < 64) (x : Int64) {i : Nat} (hi : i < 64) : bl (x >>> ((nI n).toInt64 &&& 63)) i = if n + i < 64 then bl x (n + i) else bl x 63 := by
  unfold bl
  rw [Int64.toBitVec_shiftRight]
  show (x.toBitVec.sshiftRight (((nI n).toInt64 &&& 63).toBitVec.smod 64).toNat).getLsbD i = _
  rw [sl_l n hn, BitVec.getLsbD_sshiftRight, BitVec.msb_eq_getLsbD_last]
  simp [hi]
def fs_bL (b : Bool) : Int64 := bif b then 1 else 0
theorem fs_bL_bit : ∀ b : Bool, ∀ i, i < 64 → bl (fs_bL b) i = (decide (i = 0) && b) := by decide +kernel
theorem fs_bL_eq0 : ∀ b : Bool, fs_bL b = 0 ↔ b = false := by decide
theorem fs_bL_eq1 : ∀ b : Bool, fs_bL b = 1 ↔ b = true := by decide
theorem fs_b_L : ∀ b : Bool, (fs_b b).toInt64 = fs_bL b := by decide
theorem fs_andL1 (x : Int64) : x &&& 1 = fs_bL (bl x 0) := by
  refine bl_ext fun i hi => ?_
  rw [bl_and, bl_1 i hi, fs_bL_bit _ i hi]
  by_cases h : i = 0
  · subst h; simp
  · simp [h]
theorem fs_onUL {a : Nat} (ha : a < 64) (x : Int64) : fs_ushl x (nI a) &&& 1 = fs_bL (bl x a) := by
  rw [fs_andL1, bl_ushr ha]
  rfl
theorem fs_onSL {a : Nat} (ha : a < 64) (x : Int64) : (x >>> ((nI a).toInt64 &&& 63)) &&& 1 = fs_bL (bl x a) := by
  rw [fs_andL1, bl_sshr ha x (by omega), if_pos (by omega)]
  rfl
theorem fs_shL {a : Nat} (ha : a < 64) (b : Bool) (i : Nat) : bl (fs_bL b <<< ((nI a).toInt64 &&& 63)) i = (decide (i = a) && b) := by
  rcases Nat.lt_or_ge i 64 with h | h
  · rw [bl_shl ha _ h]
    by_cases q : a ≤ i
    · rw [fs_bL_bit b _ (by omega)]
      by_cases q2 : i = a
      · subst q2; simp
      · have : ¬ i - a = 0 := by omega
        simp [q, q2, this]
    · have : ¬ i = a := by omega
      simp [q, this]
  · have : ¬ i = a := by omega
    rw [bl_big h]; simp [this]
theorem fs_shL1 {a : Nat} (ha : a < 64) (i : Nat) : bl (1 <<< ((nI a).toInt64 &&& 63)) i = decide (i = a) := by
  have := fs_shL ha true i
  rw [Bool.and_true] at this
  exact this
/-- a set lies below n -/
def fs_lt (x : Int64) (n : Nat) : Prop := ∀ i, n ≤ i → bl x i = false
theorem fs_lt_ushr {n : Nat} (hn : n < 64) (x : Int64) : fs_ushl x (nI n) = 0 ↔ fs_lt x n := by
  constructor
  · intro h i hi
    have := bl_ushr hn x (i - n)
    rw [h, bl_0, show n + (i - n) = i by omega] at this
    exact this.symm
  · intro h
    refine bl_ext fun i _ => ?_
    rw [bl_ushr hn, h _ (by omega), bl_0]
theorem fs_neg_bit (x : Int64) : x < 0 ↔ bl x 63 = true := by
  unfold bl
  rw [Int64.lt_iff_toInt_lt, Int64.toInt_zero]
  show x.toBitVec.toInt < 0 ↔ _
  rw [BitVec.toInt_neg_iff, ← BitVec.msb_eq_getLsbD_last (w := 64), BitVec.msb_eq_decide]
  simp
  omega
theorem fs_isSet {n : Nat} (hn : n < 64) (x : Int64) : (0 ≤ x ∧ fs_ushl x (nI n) = 0) ↔ fs_lt x n := by
  rw [fs_lt_ushr hn]
  constructor
  · exact fun h => h.2
  · intro h
    refine ⟨?_, h⟩
    have : ¬ x < 0 := by rw [fs_neg_bit, h 63 (by omega)]; decide
    exact Int64.not_lt.mp this
-- the parity of a set
def fs_pa (x : Int64) : Bool := decide (fs_pc 64 x.toBitVec.toNat % 2 = 1)
theorem fs_bl_nat (x : Int64) (i : Nat) : bl x i = x.toBitVec.toNat.testBit i := rfl
/-- Long.bitCount -/
def fs_bcl (i : Int64) : Int32 :=
  let i1 := i - (fs_ushl i 1 &&& 6148914691236517205)
  let i2 := (i1 &&& 3689348814741910323) + (fs_ushl i1 2 &&& 3689348814741910323)
  let i3 := (i2 + fs_ushl i2 4) &&& 1085102592571150095
  let i4 := i3 + fs_ushl i3 8
  let i5 := i4 + fs_ushl i4 16
  let i6 := i5 + fs_ushl i5 32
  i6.toInt32 &&& 127
def fs_uN (x : Int64) : Nat := x.toBitVec.toNat
theorem fs_uN_lt (x : Int64) : fs_uN x < 2 ^ 64 := x.toBitVec.isLt
theorem fs_uN_sh {n : Nat} (hn : n < 64) (x : Int64) : fs_uN (fs_ushl x (nI n)) = fs_uN x / 2 ^ n := by
  show (x.toUInt64 >>> ((nI n).toInt64.toUInt64 &&& Int64.toUInt64 63)).toBitVec.toNat = _
  rw [UInt64.toBitVec_shiftRight]
  show (x.toUInt64.toBitVec >>> (((nI n).toInt64.toUInt64 &&& Int64.toUInt64 63).toBitVec % 64).toNat).toNat = _
  rw [sl_u n hn, BitVec.toNat_ushiftRight, Nat.shiftRight_eq_div_pow]
  rfl
theorem fs_uN_and (x y : Int64) : fs_uN (x &&& y) = fs_uN x &&& fs_uN y := by
  unfold fs_uN
  rw [Int64.toBitVec_and, BitVec.toNat_and]
theorem fs_uN_add {x y : Int64} (h : fs_uN x + fs_uN y < 2 ^ 64) : fs_uN (x + y) = fs_uN x + fs_uN y := by
  unfold fs_uN at *
  rw [Int64.toBitVec_add, BitVec.toNat_add, Nat.mod_eq_of_lt h]
theorem fs_uN_sub {x y : Int64} (h : fs_uN y ≤ fs_uN x) : fs_uN (x - y) = fs_uN x - fs_uN y := by
  have hx := fs_uN_lt x
  have hy := fs_uN_lt y
  unfold fs_uN at *
  rw [Int64.toBitVec_sub, BitVec.toNat_sub]
  omega
end
section
theorem fs_mm5 : fs_uN 6148914691236517205 = fs_rep 85 8 := by decide +kernel
theorem fs_m3' : fs_uN 3689348814741910323 = fs_rep 51 8 := by decide +kernel
theorem fs_mf : fs_uN 1085102592571150095 = fs_rep 15 8 := by decide +kernel
theorem fs_r3 : fs_rep 51 8 = 3689348814741910323 := by decide +kernel
theorem fs_bc1 (x : Int64) : fs_uN (x - (fs_ushl x 1 &&& 6148914691236517205)) = fs_t1 (fs_rep 85 8) (fs_uN x) := by
  have a : fs_uN (fs_ushl x 1 &&& 6148914691236517205) = fs_uN x / 2 &&& fs_rep 85 8 := by
    rw [fs_uN_and, show (1 : Int32) = nI 1 from rfl, fs_uN_sh (by omega), fs_mm5]
    try rfl
  have b : fs_uN x / 2 &&& fs_rep 85 8 ≤ fs_uN x := Nat.le_trans Nat.and_le_left (Nat.div_le_self _ _)
  rw [fs_uN_sub (by rw [a]; exact b), a]
  rfl
theorem fs_bc2l (n : Nat) : n &&& fs_rep 51 8 ≤ 3689348814741910323 := by rw [← fs_r3]; exact Nat.and_le_right
theorem fs_bc2 (y : Int64) : fs_uN ((y &&& 3689348814741910323) + (fs_ushl y 2 &&& 3689348814741910323)) = fs_t2 (fs_rep 51 8) (fs_uN y) := by
  have a : fs_uN (fs_ushl y 2 &&& 3689348814741910323) = fs_uN y / 4 &&& fs_rep 51 8 := by
    rw [fs_uN_and, show (2 : Int32) = nI 2 from rfl, fs_uN_sh (by omega), fs_m3']
  have b : fs_uN (y &&& 3689348814741910323) = fs_uN y &&& fs_rep 51 8 := by rw [fs_uN_and, fs_m3']
  have h1 := fs_bc2l (fs_uN y)
  have h2 := fs_bc2l (fs_uN y / 4)
  rw [fs_uN_add (by rw [a, b]; exact Nat.lt_of_le_of_lt (Nat.add_le_add h1 h2) (by decide)), a, b]
  rfl
theorem fs_bc2u (n : Nat) : fs_t2 (fs_rep 51 8) n ≤ 7378697629483820646 := Nat.add_le_add (fs_bc2l n) (fs_bc2l (n / 4))
theorem fs_bc3 {y : Int64} (h : fs_uN y ≤ 7378697629483820646) : fs_uN ((y + fs_ushl y 4) &&& 1085102592571150095) = fs_t3 (fs_rep 15 8) (fs_uN y) := by
  have a : fs_uN (fs_ushl y 4) = fs_uN y / 16 := by
    rw [show (4 : Int32) = nI 4 from rfl, fs_uN_sh (by omega)]
  rw [fs_uN_and, fs_uN_add (by rw [a]; omega), a, fs_mf]
  rfl
theorem fs_bcs {y : Int64} {k : Nat} (hk : k < 64) (h : fs_uN y + fs_uN y / 2 ^ k < 2 ^ 64) : fs_uN (y + fs_ushl y (nI k)) = fs_uN y + fs_uN y / 2 ^ k := by
  have a : fs_uN (fs_ushl y (nI k)) = fs_uN y / 2 ^ k := fs_uN_sh hk y
  rw [fs_uN_add (by rw [a]; exact h), a]
theorem fs_bce (i : Int64) : i.toInt32 &&& 127 = nI (fs_uN i % 128) := by
  have g : i.toInt32.toBitVec.toNat = fs_uN i % 2 ^ 32 := by
    rw [Int64.toBitVec_toInt32, BitVec.signExtend_eq_setWidth_of_le _ (by decide), BitVec.toNat_setWidth]
    rfl
  rw [pk_and i.toInt32 7 (by decide), g]
  congr 1
  omega
theorem fs_bcl_pc (x : Int64) : fs_bcl x = nI (fs_pc 64 (fs_uN x)) := by
  obtain ⟨p0, p1, p2, p3, p4, p5, p6, p7, hp, hb, hc⟩ := fs_bs8 (fs_uN x)
  have k2 := (fs_t12 8 (fs_uN x) (Nat.lt_of_lt_of_le (fs_uN_lt x) (by decide))).2
  unfold fs_bcl
  dsimp only
  have e1 := fs_bc1 x
  generalize x - (fs_ushl x 1 &&& 6148914691236517205) = i1 at e1 ⊢
  have e2 := fs_bc2 i1
  have u2 := fs_bc2u (fs_uN i1)
  rw [← e2] at u2
  generalize (i1 &&& 3689348814741910323) + (fs_ushl i1 2 &&& 3689348814741910323) = i2 at e2 u2 ⊢
  have e3 := fs_bc3 u2
  generalize (i2 + fs_ushl i2 4) &&& 1085102592571150095 = i3 at e3 ⊢
  rw [e2, e1, k2, hb] at e3
  clear k2 e1 e2 u2 hb
  obtain ⟨f1, f2, f3, f4⟩ := fs_fold hp e3 (i1 := fs_uN i3 + fs_uN i3 / 256) rfl rfl rfl
  clear hp e3
  have e4 : fs_uN (i3 + fs_ushl i3 8) = fs_uN i3 + fs_uN i3 / 256 := fs_bcs (k := 8) (by decide) f2
  rw [← e4] at f1 f3 f4
  clear f2 e4
  generalize i3 + fs_ushl i3 8 = i4 at *
  have e5 : fs_uN (i4 + fs_ushl i4 16) = fs_uN i4 + fs_uN i4 / 65536 := fs_bcs (k := 16) (by decide) f3
  rw [← e5] at f1 f4
  clear f3 e5
  generalize i4 + fs_ushl i4 16 = i5 at *
  have e6 : fs_uN (i5 + fs_ushl i5 32) = fs_uN i5 + fs_uN i5 / 4294967296 := fs_bcs (k := 32) (by decide) f4
  rw [← e6] at f1
  clear f4 e6
  generalize i5 + fs_ushl i5 32 = i6 at *
  rw [hc, ← f1]
  exact fs_bce i6
theorem fs_pa_class (x : Int64) : fs_bcl x &&& 1 = fs_b (fs_pa x) := by
  rw [fs_bcl_pc, pk_and (nI (fs_pc 64 (fs_uN x))) 1 (by decide), pk_tn (by have := fs_pc_le 64 (fs_uN x); omega)]
  unfold fs_pa fs_uN
  generalize fs_pc 64 x.toBitVec.toNat = k
  rw [show k % 2 ^ 1 = k % 2 from rfl]
  rcases (show k % 2 = 0 ∨ k % 2 = 1 by omega) with h | h
  · rw [h]; rfl
  · rw [h]; rfl
theorem fs_pa_congr {x y : Int64} (h : x = y) : fs_pa x = fs_pa y := by rw [h]
end
section
-- a fault on its way: the class's frame and the reference's goX, goZ, changed
abbrev fs_G : Type := Int32 × Int32 × Int64
def fs_go (k a o : Int32) (g : fs_G) : fs_G :=
  let x := fs_bi g.1 a
  let z := fs_bi g.2.1 a
  if k = 0 then (g.1 ^^^ ((x ^^^ z) <<< (a &&& 31)), g.2.1 ^^^ ((x ^^^ z) <<< (a &&& 31)), g.2.2)
  else if k = 1 then (g.1, g.2.1 ^^^ (x <<< (a &&& 31)), g.2.2)
  else if k = 2 then (g.1 ^^^ (x <<< (o &&& 31)), g.2.1 ^^^ (fs_bi g.2.1 o <<< (a &&& 31)), g.2.2)
  else if k = 3 then (g.1, g.2.1 ^^^ ((fs_bi g.1 o <<< (a &&& 31)) ||| (x <<< (o &&& 31))), g.2.2)
  else if k = 4 then (g.1 ^^^ (((x ^^^ fs_bi g.1 o) <<< (a &&& 31)) ||| ((x ^^^ fs_bi g.1 o) <<< (o &&& 31))), g.2.1 ^^^ (((z ^^^ fs_bi g.2.1 o) <<< (a &&& 31)) ||| ((z ^^^ fs_bi g.2.1 o) <<< (o &&& 31))), g.2.2)
  else if k = 7 ∨ k = 8 then (if k = 8 then g.1 &&& ((1 <<< (a &&& 31)) ^^^ (-1)) else g.1, g.2.1 &&& ((1 <<< (a &&& 31)) ^^^ (-1)), if x = 1 then g.2.2 ||| (1 <<< (o.toInt64 &&& 63)) else g.2.2)
  else g
theorem fs_go_gate {κ : Nat} (hκ : κ ≤ 6) (a o : Int32) (g : fs_G) : fs_go (nI κ) a o g = ((fs_gd (g.1, g.2.1, 0, 0) (nI κ) a o).1, (fs_gd (g.1, g.2.1, 0, 0) (nI κ) a o).2.1, g.2.2) :=
  fs_kind7 (P := fun κ => fs_go (nI κ) a o g = ((fs_gd (g.1, g.2.1, 0, 0) (nI κ) a o).1, (fs_gd (g.1, g.2.1, 0, 0) (nI κ) a o).2.1, g.2.2)) rfl rfl rfl rfl rfl rfl rfl hκ
theorem fs_go_fault (a o : Int32) (g : fs_G) : fs_go 9 a o g = g := rfl
theorem fs_go_look (rs : Bool) (a o : Int32) (g : fs_G) : fs_go (if rs = true then 8 else 7) a o g = (if rs = true then g.1 &&& ((1 <<< (a &&& 31)) ^^^ (-1)) else g.1, g.2.1 &&& ((1 <<< (a &&& 31)) ^^^ (-1)), if fs_bi g.1 a = 1 then g.2.2 ||| (1 <<< (o.toInt64 &&& 63)) else g.2.2) := by
  cases rs <;> rfl
/-- the frame at a look -/
def fs_mk (q : fs_Q) (a : Int32) (rs : Bool) : fs_Q := (if rs = true then q.1 &&& ((1 <<< (a &&& 31)) ^^^ (-1)) else q.1, q.2.1 &&& ((1 <<< (a &&& 31)) ^^^ (-1)), q.2.2.1, q.2.2.2)
def fs_FR (n L : Nat) (fr : fs_Q) (ch : Int64) (g : fs_G) : Prop := fs_sq n fr ∧ fs_vv fr = (bt g.1, bt g.2.1) ∧ ch = g.2.2 ∧ fs_lt ch L
theorem fs_FR_gate {n L κ α β : Nat} {o : Int32} {fr : fs_Q} {ch : Int64} {g : fs_G} (hn : n ≤ 10) (hg : fs_okg n κ α β) (ho : 2 ≤ κ → κ ≤ 4 → o = nI β) (F : fs_FR n L fr ch g) : fs_FR n L (fs_ps fr (nI κ) (nI α) o) ch (fs_go (nI κ) (nI α) o g) := by
  obtain ⟨f1, f2, f3, f4⟩ := F
  have e := fs_ps_abs hn hg ho f1.2
  have e2 := fs_gd_abs (q := (g.1, g.2.1, 0, 0)) hn hg ho fs_01_0
  refine ⟨fs_sq_gr hg f1 e, ?_, ?_, f4⟩
  · rw [fs_go_gate hg.1]
    show (fs_abs (fs_ps fr (nI κ) (nI α) o)).1 = (fs_abs (fs_gd (g.1, g.2.1, 0, 0) (nI κ) (nI α) o)).1
    rw [e.1, e2.1]
    show fs_ga κ α β (fs_vv fr) = fs_ga κ α β (bt g.1, bt g.2.1)
    rw [f2]
  · rw [fs_go_gate hg.1]; exact f3
theorem fs_FR_fault {n L : Nat} {fr : fs_Q} {ch : Int64} {g : fs_G} (F : fs_FR n L fr ch g) (a o : Int32) : fs_FR n L fr ch (fs_go 9 a o g) := F
theorem fs_su_out {n a : Nat} {f : Nat → Bool} (h : ∀ w, n ≤ w → f w = false) : ∀ w, n ≤ w → fs_up f a false w = false := fun w hw => by
  unfold fs_up
  split
  · rfl
  · exact h w hw
theorem fs_or0 (x : Int64) : x ||| 0 = x := bl_ext fun i _ => by rw [bl_or, bl_0, Bool.or_false]
theorem fs_sh0 {a : Nat} (ha : a < 64) : fs_bL false <<< ((nI a).toInt64 &&& 63) = 0 := bl_ext fun i _ => by rw [fs_shL ha, Bool.and_false, bl_0]
theorem fs_FR_look {n L α : Nat} {rs : Bool} {fr : fs_Q} {ch : Int64} {g : fs_G} (hn : n ≤ 10) (ha : α < n) (hL : L < 60) (F : fs_FR n L fr ch g) :
    fs_FR n (L + 1) (fs_mk fr (nI α) rs) (ch ||| ((fs_xOn fr (nI α)).toInt64 <<< ((nI L).toInt64 &&& 63))) (fs_go (if rs = true then 8 else 7) (nI α) (nI L) g) := by
  obtain ⟨⟨f0, f1⟩, f2, f3, f4⟩ := F
  have ha' : α < 32 := by omega
  have v1 : bt fr.1 = bt g.1 := congrArg Prod.fst f2
  have v2 : bt fr.2.1 = bt g.2.1 := congrArg Prod.snd f2
  have s1 : ∀ w, n ≤ w → bt fr.1 w = false := fun w hw => (f0 w hw).1
  have s2 : ∀ w, n ≤ w → bt fr.2.1 w = false := fun w hw => (f0 w hw).2
  have ec : (ch ||| ((fs_xOn fr (nI α)).toInt64 <<< ((nI L).toInt64 &&& 63))) = if fs_bi g.1 (nI α) = 1 then g.2.2 ||| (1 <<< ((nI L).toInt64 &&& 63)) else g.2.2 := by
    rw [fs_xOn_b ha', fs_bi_b ha', show (fs_abs fr).1.1 α = bt g.1 α from congrFun v1 α, fs_b_L, f3]
    cases hb : bt g.1 α with
    | true => rw [if_pos (show fs_b true = 1 by decide)]; rfl
    | false => rw [if_neg (by decide), fs_sh0 (by omega), fs_or0]
  rw [fs_go_look]
  refine ⟨⟨?_, f1⟩, ?_, ec, ?_⟩
  · refine fs_su_i ?_ ?_
    · show ∀ w, n ≤ w → bt (if rs = true then fr.1 &&& ((1 <<< (nI α &&& 31)) ^^^ (-1)) else fr.1) w = false
      split
      · rw [fs_out ha']; exact fs_su_out s1
      · exact s1
    · show ∀ w, n ≤ w → bt (fr.2.1 &&& ((1 <<< (nI α &&& 31)) ^^^ (-1))) w = false
      rw [fs_out ha']; exact fs_su_out s2
  · refine Prod.ext ?_ ?_
    · show bt (if rs = true then fr.1 &&& ((1 <<< (nI α &&& 31)) ^^^ (-1)) else fr.1) = bt (if rs = true then g.1 &&& ((1 <<< (nI α &&& 31)) ^^^ (-1)) else g.1)
      split
      · rw [fs_out ha', fs_out ha', v1]
      · exact v1
    · show bt (fr.2.1 &&& ((1 <<< (nI α &&& 31)) ^^^ (-1))) = bt (g.2.1 &&& ((1 <<< (nI α &&& 31)) ^^^ (-1)))
      rw [fs_out ha', fs_out ha', v2]
  · intro i hi
    rw [bl_or, f4 i (by omega), Bool.false_or, fs_xOn_b ha', fs_b_L, fs_shL (by omega), decide_eq_false (by omega), Bool.false_and]
theorem fs_FR_up {n L L' : Nat} {fr : fs_Q} {ch : Int64} {g : fs_G} (F : fs_FR n L fr ch g) (h : L ≤ L') : fs_FR n L' fr ch g := ⟨F.1, F.2.1, F.2.2.1, fun i hi => F.2.2.2 i (by omega)⟩
/-- how a fault begins -/
def fs_fx (w a : Int32) : Int32 := if w = 2 then 0 else 1 <<< (a &&& 31)
def fs_fz (w a : Int32) : Int32 := if w = 0 then 0 else 1 <<< (a &&& 31)
theorem fs_FR_start {n L α : Nat} {w : Int32} (hn : n ≤ 10) (ha : α < n) : fs_FR n L (fs_fx w (nI α), fs_fz w (nI α), 0, 0) 0 (fs_fx w (nI α), fs_fz w (nI α), 0) := by
  refine ⟨⟨fs_su_i ?_ ?_, fs_01_0⟩, rfl, rfl, fun i _ => bl_0 i⟩
  · show ∀ w', n ≤ w' → bt (fs_fx w (nI α)) w' = false
    unfold fs_fx
    split
    · exact fun i _ => b_0 i
    · intro i hi
      rw [fs_sh1 (by omega), decide_eq_false (by omega)]
  · show ∀ w', n ≤ w' → bt (fs_fz w (nI α)) w' = false
    unfold fs_fz
    split
    · exact fun i _ => b_0 i
    · intro i hi
      rw [fs_sh1 (by omega), decide_eq_false (by omega)]
/-- from act t + 1 on -/
def fs_gor (kd on ot : Nat → Int32) (g0 : fs_G) (t : Nat) : Nat → fs_G
  | 0 => g0
  | j + 1 => fs_go (kd (t + 1 + j)) (on (t + 1 + j)) (ot (t + 1 + j)) (fs_gor kd on ot g0 t j)
theorem fs_gor_congr {kd on ot kd' on' ot' : Nat → Int32} {g0 : fs_G} {t m : Nat} (he : ∀ k, k < m → kd' k = kd k ∧ on' k = on k ∧ ot' k = ot k) : ∀ j, t + 1 + j ≤ m → fs_gor kd' on' ot' g0 t j = fs_gor kd on ot g0 t j := by
  intro j
  induction j with
  | zero => intro _; rfl
  | succ j ih =>
    intro h
    obtain ⟨e1, e2, e3⟩ := he (t + 1 + j) (by omega)
    show fs_go _ _ _ _ = fs_go _ _ _ _
    rw [e1, e2, e3, ih (by omega)]
-- checks
/-- the exclusive or of what the looks of a set tell -/
def fs_xr (lc : Nat → Int32) (lr : Nat → Int64) (st : Int64) : Nat → Int32 × Int64
  | 0 => (0, 0)
  | k + 1 => if bl st k = true then ((fs_xr lc lr st k).1 ^^^ lc k, (fs_xr lc lr st k).2 ^^^ lr k) else fs_xr lc lr st k
theorem fs_xr_congr {lc lc' : Nat → Int32} {lr lr' : Nat → Int64} {st : Int64} : ∀ {L : Nat}, (∀ i, i < L → lc' i = lc i ∧ lr' i = lr i) → fs_xr lc' lr' st L = fs_xr lc lr st L
  | 0, _ => rfl
  | L + 1, h => by
    show (if bl st L = true then _ else _) = (if bl st L = true then _ else _)
    rw [fs_xr_congr (L := L) (fun i hi => h i (by omega)), (h L (by omega)).1, (h L (by omega)).2]
theorem fs_xr_more {lc : Nat → Int32} {lr : Nat → Int64} {st : Int64} {L L' : Nat} (h : fs_lt st L) (hL : L ≤ L') : fs_xr lc lr st L' = fs_xr lc lr st L := by
  induction L' with
  | zero => rw [show L = 0 by omega]
  | succ k ih =>
    by_cases q : L = k + 1
    · rw [q]
    · show (if bl st k = true then _ else _) = _
      rw [h k (by omega), if_neg (by decide)]
      exact ih (by omega)
/-- the checks that a set of changed looks changes -/
def fs_ck (cs : Nat → Int64) (ch : Int64) : Nat → Int32
  | 0 => 0
  | c + 1 => fs_ck cs ch c ||| (fs_b (fs_pa (ch &&& cs c)) <<< (nI c &&& 31))
theorem fs_ck_congr {cs cs' : Nat → Int64} {ch ch' : Int64} : ∀ {C : Nat}, (∀ c, c < C → ch' &&& cs' c = ch &&& cs c) → fs_ck cs' ch' C = fs_ck cs ch C
  | 0, _ => rfl
  | C + 1, h => by
    show fs_ck cs' ch' C ||| _ = fs_ck cs ch C ||| _
    rw [fs_ck_congr (C := C) (fun c hc => h c (by omega)), h C (by omega)]
/-- a look more changes no check of the looks before -/
theorem fs_and_new {ch st : Int64} {L : Nat} {b : Bool} (hL : L < 64) (h : fs_lt st L) : (ch ||| (fs_bL b <<< ((nI L).toInt64 &&& 63))) &&& st = ch &&& st := by
  refine bl_ext fun i _ => ?_
  rw [bl_and, bl_and, bl_or, fs_shL hL]
  rcases Nat.lt_or_ge i L with q | q
  · rw [decide_eq_false (by omega), Bool.false_and, Bool.or_false]
  · rw [h i q, Bool.and_false, Bool.and_false]
theorem fs_and0 (st : Int64) : (0 : Int64) &&& st = 0 := bl_ext fun i _ => by rw [bl_and, bl_0, Bool.false_and]
theorem fs_pa0 : fs_pa 0 = false := by decide
theorem fs_b0sh : ∀ c, c < 32 → fs_b false <<< (nI c &&& 31) = 0 := by decide +kernel
theorem fs_ck_0 {cs : Nat → Int64} : ∀ {C : Nat}, C ≤ 16 → fs_ck cs 0 C = 0
  | 0, _ => rfl
  | C + 1, h => by
    show fs_ck cs 0 C ||| _ = 0
    rw [fs_ck_0 (C := C) (by omega), fs_and0, fs_pa0, fs_b0sh C (by omega)]
    rfl
-- THE RELATION of the class's state and the reference's
/-- n wires, m acts, L looks, F faults, C checks -/
def fs_Rel (n m L F C : Nat) (kp pn : Nat → fs_Q) (lc : Nat → Int32) (lr : Nat → Int64) (fr : Nat → fs_Q) (od : Nat → Int32) (cl : Nat → Int64) (ck : Nat → Int32) (cc : Nat → Int32) (cr : Nat → Int64)
    (kd on ot fa fw fo : Nat → Int32) (cs : Nat → Int64) : Prop :=
  (1 ≤ n ∧ n ≤ 10 ∧ m ≤ 300 ∧ L ≤ 60 ∧ F ≤ 40 ∧ C ≤ 16) ∧ fs_RP n kd on ot m L kp pn lc lr ∧
  (∀ f, f < F → ∃ t α : Nat, t < m ∧ α < n ∧ fa f = nI t ∧ on t = nI α ∧ od f = fo f ∧ (∃ k : Nat, k ≤ 16 ∧ fo f = nI k) ∧ fs_FR n L (fr f) (cl f) (fs_gor kd on ot (fs_fx (fw f) (nI α), fs_fz (fw f) (nI α), 0) t (m - (t + 1))) ∧ ck f = fs_ck cs (cl f) C) ∧
  (∀ c, c < C → fs_lt (cs c) L ∧ cc c = (fs_xr lc lr (cs c) L).1 ∧ cr c = (fs_xr lc lr (cs c) L).2)
end
section
-- odds: the class counts odd cases out of 16 to the members, the reference halves 8 to the members less a product
/-- j members, o odd and e even cases, E the product of 8 - k -/
def fs_OI (j o e : Nat) (E : Int) : Prop := o + e = 16 ^ j ∧ (e : Int) - o = 2 ^ j * E ∧ -(8 ^ j) ≤ E ∧ E ≤ 8 ^ j
theorem fs_i1 (x k : Int) : x * (2 * (8 - k)) = x * 16 - 2 * (x * k) := by
  have h1 : (2 : Int) * (8 - k) = 16 - 2 * k := by omega
  rw [h1, Int.mul_sub, Int.mul_left_comm]
theorem fs_OI_0 : fs_OI 0 0 1 1 := by
  refine ⟨rfl, ?_, ?_, ?_⟩ <;> decide
theorem fs_OI_s {j o e k : Nat} {E : Int} (hk : k ≤ 16) (h : fs_OI j o e E) : fs_OI (j + 1) (o * (16 - k) + e * k) (e * (16 - k) + o * k) (E * (8 - k)) := by
  obtain ⟨h1, h2, h3, h4⟩ := h
  have e16 : 16 ^ (j + 1) = 16 ^ j * 16 := Nat.pow_succ 16 j
  have e2 : (2 : Int) ^ (j + 1) = 2 ^ j * 2 := Int.pow_succ 2 j
  have e8 : (8 : Int) ^ (j + 1) = 8 ^ j * 8 := Int.pow_succ 8 j
  have ck : ((16 - k : Nat) : Int) = 16 - k := by omega
  refine ⟨?_, ?_, ?_, ?_⟩
  · rw [e16, ← h1]
    have : o * (16 - k) + o * k = o * 16 := by rw [← Nat.mul_add, Nat.sub_add_cancel hk]
    have : e * (16 - k) + e * k = e * 16 := by rw [← Nat.mul_add, Nat.sub_add_cancel hk]
    omega
  · rw [e2]
    have g : ((e * (16 - k) + o * k : Nat) : Int) - ((o * (16 - k) + e * k : Nat) : Int) = ((e : Int) - o) * (2 * (8 - k)) := by
      rw [Int.natCast_add, Int.natCast_add, Int.natCast_mul, Int.natCast_mul, Int.natCast_mul, Int.natCast_mul, ck]
      rw [Int.sub_mul]
      have a1 : (e : Int) * (16 - (k : Int)) = e * 16 - e * k := Int.mul_sub _ _ _
      have a2 : (o : Int) * (16 - (k : Int)) = o * 16 - o * k := Int.mul_sub _ _ _
      have a3 : (e : Int) * (2 * (8 - (k : Int))) = e * 16 - 2 * (e * k) := fs_i1 _ _
      have a4 : (o : Int) * (2 * (8 - (k : Int))) = o * 16 - 2 * (o * k) := fs_i1 _ _
      rw [a1, a2, a3, a4]
      omega
    rw [g, h2, Int.mul_assoc, Int.mul_assoc]
    congr 1
    rw [← Int.mul_assoc, Int.mul_comm E 2, Int.mul_assoc]
  · rw [e8]
    have hb : -8 ≤ (8 : Int) - k ∧ (8 : Int) - k ≤ 8 := by omega
    generalize (8 : Int) - k = d at hb ⊢
    have p : (0 : Int) ≤ 8 ^ j := by omega
    generalize (8 : Int) ^ j = A at *
    have q1 : -(A * 8) ≤ E * d := by
      rcases Int.le_total 0 d with hd | hd
      · have : -A * d ≤ E * d := Int.mul_le_mul_of_nonneg_right h3 hd
        have : A * d ≤ A * 8 := Int.mul_le_mul_of_nonneg_left hb.2 p
        rw [Int.neg_mul] at *
        omega
      · have : A * d ≤ E * d := Int.mul_le_mul_of_nonpos_right h4 hd
        have : A * (-8) ≤ A * d := Int.mul_le_mul_of_nonneg_left hb.1 p
        omega
    exact q1
  · rw [e8]
    have hb : -8 ≤ (8 : Int) - k ∧ (8 : Int) - k ≤ 8 := by omega
    generalize (8 : Int) - k = d at hb ⊢
    have p : (0 : Int) ≤ 8 ^ j := by omega
    generalize (8 : Int) ^ j = A at *
    rcases Int.le_total 0 d with hd | hd
    · have : E * d ≤ A * d := Int.mul_le_mul_of_nonneg_right h4 hd
      have : A * d ≤ A * 8 := Int.mul_le_mul_of_nonneg_left hb.2 p
      omega
    · have : E * d ≤ -A * d := Int.mul_le_mul_of_nonpos_right h3 hd
      have : A * (-8) ≤ A * d := Int.mul_le_mul_of_nonneg_left hb.1 p
      rw [Int.neg_mul] at *
      omega
/-- the odd cases are the reference's u, doubled j - 1 times -/
theorem fs_OI_u {j o e U : Nat} {E : Int} (h : fs_OI (j + 1) o e E) (hU : (U : Int) = 8 ^ (j + 1) - E) : o = 2 ^ j * U := by
  obtain ⟨h1, h2, h3, h4⟩ := h
  have e16 : ((16 ^ (j + 1) : Nat) : Int) = 2 ^ (j + 1) * 8 ^ (j + 1) := by
    rw [Int.natCast_pow, ← Int.mul_pow]; rfl
  have hs : ((o : Int) + e) = 2 ^ (j + 1) * 8 ^ (j + 1) := by rw [← e16, ← h1, Int.natCast_add]
  have h5 : 2 * (o : Int) = 2 ^ (j + 1) * (8 ^ (j + 1) - E) := by rw [Int.mul_sub]; omega
  rw [← hU, Int.pow_succ, Int.mul_comm ((2 : Int) ^ j) 2, Int.mul_assoc] at h5
  have h6 : (o : Int) = 2 ^ j * U := Int.eq_of_mul_eq_mul_left (by decide) h5
  have h7 : ((2 ^ j * U : Nat) : Int) = (2 : Int) ^ j * U := by rw [Int.natCast_mul, Int.natCast_pow]; rfl
  rw [← h7] at h6
  exact Int.ofNat.inj h6
-- halving
def fs_hv : Nat → Nat → Nat × Nat
  | 0, u => (u, 0)
  | p + 1, u => if u % 2 = 0 then fs_hv p (u / 2) else (u, p + 1)
theorem fs_hv_odd (p : Nat) {u : Nat} (h : u % 2 = 1) : fs_hv p u = (u, p) := by
  cases p with
  | zero => rfl
  | succ p =>
    show (if u % 2 = 0 then _ else _) = _
    rw [if_neg (by omega)]
theorem fs_hv_v (v : Nat) : ∀ (p u : Nat), u % 2 = 1 → fs_hv p (2 ^ v * u) = (if v ≤ p then (u, p - v) else (2 ^ (v - p) * u, 0)) := by
  induction v with
  | zero => intro p u hu; rw [Nat.pow_zero, Nat.one_mul, fs_hv_odd p hu, if_pos (Nat.zero_le p)]; rfl
  | succ v ih =>
    intro p u hu
    have e : 2 ^ (v + 1) * u = 2 * (2 ^ v * u) := by rw [Nat.pow_succ, Nat.mul_comm (2 ^ v) 2, Nat.mul_assoc]
    cases p with
    | zero =>
      show (2 ^ (v + 1) * u, 0) = _
      rw [if_neg (by omega)]
      rfl
    | succ p =>
      show (if (2 ^ (v + 1) * u) % 2 = 0 then fs_hv p (2 ^ (v + 1) * u / 2) else _) = _
      rw [e, if_pos (by omega), show 2 * (2 ^ v * u) / 2 = 2 ^ v * u by omega, ih p u hu]
      by_cases q : v ≤ p
      · rw [if_pos q, if_pos (by omega), show p + 1 - (v + 1) = p - v by omega]
      · rw [if_neg q, if_neg (by omega), show v + 1 - (p + 1) = v - p by omega]
theorem fs_two (u : Nat) (h : 0 < u) : ∃ v w, u = 2 ^ v * w ∧ w % 2 = 1 := by
  induction u using Nat.strongRecOn with
  | ind u ih =>
    rcases (show u % 2 = 1 ∨ u % 2 = 0 by omega) with q | q
    · exact ⟨0, u, by rw [Nat.pow_zero, Nat.one_mul], q⟩
    · obtain ⟨v, w, h1, h2⟩ := ih (u / 2) (by omega) (by omega)
      refine ⟨v + 1, w, ?_, h2⟩
      rw [Nat.pow_succ, Nat.mul_comm (2 ^ v) 2, Nat.mul_assoc, ← h1]
      omega
/-- the class's shift: the lesser of the trailing zeros and 4 for each member -/
theorem fs_odds {j U : Nat} (hU : 0 < U) : ∃ v w : Nat, w % 2 = 1 ∧ U = 2 ^ v * w ∧ 2 ^ j * U = 2 ^ (j + v) * w ∧
    fs_hv (3 * (j + 1) + 1) U = (2 ^ j * U / 2 ^ (min (j + v) (4 * (j + 1))), 4 * (j + 1) - min (j + v) (4 * (j + 1))) := by
  obtain ⟨v, w, h1, h2⟩ := fs_two U hU
  refine ⟨v, w, h2, h1, ?_, ?_⟩
  · rw [h1, ← Nat.mul_assoc, ← Nat.pow_add]
  · have e : 2 ^ j * U = 2 ^ (j + v) * w := by rw [h1, ← Nat.mul_assoc, ← Nat.pow_add]
    rw [e, h1, fs_hv_v v _ w h2]
    by_cases q : v ≤ 3 * (j + 1) + 1
    · rw [if_pos q, Nat.min_eq_left (by omega), Nat.mul_div_cancel_left _ (Nat.pow_pos (by decide))]
      congr 1
      omega
    · rw [if_neg q, Nat.min_eq_right (by omega)]
      have e2 : 2 ^ (j + v) = 2 ^ (4 * (j + 1)) * 2 ^ (v - (3 * (j + 1) + 1)) := by rw [← Nat.pow_add]; congr 1; omega
      rw [e2, Nat.mul_assoc, Nat.mul_div_cancel_left _ (Nat.pow_pos (by decide)), Nat.sub_self]
end
section
-- edges: faults by the checks v that they change
def fs_any (v : Nat → Int32) (x : Int32) : Nat → Bool
  | 0 => false
  | f + 1 => fs_any v x f || decide (v f = x)
def fs_isb (v : Nat → Int32) (f : Nat) : Bool := !decide (v f = 0) && !fs_any v (v f) f
def fs_ce (v : Nat → Int32) : Nat → Nat
  | 0 => 0
  | f + 1 => if fs_isb v f = true then fs_ce v f + 1 else fs_ce v f
def fs_mem (v : Nat → Int32) (x : Int32) : Nat → Int64
  | 0 => 0
  | f + 1 => if v f = x then fs_mem v x f ||| (1 <<< ((nI f).toInt64 &&& 63)) else fs_mem v x f
theorem fs_any_iff {v : Nat → Int32} {x : Int32} {f : Nat} : fs_any v x f = true ↔ ∃ i, i < f ∧ v i = x := by
  induction f with
  | zero => exact ⟨fun h => absurd (show false = true from h) (by decide), fun ⟨i, h, _⟩ => absurd h (Nat.not_lt_zero i)⟩
  | succ f ih =>
    show (fs_any v x f || decide (v f = x)) = true ↔ _
    rw [Bool.or_eq_true, ih, decide_eq_true_eq]
    constructor
    · rintro (⟨i, h1, h2⟩ | h)
      · exact ⟨i, by omega, h2⟩
      · exact ⟨f, by omega, h⟩
    · rintro ⟨i, h1, h2⟩
      by_cases q : i = f
      · subst q; exact Or.inr h2
      · exact Or.inl ⟨i, by omega, h2⟩
theorem fs_isb_iff {v : Nat → Int32} {f : Nat} : fs_isb v f = true ↔ v f ≠ 0 ∧ ∀ i, i < f → v i ≠ v f := by
  unfold fs_isb
  rw [Bool.and_eq_true, Bool.not_eq_true', Bool.not_eq_true', decide_eq_false_iff_not]
  constructor
  · rintro ⟨h1, h2⟩
    exact ⟨h1, fun i hi e => by rw [fs_any_iff.mpr ⟨i, hi, e⟩] at h2; cases h2⟩
  · rintro ⟨h1, h2⟩
    refine ⟨h1, ?_⟩
    cases h : fs_any v (v f) f with
    | false => rfl
    | true =>
      obtain ⟨i, hi, e⟩ := fs_any_iff.mp h
      exact absurd e (h2 i hi)
theorem fs_ce_mono {v : Nat → Int32} {f g : Nat} (h : f ≤ g) : fs_ce v f ≤ fs_ce v g := by
  induction g with
  | zero => rw [show f = 0 by omega]; exact Nat.le_refl _
  | succ g ih =>
    by_cases q : f = g + 1
    · rw [q]; exact Nat.le_refl _
    · have := ih (by omega)
      show fs_ce v f ≤ if fs_isb v g = true then fs_ce v g + 1 else fs_ce v g
      split <;> omega
theorem fs_ce_lt {v : Nat → Int32} {f g : Nat} (hb : fs_isb v f = true) (h : f < g) : fs_ce v f < fs_ce v g := by
  have h1 : fs_ce v (f + 1) = fs_ce v f + 1 := if_pos hb
  have := fs_ce_mono (v := v) (show f + 1 ≤ g from h)
  omega
theorem fs_ce_inj {v : Nat → Int32} {f g : Nat} (hf : fs_isb v f = true) (hg : fs_isb v g = true) (h : fs_ce v f = fs_ce v g) : f = g := by
  rcases Nat.lt_trichotomy f g with q | q | q
  · have := fs_ce_lt hf q; omega
  · exact q
  · have := fs_ce_lt hg q; omega
theorem fs_isb_inj {v : Nat → Int32} {f g : Nat} (hf : fs_isb v f = true) (hg : fs_isb v g = true) (h : v f = v g) : f = g := by
  rcases Nat.lt_trichotomy f g with q | q | q
  · exact absurd h ((fs_isb_iff.mp hg).2 f q)
  · exact q
  · exact absurd h.symm ((fs_isb_iff.mp hf).2 g q)
theorem fs_ce_ex {v : Nat → Int32} {e : Nat} : ∀ {f : Nat}, e < fs_ce v f → ∃ g, g < f ∧ fs_isb v g = true ∧ fs_ce v g = e
  | 0, h => absurd h (Nat.not_lt_zero e)
  | f + 1, h => by
    by_cases hb : fs_isb v f = true
    · have h1 : fs_ce v (f + 1) = fs_ce v f + 1 := if_pos hb
      by_cases q : e = fs_ce v f
      · exact ⟨f, by omega, hb, q.symm⟩
      · obtain ⟨g, g1, g2, g3⟩ := fs_ce_ex (v := v) (f := f) (e := e) (by omega)
        exact ⟨g, by omega, g2, g3⟩
    · have h1 : fs_ce v (f + 1) = fs_ce v f := if_neg hb
      obtain ⟨g, g1, g2, g3⟩ := fs_ce_ex (v := v) (f := f) (e := e) (by omega)
      exact ⟨g, by omega, g2, g3⟩
theorem fs_first {v : Nat → Int32} {x : Int32} (hx : x ≠ 0) : ∀ {f : Nat}, fs_any v x f = true → ∃ g, g < f ∧ fs_isb v g = true ∧ v g = x
  | 0, h => by cases h
  | f + 1, h => by
    by_cases q : fs_any v x f = true
    · obtain ⟨g, g1, g2, g3⟩ := fs_first hx q
      exact ⟨g, by omega, g2, g3⟩
    · obtain ⟨i, hi, e⟩ := fs_any_iff.mp h
      have hif : i = f := by
        rcases Nat.lt_or_ge i f with z | z
        · exact absurd (fs_any_iff.mpr ⟨i, z, e⟩) q
        · omega
      subst hif
      refine ⟨i, by omega, fs_isb_iff.mpr ⟨by rw [e]; exact hx, fun k hk ek => q (fs_any_iff.mpr ⟨k, hk, by rw [ek, e]⟩)⟩, e⟩
theorem fs_ce_le (v : Nat → Int32) (f : Nat) : fs_ce v f ≤ f := by
  induction f with
  | zero => exact Nat.le_refl 0
  | succ f ih =>
    show (if fs_isb v f = true then fs_ce v f + 1 else fs_ce v f) ≤ f + 1
    split <;> omega
/-- the reference's tables of edges behind f faults -/
def fs_Ed (v : Nat → Int32) (f : Nat) (ec : Nat → Int32) (ef : Nat → Int64) : Prop := ∀ g, g < f → fs_isb v g = true → ec (fs_ce v g) = v g ∧ ef (fs_ce v g) = fs_mem v (v g) f
theorem fs_Ed_0 (v : Nat → Int32) (ec : Nat → Int32) (ef : Nat → Int64) : fs_Ed v 0 ec ef := fun g hg => absurd hg (Nat.not_lt_zero g)
theorem fs_mem_ne {v : Nat → Int32} {x : Int32} {f : Nat} (h : v f ≠ x) : fs_mem v x (f + 1) = fs_mem v x f := if_neg h
theorem fs_mem_eq {v : Nat → Int32} {x : Int32} {f : Nat} (h : v f = x) : fs_mem v x (f + 1) = fs_mem v x f ||| (1 <<< ((nI f).toInt64 &&& 63)) := if_pos h
theorem fs_mem_0 {v : Nat → Int32} {x : Int32} : ∀ {f : Nat}, fs_any v x f = false → fs_mem v x f = 0
  | 0, _ => rfl
  | f + 1, h => by
    have h1 : (fs_any v x f || decide (v f = x)) = false := h
    rw [Bool.or_eq_false_iff, decide_eq_false_iff_not] at h1
    rw [fs_mem_ne h1.2]
    exact fs_mem_0 h1.1
/-- a fault without checks -/
theorem fs_Ed_z {v : Nat → Int32} {f : Nat} {ec : Nat → Int32} {ef : Nat → Int64} (E : fs_Ed v f ec ef) (h : v f = 0) : fs_Ed v (f + 1) ec ef ∧ fs_ce v (f + 1) = fs_ce v f := by
  have hb : ¬ fs_isb v f = true := fun q => (fs_isb_iff.mp q).1 h
  refine ⟨fun g hg hgb => ?_, if_neg hb⟩
  have hgf : g < f := by
    rcases Nat.lt_or_ge g f with q | q
    · exact q
    · rw [show g = f by omega] at hgb; exact absurd hgb hb
  obtain ⟨e1, e2⟩ := E g hgf hgb
  exact ⟨e1, by rw [fs_mem_ne (fun z => (fs_isb_iff.mp hgb).1 (by rw [← z, h]))]; exact e2⟩
/-- a fault of an edge that is there -/
theorem fs_Ed_old {v : Nat → Int32} {f e : Nat} {ec : Nat → Int32} {ef : Nat → Int64} (E : fs_Ed v f ec ef) (he : e < fs_ce v f) (hv : ec e = v f) : fs_Ed v (f + 1) ec (vp_updL ef e (ef e ||| (1 <<< ((nI f).toInt64 &&& 63)))) ∧ fs_ce v (f + 1) = fs_ce v f := by
  obtain ⟨g0, a1, a2, a3⟩ := fs_ce_ex he
  obtain ⟨b1, b2⟩ := E g0 a1 a2
  rw [a3] at b1 b2
  have hvv : v g0 = v f := b1.symm.trans hv
  have hb : ¬ fs_isb v f = true := fun q => (fs_isb_iff.mp q).2 g0 a1 hvv
  refine ⟨fun g hg hgb => ?_, if_neg hb⟩
  have hgf : g < f := by
    rcases Nat.lt_or_ge g f with q | q
    · exact q
    · rw [show g = f by omega] at hgb; exact absurd hgb hb
  obtain ⟨e1, e2⟩ := E g hgf hgb
  refine ⟨e1, ?_⟩
  by_cases q : fs_ce v g = e
  · have hgg : g = g0 := fs_ce_inj hgb a2 (q.trans a3.symm)
    subst hgg
    rw [q, pk_uLs, fs_mem_eq hvv.symm, b2]
  · rw [pk_uLn q, fs_mem_ne (fun z => q (by rw [fs_isb_inj hgb a2 (by rw [← z, hvv])]; exact a3))]
    exact e2
/-- the first fault of an edge -/
theorem fs_Ed_new {v : Nat → Int32} {f : Nat} {ec : Nat → Int32} {ef : Nat → Int64} (E : fs_Ed v f ec ef) (h0 : v f ≠ 0) (hn : ∀ e, e < fs_ce v f → ec e ≠ v f) : fs_Ed v (f + 1) (upd ec (fs_ce v f) (v f)) (vp_updL ef (fs_ce v f) ((0 : Int64) ||| (1 <<< ((nI f).toInt64 &&& 63)))) ∧ fs_ce v (f + 1) = fs_ce v f + 1 := by
  have hany : fs_any v (v f) f = false := by
    cases h : fs_any v (v f) f with
    | false => rfl
    | true =>
      obtain ⟨g, g1, g2, g3⟩ := fs_first h0 h
      exact absurd ((E g g1 g2).1.trans g3) (hn _ (fs_ce_lt g2 g1))
  have hb : fs_isb v f = true := by
    unfold fs_isb
    rw [hany, decide_eq_false h0]; rfl
  refine ⟨fun g hg hgb => ?_, if_pos hb⟩
  by_cases q : g = f
  · subst q
    rw [pk_us, pk_uLs, fs_mem_eq rfl, fs_mem_0 hany]
    exact ⟨rfl, rfl⟩
  · have hgf : g < f := by omega
    have hlt := fs_ce_lt hgb hgf
    obtain ⟨e1, e2⟩ := E g hgf hgb
    rw [pk_un (by omega), pk_uLn (by omega), fs_mem_ne (fun z => q (fs_isb_inj hgb hb z.symm))]
    exact ⟨e1, e2⟩
end
section
-- a world as a function from addresses to cells
abbrev fm_M : Type := Nat → Option va_E
def fm_P (D : va_G) (cl : List vw_C) (M : fm_M) (H : Heap) : Prop := ∀ (a : Nat) (e : va_E), M a = some e → va_at D cl (a, e) H
def fm_W (D : va_G) (cl : List vw_C) (A : Nat → Prop) (M : fm_M) (H0 H : Heap) (locs : List Loc) : Prop :=
  fm_P D cl M H ∧ (∀ (a : Nat) (e : va_E), M a = some e → A a) ∧ va_S A H0 H locs ∧ ∀ q : Nat, H0.size ≤ q → A q
theorem fm_one {D : va_G} {cl : List vw_C} {M : fm_M} {H : Heap} {a : Nat} {e : va_E} (h : fm_P D cl M H) (he : M a = some e) : va_P D cl [(a, e)] H := by
  intro k q hk
  cases k with
  | zero => cases hk; exact h a e he
  | succ k => simp at hk
theorem fm_us {M : fm_M} {a : Nat} {e : Option va_E} : va_up M a e a = e := if_pos rfl
theorem fm_un {M : fm_M} {a b : Nat} {e : Option va_E} (h : b ≠ a) : va_up M a e b = M b := if_neg h
theorem fm_uu (M : fm_M) (a : Nat) (e f : Option va_E) : va_up (va_up M a e) a f = va_up M a f := by
  funext j
  unfold va_up
  split <;> rfl
theorem fm_W.put {D : va_G} {cl : List vw_C} {A : Nat → Prop} {M : fm_M} {H0 H H1 : Heap} {locs : List Loc} {a k : Nat} {e0 e : va_E} (h : fm_W D cl A M H0 H locs) (ha : M a = some e0) (he : va_at D cl (a, e) H1) (z : H1.size = H.size) (oq : ∀ q : Nat, q ≠ a → H1[q]? = H[q]?) : fm_W D cl A (va_up M a (some e)) H0 H1 (locs ++ [⟨a, k⟩]) := by
  obtain ⟨h1, h2, h3, h4⟩ := h
  refine ⟨fun b f hb => ?_, fun b f hb => ?_, h3.put z oq (h2 a e0 ha), h4⟩
  · by_cases q : b = a
    · subst q
      rw [fm_us] at hb
      cases hb
      exact he
    · rw [fm_un q] at hb
      exact (h1 b f hb).kept (oq b q)
  · by_cases q : b = a
    · subst q; exact h2 b e0 ha
    · rw [fm_un q] at hb; exact h2 b f hb
theorem fm_W.new {D : va_G} {cl : List vw_C} {A : Nat → Prop} {M : fm_M} {H0 H H1 : Heap} {locs : List Loc} {e : va_E} (h : fm_W D cl A M H0 H locs) (he : va_at D cl (H.size, e) H1) (z : H1.size = H.size + 1) (oq : ∀ q : Nat, q < H.size → H1[q]? = H[q]?) : fm_W D cl A (va_up M H.size (some e)) H0 H1 locs := by
  obtain ⟨h1, h2, h3, h4⟩ := h
  refine ⟨fun b f hb => ?_, fun b f hb => ?_, ⟨Nat.le_trans h3.1 (by omega), fun x g1 g2 => (oq x (Nat.lt_of_lt_of_le g1 h3.1)).trans (h3.2.1 x g1 g2), h3.2.2⟩, h4⟩
  · by_cases q : b = H.size
    · subst q
      rw [fm_us] at hb
      cases hb
      exact he
    · rw [fm_un q] at hb
      exact (h1 b f hb).kept (oq b (h1 b f hb).lt)
  · by_cases q : b = H.size
    · subst q; exact h4 _ h3.1
    · rw [fm_un q] at hb; exact h2 b f hb
section FMW
variable {p : Program} {l : Launch} {e : Env} {R : Room} {s : State} {m : MethodId} {args : Array Value} {below : List Frame} {meth : Method} {c : Code} {H : Heap} {locs : List Loc} {cells slots : Nat} {Q : State → Prop}
variable {cc : ByteArray} {pc : Nat} {ls : Array Slot} {rest : List Value} {D : va_G} {cl : List vw_C} {A : Nat → Prop} {a : Nat} {tys : List (ClassId × FieldType)} {M : fm_M} {H0 : Heap}
theorem fm_get (hexec : p.tables.exec = Jvm.exec) (hb : c.code = cc) {own ref C : String} {T : u_T} {N ci index : Nat} {Ts : List Cond} (hts : ∀ w ∈ Ts, w.before args s = true) (hin : ∀ w ∈ u_ws C T N, w ∈ Ts) (hown : s.vm.findClass own = some m.cls) (hK : va_K D cl tys s) (hW : fm_W D cl A M H0 H locs) {fs : List Value} (he : M a = some (.inr (ci, fs))) (hc : cl[ci]? = some (C, T, N)) (k : Nat) (hk : k < N) (hlink : (Cond.fieldLink own index ref (T k).2.1 (T k).2.2.1).before args s = true) (hsame : ∀ x, s.fieldFound? (T k).1 (T k).2.1 (T k).2.2.1 = some x → s.fieldFound? ref (T k).2.1 (T k).2.2.1 = some x) {v : Value} (hv : fs[k]? = some v) (hdg : decode cc pc = .ok (.getfield index, 3))
    (kk : W p l e R s m args below meth c H locs cells slots Q (F0 m (pc + 3) ls (v :: rest))) : W p l e R s m args below meth c H locs cells slots Q (F0 m pc ls (.ref a :: rest)) :=
  va_get hexec hb hts hin hown hK (fm_one hW.1 he) 0 rfl hc k hk hlink hsame hv hdg kk
theorem fm_getN (hexec : p.tables.exec = Jvm.exec) (hb : c.code = cc) {own ref C host : String} {T : u_T} {N ci index : Nat} {Ts : List Cond} (hts : ∀ w ∈ Ts, w.before args s = true) (hin : ∀ w ∈ u_ws C T N, w ∈ Ts) (hown : s.vm.findClass own = some m.cls) (hK : va_K D cl tys s) (hW : fm_W D cl A M H0 H locs) {fs : List Value} (he : M a = some (.inr (ci, fs))) (hc : cl[ci]? = some (C, T, N)) (k : Nat) (hk : k < N) (hlink : va_Nw (.fieldLinkNest own index ref (T k).2.1 (T k).2.2.1 host) s) (hsame : ∀ x, s.fieldFound? (T k).1 (T k).2.1 (T k).2.2.1 = some x → s.fieldFound? ref (T k).2.1 (T k).2.2.1 = some x) {v : Value} (hv : fs[k]? = some v) (hdg : decode cc pc = .ok (.getfield index, 3))
    (kk : W p l e R s m args below meth c H locs cells slots Q (F0 m (pc + 3) ls (v :: rest))) : W p l e R s m args below meth c H locs cells slots Q (F0 m pc ls (.ref a :: rest)) :=
  va_getN hexec hb hts hin hown hK (fm_one hW.1 he) 0 rfl hc k hk (va_Nw.use rfl hlink) hsame hv hdg kk
/-- what a store of a field needs of the tables, and what it leaves -/
theorem fm_put (hexec : p.tables.exec = Jvm.exec) (hb : c.code = cc) {own ref C : String} {T : u_T} {N ci index : Nat} {Ts : List Cond} (hts : ∀ w ∈ Ts, w.before args s = true) (hin : ∀ w ∈ u_ws C T N, w ∈ Ts) (ty0 : Nat → FieldType) (hty : ∀ k, k < N → parseFieldDescriptor (T k).2.2.1 = some (ty0 k)) (hnm : ∀ a, a < N → ∀ b, b < N → a ≠ b → (T a).2.1 ≠ (T b).2.1) (hown : s.vm.findClass own = some m.cls) (hK : va_K D cl tys s) (hW : fm_W D cl A M H0 H locs) {fs : List Value} (he : M a = some (.inr (ci, fs))) (hc : cl[ci]? = some (C, T, N)) (k : Nat) (hk : k < N) (hlink : (Cond.fieldLink own index ref (T k).2.1 (T k).2.2.1).before args s = true) (hsame : ∀ x, s.fieldFound? (T k).1 (T k).2.1 (T k).2.2.1 = some x → s.fieldFound? ref (T k).2.1 (T k).2.2.1 = some x) (hfin : (T k).2.2.2 = false) {ty : FieldType} {v : Value} (hd : parseFieldDescriptor (T k).2.2.1 = some ty) (hn : narrow ty v = v) (hfit : fits ty v = true) (hl : k < fs.length)
    (hdg : decode cc pc = .ok (.putfield index, 3)) (kk : ∀ (H1 : Heap) (locs1 : List Loc), fm_W D cl A (va_up M a (some (.inr (ci, fs.set k v)))) H0 H1 locs1 → W p l e R s m args below meth c H1 locs1 cells slots Q (F0 m (pc + 3) ls rest)) : W p l e R s m args below meth c H locs cells slots Q (F0 m pc ls (v :: .ref a :: rest)) := by
  have hap := va_apart (own := own) hts hin ty0 hty hnm hK hc
  obtain ⟨r, h1, cell, q1, q2, q3, q4⟩ := hW.1 a _ he
  have hr : r = (C, T, N) := Option.some.inj (h1.symm.trans hc)
  subst hr
  obtain ⟨hS, hfc, kC, hkC, hkind⟩ := hK.1 ci _ hc
  obtain ⟨cf, kf, fi, f, hi, hsl⟩ := hS k hk
  have hlay := hts _ (hin _ (u_in_lay hk))
  unfold u_lay at hlay
  rw [if_neg (by rw [hfin]; decide)] at hlay
  have hst := (u_facts hfc hkC (u_lays hts hin hk) hi).1
  have h6 := u_store hfc hkC hkind hlay hi hd hn hfit
  refine W.putK hexec hb (f := f) ⟨hown, hlink, ⟨_, _, _, hsame _ hi⟩, hst⟩ (by rw [q2]; exact h6) q1 q3 (by rw [hsl]; exact k2_hasslot (q4 k hk)) rfl rfl hdg fun H' e1 e2 e3 => ?_
  rw [hsl] at e1 ⊢
  exact kk H' _ (hW.put he ⟨_, hc, t_OB.to (V := updV (vp_V fs) k v) ⟨_, e1, q2, q3, t_set q4 hap hk v⟩ (fun j _ => vp_updV_set hl v j)⟩ e2 e3)
theorem fm_putN (hexec : p.tables.exec = Jvm.exec) (hb : c.code = cc) {own ref C host : String} {T : u_T} {N ci index : Nat} {Ts : List Cond} (hts : ∀ w ∈ Ts, w.before args s = true) (hin : ∀ w ∈ u_ws C T N, w ∈ Ts) (ty0 : Nat → FieldType) (hty : ∀ k, k < N → parseFieldDescriptor (T k).2.2.1 = some (ty0 k)) (hnm : ∀ a, a < N → ∀ b, b < N → a ≠ b → (T a).2.1 ≠ (T b).2.1) (hown : s.vm.findClass own = some m.cls) (hK : va_K D cl tys s) (hW : fm_W D cl A M H0 H locs) {fs : List Value} (he : M a = some (.inr (ci, fs))) (hc : cl[ci]? = some (C, T, N)) (k : Nat) (hk : k < N) (hlink : va_Nw (.fieldLinkNest own index ref (T k).2.1 (T k).2.2.1 host) s) (hsame : ∀ x, s.fieldFound? (T k).1 (T k).2.1 (T k).2.2.1 = some x → s.fieldFound? ref (T k).2.1 (T k).2.2.1 = some x) (hfin : (T k).2.2.2 = false) {ty : FieldType} {v : Value} (hd : parseFieldDescriptor (T k).2.2.1 = some ty) (hn : narrow ty v = v) (hfit : fits ty v = true) (hl : k < fs.length)
    (hdg : decode cc pc = .ok (.putfield index, 3)) (kk : ∀ (H1 : Heap) (locs1 : List Loc), fm_W D cl A (va_up M a (some (.inr (ci, fs.set k v)))) H0 H1 locs1 → W p l e R s m args below meth c H1 locs1 cells slots Q (F0 m (pc + 3) ls rest)) : W p l e R s m args below meth c H locs cells slots Q (F0 m pc ls (v :: .ref a :: rest)) := by
  have hap := va_apart (own := own) hts hin ty0 hty hnm hK hc
  obtain ⟨r, h1, cell, q1, q2, q3, q4⟩ := hW.1 a _ he
  have hr : r = (C, T, N) := Option.some.inj (h1.symm.trans hc)
  subst hr
  obtain ⟨hS, hfc, kC, hkC, hkind⟩ := hK.1 ci _ hc
  obtain ⟨cf, kf, fi, f, hi, hsl⟩ := hS k hk
  have hlay := hts _ (hin _ (u_in_lay hk))
  unfold u_lay at hlay
  rw [if_neg (by rw [hfin]; decide)] at hlay
  have hst := (u_facts hfc hkC (u_lays hts hin hk) hi).1
  have h6 := u_store hfc hkC hkind hlay hi hd hn hfit
  refine va_WputK hexec hb (f := f) hown (va_Nw.use rfl hlink) (hsame _ hi) hst (by rw [q2]; exact h6) q1 q3 (by rw [hsl]; exact k2_hasslot (q4 k hk)) rfl rfl hdg fun H' e1 e2 e3 => ?_
  rw [hsl] at e1 ⊢
  exact kk H' _ (hW.put he ⟨_, hc, t_OB.to (V := updV (vp_V fs) k v) ⟨_, e1, q2, q3, t_set q4 hap hk v⟩ (fun j _ => vp_updV_set hl v j)⟩ e2 e3)
theorem fm_iald (hexec : p.tables.exec = Jvm.exec) (hb : c.code = cc) (hK : va_K D cl tys s) (hW : fm_W D cl A M H0 H locs) (t0 : Nat) {cA : ClassId} {n : Nat} {f : Nat → Int32} (ha : M a = some (.inl (cA, n, .inl f))) (ht : tys[t0]? = some (cA, .int)) {i : Int32} (hin : vp_in i n) (hdg : decode cc pc = .ok (.iaload, 1))
    (kk : W p l e R s m args below meth c H locs cells slots Q (F0 m (pc + 1) ls (.int (f i.toNatClampNeg) :: rest))) : W p l e R s m args below meth c H locs cells slots Q (F0 m pc ls (.int i :: .ref a :: rest)) :=
  va_iald hexec hb hK (fm_one hW.1 ha) 0 t0 rfl ht hin hdg kk
theorem fm_zald (hexec : p.tables.exec = Jvm.exec) (hb : c.code = cc) (hK : va_K D cl tys s) (hW : fm_W D cl A M H0 H locs) (t0 : Nat) {cA : ClassId} {n : Nat} {f : Nat → Int32} (ha : M a = some (.inl (cA, n, .inl f))) (ht : tys[t0]? = some (cA, .boolean)) {i : Int32} (hin : vp_in i n) (hdg : decode cc pc = .ok (.baload, 1))
    (kk : W p l e R s m args below meth c H locs cells slots Q (F0 m (pc + 1) ls (.int (f i.toNatClampNeg) :: rest))) : W p l e R s m args below meth c H locs cells slots Q (F0 m pc ls (.int i :: .ref a :: rest)) :=
  va_zald hexec hb hK (fm_one hW.1 ha) 0 t0 rfl ht hin hdg kk
theorem fm_lald (hexec : p.tables.exec = Jvm.exec) (hb : c.code = cc) (hK : va_K D cl tys s) (hW : fm_W D cl A M H0 H locs) (t0 : Nat) {cA : ClassId} {n : Nat} {f : Nat → Int64} (ha : M a = some (.inl (cA, n, .inr (.inl f)))) (ht : tys[t0]? = some (cA, .long)) {i : Int32} (hin : vp_in i n) (hdg : decode cc pc = .ok (.laload, 1))
    (kk : W p l e R s m args below meth c H locs cells slots Q (F0 m (pc + 1) ls (.long (f i.toNatClampNeg) :: rest))) : W p l e R s m args below meth c H locs cells slots Q (F0 m pc ls (.int i :: .ref a :: rest)) :=
  va_lald hexec hb hK (fm_one hW.1 ha) 0 t0 rfl ht hin hdg kk
theorem fm_aald (hexec : p.tables.exec = Jvm.exec) (hb : c.code = cc) (hK : va_K D cl tys s) (hW : fm_W D cl A M H0 H locs) (t0 : Nat) {cA : ClassId} {C : String} {n : Nat} {f : Nat → Option Nat} (ha : M a = some (.inl (cA, n, .inr (.inr (.inr (.inr f)))))) (ht : tys[t0]? = some (cA, .object C)) {i : Int32} (hin : vp_in i n) {b : Nat} (hf : f i.toNatClampNeg = some b) (hdg : decode cc pc = .ok (.aaload, 1))
    (kk : W p l e R s m args below meth c H locs cells slots Q (F0 m (pc + 1) ls (.ref b :: rest))) : W p l e R s m args below meth c H locs cells slots Q (F0 m pc ls (.int i :: .ref a :: rest)) :=
  va_aldq hexec hb hK (fm_one hW.1 ha) 0 t0 rfl ht hin hdg (by rw [hf]; exact kk)
theorem fm_iast (hexec : p.tables.exec = Jvm.exec) (hb : c.code = cc) (hK : va_K D cl tys s) (hW : fm_W D cl A M H0 H locs) (t0 : Nat) {cA : ClassId} {n : Nat} {f : Nat → Int32} (ha : M a = some (.inl (cA, n, .inl f))) (ht : tys[t0]? = some (cA, .int)) {i : Int32} {x : Int32} (hin : vp_in i n) (hdg : decode cc pc = .ok (.iastore, 1))
    (kk : ∀ (H1 : Heap) (locs1 : List Loc), fm_W D cl A (va_up M a (some (.inl (cA, n, .inl (upd f i.toNatClampNeg x))))) H0 H1 locs1 → W p l e R s m args below meth c H1 locs1 cells slots Q (F0 m (pc + 1) ls rest)) : W p l e R s m args below meth c H locs cells slots Q (F0 m pc ls (.int x :: .int i :: .ref a :: rest)) := by
  refine W.iast hexec hb (hW.1 a _ ha) ((hK.2 t0 _ ht).1 n (fun j => .int (f j))) (fun q => by cases q) (by show ¬ (i < 0 ∨ (arrV _ _ _).slots.size ≤ _); rw [arrV_size]; exact hin) rfl rfl hdg fun H1 e z oq => ?_
  refine kk H1 _ (hW.put ha ?_ z oq)
  show H1[a]? = some (vp_cell _ _)
  rw [e, vp_cell_i, vp_cell_i, arrV_store]
  congr 2
  funext q
  by_cases hq : q = i.toNatClampNeg
  · subst hq; simp [updV, upd]
  · simp [updV, upd, hq]
theorem fm_zast (hexec : p.tables.exec = Jvm.exec) (hb : c.code = cc) (hK : va_K D cl tys s) (hW : fm_W D cl A M H0 H locs) (t0 : Nat) {cA : ClassId} {n : Nat} {f : Nat → Int32} (ha : M a = some (.inl (cA, n, .inl f))) (ht : tys[t0]? = some (cA, .boolean)) {i : Int32} {x : Int32} (hin : vp_in i n) (hdg : decode cc pc = .ok (.bastore, 1))
    (kk : ∀ (H1 : Heap) (locs1 : List Loc), fm_W D cl A (va_up M a (some (.inl (cA, n, .inl (upd f i.toNatClampNeg (vp_nar .boolean x)))))) H0 H1 locs1 → W p l e R s m args below meth c H1 locs1 cells slots Q (F0 m (pc + 1) ls rest)) : W p l e R s m args below meth c H locs cells slots Q (F0 m pc ls (.int x :: .int i :: .ref a :: rest)) := by
  refine W.zast hexec hb (hW.1 a _ ha) ((hK.2 t0 _ ht).1 n (fun j => .int (f j))) (fun q => by cases q) (by show ¬ (i < 0 ∨ (arrV _ _ _).slots.size ≤ _); rw [arrV_size]; exact hin) rfl rfl hdg fun H1 e z oq => ?_
  refine kk H1 _ (hW.put ha ?_ z oq)
  show H1[a]? = some (vp_cell _ _)
  rw [e, vp_cell_i, vp_cell_i, arrV_store]
  congr 2
  funext q
  by_cases hq : q = i.toNatClampNeg
  · subst hq
    simp [updV, upd, vp_nar]
    try rfl
  · simp [updV, upd, hq]
theorem fm_last (hexec : p.tables.exec = Jvm.exec) (hb : c.code = cc) (hK : va_K D cl tys s) (hW : fm_W D cl A M H0 H locs) (t0 : Nat) {cA : ClassId} {n : Nat} {f : Nat → Int64} (ha : M a = some (.inl (cA, n, .inr (.inl f)))) (ht : tys[t0]? = some (cA, .long)) {i : Int32} {x : Int64} (hin : vp_in i n) (hdg : decode cc pc = .ok (.lastore, 1))
    (kk : ∀ (H1 : Heap) (locs1 : List Loc), fm_W D cl A (va_up M a (some (.inl (cA, n, .inr (.inl (vp_updL f i.toNatClampNeg x)))))) H0 H1 locs1 → W p l e R s m args below meth c H1 locs1 cells slots Q (F0 m (pc + 1) ls rest)) : W p l e R s m args below meth c H locs cells slots Q (F0 m pc ls (.long x :: .int i :: .ref a :: rest)) := by
  refine W.last hexec hb (hW.1 a _ ha) ((hK.2 t0 _ ht).1 n (fun j => .long (f j))) (fun q => by cases q) (by show ¬ (i < 0 ∨ (arrV _ _ _).slots.size ≤ _); rw [arrV_size]; exact hin) rfl rfl hdg fun H1 e z oq => ?_
  refine kk H1 _ (hW.put ha ?_ z oq)
  show H1[a]? = some (vp_cell _ _)
  rw [e, vp_cell_l, vp_cell_l, arrV_store]
  congr 2
  funext q
  by_cases hq : q = i.toNatClampNeg
  · subst hq; simp [updV, vp_updL]
  · simp [updV, vp_updL, hq]
end FMW
-- contracts: the state that a method starts from, the world that it leaves
def fm_St (D : va_G) (cl : List vw_C) (tys : List (ClassId × FieldType)) (nw : List Cond) (A : Nat → Prop) (M : fm_M) (U : State) : Prop :=
  fm_P D cl M U.heap ∧ (∀ (a : Nat) (e : va_E), M a = some e → A a) ∧ (∀ q : Nat, U.heap.size ≤ q → A q) ∧ va_K D cl tys U ∧ ∀ w ∈ nw, va_Nw w U
def fm_B (D : va_G) (cl : List vw_C) (A : Nat → Prop) (M : fm_M) (t : State) : Prop := fm_P D cl M t.heap ∧ ∀ (a : Nat) (e : va_E), M a = some e → A a
/-- the words of nest mates -/
def fm_isN (w : Cond) : Prop := (∃ (a : String) (i : Nat) (b n d h : String), w = .fieldLinkNest a i b n d h) ∨ ∃ (a : String) (i : Nat) (x : MethodName) (h : String), w = .methodLinkNest a i x h
theorem fm_nw {nw : List Cond} (hn : ∀ w ∈ nw, fm_isN w) {s U : State} (hW : s.WarmedH U.vm) (h : ∀ w ∈ nw, va_Nw w s) : ∀ w ∈ nw, va_Nw w U := by
  intro w hw
  have h1 := h w hw
  rcases hn w hw with ⟨a, i, b, n, d, q, rfl⟩ | ⟨a, i, x, q, rfl⟩
  · exact va_Nw.warmF hW h1
  · exact va_Nw.warmM hW h1
theorem fm_blind {D : va_G} {cl : List vw_C} {tys : List (ClassId × FieldType)} {nw : List Cond} (hn : ∀ w ∈ nw, fm_isN w) {A : Nat → Prop} {M : fm_M} {av : List Value} : FrameBlind (va_Pc av (fm_St D cl tys nw A M)) := by
  intro a U g mk q
  obtain ⟨q0, q1, q2, q3, q4, q5⟩ := q
  refine ⟨q0, q1, q2, q3, va_K.moved (u := U) (U := U.calling g mk a) (Vm.Alike.refl U.vm) q4, fun w hw => ?_⟩
  have h1 := q5 w hw
  rcases hn w hw with ⟨a, i, b, n, d, q, rfl⟩ | ⟨a, i, x, q, rfl⟩
  · exact va_Nw.same rfl rfl h1
  · exact va_Nw.same rfl rfl h1
theorem fm_pre {D : va_G} {cl : List vw_C} {tys : List (ClassId × FieldType)} {nw : List Cond} (hn : ∀ w ∈ nw, fm_isN w) {A : Nat → Prop} {M : fm_M} {av : List Value} {s : State} {H : Heap} {locs : List Loc} {H0 : Heap} (hK : va_K D cl tys s) (hN : ∀ w ∈ nw, va_Nw w s) (hW : fm_W D cl A M H0 H locs) : PreS s H (va_Pc av (fm_St D cl tys nw A M)) av :=
  ⟨fm_blind hn, fun U hU hw => ⟨rfl, by rw [hU]; exact hW.1, hW.2.1, fun q hq => hW.2.2.2 q (Nat.le_trans hW.2.2.1.1 (by rw [← hU]; exact hq)), va_K.moved hw.alike hK, fm_nw hn hw hN⟩⟩
theorem fm_preV {D : va_G} {cl : List vw_C} {tys : List (ClassId × FieldType)} {nw : List Cond} (hn : ∀ w ∈ nw, fm_isN w) {A : Nat → Prop} {M : fm_M} {s : State} {H : Heap} {locs : List Loc} {H0 : Heap} {b ci : Nat} {fs As : List Value} {q : vw_C} (hK : va_K D cl tys s) (hN : ∀ w ∈ nw, va_Nw w s) (hW : fm_W D cl A M H0 H locs) (he : M b = some (.inr (ci, fs))) (hc : cl[ci]? = some q) : PreV s H q.1 b (va_Pc (.ref b :: As) (fm_St D cl tys nw A M)) As :=
  ⟨fm_blind hn, va_recv hK (fm_one hW.1 he) hc (q0 := 0) rfl, (fm_pre hn hK hN hW).2⟩
section FMC
variable {p : Program} {l : Launch} {e : Env} {R : Room} {s : State} {m : MethodId} {args : Array Value} {below : List Frame} {meth : Method} {c : Code} {H : Heap} {locs : List Loc} {cells slots : Nat} {Q : State → Prop}
variable {pc : Nat} {ls : Array Slot} {rest st0 : List Value} {a : Array Value} {A : Nat → Prop} {H0 : Heap} {mc ms : Nat} {D : va_G} {cl : List vw_C} {M : fm_M}
theorem fm_back {M1 : fm_M} {t : State} {H1 : Heap} {locs1 : List Loc} (hW : fm_W D cl A M H0 H locs) (ht : t.heap = H1) (hB : fm_B D cl A M1 t) (hS : va_S A H0 H1 locs1) : fm_W D cl A M1 H0 H1 locs1 :=
  ⟨by rw [← ht]; exact hB.1, hB.2, hS, hW.2.2.2⟩
theorem fm_calli {post : Int32 → fm_M → Prop} (hr : va_Run p l e R s m args below meth c H locs cells slots mc ms (F0 m pc ls st0) rest (va_Qi post (fm_B D cl A) A a) A) (hW : fm_W D cl A M H0 H locs)
    (kk : ∀ (r : Int32) (M1 : fm_M) (H1 : Heap) (locs1 : List Loc), post r M1 → fm_W D cl A M1 H0 H1 locs1 → W p l e R s m args below meth c H1 locs1 (cells + mc) (slots + ms) Q (F0 m (pc + 3) ls (.int r :: rest))) : W p l e R s m args below meth c H locs cells slots Q (F0 m pc ls st0) :=
  va_calli hr hW.2.2.1 (fun _ _ h => h) (fun _ h => h) (fun r M1 t H1 locs1 ht _ hp hB _ _ hS => kk r M1 H1 locs1 hp (fm_back hW ht hB hS))
theorem fm_calll {post : Int64 → fm_M → Prop} (hr : va_Run p l e R s m args below meth c H locs cells slots mc ms (F0 m pc ls st0) rest (va_Ql post (fm_B D cl A) A a) A) (hW : fm_W D cl A M H0 H locs)
    (kk : ∀ (r : Int64) (M1 : fm_M) (H1 : Heap) (locs1 : List Loc), post r M1 → fm_W D cl A M1 H0 H1 locs1 → W p l e R s m args below meth c H1 locs1 (cells + mc) (slots + ms) Q (F0 m (pc + 3) ls (.long r :: rest))) : W p l e R s m args below meth c H locs cells slots Q (F0 m pc ls st0) :=
  va_calll hr hW.2.2.1 (fun _ _ h => h) (fun _ h => h) (fun r M1 t H1 locs1 ht _ hp hB _ _ hS => kk r M1 H1 locs1 hp (fm_back hW ht hB hS))
theorem fm_callv {post : fm_M → Prop} (hr : va_Run p l e R s m args below meth c H locs cells slots mc ms (F0 m pc ls st0) rest (va_Qv post (fm_B D cl A) A a) A) (hW : fm_W D cl A M H0 H locs)
    (kk : ∀ (M1 : fm_M) (H1 : Heap) (locs1 : List Loc), post M1 → fm_W D cl A M1 H0 H1 locs1 → W p l e R s m args below meth c H1 locs1 (cells + mc) (slots + ms) Q (F0 m (pc + 3) ls rest)) : W p l e R s m args below meth c H locs cells slots Q (F0 m pc ls st0) :=
  va_callv hr hW.2.2.1 (fun _ _ h => h) (fun _ h => h) (fun M1 t H1 locs1 ht _ hp hB _ _ hS => kk M1 H1 locs1 hp (fm_back hW ht hB hS))
theorem fm_callr {post : Nat → fm_M → Prop} (hr : va_Run p l e R s m args below meth c H locs cells slots mc ms (F0 m pc ls st0) rest (va_Qr (S := fm_M) (fun _ => True) (fun M1 ra t => post ra M1 ∧ fm_B D cl A M1 t) A a) A) (hW : fm_W D cl A M H0 H locs)
    (kk : ∀ (ra : Nat) (M1 : fm_M) (H1 : Heap) (locs1 : List Loc), post ra M1 → fm_W D cl A M1 H0 H1 locs1 → W p l e R s m args below meth c H1 locs1 (cells + mc) (slots + ms) Q (F0 m (pc + 3) ls (.ref ra :: rest))) : W p l e R s m args below meth c H locs cells slots Q (F0 m pc ls st0) :=
  va_callr hr hW.2.2.1 (fun _ _ h => h) (fun _ h => h) (fun M1 ra t H1 locs1 ht _ _ hB _ _ hS => kk ra M1 H1 locs1 hB.1 (fm_back hW ht hB.2 hS))
end FMC
section FMR
variable {p : Program} {l : Launch} {e : Env} {R : Room} {s : State} {m : MethodId} {args : Array Value} {below : List Frame} {meth : Method} {c : Code} {H : Heap} {locs : List Loc} {cells slots : Nat} {Q : State → Prop}
variable {cc : ByteArray} {pc : Nat} {ls : Array Slot} {D : va_G} {cl : List vw_C} {A : Nat → Prop} {M : fm_M}
theorem fm_Bof {t : State} (hW : fm_W D cl A M s.heap H locs) (ht : t.heap = H) : fm_B D cl A M t ∧ va_F A s t := ⟨⟨by rw [ht]; exact hW.1, hW.2.1⟩, hW.2.2.1.F ht⟩
theorem fm_iret {post : Int32 → fm_M → Prop} {v : Int32} (hexec : p.tables.exec = Jvm.exec) (hb : c.code = cc) (hr : meth.sig.returnType = some .int) (hlocks : meth.locks = false) (hW : fm_W D cl A M s.heap H locs) (hp : post v M) (hdg : decode cc pc = .ok (.ireturn, 1)) :
    W p l e R s m args below meth c H locs cells slots (MQ below (va_Qi post (fm_B D cl A) A) args s cells slots A) (F0 m pc ls [.int v]) :=
  W.iret hexec hb hr (fun t ht _ => ⟨⟨v, M, rfl, hp, (fm_Bof hW ht).1⟩, (fm_Bof hW ht).2⟩) hW.2.2.1.2.2 hdg hlocks
theorem fm_zret {post : Int32 → fm_M → Prop} {v : Int32} (hexec : p.tables.exec = Jvm.exec) (hb : c.code = cc) (hr : meth.sig.returnType = some .boolean) (hn : narrow .boolean (.int v) = .int v) (hlocks : meth.locks = false) (hW : fm_W D cl A M s.heap H locs) (hp : post v M) (hdg : decode cc pc = .ok (.ireturn, 1)) :
    W p l e R s m args below meth c H locs cells slots (MQ below (va_Qi post (fm_B D cl A) A) args s cells slots A) (F0 m pc ls [.int v]) :=
  W.zret hexec hb hr hn (fun t ht _ => ⟨⟨v, M, rfl, hp, (fm_Bof hW ht).1⟩, (fm_Bof hW ht).2⟩) hW.2.2.1.2.2 hdg hlocks
theorem fm_lret {post : Int64 → fm_M → Prop} {v : Int64} (hexec : p.tables.exec = Jvm.exec) (hb : c.code = cc) (hr : meth.sig.returnType = some .long) (hlocks : meth.locks = false) (hW : fm_W D cl A M s.heap H locs) (hp : post v M) (hdg : decode cc pc = .ok (.lreturn, 1)) :
    W p l e R s m args below meth c H locs cells slots (MQ below (va_Ql post (fm_B D cl A) A) args s cells slots A) (F0 m pc ls [.long v]) :=
  W.lret hexec hb hr (fun t ht _ => ⟨⟨v, M, rfl, hp, (fm_Bof hW ht).1⟩, (fm_Bof hW ht).2⟩) hW.2.2.1.2.2 hdg hlocks
theorem fm_vret {post : fm_M → Prop} (hexec : p.tables.exec = Jvm.exec) (hb : c.code = cc) (hr : meth.sig.returnType = none) (hlocks : meth.locks = false) (hW : fm_W D cl A M s.heap H locs) (hp : post M) (hdg : decode cc pc = .ok (.return_, 1)) :
    W p l e R s m args below meth c H locs cells slots (MQ below (va_Qv post (fm_B D cl A) A) args s cells slots A) (F0 m pc ls []) :=
  W.vret hexec hb hr (fun t ht _ => ⟨⟨M, rfl, hp, (fm_Bof hW ht).1⟩, (fm_Bof hW ht).2⟩) hW.2.2.1.2.2 hdg hlocks
theorem fm_aret {post : Nat → fm_M → Prop} {v : Nat} {C : String} (hexec : p.tables.exec = Jvm.exec) (hb : c.code = cc) (hr : meth.sig.returnType = some (.object C)) (hlocks : meth.locks = false) (hW : fm_W D cl A M s.heap H locs) (hp : post v M) (hdg : decode cc pc = .ok (.areturn, 1)) :
    W p l e R s m args below meth c H locs cells slots (MQ below (va_Qr (S := fm_M) (fun _ => True) (fun M1 ra t => post ra M1 ∧ fm_B D cl A M1 t) A) args s cells slots A) (F0 m pc ls [.ref v]) :=
  W.aret hexec hb hr (Or.inl ⟨_, rfl⟩) (Or.inr ⟨_, rfl⟩) (fun t ht _ => ⟨⟨M, v, rfl, trivial, hp, (fm_Bof hW ht).1⟩, (fm_Bof hW ht).2⟩) hW.2.2.1.2.2 hdg hlocks
end FMR
end
