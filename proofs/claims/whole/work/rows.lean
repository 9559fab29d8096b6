section
-- signed products of x's and z's, with a phase mod 4 and a set of random looks: a group; what its rows span
abbrev fs_V : Type := (Nat → Bool) × (Nat → Bool)
abbrev fs_E : Type := fs_V × BitVec 2 × Int64
def fs_par (f : Nat → Bool) : Nat → Bool
  | 0 => false
  | n + 1 => fs_par f n ^^ f n
def fs_s (f : Nat → BitVec 2) : Nat → BitVec 2
  | 0 => 0#2
  | n + 1 => fs_s f n + f n
def fs_d (b : Bool) : BitVec 2 := bif b then 2#2 else 0#2
def fs_o (b : Bool) : BitVec 2 := bif b then 1#2 else 0#2
theorem fs_d_xor : ∀ a b : Bool, fs_d (a ^^ b) = fs_d a + fs_d b := by decide
theorem fs_d_inj : ∀ a b : Bool, fs_d a = fs_d b → a = b := by decide
theorem fs_par_congr {f g : Nat → Bool} {n : Nat} (h : ∀ w, w < n → f w = g w) : fs_par f n = fs_par g n := by
  induction n with
  | zero => rfl
  | succ n ih =>
    show (fs_par f n ^^ f n) = (fs_par g n ^^ g n)
    rw [ih (fun w hw => h w (by omega)), h n (by omega)]
theorem fs_s_congr {f g : Nat → BitVec 2} {n : Nat} (h : ∀ w, w < n → f w = g w) : fs_s f n = fs_s g n := by
  induction n with
  | zero => rfl
  | succ n ih =>
    show fs_s f n + f n = fs_s g n + g n
    rw [ih (fun w hw => h w (by omega)), h n (by omega)]
theorem fs_bx4 : ∀ a b c d : Bool, ((a ^^ b) ^^ (c ^^ d)) = ((a ^^ c) ^^ (b ^^ d)) := by decide
theorem fs_par_xor (f g : Nat → Bool) (n : Nat) : fs_par (fun w => f w ^^ g w) n = (fs_par f n ^^ fs_par g n) := by
  induction n with
  | zero => rfl
  | succ n ih =>
    show (fs_par (fun w => f w ^^ g w) n ^^ (f n ^^ g n)) = _
    rw [ih]
    exact fs_bx4 _ _ _ _
theorem fs_par_false (n : Nat) : fs_par (fun _ => false) n = false := by
  induction n with
  | zero => rfl
  | succ n ih =>
    show (fs_par (fun _ => false) n ^^ false) = false
    rw [ih]; rfl
theorem fs_va4 : ∀ a b c d : BitVec 2, a + b + (c + d) = a + c + (b + d) := by decide +kernel
theorem fs_s_add (f g : Nat → BitVec 2) (n : Nat) : fs_s (fun w => f w + g w) n = fs_s f n + fs_s g n := by
  induction n with
  | zero => rfl
  | succ n ih =>
    show fs_s (fun w => f w + g w) n + (f n + g n) = _
    rw [ih]
    exact fs_va4 _ _ _ _
theorem fs_s_d (f : Nat → Bool) (n : Nat) : fs_s (fun w => fs_d (f w)) n = fs_d (fs_par f n) := by
  induction n with
  | zero => rfl
  | succ n ih =>
    show fs_s (fun w => fs_d (f w)) n + fs_d (f n) = fs_d (fs_par f n ^^ f n)
    rw [ih, fs_d_xor]
/-- one place changed -/
theorem fs_par_upd {f g : Nat → Bool} {a : Nat} : ∀ {n : Nat}, a < n → (∀ w, w < n → w ≠ a → f w = g w) → fs_par f n = (fs_par g n ^^ (f a ^^ g a))
  | 0, h, _ => absurd h (Nat.not_lt_zero _)
  | n + 1, h, he => by
    show (fs_par f n ^^ f n) = ((fs_par g n ^^ g n) ^^ (f a ^^ g a))
    by_cases hn : a = n
    · subst hn
      rw [fs_par_congr (n := a) (fun w hw => he w (by omega) (by omega))]
      generalize fs_par g a = x; generalize f a = y; generalize g a = z
      revert x y z; decide
    · rw [fs_par_upd (n := n) (by omega) (fun w hw => he w (by omega)), he n (by omega) (fun h => hn h.symm)]
      generalize fs_par g n = x; generalize g n = y; generalize (f a ^^ g a) = z
      revert x y z; decide
theorem fs_s_upd {f g : Nat → BitVec 2} {a : Nat} : ∀ {n : Nat}, a < n → (∀ w, w < n → w ≠ a → f w = g w) → fs_s f n = fs_s g n + (f a - g a)
  | 0, h, _ => absurd h (Nat.not_lt_zero _)
  | n + 1, h, he => by
    show fs_s f n + f n = (fs_s g n + g n) + (f a - g a)
    by_cases hn : a = n
    · subst hn
      rw [fs_s_congr (n := a) (fun w hw => he w (by omega) (by omega))]
      generalize fs_s g a = x; generalize f a = y; generalize g a = z
      revert x y z; decide +kernel
    · rw [fs_s_upd (n := n) (by omega) (fun w hw => he w (by omega)), he n (by omega) (fun h => hn h.symm)]
      generalize fs_s g n = x; generalize g n = y; generalize (f a - g a) = z
      revert x y z; decide +kernel
def fs_up (f : Nat → Bool) (a : Nat) (v : Bool) : Nat → Bool := fun w => if w = a then v else f w
theorem fs_up_s (f : Nat → Bool) (a : Nat) (v : Bool) : fs_up f a v a = v := if_pos rfl
theorem fs_up_n {f : Nat → Bool} {a w : Nat} {v : Bool} (h : w ≠ a) : fs_up f a v w = f w := if_neg h
theorem fs_par_upd2 {f g : Nat → Bool} {a b n : Nat} (ha : a < n) (hb : b < n) (hab : a ≠ b) (he : ∀ w, w < n → w ≠ a → w ≠ b → f w = g w) : fs_par f n = (fs_par g n ^^ ((f a ^^ g a) ^^ (f b ^^ g b))) := by
  have h1 : fs_par f n = (fs_par (fs_up f a (g a)) n ^^ (f a ^^ g a)) := by
    have := fs_par_upd (f := f) (g := fs_up f a (g a)) ha (fun w _ hw => (fs_up_n hw).symm)
    rw [fs_up_s] at this
    exact this
  have h2 : fs_par (fs_up f a (g a)) n = (fs_par g n ^^ (f b ^^ g b)) := by
    have := fs_par_upd (f := fs_up f a (g a)) (g := g) hb (fun w hw hwb => by
      by_cases hwa : w = a
      · subst hwa; exact fs_up_s _ _ _
      · rw [fs_up_n hwa]; exact he w hw hwa hwb)
    rw [fs_up_n (fun h => hab h.symm)] at this
    exact this
  rw [h1, h2]
  generalize fs_par g n = x; generalize (f a ^^ g a) = y; generalize (f b ^^ g b) = z
  revert x y z; decide
theorem fs_s_upd2 {f g : Nat → BitVec 2} {a b n : Nat} (ha : a < n) (hb : b < n) (hab : a ≠ b) (he : ∀ w, w < n → w ≠ a → w ≠ b → f w = g w) : fs_s f n = fs_s g n + ((f a - g a) + (f b - g b)) := by
  have h1 : fs_s f n = fs_s (fun w => if w = a then g a else f w) n + (f a - g a) := by
    have := fs_s_upd (f := f) (g := fun w => if w = a then g a else f w) ha (fun w _ hw => by simp [hw])
    simpa using this
  have h2 : fs_s (fun w => if w = a then g a else f w) n = fs_s g n + (f b - g b) := by
    have := fs_s_upd (f := fun w => if w = a then g a else f w) (g := g) hb (fun w hw hwb => by
      by_cases hwa : w = a
      · subst hwa; simp
      · simp [hwa]; exact he w hw hwa hwb)
    simpa [Ne.symm hab] using this
  rw [h1, h2]
  generalize fs_s g n = x; generalize (f a - g a) = y; generalize (f b - g b) = z
  revert x y z; decide +kernel
-- the form
def fs_lp (z x : Nat → Bool) : Bool := fs_par (fun w => z w && x w) 10
def fs_va (u v : fs_V) : fs_V := (fun w => u.1 w ^^ v.1 w, fun w => u.2 w ^^ v.2 w)
def fs_v0 : fs_V := (fun _ => false, fun _ => false)
def fs_om (u v : fs_V) : Bool := fs_lp u.2 v.1 ^^ fs_lp v.2 u.1
theorem fs_and_xor_l : ∀ a b c : Bool, ((a ^^ b) && c) = ((a && c) ^^ (b && c)) := by decide
theorem fs_and_xor_r : ∀ a b c : Bool, (c && (a ^^ b)) = ((c && a) ^^ (c && b)) := by decide
theorem fs_lp_l (z1 z2 x : Nat → Bool) : fs_lp (fun w => z1 w ^^ z2 w) x = (fs_lp z1 x ^^ fs_lp z2 x) := by
  unfold fs_lp
  rw [← fs_par_xor]
  exact fs_par_congr (fun w _ => fs_and_xor_l _ _ _)
theorem fs_lp_r (z x1 x2 : Nat → Bool) : fs_lp z (fun w => x1 w ^^ x2 w) = (fs_lp z x1 ^^ fs_lp z x2) := by
  unfold fs_lp
  rw [← fs_par_xor]
  exact fs_par_congr (fun w _ => fs_and_xor_r _ _ _)
theorem fs_om_l (u v t : fs_V) : fs_om (fs_va u v) t = (fs_om u t ^^ fs_om v t) := by
  unfold fs_om fs_va
  dsimp only
  rw [fs_lp_l, fs_lp_r]
  exact fs_bx4 _ _ _ _
theorem fs_om_r (u v t : fs_V) : fs_om t (fs_va u v) = (fs_om t u ^^ fs_om t v) := by
  unfold fs_om fs_va
  dsimp only
  rw [fs_lp_l, fs_lp_r]
  exact fs_bx4 _ _ _ _
theorem fs_om_c (u v : fs_V) : fs_om u v = fs_om v u := by
  unfold fs_om
  exact Bool.xor_comm _ _
theorem fs_om_s (u : fs_V) : fs_om u u = false := by
  unfold fs_om
  exact Bool.xor_self _
theorem fs_lp_0l (x : Nat → Bool) : fs_lp (fun _ => false) x = false := by
  unfold fs_lp
  simp only [Bool.false_and]
  exact fs_par_false 10
theorem fs_lp_0r (x : Nat → Bool) : fs_lp x (fun _ => false) = false := by
  unfold fs_lp
  simp only [Bool.and_false]
  exact fs_par_false 10
theorem fs_om_0 (u : fs_V) : fs_om u fs_v0 = false := by
  unfold fs_om fs_v0
  dsimp only
  rw [fs_lp_0l, fs_lp_0r]; rfl
theorem fs_V_ext {u v : fs_V} (h : ∀ w, u.1 w = v.1 w ∧ u.2 w = v.2 w) : u = v := Prod.ext (funext fun w => (h w).1) (funext fun w => (h w).2)
theorem fs_va_assoc (u v t : fs_V) : fs_va (fs_va u v) t = fs_va u (fs_va v t) := fs_V_ext fun w => ⟨Bool.xor_assoc _ _ _, Bool.xor_assoc _ _ _⟩
theorem fs_va_comm (u v : fs_V) : fs_va u v = fs_va v u := fs_V_ext fun w => ⟨Bool.xor_comm _ _, Bool.xor_comm _ _⟩
theorem fs_va_self (u : fs_V) : fs_va u u = fs_v0 := fs_V_ext fun w => ⟨Bool.xor_self _, Bool.xor_self _⟩
theorem fs_va_0 (u : fs_V) : fs_va u fs_v0 = u := fs_V_ext fun w => ⟨Bool.xor_false _, Bool.xor_false _⟩
theorem fs_va_0l (u : fs_V) : fs_va fs_v0 u = u := fs_V_ext fun w => ⟨Bool.false_xor _, Bool.false_xor _⟩
-- the group
def fs_one : fs_E := (fs_v0, 0#2, 0)
def fs_mul (g h : fs_E) : fs_E := (fs_va g.1 h.1, g.2.1 + h.2.1 + fs_d (fs_lp g.1.2 h.1.1), g.2.2 ^^^ h.2.2)
theorem fs_x64a (a b c : Int64) : a ^^^ b ^^^ c = a ^^^ (b ^^^ c) := Int64.toBitVec_inj.mp (by rw [Int64.toBitVec_xor, Int64.toBitVec_xor, Int64.toBitVec_xor, Int64.toBitVec_xor, BitVec.xor_assoc])
theorem fs_x64c (a b : Int64) : a ^^^ b = b ^^^ a := Int64.toBitVec_inj.mp (by rw [Int64.toBitVec_xor, Int64.toBitVec_xor, BitVec.xor_comm])
theorem fs_x64s (a : Int64) : a ^^^ a = 0 := Int64.toBitVec_inj.mp (by rw [Int64.toBitVec_xor, BitVec.xor_self]; rfl)
theorem fs_x640 (a : Int64) : a ^^^ 0 = a := Int64.toBitVec_inj.mp (by rw [Int64.toBitVec_xor]; exact BitVec.xor_zero)
theorem fs_asc : ∀ (a b c : BitVec 2) (l1 l2 l3 : Bool), a + b + fs_d l1 + c + fs_d (l2 ^^ l3) = a + (b + c + fs_d l3) + fs_d (l1 ^^ l2) := by decide +kernel
theorem fs_mul_assoc (g h k : fs_E) : fs_mul (fs_mul g h) k = fs_mul g (fs_mul h k) := by
  unfold fs_mul
  dsimp only
  refine Prod.ext (fs_va_assoc _ _ _) (Prod.ext ?_ (fs_x64a _ _ _))
  show _ + _ = _ + _
  unfold fs_va
  dsimp only
  rw [fs_lp_l, fs_lp_r]
  exact fs_asc _ _ _ _ _ _
theorem fs_mul_1 (g : fs_E) : fs_mul g fs_one = g := by
  unfold fs_mul fs_one
  dsimp only
  refine Prod.ext (fs_va_0 _) (Prod.ext ?_ (fs_x640 _))
  show g.2.1 + 0#2 + fs_d (fs_lp g.1.2 fs_v0.1) = g.2.1
  rw [show fs_lp g.1.2 fs_v0.1 = false from fs_lp_0r _]
  show g.2.1 + 0#2 + 0#2 = g.2.1
  rw [BitVec.add_zero, BitVec.add_zero]
theorem fs_1_mul (g : fs_E) : fs_mul fs_one g = g := by
  unfold fs_mul fs_one
  dsimp only
  refine Prod.ext (fs_va_0l _) (Prod.ext ?_ ((fs_x64c _ _).trans (fs_x640 _)))
  show 0#2 + g.2.1 + fs_d (fs_lp fs_v0.2 g.1.1) = g.2.1
  rw [show fs_lp fs_v0.2 g.1.1 = false from fs_lp_0l _]
  show 0#2 + g.2.1 + 0#2 = g.2.1
  rw [BitVec.zero_add, BitVec.add_zero]
theorem fs_xf : ∀ a b : Bool, (a ^^ b) = false → a = b := by decide
theorem fs_mul_comm {g h : fs_E} (c : fs_om g.1 h.1 = false) : fs_mul g h = fs_mul h g := by
  have e : fs_lp g.1.2 h.1.1 = fs_lp h.1.2 g.1.1 := fs_xf _ _ c
  unfold fs_mul
  try dsimp only
  refine Prod.ext (fs_va_comm _ _) (Prod.ext ?_ (fs_x64c _ _))
  show _ + _ = _ + _
  rw [e, BitVec.add_comm g.2.1]
def fs_inv (g : fs_E) : Prop := fs_mul g g = fs_one
theorem fs_inv_mul {g h : fs_E} (c : fs_om g.1 h.1 = false) (a : fs_inv g) (b : fs_inv h) : fs_inv (fs_mul g h) := by
  unfold fs_inv at *
  rw [fs_mul_assoc, ← fs_mul_assoc h g h, fs_mul_comm (g := h) (h := g) (by rw [fs_om_c]; exact c), fs_mul_assoc g h h, b, fs_mul_1, a]
-- what rows span
def fs_Sp (n : Nat) (R : Nat → fs_E) (g : fs_E) : Prop := ∀ S : fs_E → Prop, S fs_one → (∀ (g : fs_E) (i : Nat), i < n → S g → S (fs_mul g (R i))) → S g
theorem fs_Sp_1 {n : Nat} {R : Nat → fs_E} : fs_Sp n R fs_one := fun _ h _ => h
theorem fs_Sp_r {n : Nat} {R : Nat → fs_E} {g : fs_E} {i : Nat} (hi : i < n) (h : fs_Sp n R g) : fs_Sp n R (fs_mul g (R i)) := fun S h1 h2 => h2 _ i hi (h S h1 h2)
theorem fs_Sp_g {n : Nat} {R : Nat → fs_E} {i : Nat} (hi : i < n) : fs_Sp n R (R i) := by
  have := fs_Sp_r hi (fs_Sp_1 (n := n) (R := R))
  rwa [fs_1_mul] at this
theorem fs_Sp_mul {n : Nat} {R : Nat → fs_E} {g h : fs_E} (hg : fs_Sp n R g) (hh : fs_Sp n R h) : fs_Sp n R (fs_mul g h) := by
  refine hh (fun k => fs_Sp n R (fs_mul g k)) ?_ ?_
  · rw [fs_mul_1]; exact hg
  · intro k i hi hk
    rw [← fs_mul_assoc]
    exact fs_Sp_r hi hk
theorem fs_Sp_le {n : Nat} {R R' : Nat → fs_E} (h : ∀ i, i < n → fs_Sp n R' (R i)) {g : fs_E} (hg : fs_Sp n R g) : fs_Sp n R' g :=
  hg (fs_Sp n R') fs_Sp_1 (fun _ i hi hk => fs_Sp_mul hk (h i hi))
theorem fs_Sp_congr {n : Nat} {R R' : Nat → fs_E} (h : ∀ i, i < n → R i = R' i) (g : fs_E) : fs_Sp n R g ↔ fs_Sp n R' g :=
  ⟨fs_Sp_le (fun i hi => by rw [h i hi]; exact fs_Sp_g hi), fs_Sp_le (fun i hi => by rw [← h i hi]; exact fs_Sp_g hi)⟩
/-- rows commute: so does what they span -/
def fs_Cm (n : Nat) (R : Nat → fs_E) : Prop := ∀ i j, i < n → j < n → fs_om (R i).1 (R j).1 = false
theorem fs_mul_v (g h : fs_E) : (fs_mul g h).1 = fs_va g.1 h.1 := rfl
theorem fs_Sp_om1 {n : Nat} {R : Nat → fs_E} {v : fs_V} (h : ∀ i, i < n → fs_om (R i).1 v = false) {g : fs_E} (hg : fs_Sp n R g) : fs_om g.1 v = false := by
  refine hg (fun g => fs_om g.1 v = false) ?_ ?_
  · rw [fs_om_c]; exact fs_om_0 v
  · intro k i hi hk
    rw [fs_mul_v, fs_om_l, hk, h i hi]; rfl
theorem fs_Sp_om {n : Nat} {R : Nat → fs_E} (hC : fs_Cm n R) {g h : fs_E} (hg : fs_Sp n R g) (hh : fs_Sp n R h) : fs_om g.1 h.1 = false :=
  fs_Sp_om1 (fun i hi => by rw [fs_om_c]; exact fs_Sp_om1 (fun j hj => hC j i hj hi) hh) hg
theorem fs_Sp_inv {n : Nat} {R : Nat → fs_E} (hC : fs_Cm n R) (hI : ∀ i, i < n → fs_inv (R i)) {g : fs_E} (hg : fs_Sp n R g) : fs_inv g := by
  have : fs_Sp n R g ∧ fs_inv g := by
    refine hg (fun g => fs_Sp n R g ∧ fs_inv g) ⟨fs_Sp_1, fs_mul_1 _⟩ ?_
    intro k i hi hk
    exact ⟨fs_Sp_r hi hk.1, fs_inv_mul (fs_Sp_om hC hk.1 (fs_Sp_g hi)) hk.2 (hI i hi)⟩
  exact this.2
/-- a map that keeps products -/
theorem fs_Sp_map {n : Nat} {R : Nat → fs_E} {f : fs_E → fs_E} (h1 : f fs_one = fs_one) (hm : ∀ g h, f (fs_mul g h) = fs_mul (f g) (f h)) (g : fs_E) : fs_Sp n (fun i => f (R i)) g ↔ ∃ k, fs_Sp n R k ∧ g = f k := by
  constructor
  · intro hg
    refine hg (fun g => ∃ k, fs_Sp n R k ∧ g = f k) ⟨fs_one, fs_Sp_1, h1.symm⟩ ?_
    rintro g i hi ⟨k, hk, rfl⟩
    exact ⟨fs_mul k (R i), fs_Sp_r hi hk, (hm _ _).symm⟩
  · rintro ⟨k, hk, rfl⟩
    refine hk (fun k => fs_Sp n (fun i => f (R i)) (f k)) ?_ ?_
    · rw [h1]; exact fs_Sp_1
    · intro k i hi h
      rw [hm]
      exact fs_Sp_r (R := fun i => f (R i)) hi h
/-- a look that is random: the pivot row goes, the rows that have an x there are multiplied by it -/
def fs_col (R : Nat → fs_E) (p : Nat) (q : fs_E) : Nat → fs_E := fun i => if i = p then q else if fs_om (R i).1 q.1 = true then fs_mul (R i) (R p) else R i
theorem fs_ndt : ∀ a : Bool, ¬ a = true → a = false := by decide
theorem fs_col_in {n p : Nat} {R : Nat → fs_E} {q : fs_E} (hp : p < n) {i : Nat} (hi : i < n) (hip : i ≠ p) (hk : fs_om (R p).1 q.1 = true) : fs_Sp n R (fs_col R p q i) ∧ fs_om (fs_col R p q i).1 q.1 = false := by
  unfold fs_col
  rw [if_neg hip]
  by_cases h : fs_om (R i).1 q.1 = true
  · rw [if_pos h]
    exact ⟨fs_Sp_mul (fs_Sp_g hi) (fs_Sp_g hp), by rw [fs_mul_v, fs_om_l, h, hk]; rfl⟩
  · rw [if_neg h]
    exact ⟨fs_Sp_g hi, fs_ndt _ h⟩
theorem fs_Sp_col {n p : Nat} {R : Nat → fs_E} {q : fs_E} (hp : p < n) (hC : fs_Cm n R) (hI : ∀ i, i < n → fs_inv (R i)) (hq : fs_inv q) (hk : fs_om (R p).1 q.1 = true) (g : fs_E) :
    fs_Sp n (fs_col R p q) g ↔ ∃ k, fs_Sp n R k ∧ fs_om k.1 q.1 = false ∧ (g = k ∨ g = fs_mul k q) := by
  constructor
  · intro hg
    refine hg (fun g => ∃ k, fs_Sp n R k ∧ fs_om k.1 q.1 = false ∧ (g = k ∨ g = fs_mul k q)) ⟨fs_one, fs_Sp_1, by rw [fs_om_c]; exact fs_om_0 _, Or.inl rfl⟩ ?_
    rintro g i hi ⟨k, hk1, hk2, hk3⟩
    by_cases hip : i = p
    · have e : fs_col R p q i = q := by unfold fs_col; rw [if_pos hip]
      rw [e]
      rcases hk3 with rfl | rfl
      · exact ⟨g, hk1, hk2, Or.inr rfl⟩
      · exact ⟨k, hk1, hk2, Or.inl (by rw [fs_mul_assoc, show fs_mul q q = fs_one from hq, fs_mul_1])⟩
    · obtain ⟨a1, a2⟩ := fs_col_in hp hi hip hk
      refine ⟨fs_mul k (fs_col R p q i), fs_Sp_mul hk1 a1, by rw [fs_mul_v, fs_om_l, hk2, a2]; rfl, ?_⟩
      rcases hk3 with rfl | rfl
      · exact Or.inl rfl
      · right
        rw [fs_mul_assoc, fs_mul_comm (g := q) (by rw [fs_om_c]; exact a2), ← fs_mul_assoc]
  · have key : ∀ k, fs_Sp n R k → (fs_om k.1 q.1 = false → fs_Sp n (fs_col R p q) k) ∧ (fs_om k.1 q.1 = true → fs_Sp n (fs_col R p q) (fs_mul k (R p))) := by
      intro k hk0
      have : fs_Sp n R k ∧ ((fs_om k.1 q.1 = false → fs_Sp n (fs_col R p q) k) ∧ (fs_om k.1 q.1 = true → fs_Sp n (fs_col R p q) (fs_mul k (R p)))) := by
        refine hk0 (fun k => fs_Sp n R k ∧ ((fs_om k.1 q.1 = false → fs_Sp n (fs_col R p q) k) ∧ (fs_om k.1 q.1 = true → fs_Sp n (fs_col R p q) (fs_mul k (R p))))) ⟨fs_Sp_1, fun _ => fs_Sp_1, fun h => ?_⟩ ?_
        · have := fs_om_0 q.1
          rw [fs_om_c] at this
          rw [show fs_om fs_one.1 q.1 = false from this] at h
          cases h
        · rintro k i hi ⟨hk1, ha, hb⟩
          have hsq : fs_mul (R p) (R p) = fs_one := hI p hp
          refine ⟨fs_Sp_r hi hk1, ?_, ?_⟩
          · intro h
            rw [fs_mul_v, fs_om_l] at h
            by_cases hki : fs_om (R i).1 q.1 = true
            · have hkk : fs_om k.1 q.1 = true := by rw [hki] at h; revert h; generalize fs_om k.1 q.1 = b; revert b; decide
              have h1 := hb hkk
              by_cases hip : i = p
              · rw [hip]; exact h1
              · have e : fs_col R p q i = fs_mul (R i) (R p) := by unfold fs_col; rw [if_neg hip, if_pos hki]
                have h2 := fs_Sp_r hi h1
                rw [e, fs_mul_comm (g := R i) (hC i p hi hp), fs_mul_assoc, ← fs_mul_assoc (R p), hsq, fs_1_mul] at h2
                exact h2
            · have hki' := fs_ndt _ hki
              have hkk : fs_om k.1 q.1 = false := by rw [hki'] at h; revert h; generalize fs_om k.1 q.1 = b; revert b; decide
              have hip : i ≠ p := fun z => hki (by rw [z]; exact hk)
              have e : fs_col R p q i = R i := by unfold fs_col; rw [if_neg hip, if_neg hki]
              have h2 := fs_Sp_r hi (ha hkk)
              rw [e] at h2
              exact h2
          · intro h
            rw [fs_mul_v, fs_om_l] at h
            by_cases hki : fs_om (R i).1 q.1 = true
            · have hkk : fs_om k.1 q.1 = false := by rw [hki] at h; revert h; generalize fs_om k.1 q.1 = b; revert b; decide
              have h1 := ha hkk
              by_cases hip : i = p
              · rw [hip, fs_mul_assoc, hsq, fs_mul_1]; exact h1
              · have e : fs_col R p q i = fs_mul (R i) (R p) := by unfold fs_col; rw [if_neg hip, if_pos hki]
                have h2 := fs_Sp_r hi h1
                rw [e, ← fs_mul_assoc] at h2
                exact h2
            · have hki' := fs_ndt _ hki
              have hkk : fs_om k.1 q.1 = true := by rw [hki'] at h; revert h; generalize fs_om k.1 q.1 = b; revert b; decide
              have hip : i ≠ p := fun z => hki (by rw [z]; exact hk)
              have e : fs_col R p q i = R i := by unfold fs_col; rw [if_neg hip, if_neg hki]
              have h2 := fs_Sp_r hi (hb hkk)
              rw [e, fs_mul_assoc, fs_mul_comm (g := R p) (hC p i hp hi), ← fs_mul_assoc] at h2
              exact h2
      exact this.2
    have hqin : fs_Sp n (fs_col R p q) q := by
      have := fs_Sp_g (R := fs_col R p q) hp
      rwa [show fs_col R p q p = q by unfold fs_col; rw [if_pos rfl]] at this
    rintro ⟨k, hk1, hk2, rfl | rfl⟩
    · exact (key _ hk1).1 hk2
    · exact fs_Sp_mul ((key _ hk1).1 hk2) hqin
/-- a row multiplied by another: the same span -/
theorem fs_Sp_step {n p r : Nat} {R : Nat → fs_E} (hp : p < n) (hr : r < n) (hrp : r ≠ p) (hI : fs_inv (R p)) (g : fs_E) : fs_Sp n (fun i => if i = r then fs_mul (R r) (R p) else R i) g ↔ fs_Sp n R g := by
  have hpp : (fun i => if i = r then fs_mul (R r) (R p) else R i) p = R p := if_neg (Ne.symm hrp)
  constructor
  · refine fs_Sp_le (fun i hi => ?_)
    show fs_Sp n R (if i = r then fs_mul (R r) (R p) else R i)
    split
    · exact fs_Sp_mul (fs_Sp_g hr) (fs_Sp_g hp)
    · exact fs_Sp_g hi
  · refine fs_Sp_le (fun i hi => ?_)
    by_cases h : i = r
    · have h1 := fs_Sp_g (R := fun i => if i = r then fs_mul (R r) (R p) else R i) hr
      have h2 := fs_Sp_g (R := fun i => if i = r then fs_mul (R r) (R p) else R i) hp
      have h3 := fs_Sp_mul h1 h2
      rw [if_pos rfl, if_neg (Ne.symm hrp), fs_mul_assoc, show fs_mul (R p) (R p) = fs_one from hI, fs_mul_1] at h3
      rw [h]; exact h3
    · have h1 := fs_Sp_g (R := fun i => if i = r then fs_mul (R r) (R p) else R i) hi
      rwa [if_neg h] at h1
-- a product of chosen rows
def fs_pr (K : Nat → fs_E) (c : Nat → Bool) : Nat → fs_E
  | 0 => fs_one
  | n + 1 => if c n = true then fs_mul (fs_pr K c n) (K n) else fs_pr K c n
theorem fs_pr_congr {K : Nat → fs_E} {c c' : Nat → Bool} {n : Nat} (h : ∀ i, i < n → c i = c' i) : fs_pr K c n = fs_pr K c' n := by
  induction n with
  | zero => rfl
  | succ n ih =>
    show (if c n = true then fs_mul (fs_pr K c n) (K n) else fs_pr K c n) = (if c' n = true then fs_mul (fs_pr K c' n) (K n) else fs_pr K c' n)
    rw [ih (fun i hi => h i (by omega)), h n (by omega)]
theorem fs_pr_in {N : Nat} {K : Nat → fs_E} {c : Nat → Bool} {n : Nat} (hn : n ≤ N) : fs_Sp N K (fs_pr K c n) := by
  induction n with
  | zero => exact fs_Sp_1
  | succ n ih =>
    show fs_Sp N K (if c n = true then fs_mul (fs_pr K c n) (K n) else fs_pr K c n)
    split
    · exact fs_Sp_r (by omega) (ih (by omega))
    · exact ih (by omega)
theorem fs_pr_flip {N : Nat} {K : Nat → fs_E} (hC : fs_Cm N K) (hI : ∀ i, i < N → fs_inv (K i)) {c c' : Nat → Bool} {j : Nat} (hj : c' j = !c j) (ho : ∀ i, i ≠ j → c' i = c i) : ∀ {n : Nat}, n ≤ N → j < n → fs_pr K c' n = fs_mul (fs_pr K c n) (K j)
  | 0, _, h => absurd h (Nat.not_lt_zero _)
  | n + 1, hN, h => by
    show (if c' n = true then fs_mul (fs_pr K c' n) (K n) else fs_pr K c' n) = fs_mul (if c n = true then fs_mul (fs_pr K c n) (K n) else fs_pr K c n) (K j)
    by_cases hjn : j = n
    · subst hjn
      rw [fs_pr_congr (c := c') (c' := c) (n := j) (fun i hi => ho i (by omega)), hj]
      cases hc : c j with
      | true =>
        simp only [Bool.not_true, if_true, Bool.false_eq_true, if_false]
        rw [fs_mul_assoc, show fs_mul (K j) (K j) = fs_one from hI j (by omega), fs_mul_1]
      | false => simp only [Bool.not_false, if_true, Bool.false_eq_true, if_false]
    · rw [fs_pr_flip hC hI hj ho (n := n) (by omega) (by omega), ho n (fun z => hjn z.symm)]
      split
      · rw [fs_mul_assoc, fs_mul_comm (g := K j) (hC j n (by omega) (by omega)), ← fs_mul_assoc]
      · rfl
/-- partners tell the rows that a product is made of: so the sign is one for each product -/
theorem fs_pr_all {n : Nat} {K : Nat → fs_E} {P : Nat → fs_V} (hC : fs_Cm n K) (hI : ∀ i, i < n → fs_inv (K i)) (hP : ∀ i j, i < n → j < n → fs_om (P i) (K j).1 = decide (i = j)) {g : fs_E} (hg : fs_Sp n K g) : g = fs_pr K (fun i => fs_om (P i) g.1) n := by
  refine hg (fun g => g = fs_pr K (fun i => fs_om (P i) g.1) n) ?_ ?_
  · have : ∀ m, fs_pr K (fun i => fs_om (P i) fs_one.1) m = fs_one := by
      intro m
      induction m with
      | zero => rfl
      | succ m ih =>
        show (if fs_om (P m) fs_one.1 = true then _ else fs_pr K (fun i => fs_om (P i) fs_one.1) m) = fs_one
        rw [if_neg (by rw [show fs_om (P m) fs_one.1 = false from fs_om_0 _]; decide)]
        exact ih
    exact (this n).symm
  · intro g j hj hg
    have h1 := fs_pr_flip (K := K) hC hI (c := fun i => fs_om (P i) g.1) (c' := fun i => if i < n then fs_om (P i) (fs_mul g (K j)).1 else fs_om (P i) g.1) (j := j)
      (by simp only [hj, if_true]; rw [fs_mul_v, fs_om_r, hP j j hj hj]; simp)
      (fun i hij => by
        split
        · rename_i hi
          rw [fs_mul_v, fs_om_r, hP i j hi hj, decide_eq_false hij, Bool.xor_false]
        · rfl) (n := n) (Nat.le_refl n) hj
    rw [← hg] at h1
    refine h1.symm.trans ?_
    exact fs_pr_congr (fun i hi => by rw [if_pos hi])
theorem fs_Sp_one {n : Nat} {K : Nat → fs_E} {P : Nat → fs_V} (hC : fs_Cm n K) (hI : ∀ i, i < n → fs_inv (K i)) (hP : ∀ i j, i < n → j < n → fs_om (P i) (K j).1 = decide (i = j)) {g h : fs_E} (hg : fs_Sp n K g) (hh : fs_Sp n K h) (e : g.1 = h.1) : g = h := by
  rw [fs_pr_all hC hI hP hg, fs_pr_all hC hI hP hh, e]
end
section
-- maps of the group; the keepers and partners of a state; looks
def fs_ap (ga : fs_V → fs_V) (al : fs_V → BitVec 2) (et : fs_V → Int64) (g : fs_E) : fs_E := (ga g.1, g.2.1 + al g.1, g.2.2 ^^^ et g.1)
def fs_Hom (ga : fs_V → fs_V) (al : fs_V → BitVec 2) (et : fs_V → Int64) : Prop :=
  (∀ u v, ga (fs_va u v) = fs_va (ga u) (ga v)) ∧ (∀ u v, al (fs_va u v) + fs_d (fs_lp u.2 v.1) = al u + al v + fs_d (fs_lp (ga u).2 (ga v).1)) ∧ ∀ u v, et (fs_va u v) = et u ^^^ et v
theorem fs_h1 : ∀ (a b A B C : BitVec 2) (l1 l2 : Bool), C + fs_d l1 = A + B + fs_d l2 → a + b + fs_d l1 + C = a + A + (b + B) + fs_d l2 := by decide +kernel
theorem fs_ap_mul {ga : fs_V → fs_V} {al : fs_V → BitVec 2} {et : fs_V → Int64} (H : fs_Hom ga al et) (g h : fs_E) : fs_ap ga al et (fs_mul g h) = fs_mul (fs_ap ga al et g) (fs_ap ga al et h) := by
  obtain ⟨h1, h2, h3⟩ := H
  unfold fs_ap fs_mul
  dsimp only
  refine Prod.ext (h1 _ _) (Prod.ext (fs_h1 _ _ _ _ _ _ _ (h2 _ _)) ?_)
  show g.2.2 ^^^ h.2.2 ^^^ et (fs_va g.1 h.1) = (g.2.2 ^^^ et g.1) ^^^ (h.2.2 ^^^ et h.1)
  rw [h3, fs_x64a, fs_x64a, ← fs_x64a h.2.2 (et g.1) (et h.1), fs_x64c h.2.2 (et g.1), fs_x64a]
theorem fs_va_0u {v : fs_V} (h : v = fs_va v v) : v = fs_v0 := h.trans (fs_va_self v)
theorem fs_hom_0 {ga : fs_V → fs_V} {al : fs_V → BitVec 2} {et : fs_V → Int64} (H : fs_Hom ga al et) : ga fs_v0 = fs_v0 ∧ al fs_v0 = 0#2 ∧ et fs_v0 = 0 := by
  obtain ⟨h1, h2, h3⟩ := H
  have e : fs_va fs_v0 fs_v0 = fs_v0 := fs_va_self _
  have a := h1 fs_v0 fs_v0
  rw [e] at a
  have a0 : ga fs_v0 = fs_v0 := fs_va_0u a
  have b := h2 fs_v0 fs_v0
  rw [e, a0] at b
  have c := h3 fs_v0 fs_v0
  rw [e, fs_x64s] at c
  refine ⟨a0, ?_, c⟩
  revert b
  generalize al fs_v0 = A
  generalize fs_lp fs_v0.2 fs_v0.1 = B
  revert A B
  decide +kernel
theorem fs_ap_1 {ga : fs_V → fs_V} {al : fs_V → BitVec 2} {et : fs_V → Int64} (H : fs_Hom ga al et) : fs_ap ga al et fs_one = fs_one := by
  obtain ⟨h1, h2, h3⟩ := fs_hom_0 H
  unfold fs_ap fs_one
  dsimp only
  rw [h1, h2, h3, fs_x640]
  rfl
theorem fs_h2 : ∀ (A B : BitVec 2) (a b c d : Bool), A + fs_d a = B + fs_d c → A + fs_d b = B + fs_d d → (c ^^ d) = (a ^^ b) := by decide +kernel
theorem fs_hom_om {ga : fs_V → fs_V} {al : fs_V → BitVec 2} {et : fs_V → Int64} (H : fs_Hom ga al et) (u v : fs_V) : fs_om (ga u) (ga v) = fs_om u v := by
  have a := H.2.1 u v
  have b := H.2.1 v u
  rw [fs_va_comm v u, BitVec.add_comm (al v)] at b
  exact fs_h2 _ _ _ _ _ _ a b
def fs_su (n : Nat) (v : fs_V) : Prop := ∀ w, n ≤ w → v.1 w = false ∧ v.2 w = false
theorem fs_su_0 {n : Nat} : fs_su n fs_v0 := fun _ _ => ⟨rfl, rfl⟩
theorem fs_su_a {n : Nat} {u v : fs_V} (hu : fs_su n u) (hv : fs_su n v) : fs_su n (fs_va u v) := fun w hw => by
  obtain ⟨a, b⟩ := hu w hw
  obtain ⟨c, d⟩ := hv w hw
  exact ⟨by show (u.1 w ^^ v.1 w) = false; rw [a, c]; rfl, by show (u.2 w ^^ v.2 w) = false; rw [b, d]; rfl⟩
def fs_Zv (a : Nat) : fs_V := (fun _ => false, fun w => decide (w = a))
def fs_Xv (a : Nat) : fs_V := (fun w => decide (w = a), fun _ => false)
theorem fs_su_Z {n a : Nat} (h : a < n) : fs_su n (fs_Zv a) := fun w hw => ⟨rfl, decide_eq_false (by omega)⟩
theorem fs_su_X {n a : Nat} (h : a < n) : fs_su n (fs_Xv a) := fun w hw => ⟨decide_eq_false (by omega), rfl⟩
theorem fs_par_at {a : Nat} (ha : a < 10) (f : Nat → Bool) : fs_par (fun w => decide (w = a) && f w) 10 = f a := by
  rw [fs_par_upd (g := fun _ => false) ha (fun w _ hw => by rw [decide_eq_false hw]; rfl), fs_par_false]
  simp
theorem fs_om_Z {a : Nat} (ha : a < 10) (v : fs_V) : fs_om v (fs_Zv a) = v.1 a := by
  unfold fs_om fs_Zv
  dsimp only
  rw [fs_lp_0r, Bool.false_xor]
  exact fs_par_at ha v.1
theorem fs_om_X {a : Nat} (ha : a < 10) (v : fs_V) : fs_om (fs_Xv a) v = v.2 a := by
  unfold fs_om fs_Xv
  dsimp only
  rw [fs_lp_0l, Bool.false_xor]
  unfold fs_lp
  rw [fs_par_congr (g := fun w => decide (w = a) && v.2 w) (fun w _ => Bool.and_comm _ _)]
  exact fs_par_at ha v.2
/-- keepers and partners -/
def fs_Tab (n : Nat) (K : Nat → fs_E) (P : Nat → fs_V) : Prop :=
  n ≤ 10 ∧ fs_Cm n K ∧ (∀ i, i < n → fs_inv (K i)) ∧ (∀ i j, i < n → j < n → fs_om (P i) (K j).1 = decide (i = j)) ∧ (∀ i, i < n → fs_su n (K i).1 ∧ fs_su n (P i)) ∧
  ∀ v, fs_su n v → (∀ i, i < n → fs_om (K i).1 v = false) → (∀ i, i < n → fs_om (P i) v = false) → v = fs_v0
theorem fs_Tab_ap {n : Nat} {K : Nat → fs_E} {P : Nat → fs_V} (T : fs_Tab n K P) {ga : fs_V → fs_V} {al : fs_V → BitVec 2} {et : fs_V → Int64} (H : fs_Hom ga al et) (hg : ∀ v, ga (ga v) = v) (hs : ∀ v, fs_su n v → fs_su n (ga v)) : fs_Tab n (fun i => fs_ap ga al et (K i)) (fun i => ga (P i)) := by
  obtain ⟨t0, t1, t2, t3, t4, t5⟩ := T
  have hom := fs_hom_om H
  refine ⟨t0, fun i j hi hj => ?_, fun i hi => ?_, fun i j hi hj => ?_, fun i hi => ⟨hs _ (t4 i hi).1, hs _ (t4 i hi).2⟩, fun v hv h1 h2 => ?_⟩
  · show fs_om (ga (K i).1) (ga (K j).1) = false
    rw [hom]; exact t1 i j hi hj
  · show fs_mul (fs_ap ga al et (K i)) (fs_ap ga al et (K i)) = fs_one
    rw [← fs_ap_mul H, show fs_mul (K i) (K i) = fs_one from t2 i hi, fs_ap_1 H]
  · show fs_om (ga (P i)) (ga (K j).1) = _
    rw [hom]; exact t3 i j hi hj
  · have e : ga v = fs_v0 := by
      refine t5 (ga v) (hs v hv) (fun i hi => ?_) (fun i hi => ?_)
      · have h' : fs_om (ga (K i).1) v = false := h1 i hi
        rw [← hom, hg] at h'
        exact h'
      · have h' : fs_om (ga (P i)) v = false := h2 i hi
        rw [← hom, hg] at h'
        exact h'
    rw [← hg v, e]
    exact (fs_hom_0 H).1
theorem fs_Tab_Sp {n : Nat} {K R : Nat → fs_E} {P : Nat → fs_V} (T : fs_Tab n K P) (hS : ∀ g, fs_Sp n R g ↔ fs_Sp n K g) : fs_Cm n R ∧ (∀ i, i < n → fs_inv (R i)) ∧ ∀ i, i < n → fs_su n (R i).1 := by
  obtain ⟨t0, t1, t2, t3, t4, t5⟩ := T
  refine ⟨fun i j hi hj => fs_Sp_om t1 ((hS _).mp (fs_Sp_g hi)) ((hS _).mp (fs_Sp_g hj)), fun i hi => fs_Sp_inv t1 t2 ((hS _).mp (fs_Sp_g hi)), fun i hi => ?_⟩
  exact ((hS _).mp (fs_Sp_g hi)) (fun g => fs_su n g.1) fs_su_0 (fun g j hj hg => fs_su_a hg (t4 j hj).1)
theorem fs_Tab_0 {n : Nat} (hn : n ≤ 10) : fs_Tab n (fun i => (fs_Zv i, 0#2, 0)) fs_Xv := by
  refine ⟨hn, fun i j hi hj => ?_, fun i hi => ?_, fun i j hi hj => ?_, fun i hi => ⟨fs_su_Z hi, fs_su_X hi⟩, fun v hv h1 h2 => ?_⟩
  · show fs_om (fs_Zv i) (fs_Zv j) = false
    rw [fs_om_Z (by omega)]; rfl
  · unfold fs_inv fs_mul
    dsimp only
    rw [fs_va_self, show fs_lp (fs_Zv i).2 (fs_Zv i).1 = false from fs_lp_0r _]
    rfl
  · show fs_om (fs_Xv i) (fs_Zv j) = _
    rw [fs_om_X (by omega)]; rfl
  · refine fs_V_ext fun w => ?_
    by_cases hw : w < n
    · have a := h1 w hw
      have b := h2 w hw
      rw [fs_om_c, fs_om_Z (by omega)] at a
      rw [fs_om_X (by omega)] at b
      exact ⟨a, b⟩
    · exact hv w (by omega)
/-- a random look of a tableau -/
def fs_colP (K : Nat → fs_E) (P : Nat → fs_V) (p : Nat) (z : fs_V) : Nat → fs_V := fun i => if i = p then (K p).1 else if fs_om (P i) z = true then fs_va (P i) (K p).1 else P i
theorem fs_inv_Z (a : Nat) (h : Int64) : fs_inv (fs_Zv a, 0#2, h) := by
  unfold fs_inv fs_mul
  dsimp only
  rw [fs_va_self, fs_x64s, show fs_lp (fs_Zv a).2 (fs_Zv a).1 = false from fs_lp_0r _]
  rfl
theorem fs_b1 : ∀ a b c : Bool, (a ^^ b) = c → b = true → a = !c := by decide
theorem fs_Tab_col {n p a : Nat} {K : Nat → fs_E} {P : Nat → fs_V} {h : Int64} (T : fs_Tab n K P) (hp : p < n) (ha : a < n) (hk : fs_om (K p).1 (fs_Zv a) = true) : fs_Tab n (fs_col K p (fs_Zv a, 0#2, h)) (fs_colP K P p (fs_Zv a)) := by
  obtain ⟨t0, t1, t2, t3, t4, t5⟩ := T
  have cp : fs_col K p (fs_Zv a, 0#2, h) p = (fs_Zv a, 0#2, h) := by unfold fs_col; rw [if_pos rfl]
  have pp : fs_colP K P p (fs_Zv a) p = (K p).1 := by unfold fs_colP; rw [if_pos rfl]
  have cn : ∀ i, i ≠ p → (fs_col K p (fs_Zv a, 0#2, h) i).1 = if fs_om (K i).1 (fs_Zv a) = true then fs_va (K i).1 (K p).1 else (K i).1 := by
    intro i hip
    unfold fs_col
    rw [if_neg hip]
    show (if fs_om (K i).1 (fs_Zv a) = true then fs_mul (K i) (K p) else K i).1 = _
    split <;> rfl
  have pn : ∀ i, i ≠ p → fs_colP K P p (fs_Zv a) i = if fs_om (P i) (fs_Zv a) = true then fs_va (P i) (K p).1 else P i := by
    intro i hip
    unfold fs_colP
    rw [if_neg hip]
  have ci : ∀ i, i < n → i ≠ p → fs_Sp n K (fs_col K p (fs_Zv a, 0#2, h) i) ∧ fs_om (fs_col K p (fs_Zv a, 0#2, h) i).1 (fs_Zv a) = false := fun i hi hip => fs_col_in hp hi hip hk
  refine ⟨t0, fun i j hi hj => ?_, fun i hi => ?_, fun i j hi hj => ?_, fun i hi => ?_, fun v hv h1 h2 => ?_⟩
  · by_cases hip : i = p
    · subst hip
      rw [cp]
      by_cases hjp : j = i
      · subst hjp; rw [cp]; exact fs_om_s _
      · rw [fs_om_c]; exact (ci j hj hjp).2
    · by_cases hjp : j = p
      · subst hjp; rw [cp]; exact (ci i hi hip).2
      · exact fs_Sp_om t1 (ci i hi hip).1 (ci j hj hjp).1
  · by_cases hip : i = p
    · subst hip; rw [cp]; exact fs_inv_Z a h
    · exact fs_Sp_inv t1 t2 (ci i hi hip).1
  · have kk : ∀ j, j < n → j ≠ p → ∀ u : fs_V, fs_om u (fs_col K p (fs_Zv a, 0#2, h) j).1 = (fs_om u (K j).1 ^^ (fs_om (K j).1 (fs_Zv a) && fs_om u (K p).1)) := by
      intro j hj hjp u
      rw [cn j hjp]
      split
      · rename_i q; rw [fs_om_r, q, Bool.true_and]
      · rename_i q; rw [fs_ndt _ q, Bool.false_and, Bool.xor_false]
    by_cases hip : i = p
    · subst hip
      rw [pp]
      by_cases hjp : j = i
      · subst hjp
        rw [cp, decide_eq_true rfl]; exact hk
      · rw [kk j hj hjp, fs_om_s, t1 i j hi hj, decide_eq_false (Ne.symm hjp)]
        simp
    · have pk : ∀ u : fs_V, fs_om (fs_colP K P p (fs_Zv a) i) u = (fs_om (P i) u ^^ (fs_om (P i) (fs_Zv a) && fs_om (K p).1 u)) := by
        intro u
        rw [pn i hip]
        split
        · rename_i q; rw [fs_om_l, q, Bool.true_and]
        · rename_i q; rw [fs_ndt _ q, Bool.false_and, Bool.xor_false]
      by_cases hjp : j = p
      · subst hjp
        rw [cp]
        show fs_om _ (fs_Zv a) = _
        rw [pk, hk, Bool.and_true, Bool.xor_self, decide_eq_false hip]
      · rw [kk j hj hjp, pk, pk, t3 i j hi hj, t3 i p hi hp, t1 p j hp hj, fs_om_s, decide_eq_false hip]
        simp
  · by_cases hip : i = p
    · subst hip; rw [cp, pp]; exact ⟨fs_su_Z ha, (t4 i hi).1⟩
    · rw [cn i hip, pn i hip]
      constructor
      · split
        · exact fs_su_a (t4 i hi).1 (t4 p hp).1
        · exact (t4 i hi).1
      · split
        · exact fs_su_a (t4 i hi).2 (t4 p hp).1
        · exact (t4 i hi).2
  · have hKp : fs_om (K p).1 v = false := by have := h2 p hp; rw [pp] at this; exact this
    have hZ : fs_om (fs_Zv a) v = false := by have := h1 p hp; rw [cp] at this; exact this
    have hK : ∀ i, i < n → fs_om (K i).1 v = false := by
      intro i hi
      by_cases hip : i = p
      · subst hip; exact hKp
      · have := h1 i hi
        rw [cn i hip] at this
        split at this
        · rw [fs_om_l, hKp, Bool.xor_false] at this; exact this
        · exact this
    have hP : ∀ i, i < n → i ≠ p → fs_om (P i) v = false := by
      intro i hi hip
      have := h2 i hi
      rw [pn i hip] at this
      split at this
      · rw [fs_om_l, hKp, Bool.xor_false] at this; exact this
      · exact this
    by_cases hPp : fs_om (P p) v = true
    · have e : fs_va v (K p).1 = fs_v0 := by
        refine t5 _ (fs_su_a hv (t4 p hp).1) (fun i hi => ?_) (fun i hi => ?_)
        · rw [fs_om_r, hK i hi, t1 i p hi hp]; rfl
        · rw [fs_om_r, t3 i p hi hp]
          by_cases hip : i = p
          · subst hip; rw [hPp, decide_eq_true rfl]; rfl
          · rw [hP i hi hip, decide_eq_false hip]; rfl
      have e2 : v = (K p).1 := by
        have := congrArg (fun u => fs_va u (K p).1) e
        try dsimp only at this
        rw [fs_va_assoc, fs_va_self, fs_va_0, fs_va_0l] at this
        exact this
      rw [e2, fs_om_c, hk] at hZ
      cases hZ
    · exact t5 v hv hK (fun i hi => by
        by_cases hip : i = p
        · subst hip; exact fs_ndt _ hPp
        · exact hP i hi hip)
/-- a look that is told: the partners say of which keepers -/
theorem fs_told {n a : Nat} {K : Nat → fs_E} {P : Nat → fs_V} (T : fs_Tab n K P) (ha : a < n) (h : ∀ i, i < n → fs_om (K i).1 (fs_Zv a) = false) : (fs_pr K (fun i => fs_om (P i) (fs_Zv a)) n).1 = fs_Zv a := by
  obtain ⟨t0, t1, t2, t3, t4, t5⟩ := T
  have key : ∀ m, m ≤ n → ∀ i, i < n → fs_om (P i) (fs_pr K (fun i => fs_om (P i) (fs_Zv a)) m).1 = (decide (i < m) && fs_om (P i) (fs_Zv a)) := by
    intro m
    induction m with
    | zero =>
      intro _ i hi
      show fs_om (P i) fs_v0 = _
      rw [fs_om_0, decide_eq_false (Nat.not_lt_zero i)]; rfl
    | succ m ih =>
      intro hm i hi
      show fs_om (P i) (if fs_om (P m) (fs_Zv a) = true then fs_mul (fs_pr K (fun i => fs_om (P i) (fs_Zv a)) m) (K m) else fs_pr K (fun i => fs_om (P i) (fs_Zv a)) m).1 = _
      by_cases him : i = m
      · subst him
        rw [decide_eq_true (Nat.lt_succ_self i), Bool.true_and]
        split
        · rename_i q
          rw [fs_mul_v, fs_om_r, ih (by omega) i hi, decide_eq_false (Nat.lt_irrefl i), t3 i i hi hi, q]
          simp
        · rename_i q
          rw [ih (by omega) i hi, decide_eq_false (Nat.lt_irrefl i), fs_ndt _ q]; rfl
      · have e : decide (i < m + 1) = decide (i < m) := by
          by_cases q : i < m
          · rw [decide_eq_true q, decide_eq_true (by omega)]
          · rw [decide_eq_false q, decide_eq_false (by omega)]
        rw [e]
        split
        · rw [fs_mul_v, fs_om_r, ih (by omega) i hi, t3 i m hi (by omega), decide_eq_false him, Bool.xor_false]
        · exact ih (by omega) i hi
  have hin : fs_Sp n K (fs_pr K (fun i => fs_om (P i) (fs_Zv a)) n) := fs_pr_in (Nat.le_refl n)
  have hsu : fs_su n (fs_pr K (fun i => fs_om (P i) (fs_Zv a)) n).1 := hin (fun g => fs_su n g.1) fs_su_0 (fun g j hj hg => fs_su_a hg (t4 j hj).1)
  have e : fs_va (fs_pr K (fun i => fs_om (P i) (fs_Zv a)) n).1 (fs_Zv a) = fs_v0 := by
    refine t5 _ (fs_su_a hsu (fs_su_Z ha)) (fun i hi => ?_) (fun i hi => ?_)
    · rw [fs_om_r, h i hi, Bool.xor_false]
      exact fs_Sp_om t1 (fs_Sp_g hi) hin
    · rw [fs_om_r, key n (Nat.le_refl n) i hi, decide_eq_true hi, Bool.true_and, Bool.xor_self]
  have := congrArg (fun u => fs_va u (fs_Zv a)) e
  try dsimp only at this
  rw [fs_va_assoc, fs_va_self, fs_va_0, fs_va_0l] at this
  exact this
-- elimination
def fs_cl (c : Nat) (v : fs_V) : Bool := if c < 10 then v.1 c else v.2 (c - 10)
theorem fs_cl_a (c : Nat) (u v : fs_V) : fs_cl c (fs_va u v) = (fs_cl c u ^^ fs_cl c v) := by
  unfold fs_cl fs_va
  split <;> rfl
theorem fs_cl_0 (c : Nat) : fs_cl c fs_v0 = false := by
  unfold fs_cl fs_v0
  split <;> rfl
def fs_VS (n : Nat) (us : Nat → Bool) (R : Nat → fs_E) (v : fs_V) : Prop := ∀ S : fs_V → Prop, S fs_v0 → (∀ (v : fs_V) (i : Nat), i < n → us i = false → S v → S (fs_va v (R i).1)) → S v
theorem fs_VS_r {n : Nat} {us : Nat → Bool} {R : Nat → fs_E} {v : fs_V} {i : Nat} (hi : i < n) (hu : us i = false) (h : fs_VS n us R v) : fs_VS n us R (fs_va v (R i).1) := fun S h1 h2 => h2 _ i hi hu (h S h1 h2)
theorem fs_VS_of {n : Nat} {us : Nat → Bool} {R : Nat → fs_E} (hu : ∀ i, i < n → us i = false) {g : fs_E} (h : fs_Sp n R g) : fs_VS n us R g.1 :=
  h (fun g => fs_VS n us R g.1) (fun _ h1 _ => h1) (fun _ i hi hk => fs_VS_r hi (hu i hi) hk)
theorem fs_VS_cl {n c : Nat} {us : Nat → Bool} {R : Nat → fs_E} {v : fs_V} (h0 : ∀ i, i < n → us i = false → fs_cl c (R i).1 = false) (h : fs_VS n us R v) : fs_cl c v = false :=
  h (fun v => fs_cl c v = false) (fs_cl_0 c) (fun v i hi hu hv => by rw [fs_cl_a, hv, h0 i hi hu]; rfl)
/-- the rows behind a pivot p of column c -/
def fs_el (us : Nat → Bool) (R : Nat → fs_E) (p c : Nat) : Nat → fs_E := fun i => if us i = false ∧ i ≠ p ∧ fs_cl c (R i).1 = true then fs_mul (R i) (R p) else R i
theorem fs_VS_el {n p c : Nat} {us : Nat → Bool} {R : Nat → fs_E} {v : fs_V} (hpc : fs_cl c (R p).1 = true) (h : fs_VS n us R v) : fs_VS n (fs_up us p true) (fs_el us R p c) (if fs_cl c v = true then fs_va v (R p).1 else v) := by
  refine h (fun v => fs_VS n (fs_up us p true) (fs_el us R p c) (if fs_cl c v = true then fs_va v (R p).1 else v)) ?_ ?_
  · rw [fs_cl_0, if_neg (by decide)]
    exact fun _ h1 _ => h1
  · intro v i hi hu hv
    by_cases hip : i = p
    · subst hip
      rw [fs_cl_a, hpc]
      cases hc : fs_cl c v with
      | true =>
        rw [hc, if_pos rfl] at hv
        rw [if_neg (by decide)]
        exact hv
      | false =>
        rw [hc, if_neg (by decide)] at hv
        rw [if_pos (by decide), fs_va_assoc, fs_va_self, fs_va_0]
        exact hv
    · have hu' : fs_up us p true i = false := by rw [fs_up_n hip]; exact hu
      have h1 := fs_VS_r hi hu' hv
      cases hr : fs_cl c (R i).1 with
      | false =>
        have e : fs_el us R p c i = R i := by unfold fs_el; rw [if_neg (fun q => by rw [hr] at q; exact absurd q.2.2 (by decide))]
        rw [e] at h1
        rw [fs_cl_a, hr, Bool.xor_false]
        split
        · rename_i hc
          rw [if_pos hc, fs_va_assoc, fs_va_comm (R p).1, ← fs_va_assoc] at h1
          exact h1
        · rename_i hc
          rw [if_neg hc] at h1
          exact h1
      | true =>
        have e : (fs_el us R p c i).1 = fs_va (R i).1 (R p).1 := by unfold fs_el; rw [if_pos ⟨hu, hip, hr⟩]; rfl
        rw [e] at h1
        rw [fs_cl_a, hr]
        cases hc : fs_cl c v with
        | true =>
          rw [hc, if_pos rfl, fs_va_assoc, fs_va_comm (R i).1, ← fs_va_assoc (R p).1, fs_va_self, fs_va_0l] at h1
          rw [if_neg (by decide)]
          exact h1
        | false =>
          rw [hc, if_neg (by decide), ← fs_va_assoc] at h1
          rw [if_pos (by decide)]
          exact h1
theorem fs_el_Sp {n p c : Nat} {us : Nat → Bool} {R : Nat → fs_E} (hp : p < n) (hI : fs_inv (R p)) (g : fs_E) : fs_Sp n (fs_el us R p c) g ↔ fs_Sp n R g := by
  have ep : fs_el us R p c p = R p := by unfold fs_el; rw [if_neg (fun q => q.2.1 rfl)]
  constructor
  · refine fs_Sp_le (fun i hi => ?_)
    unfold fs_el
    split
    · exact fs_Sp_mul (fs_Sp_g hi) (fs_Sp_g hp)
    · exact fs_Sp_g hi
  · refine fs_Sp_le (fun i hi => ?_)
    have h1 := fs_Sp_g (R := fs_el us R p c) hi
    have h2 := fs_Sp_g (R := fs_el us R p c) hp
    rw [ep] at h2
    by_cases q : us i = false ∧ i ≠ p ∧ fs_cl c (R i).1 = true
    · have e : fs_el us R p c i = fs_mul (R i) (R p) := by unfold fs_el; rw [if_pos q]
      rw [e] at h1
      have h3 := fs_Sp_mul h1 h2
      rw [fs_mul_assoc, show fs_mul (R p) (R p) = fs_one from hI, fs_mul_1] at h3
      exact h3
    · have e : fs_el us R p c i = R i := by unfold fs_el; rw [if_neg q]
      rw [e] at h1
      exact h1
/-- before column c: the rows span what they did, unused ones are 0 in the columns before, what is made lacks a part that unused rows span -/
def fs_El (n : Nat) (G : fs_E → Prop) (z : fs_V) (c : Nat) (us : Nat → Bool) (R : Nat → fs_E) (md : fs_E) : Prop :=
  (∀ g, fs_Sp n R g ↔ G g) ∧ (∀ i, i < n → us i = false → ∀ d, d < c → fs_cl d (R i).1 = false) ∧ fs_VS n us R (fs_va md.1 z) ∧ G md
theorem fs_El_0 {n : Nat} {G : fs_E → Prop} {z : fs_V} {R : Nat → fs_E} {us : Nat → Bool} (hu : ∀ i, i < n → us i = false) (hS : ∀ g, fs_Sp n R g ↔ G g) {g : fs_E} (hg : G g) (hz : g.1 = z) : fs_El n G z 0 us R fs_one := by
  refine ⟨hS, fun _ _ _ d hd => absurd hd (Nat.not_lt_zero d), ?_, (hS _).mp fs_Sp_1⟩
  have := fs_VS_of (us := us) hu ((hS g).mpr hg)
  rw [hz] at this
  show fs_VS n us R (fs_va fs_v0 z)
  rw [fs_va_0l]
  exact this
theorem fs_El_no {n c : Nat} {G : fs_E → Prop} {z : fs_V} {R : Nat → fs_E} {us : Nat → Bool} {md : fs_E} (E : fs_El n G z c us R md) (h : ∀ i, i < n → us i = false → fs_cl c (R i).1 = false) : fs_El n G z (c + 1) us R md ∧ fs_cl c (fs_va md.1 z) = false := by
  obtain ⟨e1, e2, e3, e4⟩ := E
  refine ⟨⟨e1, fun i hi hu d hd => ?_, e3, e4⟩, fs_VS_cl h e3⟩
  rcases Nat.lt_or_ge d c with q | q
  · exact e2 i hi hu d q
  · rw [show d = c by omega]; exact h i hi hu
theorem fs_El_yes {n c p : Nat} {G : fs_E → Prop} {z : fs_V} {R : Nat → fs_E} {us : Nat → Bool} {md : fs_E} (E : fs_El n G z c us R md) (hI : ∀ g, G g → fs_inv g) (hp : p < n) (hup : us p = false) (hpc : fs_cl c (R p).1 = true) :
    fs_El n G z (c + 1) (fs_up us p true) (fs_el us R p c) (if fs_cl c (fs_va md.1 z) = true then fs_mul md (R p) else md) := by
  obtain ⟨e1, e2, e3, e4⟩ := E
  have hIp := hI _ ((e1 _).mp (fs_Sp_g hp))
  refine ⟨fun g => (fs_el_Sp hp hIp g).trans (e1 g), fun i hi hu d hd => ?_, ?_, ?_⟩
  · have hip : i ≠ p := fun q => by rw [q, fs_up_s] at hu; cases hu
    rw [fs_up_n hip] at hu
    unfold fs_el
    by_cases hc : fs_cl c (R i).1 = true
    · rw [if_pos ⟨hu, hip, hc⟩, fs_mul_v, fs_cl_a]
      rcases Nat.lt_or_ge d c with q | q
      · rw [e2 i hi hu d q, e2 p hp hup d q]; rfl
      · rw [show d = c by omega, hc, hpc]; rfl
    · rw [if_neg (fun q => hc q.2.2)]
      rcases Nat.lt_or_ge d c with q | q
      · exact e2 i hi hu d q
      · rw [show d = c by omega]; exact fs_ndt _ hc
  · have := fs_VS_el hpc e3
    by_cases q : fs_cl c (fs_va md.1 z) = true
    · rw [if_pos q] at this ⊢
      rw [fs_mul_v, fs_va_assoc, fs_va_comm (R p).1, ← fs_va_assoc]
      exact this
    · rw [if_neg q] at this ⊢
      exact this
  · split
    · exact (e1 _).mp (fs_Sp_mul ((e1 _).mpr e4) (fs_Sp_g hp))
    · exact e4
theorem fs_El_end {n : Nat} {G : fs_E → Prop} {z : fs_V} {R : Nat → fs_E} {us : Nat → Bool} {md : fs_E} (E : fs_El n G z 20 us R md) (hz : fs_su 10 z) (hG : ∀ g, G g → fs_su 10 g.1) : md.1 = z := by
  obtain ⟨e1, e2, e3, e4⟩ := E
  have h0 : ∀ c, c < 20 → fs_cl c (fs_va md.1 z) = false := fun c hc => fs_VS_cl (fun i hi hu => e2 i hi hu c hc) e3
  have e : fs_va md.1 z = fs_v0 := by
    refine fs_V_ext fun w => ?_
    rcases Nat.lt_or_ge w 10 with q | q
    · have a := h0 w (by omega)
      have b := h0 (w + 10) (by omega)
      unfold fs_cl at a b
      rw [if_pos q] at a
      rw [if_neg (by omega), show w + 10 - 10 = w by omega] at b
      exact ⟨a, b⟩
    · exact fs_su_a (hG _ e4) hz w q
  have := congrArg (fun u => fs_va u z) e
  try dsimp only at this
  rw [fs_va_assoc, fs_va_self, fs_va_0, fs_va_0l] at this
  exact this
end
section
-- the gates, on products and on rows
theorem fs_up_xor (f g : Nat → Bool) (a : Nat) (x y : Bool) : fs_up (fun w => f w ^^ g w) a (x ^^ y) = fun w => fs_up f a x w ^^ fs_up g a y w := by
  funext w
  unfold fs_up
  split <;> rfl
def fs_e0 : fs_V → Int64 := fun _ => 0
theorem fs_e0_h (u v : fs_V) : fs_e0 (fs_va u v) = fs_e0 u ^^^ fs_e0 v := by unfold fs_e0; decide
def fs_gaH (a : Nat) (v : fs_V) : fs_V := (fs_up v.1 a (v.2 a), fs_up v.2 a (v.1 a))
def fs_alH (a : Nat) (v : fs_V) : BitVec 2 := fs_d (v.1 a && v.2 a)
def fs_gaS (a : Nat) (v : fs_V) : fs_V := (v.1, fs_up v.2 a (v.2 a ^^ v.1 a))
def fs_alS (a : Nat) (v : fs_V) : BitVec 2 := fs_o (v.1 a)
def fs_gaC (a b : Nat) (v : fs_V) : fs_V := (fs_up v.1 b (v.1 b ^^ v.1 a), fs_up v.2 a (v.2 a ^^ v.2 b))
def fs_al0 (_ : fs_V) : BitVec 2 := 0#2
def fs_gaD (a b : Nat) (v : fs_V) : fs_V := (v.1, fs_up (fs_up v.2 a (v.2 a ^^ v.1 b)) b (v.2 b ^^ v.1 a))
def fs_alD (a b : Nat) (v : fs_V) : BitVec 2 := fs_d (v.1 a && v.1 b)
def fs_gaW (a b : Nat) (v : fs_V) : fs_V := (fs_up (fs_up v.1 a (v.1 b)) b (v.1 a), fs_up (fs_up v.2 a (v.2 b)) b (v.2 a))
def fs_gaI (v : fs_V) : fs_V := v
def fs_alX (a : Nat) (v : fs_V) : BitVec 2 := fs_d (v.2 a)
def fs_alZ (a : Nat) (v : fs_V) : BitVec 2 := fs_d (v.1 a)
def fs_alR (a : Nat) (c : Bool) (v : fs_V) : BitVec 2 := fs_d (c && v.2 a)
def fs_etR (a : Nat) (r : Int64) (v : fs_V) : Int64 := if v.2 a = true then r else 0
theorem fs_k1 : ∀ (xu zu xv zv l : Bool), fs_d ((xu ^^ xv) && (zu ^^ zv)) + fs_d l = fs_d (xu && zu) + fs_d (xv && zv) + fs_d (l ^^ ((xu && zv) ^^ (zu && xv))) := by decide +kernel
theorem fs_hom_H {a : Nat} (ha : a < 10) : fs_Hom (fs_gaH a) (fs_alH a) fs_e0 := by
  refine ⟨fun u v => ?_, fun u v => ?_, fs_e0_h⟩
  · exact Prod.ext (fs_up_xor _ _ _ _ _) (fs_up_xor _ _ _ _ _)
  · have e : fs_lp (fs_gaH a u).2 (fs_gaH a v).1 = (fs_lp u.2 v.1 ^^ ((u.1 a && v.2 a) ^^ (u.2 a && v.1 a))) := by
      unfold fs_lp fs_gaH
      dsimp only
      rw [fs_par_upd (g := fun w => u.2 w && v.1 w) ha (fun w _ hw => by rw [fs_up_n hw, fs_up_n hw])]
      rw [fs_up_s, fs_up_s]
    rw [e]
    exact fs_k1 _ _ _ _ _
theorem fs_k2 : ∀ (xu zu xv l : Bool), fs_o (xu ^^ xv) + fs_d l = fs_o xu + fs_o xv + fs_d (l ^^ (((zu ^^ xu) && xv) ^^ (zu && xv))) := by decide +kernel
theorem fs_hom_S {a : Nat} (ha : a < 10) : fs_Hom (fs_gaS a) (fs_alS a) fs_e0 := by
  refine ⟨fun u v => ?_, fun u v => ?_, fs_e0_h⟩
  · refine Prod.ext rfl ?_
    show fs_up (fun w => u.2 w ^^ v.2 w) a ((u.2 a ^^ v.2 a) ^^ (u.1 a ^^ v.1 a)) = _
    rw [fs_bx4]
    exact fs_up_xor _ _ _ _ _
  · have e : fs_lp (fs_gaS a u).2 (fs_gaS a v).1 = (fs_lp u.2 v.1 ^^ (((u.2 a ^^ u.1 a) && v.1 a) ^^ (u.2 a && v.1 a))) := by
      unfold fs_lp fs_gaS
      dsimp only
      rw [fs_par_upd (g := fun w => u.2 w && v.1 w) ha (fun w _ hw => by rw [fs_up_n hw])]
      rw [fs_up_s]
    rw [e]
    exact fs_k2 _ _ _ _
theorem fs_k3 : ∀ (zua zub xva xvb l : Bool), 0#2 + fs_d l = 0#2 + 0#2 + fs_d (l ^^ ((((zua ^^ zub) && xva) ^^ (zua && xva)) ^^ ((zub && (xvb ^^ xva)) ^^ (zub && xvb)))) := by decide +kernel
theorem fs_hom_C {a b : Nat} (ha : a < 10) (hb : b < 10) (hab : a ≠ b) : fs_Hom (fs_gaC a b) fs_al0 fs_e0 := by
  refine ⟨fun u v => ?_, fun u v => ?_, fs_e0_h⟩
  · refine Prod.ext ?_ ?_
    · show fs_up (fun w => u.1 w ^^ v.1 w) b ((u.1 b ^^ v.1 b) ^^ (u.1 a ^^ v.1 a)) = _
      rw [fs_bx4]
      exact fs_up_xor _ _ _ _ _
    · show fs_up (fun w => u.2 w ^^ v.2 w) a ((u.2 a ^^ v.2 a) ^^ (u.2 b ^^ v.2 b)) = _
      rw [fs_bx4]
      exact fs_up_xor _ _ _ _ _
  · have e : fs_lp (fs_gaC a b u).2 (fs_gaC a b v).1 = (fs_lp u.2 v.1 ^^ ((((u.2 a ^^ u.2 b) && v.1 a) ^^ (u.2 a && v.1 a)) ^^ ((u.2 b && (v.1 b ^^ v.1 a)) ^^ (u.2 b && v.1 b)))) := by
      unfold fs_lp fs_gaC
      dsimp only
      rw [fs_par_upd2 (g := fun w => u.2 w && v.1 w) ha hb hab (fun w _ hwa hwb => by rw [fs_up_n hwa, fs_up_n hwb])]
      rw [fs_up_s, fs_up_s, fs_up_n hab, fs_up_n (Ne.symm hab)]
    rw [e]
    exact fs_k3 _ _ _ _ _
theorem fs_k4 : ∀ (zua zub xua xub xva xvb l : Bool), fs_d ((xua ^^ xva) && (xub ^^ xvb)) + fs_d l = fs_d (xua && xub) + fs_d (xva && xvb) + fs_d (l ^^ ((((zua ^^ xub) && xva) ^^ (zua && xva)) ^^ (((zub ^^ xua) && xvb) ^^ (zub && xvb)))) := by decide +kernel
theorem fs_hom_D {a b : Nat} (ha : a < 10) (hb : b < 10) (hab : a ≠ b) : fs_Hom (fs_gaD a b) (fs_alD a b) fs_e0 := by
  refine ⟨fun u v => ?_, fun u v => ?_, fs_e0_h⟩
  · refine Prod.ext rfl ?_
    show fs_up (fs_up (fun w => u.2 w ^^ v.2 w) a ((u.2 a ^^ v.2 a) ^^ (u.1 b ^^ v.1 b))) b ((u.2 b ^^ v.2 b) ^^ (u.1 a ^^ v.1 a)) = _
    rw [fs_bx4, fs_bx4 (u.2 b), fs_up_xor, fs_up_xor]
    rfl
  · have e : fs_lp (fs_gaD a b u).2 (fs_gaD a b v).1 = (fs_lp u.2 v.1 ^^ ((((u.2 a ^^ u.1 b) && v.1 a) ^^ (u.2 a && v.1 a)) ^^ (((u.2 b ^^ u.1 a) && v.1 b) ^^ (u.2 b && v.1 b)))) := by
      unfold fs_lp fs_gaD
      dsimp only
      rw [fs_par_upd2 (g := fun w => u.2 w && v.1 w) ha hb hab (fun w _ hwa hwb => by rw [fs_up_n hwb, fs_up_n hwa])]
      rw [fs_up_s, fs_up_n hab, fs_up_s]
    rw [e]
    exact fs_k4 _ _ _ _ _ _ _
theorem fs_k5 : ∀ (zua zub xva xvb l : Bool), 0#2 + fs_d l = 0#2 + 0#2 + fs_d (l ^^ (((zub && xvb) ^^ (zua && xva)) ^^ ((zua && xva) ^^ (zub && xvb)))) := by decide +kernel
theorem fs_hom_W {a b : Nat} (ha : a < 10) (hb : b < 10) (hab : a ≠ b) : fs_Hom (fs_gaW a b) fs_al0 fs_e0 := by
  refine ⟨fun u v => ?_, fun u v => ?_, fs_e0_h⟩
  · refine Prod.ext ?_ ?_
    · show fs_up (fs_up (fun w => u.1 w ^^ v.1 w) a (u.1 b ^^ v.1 b)) b (u.1 a ^^ v.1 a) = _
      rw [fs_up_xor, fs_up_xor]
      rfl
    · show fs_up (fs_up (fun w => u.2 w ^^ v.2 w) a (u.2 b ^^ v.2 b)) b (u.2 a ^^ v.2 a) = _
      rw [fs_up_xor, fs_up_xor]
      rfl
  · have e : fs_lp (fs_gaW a b u).2 (fs_gaW a b v).1 = (fs_lp u.2 v.1 ^^ (((u.2 b && v.1 b) ^^ (u.2 a && v.1 a)) ^^ ((u.2 a && v.1 a) ^^ (u.2 b && v.1 b)))) := by
      unfold fs_lp fs_gaW
      dsimp only
      rw [fs_par_upd2 (g := fun w => u.2 w && v.1 w) ha hb hab (fun w _ hwa hwb => by rw [fs_up_n hwb, fs_up_n hwa, fs_up_n hwb, fs_up_n hwa])]
      rw [fs_up_s, fs_up_n hab, fs_up_s, fs_up_s, fs_up_n hab, fs_up_s]
    rw [e]
    exact fs_k5 _ _ _ _ _
theorem fs_hom_I {al : fs_V → BitVec 2} {et : fs_V → Int64} (ha : ∀ u v, al (fs_va u v) = al u + al v) (he : ∀ u v, et (fs_va u v) = et u ^^^ et v) : fs_Hom fs_gaI al et :=
  ⟨fun _ _ => rfl, fun u v => by rw [ha]; rfl, he⟩
theorem fs_hom_X (a : Nat) : fs_Hom fs_gaI (fs_alX a) fs_e0 := fs_hom_I (fun _ _ => fs_d_xor _ _) fs_e0_h
theorem fs_hom_Z (a : Nat) : fs_Hom fs_gaI (fs_alZ a) fs_e0 := fs_hom_I (fun _ _ => fs_d_xor _ _) fs_e0_h
theorem fs_k6 : ∀ c x y : Bool, fs_d (c && (x ^^ y)) = fs_d (c && x) + fs_d (c && y) := by decide
theorem fs_hom_R (a : Nat) (c : Bool) (r : Int64) : fs_Hom fs_gaI (fs_alR a c) (fs_etR a r) := fs_hom_I (fun _ _ => fs_k6 _ _ _) (fun u v => by
  unfold fs_etR fs_va
  dsimp only
  have key : ∀ x y : Bool, (if (x ^^ y) = true then r else (0 : Int64)) = (if x = true then r else 0) ^^^ (if y = true then r else 0) := by
    intro x y
    cases x with
    | true =>
      cases y with
      | true => rw [if_neg (by decide), if_pos rfl, fs_x64s]
      | false => rw [if_pos (by decide), if_pos rfl, if_neg (by decide), fs_x640]
    | false =>
      cases y with
      | true => rw [if_pos (by decide), if_neg (by decide), if_pos rfl, fs_x64c, fs_x640]
      | false => rw [if_neg (by decide), if_neg (by decide), fs_x640]
  exact key _ _)
theorem fs_xx : ∀ x y : Bool, ((x ^^ y) ^^ y) = x := by decide
theorem fs_ga2_H (a : Nat) (v : fs_V) : fs_gaH a (fs_gaH a v) = v := by
  refine fs_V_ext fun w => ?_
  unfold fs_gaH
  dsimp only
  by_cases h : w = a
  · subst h; simp only [fs_up_s]; exact ⟨trivial, trivial⟩
  · simp only [fs_up_n h]; exact ⟨trivial, trivial⟩
theorem fs_ga2_S (a : Nat) (v : fs_V) : fs_gaS a (fs_gaS a v) = v := by
  refine fs_V_ext fun w => ⟨rfl, ?_⟩
  unfold fs_gaS
  dsimp only
  by_cases h : w = a
  · subst h; simp only [fs_up_s]; exact fs_xx _ _
  · simp only [fs_up_n h]
theorem fs_ga2_C {a b : Nat} (hab : a ≠ b) (v : fs_V) : fs_gaC a b (fs_gaC a b v) = v := by
  refine fs_V_ext fun w => ⟨?_, ?_⟩
  · unfold fs_gaC
    dsimp only
    by_cases h : w = b
    · subst h; simp only [fs_up_s, fs_up_n hab]; exact fs_xx _ _
    · simp only [fs_up_n h]
  · unfold fs_gaC
    dsimp only
    by_cases h : w = a
    · subst h; simp only [fs_up_s, fs_up_n (Ne.symm hab)]; exact fs_xx _ _
    · simp only [fs_up_n h]
theorem fs_ga2_D {a b : Nat} (hab : a ≠ b) (v : fs_V) : fs_gaD a b (fs_gaD a b v) = v := by
  refine fs_V_ext fun w => ⟨rfl, ?_⟩
  unfold fs_gaD
  dsimp only
  by_cases h : w = b
  · subst h; simp only [fs_up_s]; exact fs_xx _ _
  · by_cases h2 : w = a
    · subst h2; simp only [fs_up_s, fs_up_n hab]; exact fs_xx _ _
    · simp only [fs_up_n h, fs_up_n h2]
theorem fs_ga2_W {a b : Nat} (hab : a ≠ b) (v : fs_V) : fs_gaW a b (fs_gaW a b v) = v := by
  refine fs_V_ext fun w => ?_
  unfold fs_gaW
  dsimp only
  by_cases h : w = b
  · subst h; simp only [fs_up_s, fs_up_n hab]; exact ⟨trivial, trivial⟩
  · by_cases h2 : w = a
    · subst h2; simp only [fs_up_s, fs_up_n hab]; exact ⟨trivial, trivial⟩
    · simp only [fs_up_n h, fs_up_n h2]; exact ⟨trivial, trivial⟩
theorem fs_su_up {n a : Nat} {f : Nat → Bool} {x : Bool} (ha : a < n) (h : ∀ w, n ≤ w → f w = false) : ∀ w, n ≤ w → fs_up f a x w = false := fun w hw => by rw [fs_up_n (by omega)]; exact h w hw
theorem fs_su_i {n : Nat} {v : fs_V} (h1 : ∀ w, n ≤ w → v.1 w = false) (h2 : ∀ w, n ≤ w → v.2 w = false) : fs_su n v := fun w hw => ⟨h1 w hw, h2 w hw⟩
theorem fs_su_gH {n a : Nat} (ha : a < n) {v : fs_V} (h : fs_su n v) : fs_su n (fs_gaH a v) := fs_su_i (fs_su_up ha fun w hw => (h w hw).1) (fs_su_up ha fun w hw => (h w hw).2)
theorem fs_su_gS {n a : Nat} (ha : a < n) {v : fs_V} (h : fs_su n v) : fs_su n (fs_gaS a v) := fs_su_i (fun w hw => (h w hw).1) (fs_su_up ha fun w hw => (h w hw).2)
theorem fs_su_gC {n a b : Nat} (ha : a < n) (hb : b < n) {v : fs_V} (h : fs_su n v) : fs_su n (fs_gaC a b v) := fs_su_i (fs_su_up hb fun w hw => (h w hw).1) (fs_su_up ha fun w hw => (h w hw).2)
theorem fs_su_gD {n a b : Nat} (ha : a < n) (hb : b < n) {v : fs_V} (h : fs_su n v) : fs_su n (fs_gaD a b v) := fs_su_i (fun w hw => (h w hw).1) (fs_su_up hb (fs_su_up ha fun w hw => (h w hw).2))
theorem fs_su_gW {n a b : Nat} (ha : a < n) (hb : b < n) {v : fs_V} (h : fs_su n v) : fs_su n (fs_gaW a b v) := fs_su_i (fs_su_up hb (fs_su_up ha fun w hw => (h w hw).1)) (fs_su_up hb (fs_su_up ha fun w hw => (h w hw).2))
-- a gate by its kind
def fs_ga (k a b : Nat) : fs_V → fs_V := match k with
  | 0 => fs_gaH a
  | 1 => fs_gaS a
  | 2 => fs_gaC a b
  | 3 => fs_gaD a b
  | 4 => fs_gaW a b
  | _ => fs_gaI
def fs_al (k a b : Nat) : fs_V → BitVec 2 := match k with
  | 0 => fs_alH a
  | 1 => fs_alS a
  | 2 => fs_al0
  | 3 => fs_alD a b
  | 4 => fs_al0
  | 5 => fs_alX a
  | _ => fs_alZ a
/-- a gate that there is -/
def fs_okg (n k a b : Nat) : Prop := k ≤ 6 ∧ a < n ∧ (2 ≤ k → k ≤ 4 → b < n ∧ a ≠ b)
theorem fs_kind7 {P : Nat → Prop} (h0 : P 0) (h1 : P 1) (h2 : P 2) (h3 : P 3) (h4 : P 4) (h5 : P 5) (h6 : P 6) {k : Nat} (h : k ≤ 6) : P k := by
  rcases (show k = 0 ∨ k = 1 ∨ k = 2 ∨ k = 3 ∨ k = 4 ∨ k = 5 ∨ k = 6 by omega) with rfl | rfl | rfl | rfl | rfl | rfl | rfl <;> assumption
theorem fs_hom_k {n k a b : Nat} (hn : n ≤ 10) (h : fs_okg n k a b) : fs_Hom (fs_ga k a b) (fs_al k a b) fs_e0 := by
  obtain ⟨h1, h2, h3⟩ := h
  revert h3
  refine fs_kind7 (P := fun k => (2 ≤ k → k ≤ 4 → b < n ∧ a ≠ b) → fs_Hom (fs_ga k a b) (fs_al k a b) fs_e0) ?_ ?_ ?_ ?_ ?_ ?_ ?_ h1 <;> intro q
  · exact fs_hom_H (by omega)
  · exact fs_hom_S (by omega)
  · obtain ⟨q1, q2⟩ := q (by omega) (by omega); exact fs_hom_C (by omega) (by omega) q2
  · obtain ⟨q1, q2⟩ := q (by omega) (by omega); exact fs_hom_D (by omega) (by omega) q2
  · obtain ⟨q1, q2⟩ := q (by omega) (by omega); exact fs_hom_W (by omega) (by omega) q2
  · exact fs_hom_X a
  · exact fs_hom_Z a
theorem fs_ga2_k {n k a b : Nat} (h : fs_okg n k a b) (v : fs_V) : fs_ga k a b (fs_ga k a b v) = v := by
  obtain ⟨h1, h2, h3⟩ := h
  revert h3
  refine fs_kind7 (P := fun k => (2 ≤ k → k ≤ 4 → b < n ∧ a ≠ b) → fs_ga k a b (fs_ga k a b v) = v) ?_ ?_ ?_ ?_ ?_ ?_ ?_ h1 <;> intro q
  · exact fs_ga2_H a v
  · exact fs_ga2_S a v
  · exact fs_ga2_C (q (by omega) (by omega)).2 v
  · exact fs_ga2_D (q (by omega) (by omega)).2 v
  · exact fs_ga2_W (q (by omega) (by omega)).2 v
  · rfl
  · rfl
theorem fs_su_k {n k a b : Nat} (h : fs_okg n k a b) {v : fs_V} (hv : fs_su n v) : fs_su n (fs_ga k a b v) := by
  obtain ⟨h1, h2, h3⟩ := h
  revert h3
  refine fs_kind7 (P := fun k => (2 ≤ k → k ≤ 4 → b < n ∧ a ≠ b) → fs_su n (fs_ga k a b v)) ?_ ?_ ?_ ?_ ?_ ?_ ?_ h1 <;> intro q
  · exact fs_su_gH h2 hv
  · exact fs_su_gS h2 hv
  · exact fs_su_gC h2 (q (by omega) (by omega)).1 hv
  · exact fs_su_gD h2 (q (by omega) (by omega)).1 hv
  · exact fs_su_gW h2 (q (by omega) (by omega)).1 hv
  · exact hv
  · exact hv
-- rows: bits, a sign, a set
abbrev fs_R : Type := fs_V × Bool × Int64
def fs_q (v : fs_V) : BitVec 2 := fs_s (fun w => fs_o (v.1 w && v.2 w)) 10
def fs_io (r : fs_R) : fs_E := (r.1, fs_d r.2.1 + fs_q r.1, r.2.2)
theorem fs_dinj : ∀ (a b : Bool) (q : BitVec 2), fs_d a + q = fs_d b + q → a = b := by decide +kernel
theorem fs_io_inj {r t : fs_R} (h : fs_io r = fs_io t) : r = t := by
  have h1 : r.1 = t.1 := congrArg (fun g : fs_E => g.1) h
  have h2 : fs_d r.2.1 + fs_q r.1 = fs_d t.2.1 + fs_q t.1 := congrArg (fun g : fs_E => g.2.1) h
  have h3 : r.2.2 = t.2.2 := congrArg (fun g : fs_E => g.2.2) h
  rw [h1] at h2
  exact Prod.ext h1 (Prod.ext (fs_dinj _ _ _ h2) h3)
def fs_sg (k a b : Nat) (v : fs_V) : Bool := match k with
  | 0 => v.1 a && v.2 a
  | 1 => v.1 a && v.2 a
  | 2 => v.1 a && v.2 b && (v.1 b ^^ v.2 a ^^ true)
  | 3 => v.1 a && v.1 b && (v.2 a ^^ v.2 b)
  | 4 => false
  | 5 => v.2 a
  | _ => v.1 a
/-- a gate on a row -/
def fs_gr (k a b : Nat) (r : fs_R) : fs_R := (fs_ga k a b r.1, r.2.1 ^^ fs_sg k a b r.1, r.2.2)
theorem fs_m0 : ∀ (c x z : Bool) (q : BitVec 2), fs_d (c ^^ (x && z)) + q = fs_d c + q + fs_d (x && z) := by decide +kernel
theorem fs_m1 : ∀ (c x z : Bool) (q : BitVec 2), fs_d (c ^^ (x && z)) + (q + (fs_o (x && (z ^^ x)) - fs_o (x && z))) = fs_d c + q + fs_o x := by decide +kernel
theorem fs_m2 : ∀ (c xa za xb zb : Bool) (q : BitVec 2), fs_d (c ^^ (xa && zb && (xb ^^ za ^^ true))) + (q + ((fs_o (xa && (za ^^ zb)) - fs_o (xa && za)) + (fs_o ((xb ^^ xa) && zb) - fs_o (xb && zb)))) = fs_d c + q + 0#2 := by decide +kernel
theorem fs_m3 : ∀ (c xa za xb zb : Bool) (q : BitVec 2), fs_d (c ^^ (xa && xb && (za ^^ zb))) + (q + ((fs_o (xa && (za ^^ xb)) - fs_o (xa && za)) + (fs_o (xb && (zb ^^ xa)) - fs_o (xb && zb)))) = fs_d c + q + fs_d (xa && xb) := by decide +kernel
theorem fs_m4 : ∀ (c xa za xb zb : Bool) (q : BitVec 2), fs_d (c ^^ false) + (q + ((fs_o (xb && zb) - fs_o (xa && za)) + (fs_o (xa && za) - fs_o (xb && zb)))) = fs_d c + q + 0#2 := by decide +kernel
theorem fs_m5 : ∀ (c z : Bool) (q : BitVec 2), fs_d (c ^^ z) + q = fs_d c + q + fs_d z := by decide +kernel
theorem fs_gr_io {n k a b : Nat} (hn : n ≤ 10) (h : fs_okg n k a b) (r : fs_R) : fs_io (fs_gr k a b r) = fs_ap (fs_ga k a b) (fs_al k a b) fs_e0 (fs_io r) := by
  obtain ⟨h1, h2, h3⟩ := h
  refine Prod.ext rfl (Prod.ext ?_ (fs_x640 _).symm)
  show fs_d (r.2.1 ^^ fs_sg k a b r.1) + fs_q (fs_ga k a b r.1) = fs_d r.2.1 + fs_q r.1 + fs_al k a b r.1
  revert h3
  refine fs_kind7 (P := fun k => (2 ≤ k → k ≤ 4 → b < n ∧ a ≠ b) → fs_d (r.2.1 ^^ fs_sg k a b r.1) + fs_q (fs_ga k a b r.1) = fs_d r.2.1 + fs_q r.1 + fs_al k a b r.1) ?_ ?_ ?_ ?_ ?_ ?_ ?_ h1 <;> intro q
  · have e : fs_q (fs_ga 0 a b r.1) = fs_q r.1 := fs_s_congr fun w _ => by
      show fs_o (fs_up r.1.1 a (r.1.2 a) w && fs_up r.1.2 a (r.1.1 a) w) = _
      by_cases hw : w = a
      · subst hw; rw [fs_up_s, fs_up_s, Bool.and_comm]
      · rw [fs_up_n hw, fs_up_n hw]
    rw [e]
    exact fs_m0 _ _ _ _
  · have e : fs_q (fs_ga 1 a b r.1) = fs_q r.1 + (fs_o (r.1.1 a && (r.1.2 a ^^ r.1.1 a)) - fs_o (r.1.1 a && r.1.2 a)) := by
      show fs_s (fun w => fs_o (r.1.1 w && fs_up r.1.2 a (r.1.2 a ^^ r.1.1 a) w)) 10 = _
      rw [fs_s_upd (g := fun w => fs_o (r.1.1 w && r.1.2 w)) (a := a) (by omega) (fun w _ hw => by rw [fs_up_n hw])]
      rw [fs_up_s]
      rfl
    rw [e]
    exact fs_m1 _ _ _ _
  · obtain ⟨q1, q2⟩ := q (by omega) (by omega)
    have e : fs_q (fs_ga 2 a b r.1) = fs_q r.1 + ((fs_o (r.1.1 a && (r.1.2 a ^^ r.1.2 b)) - fs_o (r.1.1 a && r.1.2 a)) + (fs_o ((r.1.1 b ^^ r.1.1 a) && r.1.2 b) - fs_o (r.1.1 b && r.1.2 b))) := by
      show fs_s (fun w => fs_o (fs_up r.1.1 b (r.1.1 b ^^ r.1.1 a) w && fs_up r.1.2 a (r.1.2 a ^^ r.1.2 b) w)) 10 = _
      rw [fs_s_upd2 (g := fun w => fs_o (r.1.1 w && r.1.2 w)) (a := a) (b := b) (by omega) (by omega) q2 (fun w _ hwa hwb => by rw [fs_up_n hwa, fs_up_n hwb])]
      rw [fs_up_s, fs_up_s, fs_up_n q2, fs_up_n (Ne.symm q2)]
      rfl
    rw [e]
    exact fs_m2 _ _ _ _ _ _
  · obtain ⟨q1, q2⟩ := q (by omega) (by omega)
    have e : fs_q (fs_ga 3 a b r.1) = fs_q r.1 + ((fs_o (r.1.1 a && (r.1.2 a ^^ r.1.1 b)) - fs_o (r.1.1 a && r.1.2 a)) + (fs_o (r.1.1 b && (r.1.2 b ^^ r.1.1 a)) - fs_o (r.1.1 b && r.1.2 b))) := by
      show fs_s (fun w => fs_o (r.1.1 w && fs_up (fs_up r.1.2 a (r.1.2 a ^^ r.1.1 b)) b (r.1.2 b ^^ r.1.1 a) w)) 10 = _
      rw [fs_s_upd2 (g := fun w => fs_o (r.1.1 w && r.1.2 w)) (a := a) (b := b) (by omega) (by omega) q2 (fun w _ hwa hwb => by rw [fs_up_n hwb, fs_up_n hwa])]
      rw [fs_up_s, fs_up_n q2, fs_up_s]
      rfl
    rw [e]
    exact fs_m3 _ _ _ _ _ _
  · obtain ⟨q1, q2⟩ := q (by omega) (by omega)
    have e : fs_q (fs_ga 4 a b r.1) = fs_q r.1 + ((fs_o (r.1.1 b && r.1.2 b) - fs_o (r.1.1 a && r.1.2 a)) + (fs_o (r.1.1 a && r.1.2 a) - fs_o (r.1.1 b && r.1.2 b))) := by
      show fs_s (fun w => fs_o (fs_up (fs_up r.1.1 a (r.1.1 b)) b (r.1.1 a) w && fs_up (fs_up r.1.2 a (r.1.2 b)) b (r.1.2 a) w)) 10 = _
      rw [fs_s_upd2 (g := fun w => fs_o (r.1.1 w && r.1.2 w)) (a := a) (b := b) (by omega) (by omega) q2 (fun w _ hwa hwb => by rw [fs_up_n hwb, fs_up_n hwa, fs_up_n hwb, fs_up_n hwa])]
      rw [fs_up_s, fs_up_n q2, fs_up_s, fs_up_s, fs_up_n q2, fs_up_s]
      rfl
    rw [e]
    exact fs_m4 _ _ _ _ _ _
  · exact fs_m5 _ _ _
  · exact fs_m5 _ _ _
-- products of rows
def fs_be (x1 z1 x2 z2 : Bool) : BitVec 2 := bif x1 then (bif z1 then fs_o z2 - fs_o x2 else bif z2 then (bif x2 then 1#2 else 3#2) else 0#2) else (bif z1 then (bif x2 then (bif z2 then 3#2 else 1#2) else 0#2) else 0#2)
def fs_S (u v : fs_V) : BitVec 2 := fs_s (fun w => fs_be (u.1 w) (u.2 w) (v.1 w) (v.2 w)) 10
/-- r multiplied by t (t first) -/
def fs_rm (t r : fs_R) : fs_R := (fs_va r.1 t.1, r.2.1 ^^ (t.2.1 ^^ (fs_S t.1 r.1).getLsbD 1), r.2.2 ^^^ t.2.2)
theorem fs_p1 : ∀ x1 z1 x2 z2 : Bool, fs_o ((x2 ^^ x1) && (z2 ^^ z1)) + fs_be x1 z1 x2 z2 = fs_o (x1 && z1) + fs_o (x2 && z2) + fs_d (z1 && x2) := by decide
theorem fs_p2 : ∀ x1 z1 x2 z2 : Bool, (fs_be x1 z1 x2 z2).getLsbD 0 = ((z1 && x2) ^^ (z2 && x1)) := by decide
theorem fs_p3 : ∀ s t : BitVec 2, (s + t).getLsbD 0 = (s.getLsbD 0 ^^ t.getLsbD 0) := by decide +kernel
theorem fs_p4 : ∀ s : BitVec 2, s.getLsbD 0 = false → s = fs_d (s.getLsbD 1) := by decide +kernel
theorem fs_s_bit (f : Nat → BitVec 2) (n : Nat) : (fs_s f n).getLsbD 0 = fs_par (fun w => (f w).getLsbD 0) n := by
  induction n with
  | zero => show (0#2).getLsbD 0 = false; decide
  | succ n ih =>
    show (fs_s f n + f n).getLsbD 0 = (fs_par (fun w => (f w).getLsbD 0) n ^^ (f n).getLsbD 0)
    rw [fs_p3, ih]
theorem fs_S_even (u v : fs_V) : (fs_S u v).getLsbD 0 = fs_om u v := by
  unfold fs_S fs_om fs_lp
  rw [fs_s_bit, ← fs_par_xor]
  exact fs_par_congr fun w _ => fs_p2 _ _ _ _
theorem fs_S_q (u v : fs_V) : fs_q (fs_va v u) + fs_S u v = fs_q u + fs_q v + fs_d (fs_lp u.2 v.1) := by
  unfold fs_q fs_S fs_lp
  rw [← fs_s_d, ← fs_s_add, ← fs_s_add, ← fs_s_add]
  exact fs_s_congr fun w _ => fs_p1 _ _ _ _
theorem fs_p5 : ∀ (c1 c2 s : Bool) (q q1 q2 l : BitVec 2), q + fs_d s = q1 + q2 + l → fs_d (c2 ^^ (c1 ^^ s)) + q = fs_d c1 + q1 + (fs_d c2 + q2) + l := by decide +kernel
theorem fs_rm_io {t r : fs_R} (h : fs_om t.1 r.1 = false) : fs_io (fs_rm t r) = fs_mul (fs_io t) (fs_io r) := by
  refine Prod.ext (fs_va_comm _ _) (Prod.ext ?_ (fs_x64c _ _))
  show fs_d (r.2.1 ^^ (t.2.1 ^^ (fs_S t.1 r.1).getLsbD 1)) + fs_q (fs_va r.1 t.1) = fs_d t.2.1 + fs_q t.1 + (fs_d r.2.1 + fs_q r.1) + fs_d (fs_lp t.1.2 r.1.1)
  refine fs_p5 _ _ _ _ _ _ _ ?_
  rw [← fs_p4 _ ((fs_S_even _ _).trans h)]
  exact fs_S_q _ _
theorem fs_rm_io' {t r : fs_R} (h : fs_om r.1 t.1 = false) : fs_io (fs_rm t r) = fs_mul (fs_io r) (fs_io t) := by
  rw [fs_rm_io (by rw [fs_om_c]; exact h), fs_mul_comm (by rw [fs_om_c]; exact h)]
end
section
-- two lists of rows that span the same: what each act does to both
def fs_Sim (n : Nat) (K : Nat → fs_R) (P : Nat → fs_V) (R : Nat → fs_R) : Prop := fs_Tab n (fun i => fs_io (K i)) P ∧ ∀ g, fs_Sp n (fun i => fs_io (R i)) g ↔ fs_Sp n (fun i => fs_io (K i)) g
theorem fs_Tab_congr {n : Nat} {K K' : Nat → fs_E} {P P' : Nat → fs_V} (T : fs_Tab n K P) (hK : ∀ i, i < n → K' i = K i) (hP : ∀ i, i < n → P' i = P i) : fs_Tab n K' P' := by
  obtain ⟨t0, t1, t2, t3, t4, t5⟩ := T
  refine ⟨t0, fun i j hi hj => ?_, fun i hi => ?_, fun i j hi hj => ?_, fun i hi => ?_, fun v hv h1 h2 => t5 v hv (fun i hi => ?_) (fun i hi => ?_)⟩
  · rw [hK i hi, hK j hj]; exact t1 i j hi hj
  · rw [hK i hi]; exact t2 i hi
  · rw [hP i hi, hK j hj]; exact t3 i j hi hj
  · rw [hK i hi, hP i hi]; exact t4 i hi
  · rw [← hK i hi]; exact h1 i hi
  · rw [← hP i hi]; exact h2 i hi
theorem fs_Sim_map {n : Nat} {K K' R R' : Nat → fs_R} {P P' : Nat → fs_V} (S : fs_Sim n K P R) {ga : fs_V → fs_V} {al : fs_V → BitVec 2} {et : fs_V → Int64} (H : fs_Hom ga al et) (hg : ∀ v, ga (ga v) = v) (hs : ∀ v, fs_su n v → fs_su n (ga v))
    (hK : ∀ i, i < n → fs_io (K' i) = fs_ap ga al et (fs_io (K i))) (hR : ∀ i, i < n → fs_io (R' i) = fs_ap ga al et (fs_io (R i))) (hP : ∀ i, i < n → P' i = ga (P i)) : fs_Sim n K' P' R' := by
  refine ⟨fs_Tab_congr (fs_Tab_ap S.1 H hg hs) hK hP, fun g => ?_⟩
  have a1 := fs_Sp_congr (n := n) (R := fun i => fs_io (R' i)) (R' := fun i => fs_ap ga al et (fs_io (R i))) hR g
  have a2 := fs_Sp_congr (n := n) (R := fun i => fs_io (K' i)) (R' := fun i => fs_ap ga al et (fs_io (K i))) hK g
  have b1 := fs_Sp_map (n := n) (R := fun i => fs_io (R i)) (fs_ap_1 H) (fs_ap_mul H) g
  have b2 := fs_Sp_map (n := n) (R := fun i => fs_io (K i)) (fs_ap_1 H) (fs_ap_mul H) g
  rw [a1, a2, b1, b2]
  constructor
  · rintro ⟨k, hk, e⟩; exact ⟨k, (S.2 k).mp hk, e⟩
  · rintro ⟨k, hk, e⟩; exact ⟨k, (S.2 k).mpr hk, e⟩
theorem fs_Sim_gate {n k a b : Nat} {K K' R R' : Nat → fs_R} {P P' : Nat → fs_V} (S : fs_Sim n K P R) (h : fs_okg n k a b) (hK : ∀ i, i < n → K' i = fs_gr k a b (K i)) (hR : ∀ i, i < n → R' i = fs_gr k a b (R i)) (hP : ∀ i, i < n → P' i = fs_ga k a b (P i)) : fs_Sim n K' P' R' :=
  fs_Sim_map S (fs_hom_k S.1.1 h) (fs_ga2_k h) (fun _ => fs_su_k h) (fun i hi => by rw [hK i hi]; exact fs_gr_io S.1.1 h _) (fun i hi => by rw [hR i hi]; exact fs_gr_io S.1.1 h _) hP
/-- the x of a reset -/
def fs_rr (a : Nat) (c : Bool) (h : Int64) (r : fs_R) : fs_R := if r.1.2 a = true then (r.1, r.2.1 ^^ c, r.2.2 ^^^ h) else r
theorem fs_rr_io (a : Nat) (c : Bool) (h : Int64) (r : fs_R) : fs_io (fs_rr a c h r) = fs_ap fs_gaI (fs_alR a c) (fs_etR a h) (fs_io r) := by
  unfold fs_rr fs_ap fs_alR fs_etR fs_gaI fs_io
  by_cases q : r.1.2 a = true
  · rw [if_pos q]
    dsimp only
    rw [if_pos q, q, Bool.and_true]
    exact Prod.ext rfl (Prod.ext (fs_m5 _ _ _) rfl)
  · rw [if_neg q]
    dsimp only
    rw [if_neg q, fs_ndt _ q, Bool.and_false, fs_x640]
    exact Prod.ext rfl (Prod.ext (by show _ = _ + 0#2; rw [BitVec.add_zero]) rfl)
theorem fs_Sim_reset {n a : Nat} {c : Bool} {h : Int64} {K K' R R' : Nat → fs_R} {P : Nat → fs_V} (S : fs_Sim n K P R) (hK : ∀ i, i < n → K' i = fs_rr a c h (K i)) (hR : ∀ i, i < n → R' i = fs_rr a c h (R i)) : fs_Sim n K' P R' :=
  fs_Sim_map S (fs_hom_R a c h) (fun _ => rfl) (fun _ q => q) (fun i hi => by rw [hK i hi]; exact fs_rr_io _ _ _ _) (fun i hi => by rw [hR i hi]; exact fs_rr_io _ _ _ _) (fun _ _ => rfl)
/-- the rows of a random look -/
def fs_cr (R : Nat → fs_R) (p a : Nat) (h : Int64) : Nat → fs_R := fun i => if i = p then (fs_Zv a, false, h) else if (R i).1.1 a = true then fs_rm (R p) (R i) else R i
theorem fs_q_Z (a : Nat) : fs_q (fs_Zv a) = 0#2 := by
  unfold fs_q fs_Zv
  dsimp only
  have e : fs_s (fun w => fs_o (false && decide (w = a))) 10 = fs_s (fun _ => fs_d false) 10 := fs_s_congr fun w _ => rfl
  rw [e, fs_s_d, fs_par_false]; rfl
theorem fs_cr_io {n p a : Nat} {R : Nat → fs_R} {h : Int64} (ha : a < 10) (hp : p < n) (hC : fs_Cm n (fun i => fs_io (R i))) {i : Nat} (hi : i < n) : fs_io (fs_cr R p a h i) = fs_col (fun i => fs_io (R i)) p (fs_Zv a, 0#2, h) i := by
  unfold fs_cr fs_col
  by_cases hip : i = p
  · rw [if_pos hip, if_pos hip]
    unfold fs_io
    dsimp only
    rw [fs_q_Z]; rfl
  · rw [if_neg hip, if_neg hip]
    show fs_io (if (R i).1.1 a = true then fs_rm (R p) (R i) else R i) = (if fs_om (R i).1 (fs_Zv a) = true then _ else _)
    rw [fs_om_Z ha]
    split
    · have hom : fs_om (fs_io (R i)).1 (fs_io (R p)).1 = false := hC i p hi hp
      exact fs_rm_io' (t := R p) (r := R i) hom
    · rfl
theorem fs_Sim_any {n a : Nat} {K R : Nat → fs_R} {P : Nat → fs_V} (S : fs_Sim n K P R) (ha : a < n) : (∀ i, i < n → (K i).1.1 a = false) ↔ (∀ i, i < n → (R i).1.1 a = false) := by
  have hn := S.1.1
  constructor
  · intro h i hi
    have h1 : fs_Sp n (fun i => fs_io (K i)) (fs_io (R i)) := (S.2 _).mp (fs_Sp_g (R := fun i => fs_io (R i)) hi)
    have := fs_Sp_om1 (v := fs_Zv a) (fun j hj => by rw [fs_om_Z (by omega)]; exact h j hj) h1
    rw [fs_om_Z (by omega)] at this
    exact this
  · intro h i hi
    have h1 : fs_Sp n (fun i => fs_io (R i)) (fs_io (K i)) := (S.2 _).mpr (fs_Sp_g (R := fun i => fs_io (K i)) hi)
    have := fs_Sp_om1 (v := fs_Zv a) (fun j hj => by rw [fs_om_Z (by omega)]; exact h j hj) h1
    rw [fs_om_Z (by omega)] at this
    exact this
theorem fs_Sim_rand {n a p q : Nat} {h : Int64} {K K' R R' : Nat → fs_R} {P P' : Nat → fs_V} (S : fs_Sim n K P R) (ha : a < n) (hp : p < n) (hq : q < n) (hKp : (K p).1.1 a = true) (hRq : (R q).1.1 a = true)
    (hK : ∀ i, i < n → K' i = fs_cr K p a h i) (hR : ∀ i, i < n → R' i = fs_cr R q a h i) (hP : ∀ i, i < n → P' i = if i = p then (K p).1 else if (P i).1 a = true then fs_va (P i) (K p).1 else P i) : fs_Sim n K' P' R' := by
  have hn := S.1.1
  have ha' : a < 10 := by omega
  obtain ⟨r1, r2, -⟩ := fs_Tab_Sp S.1 S.2
  have k1 := S.1.2.1
  have k2 := S.1.2.2.1
  have oK : fs_om (fs_io (K p)).1 (fs_Zv a) = true := by rw [fs_om_Z ha']; exact hKp
  have oR : fs_om (fs_io (R q)).1 (fs_Zv a) = true := by rw [fs_om_Z ha']; exact hRq
  refine ⟨fs_Tab_congr (fs_Tab_col (h := h) S.1 hp ha oK) (fun i hi => by rw [hK i hi]; exact fs_cr_io ha' hp k1 hi) (fun i hi => ?_), fun g => ?_⟩
  · rw [hP i hi]
    unfold fs_colP
    by_cases hip : i = p
    · rw [if_pos hip, if_pos hip]; rfl
    · rw [if_neg hip, if_neg hip, fs_om_Z ha']; rfl
  · have a1 := fs_Sp_congr (n := n) (R := fun i => fs_io (R' i)) (R' := fs_col (fun i => fs_io (R i)) q (fs_Zv a, 0#2, h)) (fun i hi => by rw [hR i hi]; exact fs_cr_io ha' hq r1 hi) g
    have a2 := fs_Sp_congr (n := n) (R := fun i => fs_io (K' i)) (R' := fs_col (fun i => fs_io (K i)) p (fs_Zv a, 0#2, h)) (fun i hi => by rw [hK i hi]; exact fs_cr_io ha' hp k1 hi) g
    rw [a1, a2, fs_Sp_col hq r1 r2 (fs_inv_Z a h) oR g, fs_Sp_col hp k1 k2 (fs_inv_Z a h) oK g]
    constructor
    · rintro ⟨k, hk, e⟩; exact ⟨k, (S.2 k).mp hk, e⟩
    · rintro ⟨k, hk, e⟩; exact ⟨k, (S.2 k).mpr hk, e⟩
-- a look that is told: the class's product
def fs_r1 : fs_R := (fs_v0, false, 0)
def fs_pd (K : Nat → fs_R) (P : Nat → fs_V) (a : Nat) : Nat → fs_R
  | 0 => fs_r1
  | i + 1 => if (P i).1 a = true then fs_rm (K i) (fs_pd K P a i) else fs_pd K P a i
theorem fs_io_1 : fs_io fs_r1 = fs_one := by
  unfold fs_io fs_r1 fs_one
  dsimp only
  have e : fs_q fs_v0 = 0#2 := by
    unfold fs_q fs_v0
    dsimp only
    have e : fs_s (fun _ => fs_o (false && false)) 10 = fs_s (fun _ => fs_d false) 10 := fs_s_congr fun w _ => rfl
    rw [e, fs_s_d, fs_par_false]; rfl
  rw [e]; rfl
theorem fs_pd_io {n a : Nat} {K : Nat → fs_R} {P : Nat → fs_V} (T : fs_Tab n (fun i => fs_io (K i)) P) (ha : a < 10) : ∀ m, m ≤ n → fs_io (fs_pd K P a m) = fs_pr (fun i => fs_io (K i)) (fun i => fs_om (P i) (fs_Zv a)) m := by
  intro m
  induction m with
  | zero => intro _; exact fs_io_1
  | succ m ih =>
    intro hm
    show fs_io (if (P m).1 a = true then fs_rm (K m) (fs_pd K P a m) else fs_pd K P a m) = (if fs_om (P m) (fs_Zv a) = true then fs_mul (fs_pr (fun i => fs_io (K i)) (fun i => fs_om (P i) (fs_Zv a)) m) (fs_io (K m)) else fs_pr (fun i => fs_io (K i)) (fun i => fs_om (P i) (fs_Zv a)) m)
    rw [fs_om_Z ha]
    have e := ih (by omega)
    split
    · have hin : fs_Sp n (fun i => fs_io (K i)) (fs_io (fs_pd K P a m)) := by rw [e]; exact fs_pr_in (by omega)
      have hom : fs_om (fs_io (fs_pd K P a m)).1 (fs_io (K m)).1 = false := fs_Sp_om (g := fs_io (fs_pd K P a m)) (h := fs_io (K m)) T.2.1 hin (fs_Sp_g (R := fun i => fs_io (K i)) (i := m) (by omega))
      rw [fs_rm_io' (t := K m) (r := fs_pd K P a m) hom, e]
    · exact e
theorem fs_Sim_told {n a : Nat} {K R R' : Nat → fs_R} {P : Nat → fs_V} {us : Nat → Bool} {md : fs_R} (S : fs_Sim n K P R) (ha : a < n) (h : ∀ i, i < n → (K i).1.1 a = false)
    (E : fs_El n (fs_Sp n (fun i => fs_io (K i))) (fs_Zv a) 20 us (fun i => fs_io (R' i)) (fs_io md)) : fs_Sim n K P R' ∧ md = fs_pd K P a n := by
  have hn := S.1.1
  have k1 := S.1.2.1
  have k2 := S.1.2.2.1
  refine ⟨⟨S.1, E.1⟩, fs_io_inj ?_⟩
  have hsu : ∀ g, fs_Sp n (fun i => fs_io (K i)) g → fs_su n g.1 := fun g hg => hg (fun g => fs_su n g.1) fs_su_0 (fun g j hj hg => fs_su_a hg (S.1.2.2.2.2.1 j hj).1)
  have hm : (fs_io md).1 = fs_Zv a := fs_El_end E (fs_su_Z (by omega)) (fun g hg w hw => hsu g hg w (by omega))
  have hp : (fs_io (fs_pd K P a n)).1 = fs_Zv a := by
    rw [fs_pd_io S.1 (by omega) n (Nat.le_refl n)]
    exact fs_told S.1 ha (fun i hi => by rw [fs_om_Z (by omega)]; exact h i hi)
  refine fs_Sp_one k1 k2 S.1.2.2.2.1 E.2.2.2 ?_ (hm.trans hp.symm)
  rw [fs_pd_io S.1 (by omega) n (Nat.le_refl n)]
  exact fs_pr_in (Nat.le_refl n)
/-- the start of the reference's elimination -/
theorem fs_Sim_el0 {n a : Nat} {K R : Nat → fs_R} {P : Nat → fs_V} {us : Nat → Bool} (S : fs_Sim n K P R) (ha : a < n) (h : ∀ i, i < n → (K i).1.1 a = false) (hu : ∀ i, i < n → us i = false) :
    fs_El n (fs_Sp n (fun i => fs_io (K i))) (fs_Zv a) 0 us (fun i => fs_io (R i)) (fs_io fs_r1) := by
  have hn := S.1.1
  rw [fs_io_1]
  refine fs_El_0 hu S.2 (g := fs_io (fs_pd K P a n)) ?_ ?_
  · rw [fs_pd_io S.1 (by omega) n (Nat.le_refl n)]
    exact fs_pr_in (Nat.le_refl n)
  · rw [fs_pd_io S.1 (by omega) n (Nat.le_refl n)]
    exact fs_told S.1 ha (fun i hi => by rw [fs_om_Z (by omega)]; exact h i hi)
/-- a row of the elimination with a pivot, in rows -/
def fs_er (us : Nat → Bool) (R : Nat → fs_R) (p c : Nat) : Nat → fs_R := fun i => if us i = false ∧ i ≠ p ∧ fs_cl c (R i).1 = true then fs_rm (R p) (R i) else R i
theorem fs_El_congr {n c : Nat} {G : fs_E → Prop} {z : fs_V} {us us' : Nat → Bool} {R R' : Nat → fs_E} {md : fs_E} (E : fs_El n G z c us R md) (hR : ∀ i, i < n → R' i = R i) (hu : ∀ i, i < n → us' i = us i) : fs_El n G z c us' R' md := by
  obtain ⟨e1, e2, e3, e4⟩ := E
  refine ⟨fun g => (fs_Sp_congr hR g).trans (e1 g), fun i hi hui d hd => ?_, fun Q h1 h2 => e3 Q h1 (fun v i hi hui hv => ?_), e4⟩
  · rw [hR i hi]; rw [hu i hi] at hui; exact e2 i hi hui d hd
  · rw [← hR i hi]; exact h2 v i hi (by rw [hu i hi]; exact hui) hv
theorem fs_El_step {n c p : Nat} {K : Nat → fs_E} {z : fs_V} {R R' : Nat → fs_R} {us us' : Nat → Bool} {md md' : fs_R} (hC : fs_Cm n K) (hI : ∀ i, i < n → fs_inv (K i)) (E : fs_El n (fs_Sp n K) z c us (fun i => fs_io (R i)) (fs_io md)) (hp : p < n) (hup : us p = false) (hpc : fs_cl c (R p).1 = true)
    (hR : ∀ i, i < n → R' i = fs_er us R p c i) (hu : ∀ i, i < n → us' i = fs_up us p true i) (hm : md' = if fs_cl c (fs_va md.1 z) = true then fs_rm (R p) md else md) :
    fs_El n (fs_Sp n K) z (c + 1) us' (fun i => fs_io (R' i)) (fs_io md') := by
  have h1 := fs_El_yes (c := c) (p := p) E (fun g hg => fs_Sp_inv hC hI hg) hp hup hpc
  have inG : ∀ i, i < n → fs_Sp n K (fs_io (R i)) := fun i hi => (E.1 _).mp (fs_Sp_g (R := fun i => fs_io (R i)) hi)
  have e : fs_io md' = if fs_cl c (fs_va (fs_io md).1 z) = true then fs_mul (fs_io md) (fs_io (R p)) else fs_io md := by
    rw [hm]
    show fs_io (if fs_cl c (fs_va md.1 z) = true then fs_rm (R p) md else md) = (if fs_cl c (fs_va md.1 z) = true then _ else _)
    split
    · have hom : fs_om (fs_io md).1 (fs_io (R p)).1 = false := fs_Sp_om (g := fs_io md) (h := fs_io (R p)) hC E.2.2.2 (inG p hp)
      exact fs_rm_io' (t := R p) (r := md) hom
    · rfl
  rw [e]
  refine fs_El_congr h1 (fun i hi => ?_) hu
  rw [hR i hi]
  unfold fs_er fs_el
  split
  · rename_i q
    rw [if_pos (show us i = false ∧ i ≠ p ∧ fs_cl c ((fun i => fs_io (R i)) i).1 = true from q)]
    have hom : fs_om (fs_io (R i)).1 (fs_io (R p)).1 = false := fs_Sp_om (g := fs_io (R i)) (h := fs_io (R p)) hC (inG i hi) (inG p hp)
    exact fs_rm_io' (t := R p) (r := R i) hom
  · rename_i q
    rw [if_neg (show ¬ (us i = false ∧ i ≠ p ∧ fs_cl c ((fun i => fs_io (R i)) i).1 = true) from q)]
end
section
-- the first family of kit/laws/BITS.to-paste, as given for pasting
def bt (x : Int32) (i : Nat) : Bool := x.toBitVec.getLsbD i
theorem b_ext {x y : Int32} (h : ∀ i, i < 32 → bt x i = bt y i) : x = y := Int32.toBitVec_inj.mp (BitVec.eq_of_getLsbD_eq (fun i hi => h i hi))
theorem b_or (x y : Int32) (i : Nat) : bt (x ||| y) i = (bt x i || bt y i) := by unfold bt; rw [Int32.toBitVec_or, BitVec.getLsbD_or]
theorem b_and (x y : Int32) (i : Nat) : bt (x &&& y) i = (bt x i && bt y i) := by unfold bt; rw [Int32.toBitVec_and, BitVec.getLsbD_and]
theorem b_xor (x y : Int32) (i : Nat) : bt (x ^^^ y) i = (bt x i ^^ bt y i) := by unfold bt; rw [Int32.toBitVec_xor, BitVec.getLsbD_xor]
theorem b_big {x : Int32} {i : Nat} (h : 32 ≤ i) : bt x i = false := BitVec.getLsbD_of_ge _ _ h
theorem b_m1 : ∀ i, i < 32 → bt (-1) i = true := by decide +kernel
theorem b_0 (i : Nat) : bt 0 i = false := BitVec.getLsbD_zero
theorem s_l : ∀ n, n < 32 → ((nI n &&& 31).toBitVec.smod 32).toNat = n := by decide +kernel
theorem s_u : ∀ n, n < 32 → (((nI n).toUInt32 &&& Int32.toUInt32 31).toBitVec % 32).toNat = n := by decide +kernel
theorem b_shl (n : Nat) (hn : n < 32) (x : Int32) {i : Nat} (hi : i < 32) : bt (x <<< (nI n &&& 31)) i = (decide (n ≤ i) && bt x (i - n)) := by
  unfold bt
  rw [Int32.toBitVec_shiftLeft]
  show (x.toBitVec <<< ((nI n &&& 31).toBitVec.smod 32).toNat).getLsbD i = _
  rw [s_l n hn, BitVec.getLsbD_shiftLeft]
  rcases Nat.lt_or_ge i n with h | h
  · simp [h, Nat.not_le.mpr h]
  · simp [hi, h, Nat.not_lt.mpr h]
theorem b_ushr (n : Nat) (hn : n < 32) (x : Int32) (i : Nat) : bt ((x.toUInt32 >>> ((nI n).toUInt32 &&& Int32.toUInt32 31)).toInt32) i = bt x (n + i) := by
  show (x.toUInt32 >>> ((nI n).toUInt32 &&& Int32.toUInt32 31)).toBitVec.getLsbD i = x.toUInt32.toBitVec.getLsbD (n + i)
  rw [UInt32.toBitVec_shiftRight]
  show (x.toUInt32.toBitVec >>> (((nI n).toUInt32 &&& Int32.toUInt32 31).toBitVec % 32).toNat).getLsbD i = _
  rw [s_u n hn, BitVec.getLsbD_ushiftRight]
theorem b_sshr (n : Nat) (hn : n < 32) (x : Int32) {i : Nat} (hi : i < 32) : bt (x >>> (nI n &&& 31)) i = if n + i < 32 then bt x (n + i) else bt x 31 := by
  unfold bt
  rw [Int32.toBitVec_shiftRight]
  show (x.toBitVec.sshiftRight ((nI n &&& 31).toBitVec.smod 32).toNat).getLsbD i = _
  rw [s_l n hn, BitVec.getLsbD_sshiftRight, BitVec.msb_eq_getLsbD_last]
  simp [hi]
-- one bit as an int
def fs_b (b : Bool) : Int32 := bif b then 1 else 0
theorem fs_b_bit : ∀ b : Bool, ∀ i, i < 32 → bt (fs_b b) i = (decide (i = 0) && b) := by decide +kernel
theorem fs_b_and : ∀ a b : Bool, fs_b a &&& fs_b b = fs_b (a && b) := by decide
theorem fs_b_xor : ∀ a b : Bool, fs_b a ^^^ fs_b b = fs_b (a ^^ b) := by decide
theorem fs_b_not : ∀ a : Bool, fs_b a ^^^ 1 = fs_b (!a) := by decide
theorem fs_b_b0 : ∀ a : Bool, bt (fs_b a) 0 = a := by decide
theorem fs_b_eq1 : ∀ a : Bool, fs_b a = 1 ↔ a = true := by decide
theorem fs_b_eq0 : ∀ a : Bool, fs_b a = 0 ↔ a = false := by decide
theorem fs_b_inj : ∀ a b : Bool, fs_b a = fs_b b → a = b := by decide
theorem fs_1bit : ∀ i, i < 32 → bt 1 i = decide (i = 0) := by decide +kernel
theorem fs_and1 (x : Int32) : x &&& 1 = fs_b (bt x 0) := by
  refine b_ext fun i hi => ?_
  rw [b_and, fs_1bit i hi, fs_b_bit _ i hi]
  by_cases h : i = 0
  · subst h; simp
  · simp [h]
def fs_ush (x y : Int32) : Int32 := (x.toUInt32 >>> (y.toUInt32 &&& Int32.toUInt32 31)).toInt32
theorem fs_onU {a : Nat} (ha : a < 32) (x : Int32) : fs_ush x (nI a) &&& 1 = fs_b (bt x a) := by
  rw [fs_and1]
  unfold fs_ush
  rw [b_ushr a ha]
  rfl
theorem fs_onS {a : Nat} (ha : a < 32) (x : Int32) : (x >>> (nI a &&& 31)) &&& 1 = fs_b (bt x a) := by
  rw [fs_and1, b_sshr a ha x (by omega), if_pos (by omega)]
  rfl
theorem fs_shb {a : Nat} (ha : a < 32) (b : Bool) (i : Nat) : bt (fs_b b <<< (nI a &&& 31)) i = (decide (i = a) && b) := by
  rcases Nat.lt_or_ge i 32 with h | h
  · rw [b_shl a ha _ h]
    by_cases q : a ≤ i
    · rw [fs_b_bit b _ (by omega)]
      by_cases q2 : i = a
      · subst q2; simp
      · have : ¬ i - a = 0 := by omega
        simp [q, q2, this]
    · have : ¬ i = a := by omega
      simp [q, this]
  · have : ¬ i = a := by omega
    rw [b_big h]; simp [this]
theorem fs_sh1 {a : Nat} (ha : a < 32) (i : Nat) : bt (1 <<< (nI a &&& 31)) i = decide (i = a) := by
  have := fs_shb ha true i
  rw [Bool.and_true] at this
  exact this
theorem fs_bs0 : ∀ x : Bool, (x ^^ false) = x := by decide
/-- a bit turned -/
theorem fs_turn {a : Nat} (ha : a < 32) (x : Int32) (b : Bool) : bt (x ^^^ (fs_b b <<< (nI a &&& 31))) = fs_up (bt x) a (bt x a ^^ b) := by
  funext i
  rw [b_xor, fs_shb ha]
  unfold fs_up
  split
  · rename_i h; subst h; simp
  · rename_i h; simp [h]
theorem fs_turn2 {a b : Nat} (ha : a < 32) (hb : b < 32) (hab : a ≠ b) (x : Int32) (c d : Bool) : bt (x ^^^ ((fs_b c <<< (nI a &&& 31)) ||| (fs_b d <<< (nI b &&& 31)))) = fs_up (fs_up (bt x) a (bt x a ^^ c)) b (bt x b ^^ d) := by
  funext i
  rw [b_xor, b_or, fs_shb ha, fs_shb hb]
  unfold fs_up
  by_cases h : i = b
  · subst h
    have : ¬ i = a := fun z => hab z.symm
    simp [this]
  · by_cases h2 : i = a
    · subst h2; simp [h]
    · simp [h, h2]
/-- a bit put out -/
theorem fs_out {a : Nat} (ha : a < 32) (x : Int32) : bt (x &&& ((1 <<< (nI a &&& 31)) ^^^ (-1))) = fs_up (bt x) a false := by
  funext i
  rw [b_and, b_xor, fs_sh1 ha]
  unfold fs_up
  rcases Nat.lt_or_ge i 32 with h | h
  · rw [b_m1 i h]
    split
    · rename_i q; simp [q]
    · rename_i q; simp [q]
  · rw [b_big (x := x) h]
    simp
theorem fs_bt0 : bt 0 = fun _ => false := funext fun i => b_0 i
theorem fs_btZ {a : Nat} (ha : a < 32) : bt (1 <<< (nI a &&& 31)) = fun i => decide (i = a) := funext fun i => fs_sh1 ha i
-- a product as the class has it: xs, zs, constant, randoms
abbrev fs_Q : Type := Int32 × Int32 × Int32 × Int64
def fs_abs (q : fs_Q) : fs_R := ((bt q.1, bt q.2.1), bt q.2.2.1 0, q.2.2.2)
def fs_01 (c : Int32) : Prop := c = fs_b (bt c 0)
theorem fs_01_b (b : Bool) : fs_01 (fs_b b) := by unfold fs_01; rw [fs_b_b0]
theorem fs_01_x {c : Int32} (h : fs_01 c) (b : Bool) : fs_01 (c ^^^ fs_b b) ∧ bt (c ^^^ fs_b b) 0 = (bt c 0 ^^ b) := by
  have e : bt (c ^^^ fs_b b) 0 = (bt c 0 ^^ b) := by rw [b_xor, fs_b_b0]
  refine ⟨?_, e⟩
  unfold fs_01 at h ⊢
  rw [e, ← fs_b_xor, ← h]
-- the methods of the class Pauli, as they stand
def fs_xOn (q : fs_Q) (a : Int32) : Int32 := fs_ush q.1 a &&& 1
def fs_zOn (q : fs_Q) (a : Int32) : Int32 := fs_ush q.2.1 a &&& 1
def fs_pH (q : fs_Q) (a : Int32) : fs_Q :=
  let c := q.2.2.1 ^^^ (fs_xOn q a &&& fs_zOn q a)
  let t := (fs_xOn q a ^^^ fs_zOn q a) <<< (a &&& 31)
  (q.1 ^^^ t, q.2.1 ^^^ t, c, q.2.2.2)
def fs_pS (q : fs_Q) (a : Int32) : fs_Q := (q.1, q.2.1 ^^^ (fs_xOn q a <<< (a &&& 31)), q.2.2.1 ^^^ (fs_xOn q a &&& fs_zOn q a), q.2.2.2)
def fs_pC (q : fs_Q) (a b : Int32) : fs_Q :=
  (q.1 ^^^ (fs_xOn q a <<< (b &&& 31)), q.2.1 ^^^ (fs_zOn q b <<< (a &&& 31)), q.2.2.1 ^^^ (fs_xOn q a &&& fs_zOn q b &&& (fs_xOn q b ^^^ fs_zOn q a ^^^ 1)), q.2.2.2)
def fs_sw (x a b : Int32) : Int32 :=
  let d := (fs_ush x a ^^^ fs_ush x b) &&& 1
  x ^^^ ((d <<< (a &&& 31)) ||| (d <<< (b &&& 31)))
def fs_pW (q : fs_Q) (a b : Int32) : fs_Q := (fs_sw q.1 a b, fs_sw q.2.1 a b, q.2.2.1, q.2.2.2)
def fs_pX (q : fs_Q) (a : Int32) : fs_Q := (q.1, q.2.1, q.2.2.1 ^^^ fs_zOn q a, q.2.2.2)
def fs_pZ (q : fs_Q) (a : Int32) : fs_Q := (q.1, q.2.1, q.2.2.1 ^^^ fs_xOn q a, q.2.2.2)
def fs_ps (q : fs_Q) (k a b : Int32) : fs_Q :=
  if k = 0 then fs_pH q a else if k = 1 then fs_pS q a else if k = 2 then fs_pC q a b else if k = 3 then fs_pH (fs_pC (fs_pH q b) a b) b
  else if k = 4 then fs_pW q a b else if k = 5 then fs_pX q a else if k = 6 then fs_pZ q a else q
theorem fs_xOn_b {a : Nat} (ha : a < 32) (q : fs_Q) : fs_xOn q (nI a) = fs_b ((fs_abs q).1.1 a) := fs_onU ha q.1
theorem fs_zOn_b {a : Nat} (ha : a < 32) (q : fs_Q) : fs_zOn q (nI a) = fs_b ((fs_abs q).1.2 a) := fs_onU ha q.2.1
theorem fs_xzx : ∀ x z : Bool, (x ^^ (x ^^ z)) = z ∧ (z ^^ (x ^^ z)) = x := by decide
theorem fs_pH_abs {a : Nat} (ha : a < 32) {q : fs_Q} (hc : fs_01 q.2.2.1) : fs_abs (fs_pH q (nI a)) = fs_gr 0 a 0 (fs_abs q) ∧ fs_01 (fs_pH q (nI a)).2.2.1 := by
  unfold fs_pH
  rw [fs_xOn_b ha, fs_zOn_b ha, fs_b_and, fs_b_xor]
  obtain ⟨h1, h2⟩ := fs_01_x hc ((fs_abs q).1.1 a && (fs_abs q).1.2 a)
  refine ⟨?_, h1⟩
  refine Prod.ext (Prod.ext ?_ ?_) (Prod.ext h2 rfl)
  · show bt (q.1 ^^^ _) = fs_up (bt q.1) a (bt q.2.1 a)
    rw [fs_turn ha]
    exact congrArg _ (fs_xzx _ _).1
  · show bt (q.2.1 ^^^ _) = fs_up (bt q.2.1) a (bt q.1 a)
    rw [fs_turn ha]
    exact congrArg _ (fs_xzx _ _).2
theorem fs_pS_abs {a : Nat} (ha : a < 32) {q : fs_Q} (hc : fs_01 q.2.2.1) : fs_abs (fs_pS q (nI a)) = fs_gr 1 a 0 (fs_abs q) ∧ fs_01 (fs_pS q (nI a)).2.2.1 := by
  unfold fs_pS
  rw [fs_xOn_b ha, fs_zOn_b ha, fs_b_and]
  obtain ⟨h1, h2⟩ := fs_01_x hc ((fs_abs q).1.1 a && (fs_abs q).1.2 a)
  refine ⟨?_, h1⟩
  refine Prod.ext (Prod.ext rfl ?_) (Prod.ext h2 rfl)
  show bt (q.2.1 ^^^ _) = fs_up (bt q.2.1) a (bt q.2.1 a ^^ bt q.1 a)
  rw [fs_turn ha]
  rfl
theorem fs_nt : ∀ x z : Bool, (!(x ^^ z)) = (x ^^ z ^^ true) := by decide
theorem fs_pC_abs {a b : Nat} (ha : a < 32) (hb : b < 32) {q : fs_Q} (hc : fs_01 q.2.2.1) : fs_abs (fs_pC q (nI a) (nI b)) = fs_gr 2 a b (fs_abs q) ∧ fs_01 (fs_pC q (nI a) (nI b)).2.2.1 := by
  unfold fs_pC
  rw [fs_xOn_b ha, fs_zOn_b ha, fs_xOn_b hb, fs_zOn_b hb, fs_b_and, fs_b_xor, fs_b_not, fs_b_and, fs_nt]
  obtain ⟨h1, h2⟩ := fs_01_x hc ((fs_abs q).1.1 a && (fs_abs q).1.2 b && ((fs_abs q).1.1 b ^^ (fs_abs q).1.2 a ^^ true))
  refine ⟨?_, h1⟩
  refine Prod.ext (Prod.ext ?_ ?_) (Prod.ext h2 rfl)
  · show bt (q.1 ^^^ _) = fs_up (bt q.1) b (bt q.1 b ^^ bt q.1 a)
    rw [fs_turn hb]
    rfl
  · show bt (q.2.1 ^^^ _) = fs_up (bt q.2.1) a (bt q.2.1 a ^^ bt q.2.1 b)
    rw [fs_turn ha]
    rfl
theorem fs_sw_bt {a b : Nat} (ha : a < 32) (hb : b < 32) (hab : a ≠ b) (x : Int32) : bt (fs_sw x (nI a) (nI b)) = fs_up (fs_up (bt x) a (bt x b)) b (bt x a) := by
  unfold fs_sw
  have e : (fs_ush x (nI a) ^^^ fs_ush x (nI b)) &&& 1 = fs_b (bt x a ^^ bt x b) := by
    rw [fs_and1, b_xor]
    unfold fs_ush
    rw [b_ushr a ha, b_ushr b hb]
    rfl
  rw [e]
  dsimp only
  rw [fs_turn2 ha hb hab]
  have e1 : (bt x a ^^ (bt x a ^^ bt x b)) = bt x b := (fs_xzx _ _).1
  have e2 : (bt x b ^^ (bt x a ^^ bt x b)) = bt x a := (fs_xzx _ _).2
  rw [e1, e2]
theorem fs_pW_abs {a b : Nat} (ha : a < 32) (hb : b < 32) (hab : a ≠ b) {q : fs_Q} (hc : fs_01 q.2.2.1) : fs_abs (fs_pW q (nI a) (nI b)) = fs_gr 4 a b (fs_abs q) ∧ fs_01 (fs_pW q (nI a) (nI b)).2.2.1 := by
  refine ⟨?_, hc⟩
  refine Prod.ext (Prod.ext ?_ ?_) (Prod.ext ?_ rfl)
  · exact fs_sw_bt ha hb hab q.1
  · exact fs_sw_bt ha hb hab q.2.1
  · show bt q.2.2.1 0 = (bt q.2.2.1 0 ^^ false)
    rw [fs_bs0]
theorem fs_pX_abs {a : Nat} (ha : a < 32) {q : fs_Q} (hc : fs_01 q.2.2.1) : fs_abs (fs_pX q (nI a)) = fs_gr 5 a 0 (fs_abs q) ∧ fs_01 (fs_pX q (nI a)).2.2.1 := by
  unfold fs_pX
  rw [fs_zOn_b ha]
  obtain ⟨h1, h2⟩ := fs_01_x hc ((fs_abs q).1.2 a)
  exact ⟨Prod.ext rfl (Prod.ext h2 rfl), h1⟩
theorem fs_pZ_abs {a : Nat} (ha : a < 32) {q : fs_Q} (hc : fs_01 q.2.2.1) : fs_abs (fs_pZ q (nI a)) = fs_gr 6 a 0 (fs_abs q) ∧ fs_01 (fs_pZ q (nI a)).2.2.1 := by
  unfold fs_pZ
  rw [fs_xOn_b ha]
  obtain ⟨h1, h2⟩ := fs_01_x hc ((fs_abs q).1.1 a)
  exact ⟨Prod.ext rfl (Prod.ext h2 rfl), h1⟩
/-- z with a control by h, x with a control, h -/
theorem fs_hch : ∀ (c xa za xb zb : Bool), (((c ^^ (xb && zb)) ^^ (xa && xb && (zb ^^ za ^^ true))) ^^ ((zb ^^ xa) && xb)) = (c ^^ (xa && xb && (za ^^ zb))) := by decide
theorem fs_pD_abs {a b : Nat} (ha : a < 32) (hb : b < 32) (hab : a ≠ b) {q : fs_Q} (hc : fs_01 q.2.2.1) : fs_abs (fs_pH (fs_pC (fs_pH q (nI b)) (nI a) (nI b)) (nI b)) = fs_gr 3 a b (fs_abs q) ∧ fs_01 (fs_pH (fs_pC (fs_pH q (nI b)) (nI a) (nI b)) (nI b)).2.2.1 := by
  obtain ⟨a1, c1⟩ := fs_pH_abs hb hc
  obtain ⟨a2, c2⟩ := fs_pC_abs ha hb c1
  obtain ⟨a3, c3⟩ := fs_pH_abs hb c2
  refine ⟨?_, c3⟩
  rw [a3, a2, a1]
  generalize fs_abs q = r
  obtain ⟨⟨x, z⟩, c, h⟩ := r
  unfold fs_gr fs_sg fs_ga
  dsimp only
  unfold fs_gaH fs_gaC fs_gaD
  try dsimp only
  have hba : b ≠ a := Ne.symm hab
  refine Prod.ext (Prod.ext ?_ ?_) (Prod.ext ?_ rfl)
  · funext w
    dsimp only
    by_cases h1 : w = b
    · subst h1; simp only [fs_up_s, fs_up_n hba]
    · simp only [fs_up_n h1]
  · funext w
    dsimp only
    by_cases h1 : w = b
    · subst h1; simp only [fs_up_s, fs_up_n hab]
    · by_cases h2 : w = a
      · subst h2; simp only [fs_up_s, fs_up_n hab]
      · simp only [fs_up_n h1, fs_up_n h2]
  · dsimp only
    simp only [fs_up_s, fs_up_n hab, fs_up_n hba]
    exact fs_hch _ _ _ _ _
theorem fs_nIk : ∀ j : Nat, j < 7 → ∀ k : Nat, k < 7 → (nI j = nI k ↔ j = k) := by decide +kernel
theorem fs_gr_b {k a b b' : Nat} (h : k < 2 ∨ 4 < k) (r : fs_R) : fs_gr k a b r = fs_gr k a b' r := by
  match k, h with
  | 0, _ => rfl
  | 1, _ => rfl
  | 2, h => exact absurd h (by omega)
  | 3, h => exact absurd h (by omega)
  | 4, h => exact absurd h (by omega)
  | 5, _ => rfl
  | (k + 6), _ => rfl
theorem fs_ps_abs {n k a b : Nat} (hn : n ≤ 10) (h : fs_okg n k a b) {bv : Int32} (hb : 2 ≤ k → k ≤ 4 → bv = nI b) {q : fs_Q} (hc : fs_01 q.2.2.1) : fs_abs (fs_ps q (nI k) (nI a) bv) = fs_gr k a b (fs_abs q) ∧ fs_01 (fs_ps q (nI k) (nI a) bv).2.2.1 := by
  obtain ⟨h1, h2, h3⟩ := h
  revert h3 hb
  refine fs_kind7 (P := fun k => (2 ≤ k → k ≤ 4 → bv = nI b) → (2 ≤ k → k ≤ 4 → b < n ∧ a ≠ b) → fs_abs (fs_ps q (nI k) (nI a) bv) = fs_gr k a b (fs_abs q) ∧ fs_01 (fs_ps q (nI k) (nI a) bv).2.2.1) ?_ ?_ ?_ ?_ ?_ ?_ ?_ h1 <;> intro g1 g2
  · rw [fs_gr_b (b' := 0) (by omega)]
    exact fs_pH_abs (by omega) hc
  · rw [fs_gr_b (b' := 0) (by omega)]
    exact fs_pS_abs (by omega) hc
  · obtain ⟨q1, q2⟩ := g2 (by omega) (by omega)
    rw [g1 (by omega) (by omega)]
    exact fs_pC_abs (by omega) (by omega) hc
  · obtain ⟨q1, q2⟩ := g2 (by omega) (by omega)
    rw [g1 (by omega) (by omega)]
    exact fs_pD_abs (by omega) (by omega) q2 hc
  · obtain ⟨q1, q2⟩ := g2 (by omega) (by omega)
    rw [g1 (by omega) (by omega)]
    exact fs_pW_abs (by omega) (by omega) q2 hc
  · rw [fs_gr_b (b' := 0) (by omega)]
    exact fs_pX_abs (by omega) hc
  · rw [fs_gr_b (b' := 0) (by omega)]
    exact fs_pZ_abs (by omega) hc
end
section
-- counting bits
def fs_pc : Nat → Nat → Nat
  | 0, _ => 0
  | k + 1, n => n % 2 + fs_pc k (n / 2)
theorem fs_pc_0 (k : Nat) : fs_pc k 0 = 0 := by
  induction k with
  | zero => rfl
  | succ k ih => show 0 % 2 + fs_pc k (0 / 2) = 0; rw [Nat.zero_div, ih]
theorem fs_pc_le (k n : Nat) : fs_pc k n ≤ k := by
  induction k generalizing n with
  | zero => exact Nat.le_refl 0
  | succ k ih =>
    show n % 2 + fs_pc k (n / 2) ≤ k + 1
    have := ih (n / 2)
    omega
theorem fs_pc_add (j k n : Nat) : fs_pc (j + k) n = fs_pc j n + fs_pc k (n / 2 ^ j) := by
  induction j generalizing n with
  | zero => simp [fs_pc]
  | succ j ih =>
    rw [show j + 1 + k = (j + k) + 1 by omega]
    show n % 2 + fs_pc (j + k) (n / 2) = n % 2 + fs_pc j (n / 2) + fs_pc k (n / 2 ^ (j + 1))
    rw [ih, Nat.div_div_eq_div_mul, show 2 * 2 ^ j = 2 ^ (j + 1) by rw [Nat.pow_succ, Nat.mul_comm]]
    omega
theorem fs_pc_mod (j n : Nat) : fs_pc j (n % 2 ^ j) = fs_pc j n := by
  induction j generalizing n with
  | zero => rfl
  | succ j ih =>
    show n % 2 ^ (j + 1) % 2 + fs_pc j (n % 2 ^ (j + 1) / 2) = n % 2 + fs_pc j (n / 2)
    have h1 : n % 2 ^ (j + 1) % 2 = n % 2 := Nat.mod_mod_of_dvd n ⟨2 ^ j, by rw [Nat.pow_succ, Nat.mul_comm]⟩
    have h2 : n % 2 ^ (j + 1) / 2 = n / 2 % 2 ^ j := by
      rw [Nat.pow_succ, Nat.mul_comm, Nat.mod_mul_right_div_self]
    rw [h1, h2, ih]
/-- bytes side by side -/
def fs_rep (c : Nat) : Nat → Nat
  | 0 => 0
  | k + 1 => c + 256 * fs_rep c k
theorem fs_land8 {a c : Nat} (ha : a < 256) (hc : c < 256) (b d : Nat) : (a + 256 * b) &&& (c + 256 * d) = (a &&& c) + 256 * (b &&& d) := by
  have e1 : a + 256 * b = 2 ^ 8 * b + a := by omega
  have e2 : c + 256 * d = 2 ^ 8 * d + c := by omega
  have e3 : (a &&& c) + 256 * (b &&& d) = 2 ^ 8 * (b &&& d) + (a &&& c) := by omega
  rw [e1, e2, e3]
  apply Nat.eq_of_testBit_eq
  intro i
  have hac : a &&& c < 2 ^ 8 := Nat.lt_of_le_of_lt Nat.and_le_left ha
  rw [Nat.testBit_and, Nat.testBit_two_pow_mul_add b (i := 8) ha i, Nat.testBit_two_pow_mul_add d (i := 8) hc i, Nat.testBit_two_pow_mul_add (b &&& d) (i := 8) hac i]
  split
  · rw [Nat.testBit_and]
  · rw [Nat.testBit_and]
def fs_t1 (m n : Nat) : Nat := n - (n / 2 &&& m)
def fs_t2 (m n : Nat) : Nat := (n &&& m) + (n / 4 &&& m)
def fs_t3 (m n : Nat) : Nat := (n + n / 16) &&& m
theorem fs_w1 : ∀ b, b < 256 → (b / 2 &&& 85) ≤ b ∧ (((b / 2 + 128) &&& 85) = (b / 2 &&& 85)) := by decide +kernel
theorem fs_t1_b {k b n : Nat} (hb : b < 256) : fs_t1 (fs_rep 85 (k + 1)) (b + 256 * n) = fs_t1 85 b + 256 * fs_t1 (fs_rep 85 k) n := by
  unfold fs_t1
  have e : (b + 256 * n) / 2 = (b / 2 + 128 * (n % 2)) + 256 * (n / 2) := by omega
  have h := fs_w1 b hb
  have hl : b / 2 + 128 * (n % 2) < 256 := by omega
  have hx : (b / 2 + 128 * (n % 2)) &&& 85 = b / 2 &&& 85 := by
    rcases (show n % 2 = 0 ∨ n % 2 = 1 by omega) with q | q
    · rw [q]; rfl
    · rw [q]; exact h.2
  have hn : n / 2 &&& fs_rep 85 k ≤ n := Nat.le_trans Nat.and_le_left (Nat.div_le_self n 2)
  show b + 256 * n - ((b + 256 * n) / 2 &&& (85 + 256 * fs_rep 85 k)) = b - (b / 2 &&& 85) + 256 * (n - (n / 2 &&& fs_rep 85 k))
  rw [e, fs_land8 hl (by omega), hx]
  have := h.1
  omega
theorem fs_w2 : ∀ b, b < 256 → (∀ r, r < 4 → ((b / 4 + 64 * r) &&& 51) = (b / 4 &&& 51)) := by decide +kernel
theorem fs_t2_b {k b n : Nat} (hb : b < 256) : fs_t2 (fs_rep 51 (k + 1)) (b + 256 * n) = fs_t2 51 b + 256 * fs_t2 (fs_rep 51 k) n := by
  unfold fs_t2
  have e : (b + 256 * n) / 4 = (b / 4 + 64 * (n % 4)) + 256 * (n / 4) := by omega
  have hl : b / 4 + 64 * (n % 4) < 256 := by omega
  have hx := fs_w2 b hb (n % 4) (by omega)
  show ((b + 256 * n) &&& (51 + 256 * fs_rep 51 k)) + ((b + 256 * n) / 4 &&& (51 + 256 * fs_rep 51 k)) = _
  rw [e, fs_land8 hb (by omega), fs_land8 hl (by omega), hx]
  omega
/-- nibbles of at most 4 -/
def fs_small (b : Nat) : Prop := b % 16 ≤ 4 ∧ b / 16 ≤ 4
theorem fs_w4 : ∀ b, b < 256 → b % 16 ≤ 4 → b / 16 ≤ 4 → ∀ r, r < 5 → b + b / 16 + 16 * r < 256 ∧ ((b + b / 16 + 16 * r) &&& 15) = ((b + b / 16) &&& 15) := by decide +kernel
def fs_pcb (b : Nat) : Nat := fs_t3 15 (fs_t2 51 (fs_t1 85 b))
theorem fs_w5 : ∀ b, b < 256 → fs_pcb b = fs_pc 8 b ∧ fs_t2 51 (fs_t1 85 b) < 256 ∧ fs_t2 51 (fs_t1 85 b) % 16 ≤ 4 ∧ fs_t2 51 (fs_t1 85 b) / 16 ≤ 4 ∧ fs_t1 85 b < 256 := by decide +kernel
def fs_bs (n : Nat) : Nat → Nat
  | 0 => 0
  | k + 1 => fs_pc 8 (n % 256) + 256 * fs_bs (n / 256) k
theorem fs_t12 (k : Nat) : ∀ n, n < 256 ^ k → (fs_t2 (fs_rep 51 k) (fs_t1 (fs_rep 85 k) n)) % 16 ≤ 4 ∧ fs_t3 (fs_rep 15 k) (fs_t2 (fs_rep 51 k) (fs_t1 (fs_rep 85 k) n)) = fs_bs n k := by
  induction k with
  | zero =>
    intro n hn
    have : n = 0 := by simp at hn; exact hn
    subst this
    exact ⟨by decide, rfl⟩
  | succ k ih =>
    intro n hn
    have hq : n / 256 < 256 ^ k := by
      rw [Nat.pow_succ] at hn
      exact Nat.div_lt_of_lt_mul (by rw [Nat.mul_comm]; exact hn)
    have hb : n % 256 < 256 := Nat.mod_lt _ (by omega)
    obtain ⟨i1, i2⟩ := ih (n / 256) hq
    obtain ⟨p1, p2, p3, p4, p5⟩ := fs_w5 (n % 256) hb
    have en : n = n % 256 + 256 * (n / 256) := by omega
    have e1 : fs_t1 (fs_rep 85 (k + 1)) n = fs_t1 85 (n % 256) + 256 * fs_t1 (fs_rep 85 k) (n / 256) := by
      conv => lhs; rw [en]
      exact fs_t1_b hb
    have e2 : fs_t2 (fs_rep 51 (k + 1)) (fs_t1 (fs_rep 85 (k + 1)) n) = fs_t2 51 (fs_t1 85 (n % 256)) + 256 * fs_t2 (fs_rep 51 k) (fs_t1 (fs_rep 85 k) (n / 256)) := by
      rw [e1]; exact fs_t2_b p5
    refine ⟨by rw [e2]; omega, ?_⟩
    rw [e2]
    have p1' : (fs_t2 51 (fs_t1 85 (n % 256)) + fs_t2 51 (fs_t1 85 (n % 256)) / 16) &&& 15 = fs_pc 8 (n % 256) := p1
    clear p1 e1 e2
    generalize fs_t2 51 (fs_t1 85 (n % 256)) = u at *
    generalize fs_t2 (fs_rep 51 k) (fs_t1 (fs_rep 85 k) (n / 256)) = v at *
    obtain ⟨g1, g2⟩ := fs_w4 u p2 p3 p4 (v % 16) (by omega)
    have e3 : u + 256 * v + (u + 256 * v) / 16 = (u + u / 16 + 16 * (v % 16)) + 256 * (v + v / 16) := by omega
    have hp1 : (u + u / 16) &&& 15 = fs_pc 8 (n % 256) := p1'
    show (u + 256 * v + (u + 256 * v) / 16) &&& (15 + 256 * fs_rep 15 k) = fs_pc 8 (n % 256) + 256 * fs_bs (n / 256) k
    rw [e3, fs_land8 g1 (by omega), g2, hp1]
    have i2' : (v + v / 16) &&& fs_rep 15 k = fs_bs (n / 256) k := i2
    rw [i2']
theorem fs_pc8 (n : Nat) : fs_pc 8 (n % 256) = fs_pc 8 n := fs_pc_mod 8 n
theorem fs_bs8 (n : Nat) : ∃ p0 p1 p2 p3 p4 p5 p6 p7 : Nat, (p0 ≤ 8 ∧ p1 ≤ 8 ∧ p2 ≤ 8 ∧ p3 ≤ 8 ∧ p4 ≤ 8 ∧ p5 ≤ 8 ∧ p6 ≤ 8 ∧ p7 ≤ 8) ∧ fs_bs n 8 = p0 + 256 * (p1 + 256 * (p2 + 256 * (p3 + 256 * (p4 + 256 * (p5 + 256 * (p6 + 256 * p7)))))) ∧ fs_pc 64 n = p0 + p1 + p2 + p3 + p4 + p5 + p6 + p7 := by
  have st : ∀ k n, fs_pc (8 + k) n = fs_pc 8 n + fs_pc k (n / 256) := fun k n => fs_pc_add 8 k n
  refine ⟨_, _, _, _, _, _, _, _, ⟨fs_pc_le 8 (n % 256), fs_pc_le 8 (n / 256 % 256), fs_pc_le 8 (n / 256 / 256 % 256), fs_pc_le 8 (n / 256 / 256 / 256 % 256), fs_pc_le 8 (n / 256 / 256 / 256 / 256 % 256), fs_pc_le 8 (n / 256 / 256 / 256 / 256 / 256 % 256), fs_pc_le 8 (n / 256 / 256 / 256 / 256 / 256 / 256 % 256), fs_pc_le 8 (n / 256 / 256 / 256 / 256 / 256 / 256 / 256 % 256)⟩, ?_, ?_⟩
  · simp only [fs_bs]
    omega
  · simp only [fs_pc8]
    rw [show (64 : Nat) = 8 + 56 from rfl, st 56, show (56 : Nat) = 8 + 48 from rfl, st 48, show (48 : Nat) = 8 + 40 from rfl, st 40, show (40 : Nat) = 8 + 32 from rfl, st 32, show (32 : Nat) = 8 + 24 from rfl, st 24, show (24 : Nat) = 8 + 16 from rfl, st 16, show (16 : Nat) = 8 + 8 from rfl, st 8]
    omega
end
section
theorem fs_dv1 (a r : Nat) (h : a < 256) : (a + 256 * r) / 256 = r := by omega
theorem fs_dv2 (a b r : Nat) (ha : a < 256) (hb : b < 256) : (a + 256 * (b + 256 * r)) / 65536 = r := by omega
theorem fs_dv4 (a b c d r : Nat) (ha : a < 256) (hb : b < 256) (hc : c < 256) (hd : d < 256) : (a + 256 * (b + 256 * (c + 256 * (d + 256 * r)))) / 4294967296 = r := by
  rw [show (4294967296 : Nat) = 65536 * 65536 from rfl, ← Nat.div_div_eq_div_mul, fs_dv2 a b _ ha hb, fs_dv2 c d _ hc hd]
theorem fs_fold {i p0 p1 p2 p3 p4 p5 p6 p7 : Nat} (h : p0 ≤ 8 ∧ p1 ≤ 8 ∧ p2 ≤ 8 ∧ p3 ≤ 8 ∧ p4 ≤ 8 ∧ p5 ≤ 8 ∧ p6 ≤ 8 ∧ p7 ≤ 8) (e : i = p0 + 256 * (p1 + 256 * (p2 + 256 * (p3 + 256 * (p4 + 256 * (p5 + 256 * (p6 + 256 * p7)))))))  {i1 i2 i3 : Nat} (h1 : i1 = i + i / 256) (h2 : i2 = i1 + i1 / 65536) (h3 : i3 = i2 + i2 / 4294967296) : i3 % 128 = p0 + p1 + p2 + p3 + p4 + p5 + p6 + p7 ∧ i1 < 2 ^ 64 ∧ i2 < 2 ^ 64 ∧ i3 < 2 ^ 64 := by
  obtain ⟨g0, g1, g2, g3, g4, g5, g6, g7⟩ := h
  have a1 : i1 = (p0 + p1) + 256 * ((p1 + p2) + 256 * ((p2 + p3) + 256 * ((p3 + p4) + 256 * ((p4 + p5) + 256 * ((p5 + p6) + 256 * ((p6 + p7) + 256 * p7)))))) := by
    have d : i / 256 = p1 + 256 * (p2 + 256 * (p3 + 256 * (p4 + 256 * (p5 + 256 * (p6 + 256 * p7))))) := by rw [e]; exact fs_dv1 _ _ (by omega)
    rw [h1, d, e]
    clear h1 h2 h3 d e g0 g1 g2 g3 g4 g5 g6 g7
    simp only [Nat.mul_add]
    omega
  have a2 : i2 = (p0 + p1 + p2 + p3) + 256 * ((p1 + p2 + p3 + p4) + 256 * ((p2 + p3 + p4 + p5) + 256 * ((p3 + p4 + p5 + p6) + 256 * ((p4 + p5 + p6 + p7) + 256 * ((p5 + p6 + p7) + 256 * ((p6 + p7) + 256 * p7)))))) := by
    have d : i1 / 65536 = (p2 + p3) + 256 * ((p3 + p4) + 256 * ((p4 + p5) + 256 * ((p5 + p6) + 256 * ((p6 + p7) + 256 * p7)))) := by rw [a1]; exact fs_dv2 _ _ _ (by omega) (by omega)
    rw [h2, d, a1]
    clear h1 h2 h3 d e a1 g0 g1 g2 g3 g4 g5 g6 g7
    simp only [Nat.mul_add]
    omega
  have a3 : i3 = (p0 + p1 + p2 + p3 + p4 + p5 + p6 + p7) + 256 * ((p1 + p2 + p3 + p4 + p5 + p6 + p7) + 256 * ((p2 + p3 + p4 + p5 + p6 + p7) + 256 * ((p3 + p4 + p5 + p6 + p7) + 256 * ((p4 + p5 + p6 + p7) + 256 * ((p5 + p6 + p7) + 256 * ((p6 + p7) + 256 * p7)))))) := by
    have d : i2 / 4294967296 = (p4 + p5 + p6 + p7) + 256 * ((p5 + p6 + p7) + 256 * ((p6 + p7) + 256 * p7)) := by rw [a2]; exact fs_dv4 _ _ _ _ _ (by omega) (by omega) (by omega) (by omega)
    rw [h3, d, a2]
    clear h1 h2 h3 d e a1 a2 g0 g1 g2 g3 g4 g5 g6 g7
    simp only [Nat.mul_add]
    omega
  clear h1 h2 h3 e
  refine ⟨?_, ?_, ?_, ?_⟩
  · rw [a3]
    clear a1 a2 a3
    generalize (p1 + p2 + p3 + p4 + p5 + p6 + p7) + 256 * ((p2 + p3 + p4 + p5 + p6 + p7) + 256 * ((p3 + p4 + p5 + p6 + p7) + 256 * ((p4 + p5 + p6 + p7) + 256 * ((p5 + p6 + p7) + 256 * ((p6 + p7) + 256 * p7))))) = r
    omega
  · rw [a1]; clear a1 a2 a3; omega
  · rw [a2]; clear a1 a2 a3; omega
  · rw [a3]; clear a1 a2 a3; omega
end
section
-- products of rows, as the class and as the reference make them
theorem fs_s_sub (f g : Nat → BitVec 2) (n : Nat) : fs_s (fun w => f w - g w) n = fs_s f n - fs_s g n := by
  induction n with
  | zero => show 0#2 = 0#2 - 0#2; decide
  | succ n ih =>
    show fs_s (fun w => f w - g w) n + (f n - g n) = fs_s f n + f n - (fs_s g n + g n)
    rw [ih]
    generalize fs_s f n = x; generalize fs_s g n = y; generalize f n = u; generalize g n = v
    revert x y u v; decide +kernel
theorem fs_pc_1 (k n : Nat) : fs_pc (k + 1) n = fs_pc k n + n / 2 ^ k % 2 := by
  rw [fs_pc_add k 1 n]
  rfl
theorem fs_pc_s (n : Nat) (k : Nat) : fs_s (fun w => fs_o (n.testBit w)) k = BitVec.ofNat 2 (fs_pc k n) := by
  induction k with
  | zero => rfl
  | succ k ih =>
    show fs_s (fun w => fs_o (n.testBit w)) k + fs_o (n.testBit k) = _
    rw [ih, fs_pc_1, BitVec.ofNat_add, Nat.testBit_eq_decide_div_mod_eq]
    congr 1
    rcases (show n / 2 ^ k % 2 = 0 ∨ n / 2 ^ k % 2 = 1 by omega) with h | h
    · rw [h]; rfl
    · rw [h]; rfl
def fs_bc (i : Int32) : Int32 :=
  let i1 := i - (fs_ush i 1 &&& 1431655765)
  let i2 := (i1 &&& 858993459) + (fs_ush i1 2 &&& 858993459)
  let i3 := (i2 + fs_ush i2 4) &&& 252645135
  let i4 := i3 + fs_ush i3 8
  let i5 := i4 + fs_ush i4 16
  i5 &&& 63
theorem fs_bc_10 : ∀ m, m < 1024 → fs_bc (nI m) = nI (fs_pc 10 m) := by decide +kernel
theorem fs_bt_nat (x : Int32) (w : Nat) : bt x w = x.toBitVec.toNat.testBit w := rfl
theorem fs_nat10 {x : Int32} (h : ∀ w, 10 ≤ w → bt x w = false) : x.toBitVec.toNat < 1024 := by
  refine Nat.lt_of_not_le fun q => ?_
  obtain ⟨i, hi, hb⟩ := Nat.exists_ge_and_testBit_of_ge_two_pow (n := 10) (x := x.toBitVec.toNat) q
  rw [← fs_bt_nat, h i hi] at hb
  cases hb
theorem fs_nI_of (x : Int32) : x = nI x.toBitVec.toNat := by
  apply Int32.toBitVec_inj.mp
  show x.toBitVec = BitVec.ofNat 32 x.toBitVec.toNat
  rw [BitVec.ofNat_toNat, BitVec.setWidth_eq]
/-- the count of a number whose bits lie below 10 -/
theorem fs_bc_s {x : Int32} (h : ∀ w, 10 ≤ w → bt x w = false) : ∃ k, k ≤ 10 ∧ fs_bc x = nI k ∧ fs_s (fun w => fs_o (bt x w)) 10 = BitVec.ofNat 2 k := by
  refine ⟨fs_pc 10 x.toBitVec.toNat, fs_pc_le 10 _, ?_, fs_pc_s _ 10⟩
  rw [← fs_bc_10 _ (fs_nat10 h), ← fs_nI_of x]
theorem fs_qb : ∀ a, a < 11 → ∀ b, b < 11 → ((nI a - nI b) >>> ((1 : Int32) &&& 31)) &&& 1 = fs_b ((BitVec.ofNat 2 a - BitVec.ofNat 2 b).getLsbD 1) := by decide +kernel
/-- Pauli.multiplyBy -/
def fs_mp (q o : fs_Q) : Int32 := ((o.1 &&& o.2.1) &&& q.2.1 &&& (q.1 ^^^ (-1))) ||| ((o.1 &&& (o.2.1 ^^^ (-1))) &&& q.1 &&& q.2.1) ||| ((o.2.1 &&& (o.1 ^^^ (-1))) &&& q.1 &&& (q.2.1 ^^^ (-1)))
def fs_mn (q o : fs_Q) : Int32 := ((o.1 &&& o.2.1) &&& q.1 &&& (q.2.1 ^^^ (-1))) ||| ((o.1 &&& (o.2.1 ^^^ (-1))) &&& q.2.1 &&& (q.1 ^^^ (-1))) ||| ((o.2.1 &&& (o.1 ^^^ (-1))) &&& q.1 &&& q.2.1)
def fs_mb (q o : fs_Q) : fs_Q :=
  (q.1 ^^^ o.1, q.2.1 ^^^ o.2.1, q.2.2.1 ^^^ (o.2.2.1 ^^^ (((fs_bc (fs_mp q o) - fs_bc (fs_mn q o)) >>> ((1 : Int32) &&& 31)) &&& 1)), q.2.2.2 ^^^ o.2.2.2)
theorem fs_mp_b' (a b c d : Bool) : fs_be a b c d = fs_o (((a && b) && d && (c ^^ true)) || ((a && (b ^^ true)) && c && d) || ((b && (a ^^ true)) && c && (d ^^ true))) - fs_o (((a && b) && c && (d ^^ true)) || ((a && (b ^^ true)) && d && (c ^^ true)) || ((b && (a ^^ true)) && c && d)) := by
  cases a <;> cases b <;> cases c <;> cases d <;> decide
def fs_sq (n : Nat) (q : fs_Q) : Prop := fs_su n (fs_abs q).1 ∧ fs_01 q.2.2.1
theorem fs_mb_abs {q o : fs_Q} (hq : fs_sq 10 q) (ho : fs_sq 10 o) : fs_abs (fs_mb q o) = fs_rm (fs_abs o) (fs_abs q) ∧ fs_01 (fs_mb q o).2.2.1 := by
  obtain ⟨hq1, hq2⟩ := hq
  obtain ⟨ho1, ho2⟩ := ho
  have x0 : ∀ w, 10 ≤ w → bt q.1 w = false := fun w hw => (hq1 w hw).1
  have z0 : ∀ w, 10 ≤ w → bt q.2.1 w = false := fun w hw => (hq1 w hw).2
  have hp : ∀ w, 10 ≤ w → bt (fs_mp q o) w = false := fun w hw => by
    unfold fs_mp
    simp only [b_or, b_and, x0 w hw, z0 w hw, Bool.and_false, Bool.false_and, Bool.or_self]
  have hn : ∀ w, 10 ≤ w → bt (fs_mn q o) w = false := fun w hw => by
    unfold fs_mn
    simp only [b_or, b_and, x0 w hw, z0 w hw, Bool.and_false, Bool.false_and, Bool.or_self]
  obtain ⟨kp, p1, p2, p3⟩ := fs_bc_s hp
  obtain ⟨kn, n1, n2, n3⟩ := fs_bc_s hn
  have hS : fs_S (fs_abs o).1 (fs_abs q).1 = BitVec.ofNat 2 kp - BitVec.ofNat 2 kn := by
    rw [← p3, ← n3, ← fs_s_sub]
    refine fs_s_congr fun w hw => ?_
    have m1 : bt (-1) w = true := b_m1 w (by omega)
    show fs_be (bt o.1 w) (bt o.2.1 w) (bt q.1 w) (bt q.2.1 w) = _
    unfold fs_mp fs_mn
    simp only [b_or, b_and, b_xor, m1]
    exact fs_mp_b' _ _ _ _
  have e : ((fs_bc (fs_mp q o) - fs_bc (fs_mn q o)) >>> ((1 : Int32) &&& 31)) &&& 1 = fs_b ((fs_S (fs_abs o).1 (fs_abs q).1).getLsbD 1) := by
    rw [hS, p2, n2]
    exact fs_qb kp (by omega) kn (by omega)
  unfold fs_mb
  rw [e]
  have ho2' : o.2.2.1 = fs_b (bt o.2.2.1 0) := ho2
  have ec : q.2.2.1 ^^^ (o.2.2.1 ^^^ fs_b ((fs_S (fs_abs o).1 (fs_abs q).1).getLsbD 1)) = q.2.2.1 ^^^ fs_b (bt o.2.2.1 0 ^^ (fs_S (fs_abs o).1 (fs_abs q).1).getLsbD 1) := by
    rw [← fs_b_xor, ← ho2']
  rw [ec]
  obtain ⟨h1, h2⟩ := fs_01_x hq2 (bt o.2.2.1 0 ^^ (fs_S (fs_abs o).1 (fs_abs q).1).getLsbD 1)
  refine ⟨Prod.ext (Prod.ext ?_ ?_) (Prod.ext h2 rfl), h1⟩
  · funext w; exact b_xor _ _ _
  · funext w; exact b_xor _ _ _
-- the reference's
def fs_pw (x1 z1 x2 z2 : Int32) : Int32 := if x1 = 0 ∧ z1 = 0 then 0 else if x1 = 1 ∧ z1 = 1 then z2 - x2 else if x1 = 1 then z2 * (2 * x2 - 1) else x2 * (1 - 2 * z2)
def fs_bi (v k : Int32) : Int32 := (v >>> (k &&& 31)) &&& 1
def fs_pws (x1 z1 x2 z2 : Int32) : Nat → Int32
  | 0 => 0
  | w + 1 => fs_pws x1 z1 x2 z2 w + fs_pw (fs_bi x1 (nI w)) (fs_bi z1 (nI w)) (fs_bi x2 (nI w)) (fs_bi z2 (nI w))
def fs_lo (x : Int32) : BitVec 2 := x.toBitVec.setWidth 2
theorem fs_lo_add (x y : Int32) : fs_lo (x + y) = fs_lo x + fs_lo y := by
  unfold fs_lo
  rw [Int32.toBitVec_add, BitVec.setWidth_add _ _ (by omega)]
theorem fs_pw_lo : ∀ a b c d : Bool, fs_lo (fs_pw (fs_b a) (fs_b b) (fs_b c) (fs_b d)) = fs_be a b c d := by decide +kernel
theorem fs_pws_lo {n : Nat} (hn : n ≤ 10) (x1 z1 x2 z2 : Int32) : fs_lo (fs_pws x1 z1 x2 z2 n) = fs_s (fun w => fs_be (bt x1 w) (bt z1 w) (bt x2 w) (bt z2 w)) n := by
  induction n with
  | zero => rfl
  | succ n ih =>
    show fs_lo (fs_pws x1 z1 x2 z2 n + _) = fs_s _ n + _
    rw [fs_lo_add, ih (by omega)]
    unfold fs_bi
    rw [fs_onS (by omega), fs_onS (by omega), fs_onS (by omega), fs_onS (by omega), fs_pw_lo]
theorem fs_be0 : ∀ c d : Bool, fs_be false false c d = 0#2 := by decide
theorem fs_s_more {f : Nat → BitVec 2} {n : Nat} : ∀ {k : Nat}, n ≤ k → (∀ w, n ≤ w → w < k → f w = 0#2) → fs_s f k = fs_s f n
  | 0, h, _ => by rw [show n = 0 by omega]
  | k + 1, h, h0 => by
    by_cases q : n = k + 1
    · rw [q]
    · show fs_s f k + f k = _
      rw [fs_s_more (k := k) (by omega) (fun w h1 h2 => h0 w h1 (by omega)), h0 k (by omega) (by omega), BitVec.add_zero]
theorem fs_3bit : ∀ i, i < 32 → bt 3 i = decide (i < 2) := by decide +kernel
theorem fs_and3 (x : Int32) : (x &&& 3) >>> ((1 : Int32) &&& 31) = fs_b ((fs_lo x).getLsbD 1) := by
  refine b_ext fun i hi => ?_
  have e : (1 : Int32) = nI 1 := rfl
  rw [e, b_sshr 1 (by omega) _ hi, fs_b_bit _ i hi]
  have h1 : (fs_lo x).getLsbD 1 = bt x 1 := by
    unfold fs_lo bt
    rw [BitVec.getLsbD_setWidth]
    simp
  rw [h1, b_and, b_and]
  by_cases h : i = 0
  · subst h
    rw [if_pos (by omega), fs_3bit _ (by omega)]
    simp
  · rw [fs_3bit 31 (by omega)]
    split
    · rw [fs_3bit _ (by omega)]
      have : ¬ 1 + i < 2 := by omega
      simp [h, this]
    · simp [h]
/-- row 'to' multiplied by row 'by' -/
def fs_ml (n : Nat) (t b : fs_Q) : fs_Q := (t.1 ^^^ b.1, t.2.1 ^^^ b.2.1, t.2.2.1 ^^^ (b.2.2.1 ^^^ ((fs_pws b.1 b.2.1 t.1 t.2.1 n &&& 3) >>> ((1 : Int32) &&& 31))), t.2.2.2 ^^^ b.2.2.2)
theorem fs_ml_abs {n : Nat} (hn : n ≤ 10) {t b : fs_Q} (ht : fs_01 t.2.2.1) (hb : fs_sq n b) : fs_abs (fs_ml n t b) = fs_rm (fs_abs b) (fs_abs t) ∧ fs_01 (fs_ml n t b).2.2.1 := by
  obtain ⟨hb1, hb2⟩ := hb
  have hS : fs_lo (fs_pws b.1 b.2.1 t.1 t.2.1 n) = fs_S (fs_abs b).1 (fs_abs t).1 := by
    rw [fs_pws_lo hn]
    refine (fs_s_more hn fun w h1 h2 => ?_).symm
    show fs_be (bt b.1 w) (bt b.2.1 w) _ _ = 0#2
    rw [show bt b.1 w = false from (hb1 w h1).1, show bt b.2.1 w = false from (hb1 w h1).2]
    exact fs_be0 _ _
  unfold fs_ml
  rw [fs_and3, hS]
  have hb2' : b.2.2.1 = fs_b (bt b.2.2.1 0) := hb2
  have ec : t.2.2.1 ^^^ (b.2.2.1 ^^^ fs_b ((fs_S (fs_abs b).1 (fs_abs t).1).getLsbD 1)) = t.2.2.1 ^^^ fs_b (bt b.2.2.1 0 ^^ (fs_S (fs_abs b).1 (fs_abs t).1).getLsbD 1) := by
    rw [← fs_b_xor, ← hb2']
  rw [ec]
  obtain ⟨h1, h2⟩ := fs_01_x ht (bt b.2.2.1 0 ^^ (fs_S (fs_abs b).1 (fs_abs t).1).getLsbD 1)
  refine ⟨Prod.ext (Prod.ext ?_ ?_) (Prod.ext h2 rfl), h1⟩
  · funext w; exact b_xor _ _ _
  · funext w; exact b_xor _ _ _
-- the reference's gates on a row
def fs_gd (q : fs_Q) (k a b : Int32) : fs_Q :=
  let x := fs_bi q.1 a
  let z := fs_bi q.2.1 a
  if k = 0 then (q.1 ^^^ ((x ^^^ z) <<< (a &&& 31)), q.2.1 ^^^ ((x ^^^ z) <<< (a &&& 31)), q.2.2.1 ^^^ (x &&& z), q.2.2.2)
  else if k = 1 then (q.1, q.2.1 ^^^ (x <<< (a &&& 31)), q.2.2.1 ^^^ (x &&& z), q.2.2.2)
  else if k = 2 then (q.1 ^^^ (x <<< (b &&& 31)), q.2.1 ^^^ (fs_bi q.2.1 b <<< (a &&& 31)), q.2.2.1 ^^^ (x &&& fs_bi q.2.1 b &&& (fs_bi q.1 b ^^^ z ^^^ 1)), q.2.2.2)
  else if k = 3 then (q.1, q.2.1 ^^^ ((fs_bi q.1 b <<< (a &&& 31)) ||| (x <<< (b &&& 31))), q.2.2.1 ^^^ (x &&& fs_bi q.1 b &&& (z ^^^ fs_bi q.2.1 b)), q.2.2.2)
  else if k = 4 then (q.1 ^^^ (((fs_bi q.1 a ^^^ fs_bi q.1 b) <<< (a &&& 31)) ||| ((fs_bi q.1 a ^^^ fs_bi q.1 b) <<< (b &&& 31))), q.2.1 ^^^ (((fs_bi q.2.1 a ^^^ fs_bi q.2.1 b) <<< (a &&& 31)) ||| ((fs_bi q.2.1 a ^^^ fs_bi q.2.1 b) <<< (b &&& 31))), q.2.2.1, q.2.2.2)
  else if k = 5 then (q.1, q.2.1, q.2.2.1 ^^^ z, q.2.2.2)
  else (q.1, q.2.1, q.2.2.1 ^^^ x, q.2.2.2)
theorem fs_bi_b {a : Nat} (ha : a < 32) (x : Int32) : fs_bi x (nI a) = fs_b (bt x a) := fs_onS ha x
theorem fs_gd_abs {n k a b : Nat} (hn : n ≤ 10) (h : fs_okg n k a b) {bv : Int32} (hb : 2 ≤ k → k ≤ 4 → bv = nI b) {q : fs_Q} (hc : fs_01 q.2.2.1) : fs_abs (fs_gd q (nI k) (nI a) bv) = fs_gr k a b (fs_abs q) ∧ fs_01 (fs_gd q (nI k) (nI a) bv).2.2.1 := by
  obtain ⟨h1, h2, h3⟩ := h
  have ha : a < 32 := by omega
  revert h3 hb
  refine fs_kind7 (P := fun k => (2 ≤ k → k ≤ 4 → bv = nI b) → (2 ≤ k → k ≤ 4 → b < n ∧ a ≠ b) → fs_abs (fs_gd q (nI k) (nI a) bv) = fs_gr k a b (fs_abs q) ∧ fs_01 (fs_gd q (nI k) (nI a) bv).2.2.1) ?_ ?_ ?_ ?_ ?_ ?_ ?_ h1 <;> intro g1 g2
  · have e : fs_gd q (nI 0) (nI a) bv = (q.1 ^^^ ((fs_bi q.1 (nI a) ^^^ fs_bi q.2.1 (nI a)) <<< (nI a &&& 31)), q.2.1 ^^^ ((fs_bi q.1 (nI a) ^^^ fs_bi q.2.1 (nI a)) <<< (nI a &&& 31)), q.2.2.1 ^^^ (fs_bi q.1 (nI a) &&& fs_bi q.2.1 (nI a)), q.2.2.2) := rfl
    rw [e, fs_bi_b ha, fs_bi_b ha, fs_b_and, fs_b_xor]
    obtain ⟨c1, c2⟩ := fs_01_x hc (bt q.1 a && bt q.2.1 a)
    refine ⟨Prod.ext (Prod.ext ?_ ?_) (Prod.ext c2 rfl), c1⟩
    · show bt (q.1 ^^^ _) = fs_up (bt q.1) a (bt q.2.1 a)
      rw [fs_turn ha]; exact congrArg _ (fs_xzx _ _).1
    · show bt (q.2.1 ^^^ _) = fs_up (bt q.2.1) a (bt q.1 a)
      rw [fs_turn ha]; exact congrArg _ (fs_xzx _ _).2
  · have e : fs_gd q (nI 1) (nI a) bv = (q.1, q.2.1 ^^^ (fs_bi q.1 (nI a) <<< (nI a &&& 31)), q.2.2.1 ^^^ (fs_bi q.1 (nI a) &&& fs_bi q.2.1 (nI a)), q.2.2.2) := rfl
    rw [e, fs_bi_b ha, fs_bi_b ha, fs_b_and]
    obtain ⟨c1, c2⟩ := fs_01_x hc (bt q.1 a && bt q.2.1 a)
    refine ⟨Prod.ext (Prod.ext rfl ?_) (Prod.ext c2 rfl), c1⟩
    show bt (q.2.1 ^^^ _) = fs_up (bt q.2.1) a (bt q.2.1 a ^^ bt q.1 a)
    rw [fs_turn ha]
  · obtain ⟨q1, q2⟩ := g2 (by omega) (by omega)
    have hb' : b < 32 := by omega
    rw [g1 (by omega) (by omega)]
    have e : fs_gd q (nI 2) (nI a) (nI b) = (q.1 ^^^ (fs_bi q.1 (nI a) <<< (nI b &&& 31)), q.2.1 ^^^ (fs_bi q.2.1 (nI b) <<< (nI a &&& 31)), q.2.2.1 ^^^ (fs_bi q.1 (nI a) &&& fs_bi q.2.1 (nI b) &&& (fs_bi q.1 (nI b) ^^^ fs_bi q.2.1 (nI a) ^^^ 1)), q.2.2.2) := rfl
    rw [e, fs_bi_b ha, fs_bi_b ha, fs_bi_b hb', fs_bi_b hb', fs_b_and, fs_b_xor, fs_b_not, fs_b_and, fs_nt]
    obtain ⟨c1, c2⟩ := fs_01_x hc (bt q.1 a && bt q.2.1 b && (bt q.1 b ^^ bt q.2.1 a ^^ true))
    refine ⟨Prod.ext (Prod.ext ?_ ?_) (Prod.ext c2 rfl), c1⟩
    · show bt (q.1 ^^^ _) = fs_up (bt q.1) b (bt q.1 b ^^ bt q.1 a)
      rw [fs_turn hb']
    · show bt (q.2.1 ^^^ _) = fs_up (bt q.2.1) a (bt q.2.1 a ^^ bt q.2.1 b)
      rw [fs_turn ha]
  · obtain ⟨q1, q2⟩ := g2 (by omega) (by omega)
    have hb' : b < 32 := by omega
    rw [g1 (by omega) (by omega)]
    have e : fs_gd q (nI 3) (nI a) (nI b) = (q.1, q.2.1 ^^^ ((fs_bi q.1 (nI b) <<< (nI a &&& 31)) ||| (fs_bi q.1 (nI a) <<< (nI b &&& 31))), q.2.2.1 ^^^ (fs_bi q.1 (nI a) &&& fs_bi q.1 (nI b) &&& (fs_bi q.2.1 (nI a) ^^^ fs_bi q.2.1 (nI b))), q.2.2.2) := rfl
    rw [e, fs_bi_b ha, fs_bi_b ha, fs_bi_b hb', fs_bi_b hb', fs_b_and, fs_b_xor, fs_b_and]
    obtain ⟨c1, c2⟩ := fs_01_x hc (bt q.1 a && bt q.1 b && (bt q.2.1 a ^^ bt q.2.1 b))
    refine ⟨Prod.ext (Prod.ext rfl ?_) (Prod.ext c2 rfl), c1⟩
    show bt (q.2.1 ^^^ _) = fs_up (fs_up (bt q.2.1) a (bt q.2.1 a ^^ bt q.1 b)) b (bt q.2.1 b ^^ bt q.1 a)
    rw [fs_turn2 ha hb' q2]
  · obtain ⟨q1, q2⟩ := g2 (by omega) (by omega)
    have hb' : b < 32 := by omega
    rw [g1 (by omega) (by omega)]
    have e : fs_gd q (nI 4) (nI a) (nI b) = (q.1 ^^^ (((fs_bi q.1 (nI a) ^^^ fs_bi q.1 (nI b)) <<< (nI a &&& 31)) ||| ((fs_bi q.1 (nI a) ^^^ fs_bi q.1 (nI b)) <<< (nI b &&& 31))), q.2.1 ^^^ (((fs_bi q.2.1 (nI a) ^^^ fs_bi q.2.1 (nI b)) <<< (nI a &&& 31)) ||| ((fs_bi q.2.1 (nI a) ^^^ fs_bi q.2.1 (nI b)) <<< (nI b &&& 31))), q.2.2.1, q.2.2.2) := rfl
    rw [e, fs_bi_b ha, fs_bi_b ha, fs_bi_b hb', fs_bi_b hb', fs_b_xor, fs_b_xor]
    refine ⟨Prod.ext (Prod.ext ?_ ?_) (Prod.ext (fs_bs0 _).symm rfl), hc⟩
    · show bt (q.1 ^^^ _) = fs_up (fs_up (bt q.1) a (bt q.1 b)) b (bt q.1 a)
      rw [fs_turn2 ha hb' q2, (fs_xzx _ _).1, (fs_xzx _ _).2]
    · show bt (q.2.1 ^^^ _) = fs_up (fs_up (bt q.2.1) a (bt q.2.1 b)) b (bt q.2.1 a)
      rw [fs_turn2 ha hb' q2, (fs_xzx _ _).1, (fs_xzx _ _).2]
  · have e : fs_gd q (nI 5) (nI a) bv = (q.1, q.2.1, q.2.2.1 ^^^ fs_bi q.2.1 (nI a), q.2.2.2) := rfl
    rw [e, fs_bi_b ha]
    obtain ⟨c1, c2⟩ := fs_01_x hc (bt q.2.1 a)
    exact ⟨Prod.ext rfl (Prod.ext c2 rfl), c1⟩
  · have e : fs_gd q (nI 6) (nI a) bv = (q.1, q.2.1, q.2.2.1 ^^^ fs_bi q.1 (nI a), q.2.2.2) := rfl
    rw [e, fs_bi_b ha]
    obtain ⟨c1, c2⟩ := fs_01_x hc (bt q.1 a)
    exact ⟨Prod.ext rfl (Prod.ext c2 rfl), c1⟩
end
section
-- the class's tableau and the reference's rows, as they stand: what an act does to both
def fs_vv (q : fs_Q) : fs_V := (fs_abs q).1
/-- the class's keepers kp and partners pn, the reference's rows rw, of n wires -/
def fs_Tw (n : Nat) (kp pn rw : Nat → fs_Q) : Prop := (∀ i, i < n → fs_sq n (kp i) ∧ fs_sq n (pn i) ∧ fs_sq n (rw i)) ∧ fs_Sim n (fun i => fs_abs (kp i)) (fun i => fs_vv (pn i)) (fun i => fs_abs (rw i))
theorem fs_Tw_n {n : Nat} {kp pn rw : Nat → fs_Q} (T : fs_Tw n kp pn rw) : n ≤ 10 := T.2.1.1
theorem fs_sq_up {n k : Nat} {q : fs_Q} (h : fs_sq n q) (hk : n ≤ k) : fs_sq k q := ⟨fun w hw => h.1 w (by omega), h.2⟩
theorem fs_abs_0 : fs_abs (0, 0, 0, 0) = fs_r1 := by
  unfold fs_abs fs_r1 fs_v0
  dsimp only
  rw [fs_bt0]
theorem fs_abs_Z {a : Nat} (ha : a < 32) (h : Int64) : fs_abs ((0, 1 <<< (nI a &&& 31), 0, h) : fs_Q) = (fs_Zv a, false, h) := by
  unfold fs_abs fs_Zv
  dsimp only
  rw [fs_bt0, fs_btZ ha]
theorem fs_abs_X {a : Nat} (ha : a < 32) : fs_vv ((1 <<< (nI a &&& 31), 0, 0, 0) : fs_Q) = fs_Xv a := by
  unfold fs_vv fs_abs fs_Xv
  dsimp only
  rw [fs_bt0, fs_btZ ha]
theorem fs_01_0 : fs_01 0 := by unfold fs_01; decide
theorem fs_Tw_0 {n : Nat} (hn : n ≤ 10) {kp pn rw : Nat → fs_Q} (hk : ∀ i, i < n → kp i = ((0, 1 <<< (nI i &&& 31), 0, 0) : fs_Q)) (hp : ∀ i, i < n → pn i = ((1 <<< (nI i &&& 31), 0, 0, 0) : fs_Q)) (hr : ∀ i, i < n → rw i = ((0, 1 <<< (nI i &&& 31), 0, 0) : fs_Q)) : fs_Tw n kp pn rw := by
  have az : ∀ i, i < n → fs_abs ((0, 1 <<< (nI i &&& 31), 0, 0) : fs_Q) = (fs_Zv i, false, 0) := fun i hi => fs_abs_Z (by omega) 0
  have io : ∀ i, fs_io (fs_Zv i, false, 0) = (fs_Zv i, 0#2, 0) := fun i => by
    unfold fs_io
    dsimp only
    rw [fs_q_Z]; rfl
  refine ⟨fun i hi => ⟨⟨?_, ?_⟩, ⟨?_, ?_⟩, ⟨?_, ?_⟩⟩, ?_, fun g => ?_⟩
  · rw [hk i hi, az i hi]; exact fs_su_Z hi
  · rw [hk i hi]; exact fs_01_0
  · rw [hp i hi]; show fs_su n (fs_vv _); rw [fs_abs_X (by omega)]; exact fs_su_X hi
  · rw [hp i hi]; exact fs_01_0
  · rw [hr i hi, az i hi]; exact fs_su_Z hi
  · rw [hr i hi]; exact fs_01_0
  · refine fs_Tab_congr (fs_Tab_0 hn) (fun i hi => ?_) (fun i hi => ?_)
    · show fs_io (fs_abs (kp i)) = _
      rw [hk i hi, az i hi, io i]
    · show fs_vv (pn i) = _
      rw [hp i hi, fs_abs_X (by omega)]
  · exact fs_Sp_congr (fun i hi => by
      show fs_io (fs_abs (rw i)) = fs_io (fs_abs (kp i))
      rw [hk i hi, hr i hi]) g
theorem fs_sq_gr {n k a b : Nat} (h : fs_okg n k a b) {q q' : fs_Q} (hq : fs_sq n q) (e : fs_abs q' = fs_gr k a b (fs_abs q) ∧ fs_01 q'.2.2.1) : fs_sq n q' := ⟨by rw [e.1]; exact fs_su_k h hq.1, e.2⟩
theorem fs_Tw_gate {n k a b : Nat} {bv : Int32} {kp pn rw kp' pn' rw' : Nat → fs_Q} (T : fs_Tw n kp pn rw) (h : fs_okg n k a b) (hb : 2 ≤ k → k ≤ 4 → bv = nI b)
    (hk : ∀ i, i < n → kp' i = fs_ps (kp i) (nI k) (nI a) bv) (hp : ∀ i, i < n → pn' i = fs_ps (pn i) (nI k) (nI a) bv) (hr : ∀ i, i < n → rw' i = fs_gd (rw i) (nI k) (nI a) bv) : fs_Tw n kp' pn' rw' := by
  have hn := fs_Tw_n T
  obtain ⟨T1, T2⟩ := T
  have ek : ∀ i, i < n → fs_abs (kp' i) = fs_gr k a b (fs_abs (kp i)) ∧ fs_01 (kp' i).2.2.1 := fun i hi => by rw [hk i hi]; exact fs_ps_abs hn h hb (T1 i hi).1.2
  have ep : ∀ i, i < n → fs_abs (pn' i) = fs_gr k a b (fs_abs (pn i)) ∧ fs_01 (pn' i).2.2.1 := fun i hi => by rw [hp i hi]; exact fs_ps_abs hn h hb (T1 i hi).2.1.2
  have er : ∀ i, i < n → fs_abs (rw' i) = fs_gr k a b (fs_abs (rw i)) ∧ fs_01 (rw' i).2.2.1 := fun i hi => by rw [hr i hi]; exact fs_gd_abs hn h hb (T1 i hi).2.2.2
  refine ⟨fun i hi => ⟨fs_sq_gr h (T1 i hi).1 (ek i hi), fs_sq_gr h (T1 i hi).2.1 (ep i hi), fs_sq_gr h (T1 i hi).2.2 (er i hi)⟩, ?_⟩
  refine fs_Sim_gate T2 h (fun i hi => (ek i hi).1) (fun i hi => (er i hi).1) (fun i hi => ?_)
  show (fs_abs (pn' i)).1 = _
  rw [(ep i hi).1]; rfl
/-- an x that happens if a look told 1 -/
def fs_fl (q : fs_Q) (c : Int32) (r : Int64) : fs_Q := (q.1, q.2.1, q.2.2.1 ^^^ c, q.2.2.2 ^^^ r)
theorem fs_fl_abs {a : Nat} {q q' : fs_Q} {c : Bool} {r : Int64} (hc : fs_01 q.2.2.1) (e : q' = if bt q.2.1 a = true then fs_fl q (fs_b c) r else q) : fs_abs q' = fs_rr a c r (fs_abs q) ∧ fs_01 q'.2.2.1 := by
  rw [e]
  unfold fs_rr
  by_cases h : bt q.2.1 a = true
  · rw [if_pos h, if_pos (show (fs_abs q).1.2 a = true from h)]
    obtain ⟨c1, c2⟩ := fs_01_x hc c
    exact ⟨Prod.ext rfl (Prod.ext c2 rfl), c1⟩
  · rw [if_neg h, if_neg (show ¬ (fs_abs q).1.2 a = true from h)]
    exact ⟨rfl, hc⟩
theorem fs_rr_v (a : Nat) (c : Bool) (h : Int64) (r : fs_R) : (fs_rr a c h r).1 = r.1 := by
  unfold fs_rr
  split <;> rfl
theorem fs_Tw_reset {n a : Nat} {c : Bool} {r : Int64} {kp pn rw kp' rw' : Nat → fs_Q} (T : fs_Tw n kp pn rw)
    (hk : ∀ i, i < n → kp' i = if bt (kp i).2.1 a = true then fs_fl (kp i) (fs_b c) r else kp i) (hr : ∀ i, i < n → rw' i = if bt (rw i).2.1 a = true then fs_fl (rw i) (fs_b c) r else rw i) : fs_Tw n kp' pn rw' := by
  obtain ⟨T1, T2⟩ := T
  have ek := fun i hi => fs_fl_abs (T1 i hi).1.2 (hk i hi)
  have er := fun i hi => fs_fl_abs (T1 i hi).2.2.2 (hr i hi)
  refine ⟨fun i hi => ⟨⟨?_, (ek i hi).2⟩, (T1 i hi).2.1, ⟨?_, (er i hi).2⟩⟩, fs_Sim_reset T2 (fun i hi => (ek i hi).1) (fun i hi => (er i hi).1)⟩
  · rw [(ek i hi).1, fs_rr_v]; exact (T1 i hi).1.1
  · rw [(er i hi).1, fs_rr_v]; exact (T1 i hi).2.2.1
theorem fs_rm_v (t r : fs_R) : (fs_rm t r).1 = fs_va r.1 t.1 := rfl
/-- a random look -/
theorem fs_Tw_rand {n a p q : Nat} {h : Int64} {kp pn rw kp' pn' rw' : Nat → fs_Q} (T : fs_Tw n kp pn rw) (ha : a < n) (hp : p < n) (hq : q < n) (hKp : bt (kp p).1 a = true) (hRq : bt (rw q).1 a = true)
    (hk : ∀ i, i < n → kp' i = if i = p then ((0, 1 <<< (nI a &&& 31), 0, h) : fs_Q) else if bt (kp i).1 a = true then fs_mb (kp i) (kp p) else kp i)
    (hpn : ∀ i, i < n → pn' i = if i = p then kp p else if bt (pn i).1 a = true then fs_mb (pn i) (kp p) else pn i)
    (hr : ∀ i, i < n → rw' i = if i = q then ((0, 1 <<< (nI a &&& 31), 0, h) : fs_Q) else if bt (rw i).1 a = true then fs_ml n (rw i) (rw q) else rw i) : fs_Tw n kp' pn' rw' := by
  have hn := fs_Tw_n T
  obtain ⟨T1, T2⟩ := T
  have aZ := fs_abs_Z (a := a) (by omega) h
  have sZ : fs_sq n ((0, 1 <<< (nI a &&& 31), 0, h) : fs_Q) := ⟨by rw [aZ]; exact fs_su_Z ha, fs_01_0⟩
  have ek : ∀ i, i < n → fs_abs (kp' i) = fs_cr (fun i => fs_abs (kp i)) p a h i ∧ fs_sq n (kp' i) := by
    intro i hi
    rw [hk i hi]
    unfold fs_cr
    by_cases hip : i = p
    · rw [if_pos hip, if_pos hip]; exact ⟨aZ, sZ⟩
    · rw [if_neg hip, if_neg hip]
      by_cases hx : bt (kp i).1 a = true
      · rw [if_pos hx, if_pos (show (fs_abs (kp i)).1.1 a = true from hx)]
        have := fs_mb_abs (fs_sq_up (T1 i hi).1 hn) (fs_sq_up (T1 p hp).1 hn)
        exact ⟨this.1, by rw [this.1, fs_rm_v]; exact fs_su_a (T1 i hi).1.1 (T1 p hp).1.1, this.2⟩
      · rw [if_neg hx, if_neg (show ¬ (fs_abs (kp i)).1.1 a = true from hx)]; exact ⟨rfl, (T1 i hi).1⟩
  have er : ∀ i, i < n → fs_abs (rw' i) = fs_cr (fun i => fs_abs (rw i)) q a h i ∧ fs_sq n (rw' i) := by
    intro i hi
    rw [hr i hi]
    unfold fs_cr
    by_cases hip : i = q
    · rw [if_pos hip, if_pos hip]; exact ⟨aZ, sZ⟩
    · rw [if_neg hip, if_neg hip]
      by_cases hx : bt (rw i).1 a = true
      · rw [if_pos hx, if_pos (show (fs_abs (rw i)).1.1 a = true from hx)]
        have := fs_ml_abs hn (T1 i hi).2.2.2 (T1 q hq).2.2
        exact ⟨this.1, by rw [this.1, fs_rm_v]; exact fs_su_a (T1 i hi).2.2.1 (T1 q hq).2.2.1, this.2⟩
      · rw [if_neg hx, if_neg (show ¬ (fs_abs (rw i)).1.1 a = true from hx)]; exact ⟨rfl, (T1 i hi).2.2⟩
  have ep : ∀ i, i < n → fs_vv (pn' i) = (if i = p then (fs_abs (kp p)).1 else if (fs_vv (pn i)).1 a = true then fs_va (fs_vv (pn i)) (fs_abs (kp p)).1 else fs_vv (pn i)) ∧ fs_sq n (pn' i) := by
    intro i hi
    rw [hpn i hi]
    by_cases hip : i = p
    · rw [if_pos hip, if_pos hip]; exact ⟨rfl, (T1 p hp).1⟩
    · rw [if_neg hip, if_neg hip]
      by_cases hx : bt (pn i).1 a = true
      · rw [if_pos hx, if_pos (show (fs_vv (pn i)).1 a = true from hx)]
        have := fs_mb_abs (fs_sq_up (T1 i hi).2.1 hn) (fs_sq_up (T1 p hp).1 hn)
        refine ⟨?_, ?_, this.2⟩
        · show (fs_abs _).1 = _
          rw [this.1]; rfl
        · rw [this.1, fs_rm_v]; exact fs_su_a (T1 i hi).2.1.1 (T1 p hp).1.1
      · rw [if_neg hx, if_neg (show ¬ (fs_vv (pn i)).1 a = true from hx)]; exact ⟨rfl, (T1 i hi).2.1⟩
  exact ⟨fun i hi => ⟨(ek i hi).2, (ep i hi).2, (er i hi).2⟩, fs_Sim_rand T2 ha hp hq hKp hRq (fun i hi => (ek i hi).1) (fun i hi => (er i hi).1) (fun i hi => (ep i hi).1)⟩
theorem fs_Tw_any {n a : Nat} {kp pn rw : Nat → fs_Q} (T : fs_Tw n kp pn rw) (ha : a < n) : (∀ i, i < n → bt (kp i).1 a = false) ↔ (∀ i, i < n → bt (rw i).1 a = false) := fs_Sim_any T.2 ha
/-- the class's product of a told look -/
def fs_zk (kp pn : Nat → fs_Q) (a : Nat) : Nat → fs_Q
  | 0 => (0, 0, 0, 0)
  | i + 1 => if bt (pn i).1 a = true then fs_mb (fs_zk kp pn a i) (kp i) else fs_zk kp pn a i
theorem fs_zk_abs {n a : Nat} {kp pn rw : Nat → fs_Q} (T : fs_Tw n kp pn rw) : ∀ i, i ≤ n → fs_abs (fs_zk kp pn a i) = fs_pd (fun i => fs_abs (kp i)) (fun i => fs_vv (pn i)) a i ∧ fs_sq n (fs_zk kp pn a i) := by
  have hn := fs_Tw_n T
  intro i
  induction i with
  | zero => intro _; exact ⟨fs_abs_0, by rw [show fs_zk kp pn a 0 = (0, 0, 0, 0) from rfl, fs_abs_0]; exact fs_su_0, fs_01_0⟩
  | succ i ih =>
    intro hi
    obtain ⟨h1, h2⟩ := ih (by omega)
    show fs_abs (if bt (pn i).1 a = true then fs_mb (fs_zk kp pn a i) (kp i) else fs_zk kp pn a i) = (if (fs_vv (pn i)).1 a = true then _ else _) ∧ fs_sq n (if bt (pn i).1 a = true then fs_mb (fs_zk kp pn a i) (kp i) else fs_zk kp pn a i)
    by_cases hx : bt (pn i).1 a = true
    · rw [if_pos hx, if_pos (show (fs_vv (pn i)).1 a = true from hx)]
      have := fs_mb_abs (fs_sq_up h2 hn) (fs_sq_up (T.1 i (by omega)).1 hn)
      refine ⟨by rw [this.1, h1], ?_, this.2⟩
      rw [this.1, fs_rm_v]; exact fs_su_a h2.1 (T.1 i (by omega)).1.1
    · rw [if_neg hx, if_neg (show ¬ (fs_vv (pn i)).1 a = true from hx)]; exact ⟨h1, h2⟩
/-- one column of the reference's elimination: rows, which are used, what is made -/
def fs_co (x z : Int32) (c : Nat) : Bool := if c < 10 then bt x c else bt z (c - 10)
theorem fs_co_cl (q : fs_Q) (c : Nat) : fs_co q.1 q.2.1 c = fs_cl c (fs_abs q).1 := rfl
theorem fs_coZ {a : Nat} (ha : a < 32) (md : fs_Q) (c : Nat) : fs_co md.1 (md.2.1 ^^^ (1 <<< (nI a &&& 31))) c = fs_cl c (fs_va (fs_abs md).1 (fs_Zv a)) := by
  unfold fs_co fs_cl fs_va fs_abs fs_Zv
  dsimp only
  rw [Bool.xor_false]
  split
  · rfl
  · rw [b_xor, fs_sh1 ha]
/-- the reference's elimination before column c -/
def fs_Eq (n a : Nat) (kp : Nat → fs_Q) (c : Nat) (us : Nat → Bool) (rw : Nat → fs_Q) (md : fs_Q) : Prop :=
  (∀ i, i < n → fs_sq n (rw i)) ∧ fs_sq n md ∧ fs_El n (fs_Sp n (fun i => fs_io (fs_abs (kp i)))) (fs_Zv a) c us (fun i => fs_io (fs_abs (rw i))) (fs_io (fs_abs md))
theorem fs_Eq_0 {n a : Nat} {kp pn rw : Nat → fs_Q} {us : Nat → Bool} (T : fs_Tw n kp pn rw) (ha : a < n) (h : ∀ i, i < n → bt (kp i).1 a = false) (hu : ∀ i, i < n → us i = false) : fs_Eq n a kp 0 us rw (0, 0, 0, 0) := by
  refine ⟨fun i hi => (T.1 i hi).2.2, ⟨by rw [fs_abs_0]; exact fs_su_0, fs_01_0⟩, ?_⟩
  rw [fs_abs_0]
  exact fs_Sim_el0 T.2 ha h hu
theorem fs_Eq_no {n a c : Nat} {kp rw : Nat → fs_Q} {us : Nat → Bool} {md : fs_Q} (E : fs_Eq n a kp c us rw md) (h : ∀ i, i < n → us i = false → fs_co (rw i).1 (rw i).2.1 c = false) : fs_Eq n a kp (c + 1) us rw md :=
  ⟨E.1, E.2.1, (fs_El_no E.2.2 h).1⟩
theorem fs_Eq_yes {n a c p : Nat} {kp pn rw0 rw rw' : Nat → fs_Q} {us us' : Nat → Bool} {md md' : fs_Q} (T : fs_Tw n kp pn rw0) (ha : a < n) (E : fs_Eq n a kp c us rw md) (hp : p < n) (hup : us p = false) (hpc : fs_co (rw p).1 (rw p).2.1 c = true)
    (hr : ∀ i, i < n → rw' i = if us i = false ∧ i ≠ p ∧ fs_co (rw i).1 (rw i).2.1 c = true then fs_ml n (rw i) (rw p) else rw i) (hu : ∀ i, i < n → us' i = fs_up us p true i)
    (hm : md' = if fs_co md.1 (md.2.1 ^^^ (1 <<< (nI a &&& 31))) c = true then fs_ml n md (rw p) else md) : fs_Eq n a kp (c + 1) us' rw' md' := by
  have hn := fs_Tw_n T
  obtain ⟨E1, E2, E3⟩ := E
  have er : ∀ i, i < n → fs_abs (rw' i) = fs_er us (fun i => fs_abs (rw i)) p c i ∧ fs_sq n (rw' i) := by
    intro i hi
    rw [hr i hi]
    unfold fs_er
    by_cases q : us i = false ∧ i ≠ p ∧ fs_co (rw i).1 (rw i).2.1 c = true
    · rw [if_pos q, if_pos (show us i = false ∧ i ≠ p ∧ fs_cl c (fs_abs (rw i)).1 = true from q)]
      have := fs_ml_abs hn (E1 i hi).2 (E1 p hp)
      exact ⟨this.1, by rw [this.1, fs_rm_v]; exact fs_su_a (E1 i hi).1 (E1 p hp).1, this.2⟩
    · rw [if_neg q, if_neg (show ¬ (us i = false ∧ i ≠ p ∧ fs_cl c (fs_abs (rw i)).1 = true) from q)]; exact ⟨rfl, E1 i hi⟩
  have em : fs_abs md' = (if fs_cl c (fs_va (fs_abs md).1 (fs_Zv a)) = true then fs_rm (fs_abs (rw p)) (fs_abs md) else fs_abs md) ∧ fs_sq n md' := by
    rw [hm, fs_coZ (by omega)]
    split
    · have := fs_ml_abs hn E2.2 (E1 p hp)
      exact ⟨this.1, by rw [this.1, fs_rm_v]; exact fs_su_a E2.1 (E1 p hp).1, this.2⟩
    · exact ⟨rfl, E2⟩
  exact ⟨fun i hi => (er i hi).2, em.2, fs_El_step T.2.1.2.1 T.2.1.2.2.1 E3 hp hup hpc (fun i hi => (er i hi).1) hu em.1⟩
theorem fs_Eq_end {n a : Nat} {kp pn rw rw' : Nat → fs_Q} {us : Nat → Bool} {md : fs_Q} (T : fs_Tw n kp pn rw) (ha : a < n) (h : ∀ i, i < n → bt (kp i).1 a = false) (E : fs_Eq n a kp 20 us rw' md) :
    fs_Tw n kp pn rw' ∧ md.2.2.1 = (fs_zk kp pn a n).2.2.1 ∧ md.2.2.2 = (fs_zk kp pn a n).2.2.2 := by
  obtain ⟨E1, E2, E3⟩ := E
  obtain ⟨z1, z2⟩ := fs_zk_abs (a := a) T n (Nat.le_refl n)
  obtain ⟨s1, s2⟩ := fs_Sim_told (md := fs_abs md) T.2 ha h E3
  have e := s2.trans z1.symm
  have e1 : bt md.2.2.1 0 = bt (fs_zk kp pn a n).2.2.1 0 := congrArg (fun r : fs_R => r.2.1) e
  have e2 : md.2.2.2 = (fs_zk kp pn a n).2.2.2 := congrArg (fun r : fs_R => r.2.2) e
  refine ⟨⟨fun i hi => ⟨(T.1 i hi).1, (T.1 i hi).2.1, E1 i hi⟩, s1⟩, ?_, e2⟩
  have a1 : md.2.2.1 = fs_b (bt md.2.2.1 0) := E2.2
  have a2 : (fs_zk kp pn a n).2.2.1 = fs_b (bt (fs_zk kp pn a n).2.2.1 0) := z2.2
  rw [a1, a2, e1]
end
section
-- what the reference's playAll does, as a relation: any pivot will do
/-- a random look: rows rw become rw' -/
def fs_kR (n a : Nat) (num : Int64) (rw rw' : Nat → fs_Q) : Prop :=
  ∃ q, q < n ∧ bt (rw q).1 a = true ∧ ∀ i, i < n → rw' i = if i = q then ((0, 1 <<< (nI a &&& 31), 0, num) : fs_Q) else if bt (rw i).1 a = true then fs_ml n (rw i) (rw q) else rw i
def fs_kE (n a : Nat) (rw0 : Nat → fs_Q) : Nat → (Nat → Bool) → (Nat → fs_Q) → fs_Q → Prop
  | 0, us, rw, md => (∀ i, i < n → us i = false) ∧ (∀ i, i < n → rw i = rw0 i) ∧ md = (0, 0, 0, 0)
  | c + 1, us', rw', md' => ∃ (us : Nat → Bool) (rw : Nat → fs_Q) (md : fs_Q), fs_kE n a rw0 c us rw md ∧
      (((∀ i, i < n → us i = false → fs_co (rw i).1 (rw i).2.1 c = false) ∧ (∀ i, i < n → us' i = us i) ∧ (∀ i, i < n → rw' i = rw i) ∧ md' = md) ∨
       ∃ p, p < n ∧ us p = false ∧ fs_co (rw p).1 (rw p).2.1 c = true ∧ (∀ i, i < n → rw' i = if us i = false ∧ i ≠ p ∧ fs_co (rw i).1 (rw i).2.1 c = true then fs_ml n (rw i) (rw p) else rw i) ∧ (∀ i, i < n → us' i = fs_up us p true i) ∧
         md' = if fs_co md.1 (md.2.1 ^^^ (1 <<< (nI a &&& 31))) c = true then fs_ml n md (rw p) else md)
/-- a look: rows, and what the look tells -/
def fs_kL (n a : Nat) (num : Int64) (rw rw' : Nat → fs_Q) (c : Int32) (h : Int64) : Prop :=
  (fs_kR n a num rw rw' ∧ c = 0 ∧ h = num) ∨ ((∀ i, i < n → bt (rw i).1 a = false) ∧ ∃ (us : Nat → Bool) (md : fs_Q), fs_kE n a rw 20 us rw' md ∧ c = md.2.2.1 ∧ h = md.2.2.2)
theorem fs_Eq_congr {n a c : Nat} {kp rw rw' : Nat → fs_Q} {us us' : Nat → Bool} {md : fs_Q} (E : fs_Eq n a kp c us rw md) (hu : ∀ i, i < n → us' i = us i) (hr : ∀ i, i < n → rw' i = rw i) : fs_Eq n a kp c us' rw' md := by
  obtain ⟨E1, E2, E3⟩ := E
  exact ⟨fun i hi => by rw [hr i hi]; exact E1 i hi, E2, fs_El_congr E3 (fun i hi => by show fs_io (fs_abs (rw' i)) = _; rw [hr i hi]) hu⟩
theorem fs_kE_Eq {n a : Nat} {kp pn rw0 : Nat → fs_Q} (T : fs_Tw n kp pn rw0) (ha : a < n) (h : ∀ i, i < n → bt (kp i).1 a = false) : ∀ (c : Nat) (us : Nat → Bool) (rw : Nat → fs_Q) (md : fs_Q), fs_kE n a rw0 c us rw md → fs_Eq n a kp c us rw md := by
  intro c
  induction c with
  | zero =>
    rintro us rw md ⟨h1, h2, h3⟩
    rw [h3]
    exact fs_Eq_congr (fs_Eq_0 (us := us) T ha h h1) (fun _ _ => rfl) h2
  | succ c ih =>
    rintro us' rw' md' ⟨us, rw, md, h1, h2⟩
    have E := ih us rw md h1
    rcases h2 with ⟨g1, g2, g3, g4⟩ | ⟨p, g1, g2, g3, g4, g5, g6⟩
    · rw [g4]
      exact fs_Eq_congr (fs_Eq_no E g1) g2 g3
    · exact fs_Eq_yes T ha E g1 g2 g3 g4 g5 g6
/-- what the class does at a look -/
def fs_cL (n a : Nat) (num : Int64) (kp pn kp' pn' : Nat → fs_Q) (c : Int32) (h : Int64) : Prop :=
  (∃ p, p < n ∧ bt (kp p).1 a = true ∧ (∀ i, i < n → kp' i = if i = p then ((0, 1 <<< (nI a &&& 31), 0, num) : fs_Q) else if bt (kp i).1 a = true then fs_mb (kp i) (kp p) else kp i) ∧ (∀ i, i < n → pn' i = if i = p then kp p else if bt (pn i).1 a = true then fs_mb (pn i) (kp p) else pn i) ∧ c = 0 ∧ h = num) ∨
  ((∀ i, i < n → bt (kp i).1 a = false) ∧ (∀ i, i < n → kp' i = kp i) ∧ (∀ i, i < n → pn' i = pn i) ∧ c = (fs_zk kp pn a n).2.2.1 ∧ h = (fs_zk kp pn a n).2.2.2)
theorem fs_Tw_congr {n : Nat} {kp pn rw kp' pn' rw' : Nat → fs_Q} (T : fs_Tw n kp pn rw) (hk : ∀ i, i < n → kp' i = kp i) (hp : ∀ i, i < n → pn' i = pn i) (hr : ∀ i, i < n → rw' i = rw i) : fs_Tw n kp' pn' rw' := by
  obtain ⟨T1, T2, T3⟩ := T
  refine ⟨fun i hi => by rw [hk i hi, hp i hi, hr i hi]; exact T1 i hi, fs_Tab_congr T2 (fun i hi => by show fs_io (fs_abs (kp' i)) = _; rw [hk i hi]) (fun i hi => by show fs_vv (pn' i) = _; rw [hp i hi]), fun g => ?_⟩
  rw [fs_Sp_congr (R := fun i => fs_io (fs_abs (rw' i))) (R' := fun i => fs_io (fs_abs (rw i))) (fun i hi => by show fs_io (fs_abs (rw' i)) = _; rw [hr i hi]) g,
    fs_Sp_congr (R := fun i => fs_io (fs_abs (kp' i))) (R' := fun i => fs_io (fs_abs (kp i))) (fun i hi => by show fs_io (fs_abs (kp' i)) = _; rw [hk i hi]) g]
  exact T3 g
/-- A LOOK: both tell the same, and go on alike -/
theorem fs_look {n a : Nat} {num : Int64} {kp pn rw kp' pn' rw' : Nat → fs_Q} {c c' : Int32} {h h' : Int64} (T : fs_Tw n kp pn rw) (ha : a < n) (C : fs_cL n a num kp pn kp' pn' c h) (K : fs_kL n a num rw rw' c' h') : fs_Tw n kp' pn' rw' ∧ c' = c ∧ h' = h ∧ fs_01 c := by
  rcases C with ⟨p, p1, p2, p3, p4, p5, p6⟩ | ⟨g1, g2, g3, g4, g5⟩
  · rcases K with ⟨⟨q, q1, q2, q3⟩, q4, q5⟩ | ⟨q1, -⟩
    · exact ⟨fs_Tw_rand T ha p1 q1 p2 q2 p3 p4 q3, by rw [p5, q4], by rw [p6, q5], by rw [p5]; exact fs_01_0⟩
    · have := (fs_Tw_any T ha).mpr q1 p p1
      rw [p2] at this
      cases this
  · rcases K with ⟨⟨q, q1, q2, q3⟩, q4, q5⟩ | ⟨q1, us, md, q2, q3, q4⟩
    · have := (fs_Tw_any T ha).mp g1 q q1
      rw [q2] at this
      cases this
    · obtain ⟨e1, e2, e3⟩ := fs_Eq_end T ha g1 (fs_kE_Eq T ha g1 20 us rw' md q2)
      refine ⟨fs_Tw_congr e1 g2 g3 (fun _ _ => rfl), by rw [q3, g4, e2], by rw [q4, g5, e3], ?_⟩
      rw [g4]
      exact (fs_zk_abs (a := a) T n (Nat.le_refl n)).2.2
-- the acts: kinds kd, wires on, others ot
def fs_kS (n : Nat) (k a o : Int32) (rw : Nat → fs_Q) (ls : Nat → Int32) (lh : Nat → Int64) (rw' : Nat → fs_Q) (ls' : Nat → Int32) (lh' : Nat → Int64) : Prop :=
  (∃ κ α : Nat, κ ≤ 6 ∧ k = nI κ ∧ a = nI α ∧ α < n ∧ (∀ i, i < n → rw' i = fs_gd (rw i) k a o) ∧ ls' = ls ∧ lh' = lh) ∨
  (∃ α j : Nat, (k = 7 ∨ k = 8) ∧ a = nI α ∧ α < n ∧ j < 60 ∧ o = nI j ∧ ∃ (rw1 : Nat → fs_Q) (c : Int32) (h : Int64), fs_kL n α (1 <<< (o.toInt64 &&& 63)) rw rw1 c h ∧ ls' = upd ls j c ∧ lh' = vp_updL lh j h ∧
     ((k = 7 ∧ ∀ i, i < n → rw' i = rw1 i) ∨ (k = 8 ∧ ∀ i, i < n → rw' i = if bt (rw1 i).2.1 α = true then fs_fl (rw1 i) c h else rw1 i))) ∨
  (k = 9 ∧ (∀ i, i < n → rw' i = rw i) ∧ ls' = ls ∧ lh' = lh)
def fs_kP (n : Nat) (kd on ot : Nat → Int32) : Nat → (Nat → fs_Q) → (Nat → Int32) → (Nat → Int64) → Prop
  | 0, rw, _, _ => ∀ i, i < n → rw i = ((0, 1 <<< (nI i &&& 31), 0, 0) : fs_Q)
  | k + 1, rw', ls', lh' => ∃ (rw : Nat → fs_Q) (ls : Nat → Int32) (lh : Nat → Int64), fs_kP n kd on ot k rw ls lh ∧ fs_kS n (kd k) (on k) (ot k) rw ls lh rw' ls' lh'
theorem fs_kP_congr {n : Nat} {kd on ot kd' on' ot' : Nat → Int32} : ∀ (m : Nat), (∀ k, k < m → kd' k = kd k ∧ on' k = on k ∧ ot' k = ot k) → ∀ (rw : Nat → fs_Q) (ls : Nat → Int32) (lh : Nat → Int64), fs_kP n kd' on' ot' m rw ls lh → fs_kP n kd on ot m rw ls lh := by
  intro m
  induction m with
  | zero => intro _ rw ls lh h; exact h
  | succ m ih =>
    rintro he rw' ls' lh' ⟨rw, ls, lh, h1, h2⟩
    obtain ⟨e1, e2, e3⟩ := he m (by omega)
    rw [e1, e2, e3] at h2
    exact ⟨rw, ls, lh, ih (fun k hk => he k (by omega)) rw ls lh h1, h2⟩
/-- the class's keepers, partners and outcomes, against any playing of the reference -/
def fs_RP (n : Nat) (kd on ot : Nat → Int32) (m L : Nat) (kp pn : Nat → fs_Q) (lc : Nat → Int32) (lr : Nat → Int64) : Prop :=
  n ≤ 10 ∧ ∀ (rw : Nat → fs_Q) (ls : Nat → Int32) (lh : Nat → Int64), fs_kP n kd on ot m rw ls lh → fs_Tw n kp pn rw ∧ ∀ i, i < L → ls i = lc i ∧ lh i = lr i
theorem fs_RP_0 {n : Nat} (hn : n ≤ 10) {kd on ot : Nat → Int32} {kp pn : Nat → fs_Q} {lc : Nat → Int32} {lr : Nat → Int64} (hk : ∀ i, i < n → kp i = ((0, 1 <<< (nI i &&& 31), 0, 0) : fs_Q)) (hp : ∀ i, i < n → pn i = ((1 <<< (nI i &&& 31), 0, 0, 0) : fs_Q)) : fs_RP n kd on ot 0 0 kp pn lc lr :=
  ⟨hn, fun rw ls lh h => ⟨fs_Tw_0 hn hk hp h, fun i hi => absurd hi (Nat.not_lt_zero i)⟩⟩
theorem fs_nI9 : ∀ κ : Nat, κ ≤ 6 → ¬ nI κ = 7 ∧ ¬ nI κ = 8 ∧ ¬ nI κ = 9 := by
  intro κ h
  exact fs_kind7 (P := fun κ => ¬ nI κ = 7 ∧ ¬ nI κ = 8 ∧ ¬ nI κ = 9) (by decide) (by decide) (by decide) (by decide) (by decide) (by decide) (by decide) h
theorem fs_nI_inj10 {a b : Nat} (ha : a < 2 ^ 31) (hb : b < 2 ^ 31) (h : nI a = nI b) : a = b := (nI_eq ha hb).mp h
/-- a gate more -/
theorem fs_RP_gate {n m L κ α β : Nat} {o : Int32} {kd on ot kd' on' ot' : Nat → Int32} {kp pn kp' pn' : Nat → fs_Q} {lc : Nat → Int32} {lr : Nat → Int64} (R : fs_RP n kd on ot m L kp pn lc lr) (hg : fs_okg n κ α β) (ho : 2 ≤ κ → κ ≤ 4 → o = nI β)
    (he : ∀ k, k < m → kd' k = kd k ∧ on' k = on k ∧ ot' k = ot k) (h1 : kd' m = nI κ) (h2 : on' m = nI α) (h3 : ot' m = o) (hk : ∀ i, i < n → kp' i = fs_ps (kp i) (nI κ) (nI α) o) (hp : ∀ i, i < n → pn' i = fs_ps (pn i) (nI κ) (nI α) o) : fs_RP n kd' on' ot' (m + 1) L kp' pn' lc lr := by
  obtain ⟨hn, R⟩ := R
  refine ⟨hn, ?_⟩
  rintro rw' ls' lh' ⟨rw, ls, lh, g1, g2⟩
  obtain ⟨T, hL⟩ := R rw ls lh (fs_kP_congr m he rw ls lh g1)
  rw [h1, h2, h3] at g2
  obtain ⟨n7, n8, n9⟩ := fs_nI9 κ hg.1
  rcases g2 with ⟨κ2, α2, -, -, -, -, g3, g4, g5⟩ | ⟨-, -, g3, -⟩ | ⟨g3, -⟩
  · rw [g4, g5]
    exact ⟨fs_Tw_gate T hg ho hk hp g3, hL⟩
  · rcases g3 with q | q
    · exact absurd q n7
    · exact absurd q n8
  · exact absurd g3 n9
/-- a fault more -/
theorem fs_RP_fault {n m L : Nat} {kd on ot kd' on' ot' : Nat → Int32} {kp pn : Nat → fs_Q} {lc : Nat → Int32} {lr : Nat → Int64} (R : fs_RP n kd on ot m L kp pn lc lr)
    (he : ∀ k, k < m → kd' k = kd k ∧ on' k = on k ∧ ot' k = ot k) (h1 : kd' m = 9) : fs_RP n kd' on' ot' (m + 1) L kp pn lc lr := by
  obtain ⟨hn, R⟩ := R
  refine ⟨hn, ?_⟩
  rintro rw' ls' lh' ⟨rw, ls, lh, g1, g2⟩
  obtain ⟨T, hL⟩ := R rw ls lh (fs_kP_congr m he rw ls lh g1)
  rw [h1] at g2
  rcases g2 with ⟨κ2, α2, g0, g3, -⟩ | ⟨-, -, g3, -⟩ | ⟨-, g4, g5, g6⟩
  · exact absurd g3.symm (fs_nI9 κ2 g0).2.2
  · rcases g3 with q | q
    · exact absurd q (by decide)
    · exact absurd q (by decide)
  · rw [g5, g6]
    exact ⟨fs_Tw_congr T (fun _ _ => rfl) (fun _ _ => rfl) g4, hL⟩
/-- a look more -/
theorem fs_RP_look {n m L α : Nat} {rs : Bool} {kd on ot kd' on' ot' : Nat → Int32} {kp pn kp1 kp' pn' : Nat → fs_Q} {lc lc' : Nat → Int32} {lr lr' : Nat → Int64} {c : Int32} {h : Int64} (R : fs_RP n kd on ot m L kp pn lc lr) (ha : α < n) (hL : L < 60)
    (he : ∀ k, k < m → kd' k = kd k ∧ on' k = on k ∧ ot' k = ot k) (h1 : kd' m = if rs = true then 8 else 7) (h2 : on' m = nI α) (h3 : ot' m = nI L)
    (C : fs_cL n α (1 <<< ((nI L).toInt64 &&& 63)) kp pn kp1 pn' c h) (hc : ∀ i, i < n → kp' i = if rs = true ∧ bt (kp1 i).2.1 α = true then fs_fl (kp1 i) c h else kp1 i)
    (hlc : ∀ i, i < L → lc' i = lc i) (hlr : ∀ i, i < L → lr' i = lr i) (hlc1 : lc' L = c) (hlr1 : lr' L = h) : fs_RP n kd' on' ot' (m + 1) (L + 1) kp' pn' lc' lr' := by
  obtain ⟨hn, R⟩ := R
  refine ⟨hn, ?_⟩
  rintro rw' ls' lh' ⟨rw, ls, lh, g1, g2⟩
  obtain ⟨T, hLs⟩ := R rw ls lh (fs_kP_congr m he rw ls lh g1)
  rw [h1, h2, h3] at g2
  rcases g2 with ⟨κ2, α2, g0, g3, -⟩ | ⟨α2, j, g3, g4, g5, g6, g7, rw1, c2, h4, g8, g9, g10, g11⟩ | ⟨g3, -⟩
  · obtain ⟨n7, n8, -⟩ := fs_nI9 κ2 g0
    cases rs with
    | true => exact absurd g3.symm n8
    | false => exact absurd g3.symm n7
  · have ea : α2 = α := fs_nI_inj10 (by omega) (by omega) g4.symm
    have ej : j = L := fs_nI_inj10 (by omega) (by omega) g7.symm
    subst ea; subst ej
    obtain ⟨T2, e1, e2, e3⟩ := fs_look T ha C g8
    subst e1; subst e2
    refine ⟨?_, fun i hi => ?_⟩
    · cases rs with
      | true =>
        rcases g11 with ⟨q, -⟩ | ⟨-, q⟩
        · exact absurd q (by decide)
        · have e3' : c2 = fs_b (bt c2 0) := e3
          rw [e3'] at q hc
          refine fs_Tw_reset (a := α2) (c := bt c2 0) (r := h4) T2 (fun i hi => ?_) q
          rw [hc i hi]
          simp only [true_and]
      | false =>
        rcases g11 with ⟨-, q⟩ | ⟨q, -⟩
        · exact fs_Tw_congr T2 (fun i hi => by rw [hc i hi, if_neg (fun z => absurd z.1 (by decide))]) (fun _ _ => rfl) q
        · exact absurd q (by decide)
    · rw [g9, g10]
      rcases Nat.lt_or_ge i j with q | q
      · rw [pk_un (by omega), pk_uLn (by omega), hlc i q, hlr i q]
        exact hLs i q
      · have : i = j := by omega
        subst this
        rw [pk_us, pk_uLs]
        exact ⟨hlc1.symm, hlr1.symm⟩
  · cases rs with
    | true => exact absurd g3 (by decide)
    | false => exact absurd g3 (by decide)
end
section
-- longs by their bits
def bl (x : Int64) (i : Nat) : Bool := x.toBitVec.getLsbD i
theorem bl_ext {x y : Int64} (h : ∀ i, i < 64 → bl x i = bl y i) : x = y := Int64.toBitVec_inj.mp (BitVec.eq_of_getLsbD_eq (fun i hi => h i hi))
theorem bl_or (x y : Int64) (i : Nat) : bl (x ||| y) i = (bl x i || bl y i) := by unfold bl; rw [Int64.toBitVec_or, BitVec.getLsbD_or]
theorem bl_and (x y : Int64) (i : Nat) : bl (x &&& y) i = (bl x i && bl y i) := by unfold bl; rw [Int64.toBitVec_and, BitVec.getLsbD_and]
theorem bl_xor (x y : Int64) (i : Nat) : bl (x ^^^ y) i = (bl x i ^^ bl y i) := by unfold bl; rw [Int64.toBitVec_xor, BitVec.getLsbD_xor]
theorem bl_big {x : Int64} {i : Nat} (h : 64 ≤ i) : bl x i = false := BitVec.getLsbD_of_ge _ _ h
theorem bl_0 (i : Nat) : bl 0 i = false := BitVec.getLsbD_zero
theorem bl_1 : ∀ i, i < 64 → bl 1 i = decide (i = 0) := by decide +kernel
theorem sl_l : ∀ n, n < 64 → (((nI n).toInt64 &&& 63).toBitVec.smod 64).toNat = n := by decide +kernel
theorem sl_u : ∀ n, n < 64 → (((nI n).toInt64.toUInt64 &&& Int64.toUInt64 63).toBitVec % 64).toNat = n := by decide +kernel
theorem bl_shl {n : Nat} (hn : n < 64) (x : Int64) {i : Nat} (hi : i < 64) : bl (x <<< ((nI n).toInt64 &&& 63)) i = (decide (n ≤ i) && bl x (i - n)) := by
  unfold bl
  rw [Int64.toBitVec_shiftLeft]
  show (x.toBitVec <<< (((nI n).toInt64 &&& 63).toBitVec.smod 64).toNat).getLsbD i = _
  rw [sl_l n hn, BitVec.getLsbD_shiftLeft]
  rcases Nat.lt_or_ge i n with h | h
  · simp [h, Nat.not_le.mpr h]
  · simp [hi, h, Nat.not_lt.mpr h]
def fs_ushl (x : Int64) (y : Int32) : Int64 := (x.toUInt64 >>> (y.toInt64.toUInt64 &&& Int64.toUInt64 63)).toInt64
theorem bl_ushr {n : Nat} (hn : n < 64) (x : Int64) (i : Nat) : bl (fs_ushl x (nI n)) i = bl x (n + i) := by
  show (x.toUInt64 >>> ((nI n).toInt64.toUInt64 &&& Int64.toUInt64 63)).toBitVec.getLsbD i = x.toUInt64.toBitVec.getLsbD (n + i)
  rw [UInt64.toBitVec_shiftRight]
  show (x.toUInt64.toBitVec >>> (((nI n).toInt64.toUInt64 &&& Int64.toUInt64 63).toBitVec % 64).toNat).getLsbD i = _
  rw [sl_u n hn, BitVec.getLsbD_ushiftRight]
theorem bl_sshr {n : Nat} (hn : n < 64) (x : Int64) {i : Nat} (hi : i < 64) : bl (x >>> ((nI n).toInt64 &&& 63)) i = if n + i < 64 then bl x (n + i) else bl x 63 := by
  unfold bl
  rw [Int64.toBitVec_shiftRight]
  show (x.toBitVec.sshiftRight (((nI n).toInt64 &&& 63).toBitVec.smod 64).toNat).getLsbD i = _
  rw [sl_l n hn, BitVec.getLsbD_sshiftRight, BitVec.msb_eq_getLsbD_last]
  simp [hi]
def fs_bL (b : Bool) : Int64 := bif b then 1 else 0
theorem fs_bL_bit : ∀ b : Bool, ∀ i, i < 64 → bl (fs_bL b) i = (decide (i = 0) && b) := by decide +kernel
theorem fs_bL_eq0 : ∀ b : Bool, fs_bL b = 0 ↔ b = false := by decide
theorem fs_bL_eq1 : ∀ b : Bool, fs_bL b = 1 ↔ b = true := by decide
theorem fs_b_L : ∀ b : Bool, (fs_b b).toInt64 = fs_bL b := by decide
theorem fs_andL1 (x : Int64) : x &&& 1 = fs_bL (bl x 0) := by
  refine bl_ext fun i hi => ?_
  rw [bl_and, bl_1 i hi, fs_bL_bit _ i hi]
  by_cases h : i = 0
  · subst h; simp
  · simp [h]
theorem fs_onUL {a : Nat} (ha : a < 64) (x : Int64) : fs_ushl x (nI a) &&& 1 = fs_bL (bl x a) := by
  rw [fs_andL1, bl_ushr ha]
  rfl
theorem fs_onSL {a : Nat} (ha : a < 64) (x : Int64) : (x >>> ((nI a).toInt64 &&& 63)) &&& 1 = fs_bL (bl x a) := by
  rw [fs_andL1, bl_sshr ha x (by omega), if_pos (by omega)]
  rfl
theorem fs_shL {a : Nat} (ha : a < 64) (b : Bool) (i : Nat) : bl (fs_bL b <<< ((nI a).toInt64 &&& 63)) i = (decide (i = a) && b) := by
  rcases Nat.lt_or_ge i 64 with h | h
  · rw [bl_shl ha _ h]
    by_cases q : a ≤ i
    · rw [fs_bL_bit b _ (by omega)]
      by_cases q2 : i = a
      · subst q2; simp
      · have : ¬ i - a = 0 := by omega
        simp [q, q2, this]
    · have : ¬ i = a := by omega
      simp [q, this]
  · have : ¬ i = a := by omega
    rw [bl_big h]; simp [this]
theorem fs_shL1 {a : Nat} (ha : a < 64) (i : Nat) : bl (1 <<< ((nI a).toInt64 &&& 63)) i = decide (i = a) := by
  have := fs_shL ha true i
  rw [Bool.and_true] at this
  exact this
/-- a set lies below n -/
def fs_lt (x : Int64) (n : Nat) : Prop := ∀ i, n ≤ i → bl x i = false
theorem fs_lt_ushr {n : Nat} (hn : n < 64) (x : Int64) : fs_ushl x (nI n) = 0 ↔ fs_lt x n := by
  constructor
  · intro h i hi
    have := bl_ushr hn x (i - n)
    rw [h, bl_0, show n + (i - n) = i by omega] at this
    exact this.symm
  · intro h
    refine bl_ext fun i _ => ?_
    rw [bl_ushr hn, h _ (by omega), bl_0]
theorem fs_neg_bit (x : Int64) : x < 0 ↔ bl x 63 = true := by
  unfold bl
  rw [Int64.lt_iff_toInt_lt, Int64.toInt_zero]
  show x.toBitVec.toInt < 0 ↔ _
  rw [BitVec.toInt_neg_iff, ← BitVec.msb_eq_getLsbD_last (w := 64), BitVec.msb_eq_decide]
  simp
  omega
theorem fs_isSet {n : Nat} (hn : n < 64) (x : Int64) : (0 ≤ x ∧ fs_ushl x (nI n) = 0) ↔ fs_lt x n := by
  rw [fs_lt_ushr hn]
  constructor
  · exact fun h => h.2
  · intro h
    refine ⟨?_, h⟩
    have : ¬ x < 0 := by rw [fs_neg_bit, h 63 (by omega)]; decide
    exact Int64.not_lt.mp this
-- the parity of a set
def fs_pa (x : Int64) : Bool := decide (fs_pc 64 x.toBitVec.toNat % 2 = 1)
theorem fs_bl_nat (x : Int64) (i : Nat) : bl x i = x.toBitVec.toNat.testBit i := rfl
/-- Long.bitCount -/
def fs_bcl (i : Int64) : Int32 :=
  let i1 := i - (fs_ushl i 1 &&& 6148914691236517205)
  let i2 := (i1 &&& 3689348814741910323) + (fs_ushl i1 2 &&& 3689348814741910323)
  let i3 := (i2 + fs_ushl i2 4) &&& 1085102592571150095
  let i4 := i3 + fs_ushl i3 8
  let i5 := i4 + fs_ushl i4 16
  let i6 := i5 + fs_ushl i5 32
  i6.toInt32 &&& 127
def fs_uN (x : Int64) : Nat := x.toBitVec.toNat
theorem fs_uN_lt (x : Int64) : fs_uN x < 2 ^ 64 := x.toBitVec.isLt
theorem fs_uN_sh {n : Nat} (hn : n < 64) (x : Int64) : fs_uN (fs_ushl x (nI n)) = fs_uN x / 2 ^ n := by
  show (x.toUInt64 >>> ((nI n).toInt64.toUInt64 &&& Int64.toUInt64 63)).toBitVec.toNat = _
  rw [UInt64.toBitVec_shiftRight]
  show (x.toUInt64.toBitVec >>> (((nI n).toInt64.toUInt64 &&& Int64.toUInt64 63).toBitVec % 64).toNat).toNat = _
  rw [sl_u n hn, BitVec.toNat_ushiftRight, Nat.shiftRight_eq_div_pow]
  rfl
theorem fs_uN_and (x y : Int64) : fs_uN (x &&& y) = fs_uN x &&& fs_uN y := by
  unfold fs_uN
  rw [Int64.toBitVec_and, BitVec.toNat_and]
theorem fs_uN_add {x y : Int64} (h : fs_uN x + fs_uN y < 2 ^ 64) : fs_uN (x + y) = fs_uN x + fs_uN y := by
  unfold fs_uN at *
  rw [Int64.toBitVec_add, BitVec.toNat_add, Nat.mod_eq_of_lt h]
theorem fs_uN_sub {x y : Int64} (h : fs_uN y ≤ fs_uN x) : fs_uN (x - y) = fs_uN x - fs_uN y := by
  have hx := fs_uN_lt x
  have hy := fs_uN_lt y
  unfold fs_uN at *
  rw [Int64.toBitVec_sub, BitVec.toNat_sub]
  omega
end
section
theorem fs_mm5 : fs_uN 6148914691236517205 = fs_rep 85 8 := by decide +kernel
theorem fs_m3' : fs_uN 3689348814741910323 = fs_rep 51 8 := by decide +kernel
theorem fs_mf : fs_uN 1085102592571150095 = fs_rep 15 8 := by decide +kernel
theorem fs_r3 : fs_rep 51 8 = 3689348814741910323 := by decide +kernel
theorem fs_bc1 (x : Int64) : fs_uN (x - (fs_ushl x 1 &&& 6148914691236517205)) = fs_t1 (fs_rep 85 8) (fs_uN x) := by
  have a : fs_uN (fs_ushl x 1 &&& 6148914691236517205) = fs_uN x / 2 &&& fs_rep 85 8 := by
    rw [fs_uN_and, show (1 : Int32) = nI 1 from rfl, fs_uN_sh (by omega), fs_mm5]
    try rfl
  have b : fs_uN x / 2 &&& fs_rep 85 8 ≤ fs_uN x := Nat.le_trans Nat.and_le_left (Nat.div_le_self _ _)
  rw [fs_uN_sub (by rw [a]; exact b), a]
  rfl
theorem fs_bc2l (n : Nat) : n &&& fs_rep 51 8 ≤ 3689348814741910323 := by rw [← fs_r3]; exact Nat.and_le_right
theorem fs_bc2 (y : Int64) : fs_uN ((y &&& 3689348814741910323) + (fs_ushl y 2 &&& 3689348814741910323)) = fs_t2 (fs_rep 51 8) (fs_uN y) := by
  have a : fs_uN (fs_ushl y 2 &&& 3689348814741910323) = fs_uN y / 4 &&& fs_rep 51 8 := by
    rw [fs_uN_and, show (2 : Int32) = nI 2 from rfl, fs_uN_sh (by omega), fs_m3']
  have b : fs_uN (y &&& 3689348814741910323) = fs_uN y &&& fs_rep 51 8 := by rw [fs_uN_and, fs_m3']
  have h1 := fs_bc2l (fs_uN y)
  have h2 := fs_bc2l (fs_uN y / 4)
  rw [fs_uN_add (by rw [a, b]; exact Nat.lt_of_le_of_lt (Nat.add_le_add h1 h2) (by decide)), a, b]
  rfl
theorem fs_bc2u (n : Nat) : fs_t2 (fs_rep 51 8) n ≤ 7378697629483820646 := Nat.add_le_add (fs_bc2l n) (fs_bc2l (n / 4))
theorem fs_bc3 {y : Int64} (h : fs_uN y ≤ 7378697629483820646) : fs_uN ((y + fs_ushl y 4) &&& 1085102592571150095) = fs_t3 (fs_rep 15 8) (fs_uN y) := by
  have a : fs_uN (fs_ushl y 4) = fs_uN y / 16 := by
    rw [show (4 : Int32) = nI 4 from rfl, fs_uN_sh (by omega)]
  rw [fs_uN_and, fs_uN_add (by rw [a]; omega), a, fs_mf]
  rfl
theorem fs_bcs {y : Int64} {k : Nat} (hk : k < 64) (h : fs_uN y + fs_uN y / 2 ^ k < 2 ^ 64) : fs_uN (y + fs_ushl y (nI k)) = fs_uN y + fs_uN y / 2 ^ k := by
  have a : fs_uN (fs_ushl y (nI k)) = fs_uN y / 2 ^ k := fs_uN_sh hk y
  rw [fs_uN_add (by rw [a]; exact h), a]
theorem fs_bce (i : Int64) : i.toInt32 &&& 127 = nI (fs_uN i % 128) := by
  have g : i.toInt32.toBitVec.toNat = fs_uN i % 2 ^ 32 := by
    rw [Int64.toBitVec_toInt32, BitVec.signExtend_eq_setWidth_of_le _ (by decide), BitVec.toNat_setWidth]
    rfl
  rw [pk_and i.toInt32 7 (by decide), g]
  congr 1
  omega
theorem fs_bcl_pc (x : Int64) : fs_bcl x = nI (fs_pc 64 (fs_uN x)) := by
  obtain ⟨p0, p1, p2, p3, p4, p5, p6, p7, hp, hb, hc⟩ := fs_bs8 (fs_uN x)
  have k2 := (fs_t12 8 (fs_uN x) (Nat.lt_of_lt_of_le (fs_uN_lt x) (by decide))).2
  unfold fs_bcl
  dsimp only
  have e1 := fs_bc1 x
  generalize x - (fs_ushl x 1 &&& 6148914691236517205) = i1 at e1 ⊢
  have e2 := fs_bc2 i1
  have u2 := fs_bc2u (fs_uN i1)
  rw [← e2] at u2
  generalize (i1 &&& 3689348814741910323) + (fs_ushl i1 2 &&& 3689348814741910323) = i2 at e2 u2 ⊢
  have e3 := fs_bc3 u2
  generalize (i2 + fs_ushl i2 4) &&& 1085102592571150095 = i3 at e3 ⊢
  rw [e2, e1, k2, hb] at e3
  clear k2 e1 e2 u2 hb
  obtain ⟨f1, f2, f3, f4⟩ := fs_fold hp e3 (i1 := fs_uN i3 + fs_uN i3 / 256) rfl rfl rfl
  clear hp e3
  have e4 : fs_uN (i3 + fs_ushl i3 8) = fs_uN i3 + fs_uN i3 / 256 := fs_bcs (k := 8) (by decide) f2
  rw [← e4] at f1 f3 f4
  clear f2 e4
  generalize i3 + fs_ushl i3 8 = i4 at *
  have e5 : fs_uN (i4 + fs_ushl i4 16) = fs_uN i4 + fs_uN i4 / 65536 := fs_bcs (k := 16) (by decide) f3
  rw [← e5] at f1 f4
  clear f3 e5
  generalize i4 + fs_ushl i4 16 = i5 at *
  have e6 : fs_uN (i5 + fs_ushl i5 32) = fs_uN i5 + fs_uN i5 / 4294967296 := fs_bcs (k := 32) (by decide) f4
  rw [← e6] at f1
  clear f4 e6
  generalize i5 + fs_ushl i5 32 = i6 at *
  rw [hc, ← f1]
  exact fs_bce i6
theorem fs_pa_class (x : Int64) : fs_bcl x &&& 1 = fs_b (fs_pa x) := by
  rw [fs_bcl_pc, pk_and (nI (fs_pc 64 (fs_uN x))) 1 (by decide), pk_tn (by have := fs_pc_le 64 (fs_uN x); omega)]
  unfold fs_pa fs_uN
  generalize fs_pc 64 x.toBitVec.toNat = k
  rw [show k % 2 ^ 1 = k % 2 from rfl]
  rcases (show k % 2 = 0 ∨ k % 2 = 1 by omega) with h | h
  · rw [h]; rfl
  · rw [h]; rfl
theorem fs_pa_congr {x y : Int64} (h : x = y) : fs_pa x = fs_pa y := by rw [h]
end
section
-- a fault on its way: the class's frame and the reference's goX, goZ, changed
abbrev fs_G : Type := Int32 × Int32 × Int64
def fs_go (k a o : Int32) (g : fs_G) : fs_G :=
  let x := fs_bi g.1 a
  let z := fs_bi g.2.1 a
  if k = 0 then (g.1 ^^^ ((x ^^^ z) <<< (a &&& 31)), g.2.1 ^^^ ((x ^^^ z) <<< (a &&& 31)), g.2.2)
  else if k = 1 then (g.1, g.2.1 ^^^ (x <<< (a &&& 31)), g.2.2)
  else if k = 2 then (g.1 ^^^ (x <<< (o &&& 31)), g.2.1 ^^^ (fs_bi g.2.1 o <<< (a &&& 31)), g.2.2)
  else if k = 3 then (g.1, g.2.1 ^^^ ((fs_bi g.1 o <<< (a &&& 31)) ||| (x <<< (o &&& 31))), g.2.2)
  else if k = 4 then (g.1 ^^^ (((x ^^^ fs_bi g.1 o) <<< (a &&& 31)) ||| ((x ^^^ fs_bi g.1 o) <<< (o &&& 31))), g.2.1 ^^^ (((z ^^^ fs_bi g.2.1 o) <<< (a &&& 31)) ||| ((z ^^^ fs_bi g.2.1 o) <<< (o &&& 31))), g.2.2)
  else if k = 7 ∨ k = 8 then (if k = 8 then g.1 &&& ((1 <<< (a &&& 31)) ^^^ (-1)) else g.1, g.2.1 &&& ((1 <<< (a &&& 31)) ^^^ (-1)), if x = 1 then g.2.2 ||| (1 <<< (o.toInt64 &&& 63)) else g.2.2)
  else g
theorem fs_go_gate {κ : Nat} (hκ : κ ≤ 6) (a o : Int32) (g : fs_G) : fs_go (nI κ) a o g = ((fs_gd (g.1, g.2.1, 0, 0) (nI κ) a o).1, (fs_gd (g.1, g.2.1, 0, 0) (nI κ) a o).2.1, g.2.2) :=
  fs_kind7 (P := fun κ => fs_go (nI κ) a o g = ((fs_gd (g.1, g.2.1, 0, 0) (nI κ) a o).1, (fs_gd (g.1, g.2.1, 0, 0) (nI κ) a o).2.1, g.2.2)) rfl rfl rfl rfl rfl rfl rfl hκ
theorem fs_go_fault (a o : Int32) (g : fs_G) : fs_go 9 a o g = g := rfl
theorem fs_go_look (rs : Bool) (a o : Int32) (g : fs_G) : fs_go (if rs = true then 8 else 7) a o g = (if rs = true then g.1 &&& ((1 <<< (a &&& 31)) ^^^ (-1)) else g.1, g.2.1 &&& ((1 <<< (a &&& 31)) ^^^ (-1)), if fs_bi g.1 a = 1 then g.2.2 ||| (1 <<< (o.toInt64 &&& 63)) else g.2.2) := by
  cases rs <;> rfl
/-- the frame at a look -/
def fs_mk (q : fs_Q) (a : Int32) (rs : Bool) : fs_Q := (if rs = true then q.1 &&& ((1 <<< (a &&& 31)) ^^^ (-1)) else q.1, q.2.1 &&& ((1 <<< (a &&& 31)) ^^^ (-1)), q.2.2.1, q.2.2.2)
def fs_FR (n L : Nat) (fr : fs_Q) (ch : Int64) (g : fs_G) : Prop := fs_sq n fr ∧ fs_vv fr = (bt g.1, bt g.2.1) ∧ ch = g.2.2 ∧ fs_lt ch L
theorem fs_FR_gate {n L κ α β : Nat} {o : Int32} {fr : fs_Q} {ch : Int64} {g : fs_G} (hn : n ≤ 10) (hg : fs_okg n κ α β) (ho : 2 ≤ κ → κ ≤ 4 → o = nI β) (F : fs_FR n L fr ch g) : fs_FR n L (fs_ps fr (nI κ) (nI α) o) ch (fs_go (nI κ) (nI α) o g) := by
  obtain ⟨f1, f2, f3, f4⟩ := F
  have e := fs_ps_abs hn hg ho f1.2
  have e2 := fs_gd_abs (q := (g.1, g.2.1, 0, 0)) hn hg ho fs_01_0
  refine ⟨fs_sq_gr hg f1 e, ?_, ?_, f4⟩
  · rw [fs_go_gate hg.1]
    show (fs_abs (fs_ps fr (nI κ) (nI α) o)).1 = (fs_abs (fs_gd (g.1, g.2.1, 0, 0) (nI κ) (nI α) o)).1
    rw [e.1, e2.1]
    show fs_ga κ α β (fs_vv fr) = fs_ga κ α β (bt g.1, bt g.2.1)
    rw [f2]
  · rw [fs_go_gate hg.1]; exact f3
theorem fs_FR_fault {n L : Nat} {fr : fs_Q} {ch : Int64} {g : fs_G} (F : fs_FR n L fr ch g) (a o : Int32) : fs_FR n L fr ch (fs_go 9 a o g) := F
theorem fs_su_out {n a : Nat} {f : Nat → Bool} (h : ∀ w, n ≤ w → f w = false) : ∀ w, n ≤ w → fs_up f a false w = false := fun w hw => by
  unfold fs_up
  split
  · rfl
  · exact h w hw
theorem fs_or0 (x : Int64) : x ||| 0 = x := bl_ext fun i _ => by rw [bl_or, bl_0, Bool.or_false]
theorem fs_sh0 {a : Nat} (ha : a < 64) : fs_bL false <<< ((nI a).toInt64 &&& 63) = 0 := bl_ext fun i _ => by rw [fs_shL ha, Bool.and_false, bl_0]
theorem fs_FR_look {n L α : Nat} {rs : Bool} {fr : fs_Q} {ch : Int64} {g : fs_G} (hn : n ≤ 10) (ha : α < n) (hL : L < 60) (F : fs_FR n L fr ch g) :
    fs_FR n (L + 1) (fs_mk fr (nI α) rs) (ch ||| ((fs_xOn fr (nI α)).toInt64 <<< ((nI L).toInt64 &&& 63))) (fs_go (if rs = true then 8 else 7) (nI α) (nI L) g) := by
  obtain ⟨⟨f0, f1⟩, f2, f3, f4⟩ := F
  have ha' : α < 32 := by omega
  have v1 : bt fr.1 = bt g.1 := congrArg Prod.fst f2
  have v2 : bt fr.2.1 = bt g.2.1 := congrArg Prod.snd f2
  have s1 : ∀ w, n ≤ w → bt fr.1 w = false := fun w hw => (f0 w hw).1
  have s2 : ∀ w, n ≤ w → bt fr.2.1 w = false := fun w hw => (f0 w hw).2
  have ec : (ch ||| ((fs_xOn fr (nI α)).toInt64 <<< ((nI L).toInt64 &&& 63))) = if fs_bi g.1 (nI α) = 1 then g.2.2 ||| (1 <<< ((nI L).toInt64 &&& 63)) else g.2.2 := by
    rw [fs_xOn_b ha', fs_bi_b ha', show (fs_abs fr).1.1 α = bt g.1 α from congrFun v1 α, fs_b_L, f3]
    cases hb : bt g.1 α with
    | true => rw [if_pos (show fs_b true = 1 by decide)]; rfl
    | false => rw [if_neg (by decide), fs_sh0 (by omega), fs_or0]
  rw [fs_go_look]
  refine ⟨⟨?_, f1⟩, ?_, ec, ?_⟩
  · refine fs_su_i ?_ ?_
    · show ∀ w, n ≤ w → bt (if rs = true then fr.1 &&& ((1 <<< (nI α &&& 31)) ^^^ (-1)) else fr.1) w = false
      split
      · rw [fs_out ha']; exact fs_su_out s1
      · exact s1
    · show ∀ w, n ≤ w → bt (fr.2.1 &&& ((1 <<< (nI α &&& 31)) ^^^ (-1))) w = false
      rw [fs_out ha']; exact fs_su_out s2
  · refine Prod.ext ?_ ?_
    · show bt (if rs = true then fr.1 &&& ((1 <<< (nI α &&& 31)) ^^^ (-1)) else fr.1) = bt (if rs = true then g.1 &&& ((1 <<< (nI α &&& 31)) ^^^ (-1)) else g.1)
      split
      · rw [fs_out ha', fs_out ha', v1]
      · exact v1
    · show bt (fr.2.1 &&& ((1 <<< (nI α &&& 31)) ^^^ (-1))) = bt (g.2.1 &&& ((1 <<< (nI α &&& 31)) ^^^ (-1)))
      rw [fs_out ha', fs_out ha', v2]
  · intro i hi
    rw [bl_or, f4 i (by omega), Bool.false_or, fs_xOn_b ha', fs_b_L, fs_shL (by omega), decide_eq_false (by omega), Bool.false_and]
theorem fs_FR_up {n L L' : Nat} {fr : fs_Q} {ch : Int64} {g : fs_G} (F : fs_FR n L fr ch g) (h : L ≤ L') : fs_FR n L' fr ch g := ⟨F.1, F.2.1, F.2.2.1, fun i hi => F.2.2.2 i (by omega)⟩
/-- how a fault begins -/
def fs_fx (w a : Int32) : Int32 := if w = 2 then 0 else 1 <<< (a &&& 31)
def fs_fz (w a : Int32) : Int32 := if w = 0 then 0 else 1 <<< (a &&& 31)
theorem fs_FR_start {n L α : Nat} {w : Int32} (hn : n ≤ 10) (ha : α < n) : fs_FR n L (fs_fx w (nI α), fs_fz w (nI α), 0, 0) 0 (fs_fx w (nI α), fs_fz w (nI α), 0) := by
  refine ⟨⟨fs_su_i ?_ ?_, fs_01_0⟩, rfl, rfl, fun i _ => bl_0 i⟩
  · show ∀ w', n ≤ w' → bt (fs_fx w (nI α)) w' = false
    unfold fs_fx
    split
    · exact fun i _ => b_0 i
    · intro i hi
      rw [fs_sh1 (by omega), decide_eq_false (by omega)]
  · show ∀ w', n ≤ w' → bt (fs_fz w (nI α)) w' = false
    unfold fs_fz
    split
    · exact fun i _ => b_0 i
    · intro i hi
      rw [fs_sh1 (by omega), decide_eq_false (by omega)]
/-- from act t + 1 on -/
def fs_gor (kd on ot : Nat → Int32) (g0 : fs_G) (t : Nat) : Nat → fs_G
  | 0 => g0
  | j + 1 => fs_go (kd (t + 1 + j)) (on (t + 1 + j)) (ot (t + 1 + j)) (fs_gor kd on ot g0 t j)
theorem fs_gor_congr {kd on ot kd' on' ot' : Nat → Int32} {g0 : fs_G} {t m : Nat} (he : ∀ k, k < m → kd' k = kd k ∧ on' k = on k ∧ ot' k = ot k) : ∀ j, t + 1 + j ≤ m → fs_gor kd' on' ot' g0 t j = fs_gor kd on ot g0 t j := by
  intro j
  induction j with
  | zero => intro _; rfl
  | succ j ih =>
    intro h
    obtain ⟨e1, e2, e3⟩ := he (t + 1 + j) (by omega)
    show fs_go _ _ _ _ = fs_go _ _ _ _
    rw [e1, e2, e3, ih (by omega)]
-- checks
/-- the exclusive or of what the looks of a set tell -/
def fs_xr (lc : Nat → Int32) (lr : Nat → Int64) (st : Int64) : Nat → Int32 × Int64
  | 0 => (0, 0)
  | k + 1 => if bl st k = true then ((fs_xr lc lr st k).1 ^^^ lc k, (fs_xr lc lr st k).2 ^^^ lr k) else fs_xr lc lr st k
theorem fs_xr_congr {lc lc' : Nat → Int32} {lr lr' : Nat → Int64} {st : Int64} : ∀ {L : Nat}, (∀ i, i < L → lc' i = lc i ∧ lr' i = lr i) → fs_xr lc' lr' st L = fs_xr lc lr st L
  | 0, _ => rfl
  | L + 1, h => by
    show (if bl st L = true then _ else _) = (if bl st L = true then _ else _)
    rw [fs_xr_congr (L := L) (fun i hi => h i (by omega)), (h L (by omega)).1, (h L (by omega)).2]
theorem fs_xr_more {lc : Nat → Int32} {lr : Nat → Int64} {st : Int64} {L L' : Nat} (h : fs_lt st L) (hL : L ≤ L') : fs_xr lc lr st L' = fs_xr lc lr st L := by
  induction L' with
  | zero => rw [show L = 0 by omega]
  | succ k ih =>
    by_cases q : L = k + 1
    · rw [q]
    · show (if bl st k = true then _ else _) = _
      rw [h k (by omega), if_neg (by decide)]
      exact ih (by omega)
/-- the checks that a set of changed looks changes -/
def fs_ck (cs : Nat → Int64) (ch : Int64) : Nat → Int32
  | 0 => 0
  | c + 1 => fs_ck cs ch c ||| (fs_b (fs_pa (ch &&& cs c)) <<< (nI c &&& 31))
theorem fs_ck_congr {cs cs' : Nat → Int64} {ch ch' : Int64} : ∀ {C : Nat}, (∀ c, c < C → ch' &&& cs' c = ch &&& cs c) → fs_ck cs' ch' C = fs_ck cs ch C
  | 0, _ => rfl
  | C + 1, h => by
    show fs_ck cs' ch' C ||| _ = fs_ck cs ch C ||| _
    rw [fs_ck_congr (C := C) (fun c hc => h c (by omega)), h C (by omega)]
/-- a look more changes no check of the looks before -/
theorem fs_and_new {ch st : Int64} {L : Nat} {b : Bool} (hL : L < 64) (h : fs_lt st L) : (ch ||| (fs_bL b <<< ((nI L).toInt64 &&& 63))) &&& st = ch &&& st := by
  refine bl_ext fun i _ => ?_
  rw [bl_and, bl_and, bl_or, fs_shL hL]
  rcases Nat.lt_or_ge i L with q | q
  · rw [decide_eq_false (by omega), Bool.false_and, Bool.or_false]
  · rw [h i q, Bool.and_false, Bool.and_false]
theorem fs_and0 (st : Int64) : (0 : Int64) &&& st = 0 := bl_ext fun i _ => by rw [bl_and, bl_0, Bool.false_and]
theorem fs_pa0 : fs_pa 0 = false := by decide
theorem fs_b0sh : ∀ c, c < 32 → fs_b false <<< (nI c &&& 31) = 0 := by decide +kernel
theorem fs_ck_0 {cs : Nat → Int64} : ∀ {C : Nat}, C ≤ 16 → fs_ck cs 0 C = 0
  | 0, _ => rfl
  | C + 1, h => by
    show fs_ck cs 0 C ||| _ = 0
    rw [fs_ck_0 (C := C) (by omega), fs_and0, fs_pa0, fs_b0sh C (by omega)]
    rfl
-- THE RELATION of the class's state and the reference's
/-- n wires, m acts, L looks, F faults, C checks -/
def fs_Rel (n m L F C : Nat) (kp pn : Nat → fs_Q) (lc : Nat → Int32) (lr : Nat → Int64) (fr : Nat → fs_Q) (od : Nat → Int32) (cl : Nat → Int64) (ck : Nat → Int32) (cc : Nat → Int32) (cr : Nat → Int64)
    (kd on ot fa fw fo : Nat → Int32) (cs : Nat → Int64) : Prop :=
  (1 ≤ n ∧ n ≤ 10 ∧ m ≤ 300 ∧ L ≤ 60 ∧ F ≤ 40 ∧ C ≤ 16) ∧ fs_RP n kd on ot m L kp pn lc lr ∧
  (∀ f, f < F → ∃ t α : Nat, t < m ∧ α < n ∧ fa f = nI t ∧ on t = nI α ∧ od f = fo f ∧ (∃ k : Nat, k ≤ 16 ∧ fo f = nI k) ∧ fs_FR n L (fr f) (cl f) (fs_gor kd on ot (fs_fx (fw f) (nI α), fs_fz (fw f) (nI α), 0) t (m - (t + 1))) ∧ ck f = fs_ck cs (cl f) C) ∧
  (∀ c, c < C → fs_lt (cs c) L ∧ cc c = (fs_xr lc lr (cs c) L).1 ∧ cr c = (fs_xr lc lr (cs c) L).2)
end
section
-- odds: the class counts odd cases out of 16 to the members, the reference halves 8 to the members less a product
/-- j members, o odd and e even cases, E the product of 8 - k -/
def fs_OI (j o e : Nat) (E : Int) : Prop := o + e = 16 ^ j ∧ (e : Int) - o = 2 ^ j * E ∧ -(8 ^ j) ≤ E ∧ E ≤ 8 ^ j
theorem fs_i1 (x k : Int) : x * (2 * (8 - k)) = x * 16 - 2 * (x * k) := by
  have h1 : (2 : Int) * (8 - k) = 16 - 2 * k := by omega
  rw [h1, Int.mul_sub, Int.mul_left_comm]
theorem fs_OI_0 : fs_OI 0 0 1 1 := by
  refine ⟨rfl, ?_, ?_, ?_⟩ <;> decide
theorem fs_OI_s {j o e k : Nat} {E : Int} (hk : k ≤ 16) (h : fs_OI j o e E) : fs_OI (j + 1) (o * (16 - k) + e * k) (e * (16 - k) + o * k) (E * (8 - k)) := by
  obtain ⟨h1, h2, h3, h4⟩ := h
  have e16 : 16 ^ (j + 1) = 16 ^ j * 16 := Nat.pow_succ 16 j
  have e2 : (2 : Int) ^ (j + 1) = 2 ^ j * 2 := Int.pow_succ 2 j
  have e8 : (8 : Int) ^ (j + 1) = 8 ^ j * 8 := Int.pow_succ 8 j
  have ck : ((16 - k : Nat) : Int) = 16 - k := by omega
  refine ⟨?_, ?_, ?_, ?_⟩
  · rw [e16, ← h1]
    have : o * (16 - k) + o * k = o * 16 := by rw [← Nat.mul_add, Nat.sub_add_cancel hk]
    have : e * (16 - k) + e * k = e * 16 := by rw [← Nat.mul_add, Nat.sub_add_cancel hk]
    omega
  · rw [e2]
    have g : ((e * (16 - k) + o * k : Nat) : Int) - ((o * (16 - k) + e * k : Nat) : Int) = ((e : Int) - o) * (2 * (8 - k)) := by
      rw [Int.natCast_add, Int.natCast_add, Int.natCast_mul, Int.natCast_mul, Int.natCast_mul, Int.natCast_mul, ck]
      rw [Int.sub_mul]
      have a1 : (e : Int) * (16 - (k : Int)) = e * 16 - e * k := Int.mul_sub _ _ _
      have a2 : (o : Int) * (16 - (k : Int)) = o * 16 - o * k := Int.mul_sub _ _ _
      have a3 : (e : Int) * (2 * (8 - (k : Int))) = e * 16 - 2 * (e * k) := fs_i1 _ _
      have a4 : (o : Int) * (2 * (8 - (k : Int))) = o * 16 - 2 * (o * k) := fs_i1 _ _
      rw [a1, a2, a3, a4]
      omega
    rw [g, h2, Int.mul_assoc, Int.mul_assoc]
    congr 1
    rw [← Int.mul_assoc, Int.mul_comm E 2, Int.mul_assoc]
  · rw [e8]
    have hb : -8 ≤ (8 : Int) - k ∧ (8 : Int) - k ≤ 8 := by omega
    generalize (8 : Int) - k = d at hb ⊢
    have p : (0 : Int) ≤ 8 ^ j := by omega
    generalize (8 : Int) ^ j = A at *
    have q1 : -(A * 8) ≤ E * d := by
      rcases Int.le_total 0 d with hd | hd
      · have : -A * d ≤ E * d := Int.mul_le_mul_of_nonneg_right h3 hd
        have : A * d ≤ A * 8 := Int.mul_le_mul_of_nonneg_left hb.2 p
        rw [Int.neg_mul] at *
        omega
      · have : A * d ≤ E * d := Int.mul_le_mul_of_nonpos_right h4 hd
        have : A * (-8) ≤ A * d := Int.mul_le_mul_of_nonneg_left hb.1 p
        omega
    exact q1
  · rw [e8]
    have hb : -8 ≤ (8 : Int) - k ∧ (8 : Int) - k ≤ 8 := by omega
    generalize (8 : Int) - k = d at hb ⊢
    have p : (0 : Int) ≤ 8 ^ j := by omega
    generalize (8 : Int) ^ j = A at *
    rcases Int.le_total 0 d with hd | hd
    · have : E * d ≤ A * d := Int.mul_le_mul_of_nonneg_right h4 hd
      have : A * d ≤ A * 8 := Int.mul_le_mul_of_nonneg_left hb.2 p
      omega
    · have : E * d ≤ -A * d := Int.mul_le_mul_of_nonpos_right h3 hd
      have : A * (-8) ≤ A * d := Int.mul_le_mul_of_nonneg_left hb.1 p
      rw [Int.neg_mul] at *
      omega
/-- the odd cases are the reference's u, doubled j - 1 times -/
theorem fs_OI_u {j o e U : Nat} {E : Int} (h : fs_OI (j + 1) o e E) (hU : (U : Int) = 8 ^ (j + 1) - E) : o = 2 ^ j * U := by
  obtain ⟨h1, h2, h3, h4⟩ := h
  have e16 : ((16 ^ (j + 1) : Nat) : Int) = 2 ^ (j + 1) * 8 ^ (j + 1) := by
    rw [Int.natCast_pow, ← Int.mul_pow]; rfl
  have hs : ((o : Int) + e) = 2 ^ (j + 1) * 8 ^ (j + 1) := by rw [← e16, ← h1, Int.natCast_add]
  have h5 : 2 * (o : Int) = 2 ^ (j + 1) * (8 ^ (j + 1) - E) := by rw [Int.mul_sub]; omega
  rw [← hU, Int.pow_succ, Int.mul_comm ((2 : Int) ^ j) 2, Int.mul_assoc] at h5
  have h6 : (o : Int) = 2 ^ j * U := Int.eq_of_mul_eq_mul_left (by decide) h5
  have h7 : ((2 ^ j * U : Nat) : Int) = (2 : Int) ^ j * U := by rw [Int.natCast_mul, Int.natCast_pow]; rfl
  rw [← h7] at h6
  exact Int.ofNat.inj h6
-- halving
def fs_hv : Nat → Nat → Nat × Nat
  | 0, u => (u, 0)
  | p + 1, u => if u % 2 = 0 then fs_hv p (u / 2) else (u, p + 1)
theorem fs_hv_odd (p : Nat) {u : Nat} (h : u % 2 = 1) : fs_hv p u = (u, p) := by
  cases p with
  | zero => rfl
  | succ p =>
    show (if u % 2 = 0 then _ else _) = _
    rw [if_neg (by omega)]
theorem fs_hv_v (v : Nat) : ∀ (p u : Nat), u % 2 = 1 → fs_hv p (2 ^ v * u) = (if v ≤ p then (u, p - v) else (2 ^ (v - p) * u, 0)) := by
  induction v with
  | zero => intro p u hu; rw [Nat.pow_zero, Nat.one_mul, fs_hv_odd p hu, if_pos (Nat.zero_le p)]; rfl
  | succ v ih =>
    intro p u hu
    have e : 2 ^ (v + 1) * u = 2 * (2 ^ v * u) := by rw [Nat.pow_succ, Nat.mul_comm (2 ^ v) 2, Nat.mul_assoc]
    cases p with
    | zero =>
      show (2 ^ (v + 1) * u, 0) = _
      rw [if_neg (by omega)]
      rfl
    | succ p =>
      show (if (2 ^ (v + 1) * u) % 2 = 0 then fs_hv p (2 ^ (v + 1) * u / 2) else _) = _
      rw [e, if_pos (by omega), show 2 * (2 ^ v * u) / 2 = 2 ^ v * u by omega, ih p u hu]
      by_cases q : v ≤ p
      · rw [if_pos q, if_pos (by omega), show p + 1 - (v + 1) = p - v by omega]
      · rw [if_neg q, if_neg (by omega), show v + 1 - (p + 1) = v - p by omega]
theorem fs_two (u : Nat) (h : 0 < u) : ∃ v w, u = 2 ^ v * w ∧ w % 2 = 1 := by
  induction u using Nat.strongRecOn with
  | ind u ih =>
    rcases (show u % 2 = 1 ∨ u % 2 = 0 by omega) with q | q
    · exact ⟨0, u, by rw [Nat.pow_zero, Nat.one_mul], q⟩
    · obtain ⟨v, w, h1, h2⟩ := ih (u / 2) (by omega) (by omega)
      refine ⟨v + 1, w, ?_, h2⟩
      rw [Nat.pow_succ, Nat.mul_comm (2 ^ v) 2, Nat.mul_assoc, ← h1]
      omega
/-- the class's shift: the lesser of the trailing zeros and 4 for each member -/
theorem fs_odds {j U : Nat} (hU : 0 < U) : ∃ v w : Nat, w % 2 = 1 ∧ U = 2 ^ v * w ∧ 2 ^ j * U = 2 ^ (j + v) * w ∧
    fs_hv (3 * (j + 1) + 1) U = (2 ^ j * U / 2 ^ (min (j + v) (4 * (j + 1))), 4 * (j + 1) - min (j + v) (4 * (j + 1))) := by
  obtain ⟨v, w, h1, h2⟩ := fs_two U hU
  refine ⟨v, w, h2, h1, ?_, ?_⟩
  · rw [h1, ← Nat.mul_assoc, ← Nat.pow_add]
  · have e : 2 ^ j * U = 2 ^ (j + v) * w := by rw [h1, ← Nat.mul_assoc, ← Nat.pow_add]
    rw [e, h1, fs_hv_v v _ w h2]
    by_cases q : v ≤ 3 * (j + 1) + 1
    · rw [if_pos q, Nat.min_eq_left (by omega), Nat.mul_div_cancel_left _ (Nat.pow_pos (by decide))]
      congr 1
      omega
    · rw [if_neg q, Nat.min_eq_right (by omega)]
      have e2 : 2 ^ (j + v) = 2 ^ (4 * (j + 1)) * 2 ^ (v - (3 * (j + 1) + 1)) := by rw [← Nat.pow_add]; congr 1; omega
      rw [e2, Nat.mul_assoc, Nat.mul_div_cancel_left _ (Nat.pow_pos (by decide)), Nat.sub_self]
end
section
-- edges: faults by the checks v that they change
def fs_any (v : Nat → Int32) (x : Int32) : Nat → Bool
  | 0 => false
  | f + 1 => fs_any v x f || decide (v f = x)
def fs_isb (v : Nat → Int32) (f : Nat) : Bool := !decide (v f = 0) && !fs_any v (v f) f
def fs_ce (v : Nat → Int32) : Nat → Nat
  | 0 => 0
  | f + 1 => if fs_isb v f = true then fs_ce v f + 1 else fs_ce v f
def fs_mem (v : Nat → Int32) (x : Int32) : Nat → Int64
  | 0 => 0
  | f + 1 => if v f = x then fs_mem v x f ||| (1 <<< ((nI f).toInt64 &&& 63)) else fs_mem v x f
theorem fs_any_iff {v : Nat → Int32} {x : Int32} {f : Nat} : fs_any v x f = true ↔ ∃ i, i < f ∧ v i = x := by
  induction f with
  | zero => exact ⟨fun h => absurd (show false = true from h) (by decide), fun ⟨i, h, _⟩ => absurd h (Nat.not_lt_zero i)⟩
  | succ f ih =>
    show (fs_any v x f || decide (v f = x)) = true ↔ _
    rw [Bool.or_eq_true, ih, decide_eq_true_eq]
    constructor
    · rintro (⟨i, h1, h2⟩ | h)
      · exact ⟨i, by omega, h2⟩
      · exact ⟨f, by omega, h⟩
    · rintro ⟨i, h1, h2⟩
      by_cases q : i = f
      · subst q; exact Or.inr h2
      · exact Or.inl ⟨i, by omega, h2⟩
theorem fs_isb_iff {v : Nat → Int32} {f : Nat} : fs_isb v f = true ↔ v f ≠ 0 ∧ ∀ i, i < f → v i ≠ v f := by
  unfold fs_isb
  rw [Bool.and_eq_true, Bool.not_eq_true', Bool.not_eq_true', decide_eq_false_iff_not]
  constructor
  · rintro ⟨h1, h2⟩
    exact ⟨h1, fun i hi e => by rw [fs_any_iff.mpr ⟨i, hi, e⟩] at h2; cases h2⟩
  · rintro ⟨h1, h2⟩
    refine ⟨h1, ?_⟩
    cases h : fs_any v (v f) f with
    | false => rfl
    | true =>
      obtain ⟨i, hi, e⟩ := fs_any_iff.mp h
      exact absurd e (h2 i hi)
theorem fs_ce_mono {v : Nat → Int32} {f g : Nat} (h : f ≤ g) : fs_ce v f ≤ fs_ce v g := by
  induction g with
  | zero => rw [show f = 0 by omega]; exact Nat.le_refl _
  | succ g ih =>
    by_cases q : f = g + 1
    · rw [q]; exact Nat.le_refl _
    · have := ih (by omega)
      show fs_ce v f ≤ if fs_isb v g = true then fs_ce v g + 1 else fs_ce v g
      split <;> omega
theorem fs_ce_lt {v : Nat → Int32} {f g : Nat} (hb : fs_isb v f = true) (h : f < g) : fs_ce v f < fs_ce v g := by
  have h1 : fs_ce v (f + 1) = fs_ce v f + 1 := if_pos hb
  have := fs_ce_mono (v := v) (show f + 1 ≤ g from h)
  omega
theorem fs_ce_inj {v : Nat → Int32} {f g : Nat} (hf : fs_isb v f = true) (hg : fs_isb v g = true) (h : fs_ce v f = fs_ce v g) : f = g := by
  rcases Nat.lt_trichotomy f g with q | q | q
  · have := fs_ce_lt hf q; omega
  · exact q
  · have := fs_ce_lt hg q; omega
theorem fs_isb_inj {v : Nat → Int32} {f g : Nat} (hf : fs_isb v f = true) (hg : fs_isb v g = true) (h : v f = v g) : f = g := by
  rcases Nat.lt_trichotomy f g with q | q | q
  · exact absurd h ((fs_isb_iff.mp hg).2 f q)
  · exact q
  · exact absurd h.symm ((fs_isb_iff.mp hf).2 g q)
theorem fs_ce_ex {v : Nat → Int32} {e : Nat} : ∀ {f : Nat}, e < fs_ce v f → ∃ g, g < f ∧ fs_isb v g = true ∧ fs_ce v g = e
  | 0, h => absurd h (Nat.not_lt_zero e)
  | f + 1, h => by
    by_cases hb : fs_isb v f = true
    · have h1 : fs_ce v (f + 1) = fs_ce v f + 1 := if_pos hb
      by_cases q : e = fs_ce v f
      · exact ⟨f, by omega, hb, q.symm⟩
      · obtain ⟨g, g1, g2, g3⟩ := fs_ce_ex (v := v) (f := f) (e := e) (by omega)
        exact ⟨g, by omega, g2, g3⟩
    · have h1 : fs_ce v (f + 1) = fs_ce v f := if_neg hb
      obtain ⟨g, g1, g2, g3⟩ := fs_ce_ex (v := v) (f := f) (e := e) (by omega)
      exact ⟨g, by omega, g2, g3⟩
theorem fs_first {v : Nat → Int32} {x : Int32} (hx : x ≠ 0) : ∀ {f : Nat}, fs_any v x f = true → ∃ g, g < f ∧ fs_isb v g = true ∧ v g = x
  | 0, h => by cases h
  | f + 1, h => by
    by_cases q : fs_any v x f = true
    · obtain ⟨g, g1, g2, g3⟩ := fs_first hx q
      exact ⟨g, by omega, g2, g3⟩
    · obtain ⟨i, hi, e⟩ := fs_any_iff.mp h
      have hif : i = f := by
        rcases Nat.lt_or_ge i f with z | z
        · exact absurd (fs_any_iff.mpr ⟨i, z, e⟩) q
        · omega
      subst hif
      refine ⟨i, by omega, fs_isb_iff.mpr ⟨by rw [e]; exact hx, fun k hk ek => q (fs_any_iff.mpr ⟨k, hk, by rw [ek, e]⟩)⟩, e⟩
theorem fs_ce_le (v : Nat → Int32) (f : Nat) : fs_ce v f ≤ f := by
  induction f with
  | zero => exact Nat.le_refl 0
  | succ f ih =>
    show (if fs_isb v f = true then fs_ce v f + 1 else fs_ce v f) ≤ f + 1
    split <;> omega
/-- the reference's tables of edges behind f faults -/
def fs_Ed (v : Nat → Int32) (f : Nat) (ec : Nat → Int32) (ef : Nat → Int64) : Prop := ∀ g, g < f → fs_isb v g = true → ec (fs_ce v g) = v g ∧ ef (fs_ce v g) = fs_mem v (v g) f
theorem fs_Ed_0 (v : Nat → Int32) (ec : Nat → Int32) (ef : Nat → Int64) : fs_Ed v 0 ec ef := fun g hg => absurd hg (Nat.not_lt_zero g)
theorem fs_mem_ne {v : Nat → Int32} {x : Int32} {f : Nat} (h : v f ≠ x) : fs_mem v x (f + 1) = fs_mem v x f := if_neg h
theorem fs_mem_eq {v : Nat → Int32} {x : Int32} {f : Nat} (h : v f = x) : fs_mem v x (f + 1) = fs_mem v x f ||| (1 <<< ((nI f).toInt64 &&& 63)) := if_pos h
theorem fs_mem_0 {v : Nat → Int32} {x : Int32} : ∀ {f : Nat}, fs_any v x f = false → fs_mem v x f = 0
  | 0, _ => rfl
  | f + 1, h => by
    have h1 : (fs_any v x f || decide (v f = x)) = false := h
    rw [Bool.or_eq_false_iff, decide_eq_false_iff_not] at h1
    rw [fs_mem_ne h1.2]
    exact fs_mem_0 h1.1
/-- a fault without checks -/
theorem fs_Ed_z {v : Nat → Int32} {f : Nat} {ec : Nat → Int32} {ef : Nat → Int64} (E : fs_Ed v f ec ef) (h : v f = 0) : fs_Ed v (f + 1) ec ef ∧ fs_ce v (f + 1) = fs_ce v f := by
  have hb : ¬ fs_isb v f = true := fun q => (fs_isb_iff.mp q).1 h
  refine ⟨fun g hg hgb => ?_, if_neg hb⟩
  have hgf : g < f := by
    rcases Nat.lt_or_ge g f with q | q
    · exact q
    · rw [show g = f by omega] at hgb; exact absurd hgb hb
  obtain ⟨e1, e2⟩ := E g hgf hgb
  exact ⟨e1, by rw [fs_mem_ne (fun z => (fs_isb_iff.mp hgb).1 (by rw [← z, h]))]; exact e2⟩
/-- a fault of an edge that is there -/
theorem fs_Ed_old {v : Nat → Int32} {f e : Nat} {ec : Nat → Int32} {ef : Nat → Int64} (E : fs_Ed v f ec ef) (he : e < fs_ce v f) (hv : ec e = v f) : fs_Ed v (f + 1) ec (vp_updL ef e (ef e ||| (1 <<< ((nI f).toInt64 &&& 63)))) ∧ fs_ce v (f + 1) = fs_ce v f := by
  obtain ⟨g0, a1, a2, a3⟩ := fs_ce_ex he
  obtain ⟨b1, b2⟩ := E g0 a1 a2
  rw [a3] at b1 b2
  have hvv : v g0 = v f := b1.symm.trans hv
  have hb : ¬ fs_isb v f = true := fun q => (fs_isb_iff.mp q).2 g0 a1 hvv
  refine ⟨fun g hg hgb => ?_, if_neg hb⟩
  have hgf : g < f := by
    rcases Nat.lt_or_ge g f with q | q
    · exact q
    · rw [show g = f by omega] at hgb; exact absurd hgb hb
  obtain ⟨e1, e2⟩ := E g hgf hgb
  refine ⟨e1, ?_⟩
  by_cases q : fs_ce v g = e
  · have hgg : g = g0 := fs_ce_inj hgb a2 (q.trans a3.symm)
    subst hgg
    rw [q, pk_uLs, fs_mem_eq hvv.symm, b2]
  · rw [pk_uLn q, fs_mem_ne (fun z => q (by rw [fs_isb_inj hgb a2 (by rw [← z, hvv])]; exact a3))]
    exact e2
/-- the first fault of an edge -/
theorem fs_Ed_new {v : Nat → Int32} {f : Nat} {ec : Nat → Int32} {ef : Nat → Int64} (E : fs_Ed v f ec ef) (h0 : v f ≠ 0) (hn : ∀ e, e < fs_ce v f → ec e ≠ v f) : fs_Ed v (f + 1) (upd ec (fs_ce v f) (v f)) (vp_updL ef (fs_ce v f) ((0 : Int64) ||| (1 <<< ((nI f).toInt64 &&& 63)))) ∧ fs_ce v (f + 1) = fs_ce v f + 1 := by
  have hany : fs_any v (v f) f = false := by
    cases h : fs_any v (v f) f with
    | false => rfl
    | true =>
      obtain ⟨g, g1, g2, g3⟩ := fs_first h0 h
      exact absurd ((E g g1 g2).1.trans g3) (hn _ (fs_ce_lt g2 g1))
  have hb : fs_isb v f = true := by
    unfold fs_isb
    rw [hany, decide_eq_false h0]; rfl
  refine ⟨fun g hg hgb => ?_, if_pos hb⟩
  by_cases q : g = f
  · subst q
    rw [pk_us, pk_uLs, fs_mem_eq rfl, fs_mem_0 hany]
    exact ⟨rfl, rfl⟩
  · have hgf : g < f := by omega
    have hlt := fs_ce_lt hgb hgf
    obtain ⟨e1, e2⟩ := E g hgf hgb
    rw [pk_un (by omega), pk_uLn (by omega), fs_mem_ne (fun z => q (fs_isb_inj hgb hb z.symm))]
    exact ⟨e1, e2⟩
end
section
-- a world as a function from addresses to cells
abbrev fm_M : Type := Nat → Option va_E
def fm_P (D : va_G) (cl : List vw_C) (M : fm_M) (H : Heap) : Prop := ∀ (a : Nat) (e : va_E), M a = some e → va_at D cl (a, e) H
def fm_W (D : va_G) (cl : List vw_C) (A : Nat → Prop) (M : fm_M) (H0 H : Heap) (locs : List Loc) : Prop :=
  fm_P D cl M H ∧ (∀ (a : Nat) (e : va_E), M a = some e → A a) ∧ va_S A H0 H locs ∧ ∀ q : Nat, H0.size ≤ q → A q
theorem fm_one {D : va_G} {cl : List vw_C} {M : fm_M} {H : Heap} {a : Nat} {e : va_E} (h : fm_P D cl M H) (he : M a = some e) : va_P D cl [(a, e)] H := by
  intro k q hk
  cases k with
  | zero => cases hk; exact h a e he
  | succ k => simp at hk
theorem fm_us {M : fm_M} {a : Nat} {e : Option va_E} : va_up M a e a = e := if_pos rfl
theorem fm_un {M : fm_M} {a b : Nat} {e : Option va_E} (h : b ≠ a) : va_up M a e b = M b := if_neg h
theorem fm_uu (M : fm_M) (a : Nat) (e f : Option va_E) : va_up (va_up M a e) a f = va_up M a f := by
  funext j
  unfold va_up
  split <;> rfl
theorem fm_W.put {D : va_G} {cl : List vw_C} {A : Nat → Prop} {M : fm_M} {H0 H H1 : Heap} {locs : List Loc} {a k : Nat} {e0 e : va_E} (h : fm_W D cl A M H0 H locs) (ha : M a = some e0) (he : va_at D cl (a, e) H1) (z : H1.size = H.size) (oq : ∀ q : Nat, q ≠ a → H1[q]? = H[q]?) : fm_W D cl A (va_up M a (some e)) H0 H1 (locs ++ [⟨a, k⟩]) := by
  obtain ⟨h1, h2, h3, h4⟩ := h
  refine ⟨fun b f hb => ?_, fun b f hb => ?_, h3.put z oq (h2 a e0 ha), h4⟩
  · by_cases q : b = a
    · subst q
      rw [fm_us] at hb
      cases hb
      exact he
    · rw [fm_un q] at hb
      exact (h1 b f hb).kept (oq b q)
  · by_cases q : b = a
    · subst q; exact h2 b e0 ha
    · rw [fm_un q] at hb; exact h2 b f hb
theorem fm_W.new {D : va_G} {cl : List vw_C} {A : Nat → Prop} {M : fm_M} {H0 H H1 : Heap} {locs : List Loc} {e : va_E} (h : fm_W D cl A M H0 H locs) (he : va_at D cl (H.size, e) H1) (z : H1.size = H.size + 1) (oq : ∀ q : Nat, q < H.size → H1[q]? = H[q]?) : fm_W D cl A (va_up M H.size (some e)) H0 H1 locs := by
  obtain ⟨h1, h2, h3, h4⟩ := h
  refine ⟨fun b f hb => ?_, fun b f hb => ?_, ⟨Nat.le_trans h3.1 (by omega), fun x g1 g2 => (oq x (Nat.lt_of_lt_of_le g1 h3.1)).trans (h3.2.1 x g1 g2), h3.2.2⟩, h4⟩
  · by_cases q : b = H.size
    · subst q
      rw [fm_us] at hb
      cases hb
      exact he
    · rw [fm_un q] at hb
      exact (h1 b f hb).kept (oq b (h1 b f hb).lt)
  · by_cases q : b = H.size
    · subst q; exact h4 _ h3.1
    · rw [fm_un q] at hb; exact h2 b f hb
section FMW
variable {p : Program} {l : Launch} {e : Env} {R : Room} {s : State} {m : MethodId} {args : Array Value} {below : List Frame} {meth : Method} {c : Code} {H : Heap} {locs : List Loc} {cells slots : Nat} {Q : State → Prop}
variable {cc : ByteArray} {pc : Nat} {ls : Array Slot} {rest : List Value} {D : va_G} {cl : List vw_C} {A : Nat → Prop} {a : Nat} {tys : List (ClassId × FieldType)} {M : fm_M} {H0 : Heap}
theorem fm_get (hexec : p.tables.exec = Jvm.exec) (hb : c.code = cc) {own ref C : String} {T : u_T} {N ci index : Nat} {Ts : List Cond} (hts : ∀ w ∈ Ts, w.before args s = true) (hin : ∀ w ∈ u_ws C T N, w ∈ Ts) (hown : s.vm.findClass own = some m.cls) (hK : va_K D cl tys s) (hW : fm_W D cl A M H0 H locs) {fs : List Value} (he : M a = some (.inr (ci, fs))) (hc : cl[ci]? = some (C, T, N)) (k : Nat) (hk : k < N) (hlink : (Cond.fieldLink own index ref (T k).2.1 (T k).2.2.1).before args s = true) (hsame : ∀ x, s.fieldFound? (T k).1 (T k).2.1 (T k).2.2.1 = some x → s.fieldFound? ref (T k).2.1 (T k).2.2.1 = some x) {v : Value} (hv : fs[k]? = some v) (hdg : decode cc pc = .ok (.getfield index, 3))
    (kk : W p l e R s m args below meth c H locs cells slots Q (F0 m (pc + 3) ls (v :: rest))) : W p l e R s m args below meth c H locs cells slots Q (F0 m pc ls (.ref a :: rest)) :=
  va_get hexec hb hts hin hown hK (fm_one hW.1 he) 0 rfl hc k hk hlink hsame hv hdg kk
theorem fm_getN (hexec : p.tables.exec = Jvm.exec) (hb : c.code = cc) {own ref C host : String} {T : u_T} {N ci index : Nat} {Ts : List Cond} (hts : ∀ w ∈ Ts, w.before args s = true) (hin : ∀ w ∈ u_ws C T N, w ∈ Ts) (hown : s.vm.findClass own = some m.cls) (hK : va_K D cl tys s) (hW : fm_W D cl A M H0 H locs) {fs : List Value} (he : M a = some (.inr (ci, fs))) (hc : cl[ci]? = some (C, T, N)) (k : Nat) (hk : k < N) (hlink : va_Nw (.fieldLinkNest own index ref (T k).2.1 (T k).2.2.1 host) s) (hsame : ∀ x, s.fieldFound? (T k).1 (T k).2.1 (T k).2.2.1 = some x → s.fieldFound? ref (T k).2.1 (T k).2.2.1 = some x) {v : Value} (hv : fs[k]? = some v) (hdg : decode cc pc = .ok (.getfield index, 3))
    (kk : W p l e R s m args below meth c H locs cells slots Q (F0 m (pc + 3) ls (v :: rest))) : W p l e R s m args below meth c H locs cells slots Q (F0 m pc ls (.ref a :: rest)) :=
  va_getN hexec hb hts hin hown hK (fm_one hW.1 he) 0 rfl hc k hk (va_Nw.use rfl hlink) hsame hv hdg kk
/-- what a store of a field needs of the tables, and what it leaves -/
theorem fm_put (hexec : p.tables.exec = Jvm.exec) (hb : c.code = cc) {own ref C : String} {T : u_T} {N ci index : Nat} {Ts : List Cond} (hts : ∀ w ∈ Ts, w.before args s = true) (hin : ∀ w ∈ u_ws C T N, w ∈ Ts) (ty0 : Nat → FieldType) (hty : ∀ k, k < N → parseFieldDescriptor (T k).2.2.1 = some (ty0 k)) (hnm : ∀ a, a < N → ∀ b, b < N → a ≠ b → (T a).2.1 ≠ (T b).2.1) (hown : s.vm.findClass own = some m.cls) (hK : va_K D cl tys s) (hW : fm_W D cl A M H0 H locs) {fs : List Value} (he : M a = some (.inr (ci, fs))) (hc : cl[ci]? = some (C, T, N)) (k : Nat) (hk : k < N) (hlink : (Cond.fieldLink own index ref (T k).2.1 (T k).2.2.1).before args s = true) (hsame : ∀ x, s.fieldFound? (T k).1 (T k).2.1 (T k).2.2.1 = some x → s.fieldFound? ref (T k).2.1 (T k).2.2.1 = some x) (hfin : (T k).2.2.2 = false) {ty : FieldType} {v : Value} (hd : parseFieldDescriptor (T k).2.2.1 = some ty) (hn : narrow ty v = v) (hfit : fits ty v = true) (hl : k < fs.length)
    (hdg : decode cc pc = .ok (.putfield index, 3)) (kk : ∀ (H1 : Heap) (locs1 : List Loc), fm_W D cl A (va_up M a (some (.inr (ci, fs.set k v)))) H0 H1 locs1 → W p l e R s m args below meth c H1 locs1 cells slots Q (F0 m (pc + 3) ls rest)) : W p l e R s m args below meth c H locs cells slots Q (F0 m pc ls (v :: .ref a :: rest)) := by
  have hap := va_apart (own := own) hts hin ty0 hty hnm hK hc
  obtain ⟨r, h1, cell, q1, q2, q3, q4⟩ := hW.1 a _ he
  have hr : r = (C, T, N) := Option.some.inj (h1.symm.trans hc)
  subst hr
  obtain ⟨hS, hfc, kC, hkC, hkind⟩ := hK.1 ci _ hc
  obtain ⟨cf, kf, fi, f, hi, hsl⟩ := hS k hk
  have hlay := hts _ (hin _ (u_in_lay hk))
  unfold u_lay at hlay
  rw [if_neg (by rw [hfin]; decide)] at hlay
  have hst := (u_facts hfc hkC (u_lays hts hin hk) hi).1
  have h6 := u_store hfc hkC hkind hlay hi hd hn hfit
  refine W.putK hexec hb (f := f) ⟨hown, hlink, ⟨_, _, _, hsame _ hi⟩, hst⟩ (by rw [q2]; exact h6) q1 q3 (by rw [hsl]; exact k2_hasslot (q4 k hk)) rfl rfl hdg fun H' e1 e2 e3 => ?_
  rw [hsl] at e1 ⊢
  exact kk H' _ (hW.put he ⟨_, hc, t_OB.to (V := updV (vp_V fs) k v) ⟨_, e1, q2, q3, t_set q4 hap hk v⟩ (fun j _ => vp_updV_set hl v j)⟩ e2 e3)
theorem fm_putN (hexec : p.tables.exec = Jvm.exec) (hb : c.code = cc) {own ref C host : String} {T : u_T} {N ci index : Nat} {Ts : List Cond} (hts : ∀ w ∈ Ts, w.before args s = true) (hin : ∀ w ∈ u_ws C T N, w ∈ Ts) (ty0 : Nat → FieldType) (hty : ∀ k, k < N → parseFieldDescriptor (T k).2.2.1 = some (ty0 k)) (hnm : ∀ a, a < N → ∀ b, b < N → a ≠ b → (T a).2.1 ≠ (T b).2.1) (hown : s.vm.findClass own = some m.cls) (hK : va_K D cl tys s) (hW : fm_W D cl A M H0 H locs) {fs : List Value} (he : M a = some (.inr (ci, fs))) (hc : cl[ci]? = some (C, T, N)) (k : Nat) (hk : k < N) (hlink : va_Nw (.fieldLinkNest own index ref (T k).2.1 (T k).2.2.1 host) s) (hsame : ∀ x, s.fieldFound? (T k).1 (T k).2.1 (T k).2.2.1 = some x → s.fieldFound? ref (T k).2.1 (T k).2.2.1 = some x) (hfin : (T k).2.2.2 = false) {ty : FieldType} {v : Value} (hd : parseFieldDescriptor (T k).2.2.1 = some ty) (hn : narrow ty v = v) (hfit : fits ty v = true) (hl : k < fs.length)
    (hdg : decode cc pc = .ok (.putfield index, 3)) (kk : ∀ (H1 : Heap) (locs1 : List Loc), fm_W D cl A (va_up M a (some (.inr (ci, fs.set k v)))) H0 H1 locs1 → W p l e R s m args below meth c H1 locs1 cells slots Q (F0 m (pc + 3) ls rest)) : W p l e R s m args below meth c H locs cells slots Q (F0 m pc ls (v :: .ref a :: rest)) := by
  have hap := va_apart (own := own) hts hin ty0 hty hnm hK hc
  obtain ⟨r, h1, cell, q1, q2, q3, q4⟩ := hW.1 a _ he
  have hr : r = (C, T, N) := Option.some.inj (h1.symm.trans hc)
  subst hr
  obtain ⟨hS, hfc, kC, hkC, hkind⟩ := hK.1 ci _ hc
  obtain ⟨cf, kf, fi, f, hi, hsl⟩ := hS k hk
  have hlay := hts _ (hin _ (u_in_lay hk))
  unfold u_lay at hlay
  rw [if_neg (by rw [hfin]; decide)] at hlay
  have hst := (u_facts hfc hkC (u_lays hts hin hk) hi).1
  have h6 := u_store hfc hkC hkind hlay hi hd hn hfit
  refine va_WputK hexec hb (f := f) hown (va_Nw.use rfl hlink) (hsame _ hi) hst (by rw [q2]; exact h6) q1 q3 (by rw [hsl]; exact k2_hasslot (q4 k hk)) rfl rfl hdg fun H' e1 e2 e3 => ?_
  rw [hsl] at e1 ⊢
  exact kk H' _ (hW.put he ⟨_, hc, t_OB.to (V := updV (vp_V fs) k v) ⟨_, e1, q2, q3, t_set q4 hap hk v⟩ (fun j _ => vp_updV_set hl v j)⟩ e2 e3)
theorem fm_iald (hexec : p.tables.exec = Jvm.exec) (hb : c.code = cc) (hK : va_K D cl tys s) (hW : fm_W D cl A M H0 H locs) (t0 : Nat) {cA : ClassId} {n : Nat} {f : Nat → Int32} (ha : M a = some (.inl (cA, n, .inl f))) (ht : tys[t0]? = some (cA, .int)) {i : Int32} (hin : vp_in i n) (hdg : decode cc pc = .ok (.iaload, 1))
    (kk : W p l e R s m args below meth c H locs cells slots Q (F0 m (pc + 1) ls (.int (f i.toNatClampNeg) :: rest))) : W p l e R s m args below meth c H locs cells slots Q (F0 m pc ls (.int i :: .ref a :: rest)) :=
  va_iald hexec hb hK (fm_one hW.1 ha) 0 t0 rfl ht hin hdg kk
theorem fm_zald (hexec : p.tables.exec = Jvm.exec) (hb : c.code = cc) (hK : va_K D cl tys s) (hW : fm_W D cl A M H0 H locs) (t0 : Nat) {cA : ClassId} {n : Nat} {f : Nat → Int32} (ha : M a = some (.inl (cA, n, .inl f))) (ht : tys[t0]? = some (cA, .boolean)) {i : Int32} (hin : vp_in i n) (hdg : decode cc pc = .ok (.baload, 1))
    (kk : W p l e R s m args below meth c H locs cells slots Q (F0 m (pc + 1) ls (.int (f i.toNatClampNeg) :: rest))) : W p l e R s m args below meth c H locs cells slots Q (F0 m pc ls (.int i :: .ref a :: rest)) :=
  va_zald hexec hb hK (fm_one hW.1 ha) 0 t0 rfl ht hin hdg kk
theorem fm_lald (hexec : p.tables.exec = Jvm.exec) (hb : c.code = cc) (hK : va_K D cl tys s) (hW : fm_W D cl A M H0 H locs) (t0 : Nat) {cA : ClassId} {n : Nat} {f : Nat → Int64} (ha : M a = some (.inl (cA, n, .inr (.inl f)))) (ht : tys[t0]? = some (cA, .long)) {i : Int32} (hin : vp_in i n) (hdg : decode cc pc = .ok (.laload, 1))
    (kk : W p l e R s m args below meth c H locs cells slots Q (F0 m (pc + 1) ls (.long (f i.toNatClampNeg) :: rest))) : W p l e R s m args below meth c H locs cells slots Q (F0 m pc ls (.int i :: .ref a :: rest)) :=
  va_lald hexec hb hK (fm_one hW.1 ha) 0 t0 rfl ht hin hdg kk
theorem fm_aald (hexec : p.tables.exec = Jvm.exec) (hb : c.code = cc) (hK : va_K D cl tys s) (hW : fm_W D cl A M H0 H locs) (t0 : Nat) {cA : ClassId} {C : String} {n : Nat} {f : Nat → Option Nat} (ha : M a = some (.inl (cA, n, .inr (.inr (.inr (.inr f)))))) (ht : tys[t0]? = some (cA, .object C)) {i : Int32} (hin : vp_in i n) {b : Nat} (hf : f i.toNatClampNeg = some b) (hdg : decode cc pc = .ok (.aaload, 1))
    (kk : W p l e R s m args below meth c H locs cells slots Q (F0 m (pc + 1) ls (.ref b :: rest))) : W p l e R s m args below meth c H locs cells slots Q (F0 m pc ls (.int i :: .ref a :: rest)) :=
  va_aldq hexec hb hK (fm_one hW.1 ha) 0 t0 rfl ht hin hdg (by rw [hf]; exact kk)
theorem fm_iast (hexec : p.tables.exec = Jvm.exec) (hb : c.code = cc) (hK : va_K D cl tys s) (hW : fm_W D cl A M H0 H locs) (t0 : Nat) {cA : ClassId} {n : Nat} {f : Nat → Int32} (ha : M a = some (.inl (cA, n, .inl f))) (ht : tys[t0]? = some (cA, .int)) {i : Int32} {x : Int32} (hin : vp_in i n) (hdg : decode cc pc = .ok (.iastore, 1))
    (kk : ∀ (H1 : Heap) (locs1 : List Loc), fm_W D cl A (va_up M a (some (.inl (cA, n, .inl (upd f i.toNatClampNeg x))))) H0 H1 locs1 → W p l e R s m args below meth c H1 locs1 cells slots Q (F0 m (pc + 1) ls rest)) : W p l e R s m args below meth c H locs cells slots Q (F0 m pc ls (.int x :: .int i :: .ref a :: rest)) := by
  refine W.iast hexec hb (hW.1 a _ ha) ((hK.2 t0 _ ht).1 n (fun j => .int (f j))) (fun q => by cases q) (by show ¬ (i < 0 ∨ (arrV _ _ _).slots.size ≤ _); rw [arrV_size]; exact hin) rfl rfl hdg fun H1 e z oq => ?_
  refine kk H1 _ (hW.put ha ?_ z oq)
  show H1[a]? = some (vp_cell _ _)
  rw [e, vp_cell_i, vp_cell_i, arrV_store]
  congr 2
  funext q
  by_cases hq : q = i.toNatClampNeg
  · subst hq; simp [updV, upd]
  · simp [updV, upd, hq]
theorem fm_zast (hexec : p.tables.exec = Jvm.exec) (hb : c.code = cc) (hK : va_K D cl tys s) (hW : fm_W D cl A M H0 H locs) (t0 : Nat) {cA : ClassId} {n : Nat} {f : Nat → Int32} (ha : M a = some (.inl (cA, n, .inl f))) (ht : tys[t0]? = some (cA, .boolean)) {i : Int32} {x : Int32} (hin : vp_in i n) (hdg : decode cc pc = .ok (.bastore, 1))
    (kk : ∀ (H1 : Heap) (locs1 : List Loc), fm_W D cl A (va_up M a (some (.inl (cA, n, .inl (upd f i.toNatClampNeg (vp_nar .boolean x)))))) H0 H1 locs1 → W p l e R s m args below meth c H1 locs1 cells slots Q (F0 m (pc + 1) ls rest)) : W p l e R s m args below meth c H locs cells slots Q (F0 m pc ls (.int x :: .int i :: .ref a :: rest)) := by
  refine W.zast hexec hb (hW.1 a _ ha) ((hK.2 t0 _ ht).1 n (fun j => .int (f j))) (fun q => by cases q) (by show ¬ (i < 0 ∨ (arrV _ _ _).slots.size ≤ _); rw [arrV_size]; exact hin) rfl rfl hdg fun H1 e z oq => ?_
  refine kk H1 _ (hW.put ha ?_ z oq)
  show H1[a]? = some (vp_cell _ _)
  rw [e, vp_cell_i, vp_cell_i, arrV_store]
  congr 2
  funext q
  by_cases hq : q = i.toNatClampNeg
  · subst hq
    simp [updV, upd, vp_nar]
    try rfl
  · simp [updV, upd, hq]
theorem fm_last (hexec : p.tables.exec = Jvm.exec) (hb : c.code = cc) (hK : va_K D cl tys s) (hW : fm_W D cl A M H0 H locs) (t0 : Nat) {cA : ClassId} {n : Nat} {f : Nat → Int64} (ha : M a = some (.inl (cA, n, .inr (.inl f)))) (ht : tys[t0]? = some (cA, .long)) {i : Int32} {x : Int64} (hin : vp_in i n) (hdg : decode cc pc = .ok (.lastore, 1))
    (kk : ∀ (H1 : Heap) (locs1 : List Loc), fm_W D cl A (va_up M a (some (.inl (cA, n, .inr (.inl (vp_updL f i.toNatClampNeg x)))))) H0 H1 locs1 → W p l e R s m args below meth c H1 locs1 cells slots Q (F0 m (pc + 1) ls rest)) : W p l e R s m args below meth c H locs cells slots Q (F0 m pc ls (.long x :: .int i :: .ref a :: rest)) := by
  refine W.last hexec hb (hW.1 a _ ha) ((hK.2 t0 _ ht).1 n (fun j => .long (f j))) (fun q => by cases q) (by show ¬ (i < 0 ∨ (arrV _ _ _).slots.size ≤ _); rw [arrV_size]; exact hin) rfl rfl hdg fun H1 e z oq => ?_
  refine kk H1 _ (hW.put ha ?_ z oq)
  show H1[a]? = some (vp_cell _ _)
  rw [e, vp_cell_l, vp_cell_l, arrV_store]
  congr 2
  funext q
  by_cases hq : q = i.toNatClampNeg
  · subst hq; simp [updV, vp_updL]
  · simp [updV, vp_updL, hq]
end FMW
-- contracts: the state that a method starts from, the world that it leaves
def fm_St (D : va_G) (cl : List vw_C) (tys : List (ClassId × FieldType)) (nw : List Cond) (A : Nat → Prop) (M : fm_M) (U : State) : Prop :=
  fm_P D cl M U.heap ∧ (∀ (a : Nat) (e : va_E), M a = some e → A a) ∧ (∀ q : Nat, U.heap.size ≤ q → A q) ∧ va_K D cl tys U ∧ ∀ w ∈ nw, va_Nw w U
def fm_B (D : va_G) (cl : List vw_C) (A : Nat → Prop) (M : fm_M) (t : State) : Prop := fm_P D cl M t.heap ∧ ∀ (a : Nat) (e : va_E), M a = some e → A a
/-- the words of nest mates -/
def fm_isN (w : Cond) : Prop := (∃ (a : String) (i : Nat) (b n d h : String), w = .fieldLinkNest a i b n d h) ∨ ∃ (a : String) (i : Nat) (x : MethodName) (h : String), w = .methodLinkNest a i x h
theorem fm_nw {nw : List Cond} (hn : ∀ w ∈ nw, fm_isN w) {s U : State} (hW : s.WarmedH U.vm) (h : ∀ w ∈ nw, va_Nw w s) : ∀ w ∈ nw, va_Nw w U := by
  intro w hw
  have h1 := h w hw
  rcases hn w hw with ⟨a, i, b, n, d, q, rfl⟩ | ⟨a, i, x, q, rfl⟩
  · exact va_Nw.warmF hW h1
  · exact va_Nw.warmM hW h1
theorem fm_blind {D : va_G} {cl : List vw_C} {tys : List (ClassId × FieldType)} {nw : List Cond} (hn : ∀ w ∈ nw, fm_isN w) {A : Nat → Prop} {M : fm_M} {av : List Value} : FrameBlind (va_Pc av (fm_St D cl tys nw A M)) := by
  intro a U g mk q
  obtain ⟨q0, q1, q2, q3, q4, q5⟩ := q
  refine ⟨q0, q1, q2, q3, va_K.moved (u := U) (U := U.calling g mk a) (Vm.Alike.refl U.vm) q4, fun w hw => ?_⟩
  have h1 := q5 w hw
  rcases hn w hw with ⟨a, i, b, n, d, q, rfl⟩ | ⟨a, i, x, q, rfl⟩
  · exact va_Nw.same rfl rfl h1
  · exact va_Nw.same rfl rfl h1
theorem fm_pre {D : va_G} {cl : List vw_C} {tys : List (ClassId × FieldType)} {nw : List Cond} (hn : ∀ w ∈ nw, fm_isN w) {A : Nat → Prop} {M : fm_M} {av : List Value} {s : State} {H : Heap} {locs : List Loc} {H0 : Heap} (hK : va_K D cl tys s) (hN : ∀ w ∈ nw, va_Nw w s) (hW : fm_W D cl A M H0 H locs) : PreS s H (va_Pc av (fm_St D cl tys nw A M)) av :=
  ⟨fm_blind hn, fun U hU hw => ⟨rfl, by rw [hU]; exact hW.1, hW.2.1, fun q hq => hW.2.2.2 q (Nat.le_trans hW.2.2.1.1 (by rw [← hU]; exact hq)), va_K.moved hw.alike hK, fm_nw hn hw hN⟩⟩
theorem fm_preV {D : va_G} {cl : List vw_C} {tys : List (ClassId × FieldType)} {nw : List Cond} (hn : ∀ w ∈ nw, fm_isN w) {A : Nat → Prop} {M : fm_M} {s : State} {H : Heap} {locs : List Loc} {H0 : Heap} {b ci : Nat} {fs As : List Value} {q : vw_C} (hK : va_K D cl tys s) (hN : ∀ w ∈ nw, va_Nw w s) (hW : fm_W D cl A M H0 H locs) (he : M b = some (.inr (ci, fs))) (hc : cl[ci]? = some q) : PreV s H q.1 b (va_Pc (.ref b :: As) (fm_St D cl tys nw A M)) As :=
  ⟨fm_blind hn, va_recv hK (fm_one hW.1 he) hc (q0 := 0) rfl, (fm_pre hn hK hN hW).2⟩
section FMC
variable {p : Program} {l : Launch} {e : Env} {R : Room} {s : State} {m : MethodId} {args : Array Value} {below : List Frame} {meth : Method} {c : Code} {H : Heap} {locs : List Loc} {cells slots : Nat} {Q : State → Prop}
variable {pc : Nat} {ls : Array Slot} {rest st0 : List Value} {a : Array Value} {A : Nat → Prop} {H0 : Heap} {mc ms : Nat} {D : va_G} {cl : List vw_C} {M : fm_M}
theorem fm_back {M1 : fm_M} {t : State} {H1 : Heap} {locs1 : List Loc} (hW : fm_W D cl A M H0 H locs) (ht : t.heap = H1) (hB : fm_B D cl A M1 t) (hS : va_S A H0 H1 locs1) : fm_W D cl A M1 H0 H1 locs1 :=
  ⟨by rw [← ht]; exact hB.1, hB.2, hS, hW.2.2.2⟩
theorem fm_calli {post : Int32 → fm_M → Prop} (hr : va_Run p l e R s m args below meth c H locs cells slots mc ms (F0 m pc ls st0) rest (va_Qi post (fm_B D cl A) A a) A) (hW : fm_W D cl A M H0 H locs)
    (kk : ∀ (r : Int32) (M1 : fm_M) (H1 : Heap) (locs1 : List Loc), post r M1 → fm_W D cl A M1 H0 H1 locs1 → W p l e R s m args below meth c H1 locs1 (cells + mc) (slots + ms) Q (F0 m (pc + 3) ls (.int r :: rest))) : W p l e R s m args below meth c H locs cells slots Q (F0 m pc ls st0) :=
  va_calli hr hW.2.2.1 (fun _ _ h => h) (fun _ h => h) (fun r M1 t H1 locs1 ht _ hp hB _ _ hS => kk r M1 H1 locs1 hp (fm_back hW ht hB hS))
theorem fm_calll {post : Int64 → fm_M → Prop} (hr : va_Run p l e R s m args below meth c H locs cells slots mc ms (F0 m pc ls st0) rest (va_Ql post (fm_B D cl A) A a) A) (hW : fm_W D cl A M H0 H locs)
    (kk : ∀ (r : Int64) (M1 : fm_M) (H1 : Heap) (locs1 : List Loc), post r M1 → fm_W D cl A M1 H0 H1 locs1 → W p l e R s m args below meth c H1 locs1 (cells + mc) (slots + ms) Q (F0 m (pc + 3) ls (.long r :: rest))) : W p l e R s m args below meth c H locs cells slots Q (F0 m pc ls st0) :=
  va_calll hr hW.2.2.1 (fun _ _ h => h) (fun _ h => h) (fun r M1 t H1 locs1 ht _ hp hB _ _ hS => kk r M1 H1 locs1 hp (fm_back hW ht hB hS))
theorem fm_callv {post : fm_M → Prop} (hr : va_Run p l e R s m args below meth c H locs cells slots mc ms (F0 m pc ls st0) rest (va_Qv post (fm_B D cl A) A a) A) (hW : fm_W D cl A M H0 H locs)
    (kk : ∀ (M1 : fm_M) (H1 : Heap) (locs1 : List Loc), post M1 → fm_W D cl A M1 H0 H1 locs1 → W p l e R s m args below meth c H1 locs1 (cells + mc) (slots + ms) Q (F0 m (pc + 3) ls rest)) : W p l e R s m args below meth c H locs cells slots Q (F0 m pc ls st0) :=
  va_callv hr hW.2.2.1 (fun _ _ h => h) (fun _ h => h) (fun M1 t H1 locs1 ht _ hp hB _ _ hS => kk M1 H1 locs1 hp (fm_back hW ht hB hS))
theorem fm_callr {post : Nat → fm_M → Prop} (hr : va_Run p l e R s m args below meth c H locs cells slots mc ms (F0 m pc ls st0) rest (va_Qr (S := fm_M) (fun _ => True) (fun M1 ra t => post ra M1 ∧ fm_B D cl A M1 t) A a) A) (hW : fm_W D cl A M H0 H locs)
    (kk : ∀ (ra : Nat) (M1 : fm_M) (H1 : Heap) (locs1 : List Loc), post ra M1 → fm_W D cl A M1 H0 H1 locs1 → W p l e R s m args below meth c H1 locs1 (cells + mc) (slots + ms) Q (F0 m (pc + 3) ls (.ref ra :: rest))) : W p l e R s m args below meth c H locs cells slots Q (F0 m pc ls st0) :=
  va_callr hr hW.2.2.1 (fun _ _ h => h) (fun _ h => h) (fun M1 ra t H1 locs1 ht _ _ hB _ _ hS => kk ra M1 H1 locs1 hB.1 (fm_back hW ht hB.2 hS))
end FMC
section FMR
variable {p : Program} {l : Launch} {e : Env} {R : Room} {s : State} {m : MethodId} {args : Array Value} {below : List Frame} {meth : Method} {c : Code} {H : Heap} {locs : List Loc} {cells slots : Nat} {Q : State → Prop}
variable {cc : ByteArray} {pc : Nat} {ls : Array Slot} {D : va_G} {cl : List vw_C} {A : Nat → Prop} {M : fm_M}
theorem fm_Bof {t : State} (hW : fm_W D cl A M s.heap H locs) (ht : t.heap = H) : fm_B D cl A M t ∧ va_F A s t := ⟨⟨by rw [ht]; exact hW.1, hW.2.1⟩, hW.2.2.1.F ht⟩
theorem fm_iret {post : Int32 → fm_M → Prop} {v : Int32} (hexec : p.tables.exec = Jvm.exec) (hb : c.code = cc) (hr : meth.sig.returnType = some .int) (hlocks : meth.locks = false) (hW : fm_W D cl A M s.heap H locs) (hp : post v M) (hdg : decode cc pc = .ok (.ireturn, 1)) :
    W p l e R s m args below meth c H locs cells slots (MQ below (va_Qi post (fm_B D cl A) A) args s cells slots A) (F0 m pc ls [.int v]) :=
  W.iret hexec hb hr (fun t ht _ => ⟨⟨v, M, rfl, hp, (fm_Bof hW ht).1⟩, (fm_Bof hW ht).2⟩) hW.2.2.1.2.2 hdg hlocks
theorem fm_zret {post : Int32 → fm_M → Prop} {v : Int32} (hexec : p.tables.exec = Jvm.exec) (hb : c.code = cc) (hr : meth.sig.returnType = some .boolean) (hn : narrow .boolean (.int v) = .int v) (hlocks : meth.locks = false) (hW : fm_W D cl A M s.heap H locs) (hp : post v M) (hdg : decode cc pc = .ok (.ireturn, 1)) :
    W p l e R s m args below meth c H locs cells slots (MQ below (va_Qi post (fm_B D cl A) A) args s cells slots A) (F0 m pc ls [.int v]) :=
  W.zret hexec hb hr hn (fun t ht _ => ⟨⟨v, M, rfl, hp, (fm_Bof hW ht).1⟩, (fm_Bof hW ht).2⟩) hW.2.2.1.2.2 hdg hlocks
theorem fm_lret {post : Int64 → fm_M → Prop} {v : Int64} (hexec : p.tables.exec = Jvm.exec) (hb : c.code = cc) (hr : meth.sig.returnType = some .long) (hlocks : meth.locks = false) (hW : fm_W D cl A M s.heap H locs) (hp : post v M) (hdg : decode cc pc = .ok (.lreturn, 1)) :
    W p l e R s m args below meth c H locs cells slots (MQ below (va_Ql post (fm_B D cl A) A) args s cells slots A) (F0 m pc ls [.long v]) :=
  W.lret hexec hb hr (fun t ht _ => ⟨⟨v, M, rfl, hp, (fm_Bof hW ht).1⟩, (fm_Bof hW ht).2⟩) hW.2.2.1.2.2 hdg hlocks
theorem fm_vret {post : fm_M → Prop} (hexec : p.tables.exec = Jvm.exec) (hb : c.code = cc) (hr : meth.sig.returnType = none) (hlocks : meth.locks = false) (hW : fm_W D cl A M s.heap H locs) (hp : post M) (hdg : decode cc pc = .ok (.return_, 1)) :
    W p l e R s m args below meth c H locs cells slots (MQ below (va_Qv post (fm_B D cl A) A) args s cells slots A) (F0 m pc ls []) :=
  W.vret hexec hb hr (fun t ht _ => ⟨⟨M, rfl, hp, (fm_Bof hW ht).1⟩, (fm_Bof hW ht).2⟩) hW.2.2.1.2.2 hdg hlocks
theorem fm_aret {post : Nat → fm_M → Prop} {v : Nat} {C : String} (hexec : p.tables.exec = Jvm.exec) (hb : c.code = cc) (hr : meth.sig.returnType = some (.object C)) (hlocks : meth.locks = false) (hW : fm_W D cl A M s.heap H locs) (hp : post v M) (hdg : decode cc pc = .ok (.areturn, 1)) :
    W p l e R s m args below meth c H locs cells slots (MQ below (va_Qr (S := fm_M) (fun _ => True) (fun M1 ra t => post ra M1 ∧ fm_B D cl A M1 t) A) args s cells slots A) (F0 m pc ls [.ref v]) :=
  W.aret hexec hb hr (Or.inl ⟨_, rfl⟩) (Or.inr ⟨_, rfl⟩) (fun t ht _ => ⟨⟨M, v, rfl, trivial, hp, (fm_Bof hW ht).1⟩, (fm_Bof hW ht).2⟩) hW.2.2.1.2.2 hdg hlocks
end FMR
end
section
-- PART A of kit/laws/SKELETON.whole, as given for pasting
-- ===== PART A: goes FIRST, ahead of the names: the tables' words, and 'selects' of the private methods out of them =====
/-- a private method of a class that the tables say can be made, by its rows of tables_1 -/
def lw_okq (q : MethodName × Nat) : Prop := (q.1.cls ≠ "java/lang/invoke/MethodHandle" ∧ q.1.cls ≠ "java/lang/invoke/VarHandle") ∧ Cond.instantiable q.1.cls q.2 ∈ tables_1 ∧ Cond.privateMethod q.1 ∈ tables_1 ∧ Cond.instanceMethod q.1 ∈ tables_1
theorem lw_p0 : lw_okq (⟨"FrameSamples", "startOver", "(I)V"⟩, 11) := ⟨⟨by decide +kernel, by decide +kernel⟩, List.mem_of_getElem? (i := 14) (by decide +kernel), List.mem_of_getElem? (i := 95) (by decide +kernel), List.mem_of_getElem? (i := 96) (by decide +kernel)⟩
theorem lw_p1 : lw_okq (⟨"FrameSamples", "isWire", "(I)Z"⟩, 11) := ⟨⟨by decide +kernel, by decide +kernel⟩, List.mem_of_getElem? (i := 14) (by decide +kernel), List.mem_of_getElem? (i := 152) (by decide +kernel), List.mem_of_getElem? (i := 153) (by decide +kernel)⟩
theorem lw_p2 : lw_okq (⟨"FrameSamples$Pauli", "passH", "(I)V"⟩, 4) := ⟨⟨by decide +kernel, by decide +kernel⟩, List.mem_of_getElem? (i := 29) (by decide +kernel), List.mem_of_getElem? (i := 167) (by decide +kernel), List.mem_of_getElem? (i := 168) (by decide +kernel)⟩
theorem lw_p3 : lw_okq (⟨"FrameSamples$Pauli", "passS", "(I)V"⟩, 4) := ⟨⟨by decide +kernel, by decide +kernel⟩, List.mem_of_getElem? (i := 29) (by decide +kernel), List.mem_of_getElem? (i := 179) (by decide +kernel), List.mem_of_getElem? (i := 180) (by decide +kernel)⟩
theorem lw_p4 : lw_okq (⟨"FrameSamples$Pauli", "passControlledX", "(II)V"⟩, 4) := ⟨⟨by decide +kernel, by decide +kernel⟩, List.mem_of_getElem? (i := 29) (by decide +kernel), List.mem_of_getElem? (i := 183) (by decide +kernel), List.mem_of_getElem? (i := 184) (by decide +kernel)⟩
theorem lw_p5 : lw_okq (⟨"FrameSamples$Tableau", "collapse", "(III)LFrameSamples$Pauli;"⟩, 4) := ⟨⟨by decide +kernel, by decide +kernel⟩, List.mem_of_getElem? (i := 22) (by decide +kernel), List.mem_of_getElem? (i := 200) (by decide +kernel), List.mem_of_getElem? (i := 201) (by decide +kernel)⟩
theorem lw_p6 : lw_okq (⟨"FrameSamples$Tableau", "zFromKeepers", "(I)LFrameSamples$Pauli;"⟩, 4) := ⟨⟨by decide +kernel, by decide +kernel⟩, List.mem_of_getElem? (i := 22) (by decide +kernel), List.mem_of_getElem? (i := 218) (by decide +kernel), List.mem_of_getElem? (i := 219) (by decide +kernel)⟩
theorem lw_p7 : lw_okq (⟨"FrameSamples", "countEdges", "()I"⟩, 11) := ⟨⟨by decide +kernel, by decide +kernel⟩, List.mem_of_getElem? (i := 14) (by decide +kernel), List.mem_of_getElem? (i := 283) (by decide +kernel), List.mem_of_getElem? (i := 284) (by decide +kernel)⟩
theorem lw_p8 : lw_okq (⟨"FrameSamples", "isFirstOfEdge", "(I)Z"⟩, 11) := ⟨⟨by decide +kernel, by decide +kernel⟩, List.mem_of_getElem? (i := 14) (by decide +kernel), List.mem_of_getElem? (i := 287) (by decide +kernel), List.mem_of_getElem? (i := 288) (by decide +kernel)⟩
theorem lw_p9 : lw_okq (⟨"FrameSamples", "firstFaultOfEdge", "(I)I"⟩, 11) := ⟨⟨by decide +kernel, by decide +kernel⟩, List.mem_of_getElem? (i := 14) (by decide +kernel), List.mem_of_getElem? (i := 299) (by decide +kernel), List.mem_of_getElem? (i := 300) (by decide +kernel)⟩
theorem lw_p10 : lw_okq (⟨"FrameSamples", "faultsLike", "(I)J"⟩, 11) := ⟨⟨by decide +kernel, by decide +kernel⟩, List.mem_of_getElem? (i := 14) (by decide +kernel), List.mem_of_getElem? (i := 303) (by decide +kernel), List.mem_of_getElem? (i := 304) (by decide +kernel)⟩
theorem lw_p11 : lw_okq (⟨"FrameSamples", "oddsNumerator", "(J)J"⟩, 11) := ⟨⟨by decide +kernel, by decide +kernel⟩, List.mem_of_getElem? (i := 14) (by decide +kernel), List.mem_of_getElem? (i := 307) (by decide +kernel), List.mem_of_getElem? (i := 308) (by decide +kernel)⟩
theorem lw_p12 : lw_okq (⟨"FrameSamples", "oddCases", "(J)J"⟩, 11) := ⟨⟨by decide +kernel, by decide +kernel⟩, List.mem_of_getElem? (i := 14) (by decide +kernel), List.mem_of_getElem? (i := 311) (by decide +kernel), List.mem_of_getElem? (i := 312) (by decide +kernel)⟩
theorem lw_p13 : lw_okq (⟨"java/lang/Throwable", "fillInStackTrace", "(I)Ljava/lang/Throwable;"⟩, 6) := ⟨⟨by decide +kernel, by decide +kernel⟩, List.mem_of_getElem? (i := 351) (by decide +kernel), List.mem_of_getElem? (i := 349) (by decide +kernel), List.mem_of_getElem? (i := 350) (by decide +kernel)⟩
theorem lw_p14 : lw_okq (⟨"FrameSamples", "oddsExponent", "(J)J"⟩, 11) := ⟨⟨by decide +kernel, by decide +kernel⟩, List.mem_of_getElem? (i := 14) (by decide +kernel), List.mem_of_getElem? (i := 393) (by decide +kernel), List.mem_of_getElem? (i := 394) (by decide +kernel)⟩
theorem lw_p15 : lw_okq (⟨"FrameSamplesModel", "start", "(I)V"⟩, 30) := ⟨⟨by decide +kernel, by decide +kernel⟩, List.mem_of_getElem? (i := 397) (by decide +kernel), List.mem_of_getElem? (i := 403) (by decide +kernel), List.mem_of_getElem? (i := 404) (by decide +kernel)⟩
def lw_privs_1 : List (MethodName × Nat) := [(⟨"FrameSamples", "startOver", "(I)V"⟩, 11), (⟨"FrameSamples", "isWire", "(I)Z"⟩, 11), (⟨"FrameSamples$Pauli", "passH", "(I)V"⟩, 4), (⟨"FrameSamples$Pauli", "passS", "(I)V"⟩, 4), (⟨"FrameSamples$Pauli", "passControlledX", "(II)V"⟩, 4), (⟨"FrameSamples$Tableau", "collapse", "(III)LFrameSamples$Pauli;"⟩, 4), (⟨"FrameSamples$Tableau", "zFromKeepers", "(I)LFrameSamples$Pauli;"⟩, 4), (⟨"FrameSamples", "countEdges", "()I"⟩, 11), (⟨"FrameSamples", "isFirstOfEdge", "(I)Z"⟩, 11), (⟨"FrameSamples", "firstFaultOfEdge", "(I)I"⟩, 11), (⟨"FrameSamples", "faultsLike", "(I)J"⟩, 11), (⟨"FrameSamples", "oddsNumerator", "(J)J"⟩, 11), (⟨"FrameSamples", "oddCases", "(J)J"⟩, 11), (⟨"java/lang/Throwable", "fillInStackTrace", "(I)Ljava/lang/Throwable;"⟩, 6), (⟨"FrameSamples", "oddsExponent", "(J)J"⟩, 11), (⟨"FrameSamplesModel", "start", "(I)V"⟩, 30)]
theorem lw_r1 : ∀ q ∈ lw_privs_1, lw_okq q := List.forall_mem_cons.mpr ⟨lw_p0, List.forall_mem_cons.mpr ⟨lw_p1, List.forall_mem_cons.mpr ⟨lw_p2, List.forall_mem_cons.mpr ⟨lw_p3, List.forall_mem_cons.mpr ⟨lw_p4, List.forall_mem_cons.mpr ⟨lw_p5, List.forall_mem_cons.mpr ⟨lw_p6, List.forall_mem_cons.mpr ⟨lw_p7, List.forall_mem_cons.mpr ⟨lw_p8, List.forall_mem_cons.mpr ⟨lw_p9, List.forall_mem_cons.mpr ⟨lw_p10, List.forall_mem_cons.mpr ⟨lw_p11, List.forall_mem_cons.mpr ⟨lw_p12, List.forall_mem_cons.mpr ⟨lw_p13, List.forall_mem_cons.mpr ⟨lw_p14, List.forall_mem_cons.mpr ⟨lw_p15, fun _ h => absurd h List.not_mem_nil⟩⟩⟩⟩⟩⟩⟩⟩⟩⟩⟩⟩⟩⟩⟩⟩
theorem lw_p16 : lw_okq (⟨"FrameSamplesModel", "isWire", "(I)Z"⟩, 30) := ⟨⟨by decide +kernel, by decide +kernel⟩, List.mem_of_getElem? (i := 397) (by decide +kernel), List.mem_of_getElem? (i := 511) (by decide +kernel), List.mem_of_getElem? (i := 512) (by decide +kernel)⟩
theorem lw_p17 : lw_okq (⟨"FrameSamplesModel", "act", "(III)V"⟩, 30) := ⟨⟨by decide +kernel, by decide +kernel⟩, List.mem_of_getElem? (i := 397) (by decide +kernel), List.mem_of_getElem? (i := 515) (by decide +kernel), List.mem_of_getElem? (i := 516) (by decide +kernel)⟩
theorem lw_p18 : lw_okq (⟨"FrameSamplesModel", "playAll", "()V"⟩, 30) := ⟨⟨by decide +kernel, by decide +kernel⟩, List.mem_of_getElem? (i := 397) (by decide +kernel), List.mem_of_getElem? (i := 539) (by decide +kernel), List.mem_of_getElem? (i := 540) (by decide +kernel)⟩
theorem lw_p19 : lw_okq (⟨"FrameSamplesModel", "lookAt", "(II)V"⟩, 30) := ⟨⟨by decide +kernel, by decide +kernel⟩, List.mem_of_getElem? (i := 397) (by decide +kernel), List.mem_of_getElem? (i := 543) (by decide +kernel), List.mem_of_getElem? (i := 544) (by decide +kernel)⟩
theorem lw_p20 : lw_okq (⟨"FrameSamplesModel", "solve", "(II)V"⟩, 30) := ⟨⟨by decide +kernel, by decide +kernel⟩, List.mem_of_getElem? (i := 397) (by decide +kernel), List.mem_of_getElem? (i := 550) (by decide +kernel), List.mem_of_getElem? (i := 551) (by decide +kernel)⟩
theorem lw_p21 : lw_okq (⟨"FrameSamplesModel", "multiply", "(II)V"⟩, 30) := ⟨⟨by decide +kernel, by decide +kernel⟩, List.mem_of_getElem? (i := 397) (by decide +kernel), List.mem_of_getElem? (i := 557) (by decide +kernel), List.mem_of_getElem? (i := 558) (by decide +kernel)⟩
theorem lw_p22 : lw_okq (⟨"FrameSamplesModel", "powers", "(IIII)I"⟩, 30) := ⟨⟨by decide +kernel, by decide +kernel⟩, List.mem_of_getElem? (i := 397) (by decide +kernel), List.mem_of_getElem? (i := 561) (by decide +kernel), List.mem_of_getElem? (i := 562) (by decide +kernel)⟩
theorem lw_p23 : lw_okq (⟨"FrameSamplesModel", "takeRow", "(I)V"⟩, 30) := ⟨⟨by decide +kernel, by decide +kernel⟩, List.mem_of_getElem? (i := 397) (by decide +kernel), List.mem_of_getElem? (i := 568) (by decide +kernel), List.mem_of_getElem? (i := 569) (by decide +kernel)⟩
theorem lw_p24 : lw_okq (⟨"FrameSamplesModel", "clearWire", "(II)V"⟩, 30) := ⟨⟨by decide +kernel, by decide +kernel⟩, List.mem_of_getElem? (i := 397) (by decide +kernel), List.mem_of_getElem? (i := 572) (by decide +kernel), List.mem_of_getElem? (i := 573) (by decide +kernel)⟩
theorem lw_p25 : lw_okq (⟨"FrameSamplesModel", "gateRow", "(II)V"⟩, 30) := ⟨⟨by decide +kernel, by decide +kernel⟩, List.mem_of_getElem? (i := 397) (by decide +kernel), List.mem_of_getElem? (i := 576) (by decide +kernel), List.mem_of_getElem? (i := 577) (by decide +kernel)⟩
theorem lw_p26 : lw_okq (⟨"FrameSamplesModel", "swapBits", "(III)V"⟩, 30) := ⟨⟨by decide +kernel, by decide +kernel⟩, List.mem_of_getElem? (i := 397) (by decide +kernel), List.mem_of_getElem? (i := 580) (by decide +kernel), List.mem_of_getElem? (i := 581) (by decide +kernel)⟩
theorem lw_p27 : lw_okq (⟨"FrameSamplesModel", "changedBy", "(I)J"⟩, 30) := ⟨⟨by decide +kernel, by decide +kernel⟩, List.mem_of_getElem? (i := 397) (by decide +kernel), List.mem_of_getElem? (i := 592) (by decide +kernel), List.mem_of_getElem? (i := 593) (by decide +kernel)⟩
theorem lw_p28 : lw_okq (⟨"FrameSamplesModel", "goThrough", "(I)V"⟩, 30) := ⟨⟨by decide +kernel, by decide +kernel⟩, List.mem_of_getElem? (i := 397) (by decide +kernel), List.mem_of_getElem? (i := 596) (by decide +kernel), List.mem_of_getElem? (i := 597) (by decide +kernel)⟩
theorem lw_p29 : lw_okq (⟨"FrameSamplesModel", "checksOf", "(J)I"⟩, 30) := ⟨⟨by decide +kernel, by decide +kernel⟩, List.mem_of_getElem? (i := 397) (by decide +kernel), List.mem_of_getElem? (i := 600) (by decide +kernel), List.mem_of_getElem? (i := 601) (by decide +kernel)⟩
theorem lw_p30 : lw_okq (⟨"FrameSamplesModel", "findEdges", "()V"⟩, 30) := ⟨⟨by decide +kernel, by decide +kernel⟩, List.mem_of_getElem? (i := 397) (by decide +kernel), List.mem_of_getElem? (i := 611) (by decide +kernel), List.mem_of_getElem? (i := 612) (by decide +kernel)⟩
theorem lw_p31 : lw_okq (⟨"FrameSamplesModel", "odds", "(IZ)J"⟩, 30) := ⟨⟨by decide +kernel, by decide +kernel⟩, List.mem_of_getElem? (i := 397) (by decide +kernel), List.mem_of_getElem? (i := 615) (by decide +kernel), List.mem_of_getElem? (i := 616) (by decide +kernel)⟩
def lw_privs_2 : List (MethodName × Nat) := [(⟨"FrameSamplesModel", "isWire", "(I)Z"⟩, 30), (⟨"FrameSamplesModel", "act", "(III)V"⟩, 30), (⟨"FrameSamplesModel", "playAll", "()V"⟩, 30), (⟨"FrameSamplesModel", "lookAt", "(II)V"⟩, 30), (⟨"FrameSamplesModel", "solve", "(II)V"⟩, 30), (⟨"FrameSamplesModel", "multiply", "(II)V"⟩, 30), (⟨"FrameSamplesModel", "powers", "(IIII)I"⟩, 30), (⟨"FrameSamplesModel", "takeRow", "(I)V"⟩, 30), (⟨"FrameSamplesModel", "clearWire", "(II)V"⟩, 30), (⟨"FrameSamplesModel", "gateRow", "(II)V"⟩, 30), (⟨"FrameSamplesModel", "swapBits", "(III)V"⟩, 30), (⟨"FrameSamplesModel", "changedBy", "(I)J"⟩, 30), (⟨"FrameSamplesModel", "goThrough", "(I)V"⟩, 30), (⟨"FrameSamplesModel", "checksOf", "(J)I"⟩, 30), (⟨"FrameSamplesModel", "findEdges", "()V"⟩, 30), (⟨"FrameSamplesModel", "odds", "(IZ)J"⟩, 30)]
theorem lw_r2 : ∀ q ∈ lw_privs_2, lw_okq q := List.forall_mem_cons.mpr ⟨lw_p16, List.forall_mem_cons.mpr ⟨lw_p17, List.forall_mem_cons.mpr ⟨lw_p18, List.forall_mem_cons.mpr ⟨lw_p19, List.forall_mem_cons.mpr ⟨lw_p20, List.forall_mem_cons.mpr ⟨lw_p21, List.forall_mem_cons.mpr ⟨lw_p22, List.forall_mem_cons.mpr ⟨lw_p23, List.forall_mem_cons.mpr ⟨lw_p24, List.forall_mem_cons.mpr ⟨lw_p25, List.forall_mem_cons.mpr ⟨lw_p26, List.forall_mem_cons.mpr ⟨lw_p27, List.forall_mem_cons.mpr ⟨lw_p28, List.forall_mem_cons.mpr ⟨lw_p29, List.forall_mem_cons.mpr ⟨lw_p30, List.forall_mem_cons.mpr ⟨lw_p31, fun _ h => absurd h List.not_mem_nil⟩⟩⟩⟩⟩⟩⟩⟩⟩⟩⟩⟩⟩⟩⟩⟩
def lw_privs : List (MethodName × Nat) := lw_privs_1 ++ (lw_privs_2)
def lw_tbl : List Cond := k2_sels lw_privs ++ tables_1
theorem lw_privs_ok : ∀ q ∈ lw_privs, lw_okq q := by
  show ∀ q ∈ lw_privs_1 ++ (lw_privs_2), lw_okq q
  exact List.forall_mem_append.mpr ⟨lw_r1, lw_r2⟩
-- the words that every method takes: the good ones of the tables
def fs_tb : List Cond := lw_tbl.filter goodWord
theorem fs_tb_l {w : Cond} (h : w ∈ fs_tb) : w ∈ lw_tbl := (List.mem_filter.mp h).1
theorem fs_tb_g {w : Cond} (h : w ∈ fs_tb) : (w.onTables && w.keeps) = true ∨ ∃ ty, w = .arrayClass ty := good_of_word (List.mem_filter.mp h).2
theorem fs_ti {w : Cond} (i : Nat) (h : tables_1[i]? = some w) (g : goodWord w = true) : w ∈ fs_tb := List.mem_filter.mpr ⟨List.mem_append_right _ (List.mem_of_getElem? h), g⟩
theorem fs_si {w : Cond} (i : Nat) (h : (k2_sels lw_privs)[i]? = some w) (g : goodWord w = true) : w ∈ fs_tb := List.mem_filter.mpr ⟨List.mem_append_left _ (List.mem_of_getElem? h), g⟩
theorem fs_gin {a b : Cond} (hb : b ∈ fs_tb) : GoodIn (a :: fs_tb) (b :: fs_tb) := by
  intro w hw
  rcases List.mem_cons.mp hw with rfl | h
  · exact ⟨List.mem_cons_of_mem _ hb, fs_tb_g hb⟩
  · exact ⟨List.mem_cons_of_mem _ h, fs_tb_g h⟩
theorem fs_gV {a b : Cond} {own C : String} {idx : Nat} {y : MethodName} (h1 : Cond.methodLink own idx y ∈ fs_tb) (h2 : Cond.instanceMethod y ∈ fs_tb) (h3 : Cond.selects C y y ∈ fs_tb) (h4 : Cond.initialized C ∈ fs_tb) (hb : b ∈ fs_tb) : GoodIn (a :: fs_tb) (wsV own idx C y (b :: fs_tb)) := by
  intro w hw
  have one : ∀ {v : Cond}, v ∈ fs_tb → v ∈ a :: fs_tb ∧ ((v.onTables && v.keeps) = true ∨ ∃ ty, v = .arrayClass ty) := fun h => ⟨List.mem_cons_of_mem _ h, fs_tb_g h⟩
  rcases List.mem_append.mp hw with h | h
  · rcases List.mem_cons.mp h with rfl | h
    · exact one h1
    · rcases List.mem_cons.mp h with rfl | h
      · exact one h2
      · rcases List.mem_cons.mp h with rfl | h
        · exact one h3
        · rw [List.mem_singleton.mp h]; exact one h4
  · exact fs_gin hb w h
theorem fs_gS {a b : Cond} {own : String} {idx : Nat} {y : MethodName} (h1 : Cond.methodLink own idx y ∈ fs_tb) (h2 : Cond.static y ∈ fs_tb) (h3 : Cond.initialized own ∈ fs_tb) (hb : b ∈ fs_tb) : GoodIn (a :: fs_tb) (wsS own idx y (b :: fs_tb)) := by
  intro w hw
  have one : ∀ {v : Cond}, v ∈ fs_tb → v ∈ a :: fs_tb ∧ ((v.onTables && v.keeps) = true ∨ ∃ ty, v = .arrayClass ty) := fun h => ⟨List.mem_cons_of_mem _ h, fs_tb_g h⟩
  rcases List.mem_append.mp hw with h | h
  · rcases List.mem_cons.mp h with rfl | h
    · exact one h1
    · rcases List.mem_cons.mp h with rfl | h
      · exact one h2
      · rw [List.mem_singleton.mp h]; exact one h3
  · exact fs_gin hb w h
def RP : String := "FrameSamples$Pauli"
def TP : u_T := fun k => match k with
  | 0 => ("FrameSamples$Pauli", "xs", "I", false)
  | 1 => ("FrameSamples$Pauli", "zs", "I", false)
  | 2 => ("FrameSamples$Pauli", "constant", "I", false)
  | _ => ("FrameSamples$Pauli", "randoms", "J", false)
def tyP : Nat → FieldType := fun k => match k with
  | 0 => .int
  | 1 => .int
  | 2 => .int
  | _ => .long
theorem nmP : ∀ a, a < 4 → ∀ b, b < 4 → a ≠ b → (TP a).2.1 ≠ (TP b).2.1 := by decide +kernel
theorem tkP : ∀ k, k < 4 → parseFieldDescriptor (TP k).2.2.1 = some (tyP k) := by decide +kernel
theorem inP : ∀ w ∈ u_ws RP TP 4, w ∈ fs_tb := by
  intro w hw
  obtain ⟨k, hk, rfl⟩ := List.mem_map.mp hw
  have hk := List.mem_range.mp hk
  rcases (show k = 0 ∨ k = 1 ∨ k = 2 ∨ k = 3 by omega) with rfl | rfl | rfl | rfl
  · exact fs_ti 44 (by decide +kernel) (by decide +kernel)
  · exact fs_ti 46 (by decide +kernel) (by decide +kernel)
  · exact fs_ti 48 (by decide +kernel) (by decide +kernel)
  · exact fs_ti 50 (by decide +kernel) (by decide +kernel)
def RT : String := "FrameSamples$Tableau"
def TT : u_T := fun k => match k with
  | 0 => ("FrameSamples$Tableau", "keepers", "[LFrameSamples$Pauli;", true)
  | 1 => ("FrameSamples$Tableau", "partners", "[LFrameSamples$Pauli;", true)
  | 2 => ("FrameSamples$Tableau", "product", "LFrameSamples$Pauli;", true)
  | _ => ("FrameSamples$Tableau", "wires", "I", false)
def tyT : Nat → FieldType := fun k => match k with
  | 0 => .array (.object "FrameSamples$Pauli")
  | 1 => .array (.object "FrameSamples$Pauli")
  | 2 => .object "FrameSamples$Pauli"
  | _ => .int
theorem nmT : ∀ a, a < 4 → ∀ b, b < 4 → a ≠ b → (TT a).2.1 ≠ (TT b).2.1 := by decide +kernel
theorem tkT : ∀ k, k < 4 → parseFieldDescriptor (TT k).2.2.1 = some (tyT k) := by decide +kernel
theorem inT : ∀ w ∈ u_ws RT TT 4, w ∈ fs_tb := by
  intro w hw
  obtain ⟨k, hk, rfl⟩ := List.mem_map.mp hw
  have hk := List.mem_range.mp hk
  rcases (show k = 0 ∨ k = 1 ∨ k = 2 ∨ k = 3 by omega) with rfl | rfl | rfl | rfl
  · exact fs_ti 57 (by decide +kernel) (by decide +kernel)
  · exact fs_ti 59 (by decide +kernel) (by decide +kernel)
  · exact fs_ti 61 (by decide +kernel) (by decide +kernel)
  · exact fs_ti 63 (by decide +kernel) (by decide +kernel)
def RF : String := "FrameSamples$Fault"
def TF : u_T := fun k => match k with
  | 0 => ("FrameSamples$Fault", "frame", "LFrameSamples$Pauli;", true)
  | 1 => ("FrameSamples$Fault", "odds", "I", false)
  | 2 => ("FrameSamples$Fault", "changedLooks", "J", false)
  | _ => ("FrameSamples$Fault", "changedChecks", "I", false)
def tyF : Nat → FieldType := fun k => match k with
  | 0 => .object "FrameSamples$Pauli"
  | 1 => .int
  | 2 => .long
  | _ => .int
theorem nmF : ∀ a, a < 4 → ∀ b, b < 4 → a ≠ b → (TF a).2.1 ≠ (TF b).2.1 := by decide +kernel
theorem tkF : ∀ k, k < 4 → parseFieldDescriptor (TF k).2.2.1 = some (tyF k) := by decide +kernel
theorem inF : ∀ w ∈ u_ws RF TF 4, w ∈ fs_tb := by
  intro w hw
  obtain ⟨k, hk, rfl⟩ := List.mem_map.mp hw
  have hk := List.mem_range.mp hk
  rcases (show k = 0 ∨ k = 1 ∨ k = 2 ∨ k = 3 by omega) with rfl | rfl | rfl | rfl
  · exact fs_ti 83 (by decide +kernel) (by decide +kernel)
  · exact fs_ti 85 (by decide +kernel) (by decide +kernel)
  · exact fs_ti 87 (by decide +kernel) (by decide +kernel)
  · exact fs_ti 89 (by decide +kernel) (by decide +kernel)
def RS : String := "FrameSamples"
def TS : u_T := fun k => match k with
  | 0 => ("FrameSamples", "tableau", "LFrameSamples$Tableau;", true)
  | 1 => ("FrameSamples", "lookConstants", "[I", true)
  | 2 => ("FrameSamples", "lookRandoms", "[J", true)
  | 3 => ("FrameSamples", "faultRows", "[LFrameSamples$Fault;", true)
  | 4 => ("FrameSamples", "checkConstants", "[I", true)
  | 5 => ("FrameSamples", "checkRandoms", "[J", true)
  | 6 => ("FrameSamples", "wireCount", "I", false)
  | 7 => ("FrameSamples", "actCount", "I", false)
  | 8 => ("FrameSamples", "lookCount", "I", false)
  | 9 => ("FrameSamples", "faultCount", "I", false)
  | _ => ("FrameSamples", "checkCount", "I", false)
def tyS : Nat → FieldType := fun k => match k with
  | 0 => .object "FrameSamples$Tableau"
  | 1 => .array (.int)
  | 2 => .array (.long)
  | 3 => .array (.object "FrameSamples$Fault")
  | 4 => .array (.int)
  | 5 => .array (.long)
  | 6 => .int
  | 7 => .int
  | 8 => .int
  | 9 => .int
  | _ => .int
theorem nmS : ∀ a, a < 11 → ∀ b, b < 11 → a ≠ b → (TS a).2.1 ≠ (TS b).2.1 := by decide +kernel
theorem tkS : ∀ k, k < 11 → parseFieldDescriptor (TS k).2.2.1 = some (tyS k) := by decide +kernel
theorem inS : ∀ w ∈ u_ws RS TS 11, w ∈ fs_tb := by
  intro w hw
  obtain ⟨k, hk, rfl⟩ := List.mem_map.mp hw
  have hk := List.mem_range.mp hk
  rcases (show k = 0 ∨ k = 1 ∨ k = 2 ∨ k = 3 ∨ k = 4 ∨ k = 5 ∨ k = 6 ∨ k = 7 ∨ k = 8 ∨ k = 9 ∨ k = 10 by omega) with rfl | rfl | rfl | rfl | rfl | rfl | rfl | rfl | rfl | rfl | rfl
  · exact fs_ti 120 (by decide +kernel) (by decide +kernel)
  · exact fs_ti 122 (by decide +kernel) (by decide +kernel)
  · exact fs_ti 124 (by decide +kernel) (by decide +kernel)
  · exact fs_ti 126 (by decide +kernel) (by decide +kernel)
  · exact fs_ti 128 (by decide +kernel) (by decide +kernel)
  · exact fs_ti 130 (by decide +kernel) (by decide +kernel)
  · exact fs_ti 132 (by decide +kernel) (by decide +kernel)
  · exact fs_ti 134 (by decide +kernel) (by decide +kernel)
  · exact fs_ti 136 (by decide +kernel) (by decide +kernel)
  · exact fs_ti 138 (by decide +kernel) (by decide +kernel)
  · exact fs_ti 140 (by decide +kernel) (by decide +kernel)
def RM : String := "FrameSamplesModel"
def TM : u_T := fun k => match k with
  | 0 => ("FrameSamplesModel", "thrown", "I", false)
  | 1 => ("FrameSamplesModel", "wires", "I", false)
  | 2 => ("FrameSamplesModel", "acts", "I", false)
  | 3 => ("FrameSamplesModel", "looks", "I", false)
  | 4 => ("FrameSamplesModel", "faults", "I", false)
  | 5 => ("FrameSamplesModel", "checks", "I", false)
  | 6 => ("FrameSamplesModel", "kind", "[I", true)
  | 7 => ("FrameSamplesModel", "one", "[I", true)
  | 8 => ("FrameSamplesModel", "other", "[I", true)
  | 9 => ("FrameSamplesModel", "faultAt", "[I", true)
  | 10 => ("FrameSamplesModel", "faultWhat", "[I", true)
  | 11 => ("FrameSamplesModel", "faultOdds", "[I", true)
  | 12 => ("FrameSamplesModel", "checkSet", "[J", true)
  | 13 => ("FrameSamplesModel", "xs", "[I", true)
  | 14 => ("FrameSamplesModel", "zs", "[I", true)
  | 15 => ("FrameSamplesModel", "sign", "[I", true)
  | 16 => ("FrameSamplesModel", "hangs", "[J", true)
  | 17 => ("FrameSamplesModel", "lookSign", "[I", true)
  | 18 => ("FrameSamplesModel", "lookHangs", "[J", true)
  | 19 => ("FrameSamplesModel", "isUsed", "[Z", true)
  | 20 => ("FrameSamplesModel", "madeX", "I", false)
  | 21 => ("FrameSamplesModel", "madeZ", "I", false)
  | 22 => ("FrameSamplesModel", "madeSign", "I", false)
  | 23 => ("FrameSamplesModel", "madeHangs", "J", false)
  | 24 => ("FrameSamplesModel", "goX", "I", false)
  | 25 => ("FrameSamplesModel", "goZ", "I", false)
  | 26 => ("FrameSamplesModel", "changed", "J", false)
  | 27 => ("FrameSamplesModel", "edges", "I", false)
  | 28 => ("FrameSamplesModel", "edgeChecks", "[I", true)
  | _ => ("FrameSamplesModel", "edgeFaults", "[J", true)
def tyM : Nat → FieldType := fun k => match k with
  | 0 => .int
  | 1 => .int
  | 2 => .int
  | 3 => .int
  | 4 => .int
  | 5 => .int
  | 6 => .array (.int)
  | 7 => .array (.int)
  | 8 => .array (.int)
  | 9 => .array (.int)
  | 10 => .array (.int)
  | 11 => .array (.int)
  | 12 => .array (.long)
  | 13 => .array (.int)
  | 14 => .array (.int)
  | 15 => .array (.int)
  | 16 => .array (.long)
  | 17 => .array (.int)
  | 18 => .array (.long)
  | 19 => .array (.boolean)
  | 20 => .int
  | 21 => .int
  | 22 => .int
  | 23 => .long
  | 24 => .int
  | 25 => .int
  | 26 => .long
  | 27 => .int
  | 28 => .array (.int)
  | _ => .array (.long)
theorem nmM : ∀ a, a < 30 → ∀ b, b < 30 → a ≠ b → (TM a).2.1 ≠ (TM b).2.1 := by decide +kernel
theorem tkM : ∀ k, k < 30 → parseFieldDescriptor (TM k).2.2.1 = some (tyM k) := by decide +kernel
theorem inM : ∀ w ∈ u_ws RM TM 30, w ∈ fs_tb := by
  intro w hw
  obtain ⟨k, hk, rfl⟩ := List.mem_map.mp hw
  have hk := List.mem_range.mp hk
  rcases (show k = 0 ∨ k = 1 ∨ k = 2 ∨ k = 3 ∨ k = 4 ∨ k = 5 ∨ k = 6 ∨ k = 7 ∨ k = 8 ∨ k = 9 ∨ k = 10 ∨ k = 11 ∨ k = 12 ∨ k = 13 ∨ k = 14 ∨ k = 15 ∨ k = 16 ∨ k = 17 ∨ k = 18 ∨ k = 19 ∨ k = 20 ∨ k = 21 ∨ k = 22 ∨ k = 23 ∨ k = 24 ∨ k = 25 ∨ k = 26 ∨ k = 27 ∨ k = 28 ∨ k = 29 by omega) with rfl | rfl | rfl | rfl | rfl | rfl | rfl | rfl | rfl | rfl | rfl | rfl | rfl | rfl | rfl | rfl | rfl | rfl | rfl | rfl | rfl | rfl | rfl | rfl | rfl | rfl | rfl | rfl | rfl | rfl
  · exact fs_ti 436 (by decide +kernel) (by decide +kernel)
  · exact fs_ti 438 (by decide +kernel) (by decide +kernel)
  · exact fs_ti 440 (by decide +kernel) (by decide +kernel)
  · exact fs_ti 442 (by decide +kernel) (by decide +kernel)
  · exact fs_ti 444 (by decide +kernel) (by decide +kernel)
  · exact fs_ti 446 (by decide +kernel) (by decide +kernel)
  · exact fs_ti 448 (by decide +kernel) (by decide +kernel)
  · exact fs_ti 450 (by decide +kernel) (by decide +kernel)
  · exact fs_ti 452 (by decide +kernel) (by decide +kernel)
  · exact fs_ti 454 (by decide +kernel) (by decide +kernel)
  · exact fs_ti 456 (by decide +kernel) (by decide +kernel)
  · exact fs_ti 458 (by decide +kernel) (by decide +kernel)
  · exact fs_ti 460 (by decide +kernel) (by decide +kernel)
  · exact fs_ti 462 (by decide +kernel) (by decide +kernel)
  · exact fs_ti 464 (by decide +kernel) (by decide +kernel)
  · exact fs_ti 466 (by decide +kernel) (by decide +kernel)
  · exact fs_ti 468 (by decide +kernel) (by decide +kernel)
  · exact fs_ti 470 (by decide +kernel) (by decide +kernel)
  · exact fs_ti 472 (by decide +kernel) (by decide +kernel)
  · exact fs_ti 474 (by decide +kernel) (by decide +kernel)
  · exact fs_ti 476 (by decide +kernel) (by decide +kernel)
  · exact fs_ti 478 (by decide +kernel) (by decide +kernel)
  · exact fs_ti 480 (by decide +kernel) (by decide +kernel)
  · exact fs_ti 482 (by decide +kernel) (by decide +kernel)
  · exact fs_ti 484 (by decide +kernel) (by decide +kernel)
  · exact fs_ti 486 (by decide +kernel) (by decide +kernel)
  · exact fs_ti 488 (by decide +kernel) (by decide +kernel)
  · exact fs_ti 490 (by decide +kernel) (by decide +kernel)
  · exact fs_ti 492 (by decide +kernel) (by decide +kernel)
  · exact fs_ti 494 (by decide +kernel) (by decide +kernel)
abbrev fs_cl5 : List vw_C := [(RP, TP, 4), (RT, TT, 4), (RF, TF, 4), (RS, TS, 11), (RM, TM, 30)]
def RL : String := "FrameSamplesLaw"
theorem ini_P : Cond.initialized "FrameSamples$Pauli" ∈ fs_tb := fs_ti 3 (by decide +kernel) (by decide +kernel)
theorem ini_T : Cond.initialized "FrameSamples$Tableau" ∈ fs_tb := fs_ti 2 (by decide +kernel) (by decide +kernel)
theorem ini_F : Cond.initialized "FrameSamples$Fault" ∈ fs_tb := fs_ti 4 (by decide +kernel) (by decide +kernel)
theorem ini_S : Cond.initialized "FrameSamples" ∈ fs_tb := fs_ti 1 (by decide +kernel) (by decide +kernel)
theorem ini_M : Cond.initialized "FrameSamplesModel" ∈ fs_tb := fs_ti 6 (by decide +kernel) (by decide +kernel)
theorem ini_L : Cond.initialized "FrameSamplesLaw" ∈ fs_tb := fs_ti 0 (by decide +kernel) (by decide +kernel)
theorem ini_JI : Cond.initialized "java/lang/Integer" ∈ fs_tb := fs_ti 7 (by decide +kernel) (by decide +kernel)
theorem ini_JL : Cond.initialized "java/lang/Long" ∈ fs_tb := fs_ti 8 (by decide +kernel) (by decide +kernel)
theorem ini_JM : Cond.initialized "java/lang/Math" ∈ fs_tb := fs_ti 5 (by decide +kernel) (by decide +kernel)
theorem ist_P : Cond.instantiable "FrameSamples$Pauli" 4 ∈ fs_tb := fs_ti 29 (by decide +kernel) (by decide +kernel)
theorem ist_T : Cond.instantiable "FrameSamples$Tableau" 4 ∈ fs_tb := fs_ti 22 (by decide +kernel) (by decide +kernel)
theorem ist_F : Cond.instantiable "FrameSamples$Fault" 4 ∈ fs_tb := fs_ti 68 (by decide +kernel) (by decide +kernel)
theorem ist_S : Cond.instantiable "FrameSamples" 11 ∈ fs_tb := fs_ti 14 (by decide +kernel) (by decide +kernel)
theorem ist_M : Cond.instantiable "FrameSamplesModel" 30 ∈ fs_tb := fs_ti 397 (by decide +kernel) (by decide +kernel)
def fs_nw : List Cond := [.arrayOver (.object "FrameSamples$Pauli"), .methodLinkNest "FrameSamples$Tableau" 20 ⟨"FrameSamples$Pauli", "<init>", "()V"⟩ "FrameSamples", .fieldLinkNest "FrameSamples$Fault" 40 "FrameSamples$Pauli" "xs" "I" "FrameSamples", .fieldLinkNest "FrameSamples$Fault" 37 "FrameSamples$Pauli" "zs" "I" "FrameSamples", .fieldLinkNest "FrameSamples" 73 "FrameSamples$Pauli" "constant" "I" "FrameSamples", .fieldLinkNest "FrameSamples$Tableau" 69 "FrameSamples$Pauli" "constant" "I" "FrameSamples", .fieldLinkNest "FrameSamples" 76 "FrameSamples$Pauli" "randoms" "J" "FrameSamples", .fieldLinkNest "FrameSamples$Tableau" 62 "FrameSamples$Pauli" "randoms" "J" "FrameSamples", .arrayOver (.object "FrameSamples$Fault"), .methodLinkNest "FrameSamples$Fault" 11 ⟨"FrameSamples$Pauli", "<init>", "()V"⟩ "FrameSamples", .fieldLinkNest "FrameSamples" 59 "FrameSamples$Fault" "frame" "LFrameSamples$Pauli;" "FrameSamples", .fieldLinkNest "FrameSamples" 153 "FrameSamples$Fault" "odds" "I" "FrameSamples", .fieldLinkNest "FrameSamples" 104 "FrameSamples$Fault" "changedLooks" "J" "FrameSamples", .fieldLinkNest "FrameSamples" 107 "FrameSamples$Fault" "changedChecks" "I" "FrameSamples", .methodLinkNest "FrameSamples$Fault" 43 ⟨"FrameSamples", "parity", "(J)I"⟩ "FrameSamples"]
end
section
-- the links of each instruction, as words of the tables
theorem kl_L_8 : Cond.classLink "FrameSamplesLaw" 8 "FrameSamples" ∈ fs_tb := fs_ti 13 (by decide +kernel) (by decide +kernel)
theorem ml_L_15 : Cond.methodLink "FrameSamplesLaw" 15 ⟨"FrameSamples", "<init>", "()V"⟩ ∈ fs_tb := fs_ti 15 (by decide +kernel) (by decide +kernel)
theorem ml_S_1 : Cond.methodLink "FrameSamples" 1 ⟨"java/lang/Object", "<init>", "()V"⟩ ∈ fs_tb := fs_ti 18 (by decide +kernel) (by decide +kernel)
theorem kl_S_7 : Cond.classLink "FrameSamples" 7 "FrameSamples$Tableau" ∈ fs_tb := fs_ti 21 (by decide +kernel) (by decide +kernel)
theorem ml_S_9 : Cond.methodLink "FrameSamples" 9 ⟨"FrameSamples$Tableau", "<init>", "()V"⟩ ∈ fs_tb := fs_ti 23 (by decide +kernel) (by decide +kernel)
theorem ml_T_3 : Cond.methodLink "FrameSamples$Tableau" 3 ⟨"java/lang/Object", "<init>", "()V"⟩ ∈ fs_tb := fs_ti 26 (by decide +kernel) (by decide +kernel)
theorem kl_T_9 : Cond.classLink "FrameSamples$Tableau" 9 "FrameSamples$Pauli" ∈ fs_tb := fs_ti 27 (by decide +kernel) (by decide +kernel)
theorem ml_P_3 : Cond.methodLink "FrameSamples$Pauli" 3 ⟨"java/lang/Object", "<init>", "()V"⟩ ∈ fs_tb := fs_ti 33 (by decide +kernel) (by decide +kernel)
theorem fl_P_9 : Cond.fieldLink "FrameSamples$Pauli" 9 "FrameSamples$Pauli" "xs" "I" ∈ fs_tb := fs_ti 34 (by decide +kernel) (by decide +kernel)
theorem fl_P_15 : Cond.fieldLink "FrameSamples$Pauli" 15 "FrameSamples$Pauli" "zs" "I" ∈ fs_tb := fs_ti 36 (by decide +kernel) (by decide +kernel)
theorem fl_P_18 : Cond.fieldLink "FrameSamples$Pauli" 18 "FrameSamples$Pauli" "constant" "I" ∈ fs_tb := fs_ti 38 (by decide +kernel) (by decide +kernel)
theorem fl_P_21 : Cond.fieldLink "FrameSamples$Pauli" 21 "FrameSamples$Pauli" "randoms" "J" ∈ fs_tb := fs_ti 41 (by decide +kernel) (by decide +kernel)
theorem fl_T_11 : Cond.fieldLink "FrameSamples$Tableau" 11 "FrameSamples$Tableau" "keepers" "[LFrameSamples$Pauli;" ∈ fs_tb := fs_ti 53 (by decide +kernel) (by decide +kernel)
theorem fl_T_17 : Cond.fieldLink "FrameSamples$Tableau" 17 "FrameSamples$Tableau" "partners" "[LFrameSamples$Pauli;" ∈ fs_tb := fs_ti 54 (by decide +kernel) (by decide +kernel)
theorem fl_T_21 : Cond.fieldLink "FrameSamples$Tableau" 21 "FrameSamples$Tableau" "product" "LFrameSamples$Pauli;" ∈ fs_tb := fs_ti 55 (by decide +kernel) (by decide +kernel)
theorem fl_T_31 : Cond.fieldLink "FrameSamples$Tableau" 31 "FrameSamples$Tableau" "wires" "I" ∈ fs_tb := fs_ti 56 (by decide +kernel) (by decide +kernel)
theorem kl_S_24 : Cond.classLink "FrameSamples" 24 "FrameSamples$Fault" ∈ fs_tb := fs_ti 66 (by decide +kernel) (by decide +kernel)
theorem ml_S_30 : Cond.methodLink "FrameSamples" 30 ⟨"FrameSamples$Fault", "<init>", "()V"⟩ ∈ fs_tb := fs_ti 69 (by decide +kernel) (by decide +kernel)
theorem ml_F_3 : Cond.methodLink "FrameSamples$Fault" 3 ⟨"java/lang/Object", "<init>", "()V"⟩ ∈ fs_tb := fs_ti 72 (by decide +kernel) (by decide +kernel)
theorem kl_F_9 : Cond.classLink "FrameSamples$Fault" 9 "FrameSamples$Pauli" ∈ fs_tb := fs_ti 73 (by decide +kernel) (by decide +kernel)
theorem fl_F_12 : Cond.fieldLink "FrameSamples$Fault" 12 "FrameSamples$Fault" "frame" "LFrameSamples$Pauli;" ∈ fs_tb := fs_ti 75 (by decide +kernel) (by decide +kernel)
theorem fl_F_22 : Cond.fieldLink "FrameSamples$Fault" 22 "FrameSamples$Fault" "odds" "I" ∈ fs_tb := fs_ti 77 (by decide +kernel) (by decide +kernel)
theorem fl_F_26 : Cond.fieldLink "FrameSamples$Fault" 26 "FrameSamples$Fault" "changedLooks" "J" ∈ fs_tb := fs_ti 79 (by decide +kernel) (by decide +kernel)
theorem fl_F_30 : Cond.fieldLink "FrameSamples$Fault" 30 "FrameSamples$Fault" "changedChecks" "I" ∈ fs_tb := fs_ti 81 (by decide +kernel) (by decide +kernel)
theorem ac_int : Cond.arrayClass .int ∈ fs_tb := fs_ti 92 (by decide +kernel) (by decide +kernel)
theorem ac_long : Cond.arrayClass .long ∈ fs_tb := fs_ti 93 (by decide +kernel) (by decide +kernel)
theorem ml_S_37 : Cond.methodLink "FrameSamples" 37 ⟨"FrameSamples", "startOver", "(I)V"⟩ ∈ fs_tb := fs_ti 94 (by decide +kernel) (by decide +kernel)
theorem ml_S_136 : Cond.methodLink "FrameSamples" 136 ⟨"FrameSamples$Tableau", "start", "(I)V"⟩ ∈ fs_tb := fs_ti 98 (by decide +kernel) (by decide +kernel)
theorem ml_T_25 : Cond.methodLink "FrameSamples$Tableau" 25 ⟨"java/lang/Math", "min", "(II)I"⟩ ∈ fs_tb := fs_ti 102 (by decide +kernel) (by decide +kernel)
theorem ml_T_35 : Cond.methodLink "FrameSamples$Tableau" 35 ⟨"FrameSamples$Pauli", "become", "(II)V"⟩ ∈ fs_tb := fs_ti 105 (by decide +kernel) (by decide +kernel)
theorem fl_S_10 : Cond.fieldLink "FrameSamples" 10 "FrameSamples" "tableau" "LFrameSamples$Tableau;" ∈ fs_tb := fs_ti 109 (by decide +kernel) (by decide +kernel)
theorem fl_S_16 : Cond.fieldLink "FrameSamples" 16 "FrameSamples" "lookConstants" "[I" ∈ fs_tb := fs_ti 110 (by decide +kernel) (by decide +kernel)
theorem fl_S_20 : Cond.fieldLink "FrameSamples" 20 "FrameSamples" "lookRandoms" "[J" ∈ fs_tb := fs_ti 111 (by decide +kernel) (by decide +kernel)
theorem fl_S_26 : Cond.fieldLink "FrameSamples" 26 "FrameSamples" "faultRows" "[LFrameSamples$Fault;" ∈ fs_tb := fs_ti 112 (by decide +kernel) (by decide +kernel)
theorem fl_S_31 : Cond.fieldLink "FrameSamples" 31 "FrameSamples" "checkConstants" "[I" ∈ fs_tb := fs_ti 113 (by decide +kernel) (by decide +kernel)
theorem fl_S_34 : Cond.fieldLink "FrameSamples" 34 "FrameSamples" "checkRandoms" "[J" ∈ fs_tb := fs_ti 114 (by decide +kernel) (by decide +kernel)
theorem fl_S_129 : Cond.fieldLink "FrameSamples" 129 "FrameSamples" "wireCount" "I" ∈ fs_tb := fs_ti 115 (by decide +kernel) (by decide +kernel)
theorem fl_S_45 : Cond.fieldLink "FrameSamples" 45 "FrameSamples" "actCount" "I" ∈ fs_tb := fs_ti 116 (by decide +kernel) (by decide +kernel)
theorem fl_S_66 : Cond.fieldLink "FrameSamples" 66 "FrameSamples" "lookCount" "I" ∈ fs_tb := fs_ti 117 (by decide +kernel) (by decide +kernel)
theorem fl_S_56 : Cond.fieldLink "FrameSamples" 56 "FrameSamples" "faultCount" "I" ∈ fs_tb := fs_ti 118 (by decide +kernel) (by decide +kernel)
theorem fl_S_91 : Cond.fieldLink "FrameSamples" 91 "FrameSamples" "checkCount" "I" ∈ fs_tb := fs_ti 119 (by decide +kernel) (by decide +kernel)
theorem ml_L_19 : Cond.methodLink "FrameSamplesLaw" 19 ⟨"FrameSamples", "begin", "(I)Z"⟩ ∈ fs_tb := fs_ti 143 (by decide +kernel) (by decide +kernel)
theorem ml_L_24 : Cond.methodLink "FrameSamplesLaw" 24 ⟨"FrameSamples", "gate", "(III)Z"⟩ ∈ fs_tb := fs_ti 147 (by decide +kernel) (by decide +kernel)
theorem ml_S_41 : Cond.methodLink "FrameSamples" 41 ⟨"FrameSamples", "isWire", "(I)Z"⟩ ∈ fs_tb := fs_ti 151 (by decide +kernel) (by decide +kernel)
theorem ml_S_49 : Cond.methodLink "FrameSamples" 49 ⟨"FrameSamples", "hasTwoWires", "(I)Z"⟩ ∈ fs_tb := fs_ti 155 (by decide +kernel) (by decide +kernel)
theorem ml_S_52 : Cond.methodLink "FrameSamples" 52 ⟨"FrameSamples$Tableau", "pass", "(III)V"⟩ ∈ fs_tb := fs_ti 158 (by decide +kernel) (by decide +kernel)
theorem ml_T_39 : Cond.methodLink "FrameSamples$Tableau" 39 ⟨"FrameSamples$Pauli", "pass", "(III)V"⟩ ∈ fs_tb := fs_ti 162 (by decide +kernel) (by decide +kernel)
theorem ml_P_25 : Cond.methodLink "FrameSamples$Pauli" 25 ⟨"FrameSamples$Pauli", "passH", "(I)V"⟩ ∈ fs_tb := fs_ti 166 (by decide +kernel) (by decide +kernel)
theorem ml_P_44 : Cond.methodLink "FrameSamples$Pauli" 44 ⟨"FrameSamples$Pauli", "xOn", "(I)I"⟩ ∈ fs_tb := fs_ti 170 (by decide +kernel) (by decide +kernel)
theorem ml_P_40 : Cond.methodLink "FrameSamples$Pauli" 40 ⟨"FrameSamples$Pauli", "zOn", "(I)I"⟩ ∈ fs_tb := fs_ti 174 (by decide +kernel) (by decide +kernel)
theorem ml_P_29 : Cond.methodLink "FrameSamples$Pauli" 29 ⟨"FrameSamples$Pauli", "passS", "(I)V"⟩ ∈ fs_tb := fs_ti 178 (by decide +kernel) (by decide +kernel)
theorem ml_P_32 : Cond.methodLink "FrameSamples$Pauli" 32 ⟨"FrameSamples$Pauli", "passControlledX", "(II)V"⟩ ∈ fs_tb := fs_ti 182 (by decide +kernel) (by decide +kernel)
theorem ml_P_36 : Cond.methodLink "FrameSamples$Pauli" 36 ⟨"FrameSamples$Pauli", "swapBits", "(III)I"⟩ ∈ fs_tb := fs_ti 186 (by decide +kernel) (by decide +kernel)
theorem ml_S_63 : Cond.methodLink "FrameSamples" 63 ⟨"FrameSamples$Pauli", "pass", "(III)V"⟩ ∈ fs_tb := fs_ti 189 (by decide +kernel) (by decide +kernel)
theorem ml_L_29 : Cond.methodLink "FrameSamplesLaw" 29 ⟨"FrameSamples", "look", "(IZ)I"⟩ ∈ fs_tb := fs_ti 190 (by decide +kernel) (by decide +kernel)
theorem ml_S_69 : Cond.methodLink "FrameSamples" 69 ⟨"FrameSamples$Tableau", "measure", "(II)LFrameSamples$Pauli;"⟩ ∈ fs_tb := fs_ti 194 (by decide +kernel) (by decide +kernel)
theorem ml_T_43 : Cond.methodLink "FrameSamples$Tableau" 43 ⟨"FrameSamples$Pauli", "xOn", "(I)I"⟩ ∈ fs_tb := fs_ti 198 (by decide +kernel) (by decide +kernel)
theorem ml_T_47 : Cond.methodLink "FrameSamples$Tableau" 47 ⟨"FrameSamples$Tableau", "collapse", "(III)LFrameSamples$Pauli;"⟩ ∈ fs_tb := fs_ti 199 (by decide +kernel) (by decide +kernel)
theorem ml_T_55 : Cond.methodLink "FrameSamples$Tableau" 55 ⟨"FrameSamples$Pauli", "multiplyBy", "(LFrameSamples$Pauli;)V"⟩ ∈ fs_tb := fs_ti 203 (by decide +kernel) (by decide +kernel)
theorem ml_P_47 : Cond.methodLink "FrameSamples$Pauli" 47 ⟨"java/lang/Integer", "bitCount", "(I)I"⟩ ∈ fs_tb := fs_ti 207 (by decide +kernel) (by decide +kernel)
theorem cn_JI_265 : Cond.constant "java/lang/Integer" 265 1431655765 ∈ fs_tb := fs_ti 210 (by decide +kernel) (by decide +kernel)
theorem cn_JI_266 : Cond.constant "java/lang/Integer" 266 858993459 ∈ fs_tb := fs_ti 211 (by decide +kernel) (by decide +kernel)
theorem cn_JI_267 : Cond.constant "java/lang/Integer" 267 252645135 ∈ fs_tb := fs_ti 212 (by decide +kernel) (by decide +kernel)
theorem ml_T_59 : Cond.methodLink "FrameSamples$Tableau" 59 ⟨"FrameSamples$Pauli", "copyFrom", "(LFrameSamples$Pauli;)V"⟩ ∈ fs_tb := fs_ti 213 (by decide +kernel) (by decide +kernel)
theorem ml_T_51 : Cond.methodLink "FrameSamples$Tableau" 51 ⟨"FrameSamples$Tableau", "zFromKeepers", "(I)LFrameSamples$Pauli;"⟩ ∈ fs_tb := fs_ti 217 (by decide +kernel) (by decide +kernel)
theorem ml_S_80 : Cond.methodLink "FrameSamples" 80 ⟨"FrameSamples$Tableau", "flipIfTold", "(IIJ)V"⟩ ∈ fs_tb := fs_ti 221 (by decide +kernel) (by decide +kernel)
theorem ml_T_66 : Cond.methodLink "FrameSamples$Tableau" 66 ⟨"FrameSamples$Pauli", "zOn", "(I)I"⟩ ∈ fs_tb := fs_ti 225 (by decide +kernel) (by decide +kernel)
theorem ml_S_84 : Cond.methodLink "FrameSamples" 84 ⟨"FrameSamples$Fault", "meetLook", "(IIZ)V"⟩ ∈ fs_tb := fs_ti 226 (by decide +kernel) (by decide +kernel)
theorem ml_F_33 : Cond.methodLink "FrameSamples$Fault" 33 ⟨"FrameSamples$Pauli", "xOn", "(I)I"⟩ ∈ fs_tb := fs_ti 230 (by decide +kernel) (by decide +kernel)
theorem ml_L_34 : Cond.methodLink "FrameSamplesLaw" 34 ⟨"FrameSamples", "fault", "(III)I"⟩ ∈ fs_tb := fs_ti 231 (by decide +kernel) (by decide +kernel)
theorem ml_S_88 : Cond.methodLink "FrameSamples" 88 ⟨"FrameSamples$Fault", "start", "(III)V"⟩ ∈ fs_tb := fs_ti 235 (by decide +kernel) (by decide +kernel)
theorem ml_F_18 : Cond.methodLink "FrameSamples$Fault" 18 ⟨"FrameSamples$Pauli", "become", "(II)V"⟩ ∈ fs_tb := fs_ti 239 (by decide +kernel) (by decide +kernel)
theorem ml_L_41 : Cond.methodLink "FrameSamplesLaw" 41 ⟨"FrameSamples", "check", "(J)I"⟩ ∈ fs_tb := fs_ti 240 (by decide +kernel) (by decide +kernel)
theorem ml_S_94 : Cond.methodLink "FrameSamples" 94 ⟨"FrameSamples", "has", "(JI)Z"⟩ ∈ fs_tb := fs_ti 244 (by decide +kernel) (by decide +kernel)
theorem ml_S_98 : Cond.methodLink "FrameSamples" 98 ⟨"FrameSamples$Fault", "meetCheck", "(IJ)V"⟩ ∈ fs_tb := fs_ti 247 (by decide +kernel) (by decide +kernel)
theorem ml_S_138 : Cond.methodLink "FrameSamples" 138 ⟨"java/lang/Long", "bitCount", "(J)I"⟩ ∈ fs_tb := fs_ti 254 (by decide +kernel) (by decide +kernel)
theorem cn_JL_314 : Cond.constantLong "java/lang/Long" 314 6148914691236517205 ∈ fs_tb := fs_ti 257 (by decide +kernel) (by decide +kernel)
theorem cn_JL_316 : Cond.constantLong "java/lang/Long" 316 3689348814741910323 ∈ fs_tb := fs_ti 258 (by decide +kernel) (by decide +kernel)
theorem cn_JL_318 : Cond.constantLong "java/lang/Long" 318 1085102592571150095 ∈ fs_tb := fs_ti 259 (by decide +kernel) (by decide +kernel)
theorem ml_L_46 : Cond.methodLink "FrameSamplesLaw" 46 ⟨"FrameSamples", "outcome", "(II)J"⟩ ∈ fs_tb := fs_ti 260 (by decide +kernel) (by decide +kernel)
theorem cn_S_102 : Cond.constantLong "FrameSamples" 102 (-1) ∈ fs_tb := fs_ti 264 (by decide +kernel) (by decide +kernel)
theorem ml_L_50 : Cond.methodLink "FrameSamplesLaw" 50 ⟨"FrameSamples", "told", "(II)J"⟩ ∈ fs_tb := fs_ti 265 (by decide +kernel) (by decide +kernel)
theorem ml_L_54 : Cond.methodLink "FrameSamplesLaw" 54 ⟨"FrameSamples", "changes", "(II)J"⟩ ∈ fs_tb := fs_ti 269 (by decide +kernel) (by decide +kernel)
theorem ml_L_68 : Cond.methodLink "FrameSamplesLaw" 68 ⟨"FrameSamples", "run", "(JJ)J"⟩ ∈ fs_tb := fs_ti 273 (by decide +kernel) (by decide +kernel)
theorem ml_S_125 : Cond.methodLink "FrameSamples" 125 ⟨"FrameSamples", "parity", "(J)I"⟩ ∈ fs_tb := fs_ti 277 (by decide +kernel) (by decide +kernel)
theorem ml_L_73 : Cond.methodLink "FrameSamplesLaw" 73 ⟨"FrameSamples", "total", "(I)I"⟩ ∈ fs_tb := fs_ti 278 (by decide +kernel) (by decide +kernel)
theorem ml_S_132 : Cond.methodLink "FrameSamples" 132 ⟨"FrameSamples", "countEdges", "()I"⟩ ∈ fs_tb := fs_ti 282 (by decide +kernel) (by decide +kernel)
theorem ml_S_143 : Cond.methodLink "FrameSamples" 143 ⟨"FrameSamples", "isFirstOfEdge", "(I)Z"⟩ ∈ fs_tb := fs_ti 286 (by decide +kernel) (by decide +kernel)
theorem ml_L_58 : Cond.methodLink "FrameSamplesLaw" 58 ⟨"FrameSamplesLaw", "edge", "(LFrameSamples;II[J)I"⟩ ∈ fs_tb := fs_ti 290 (by decide +kernel) (by decide +kernel)
theorem kl_L_13 : Cond.classLink "FrameSamplesLaw" 13 "java/lang/ArithmeticException" ∈ fs_tb := fs_ti 293 (by decide +kernel) (by decide +kernel)
theorem ml_L_7 : Cond.methodLink "FrameSamplesLaw" 7 ⟨"FrameSamples", "edge", "(II)J"⟩ ∈ fs_tb := fs_ti 294 (by decide +kernel) (by decide +kernel)
theorem ml_S_110 : Cond.methodLink "FrameSamples" 110 ⟨"FrameSamples", "firstFaultOfEdge", "(I)I"⟩ ∈ fs_tb := fs_ti 298 (by decide +kernel) (by decide +kernel)
theorem ml_S_114 : Cond.methodLink "FrameSamples" 114 ⟨"FrameSamples", "faultsLike", "(I)J"⟩ ∈ fs_tb := fs_ti 302 (by decide +kernel) (by decide +kernel)
theorem ml_S_118 : Cond.methodLink "FrameSamples" 118 ⟨"FrameSamples", "oddsNumerator", "(J)J"⟩ ∈ fs_tb := fs_ti 306 (by decide +kernel) (by decide +kernel)
theorem ml_S_158 : Cond.methodLink "FrameSamples" 158 ⟨"FrameSamples", "oddCases", "(J)J"⟩ ∈ fs_tb := fs_ti 310 (by decide +kernel) (by decide +kernel)
theorem kl_S_146 : Cond.classLink "FrameSamples" 146 "java/lang/ArithmeticException" ∈ fs_tb := fs_ti 314 (by decide +kernel) (by decide +kernel)
theorem ml_S_150 : Cond.methodLink "FrameSamples" 150 ⟨"java/lang/ArithmeticException", "<init>", "(Ljava/lang/String;)V"⟩ ∈ fs_tb := fs_ti 354 (by decide +kernel) (by decide +kernel)
theorem ac_byte : Cond.arrayClass .byte ∈ fs_tb := fs_ti 379 (by decide +kernel) (by decide +kernel)
theorem cn_S_156 : Cond.constantLong "FrameSamples" 156 16 ∈ fs_tb := fs_ti 380 (by decide +kernel) (by decide +kernel)
theorem ml_S_161 : Cond.methodLink "FrameSamples" 161 ⟨"FrameSamples", "sharedTwos", "(JJ)I"⟩ ∈ fs_tb := fs_ti 381 (by decide +kernel) (by decide +kernel)
theorem ml_S_165 : Cond.methodLink "FrameSamples" 165 ⟨"java/lang/Long", "numberOfTrailingZeros", "(J)I"⟩ ∈ fs_tb := fs_ti 384 (by decide +kernel) (by decide +kernel)
theorem ml_JL_311 : Cond.methodLink "java/lang/Long" 311 ⟨"java/lang/Integer", "numberOfTrailingZeros", "(I)I"⟩ ∈ fs_tb := fs_ti 387 (by decide +kernel) (by decide +kernel)
theorem cn_JI_264 : Cond.constant "java/lang/Integer" 264 65536 ∈ fs_tb := fs_ti 390 (by decide +kernel) (by decide +kernel)
theorem ml_S_168 : Cond.methodLink "FrameSamples" 168 ⟨"java/lang/Math", "min", "(II)I"⟩ ∈ fs_tb := fs_ti 391 (by decide +kernel) (by decide +kernel)
theorem ml_S_122 : Cond.methodLink "FrameSamples" 122 ⟨"FrameSamples", "oddsExponent", "(J)J"⟩ ∈ fs_tb := fs_ti 392 (by decide +kernel) (by decide +kernel)
theorem kl_L_16 : Cond.classLink "FrameSamplesLaw" 16 "FrameSamplesModel" ∈ fs_tb := fs_ti 396 (by decide +kernel) (by decide +kernel)
theorem ml_L_18 : Cond.methodLink "FrameSamplesLaw" 18 ⟨"FrameSamplesModel", "<init>", "()V"⟩ ∈ fs_tb := fs_ti 398 (by decide +kernel) (by decide +kernel)
theorem ml_M_1 : Cond.methodLink "FrameSamplesModel" 1 ⟨"java/lang/Object", "<init>", "()V"⟩ ∈ fs_tb := fs_ti 401 (by decide +kernel) (by decide +kernel)
theorem ml_M_60 : Cond.methodLink "FrameSamplesModel" 60 ⟨"FrameSamplesModel", "start", "(I)V"⟩ ∈ fs_tb := fs_ti 402 (by decide +kernel) (by decide +kernel)
theorem fl_M_64 : Cond.fieldLink "FrameSamplesModel" 64 "FrameSamplesModel" "thrown" "I" ∈ fs_tb := fs_ti 406 (by decide +kernel) (by decide +kernel)
theorem fl_M_68 : Cond.fieldLink "FrameSamplesModel" 68 "FrameSamplesModel" "wires" "I" ∈ fs_tb := fs_ti 407 (by decide +kernel) (by decide +kernel)
theorem fl_M_71 : Cond.fieldLink "FrameSamplesModel" 71 "FrameSamplesModel" "acts" "I" ∈ fs_tb := fs_ti 408 (by decide +kernel) (by decide +kernel)
theorem fl_M_74 : Cond.fieldLink "FrameSamplesModel" 74 "FrameSamplesModel" "looks" "I" ∈ fs_tb := fs_ti 409 (by decide +kernel) (by decide +kernel)
theorem fl_M_77 : Cond.fieldLink "FrameSamplesModel" 77 "FrameSamplesModel" "faults" "I" ∈ fs_tb := fs_ti 410 (by decide +kernel) (by decide +kernel)
theorem fl_M_80 : Cond.fieldLink "FrameSamplesModel" 80 "FrameSamplesModel" "checks" "I" ∈ fs_tb := fs_ti 411 (by decide +kernel) (by decide +kernel)
theorem fl_M_7 : Cond.fieldLink "FrameSamplesModel" 7 "FrameSamplesModel" "kind" "[I" ∈ fs_tb := fs_ti 412 (by decide +kernel) (by decide +kernel)
theorem fl_M_13 : Cond.fieldLink "FrameSamplesModel" 13 "FrameSamplesModel" "one" "[I" ∈ fs_tb := fs_ti 413 (by decide +kernel) (by decide +kernel)
theorem fl_M_16 : Cond.fieldLink "FrameSamplesModel" 16 "FrameSamplesModel" "other" "[I" ∈ fs_tb := fs_ti 414 (by decide +kernel) (by decide +kernel)
theorem fl_M_19 : Cond.fieldLink "FrameSamplesModel" 19 "FrameSamplesModel" "faultAt" "[I" ∈ fs_tb := fs_ti 415 (by decide +kernel) (by decide +kernel)
theorem fl_M_22 : Cond.fieldLink "FrameSamplesModel" 22 "FrameSamplesModel" "faultWhat" "[I" ∈ fs_tb := fs_ti 416 (by decide +kernel) (by decide +kernel)
theorem fl_M_25 : Cond.fieldLink "FrameSamplesModel" 25 "FrameSamplesModel" "faultOdds" "[I" ∈ fs_tb := fs_ti 417 (by decide +kernel) (by decide +kernel)
theorem fl_M_28 : Cond.fieldLink "FrameSamplesModel" 28 "FrameSamplesModel" "checkSet" "[J" ∈ fs_tb := fs_ti 418 (by decide +kernel) (by decide +kernel)
theorem fl_M_32 : Cond.fieldLink "FrameSamplesModel" 32 "FrameSamplesModel" "xs" "[I" ∈ fs_tb := fs_ti 419 (by decide +kernel) (by decide +kernel)
theorem fl_M_35 : Cond.fieldLink "FrameSamplesModel" 35 "FrameSamplesModel" "zs" "[I" ∈ fs_tb := fs_ti 420 (by decide +kernel) (by decide +kernel)
theorem fl_M_38 : Cond.fieldLink "FrameSamplesModel" 38 "FrameSamplesModel" "sign" "[I" ∈ fs_tb := fs_ti 421 (by decide +kernel) (by decide +kernel)
theorem fl_M_41 : Cond.fieldLink "FrameSamplesModel" 41 "FrameSamplesModel" "hangs" "[J" ∈ fs_tb := fs_ti 422 (by decide +kernel) (by decide +kernel)
theorem fl_M_44 : Cond.fieldLink "FrameSamplesModel" 44 "FrameSamplesModel" "lookSign" "[I" ∈ fs_tb := fs_ti 423 (by decide +kernel) (by decide +kernel)
theorem fl_M_47 : Cond.fieldLink "FrameSamplesModel" 47 "FrameSamplesModel" "lookHangs" "[J" ∈ fs_tb := fs_ti 424 (by decide +kernel) (by decide +kernel)
theorem fl_M_50 : Cond.fieldLink "FrameSamplesModel" 50 "FrameSamplesModel" "isUsed" "[Z" ∈ fs_tb := fs_ti 425 (by decide +kernel) (by decide +kernel)
theorem fl_M_119 : Cond.fieldLink "FrameSamplesModel" 119 "FrameSamplesModel" "madeX" "I" ∈ fs_tb := fs_ti 426 (by decide +kernel) (by decide +kernel)
theorem fl_M_122 : Cond.fieldLink "FrameSamplesModel" 122 "FrameSamplesModel" "madeZ" "I" ∈ fs_tb := fs_ti 427 (by decide +kernel) (by decide +kernel)
theorem fl_M_116 : Cond.fieldLink "FrameSamplesModel" 116 "FrameSamplesModel" "madeSign" "I" ∈ fs_tb := fs_ti 428 (by decide +kernel) (by decide +kernel)
theorem fl_M_125 : Cond.fieldLink "FrameSamplesModel" 125 "FrameSamplesModel" "madeHangs" "J" ∈ fs_tb := fs_ti 429 (by decide +kernel) (by decide +kernel)
theorem fl_M_150 : Cond.fieldLink "FrameSamplesModel" 150 "FrameSamplesModel" "goX" "I" ∈ fs_tb := fs_ti 430 (by decide +kernel) (by decide +kernel)
theorem fl_M_153 : Cond.fieldLink "FrameSamplesModel" 153 "FrameSamplesModel" "goZ" "I" ∈ fs_tb := fs_ti 431 (by decide +kernel) (by decide +kernel)
theorem fl_M_156 : Cond.fieldLink "FrameSamplesModel" 156 "FrameSamplesModel" "changed" "J" ∈ fs_tb := fs_ti 432 (by decide +kernel) (by decide +kernel)
theorem fl_M_173 : Cond.fieldLink "FrameSamplesModel" 173 "FrameSamplesModel" "edges" "I" ∈ fs_tb := fs_ti 433 (by decide +kernel) (by decide +kernel)
theorem fl_M_54 : Cond.fieldLink "FrameSamplesModel" 54 "FrameSamplesModel" "edgeChecks" "[I" ∈ fs_tb := fs_ti 434 (by decide +kernel) (by decide +kernel)
theorem fl_M_57 : Cond.fieldLink "FrameSamplesModel" 57 "FrameSamplesModel" "edgeFaults" "[J" ∈ fs_tb := fs_ti 435 (by decide +kernel) (by decide +kernel)
theorem ac_boolean : Cond.arrayClass .boolean ∈ fs_tb := fs_ti 497 (by decide +kernel) (by decide +kernel)
theorem ml_L_64 : Cond.methodLink "FrameSamplesLaw" 64 ⟨"FrameSamplesModel", "thrown", "()I"⟩ ∈ fs_tb := fs_ti 498 (by decide +kernel) (by decide +kernel)
theorem ml_L_23 : Cond.methodLink "FrameSamplesLaw" 23 ⟨"FrameSamplesModel", "begin", "(I)Z"⟩ ∈ fs_tb := fs_ti 502 (by decide +kernel) (by decide +kernel)
theorem ml_L_28 : Cond.methodLink "FrameSamplesLaw" 28 ⟨"FrameSamplesModel", "gate", "(III)Z"⟩ ∈ fs_tb := fs_ti 506 (by decide +kernel) (by decide +kernel)
theorem ml_M_83 : Cond.methodLink "FrameSamplesModel" 83 ⟨"FrameSamplesModel", "isWire", "(I)Z"⟩ ∈ fs_tb := fs_ti 510 (by decide +kernel) (by decide +kernel)
theorem ml_M_87 : Cond.methodLink "FrameSamplesModel" 87 ⟨"FrameSamplesModel", "act", "(III)V"⟩ ∈ fs_tb := fs_ti 514 (by decide +kernel) (by decide +kernel)
theorem ml_L_33 : Cond.methodLink "FrameSamplesLaw" 33 ⟨"FrameSamplesModel", "look", "(IZ)I"⟩ ∈ fs_tb := fs_ti 518 (by decide +kernel) (by decide +kernel)
theorem ml_L_38 : Cond.methodLink "FrameSamplesLaw" 38 ⟨"FrameSamplesModel", "fault", "(III)I"⟩ ∈ fs_tb := fs_ti 522 (by decide +kernel) (by decide +kernel)
theorem ml_L_45 : Cond.methodLink "FrameSamplesLaw" 45 ⟨"FrameSamplesModel", "check", "(J)I"⟩ ∈ fs_tb := fs_ti 526 (by decide +kernel) (by decide +kernel)
theorem ml_M_91 : Cond.methodLink "FrameSamplesModel" 91 ⟨"FrameSamplesModel", "isSet", "(JI)Z"⟩ ∈ fs_tb := fs_ti 530 (by decide +kernel) (by decide +kernel)
theorem ml_L_49 : Cond.methodLink "FrameSamplesLaw" 49 ⟨"FrameSamplesModel", "outcome", "(II)J"⟩ ∈ fs_tb := fs_ti 533 (by decide +kernel) (by decide +kernel)
theorem cn_M_145 : Cond.constantLong "FrameSamplesModel" 145 (-1) ∈ fs_tb := fs_ti 537 (by decide +kernel) (by decide +kernel)
theorem ml_M_147 : Cond.methodLink "FrameSamplesModel" 147 ⟨"FrameSamplesModel", "playAll", "()V"⟩ ∈ fs_tb := fs_ti 538 (by decide +kernel) (by decide +kernel)
theorem ml_M_136 : Cond.methodLink "FrameSamplesModel" 136 ⟨"FrameSamplesModel", "lookAt", "(II)V"⟩ ∈ fs_tb := fs_ti 542 (by decide +kernel) (by decide +kernel)
theorem ml_M_95 : Cond.methodLink "FrameSamplesModel" 95 ⟨"FrameSamplesModel", "bit", "(II)I"⟩ ∈ fs_tb := fs_ti 546 (by decide +kernel) (by decide +kernel)
theorem ml_M_109 : Cond.methodLink "FrameSamplesModel" 109 ⟨"FrameSamplesModel", "solve", "(II)V"⟩ ∈ fs_tb := fs_ti 549 (by decide +kernel) (by decide +kernel)
theorem ml_M_129 : Cond.methodLink "FrameSamplesModel" 129 ⟨"FrameSamplesModel", "column", "(III)I"⟩ ∈ fs_tb := fs_ti 553 (by decide +kernel) (by decide +kernel)
theorem ml_M_113 : Cond.methodLink "FrameSamplesModel" 113 ⟨"FrameSamplesModel", "multiply", "(II)V"⟩ ∈ fs_tb := fs_ti 556 (by decide +kernel) (by decide +kernel)
theorem ml_M_103 : Cond.methodLink "FrameSamplesModel" 103 ⟨"FrameSamplesModel", "powers", "(IIII)I"⟩ ∈ fs_tb := fs_ti 560 (by decide +kernel) (by decide +kernel)
theorem ml_M_99 : Cond.methodLink "FrameSamplesModel" 99 ⟨"FrameSamplesModel", "power", "(IIII)I"⟩ ∈ fs_tb := fs_ti 564 (by decide +kernel) (by decide +kernel)
theorem ml_M_133 : Cond.methodLink "FrameSamplesModel" 133 ⟨"FrameSamplesModel", "takeRow", "(I)V"⟩ ∈ fs_tb := fs_ti 567 (by decide +kernel) (by decide +kernel)
theorem ml_M_139 : Cond.methodLink "FrameSamplesModel" 139 ⟨"FrameSamplesModel", "clearWire", "(II)V"⟩ ∈ fs_tb := fs_ti 571 (by decide +kernel) (by decide +kernel)
theorem ml_M_142 : Cond.methodLink "FrameSamplesModel" 142 ⟨"FrameSamplesModel", "gateRow", "(II)V"⟩ ∈ fs_tb := fs_ti 575 (by decide +kernel) (by decide +kernel)
theorem ml_M_106 : Cond.methodLink "FrameSamplesModel" 106 ⟨"FrameSamplesModel", "swapBits", "(III)V"⟩ ∈ fs_tb := fs_ti 579 (by decide +kernel) (by decide +kernel)
theorem ml_L_53 : Cond.methodLink "FrameSamplesLaw" 53 ⟨"FrameSamplesModel", "told", "(II)J"⟩ ∈ fs_tb := fs_ti 583 (by decide +kernel) (by decide +kernel)
theorem ml_L_57 : Cond.methodLink "FrameSamplesLaw" 57 ⟨"FrameSamplesModel", "changes", "(II)J"⟩ ∈ fs_tb := fs_ti 587 (by decide +kernel) (by decide +kernel)
theorem ml_M_166 : Cond.methodLink "FrameSamplesModel" 166 ⟨"FrameSamplesModel", "changedBy", "(I)J"⟩ ∈ fs_tb := fs_ti 591 (by decide +kernel) (by decide +kernel)
theorem ml_M_159 : Cond.methodLink "FrameSamplesModel" 159 ⟨"FrameSamplesModel", "goThrough", "(I)V"⟩ ∈ fs_tb := fs_ti 595 (by decide +kernel) (by decide +kernel)
theorem ml_M_170 : Cond.methodLink "FrameSamplesModel" 170 ⟨"FrameSamplesModel", "checksOf", "(J)I"⟩ ∈ fs_tb := fs_ti 599 (by decide +kernel) (by decide +kernel)
theorem ml_M_162 : Cond.methodLink "FrameSamplesModel" 162 ⟨"FrameSamplesModel", "parity", "(J)I"⟩ ∈ fs_tb := fs_ti 603 (by decide +kernel) (by decide +kernel)
theorem ml_L_63 : Cond.methodLink "FrameSamplesLaw" 63 ⟨"FrameSamplesModel", "edge", "(II)J"⟩ ∈ fs_tb := fs_ti 606 (by decide +kernel) (by decide +kernel)
theorem ml_M_180 : Cond.methodLink "FrameSamplesModel" 180 ⟨"FrameSamplesModel", "findEdges", "()V"⟩ ∈ fs_tb := fs_ti 610 (by decide +kernel) (by decide +kernel)
theorem ml_M_183 : Cond.methodLink "FrameSamplesModel" 183 ⟨"FrameSamplesModel", "odds", "(IZ)J"⟩ ∈ fs_tb := fs_ti 614 (by decide +kernel) (by decide +kernel)
theorem cn_M_176 : Cond.constantLong "FrameSamplesModel" 176 8 ∈ fs_tb := fs_ti 618 (by decide +kernel) (by decide +kernel)
theorem cn_M_178 : Cond.constantLong "FrameSamplesModel" 178 2 ∈ fs_tb := fs_ti 619 (by decide +kernel) (by decide +kernel)
theorem ml_L_72 : Cond.methodLink "FrameSamplesLaw" 72 ⟨"FrameSamplesModel", "run", "(JJ)J"⟩ ∈ fs_tb := fs_ti 620 (by decide +kernel) (by decide +kernel)
theorem ml_L_77 : Cond.methodLink "FrameSamplesLaw" 77 ⟨"FrameSamplesModel", "total", "(I)I"⟩ ∈ fs_tb := fs_ti 624 (by decide +kernel) (by decide +kernel)
theorem cn_L_39 : Cond.constantLong "FrameSamplesLaw" 39 4294967295 ∈ fs_tb := fs_ti 628 (by decide +kernel) (by decide +kernel)
abbrev cS_init : ByteArray := prog_1_method_1_code
def yS_init : MethodName := ⟨"FrameSamples", "<init>", "()V"⟩
theorem co_S_init : Cond.code yS_init cS_init 2 none ∈ fs_tb := fs_ti 17 (by decide +kernel) (by decide +kernel)
def wS_init : List Cond := Cond.code yS_init cS_init 2 none :: fs_tb
theorem im_S_init : Cond.instanceMethod yS_init ∈ fs_tb := fs_ti 16 (by decide +kernel) (by decide +kernel)
theorem co_O : Cond.code Lib.objectInit ⟨#[0xb1]⟩ 1 none ∈ fs_tb := fs_ti 20 (by decide +kernel) (by decide +kernel)
theorem im_O : Cond.instanceMethod Lib.objectInit ∈ fs_tb := fs_ti 19 (by decide +kernel) (by decide +kernel)
abbrev cT_init : ByteArray := prog_4_method_1_code
def yT_init : MethodName := ⟨"FrameSamples$Tableau", "<init>", "()V"⟩
theorem co_T_init : Cond.code yT_init cT_init 2 none ∈ fs_tb := fs_ti 25 (by decide +kernel) (by decide +kernel)
def wT_init : List Cond := Cond.code yT_init cT_init 2 none :: fs_tb
theorem im_T_init : Cond.instanceMethod yT_init ∈ fs_tb := fs_ti 24 (by decide +kernel) (by decide +kernel)
abbrev cP_init : ByteArray := prog_3_method_1_code
def yP_init : MethodName := ⟨"FrameSamples$Pauli", "<init>", "()V"⟩
theorem co_P_init : Cond.code yP_init cP_init 1 none ∈ fs_tb := fs_ti 32 (by decide +kernel) (by decide +kernel)
def wP_init : List Cond := Cond.code yP_init cP_init 1 none :: fs_tb
theorem im_P_init : Cond.instanceMethod yP_init ∈ fs_tb := fs_ti 31 (by decide +kernel) (by decide +kernel)
abbrev cF_init : ByteArray := prog_2_method_1_code
def yF_init : MethodName := ⟨"FrameSamples$Fault", "<init>", "()V"⟩
theorem co_F_init : Cond.code yF_init cF_init 1 none ∈ fs_tb := fs_ti 71 (by decide +kernel) (by decide +kernel)
def wF_init : List Cond := Cond.code yF_init cF_init 1 none :: fs_tb
theorem im_F_init : Cond.instanceMethod yF_init ∈ fs_tb := fs_ti 70 (by decide +kernel) (by decide +kernel)
abbrev cS_startOver : ByteArray := prog_1_method_13_code
def yS_startOver : MethodName := ⟨"FrameSamples", "startOver", "(I)V"⟩
theorem co_S_startOver : Cond.code yS_startOver cS_startOver 2 none ∈ fs_tb := fs_ti 97 (by decide +kernel) (by decide +kernel)
def wS_startOver : List Cond := Cond.code yS_startOver cS_startOver 2 none :: fs_tb
theorem im_S_startOver : Cond.instanceMethod yS_startOver ∈ fs_tb := fs_ti 96 (by decide +kernel) (by decide +kernel)
theorem se_S_startOver : Cond.selects "FrameSamples" yS_startOver yS_startOver ∈ fs_tb := fs_si 0 (by decide +kernel) (by decide +kernel)
abbrev cT_start : ByteArray := prog_4_method_2_code
def yT_start : MethodName := ⟨"FrameSamples$Tableau", "start", "(I)V"⟩
theorem co_T_start : Cond.code yT_start cT_start 3 none ∈ fs_tb := fs_ti 101 (by decide +kernel) (by decide +kernel)
def wT_start : List Cond := Cond.code yT_start cT_start 3 none :: fs_tb
theorem im_T_start : Cond.instanceMethod yT_start ∈ fs_tb := fs_ti 99 (by decide +kernel) (by decide +kernel)
theorem se_T_start : Cond.selects "FrameSamples$Tableau" yT_start yT_start ∈ fs_tb := fs_ti 100 (by decide +kernel) (by decide +kernel)
abbrev cJM_min : ByteArray := prog_11_method_69_code
def yJM_min : MethodName := ⟨"java/lang/Math", "min", "(II)I"⟩
theorem co_JM_min : Cond.code yJM_min cJM_min 2 (some .int) ∈ fs_tb := fs_ti 104 (by decide +kernel) (by decide +kernel)
def wJM_min : List Cond := Cond.code yJM_min cJM_min 2 (some .int) :: fs_tb
theorem st_JM_min : Cond.static yJM_min ∈ fs_tb := fs_ti 103 (by decide +kernel) (by decide +kernel)
abbrev cP_become : ByteArray := prog_3_method_2_code
def yP_become : MethodName := ⟨"FrameSamples$Pauli", "become", "(II)V"⟩
theorem co_P_become : Cond.code yP_become cP_become 3 none ∈ fs_tb := fs_ti 108 (by decide +kernel) (by decide +kernel)
def wP_become : List Cond := Cond.code yP_become cP_become 3 none :: fs_tb
theorem im_P_become : Cond.instanceMethod yP_become ∈ fs_tb := fs_ti 106 (by decide +kernel) (by decide +kernel)
theorem se_P_become : Cond.selects "FrameSamples$Pauli" yP_become yP_become ∈ fs_tb := fs_ti 107 (by decide +kernel) (by decide +kernel)
abbrev cS_begin : ByteArray := prog_1_method_2_code
def yS_begin : MethodName := ⟨"FrameSamples", "begin", "(I)Z"⟩
theorem co_S_begin : Cond.code yS_begin cS_begin 2 (some .boolean) ∈ fs_tb := fs_ti 146 (by decide +kernel) (by decide +kernel)
def wS_begin : List Cond := Cond.code yS_begin cS_begin 2 (some .boolean) :: fs_tb
theorem im_S_begin : Cond.instanceMethod yS_begin ∈ fs_tb := fs_ti 144 (by decide +kernel) (by decide +kernel)
theorem se_S_begin : Cond.selects "FrameSamples" yS_begin yS_begin ∈ fs_tb := fs_ti 145 (by decide +kernel) (by decide +kernel)
abbrev cS_gate : ByteArray := prog_1_method_3_code
def yS_gate : MethodName := ⟨"FrameSamples", "gate", "(III)Z"⟩
theorem co_S_gate : Cond.code yS_gate cS_gate 5 (some .boolean) ∈ fs_tb := fs_ti 150 (by decide +kernel) (by decide +kernel)
def wS_gate : List Cond := Cond.code yS_gate cS_gate 5 (some .boolean) :: fs_tb
theorem im_S_gate : Cond.instanceMethod yS_gate ∈ fs_tb := fs_ti 148 (by decide +kernel) (by decide +kernel)
theorem se_S_gate : Cond.selects "FrameSamples" yS_gate yS_gate ∈ fs_tb := fs_ti 149 (by decide +kernel) (by decide +kernel)
abbrev cS_isWire : ByteArray := prog_1_method_14_code
def yS_isWire : MethodName := ⟨"FrameSamples", "isWire", "(I)Z"⟩
theorem co_S_isWire : Cond.code yS_isWire cS_isWire 2 (some .boolean) ∈ fs_tb := fs_ti 154 (by decide +kernel) (by decide +kernel)
def wS_isWire : List Cond := Cond.code yS_isWire cS_isWire 2 (some .boolean) :: fs_tb
theorem im_S_isWire : Cond.instanceMethod yS_isWire ∈ fs_tb := fs_ti 153 (by decide +kernel) (by decide +kernel)
theorem se_S_isWire : Cond.selects "FrameSamples" yS_isWire yS_isWire ∈ fs_tb := fs_si 1 (by decide +kernel) (by decide +kernel)
abbrev cS_hasTwoWires : ByteArray := prog_1_method_15_code
def yS_hasTwoWires : MethodName := ⟨"FrameSamples", "hasTwoWires", "(I)Z"⟩
theorem co_S_hasTwoWires : Cond.code yS_hasTwoWires cS_hasTwoWires 1 (some .boolean) ∈ fs_tb := fs_ti 157 (by decide +kernel) (by decide +kernel)
def wS_hasTwoWires : List Cond := Cond.code yS_hasTwoWires cS_hasTwoWires 1 (some .boolean) :: fs_tb
theorem st_S_hasTwoWires : Cond.static yS_hasTwoWires ∈ fs_tb := fs_ti 156 (by decide +kernel) (by decide +kernel)
abbrev cT_pass : ByteArray := prog_4_method_3_code
def yT_pass : MethodName := ⟨"FrameSamples$Tableau", "pass", "(III)V"⟩
theorem co_T_pass : Cond.code yT_pass cT_pass 5 none ∈ fs_tb := fs_ti 161 (by decide +kernel) (by decide +kernel)
def wT_pass : List Cond := Cond.code yT_pass cT_pass 5 none :: fs_tb
theorem im_T_pass : Cond.instanceMethod yT_pass ∈ fs_tb := fs_ti 159 (by decide +kernel) (by decide +kernel)
theorem se_T_pass : Cond.selects "FrameSamples$Tableau" yT_pass yT_pass ∈ fs_tb := fs_ti 160 (by decide +kernel) (by decide +kernel)
abbrev cP_pass : ByteArray := prog_3_method_6_code
def yP_pass : MethodName := ⟨"FrameSamples$Pauli", "pass", "(III)V"⟩
theorem co_P_pass : Cond.code yP_pass cP_pass 4 none ∈ fs_tb := fs_ti 165 (by decide +kernel) (by decide +kernel)
def wP_pass : List Cond := Cond.code yP_pass cP_pass 4 none :: fs_tb
theorem im_P_pass : Cond.instanceMethod yP_pass ∈ fs_tb := fs_ti 163 (by decide +kernel) (by decide +kernel)
theorem se_P_pass : Cond.selects "FrameSamples$Pauli" yP_pass yP_pass ∈ fs_tb := fs_ti 164 (by decide +kernel) (by decide +kernel)
abbrev cP_passH : ByteArray := prog_3_method_7_code
def yP_passH : MethodName := ⟨"FrameSamples$Pauli", "passH", "(I)V"⟩
theorem co_P_passH : Cond.code yP_passH cP_passH 3 none ∈ fs_tb := fs_ti 169 (by decide +kernel) (by decide +kernel)
def wP_passH : List Cond := Cond.code yP_passH cP_passH 3 none :: fs_tb
theorem im_P_passH : Cond.instanceMethod yP_passH ∈ fs_tb := fs_ti 168 (by decide +kernel) (by decide +kernel)
theorem se_P_passH : Cond.selects "FrameSamples$Pauli" yP_passH yP_passH ∈ fs_tb := fs_si 2 (by decide +kernel) (by decide +kernel)
abbrev cP_xOn : ByteArray := prog_3_method_4_code
def yP_xOn : MethodName := ⟨"FrameSamples$Pauli", "xOn", "(I)I"⟩
theorem co_P_xOn : Cond.code yP_xOn cP_xOn 2 (some .int) ∈ fs_tb := fs_ti 173 (by decide +kernel) (by decide +kernel)
def wP_xOn : List Cond := Cond.code yP_xOn cP_xOn 2 (some .int) :: fs_tb
theorem im_P_xOn : Cond.instanceMethod yP_xOn ∈ fs_tb := fs_ti 171 (by decide +kernel) (by decide +kernel)
theorem se_P_xOn : Cond.selects "FrameSamples$Pauli" yP_xOn yP_xOn ∈ fs_tb := fs_ti 172 (by decide +kernel) (by decide +kernel)
abbrev cP_zOn : ByteArray := prog_3_method_5_code
def yP_zOn : MethodName := ⟨"FrameSamples$Pauli", "zOn", "(I)I"⟩
theorem co_P_zOn : Cond.code yP_zOn cP_zOn 2 (some .int) ∈ fs_tb := fs_ti 177 (by decide +kernel) (by decide +kernel)
def wP_zOn : List Cond := Cond.code yP_zOn cP_zOn 2 (some .int) :: fs_tb
theorem im_P_zOn : Cond.instanceMethod yP_zOn ∈ fs_tb := fs_ti 175 (by decide +kernel) (by decide +kernel)
theorem se_P_zOn : Cond.selects "FrameSamples$Pauli" yP_zOn yP_zOn ∈ fs_tb := fs_ti 176 (by decide +kernel) (by decide +kernel)
abbrev cP_passS : ByteArray := prog_3_method_8_code
def yP_passS : MethodName := ⟨"FrameSamples$Pauli", "passS", "(I)V"⟩
theorem co_P_passS : Cond.code yP_passS cP_passS 2 none ∈ fs_tb := fs_ti 181 (by decide +kernel) (by decide +kernel)
def wP_passS : List Cond := Cond.code yP_passS cP_passS 2 none :: fs_tb
theorem im_P_passS : Cond.instanceMethod yP_passS ∈ fs_tb := fs_ti 180 (by decide +kernel) (by decide +kernel)
theorem se_P_passS : Cond.selects "FrameSamples$Pauli" yP_passS yP_passS ∈ fs_tb := fs_si 3 (by decide +kernel) (by decide +kernel)
abbrev cP_passControlledX : ByteArray := prog_3_method_9_code
def yP_passControlledX : MethodName := ⟨"FrameSamples$Pauli", "passControlledX", "(II)V"⟩
theorem co_P_passControlledX : Cond.code yP_passControlledX cP_passControlledX 3 none ∈ fs_tb := fs_ti 185 (by decide +kernel) (by decide +kernel)
def wP_passControlledX : List Cond := Cond.code yP_passControlledX cP_passControlledX 3 none :: fs_tb
theorem im_P_passControlledX : Cond.instanceMethod yP_passControlledX ∈ fs_tb := fs_ti 184 (by decide +kernel) (by decide +kernel)
theorem se_P_passControlledX : Cond.selects "FrameSamples$Pauli" yP_passControlledX yP_passControlledX ∈ fs_tb := fs_si 4 (by decide +kernel) (by decide +kernel)
abbrev cP_swapBits : ByteArray := prog_3_method_10_code
def yP_swapBits : MethodName := ⟨"FrameSamples$Pauli", "swapBits", "(III)I"⟩
theorem co_P_swapBits : Cond.code yP_swapBits cP_swapBits 4 (some .int) ∈ fs_tb := fs_ti 188 (by decide +kernel) (by decide +kernel)
def wP_swapBits : List Cond := Cond.code yP_swapBits cP_swapBits 4 (some .int) :: fs_tb
theorem st_P_swapBits : Cond.static yP_swapBits ∈ fs_tb := fs_ti 187 (by decide +kernel) (by decide +kernel)
abbrev cS_look : ByteArray := prog_1_method_4_code
def yS_look : MethodName := ⟨"FrameSamples", "look", "(IZ)I"⟩
theorem co_S_look : Cond.code yS_look cS_look 6 (some .int) ∈ fs_tb := fs_ti 193 (by decide +kernel) (by decide +kernel)
def wS_look : List Cond := Cond.code yS_look cS_look 6 (some .int) :: fs_tb
theorem im_S_look : Cond.instanceMethod yS_look ∈ fs_tb := fs_ti 191 (by decide +kernel) (by decide +kernel)
theorem se_S_look : Cond.selects "FrameSamples" yS_look yS_look ∈ fs_tb := fs_ti 192 (by decide +kernel) (by decide +kernel)
abbrev cT_measure : ByteArray := prog_4_method_4_code
def yT_measure : MethodName := ⟨"FrameSamples$Tableau", "measure", "(II)LFrameSamples$Pauli;"⟩
theorem co_T_measure : Cond.code yT_measure cT_measure 4 (some (.object "FrameSamples$Pauli")) ∈ fs_tb := fs_ti 197 (by decide +kernel) (by decide +kernel)
def wT_measure : List Cond := Cond.code yT_measure cT_measure 4 (some (.object "FrameSamples$Pauli")) :: fs_tb
theorem im_T_measure : Cond.instanceMethod yT_measure ∈ fs_tb := fs_ti 195 (by decide +kernel) (by decide +kernel)
theorem se_T_measure : Cond.selects "FrameSamples$Tableau" yT_measure yT_measure ∈ fs_tb := fs_ti 196 (by decide +kernel) (by decide +kernel)
abbrev cT_collapse : ByteArray := prog_4_method_5_code
def yT_collapse : MethodName := ⟨"FrameSamples$Tableau", "collapse", "(III)LFrameSamples$Pauli;"⟩
theorem co_T_collapse : Cond.code yT_collapse cT_collapse 6 (some (.object "FrameSamples$Pauli")) ∈ fs_tb := fs_ti 202 (by decide +kernel) (by decide +kernel)
def wT_collapse : List Cond := Cond.code yT_collapse cT_collapse 6 (some (.object "FrameSamples$Pauli")) :: fs_tb
theorem im_T_collapse : Cond.instanceMethod yT_collapse ∈ fs_tb := fs_ti 201 (by decide +kernel) (by decide +kernel)
theorem se_T_collapse : Cond.selects "FrameSamples$Tableau" yT_collapse yT_collapse ∈ fs_tb := fs_si 5 (by decide +kernel) (by decide +kernel)
abbrev cP_multiplyBy : ByteArray := prog_3_method_11_code
def yP_multiplyBy : MethodName := ⟨"FrameSamples$Pauli", "multiplyBy", "(LFrameSamples$Pauli;)V"⟩
theorem co_P_multiplyBy : Cond.code yP_multiplyBy cP_multiplyBy 8 none ∈ fs_tb := fs_ti 206 (by decide +kernel) (by decide +kernel)
def wP_multiplyBy : List Cond := Cond.code yP_multiplyBy cP_multiplyBy 8 none :: fs_tb
theorem im_P_multiplyBy : Cond.instanceMethod yP_multiplyBy ∈ fs_tb := fs_ti 204 (by decide +kernel) (by decide +kernel)
theorem se_P_multiplyBy : Cond.selects "FrameSamples$Pauli" yP_multiplyBy yP_multiplyBy ∈ fs_tb := fs_ti 205 (by decide +kernel) (by decide +kernel)
abbrev cJI_bitCount : ByteArray := prog_9_method_49_code
def yJI_bitCount : MethodName := ⟨"java/lang/Integer", "bitCount", "(I)I"⟩
theorem co_JI_bitCount : Cond.code yJI_bitCount cJI_bitCount 1 (some .int) ∈ fs_tb := fs_ti 209 (by decide +kernel) (by decide +kernel)
def wJI_bitCount : List Cond := Cond.code yJI_bitCount cJI_bitCount 1 (some .int) :: fs_tb
theorem st_JI_bitCount : Cond.static yJI_bitCount ∈ fs_tb := fs_ti 208 (by decide +kernel) (by decide +kernel)
abbrev cP_copyFrom : ByteArray := prog_3_method_3_code
def yP_copyFrom : MethodName := ⟨"FrameSamples$Pauli", "copyFrom", "(LFrameSamples$Pauli;)V"⟩
theorem co_P_copyFrom : Cond.code yP_copyFrom cP_copyFrom 2 none ∈ fs_tb := fs_ti 216 (by decide +kernel) (by decide +kernel)
def wP_copyFrom : List Cond := Cond.code yP_copyFrom cP_copyFrom 2 none :: fs_tb
theorem im_P_copyFrom : Cond.instanceMethod yP_copyFrom ∈ fs_tb := fs_ti 214 (by decide +kernel) (by decide +kernel)
theorem se_P_copyFrom : Cond.selects "FrameSamples$Pauli" yP_copyFrom yP_copyFrom ∈ fs_tb := fs_ti 215 (by decide +kernel) (by decide +kernel)
abbrev cT_zFromKeepers : ByteArray := prog_4_method_6_code
def yT_zFromKeepers : MethodName := ⟨"FrameSamples$Tableau", "zFromKeepers", "(I)LFrameSamples$Pauli;"⟩
theorem co_T_zFromKeepers : Cond.code yT_zFromKeepers cT_zFromKeepers 3 (some (.object "FrameSamples$Pauli")) ∈ fs_tb := fs_ti 220 (by decide +kernel) (by decide +kernel)
def wT_zFromKeepers : List Cond := Cond.code yT_zFromKeepers cT_zFromKeepers 3 (some (.object "FrameSamples$Pauli")) :: fs_tb
theorem im_T_zFromKeepers : Cond.instanceMethod yT_zFromKeepers ∈ fs_tb := fs_ti 219 (by decide +kernel) (by decide +kernel)
theorem se_T_zFromKeepers : Cond.selects "FrameSamples$Tableau" yT_zFromKeepers yT_zFromKeepers ∈ fs_tb := fs_si 6 (by decide +kernel) (by decide +kernel)
abbrev cT_flipIfTold : ByteArray := prog_4_method_7_code
def yT_flipIfTold : MethodName := ⟨"FrameSamples$Tableau", "flipIfTold", "(IIJ)V"⟩
theorem co_T_flipIfTold : Cond.code yT_flipIfTold cT_flipIfTold 6 none ∈ fs_tb := fs_ti 224 (by decide +kernel) (by decide +kernel)
def wT_flipIfTold : List Cond := Cond.code yT_flipIfTold cT_flipIfTold 6 none :: fs_tb
theorem im_T_flipIfTold : Cond.instanceMethod yT_flipIfTold ∈ fs_tb := fs_ti 222 (by decide +kernel) (by decide +kernel)
theorem se_T_flipIfTold : Cond.selects "FrameSamples$Tableau" yT_flipIfTold yT_flipIfTold ∈ fs_tb := fs_ti 223 (by decide +kernel) (by decide +kernel)
abbrev cF_meetLook : ByteArray := prog_2_method_3_code
def yF_meetLook : MethodName := ⟨"FrameSamples$Fault", "meetLook", "(IIZ)V"⟩
theorem co_F_meetLook : Cond.code yF_meetLook cF_meetLook 4 none ∈ fs_tb := fs_ti 229 (by decide +kernel) (by decide +kernel)
def wF_meetLook : List Cond := Cond.code yF_meetLook cF_meetLook 4 none :: fs_tb
theorem im_F_meetLook : Cond.instanceMethod yF_meetLook ∈ fs_tb := fs_ti 227 (by decide +kernel) (by decide +kernel)
theorem se_F_meetLook : Cond.selects "FrameSamples$Fault" yF_meetLook yF_meetLook ∈ fs_tb := fs_ti 228 (by decide +kernel) (by decide +kernel)
abbrev cS_fault : ByteArray := prog_1_method_5_code
def yS_fault : MethodName := ⟨"FrameSamples", "fault", "(III)I"⟩
theorem co_S_fault : Cond.code yS_fault cS_fault 5 (some .int) ∈ fs_tb := fs_ti 234 (by decide +kernel) (by decide +kernel)
def wS_fault : List Cond := Cond.code yS_fault cS_fault 5 (some .int) :: fs_tb
theorem im_S_fault : Cond.instanceMethod yS_fault ∈ fs_tb := fs_ti 232 (by decide +kernel) (by decide +kernel)
theorem se_S_fault : Cond.selects "FrameSamples" yS_fault yS_fault ∈ fs_tb := fs_ti 233 (by decide +kernel) (by decide +kernel)
abbrev cF_start : ByteArray := prog_2_method_2_code
def yF_start : MethodName := ⟨"FrameSamples$Fault", "start", "(III)V"⟩
theorem co_F_start : Cond.code yF_start cF_start 6 none ∈ fs_tb := fs_ti 238 (by decide +kernel) (by decide +kernel)
def wF_start : List Cond := Cond.code yF_start cF_start 6 none :: fs_tb
theorem im_F_start : Cond.instanceMethod yF_start ∈ fs_tb := fs_ti 236 (by decide +kernel) (by decide +kernel)
theorem se_F_start : Cond.selects "FrameSamples$Fault" yF_start yF_start ∈ fs_tb := fs_ti 237 (by decide +kernel) (by decide +kernel)
abbrev cS_check : ByteArray := prog_1_method_6_code
def yS_check : MethodName := ⟨"FrameSamples", "check", "(J)I"⟩
theorem co_S_check : Cond.code yS_check cS_check 8 (some .int) ∈ fs_tb := fs_ti 243 (by decide +kernel) (by decide +kernel)
def wS_check : List Cond := Cond.code yS_check cS_check 8 (some .int) :: fs_tb
theorem im_S_check : Cond.instanceMethod yS_check ∈ fs_tb := fs_ti 241 (by decide +kernel) (by decide +kernel)
theorem se_S_check : Cond.selects "FrameSamples" yS_check yS_check ∈ fs_tb := fs_ti 242 (by decide +kernel) (by decide +kernel)
abbrev cS_has : ByteArray := prog_1_method_16_code
def yS_has : MethodName := ⟨"FrameSamples", "has", "(JI)Z"⟩
theorem co_S_has : Cond.code yS_has cS_has 3 (some .boolean) ∈ fs_tb := fs_ti 246 (by decide +kernel) (by decide +kernel)
def wS_has : List Cond := Cond.code yS_has cS_has 3 (some .boolean) :: fs_tb
theorem st_S_has : Cond.static yS_has ∈ fs_tb := fs_ti 245 (by decide +kernel) (by decide +kernel)
abbrev cF_meetCheck : ByteArray := prog_2_method_4_code
def yF_meetCheck : MethodName := ⟨"FrameSamples$Fault", "meetCheck", "(IJ)V"⟩
theorem co_F_meetCheck : Cond.code yF_meetCheck cF_meetCheck 4 none ∈ fs_tb := fs_ti 250 (by decide +kernel) (by decide +kernel)
def wF_meetCheck : List Cond := Cond.code yF_meetCheck cF_meetCheck 4 none :: fs_tb
theorem im_F_meetCheck : Cond.instanceMethod yF_meetCheck ∈ fs_tb := fs_ti 248 (by decide +kernel) (by decide +kernel)
theorem se_F_meetCheck : Cond.selects "FrameSamples$Fault" yF_meetCheck yF_meetCheck ∈ fs_tb := fs_ti 249 (by decide +kernel) (by decide +kernel)
abbrev cS_parity : ByteArray := prog_1_method_17_code
def yS_parity : MethodName := ⟨"FrameSamples", "parity", "(J)I"⟩
theorem co_S_parity : Cond.code yS_parity cS_parity 2 (some .int) ∈ fs_tb := fs_ti 253 (by decide +kernel) (by decide +kernel)
def wS_parity : List Cond := Cond.code yS_parity cS_parity 2 (some .int) :: fs_tb
theorem st_S_parity : Cond.static yS_parity ∈ fs_tb := fs_ti 252 (by decide +kernel) (by decide +kernel)
abbrev cJL_bitCount : ByteArray := prog_10_method_50_code
def yJL_bitCount : MethodName := ⟨"java/lang/Long", "bitCount", "(J)I"⟩
theorem co_JL_bitCount : Cond.code yJL_bitCount cJL_bitCount 2 (some .int) ∈ fs_tb := fs_ti 256 (by decide +kernel) (by decide +kernel)
def wJL_bitCount : List Cond := Cond.code yJL_bitCount cJL_bitCount 2 (some .int) :: fs_tb
theorem st_JL_bitCount : Cond.static yJL_bitCount ∈ fs_tb := fs_ti 255 (by decide +kernel) (by decide +kernel)
abbrev cS_outcome : ByteArray := prog_1_method_7_code
def yS_outcome : MethodName := ⟨"FrameSamples", "outcome", "(II)J"⟩
theorem co_S_outcome : Cond.code yS_outcome cS_outcome 3 (some .long) ∈ fs_tb := fs_ti 263 (by decide +kernel) (by decide +kernel)
def wS_outcome : List Cond := Cond.code yS_outcome cS_outcome 3 (some .long) :: fs_tb
theorem im_S_outcome : Cond.instanceMethod yS_outcome ∈ fs_tb := fs_ti 261 (by decide +kernel) (by decide +kernel)
theorem se_S_outcome : Cond.selects "FrameSamples" yS_outcome yS_outcome ∈ fs_tb := fs_ti 262 (by decide +kernel) (by decide +kernel)
abbrev cS_told : ByteArray := prog_1_method_8_code
def yS_told : MethodName := ⟨"FrameSamples", "told", "(II)J"⟩
theorem co_S_told : Cond.code yS_told cS_told 3 (some .long) ∈ fs_tb := fs_ti 268 (by decide +kernel) (by decide +kernel)
def wS_told : List Cond := Cond.code yS_told cS_told 3 (some .long) :: fs_tb
theorem im_S_told : Cond.instanceMethod yS_told ∈ fs_tb := fs_ti 266 (by decide +kernel) (by decide +kernel)
theorem se_S_told : Cond.selects "FrameSamples" yS_told yS_told ∈ fs_tb := fs_ti 267 (by decide +kernel) (by decide +kernel)
abbrev cS_changes : ByteArray := prog_1_method_9_code
def yS_changes : MethodName := ⟨"FrameSamples", "changes", "(II)J"⟩
theorem co_S_changes : Cond.code yS_changes cS_changes 3 (some .long) ∈ fs_tb := fs_ti 272 (by decide +kernel) (by decide +kernel)
def wS_changes : List Cond := Cond.code yS_changes cS_changes 3 (some .long) :: fs_tb
theorem im_S_changes : Cond.instanceMethod yS_changes ∈ fs_tb := fs_ti 270 (by decide +kernel) (by decide +kernel)
theorem se_S_changes : Cond.selects "FrameSamples" yS_changes yS_changes ∈ fs_tb := fs_ti 271 (by decide +kernel) (by decide +kernel)
abbrev cS_run : ByteArray := prog_1_method_11_code
def yS_run : MethodName := ⟨"FrameSamples", "run", "(JJ)J"⟩
theorem co_S_run : Cond.code yS_run cS_run 10 (some .long) ∈ fs_tb := fs_ti 276 (by decide +kernel) (by decide +kernel)
def wS_run : List Cond := Cond.code yS_run cS_run 10 (some .long) :: fs_tb
theorem im_S_run : Cond.instanceMethod yS_run ∈ fs_tb := fs_ti 274 (by decide +kernel) (by decide +kernel)
theorem se_S_run : Cond.selects "FrameSamples" yS_run yS_run ∈ fs_tb := fs_ti 275 (by decide +kernel) (by decide +kernel)
abbrev cS_total : ByteArray := prog_1_method_12_code
def yS_total : MethodName := ⟨"FrameSamples", "total", "(I)I"⟩
theorem co_S_total : Cond.code yS_total cS_total 2 (some .int) ∈ fs_tb := fs_ti 281 (by decide +kernel) (by decide +kernel)
def wS_total : List Cond := Cond.code yS_total cS_total 2 (some .int) :: fs_tb
theorem im_S_total : Cond.instanceMethod yS_total ∈ fs_tb := fs_ti 279 (by decide +kernel) (by decide +kernel)
theorem se_S_total : Cond.selects "FrameSamples" yS_total yS_total ∈ fs_tb := fs_ti 280 (by decide +kernel) (by decide +kernel)
abbrev cS_countEdges : ByteArray := prog_1_method_19_code
def yS_countEdges : MethodName := ⟨"FrameSamples", "countEdges", "()I"⟩
theorem co_S_countEdges : Cond.code yS_countEdges cS_countEdges 3 (some .int) ∈ fs_tb := fs_ti 285 (by decide +kernel) (by decide +kernel)
def wS_countEdges : List Cond := Cond.code yS_countEdges cS_countEdges 3 (some .int) :: fs_tb
theorem im_S_countEdges : Cond.instanceMethod yS_countEdges ∈ fs_tb := fs_ti 284 (by decide +kernel) (by decide +kernel)
theorem se_S_countEdges : Cond.selects "FrameSamples" yS_countEdges yS_countEdges ∈ fs_tb := fs_si 7 (by decide +kernel) (by decide +kernel)
abbrev cS_isFirstOfEdge : ByteArray := prog_1_method_18_code
def yS_isFirstOfEdge : MethodName := ⟨"FrameSamples", "isFirstOfEdge", "(I)Z"⟩
theorem co_S_isFirstOfEdge : Cond.code yS_isFirstOfEdge cS_isFirstOfEdge 4 (some .boolean) ∈ fs_tb := fs_ti 289 (by decide +kernel) (by decide +kernel)
def wS_isFirstOfEdge : List Cond := Cond.code yS_isFirstOfEdge cS_isFirstOfEdge 4 (some .boolean) :: fs_tb
theorem im_S_isFirstOfEdge : Cond.instanceMethod yS_isFirstOfEdge ∈ fs_tb := fs_ti 288 (by decide +kernel) (by decide +kernel)
theorem se_S_isFirstOfEdge : Cond.selects "FrameSamples" yS_isFirstOfEdge yS_isFirstOfEdge ∈ fs_tb := fs_si 8 (by decide +kernel) (by decide +kernel)
abbrev cL_edge : ByteArray := method_3_code
def yL_edge : MethodName := ⟨"FrameSamplesLaw", "edge", "(LFrameSamples;II[J)I"⟩
abbrev cS_edge : ByteArray := prog_1_method_10_code
def yS_edge : MethodName := ⟨"FrameSamples", "edge", "(II)J"⟩
theorem co_S_edge : Cond.code yS_edge cS_edge 6 (some .long) ∈ fs_tb := fs_ti 297 (by decide +kernel) (by decide +kernel)
def wS_edge : List Cond := Cond.code yS_edge cS_edge 6 (some .long) :: fs_tb
theorem im_S_edge : Cond.instanceMethod yS_edge ∈ fs_tb := fs_ti 295 (by decide +kernel) (by decide +kernel)
theorem se_S_edge : Cond.selects "FrameSamples" yS_edge yS_edge ∈ fs_tb := fs_ti 296 (by decide +kernel) (by decide +kernel)
abbrev cS_firstFaultOfEdge : ByteArray := prog_1_method_20_code
def yS_firstFaultOfEdge : MethodName := ⟨"FrameSamples", "firstFaultOfEdge", "(I)I"⟩
theorem co_S_firstFaultOfEdge : Cond.code yS_firstFaultOfEdge cS_firstFaultOfEdge 4 (some .int) ∈ fs_tb := fs_ti 301 (by decide +kernel) (by decide +kernel)
def wS_firstFaultOfEdge : List Cond := Cond.code yS_firstFaultOfEdge cS_firstFaultOfEdge 4 (some .int) :: fs_tb
theorem im_S_firstFaultOfEdge : Cond.instanceMethod yS_firstFaultOfEdge ∈ fs_tb := fs_ti 300 (by decide +kernel) (by decide +kernel)
theorem se_S_firstFaultOfEdge : Cond.selects "FrameSamples" yS_firstFaultOfEdge yS_firstFaultOfEdge ∈ fs_tb := fs_si 9 (by decide +kernel) (by decide +kernel)
abbrev cS_faultsLike : ByteArray := prog_1_method_21_code
def yS_faultsLike : MethodName := ⟨"FrameSamples", "faultsLike", "(I)J"⟩
theorem co_S_faultsLike : Cond.code yS_faultsLike cS_faultsLike 5 (some .long) ∈ fs_tb := fs_ti 305 (by decide +kernel) (by decide +kernel)
def wS_faultsLike : List Cond := Cond.code yS_faultsLike cS_faultsLike 5 (some .long) :: fs_tb
theorem im_S_faultsLike : Cond.instanceMethod yS_faultsLike ∈ fs_tb := fs_ti 304 (by decide +kernel) (by decide +kernel)
theorem se_S_faultsLike : Cond.selects "FrameSamples" yS_faultsLike yS_faultsLike ∈ fs_tb := fs_si 10 (by decide +kernel) (by decide +kernel)
abbrev cS_oddsNumerator : ByteArray := prog_1_method_23_code
def yS_oddsNumerator : MethodName := ⟨"FrameSamples", "oddsNumerator", "(J)J"⟩
theorem co_S_oddsNumerator : Cond.code yS_oddsNumerator cS_oddsNumerator 5 (some .long) ∈ fs_tb := fs_ti 309 (by decide +kernel) (by decide +kernel)
def wS_oddsNumerator : List Cond := Cond.code yS_oddsNumerator cS_oddsNumerator 5 (some .long) :: fs_tb
theorem im_S_oddsNumerator : Cond.instanceMethod yS_oddsNumerator ∈ fs_tb := fs_ti 308 (by decide +kernel) (by decide +kernel)
theorem se_S_oddsNumerator : Cond.selects "FrameSamples" yS_oddsNumerator yS_oddsNumerator ∈ fs_tb := fs_si 11 (by decide +kernel) (by decide +kernel)
abbrev cS_oddCases : ByteArray := prog_1_method_22_code
def yS_oddCases : MethodName := ⟨"FrameSamples", "oddCases", "(J)J"⟩
theorem co_S_oddCases : Cond.code yS_oddCases cS_oddCases 12 (some .long) ∈ fs_tb := fs_ti 313 (by decide +kernel) (by decide +kernel)
def wS_oddCases : List Cond := Cond.code yS_oddCases cS_oddCases 12 (some .long) :: fs_tb
theorem im_S_oddCases : Cond.instanceMethod yS_oddCases ∈ fs_tb := fs_ti 312 (by decide +kernel) (by decide +kernel)
theorem se_S_oddCases : Cond.selects "FrameSamples" yS_oddCases yS_oddCases ∈ fs_tb := fs_si 12 (by decide +kernel) (by decide +kernel)
abbrev cS_sharedTwos : ByteArray := prog_1_method_25_code
def yS_sharedTwos : MethodName := ⟨"FrameSamples", "sharedTwos", "(JJ)I"⟩
theorem co_S_sharedTwos : Cond.code yS_sharedTwos cS_sharedTwos 4 (some .int) ∈ fs_tb := fs_ti 383 (by decide +kernel) (by decide +kernel)
def wS_sharedTwos : List Cond := Cond.code yS_sharedTwos cS_sharedTwos 4 (some .int) :: fs_tb
theorem st_S_sharedTwos : Cond.static yS_sharedTwos ∈ fs_tb := fs_ti 382 (by decide +kernel) (by decide +kernel)
abbrev cJL_numberOfTrailingZeros : ByteArray := prog_10_method_49_code
def yJL_numberOfTrailingZeros : MethodName := ⟨"java/lang/Long", "numberOfTrailingZeros", "(J)I"⟩
theorem co_JL_numberOfTrailingZeros : Cond.code yJL_numberOfTrailingZeros cJL_numberOfTrailingZeros 3 (some .int) ∈ fs_tb := fs_ti 386 (by decide +kernel) (by decide +kernel)
def wJL_numberOfTrailingZeros : List Cond := Cond.code yJL_numberOfTrailingZeros cJL_numberOfTrailingZeros 3 (some .int) :: fs_tb
theorem st_JL_numberOfTrailingZeros : Cond.static yJL_numberOfTrailingZeros ∈ fs_tb := fs_ti 385 (by decide +kernel) (by decide +kernel)
abbrev cJI_numberOfTrailingZeros : ByteArray := prog_9_method_48_code
def yJI_numberOfTrailingZeros : MethodName := ⟨"java/lang/Integer", "numberOfTrailingZeros", "(I)I"⟩
theorem co_JI_numberOfTrailingZeros : Cond.code yJI_numberOfTrailingZeros cJI_numberOfTrailingZeros 2 (some .int) ∈ fs_tb := fs_ti 389 (by decide +kernel) (by decide +kernel)
def wJI_numberOfTrailingZeros : List Cond := Cond.code yJI_numberOfTrailingZeros cJI_numberOfTrailingZeros 2 (some .int) :: fs_tb
theorem st_JI_numberOfTrailingZeros : Cond.static yJI_numberOfTrailingZeros ∈ fs_tb := fs_ti 388 (by decide +kernel) (by decide +kernel)
abbrev cS_oddsExponent : ByteArray := prog_1_method_24_code
def yS_oddsExponent : MethodName := ⟨"FrameSamples", "oddsExponent", "(J)J"⟩
theorem co_S_oddsExponent : Cond.code yS_oddsExponent cS_oddsExponent 5 (some .long) ∈ fs_tb := fs_ti 395 (by decide +kernel) (by decide +kernel)
def wS_oddsExponent : List Cond := Cond.code yS_oddsExponent cS_oddsExponent 5 (some .long) :: fs_tb
theorem im_S_oddsExponent : Cond.instanceMethod yS_oddsExponent ∈ fs_tb := fs_ti 394 (by decide +kernel) (by decide +kernel)
theorem se_S_oddsExponent : Cond.selects "FrameSamples" yS_oddsExponent yS_oddsExponent ∈ fs_tb := fs_si 14 (by decide +kernel) (by decide +kernel)
abbrev cM_init : ByteArray := prog_6_method_1_code
def yM_init : MethodName := ⟨"FrameSamplesModel", "<init>", "()V"⟩
theorem co_M_init : Cond.code yM_init cM_init 1 none ∈ fs_tb := fs_ti 400 (by decide +kernel) (by decide +kernel)
def wM_init : List Cond := Cond.code yM_init cM_init 1 none :: fs_tb
theorem im_M_init : Cond.instanceMethod yM_init ∈ fs_tb := fs_ti 399 (by decide +kernel) (by decide +kernel)
abbrev cM_start : ByteArray := prog_6_method_3_code
def yM_start : MethodName := ⟨"FrameSamplesModel", "start", "(I)V"⟩
theorem co_M_start : Cond.code yM_start cM_start 2 none ∈ fs_tb := fs_ti 405 (by decide +kernel) (by decide +kernel)
def wM_start : List Cond := Cond.code yM_start cM_start 2 none :: fs_tb
theorem im_M_start : Cond.instanceMethod yM_start ∈ fs_tb := fs_ti 404 (by decide +kernel) (by decide +kernel)
theorem se_M_start : Cond.selects "FrameSamplesModel" yM_start yM_start ∈ fs_tb := fs_si 15 (by decide +kernel) (by decide +kernel)
abbrev cM_thrown : ByteArray := prog_6_method_2_code
def yM_thrown : MethodName := ⟨"FrameSamplesModel", "thrown", "()I"⟩
theorem co_M_thrown : Cond.code yM_thrown cM_thrown 1 (some .int) ∈ fs_tb := fs_ti 501 (by decide +kernel) (by decide +kernel)
def wM_thrown : List Cond := Cond.code yM_thrown cM_thrown 1 (some .int) :: fs_tb
theorem im_M_thrown : Cond.instanceMethod yM_thrown ∈ fs_tb := fs_ti 499 (by decide +kernel) (by decide +kernel)
theorem se_M_thrown : Cond.selects "FrameSamplesModel" yM_thrown yM_thrown ∈ fs_tb := fs_ti 500 (by decide +kernel) (by decide +kernel)
abbrev cM_begin : ByteArray := prog_6_method_4_code
def yM_begin : MethodName := ⟨"FrameSamplesModel", "begin", "(I)Z"⟩
theorem co_M_begin : Cond.code yM_begin cM_begin 2 (some .boolean) ∈ fs_tb := fs_ti 505 (by decide +kernel) (by decide +kernel)
def wM_begin : List Cond := Cond.code yM_begin cM_begin 2 (some .boolean) :: fs_tb
theorem im_M_begin : Cond.instanceMethod yM_begin ∈ fs_tb := fs_ti 503 (by decide +kernel) (by decide +kernel)
theorem se_M_begin : Cond.selects "FrameSamplesModel" yM_begin yM_begin ∈ fs_tb := fs_ti 504 (by decide +kernel) (by decide +kernel)
abbrev cM_gate : ByteArray := prog_6_method_7_code
def yM_gate : MethodName := ⟨"FrameSamplesModel", "gate", "(III)Z"⟩
theorem co_M_gate : Cond.code yM_gate cM_gate 4 (some .boolean) ∈ fs_tb := fs_ti 509 (by decide +kernel) (by decide +kernel)
def wM_gate : List Cond := Cond.code yM_gate cM_gate 4 (some .boolean) :: fs_tb
theorem im_M_gate : Cond.instanceMethod yM_gate ∈ fs_tb := fs_ti 507 (by decide +kernel) (by decide +kernel)
theorem se_M_gate : Cond.selects "FrameSamplesModel" yM_gate yM_gate ∈ fs_tb := fs_ti 508 (by decide +kernel) (by decide +kernel)
abbrev cM_isWire : ByteArray := prog_6_method_5_code
def yM_isWire : MethodName := ⟨"FrameSamplesModel", "isWire", "(I)Z"⟩
theorem co_M_isWire : Cond.code yM_isWire cM_isWire 2 (some .boolean) ∈ fs_tb := fs_ti 513 (by decide +kernel) (by decide +kernel)
def wM_isWire : List Cond := Cond.code yM_isWire cM_isWire 2 (some .boolean) :: fs_tb
theorem im_M_isWire : Cond.instanceMethod yM_isWire ∈ fs_tb := fs_ti 512 (by decide +kernel) (by decide +kernel)
theorem se_M_isWire : Cond.selects "FrameSamplesModel" yM_isWire yM_isWire ∈ fs_tb := fs_si 16 (by decide +kernel) (by decide +kernel)
abbrev cM_act : ByteArray := prog_6_method_6_code
def yM_act : MethodName := ⟨"FrameSamplesModel", "act", "(III)V"⟩
theorem co_M_act : Cond.code yM_act cM_act 4 none ∈ fs_tb := fs_ti 517 (by decide +kernel) (by decide +kernel)
def wM_act : List Cond := Cond.code yM_act cM_act 4 none :: fs_tb
theorem im_M_act : Cond.instanceMethod yM_act ∈ fs_tb := fs_ti 516 (by decide +kernel) (by decide +kernel)
theorem se_M_act : Cond.selects "FrameSamplesModel" yM_act yM_act ∈ fs_tb := fs_si 17 (by decide +kernel) (by decide +kernel)
abbrev cM_look : ByteArray := prog_6_method_8_code
def yM_look : MethodName := ⟨"FrameSamplesModel", "look", "(IZ)I"⟩
theorem co_M_look : Cond.code yM_look cM_look 3 (some .int) ∈ fs_tb := fs_ti 521 (by decide +kernel) (by decide +kernel)
def wM_look : List Cond := Cond.code yM_look cM_look 3 (some .int) :: fs_tb
theorem im_M_look : Cond.instanceMethod yM_look ∈ fs_tb := fs_ti 519 (by decide +kernel) (by decide +kernel)
theorem se_M_look : Cond.selects "FrameSamplesModel" yM_look yM_look ∈ fs_tb := fs_ti 520 (by decide +kernel) (by decide +kernel)
abbrev cM_fault : ByteArray := prog_6_method_9_code
def yM_fault : MethodName := ⟨"FrameSamplesModel", "fault", "(III)I"⟩
theorem co_M_fault : Cond.code yM_fault cM_fault 4 (some .int) ∈ fs_tb := fs_ti 525 (by decide +kernel) (by decide +kernel)
def wM_fault : List Cond := Cond.code yM_fault cM_fault 4 (some .int) :: fs_tb
theorem im_M_fault : Cond.instanceMethod yM_fault ∈ fs_tb := fs_ti 523 (by decide +kernel) (by decide +kernel)
theorem se_M_fault : Cond.selects "FrameSamplesModel" yM_fault yM_fault ∈ fs_tb := fs_ti 524 (by decide +kernel) (by decide +kernel)
abbrev cM_check : ByteArray := prog_6_method_11_code
def yM_check : MethodName := ⟨"FrameSamplesModel", "check", "(J)I"⟩
theorem co_M_check : Cond.code yM_check cM_check 3 (some .int) ∈ fs_tb := fs_ti 529 (by decide +kernel) (by decide +kernel)
def wM_check : List Cond := Cond.code yM_check cM_check 3 (some .int) :: fs_tb
theorem im_M_check : Cond.instanceMethod yM_check ∈ fs_tb := fs_ti 527 (by decide +kernel) (by decide +kernel)
theorem se_M_check : Cond.selects "FrameSamplesModel" yM_check yM_check ∈ fs_tb := fs_ti 528 (by decide +kernel) (by decide +kernel)
abbrev cM_isSet : ByteArray := prog_6_method_10_code
def yM_isSet : MethodName := ⟨"FrameSamplesModel", "isSet", "(JI)Z"⟩
theorem co_M_isSet : Cond.code yM_isSet cM_isSet 3 (some .boolean) ∈ fs_tb := fs_ti 532 (by decide +kernel) (by decide +kernel)
def wM_isSet : List Cond := Cond.code yM_isSet cM_isSet 3 (some .boolean) :: fs_tb
theorem st_M_isSet : Cond.static yM_isSet ∈ fs_tb := fs_ti 531 (by decide +kernel) (by decide +kernel)
abbrev cM_outcome : ByteArray := prog_6_method_24_code
def yM_outcome : MethodName := ⟨"FrameSamplesModel", "outcome", "(II)J"⟩
theorem co_M_outcome : Cond.code yM_outcome cM_outcome 3 (some .long) ∈ fs_tb := fs_ti 536 (by decide +kernel) (by decide +kernel)
def wM_outcome : List Cond := Cond.code yM_outcome cM_outcome 3 (some .long) :: fs_tb
theorem im_M_outcome : Cond.instanceMethod yM_outcome ∈ fs_tb := fs_ti 534 (by decide +kernel) (by decide +kernel)
theorem se_M_outcome : Cond.selects "FrameSamplesModel" yM_outcome yM_outcome ∈ fs_tb := fs_ti 535 (by decide +kernel) (by decide +kernel)
abbrev cM_playAll : ByteArray := prog_6_method_23_code
def yM_playAll : MethodName := ⟨"FrameSamplesModel", "playAll", "()V"⟩
theorem co_M_playAll : Cond.code yM_playAll cM_playAll 3 none ∈ fs_tb := fs_ti 541 (by decide +kernel) (by decide +kernel)
def wM_playAll : List Cond := Cond.code yM_playAll cM_playAll 3 none :: fs_tb
theorem im_M_playAll : Cond.instanceMethod yM_playAll ∈ fs_tb := fs_ti 540 (by decide +kernel) (by decide +kernel)
theorem se_M_playAll : Cond.selects "FrameSamplesModel" yM_playAll yM_playAll ∈ fs_tb := fs_si 18 (by decide +kernel) (by decide +kernel)
abbrev cM_lookAt : ByteArray := prog_6_method_18_code
def yM_lookAt : MethodName := ⟨"FrameSamplesModel", "lookAt", "(II)V"⟩
theorem co_M_lookAt : Cond.code yM_lookAt cM_lookAt 5 none ∈ fs_tb := fs_ti 545 (by decide +kernel) (by decide +kernel)
def wM_lookAt : List Cond := Cond.code yM_lookAt cM_lookAt 5 none :: fs_tb
theorem im_M_lookAt : Cond.instanceMethod yM_lookAt ∈ fs_tb := fs_ti 544 (by decide +kernel) (by decide +kernel)
theorem se_M_lookAt : Cond.selects "FrameSamplesModel" yM_lookAt yM_lookAt ∈ fs_tb := fs_si 19 (by decide +kernel) (by decide +kernel)
abbrev cM_bit : ByteArray := prog_6_method_12_code
def yM_bit : MethodName := ⟨"FrameSamplesModel", "bit", "(II)I"⟩
theorem co_M_bit : Cond.code yM_bit cM_bit 2 (some .int) ∈ fs_tb := fs_ti 548 (by decide +kernel) (by decide +kernel)
def wM_bit : List Cond := Cond.code yM_bit cM_bit 2 (some .int) :: fs_tb
theorem st_M_bit : Cond.static yM_bit ∈ fs_tb := fs_ti 547 (by decide +kernel) (by decide +kernel)
abbrev cM_solve : ByteArray := prog_6_method_21_code
def yM_solve : MethodName := ⟨"FrameSamplesModel", "solve", "(II)V"⟩
theorem co_M_solve : Cond.code yM_solve cM_solve 6 none ∈ fs_tb := fs_ti 552 (by decide +kernel) (by decide +kernel)
def wM_solve : List Cond := Cond.code yM_solve cM_solve 6 none :: fs_tb
theorem im_M_solve : Cond.instanceMethod yM_solve ∈ fs_tb := fs_ti 551 (by decide +kernel) (by decide +kernel)
theorem se_M_solve : Cond.selects "FrameSamplesModel" yM_solve yM_solve ∈ fs_tb := fs_si 20 (by decide +kernel) (by decide +kernel)
abbrev cM_column : ByteArray := prog_6_method_19_code
def yM_column : MethodName := ⟨"FrameSamplesModel", "column", "(III)I"⟩
theorem co_M_column : Cond.code yM_column cM_column 3 (some .int) ∈ fs_tb := fs_ti 555 (by decide +kernel) (by decide +kernel)
def wM_column : List Cond := Cond.code yM_column cM_column 3 (some .int) :: fs_tb
theorem st_M_column : Cond.static yM_column ∈ fs_tb := fs_ti 554 (by decide +kernel) (by decide +kernel)
abbrev cM_multiply : ByteArray := prog_6_method_15_code
def yM_multiply : MethodName := ⟨"FrameSamplesModel", "multiply", "(II)V"⟩
theorem co_M_multiply : Cond.code yM_multiply cM_multiply 3 none ∈ fs_tb := fs_ti 559 (by decide +kernel) (by decide +kernel)
def wM_multiply : List Cond := Cond.code yM_multiply cM_multiply 3 none :: fs_tb
theorem im_M_multiply : Cond.instanceMethod yM_multiply ∈ fs_tb := fs_ti 558 (by decide +kernel) (by decide +kernel)
theorem se_M_multiply : Cond.selects "FrameSamplesModel" yM_multiply yM_multiply ∈ fs_tb := fs_si 21 (by decide +kernel) (by decide +kernel)
abbrev cM_powers : ByteArray := prog_6_method_14_code
def yM_powers : MethodName := ⟨"FrameSamplesModel", "powers", "(IIII)I"⟩
theorem co_M_powers : Cond.code yM_powers cM_powers 7 (some .int) ∈ fs_tb := fs_ti 563 (by decide +kernel) (by decide +kernel)
def wM_powers : List Cond := Cond.code yM_powers cM_powers 7 (some .int) :: fs_tb
theorem im_M_powers : Cond.instanceMethod yM_powers ∈ fs_tb := fs_ti 562 (by decide +kernel) (by decide +kernel)
theorem se_M_powers : Cond.selects "FrameSamplesModel" yM_powers yM_powers ∈ fs_tb := fs_si 22 (by decide +kernel) (by decide +kernel)
abbrev cM_power : ByteArray := prog_6_method_13_code
def yM_power : MethodName := ⟨"FrameSamplesModel", "power", "(IIII)I"⟩
theorem co_M_power : Cond.code yM_power cM_power 4 (some .int) ∈ fs_tb := fs_ti 566 (by decide +kernel) (by decide +kernel)
def wM_power : List Cond := Cond.code yM_power cM_power 4 (some .int) :: fs_tb
theorem st_M_power : Cond.static yM_power ∈ fs_tb := fs_ti 565 (by decide +kernel) (by decide +kernel)
abbrev cM_takeRow : ByteArray := prog_6_method_20_code
def yM_takeRow : MethodName := ⟨"FrameSamplesModel", "takeRow", "(I)V"⟩
theorem co_M_takeRow : Cond.code yM_takeRow cM_takeRow 2 none ∈ fs_tb := fs_ti 570 (by decide +kernel) (by decide +kernel)
def wM_takeRow : List Cond := Cond.code yM_takeRow cM_takeRow 2 none :: fs_tb
theorem im_M_takeRow : Cond.instanceMethod yM_takeRow ∈ fs_tb := fs_ti 569 (by decide +kernel) (by decide +kernel)
theorem se_M_takeRow : Cond.selects "FrameSamplesModel" yM_takeRow yM_takeRow ∈ fs_tb := fs_si 23 (by decide +kernel) (by decide +kernel)
abbrev cM_clearWire : ByteArray := prog_6_method_22_code
def yM_clearWire : MethodName := ⟨"FrameSamplesModel", "clearWire", "(II)V"⟩
theorem co_M_clearWire : Cond.code yM_clearWire cM_clearWire 4 none ∈ fs_tb := fs_ti 574 (by decide +kernel) (by decide +kernel)
def wM_clearWire : List Cond := Cond.code yM_clearWire cM_clearWire 4 none :: fs_tb
theorem im_M_clearWire : Cond.instanceMethod yM_clearWire ∈ fs_tb := fs_ti 573 (by decide +kernel) (by decide +kernel)
theorem se_M_clearWire : Cond.selects "FrameSamplesModel" yM_clearWire yM_clearWire ∈ fs_tb := fs_si 24 (by decide +kernel) (by decide +kernel)
abbrev cM_gateRow : ByteArray := prog_6_method_16_code
def yM_gateRow : MethodName := ⟨"FrameSamplesModel", "gateRow", "(II)V"⟩
theorem co_M_gateRow : Cond.code yM_gateRow cM_gateRow 7 none ∈ fs_tb := fs_ti 578 (by decide +kernel) (by decide +kernel)
def wM_gateRow : List Cond := Cond.code yM_gateRow cM_gateRow 7 none :: fs_tb
theorem im_M_gateRow : Cond.instanceMethod yM_gateRow ∈ fs_tb := fs_ti 577 (by decide +kernel) (by decide +kernel)
theorem se_M_gateRow : Cond.selects "FrameSamplesModel" yM_gateRow yM_gateRow ∈ fs_tb := fs_si 25 (by decide +kernel) (by decide +kernel)
abbrev cM_swapBits : ByteArray := prog_6_method_17_code
def yM_swapBits : MethodName := ⟨"FrameSamplesModel", "swapBits", "(III)V"⟩
theorem co_M_swapBits : Cond.code yM_swapBits cM_swapBits 6 none ∈ fs_tb := fs_ti 582 (by decide +kernel) (by decide +kernel)
def wM_swapBits : List Cond := Cond.code yM_swapBits cM_swapBits 6 none :: fs_tb
theorem im_M_swapBits : Cond.instanceMethod yM_swapBits ∈ fs_tb := fs_ti 581 (by decide +kernel) (by decide +kernel)
theorem se_M_swapBits : Cond.selects "FrameSamplesModel" yM_swapBits yM_swapBits ∈ fs_tb := fs_si 26 (by decide +kernel) (by decide +kernel)
abbrev cM_told : ByteArray := prog_6_method_25_code
def yM_told : MethodName := ⟨"FrameSamplesModel", "told", "(II)J"⟩
theorem co_M_told : Cond.code yM_told cM_told 7 (some .long) ∈ fs_tb := fs_ti 586 (by decide +kernel) (by decide +kernel)
def wM_told : List Cond := Cond.code yM_told cM_told 7 (some .long) :: fs_tb
theorem im_M_told : Cond.instanceMethod yM_told ∈ fs_tb := fs_ti 584 (by decide +kernel) (by decide +kernel)
theorem se_M_told : Cond.selects "FrameSamplesModel" yM_told yM_told ∈ fs_tb := fs_ti 585 (by decide +kernel) (by decide +kernel)
abbrev cM_changes : ByteArray := prog_6_method_30_code
def yM_changes : MethodName := ⟨"FrameSamplesModel", "changes", "(II)J"⟩
theorem co_M_changes : Cond.code yM_changes cM_changes 5 (some .long) ∈ fs_tb := fs_ti 590 (by decide +kernel) (by decide +kernel)
def wM_changes : List Cond := Cond.code yM_changes cM_changes 5 (some .long) :: fs_tb
theorem im_M_changes : Cond.instanceMethod yM_changes ∈ fs_tb := fs_ti 588 (by decide +kernel) (by decide +kernel)
theorem se_M_changes : Cond.selects "FrameSamplesModel" yM_changes yM_changes ∈ fs_tb := fs_ti 589 (by decide +kernel) (by decide +kernel)
abbrev cM_changedBy : ByteArray := prog_6_method_27_code
def yM_changedBy : MethodName := ⟨"FrameSamplesModel", "changedBy", "(I)J"⟩
theorem co_M_changedBy : Cond.code yM_changedBy cM_changedBy 4 (some .long) ∈ fs_tb := fs_ti 594 (by decide +kernel) (by decide +kernel)
def wM_changedBy : List Cond := Cond.code yM_changedBy cM_changedBy 4 (some .long) :: fs_tb
theorem im_M_changedBy : Cond.instanceMethod yM_changedBy ∈ fs_tb := fs_ti 593 (by decide +kernel) (by decide +kernel)
theorem se_M_changedBy : Cond.selects "FrameSamplesModel" yM_changedBy yM_changedBy ∈ fs_tb := fs_si 27 (by decide +kernel) (by decide +kernel)
abbrev cM_goThrough : ByteArray := prog_6_method_26_code
def yM_goThrough : MethodName := ⟨"FrameSamplesModel", "goThrough", "(I)V"⟩
theorem co_M_goThrough : Cond.code yM_goThrough cM_goThrough 6 none ∈ fs_tb := fs_ti 598 (by decide +kernel) (by decide +kernel)
def wM_goThrough : List Cond := Cond.code yM_goThrough cM_goThrough 6 none :: fs_tb
theorem im_M_goThrough : Cond.instanceMethod yM_goThrough ∈ fs_tb := fs_ti 597 (by decide +kernel) (by decide +kernel)
theorem se_M_goThrough : Cond.selects "FrameSamplesModel" yM_goThrough yM_goThrough ∈ fs_tb := fs_si 28 (by decide +kernel) (by decide +kernel)
abbrev cM_checksOf : ByteArray := prog_6_method_29_code
def yM_checksOf : MethodName := ⟨"FrameSamplesModel", "checksOf", "(J)I"⟩
theorem co_M_checksOf : Cond.code yM_checksOf cM_checksOf 5 (some .int) ∈ fs_tb := fs_ti 602 (by decide +kernel) (by decide +kernel)
def wM_checksOf : List Cond := Cond.code yM_checksOf cM_checksOf 5 (some .int) :: fs_tb
theorem im_M_checksOf : Cond.instanceMethod yM_checksOf ∈ fs_tb := fs_ti 601 (by decide +kernel) (by decide +kernel)
theorem se_M_checksOf : Cond.selects "FrameSamplesModel" yM_checksOf yM_checksOf ∈ fs_tb := fs_si 29 (by decide +kernel) (by decide +kernel)
abbrev cM_parity : ByteArray := prog_6_method_28_code
def yM_parity : MethodName := ⟨"FrameSamplesModel", "parity", "(J)I"⟩
theorem co_M_parity : Cond.code yM_parity cM_parity 5 (some .int) ∈ fs_tb := fs_ti 605 (by decide +kernel) (by decide +kernel)
def wM_parity : List Cond := Cond.code yM_parity cM_parity 5 (some .int) :: fs_tb
theorem st_M_parity : Cond.static yM_parity ∈ fs_tb := fs_ti 604 (by decide +kernel) (by decide +kernel)
abbrev cM_edge : ByteArray := prog_6_method_33_code
def yM_edge : MethodName := ⟨"FrameSamplesModel", "edge", "(II)J"⟩
theorem co_M_edge : Cond.code yM_edge cM_edge 5 (some .long) ∈ fs_tb := fs_ti 609 (by decide +kernel) (by decide +kernel)
def wM_edge : List Cond := Cond.code yM_edge cM_edge 5 (some .long) :: fs_tb
theorem im_M_edge : Cond.instanceMethod yM_edge ∈ fs_tb := fs_ti 607 (by decide +kernel) (by decide +kernel)
theorem se_M_edge : Cond.selects "FrameSamplesModel" yM_edge yM_edge ∈ fs_tb := fs_ti 608 (by decide +kernel) (by decide +kernel)
abbrev cM_findEdges : ByteArray := prog_6_method_31_code
def yM_findEdges : MethodName := ⟨"FrameSamplesModel", "findEdges", "()V"⟩
theorem co_M_findEdges : Cond.code yM_findEdges cM_findEdges 4 none ∈ fs_tb := fs_ti 613 (by decide +kernel) (by decide +kernel)
def wM_findEdges : List Cond := Cond.code yM_findEdges cM_findEdges 4 none :: fs_tb
theorem im_M_findEdges : Cond.instanceMethod yM_findEdges ∈ fs_tb := fs_ti 612 (by decide +kernel) (by decide +kernel)
theorem se_M_findEdges : Cond.selects "FrameSamplesModel" yM_findEdges yM_findEdges ∈ fs_tb := fs_si 30 (by decide +kernel) (by decide +kernel)
abbrev cM_odds : ByteArray := prog_6_method_32_code
def yM_odds : MethodName := ⟨"FrameSamplesModel", "odds", "(IZ)J"⟩
theorem co_M_odds : Cond.code yM_odds cM_odds 10 (some .long) ∈ fs_tb := fs_ti 617 (by decide +kernel) (by decide +kernel)
def wM_odds : List Cond := Cond.code yM_odds cM_odds 10 (some .long) :: fs_tb
theorem im_M_odds : Cond.instanceMethod yM_odds ∈ fs_tb := fs_ti 616 (by decide +kernel) (by decide +kernel)
theorem se_M_odds : Cond.selects "FrameSamplesModel" yM_odds yM_odds ∈ fs_tb := fs_si 31 (by decide +kernel) (by decide +kernel)
abbrev cM_run : ByteArray := prog_6_method_34_code
def yM_run : MethodName := ⟨"FrameSamplesModel", "run", "(JJ)J"⟩
theorem co_M_run : Cond.code yM_run cM_run 8 (some .long) ∈ fs_tb := fs_ti 623 (by decide +kernel) (by decide +kernel)
def wM_run : List Cond := Cond.code yM_run cM_run 8 (some .long) :: fs_tb
theorem im_M_run : Cond.instanceMethod yM_run ∈ fs_tb := fs_ti 621 (by decide +kernel) (by decide +kernel)
theorem se_M_run : Cond.selects "FrameSamplesModel" yM_run yM_run ∈ fs_tb := fs_ti 622 (by decide +kernel) (by decide +kernel)
abbrev cM_total : ByteArray := prog_6_method_35_code
def yM_total : MethodName := ⟨"FrameSamplesModel", "total", "(I)I"⟩
theorem co_M_total : Cond.code yM_total cM_total 2 (some .int) ∈ fs_tb := fs_ti 627 (by decide +kernel) (by decide +kernel)
def wM_total : List Cond := Cond.code yM_total cM_total 2 (some .int) :: fs_tb
theorem im_M_total : Cond.instanceMethod yM_total ∈ fs_tb := fs_ti 625 (by decide +kernel) (by decide +kernel)
theorem se_M_total : Cond.selects "FrameSamplesModel" yM_total yM_total ∈ fs_tb := fs_ti 626 (by decide +kernel) (by decide +kernel)
end
section
theorem dJM_min_0 : decode cJM_min 0 = .ok (.iload_n 0, 1) := by decide +kernel
theorem dJM_min_1 : decode cJM_min 1 = .ok (.iload_n 1, 1) := by decide +kernel
theorem dJM_min_2 : decode cJM_min 2 = .ok (.if_icmp .gt 7, 3) := by decide +kernel
theorem dJM_min_5 : decode cJM_min 5 = .ok (.iload_n 0, 1) := by decide +kernel
theorem dJM_min_6 : decode cJM_min 6 = .ok (.goto 4, 3) := by decide +kernel
theorem dJM_min_9 : decode cJM_min 9 = .ok (.iload_n 1, 1) := by decide +kernel
theorem dJM_min_10 : decode cJM_min 10 = .ok (.ireturn, 1) := by decide +kernel
theorem dJI_bitCount_0 : decode cJI_bitCount 0 = .ok (.iload_n 0, 1) := by decide +kernel
theorem dJI_bitCount_1 : decode cJI_bitCount 1 = .ok (.iload_n 0, 1) := by decide +kernel
theorem dJI_bitCount_2 : decode cJI_bitCount 2 = .ok (.iconst 1, 1) := by decide +kernel
theorem dJI_bitCount_3 : decode cJI_bitCount 3 = .ok (.iushr, 1) := by decide +kernel
theorem dJI_bitCount_4 : decode cJI_bitCount 4 = .ok (.ldc_w 265, 3) := by decide +kernel
theorem dJI_bitCount_7 : decode cJI_bitCount 7 = .ok (.iand, 1) := by decide +kernel
theorem dJI_bitCount_8 : decode cJI_bitCount 8 = .ok (.isub, 1) := by decide +kernel
theorem dJI_bitCount_9 : decode cJI_bitCount 9 = .ok (.istore_n 0, 1) := by decide +kernel
theorem dJI_bitCount_10 : decode cJI_bitCount 10 = .ok (.iload_n 0, 1) := by decide +kernel
theorem dJI_bitCount_11 : decode cJI_bitCount 11 = .ok (.ldc_w 266, 3) := by decide +kernel
theorem dJI_bitCount_14 : decode cJI_bitCount 14 = .ok (.iand, 1) := by decide +kernel
theorem dJI_bitCount_15 : decode cJI_bitCount 15 = .ok (.iload_n 0, 1) := by decide +kernel
theorem dJI_bitCount_16 : decode cJI_bitCount 16 = .ok (.iconst 2, 1) := by decide +kernel
theorem dJI_bitCount_17 : decode cJI_bitCount 17 = .ok (.iushr, 1) := by decide +kernel
theorem dJI_bitCount_18 : decode cJI_bitCount 18 = .ok (.ldc_w 266, 3) := by decide +kernel
theorem dJI_bitCount_21 : decode cJI_bitCount 21 = .ok (.iand, 1) := by decide +kernel
theorem dJI_bitCount_22 : decode cJI_bitCount 22 = .ok (.iadd, 1) := by decide +kernel
theorem dJI_bitCount_23 : decode cJI_bitCount 23 = .ok (.istore_n 0, 1) := by decide +kernel
theorem dJI_bitCount_24 : decode cJI_bitCount 24 = .ok (.iload_n 0, 1) := by decide +kernel
theorem dJI_bitCount_25 : decode cJI_bitCount 25 = .ok (.iload_n 0, 1) := by decide +kernel
theorem dJI_bitCount_26 : decode cJI_bitCount 26 = .ok (.iconst 4, 1) := by decide +kernel
theorem dJI_bitCount_27 : decode cJI_bitCount 27 = .ok (.iushr, 1) := by decide +kernel
theorem dJI_bitCount_28 : decode cJI_bitCount 28 = .ok (.iadd, 1) := by decide +kernel
theorem dJI_bitCount_29 : decode cJI_bitCount 29 = .ok (.ldc_w 267, 3) := by decide +kernel
theorem dJI_bitCount_32 : decode cJI_bitCount 32 = .ok (.iand, 1) := by decide +kernel
theorem dJI_bitCount_33 : decode cJI_bitCount 33 = .ok (.istore_n 0, 1) := by decide +kernel
theorem dJI_bitCount_34 : decode cJI_bitCount 34 = .ok (.iload_n 0, 1) := by decide +kernel
theorem dJI_bitCount_35 : decode cJI_bitCount 35 = .ok (.iload_n 0, 1) := by decide +kernel
theorem dJI_bitCount_36 : decode cJI_bitCount 36 = .ok (.bipush 8, 2) := by decide +kernel
theorem dJI_bitCount_38 : decode cJI_bitCount 38 = .ok (.iushr, 1) := by decide +kernel
theorem dJI_bitCount_39 : decode cJI_bitCount 39 = .ok (.iadd, 1) := by decide +kernel
theorem dJI_bitCount_40 : decode cJI_bitCount 40 = .ok (.istore_n 0, 1) := by decide +kernel
theorem dJI_bitCount_41 : decode cJI_bitCount 41 = .ok (.iload_n 0, 1) := by decide +kernel
theorem dJI_bitCount_42 : decode cJI_bitCount 42 = .ok (.iload_n 0, 1) := by decide +kernel
theorem dJI_bitCount_43 : decode cJI_bitCount 43 = .ok (.bipush 16, 2) := by decide +kernel
theorem dJI_bitCount_45 : decode cJI_bitCount 45 = .ok (.iushr, 1) := by decide +kernel
theorem dJI_bitCount_46 : decode cJI_bitCount 46 = .ok (.iadd, 1) := by decide +kernel
theorem dJI_bitCount_47 : decode cJI_bitCount 47 = .ok (.istore_n 0, 1) := by decide +kernel
theorem dJI_bitCount_48 : decode cJI_bitCount 48 = .ok (.iload_n 0, 1) := by decide +kernel
theorem dJI_bitCount_49 : decode cJI_bitCount 49 = .ok (.bipush 63, 2) := by decide +kernel
theorem dJI_bitCount_51 : decode cJI_bitCount 51 = .ok (.iand, 1) := by decide +kernel
theorem dJI_bitCount_52 : decode cJI_bitCount 52 = .ok (.ireturn, 1) := by decide +kernel
theorem dJL_bitCount_0 : decode cJL_bitCount 0 = .ok (.lload_n 0, 1) := by decide +kernel
theorem dJL_bitCount_1 : decode cJL_bitCount 1 = .ok (.lload_n 0, 1) := by decide +kernel
theorem dJL_bitCount_2 : decode cJL_bitCount 2 = .ok (.iconst 1, 1) := by decide +kernel
theorem dJL_bitCount_3 : decode cJL_bitCount 3 = .ok (.lushr, 1) := by decide +kernel
theorem dJL_bitCount_4 : decode cJL_bitCount 4 = .ok (.ldc2_w 314, 3) := by decide +kernel
theorem dJL_bitCount_7 : decode cJL_bitCount 7 = .ok (.land, 1) := by decide +kernel
theorem dJL_bitCount_8 : decode cJL_bitCount 8 = .ok (.lsub, 1) := by decide +kernel
theorem dJL_bitCount_9 : decode cJL_bitCount 9 = .ok (.lstore_n 0, 1) := by decide +kernel
theorem dJL_bitCount_10 : decode cJL_bitCount 10 = .ok (.lload_n 0, 1) := by decide +kernel
theorem dJL_bitCount_11 : decode cJL_bitCount 11 = .ok (.ldc2_w 316, 3) := by decide +kernel
theorem dJL_bitCount_14 : decode cJL_bitCount 14 = .ok (.land, 1) := by decide +kernel
theorem dJL_bitCount_15 : decode cJL_bitCount 15 = .ok (.lload_n 0, 1) := by decide +kernel
theorem dJL_bitCount_16 : decode cJL_bitCount 16 = .ok (.iconst 2, 1) := by decide +kernel
theorem dJL_bitCount_17 : decode cJL_bitCount 17 = .ok (.lushr, 1) := by decide +kernel
theorem dJL_bitCount_18 : decode cJL_bitCount 18 = .ok (.ldc2_w 316, 3) := by decide +kernel
theorem dJL_bitCount_21 : decode cJL_bitCount 21 = .ok (.land, 1) := by decide +kernel
theorem dJL_bitCount_22 : decode cJL_bitCount 22 = .ok (.ladd, 1) := by decide +kernel
theorem dJL_bitCount_23 : decode cJL_bitCount 23 = .ok (.lstore_n 0, 1) := by decide +kernel
theorem dJL_bitCount_24 : decode cJL_bitCount 24 = .ok (.lload_n 0, 1) := by decide +kernel
theorem dJL_bitCount_25 : decode cJL_bitCount 25 = .ok (.lload_n 0, 1) := by decide +kernel
theorem dJL_bitCount_26 : decode cJL_bitCount 26 = .ok (.iconst 4, 1) := by decide +kernel
theorem dJL_bitCount_27 : decode cJL_bitCount 27 = .ok (.lushr, 1) := by decide +kernel
theorem dJL_bitCount_28 : decode cJL_bitCount 28 = .ok (.ladd, 1) := by decide +kernel
theorem dJL_bitCount_29 : decode cJL_bitCount 29 = .ok (.ldc2_w 318, 3) := by decide +kernel
theorem dJL_bitCount_32 : decode cJL_bitCount 32 = .ok (.land, 1) := by decide +kernel
theorem dJL_bitCount_33 : decode cJL_bitCount 33 = .ok (.lstore_n 0, 1) := by decide +kernel
theorem dJL_bitCount_34 : decode cJL_bitCount 34 = .ok (.lload_n 0, 1) := by decide +kernel
theorem dJL_bitCount_35 : decode cJL_bitCount 35 = .ok (.lload_n 0, 1) := by decide +kernel
theorem dJL_bitCount_36 : decode cJL_bitCount 36 = .ok (.bipush 8, 2) := by decide +kernel
theorem dJL_bitCount_38 : decode cJL_bitCount 38 = .ok (.lushr, 1) := by decide +kernel
theorem dJL_bitCount_39 : decode cJL_bitCount 39 = .ok (.ladd, 1) := by decide +kernel
theorem dJL_bitCount_40 : decode cJL_bitCount 40 = .ok (.lstore_n 0, 1) := by decide +kernel
theorem dJL_bitCount_41 : decode cJL_bitCount 41 = .ok (.lload_n 0, 1) := by decide +kernel
theorem dJL_bitCount_42 : decode cJL_bitCount 42 = .ok (.lload_n 0, 1) := by decide +kernel
theorem dJL_bitCount_43 : decode cJL_bitCount 43 = .ok (.bipush 16, 2) := by decide +kernel
theorem dJL_bitCount_45 : decode cJL_bitCount 45 = .ok (.lushr, 1) := by decide +kernel
theorem dJL_bitCount_46 : decode cJL_bitCount 46 = .ok (.ladd, 1) := by decide +kernel
theorem dJL_bitCount_47 : decode cJL_bitCount 47 = .ok (.lstore_n 0, 1) := by decide +kernel
theorem dJL_bitCount_48 : decode cJL_bitCount 48 = .ok (.lload_n 0, 1) := by decide +kernel
theorem dJL_bitCount_49 : decode cJL_bitCount 49 = .ok (.lload_n 0, 1) := by decide +kernel
theorem dJL_bitCount_50 : decode cJL_bitCount 50 = .ok (.bipush 32, 2) := by decide +kernel
theorem dJL_bitCount_52 : decode cJL_bitCount 52 = .ok (.lushr, 1) := by decide +kernel
theorem dJL_bitCount_53 : decode cJL_bitCount 53 = .ok (.ladd, 1) := by decide +kernel
theorem dJL_bitCount_54 : decode cJL_bitCount 54 = .ok (.lstore_n 0, 1) := by decide +kernel
theorem dJL_bitCount_55 : decode cJL_bitCount 55 = .ok (.lload_n 0, 1) := by decide +kernel
theorem dJL_bitCount_56 : decode cJL_bitCount 56 = .ok (.l2i, 1) := by decide +kernel
theorem dJL_bitCount_57 : decode cJL_bitCount 57 = .ok (.bipush 127, 2) := by decide +kernel
theorem dJL_bitCount_59 : decode cJL_bitCount 59 = .ok (.iand, 1) := by decide +kernel
theorem dJL_bitCount_60 : decode cJL_bitCount 60 = .ok (.ireturn, 1) := by decide +kernel
theorem dJL_numberOfTrailingZeros_0 : decode cJL_numberOfTrailingZeros 0 = .ok (.lload_n 0, 1) := by decide +kernel
theorem dJL_numberOfTrailingZeros_1 : decode cJL_numberOfTrailingZeros 1 = .ok (.l2i, 1) := by decide +kernel
theorem dJL_numberOfTrailingZeros_2 : decode cJL_numberOfTrailingZeros 2 = .ok (.istore_n 2, 1) := by decide +kernel
theorem dJL_numberOfTrailingZeros_3 : decode cJL_numberOfTrailingZeros 3 = .ok (.iload_n 2, 1) := by decide +kernel
theorem dJL_numberOfTrailingZeros_4 : decode cJL_numberOfTrailingZeros 4 = .ok (.ifCond .ne 17, 3) := by decide +kernel
theorem dJL_numberOfTrailingZeros_7 : decode cJL_numberOfTrailingZeros 7 = .ok (.bipush 32, 2) := by decide +kernel
theorem dJL_numberOfTrailingZeros_9 : decode cJL_numberOfTrailingZeros 9 = .ok (.lload_n 0, 1) := by decide +kernel
theorem dJL_numberOfTrailingZeros_10 : decode cJL_numberOfTrailingZeros 10 = .ok (.bipush 32, 2) := by decide +kernel
theorem dJL_numberOfTrailingZeros_12 : decode cJL_numberOfTrailingZeros 12 = .ok (.lushr, 1) := by decide +kernel
theorem dJL_numberOfTrailingZeros_13 : decode cJL_numberOfTrailingZeros 13 = .ok (.l2i, 1) := by decide +kernel
theorem dJL_numberOfTrailingZeros_14 : decode cJL_numberOfTrailingZeros 14 = .ok (.invokestatic 311, 3) := by decide +kernel
theorem dJL_numberOfTrailingZeros_17 : decode cJL_numberOfTrailingZeros 17 = .ok (.iadd, 1) := by decide +kernel
theorem dJL_numberOfTrailingZeros_18 : decode cJL_numberOfTrailingZeros 18 = .ok (.goto 7, 3) := by decide +kernel
theorem dJL_numberOfTrailingZeros_21 : decode cJL_numberOfTrailingZeros 21 = .ok (.iload_n 2, 1) := by decide +kernel
theorem dJL_numberOfTrailingZeros_22 : decode cJL_numberOfTrailingZeros 22 = .ok (.invokestatic 311, 3) := by decide +kernel
theorem dJL_numberOfTrailingZeros_25 : decode cJL_numberOfTrailingZeros 25 = .ok (.ireturn, 1) := by decide +kernel
theorem dJI_numberOfTrailingZeros_0 : decode cJI_numberOfTrailingZeros 0 = .ok (.iload_n 0, 1) := by decide +kernel
theorem dJI_numberOfTrailingZeros_1 : decode cJI_numberOfTrailingZeros 1 = .ok (.iconst (-1), 1) := by decide +kernel
theorem dJI_numberOfTrailingZeros_2 : decode cJI_numberOfTrailingZeros 2 = .ok (.ixor, 1) := by decide +kernel
theorem dJI_numberOfTrailingZeros_3 : decode cJI_numberOfTrailingZeros 3 = .ok (.iload_n 0, 1) := by decide +kernel
theorem dJI_numberOfTrailingZeros_4 : decode cJI_numberOfTrailingZeros 4 = .ok (.iconst 1, 1) := by decide +kernel
theorem dJI_numberOfTrailingZeros_5 : decode cJI_numberOfTrailingZeros 5 = .ok (.isub, 1) := by decide +kernel
theorem dJI_numberOfTrailingZeros_6 : decode cJI_numberOfTrailingZeros 6 = .ok (.iand, 1) := by decide +kernel
theorem dJI_numberOfTrailingZeros_7 : decode cJI_numberOfTrailingZeros 7 = .ok (.istore_n 0, 1) := by decide +kernel
theorem dJI_numberOfTrailingZeros_8 : decode cJI_numberOfTrailingZeros 8 = .ok (.iload_n 0, 1) := by decide +kernel
theorem dJI_numberOfTrailingZeros_9 : decode cJI_numberOfTrailingZeros 9 = .ok (.ifCond .gt 8, 3) := by decide +kernel
theorem dJI_numberOfTrailingZeros_12 : decode cJI_numberOfTrailingZeros 12 = .ok (.iload_n 0, 1) := by decide +kernel
theorem dJI_numberOfTrailingZeros_13 : decode cJI_numberOfTrailingZeros 13 = .ok (.bipush 32, 2) := by decide +kernel
theorem dJI_numberOfTrailingZeros_15 : decode cJI_numberOfTrailingZeros 15 = .ok (.iand, 1) := by decide +kernel
theorem dJI_numberOfTrailingZeros_16 : decode cJI_numberOfTrailingZeros 16 = .ok (.ireturn, 1) := by decide +kernel
theorem dJI_numberOfTrailingZeros_17 : decode cJI_numberOfTrailingZeros 17 = .ok (.iconst 1, 1) := by decide +kernel
theorem dJI_numberOfTrailingZeros_18 : decode cJI_numberOfTrailingZeros 18 = .ok (.istore_n 1, 1) := by decide +kernel
theorem dJI_numberOfTrailingZeros_19 : decode cJI_numberOfTrailingZeros 19 = .ok (.iload_n 0, 1) := by decide +kernel
theorem dJI_numberOfTrailingZeros_20 : decode cJI_numberOfTrailingZeros 20 = .ok (.ldc_w 264, 3) := by decide +kernel
theorem dJI_numberOfTrailingZeros_23 : decode cJI_numberOfTrailingZeros 23 = .ok (.if_icmp .le 11, 3) := by decide +kernel
theorem dJI_numberOfTrailingZeros_26 : decode cJI_numberOfTrailingZeros 26 = .ok (.iinc 1 16, 3) := by decide +kernel
theorem dJI_numberOfTrailingZeros_29 : decode cJI_numberOfTrailingZeros 29 = .ok (.iload_n 0, 1) := by decide +kernel
theorem dJI_numberOfTrailingZeros_30 : decode cJI_numberOfTrailingZeros 30 = .ok (.bipush 16, 2) := by decide +kernel
theorem dJI_numberOfTrailingZeros_32 : decode cJI_numberOfTrailingZeros 32 = .ok (.iushr, 1) := by decide +kernel
theorem dJI_numberOfTrailingZeros_33 : decode cJI_numberOfTrailingZeros 33 = .ok (.istore_n 0, 1) := by decide +kernel
theorem dJI_numberOfTrailingZeros_34 : decode cJI_numberOfTrailingZeros 34 = .ok (.iload_n 0, 1) := by decide +kernel
theorem dJI_numberOfTrailingZeros_35 : decode cJI_numberOfTrailingZeros 35 = .ok (.sipush 256, 3) := by decide +kernel
theorem dJI_numberOfTrailingZeros_38 : decode cJI_numberOfTrailingZeros 38 = .ok (.if_icmp .le 11, 3) := by decide +kernel
theorem dJI_numberOfTrailingZeros_41 : decode cJI_numberOfTrailingZeros 41 = .ok (.iinc 1 8, 3) := by decide +kernel
theorem dJI_numberOfTrailingZeros_44 : decode cJI_numberOfTrailingZeros 44 = .ok (.iload_n 0, 1) := by decide +kernel
theorem dJI_numberOfTrailingZeros_45 : decode cJI_numberOfTrailingZeros 45 = .ok (.bipush 8, 2) := by decide +kernel
theorem dJI_numberOfTrailingZeros_47 : decode cJI_numberOfTrailingZeros 47 = .ok (.iushr, 1) := by decide +kernel
theorem dJI_numberOfTrailingZeros_48 : decode cJI_numberOfTrailingZeros 48 = .ok (.istore_n 0, 1) := by decide +kernel
theorem dJI_numberOfTrailingZeros_49 : decode cJI_numberOfTrailingZeros 49 = .ok (.iload_n 0, 1) := by decide +kernel
theorem dJI_numberOfTrailingZeros_50 : decode cJI_numberOfTrailingZeros 50 = .ok (.bipush 16, 2) := by decide +kernel
theorem dJI_numberOfTrailingZeros_52 : decode cJI_numberOfTrailingZeros 52 = .ok (.if_icmp .le 10, 3) := by decide +kernel
theorem dJI_numberOfTrailingZeros_55 : decode cJI_numberOfTrailingZeros 55 = .ok (.iinc 1 4, 3) := by decide +kernel
theorem dJI_numberOfTrailingZeros_58 : decode cJI_numberOfTrailingZeros 58 = .ok (.iload_n 0, 1) := by decide +kernel
theorem dJI_numberOfTrailingZeros_59 : decode cJI_numberOfTrailingZeros 59 = .ok (.iconst 4, 1) := by decide +kernel
theorem dJI_numberOfTrailingZeros_60 : decode cJI_numberOfTrailingZeros 60 = .ok (.iushr, 1) := by decide +kernel
theorem dJI_numberOfTrailingZeros_61 : decode cJI_numberOfTrailingZeros 61 = .ok (.istore_n 0, 1) := by decide +kernel
theorem dJI_numberOfTrailingZeros_62 : decode cJI_numberOfTrailingZeros 62 = .ok (.iload_n 0, 1) := by decide +kernel
theorem dJI_numberOfTrailingZeros_63 : decode cJI_numberOfTrailingZeros 63 = .ok (.iconst 4, 1) := by decide +kernel
theorem dJI_numberOfTrailingZeros_64 : decode cJI_numberOfTrailingZeros 64 = .ok (.if_icmp .le 10, 3) := by decide +kernel
theorem dJI_numberOfTrailingZeros_67 : decode cJI_numberOfTrailingZeros 67 = .ok (.iinc 1 2, 3) := by decide +kernel
theorem dJI_numberOfTrailingZeros_70 : decode cJI_numberOfTrailingZeros 70 = .ok (.iload_n 0, 1) := by decide +kernel
theorem dJI_numberOfTrailingZeros_71 : decode cJI_numberOfTrailingZeros 71 = .ok (.iconst 2, 1) := by decide +kernel
theorem dJI_numberOfTrailingZeros_72 : decode cJI_numberOfTrailingZeros 72 = .ok (.iushr, 1) := by decide +kernel
theorem dJI_numberOfTrailingZeros_73 : decode cJI_numberOfTrailingZeros 73 = .ok (.istore_n 0, 1) := by decide +kernel
theorem dJI_numberOfTrailingZeros_74 : decode cJI_numberOfTrailingZeros 74 = .ok (.iload_n 1, 1) := by decide +kernel
theorem dJI_numberOfTrailingZeros_75 : decode cJI_numberOfTrailingZeros 75 = .ok (.iload_n 0, 1) := by decide +kernel
theorem dJI_numberOfTrailingZeros_76 : decode cJI_numberOfTrailingZeros 76 = .ok (.iconst 1, 1) := by decide +kernel
theorem dJI_numberOfTrailingZeros_77 : decode cJI_numberOfTrailingZeros 77 = .ok (.iushr, 1) := by decide +kernel
theorem dJI_numberOfTrailingZeros_78 : decode cJI_numberOfTrailingZeros 78 = .ok (.iadd, 1) := by decide +kernel
theorem dJI_numberOfTrailingZeros_79 : decode cJI_numberOfTrailingZeros 79 = .ok (.ireturn, 1) := by decide +kernel
end
section
theorem dP_init_0 : decode cP_init 0 = .ok (.aload_n 0, 1) := by decide +kernel
theorem dP_init_1 : decode cP_init 1 = .ok (.invokespecial 3, 3) := by decide +kernel
theorem dP_init_4 : decode cP_init 4 = .ok (.return_, 1) := by decide +kernel
theorem dP_become_0 : decode cP_become 0 = .ok (.aload_n 0, 1) := by decide +kernel
theorem dP_become_1 : decode cP_become 1 = .ok (.iload_n 1, 1) := by decide +kernel
theorem dP_become_2 : decode cP_become 2 = .ok (.putfield 9, 3) := by decide +kernel
theorem dP_become_5 : decode cP_become 5 = .ok (.aload_n 0, 1) := by decide +kernel
theorem dP_become_6 : decode cP_become 6 = .ok (.iload_n 2, 1) := by decide +kernel
theorem dP_become_7 : decode cP_become 7 = .ok (.putfield 15, 3) := by decide +kernel
theorem dP_become_10 : decode cP_become 10 = .ok (.aload_n 0, 1) := by decide +kernel
theorem dP_become_11 : decode cP_become 11 = .ok (.iconst 0, 1) := by decide +kernel
theorem dP_become_12 : decode cP_become 12 = .ok (.putfield 18, 3) := by decide +kernel
theorem dP_become_15 : decode cP_become 15 = .ok (.aload_n 0, 1) := by decide +kernel
theorem dP_become_16 : decode cP_become 16 = .ok (.lconst 0, 1) := by decide +kernel
theorem dP_become_17 : decode cP_become 17 = .ok (.putfield 21, 3) := by decide +kernel
theorem dP_become_20 : decode cP_become 20 = .ok (.return_, 1) := by decide +kernel
theorem dP_pass_0 : decode cP_pass 0 = .ok (.iload_n 1, 1) := by decide +kernel
theorem dP_pass_1 : decode cP_pass 1 = .ok (.tableswitch 150 0 6 #[43, 51, 59, 68, 87, 116, 133], 43) := by decide +kernel
theorem dP_pass_44 : decode cP_pass 44 = .ok (.aload_n 0, 1) := by decide +kernel
theorem dP_pass_45 : decode cP_pass 45 = .ok (.iload_n 2, 1) := by decide +kernel
theorem dP_pass_46 : decode cP_pass 46 = .ok (.invokevirtual 25, 3) := by decide +kernel
theorem dP_pass_49 : decode cP_pass 49 = .ok (.goto 102, 3) := by decide +kernel
theorem dP_pass_52 : decode cP_pass 52 = .ok (.aload_n 0, 1) := by decide +kernel
theorem dP_pass_53 : decode cP_pass 53 = .ok (.iload_n 2, 1) := by decide +kernel
theorem dP_pass_54 : decode cP_pass 54 = .ok (.invokevirtual 29, 3) := by decide +kernel
theorem dP_pass_57 : decode cP_pass 57 = .ok (.goto 94, 3) := by decide +kernel
theorem dP_pass_60 : decode cP_pass 60 = .ok (.aload_n 0, 1) := by decide +kernel
theorem dP_pass_61 : decode cP_pass 61 = .ok (.iload_n 2, 1) := by decide +kernel
theorem dP_pass_62 : decode cP_pass 62 = .ok (.iload_n 3, 1) := by decide +kernel
theorem dP_pass_63 : decode cP_pass 63 = .ok (.invokevirtual 32, 3) := by decide +kernel
theorem dP_pass_66 : decode cP_pass 66 = .ok (.goto 85, 3) := by decide +kernel
theorem dP_pass_69 : decode cP_pass 69 = .ok (.aload_n 0, 1) := by decide +kernel
theorem dP_pass_70 : decode cP_pass 70 = .ok (.iload_n 3, 1) := by decide +kernel
theorem dP_pass_71 : decode cP_pass 71 = .ok (.invokevirtual 25, 3) := by decide +kernel
theorem dP_pass_74 : decode cP_pass 74 = .ok (.aload_n 0, 1) := by decide +kernel
theorem dP_pass_75 : decode cP_pass 75 = .ok (.iload_n 2, 1) := by decide +kernel
theorem dP_pass_76 : decode cP_pass 76 = .ok (.iload_n 3, 1) := by decide +kernel
theorem dP_pass_77 : decode cP_pass 77 = .ok (.invokevirtual 32, 3) := by decide +kernel
theorem dP_pass_80 : decode cP_pass 80 = .ok (.aload_n 0, 1) := by decide +kernel
theorem dP_pass_81 : decode cP_pass 81 = .ok (.iload_n 3, 1) := by decide +kernel
theorem dP_pass_82 : decode cP_pass 82 = .ok (.invokevirtual 25, 3) := by decide +kernel
theorem dP_pass_85 : decode cP_pass 85 = .ok (.goto 66, 3) := by decide +kernel
theorem dP_pass_88 : decode cP_pass 88 = .ok (.aload_n 0, 1) := by decide +kernel
theorem dP_pass_89 : decode cP_pass 89 = .ok (.aload_n 0, 1) := by decide +kernel
theorem dP_pass_90 : decode cP_pass 90 = .ok (.getfield 9, 3) := by decide +kernel
theorem dP_pass_93 : decode cP_pass 93 = .ok (.iload_n 2, 1) := by decide +kernel
theorem dP_pass_94 : decode cP_pass 94 = .ok (.iload_n 3, 1) := by decide +kernel
theorem dP_pass_95 : decode cP_pass 95 = .ok (.invokestatic 36, 3) := by decide +kernel
theorem dP_pass_98 : decode cP_pass 98 = .ok (.putfield 9, 3) := by decide +kernel
theorem dP_pass_101 : decode cP_pass 101 = .ok (.aload_n 0, 1) := by decide +kernel
theorem dP_pass_102 : decode cP_pass 102 = .ok (.aload_n 0, 1) := by decide +kernel
theorem dP_pass_103 : decode cP_pass 103 = .ok (.getfield 15, 3) := by decide +kernel
theorem dP_pass_106 : decode cP_pass 106 = .ok (.iload_n 2, 1) := by decide +kernel
theorem dP_pass_107 : decode cP_pass 107 = .ok (.iload_n 3, 1) := by decide +kernel
theorem dP_pass_108 : decode cP_pass 108 = .ok (.invokestatic 36, 3) := by decide +kernel
theorem dP_pass_111 : decode cP_pass 111 = .ok (.putfield 15, 3) := by decide +kernel
theorem dP_pass_114 : decode cP_pass 114 = .ok (.goto 37, 3) := by decide +kernel
theorem dP_pass_117 : decode cP_pass 117 = .ok (.aload_n 0, 1) := by decide +kernel
theorem dP_pass_118 : decode cP_pass 118 = .ok (.dup, 1) := by decide +kernel
theorem dP_pass_119 : decode cP_pass 119 = .ok (.getfield 18, 3) := by decide +kernel
theorem dP_pass_122 : decode cP_pass 122 = .ok (.aload_n 0, 1) := by decide +kernel
theorem dP_pass_123 : decode cP_pass 123 = .ok (.iload_n 2, 1) := by decide +kernel
theorem dP_pass_124 : decode cP_pass 124 = .ok (.invokevirtual 40, 3) := by decide +kernel
theorem dP_pass_127 : decode cP_pass 127 = .ok (.ixor, 1) := by decide +kernel
theorem dP_pass_128 : decode cP_pass 128 = .ok (.putfield 18, 3) := by decide +kernel
theorem dP_pass_131 : decode cP_pass 131 = .ok (.goto 20, 3) := by decide +kernel
theorem dP_pass_134 : decode cP_pass 134 = .ok (.aload_n 0, 1) := by decide +kernel
theorem dP_pass_135 : decode cP_pass 135 = .ok (.dup, 1) := by decide +kernel
theorem dP_pass_136 : decode cP_pass 136 = .ok (.getfield 18, 3) := by decide +kernel
theorem dP_pass_139 : decode cP_pass 139 = .ok (.aload_n 0, 1) := by decide +kernel
theorem dP_pass_140 : decode cP_pass 140 = .ok (.iload_n 2, 1) := by decide +kernel
theorem dP_pass_141 : decode cP_pass 141 = .ok (.invokevirtual 44, 3) := by decide +kernel
theorem dP_pass_144 : decode cP_pass 144 = .ok (.ixor, 1) := by decide +kernel
theorem dP_pass_145 : decode cP_pass 145 = .ok (.putfield 18, 3) := by decide +kernel
theorem dP_pass_148 : decode cP_pass 148 = .ok (.goto 3, 3) := by decide +kernel
theorem dP_pass_151 : decode cP_pass 151 = .ok (.return_, 1) := by decide +kernel
theorem dP_passH_0 : decode cP_passH 0 = .ok (.aload_n 0, 1) := by decide +kernel
theorem dP_passH_1 : decode cP_passH 1 = .ok (.dup, 1) := by decide +kernel
theorem dP_passH_2 : decode cP_passH 2 = .ok (.getfield 18, 3) := by decide +kernel
theorem dP_passH_5 : decode cP_passH 5 = .ok (.aload_n 0, 1) := by decide +kernel
theorem dP_passH_6 : decode cP_passH 6 = .ok (.iload_n 1, 1) := by decide +kernel
theorem dP_passH_7 : decode cP_passH 7 = .ok (.invokevirtual 44, 3) := by decide +kernel
theorem dP_passH_10 : decode cP_passH 10 = .ok (.aload_n 0, 1) := by decide +kernel
theorem dP_passH_11 : decode cP_passH 11 = .ok (.iload_n 1, 1) := by decide +kernel
theorem dP_passH_12 : decode cP_passH 12 = .ok (.invokevirtual 40, 3) := by decide +kernel
theorem dP_passH_15 : decode cP_passH 15 = .ok (.iand, 1) := by decide +kernel
theorem dP_passH_16 : decode cP_passH 16 = .ok (.ixor, 1) := by decide +kernel
theorem dP_passH_17 : decode cP_passH 17 = .ok (.putfield 18, 3) := by decide +kernel
theorem dP_passH_20 : decode cP_passH 20 = .ok (.aload_n 0, 1) := by decide +kernel
theorem dP_passH_21 : decode cP_passH 21 = .ok (.iload_n 1, 1) := by decide +kernel
theorem dP_passH_22 : decode cP_passH 22 = .ok (.invokevirtual 44, 3) := by decide +kernel
theorem dP_passH_25 : decode cP_passH 25 = .ok (.aload_n 0, 1) := by decide +kernel
theorem dP_passH_26 : decode cP_passH 26 = .ok (.iload_n 1, 1) := by decide +kernel
theorem dP_passH_27 : decode cP_passH 27 = .ok (.invokevirtual 40, 3) := by decide +kernel
theorem dP_passH_30 : decode cP_passH 30 = .ok (.ixor, 1) := by decide +kernel
theorem dP_passH_31 : decode cP_passH 31 = .ok (.iload_n 1, 1) := by decide +kernel
theorem dP_passH_32 : decode cP_passH 32 = .ok (.ishl, 1) := by decide +kernel
theorem dP_passH_33 : decode cP_passH 33 = .ok (.istore_n 2, 1) := by decide +kernel
theorem dP_passH_34 : decode cP_passH 34 = .ok (.aload_n 0, 1) := by decide +kernel
theorem dP_passH_35 : decode cP_passH 35 = .ok (.dup, 1) := by decide +kernel
theorem dP_passH_36 : decode cP_passH 36 = .ok (.getfield 9, 3) := by decide +kernel
theorem dP_passH_39 : decode cP_passH 39 = .ok (.iload_n 2, 1) := by decide +kernel
theorem dP_passH_40 : decode cP_passH 40 = .ok (.ixor, 1) := by decide +kernel
theorem dP_passH_41 : decode cP_passH 41 = .ok (.putfield 9, 3) := by decide +kernel
theorem dP_passH_44 : decode cP_passH 44 = .ok (.aload_n 0, 1) := by decide +kernel
theorem dP_passH_45 : decode cP_passH 45 = .ok (.dup, 1) := by decide +kernel
theorem dP_passH_46 : decode cP_passH 46 = .ok (.getfield 15, 3) := by decide +kernel
theorem dP_passH_49 : decode cP_passH 49 = .ok (.iload_n 2, 1) := by decide +kernel
theorem dP_passH_50 : decode cP_passH 50 = .ok (.ixor, 1) := by decide +kernel
theorem dP_passH_51 : decode cP_passH 51 = .ok (.putfield 15, 3) := by decide +kernel
theorem dP_passH_54 : decode cP_passH 54 = .ok (.return_, 1) := by decide +kernel
theorem dP_xOn_0 : decode cP_xOn 0 = .ok (.aload_n 0, 1) := by decide +kernel
theorem dP_xOn_1 : decode cP_xOn 1 = .ok (.getfield 9, 3) := by decide +kernel
theorem dP_xOn_4 : decode cP_xOn 4 = .ok (.iload_n 1, 1) := by decide +kernel
theorem dP_xOn_5 : decode cP_xOn 5 = .ok (.iushr, 1) := by decide +kernel
theorem dP_xOn_6 : decode cP_xOn 6 = .ok (.iconst 1, 1) := by decide +kernel
theorem dP_xOn_7 : decode cP_xOn 7 = .ok (.iand, 1) := by decide +kernel
theorem dP_xOn_8 : decode cP_xOn 8 = .ok (.ireturn, 1) := by decide +kernel
theorem dP_zOn_0 : decode cP_zOn 0 = .ok (.aload_n 0, 1) := by decide +kernel
theorem dP_zOn_1 : decode cP_zOn 1 = .ok (.getfield 15, 3) := by decide +kernel
theorem dP_zOn_4 : decode cP_zOn 4 = .ok (.iload_n 1, 1) := by decide +kernel
theorem dP_zOn_5 : decode cP_zOn 5 = .ok (.iushr, 1) := by decide +kernel
theorem dP_zOn_6 : decode cP_zOn 6 = .ok (.iconst 1, 1) := by decide +kernel
theorem dP_zOn_7 : decode cP_zOn 7 = .ok (.iand, 1) := by decide +kernel
theorem dP_zOn_8 : decode cP_zOn 8 = .ok (.ireturn, 1) := by decide +kernel
theorem dP_passS_0 : decode cP_passS 0 = .ok (.aload_n 0, 1) := by decide +kernel
theorem dP_passS_1 : decode cP_passS 1 = .ok (.dup, 1) := by decide +kernel
theorem dP_passS_2 : decode cP_passS 2 = .ok (.getfield 18, 3) := by decide +kernel
theorem dP_passS_5 : decode cP_passS 5 = .ok (.aload_n 0, 1) := by decide +kernel
theorem dP_passS_6 : decode cP_passS 6 = .ok (.iload_n 1, 1) := by decide +kernel
theorem dP_passS_7 : decode cP_passS 7 = .ok (.invokevirtual 44, 3) := by decide +kernel
theorem dP_passS_10 : decode cP_passS 10 = .ok (.aload_n 0, 1) := by decide +kernel
theorem dP_passS_11 : decode cP_passS 11 = .ok (.iload_n 1, 1) := by decide +kernel
theorem dP_passS_12 : decode cP_passS 12 = .ok (.invokevirtual 40, 3) := by decide +kernel
theorem dP_passS_15 : decode cP_passS 15 = .ok (.iand, 1) := by decide +kernel
theorem dP_passS_16 : decode cP_passS 16 = .ok (.ixor, 1) := by decide +kernel
theorem dP_passS_17 : decode cP_passS 17 = .ok (.putfield 18, 3) := by decide +kernel
theorem dP_passS_20 : decode cP_passS 20 = .ok (.aload_n 0, 1) := by decide +kernel
theorem dP_passS_21 : decode cP_passS 21 = .ok (.dup, 1) := by decide +kernel
theorem dP_passS_22 : decode cP_passS 22 = .ok (.getfield 15, 3) := by decide +kernel
theorem dP_passS_25 : decode cP_passS 25 = .ok (.aload_n 0, 1) := by decide +kernel
theorem dP_passS_26 : decode cP_passS 26 = .ok (.iload_n 1, 1) := by decide +kernel
theorem dP_passS_27 : decode cP_passS 27 = .ok (.invokevirtual 44, 3) := by decide +kernel
theorem dP_passS_30 : decode cP_passS 30 = .ok (.iload_n 1, 1) := by decide +kernel
theorem dP_passS_31 : decode cP_passS 31 = .ok (.ishl, 1) := by decide +kernel
theorem dP_passS_32 : decode cP_passS 32 = .ok (.ixor, 1) := by decide +kernel
theorem dP_passS_33 : decode cP_passS 33 = .ok (.putfield 15, 3) := by decide +kernel
theorem dP_passS_36 : decode cP_passS 36 = .ok (.return_, 1) := by decide +kernel
theorem dP_passControlledX_0 : decode cP_passControlledX 0 = .ok (.aload_n 0, 1) := by decide +kernel
theorem dP_passControlledX_1 : decode cP_passControlledX 1 = .ok (.dup, 1) := by decide +kernel
theorem dP_passControlledX_2 : decode cP_passControlledX 2 = .ok (.getfield 18, 3) := by decide +kernel
theorem dP_passControlledX_5 : decode cP_passControlledX 5 = .ok (.aload_n 0, 1) := by decide +kernel
theorem dP_passControlledX_6 : decode cP_passControlledX 6 = .ok (.iload_n 1, 1) := by decide +kernel
theorem dP_passControlledX_7 : decode cP_passControlledX 7 = .ok (.invokevirtual 44, 3) := by decide +kernel
theorem dP_passControlledX_10 : decode cP_passControlledX 10 = .ok (.aload_n 0, 1) := by decide +kernel
theorem dP_passControlledX_11 : decode cP_passControlledX 11 = .ok (.iload_n 2, 1) := by decide +kernel
theorem dP_passControlledX_12 : decode cP_passControlledX 12 = .ok (.invokevirtual 40, 3) := by decide +kernel
theorem dP_passControlledX_15 : decode cP_passControlledX 15 = .ok (.iand, 1) := by decide +kernel
theorem dP_passControlledX_16 : decode cP_passControlledX 16 = .ok (.aload_n 0, 1) := by decide +kernel
theorem dP_passControlledX_17 : decode cP_passControlledX 17 = .ok (.iload_n 2, 1) := by decide +kernel
theorem dP_passControlledX_18 : decode cP_passControlledX 18 = .ok (.invokevirtual 44, 3) := by decide +kernel
theorem dP_passControlledX_21 : decode cP_passControlledX 21 = .ok (.aload_n 0, 1) := by decide +kernel
theorem dP_passControlledX_22 : decode cP_passControlledX 22 = .ok (.iload_n 1, 1) := by decide +kernel
theorem dP_passControlledX_23 : decode cP_passControlledX 23 = .ok (.invokevirtual 40, 3) := by decide +kernel
theorem dP_passControlledX_26 : decode cP_passControlledX 26 = .ok (.ixor, 1) := by decide +kernel
theorem dP_passControlledX_27 : decode cP_passControlledX 27 = .ok (.iconst 1, 1) := by decide +kernel
theorem dP_passControlledX_28 : decode cP_passControlledX 28 = .ok (.ixor, 1) := by decide +kernel
theorem dP_passControlledX_29 : decode cP_passControlledX 29 = .ok (.iand, 1) := by decide +kernel
theorem dP_passControlledX_30 : decode cP_passControlledX 30 = .ok (.ixor, 1) := by decide +kernel
theorem dP_passControlledX_31 : decode cP_passControlledX 31 = .ok (.putfield 18, 3) := by decide +kernel
theorem dP_passControlledX_34 : decode cP_passControlledX 34 = .ok (.aload_n 0, 1) := by decide +kernel
theorem dP_passControlledX_35 : decode cP_passControlledX 35 = .ok (.dup, 1) := by decide +kernel
theorem dP_passControlledX_36 : decode cP_passControlledX 36 = .ok (.getfield 9, 3) := by decide +kernel
theorem dP_passControlledX_39 : decode cP_passControlledX 39 = .ok (.aload_n 0, 1) := by decide +kernel
theorem dP_passControlledX_40 : decode cP_passControlledX 40 = .ok (.iload_n 1, 1) := by decide +kernel
theorem dP_passControlledX_41 : decode cP_passControlledX 41 = .ok (.invokevirtual 44, 3) := by decide +kernel
theorem dP_passControlledX_44 : decode cP_passControlledX 44 = .ok (.iload_n 2, 1) := by decide +kernel
theorem dP_passControlledX_45 : decode cP_passControlledX 45 = .ok (.ishl, 1) := by decide +kernel
theorem dP_passControlledX_46 : decode cP_passControlledX 46 = .ok (.ixor, 1) := by decide +kernel
theorem dP_passControlledX_47 : decode cP_passControlledX 47 = .ok (.putfield 9, 3) := by decide +kernel
theorem dP_passControlledX_50 : decode cP_passControlledX 50 = .ok (.aload_n 0, 1) := by decide +kernel
theorem dP_passControlledX_51 : decode cP_passControlledX 51 = .ok (.dup, 1) := by decide +kernel
theorem dP_passControlledX_52 : decode cP_passControlledX 52 = .ok (.getfield 15, 3) := by decide +kernel
theorem dP_passControlledX_55 : decode cP_passControlledX 55 = .ok (.aload_n 0, 1) := by decide +kernel
theorem dP_passControlledX_56 : decode cP_passControlledX 56 = .ok (.iload_n 2, 1) := by decide +kernel
theorem dP_passControlledX_57 : decode cP_passControlledX 57 = .ok (.invokevirtual 40, 3) := by decide +kernel
theorem dP_passControlledX_60 : decode cP_passControlledX 60 = .ok (.iload_n 1, 1) := by decide +kernel
theorem dP_passControlledX_61 : decode cP_passControlledX 61 = .ok (.ishl, 1) := by decide +kernel
theorem dP_passControlledX_62 : decode cP_passControlledX 62 = .ok (.ixor, 1) := by decide +kernel
theorem dP_passControlledX_63 : decode cP_passControlledX 63 = .ok (.putfield 15, 3) := by decide +kernel
theorem dP_passControlledX_66 : decode cP_passControlledX 66 = .ok (.return_, 1) := by decide +kernel
theorem dP_swapBits_0 : decode cP_swapBits 0 = .ok (.iload_n 0, 1) := by decide +kernel
theorem dP_swapBits_1 : decode cP_swapBits 1 = .ok (.iload_n 1, 1) := by decide +kernel
theorem dP_swapBits_2 : decode cP_swapBits 2 = .ok (.iushr, 1) := by decide +kernel
theorem dP_swapBits_3 : decode cP_swapBits 3 = .ok (.iload_n 0, 1) := by decide +kernel
theorem dP_swapBits_4 : decode cP_swapBits 4 = .ok (.iload_n 2, 1) := by decide +kernel
theorem dP_swapBits_5 : decode cP_swapBits 5 = .ok (.iushr, 1) := by decide +kernel
theorem dP_swapBits_6 : decode cP_swapBits 6 = .ok (.ixor, 1) := by decide +kernel
theorem dP_swapBits_7 : decode cP_swapBits 7 = .ok (.iconst 1, 1) := by decide +kernel
theorem dP_swapBits_8 : decode cP_swapBits 8 = .ok (.iand, 1) := by decide +kernel
theorem dP_swapBits_9 : decode cP_swapBits 9 = .ok (.istore_n 3, 1) := by decide +kernel
theorem dP_swapBits_10 : decode cP_swapBits 10 = .ok (.iload_n 0, 1) := by decide +kernel
theorem dP_swapBits_11 : decode cP_swapBits 11 = .ok (.iload_n 3, 1) := by decide +kernel
theorem dP_swapBits_12 : decode cP_swapBits 12 = .ok (.iload_n 1, 1) := by decide +kernel
theorem dP_swapBits_13 : decode cP_swapBits 13 = .ok (.ishl, 1) := by decide +kernel
theorem dP_swapBits_14 : decode cP_swapBits 14 = .ok (.iload_n 3, 1) := by decide +kernel
theorem dP_swapBits_15 : decode cP_swapBits 15 = .ok (.iload_n 2, 1) := by decide +kernel
theorem dP_swapBits_16 : decode cP_swapBits 16 = .ok (.ishl, 1) := by decide +kernel
theorem dP_swapBits_17 : decode cP_swapBits 17 = .ok (.ior, 1) := by decide +kernel
theorem dP_swapBits_18 : decode cP_swapBits 18 = .ok (.ixor, 1) := by decide +kernel
theorem dP_swapBits_19 : decode cP_swapBits 19 = .ok (.ireturn, 1) := by decide +kernel
theorem dP_multiplyBy_0 : decode cP_multiplyBy 0 = .ok (.aload_n 1, 1) := by decide +kernel
theorem dP_multiplyBy_1 : decode cP_multiplyBy 1 = .ok (.getfield 9, 3) := by decide +kernel
theorem dP_multiplyBy_4 : decode cP_multiplyBy 4 = .ok (.aload_n 1, 1) := by decide +kernel
theorem dP_multiplyBy_5 : decode cP_multiplyBy 5 = .ok (.getfield 15, 3) := by decide +kernel
theorem dP_multiplyBy_8 : decode cP_multiplyBy 8 = .ok (.iand, 1) := by decide +kernel
theorem dP_multiplyBy_9 : decode cP_multiplyBy 9 = .ok (.istore_n 2, 1) := by decide +kernel
theorem dP_multiplyBy_10 : decode cP_multiplyBy 10 = .ok (.aload_n 1, 1) := by decide +kernel
theorem dP_multiplyBy_11 : decode cP_multiplyBy 11 = .ok (.getfield 9, 3) := by decide +kernel
theorem dP_multiplyBy_14 : decode cP_multiplyBy 14 = .ok (.aload_n 1, 1) := by decide +kernel
theorem dP_multiplyBy_15 : decode cP_multiplyBy 15 = .ok (.getfield 15, 3) := by decide +kernel
theorem dP_multiplyBy_18 : decode cP_multiplyBy 18 = .ok (.iconst (-1), 1) := by decide +kernel
theorem dP_multiplyBy_19 : decode cP_multiplyBy 19 = .ok (.ixor, 1) := by decide +kernel
theorem dP_multiplyBy_20 : decode cP_multiplyBy 20 = .ok (.iand, 1) := by decide +kernel
theorem dP_multiplyBy_21 : decode cP_multiplyBy 21 = .ok (.istore_n 3, 1) := by decide +kernel
theorem dP_multiplyBy_22 : decode cP_multiplyBy 22 = .ok (.aload_n 1, 1) := by decide +kernel
theorem dP_multiplyBy_23 : decode cP_multiplyBy 23 = .ok (.getfield 15, 3) := by decide +kernel
theorem dP_multiplyBy_26 : decode cP_multiplyBy 26 = .ok (.aload_n 1, 1) := by decide +kernel
theorem dP_multiplyBy_27 : decode cP_multiplyBy 27 = .ok (.getfield 9, 3) := by decide +kernel
theorem dP_multiplyBy_30 : decode cP_multiplyBy 30 = .ok (.iconst (-1), 1) := by decide +kernel
theorem dP_multiplyBy_31 : decode cP_multiplyBy 31 = .ok (.ixor, 1) := by decide +kernel
theorem dP_multiplyBy_32 : decode cP_multiplyBy 32 = .ok (.iand, 1) := by decide +kernel
theorem dP_multiplyBy_33 : decode cP_multiplyBy 33 = .ok (.istore 4, 2) := by decide +kernel
theorem dP_multiplyBy_35 : decode cP_multiplyBy 35 = .ok (.iload_n 2, 1) := by decide +kernel
theorem dP_multiplyBy_36 : decode cP_multiplyBy 36 = .ok (.aload_n 0, 1) := by decide +kernel
theorem dP_multiplyBy_37 : decode cP_multiplyBy 37 = .ok (.getfield 15, 3) := by decide +kernel
theorem dP_multiplyBy_40 : decode cP_multiplyBy 40 = .ok (.iand, 1) := by decide +kernel
theorem dP_multiplyBy_41 : decode cP_multiplyBy 41 = .ok (.aload_n 0, 1) := by decide +kernel
theorem dP_multiplyBy_42 : decode cP_multiplyBy 42 = .ok (.getfield 9, 3) := by decide +kernel
theorem dP_multiplyBy_45 : decode cP_multiplyBy 45 = .ok (.iconst (-1), 1) := by decide +kernel
theorem dP_multiplyBy_46 : decode cP_multiplyBy 46 = .ok (.ixor, 1) := by decide +kernel
theorem dP_multiplyBy_47 : decode cP_multiplyBy 47 = .ok (.iand, 1) := by decide +kernel
theorem dP_multiplyBy_48 : decode cP_multiplyBy 48 = .ok (.iload_n 3, 1) := by decide +kernel
theorem dP_multiplyBy_49 : decode cP_multiplyBy 49 = .ok (.aload_n 0, 1) := by decide +kernel
theorem dP_multiplyBy_50 : decode cP_multiplyBy 50 = .ok (.getfield 9, 3) := by decide +kernel
theorem dP_multiplyBy_53 : decode cP_multiplyBy 53 = .ok (.iand, 1) := by decide +kernel
theorem dP_multiplyBy_54 : decode cP_multiplyBy 54 = .ok (.aload_n 0, 1) := by decide +kernel
theorem dP_multiplyBy_55 : decode cP_multiplyBy 55 = .ok (.getfield 15, 3) := by decide +kernel
theorem dP_multiplyBy_58 : decode cP_multiplyBy 58 = .ok (.iand, 1) := by decide +kernel
theorem dP_multiplyBy_59 : decode cP_multiplyBy 59 = .ok (.ior, 1) := by decide +kernel
theorem dP_multiplyBy_60 : decode cP_multiplyBy 60 = .ok (.iload 4, 2) := by decide +kernel
theorem dP_multiplyBy_62 : decode cP_multiplyBy 62 = .ok (.aload_n 0, 1) := by decide +kernel
theorem dP_multiplyBy_63 : decode cP_multiplyBy 63 = .ok (.getfield 9, 3) := by decide +kernel
theorem dP_multiplyBy_66 : decode cP_multiplyBy 66 = .ok (.iand, 1) := by decide +kernel
theorem dP_multiplyBy_67 : decode cP_multiplyBy 67 = .ok (.aload_n 0, 1) := by decide +kernel
theorem dP_multiplyBy_68 : decode cP_multiplyBy 68 = .ok (.getfield 15, 3) := by decide +kernel
theorem dP_multiplyBy_71 : decode cP_multiplyBy 71 = .ok (.iconst (-1), 1) := by decide +kernel
theorem dP_multiplyBy_72 : decode cP_multiplyBy 72 = .ok (.ixor, 1) := by decide +kernel
theorem dP_multiplyBy_73 : decode cP_multiplyBy 73 = .ok (.iand, 1) := by decide +kernel
theorem dP_multiplyBy_74 : decode cP_multiplyBy 74 = .ok (.ior, 1) := by decide +kernel
theorem dP_multiplyBy_75 : decode cP_multiplyBy 75 = .ok (.istore 5, 2) := by decide +kernel
theorem dP_multiplyBy_77 : decode cP_multiplyBy 77 = .ok (.iload_n 2, 1) := by decide +kernel
theorem dP_multiplyBy_78 : decode cP_multiplyBy 78 = .ok (.aload_n 0, 1) := by decide +kernel
theorem dP_multiplyBy_79 : decode cP_multiplyBy 79 = .ok (.getfield 9, 3) := by decide +kernel
theorem dP_multiplyBy_82 : decode cP_multiplyBy 82 = .ok (.iand, 1) := by decide +kernel
theorem dP_multiplyBy_83 : decode cP_multiplyBy 83 = .ok (.aload_n 0, 1) := by decide +kernel
theorem dP_multiplyBy_84 : decode cP_multiplyBy 84 = .ok (.getfield 15, 3) := by decide +kernel
theorem dP_multiplyBy_87 : decode cP_multiplyBy 87 = .ok (.iconst (-1), 1) := by decide +kernel
theorem dP_multiplyBy_88 : decode cP_multiplyBy 88 = .ok (.ixor, 1) := by decide +kernel
theorem dP_multiplyBy_89 : decode cP_multiplyBy 89 = .ok (.iand, 1) := by decide +kernel
theorem dP_multiplyBy_90 : decode cP_multiplyBy 90 = .ok (.iload_n 3, 1) := by decide +kernel
theorem dP_multiplyBy_91 : decode cP_multiplyBy 91 = .ok (.aload_n 0, 1) := by decide +kernel
theorem dP_multiplyBy_92 : decode cP_multiplyBy 92 = .ok (.getfield 15, 3) := by decide +kernel
theorem dP_multiplyBy_95 : decode cP_multiplyBy 95 = .ok (.iand, 1) := by decide +kernel
theorem dP_multiplyBy_96 : decode cP_multiplyBy 96 = .ok (.aload_n 0, 1) := by decide +kernel
theorem dP_multiplyBy_97 : decode cP_multiplyBy 97 = .ok (.getfield 9, 3) := by decide +kernel
theorem dP_multiplyBy_100 : decode cP_multiplyBy 100 = .ok (.iconst (-1), 1) := by decide +kernel
theorem dP_multiplyBy_101 : decode cP_multiplyBy 101 = .ok (.ixor, 1) := by decide +kernel
theorem dP_multiplyBy_102 : decode cP_multiplyBy 102 = .ok (.iand, 1) := by decide +kernel
theorem dP_multiplyBy_103 : decode cP_multiplyBy 103 = .ok (.ior, 1) := by decide +kernel
theorem dP_multiplyBy_104 : decode cP_multiplyBy 104 = .ok (.iload 4, 2) := by decide +kernel
theorem dP_multiplyBy_106 : decode cP_multiplyBy 106 = .ok (.aload_n 0, 1) := by decide +kernel
theorem dP_multiplyBy_107 : decode cP_multiplyBy 107 = .ok (.getfield 9, 3) := by decide +kernel
theorem dP_multiplyBy_110 : decode cP_multiplyBy 110 = .ok (.iand, 1) := by decide +kernel
theorem dP_multiplyBy_111 : decode cP_multiplyBy 111 = .ok (.aload_n 0, 1) := by decide +kernel
theorem dP_multiplyBy_112 : decode cP_multiplyBy 112 = .ok (.getfield 15, 3) := by decide +kernel
theorem dP_multiplyBy_115 : decode cP_multiplyBy 115 = .ok (.iand, 1) := by decide +kernel
theorem dP_multiplyBy_116 : decode cP_multiplyBy 116 = .ok (.ior, 1) := by decide +kernel
theorem dP_multiplyBy_117 : decode cP_multiplyBy 117 = .ok (.istore 6, 2) := by decide +kernel
theorem dP_multiplyBy_119 : decode cP_multiplyBy 119 = .ok (.iload 5, 2) := by decide +kernel
theorem dP_multiplyBy_121 : decode cP_multiplyBy 121 = .ok (.invokestatic 47, 3) := by decide +kernel
theorem dP_multiplyBy_124 : decode cP_multiplyBy 124 = .ok (.iload 6, 2) := by decide +kernel
theorem dP_multiplyBy_126 : decode cP_multiplyBy 126 = .ok (.invokestatic 47, 3) := by decide +kernel
theorem dP_multiplyBy_129 : decode cP_multiplyBy 129 = .ok (.isub, 1) := by decide +kernel
theorem dP_multiplyBy_130 : decode cP_multiplyBy 130 = .ok (.istore 7, 2) := by decide +kernel
theorem dP_multiplyBy_132 : decode cP_multiplyBy 132 = .ok (.aload_n 0, 1) := by decide +kernel
theorem dP_multiplyBy_133 : decode cP_multiplyBy 133 = .ok (.dup, 1) := by decide +kernel
theorem dP_multiplyBy_134 : decode cP_multiplyBy 134 = .ok (.getfield 18, 3) := by decide +kernel
theorem dP_multiplyBy_137 : decode cP_multiplyBy 137 = .ok (.aload_n 1, 1) := by decide +kernel
theorem dP_multiplyBy_138 : decode cP_multiplyBy 138 = .ok (.getfield 18, 3) := by decide +kernel
theorem dP_multiplyBy_141 : decode cP_multiplyBy 141 = .ok (.iload 7, 2) := by decide +kernel
theorem dP_multiplyBy_143 : decode cP_multiplyBy 143 = .ok (.iconst 1, 1) := by decide +kernel
theorem dP_multiplyBy_144 : decode cP_multiplyBy 144 = .ok (.ishr, 1) := by decide +kernel
theorem dP_multiplyBy_145 : decode cP_multiplyBy 145 = .ok (.iconst 1, 1) := by decide +kernel
theorem dP_multiplyBy_146 : decode cP_multiplyBy 146 = .ok (.iand, 1) := by decide +kernel
theorem dP_multiplyBy_147 : decode cP_multiplyBy 147 = .ok (.ixor, 1) := by decide +kernel
theorem dP_multiplyBy_148 : decode cP_multiplyBy 148 = .ok (.ixor, 1) := by decide +kernel
theorem dP_multiplyBy_149 : decode cP_multiplyBy 149 = .ok (.putfield 18, 3) := by decide +kernel
theorem dP_multiplyBy_152 : decode cP_multiplyBy 152 = .ok (.aload_n 0, 1) := by decide +kernel
theorem dP_multiplyBy_153 : decode cP_multiplyBy 153 = .ok (.dup, 1) := by decide +kernel
theorem dP_multiplyBy_154 : decode cP_multiplyBy 154 = .ok (.getfield 21, 3) := by decide +kernel
theorem dP_multiplyBy_157 : decode cP_multiplyBy 157 = .ok (.aload_n 1, 1) := by decide +kernel
theorem dP_multiplyBy_158 : decode cP_multiplyBy 158 = .ok (.getfield 21, 3) := by decide +kernel
theorem dP_multiplyBy_161 : decode cP_multiplyBy 161 = .ok (.lxor, 1) := by decide +kernel
theorem dP_multiplyBy_162 : decode cP_multiplyBy 162 = .ok (.putfield 21, 3) := by decide +kernel
theorem dP_multiplyBy_165 : decode cP_multiplyBy 165 = .ok (.aload_n 0, 1) := by decide +kernel
theorem dP_multiplyBy_166 : decode cP_multiplyBy 166 = .ok (.dup, 1) := by decide +kernel
theorem dP_multiplyBy_167 : decode cP_multiplyBy 167 = .ok (.getfield 9, 3) := by decide +kernel
theorem dP_multiplyBy_170 : decode cP_multiplyBy 170 = .ok (.aload_n 1, 1) := by decide +kernel
theorem dP_multiplyBy_171 : decode cP_multiplyBy 171 = .ok (.getfield 9, 3) := by decide +kernel
theorem dP_multiplyBy_174 : decode cP_multiplyBy 174 = .ok (.ixor, 1) := by decide +kernel
theorem dP_multiplyBy_175 : decode cP_multiplyBy 175 = .ok (.putfield 9, 3) := by decide +kernel
theorem dP_multiplyBy_178 : decode cP_multiplyBy 178 = .ok (.aload_n 0, 1) := by decide +kernel
theorem dP_multiplyBy_179 : decode cP_multiplyBy 179 = .ok (.dup, 1) := by decide +kernel
theorem dP_multiplyBy_180 : decode cP_multiplyBy 180 = .ok (.getfield 15, 3) := by decide +kernel
theorem dP_multiplyBy_183 : decode cP_multiplyBy 183 = .ok (.aload_n 1, 1) := by decide +kernel
theorem dP_multiplyBy_184 : decode cP_multiplyBy 184 = .ok (.getfield 15, 3) := by decide +kernel
theorem dP_multiplyBy_187 : decode cP_multiplyBy 187 = .ok (.ixor, 1) := by decide +kernel
theorem dP_multiplyBy_188 : decode cP_multiplyBy 188 = .ok (.putfield 15, 3) := by decide +kernel
theorem dP_multiplyBy_191 : decode cP_multiplyBy 191 = .ok (.return_, 1) := by decide +kernel
theorem dP_copyFrom_0 : decode cP_copyFrom 0 = .ok (.aload_n 0, 1) := by decide +kernel
theorem dP_copyFrom_1 : decode cP_copyFrom 1 = .ok (.aload_n 1, 1) := by decide +kernel
theorem dP_copyFrom_2 : decode cP_copyFrom 2 = .ok (.getfield 9, 3) := by decide +kernel
theorem dP_copyFrom_5 : decode cP_copyFrom 5 = .ok (.putfield 9, 3) := by decide +kernel
theorem dP_copyFrom_8 : decode cP_copyFrom 8 = .ok (.aload_n 0, 1) := by decide +kernel
theorem dP_copyFrom_9 : decode cP_copyFrom 9 = .ok (.aload_n 1, 1) := by decide +kernel
theorem dP_copyFrom_10 : decode cP_copyFrom 10 = .ok (.getfield 15, 3) := by decide +kernel
theorem dP_copyFrom_13 : decode cP_copyFrom 13 = .ok (.putfield 15, 3) := by decide +kernel
theorem dP_copyFrom_16 : decode cP_copyFrom 16 = .ok (.aload_n 0, 1) := by decide +kernel
theorem dP_copyFrom_17 : decode cP_copyFrom 17 = .ok (.aload_n 1, 1) := by decide +kernel
theorem dP_copyFrom_18 : decode cP_copyFrom 18 = .ok (.getfield 18, 3) := by decide +kernel
theorem dP_copyFrom_21 : decode cP_copyFrom 21 = .ok (.putfield 18, 3) := by decide +kernel
theorem dP_copyFrom_24 : decode cP_copyFrom 24 = .ok (.aload_n 0, 1) := by decide +kernel
theorem dP_copyFrom_25 : decode cP_copyFrom 25 = .ok (.aload_n 1, 1) := by decide +kernel
theorem dP_copyFrom_26 : decode cP_copyFrom 26 = .ok (.getfield 21, 3) := by decide +kernel
theorem dP_copyFrom_29 : decode cP_copyFrom 29 = .ok (.putfield 21, 3) := by decide +kernel
theorem dP_copyFrom_32 : decode cP_copyFrom 32 = .ok (.return_, 1) := by decide +kernel
end
section
theorem dT_init_0 : decode cT_init 0 = .ok (.aload_n 0, 1) := by decide +kernel
theorem dT_init_1 : decode cT_init 1 = .ok (.invokespecial 3, 3) := by decide +kernel
theorem dT_init_4 : decode cT_init 4 = .ok (.aload_n 0, 1) := by decide +kernel
theorem dT_init_5 : decode cT_init 5 = .ok (.bipush 10, 2) := by decide +kernel
theorem dT_init_7 : decode cT_init 7 = .ok (.anewarray 9, 3) := by decide +kernel
theorem dT_init_10 : decode cT_init 10 = .ok (.putfield 11, 3) := by decide +kernel
theorem dT_init_13 : decode cT_init 13 = .ok (.aload_n 0, 1) := by decide +kernel
theorem dT_init_14 : decode cT_init 14 = .ok (.bipush 10, 2) := by decide +kernel
theorem dT_init_16 : decode cT_init 16 = .ok (.anewarray 9, 3) := by decide +kernel
theorem dT_init_19 : decode cT_init 19 = .ok (.putfield 17, 3) := by decide +kernel
theorem dT_init_22 : decode cT_init 22 = .ok (.iconst 0, 1) := by decide +kernel
theorem dT_init_23 : decode cT_init 23 = .ok (.istore_n 1, 1) := by decide +kernel
theorem dT_init_24 : decode cT_init 24 = .ok (.iload_n 1, 1) := by decide +kernel
theorem dT_init_25 : decode cT_init 25 = .ok (.bipush 10, 2) := by decide +kernel
theorem dT_init_27 : decode cT_init 27 = .ok (.if_icmp .ge 35, 3) := by decide +kernel
theorem dT_init_30 : decode cT_init 30 = .ok (.aload_n 0, 1) := by decide +kernel
theorem dT_init_31 : decode cT_init 31 = .ok (.getfield 11, 3) := by decide +kernel
theorem dT_init_34 : decode cT_init 34 = .ok (.iload_n 1, 1) := by decide +kernel
theorem dT_init_35 : decode cT_init 35 = .ok (.new 9, 3) := by decide +kernel
theorem dT_init_38 : decode cT_init 38 = .ok (.dup, 1) := by decide +kernel
theorem dT_init_39 : decode cT_init 39 = .ok (.invokespecial 20, 3) := by decide +kernel
theorem dT_init_42 : decode cT_init 42 = .ok (.aastore, 1) := by decide +kernel
theorem dT_init_43 : decode cT_init 43 = .ok (.aload_n 0, 1) := by decide +kernel
theorem dT_init_44 : decode cT_init 44 = .ok (.getfield 17, 3) := by decide +kernel
theorem dT_init_47 : decode cT_init 47 = .ok (.iload_n 1, 1) := by decide +kernel
theorem dT_init_48 : decode cT_init 48 = .ok (.new 9, 3) := by decide +kernel
theorem dT_init_51 : decode cT_init 51 = .ok (.dup, 1) := by decide +kernel
theorem dT_init_52 : decode cT_init 52 = .ok (.invokespecial 20, 3) := by decide +kernel
theorem dT_init_55 : decode cT_init 55 = .ok (.aastore, 1) := by decide +kernel
theorem dT_init_56 : decode cT_init 56 = .ok (.iinc 1 1, 3) := by decide +kernel
theorem dT_init_59 : decode cT_init 59 = .ok (.goto (-35), 3) := by decide +kernel
theorem dT_init_62 : decode cT_init 62 = .ok (.aload_n 0, 1) := by decide +kernel
theorem dT_init_63 : decode cT_init 63 = .ok (.new 9, 3) := by decide +kernel
theorem dT_init_66 : decode cT_init 66 = .ok (.dup, 1) := by decide +kernel
theorem dT_init_67 : decode cT_init 67 = .ok (.invokespecial 20, 3) := by decide +kernel
theorem dT_init_70 : decode cT_init 70 = .ok (.putfield 21, 3) := by decide +kernel
theorem dT_init_73 : decode cT_init 73 = .ok (.return_, 1) := by decide +kernel
theorem dF_init_0 : decode cF_init 0 = .ok (.aload_n 0, 1) := by decide +kernel
theorem dF_init_1 : decode cF_init 1 = .ok (.invokespecial 3, 3) := by decide +kernel
theorem dF_init_4 : decode cF_init 4 = .ok (.aload_n 0, 1) := by decide +kernel
theorem dF_init_5 : decode cF_init 5 = .ok (.new 9, 3) := by decide +kernel
theorem dF_init_8 : decode cF_init 8 = .ok (.dup, 1) := by decide +kernel
theorem dF_init_9 : decode cF_init 9 = .ok (.invokespecial 11, 3) := by decide +kernel
theorem dF_init_12 : decode cF_init 12 = .ok (.putfield 12, 3) := by decide +kernel
theorem dF_init_15 : decode cF_init 15 = .ok (.return_, 1) := by decide +kernel
theorem dT_start_0 : decode cT_start 0 = .ok (.aload_n 0, 1) := by decide +kernel
theorem dT_start_1 : decode cT_start 1 = .ok (.iload_n 1, 1) := by decide +kernel
theorem dT_start_2 : decode cT_start 2 = .ok (.bipush 10, 2) := by decide +kernel
theorem dT_start_4 : decode cT_start 4 = .ok (.invokestatic 25, 3) := by decide +kernel
theorem dT_start_7 : decode cT_start 7 = .ok (.putfield 31, 3) := by decide +kernel
theorem dT_start_10 : decode cT_start 10 = .ok (.iconst 0, 1) := by decide +kernel
theorem dT_start_11 : decode cT_start 11 = .ok (.istore_n 2, 1) := by decide +kernel
theorem dT_start_12 : decode cT_start 12 = .ok (.iload_n 2, 1) := by decide +kernel
theorem dT_start_13 : decode cT_start 13 = .ok (.aload_n 0, 1) := by decide +kernel
theorem dT_start_14 : decode cT_start 14 = .ok (.getfield 31, 3) := by decide +kernel
theorem dT_start_17 : decode cT_start 17 = .ok (.if_icmp .ge 35, 3) := by decide +kernel
theorem dT_start_20 : decode cT_start 20 = .ok (.aload_n 0, 1) := by decide +kernel
theorem dT_start_21 : decode cT_start 21 = .ok (.getfield 11, 3) := by decide +kernel
theorem dT_start_24 : decode cT_start 24 = .ok (.iload_n 2, 1) := by decide +kernel
theorem dT_start_25 : decode cT_start 25 = .ok (.aaload, 1) := by decide +kernel
theorem dT_start_26 : decode cT_start 26 = .ok (.iconst 0, 1) := by decide +kernel
theorem dT_start_27 : decode cT_start 27 = .ok (.iconst 1, 1) := by decide +kernel
theorem dT_start_28 : decode cT_start 28 = .ok (.iload_n 2, 1) := by decide +kernel
theorem dT_start_29 : decode cT_start 29 = .ok (.ishl, 1) := by decide +kernel
theorem dT_start_30 : decode cT_start 30 = .ok (.invokevirtual 35, 3) := by decide +kernel
theorem dT_start_33 : decode cT_start 33 = .ok (.aload_n 0, 1) := by decide +kernel
theorem dT_start_34 : decode cT_start 34 = .ok (.getfield 17, 3) := by decide +kernel
theorem dT_start_37 : decode cT_start 37 = .ok (.iload_n 2, 1) := by decide +kernel
theorem dT_start_38 : decode cT_start 38 = .ok (.aaload, 1) := by decide +kernel
theorem dT_start_39 : decode cT_start 39 = .ok (.iconst 1, 1) := by decide +kernel
theorem dT_start_40 : decode cT_start 40 = .ok (.iload_n 2, 1) := by decide +kernel
theorem dT_start_41 : decode cT_start 41 = .ok (.ishl, 1) := by decide +kernel
theorem dT_start_42 : decode cT_start 42 = .ok (.iconst 0, 1) := by decide +kernel
theorem dT_start_43 : decode cT_start 43 = .ok (.invokevirtual 35, 3) := by decide +kernel
theorem dT_start_46 : decode cT_start 46 = .ok (.iinc 2 1, 3) := by decide +kernel
theorem dT_start_49 : decode cT_start 49 = .ok (.goto (-37), 3) := by decide +kernel
theorem dT_start_52 : decode cT_start 52 = .ok (.return_, 1) := by decide +kernel
theorem dT_pass_0 : decode cT_pass 0 = .ok (.iconst 0, 1) := by decide +kernel
theorem dT_pass_1 : decode cT_pass 1 = .ok (.istore 4, 2) := by decide +kernel
theorem dT_pass_3 : decode cT_pass 3 = .ok (.iload 4, 2) := by decide +kernel
theorem dT_pass_5 : decode cT_pass 5 = .ok (.aload_n 0, 1) := by decide +kernel
theorem dT_pass_6 : decode cT_pass 6 = .ok (.getfield 31, 3) := by decide +kernel
theorem dT_pass_9 : decode cT_pass 9 = .ok (.if_icmp .ge 35, 3) := by decide +kernel
theorem dT_pass_12 : decode cT_pass 12 = .ok (.aload_n 0, 1) := by decide +kernel
theorem dT_pass_13 : decode cT_pass 13 = .ok (.getfield 11, 3) := by decide +kernel
theorem dT_pass_16 : decode cT_pass 16 = .ok (.iload 4, 2) := by decide +kernel
theorem dT_pass_18 : decode cT_pass 18 = .ok (.aaload, 1) := by decide +kernel
theorem dT_pass_19 : decode cT_pass 19 = .ok (.iload_n 1, 1) := by decide +kernel
theorem dT_pass_20 : decode cT_pass 20 = .ok (.iload_n 2, 1) := by decide +kernel
theorem dT_pass_21 : decode cT_pass 21 = .ok (.iload_n 3, 1) := by decide +kernel
theorem dT_pass_22 : decode cT_pass 22 = .ok (.invokevirtual 39, 3) := by decide +kernel
theorem dT_pass_25 : decode cT_pass 25 = .ok (.aload_n 0, 1) := by decide +kernel
theorem dT_pass_26 : decode cT_pass 26 = .ok (.getfield 17, 3) := by decide +kernel
theorem dT_pass_29 : decode cT_pass 29 = .ok (.iload 4, 2) := by decide +kernel
theorem dT_pass_31 : decode cT_pass 31 = .ok (.aaload, 1) := by decide +kernel
theorem dT_pass_32 : decode cT_pass 32 = .ok (.iload_n 1, 1) := by decide +kernel
theorem dT_pass_33 : decode cT_pass 33 = .ok (.iload_n 2, 1) := by decide +kernel
theorem dT_pass_34 : decode cT_pass 34 = .ok (.iload_n 3, 1) := by decide +kernel
theorem dT_pass_35 : decode cT_pass 35 = .ok (.invokevirtual 39, 3) := by decide +kernel
theorem dT_pass_38 : decode cT_pass 38 = .ok (.iinc 4 1, 3) := by decide +kernel
theorem dT_pass_41 : decode cT_pass 41 = .ok (.goto (-38), 3) := by decide +kernel
theorem dT_pass_44 : decode cT_pass 44 = .ok (.return_, 1) := by decide +kernel
theorem dT_measure_0 : decode cT_measure 0 = .ok (.iconst 0, 1) := by decide +kernel
theorem dT_measure_1 : decode cT_measure 1 = .ok (.istore_n 3, 1) := by decide +kernel
theorem dT_measure_2 : decode cT_measure 2 = .ok (.iload_n 3, 1) := by decide +kernel
theorem dT_measure_3 : decode cT_measure 3 = .ok (.aload_n 0, 1) := by decide +kernel
theorem dT_measure_4 : decode cT_measure 4 = .ok (.getfield 31, 3) := by decide +kernel
theorem dT_measure_7 : decode cT_measure 7 = .ok (.if_icmp .ge 31, 3) := by decide +kernel
theorem dT_measure_10 : decode cT_measure 10 = .ok (.aload_n 0, 1) := by decide +kernel
theorem dT_measure_11 : decode cT_measure 11 = .ok (.getfield 11, 3) := by decide +kernel
theorem dT_measure_14 : decode cT_measure 14 = .ok (.iload_n 3, 1) := by decide +kernel
theorem dT_measure_15 : decode cT_measure 15 = .ok (.aaload, 1) := by decide +kernel
theorem dT_measure_16 : decode cT_measure 16 = .ok (.iload_n 1, 1) := by decide +kernel
theorem dT_measure_17 : decode cT_measure 17 = .ok (.invokevirtual 43, 3) := by decide +kernel
theorem dT_measure_20 : decode cT_measure 20 = .ok (.iconst 1, 1) := by decide +kernel
theorem dT_measure_21 : decode cT_measure 21 = .ok (.if_icmp .ne 11, 3) := by decide +kernel
theorem dT_measure_24 : decode cT_measure 24 = .ok (.aload_n 0, 1) := by decide +kernel
theorem dT_measure_25 : decode cT_measure 25 = .ok (.iload_n 3, 1) := by decide +kernel
theorem dT_measure_26 : decode cT_measure 26 = .ok (.iload_n 1, 1) := by decide +kernel
theorem dT_measure_27 : decode cT_measure 27 = .ok (.iload_n 2, 1) := by decide +kernel
theorem dT_measure_28 : decode cT_measure 28 = .ok (.invokevirtual 47, 3) := by decide +kernel
theorem dT_measure_31 : decode cT_measure 31 = .ok (.areturn, 1) := by decide +kernel
theorem dT_measure_32 : decode cT_measure 32 = .ok (.iinc 3 1, 3) := by decide +kernel
theorem dT_measure_35 : decode cT_measure 35 = .ok (.goto (-33), 3) := by decide +kernel
theorem dT_measure_38 : decode cT_measure 38 = .ok (.aload_n 0, 1) := by decide +kernel
theorem dT_measure_39 : decode cT_measure 39 = .ok (.iload_n 1, 1) := by decide +kernel
theorem dT_measure_40 : decode cT_measure 40 = .ok (.invokevirtual 51, 3) := by decide +kernel
theorem dT_measure_43 : decode cT_measure 43 = .ok (.areturn, 1) := by decide +kernel
theorem dT_collapse_0 : decode cT_collapse 0 = .ok (.aload_n 0, 1) := by decide +kernel
theorem dT_collapse_1 : decode cT_collapse 1 = .ok (.getfield 11, 3) := by decide +kernel
theorem dT_collapse_4 : decode cT_collapse 4 = .ok (.iload_n 1, 1) := by decide +kernel
theorem dT_collapse_5 : decode cT_collapse 5 = .ok (.aaload, 1) := by decide +kernel
theorem dT_collapse_6 : decode cT_collapse 6 = .ok (.astore 4, 2) := by decide +kernel
theorem dT_collapse_8 : decode cT_collapse 8 = .ok (.iconst 0, 1) := by decide +kernel
theorem dT_collapse_9 : decode cT_collapse 9 = .ok (.istore 5, 2) := by decide +kernel
theorem dT_collapse_11 : decode cT_collapse 11 = .ok (.iload 5, 2) := by decide +kernel
theorem dT_collapse_13 : decode cT_collapse 13 = .ok (.aload_n 0, 1) := by decide +kernel
theorem dT_collapse_14 : decode cT_collapse 14 = .ok (.getfield 31, 3) := by decide +kernel
theorem dT_collapse_17 : decode cT_collapse 17 = .ok (.if_icmp .ge 75, 3) := by decide +kernel
theorem dT_collapse_20 : decode cT_collapse 20 = .ok (.iload 5, 2) := by decide +kernel
theorem dT_collapse_22 : decode cT_collapse 22 = .ok (.iload_n 1, 1) := by decide +kernel
theorem dT_collapse_23 : decode cT_collapse 23 = .ok (.if_icmp .eq 30, 3) := by decide +kernel
theorem dT_collapse_26 : decode cT_collapse 26 = .ok (.aload_n 0, 1) := by decide +kernel
theorem dT_collapse_27 : decode cT_collapse 27 = .ok (.getfield 11, 3) := by decide +kernel
theorem dT_collapse_30 : decode cT_collapse 30 = .ok (.iload 5, 2) := by decide +kernel
theorem dT_collapse_32 : decode cT_collapse 32 = .ok (.aaload, 1) := by decide +kernel
theorem dT_collapse_33 : decode cT_collapse 33 = .ok (.iload_n 2, 1) := by decide +kernel
theorem dT_collapse_34 : decode cT_collapse 34 = .ok (.invokevirtual 43, 3) := by decide +kernel
theorem dT_collapse_37 : decode cT_collapse 37 = .ok (.iconst 1, 1) := by decide +kernel
theorem dT_collapse_38 : decode cT_collapse 38 = .ok (.if_icmp .ne 15, 3) := by decide +kernel
theorem dT_collapse_41 : decode cT_collapse 41 = .ok (.aload_n 0, 1) := by decide +kernel
theorem dT_collapse_42 : decode cT_collapse 42 = .ok (.getfield 11, 3) := by decide +kernel
theorem dT_collapse_45 : decode cT_collapse 45 = .ok (.iload 5, 2) := by decide +kernel
theorem dT_collapse_47 : decode cT_collapse 47 = .ok (.aaload, 1) := by decide +kernel
theorem dT_collapse_48 : decode cT_collapse 48 = .ok (.aload 4, 2) := by decide +kernel
theorem dT_collapse_50 : decode cT_collapse 50 = .ok (.invokevirtual 55, 3) := by decide +kernel
theorem dT_collapse_53 : decode cT_collapse 53 = .ok (.iload 5, 2) := by decide +kernel
theorem dT_collapse_55 : decode cT_collapse 55 = .ok (.iload_n 1, 1) := by decide +kernel
theorem dT_collapse_56 : decode cT_collapse 56 = .ok (.if_icmp .eq 30, 3) := by decide +kernel
theorem dT_collapse_59 : decode cT_collapse 59 = .ok (.aload_n 0, 1) := by decide +kernel
theorem dT_collapse_60 : decode cT_collapse 60 = .ok (.getfield 17, 3) := by decide +kernel
theorem dT_collapse_63 : decode cT_collapse 63 = .ok (.iload 5, 2) := by decide +kernel
theorem dT_collapse_65 : decode cT_collapse 65 = .ok (.aaload, 1) := by decide +kernel
theorem dT_collapse_66 : decode cT_collapse 66 = .ok (.iload_n 2, 1) := by decide +kernel
theorem dT_collapse_67 : decode cT_collapse 67 = .ok (.invokevirtual 43, 3) := by decide +kernel
theorem dT_collapse_70 : decode cT_collapse 70 = .ok (.iconst 1, 1) := by decide +kernel
theorem dT_collapse_71 : decode cT_collapse 71 = .ok (.if_icmp .ne 15, 3) := by decide +kernel
theorem dT_collapse_74 : decode cT_collapse 74 = .ok (.aload_n 0, 1) := by decide +kernel
theorem dT_collapse_75 : decode cT_collapse 75 = .ok (.getfield 17, 3) := by decide +kernel
theorem dT_collapse_78 : decode cT_collapse 78 = .ok (.iload 5, 2) := by decide +kernel
theorem dT_collapse_80 : decode cT_collapse 80 = .ok (.aaload, 1) := by decide +kernel
theorem dT_collapse_81 : decode cT_collapse 81 = .ok (.aload 4, 2) := by decide +kernel
theorem dT_collapse_83 : decode cT_collapse 83 = .ok (.invokevirtual 55, 3) := by decide +kernel
theorem dT_collapse_86 : decode cT_collapse 86 = .ok (.iinc 5 1, 3) := by decide +kernel
theorem dT_collapse_89 : decode cT_collapse 89 = .ok (.goto (-78), 3) := by decide +kernel
theorem dT_collapse_92 : decode cT_collapse 92 = .ok (.aload_n 0, 1) := by decide +kernel
theorem dT_collapse_93 : decode cT_collapse 93 = .ok (.getfield 17, 3) := by decide +kernel
theorem dT_collapse_96 : decode cT_collapse 96 = .ok (.iload_n 1, 1) := by decide +kernel
theorem dT_collapse_97 : decode cT_collapse 97 = .ok (.aaload, 1) := by decide +kernel
theorem dT_collapse_98 : decode cT_collapse 98 = .ok (.aload 4, 2) := by decide +kernel
theorem dT_collapse_100 : decode cT_collapse 100 = .ok (.invokevirtual 59, 3) := by decide +kernel
theorem dT_collapse_103 : decode cT_collapse 103 = .ok (.aload 4, 2) := by decide +kernel
theorem dT_collapse_105 : decode cT_collapse 105 = .ok (.iconst 0, 1) := by decide +kernel
theorem dT_collapse_106 : decode cT_collapse 106 = .ok (.iconst 1, 1) := by decide +kernel
theorem dT_collapse_107 : decode cT_collapse 107 = .ok (.iload_n 2, 1) := by decide +kernel
theorem dT_collapse_108 : decode cT_collapse 108 = .ok (.ishl, 1) := by decide +kernel
theorem dT_collapse_109 : decode cT_collapse 109 = .ok (.invokevirtual 35, 3) := by decide +kernel
theorem dT_collapse_112 : decode cT_collapse 112 = .ok (.aload 4, 2) := by decide +kernel
theorem dT_collapse_114 : decode cT_collapse 114 = .ok (.lconst 1, 1) := by decide +kernel
theorem dT_collapse_115 : decode cT_collapse 115 = .ok (.iload_n 3, 1) := by decide +kernel
theorem dT_collapse_116 : decode cT_collapse 116 = .ok (.lshl, 1) := by decide +kernel
theorem dT_collapse_117 : decode cT_collapse 117 = .ok (.putfield 62, 3) := by decide +kernel
theorem dT_collapse_120 : decode cT_collapse 120 = .ok (.aload 4, 2) := by decide +kernel
theorem dT_collapse_122 : decode cT_collapse 122 = .ok (.areturn, 1) := by decide +kernel
theorem dT_zFromKeepers_0 : decode cT_zFromKeepers 0 = .ok (.aload_n 0, 1) := by decide +kernel
theorem dT_zFromKeepers_1 : decode cT_zFromKeepers 1 = .ok (.getfield 21, 3) := by decide +kernel
theorem dT_zFromKeepers_4 : decode cT_zFromKeepers 4 = .ok (.iconst 0, 1) := by decide +kernel
theorem dT_zFromKeepers_5 : decode cT_zFromKeepers 5 = .ok (.iconst 0, 1) := by decide +kernel
theorem dT_zFromKeepers_6 : decode cT_zFromKeepers 6 = .ok (.invokevirtual 35, 3) := by decide +kernel
theorem dT_zFromKeepers_9 : decode cT_zFromKeepers 9 = .ok (.iconst 0, 1) := by decide +kernel
theorem dT_zFromKeepers_10 : decode cT_zFromKeepers 10 = .ok (.istore_n 2, 1) := by decide +kernel
theorem dT_zFromKeepers_11 : decode cT_zFromKeepers 11 = .ok (.iload_n 2, 1) := by decide +kernel
theorem dT_zFromKeepers_12 : decode cT_zFromKeepers 12 = .ok (.aload_n 0, 1) := by decide +kernel
theorem dT_zFromKeepers_13 : decode cT_zFromKeepers 13 = .ok (.getfield 31, 3) := by decide +kernel
theorem dT_zFromKeepers_16 : decode cT_zFromKeepers 16 = .ok (.if_icmp .ge 36, 3) := by decide +kernel
theorem dT_zFromKeepers_19 : decode cT_zFromKeepers 19 = .ok (.aload_n 0, 1) := by decide +kernel
theorem dT_zFromKeepers_20 : decode cT_zFromKeepers 20 = .ok (.getfield 17, 3) := by decide +kernel
theorem dT_zFromKeepers_23 : decode cT_zFromKeepers 23 = .ok (.iload_n 2, 1) := by decide +kernel
theorem dT_zFromKeepers_24 : decode cT_zFromKeepers 24 = .ok (.aaload, 1) := by decide +kernel
theorem dT_zFromKeepers_25 : decode cT_zFromKeepers 25 = .ok (.iload_n 1, 1) := by decide +kernel
theorem dT_zFromKeepers_26 : decode cT_zFromKeepers 26 = .ok (.invokevirtual 43, 3) := by decide +kernel
theorem dT_zFromKeepers_29 : decode cT_zFromKeepers 29 = .ok (.iconst 1, 1) := by decide +kernel
theorem dT_zFromKeepers_30 : decode cT_zFromKeepers 30 = .ok (.if_icmp .ne 16, 3) := by decide +kernel
theorem dT_zFromKeepers_33 : decode cT_zFromKeepers 33 = .ok (.aload_n 0, 1) := by decide +kernel
theorem dT_zFromKeepers_34 : decode cT_zFromKeepers 34 = .ok (.getfield 21, 3) := by decide +kernel
theorem dT_zFromKeepers_37 : decode cT_zFromKeepers 37 = .ok (.aload_n 0, 1) := by decide +kernel
theorem dT_zFromKeepers_38 : decode cT_zFromKeepers 38 = .ok (.getfield 11, 3) := by decide +kernel
theorem dT_zFromKeepers_41 : decode cT_zFromKeepers 41 = .ok (.iload_n 2, 1) := by decide +kernel
theorem dT_zFromKeepers_42 : decode cT_zFromKeepers 42 = .ok (.aaload, 1) := by decide +kernel
theorem dT_zFromKeepers_43 : decode cT_zFromKeepers 43 = .ok (.invokevirtual 55, 3) := by decide +kernel
theorem dT_zFromKeepers_46 : decode cT_zFromKeepers 46 = .ok (.iinc 2 1, 3) := by decide +kernel
theorem dT_zFromKeepers_49 : decode cT_zFromKeepers 49 = .ok (.goto (-38), 3) := by decide +kernel
theorem dT_zFromKeepers_52 : decode cT_zFromKeepers 52 = .ok (.aload_n 0, 1) := by decide +kernel
theorem dT_zFromKeepers_53 : decode cT_zFromKeepers 53 = .ok (.getfield 21, 3) := by decide +kernel
theorem dT_zFromKeepers_56 : decode cT_zFromKeepers 56 = .ok (.areturn, 1) := by decide +kernel
theorem dT_flipIfTold_0 : decode cT_flipIfTold 0 = .ok (.iconst 0, 1) := by decide +kernel
theorem dT_flipIfTold_1 : decode cT_flipIfTold 1 = .ok (.istore 5, 2) := by decide +kernel
theorem dT_flipIfTold_3 : decode cT_flipIfTold 3 = .ok (.iload 5, 2) := by decide +kernel
theorem dT_flipIfTold_5 : decode cT_flipIfTold 5 = .ok (.aload_n 0, 1) := by decide +kernel
theorem dT_flipIfTold_6 : decode cT_flipIfTold 6 = .ok (.getfield 31, 3) := by decide +kernel
theorem dT_flipIfTold_9 : decode cT_flipIfTold 9 = .ok (.if_icmp .ge 56, 3) := by decide +kernel
theorem dT_flipIfTold_12 : decode cT_flipIfTold 12 = .ok (.aload_n 0, 1) := by decide +kernel
theorem dT_flipIfTold_13 : decode cT_flipIfTold 13 = .ok (.getfield 11, 3) := by decide +kernel
theorem dT_flipIfTold_16 : decode cT_flipIfTold 16 = .ok (.iload 5, 2) := by decide +kernel
theorem dT_flipIfTold_18 : decode cT_flipIfTold 18 = .ok (.aaload, 1) := by decide +kernel
theorem dT_flipIfTold_19 : decode cT_flipIfTold 19 = .ok (.iload_n 1, 1) := by decide +kernel
theorem dT_flipIfTold_20 : decode cT_flipIfTold 20 = .ok (.invokevirtual 66, 3) := by decide +kernel
theorem dT_flipIfTold_23 : decode cT_flipIfTold 23 = .ok (.iconst 1, 1) := by decide +kernel
theorem dT_flipIfTold_24 : decode cT_flipIfTold 24 = .ok (.if_icmp .ne 35, 3) := by decide +kernel
theorem dT_flipIfTold_27 : decode cT_flipIfTold 27 = .ok (.aload_n 0, 1) := by decide +kernel
theorem dT_flipIfTold_28 : decode cT_flipIfTold 28 = .ok (.getfield 11, 3) := by decide +kernel
theorem dT_flipIfTold_31 : decode cT_flipIfTold 31 = .ok (.iload 5, 2) := by decide +kernel
theorem dT_flipIfTold_33 : decode cT_flipIfTold 33 = .ok (.aaload, 1) := by decide +kernel
theorem dT_flipIfTold_34 : decode cT_flipIfTold 34 = .ok (.dup, 1) := by decide +kernel
theorem dT_flipIfTold_35 : decode cT_flipIfTold 35 = .ok (.getfield 69, 3) := by decide +kernel
theorem dT_flipIfTold_38 : decode cT_flipIfTold 38 = .ok (.iload_n 2, 1) := by decide +kernel
theorem dT_flipIfTold_39 : decode cT_flipIfTold 39 = .ok (.ixor, 1) := by decide +kernel
theorem dT_flipIfTold_40 : decode cT_flipIfTold 40 = .ok (.putfield 69, 3) := by decide +kernel
theorem dT_flipIfTold_43 : decode cT_flipIfTold 43 = .ok (.aload_n 0, 1) := by decide +kernel
theorem dT_flipIfTold_44 : decode cT_flipIfTold 44 = .ok (.getfield 11, 3) := by decide +kernel
theorem dT_flipIfTold_47 : decode cT_flipIfTold 47 = .ok (.iload 5, 2) := by decide +kernel
theorem dT_flipIfTold_49 : decode cT_flipIfTold 49 = .ok (.aaload, 1) := by decide +kernel
theorem dT_flipIfTold_50 : decode cT_flipIfTold 50 = .ok (.dup, 1) := by decide +kernel
theorem dT_flipIfTold_51 : decode cT_flipIfTold 51 = .ok (.getfield 62, 3) := by decide +kernel
theorem dT_flipIfTold_54 : decode cT_flipIfTold 54 = .ok (.lload_n 3, 1) := by decide +kernel
theorem dT_flipIfTold_55 : decode cT_flipIfTold 55 = .ok (.lxor, 1) := by decide +kernel
theorem dT_flipIfTold_56 : decode cT_flipIfTold 56 = .ok (.putfield 62, 3) := by decide +kernel
theorem dT_flipIfTold_59 : decode cT_flipIfTold 59 = .ok (.iinc 5 1, 3) := by decide +kernel
theorem dT_flipIfTold_62 : decode cT_flipIfTold 62 = .ok (.goto (-59), 3) := by decide +kernel
theorem dT_flipIfTold_65 : decode cT_flipIfTold 65 = .ok (.return_, 1) := by decide +kernel
theorem dF_meetLook_0 : decode cF_meetLook 0 = .ok (.aload_n 0, 1) := by decide +kernel
theorem dF_meetLook_1 : decode cF_meetLook 1 = .ok (.dup, 1) := by decide +kernel
theorem dF_meetLook_2 : decode cF_meetLook 2 = .ok (.getfield 26, 3) := by decide +kernel
theorem dF_meetLook_5 : decode cF_meetLook 5 = .ok (.aload_n 0, 1) := by decide +kernel
theorem dF_meetLook_6 : decode cF_meetLook 6 = .ok (.getfield 12, 3) := by decide +kernel
theorem dF_meetLook_9 : decode cF_meetLook 9 = .ok (.iload_n 1, 1) := by decide +kernel
theorem dF_meetLook_10 : decode cF_meetLook 10 = .ok (.invokevirtual 33, 3) := by decide +kernel
theorem dF_meetLook_13 : decode cF_meetLook 13 = .ok (.i2l, 1) := by decide +kernel
theorem dF_meetLook_14 : decode cF_meetLook 14 = .ok (.iload_n 2, 1) := by decide +kernel
theorem dF_meetLook_15 : decode cF_meetLook 15 = .ok (.lshl, 1) := by decide +kernel
theorem dF_meetLook_16 : decode cF_meetLook 16 = .ok (.lor, 1) := by decide +kernel
theorem dF_meetLook_17 : decode cF_meetLook 17 = .ok (.putfield 26, 3) := by decide +kernel
theorem dF_meetLook_20 : decode cF_meetLook 20 = .ok (.aload_n 0, 1) := by decide +kernel
theorem dF_meetLook_21 : decode cF_meetLook 21 = .ok (.getfield 12, 3) := by decide +kernel
theorem dF_meetLook_24 : decode cF_meetLook 24 = .ok (.dup, 1) := by decide +kernel
theorem dF_meetLook_25 : decode cF_meetLook 25 = .ok (.getfield 37, 3) := by decide +kernel
theorem dF_meetLook_28 : decode cF_meetLook 28 = .ok (.iconst 1, 1) := by decide +kernel
theorem dF_meetLook_29 : decode cF_meetLook 29 = .ok (.iload_n 1, 1) := by decide +kernel
theorem dF_meetLook_30 : decode cF_meetLook 30 = .ok (.ishl, 1) := by decide +kernel
theorem dF_meetLook_31 : decode cF_meetLook 31 = .ok (.iconst (-1), 1) := by decide +kernel
theorem dF_meetLook_32 : decode cF_meetLook 32 = .ok (.ixor, 1) := by decide +kernel
theorem dF_meetLook_33 : decode cF_meetLook 33 = .ok (.iand, 1) := by decide +kernel
theorem dF_meetLook_34 : decode cF_meetLook 34 = .ok (.putfield 37, 3) := by decide +kernel
theorem dF_meetLook_37 : decode cF_meetLook 37 = .ok (.iload_n 3, 1) := by decide +kernel
theorem dF_meetLook_38 : decode cF_meetLook 38 = .ok (.ifCond .eq 20, 3) := by decide +kernel
theorem dF_meetLook_41 : decode cF_meetLook 41 = .ok (.aload_n 0, 1) := by decide +kernel
theorem dF_meetLook_42 : decode cF_meetLook 42 = .ok (.getfield 12, 3) := by decide +kernel
theorem dF_meetLook_45 : decode cF_meetLook 45 = .ok (.dup, 1) := by decide +kernel
theorem dF_meetLook_46 : decode cF_meetLook 46 = .ok (.getfield 40, 3) := by decide +kernel
theorem dF_meetLook_49 : decode cF_meetLook 49 = .ok (.iconst 1, 1) := by decide +kernel
theorem dF_meetLook_50 : decode cF_meetLook 50 = .ok (.iload_n 1, 1) := by decide +kernel
theorem dF_meetLook_51 : decode cF_meetLook 51 = .ok (.ishl, 1) := by decide +kernel
theorem dF_meetLook_52 : decode cF_meetLook 52 = .ok (.iconst (-1), 1) := by decide +kernel
theorem dF_meetLook_53 : decode cF_meetLook 53 = .ok (.ixor, 1) := by decide +kernel
theorem dF_meetLook_54 : decode cF_meetLook 54 = .ok (.iand, 1) := by decide +kernel
theorem dF_meetLook_55 : decode cF_meetLook 55 = .ok (.putfield 40, 3) := by decide +kernel
theorem dF_meetLook_58 : decode cF_meetLook 58 = .ok (.return_, 1) := by decide +kernel
theorem dF_start_0 : decode cF_start 0 = .ok (.iload_n 1, 1) := by decide +kernel
theorem dF_start_1 : decode cF_start 1 = .ok (.ifCond .eq 8, 3) := by decide +kernel
theorem dF_start_4 : decode cF_start 4 = .ok (.iload_n 1, 1) := by decide +kernel
theorem dF_start_5 : decode cF_start 5 = .ok (.iconst 1, 1) := by decide +kernel
theorem dF_start_6 : decode cF_start 6 = .ok (.if_icmp .ne 9, 3) := by decide +kernel
theorem dF_start_9 : decode cF_start 9 = .ok (.iconst 1, 1) := by decide +kernel
theorem dF_start_10 : decode cF_start 10 = .ok (.iload_n 2, 1) := by decide +kernel
theorem dF_start_11 : decode cF_start 11 = .ok (.ishl, 1) := by decide +kernel
theorem dF_start_12 : decode cF_start 12 = .ok (.goto 4, 3) := by decide +kernel
theorem dF_start_15 : decode cF_start 15 = .ok (.iconst 0, 1) := by decide +kernel
theorem dF_start_16 : decode cF_start 16 = .ok (.istore 4, 2) := by decide +kernel
theorem dF_start_18 : decode cF_start 18 = .ok (.iload_n 1, 1) := by decide +kernel
theorem dF_start_19 : decode cF_start 19 = .ok (.iconst 2, 1) := by decide +kernel
theorem dF_start_20 : decode cF_start 20 = .ok (.if_icmp .eq 8, 3) := by decide +kernel
theorem dF_start_23 : decode cF_start 23 = .ok (.iload_n 1, 1) := by decide +kernel
theorem dF_start_24 : decode cF_start 24 = .ok (.iconst 1, 1) := by decide +kernel
theorem dF_start_25 : decode cF_start 25 = .ok (.if_icmp .ne 9, 3) := by decide +kernel
theorem dF_start_28 : decode cF_start 28 = .ok (.iconst 1, 1) := by decide +kernel
theorem dF_start_29 : decode cF_start 29 = .ok (.iload_n 2, 1) := by decide +kernel
theorem dF_start_30 : decode cF_start 30 = .ok (.ishl, 1) := by decide +kernel
theorem dF_start_31 : decode cF_start 31 = .ok (.goto 4, 3) := by decide +kernel
theorem dF_start_34 : decode cF_start 34 = .ok (.iconst 0, 1) := by decide +kernel
theorem dF_start_35 : decode cF_start 35 = .ok (.istore 5, 2) := by decide +kernel
theorem dF_start_37 : decode cF_start 37 = .ok (.aload_n 0, 1) := by decide +kernel
theorem dF_start_38 : decode cF_start 38 = .ok (.getfield 12, 3) := by decide +kernel
theorem dF_start_41 : decode cF_start 41 = .ok (.iload 4, 2) := by decide +kernel
theorem dF_start_43 : decode cF_start 43 = .ok (.iload 5, 2) := by decide +kernel
theorem dF_start_45 : decode cF_start 45 = .ok (.invokevirtual 18, 3) := by decide +kernel
theorem dF_start_48 : decode cF_start 48 = .ok (.aload_n 0, 1) := by decide +kernel
theorem dF_start_49 : decode cF_start 49 = .ok (.iload_n 3, 1) := by decide +kernel
theorem dF_start_50 : decode cF_start 50 = .ok (.putfield 22, 3) := by decide +kernel
theorem dF_start_53 : decode cF_start 53 = .ok (.aload_n 0, 1) := by decide +kernel
theorem dF_start_54 : decode cF_start 54 = .ok (.lconst 0, 1) := by decide +kernel
theorem dF_start_55 : decode cF_start 55 = .ok (.putfield 26, 3) := by decide +kernel
theorem dF_start_58 : decode cF_start 58 = .ok (.aload_n 0, 1) := by decide +kernel
theorem dF_start_59 : decode cF_start 59 = .ok (.iconst 0, 1) := by decide +kernel
theorem dF_start_60 : decode cF_start 60 = .ok (.putfield 30, 3) := by decide +kernel
theorem dF_start_63 : decode cF_start 63 = .ok (.return_, 1) := by decide +kernel
theorem dF_meetCheck_0 : decode cF_meetCheck 0 = .ok (.aload_n 0, 1) := by decide +kernel
theorem dF_meetCheck_1 : decode cF_meetCheck 1 = .ok (.dup, 1) := by decide +kernel
theorem dF_meetCheck_2 : decode cF_meetCheck 2 = .ok (.getfield 30, 3) := by decide +kernel
theorem dF_meetCheck_5 : decode cF_meetCheck 5 = .ok (.aload_n 0, 1) := by decide +kernel
theorem dF_meetCheck_6 : decode cF_meetCheck 6 = .ok (.getfield 26, 3) := by decide +kernel
theorem dF_meetCheck_9 : decode cF_meetCheck 9 = .ok (.lload_n 2, 1) := by decide +kernel
theorem dF_meetCheck_10 : decode cF_meetCheck 10 = .ok (.land, 1) := by decide +kernel
theorem dF_meetCheck_11 : decode cF_meetCheck 11 = .ok (.invokestatic 43, 3) := by decide +kernel
theorem dF_meetCheck_14 : decode cF_meetCheck 14 = .ok (.iload_n 1, 1) := by decide +kernel
theorem dF_meetCheck_15 : decode cF_meetCheck 15 = .ok (.ishl, 1) := by decide +kernel
theorem dF_meetCheck_16 : decode cF_meetCheck 16 = .ok (.ior, 1) := by decide +kernel
theorem dF_meetCheck_17 : decode cF_meetCheck 17 = .ok (.putfield 30, 3) := by decide +kernel
theorem dF_meetCheck_20 : decode cF_meetCheck 20 = .ok (.return_, 1) := by decide +kernel
end
section
theorem dS_init_0 : decode cS_init 0 = .ok (.aload_n 0, 1) := by decide +kernel
theorem dS_init_1 : decode cS_init 1 = .ok (.invokespecial 1, 3) := by decide +kernel
theorem dS_init_4 : decode cS_init 4 = .ok (.aload_n 0, 1) := by decide +kernel
theorem dS_init_5 : decode cS_init 5 = .ok (.new 7, 3) := by decide +kernel
theorem dS_init_8 : decode cS_init 8 = .ok (.dup, 1) := by decide +kernel
theorem dS_init_9 : decode cS_init 9 = .ok (.invokespecial 9, 3) := by decide +kernel
theorem dS_init_12 : decode cS_init 12 = .ok (.putfield 10, 3) := by decide +kernel
theorem dS_init_15 : decode cS_init 15 = .ok (.aload_n 0, 1) := by decide +kernel
theorem dS_init_16 : decode cS_init 16 = .ok (.bipush 60, 2) := by decide +kernel
theorem dS_init_18 : decode cS_init 18 = .ok (.newarray .int, 2) := by decide +kernel
theorem dS_init_20 : decode cS_init 20 = .ok (.putfield 16, 3) := by decide +kernel
theorem dS_init_23 : decode cS_init 23 = .ok (.aload_n 0, 1) := by decide +kernel
theorem dS_init_24 : decode cS_init 24 = .ok (.bipush 60, 2) := by decide +kernel
theorem dS_init_26 : decode cS_init 26 = .ok (.newarray .long, 2) := by decide +kernel
theorem dS_init_28 : decode cS_init 28 = .ok (.putfield 20, 3) := by decide +kernel
theorem dS_init_31 : decode cS_init 31 = .ok (.aload_n 0, 1) := by decide +kernel
theorem dS_init_32 : decode cS_init 32 = .ok (.bipush 40, 2) := by decide +kernel
theorem dS_init_34 : decode cS_init 34 = .ok (.anewarray 24, 3) := by decide +kernel
theorem dS_init_37 : decode cS_init 37 = .ok (.putfield 26, 3) := by decide +kernel
theorem dS_init_40 : decode cS_init 40 = .ok (.iconst 0, 1) := by decide +kernel
theorem dS_init_41 : decode cS_init 41 = .ok (.istore_n 1, 1) := by decide +kernel
theorem dS_init_42 : decode cS_init 42 = .ok (.iload_n 1, 1) := by decide +kernel
theorem dS_init_43 : decode cS_init 43 = .ok (.bipush 40, 2) := by decide +kernel
theorem dS_init_45 : decode cS_init 45 = .ok (.if_icmp .ge 22, 3) := by decide +kernel
theorem dS_init_48 : decode cS_init 48 = .ok (.aload_n 0, 1) := by decide +kernel
theorem dS_init_49 : decode cS_init 49 = .ok (.getfield 26, 3) := by decide +kernel
theorem dS_init_52 : decode cS_init 52 = .ok (.iload_n 1, 1) := by decide +kernel
theorem dS_init_53 : decode cS_init 53 = .ok (.new 24, 3) := by decide +kernel
theorem dS_init_56 : decode cS_init 56 = .ok (.dup, 1) := by decide +kernel
theorem dS_init_57 : decode cS_init 57 = .ok (.invokespecial 30, 3) := by decide +kernel
theorem dS_init_60 : decode cS_init 60 = .ok (.aastore, 1) := by decide +kernel
theorem dS_init_61 : decode cS_init 61 = .ok (.iinc 1 1, 3) := by decide +kernel
theorem dS_init_64 : decode cS_init 64 = .ok (.goto (-22), 3) := by decide +kernel
theorem dS_init_67 : decode cS_init 67 = .ok (.aload_n 0, 1) := by decide +kernel
theorem dS_init_68 : decode cS_init 68 = .ok (.bipush 16, 2) := by decide +kernel
theorem dS_init_70 : decode cS_init 70 = .ok (.newarray .int, 2) := by decide +kernel
theorem dS_init_72 : decode cS_init 72 = .ok (.putfield 31, 3) := by decide +kernel
theorem dS_init_75 : decode cS_init 75 = .ok (.aload_n 0, 1) := by decide +kernel
theorem dS_init_76 : decode cS_init 76 = .ok (.bipush 16, 2) := by decide +kernel
theorem dS_init_78 : decode cS_init 78 = .ok (.newarray .long, 2) := by decide +kernel
theorem dS_init_80 : decode cS_init 80 = .ok (.putfield 34, 3) := by decide +kernel
theorem dS_init_83 : decode cS_init 83 = .ok (.aload_n 0, 1) := by decide +kernel
theorem dS_init_84 : decode cS_init 84 = .ok (.iconst 1, 1) := by decide +kernel
theorem dS_init_85 : decode cS_init 85 = .ok (.invokevirtual 37, 3) := by decide +kernel
theorem dS_init_88 : decode cS_init 88 = .ok (.return_, 1) := by decide +kernel
theorem dS_startOver_0 : decode cS_startOver 0 = .ok (.aload_n 0, 1) := by decide +kernel
theorem dS_startOver_1 : decode cS_startOver 1 = .ok (.getfield 10, 3) := by decide +kernel
theorem dS_startOver_4 : decode cS_startOver 4 = .ok (.iload_n 1, 1) := by decide +kernel
theorem dS_startOver_5 : decode cS_startOver 5 = .ok (.invokevirtual 136, 3) := by decide +kernel
theorem dS_startOver_8 : decode cS_startOver 8 = .ok (.aload_n 0, 1) := by decide +kernel
theorem dS_startOver_9 : decode cS_startOver 9 = .ok (.iload_n 1, 1) := by decide +kernel
theorem dS_startOver_10 : decode cS_startOver 10 = .ok (.putfield 129, 3) := by decide +kernel
theorem dS_startOver_13 : decode cS_startOver 13 = .ok (.aload_n 0, 1) := by decide +kernel
theorem dS_startOver_14 : decode cS_startOver 14 = .ok (.iconst 0, 1) := by decide +kernel
theorem dS_startOver_15 : decode cS_startOver 15 = .ok (.putfield 45, 3) := by decide +kernel
theorem dS_startOver_18 : decode cS_startOver 18 = .ok (.aload_n 0, 1) := by decide +kernel
theorem dS_startOver_19 : decode cS_startOver 19 = .ok (.iconst 0, 1) := by decide +kernel
theorem dS_startOver_20 : decode cS_startOver 20 = .ok (.putfield 66, 3) := by decide +kernel
theorem dS_startOver_23 : decode cS_startOver 23 = .ok (.aload_n 0, 1) := by decide +kernel
theorem dS_startOver_24 : decode cS_startOver 24 = .ok (.iconst 0, 1) := by decide +kernel
theorem dS_startOver_25 : decode cS_startOver 25 = .ok (.putfield 56, 3) := by decide +kernel
theorem dS_startOver_28 : decode cS_startOver 28 = .ok (.aload_n 0, 1) := by decide +kernel
theorem dS_startOver_29 : decode cS_startOver 29 = .ok (.iconst 0, 1) := by decide +kernel
theorem dS_startOver_30 : decode cS_startOver 30 = .ok (.putfield 91, 3) := by decide +kernel
theorem dS_startOver_33 : decode cS_startOver 33 = .ok (.return_, 1) := by decide +kernel
theorem dS_begin_0 : decode cS_begin 0 = .ok (.iload_n 1, 1) := by decide +kernel
theorem dS_begin_1 : decode cS_begin 1 = .ok (.iconst 1, 1) := by decide +kernel
theorem dS_begin_2 : decode cS_begin 2 = .ok (.if_icmp .lt 9, 3) := by decide +kernel
theorem dS_begin_5 : decode cS_begin 5 = .ok (.iload_n 1, 1) := by decide +kernel
theorem dS_begin_6 : decode cS_begin 6 = .ok (.bipush 10, 2) := by decide +kernel
theorem dS_begin_8 : decode cS_begin 8 = .ok (.if_icmp .le 5, 3) := by decide +kernel
theorem dS_begin_11 : decode cS_begin 11 = .ok (.iconst 0, 1) := by decide +kernel
theorem dS_begin_12 : decode cS_begin 12 = .ok (.ireturn, 1) := by decide +kernel
theorem dS_begin_13 : decode cS_begin 13 = .ok (.aload_n 0, 1) := by decide +kernel
theorem dS_begin_14 : decode cS_begin 14 = .ok (.iload_n 1, 1) := by decide +kernel
theorem dS_begin_15 : decode cS_begin 15 = .ok (.invokevirtual 37, 3) := by decide +kernel
theorem dS_begin_18 : decode cS_begin 18 = .ok (.iconst 1, 1) := by decide +kernel
theorem dS_begin_19 : decode cS_begin 19 = .ok (.ireturn, 1) := by decide +kernel
theorem dS_gate_0 : decode cS_gate 0 = .ok (.iload_n 1, 1) := by decide +kernel
theorem dS_gate_1 : decode cS_gate 1 = .ok (.ifCond .lt 27, 3) := by decide +kernel
theorem dS_gate_4 : decode cS_gate 4 = .ok (.iload_n 1, 1) := by decide +kernel
theorem dS_gate_5 : decode cS_gate 5 = .ok (.bipush 6, 2) := by decide +kernel
theorem dS_gate_7 : decode cS_gate 7 = .ok (.if_icmp .gt 21, 3) := by decide +kernel
theorem dS_gate_10 : decode cS_gate 10 = .ok (.aload_n 0, 1) := by decide +kernel
theorem dS_gate_11 : decode cS_gate 11 = .ok (.iload_n 2, 1) := by decide +kernel
theorem dS_gate_12 : decode cS_gate 12 = .ok (.invokevirtual 41, 3) := by decide +kernel
theorem dS_gate_15 : decode cS_gate 15 = .ok (.ifCond .eq 13, 3) := by decide +kernel
theorem dS_gate_18 : decode cS_gate 18 = .ok (.aload_n 0, 1) := by decide +kernel
theorem dS_gate_19 : decode cS_gate 19 = .ok (.getfield 45, 3) := by decide +kernel
theorem dS_gate_22 : decode cS_gate 22 = .ok (.sipush 300, 3) := by decide +kernel
theorem dS_gate_25 : decode cS_gate 25 = .ok (.if_icmp .lt 5, 3) := by decide +kernel
theorem dS_gate_28 : decode cS_gate 28 = .ok (.iconst 0, 1) := by decide +kernel
theorem dS_gate_29 : decode cS_gate 29 = .ok (.ireturn, 1) := by decide +kernel
theorem dS_gate_30 : decode cS_gate 30 = .ok (.iload_n 1, 1) := by decide +kernel
theorem dS_gate_31 : decode cS_gate 31 = .ok (.invokestatic 49, 3) := by decide +kernel
theorem dS_gate_34 : decode cS_gate 34 = .ok (.ifCond .eq 18, 3) := by decide +kernel
theorem dS_gate_37 : decode cS_gate 37 = .ok (.aload_n 0, 1) := by decide +kernel
theorem dS_gate_38 : decode cS_gate 38 = .ok (.iload_n 3, 1) := by decide +kernel
theorem dS_gate_39 : decode cS_gate 39 = .ok (.invokevirtual 41, 3) := by decide +kernel
theorem dS_gate_42 : decode cS_gate 42 = .ok (.ifCond .eq 8, 3) := by decide +kernel
theorem dS_gate_45 : decode cS_gate 45 = .ok (.iload_n 2, 1) := by decide +kernel
theorem dS_gate_46 : decode cS_gate 46 = .ok (.iload_n 3, 1) := by decide +kernel
theorem dS_gate_47 : decode cS_gate 47 = .ok (.if_icmp .ne 5, 3) := by decide +kernel
theorem dS_gate_50 : decode cS_gate 50 = .ok (.iconst 0, 1) := by decide +kernel
theorem dS_gate_51 : decode cS_gate 51 = .ok (.ireturn, 1) := by decide +kernel
theorem dS_gate_52 : decode cS_gate 52 = .ok (.aload_n 0, 1) := by decide +kernel
theorem dS_gate_53 : decode cS_gate 53 = .ok (.getfield 10, 3) := by decide +kernel
theorem dS_gate_56 : decode cS_gate 56 = .ok (.iload_n 1, 1) := by decide +kernel
theorem dS_gate_57 : decode cS_gate 57 = .ok (.iload_n 2, 1) := by decide +kernel
theorem dS_gate_58 : decode cS_gate 58 = .ok (.iload_n 3, 1) := by decide +kernel
theorem dS_gate_59 : decode cS_gate 59 = .ok (.invokevirtual 52, 3) := by decide +kernel
theorem dS_gate_62 : decode cS_gate 62 = .ok (.iconst 0, 1) := by decide +kernel
theorem dS_gate_63 : decode cS_gate 63 = .ok (.istore 4, 2) := by decide +kernel
theorem dS_gate_65 : decode cS_gate 65 = .ok (.iload 4, 2) := by decide +kernel
theorem dS_gate_67 : decode cS_gate 67 = .ok (.aload_n 0, 1) := by decide +kernel
theorem dS_gate_68 : decode cS_gate 68 = .ok (.getfield 56, 3) := by decide +kernel
theorem dS_gate_71 : decode cS_gate 71 = .ok (.if_icmp .ge 25, 3) := by decide +kernel
theorem dS_gate_74 : decode cS_gate 74 = .ok (.aload_n 0, 1) := by decide +kernel
theorem dS_gate_75 : decode cS_gate 75 = .ok (.getfield 26, 3) := by decide +kernel
theorem dS_gate_78 : decode cS_gate 78 = .ok (.iload 4, 2) := by decide +kernel
theorem dS_gate_80 : decode cS_gate 80 = .ok (.aaload, 1) := by decide +kernel
theorem dS_gate_81 : decode cS_gate 81 = .ok (.getfield 59, 3) := by decide +kernel
theorem dS_gate_84 : decode cS_gate 84 = .ok (.iload_n 1, 1) := by decide +kernel
theorem dS_gate_85 : decode cS_gate 85 = .ok (.iload_n 2, 1) := by decide +kernel
theorem dS_gate_86 : decode cS_gate 86 = .ok (.iload_n 3, 1) := by decide +kernel
theorem dS_gate_87 : decode cS_gate 87 = .ok (.invokevirtual 63, 3) := by decide +kernel
theorem dS_gate_90 : decode cS_gate 90 = .ok (.iinc 4 1, 3) := by decide +kernel
theorem dS_gate_93 : decode cS_gate 93 = .ok (.goto (-28), 3) := by decide +kernel
theorem dS_gate_96 : decode cS_gate 96 = .ok (.aload_n 0, 1) := by decide +kernel
theorem dS_gate_97 : decode cS_gate 97 = .ok (.dup, 1) := by decide +kernel
theorem dS_gate_98 : decode cS_gate 98 = .ok (.getfield 45, 3) := by decide +kernel
theorem dS_gate_101 : decode cS_gate 101 = .ok (.iconst 1, 1) := by decide +kernel
theorem dS_gate_102 : decode cS_gate 102 = .ok (.iadd, 1) := by decide +kernel
theorem dS_gate_103 : decode cS_gate 103 = .ok (.putfield 45, 3) := by decide +kernel
theorem dS_gate_106 : decode cS_gate 106 = .ok (.iconst 1, 1) := by decide +kernel
theorem dS_gate_107 : decode cS_gate 107 = .ok (.ireturn, 1) := by decide +kernel
theorem dS_isWire_0 : decode cS_isWire 0 = .ok (.iload_n 1, 1) := by decide +kernel
theorem dS_isWire_1 : decode cS_isWire 1 = .ok (.ifCond .lt 15, 3) := by decide +kernel
theorem dS_isWire_4 : decode cS_isWire 4 = .ok (.iload_n 1, 1) := by decide +kernel
theorem dS_isWire_5 : decode cS_isWire 5 = .ok (.aload_n 0, 1) := by decide +kernel
theorem dS_isWire_6 : decode cS_isWire 6 = .ok (.getfield 129, 3) := by decide +kernel
theorem dS_isWire_9 : decode cS_isWire 9 = .ok (.if_icmp .ge 7, 3) := by decide +kernel
theorem dS_isWire_12 : decode cS_isWire 12 = .ok (.iconst 1, 1) := by decide +kernel
theorem dS_isWire_13 : decode cS_isWire 13 = .ok (.goto 4, 3) := by decide +kernel
theorem dS_isWire_16 : decode cS_isWire 16 = .ok (.iconst 0, 1) := by decide +kernel
theorem dS_isWire_17 : decode cS_isWire 17 = .ok (.ireturn, 1) := by decide +kernel
theorem dS_hasTwoWires_0 : decode cS_hasTwoWires 0 = .ok (.iload_n 0, 1) := by decide +kernel
theorem dS_hasTwoWires_1 : decode cS_hasTwoWires 1 = .ok (.iconst 2, 1) := by decide +kernel
theorem dS_hasTwoWires_2 : decode cS_hasTwoWires 2 = .ok (.if_icmp .eq 13, 3) := by decide +kernel
theorem dS_hasTwoWires_5 : decode cS_hasTwoWires 5 = .ok (.iload_n 0, 1) := by decide +kernel
theorem dS_hasTwoWires_6 : decode cS_hasTwoWires 6 = .ok (.iconst 3, 1) := by decide +kernel
theorem dS_hasTwoWires_7 : decode cS_hasTwoWires 7 = .ok (.if_icmp .eq 8, 3) := by decide +kernel
theorem dS_hasTwoWires_10 : decode cS_hasTwoWires 10 = .ok (.iload_n 0, 1) := by decide +kernel
theorem dS_hasTwoWires_11 : decode cS_hasTwoWires 11 = .ok (.iconst 4, 1) := by decide +kernel
theorem dS_hasTwoWires_12 : decode cS_hasTwoWires 12 = .ok (.if_icmp .ne 7, 3) := by decide +kernel
theorem dS_hasTwoWires_15 : decode cS_hasTwoWires 15 = .ok (.iconst 1, 1) := by decide +kernel
theorem dS_hasTwoWires_16 : decode cS_hasTwoWires 16 = .ok (.goto 4, 3) := by decide +kernel
theorem dS_hasTwoWires_19 : decode cS_hasTwoWires 19 = .ok (.iconst 0, 1) := by decide +kernel
theorem dS_hasTwoWires_20 : decode cS_hasTwoWires 20 = .ok (.ireturn, 1) := by decide +kernel
theorem dS_look_0 : decode cS_look 0 = .ok (.aload_n 0, 1) := by decide +kernel
theorem dS_look_1 : decode cS_look 1 = .ok (.iload_n 1, 1) := by decide +kernel
theorem dS_look_2 : decode cS_look 2 = .ok (.invokevirtual 41, 3) := by decide +kernel
theorem dS_look_5 : decode cS_look 5 = .ok (.ifCond .eq 22, 3) := by decide +kernel
theorem dS_look_8 : decode cS_look 8 = .ok (.aload_n 0, 1) := by decide +kernel
theorem dS_look_9 : decode cS_look 9 = .ok (.getfield 66, 3) := by decide +kernel
theorem dS_look_12 : decode cS_look 12 = .ok (.bipush 60, 2) := by decide +kernel
theorem dS_look_14 : decode cS_look 14 = .ok (.if_icmp .ge 13, 3) := by decide +kernel
theorem dS_look_17 : decode cS_look 17 = .ok (.aload_n 0, 1) := by decide +kernel
theorem dS_look_18 : decode cS_look 18 = .ok (.getfield 45, 3) := by decide +kernel
theorem dS_look_21 : decode cS_look 21 = .ok (.sipush 300, 3) := by decide +kernel
theorem dS_look_24 : decode cS_look 24 = .ok (.if_icmp .lt 5, 3) := by decide +kernel
theorem dS_look_27 : decode cS_look 27 = .ok (.iconst (-1), 1) := by decide +kernel
theorem dS_look_28 : decode cS_look 28 = .ok (.ireturn, 1) := by decide +kernel
theorem dS_look_29 : decode cS_look 29 = .ok (.aload_n 0, 1) := by decide +kernel
theorem dS_look_30 : decode cS_look 30 = .ok (.getfield 66, 3) := by decide +kernel
theorem dS_look_33 : decode cS_look 33 = .ok (.istore_n 3, 1) := by decide +kernel
theorem dS_look_34 : decode cS_look 34 = .ok (.aload_n 0, 1) := by decide +kernel
theorem dS_look_35 : decode cS_look 35 = .ok (.getfield 10, 3) := by decide +kernel
theorem dS_look_38 : decode cS_look 38 = .ok (.iload_n 1, 1) := by decide +kernel
theorem dS_look_39 : decode cS_look 39 = .ok (.iload_n 3, 1) := by decide +kernel
theorem dS_look_40 : decode cS_look 40 = .ok (.invokevirtual 69, 3) := by decide +kernel
theorem dS_look_43 : decode cS_look 43 = .ok (.astore 4, 2) := by decide +kernel
theorem dS_look_45 : decode cS_look 45 = .ok (.aload_n 0, 1) := by decide +kernel
theorem dS_look_46 : decode cS_look 46 = .ok (.getfield 16, 3) := by decide +kernel
theorem dS_look_49 : decode cS_look 49 = .ok (.iload_n 3, 1) := by decide +kernel
theorem dS_look_50 : decode cS_look 50 = .ok (.aload 4, 2) := by decide +kernel
theorem dS_look_52 : decode cS_look 52 = .ok (.getfield 73, 3) := by decide +kernel
theorem dS_look_55 : decode cS_look 55 = .ok (.iastore, 1) := by decide +kernel
theorem dS_look_56 : decode cS_look 56 = .ok (.aload_n 0, 1) := by decide +kernel
theorem dS_look_57 : decode cS_look 57 = .ok (.getfield 20, 3) := by decide +kernel
theorem dS_look_60 : decode cS_look 60 = .ok (.iload_n 3, 1) := by decide +kernel
theorem dS_look_61 : decode cS_look 61 = .ok (.aload 4, 2) := by decide +kernel
theorem dS_look_63 : decode cS_look 63 = .ok (.getfield 76, 3) := by decide +kernel
theorem dS_look_66 : decode cS_look 66 = .ok (.lastore, 1) := by decide +kernel
theorem dS_look_67 : decode cS_look 67 = .ok (.iload_n 2, 1) := by decide +kernel
theorem dS_look_68 : decode cS_look 68 = .ok (.ifCond .eq 23, 3) := by decide +kernel
theorem dS_look_71 : decode cS_look 71 = .ok (.aload_n 0, 1) := by decide +kernel
theorem dS_look_72 : decode cS_look 72 = .ok (.getfield 10, 3) := by decide +kernel
theorem dS_look_75 : decode cS_look 75 = .ok (.iload_n 1, 1) := by decide +kernel
theorem dS_look_76 : decode cS_look 76 = .ok (.aload_n 0, 1) := by decide +kernel
theorem dS_look_77 : decode cS_look 77 = .ok (.getfield 16, 3) := by decide +kernel
theorem dS_look_80 : decode cS_look 80 = .ok (.iload_n 3, 1) := by decide +kernel
theorem dS_look_81 : decode cS_look 81 = .ok (.iaload, 1) := by decide +kernel
theorem dS_look_82 : decode cS_look 82 = .ok (.aload_n 0, 1) := by decide +kernel
theorem dS_look_83 : decode cS_look 83 = .ok (.getfield 20, 3) := by decide +kernel
theorem dS_look_86 : decode cS_look 86 = .ok (.iload_n 3, 1) := by decide +kernel
theorem dS_look_87 : decode cS_look 87 = .ok (.laload, 1) := by decide +kernel
theorem dS_look_88 : decode cS_look 88 = .ok (.invokevirtual 80, 3) := by decide +kernel
theorem dS_look_91 : decode cS_look 91 = .ok (.iconst 0, 1) := by decide +kernel
theorem dS_look_92 : decode cS_look 92 = .ok (.istore 5, 2) := by decide +kernel
theorem dS_look_94 : decode cS_look 94 = .ok (.iload 5, 2) := by decide +kernel
theorem dS_look_96 : decode cS_look 96 = .ok (.aload_n 0, 1) := by decide +kernel
theorem dS_look_97 : decode cS_look 97 = .ok (.getfield 56, 3) := by decide +kernel
theorem dS_look_100 : decode cS_look 100 = .ok (.if_icmp .ge 22, 3) := by decide +kernel
theorem dS_look_103 : decode cS_look 103 = .ok (.aload_n 0, 1) := by decide +kernel
theorem dS_look_104 : decode cS_look 104 = .ok (.getfield 26, 3) := by decide +kernel
theorem dS_look_107 : decode cS_look 107 = .ok (.iload 5, 2) := by decide +kernel
theorem dS_look_109 : decode cS_look 109 = .ok (.aaload, 1) := by decide +kernel
theorem dS_look_110 : decode cS_look 110 = .ok (.iload_n 1, 1) := by decide +kernel
theorem dS_look_111 : decode cS_look 111 = .ok (.iload_n 3, 1) := by decide +kernel
theorem dS_look_112 : decode cS_look 112 = .ok (.iload_n 2, 1) := by decide +kernel
theorem dS_look_113 : decode cS_look 113 = .ok (.invokevirtual 84, 3) := by decide +kernel
theorem dS_look_116 : decode cS_look 116 = .ok (.iinc 5 1, 3) := by decide +kernel
theorem dS_look_119 : decode cS_look 119 = .ok (.goto (-25), 3) := by decide +kernel
theorem dS_look_122 : decode cS_look 122 = .ok (.aload_n 0, 1) := by decide +kernel
theorem dS_look_123 : decode cS_look 123 = .ok (.dup, 1) := by decide +kernel
theorem dS_look_124 : decode cS_look 124 = .ok (.getfield 66, 3) := by decide +kernel
theorem dS_look_127 : decode cS_look 127 = .ok (.iconst 1, 1) := by decide +kernel
theorem dS_look_128 : decode cS_look 128 = .ok (.iadd, 1) := by decide +kernel
theorem dS_look_129 : decode cS_look 129 = .ok (.putfield 66, 3) := by decide +kernel
theorem dS_look_132 : decode cS_look 132 = .ok (.aload_n 0, 1) := by decide +kernel
theorem dS_look_133 : decode cS_look 133 = .ok (.dup, 1) := by decide +kernel
theorem dS_look_134 : decode cS_look 134 = .ok (.getfield 45, 3) := by decide +kernel
theorem dS_look_137 : decode cS_look 137 = .ok (.iconst 1, 1) := by decide +kernel
theorem dS_look_138 : decode cS_look 138 = .ok (.iadd, 1) := by decide +kernel
theorem dS_look_139 : decode cS_look 139 = .ok (.putfield 45, 3) := by decide +kernel
theorem dS_look_142 : decode cS_look 142 = .ok (.iload_n 3, 1) := by decide +kernel
theorem dS_look_143 : decode cS_look 143 = .ok (.ireturn, 1) := by decide +kernel
theorem dS_fault_0 : decode cS_fault 0 = .ok (.iload_n 1, 1) := by decide +kernel
theorem dS_fault_1 : decode cS_fault 1 = .ok (.ifCond .lt 26, 3) := by decide +kernel
theorem dS_fault_4 : decode cS_fault 4 = .ok (.iload_n 1, 1) := by decide +kernel
theorem dS_fault_5 : decode cS_fault 5 = .ok (.iconst 2, 1) := by decide +kernel
theorem dS_fault_6 : decode cS_fault 6 = .ok (.if_icmp .gt 21, 3) := by decide +kernel
theorem dS_fault_9 : decode cS_fault 9 = .ok (.aload_n 0, 1) := by decide +kernel
theorem dS_fault_10 : decode cS_fault 10 = .ok (.iload_n 2, 1) := by decide +kernel
theorem dS_fault_11 : decode cS_fault 11 = .ok (.invokevirtual 41, 3) := by decide +kernel
theorem dS_fault_14 : decode cS_fault 14 = .ok (.ifCond .eq 13, 3) := by decide +kernel
theorem dS_fault_17 : decode cS_fault 17 = .ok (.iload_n 3, 1) := by decide +kernel
theorem dS_fault_18 : decode cS_fault 18 = .ok (.ifCond .lt 9, 3) := by decide +kernel
theorem dS_fault_21 : decode cS_fault 21 = .ok (.iload_n 3, 1) := by decide +kernel
theorem dS_fault_22 : decode cS_fault 22 = .ok (.bipush 16, 2) := by decide +kernel
theorem dS_fault_24 : decode cS_fault 24 = .ok (.if_icmp .le 5, 3) := by decide +kernel
theorem dS_fault_27 : decode cS_fault 27 = .ok (.iconst (-1), 1) := by decide +kernel
theorem dS_fault_28 : decode cS_fault 28 = .ok (.ireturn, 1) := by decide +kernel
theorem dS_fault_29 : decode cS_fault 29 = .ok (.aload_n 0, 1) := by decide +kernel
theorem dS_fault_30 : decode cS_fault 30 = .ok (.getfield 56, 3) := by decide +kernel
theorem dS_fault_33 : decode cS_fault 33 = .ok (.bipush 40, 2) := by decide +kernel
theorem dS_fault_35 : decode cS_fault 35 = .ok (.if_icmp .ge 13, 3) := by decide +kernel
theorem dS_fault_38 : decode cS_fault 38 = .ok (.aload_n 0, 1) := by decide +kernel
theorem dS_fault_39 : decode cS_fault 39 = .ok (.getfield 45, 3) := by decide +kernel
theorem dS_fault_42 : decode cS_fault 42 = .ok (.sipush 300, 3) := by decide +kernel
theorem dS_fault_45 : decode cS_fault 45 = .ok (.if_icmp .lt 5, 3) := by decide +kernel
theorem dS_fault_48 : decode cS_fault 48 = .ok (.iconst (-1), 1) := by decide +kernel
theorem dS_fault_49 : decode cS_fault 49 = .ok (.ireturn, 1) := by decide +kernel
theorem dS_fault_50 : decode cS_fault 50 = .ok (.aload_n 0, 1) := by decide +kernel
theorem dS_fault_51 : decode cS_fault 51 = .ok (.getfield 56, 3) := by decide +kernel
theorem dS_fault_54 : decode cS_fault 54 = .ok (.istore 4, 2) := by decide +kernel
theorem dS_fault_56 : decode cS_fault 56 = .ok (.aload_n 0, 1) := by decide +kernel
theorem dS_fault_57 : decode cS_fault 57 = .ok (.getfield 26, 3) := by decide +kernel
theorem dS_fault_60 : decode cS_fault 60 = .ok (.iload 4, 2) := by decide +kernel
theorem dS_fault_62 : decode cS_fault 62 = .ok (.aaload, 1) := by decide +kernel
theorem dS_fault_63 : decode cS_fault 63 = .ok (.iload_n 1, 1) := by decide +kernel
theorem dS_fault_64 : decode cS_fault 64 = .ok (.iload_n 2, 1) := by decide +kernel
theorem dS_fault_65 : decode cS_fault 65 = .ok (.iload_n 3, 1) := by decide +kernel
theorem dS_fault_66 : decode cS_fault 66 = .ok (.invokevirtual 88, 3) := by decide +kernel
theorem dS_fault_69 : decode cS_fault 69 = .ok (.aload_n 0, 1) := by decide +kernel
theorem dS_fault_70 : decode cS_fault 70 = .ok (.dup, 1) := by decide +kernel
theorem dS_fault_71 : decode cS_fault 71 = .ok (.getfield 56, 3) := by decide +kernel
theorem dS_fault_74 : decode cS_fault 74 = .ok (.iconst 1, 1) := by decide +kernel
theorem dS_fault_75 : decode cS_fault 75 = .ok (.iadd, 1) := by decide +kernel
theorem dS_fault_76 : decode cS_fault 76 = .ok (.putfield 56, 3) := by decide +kernel
theorem dS_fault_79 : decode cS_fault 79 = .ok (.aload_n 0, 1) := by decide +kernel
theorem dS_fault_80 : decode cS_fault 80 = .ok (.dup, 1) := by decide +kernel
theorem dS_fault_81 : decode cS_fault 81 = .ok (.getfield 45, 3) := by decide +kernel
theorem dS_fault_84 : decode cS_fault 84 = .ok (.iconst 1, 1) := by decide +kernel
theorem dS_fault_85 : decode cS_fault 85 = .ok (.iadd, 1) := by decide +kernel
theorem dS_fault_86 : decode cS_fault 86 = .ok (.putfield 45, 3) := by decide +kernel
theorem dS_fault_89 : decode cS_fault 89 = .ok (.iload 4, 2) := by decide +kernel
theorem dS_fault_91 : decode cS_fault 91 = .ok (.ireturn, 1) := by decide +kernel
theorem dS_check_0 : decode cS_check 0 = .ok (.lload_n 1, 1) := by decide +kernel
theorem dS_check_1 : decode cS_check 1 = .ok (.aload_n 0, 1) := by decide +kernel
theorem dS_check_2 : decode cS_check 2 = .ok (.getfield 66, 3) := by decide +kernel
theorem dS_check_5 : decode cS_check 5 = .ok (.lushr, 1) := by decide +kernel
theorem dS_check_6 : decode cS_check 6 = .ok (.lconst 0, 1) := by decide +kernel
theorem dS_check_7 : decode cS_check 7 = .ok (.lcmp, 1) := by decide +kernel
theorem dS_check_8 : decode cS_check 8 = .ok (.ifCond .ne 12, 3) := by decide +kernel
theorem dS_check_11 : decode cS_check 11 = .ok (.aload_n 0, 1) := by decide +kernel
theorem dS_check_12 : decode cS_check 12 = .ok (.getfield 91, 3) := by decide +kernel
theorem dS_check_15 : decode cS_check 15 = .ok (.bipush 16, 2) := by decide +kernel
theorem dS_check_17 : decode cS_check 17 = .ok (.if_icmp .lt 5, 3) := by decide +kernel
theorem dS_check_20 : decode cS_check 20 = .ok (.iconst (-1), 1) := by decide +kernel
theorem dS_check_21 : decode cS_check 21 = .ok (.ireturn, 1) := by decide +kernel
theorem dS_check_22 : decode cS_check 22 = .ok (.aload_n 0, 1) := by decide +kernel
theorem dS_check_23 : decode cS_check 23 = .ok (.getfield 91, 3) := by decide +kernel
theorem dS_check_26 : decode cS_check 26 = .ok (.istore_n 3, 1) := by decide +kernel
theorem dS_check_27 : decode cS_check 27 = .ok (.iconst 0, 1) := by decide +kernel
theorem dS_check_28 : decode cS_check 28 = .ok (.istore 4, 2) := by decide +kernel
theorem dS_check_30 : decode cS_check 30 = .ok (.lconst 0, 1) := by decide +kernel
theorem dS_check_31 : decode cS_check 31 = .ok (.lstore 5, 2) := by decide +kernel
theorem dS_check_33 : decode cS_check 33 = .ok (.iconst 0, 1) := by decide +kernel
theorem dS_check_34 : decode cS_check 34 = .ok (.istore 7, 2) := by decide +kernel
theorem dS_check_36 : decode cS_check 36 = .ok (.iload 7, 2) := by decide +kernel
theorem dS_check_38 : decode cS_check 38 = .ok (.aload_n 0, 1) := by decide +kernel
theorem dS_check_39 : decode cS_check 39 = .ok (.getfield 66, 3) := by decide +kernel
theorem dS_check_42 : decode cS_check 42 = .ok (.if_icmp .ge 42, 3) := by decide +kernel
theorem dS_check_45 : decode cS_check 45 = .ok (.lload_n 1, 1) := by decide +kernel
theorem dS_check_46 : decode cS_check 46 = .ok (.iload 7, 2) := by decide +kernel
theorem dS_check_48 : decode cS_check 48 = .ok (.invokestatic 94, 3) := by decide +kernel
theorem dS_check_51 : decode cS_check 51 = .ok (.ifCond .eq 27, 3) := by decide +kernel
theorem dS_check_54 : decode cS_check 54 = .ok (.iload 4, 2) := by decide +kernel
theorem dS_check_56 : decode cS_check 56 = .ok (.aload_n 0, 1) := by decide +kernel
theorem dS_check_57 : decode cS_check 57 = .ok (.getfield 16, 3) := by decide +kernel
theorem dS_check_60 : decode cS_check 60 = .ok (.iload 7, 2) := by decide +kernel
theorem dS_check_62 : decode cS_check 62 = .ok (.iaload, 1) := by decide +kernel
theorem dS_check_63 : decode cS_check 63 = .ok (.ixor, 1) := by decide +kernel
theorem dS_check_64 : decode cS_check 64 = .ok (.istore 4, 2) := by decide +kernel
theorem dS_check_66 : decode cS_check 66 = .ok (.lload 5, 2) := by decide +kernel
theorem dS_check_68 : decode cS_check 68 = .ok (.aload_n 0, 1) := by decide +kernel
theorem dS_check_69 : decode cS_check 69 = .ok (.getfield 20, 3) := by decide +kernel
theorem dS_check_72 : decode cS_check 72 = .ok (.iload 7, 2) := by decide +kernel
theorem dS_check_74 : decode cS_check 74 = .ok (.laload, 1) := by decide +kernel
theorem dS_check_75 : decode cS_check 75 = .ok (.lxor, 1) := by decide +kernel
theorem dS_check_76 : decode cS_check 76 = .ok (.lstore 5, 2) := by decide +kernel
theorem dS_check_78 : decode cS_check 78 = .ok (.iinc 7 1, 3) := by decide +kernel
theorem dS_check_81 : decode cS_check 81 = .ok (.goto (-45), 3) := by decide +kernel
theorem dS_check_84 : decode cS_check 84 = .ok (.aload_n 0, 1) := by decide +kernel
theorem dS_check_85 : decode cS_check 85 = .ok (.getfield 31, 3) := by decide +kernel
theorem dS_check_88 : decode cS_check 88 = .ok (.iload_n 3, 1) := by decide +kernel
theorem dS_check_89 : decode cS_check 89 = .ok (.iload 4, 2) := by decide +kernel
theorem dS_check_91 : decode cS_check 91 = .ok (.iastore, 1) := by decide +kernel
theorem dS_check_92 : decode cS_check 92 = .ok (.aload_n 0, 1) := by decide +kernel
theorem dS_check_93 : decode cS_check 93 = .ok (.getfield 34, 3) := by decide +kernel
theorem dS_check_96 : decode cS_check 96 = .ok (.iload_n 3, 1) := by decide +kernel
theorem dS_check_97 : decode cS_check 97 = .ok (.lload 5, 2) := by decide +kernel
theorem dS_check_99 : decode cS_check 99 = .ok (.lastore, 1) := by decide +kernel
theorem dS_check_100 : decode cS_check 100 = .ok (.iconst 0, 1) := by decide +kernel
theorem dS_check_101 : decode cS_check 101 = .ok (.istore 7, 2) := by decide +kernel
theorem dS_check_103 : decode cS_check 103 = .ok (.iload 7, 2) := by decide +kernel
theorem dS_check_105 : decode cS_check 105 = .ok (.aload_n 0, 1) := by decide +kernel
theorem dS_check_106 : decode cS_check 106 = .ok (.getfield 56, 3) := by decide +kernel
theorem dS_check_109 : decode cS_check 109 = .ok (.if_icmp .ge 21, 3) := by decide +kernel
theorem dS_check_112 : decode cS_check 112 = .ok (.aload_n 0, 1) := by decide +kernel
theorem dS_check_113 : decode cS_check 113 = .ok (.getfield 26, 3) := by decide +kernel
theorem dS_check_116 : decode cS_check 116 = .ok (.iload 7, 2) := by decide +kernel
theorem dS_check_118 : decode cS_check 118 = .ok (.aaload, 1) := by decide +kernel
theorem dS_check_119 : decode cS_check 119 = .ok (.iload_n 3, 1) := by decide +kernel
theorem dS_check_120 : decode cS_check 120 = .ok (.lload_n 1, 1) := by decide +kernel
theorem dS_check_121 : decode cS_check 121 = .ok (.invokevirtual 98, 3) := by decide +kernel
theorem dS_check_124 : decode cS_check 124 = .ok (.iinc 7 1, 3) := by decide +kernel
theorem dS_check_127 : decode cS_check 127 = .ok (.goto (-24), 3) := by decide +kernel
theorem dS_check_130 : decode cS_check 130 = .ok (.aload_n 0, 1) := by decide +kernel
theorem dS_check_131 : decode cS_check 131 = .ok (.dup, 1) := by decide +kernel
theorem dS_check_132 : decode cS_check 132 = .ok (.getfield 91, 3) := by decide +kernel
theorem dS_check_135 : decode cS_check 135 = .ok (.iconst 1, 1) := by decide +kernel
theorem dS_check_136 : decode cS_check 136 = .ok (.iadd, 1) := by decide +kernel
theorem dS_check_137 : decode cS_check 137 = .ok (.putfield 91, 3) := by decide +kernel
theorem dS_check_140 : decode cS_check 140 = .ok (.iload_n 3, 1) := by decide +kernel
theorem dS_check_141 : decode cS_check 141 = .ok (.ireturn, 1) := by decide +kernel
theorem dS_has_0 : decode cS_has 0 = .ok (.lload_n 0, 1) := by decide +kernel
theorem dS_has_1 : decode cS_has 1 = .ok (.iload_n 2, 1) := by decide +kernel
theorem dS_has_2 : decode cS_has 2 = .ok (.lushr, 1) := by decide +kernel
theorem dS_has_3 : decode cS_has 3 = .ok (.lconst 1, 1) := by decide +kernel
theorem dS_has_4 : decode cS_has 4 = .ok (.land, 1) := by decide +kernel
theorem dS_has_5 : decode cS_has 5 = .ok (.lconst 0, 1) := by decide +kernel
theorem dS_has_6 : decode cS_has 6 = .ok (.lcmp, 1) := by decide +kernel
theorem dS_has_7 : decode cS_has 7 = .ok (.ifCond .eq 7, 3) := by decide +kernel
theorem dS_has_10 : decode cS_has 10 = .ok (.iconst 1, 1) := by decide +kernel
theorem dS_has_11 : decode cS_has 11 = .ok (.goto 4, 3) := by decide +kernel
theorem dS_has_14 : decode cS_has 14 = .ok (.iconst 0, 1) := by decide +kernel
theorem dS_has_15 : decode cS_has 15 = .ok (.ireturn, 1) := by decide +kernel
theorem dS_parity_0 : decode cS_parity 0 = .ok (.lload_n 0, 1) := by decide +kernel
theorem dS_parity_1 : decode cS_parity 1 = .ok (.invokestatic 138, 3) := by decide +kernel
theorem dS_parity_4 : decode cS_parity 4 = .ok (.iconst 1, 1) := by decide +kernel
theorem dS_parity_5 : decode cS_parity 5 = .ok (.iand, 1) := by decide +kernel
theorem dS_parity_6 : decode cS_parity 6 = .ok (.ireturn, 1) := by decide +kernel
theorem dS_outcome_0 : decode cS_outcome 0 = .ok (.iload_n 1, 1) := by decide +kernel
theorem dS_outcome_1 : decode cS_outcome 1 = .ok (.ifCond .lt 11, 3) := by decide +kernel
theorem dS_outcome_4 : decode cS_outcome 4 = .ok (.iload_n 1, 1) := by decide +kernel
theorem dS_outcome_5 : decode cS_outcome 5 = .ok (.aload_n 0, 1) := by decide +kernel
theorem dS_outcome_6 : decode cS_outcome 6 = .ok (.getfield 66, 3) := by decide +kernel
theorem dS_outcome_9 : decode cS_outcome 9 = .ok (.if_icmp .lt 7, 3) := by decide +kernel
theorem dS_outcome_12 : decode cS_outcome 12 = .ok (.ldc2_w 102, 3) := by decide +kernel
theorem dS_outcome_15 : decode cS_outcome 15 = .ok (.lreturn, 1) := by decide +kernel
theorem dS_outcome_16 : decode cS_outcome 16 = .ok (.iload_n 2, 1) := by decide +kernel
theorem dS_outcome_17 : decode cS_outcome 17 = .ok (.lookupswitch 42 #[(0, 27), (1, 35)], 27) := by decide +kernel
theorem dS_outcome_44 : decode cS_outcome 44 = .ok (.aload_n 0, 1) := by decide +kernel
theorem dS_outcome_45 : decode cS_outcome 45 = .ok (.getfield 16, 3) := by decide +kernel
theorem dS_outcome_48 : decode cS_outcome 48 = .ok (.iload_n 1, 1) := by decide +kernel
theorem dS_outcome_49 : decode cS_outcome 49 = .ok (.iaload, 1) := by decide +kernel
theorem dS_outcome_50 : decode cS_outcome 50 = .ok (.i2l, 1) := by decide +kernel
theorem dS_outcome_51 : decode cS_outcome 51 = .ok (.lreturn, 1) := by decide +kernel
theorem dS_outcome_52 : decode cS_outcome 52 = .ok (.aload_n 0, 1) := by decide +kernel
theorem dS_outcome_53 : decode cS_outcome 53 = .ok (.getfield 20, 3) := by decide +kernel
theorem dS_outcome_56 : decode cS_outcome 56 = .ok (.iload_n 1, 1) := by decide +kernel
theorem dS_outcome_57 : decode cS_outcome 57 = .ok (.laload, 1) := by decide +kernel
theorem dS_outcome_58 : decode cS_outcome 58 = .ok (.lreturn, 1) := by decide +kernel
theorem dS_outcome_59 : decode cS_outcome 59 = .ok (.ldc2_w 102, 3) := by decide +kernel
theorem dS_outcome_62 : decode cS_outcome 62 = .ok (.lreturn, 1) := by decide +kernel
theorem dS_told_0 : decode cS_told 0 = .ok (.iload_n 1, 1) := by decide +kernel
theorem dS_told_1 : decode cS_told 1 = .ok (.ifCond .lt 11, 3) := by decide +kernel
theorem dS_told_4 : decode cS_told 4 = .ok (.iload_n 1, 1) := by decide +kernel
theorem dS_told_5 : decode cS_told 5 = .ok (.aload_n 0, 1) := by decide +kernel
theorem dS_told_6 : decode cS_told 6 = .ok (.getfield 91, 3) := by decide +kernel
theorem dS_told_9 : decode cS_told 9 = .ok (.if_icmp .lt 7, 3) := by decide +kernel
theorem dS_told_12 : decode cS_told 12 = .ok (.ldc2_w 102, 3) := by decide +kernel
theorem dS_told_15 : decode cS_told 15 = .ok (.lreturn, 1) := by decide +kernel
theorem dS_told_16 : decode cS_told 16 = .ok (.iload_n 2, 1) := by decide +kernel
theorem dS_told_17 : decode cS_told 17 = .ok (.tableswitch 59 0 2 #[27, 44, 52], 27) := by decide +kernel
theorem dS_told_44 : decode cS_told 44 = .ok (.aload_n 0, 1) := by decide +kernel
theorem dS_told_45 : decode cS_told 45 = .ok (.getfield 34, 3) := by decide +kernel
theorem dS_told_48 : decode cS_told 48 = .ok (.iload_n 1, 1) := by decide +kernel
theorem dS_told_49 : decode cS_told 49 = .ok (.laload, 1) := by decide +kernel
theorem dS_told_50 : decode cS_told 50 = .ok (.lconst 0, 1) := by decide +kernel
theorem dS_told_51 : decode cS_told 51 = .ok (.lcmp, 1) := by decide +kernel
theorem dS_told_52 : decode cS_told 52 = .ok (.ifCond .ne 7, 3) := by decide +kernel
theorem dS_told_55 : decode cS_told 55 = .ok (.lconst 1, 1) := by decide +kernel
theorem dS_told_56 : decode cS_told 56 = .ok (.goto 4, 3) := by decide +kernel
theorem dS_told_59 : decode cS_told 59 = .ok (.lconst 0, 1) := by decide +kernel
theorem dS_told_60 : decode cS_told 60 = .ok (.lreturn, 1) := by decide +kernel
theorem dS_told_61 : decode cS_told 61 = .ok (.aload_n 0, 1) := by decide +kernel
theorem dS_told_62 : decode cS_told 62 = .ok (.getfield 31, 3) := by decide +kernel
theorem dS_told_65 : decode cS_told 65 = .ok (.iload_n 1, 1) := by decide +kernel
theorem dS_told_66 : decode cS_told 66 = .ok (.iaload, 1) := by decide +kernel
theorem dS_told_67 : decode cS_told 67 = .ok (.i2l, 1) := by decide +kernel
theorem dS_told_68 : decode cS_told 68 = .ok (.lreturn, 1) := by decide +kernel
theorem dS_told_69 : decode cS_told 69 = .ok (.aload_n 0, 1) := by decide +kernel
theorem dS_told_70 : decode cS_told 70 = .ok (.getfield 34, 3) := by decide +kernel
theorem dS_told_73 : decode cS_told 73 = .ok (.iload_n 1, 1) := by decide +kernel
theorem dS_told_74 : decode cS_told 74 = .ok (.laload, 1) := by decide +kernel
theorem dS_told_75 : decode cS_told 75 = .ok (.lreturn, 1) := by decide +kernel
theorem dS_told_76 : decode cS_told 76 = .ok (.ldc2_w 102, 3) := by decide +kernel
theorem dS_told_79 : decode cS_told 79 = .ok (.lreturn, 1) := by decide +kernel
theorem dS_changes_0 : decode cS_changes 0 = .ok (.iload_n 1, 1) := by decide +kernel
theorem dS_changes_1 : decode cS_changes 1 = .ok (.ifCond .lt 11, 3) := by decide +kernel
theorem dS_changes_4 : decode cS_changes 4 = .ok (.iload_n 1, 1) := by decide +kernel
theorem dS_changes_5 : decode cS_changes 5 = .ok (.aload_n 0, 1) := by decide +kernel
theorem dS_changes_6 : decode cS_changes 6 = .ok (.getfield 56, 3) := by decide +kernel
theorem dS_changes_9 : decode cS_changes 9 = .ok (.if_icmp .lt 7, 3) := by decide +kernel
theorem dS_changes_12 : decode cS_changes 12 = .ok (.ldc2_w 102, 3) := by decide +kernel
theorem dS_changes_15 : decode cS_changes 15 = .ok (.lreturn, 1) := by decide +kernel
theorem dS_changes_16 : decode cS_changes 16 = .ok (.iload_n 2, 1) := by decide +kernel
theorem dS_changes_17 : decode cS_changes 17 = .ok (.lookupswitch 48 #[(0, 27), (1, 37)], 27) := by decide +kernel
theorem dS_changes_44 : decode cS_changes 44 = .ok (.aload_n 0, 1) := by decide +kernel
theorem dS_changes_45 : decode cS_changes 45 = .ok (.getfield 26, 3) := by decide +kernel
theorem dS_changes_48 : decode cS_changes 48 = .ok (.iload_n 1, 1) := by decide +kernel
theorem dS_changes_49 : decode cS_changes 49 = .ok (.aaload, 1) := by decide +kernel
theorem dS_changes_50 : decode cS_changes 50 = .ok (.getfield 104, 3) := by decide +kernel
theorem dS_changes_53 : decode cS_changes 53 = .ok (.lreturn, 1) := by decide +kernel
theorem dS_changes_54 : decode cS_changes 54 = .ok (.aload_n 0, 1) := by decide +kernel
theorem dS_changes_55 : decode cS_changes 55 = .ok (.getfield 26, 3) := by decide +kernel
theorem dS_changes_58 : decode cS_changes 58 = .ok (.iload_n 1, 1) := by decide +kernel
theorem dS_changes_59 : decode cS_changes 59 = .ok (.aaload, 1) := by decide +kernel
theorem dS_changes_60 : decode cS_changes 60 = .ok (.getfield 107, 3) := by decide +kernel
theorem dS_changes_63 : decode cS_changes 63 = .ok (.i2l, 1) := by decide +kernel
theorem dS_changes_64 : decode cS_changes 64 = .ok (.lreturn, 1) := by decide +kernel
theorem dS_changes_65 : decode cS_changes 65 = .ok (.ldc2_w 102, 3) := by decide +kernel
theorem dS_changes_68 : decode cS_changes 68 = .ok (.lreturn, 1) := by decide +kernel
theorem dS_run_0 : decode cS_run 0 = .ok (.lload_n 1, 1) := by decide +kernel
theorem dS_run_1 : decode cS_run 1 = .ok (.aload_n 0, 1) := by decide +kernel
theorem dS_run_2 : decode cS_run 2 = .ok (.getfield 56, 3) := by decide +kernel
theorem dS_run_5 : decode cS_run 5 = .ok (.lushr, 1) := by decide +kernel
theorem dS_run_6 : decode cS_run 6 = .ok (.lconst 0, 1) := by decide +kernel
theorem dS_run_7 : decode cS_run 7 = .ok (.lcmp, 1) := by decide +kernel
theorem dS_run_8 : decode cS_run 8 = .ok (.ifCond .eq 7, 3) := by decide +kernel
theorem dS_run_11 : decode cS_run 11 = .ok (.ldc2_w 102, 3) := by decide +kernel
theorem dS_run_14 : decode cS_run 14 = .ok (.lreturn, 1) := by decide +kernel
theorem dS_run_15 : decode cS_run 15 = .ok (.lconst 0, 1) := by decide +kernel
theorem dS_run_16 : decode cS_run 16 = .ok (.lstore 5, 2) := by decide +kernel
theorem dS_run_18 : decode cS_run 18 = .ok (.iconst 0, 1) := by decide +kernel
theorem dS_run_19 : decode cS_run 19 = .ok (.istore 7, 2) := by decide +kernel
theorem dS_run_21 : decode cS_run 21 = .ok (.iload 7, 2) := by decide +kernel
theorem dS_run_23 : decode cS_run 23 = .ok (.aload_n 0, 1) := by decide +kernel
theorem dS_run_24 : decode cS_run 24 = .ok (.getfield 66, 3) := by decide +kernel
theorem dS_run_27 : decode cS_run 27 = .ok (.if_icmp .ge 42, 3) := by decide +kernel
theorem dS_run_30 : decode cS_run 30 = .ok (.aload_n 0, 1) := by decide +kernel
theorem dS_run_31 : decode cS_run 31 = .ok (.getfield 16, 3) := by decide +kernel
theorem dS_run_34 : decode cS_run 34 = .ok (.iload 7, 2) := by decide +kernel
theorem dS_run_36 : decode cS_run 36 = .ok (.iaload, 1) := by decide +kernel
theorem dS_run_37 : decode cS_run 37 = .ok (.aload_n 0, 1) := by decide +kernel
theorem dS_run_38 : decode cS_run 38 = .ok (.getfield 20, 3) := by decide +kernel
theorem dS_run_41 : decode cS_run 41 = .ok (.iload 7, 2) := by decide +kernel
theorem dS_run_43 : decode cS_run 43 = .ok (.laload, 1) := by decide +kernel
theorem dS_run_44 : decode cS_run 44 = .ok (.lload_n 3, 1) := by decide +kernel
theorem dS_run_45 : decode cS_run 45 = .ok (.land, 1) := by decide +kernel
theorem dS_run_46 : decode cS_run 46 = .ok (.invokestatic 125, 3) := by decide +kernel
theorem dS_run_49 : decode cS_run 49 = .ok (.ixor, 1) := by decide +kernel
theorem dS_run_50 : decode cS_run 50 = .ok (.i2l, 1) := by decide +kernel
theorem dS_run_51 : decode cS_run 51 = .ok (.lstore 8, 2) := by decide +kernel
theorem dS_run_53 : decode cS_run 53 = .ok (.lload 5, 2) := by decide +kernel
theorem dS_run_55 : decode cS_run 55 = .ok (.lload 8, 2) := by decide +kernel
theorem dS_run_57 : decode cS_run 57 = .ok (.iload 7, 2) := by decide +kernel
theorem dS_run_59 : decode cS_run 59 = .ok (.lshl, 1) := by decide +kernel
theorem dS_run_60 : decode cS_run 60 = .ok (.lor, 1) := by decide +kernel
theorem dS_run_61 : decode cS_run 61 = .ok (.lstore 5, 2) := by decide +kernel
theorem dS_run_63 : decode cS_run 63 = .ok (.iinc 7 1, 3) := by decide +kernel
theorem dS_run_66 : decode cS_run 66 = .ok (.goto (-45), 3) := by decide +kernel
theorem dS_run_69 : decode cS_run 69 = .ok (.iconst 0, 1) := by decide +kernel
theorem dS_run_70 : decode cS_run 70 = .ok (.istore 7, 2) := by decide +kernel
theorem dS_run_72 : decode cS_run 72 = .ok (.iload 7, 2) := by decide +kernel
theorem dS_run_74 : decode cS_run 74 = .ok (.aload_n 0, 1) := by decide +kernel
theorem dS_run_75 : decode cS_run 75 = .ok (.getfield 56, 3) := by decide +kernel
theorem dS_run_78 : decode cS_run 78 = .ok (.if_icmp .ge 33, 3) := by decide +kernel
theorem dS_run_81 : decode cS_run 81 = .ok (.lload_n 1, 1) := by decide +kernel
theorem dS_run_82 : decode cS_run 82 = .ok (.iload 7, 2) := by decide +kernel
theorem dS_run_84 : decode cS_run 84 = .ok (.invokestatic 94, 3) := by decide +kernel
theorem dS_run_87 : decode cS_run 87 = .ok (.ifCond .eq 18, 3) := by decide +kernel
theorem dS_run_90 : decode cS_run 90 = .ok (.lload 5, 2) := by decide +kernel
theorem dS_run_92 : decode cS_run 92 = .ok (.aload_n 0, 1) := by decide +kernel
theorem dS_run_93 : decode cS_run 93 = .ok (.getfield 26, 3) := by decide +kernel
theorem dS_run_96 : decode cS_run 96 = .ok (.iload 7, 2) := by decide +kernel
theorem dS_run_98 : decode cS_run 98 = .ok (.aaload, 1) := by decide +kernel
theorem dS_run_99 : decode cS_run 99 = .ok (.getfield 104, 3) := by decide +kernel
theorem dS_run_102 : decode cS_run 102 = .ok (.lxor, 1) := by decide +kernel
theorem dS_run_103 : decode cS_run 103 = .ok (.lstore 5, 2) := by decide +kernel
theorem dS_run_105 : decode cS_run 105 = .ok (.iinc 7 1, 3) := by decide +kernel
theorem dS_run_108 : decode cS_run 108 = .ok (.goto (-36), 3) := by decide +kernel
theorem dS_run_111 : decode cS_run 111 = .ok (.lload 5, 2) := by decide +kernel
theorem dS_run_113 : decode cS_run 113 = .ok (.lreturn, 1) := by decide +kernel
theorem dS_total_0 : decode cS_total 0 = .ok (.iload_n 1, 1) := by decide +kernel
theorem dS_total_1 : decode cS_total 1 = .ok (.tableswitch 69 0 5 #[39, 44, 49, 54, 59, 64], 39) := by decide +kernel
theorem dS_total_40 : decode cS_total 40 = .ok (.aload_n 0, 1) := by decide +kernel
theorem dS_total_41 : decode cS_total 41 = .ok (.getfield 129, 3) := by decide +kernel
theorem dS_total_44 : decode cS_total 44 = .ok (.ireturn, 1) := by decide +kernel
theorem dS_total_45 : decode cS_total 45 = .ok (.aload_n 0, 1) := by decide +kernel
theorem dS_total_46 : decode cS_total 46 = .ok (.getfield 45, 3) := by decide +kernel
theorem dS_total_49 : decode cS_total 49 = .ok (.ireturn, 1) := by decide +kernel
theorem dS_total_50 : decode cS_total 50 = .ok (.aload_n 0, 1) := by decide +kernel
theorem dS_total_51 : decode cS_total 51 = .ok (.getfield 66, 3) := by decide +kernel
theorem dS_total_54 : decode cS_total 54 = .ok (.ireturn, 1) := by decide +kernel
theorem dS_total_55 : decode cS_total 55 = .ok (.aload_n 0, 1) := by decide +kernel
theorem dS_total_56 : decode cS_total 56 = .ok (.getfield 56, 3) := by decide +kernel
theorem dS_total_59 : decode cS_total 59 = .ok (.ireturn, 1) := by decide +kernel
theorem dS_total_60 : decode cS_total 60 = .ok (.aload_n 0, 1) := by decide +kernel
theorem dS_total_61 : decode cS_total 61 = .ok (.getfield 91, 3) := by decide +kernel
theorem dS_total_64 : decode cS_total 64 = .ok (.ireturn, 1) := by decide +kernel
theorem dS_total_65 : decode cS_total 65 = .ok (.aload_n 0, 1) := by decide +kernel
theorem dS_total_66 : decode cS_total 66 = .ok (.invokevirtual 132, 3) := by decide +kernel
theorem dS_total_69 : decode cS_total 69 = .ok (.ireturn, 1) := by decide +kernel
theorem dS_total_70 : decode cS_total 70 = .ok (.iconst (-1), 1) := by decide +kernel
theorem dS_total_71 : decode cS_total 71 = .ok (.ireturn, 1) := by decide +kernel
theorem dS_countEdges_0 : decode cS_countEdges 0 = .ok (.iconst 0, 1) := by decide +kernel
theorem dS_countEdges_1 : decode cS_countEdges 1 = .ok (.istore_n 1, 1) := by decide +kernel
theorem dS_countEdges_2 : decode cS_countEdges 2 = .ok (.iconst 0, 1) := by decide +kernel
theorem dS_countEdges_3 : decode cS_countEdges 3 = .ok (.istore_n 2, 1) := by decide +kernel
theorem dS_countEdges_4 : decode cS_countEdges 4 = .ok (.iload_n 2, 1) := by decide +kernel
theorem dS_countEdges_5 : decode cS_countEdges 5 = .ok (.aload_n 0, 1) := by decide +kernel
theorem dS_countEdges_6 : decode cS_countEdges 6 = .ok (.getfield 56, 3) := by decide +kernel
theorem dS_countEdges_9 : decode cS_countEdges 9 = .ok (.if_icmp .ge 20, 3) := by decide +kernel
theorem dS_countEdges_12 : decode cS_countEdges 12 = .ok (.aload_n 0, 1) := by decide +kernel
theorem dS_countEdges_13 : decode cS_countEdges 13 = .ok (.iload_n 2, 1) := by decide +kernel
theorem dS_countEdges_14 : decode cS_countEdges 14 = .ok (.invokevirtual 143, 3) := by decide +kernel
theorem dS_countEdges_17 : decode cS_countEdges 17 = .ok (.ifCond .eq 6, 3) := by decide +kernel
theorem dS_countEdges_20 : decode cS_countEdges 20 = .ok (.iinc 1 1, 3) := by decide +kernel
theorem dS_countEdges_23 : decode cS_countEdges 23 = .ok (.iinc 2 1, 3) := by decide +kernel
theorem dS_countEdges_26 : decode cS_countEdges 26 = .ok (.goto (-22), 3) := by decide +kernel
theorem dS_countEdges_29 : decode cS_countEdges 29 = .ok (.iload_n 1, 1) := by decide +kernel
theorem dS_countEdges_30 : decode cS_countEdges 30 = .ok (.ireturn, 1) := by decide +kernel
theorem dS_isFirstOfEdge_0 : decode cS_isFirstOfEdge 0 = .ok (.aload_n 0, 1) := by decide +kernel
theorem dS_isFirstOfEdge_1 : decode cS_isFirstOfEdge 1 = .ok (.getfield 26, 3) := by decide +kernel
theorem dS_isFirstOfEdge_4 : decode cS_isFirstOfEdge 4 = .ok (.iload_n 1, 1) := by decide +kernel
theorem dS_isFirstOfEdge_5 : decode cS_isFirstOfEdge 5 = .ok (.aaload, 1) := by decide +kernel
theorem dS_isFirstOfEdge_6 : decode cS_isFirstOfEdge 6 = .ok (.getfield 107, 3) := by decide +kernel
theorem dS_isFirstOfEdge_9 : decode cS_isFirstOfEdge 9 = .ok (.istore_n 2, 1) := by decide +kernel
theorem dS_isFirstOfEdge_10 : decode cS_isFirstOfEdge 10 = .ok (.iload_n 2, 1) := by decide +kernel
theorem dS_isFirstOfEdge_11 : decode cS_isFirstOfEdge 11 = .ok (.ifCond .ne 5, 3) := by decide +kernel
theorem dS_isFirstOfEdge_14 : decode cS_isFirstOfEdge 14 = .ok (.iconst 0, 1) := by decide +kernel
theorem dS_isFirstOfEdge_15 : decode cS_isFirstOfEdge 15 = .ok (.ireturn, 1) := by decide +kernel
theorem dS_isFirstOfEdge_16 : decode cS_isFirstOfEdge 16 = .ok (.iconst 0, 1) := by decide +kernel
theorem dS_isFirstOfEdge_17 : decode cS_isFirstOfEdge 17 = .ok (.istore_n 3, 1) := by decide +kernel
theorem dS_isFirstOfEdge_18 : decode cS_isFirstOfEdge 18 = .ok (.iload_n 3, 1) := by decide +kernel
theorem dS_isFirstOfEdge_19 : decode cS_isFirstOfEdge 19 = .ok (.iload_n 1, 1) := by decide +kernel
theorem dS_isFirstOfEdge_20 : decode cS_isFirstOfEdge 20 = .ok (.if_icmp .ge 24, 3) := by decide +kernel
theorem dS_isFirstOfEdge_23 : decode cS_isFirstOfEdge 23 = .ok (.aload_n 0, 1) := by decide +kernel
theorem dS_isFirstOfEdge_24 : decode cS_isFirstOfEdge 24 = .ok (.getfield 26, 3) := by decide +kernel
theorem dS_isFirstOfEdge_27 : decode cS_isFirstOfEdge 27 = .ok (.iload_n 3, 1) := by decide +kernel
theorem dS_isFirstOfEdge_28 : decode cS_isFirstOfEdge 28 = .ok (.aaload, 1) := by decide +kernel
theorem dS_isFirstOfEdge_29 : decode cS_isFirstOfEdge 29 = .ok (.getfield 107, 3) := by decide +kernel
theorem dS_isFirstOfEdge_32 : decode cS_isFirstOfEdge 32 = .ok (.iload_n 2, 1) := by decide +kernel
theorem dS_isFirstOfEdge_33 : decode cS_isFirstOfEdge 33 = .ok (.if_icmp .ne 5, 3) := by decide +kernel
theorem dS_isFirstOfEdge_36 : decode cS_isFirstOfEdge 36 = .ok (.iconst 0, 1) := by decide +kernel
theorem dS_isFirstOfEdge_37 : decode cS_isFirstOfEdge 37 = .ok (.ireturn, 1) := by decide +kernel
theorem dS_isFirstOfEdge_38 : decode cS_isFirstOfEdge 38 = .ok (.iinc 3 1, 3) := by decide +kernel
theorem dS_isFirstOfEdge_41 : decode cS_isFirstOfEdge 41 = .ok (.goto (-23), 3) := by decide +kernel
theorem dS_isFirstOfEdge_44 : decode cS_isFirstOfEdge 44 = .ok (.iconst 1, 1) := by decide +kernel
theorem dS_isFirstOfEdge_45 : decode cS_isFirstOfEdge 45 = .ok (.ireturn, 1) := by decide +kernel
theorem dS_edge_0 : decode cS_edge 0 = .ok (.aload_n 0, 1) := by decide +kernel
theorem dS_edge_1 : decode cS_edge 1 = .ok (.iload_n 1, 1) := by decide +kernel
theorem dS_edge_2 : decode cS_edge 2 = .ok (.invokevirtual 110, 3) := by decide +kernel
theorem dS_edge_5 : decode cS_edge 5 = .ok (.istore_n 3, 1) := by decide +kernel
theorem dS_edge_6 : decode cS_edge 6 = .ok (.iload_n 3, 1) := by decide +kernel
theorem dS_edge_7 : decode cS_edge 7 = .ok (.iconst (-1), 1) := by decide +kernel
theorem dS_edge_8 : decode cS_edge 8 = .ok (.if_icmp .ne 7, 3) := by decide +kernel
theorem dS_edge_11 : decode cS_edge 11 = .ok (.ldc2_w 102, 3) := by decide +kernel
theorem dS_edge_14 : decode cS_edge 14 = .ok (.lreturn, 1) := by decide +kernel
theorem dS_edge_15 : decode cS_edge 15 = .ok (.aload_n 0, 1) := by decide +kernel
theorem dS_edge_16 : decode cS_edge 16 = .ok (.iload_n 3, 1) := by decide +kernel
theorem dS_edge_17 : decode cS_edge 17 = .ok (.invokevirtual 114, 3) := by decide +kernel
theorem dS_edge_20 : decode cS_edge 20 = .ok (.lstore 4, 2) := by decide +kernel
theorem dS_edge_22 : decode cS_edge 22 = .ok (.iload_n 2, 1) := by decide +kernel
theorem dS_edge_23 : decode cS_edge 23 = .ok (.tableswitch 57 0 3 #[29, 40, 43, 50], 29) := by decide +kernel
theorem dS_edge_52 : decode cS_edge 52 = .ok (.aload_n 0, 1) := by decide +kernel
theorem dS_edge_53 : decode cS_edge 53 = .ok (.getfield 26, 3) := by decide +kernel
theorem dS_edge_56 : decode cS_edge 56 = .ok (.iload_n 3, 1) := by decide +kernel
theorem dS_edge_57 : decode cS_edge 57 = .ok (.aaload, 1) := by decide +kernel
theorem dS_edge_58 : decode cS_edge 58 = .ok (.getfield 107, 3) := by decide +kernel
theorem dS_edge_61 : decode cS_edge 61 = .ok (.i2l, 1) := by decide +kernel
theorem dS_edge_62 : decode cS_edge 62 = .ok (.lreturn, 1) := by decide +kernel
theorem dS_edge_63 : decode cS_edge 63 = .ok (.lload 4, 2) := by decide +kernel
theorem dS_edge_65 : decode cS_edge 65 = .ok (.lreturn, 1) := by decide +kernel
theorem dS_edge_66 : decode cS_edge 66 = .ok (.aload_n 0, 1) := by decide +kernel
theorem dS_edge_67 : decode cS_edge 67 = .ok (.lload 4, 2) := by decide +kernel
theorem dS_edge_69 : decode cS_edge 69 = .ok (.invokevirtual 118, 3) := by decide +kernel
theorem dS_edge_72 : decode cS_edge 72 = .ok (.lreturn, 1) := by decide +kernel
theorem dS_edge_73 : decode cS_edge 73 = .ok (.aload_n 0, 1) := by decide +kernel
theorem dS_edge_74 : decode cS_edge 74 = .ok (.lload 4, 2) := by decide +kernel
theorem dS_edge_76 : decode cS_edge 76 = .ok (.invokevirtual 122, 3) := by decide +kernel
theorem dS_edge_79 : decode cS_edge 79 = .ok (.lreturn, 1) := by decide +kernel
theorem dS_edge_80 : decode cS_edge 80 = .ok (.ldc2_w 102, 3) := by decide +kernel
theorem dS_edge_83 : decode cS_edge 83 = .ok (.lreturn, 1) := by decide +kernel
theorem dS_firstFaultOfEdge_0 : decode cS_firstFaultOfEdge 0 = .ok (.iconst 0, 1) := by decide +kernel
theorem dS_firstFaultOfEdge_1 : decode cS_firstFaultOfEdge 1 = .ok (.istore_n 2, 1) := by decide +kernel
theorem dS_firstFaultOfEdge_2 : decode cS_firstFaultOfEdge 2 = .ok (.iconst 0, 1) := by decide +kernel
theorem dS_firstFaultOfEdge_3 : decode cS_firstFaultOfEdge 3 = .ok (.istore_n 3, 1) := by decide +kernel
theorem dS_firstFaultOfEdge_4 : decode cS_firstFaultOfEdge 4 = .ok (.iload_n 3, 1) := by decide +kernel
theorem dS_firstFaultOfEdge_5 : decode cS_firstFaultOfEdge 5 = .ok (.aload_n 0, 1) := by decide +kernel
theorem dS_firstFaultOfEdge_6 : decode cS_firstFaultOfEdge 6 = .ok (.getfield 56, 3) := by decide +kernel
theorem dS_firstFaultOfEdge_9 : decode cS_firstFaultOfEdge 9 = .ok (.if_icmp .ge 27, 3) := by decide +kernel
theorem dS_firstFaultOfEdge_12 : decode cS_firstFaultOfEdge 12 = .ok (.aload_n 0, 1) := by decide +kernel
theorem dS_firstFaultOfEdge_13 : decode cS_firstFaultOfEdge 13 = .ok (.iload_n 3, 1) := by decide +kernel
theorem dS_firstFaultOfEdge_14 : decode cS_firstFaultOfEdge 14 = .ok (.invokevirtual 143, 3) := by decide +kernel
theorem dS_firstFaultOfEdge_17 : decode cS_firstFaultOfEdge 17 = .ok (.ifCond .eq 13, 3) := by decide +kernel
theorem dS_firstFaultOfEdge_20 : decode cS_firstFaultOfEdge 20 = .ok (.iload_n 2, 1) := by decide +kernel
theorem dS_firstFaultOfEdge_21 : decode cS_firstFaultOfEdge 21 = .ok (.iload_n 1, 1) := by decide +kernel
theorem dS_firstFaultOfEdge_22 : decode cS_firstFaultOfEdge 22 = .ok (.if_icmp .ne 5, 3) := by decide +kernel
theorem dS_firstFaultOfEdge_25 : decode cS_firstFaultOfEdge 25 = .ok (.iload_n 3, 1) := by decide +kernel
theorem dS_firstFaultOfEdge_26 : decode cS_firstFaultOfEdge 26 = .ok (.ireturn, 1) := by decide +kernel
theorem dS_firstFaultOfEdge_27 : decode cS_firstFaultOfEdge 27 = .ok (.iinc 2 1, 3) := by decide +kernel
theorem dS_firstFaultOfEdge_30 : decode cS_firstFaultOfEdge 30 = .ok (.iinc 3 1, 3) := by decide +kernel
theorem dS_firstFaultOfEdge_33 : decode cS_firstFaultOfEdge 33 = .ok (.goto (-29), 3) := by decide +kernel
theorem dS_firstFaultOfEdge_36 : decode cS_firstFaultOfEdge 36 = .ok (.iconst (-1), 1) := by decide +kernel
theorem dS_firstFaultOfEdge_37 : decode cS_firstFaultOfEdge 37 = .ok (.ireturn, 1) := by decide +kernel
theorem dS_faultsLike_0 : decode cS_faultsLike 0 = .ok (.lconst 0, 1) := by decide +kernel
theorem dS_faultsLike_1 : decode cS_faultsLike 1 = .ok (.lstore_n 2, 1) := by decide +kernel
theorem dS_faultsLike_2 : decode cS_faultsLike 2 = .ok (.iconst 0, 1) := by decide +kernel
theorem dS_faultsLike_3 : decode cS_faultsLike 3 = .ok (.istore 4, 2) := by decide +kernel
theorem dS_faultsLike_5 : decode cS_faultsLike 5 = .ok (.iload 4, 2) := by decide +kernel
theorem dS_faultsLike_7 : decode cS_faultsLike 7 = .ok (.aload_n 0, 1) := by decide +kernel
theorem dS_faultsLike_8 : decode cS_faultsLike 8 = .ok (.getfield 56, 3) := by decide +kernel
theorem dS_faultsLike_11 : decode cS_faultsLike 11 = .ok (.if_icmp .ge 38, 3) := by decide +kernel
theorem dS_faultsLike_14 : decode cS_faultsLike 14 = .ok (.aload_n 0, 1) := by decide +kernel
theorem dS_faultsLike_15 : decode cS_faultsLike 15 = .ok (.getfield 26, 3) := by decide +kernel
theorem dS_faultsLike_18 : decode cS_faultsLike 18 = .ok (.iload 4, 2) := by decide +kernel
theorem dS_faultsLike_20 : decode cS_faultsLike 20 = .ok (.aaload, 1) := by decide +kernel
theorem dS_faultsLike_21 : decode cS_faultsLike 21 = .ok (.getfield 107, 3) := by decide +kernel
theorem dS_faultsLike_24 : decode cS_faultsLike 24 = .ok (.aload_n 0, 1) := by decide +kernel
theorem dS_faultsLike_25 : decode cS_faultsLike 25 = .ok (.getfield 26, 3) := by decide +kernel
theorem dS_faultsLike_28 : decode cS_faultsLike 28 = .ok (.iload_n 1, 1) := by decide +kernel
theorem dS_faultsLike_29 : decode cS_faultsLike 29 = .ok (.aaload, 1) := by decide +kernel
theorem dS_faultsLike_30 : decode cS_faultsLike 30 = .ok (.getfield 107, 3) := by decide +kernel
theorem dS_faultsLike_33 : decode cS_faultsLike 33 = .ok (.if_icmp .ne 10, 3) := by decide +kernel
theorem dS_faultsLike_36 : decode cS_faultsLike 36 = .ok (.lload_n 2, 1) := by decide +kernel
theorem dS_faultsLike_37 : decode cS_faultsLike 37 = .ok (.lconst 1, 1) := by decide +kernel
theorem dS_faultsLike_38 : decode cS_faultsLike 38 = .ok (.iload 4, 2) := by decide +kernel
theorem dS_faultsLike_40 : decode cS_faultsLike 40 = .ok (.lshl, 1) := by decide +kernel
theorem dS_faultsLike_41 : decode cS_faultsLike 41 = .ok (.lor, 1) := by decide +kernel
theorem dS_faultsLike_42 : decode cS_faultsLike 42 = .ok (.lstore_n 2, 1) := by decide +kernel
theorem dS_faultsLike_43 : decode cS_faultsLike 43 = .ok (.iinc 4 1, 3) := by decide +kernel
theorem dS_faultsLike_46 : decode cS_faultsLike 46 = .ok (.goto (-41), 3) := by decide +kernel
theorem dS_faultsLike_49 : decode cS_faultsLike 49 = .ok (.lload_n 2, 1) := by decide +kernel
theorem dS_faultsLike_50 : decode cS_faultsLike 50 = .ok (.lreturn, 1) := by decide +kernel
theorem dS_oddsNumerator_0 : decode cS_oddsNumerator 0 = .ok (.aload_n 0, 1) := by decide +kernel
theorem dS_oddsNumerator_1 : decode cS_oddsNumerator 1 = .ok (.lload_n 1, 1) := by decide +kernel
theorem dS_oddsNumerator_2 : decode cS_oddsNumerator 2 = .ok (.invokevirtual 158, 3) := by decide +kernel
theorem dS_oddsNumerator_5 : decode cS_oddsNumerator 5 = .ok (.lstore_n 3, 1) := by decide +kernel
theorem dS_oddsNumerator_6 : decode cS_oddsNumerator 6 = .ok (.lload_n 3, 1) := by decide +kernel
theorem dS_oddsNumerator_7 : decode cS_oddsNumerator 7 = .ok (.lload_n 3, 1) := by decide +kernel
theorem dS_oddsNumerator_8 : decode cS_oddsNumerator 8 = .ok (.lload_n 1, 1) := by decide +kernel
theorem dS_oddsNumerator_9 : decode cS_oddsNumerator 9 = .ok (.invokestatic 161, 3) := by decide +kernel
theorem dS_oddsNumerator_12 : decode cS_oddsNumerator 12 = .ok (.lushr, 1) := by decide +kernel
theorem dS_oddsNumerator_13 : decode cS_oddsNumerator 13 = .ok (.lreturn, 1) := by decide +kernel
theorem dS_oddCases_0 : decode cS_oddCases 0 = .ok (.lload_n 1, 1) := by decide +kernel
theorem dS_oddCases_1 : decode cS_oddCases 1 = .ok (.invokestatic 138, 3) := by decide +kernel
theorem dS_oddCases_4 : decode cS_oddCases 4 = .ok (.bipush 15, 2) := by decide +kernel
theorem dS_oddCases_6 : decode cS_oddCases 6 = .ok (.if_icmp .le 13, 3) := by decide +kernel
theorem dS_oddCases_9 : decode cS_oddCases 9 = .ok (.new 146, 3) := by decide +kernel
theorem dS_oddCases_12 : decode cS_oddCases 12 = .ok (.dup, 1) := by decide +kernel
theorem dS_oddCases_13 : decode cS_oddCases 13 = .ok (.ldc 148, 2) := by decide +kernel
theorem dS_oddCases_15 : decode cS_oddCases 15 = .ok (.invokespecial 150, 3) := by decide +kernel
theorem dS_oddCases_18 : decode cS_oddCases 18 = .ok (.athrow, 1) := by decide +kernel
theorem dS_oddCases_19 : decode cS_oddCases 19 = .ok (.lconst 0, 1) := by decide +kernel
theorem dS_oddCases_20 : decode cS_oddCases 20 = .ok (.lstore_n 3, 1) := by decide +kernel
theorem dS_oddCases_21 : decode cS_oddCases 21 = .ok (.lconst 1, 1) := by decide +kernel
theorem dS_oddCases_22 : decode cS_oddCases 22 = .ok (.lstore 5, 2) := by decide +kernel
theorem dS_oddCases_24 : decode cS_oddCases 24 = .ok (.iconst 0, 1) := by decide +kernel
theorem dS_oddCases_25 : decode cS_oddCases 25 = .ok (.istore 7, 2) := by decide +kernel
theorem dS_oddCases_27 : decode cS_oddCases 27 = .ok (.iload 7, 2) := by decide +kernel
theorem dS_oddCases_29 : decode cS_oddCases 29 = .ok (.aload_n 0, 1) := by decide +kernel
theorem dS_oddCases_30 : decode cS_oddCases 30 = .ok (.getfield 56, 3) := by decide +kernel
theorem dS_oddCases_33 : decode cS_oddCases 33 = .ok (.if_icmp .ge 66, 3) := by decide +kernel
theorem dS_oddCases_36 : decode cS_oddCases 36 = .ok (.lload_n 1, 1) := by decide +kernel
theorem dS_oddCases_37 : decode cS_oddCases 37 = .ok (.iload 7, 2) := by decide +kernel
theorem dS_oddCases_39 : decode cS_oddCases 39 = .ok (.invokestatic 94, 3) := by decide +kernel
theorem dS_oddCases_42 : decode cS_oddCases 42 = .ok (.ifCond .eq 51, 3) := by decide +kernel
theorem dS_oddCases_45 : decode cS_oddCases 45 = .ok (.aload_n 0, 1) := by decide +kernel
theorem dS_oddCases_46 : decode cS_oddCases 46 = .ok (.getfield 26, 3) := by decide +kernel
theorem dS_oddCases_49 : decode cS_oddCases 49 = .ok (.iload 7, 2) := by decide +kernel
theorem dS_oddCases_51 : decode cS_oddCases 51 = .ok (.aaload, 1) := by decide +kernel
theorem dS_oddCases_52 : decode cS_oddCases 52 = .ok (.getfield 153, 3) := by decide +kernel
theorem dS_oddCases_55 : decode cS_oddCases 55 = .ok (.i2l, 1) := by decide +kernel
theorem dS_oddCases_56 : decode cS_oddCases 56 = .ok (.lstore 8, 2) := by decide +kernel
theorem dS_oddCases_58 : decode cS_oddCases 58 = .ok (.lload_n 3, 1) := by decide +kernel
theorem dS_oddCases_59 : decode cS_oddCases 59 = .ok (.ldc2_w 156, 3) := by decide +kernel
theorem dS_oddCases_62 : decode cS_oddCases 62 = .ok (.lload 8, 2) := by decide +kernel
theorem dS_oddCases_64 : decode cS_oddCases 64 = .ok (.lsub, 1) := by decide +kernel
theorem dS_oddCases_65 : decode cS_oddCases 65 = .ok (.lmul, 1) := by decide +kernel
theorem dS_oddCases_66 : decode cS_oddCases 66 = .ok (.lload 5, 2) := by decide +kernel
theorem dS_oddCases_68 : decode cS_oddCases 68 = .ok (.lload 8, 2) := by decide +kernel
theorem dS_oddCases_70 : decode cS_oddCases 70 = .ok (.lmul, 1) := by decide +kernel
theorem dS_oddCases_71 : decode cS_oddCases 71 = .ok (.ladd, 1) := by decide +kernel
theorem dS_oddCases_72 : decode cS_oddCases 72 = .ok (.lstore 10, 2) := by decide +kernel
theorem dS_oddCases_74 : decode cS_oddCases 74 = .ok (.lload 5, 2) := by decide +kernel
theorem dS_oddCases_76 : decode cS_oddCases 76 = .ok (.ldc2_w 156, 3) := by decide +kernel
theorem dS_oddCases_79 : decode cS_oddCases 79 = .ok (.lload 8, 2) := by decide +kernel
theorem dS_oddCases_81 : decode cS_oddCases 81 = .ok (.lsub, 1) := by decide +kernel
theorem dS_oddCases_82 : decode cS_oddCases 82 = .ok (.lmul, 1) := by decide +kernel
theorem dS_oddCases_83 : decode cS_oddCases 83 = .ok (.lload_n 3, 1) := by decide +kernel
theorem dS_oddCases_84 : decode cS_oddCases 84 = .ok (.lload 8, 2) := by decide +kernel
theorem dS_oddCases_86 : decode cS_oddCases 86 = .ok (.lmul, 1) := by decide +kernel
theorem dS_oddCases_87 : decode cS_oddCases 87 = .ok (.ladd, 1) := by decide +kernel
theorem dS_oddCases_88 : decode cS_oddCases 88 = .ok (.lstore 5, 2) := by decide +kernel
theorem dS_oddCases_90 : decode cS_oddCases 90 = .ok (.lload 10, 2) := by decide +kernel
theorem dS_oddCases_92 : decode cS_oddCases 92 = .ok (.lstore_n 3, 1) := by decide +kernel
theorem dS_oddCases_93 : decode cS_oddCases 93 = .ok (.iinc 7 1, 3) := by decide +kernel
theorem dS_oddCases_96 : decode cS_oddCases 96 = .ok (.goto (-69), 3) := by decide +kernel
theorem dS_oddCases_99 : decode cS_oddCases 99 = .ok (.lload_n 3, 1) := by decide +kernel
theorem dS_oddCases_100 : decode cS_oddCases 100 = .ok (.lreturn, 1) := by decide +kernel
theorem dS_sharedTwos_0 : decode cS_sharedTwos 0 = .ok (.lload_n 0, 1) := by decide +kernel
theorem dS_sharedTwos_1 : decode cS_sharedTwos 1 = .ok (.invokestatic 165, 3) := by decide +kernel
theorem dS_sharedTwos_4 : decode cS_sharedTwos 4 = .ok (.iconst 4, 1) := by decide +kernel
theorem dS_sharedTwos_5 : decode cS_sharedTwos 5 = .ok (.lload_n 2, 1) := by decide +kernel
theorem dS_sharedTwos_6 : decode cS_sharedTwos 6 = .ok (.invokestatic 138, 3) := by decide +kernel
theorem dS_sharedTwos_9 : decode cS_sharedTwos 9 = .ok (.imul, 1) := by decide +kernel
theorem dS_sharedTwos_10 : decode cS_sharedTwos 10 = .ok (.invokestatic 168, 3) := by decide +kernel
theorem dS_sharedTwos_13 : decode cS_sharedTwos 13 = .ok (.ireturn, 1) := by decide +kernel
theorem dS_oddsExponent_0 : decode cS_oddsExponent 0 = .ok (.aload_n 0, 1) := by decide +kernel
theorem dS_oddsExponent_1 : decode cS_oddsExponent 1 = .ok (.lload_n 1, 1) := by decide +kernel
theorem dS_oddsExponent_2 : decode cS_oddsExponent 2 = .ok (.invokevirtual 158, 3) := by decide +kernel
theorem dS_oddsExponent_5 : decode cS_oddsExponent 5 = .ok (.lstore_n 3, 1) := by decide +kernel
theorem dS_oddsExponent_6 : decode cS_oddsExponent 6 = .ok (.iconst 4, 1) := by decide +kernel
theorem dS_oddsExponent_7 : decode cS_oddsExponent 7 = .ok (.lload_n 1, 1) := by decide +kernel
theorem dS_oddsExponent_8 : decode cS_oddsExponent 8 = .ok (.invokestatic 138, 3) := by decide +kernel
theorem dS_oddsExponent_11 : decode cS_oddsExponent 11 = .ok (.imul, 1) := by decide +kernel
theorem dS_oddsExponent_12 : decode cS_oddsExponent 12 = .ok (.lload_n 3, 1) := by decide +kernel
theorem dS_oddsExponent_13 : decode cS_oddsExponent 13 = .ok (.lload_n 1, 1) := by decide +kernel
theorem dS_oddsExponent_14 : decode cS_oddsExponent 14 = .ok (.invokestatic 161, 3) := by decide +kernel
theorem dS_oddsExponent_17 : decode cS_oddsExponent 17 = .ok (.isub, 1) := by decide +kernel
theorem dS_oddsExponent_18 : decode cS_oddsExponent 18 = .ok (.i2l, 1) := by decide +kernel
theorem dS_oddsExponent_19 : decode cS_oddsExponent 19 = .ok (.lreturn, 1) := by decide +kernel
end
section
theorem dM_init_0 : decode cM_init 0 = .ok (.aload_n 0, 1) := by decide +kernel
theorem dM_init_1 : decode cM_init 1 = .ok (.invokespecial 1, 3) := by decide +kernel
theorem dM_init_4 : decode cM_init 4 = .ok (.aload_n 0, 1) := by decide +kernel
theorem dM_init_5 : decode cM_init 5 = .ok (.sipush 300, 3) := by decide +kernel
theorem dM_init_8 : decode cM_init 8 = .ok (.newarray .int, 2) := by decide +kernel
theorem dM_init_10 : decode cM_init 10 = .ok (.putfield 7, 3) := by decide +kernel
theorem dM_init_13 : decode cM_init 13 = .ok (.aload_n 0, 1) := by decide +kernel
theorem dM_init_14 : decode cM_init 14 = .ok (.sipush 300, 3) := by decide +kernel
theorem dM_init_17 : decode cM_init 17 = .ok (.newarray .int, 2) := by decide +kernel
theorem dM_init_19 : decode cM_init 19 = .ok (.putfield 13, 3) := by decide +kernel
theorem dM_init_22 : decode cM_init 22 = .ok (.aload_n 0, 1) := by decide +kernel
theorem dM_init_23 : decode cM_init 23 = .ok (.sipush 300, 3) := by decide +kernel
theorem dM_init_26 : decode cM_init 26 = .ok (.newarray .int, 2) := by decide +kernel
theorem dM_init_28 : decode cM_init 28 = .ok (.putfield 16, 3) := by decide +kernel
theorem dM_init_31 : decode cM_init 31 = .ok (.aload_n 0, 1) := by decide +kernel
theorem dM_init_32 : decode cM_init 32 = .ok (.bipush 40, 2) := by decide +kernel
theorem dM_init_34 : decode cM_init 34 = .ok (.newarray .int, 2) := by decide +kernel
theorem dM_init_36 : decode cM_init 36 = .ok (.putfield 19, 3) := by decide +kernel
theorem dM_init_39 : decode cM_init 39 = .ok (.aload_n 0, 1) := by decide +kernel
theorem dM_init_40 : decode cM_init 40 = .ok (.bipush 40, 2) := by decide +kernel
theorem dM_init_42 : decode cM_init 42 = .ok (.newarray .int, 2) := by decide +kernel
theorem dM_init_44 : decode cM_init 44 = .ok (.putfield 22, 3) := by decide +kernel
theorem dM_init_47 : decode cM_init 47 = .ok (.aload_n 0, 1) := by decide +kernel
theorem dM_init_48 : decode cM_init 48 = .ok (.bipush 40, 2) := by decide +kernel
theorem dM_init_50 : decode cM_init 50 = .ok (.newarray .int, 2) := by decide +kernel
theorem dM_init_52 : decode cM_init 52 = .ok (.putfield 25, 3) := by decide +kernel
theorem dM_init_55 : decode cM_init 55 = .ok (.aload_n 0, 1) := by decide +kernel
theorem dM_init_56 : decode cM_init 56 = .ok (.bipush 16, 2) := by decide +kernel
theorem dM_init_58 : decode cM_init 58 = .ok (.newarray .long, 2) := by decide +kernel
theorem dM_init_60 : decode cM_init 60 = .ok (.putfield 28, 3) := by decide +kernel
theorem dM_init_63 : decode cM_init 63 = .ok (.aload_n 0, 1) := by decide +kernel
theorem dM_init_64 : decode cM_init 64 = .ok (.bipush 10, 2) := by decide +kernel
theorem dM_init_66 : decode cM_init 66 = .ok (.newarray .int, 2) := by decide +kernel
theorem dM_init_68 : decode cM_init 68 = .ok (.putfield 32, 3) := by decide +kernel
theorem dM_init_71 : decode cM_init 71 = .ok (.aload_n 0, 1) := by decide +kernel
theorem dM_init_72 : decode cM_init 72 = .ok (.bipush 10, 2) := by decide +kernel
theorem dM_init_74 : decode cM_init 74 = .ok (.newarray .int, 2) := by decide +kernel
theorem dM_init_76 : decode cM_init 76 = .ok (.putfield 35, 3) := by decide +kernel
theorem dM_init_79 : decode cM_init 79 = .ok (.aload_n 0, 1) := by decide +kernel
theorem dM_init_80 : decode cM_init 80 = .ok (.bipush 10, 2) := by decide +kernel
theorem dM_init_82 : decode cM_init 82 = .ok (.newarray .int, 2) := by decide +kernel
theorem dM_init_84 : decode cM_init 84 = .ok (.putfield 38, 3) := by decide +kernel
theorem dM_init_87 : decode cM_init 87 = .ok (.aload_n 0, 1) := by decide +kernel
theorem dM_init_88 : decode cM_init 88 = .ok (.bipush 10, 2) := by decide +kernel
theorem dM_init_90 : decode cM_init 90 = .ok (.newarray .long, 2) := by decide +kernel
theorem dM_init_92 : decode cM_init 92 = .ok (.putfield 41, 3) := by decide +kernel
theorem dM_init_95 : decode cM_init 95 = .ok (.aload_n 0, 1) := by decide +kernel
theorem dM_init_96 : decode cM_init 96 = .ok (.bipush 60, 2) := by decide +kernel
theorem dM_init_98 : decode cM_init 98 = .ok (.newarray .int, 2) := by decide +kernel
theorem dM_init_100 : decode cM_init 100 = .ok (.putfield 44, 3) := by decide +kernel
theorem dM_init_103 : decode cM_init 103 = .ok (.aload_n 0, 1) := by decide +kernel
theorem dM_init_104 : decode cM_init 104 = .ok (.bipush 60, 2) := by decide +kernel
theorem dM_init_106 : decode cM_init 106 = .ok (.newarray .long, 2) := by decide +kernel
theorem dM_init_108 : decode cM_init 108 = .ok (.putfield 47, 3) := by decide +kernel
theorem dM_init_111 : decode cM_init 111 = .ok (.aload_n 0, 1) := by decide +kernel
theorem dM_init_112 : decode cM_init 112 = .ok (.bipush 10, 2) := by decide +kernel
theorem dM_init_114 : decode cM_init 114 = .ok (.newarray .boolean, 2) := by decide +kernel
theorem dM_init_116 : decode cM_init 116 = .ok (.putfield 50, 3) := by decide +kernel
theorem dM_init_119 : decode cM_init 119 = .ok (.aload_n 0, 1) := by decide +kernel
theorem dM_init_120 : decode cM_init 120 = .ok (.bipush 40, 2) := by decide +kernel
theorem dM_init_122 : decode cM_init 122 = .ok (.newarray .int, 2) := by decide +kernel
theorem dM_init_124 : decode cM_init 124 = .ok (.putfield 54, 3) := by decide +kernel
theorem dM_init_127 : decode cM_init 127 = .ok (.aload_n 0, 1) := by decide +kernel
theorem dM_init_128 : decode cM_init 128 = .ok (.bipush 40, 2) := by decide +kernel
theorem dM_init_130 : decode cM_init 130 = .ok (.newarray .long, 2) := by decide +kernel
theorem dM_init_132 : decode cM_init 132 = .ok (.putfield 57, 3) := by decide +kernel
theorem dM_init_135 : decode cM_init 135 = .ok (.aload_n 0, 1) := by decide +kernel
theorem dM_init_136 : decode cM_init 136 = .ok (.iconst 1, 1) := by decide +kernel
theorem dM_init_137 : decode cM_init 137 = .ok (.invokevirtual 60, 3) := by decide +kernel
theorem dM_init_140 : decode cM_init 140 = .ok (.return_, 1) := by decide +kernel
theorem dM_start_0 : decode cM_start 0 = .ok (.aload_n 0, 1) := by decide +kernel
theorem dM_start_1 : decode cM_start 1 = .ok (.iload_n 1, 1) := by decide +kernel
theorem dM_start_2 : decode cM_start 2 = .ok (.putfield 68, 3) := by decide +kernel
theorem dM_start_5 : decode cM_start 5 = .ok (.aload_n 0, 1) := by decide +kernel
theorem dM_start_6 : decode cM_start 6 = .ok (.iconst 0, 1) := by decide +kernel
theorem dM_start_7 : decode cM_start 7 = .ok (.putfield 71, 3) := by decide +kernel
theorem dM_start_10 : decode cM_start 10 = .ok (.aload_n 0, 1) := by decide +kernel
theorem dM_start_11 : decode cM_start 11 = .ok (.iconst 0, 1) := by decide +kernel
theorem dM_start_12 : decode cM_start 12 = .ok (.putfield 74, 3) := by decide +kernel
theorem dM_start_15 : decode cM_start 15 = .ok (.aload_n 0, 1) := by decide +kernel
theorem dM_start_16 : decode cM_start 16 = .ok (.iconst 0, 1) := by decide +kernel
theorem dM_start_17 : decode cM_start 17 = .ok (.putfield 77, 3) := by decide +kernel
theorem dM_start_20 : decode cM_start 20 = .ok (.aload_n 0, 1) := by decide +kernel
theorem dM_start_21 : decode cM_start 21 = .ok (.iconst 0, 1) := by decide +kernel
theorem dM_start_22 : decode cM_start 22 = .ok (.putfield 80, 3) := by decide +kernel
theorem dM_start_25 : decode cM_start 25 = .ok (.return_, 1) := by decide +kernel
theorem dM_thrown_0 : decode cM_thrown 0 = .ok (.aload_n 0, 1) := by decide +kernel
theorem dM_thrown_1 : decode cM_thrown 1 = .ok (.getfield 64, 3) := by decide +kernel
theorem dM_thrown_4 : decode cM_thrown 4 = .ok (.ireturn, 1) := by decide +kernel
theorem dM_begin_0 : decode cM_begin 0 = .ok (.aload_n 0, 1) := by decide +kernel
theorem dM_begin_1 : decode cM_begin 1 = .ok (.iconst 0, 1) := by decide +kernel
theorem dM_begin_2 : decode cM_begin 2 = .ok (.putfield 64, 3) := by decide +kernel
theorem dM_begin_5 : decode cM_begin 5 = .ok (.iload_n 1, 1) := by decide +kernel
theorem dM_begin_6 : decode cM_begin 6 = .ok (.iconst 1, 1) := by decide +kernel
theorem dM_begin_7 : decode cM_begin 7 = .ok (.if_icmp .lt 9, 3) := by decide +kernel
theorem dM_begin_10 : decode cM_begin 10 = .ok (.iload_n 1, 1) := by decide +kernel
theorem dM_begin_11 : decode cM_begin 11 = .ok (.bipush 10, 2) := by decide +kernel
theorem dM_begin_13 : decode cM_begin 13 = .ok (.if_icmp .le 5, 3) := by decide +kernel
theorem dM_begin_16 : decode cM_begin 16 = .ok (.iconst 0, 1) := by decide +kernel
theorem dM_begin_17 : decode cM_begin 17 = .ok (.ireturn, 1) := by decide +kernel
theorem dM_begin_18 : decode cM_begin 18 = .ok (.aload_n 0, 1) := by decide +kernel
theorem dM_begin_19 : decode cM_begin 19 = .ok (.iload_n 1, 1) := by decide +kernel
theorem dM_begin_20 : decode cM_begin 20 = .ok (.invokevirtual 60, 3) := by decide +kernel
theorem dM_begin_23 : decode cM_begin 23 = .ok (.iconst 1, 1) := by decide +kernel
theorem dM_begin_24 : decode cM_begin 24 = .ok (.ireturn, 1) := by decide +kernel
theorem dM_gate_0 : decode cM_gate 0 = .ok (.aload_n 0, 1) := by decide +kernel
theorem dM_gate_1 : decode cM_gate 1 = .ok (.iconst 0, 1) := by decide +kernel
theorem dM_gate_2 : decode cM_gate 2 = .ok (.putfield 64, 3) := by decide +kernel
theorem dM_gate_5 : decode cM_gate 5 = .ok (.iload_n 1, 1) := by decide +kernel
theorem dM_gate_6 : decode cM_gate 6 = .ok (.ifCond .lt 27, 3) := by decide +kernel
theorem dM_gate_9 : decode cM_gate 9 = .ok (.iload_n 1, 1) := by decide +kernel
theorem dM_gate_10 : decode cM_gate 10 = .ok (.bipush 6, 2) := by decide +kernel
theorem dM_gate_12 : decode cM_gate 12 = .ok (.if_icmp .gt 21, 3) := by decide +kernel
theorem dM_gate_15 : decode cM_gate 15 = .ok (.aload_n 0, 1) := by decide +kernel
theorem dM_gate_16 : decode cM_gate 16 = .ok (.iload_n 2, 1) := by decide +kernel
theorem dM_gate_17 : decode cM_gate 17 = .ok (.invokevirtual 83, 3) := by decide +kernel
theorem dM_gate_20 : decode cM_gate 20 = .ok (.ifCond .eq 13, 3) := by decide +kernel
theorem dM_gate_23 : decode cM_gate 23 = .ok (.aload_n 0, 1) := by decide +kernel
theorem dM_gate_24 : decode cM_gate 24 = .ok (.getfield 71, 3) := by decide +kernel
theorem dM_gate_27 : decode cM_gate 27 = .ok (.sipush 300, 3) := by decide +kernel
theorem dM_gate_30 : decode cM_gate 30 = .ok (.if_icmp .ne 5, 3) := by decide +kernel
theorem dM_gate_33 : decode cM_gate 33 = .ok (.iconst 0, 1) := by decide +kernel
theorem dM_gate_34 : decode cM_gate 34 = .ok (.ireturn, 1) := by decide +kernel
theorem dM_gate_35 : decode cM_gate 35 = .ok (.iload_n 1, 1) := by decide +kernel
theorem dM_gate_36 : decode cM_gate 36 = .ok (.iconst 2, 1) := by decide +kernel
theorem dM_gate_37 : decode cM_gate 37 = .ok (.if_icmp .lt 23, 3) := by decide +kernel
theorem dM_gate_40 : decode cM_gate 40 = .ok (.iload_n 1, 1) := by decide +kernel
theorem dM_gate_41 : decode cM_gate 41 = .ok (.iconst 4, 1) := by decide +kernel
theorem dM_gate_42 : decode cM_gate 42 = .ok (.if_icmp .gt 18, 3) := by decide +kernel
theorem dM_gate_45 : decode cM_gate 45 = .ok (.aload_n 0, 1) := by decide +kernel
theorem dM_gate_46 : decode cM_gate 46 = .ok (.iload_n 3, 1) := by decide +kernel
theorem dM_gate_47 : decode cM_gate 47 = .ok (.invokevirtual 83, 3) := by decide +kernel
theorem dM_gate_50 : decode cM_gate 50 = .ok (.ifCond .eq 8, 3) := by decide +kernel
theorem dM_gate_53 : decode cM_gate 53 = .ok (.iload_n 2, 1) := by decide +kernel
theorem dM_gate_54 : decode cM_gate 54 = .ok (.iload_n 3, 1) := by decide +kernel
theorem dM_gate_55 : decode cM_gate 55 = .ok (.if_icmp .ne 5, 3) := by decide +kernel
theorem dM_gate_58 : decode cM_gate 58 = .ok (.iconst 0, 1) := by decide +kernel
theorem dM_gate_59 : decode cM_gate 59 = .ok (.ireturn, 1) := by decide +kernel
theorem dM_gate_60 : decode cM_gate 60 = .ok (.aload_n 0, 1) := by decide +kernel
theorem dM_gate_61 : decode cM_gate 61 = .ok (.iload_n 1, 1) := by decide +kernel
theorem dM_gate_62 : decode cM_gate 62 = .ok (.iload_n 2, 1) := by decide +kernel
theorem dM_gate_63 : decode cM_gate 63 = .ok (.iload_n 3, 1) := by decide +kernel
theorem dM_gate_64 : decode cM_gate 64 = .ok (.invokevirtual 87, 3) := by decide +kernel
theorem dM_gate_67 : decode cM_gate 67 = .ok (.iconst 1, 1) := by decide +kernel
theorem dM_gate_68 : decode cM_gate 68 = .ok (.ireturn, 1) := by decide +kernel
theorem dM_isWire_0 : decode cM_isWire 0 = .ok (.iload_n 1, 1) := by decide +kernel
theorem dM_isWire_1 : decode cM_isWire 1 = .ok (.ifCond .lt 15, 3) := by decide +kernel
theorem dM_isWire_4 : decode cM_isWire 4 = .ok (.iload_n 1, 1) := by decide +kernel
theorem dM_isWire_5 : decode cM_isWire 5 = .ok (.aload_n 0, 1) := by decide +kernel
theorem dM_isWire_6 : decode cM_isWire 6 = .ok (.getfield 68, 3) := by decide +kernel
theorem dM_isWire_9 : decode cM_isWire 9 = .ok (.if_icmp .ge 7, 3) := by decide +kernel
theorem dM_isWire_12 : decode cM_isWire 12 = .ok (.iconst 1, 1) := by decide +kernel
theorem dM_isWire_13 : decode cM_isWire 13 = .ok (.goto 4, 3) := by decide +kernel
theorem dM_isWire_16 : decode cM_isWire 16 = .ok (.iconst 0, 1) := by decide +kernel
theorem dM_isWire_17 : decode cM_isWire 17 = .ok (.ireturn, 1) := by decide +kernel
theorem dM_act_0 : decode cM_act 0 = .ok (.aload_n 0, 1) := by decide +kernel
theorem dM_act_1 : decode cM_act 1 = .ok (.getfield 7, 3) := by decide +kernel
theorem dM_act_4 : decode cM_act 4 = .ok (.aload_n 0, 1) := by decide +kernel
theorem dM_act_5 : decode cM_act 5 = .ok (.getfield 71, 3) := by decide +kernel
theorem dM_act_8 : decode cM_act 8 = .ok (.iload_n 1, 1) := by decide +kernel
theorem dM_act_9 : decode cM_act 9 = .ok (.iastore, 1) := by decide +kernel
theorem dM_act_10 : decode cM_act 10 = .ok (.aload_n 0, 1) := by decide +kernel
theorem dM_act_11 : decode cM_act 11 = .ok (.getfield 13, 3) := by decide +kernel
theorem dM_act_14 : decode cM_act 14 = .ok (.aload_n 0, 1) := by decide +kernel
theorem dM_act_15 : decode cM_act 15 = .ok (.getfield 71, 3) := by decide +kernel
theorem dM_act_18 : decode cM_act 18 = .ok (.iload_n 2, 1) := by decide +kernel
theorem dM_act_19 : decode cM_act 19 = .ok (.iastore, 1) := by decide +kernel
theorem dM_act_20 : decode cM_act 20 = .ok (.aload_n 0, 1) := by decide +kernel
theorem dM_act_21 : decode cM_act 21 = .ok (.getfield 16, 3) := by decide +kernel
theorem dM_act_24 : decode cM_act 24 = .ok (.aload_n 0, 1) := by decide +kernel
theorem dM_act_25 : decode cM_act 25 = .ok (.getfield 71, 3) := by decide +kernel
theorem dM_act_28 : decode cM_act 28 = .ok (.iload_n 3, 1) := by decide +kernel
theorem dM_act_29 : decode cM_act 29 = .ok (.iastore, 1) := by decide +kernel
theorem dM_act_30 : decode cM_act 30 = .ok (.aload_n 0, 1) := by decide +kernel
theorem dM_act_31 : decode cM_act 31 = .ok (.dup, 1) := by decide +kernel
theorem dM_act_32 : decode cM_act 32 = .ok (.getfield 71, 3) := by decide +kernel
theorem dM_act_35 : decode cM_act 35 = .ok (.iconst 1, 1) := by decide +kernel
theorem dM_act_36 : decode cM_act 36 = .ok (.iadd, 1) := by decide +kernel
theorem dM_act_37 : decode cM_act 37 = .ok (.putfield 71, 3) := by decide +kernel
theorem dM_act_40 : decode cM_act 40 = .ok (.return_, 1) := by decide +kernel
theorem dM_look_0 : decode cM_look 0 = .ok (.aload_n 0, 1) := by decide +kernel
theorem dM_look_1 : decode cM_look 1 = .ok (.iconst 0, 1) := by decide +kernel
theorem dM_look_2 : decode cM_look 2 = .ok (.putfield 64, 3) := by decide +kernel
theorem dM_look_5 : decode cM_look 5 = .ok (.aload_n 0, 1) := by decide +kernel
theorem dM_look_6 : decode cM_look 6 = .ok (.iload_n 1, 1) := by decide +kernel
theorem dM_look_7 : decode cM_look 7 = .ok (.invokevirtual 83, 3) := by decide +kernel
theorem dM_look_10 : decode cM_look 10 = .ok (.ifCond .eq 22, 3) := by decide +kernel
theorem dM_look_13 : decode cM_look 13 = .ok (.aload_n 0, 1) := by decide +kernel
theorem dM_look_14 : decode cM_look 14 = .ok (.getfield 74, 3) := by decide +kernel
theorem dM_look_17 : decode cM_look 17 = .ok (.bipush 60, 2) := by decide +kernel
theorem dM_look_19 : decode cM_look 19 = .ok (.if_icmp .eq 13, 3) := by decide +kernel
theorem dM_look_22 : decode cM_look 22 = .ok (.aload_n 0, 1) := by decide +kernel
theorem dM_look_23 : decode cM_look 23 = .ok (.getfield 71, 3) := by decide +kernel
theorem dM_look_26 : decode cM_look 26 = .ok (.sipush 300, 3) := by decide +kernel
theorem dM_look_29 : decode cM_look 29 = .ok (.if_icmp .ne 5, 3) := by decide +kernel
theorem dM_look_32 : decode cM_look 32 = .ok (.iconst (-1), 1) := by decide +kernel
theorem dM_look_33 : decode cM_look 33 = .ok (.ireturn, 1) := by decide +kernel
theorem dM_look_34 : decode cM_look 34 = .ok (.aload_n 0, 1) := by decide +kernel
theorem dM_look_35 : decode cM_look 35 = .ok (.iload_n 2, 1) := by decide +kernel
theorem dM_look_36 : decode cM_look 36 = .ok (.ifCond .eq 8, 3) := by decide +kernel
theorem dM_look_39 : decode cM_look 39 = .ok (.bipush 8, 2) := by decide +kernel
theorem dM_look_41 : decode cM_look 41 = .ok (.goto 5, 3) := by decide +kernel
theorem dM_look_44 : decode cM_look 44 = .ok (.bipush 7, 2) := by decide +kernel
theorem dM_look_46 : decode cM_look 46 = .ok (.iload_n 1, 1) := by decide +kernel
theorem dM_look_47 : decode cM_look 47 = .ok (.aload_n 0, 1) := by decide +kernel
theorem dM_look_48 : decode cM_look 48 = .ok (.getfield 74, 3) := by decide +kernel
theorem dM_look_51 : decode cM_look 51 = .ok (.invokevirtual 87, 3) := by decide +kernel
theorem dM_look_54 : decode cM_look 54 = .ok (.aload_n 0, 1) := by decide +kernel
theorem dM_look_55 : decode cM_look 55 = .ok (.dup, 1) := by decide +kernel
theorem dM_look_56 : decode cM_look 56 = .ok (.getfield 74, 3) := by decide +kernel
theorem dM_look_59 : decode cM_look 59 = .ok (.iconst 1, 1) := by decide +kernel
theorem dM_look_60 : decode cM_look 60 = .ok (.iadd, 1) := by decide +kernel
theorem dM_look_61 : decode cM_look 61 = .ok (.putfield 74, 3) := by decide +kernel
theorem dM_look_64 : decode cM_look 64 = .ok (.aload_n 0, 1) := by decide +kernel
theorem dM_look_65 : decode cM_look 65 = .ok (.getfield 74, 3) := by decide +kernel
theorem dM_look_68 : decode cM_look 68 = .ok (.iconst 1, 1) := by decide +kernel
theorem dM_look_69 : decode cM_look 69 = .ok (.isub, 1) := by decide +kernel
theorem dM_look_70 : decode cM_look 70 = .ok (.ireturn, 1) := by decide +kernel
theorem dM_fault_0 : decode cM_fault 0 = .ok (.aload_n 0, 1) := by decide +kernel
theorem dM_fault_1 : decode cM_fault 1 = .ok (.iconst 0, 1) := by decide +kernel
theorem dM_fault_2 : decode cM_fault 2 = .ok (.putfield 64, 3) := by decide +kernel
theorem dM_fault_5 : decode cM_fault 5 = .ok (.iload_n 1, 1) := by decide +kernel
theorem dM_fault_6 : decode cM_fault 6 = .ok (.ifCond .lt 45, 3) := by decide +kernel
theorem dM_fault_9 : decode cM_fault 9 = .ok (.iload_n 1, 1) := by decide +kernel
theorem dM_fault_10 : decode cM_fault 10 = .ok (.iconst 2, 1) := by decide +kernel
theorem dM_fault_11 : decode cM_fault 11 = .ok (.if_icmp .gt 40, 3) := by decide +kernel
theorem dM_fault_14 : decode cM_fault 14 = .ok (.aload_n 0, 1) := by decide +kernel
theorem dM_fault_15 : decode cM_fault 15 = .ok (.iload_n 2, 1) := by decide +kernel
theorem dM_fault_16 : decode cM_fault 16 = .ok (.invokevirtual 83, 3) := by decide +kernel
theorem dM_fault_19 : decode cM_fault 19 = .ok (.ifCond .eq 32, 3) := by decide +kernel
theorem dM_fault_22 : decode cM_fault 22 = .ok (.iload_n 3, 1) := by decide +kernel
theorem dM_fault_23 : decode cM_fault 23 = .ok (.ifCond .lt 28, 3) := by decide +kernel
theorem dM_fault_26 : decode cM_fault 26 = .ok (.iload_n 3, 1) := by decide +kernel
theorem dM_fault_27 : decode cM_fault 27 = .ok (.bipush 16, 2) := by decide +kernel
theorem dM_fault_29 : decode cM_fault 29 = .ok (.if_icmp .gt 22, 3) := by decide +kernel
theorem dM_fault_32 : decode cM_fault 32 = .ok (.aload_n 0, 1) := by decide +kernel
theorem dM_fault_33 : decode cM_fault 33 = .ok (.getfield 77, 3) := by decide +kernel
theorem dM_fault_36 : decode cM_fault 36 = .ok (.bipush 40, 2) := by decide +kernel
theorem dM_fault_38 : decode cM_fault 38 = .ok (.if_icmp .eq 13, 3) := by decide +kernel
theorem dM_fault_41 : decode cM_fault 41 = .ok (.aload_n 0, 1) := by decide +kernel
theorem dM_fault_42 : decode cM_fault 42 = .ok (.getfield 71, 3) := by decide +kernel
theorem dM_fault_45 : decode cM_fault 45 = .ok (.sipush 300, 3) := by decide +kernel
theorem dM_fault_48 : decode cM_fault 48 = .ok (.if_icmp .ne 5, 3) := by decide +kernel
theorem dM_fault_51 : decode cM_fault 51 = .ok (.iconst (-1), 1) := by decide +kernel
theorem dM_fault_52 : decode cM_fault 52 = .ok (.ireturn, 1) := by decide +kernel
theorem dM_fault_53 : decode cM_fault 53 = .ok (.aload_n 0, 1) := by decide +kernel
theorem dM_fault_54 : decode cM_fault 54 = .ok (.getfield 19, 3) := by decide +kernel
theorem dM_fault_57 : decode cM_fault 57 = .ok (.aload_n 0, 1) := by decide +kernel
theorem dM_fault_58 : decode cM_fault 58 = .ok (.getfield 77, 3) := by decide +kernel
theorem dM_fault_61 : decode cM_fault 61 = .ok (.aload_n 0, 1) := by decide +kernel
theorem dM_fault_62 : decode cM_fault 62 = .ok (.getfield 71, 3) := by decide +kernel
theorem dM_fault_65 : decode cM_fault 65 = .ok (.iastore, 1) := by decide +kernel
theorem dM_fault_66 : decode cM_fault 66 = .ok (.aload_n 0, 1) := by decide +kernel
theorem dM_fault_67 : decode cM_fault 67 = .ok (.getfield 22, 3) := by decide +kernel
theorem dM_fault_70 : decode cM_fault 70 = .ok (.aload_n 0, 1) := by decide +kernel
theorem dM_fault_71 : decode cM_fault 71 = .ok (.getfield 77, 3) := by decide +kernel
theorem dM_fault_74 : decode cM_fault 74 = .ok (.iload_n 1, 1) := by decide +kernel
theorem dM_fault_75 : decode cM_fault 75 = .ok (.iastore, 1) := by decide +kernel
theorem dM_fault_76 : decode cM_fault 76 = .ok (.aload_n 0, 1) := by decide +kernel
theorem dM_fault_77 : decode cM_fault 77 = .ok (.getfield 25, 3) := by decide +kernel
theorem dM_fault_80 : decode cM_fault 80 = .ok (.aload_n 0, 1) := by decide +kernel
theorem dM_fault_81 : decode cM_fault 81 = .ok (.getfield 77, 3) := by decide +kernel
theorem dM_fault_84 : decode cM_fault 84 = .ok (.iload_n 3, 1) := by decide +kernel
theorem dM_fault_85 : decode cM_fault 85 = .ok (.iastore, 1) := by decide +kernel
theorem dM_fault_86 : decode cM_fault 86 = .ok (.aload_n 0, 1) := by decide +kernel
theorem dM_fault_87 : decode cM_fault 87 = .ok (.bipush 9, 2) := by decide +kernel
theorem dM_fault_89 : decode cM_fault 89 = .ok (.iload_n 2, 1) := by decide +kernel
theorem dM_fault_90 : decode cM_fault 90 = .ok (.aload_n 0, 1) := by decide +kernel
theorem dM_fault_91 : decode cM_fault 91 = .ok (.getfield 77, 3) := by decide +kernel
theorem dM_fault_94 : decode cM_fault 94 = .ok (.invokevirtual 87, 3) := by decide +kernel
theorem dM_fault_97 : decode cM_fault 97 = .ok (.aload_n 0, 1) := by decide +kernel
theorem dM_fault_98 : decode cM_fault 98 = .ok (.dup, 1) := by decide +kernel
theorem dM_fault_99 : decode cM_fault 99 = .ok (.getfield 77, 3) := by decide +kernel
theorem dM_fault_102 : decode cM_fault 102 = .ok (.iconst 1, 1) := by decide +kernel
theorem dM_fault_103 : decode cM_fault 103 = .ok (.iadd, 1) := by decide +kernel
theorem dM_fault_104 : decode cM_fault 104 = .ok (.putfield 77, 3) := by decide +kernel
theorem dM_fault_107 : decode cM_fault 107 = .ok (.aload_n 0, 1) := by decide +kernel
theorem dM_fault_108 : decode cM_fault 108 = .ok (.getfield 77, 3) := by decide +kernel
theorem dM_fault_111 : decode cM_fault 111 = .ok (.iconst 1, 1) := by decide +kernel
theorem dM_fault_112 : decode cM_fault 112 = .ok (.isub, 1) := by decide +kernel
theorem dM_fault_113 : decode cM_fault 113 = .ok (.ireturn, 1) := by decide +kernel
theorem dM_check_0 : decode cM_check 0 = .ok (.aload_n 0, 1) := by decide +kernel
theorem dM_check_1 : decode cM_check 1 = .ok (.iconst 0, 1) := by decide +kernel
theorem dM_check_2 : decode cM_check 2 = .ok (.putfield 64, 3) := by decide +kernel
theorem dM_check_5 : decode cM_check 5 = .ok (.lload_n 1, 1) := by decide +kernel
theorem dM_check_6 : decode cM_check 6 = .ok (.aload_n 0, 1) := by decide +kernel
theorem dM_check_7 : decode cM_check 7 = .ok (.getfield 74, 3) := by decide +kernel
theorem dM_check_10 : decode cM_check 10 = .ok (.invokestatic 91, 3) := by decide +kernel
theorem dM_check_13 : decode cM_check 13 = .ok (.ifCond .eq 12, 3) := by decide +kernel
theorem dM_check_16 : decode cM_check 16 = .ok (.aload_n 0, 1) := by decide +kernel
theorem dM_check_17 : decode cM_check 17 = .ok (.getfield 80, 3) := by decide +kernel
theorem dM_check_20 : decode cM_check 20 = .ok (.bipush 16, 2) := by decide +kernel
theorem dM_check_22 : decode cM_check 22 = .ok (.if_icmp .ne 5, 3) := by decide +kernel
theorem dM_check_25 : decode cM_check 25 = .ok (.iconst (-1), 1) := by decide +kernel
theorem dM_check_26 : decode cM_check 26 = .ok (.ireturn, 1) := by decide +kernel
theorem dM_check_27 : decode cM_check 27 = .ok (.aload_n 0, 1) := by decide +kernel
theorem dM_check_28 : decode cM_check 28 = .ok (.getfield 28, 3) := by decide +kernel
theorem dM_check_31 : decode cM_check 31 = .ok (.aload_n 0, 1) := by decide +kernel
theorem dM_check_32 : decode cM_check 32 = .ok (.getfield 80, 3) := by decide +kernel
theorem dM_check_35 : decode cM_check 35 = .ok (.lload_n 1, 1) := by decide +kernel
theorem dM_check_36 : decode cM_check 36 = .ok (.lastore, 1) := by decide +kernel
theorem dM_check_37 : decode cM_check 37 = .ok (.aload_n 0, 1) := by decide +kernel
theorem dM_check_38 : decode cM_check 38 = .ok (.dup, 1) := by decide +kernel
theorem dM_check_39 : decode cM_check 39 = .ok (.getfield 80, 3) := by decide +kernel
theorem dM_check_42 : decode cM_check 42 = .ok (.iconst 1, 1) := by decide +kernel
theorem dM_check_43 : decode cM_check 43 = .ok (.iadd, 1) := by decide +kernel
theorem dM_check_44 : decode cM_check 44 = .ok (.putfield 80, 3) := by decide +kernel
theorem dM_check_47 : decode cM_check 47 = .ok (.aload_n 0, 1) := by decide +kernel
theorem dM_check_48 : decode cM_check 48 = .ok (.getfield 80, 3) := by decide +kernel
theorem dM_check_51 : decode cM_check 51 = .ok (.iconst 1, 1) := by decide +kernel
theorem dM_check_52 : decode cM_check 52 = .ok (.isub, 1) := by decide +kernel
theorem dM_check_53 : decode cM_check 53 = .ok (.ireturn, 1) := by decide +kernel
theorem dM_isSet_0 : decode cM_isSet 0 = .ok (.lload_n 0, 1) := by decide +kernel
theorem dM_isSet_1 : decode cM_isSet 1 = .ok (.lconst 0, 1) := by decide +kernel
theorem dM_isSet_2 : decode cM_isSet 2 = .ok (.lcmp, 1) := by decide +kernel
theorem dM_isSet_3 : decode cM_isSet 3 = .ok (.ifCond .lt 15, 3) := by decide +kernel
theorem dM_isSet_6 : decode cM_isSet 6 = .ok (.lload_n 0, 1) := by decide +kernel
theorem dM_isSet_7 : decode cM_isSet 7 = .ok (.iload_n 2, 1) := by decide +kernel
theorem dM_isSet_8 : decode cM_isSet 8 = .ok (.lushr, 1) := by decide +kernel
theorem dM_isSet_9 : decode cM_isSet 9 = .ok (.lconst 0, 1) := by decide +kernel
theorem dM_isSet_10 : decode cM_isSet 10 = .ok (.lcmp, 1) := by decide +kernel
theorem dM_isSet_11 : decode cM_isSet 11 = .ok (.ifCond .ne 7, 3) := by decide +kernel
theorem dM_isSet_14 : decode cM_isSet 14 = .ok (.iconst 1, 1) := by decide +kernel
theorem dM_isSet_15 : decode cM_isSet 15 = .ok (.goto 4, 3) := by decide +kernel
theorem dM_isSet_18 : decode cM_isSet 18 = .ok (.iconst 0, 1) := by decide +kernel
theorem dM_isSet_19 : decode cM_isSet 19 = .ok (.ireturn, 1) := by decide +kernel
theorem dM_outcome_0 : decode cM_outcome 0 = .ok (.aload_n 0, 1) := by decide +kernel
theorem dM_outcome_1 : decode cM_outcome 1 = .ok (.iconst 0, 1) := by decide +kernel
theorem dM_outcome_2 : decode cM_outcome 2 = .ok (.putfield 64, 3) := by decide +kernel
theorem dM_outcome_5 : decode cM_outcome 5 = .ok (.iload_n 1, 1) := by decide +kernel
theorem dM_outcome_6 : decode cM_outcome 6 = .ok (.ifCond .lt 20, 3) := by decide +kernel
theorem dM_outcome_9 : decode cM_outcome 9 = .ok (.iload_n 1, 1) := by decide +kernel
theorem dM_outcome_10 : decode cM_outcome 10 = .ok (.aload_n 0, 1) := by decide +kernel
theorem dM_outcome_11 : decode cM_outcome 11 = .ok (.getfield 74, 3) := by decide +kernel
theorem dM_outcome_14 : decode cM_outcome 14 = .ok (.if_icmp .ge 12, 3) := by decide +kernel
theorem dM_outcome_17 : decode cM_outcome 17 = .ok (.iload_n 2, 1) := by decide +kernel
theorem dM_outcome_18 : decode cM_outcome 18 = .ok (.ifCond .lt 8, 3) := by decide +kernel
theorem dM_outcome_21 : decode cM_outcome 21 = .ok (.iload_n 2, 1) := by decide +kernel
theorem dM_outcome_22 : decode cM_outcome 22 = .ok (.iconst 1, 1) := by decide +kernel
theorem dM_outcome_23 : decode cM_outcome 23 = .ok (.if_icmp .le 7, 3) := by decide +kernel
theorem dM_outcome_26 : decode cM_outcome 26 = .ok (.ldc2_w 145, 3) := by decide +kernel
theorem dM_outcome_29 : decode cM_outcome 29 = .ok (.lreturn, 1) := by decide +kernel
theorem dM_outcome_30 : decode cM_outcome 30 = .ok (.aload_n 0, 1) := by decide +kernel
theorem dM_outcome_31 : decode cM_outcome 31 = .ok (.invokevirtual 147, 3) := by decide +kernel
theorem dM_outcome_34 : decode cM_outcome 34 = .ok (.iload_n 2, 1) := by decide +kernel
theorem dM_outcome_35 : decode cM_outcome 35 = .ok (.ifCond .ne 13, 3) := by decide +kernel
theorem dM_outcome_38 : decode cM_outcome 38 = .ok (.aload_n 0, 1) := by decide +kernel
theorem dM_outcome_39 : decode cM_outcome 39 = .ok (.getfield 44, 3) := by decide +kernel
theorem dM_outcome_42 : decode cM_outcome 42 = .ok (.iload_n 1, 1) := by decide +kernel
theorem dM_outcome_43 : decode cM_outcome 43 = .ok (.iaload, 1) := by decide +kernel
theorem dM_outcome_44 : decode cM_outcome 44 = .ok (.i2l, 1) := by decide +kernel
theorem dM_outcome_45 : decode cM_outcome 45 = .ok (.goto 9, 3) := by decide +kernel
theorem dM_outcome_48 : decode cM_outcome 48 = .ok (.aload_n 0, 1) := by decide +kernel
theorem dM_outcome_49 : decode cM_outcome 49 = .ok (.getfield 47, 3) := by decide +kernel
theorem dM_outcome_52 : decode cM_outcome 52 = .ok (.iload_n 1, 1) := by decide +kernel
theorem dM_outcome_53 : decode cM_outcome 53 = .ok (.laload, 1) := by decide +kernel
theorem dM_outcome_54 : decode cM_outcome 54 = .ok (.lreturn, 1) := by decide +kernel
theorem dM_playAll_0 : decode cM_playAll 0 = .ok (.iconst 0, 1) := by decide +kernel
theorem dM_playAll_1 : decode cM_playAll 1 = .ok (.istore_n 1, 1) := by decide +kernel
theorem dM_playAll_2 : decode cM_playAll 2 = .ok (.iload_n 1, 1) := by decide +kernel
theorem dM_playAll_3 : decode cM_playAll 3 = .ok (.aload_n 0, 1) := by decide +kernel
theorem dM_playAll_4 : decode cM_playAll 4 = .ok (.getfield 68, 3) := by decide +kernel
theorem dM_playAll_7 : decode cM_playAll 7 = .ok (.if_icmp .ge 39, 3) := by decide +kernel
theorem dM_playAll_10 : decode cM_playAll 10 = .ok (.aload_n 0, 1) := by decide +kernel
theorem dM_playAll_11 : decode cM_playAll 11 = .ok (.getfield 32, 3) := by decide +kernel
theorem dM_playAll_14 : decode cM_playAll 14 = .ok (.iload_n 1, 1) := by decide +kernel
theorem dM_playAll_15 : decode cM_playAll 15 = .ok (.iconst 0, 1) := by decide +kernel
theorem dM_playAll_16 : decode cM_playAll 16 = .ok (.iastore, 1) := by decide +kernel
theorem dM_playAll_17 : decode cM_playAll 17 = .ok (.aload_n 0, 1) := by decide +kernel
theorem dM_playAll_18 : decode cM_playAll 18 = .ok (.getfield 35, 3) := by decide +kernel
theorem dM_playAll_21 : decode cM_playAll 21 = .ok (.iload_n 1, 1) := by decide +kernel
theorem dM_playAll_22 : decode cM_playAll 22 = .ok (.iconst 1, 1) := by decide +kernel
theorem dM_playAll_23 : decode cM_playAll 23 = .ok (.iload_n 1, 1) := by decide +kernel
theorem dM_playAll_24 : decode cM_playAll 24 = .ok (.ishl, 1) := by decide +kernel
theorem dM_playAll_25 : decode cM_playAll 25 = .ok (.iastore, 1) := by decide +kernel
theorem dM_playAll_26 : decode cM_playAll 26 = .ok (.aload_n 0, 1) := by decide +kernel
theorem dM_playAll_27 : decode cM_playAll 27 = .ok (.getfield 38, 3) := by decide +kernel
theorem dM_playAll_30 : decode cM_playAll 30 = .ok (.iload_n 1, 1) := by decide +kernel
theorem dM_playAll_31 : decode cM_playAll 31 = .ok (.iconst 0, 1) := by decide +kernel
theorem dM_playAll_32 : decode cM_playAll 32 = .ok (.iastore, 1) := by decide +kernel
theorem dM_playAll_33 : decode cM_playAll 33 = .ok (.aload_n 0, 1) := by decide +kernel
theorem dM_playAll_34 : decode cM_playAll 34 = .ok (.getfield 41, 3) := by decide +kernel
theorem dM_playAll_37 : decode cM_playAll 37 = .ok (.iload_n 1, 1) := by decide +kernel
theorem dM_playAll_38 : decode cM_playAll 38 = .ok (.lconst 0, 1) := by decide +kernel
theorem dM_playAll_39 : decode cM_playAll 39 = .ok (.lastore, 1) := by decide +kernel
theorem dM_playAll_40 : decode cM_playAll 40 = .ok (.iinc 1 1, 3) := by decide +kernel
theorem dM_playAll_43 : decode cM_playAll 43 = .ok (.goto (-41), 3) := by decide +kernel
theorem dM_playAll_46 : decode cM_playAll 46 = .ok (.iconst 0, 1) := by decide +kernel
theorem dM_playAll_47 : decode cM_playAll 47 = .ok (.istore_n 1, 1) := by decide +kernel
theorem dM_playAll_48 : decode cM_playAll 48 = .ok (.iload_n 1, 1) := by decide +kernel
theorem dM_playAll_49 : decode cM_playAll 49 = .ok (.aload_n 0, 1) := by decide +kernel
theorem dM_playAll_50 : decode cM_playAll 50 = .ok (.getfield 71, 3) := by decide +kernel
theorem dM_playAll_53 : decode cM_playAll 53 = .ok (.if_icmp .ge 107, 3) := by decide +kernel
theorem dM_playAll_56 : decode cM_playAll 56 = .ok (.aload_n 0, 1) := by decide +kernel
theorem dM_playAll_57 : decode cM_playAll 57 = .ok (.getfield 7, 3) := by decide +kernel
theorem dM_playAll_60 : decode cM_playAll 60 = .ok (.iload_n 1, 1) := by decide +kernel
theorem dM_playAll_61 : decode cM_playAll 61 = .ok (.iaload, 1) := by decide +kernel
theorem dM_playAll_62 : decode cM_playAll 62 = .ok (.bipush 7, 2) := by decide +kernel
theorem dM_playAll_64 : decode cM_playAll 64 = .ok (.if_icmp .eq 14, 3) := by decide +kernel
theorem dM_playAll_67 : decode cM_playAll 67 = .ok (.aload_n 0, 1) := by decide +kernel
theorem dM_playAll_68 : decode cM_playAll 68 = .ok (.getfield 7, 3) := by decide +kernel
theorem dM_playAll_71 : decode cM_playAll 71 = .ok (.iload_n 1, 1) := by decide +kernel
theorem dM_playAll_72 : decode cM_playAll 72 = .ok (.iaload, 1) := by decide +kernel
theorem dM_playAll_73 : decode cM_playAll 73 = .ok (.bipush 8, 2) := by decide +kernel
theorem dM_playAll_75 : decode cM_playAll 75 = .ok (.if_icmp .ne 19, 3) := by decide +kernel
theorem dM_playAll_78 : decode cM_playAll 78 = .ok (.aload_n 0, 1) := by decide +kernel
theorem dM_playAll_79 : decode cM_playAll 79 = .ok (.aload_n 0, 1) := by decide +kernel
theorem dM_playAll_80 : decode cM_playAll 80 = .ok (.getfield 16, 3) := by decide +kernel
theorem dM_playAll_83 : decode cM_playAll 83 = .ok (.iload_n 1, 1) := by decide +kernel
theorem dM_playAll_84 : decode cM_playAll 84 = .ok (.iaload, 1) := by decide +kernel
theorem dM_playAll_85 : decode cM_playAll 85 = .ok (.aload_n 0, 1) := by decide +kernel
theorem dM_playAll_86 : decode cM_playAll 86 = .ok (.getfield 13, 3) := by decide +kernel
theorem dM_playAll_89 : decode cM_playAll 89 = .ok (.iload_n 1, 1) := by decide +kernel
theorem dM_playAll_90 : decode cM_playAll 90 = .ok (.iaload, 1) := by decide +kernel
theorem dM_playAll_91 : decode cM_playAll 91 = .ok (.invokevirtual 136, 3) := by decide +kernel
theorem dM_playAll_94 : decode cM_playAll 94 = .ok (.aload_n 0, 1) := by decide +kernel
theorem dM_playAll_95 : decode cM_playAll 95 = .ok (.getfield 7, 3) := by decide +kernel
theorem dM_playAll_98 : decode cM_playAll 98 = .ok (.iload_n 1, 1) := by decide +kernel
theorem dM_playAll_99 : decode cM_playAll 99 = .ok (.iaload, 1) := by decide +kernel
theorem dM_playAll_100 : decode cM_playAll 100 = .ok (.bipush 8, 2) := by decide +kernel
theorem dM_playAll_102 : decode cM_playAll 102 = .ok (.if_icmp .ne 19, 3) := by decide +kernel
theorem dM_playAll_105 : decode cM_playAll 105 = .ok (.aload_n 0, 1) := by decide +kernel
theorem dM_playAll_106 : decode cM_playAll 106 = .ok (.aload_n 0, 1) := by decide +kernel
theorem dM_playAll_107 : decode cM_playAll 107 = .ok (.getfield 16, 3) := by decide +kernel
theorem dM_playAll_110 : decode cM_playAll 110 = .ok (.iload_n 1, 1) := by decide +kernel
theorem dM_playAll_111 : decode cM_playAll 111 = .ok (.iaload, 1) := by decide +kernel
theorem dM_playAll_112 : decode cM_playAll 112 = .ok (.aload_n 0, 1) := by decide +kernel
theorem dM_playAll_113 : decode cM_playAll 113 = .ok (.getfield 13, 3) := by decide +kernel
theorem dM_playAll_116 : decode cM_playAll 116 = .ok (.iload_n 1, 1) := by decide +kernel
theorem dM_playAll_117 : decode cM_playAll 117 = .ok (.iaload, 1) := by decide +kernel
theorem dM_playAll_118 : decode cM_playAll 118 = .ok (.invokevirtual 139, 3) := by decide +kernel
theorem dM_playAll_121 : decode cM_playAll 121 = .ok (.iconst 0, 1) := by decide +kernel
theorem dM_playAll_122 : decode cM_playAll 122 = .ok (.istore_n 2, 1) := by decide +kernel
theorem dM_playAll_123 : decode cM_playAll 123 = .ok (.iload_n 2, 1) := by decide +kernel
theorem dM_playAll_124 : decode cM_playAll 124 = .ok (.aload_n 0, 1) := by decide +kernel
theorem dM_playAll_125 : decode cM_playAll 125 = .ok (.getfield 68, 3) := by decide +kernel
theorem dM_playAll_128 : decode cM_playAll 128 = .ok (.if_icmp .ge 26, 3) := by decide +kernel
theorem dM_playAll_131 : decode cM_playAll 131 = .ok (.aload_n 0, 1) := by decide +kernel
theorem dM_playAll_132 : decode cM_playAll 132 = .ok (.getfield 7, 3) := by decide +kernel
theorem dM_playAll_135 : decode cM_playAll 135 = .ok (.iload_n 1, 1) := by decide +kernel
theorem dM_playAll_136 : decode cM_playAll 136 = .ok (.iaload, 1) := by decide +kernel
theorem dM_playAll_137 : decode cM_playAll 137 = .ok (.bipush 7, 2) := by decide +kernel
theorem dM_playAll_139 : decode cM_playAll 139 = .ok (.if_icmp .ge 15, 3) := by decide +kernel
theorem dM_playAll_142 : decode cM_playAll 142 = .ok (.aload_n 0, 1) := by decide +kernel
theorem dM_playAll_143 : decode cM_playAll 143 = .ok (.iload_n 2, 1) := by decide +kernel
theorem dM_playAll_144 : decode cM_playAll 144 = .ok (.iload_n 1, 1) := by decide +kernel
theorem dM_playAll_145 : decode cM_playAll 145 = .ok (.invokevirtual 142, 3) := by decide +kernel
theorem dM_playAll_148 : decode cM_playAll 148 = .ok (.iinc 2 1, 3) := by decide +kernel
theorem dM_playAll_151 : decode cM_playAll 151 = .ok (.goto (-28), 3) := by decide +kernel
theorem dM_playAll_154 : decode cM_playAll 154 = .ok (.iinc 1 1, 3) := by decide +kernel
theorem dM_playAll_157 : decode cM_playAll 157 = .ok (.goto (-109), 3) := by decide +kernel
theorem dM_playAll_160 : decode cM_playAll 160 = .ok (.return_, 1) := by decide +kernel
theorem dM_lookAt_0 : decode cM_lookAt 0 = .ok (.iconst 0, 1) := by decide +kernel
theorem dM_lookAt_1 : decode cM_lookAt 1 = .ok (.istore_n 3, 1) := by decide +kernel
theorem dM_lookAt_2 : decode cM_lookAt 2 = .ok (.iload_n 3, 1) := by decide +kernel
theorem dM_lookAt_3 : decode cM_lookAt 3 = .ok (.aload_n 0, 1) := by decide +kernel
theorem dM_lookAt_4 : decode cM_lookAt 4 = .ok (.getfield 68, 3) := by decide +kernel
theorem dM_lookAt_7 : decode cM_lookAt 7 = .ok (.if_icmp .ge 22, 3) := by decide +kernel
theorem dM_lookAt_10 : decode cM_lookAt 10 = .ok (.aload_n 0, 1) := by decide +kernel
theorem dM_lookAt_11 : decode cM_lookAt 11 = .ok (.getfield 32, 3) := by decide +kernel
theorem dM_lookAt_14 : decode cM_lookAt 14 = .ok (.iload_n 3, 1) := by decide +kernel
theorem dM_lookAt_15 : decode cM_lookAt 15 = .ok (.iaload, 1) := by decide +kernel
theorem dM_lookAt_16 : decode cM_lookAt 16 = .ok (.iload_n 2, 1) := by decide +kernel
theorem dM_lookAt_17 : decode cM_lookAt 17 = .ok (.invokestatic 95, 3) := by decide +kernel
theorem dM_lookAt_20 : decode cM_lookAt 20 = .ok (.ifCond .ne 9, 3) := by decide +kernel
theorem dM_lookAt_23 : decode cM_lookAt 23 = .ok (.iinc 3 1, 3) := by decide +kernel
theorem dM_lookAt_26 : decode cM_lookAt 26 = .ok (.goto (-24), 3) := by decide +kernel
theorem dM_lookAt_29 : decode cM_lookAt 29 = .ok (.iload_n 3, 1) := by decide +kernel
theorem dM_lookAt_30 : decode cM_lookAt 30 = .ok (.aload_n 0, 1) := by decide +kernel
theorem dM_lookAt_31 : decode cM_lookAt 31 = .ok (.getfield 68, 3) := by decide +kernel
theorem dM_lookAt_34 : decode cM_lookAt 34 = .ok (.if_icmp .ne 10, 3) := by decide +kernel
theorem dM_lookAt_37 : decode cM_lookAt 37 = .ok (.aload_n 0, 1) := by decide +kernel
theorem dM_lookAt_38 : decode cM_lookAt 38 = .ok (.iload_n 1, 1) := by decide +kernel
theorem dM_lookAt_39 : decode cM_lookAt 39 = .ok (.iload_n 2, 1) := by decide +kernel
theorem dM_lookAt_40 : decode cM_lookAt 40 = .ok (.invokevirtual 109, 3) := by decide +kernel
theorem dM_lookAt_43 : decode cM_lookAt 43 = .ok (.return_, 1) := by decide +kernel
theorem dM_lookAt_44 : decode cM_lookAt 44 = .ok (.iconst 0, 1) := by decide +kernel
theorem dM_lookAt_45 : decode cM_lookAt 45 = .ok (.istore 4, 2) := by decide +kernel
theorem dM_lookAt_47 : decode cM_lookAt 47 = .ok (.iload 4, 2) := by decide +kernel
theorem dM_lookAt_49 : decode cM_lookAt 49 = .ok (.aload_n 0, 1) := by decide +kernel
theorem dM_lookAt_50 : decode cM_lookAt 50 = .ok (.getfield 68, 3) := by decide +kernel
theorem dM_lookAt_53 : decode cM_lookAt 53 = .ok (.if_icmp .ge 37, 3) := by decide +kernel
theorem dM_lookAt_56 : decode cM_lookAt 56 = .ok (.iload 4, 2) := by decide +kernel
theorem dM_lookAt_58 : decode cM_lookAt 58 = .ok (.iload_n 3, 1) := by decide +kernel
theorem dM_lookAt_59 : decode cM_lookAt 59 = .ok (.if_icmp .eq 25, 3) := by decide +kernel
theorem dM_lookAt_62 : decode cM_lookAt 62 = .ok (.aload_n 0, 1) := by decide +kernel
theorem dM_lookAt_63 : decode cM_lookAt 63 = .ok (.getfield 32, 3) := by decide +kernel
theorem dM_lookAt_66 : decode cM_lookAt 66 = .ok (.iload 4, 2) := by decide +kernel
theorem dM_lookAt_68 : decode cM_lookAt 68 = .ok (.iaload, 1) := by decide +kernel
theorem dM_lookAt_69 : decode cM_lookAt 69 = .ok (.iload_n 2, 1) := by decide +kernel
theorem dM_lookAt_70 : decode cM_lookAt 70 = .ok (.invokestatic 95, 3) := by decide +kernel
theorem dM_lookAt_73 : decode cM_lookAt 73 = .ok (.iconst 1, 1) := by decide +kernel
theorem dM_lookAt_74 : decode cM_lookAt 74 = .ok (.if_icmp .ne 10, 3) := by decide +kernel
theorem dM_lookAt_77 : decode cM_lookAt 77 = .ok (.aload_n 0, 1) := by decide +kernel
theorem dM_lookAt_78 : decode cM_lookAt 78 = .ok (.iload 4, 2) := by decide +kernel
theorem dM_lookAt_80 : decode cM_lookAt 80 = .ok (.iload_n 3, 1) := by decide +kernel
theorem dM_lookAt_81 : decode cM_lookAt 81 = .ok (.invokevirtual 113, 3) := by decide +kernel
theorem dM_lookAt_84 : decode cM_lookAt 84 = .ok (.iinc 4 1, 3) := by decide +kernel
theorem dM_lookAt_87 : decode cM_lookAt 87 = .ok (.goto (-40), 3) := by decide +kernel
theorem dM_lookAt_90 : decode cM_lookAt 90 = .ok (.aload_n 0, 1) := by decide +kernel
theorem dM_lookAt_91 : decode cM_lookAt 91 = .ok (.getfield 32, 3) := by decide +kernel
theorem dM_lookAt_94 : decode cM_lookAt 94 = .ok (.iload_n 3, 1) := by decide +kernel
theorem dM_lookAt_95 : decode cM_lookAt 95 = .ok (.iconst 0, 1) := by decide +kernel
theorem dM_lookAt_96 : decode cM_lookAt 96 = .ok (.iastore, 1) := by decide +kernel
theorem dM_lookAt_97 : decode cM_lookAt 97 = .ok (.aload_n 0, 1) := by decide +kernel
theorem dM_lookAt_98 : decode cM_lookAt 98 = .ok (.getfield 35, 3) := by decide +kernel
theorem dM_lookAt_101 : decode cM_lookAt 101 = .ok (.iload_n 3, 1) := by decide +kernel
theorem dM_lookAt_102 : decode cM_lookAt 102 = .ok (.iconst 1, 1) := by decide +kernel
theorem dM_lookAt_103 : decode cM_lookAt 103 = .ok (.iload_n 2, 1) := by decide +kernel
theorem dM_lookAt_104 : decode cM_lookAt 104 = .ok (.ishl, 1) := by decide +kernel
theorem dM_lookAt_105 : decode cM_lookAt 105 = .ok (.iastore, 1) := by decide +kernel
theorem dM_lookAt_106 : decode cM_lookAt 106 = .ok (.aload_n 0, 1) := by decide +kernel
theorem dM_lookAt_107 : decode cM_lookAt 107 = .ok (.getfield 38, 3) := by decide +kernel
theorem dM_lookAt_110 : decode cM_lookAt 110 = .ok (.iload_n 3, 1) := by decide +kernel
theorem dM_lookAt_111 : decode cM_lookAt 111 = .ok (.iconst 0, 1) := by decide +kernel
theorem dM_lookAt_112 : decode cM_lookAt 112 = .ok (.iastore, 1) := by decide +kernel
theorem dM_lookAt_113 : decode cM_lookAt 113 = .ok (.aload_n 0, 1) := by decide +kernel
theorem dM_lookAt_114 : decode cM_lookAt 114 = .ok (.getfield 41, 3) := by decide +kernel
theorem dM_lookAt_117 : decode cM_lookAt 117 = .ok (.iload_n 3, 1) := by decide +kernel
theorem dM_lookAt_118 : decode cM_lookAt 118 = .ok (.lconst 1, 1) := by decide +kernel
theorem dM_lookAt_119 : decode cM_lookAt 119 = .ok (.iload_n 1, 1) := by decide +kernel
theorem dM_lookAt_120 : decode cM_lookAt 120 = .ok (.lshl, 1) := by decide +kernel
theorem dM_lookAt_121 : decode cM_lookAt 121 = .ok (.lastore, 1) := by decide +kernel
theorem dM_lookAt_122 : decode cM_lookAt 122 = .ok (.aload_n 0, 1) := by decide +kernel
theorem dM_lookAt_123 : decode cM_lookAt 123 = .ok (.getfield 44, 3) := by decide +kernel
theorem dM_lookAt_126 : decode cM_lookAt 126 = .ok (.iload_n 1, 1) := by decide +kernel
theorem dM_lookAt_127 : decode cM_lookAt 127 = .ok (.iconst 0, 1) := by decide +kernel
theorem dM_lookAt_128 : decode cM_lookAt 128 = .ok (.iastore, 1) := by decide +kernel
theorem dM_lookAt_129 : decode cM_lookAt 129 = .ok (.aload_n 0, 1) := by decide +kernel
theorem dM_lookAt_130 : decode cM_lookAt 130 = .ok (.getfield 47, 3) := by decide +kernel
theorem dM_lookAt_133 : decode cM_lookAt 133 = .ok (.iload_n 1, 1) := by decide +kernel
theorem dM_lookAt_134 : decode cM_lookAt 134 = .ok (.lconst 1, 1) := by decide +kernel
theorem dM_lookAt_135 : decode cM_lookAt 135 = .ok (.iload_n 1, 1) := by decide +kernel
theorem dM_lookAt_136 : decode cM_lookAt 136 = .ok (.lshl, 1) := by decide +kernel
theorem dM_lookAt_137 : decode cM_lookAt 137 = .ok (.lastore, 1) := by decide +kernel
theorem dM_lookAt_138 : decode cM_lookAt 138 = .ok (.return_, 1) := by decide +kernel
theorem dM_bit_0 : decode cM_bit 0 = .ok (.iload_n 0, 1) := by decide +kernel
theorem dM_bit_1 : decode cM_bit 1 = .ok (.iload_n 1, 1) := by decide +kernel
theorem dM_bit_2 : decode cM_bit 2 = .ok (.ishr, 1) := by decide +kernel
theorem dM_bit_3 : decode cM_bit 3 = .ok (.iconst 1, 1) := by decide +kernel
theorem dM_bit_4 : decode cM_bit 4 = .ok (.iand, 1) := by decide +kernel
theorem dM_bit_5 : decode cM_bit 5 = .ok (.ireturn, 1) := by decide +kernel
theorem dM_solve_0 : decode cM_solve 0 = .ok (.iconst 0, 1) := by decide +kernel
theorem dM_solve_1 : decode cM_solve 1 = .ok (.istore_n 3, 1) := by decide +kernel
theorem dM_solve_2 : decode cM_solve 2 = .ok (.iload_n 3, 1) := by decide +kernel
theorem dM_solve_3 : decode cM_solve 3 = .ok (.aload_n 0, 1) := by decide +kernel
theorem dM_solve_4 : decode cM_solve 4 = .ok (.getfield 68, 3) := by decide +kernel
theorem dM_solve_7 : decode cM_solve 7 = .ok (.if_icmp .ge 16, 3) := by decide +kernel
theorem dM_solve_10 : decode cM_solve 10 = .ok (.aload_n 0, 1) := by decide +kernel
theorem dM_solve_11 : decode cM_solve 11 = .ok (.getfield 50, 3) := by decide +kernel
theorem dM_solve_14 : decode cM_solve 14 = .ok (.iload_n 3, 1) := by decide +kernel
theorem dM_solve_15 : decode cM_solve 15 = .ok (.iconst 0, 1) := by decide +kernel
theorem dM_solve_16 : decode cM_solve 16 = .ok (.bastore, 1) := by decide +kernel
theorem dM_solve_17 : decode cM_solve 17 = .ok (.iinc 3 1, 3) := by decide +kernel
theorem dM_solve_20 : decode cM_solve 20 = .ok (.goto (-18), 3) := by decide +kernel
theorem dM_solve_23 : decode cM_solve 23 = .ok (.aload_n 0, 1) := by decide +kernel
theorem dM_solve_24 : decode cM_solve 24 = .ok (.iconst 0, 1) := by decide +kernel
theorem dM_solve_25 : decode cM_solve 25 = .ok (.putfield 119, 3) := by decide +kernel
theorem dM_solve_28 : decode cM_solve 28 = .ok (.aload_n 0, 1) := by decide +kernel
theorem dM_solve_29 : decode cM_solve 29 = .ok (.iconst 0, 1) := by decide +kernel
theorem dM_solve_30 : decode cM_solve 30 = .ok (.putfield 122, 3) := by decide +kernel
theorem dM_solve_33 : decode cM_solve 33 = .ok (.aload_n 0, 1) := by decide +kernel
theorem dM_solve_34 : decode cM_solve 34 = .ok (.iconst 0, 1) := by decide +kernel
theorem dM_solve_35 : decode cM_solve 35 = .ok (.putfield 116, 3) := by decide +kernel
theorem dM_solve_38 : decode cM_solve 38 = .ok (.aload_n 0, 1) := by decide +kernel
theorem dM_solve_39 : decode cM_solve 39 = .ok (.lconst 0, 1) := by decide +kernel
theorem dM_solve_40 : decode cM_solve 40 = .ok (.putfield 125, 3) := by decide +kernel
theorem dM_solve_43 : decode cM_solve 43 = .ok (.iconst 0, 1) := by decide +kernel
theorem dM_solve_44 : decode cM_solve 44 = .ok (.istore_n 3, 1) := by decide +kernel
theorem dM_solve_45 : decode cM_solve 45 = .ok (.iload_n 3, 1) := by decide +kernel
theorem dM_solve_46 : decode cM_solve 46 = .ok (.bipush 20, 2) := by decide +kernel
theorem dM_solve_48 : decode cM_solve 48 = .ok (.if_icmp .ge 162, 3) := by decide +kernel
theorem dM_solve_51 : decode cM_solve 51 = .ok (.iconst 0, 1) := by decide +kernel
theorem dM_solve_52 : decode cM_solve 52 = .ok (.istore 4, 2) := by decide +kernel
theorem dM_solve_54 : decode cM_solve 54 = .ok (.iload 4, 2) := by decide +kernel
theorem dM_solve_56 : decode cM_solve 56 = .ok (.aload_n 0, 1) := by decide +kernel
theorem dM_solve_57 : decode cM_solve 57 = .ok (.getfield 68, 3) := by decide +kernel
theorem dM_solve_60 : decode cM_solve 60 = .ok (.if_icmp .ge 40, 3) := by decide +kernel
theorem dM_solve_63 : decode cM_solve 63 = .ok (.aload_n 0, 1) := by decide +kernel
theorem dM_solve_64 : decode cM_solve 64 = .ok (.getfield 50, 3) := by decide +kernel
theorem dM_solve_67 : decode cM_solve 67 = .ok (.iload 4, 2) := by decide +kernel
theorem dM_solve_69 : decode cM_solve 69 = .ok (.baload, 1) := by decide +kernel
theorem dM_solve_70 : decode cM_solve 70 = .ok (.ifCond .ne 24, 3) := by decide +kernel
theorem dM_solve_73 : decode cM_solve 73 = .ok (.aload_n 0, 1) := by decide +kernel
theorem dM_solve_74 : decode cM_solve 74 = .ok (.getfield 32, 3) := by decide +kernel
theorem dM_solve_77 : decode cM_solve 77 = .ok (.iload 4, 2) := by decide +kernel
theorem dM_solve_79 : decode cM_solve 79 = .ok (.iaload, 1) := by decide +kernel
theorem dM_solve_80 : decode cM_solve 80 = .ok (.aload_n 0, 1) := by decide +kernel
theorem dM_solve_81 : decode cM_solve 81 = .ok (.getfield 35, 3) := by decide +kernel
theorem dM_solve_84 : decode cM_solve 84 = .ok (.iload 4, 2) := by decide +kernel
theorem dM_solve_86 : decode cM_solve 86 = .ok (.iaload, 1) := by decide +kernel
theorem dM_solve_87 : decode cM_solve 87 = .ok (.iload_n 3, 1) := by decide +kernel
theorem dM_solve_88 : decode cM_solve 88 = .ok (.invokestatic 129, 3) := by decide +kernel
theorem dM_solve_91 : decode cM_solve 91 = .ok (.ifCond .ne 9, 3) := by decide +kernel
theorem dM_solve_94 : decode cM_solve 94 = .ok (.iinc 4 1, 3) := by decide +kernel
theorem dM_solve_97 : decode cM_solve 97 = .ok (.goto (-43), 3) := by decide +kernel
theorem dM_solve_100 : decode cM_solve 100 = .ok (.iload 4, 2) := by decide +kernel
theorem dM_solve_102 : decode cM_solve 102 = .ok (.aload_n 0, 1) := by decide +kernel
theorem dM_solve_103 : decode cM_solve 103 = .ok (.getfield 68, 3) := by decide +kernel
theorem dM_solve_106 : decode cM_solve 106 = .ok (.if_icmp .ne 6, 3) := by decide +kernel
theorem dM_solve_109 : decode cM_solve 109 = .ok (.goto 95, 3) := by decide +kernel
theorem dM_solve_112 : decode cM_solve 112 = .ok (.aload_n 0, 1) := by decide +kernel
theorem dM_solve_113 : decode cM_solve 113 = .ok (.getfield 50, 3) := by decide +kernel
theorem dM_solve_116 : decode cM_solve 116 = .ok (.iload 4, 2) := by decide +kernel
theorem dM_solve_118 : decode cM_solve 118 = .ok (.iconst 1, 1) := by decide +kernel
theorem dM_solve_119 : decode cM_solve 119 = .ok (.bastore, 1) := by decide +kernel
theorem dM_solve_120 : decode cM_solve 120 = .ok (.iconst 0, 1) := by decide +kernel
theorem dM_solve_121 : decode cM_solve 121 = .ok (.istore 5, 2) := by decide +kernel
theorem dM_solve_123 : decode cM_solve 123 = .ok (.iload 5, 2) := by decide +kernel
theorem dM_solve_125 : decode cM_solve 125 = .ok (.aload_n 0, 1) := by decide +kernel
theorem dM_solve_126 : decode cM_solve 126 = .ok (.getfield 68, 3) := by decide +kernel
theorem dM_solve_129 : decode cM_solve 129 = .ok (.if_icmp .ge 49, 3) := by decide +kernel
theorem dM_solve_132 : decode cM_solve 132 = .ok (.aload_n 0, 1) := by decide +kernel
theorem dM_solve_133 : decode cM_solve 133 = .ok (.getfield 50, 3) := by decide +kernel
theorem dM_solve_136 : decode cM_solve 136 = .ok (.iload 5, 2) := by decide +kernel
theorem dM_solve_138 : decode cM_solve 138 = .ok (.baload, 1) := by decide +kernel
theorem dM_solve_139 : decode cM_solve 139 = .ok (.ifCond .ne 33, 3) := by decide +kernel
theorem dM_solve_142 : decode cM_solve 142 = .ok (.aload_n 0, 1) := by decide +kernel
theorem dM_solve_143 : decode cM_solve 143 = .ok (.getfield 32, 3) := by decide +kernel
theorem dM_solve_146 : decode cM_solve 146 = .ok (.iload 5, 2) := by decide +kernel
theorem dM_solve_148 : decode cM_solve 148 = .ok (.iaload, 1) := by decide +kernel
theorem dM_solve_149 : decode cM_solve 149 = .ok (.aload_n 0, 1) := by decide +kernel
theorem dM_solve_150 : decode cM_solve 150 = .ok (.getfield 35, 3) := by decide +kernel
theorem dM_solve_153 : decode cM_solve 153 = .ok (.iload 5, 2) := by decide +kernel
theorem dM_solve_155 : decode cM_solve 155 = .ok (.iaload, 1) := by decide +kernel
theorem dM_solve_156 : decode cM_solve 156 = .ok (.iload_n 3, 1) := by decide +kernel
theorem dM_solve_157 : decode cM_solve 157 = .ok (.invokestatic 129, 3) := by decide +kernel
theorem dM_solve_160 : decode cM_solve 160 = .ok (.iconst 1, 1) := by decide +kernel
theorem dM_solve_161 : decode cM_solve 161 = .ok (.if_icmp .ne 11, 3) := by decide +kernel
theorem dM_solve_164 : decode cM_solve 164 = .ok (.aload_n 0, 1) := by decide +kernel
theorem dM_solve_165 : decode cM_solve 165 = .ok (.iload 5, 2) := by decide +kernel
theorem dM_solve_167 : decode cM_solve 167 = .ok (.iload 4, 2) := by decide +kernel
theorem dM_solve_169 : decode cM_solve 169 = .ok (.invokevirtual 113, 3) := by decide +kernel
theorem dM_solve_172 : decode cM_solve 172 = .ok (.iinc 5 1, 3) := by decide +kernel
theorem dM_solve_175 : decode cM_solve 175 = .ok (.goto (-52), 3) := by decide +kernel
theorem dM_solve_178 : decode cM_solve 178 = .ok (.aload_n 0, 1) := by decide +kernel
theorem dM_solve_179 : decode cM_solve 179 = .ok (.getfield 119, 3) := by decide +kernel
theorem dM_solve_182 : decode cM_solve 182 = .ok (.aload_n 0, 1) := by decide +kernel
theorem dM_solve_183 : decode cM_solve 183 = .ok (.getfield 122, 3) := by decide +kernel
theorem dM_solve_186 : decode cM_solve 186 = .ok (.iconst 1, 1) := by decide +kernel
theorem dM_solve_187 : decode cM_solve 187 = .ok (.iload_n 2, 1) := by decide +kernel
theorem dM_solve_188 : decode cM_solve 188 = .ok (.ishl, 1) := by decide +kernel
theorem dM_solve_189 : decode cM_solve 189 = .ok (.ixor, 1) := by decide +kernel
theorem dM_solve_190 : decode cM_solve 190 = .ok (.iload_n 3, 1) := by decide +kernel
theorem dM_solve_191 : decode cM_solve 191 = .ok (.invokestatic 129, 3) := by decide +kernel
theorem dM_solve_194 : decode cM_solve 194 = .ok (.iconst 1, 1) := by decide +kernel
theorem dM_solve_195 : decode cM_solve 195 = .ok (.if_icmp .ne 9, 3) := by decide +kernel
theorem dM_solve_198 : decode cM_solve 198 = .ok (.aload_n 0, 1) := by decide +kernel
theorem dM_solve_199 : decode cM_solve 199 = .ok (.iload 4, 2) := by decide +kernel
theorem dM_solve_201 : decode cM_solve 201 = .ok (.invokevirtual 133, 3) := by decide +kernel
theorem dM_solve_204 : decode cM_solve 204 = .ok (.iinc 3 1, 3) := by decide +kernel
theorem dM_solve_207 : decode cM_solve 207 = .ok (.goto (-162), 3) := by decide +kernel
theorem dM_solve_210 : decode cM_solve 210 = .ok (.aload_n 0, 1) := by decide +kernel
theorem dM_solve_211 : decode cM_solve 211 = .ok (.getfield 44, 3) := by decide +kernel
theorem dM_solve_214 : decode cM_solve 214 = .ok (.iload_n 1, 1) := by decide +kernel
theorem dM_solve_215 : decode cM_solve 215 = .ok (.aload_n 0, 1) := by decide +kernel
theorem dM_solve_216 : decode cM_solve 216 = .ok (.getfield 116, 3) := by decide +kernel
theorem dM_solve_219 : decode cM_solve 219 = .ok (.iastore, 1) := by decide +kernel
theorem dM_solve_220 : decode cM_solve 220 = .ok (.aload_n 0, 1) := by decide +kernel
theorem dM_solve_221 : decode cM_solve 221 = .ok (.getfield 47, 3) := by decide +kernel
theorem dM_solve_224 : decode cM_solve 224 = .ok (.iload_n 1, 1) := by decide +kernel
theorem dM_solve_225 : decode cM_solve 225 = .ok (.aload_n 0, 1) := by decide +kernel
theorem dM_solve_226 : decode cM_solve 226 = .ok (.getfield 125, 3) := by decide +kernel
theorem dM_solve_229 : decode cM_solve 229 = .ok (.lastore, 1) := by decide +kernel
theorem dM_solve_230 : decode cM_solve 230 = .ok (.return_, 1) := by decide +kernel
theorem dM_column_0 : decode cM_column 0 = .ok (.iload_n 2, 1) := by decide +kernel
theorem dM_column_1 : decode cM_column 1 = .ok (.bipush 10, 2) := by decide +kernel
theorem dM_column_3 : decode cM_column 3 = .ok (.if_icmp .ge 11, 3) := by decide +kernel
theorem dM_column_6 : decode cM_column 6 = .ok (.iload_n 0, 1) := by decide +kernel
theorem dM_column_7 : decode cM_column 7 = .ok (.iload_n 2, 1) := by decide +kernel
theorem dM_column_8 : decode cM_column 8 = .ok (.invokestatic 95, 3) := by decide +kernel
theorem dM_column_11 : decode cM_column 11 = .ok (.goto 11, 3) := by decide +kernel
theorem dM_column_14 : decode cM_column 14 = .ok (.iload_n 1, 1) := by decide +kernel
theorem dM_column_15 : decode cM_column 15 = .ok (.iload_n 2, 1) := by decide +kernel
theorem dM_column_16 : decode cM_column 16 = .ok (.bipush 10, 2) := by decide +kernel
theorem dM_column_18 : decode cM_column 18 = .ok (.isub, 1) := by decide +kernel
theorem dM_column_19 : decode cM_column 19 = .ok (.invokestatic 95, 3) := by decide +kernel
theorem dM_column_22 : decode cM_column 22 = .ok (.ireturn, 1) := by decide +kernel
theorem dM_multiply_0 : decode cM_multiply 0 = .ok (.aload_n 0, 1) := by decide +kernel
theorem dM_multiply_1 : decode cM_multiply 1 = .ok (.getfield 38, 3) := by decide +kernel
theorem dM_multiply_4 : decode cM_multiply 4 = .ok (.iload_n 1, 1) := by decide +kernel
theorem dM_multiply_5 : decode cM_multiply 5 = .ok (.dup2, 1) := by decide +kernel
theorem dM_multiply_6 : decode cM_multiply 6 = .ok (.iaload, 1) := by decide +kernel
theorem dM_multiply_7 : decode cM_multiply 7 = .ok (.aload_n 0, 1) := by decide +kernel
theorem dM_multiply_8 : decode cM_multiply 8 = .ok (.getfield 38, 3) := by decide +kernel
theorem dM_multiply_11 : decode cM_multiply 11 = .ok (.iload_n 2, 1) := by decide +kernel
theorem dM_multiply_12 : decode cM_multiply 12 = .ok (.iaload, 1) := by decide +kernel
theorem dM_multiply_13 : decode cM_multiply 13 = .ok (.aload_n 0, 1) := by decide +kernel
theorem dM_multiply_14 : decode cM_multiply 14 = .ok (.aload_n 0, 1) := by decide +kernel
theorem dM_multiply_15 : decode cM_multiply 15 = .ok (.getfield 32, 3) := by decide +kernel
theorem dM_multiply_18 : decode cM_multiply 18 = .ok (.iload_n 2, 1) := by decide +kernel
theorem dM_multiply_19 : decode cM_multiply 19 = .ok (.iaload, 1) := by decide +kernel
theorem dM_multiply_20 : decode cM_multiply 20 = .ok (.aload_n 0, 1) := by decide +kernel
theorem dM_multiply_21 : decode cM_multiply 21 = .ok (.getfield 35, 3) := by decide +kernel
theorem dM_multiply_24 : decode cM_multiply 24 = .ok (.iload_n 2, 1) := by decide +kernel
theorem dM_multiply_25 : decode cM_multiply 25 = .ok (.iaload, 1) := by decide +kernel
theorem dM_multiply_26 : decode cM_multiply 26 = .ok (.aload_n 0, 1) := by decide +kernel
theorem dM_multiply_27 : decode cM_multiply 27 = .ok (.getfield 32, 3) := by decide +kernel
theorem dM_multiply_30 : decode cM_multiply 30 = .ok (.iload_n 1, 1) := by decide +kernel
theorem dM_multiply_31 : decode cM_multiply 31 = .ok (.iaload, 1) := by decide +kernel
theorem dM_multiply_32 : decode cM_multiply 32 = .ok (.aload_n 0, 1) := by decide +kernel
theorem dM_multiply_33 : decode cM_multiply 33 = .ok (.getfield 35, 3) := by decide +kernel
theorem dM_multiply_36 : decode cM_multiply 36 = .ok (.iload_n 1, 1) := by decide +kernel
theorem dM_multiply_37 : decode cM_multiply 37 = .ok (.iaload, 1) := by decide +kernel
theorem dM_multiply_38 : decode cM_multiply 38 = .ok (.invokevirtual 103, 3) := by decide +kernel
theorem dM_multiply_41 : decode cM_multiply 41 = .ok (.iconst 1, 1) := by decide +kernel
theorem dM_multiply_42 : decode cM_multiply 42 = .ok (.ishr, 1) := by decide +kernel
theorem dM_multiply_43 : decode cM_multiply 43 = .ok (.ixor, 1) := by decide +kernel
theorem dM_multiply_44 : decode cM_multiply 44 = .ok (.ixor, 1) := by decide +kernel
theorem dM_multiply_45 : decode cM_multiply 45 = .ok (.iastore, 1) := by decide +kernel
theorem dM_multiply_46 : decode cM_multiply 46 = .ok (.aload_n 0, 1) := by decide +kernel
theorem dM_multiply_47 : decode cM_multiply 47 = .ok (.getfield 41, 3) := by decide +kernel
theorem dM_multiply_50 : decode cM_multiply 50 = .ok (.iload_n 1, 1) := by decide +kernel
theorem dM_multiply_51 : decode cM_multiply 51 = .ok (.dup2, 1) := by decide +kernel
theorem dM_multiply_52 : decode cM_multiply 52 = .ok (.laload, 1) := by decide +kernel
theorem dM_multiply_53 : decode cM_multiply 53 = .ok (.aload_n 0, 1) := by decide +kernel
theorem dM_multiply_54 : decode cM_multiply 54 = .ok (.getfield 41, 3) := by decide +kernel
theorem dM_multiply_57 : decode cM_multiply 57 = .ok (.iload_n 2, 1) := by decide +kernel
theorem dM_multiply_58 : decode cM_multiply 58 = .ok (.laload, 1) := by decide +kernel
theorem dM_multiply_59 : decode cM_multiply 59 = .ok (.lxor, 1) := by decide +kernel
theorem dM_multiply_60 : decode cM_multiply 60 = .ok (.lastore, 1) := by decide +kernel
theorem dM_multiply_61 : decode cM_multiply 61 = .ok (.aload_n 0, 1) := by decide +kernel
theorem dM_multiply_62 : decode cM_multiply 62 = .ok (.getfield 32, 3) := by decide +kernel
theorem dM_multiply_65 : decode cM_multiply 65 = .ok (.iload_n 1, 1) := by decide +kernel
theorem dM_multiply_66 : decode cM_multiply 66 = .ok (.dup2, 1) := by decide +kernel
theorem dM_multiply_67 : decode cM_multiply 67 = .ok (.iaload, 1) := by decide +kernel
theorem dM_multiply_68 : decode cM_multiply 68 = .ok (.aload_n 0, 1) := by decide +kernel
theorem dM_multiply_69 : decode cM_multiply 69 = .ok (.getfield 32, 3) := by decide +kernel
theorem dM_multiply_72 : decode cM_multiply 72 = .ok (.iload_n 2, 1) := by decide +kernel
theorem dM_multiply_73 : decode cM_multiply 73 = .ok (.iaload, 1) := by decide +kernel
theorem dM_multiply_74 : decode cM_multiply 74 = .ok (.ixor, 1) := by decide +kernel
theorem dM_multiply_75 : decode cM_multiply 75 = .ok (.iastore, 1) := by decide +kernel
theorem dM_multiply_76 : decode cM_multiply 76 = .ok (.aload_n 0, 1) := by decide +kernel
theorem dM_multiply_77 : decode cM_multiply 77 = .ok (.getfield 35, 3) := by decide +kernel
theorem dM_multiply_80 : decode cM_multiply 80 = .ok (.iload_n 1, 1) := by decide +kernel
theorem dM_multiply_81 : decode cM_multiply 81 = .ok (.dup2, 1) := by decide +kernel
theorem dM_multiply_82 : decode cM_multiply 82 = .ok (.iaload, 1) := by decide +kernel
theorem dM_multiply_83 : decode cM_multiply 83 = .ok (.aload_n 0, 1) := by decide +kernel
theorem dM_multiply_84 : decode cM_multiply 84 = .ok (.getfield 35, 3) := by decide +kernel
theorem dM_multiply_87 : decode cM_multiply 87 = .ok (.iload_n 2, 1) := by decide +kernel
theorem dM_multiply_88 : decode cM_multiply 88 = .ok (.iaload, 1) := by decide +kernel
theorem dM_multiply_89 : decode cM_multiply 89 = .ok (.ixor, 1) := by decide +kernel
theorem dM_multiply_90 : decode cM_multiply 90 = .ok (.iastore, 1) := by decide +kernel
theorem dM_multiply_91 : decode cM_multiply 91 = .ok (.return_, 1) := by decide +kernel
theorem dM_powers_0 : decode cM_powers 0 = .ok (.iconst 0, 1) := by decide +kernel
theorem dM_powers_1 : decode cM_powers 1 = .ok (.istore 5, 2) := by decide +kernel
theorem dM_powers_3 : decode cM_powers 3 = .ok (.iconst 0, 1) := by decide +kernel
theorem dM_powers_4 : decode cM_powers 4 = .ok (.istore 6, 2) := by decide +kernel
theorem dM_powers_6 : decode cM_powers 6 = .ok (.iload 6, 2) := by decide +kernel
theorem dM_powers_8 : decode cM_powers 8 = .ok (.aload_n 0, 1) := by decide +kernel
theorem dM_powers_9 : decode cM_powers 9 = .ok (.getfield 68, 3) := by decide +kernel
theorem dM_powers_12 : decode cM_powers 12 = .ok (.if_icmp .ge 42, 3) := by decide +kernel
theorem dM_powers_15 : decode cM_powers 15 = .ok (.iload 5, 2) := by decide +kernel
theorem dM_powers_17 : decode cM_powers 17 = .ok (.iload_n 1, 1) := by decide +kernel
theorem dM_powers_18 : decode cM_powers 18 = .ok (.iload 6, 2) := by decide +kernel
theorem dM_powers_20 : decode cM_powers 20 = .ok (.invokestatic 95, 3) := by decide +kernel
theorem dM_powers_23 : decode cM_powers 23 = .ok (.iload_n 2, 1) := by decide +kernel
theorem dM_powers_24 : decode cM_powers 24 = .ok (.iload 6, 2) := by decide +kernel
theorem dM_powers_26 : decode cM_powers 26 = .ok (.invokestatic 95, 3) := by decide +kernel
theorem dM_powers_29 : decode cM_powers 29 = .ok (.iload_n 3, 1) := by decide +kernel
theorem dM_powers_30 : decode cM_powers 30 = .ok (.iload 6, 2) := by decide +kernel
theorem dM_powers_32 : decode cM_powers 32 = .ok (.invokestatic 95, 3) := by decide +kernel
theorem dM_powers_35 : decode cM_powers 35 = .ok (.iload 4, 2) := by decide +kernel
theorem dM_powers_37 : decode cM_powers 37 = .ok (.iload 6, 2) := by decide +kernel
theorem dM_powers_39 : decode cM_powers 39 = .ok (.invokestatic 95, 3) := by decide +kernel
theorem dM_powers_42 : decode cM_powers 42 = .ok (.invokestatic 99, 3) := by decide +kernel
theorem dM_powers_45 : decode cM_powers 45 = .ok (.iadd, 1) := by decide +kernel
theorem dM_powers_46 : decode cM_powers 46 = .ok (.istore 5, 2) := by decide +kernel
theorem dM_powers_48 : decode cM_powers 48 = .ok (.iinc 6 1, 3) := by decide +kernel
theorem dM_powers_51 : decode cM_powers 51 = .ok (.goto (-45), 3) := by decide +kernel
theorem dM_powers_54 : decode cM_powers 54 = .ok (.iload 5, 2) := by decide +kernel
theorem dM_powers_56 : decode cM_powers 56 = .ok (.iconst 3, 1) := by decide +kernel
theorem dM_powers_57 : decode cM_powers 57 = .ok (.iand, 1) := by decide +kernel
theorem dM_powers_58 : decode cM_powers 58 = .ok (.ireturn, 1) := by decide +kernel
theorem dM_power_0 : decode cM_power 0 = .ok (.iload_n 0, 1) := by decide +kernel
theorem dM_power_1 : decode cM_power 1 = .ok (.ifCond .ne 9, 3) := by decide +kernel
theorem dM_power_4 : decode cM_power 4 = .ok (.iload_n 1, 1) := by decide +kernel
theorem dM_power_5 : decode cM_power 5 = .ok (.ifCond .ne 5, 3) := by decide +kernel
theorem dM_power_8 : decode cM_power 8 = .ok (.iconst 0, 1) := by decide +kernel
theorem dM_power_9 : decode cM_power 9 = .ok (.ireturn, 1) := by decide +kernel
theorem dM_power_10 : decode cM_power 10 = .ok (.iload_n 0, 1) := by decide +kernel
theorem dM_power_11 : decode cM_power 11 = .ok (.iconst 1, 1) := by decide +kernel
theorem dM_power_12 : decode cM_power 12 = .ok (.if_icmp .ne 12, 3) := by decide +kernel
theorem dM_power_15 : decode cM_power 15 = .ok (.iload_n 1, 1) := by decide +kernel
theorem dM_power_16 : decode cM_power 16 = .ok (.iconst 1, 1) := by decide +kernel
theorem dM_power_17 : decode cM_power 17 = .ok (.if_icmp .ne 7, 3) := by decide +kernel
theorem dM_power_20 : decode cM_power 20 = .ok (.iload_n 3, 1) := by decide +kernel
theorem dM_power_21 : decode cM_power 21 = .ok (.iload_n 2, 1) := by decide +kernel
theorem dM_power_22 : decode cM_power 22 = .ok (.isub, 1) := by decide +kernel
theorem dM_power_23 : decode cM_power 23 = .ok (.ireturn, 1) := by decide +kernel
theorem dM_power_24 : decode cM_power 24 = .ok (.iload_n 0, 1) := by decide +kernel
theorem dM_power_25 : decode cM_power 25 = .ok (.iconst 1, 1) := by decide +kernel
theorem dM_power_26 : decode cM_power 26 = .ok (.if_icmp .ne 13, 3) := by decide +kernel
theorem dM_power_29 : decode cM_power 29 = .ok (.iload_n 3, 1) := by decide +kernel
theorem dM_power_30 : decode cM_power 30 = .ok (.iconst 2, 1) := by decide +kernel
theorem dM_power_31 : decode cM_power 31 = .ok (.iload_n 2, 1) := by decide +kernel
theorem dM_power_32 : decode cM_power 32 = .ok (.imul, 1) := by decide +kernel
theorem dM_power_33 : decode cM_power 33 = .ok (.iconst 1, 1) := by decide +kernel
theorem dM_power_34 : decode cM_power 34 = .ok (.isub, 1) := by decide +kernel
theorem dM_power_35 : decode cM_power 35 = .ok (.imul, 1) := by decide +kernel
theorem dM_power_36 : decode cM_power 36 = .ok (.goto 10, 3) := by decide +kernel
theorem dM_power_39 : decode cM_power 39 = .ok (.iload_n 2, 1) := by decide +kernel
theorem dM_power_40 : decode cM_power 40 = .ok (.iconst 1, 1) := by decide +kernel
theorem dM_power_41 : decode cM_power 41 = .ok (.iconst 2, 1) := by decide +kernel
theorem dM_power_42 : decode cM_power 42 = .ok (.iload_n 3, 1) := by decide +kernel
theorem dM_power_43 : decode cM_power 43 = .ok (.imul, 1) := by decide +kernel
theorem dM_power_44 : decode cM_power 44 = .ok (.isub, 1) := by decide +kernel
theorem dM_power_45 : decode cM_power 45 = .ok (.imul, 1) := by decide +kernel
theorem dM_power_46 : decode cM_power 46 = .ok (.ireturn, 1) := by decide +kernel
theorem dM_takeRow_0 : decode cM_takeRow 0 = .ok (.aload_n 0, 1) := by decide +kernel
theorem dM_takeRow_1 : decode cM_takeRow 1 = .ok (.dup, 1) := by decide +kernel
theorem dM_takeRow_2 : decode cM_takeRow 2 = .ok (.getfield 116, 3) := by decide +kernel
theorem dM_takeRow_5 : decode cM_takeRow 5 = .ok (.aload_n 0, 1) := by decide +kernel
theorem dM_takeRow_6 : decode cM_takeRow 6 = .ok (.getfield 38, 3) := by decide +kernel
theorem dM_takeRow_9 : decode cM_takeRow 9 = .ok (.iload_n 1, 1) := by decide +kernel
theorem dM_takeRow_10 : decode cM_takeRow 10 = .ok (.iaload, 1) := by decide +kernel
theorem dM_takeRow_11 : decode cM_takeRow 11 = .ok (.aload_n 0, 1) := by decide +kernel
theorem dM_takeRow_12 : decode cM_takeRow 12 = .ok (.aload_n 0, 1) := by decide +kernel
theorem dM_takeRow_13 : decode cM_takeRow 13 = .ok (.getfield 32, 3) := by decide +kernel
theorem dM_takeRow_16 : decode cM_takeRow 16 = .ok (.iload_n 1, 1) := by decide +kernel
theorem dM_takeRow_17 : decode cM_takeRow 17 = .ok (.iaload, 1) := by decide +kernel
theorem dM_takeRow_18 : decode cM_takeRow 18 = .ok (.aload_n 0, 1) := by decide +kernel
theorem dM_takeRow_19 : decode cM_takeRow 19 = .ok (.getfield 35, 3) := by decide +kernel
theorem dM_takeRow_22 : decode cM_takeRow 22 = .ok (.iload_n 1, 1) := by decide +kernel
theorem dM_takeRow_23 : decode cM_takeRow 23 = .ok (.iaload, 1) := by decide +kernel
theorem dM_takeRow_24 : decode cM_takeRow 24 = .ok (.aload_n 0, 1) := by decide +kernel
theorem dM_takeRow_25 : decode cM_takeRow 25 = .ok (.getfield 119, 3) := by decide +kernel
theorem dM_takeRow_28 : decode cM_takeRow 28 = .ok (.aload_n 0, 1) := by decide +kernel
theorem dM_takeRow_29 : decode cM_takeRow 29 = .ok (.getfield 122, 3) := by decide +kernel
theorem dM_takeRow_32 : decode cM_takeRow 32 = .ok (.invokevirtual 103, 3) := by decide +kernel
theorem dM_takeRow_35 : decode cM_takeRow 35 = .ok (.iconst 1, 1) := by decide +kernel
theorem dM_takeRow_36 : decode cM_takeRow 36 = .ok (.ishr, 1) := by decide +kernel
theorem dM_takeRow_37 : decode cM_takeRow 37 = .ok (.ixor, 1) := by decide +kernel
theorem dM_takeRow_38 : decode cM_takeRow 38 = .ok (.ixor, 1) := by decide +kernel
theorem dM_takeRow_39 : decode cM_takeRow 39 = .ok (.putfield 116, 3) := by decide +kernel
theorem dM_takeRow_42 : decode cM_takeRow 42 = .ok (.aload_n 0, 1) := by decide +kernel
theorem dM_takeRow_43 : decode cM_takeRow 43 = .ok (.dup, 1) := by decide +kernel
theorem dM_takeRow_44 : decode cM_takeRow 44 = .ok (.getfield 125, 3) := by decide +kernel
theorem dM_takeRow_47 : decode cM_takeRow 47 = .ok (.aload_n 0, 1) := by decide +kernel
theorem dM_takeRow_48 : decode cM_takeRow 48 = .ok (.getfield 41, 3) := by decide +kernel
theorem dM_takeRow_51 : decode cM_takeRow 51 = .ok (.iload_n 1, 1) := by decide +kernel
theorem dM_takeRow_52 : decode cM_takeRow 52 = .ok (.laload, 1) := by decide +kernel
theorem dM_takeRow_53 : decode cM_takeRow 53 = .ok (.lxor, 1) := by decide +kernel
theorem dM_takeRow_54 : decode cM_takeRow 54 = .ok (.putfield 125, 3) := by decide +kernel
theorem dM_takeRow_57 : decode cM_takeRow 57 = .ok (.aload_n 0, 1) := by decide +kernel
theorem dM_takeRow_58 : decode cM_takeRow 58 = .ok (.dup, 1) := by decide +kernel
theorem dM_takeRow_59 : decode cM_takeRow 59 = .ok (.getfield 119, 3) := by decide +kernel
theorem dM_takeRow_62 : decode cM_takeRow 62 = .ok (.aload_n 0, 1) := by decide +kernel
theorem dM_takeRow_63 : decode cM_takeRow 63 = .ok (.getfield 32, 3) := by decide +kernel
theorem dM_takeRow_66 : decode cM_takeRow 66 = .ok (.iload_n 1, 1) := by decide +kernel
theorem dM_takeRow_67 : decode cM_takeRow 67 = .ok (.iaload, 1) := by decide +kernel
theorem dM_takeRow_68 : decode cM_takeRow 68 = .ok (.ixor, 1) := by decide +kernel
theorem dM_takeRow_69 : decode cM_takeRow 69 = .ok (.putfield 119, 3) := by decide +kernel
theorem dM_takeRow_72 : decode cM_takeRow 72 = .ok (.aload_n 0, 1) := by decide +kernel
theorem dM_takeRow_73 : decode cM_takeRow 73 = .ok (.dup, 1) := by decide +kernel
theorem dM_takeRow_74 : decode cM_takeRow 74 = .ok (.getfield 122, 3) := by decide +kernel
theorem dM_takeRow_77 : decode cM_takeRow 77 = .ok (.aload_n 0, 1) := by decide +kernel
theorem dM_takeRow_78 : decode cM_takeRow 78 = .ok (.getfield 35, 3) := by decide +kernel
theorem dM_takeRow_81 : decode cM_takeRow 81 = .ok (.iload_n 1, 1) := by decide +kernel
theorem dM_takeRow_82 : decode cM_takeRow 82 = .ok (.iaload, 1) := by decide +kernel
theorem dM_takeRow_83 : decode cM_takeRow 83 = .ok (.ixor, 1) := by decide +kernel
theorem dM_takeRow_84 : decode cM_takeRow 84 = .ok (.putfield 122, 3) := by decide +kernel
theorem dM_takeRow_87 : decode cM_takeRow 87 = .ok (.return_, 1) := by decide +kernel
theorem dM_clearWire_0 : decode cM_clearWire 0 = .ok (.iconst 0, 1) := by decide +kernel
theorem dM_clearWire_1 : decode cM_clearWire 1 = .ok (.istore_n 3, 1) := by decide +kernel
theorem dM_clearWire_2 : decode cM_clearWire 2 = .ok (.iload_n 3, 1) := by decide +kernel
theorem dM_clearWire_3 : decode cM_clearWire 3 = .ok (.aload_n 0, 1) := by decide +kernel
theorem dM_clearWire_4 : decode cM_clearWire 4 = .ok (.getfield 68, 3) := by decide +kernel
theorem dM_clearWire_7 : decode cM_clearWire 7 = .ok (.if_icmp .ge 55, 3) := by decide +kernel
theorem dM_clearWire_10 : decode cM_clearWire 10 = .ok (.aload_n 0, 1) := by decide +kernel
theorem dM_clearWire_11 : decode cM_clearWire 11 = .ok (.getfield 35, 3) := by decide +kernel
theorem dM_clearWire_14 : decode cM_clearWire 14 = .ok (.iload_n 3, 1) := by decide +kernel
theorem dM_clearWire_15 : decode cM_clearWire 15 = .ok (.iaload, 1) := by decide +kernel
theorem dM_clearWire_16 : decode cM_clearWire 16 = .ok (.iload_n 2, 1) := by decide +kernel
theorem dM_clearWire_17 : decode cM_clearWire 17 = .ok (.invokestatic 95, 3) := by decide +kernel
theorem dM_clearWire_20 : decode cM_clearWire 20 = .ok (.ifCond .ne 6, 3) := by decide +kernel
theorem dM_clearWire_23 : decode cM_clearWire 23 = .ok (.goto 33, 3) := by decide +kernel
theorem dM_clearWire_26 : decode cM_clearWire 26 = .ok (.aload_n 0, 1) := by decide +kernel
theorem dM_clearWire_27 : decode cM_clearWire 27 = .ok (.getfield 38, 3) := by decide +kernel
theorem dM_clearWire_30 : decode cM_clearWire 30 = .ok (.iload_n 3, 1) := by decide +kernel
theorem dM_clearWire_31 : decode cM_clearWire 31 = .ok (.dup2, 1) := by decide +kernel
theorem dM_clearWire_32 : decode cM_clearWire 32 = .ok (.iaload, 1) := by decide +kernel
theorem dM_clearWire_33 : decode cM_clearWire 33 = .ok (.aload_n 0, 1) := by decide +kernel
theorem dM_clearWire_34 : decode cM_clearWire 34 = .ok (.getfield 44, 3) := by decide +kernel
theorem dM_clearWire_37 : decode cM_clearWire 37 = .ok (.iload_n 1, 1) := by decide +kernel
theorem dM_clearWire_38 : decode cM_clearWire 38 = .ok (.iaload, 1) := by decide +kernel
theorem dM_clearWire_39 : decode cM_clearWire 39 = .ok (.ixor, 1) := by decide +kernel
theorem dM_clearWire_40 : decode cM_clearWire 40 = .ok (.iastore, 1) := by decide +kernel
theorem dM_clearWire_41 : decode cM_clearWire 41 = .ok (.aload_n 0, 1) := by decide +kernel
theorem dM_clearWire_42 : decode cM_clearWire 42 = .ok (.getfield 41, 3) := by decide +kernel
theorem dM_clearWire_45 : decode cM_clearWire 45 = .ok (.iload_n 3, 1) := by decide +kernel
theorem dM_clearWire_46 : decode cM_clearWire 46 = .ok (.dup2, 1) := by decide +kernel
theorem dM_clearWire_47 : decode cM_clearWire 47 = .ok (.laload, 1) := by decide +kernel
theorem dM_clearWire_48 : decode cM_clearWire 48 = .ok (.aload_n 0, 1) := by decide +kernel
theorem dM_clearWire_49 : decode cM_clearWire 49 = .ok (.getfield 47, 3) := by decide +kernel
theorem dM_clearWire_52 : decode cM_clearWire 52 = .ok (.iload_n 1, 1) := by decide +kernel
theorem dM_clearWire_53 : decode cM_clearWire 53 = .ok (.laload, 1) := by decide +kernel
theorem dM_clearWire_54 : decode cM_clearWire 54 = .ok (.lxor, 1) := by decide +kernel
theorem dM_clearWire_55 : decode cM_clearWire 55 = .ok (.lastore, 1) := by decide +kernel
theorem dM_clearWire_56 : decode cM_clearWire 56 = .ok (.iinc 3 1, 3) := by decide +kernel
theorem dM_clearWire_59 : decode cM_clearWire 59 = .ok (.goto (-57), 3) := by decide +kernel
theorem dM_clearWire_62 : decode cM_clearWire 62 = .ok (.return_, 1) := by decide +kernel
theorem dM_gateRow_0 : decode cM_gateRow 0 = .ok (.aload_n 0, 1) := by decide +kernel
theorem dM_gateRow_1 : decode cM_gateRow 1 = .ok (.getfield 13, 3) := by decide +kernel
theorem dM_gateRow_4 : decode cM_gateRow 4 = .ok (.iload_n 2, 1) := by decide +kernel
theorem dM_gateRow_5 : decode cM_gateRow 5 = .ok (.iaload, 1) := by decide +kernel
theorem dM_gateRow_6 : decode cM_gateRow 6 = .ok (.istore_n 3, 1) := by decide +kernel
theorem dM_gateRow_7 : decode cM_gateRow 7 = .ok (.aload_n 0, 1) := by decide +kernel
theorem dM_gateRow_8 : decode cM_gateRow 8 = .ok (.getfield 16, 3) := by decide +kernel
theorem dM_gateRow_11 : decode cM_gateRow 11 = .ok (.iload_n 2, 1) := by decide +kernel
theorem dM_gateRow_12 : decode cM_gateRow 12 = .ok (.iaload, 1) := by decide +kernel
theorem dM_gateRow_13 : decode cM_gateRow 13 = .ok (.istore 4, 2) := by decide +kernel
theorem dM_gateRow_15 : decode cM_gateRow 15 = .ok (.aload_n 0, 1) := by decide +kernel
theorem dM_gateRow_16 : decode cM_gateRow 16 = .ok (.getfield 32, 3) := by decide +kernel
theorem dM_gateRow_19 : decode cM_gateRow 19 = .ok (.iload_n 1, 1) := by decide +kernel
theorem dM_gateRow_20 : decode cM_gateRow 20 = .ok (.iaload, 1) := by decide +kernel
theorem dM_gateRow_21 : decode cM_gateRow 21 = .ok (.iload_n 3, 1) := by decide +kernel
theorem dM_gateRow_22 : decode cM_gateRow 22 = .ok (.invokestatic 95, 3) := by decide +kernel
theorem dM_gateRow_25 : decode cM_gateRow 25 = .ok (.istore 5, 2) := by decide +kernel
theorem dM_gateRow_27 : decode cM_gateRow 27 = .ok (.aload_n 0, 1) := by decide +kernel
theorem dM_gateRow_28 : decode cM_gateRow 28 = .ok (.getfield 35, 3) := by decide +kernel
theorem dM_gateRow_31 : decode cM_gateRow 31 = .ok (.iload_n 1, 1) := by decide +kernel
theorem dM_gateRow_32 : decode cM_gateRow 32 = .ok (.iaload, 1) := by decide +kernel
theorem dM_gateRow_33 : decode cM_gateRow 33 = .ok (.iload_n 3, 1) := by decide +kernel
theorem dM_gateRow_34 : decode cM_gateRow 34 = .ok (.invokestatic 95, 3) := by decide +kernel
theorem dM_gateRow_37 : decode cM_gateRow 37 = .ok (.istore 6, 2) := by decide +kernel
theorem dM_gateRow_39 : decode cM_gateRow 39 = .ok (.aload_n 0, 1) := by decide +kernel
theorem dM_gateRow_40 : decode cM_gateRow 40 = .ok (.getfield 7, 3) := by decide +kernel
theorem dM_gateRow_43 : decode cM_gateRow 43 = .ok (.iload_n 2, 1) := by decide +kernel
theorem dM_gateRow_44 : decode cM_gateRow 44 = .ok (.iaload, 1) := by decide +kernel
theorem dM_gateRow_45 : decode cM_gateRow 45 = .ok (.tableswitch 291 0 5 #[39, 88, 118, 197, 266, 277], 39) := by decide +kernel
theorem dM_gateRow_84 : decode cM_gateRow 84 = .ok (.aload_n 0, 1) := by decide +kernel
theorem dM_gateRow_85 : decode cM_gateRow 85 = .ok (.getfield 38, 3) := by decide +kernel
theorem dM_gateRow_88 : decode cM_gateRow 88 = .ok (.iload_n 1, 1) := by decide +kernel
theorem dM_gateRow_89 : decode cM_gateRow 89 = .ok (.dup2, 1) := by decide +kernel
theorem dM_gateRow_90 : decode cM_gateRow 90 = .ok (.iaload, 1) := by decide +kernel
theorem dM_gateRow_91 : decode cM_gateRow 91 = .ok (.iload 5, 2) := by decide +kernel
theorem dM_gateRow_93 : decode cM_gateRow 93 = .ok (.iload 6, 2) := by decide +kernel
theorem dM_gateRow_95 : decode cM_gateRow 95 = .ok (.iand, 1) := by decide +kernel
theorem dM_gateRow_96 : decode cM_gateRow 96 = .ok (.ixor, 1) := by decide +kernel
theorem dM_gateRow_97 : decode cM_gateRow 97 = .ok (.iastore, 1) := by decide +kernel
theorem dM_gateRow_98 : decode cM_gateRow 98 = .ok (.aload_n 0, 1) := by decide +kernel
theorem dM_gateRow_99 : decode cM_gateRow 99 = .ok (.getfield 32, 3) := by decide +kernel
theorem dM_gateRow_102 : decode cM_gateRow 102 = .ok (.iload_n 1, 1) := by decide +kernel
theorem dM_gateRow_103 : decode cM_gateRow 103 = .ok (.dup2, 1) := by decide +kernel
theorem dM_gateRow_104 : decode cM_gateRow 104 = .ok (.iaload, 1) := by decide +kernel
theorem dM_gateRow_105 : decode cM_gateRow 105 = .ok (.iload 5, 2) := by decide +kernel
theorem dM_gateRow_107 : decode cM_gateRow 107 = .ok (.iload 6, 2) := by decide +kernel
theorem dM_gateRow_109 : decode cM_gateRow 109 = .ok (.ixor, 1) := by decide +kernel
theorem dM_gateRow_110 : decode cM_gateRow 110 = .ok (.iload_n 3, 1) := by decide +kernel
theorem dM_gateRow_111 : decode cM_gateRow 111 = .ok (.ishl, 1) := by decide +kernel
theorem dM_gateRow_112 : decode cM_gateRow 112 = .ok (.ixor, 1) := by decide +kernel
theorem dM_gateRow_113 : decode cM_gateRow 113 = .ok (.iastore, 1) := by decide +kernel
theorem dM_gateRow_114 : decode cM_gateRow 114 = .ok (.aload_n 0, 1) := by decide +kernel
theorem dM_gateRow_115 : decode cM_gateRow 115 = .ok (.getfield 35, 3) := by decide +kernel
theorem dM_gateRow_118 : decode cM_gateRow 118 = .ok (.iload_n 1, 1) := by decide +kernel
theorem dM_gateRow_119 : decode cM_gateRow 119 = .ok (.dup2, 1) := by decide +kernel
theorem dM_gateRow_120 : decode cM_gateRow 120 = .ok (.iaload, 1) := by decide +kernel
theorem dM_gateRow_121 : decode cM_gateRow 121 = .ok (.iload 5, 2) := by decide +kernel
theorem dM_gateRow_123 : decode cM_gateRow 123 = .ok (.iload 6, 2) := by decide +kernel
theorem dM_gateRow_125 : decode cM_gateRow 125 = .ok (.ixor, 1) := by decide +kernel
theorem dM_gateRow_126 : decode cM_gateRow 126 = .ok (.iload_n 3, 1) := by decide +kernel
theorem dM_gateRow_127 : decode cM_gateRow 127 = .ok (.ishl, 1) := by decide +kernel
theorem dM_gateRow_128 : decode cM_gateRow 128 = .ok (.ixor, 1) := by decide +kernel
theorem dM_gateRow_129 : decode cM_gateRow 129 = .ok (.iastore, 1) := by decide +kernel
theorem dM_gateRow_130 : decode cM_gateRow 130 = .ok (.goto 217, 3) := by decide +kernel
theorem dM_gateRow_133 : decode cM_gateRow 133 = .ok (.aload_n 0, 1) := by decide +kernel
theorem dM_gateRow_134 : decode cM_gateRow 134 = .ok (.getfield 38, 3) := by decide +kernel
theorem dM_gateRow_137 : decode cM_gateRow 137 = .ok (.iload_n 1, 1) := by decide +kernel
theorem dM_gateRow_138 : decode cM_gateRow 138 = .ok (.dup2, 1) := by decide +kernel
theorem dM_gateRow_139 : decode cM_gateRow 139 = .ok (.iaload, 1) := by decide +kernel
theorem dM_gateRow_140 : decode cM_gateRow 140 = .ok (.iload 5, 2) := by decide +kernel
theorem dM_gateRow_142 : decode cM_gateRow 142 = .ok (.iload 6, 2) := by decide +kernel
theorem dM_gateRow_144 : decode cM_gateRow 144 = .ok (.iand, 1) := by decide +kernel
theorem dM_gateRow_145 : decode cM_gateRow 145 = .ok (.ixor, 1) := by decide +kernel
theorem dM_gateRow_146 : decode cM_gateRow 146 = .ok (.iastore, 1) := by decide +kernel
theorem dM_gateRow_147 : decode cM_gateRow 147 = .ok (.aload_n 0, 1) := by decide +kernel
theorem dM_gateRow_148 : decode cM_gateRow 148 = .ok (.getfield 35, 3) := by decide +kernel
theorem dM_gateRow_151 : decode cM_gateRow 151 = .ok (.iload_n 1, 1) := by decide +kernel
theorem dM_gateRow_152 : decode cM_gateRow 152 = .ok (.dup2, 1) := by decide +kernel
theorem dM_gateRow_153 : decode cM_gateRow 153 = .ok (.iaload, 1) := by decide +kernel
theorem dM_gateRow_154 : decode cM_gateRow 154 = .ok (.iload 5, 2) := by decide +kernel
theorem dM_gateRow_156 : decode cM_gateRow 156 = .ok (.iload_n 3, 1) := by decide +kernel
theorem dM_gateRow_157 : decode cM_gateRow 157 = .ok (.ishl, 1) := by decide +kernel
theorem dM_gateRow_158 : decode cM_gateRow 158 = .ok (.ixor, 1) := by decide +kernel
theorem dM_gateRow_159 : decode cM_gateRow 159 = .ok (.iastore, 1) := by decide +kernel
theorem dM_gateRow_160 : decode cM_gateRow 160 = .ok (.goto 187, 3) := by decide +kernel
theorem dM_gateRow_163 : decode cM_gateRow 163 = .ok (.aload_n 0, 1) := by decide +kernel
theorem dM_gateRow_164 : decode cM_gateRow 164 = .ok (.getfield 38, 3) := by decide +kernel
theorem dM_gateRow_167 : decode cM_gateRow 167 = .ok (.iload_n 1, 1) := by decide +kernel
theorem dM_gateRow_168 : decode cM_gateRow 168 = .ok (.dup2, 1) := by decide +kernel
theorem dM_gateRow_169 : decode cM_gateRow 169 = .ok (.iaload, 1) := by decide +kernel
theorem dM_gateRow_170 : decode cM_gateRow 170 = .ok (.iload 5, 2) := by decide +kernel
theorem dM_gateRow_172 : decode cM_gateRow 172 = .ok (.aload_n 0, 1) := by decide +kernel
theorem dM_gateRow_173 : decode cM_gateRow 173 = .ok (.getfield 35, 3) := by decide +kernel
theorem dM_gateRow_176 : decode cM_gateRow 176 = .ok (.iload_n 1, 1) := by decide +kernel
theorem dM_gateRow_177 : decode cM_gateRow 177 = .ok (.iaload, 1) := by decide +kernel
theorem dM_gateRow_178 : decode cM_gateRow 178 = .ok (.iload 4, 2) := by decide +kernel
theorem dM_gateRow_180 : decode cM_gateRow 180 = .ok (.invokestatic 95, 3) := by decide +kernel
theorem dM_gateRow_183 : decode cM_gateRow 183 = .ok (.iand, 1) := by decide +kernel
theorem dM_gateRow_184 : decode cM_gateRow 184 = .ok (.aload_n 0, 1) := by decide +kernel
theorem dM_gateRow_185 : decode cM_gateRow 185 = .ok (.getfield 32, 3) := by decide +kernel
theorem dM_gateRow_188 : decode cM_gateRow 188 = .ok (.iload_n 1, 1) := by decide +kernel
theorem dM_gateRow_189 : decode cM_gateRow 189 = .ok (.iaload, 1) := by decide +kernel
theorem dM_gateRow_190 : decode cM_gateRow 190 = .ok (.iload 4, 2) := by decide +kernel
theorem dM_gateRow_192 : decode cM_gateRow 192 = .ok (.invokestatic 95, 3) := by decide +kernel
theorem dM_gateRow_195 : decode cM_gateRow 195 = .ok (.iload 6, 2) := by decide +kernel
theorem dM_gateRow_197 : decode cM_gateRow 197 = .ok (.ixor, 1) := by decide +kernel
theorem dM_gateRow_198 : decode cM_gateRow 198 = .ok (.iconst 1, 1) := by decide +kernel
theorem dM_gateRow_199 : decode cM_gateRow 199 = .ok (.ixor, 1) := by decide +kernel
theorem dM_gateRow_200 : decode cM_gateRow 200 = .ok (.iand, 1) := by decide +kernel
theorem dM_gateRow_201 : decode cM_gateRow 201 = .ok (.ixor, 1) := by decide +kernel
theorem dM_gateRow_202 : decode cM_gateRow 202 = .ok (.iastore, 1) := by decide +kernel
theorem dM_gateRow_203 : decode cM_gateRow 203 = .ok (.aload_n 0, 1) := by decide +kernel
theorem dM_gateRow_204 : decode cM_gateRow 204 = .ok (.getfield 32, 3) := by decide +kernel
theorem dM_gateRow_207 : decode cM_gateRow 207 = .ok (.iload_n 1, 1) := by decide +kernel
theorem dM_gateRow_208 : decode cM_gateRow 208 = .ok (.dup2, 1) := by decide +kernel
theorem dM_gateRow_209 : decode cM_gateRow 209 = .ok (.iaload, 1) := by decide +kernel
theorem dM_gateRow_210 : decode cM_gateRow 210 = .ok (.iload 5, 2) := by decide +kernel
theorem dM_gateRow_212 : decode cM_gateRow 212 = .ok (.iload 4, 2) := by decide +kernel
theorem dM_gateRow_214 : decode cM_gateRow 214 = .ok (.ishl, 1) := by decide +kernel
theorem dM_gateRow_215 : decode cM_gateRow 215 = .ok (.ixor, 1) := by decide +kernel
theorem dM_gateRow_216 : decode cM_gateRow 216 = .ok (.iastore, 1) := by decide +kernel
theorem dM_gateRow_217 : decode cM_gateRow 217 = .ok (.aload_n 0, 1) := by decide +kernel
theorem dM_gateRow_218 : decode cM_gateRow 218 = .ok (.getfield 35, 3) := by decide +kernel
theorem dM_gateRow_221 : decode cM_gateRow 221 = .ok (.iload_n 1, 1) := by decide +kernel
theorem dM_gateRow_222 : decode cM_gateRow 222 = .ok (.dup2, 1) := by decide +kernel
theorem dM_gateRow_223 : decode cM_gateRow 223 = .ok (.iaload, 1) := by decide +kernel
theorem dM_gateRow_224 : decode cM_gateRow 224 = .ok (.aload_n 0, 1) := by decide +kernel
theorem dM_gateRow_225 : decode cM_gateRow 225 = .ok (.getfield 35, 3) := by decide +kernel
theorem dM_gateRow_228 : decode cM_gateRow 228 = .ok (.iload_n 1, 1) := by decide +kernel
theorem dM_gateRow_229 : decode cM_gateRow 229 = .ok (.iaload, 1) := by decide +kernel
theorem dM_gateRow_230 : decode cM_gateRow 230 = .ok (.iload 4, 2) := by decide +kernel
theorem dM_gateRow_232 : decode cM_gateRow 232 = .ok (.invokestatic 95, 3) := by decide +kernel
theorem dM_gateRow_235 : decode cM_gateRow 235 = .ok (.iload_n 3, 1) := by decide +kernel
theorem dM_gateRow_236 : decode cM_gateRow 236 = .ok (.ishl, 1) := by decide +kernel
theorem dM_gateRow_237 : decode cM_gateRow 237 = .ok (.ixor, 1) := by decide +kernel
theorem dM_gateRow_238 : decode cM_gateRow 238 = .ok (.iastore, 1) := by decide +kernel
theorem dM_gateRow_239 : decode cM_gateRow 239 = .ok (.goto 108, 3) := by decide +kernel
theorem dM_gateRow_242 : decode cM_gateRow 242 = .ok (.aload_n 0, 1) := by decide +kernel
theorem dM_gateRow_243 : decode cM_gateRow 243 = .ok (.getfield 38, 3) := by decide +kernel
theorem dM_gateRow_246 : decode cM_gateRow 246 = .ok (.iload_n 1, 1) := by decide +kernel
theorem dM_gateRow_247 : decode cM_gateRow 247 = .ok (.dup2, 1) := by decide +kernel
theorem dM_gateRow_248 : decode cM_gateRow 248 = .ok (.iaload, 1) := by decide +kernel
theorem dM_gateRow_249 : decode cM_gateRow 249 = .ok (.iload 5, 2) := by decide +kernel
theorem dM_gateRow_251 : decode cM_gateRow 251 = .ok (.aload_n 0, 1) := by decide +kernel
theorem dM_gateRow_252 : decode cM_gateRow 252 = .ok (.getfield 32, 3) := by decide +kernel
theorem dM_gateRow_255 : decode cM_gateRow 255 = .ok (.iload_n 1, 1) := by decide +kernel
theorem dM_gateRow_256 : decode cM_gateRow 256 = .ok (.iaload, 1) := by decide +kernel
theorem dM_gateRow_257 : decode cM_gateRow 257 = .ok (.iload 4, 2) := by decide +kernel
theorem dM_gateRow_259 : decode cM_gateRow 259 = .ok (.invokestatic 95, 3) := by decide +kernel
theorem dM_gateRow_262 : decode cM_gateRow 262 = .ok (.iand, 1) := by decide +kernel
theorem dM_gateRow_263 : decode cM_gateRow 263 = .ok (.iload 6, 2) := by decide +kernel
theorem dM_gateRow_265 : decode cM_gateRow 265 = .ok (.aload_n 0, 1) := by decide +kernel
theorem dM_gateRow_266 : decode cM_gateRow 266 = .ok (.getfield 35, 3) := by decide +kernel
theorem dM_gateRow_269 : decode cM_gateRow 269 = .ok (.iload_n 1, 1) := by decide +kernel
theorem dM_gateRow_270 : decode cM_gateRow 270 = .ok (.iaload, 1) := by decide +kernel
theorem dM_gateRow_271 : decode cM_gateRow 271 = .ok (.iload 4, 2) := by decide +kernel
theorem dM_gateRow_273 : decode cM_gateRow 273 = .ok (.invokestatic 95, 3) := by decide +kernel
theorem dM_gateRow_276 : decode cM_gateRow 276 = .ok (.ixor, 1) := by decide +kernel
theorem dM_gateRow_277 : decode cM_gateRow 277 = .ok (.iand, 1) := by decide +kernel
theorem dM_gateRow_278 : decode cM_gateRow 278 = .ok (.ixor, 1) := by decide +kernel
theorem dM_gateRow_279 : decode cM_gateRow 279 = .ok (.iastore, 1) := by decide +kernel
theorem dM_gateRow_280 : decode cM_gateRow 280 = .ok (.aload_n 0, 1) := by decide +kernel
theorem dM_gateRow_281 : decode cM_gateRow 281 = .ok (.getfield 35, 3) := by decide +kernel
theorem dM_gateRow_284 : decode cM_gateRow 284 = .ok (.iload_n 1, 1) := by decide +kernel
theorem dM_gateRow_285 : decode cM_gateRow 285 = .ok (.dup2, 1) := by decide +kernel
theorem dM_gateRow_286 : decode cM_gateRow 286 = .ok (.iaload, 1) := by decide +kernel
theorem dM_gateRow_287 : decode cM_gateRow 287 = .ok (.aload_n 0, 1) := by decide +kernel
theorem dM_gateRow_288 : decode cM_gateRow 288 = .ok (.getfield 32, 3) := by decide +kernel
theorem dM_gateRow_291 : decode cM_gateRow 291 = .ok (.iload_n 1, 1) := by decide +kernel
theorem dM_gateRow_292 : decode cM_gateRow 292 = .ok (.iaload, 1) := by decide +kernel
theorem dM_gateRow_293 : decode cM_gateRow 293 = .ok (.iload 4, 2) := by decide +kernel
theorem dM_gateRow_295 : decode cM_gateRow 295 = .ok (.invokestatic 95, 3) := by decide +kernel
theorem dM_gateRow_298 : decode cM_gateRow 298 = .ok (.iload_n 3, 1) := by decide +kernel
theorem dM_gateRow_299 : decode cM_gateRow 299 = .ok (.ishl, 1) := by decide +kernel
theorem dM_gateRow_300 : decode cM_gateRow 300 = .ok (.iload 5, 2) := by decide +kernel
theorem dM_gateRow_302 : decode cM_gateRow 302 = .ok (.iload 4, 2) := by decide +kernel
theorem dM_gateRow_304 : decode cM_gateRow 304 = .ok (.ishl, 1) := by decide +kernel
theorem dM_gateRow_305 : decode cM_gateRow 305 = .ok (.ior, 1) := by decide +kernel
theorem dM_gateRow_306 : decode cM_gateRow 306 = .ok (.ixor, 1) := by decide +kernel
theorem dM_gateRow_307 : decode cM_gateRow 307 = .ok (.iastore, 1) := by decide +kernel
theorem dM_gateRow_308 : decode cM_gateRow 308 = .ok (.goto 39, 3) := by decide +kernel
theorem dM_gateRow_311 : decode cM_gateRow 311 = .ok (.aload_n 0, 1) := by decide +kernel
theorem dM_gateRow_312 : decode cM_gateRow 312 = .ok (.iload_n 1, 1) := by decide +kernel
theorem dM_gateRow_313 : decode cM_gateRow 313 = .ok (.iload_n 3, 1) := by decide +kernel
theorem dM_gateRow_314 : decode cM_gateRow 314 = .ok (.iload 4, 2) := by decide +kernel
theorem dM_gateRow_316 : decode cM_gateRow 316 = .ok (.invokevirtual 106, 3) := by decide +kernel
theorem dM_gateRow_319 : decode cM_gateRow 319 = .ok (.goto 28, 3) := by decide +kernel
theorem dM_gateRow_322 : decode cM_gateRow 322 = .ok (.aload_n 0, 1) := by decide +kernel
theorem dM_gateRow_323 : decode cM_gateRow 323 = .ok (.getfield 38, 3) := by decide +kernel
theorem dM_gateRow_326 : decode cM_gateRow 326 = .ok (.iload_n 1, 1) := by decide +kernel
theorem dM_gateRow_327 : decode cM_gateRow 327 = .ok (.dup2, 1) := by decide +kernel
theorem dM_gateRow_328 : decode cM_gateRow 328 = .ok (.iaload, 1) := by decide +kernel
theorem dM_gateRow_329 : decode cM_gateRow 329 = .ok (.iload 6, 2) := by decide +kernel
theorem dM_gateRow_331 : decode cM_gateRow 331 = .ok (.ixor, 1) := by decide +kernel
theorem dM_gateRow_332 : decode cM_gateRow 332 = .ok (.iastore, 1) := by decide +kernel
theorem dM_gateRow_333 : decode cM_gateRow 333 = .ok (.goto 14, 3) := by decide +kernel
theorem dM_gateRow_336 : decode cM_gateRow 336 = .ok (.aload_n 0, 1) := by decide +kernel
theorem dM_gateRow_337 : decode cM_gateRow 337 = .ok (.getfield 38, 3) := by decide +kernel
theorem dM_gateRow_340 : decode cM_gateRow 340 = .ok (.iload_n 1, 1) := by decide +kernel
theorem dM_gateRow_341 : decode cM_gateRow 341 = .ok (.dup2, 1) := by decide +kernel
theorem dM_gateRow_342 : decode cM_gateRow 342 = .ok (.iaload, 1) := by decide +kernel
theorem dM_gateRow_343 : decode cM_gateRow 343 = .ok (.iload 5, 2) := by decide +kernel
theorem dM_gateRow_345 : decode cM_gateRow 345 = .ok (.ixor, 1) := by decide +kernel
theorem dM_gateRow_346 : decode cM_gateRow 346 = .ok (.iastore, 1) := by decide +kernel
theorem dM_gateRow_347 : decode cM_gateRow 347 = .ok (.return_, 1) := by decide +kernel
theorem dM_swapBits_0 : decode cM_swapBits 0 = .ok (.aload_n 0, 1) := by decide +kernel
theorem dM_swapBits_1 : decode cM_swapBits 1 = .ok (.getfield 32, 3) := by decide +kernel
theorem dM_swapBits_4 : decode cM_swapBits 4 = .ok (.iload_n 1, 1) := by decide +kernel
theorem dM_swapBits_5 : decode cM_swapBits 5 = .ok (.iaload, 1) := by decide +kernel
theorem dM_swapBits_6 : decode cM_swapBits 6 = .ok (.iload_n 2, 1) := by decide +kernel
theorem dM_swapBits_7 : decode cM_swapBits 7 = .ok (.invokestatic 95, 3) := by decide +kernel
theorem dM_swapBits_10 : decode cM_swapBits 10 = .ok (.aload_n 0, 1) := by decide +kernel
theorem dM_swapBits_11 : decode cM_swapBits 11 = .ok (.getfield 32, 3) := by decide +kernel
theorem dM_swapBits_14 : decode cM_swapBits 14 = .ok (.iload_n 1, 1) := by decide +kernel
theorem dM_swapBits_15 : decode cM_swapBits 15 = .ok (.iaload, 1) := by decide +kernel
theorem dM_swapBits_16 : decode cM_swapBits 16 = .ok (.iload_n 3, 1) := by decide +kernel
theorem dM_swapBits_17 : decode cM_swapBits 17 = .ok (.invokestatic 95, 3) := by decide +kernel
theorem dM_swapBits_20 : decode cM_swapBits 20 = .ok (.ixor, 1) := by decide +kernel
theorem dM_swapBits_21 : decode cM_swapBits 21 = .ok (.istore 4, 2) := by decide +kernel
theorem dM_swapBits_23 : decode cM_swapBits 23 = .ok (.aload_n 0, 1) := by decide +kernel
theorem dM_swapBits_24 : decode cM_swapBits 24 = .ok (.getfield 35, 3) := by decide +kernel
theorem dM_swapBits_27 : decode cM_swapBits 27 = .ok (.iload_n 1, 1) := by decide +kernel
theorem dM_swapBits_28 : decode cM_swapBits 28 = .ok (.iaload, 1) := by decide +kernel
theorem dM_swapBits_29 : decode cM_swapBits 29 = .ok (.iload_n 2, 1) := by decide +kernel
theorem dM_swapBits_30 : decode cM_swapBits 30 = .ok (.invokestatic 95, 3) := by decide +kernel
theorem dM_swapBits_33 : decode cM_swapBits 33 = .ok (.aload_n 0, 1) := by decide +kernel
theorem dM_swapBits_34 : decode cM_swapBits 34 = .ok (.getfield 35, 3) := by decide +kernel
theorem dM_swapBits_37 : decode cM_swapBits 37 = .ok (.iload_n 1, 1) := by decide +kernel
theorem dM_swapBits_38 : decode cM_swapBits 38 = .ok (.iaload, 1) := by decide +kernel
theorem dM_swapBits_39 : decode cM_swapBits 39 = .ok (.iload_n 3, 1) := by decide +kernel
theorem dM_swapBits_40 : decode cM_swapBits 40 = .ok (.invokestatic 95, 3) := by decide +kernel
theorem dM_swapBits_43 : decode cM_swapBits 43 = .ok (.ixor, 1) := by decide +kernel
theorem dM_swapBits_44 : decode cM_swapBits 44 = .ok (.istore 5, 2) := by decide +kernel
theorem dM_swapBits_46 : decode cM_swapBits 46 = .ok (.aload_n 0, 1) := by decide +kernel
theorem dM_swapBits_47 : decode cM_swapBits 47 = .ok (.getfield 32, 3) := by decide +kernel
theorem dM_swapBits_50 : decode cM_swapBits 50 = .ok (.iload_n 1, 1) := by decide +kernel
theorem dM_swapBits_51 : decode cM_swapBits 51 = .ok (.dup2, 1) := by decide +kernel
theorem dM_swapBits_52 : decode cM_swapBits 52 = .ok (.iaload, 1) := by decide +kernel
theorem dM_swapBits_53 : decode cM_swapBits 53 = .ok (.iload 4, 2) := by decide +kernel
theorem dM_swapBits_55 : decode cM_swapBits 55 = .ok (.iload_n 2, 1) := by decide +kernel
theorem dM_swapBits_56 : decode cM_swapBits 56 = .ok (.ishl, 1) := by decide +kernel
theorem dM_swapBits_57 : decode cM_swapBits 57 = .ok (.iload 4, 2) := by decide +kernel
theorem dM_swapBits_59 : decode cM_swapBits 59 = .ok (.iload_n 3, 1) := by decide +kernel
theorem dM_swapBits_60 : decode cM_swapBits 60 = .ok (.ishl, 1) := by decide +kernel
theorem dM_swapBits_61 : decode cM_swapBits 61 = .ok (.ior, 1) := by decide +kernel
theorem dM_swapBits_62 : decode cM_swapBits 62 = .ok (.ixor, 1) := by decide +kernel
theorem dM_swapBits_63 : decode cM_swapBits 63 = .ok (.iastore, 1) := by decide +kernel
theorem dM_swapBits_64 : decode cM_swapBits 64 = .ok (.aload_n 0, 1) := by decide +kernel
theorem dM_swapBits_65 : decode cM_swapBits 65 = .ok (.getfield 35, 3) := by decide +kernel
theorem dM_swapBits_68 : decode cM_swapBits 68 = .ok (.iload_n 1, 1) := by decide +kernel
theorem dM_swapBits_69 : decode cM_swapBits 69 = .ok (.dup2, 1) := by decide +kernel
theorem dM_swapBits_70 : decode cM_swapBits 70 = .ok (.iaload, 1) := by decide +kernel
theorem dM_swapBits_71 : decode cM_swapBits 71 = .ok (.iload 5, 2) := by decide +kernel
theorem dM_swapBits_73 : decode cM_swapBits 73 = .ok (.iload_n 2, 1) := by decide +kernel
theorem dM_swapBits_74 : decode cM_swapBits 74 = .ok (.ishl, 1) := by decide +kernel
theorem dM_swapBits_75 : decode cM_swapBits 75 = .ok (.iload 5, 2) := by decide +kernel
theorem dM_swapBits_77 : decode cM_swapBits 77 = .ok (.iload_n 3, 1) := by decide +kernel
theorem dM_swapBits_78 : decode cM_swapBits 78 = .ok (.ishl, 1) := by decide +kernel
theorem dM_swapBits_79 : decode cM_swapBits 79 = .ok (.ior, 1) := by decide +kernel
theorem dM_swapBits_80 : decode cM_swapBits 80 = .ok (.ixor, 1) := by decide +kernel
theorem dM_swapBits_81 : decode cM_swapBits 81 = .ok (.iastore, 1) := by decide +kernel
theorem dM_swapBits_82 : decode cM_swapBits 82 = .ok (.return_, 1) := by decide +kernel
theorem dM_told_0 : decode cM_told 0 = .ok (.aload_n 0, 1) := by decide +kernel
theorem dM_told_1 : decode cM_told 1 = .ok (.iconst 0, 1) := by decide +kernel
theorem dM_told_2 : decode cM_told 2 = .ok (.putfield 64, 3) := by decide +kernel
theorem dM_told_5 : decode cM_told 5 = .ok (.iload_n 1, 1) := by decide +kernel
theorem dM_told_6 : decode cM_told 6 = .ok (.ifCond .lt 20, 3) := by decide +kernel
theorem dM_told_9 : decode cM_told 9 = .ok (.iload_n 1, 1) := by decide +kernel
theorem dM_told_10 : decode cM_told 10 = .ok (.aload_n 0, 1) := by decide +kernel
theorem dM_told_11 : decode cM_told 11 = .ok (.getfield 80, 3) := by decide +kernel
theorem dM_told_14 : decode cM_told 14 = .ok (.if_icmp .ge 12, 3) := by decide +kernel
theorem dM_told_17 : decode cM_told 17 = .ok (.iload_n 2, 1) := by decide +kernel
theorem dM_told_18 : decode cM_told 18 = .ok (.ifCond .lt 8, 3) := by decide +kernel
theorem dM_told_21 : decode cM_told 21 = .ok (.iload_n 2, 1) := by decide +kernel
theorem dM_told_22 : decode cM_told 22 = .ok (.iconst 2, 1) := by decide +kernel
theorem dM_told_23 : decode cM_told 23 = .ok (.if_icmp .le 7, 3) := by decide +kernel
theorem dM_told_26 : decode cM_told 26 = .ok (.ldc2_w 145, 3) := by decide +kernel
theorem dM_told_29 : decode cM_told 29 = .ok (.lreturn, 1) := by decide +kernel
theorem dM_told_30 : decode cM_told 30 = .ok (.aload_n 0, 1) := by decide +kernel
theorem dM_told_31 : decode cM_told 31 = .ok (.invokevirtual 147, 3) := by decide +kernel
theorem dM_told_34 : decode cM_told 34 = .ok (.iconst 0, 1) := by decide +kernel
theorem dM_told_35 : decode cM_told 35 = .ok (.istore_n 3, 1) := by decide +kernel
theorem dM_told_36 : decode cM_told 36 = .ok (.lconst 0, 1) := by decide +kernel
theorem dM_told_37 : decode cM_told 37 = .ok (.lstore 4, 2) := by decide +kernel
theorem dM_told_39 : decode cM_told 39 = .ok (.iconst 0, 1) := by decide +kernel
theorem dM_told_40 : decode cM_told 40 = .ok (.istore 6, 2) := by decide +kernel
theorem dM_told_42 : decode cM_told 42 = .ok (.iload 6, 2) := by decide +kernel
theorem dM_told_44 : decode cM_told 44 = .ok (.aload_n 0, 1) := by decide +kernel
theorem dM_told_45 : decode cM_told 45 = .ok (.getfield 74, 3) := by decide +kernel
theorem dM_told_48 : decode cM_told 48 = .ok (.if_icmp .ge 50, 3) := by decide +kernel
theorem dM_told_51 : decode cM_told 51 = .ok (.aload_n 0, 1) := by decide +kernel
theorem dM_told_52 : decode cM_told 52 = .ok (.getfield 28, 3) := by decide +kernel
theorem dM_told_55 : decode cM_told 55 = .ok (.iload_n 1, 1) := by decide +kernel
theorem dM_told_56 : decode cM_told 56 = .ok (.laload, 1) := by decide +kernel
theorem dM_told_57 : decode cM_told 57 = .ok (.iload 6, 2) := by decide +kernel
theorem dM_told_59 : decode cM_told 59 = .ok (.lshr, 1) := by decide +kernel
theorem dM_told_60 : decode cM_told 60 = .ok (.lconst 1, 1) := by decide +kernel
theorem dM_told_61 : decode cM_told 61 = .ok (.land, 1) := by decide +kernel
theorem dM_told_62 : decode cM_told 62 = .ok (.lconst 0, 1) := by decide +kernel
theorem dM_told_63 : decode cM_told 63 = .ok (.lcmp, 1) := by decide +kernel
theorem dM_told_64 : decode cM_told 64 = .ok (.ifCond .ne 6, 3) := by decide +kernel
theorem dM_told_67 : decode cM_told 67 = .ok (.goto 25, 3) := by decide +kernel
theorem dM_told_70 : decode cM_told 70 = .ok (.iload_n 3, 1) := by decide +kernel
theorem dM_told_71 : decode cM_told 71 = .ok (.aload_n 0, 1) := by decide +kernel
theorem dM_told_72 : decode cM_told 72 = .ok (.getfield 44, 3) := by decide +kernel
theorem dM_told_75 : decode cM_told 75 = .ok (.iload 6, 2) := by decide +kernel
theorem dM_told_77 : decode cM_told 77 = .ok (.iaload, 1) := by decide +kernel
theorem dM_told_78 : decode cM_told 78 = .ok (.ixor, 1) := by decide +kernel
theorem dM_told_79 : decode cM_told 79 = .ok (.istore_n 3, 1) := by decide +kernel
theorem dM_told_80 : decode cM_told 80 = .ok (.lload 4, 2) := by decide +kernel
theorem dM_told_82 : decode cM_told 82 = .ok (.aload_n 0, 1) := by decide +kernel
theorem dM_told_83 : decode cM_told 83 = .ok (.getfield 47, 3) := by decide +kernel
theorem dM_told_86 : decode cM_told 86 = .ok (.iload 6, 2) := by decide +kernel
theorem dM_told_88 : decode cM_told 88 = .ok (.laload, 1) := by decide +kernel
theorem dM_told_89 : decode cM_told 89 = .ok (.lxor, 1) := by decide +kernel
theorem dM_told_90 : decode cM_told 90 = .ok (.lstore 4, 2) := by decide +kernel
theorem dM_told_92 : decode cM_told 92 = .ok (.iinc 6 1, 3) := by decide +kernel
theorem dM_told_95 : decode cM_told 95 = .ok (.goto (-53), 3) := by decide +kernel
theorem dM_told_98 : decode cM_told 98 = .ok (.iload_n 2, 1) := by decide +kernel
theorem dM_told_99 : decode cM_told 99 = .ok (.ifCond .ne 18, 3) := by decide +kernel
theorem dM_told_102 : decode cM_told 102 = .ok (.lload 4, 2) := by decide +kernel
theorem dM_told_104 : decode cM_told 104 = .ok (.lconst 0, 1) := by decide +kernel
theorem dM_told_105 : decode cM_told 105 = .ok (.lcmp, 1) := by decide +kernel
theorem dM_told_106 : decode cM_told 106 = .ok (.ifCond .ne 7, 3) := by decide +kernel
theorem dM_told_109 : decode cM_told 109 = .ok (.lconst 1, 1) := by decide +kernel
theorem dM_told_110 : decode cM_told 110 = .ok (.goto 19, 3) := by decide +kernel
theorem dM_told_113 : decode cM_told 113 = .ok (.lconst 0, 1) := by decide +kernel
theorem dM_told_114 : decode cM_told 114 = .ok (.goto 15, 3) := by decide +kernel
theorem dM_told_117 : decode cM_told 117 = .ok (.iload_n 2, 1) := by decide +kernel
theorem dM_told_118 : decode cM_told 118 = .ok (.iconst 1, 1) := by decide +kernel
theorem dM_told_119 : decode cM_told 119 = .ok (.if_icmp .ne 8, 3) := by decide +kernel
theorem dM_told_122 : decode cM_told 122 = .ok (.iload_n 3, 1) := by decide +kernel
theorem dM_told_123 : decode cM_told 123 = .ok (.i2l, 1) := by decide +kernel
theorem dM_told_124 : decode cM_told 124 = .ok (.goto 5, 3) := by decide +kernel
theorem dM_told_127 : decode cM_told 127 = .ok (.lload 4, 2) := by decide +kernel
theorem dM_told_129 : decode cM_told 129 = .ok (.lreturn, 1) := by decide +kernel
theorem dM_changes_0 : decode cM_changes 0 = .ok (.aload_n 0, 1) := by decide +kernel
theorem dM_changes_1 : decode cM_changes 1 = .ok (.iconst 0, 1) := by decide +kernel
theorem dM_changes_2 : decode cM_changes 2 = .ok (.putfield 64, 3) := by decide +kernel
theorem dM_changes_5 : decode cM_changes 5 = .ok (.iload_n 1, 1) := by decide +kernel
theorem dM_changes_6 : decode cM_changes 6 = .ok (.ifCond .lt 20, 3) := by decide +kernel
theorem dM_changes_9 : decode cM_changes 9 = .ok (.iload_n 1, 1) := by decide +kernel
theorem dM_changes_10 : decode cM_changes 10 = .ok (.aload_n 0, 1) := by decide +kernel
theorem dM_changes_11 : decode cM_changes 11 = .ok (.getfield 77, 3) := by decide +kernel
theorem dM_changes_14 : decode cM_changes 14 = .ok (.if_icmp .ge 12, 3) := by decide +kernel
theorem dM_changes_17 : decode cM_changes 17 = .ok (.iload_n 2, 1) := by decide +kernel
theorem dM_changes_18 : decode cM_changes 18 = .ok (.ifCond .lt 8, 3) := by decide +kernel
theorem dM_changes_21 : decode cM_changes 21 = .ok (.iload_n 2, 1) := by decide +kernel
theorem dM_changes_22 : decode cM_changes 22 = .ok (.iconst 1, 1) := by decide +kernel
theorem dM_changes_23 : decode cM_changes 23 = .ok (.if_icmp .le 7, 3) := by decide +kernel
theorem dM_changes_26 : decode cM_changes 26 = .ok (.ldc2_w 145, 3) := by decide +kernel
theorem dM_changes_29 : decode cM_changes 29 = .ok (.lreturn, 1) := by decide +kernel
theorem dM_changes_30 : decode cM_changes 30 = .ok (.aload_n 0, 1) := by decide +kernel
theorem dM_changes_31 : decode cM_changes 31 = .ok (.iload_n 1, 1) := by decide +kernel
theorem dM_changes_32 : decode cM_changes 32 = .ok (.invokevirtual 166, 3) := by decide +kernel
theorem dM_changes_35 : decode cM_changes 35 = .ok (.lstore_n 3, 1) := by decide +kernel
theorem dM_changes_36 : decode cM_changes 36 = .ok (.iload_n 2, 1) := by decide +kernel
theorem dM_changes_37 : decode cM_changes 37 = .ok (.ifCond .ne 7, 3) := by decide +kernel
theorem dM_changes_40 : decode cM_changes 40 = .ok (.lload_n 3, 1) := by decide +kernel
theorem dM_changes_41 : decode cM_changes 41 = .ok (.goto 9, 3) := by decide +kernel
theorem dM_changes_44 : decode cM_changes 44 = .ok (.aload_n 0, 1) := by decide +kernel
theorem dM_changes_45 : decode cM_changes 45 = .ok (.lload_n 3, 1) := by decide +kernel
theorem dM_changes_46 : decode cM_changes 46 = .ok (.invokevirtual 170, 3) := by decide +kernel
theorem dM_changes_49 : decode cM_changes 49 = .ok (.i2l, 1) := by decide +kernel
theorem dM_changes_50 : decode cM_changes 50 = .ok (.lreturn, 1) := by decide +kernel
theorem dM_changedBy_0 : decode cM_changedBy 0 = .ok (.aload_n 0, 1) := by decide +kernel
theorem dM_changedBy_1 : decode cM_changedBy 1 = .ok (.getfield 13, 3) := by decide +kernel
theorem dM_changedBy_4 : decode cM_changedBy 4 = .ok (.aload_n 0, 1) := by decide +kernel
theorem dM_changedBy_5 : decode cM_changedBy 5 = .ok (.getfield 19, 3) := by decide +kernel
theorem dM_changedBy_8 : decode cM_changedBy 8 = .ok (.iload_n 1, 1) := by decide +kernel
theorem dM_changedBy_9 : decode cM_changedBy 9 = .ok (.iaload, 1) := by decide +kernel
theorem dM_changedBy_10 : decode cM_changedBy 10 = .ok (.iaload, 1) := by decide +kernel
theorem dM_changedBy_11 : decode cM_changedBy 11 = .ok (.istore_n 2, 1) := by decide +kernel
theorem dM_changedBy_12 : decode cM_changedBy 12 = .ok (.aload_n 0, 1) := by decide +kernel
theorem dM_changedBy_13 : decode cM_changedBy 13 = .ok (.aload_n 0, 1) := by decide +kernel
theorem dM_changedBy_14 : decode cM_changedBy 14 = .ok (.getfield 22, 3) := by decide +kernel
theorem dM_changedBy_17 : decode cM_changedBy 17 = .ok (.iload_n 1, 1) := by decide +kernel
theorem dM_changedBy_18 : decode cM_changedBy 18 = .ok (.iaload, 1) := by decide +kernel
theorem dM_changedBy_19 : decode cM_changedBy 19 = .ok (.iconst 2, 1) := by decide +kernel
theorem dM_changedBy_20 : decode cM_changedBy 20 = .ok (.if_icmp .ne 7, 3) := by decide +kernel
theorem dM_changedBy_23 : decode cM_changedBy 23 = .ok (.iconst 0, 1) := by decide +kernel
theorem dM_changedBy_24 : decode cM_changedBy 24 = .ok (.goto 6, 3) := by decide +kernel
theorem dM_changedBy_27 : decode cM_changedBy 27 = .ok (.iconst 1, 1) := by decide +kernel
theorem dM_changedBy_28 : decode cM_changedBy 28 = .ok (.iload_n 2, 1) := by decide +kernel
theorem dM_changedBy_29 : decode cM_changedBy 29 = .ok (.ishl, 1) := by decide +kernel
theorem dM_changedBy_30 : decode cM_changedBy 30 = .ok (.putfield 150, 3) := by decide +kernel
theorem dM_changedBy_33 : decode cM_changedBy 33 = .ok (.aload_n 0, 1) := by decide +kernel
theorem dM_changedBy_34 : decode cM_changedBy 34 = .ok (.aload_n 0, 1) := by decide +kernel
theorem dM_changedBy_35 : decode cM_changedBy 35 = .ok (.getfield 22, 3) := by decide +kernel
theorem dM_changedBy_38 : decode cM_changedBy 38 = .ok (.iload_n 1, 1) := by decide +kernel
theorem dM_changedBy_39 : decode cM_changedBy 39 = .ok (.iaload, 1) := by decide +kernel
theorem dM_changedBy_40 : decode cM_changedBy 40 = .ok (.ifCond .ne 7, 3) := by decide +kernel
theorem dM_changedBy_43 : decode cM_changedBy 43 = .ok (.iconst 0, 1) := by decide +kernel
theorem dM_changedBy_44 : decode cM_changedBy 44 = .ok (.goto 6, 3) := by decide +kernel
theorem dM_changedBy_47 : decode cM_changedBy 47 = .ok (.iconst 1, 1) := by decide +kernel
theorem dM_changedBy_48 : decode cM_changedBy 48 = .ok (.iload_n 2, 1) := by decide +kernel
theorem dM_changedBy_49 : decode cM_changedBy 49 = .ok (.ishl, 1) := by decide +kernel
theorem dM_changedBy_50 : decode cM_changedBy 50 = .ok (.putfield 153, 3) := by decide +kernel
theorem dM_changedBy_53 : decode cM_changedBy 53 = .ok (.aload_n 0, 1) := by decide +kernel
theorem dM_changedBy_54 : decode cM_changedBy 54 = .ok (.lconst 0, 1) := by decide +kernel
theorem dM_changedBy_55 : decode cM_changedBy 55 = .ok (.putfield 156, 3) := by decide +kernel
theorem dM_changedBy_58 : decode cM_changedBy 58 = .ok (.aload_n 0, 1) := by decide +kernel
theorem dM_changedBy_59 : decode cM_changedBy 59 = .ok (.getfield 19, 3) := by decide +kernel
theorem dM_changedBy_62 : decode cM_changedBy 62 = .ok (.iload_n 1, 1) := by decide +kernel
theorem dM_changedBy_63 : decode cM_changedBy 63 = .ok (.iaload, 1) := by decide +kernel
theorem dM_changedBy_64 : decode cM_changedBy 64 = .ok (.iconst 1, 1) := by decide +kernel
theorem dM_changedBy_65 : decode cM_changedBy 65 = .ok (.iadd, 1) := by decide +kernel
theorem dM_changedBy_66 : decode cM_changedBy 66 = .ok (.istore_n 3, 1) := by decide +kernel
theorem dM_changedBy_67 : decode cM_changedBy 67 = .ok (.iload_n 3, 1) := by decide +kernel
theorem dM_changedBy_68 : decode cM_changedBy 68 = .ok (.aload_n 0, 1) := by decide +kernel
theorem dM_changedBy_69 : decode cM_changedBy 69 = .ok (.getfield 71, 3) := by decide +kernel
theorem dM_changedBy_72 : decode cM_changedBy 72 = .ok (.if_icmp .ge 14, 3) := by decide +kernel
theorem dM_changedBy_75 : decode cM_changedBy 75 = .ok (.aload_n 0, 1) := by decide +kernel
theorem dM_changedBy_76 : decode cM_changedBy 76 = .ok (.iload_n 3, 1) := by decide +kernel
theorem dM_changedBy_77 : decode cM_changedBy 77 = .ok (.invokevirtual 159, 3) := by decide +kernel
theorem dM_changedBy_80 : decode cM_changedBy 80 = .ok (.iinc 3 1, 3) := by decide +kernel
theorem dM_changedBy_83 : decode cM_changedBy 83 = .ok (.goto (-16), 3) := by decide +kernel
theorem dM_changedBy_86 : decode cM_changedBy 86 = .ok (.aload_n 0, 1) := by decide +kernel
theorem dM_changedBy_87 : decode cM_changedBy 87 = .ok (.getfield 156, 3) := by decide +kernel
theorem dM_changedBy_90 : decode cM_changedBy 90 = .ok (.lreturn, 1) := by decide +kernel
theorem dM_goThrough_0 : decode cM_goThrough 0 = .ok (.aload_n 0, 1) := by decide +kernel
theorem dM_goThrough_1 : decode cM_goThrough 1 = .ok (.getfield 13, 3) := by decide +kernel
theorem dM_goThrough_4 : decode cM_goThrough 4 = .ok (.iload_n 1, 1) := by decide +kernel
theorem dM_goThrough_5 : decode cM_goThrough 5 = .ok (.iaload, 1) := by decide +kernel
theorem dM_goThrough_6 : decode cM_goThrough 6 = .ok (.istore_n 2, 1) := by decide +kernel
theorem dM_goThrough_7 : decode cM_goThrough 7 = .ok (.aload_n 0, 1) := by decide +kernel
theorem dM_goThrough_8 : decode cM_goThrough 8 = .ok (.getfield 16, 3) := by decide +kernel
theorem dM_goThrough_11 : decode cM_goThrough 11 = .ok (.iload_n 1, 1) := by decide +kernel
theorem dM_goThrough_12 : decode cM_goThrough 12 = .ok (.iaload, 1) := by decide +kernel
theorem dM_goThrough_13 : decode cM_goThrough 13 = .ok (.istore_n 3, 1) := by decide +kernel
theorem dM_goThrough_14 : decode cM_goThrough 14 = .ok (.aload_n 0, 1) := by decide +kernel
theorem dM_goThrough_15 : decode cM_goThrough 15 = .ok (.getfield 150, 3) := by decide +kernel
theorem dM_goThrough_18 : decode cM_goThrough 18 = .ok (.iload_n 2, 1) := by decide +kernel
theorem dM_goThrough_19 : decode cM_goThrough 19 = .ok (.invokestatic 95, 3) := by decide +kernel
theorem dM_goThrough_22 : decode cM_goThrough 22 = .ok (.istore 4, 2) := by decide +kernel
theorem dM_goThrough_24 : decode cM_goThrough 24 = .ok (.aload_n 0, 1) := by decide +kernel
theorem dM_goThrough_25 : decode cM_goThrough 25 = .ok (.getfield 153, 3) := by decide +kernel
theorem dM_goThrough_28 : decode cM_goThrough 28 = .ok (.iload_n 2, 1) := by decide +kernel
theorem dM_goThrough_29 : decode cM_goThrough 29 = .ok (.invokestatic 95, 3) := by decide +kernel
theorem dM_goThrough_32 : decode cM_goThrough 32 = .ok (.istore 5, 2) := by decide +kernel
theorem dM_goThrough_34 : decode cM_goThrough 34 = .ok (.aload_n 0, 1) := by decide +kernel
theorem dM_goThrough_35 : decode cM_goThrough 35 = .ok (.getfield 7, 3) := by decide +kernel
theorem dM_goThrough_38 : decode cM_goThrough 38 = .ok (.iload_n 1, 1) := by decide +kernel
theorem dM_goThrough_39 : decode cM_goThrough 39 = .ok (.iaload, 1) := by decide +kernel
theorem dM_goThrough_40 : decode cM_goThrough 40 = .ok (.tableswitch 290 0 8 #[52, 87, 103, 138, 165, 290, 290, 230, 230], 52) := by decide +kernel
theorem dM_goThrough_92 : decode cM_goThrough 92 = .ok (.aload_n 0, 1) := by decide +kernel
theorem dM_goThrough_93 : decode cM_goThrough 93 = .ok (.dup, 1) := by decide +kernel
theorem dM_goThrough_94 : decode cM_goThrough 94 = .ok (.getfield 150, 3) := by decide +kernel
theorem dM_goThrough_97 : decode cM_goThrough 97 = .ok (.iload 4, 2) := by decide +kernel
theorem dM_goThrough_99 : decode cM_goThrough 99 = .ok (.iload 5, 2) := by decide +kernel
theorem dM_goThrough_101 : decode cM_goThrough 101 = .ok (.ixor, 1) := by decide +kernel
theorem dM_goThrough_102 : decode cM_goThrough 102 = .ok (.iload_n 2, 1) := by decide +kernel
theorem dM_goThrough_103 : decode cM_goThrough 103 = .ok (.ishl, 1) := by decide +kernel
theorem dM_goThrough_104 : decode cM_goThrough 104 = .ok (.ixor, 1) := by decide +kernel
theorem dM_goThrough_105 : decode cM_goThrough 105 = .ok (.putfield 150, 3) := by decide +kernel
theorem dM_goThrough_108 : decode cM_goThrough 108 = .ok (.aload_n 0, 1) := by decide +kernel
theorem dM_goThrough_109 : decode cM_goThrough 109 = .ok (.dup, 1) := by decide +kernel
theorem dM_goThrough_110 : decode cM_goThrough 110 = .ok (.getfield 153, 3) := by decide +kernel
theorem dM_goThrough_113 : decode cM_goThrough 113 = .ok (.iload 4, 2) := by decide +kernel
theorem dM_goThrough_115 : decode cM_goThrough 115 = .ok (.iload 5, 2) := by decide +kernel
theorem dM_goThrough_117 : decode cM_goThrough 117 = .ok (.ixor, 1) := by decide +kernel
theorem dM_goThrough_118 : decode cM_goThrough 118 = .ok (.iload_n 2, 1) := by decide +kernel
theorem dM_goThrough_119 : decode cM_goThrough 119 = .ok (.ishl, 1) := by decide +kernel
theorem dM_goThrough_120 : decode cM_goThrough 120 = .ok (.ixor, 1) := by decide +kernel
theorem dM_goThrough_121 : decode cM_goThrough 121 = .ok (.putfield 153, 3) := by decide +kernel
theorem dM_goThrough_124 : decode cM_goThrough 124 = .ok (.goto 206, 3) := by decide +kernel
theorem dM_goThrough_127 : decode cM_goThrough 127 = .ok (.aload_n 0, 1) := by decide +kernel
theorem dM_goThrough_128 : decode cM_goThrough 128 = .ok (.dup, 1) := by decide +kernel
theorem dM_goThrough_129 : decode cM_goThrough 129 = .ok (.getfield 153, 3) := by decide +kernel
theorem dM_goThrough_132 : decode cM_goThrough 132 = .ok (.iload 4, 2) := by decide +kernel
theorem dM_goThrough_134 : decode cM_goThrough 134 = .ok (.iload_n 2, 1) := by decide +kernel
theorem dM_goThrough_135 : decode cM_goThrough 135 = .ok (.ishl, 1) := by decide +kernel
theorem dM_goThrough_136 : decode cM_goThrough 136 = .ok (.ixor, 1) := by decide +kernel
theorem dM_goThrough_137 : decode cM_goThrough 137 = .ok (.putfield 153, 3) := by decide +kernel
theorem dM_goThrough_140 : decode cM_goThrough 140 = .ok (.goto 190, 3) := by decide +kernel
theorem dM_goThrough_143 : decode cM_goThrough 143 = .ok (.aload_n 0, 1) := by decide +kernel
theorem dM_goThrough_144 : decode cM_goThrough 144 = .ok (.dup, 1) := by decide +kernel
theorem dM_goThrough_145 : decode cM_goThrough 145 = .ok (.getfield 150, 3) := by decide +kernel
theorem dM_goThrough_148 : decode cM_goThrough 148 = .ok (.iload 4, 2) := by decide +kernel
theorem dM_goThrough_150 : decode cM_goThrough 150 = .ok (.iload_n 3, 1) := by decide +kernel
theorem dM_goThrough_151 : decode cM_goThrough 151 = .ok (.ishl, 1) := by decide +kernel
theorem dM_goThrough_152 : decode cM_goThrough 152 = .ok (.ixor, 1) := by decide +kernel
theorem dM_goThrough_153 : decode cM_goThrough 153 = .ok (.putfield 150, 3) := by decide +kernel
theorem dM_goThrough_156 : decode cM_goThrough 156 = .ok (.aload_n 0, 1) := by decide +kernel
theorem dM_goThrough_157 : decode cM_goThrough 157 = .ok (.dup, 1) := by decide +kernel
theorem dM_goThrough_158 : decode cM_goThrough 158 = .ok (.getfield 153, 3) := by decide +kernel
theorem dM_goThrough_161 : decode cM_goThrough 161 = .ok (.aload_n 0, 1) := by decide +kernel
theorem dM_goThrough_162 : decode cM_goThrough 162 = .ok (.getfield 153, 3) := by decide +kernel
theorem dM_goThrough_165 : decode cM_goThrough 165 = .ok (.iload_n 3, 1) := by decide +kernel
theorem dM_goThrough_166 : decode cM_goThrough 166 = .ok (.invokestatic 95, 3) := by decide +kernel
theorem dM_goThrough_169 : decode cM_goThrough 169 = .ok (.iload_n 2, 1) := by decide +kernel
theorem dM_goThrough_170 : decode cM_goThrough 170 = .ok (.ishl, 1) := by decide +kernel
theorem dM_goThrough_171 : decode cM_goThrough 171 = .ok (.ixor, 1) := by decide +kernel
theorem dM_goThrough_172 : decode cM_goThrough 172 = .ok (.putfield 153, 3) := by decide +kernel
theorem dM_goThrough_175 : decode cM_goThrough 175 = .ok (.goto 155, 3) := by decide +kernel
theorem dM_goThrough_178 : decode cM_goThrough 178 = .ok (.aload_n 0, 1) := by decide +kernel
theorem dM_goThrough_179 : decode cM_goThrough 179 = .ok (.dup, 1) := by decide +kernel
theorem dM_goThrough_180 : decode cM_goThrough 180 = .ok (.getfield 153, 3) := by decide +kernel
theorem dM_goThrough_183 : decode cM_goThrough 183 = .ok (.aload_n 0, 1) := by decide +kernel
theorem dM_goThrough_184 : decode cM_goThrough 184 = .ok (.getfield 150, 3) := by decide +kernel
theorem dM_goThrough_187 : decode cM_goThrough 187 = .ok (.iload_n 3, 1) := by decide +kernel
theorem dM_goThrough_188 : decode cM_goThrough 188 = .ok (.invokestatic 95, 3) := by decide +kernel
theorem dM_goThrough_191 : decode cM_goThrough 191 = .ok (.iload_n 2, 1) := by decide +kernel
theorem dM_goThrough_192 : decode cM_goThrough 192 = .ok (.ishl, 1) := by decide +kernel
theorem dM_goThrough_193 : decode cM_goThrough 193 = .ok (.iload 4, 2) := by decide +kernel
theorem dM_goThrough_195 : decode cM_goThrough 195 = .ok (.iload_n 3, 1) := by decide +kernel
theorem dM_goThrough_196 : decode cM_goThrough 196 = .ok (.ishl, 1) := by decide +kernel
theorem dM_goThrough_197 : decode cM_goThrough 197 = .ok (.ior, 1) := by decide +kernel
theorem dM_goThrough_198 : decode cM_goThrough 198 = .ok (.ixor, 1) := by decide +kernel
theorem dM_goThrough_199 : decode cM_goThrough 199 = .ok (.putfield 153, 3) := by decide +kernel
theorem dM_goThrough_202 : decode cM_goThrough 202 = .ok (.goto 128, 3) := by decide +kernel
theorem dM_goThrough_205 : decode cM_goThrough 205 = .ok (.iload 4, 2) := by decide +kernel
theorem dM_goThrough_207 : decode cM_goThrough 207 = .ok (.aload_n 0, 1) := by decide +kernel
theorem dM_goThrough_208 : decode cM_goThrough 208 = .ok (.getfield 150, 3) := by decide +kernel
theorem dM_goThrough_211 : decode cM_goThrough 211 = .ok (.iload_n 3, 1) := by decide +kernel
theorem dM_goThrough_212 : decode cM_goThrough 212 = .ok (.invokestatic 95, 3) := by decide +kernel
theorem dM_goThrough_215 : decode cM_goThrough 215 = .ok (.ixor, 1) := by decide +kernel
theorem dM_goThrough_216 : decode cM_goThrough 216 = .ok (.istore 4, 2) := by decide +kernel
theorem dM_goThrough_218 : decode cM_goThrough 218 = .ok (.iload 5, 2) := by decide +kernel
theorem dM_goThrough_220 : decode cM_goThrough 220 = .ok (.aload_n 0, 1) := by decide +kernel
theorem dM_goThrough_221 : decode cM_goThrough 221 = .ok (.getfield 153, 3) := by decide +kernel
theorem dM_goThrough_224 : decode cM_goThrough 224 = .ok (.iload_n 3, 1) := by decide +kernel
theorem dM_goThrough_225 : decode cM_goThrough 225 = .ok (.invokestatic 95, 3) := by decide +kernel
theorem dM_goThrough_228 : decode cM_goThrough 228 = .ok (.ixor, 1) := by decide +kernel
theorem dM_goThrough_229 : decode cM_goThrough 229 = .ok (.istore 5, 2) := by decide +kernel
theorem dM_goThrough_231 : decode cM_goThrough 231 = .ok (.aload_n 0, 1) := by decide +kernel
theorem dM_goThrough_232 : decode cM_goThrough 232 = .ok (.dup, 1) := by decide +kernel
theorem dM_goThrough_233 : decode cM_goThrough 233 = .ok (.getfield 150, 3) := by decide +kernel
theorem dM_goThrough_236 : decode cM_goThrough 236 = .ok (.iload 4, 2) := by decide +kernel
theorem dM_goThrough_238 : decode cM_goThrough 238 = .ok (.iload_n 2, 1) := by decide +kernel
theorem dM_goThrough_239 : decode cM_goThrough 239 = .ok (.ishl, 1) := by decide +kernel
theorem dM_goThrough_240 : decode cM_goThrough 240 = .ok (.iload 4, 2) := by decide +kernel
theorem dM_goThrough_242 : decode cM_goThrough 242 = .ok (.iload_n 3, 1) := by decide +kernel
theorem dM_goThrough_243 : decode cM_goThrough 243 = .ok (.ishl, 1) := by decide +kernel
theorem dM_goThrough_244 : decode cM_goThrough 244 = .ok (.ior, 1) := by decide +kernel
theorem dM_goThrough_245 : decode cM_goThrough 245 = .ok (.ixor, 1) := by decide +kernel
theorem dM_goThrough_246 : decode cM_goThrough 246 = .ok (.putfield 150, 3) := by decide +kernel
theorem dM_goThrough_249 : decode cM_goThrough 249 = .ok (.aload_n 0, 1) := by decide +kernel
theorem dM_goThrough_250 : decode cM_goThrough 250 = .ok (.dup, 1) := by decide +kernel
theorem dM_goThrough_251 : decode cM_goThrough 251 = .ok (.getfield 153, 3) := by decide +kernel
theorem dM_goThrough_254 : decode cM_goThrough 254 = .ok (.iload 5, 2) := by decide +kernel
theorem dM_goThrough_256 : decode cM_goThrough 256 = .ok (.iload_n 2, 1) := by decide +kernel
theorem dM_goThrough_257 : decode cM_goThrough 257 = .ok (.ishl, 1) := by decide +kernel
theorem dM_goThrough_258 : decode cM_goThrough 258 = .ok (.iload 5, 2) := by decide +kernel
theorem dM_goThrough_260 : decode cM_goThrough 260 = .ok (.iload_n 3, 1) := by decide +kernel
theorem dM_goThrough_261 : decode cM_goThrough 261 = .ok (.ishl, 1) := by decide +kernel
theorem dM_goThrough_262 : decode cM_goThrough 262 = .ok (.ior, 1) := by decide +kernel
theorem dM_goThrough_263 : decode cM_goThrough 263 = .ok (.ixor, 1) := by decide +kernel
theorem dM_goThrough_264 : decode cM_goThrough 264 = .ok (.putfield 153, 3) := by decide +kernel
theorem dM_goThrough_267 : decode cM_goThrough 267 = .ok (.goto 63, 3) := by decide +kernel
theorem dM_goThrough_270 : decode cM_goThrough 270 = .ok (.iload 4, 2) := by decide +kernel
theorem dM_goThrough_272 : decode cM_goThrough 272 = .ok (.iconst 1, 1) := by decide +kernel
theorem dM_goThrough_273 : decode cM_goThrough 273 = .ok (.if_icmp .ne 15, 3) := by decide +kernel
theorem dM_goThrough_276 : decode cM_goThrough 276 = .ok (.aload_n 0, 1) := by decide +kernel
theorem dM_goThrough_277 : decode cM_goThrough 277 = .ok (.dup, 1) := by decide +kernel
theorem dM_goThrough_278 : decode cM_goThrough 278 = .ok (.getfield 156, 3) := by decide +kernel
theorem dM_goThrough_281 : decode cM_goThrough 281 = .ok (.lconst 1, 1) := by decide +kernel
theorem dM_goThrough_282 : decode cM_goThrough 282 = .ok (.iload_n 3, 1) := by decide +kernel
theorem dM_goThrough_283 : decode cM_goThrough 283 = .ok (.lshl, 1) := by decide +kernel
theorem dM_goThrough_284 : decode cM_goThrough 284 = .ok (.lor, 1) := by decide +kernel
theorem dM_goThrough_285 : decode cM_goThrough 285 = .ok (.putfield 156, 3) := by decide +kernel
theorem dM_goThrough_288 : decode cM_goThrough 288 = .ok (.aload_n 0, 1) := by decide +kernel
theorem dM_goThrough_289 : decode cM_goThrough 289 = .ok (.dup, 1) := by decide +kernel
theorem dM_goThrough_290 : decode cM_goThrough 290 = .ok (.getfield 153, 3) := by decide +kernel
theorem dM_goThrough_293 : decode cM_goThrough 293 = .ok (.iconst 1, 1) := by decide +kernel
theorem dM_goThrough_294 : decode cM_goThrough 294 = .ok (.iload_n 2, 1) := by decide +kernel
theorem dM_goThrough_295 : decode cM_goThrough 295 = .ok (.ishl, 1) := by decide +kernel
theorem dM_goThrough_296 : decode cM_goThrough 296 = .ok (.iconst (-1), 1) := by decide +kernel
theorem dM_goThrough_297 : decode cM_goThrough 297 = .ok (.ixor, 1) := by decide +kernel
theorem dM_goThrough_298 : decode cM_goThrough 298 = .ok (.iand, 1) := by decide +kernel
theorem dM_goThrough_299 : decode cM_goThrough 299 = .ok (.putfield 153, 3) := by decide +kernel
theorem dM_goThrough_302 : decode cM_goThrough 302 = .ok (.aload_n 0, 1) := by decide +kernel
theorem dM_goThrough_303 : decode cM_goThrough 303 = .ok (.getfield 7, 3) := by decide +kernel
theorem dM_goThrough_306 : decode cM_goThrough 306 = .ok (.iload_n 1, 1) := by decide +kernel
theorem dM_goThrough_307 : decode cM_goThrough 307 = .ok (.iaload, 1) := by decide +kernel
theorem dM_goThrough_308 : decode cM_goThrough 308 = .ok (.bipush 8, 2) := by decide +kernel
theorem dM_goThrough_310 : decode cM_goThrough 310 = .ok (.if_icmp .ne 20, 3) := by decide +kernel
theorem dM_goThrough_313 : decode cM_goThrough 313 = .ok (.aload_n 0, 1) := by decide +kernel
theorem dM_goThrough_314 : decode cM_goThrough 314 = .ok (.dup, 1) := by decide +kernel
theorem dM_goThrough_315 : decode cM_goThrough 315 = .ok (.getfield 150, 3) := by decide +kernel
theorem dM_goThrough_318 : decode cM_goThrough 318 = .ok (.iconst 1, 1) := by decide +kernel
theorem dM_goThrough_319 : decode cM_goThrough 319 = .ok (.iload_n 2, 1) := by decide +kernel
theorem dM_goThrough_320 : decode cM_goThrough 320 = .ok (.ishl, 1) := by decide +kernel
theorem dM_goThrough_321 : decode cM_goThrough 321 = .ok (.iconst (-1), 1) := by decide +kernel
theorem dM_goThrough_322 : decode cM_goThrough 322 = .ok (.ixor, 1) := by decide +kernel
theorem dM_goThrough_323 : decode cM_goThrough 323 = .ok (.iand, 1) := by decide +kernel
theorem dM_goThrough_324 : decode cM_goThrough 324 = .ok (.putfield 150, 3) := by decide +kernel
theorem dM_goThrough_327 : decode cM_goThrough 327 = .ok (.goto 3, 3) := by decide +kernel
theorem dM_goThrough_330 : decode cM_goThrough 330 = .ok (.return_, 1) := by decide +kernel
theorem dM_checksOf_0 : decode cM_checksOf 0 = .ok (.iconst 0, 1) := by decide +kernel
theorem dM_checksOf_1 : decode cM_checksOf 1 = .ok (.istore_n 3, 1) := by decide +kernel
theorem dM_checksOf_2 : decode cM_checksOf 2 = .ok (.iconst 0, 1) := by decide +kernel
theorem dM_checksOf_3 : decode cM_checksOf 3 = .ok (.istore 4, 2) := by decide +kernel
theorem dM_checksOf_5 : decode cM_checksOf 5 = .ok (.iload 4, 2) := by decide +kernel
theorem dM_checksOf_7 : decode cM_checksOf 7 = .ok (.aload_n 0, 1) := by decide +kernel
theorem dM_checksOf_8 : decode cM_checksOf 8 = .ok (.getfield 80, 3) := by decide +kernel
theorem dM_checksOf_11 : decode cM_checksOf 11 = .ok (.if_icmp .ge 27, 3) := by decide +kernel
theorem dM_checksOf_14 : decode cM_checksOf 14 = .ok (.iload_n 3, 1) := by decide +kernel
theorem dM_checksOf_15 : decode cM_checksOf 15 = .ok (.lload_n 1, 1) := by decide +kernel
theorem dM_checksOf_16 : decode cM_checksOf 16 = .ok (.aload_n 0, 1) := by decide +kernel
theorem dM_checksOf_17 : decode cM_checksOf 17 = .ok (.getfield 28, 3) := by decide +kernel
theorem dM_checksOf_20 : decode cM_checksOf 20 = .ok (.iload 4, 2) := by decide +kernel
theorem dM_checksOf_22 : decode cM_checksOf 22 = .ok (.laload, 1) := by decide +kernel
theorem dM_checksOf_23 : decode cM_checksOf 23 = .ok (.land, 1) := by decide +kernel
theorem dM_checksOf_24 : decode cM_checksOf 24 = .ok (.invokestatic 162, 3) := by decide +kernel
theorem dM_checksOf_27 : decode cM_checksOf 27 = .ok (.iload 4, 2) := by decide +kernel
theorem dM_checksOf_29 : decode cM_checksOf 29 = .ok (.ishl, 1) := by decide +kernel
theorem dM_checksOf_30 : decode cM_checksOf 30 = .ok (.ior, 1) := by decide +kernel
theorem dM_checksOf_31 : decode cM_checksOf 31 = .ok (.istore_n 3, 1) := by decide +kernel
theorem dM_checksOf_32 : decode cM_checksOf 32 = .ok (.iinc 4 1, 3) := by decide +kernel
theorem dM_checksOf_35 : decode cM_checksOf 35 = .ok (.goto (-30), 3) := by decide +kernel
theorem dM_checksOf_38 : decode cM_checksOf 38 = .ok (.iload_n 3, 1) := by decide +kernel
theorem dM_checksOf_39 : decode cM_checksOf 39 = .ok (.ireturn, 1) := by decide +kernel
theorem dM_parity_0 : decode cM_parity 0 = .ok (.lload_n 0, 1) := by decide +kernel
theorem dM_parity_1 : decode cM_parity 1 = .ok (.lstore_n 2, 1) := by decide +kernel
theorem dM_parity_2 : decode cM_parity 2 = .ok (.iconst 0, 1) := by decide +kernel
theorem dM_parity_3 : decode cM_parity 3 = .ok (.istore 4, 2) := by decide +kernel
theorem dM_parity_5 : decode cM_parity 5 = .ok (.lload_n 2, 1) := by decide +kernel
theorem dM_parity_6 : decode cM_parity 6 = .ok (.lconst 0, 1) := by decide +kernel
theorem dM_parity_7 : decode cM_parity 7 = .ok (.lcmp, 1) := by decide +kernel
theorem dM_parity_8 : decode cM_parity 8 = .ok (.ifCond .eq 19, 3) := by decide +kernel
theorem dM_parity_11 : decode cM_parity 11 = .ok (.iload 4, 2) := by decide +kernel
theorem dM_parity_13 : decode cM_parity 13 = .ok (.lload_n 2, 1) := by decide +kernel
theorem dM_parity_14 : decode cM_parity 14 = .ok (.lconst 1, 1) := by decide +kernel
theorem dM_parity_15 : decode cM_parity 15 = .ok (.land, 1) := by decide +kernel
theorem dM_parity_16 : decode cM_parity 16 = .ok (.l2i, 1) := by decide +kernel
theorem dM_parity_17 : decode cM_parity 17 = .ok (.ixor, 1) := by decide +kernel
theorem dM_parity_18 : decode cM_parity 18 = .ok (.istore 4, 2) := by decide +kernel
theorem dM_parity_20 : decode cM_parity 20 = .ok (.lload_n 2, 1) := by decide +kernel
theorem dM_parity_21 : decode cM_parity 21 = .ok (.iconst 1, 1) := by decide +kernel
theorem dM_parity_22 : decode cM_parity 22 = .ok (.lushr, 1) := by decide +kernel
theorem dM_parity_23 : decode cM_parity 23 = .ok (.lstore_n 2, 1) := by decide +kernel
theorem dM_parity_24 : decode cM_parity 24 = .ok (.goto (-19), 3) := by decide +kernel
theorem dM_parity_27 : decode cM_parity 27 = .ok (.iload 4, 2) := by decide +kernel
theorem dM_parity_29 : decode cM_parity 29 = .ok (.ireturn, 1) := by decide +kernel
theorem dM_edge_0 : decode cM_edge 0 = .ok (.aload_n 0, 1) := by decide +kernel
theorem dM_edge_1 : decode cM_edge 1 = .ok (.iconst 0, 1) := by decide +kernel
theorem dM_edge_2 : decode cM_edge 2 = .ok (.putfield 64, 3) := by decide +kernel
theorem dM_edge_5 : decode cM_edge 5 = .ok (.aload_n 0, 1) := by decide +kernel
theorem dM_edge_6 : decode cM_edge 6 = .ok (.invokevirtual 180, 3) := by decide +kernel
theorem dM_edge_9 : decode cM_edge 9 = .ok (.iload_n 1, 1) := by decide +kernel
theorem dM_edge_10 : decode cM_edge 10 = .ok (.ifCond .lt 20, 3) := by decide +kernel
theorem dM_edge_13 : decode cM_edge 13 = .ok (.iload_n 1, 1) := by decide +kernel
theorem dM_edge_14 : decode cM_edge 14 = .ok (.aload_n 0, 1) := by decide +kernel
theorem dM_edge_15 : decode cM_edge 15 = .ok (.getfield 173, 3) := by decide +kernel
theorem dM_edge_18 : decode cM_edge 18 = .ok (.if_icmp .ge 12, 3) := by decide +kernel
theorem dM_edge_21 : decode cM_edge 21 = .ok (.iload_n 2, 1) := by decide +kernel
theorem dM_edge_22 : decode cM_edge 22 = .ok (.ifCond .lt 8, 3) := by decide +kernel
theorem dM_edge_25 : decode cM_edge 25 = .ok (.iload_n 2, 1) := by decide +kernel
theorem dM_edge_26 : decode cM_edge 26 = .ok (.iconst 3, 1) := by decide +kernel
theorem dM_edge_27 : decode cM_edge 27 = .ok (.if_icmp .le 7, 3) := by decide +kernel
theorem dM_edge_30 : decode cM_edge 30 = .ok (.ldc2_w 145, 3) := by decide +kernel
theorem dM_edge_33 : decode cM_edge 33 = .ok (.lreturn, 1) := by decide +kernel
theorem dM_edge_34 : decode cM_edge 34 = .ok (.iload_n 2, 1) := by decide +kernel
theorem dM_edge_35 : decode cM_edge 35 = .ok (.ifCond .ne 11, 3) := by decide +kernel
theorem dM_edge_38 : decode cM_edge 38 = .ok (.aload_n 0, 1) := by decide +kernel
theorem dM_edge_39 : decode cM_edge 39 = .ok (.getfield 54, 3) := by decide +kernel
theorem dM_edge_42 : decode cM_edge 42 = .ok (.iload_n 1, 1) := by decide +kernel
theorem dM_edge_43 : decode cM_edge 43 = .ok (.iaload, 1) := by decide +kernel
theorem dM_edge_44 : decode cM_edge 44 = .ok (.i2l, 1) := by decide +kernel
theorem dM_edge_45 : decode cM_edge 45 = .ok (.lreturn, 1) := by decide +kernel
theorem dM_edge_46 : decode cM_edge 46 = .ok (.iload_n 2, 1) := by decide +kernel
theorem dM_edge_47 : decode cM_edge 47 = .ok (.iconst 1, 1) := by decide +kernel
theorem dM_edge_48 : decode cM_edge 48 = .ok (.if_icmp .ne 10, 3) := by decide +kernel
theorem dM_edge_51 : decode cM_edge 51 = .ok (.aload_n 0, 1) := by decide +kernel
theorem dM_edge_52 : decode cM_edge 52 = .ok (.getfield 57, 3) := by decide +kernel
theorem dM_edge_55 : decode cM_edge 55 = .ok (.iload_n 1, 1) := by decide +kernel
theorem dM_edge_56 : decode cM_edge 56 = .ok (.laload, 1) := by decide +kernel
theorem dM_edge_57 : decode cM_edge 57 = .ok (.lreturn, 1) := by decide +kernel
theorem dM_edge_58 : decode cM_edge 58 = .ok (.iconst 0, 1) := by decide +kernel
theorem dM_edge_59 : decode cM_edge 59 = .ok (.istore_n 3, 1) := by decide +kernel
theorem dM_edge_60 : decode cM_edge 60 = .ok (.iconst 0, 1) := by decide +kernel
theorem dM_edge_61 : decode cM_edge 61 = .ok (.istore 4, 2) := by decide +kernel
theorem dM_edge_63 : decode cM_edge 63 = .ok (.iload 4, 2) := by decide +kernel
theorem dM_edge_65 : decode cM_edge 65 = .ok (.aload_n 0, 1) := by decide +kernel
theorem dM_edge_66 : decode cM_edge 66 = .ok (.getfield 77, 3) := by decide +kernel
theorem dM_edge_69 : decode cM_edge 69 = .ok (.if_icmp .ge 24, 3) := by decide +kernel
theorem dM_edge_72 : decode cM_edge 72 = .ok (.iload_n 3, 1) := by decide +kernel
theorem dM_edge_73 : decode cM_edge 73 = .ok (.aload_n 0, 1) := by decide +kernel
theorem dM_edge_74 : decode cM_edge 74 = .ok (.getfield 57, 3) := by decide +kernel
theorem dM_edge_77 : decode cM_edge 77 = .ok (.iload_n 1, 1) := by decide +kernel
theorem dM_edge_78 : decode cM_edge 78 = .ok (.laload, 1) := by decide +kernel
theorem dM_edge_79 : decode cM_edge 79 = .ok (.iload 4, 2) := by decide +kernel
theorem dM_edge_81 : decode cM_edge 81 = .ok (.lshr, 1) := by decide +kernel
theorem dM_edge_82 : decode cM_edge 82 = .ok (.lconst 1, 1) := by decide +kernel
theorem dM_edge_83 : decode cM_edge 83 = .ok (.land, 1) := by decide +kernel
theorem dM_edge_84 : decode cM_edge 84 = .ok (.l2i, 1) := by decide +kernel
theorem dM_edge_85 : decode cM_edge 85 = .ok (.iadd, 1) := by decide +kernel
theorem dM_edge_86 : decode cM_edge 86 = .ok (.istore_n 3, 1) := by decide +kernel
theorem dM_edge_87 : decode cM_edge 87 = .ok (.iinc 4 1, 3) := by decide +kernel
theorem dM_edge_90 : decode cM_edge 90 = .ok (.goto (-27), 3) := by decide +kernel
theorem dM_edge_93 : decode cM_edge 93 = .ok (.iload_n 3, 1) := by decide +kernel
theorem dM_edge_94 : decode cM_edge 94 = .ok (.bipush 15, 2) := by decide +kernel
theorem dM_edge_96 : decode cM_edge 96 = .ok (.if_icmp .le 10, 3) := by decide +kernel
theorem dM_edge_99 : decode cM_edge 99 = .ok (.aload_n 0, 1) := by decide +kernel
theorem dM_edge_100 : decode cM_edge 100 = .ok (.iconst 1, 1) := by decide +kernel
theorem dM_edge_101 : decode cM_edge 101 = .ok (.putfield 64, 3) := by decide +kernel
theorem dM_edge_104 : decode cM_edge 104 = .ok (.lconst 0, 1) := by decide +kernel
theorem dM_edge_105 : decode cM_edge 105 = .ok (.lreturn, 1) := by decide +kernel
theorem dM_edge_106 : decode cM_edge 106 = .ok (.aload_n 0, 1) := by decide +kernel
theorem dM_edge_107 : decode cM_edge 107 = .ok (.iload_n 1, 1) := by decide +kernel
theorem dM_edge_108 : decode cM_edge 108 = .ok (.iload_n 2, 1) := by decide +kernel
theorem dM_edge_109 : decode cM_edge 109 = .ok (.iconst 3, 1) := by decide +kernel
theorem dM_edge_110 : decode cM_edge 110 = .ok (.if_icmp .ne 7, 3) := by decide +kernel
theorem dM_edge_113 : decode cM_edge 113 = .ok (.iconst 1, 1) := by decide +kernel
theorem dM_edge_114 : decode cM_edge 114 = .ok (.goto 4, 3) := by decide +kernel
theorem dM_edge_117 : decode cM_edge 117 = .ok (.iconst 0, 1) := by decide +kernel
theorem dM_edge_118 : decode cM_edge 118 = .ok (.invokevirtual 183, 3) := by decide +kernel
theorem dM_edge_121 : decode cM_edge 121 = .ok (.lreturn, 1) := by decide +kernel
theorem dM_findEdges_0 : decode cM_findEdges 0 = .ok (.aload_n 0, 1) := by decide +kernel
theorem dM_findEdges_1 : decode cM_findEdges 1 = .ok (.iconst 0, 1) := by decide +kernel
theorem dM_findEdges_2 : decode cM_findEdges 2 = .ok (.putfield 173, 3) := by decide +kernel
theorem dM_findEdges_5 : decode cM_findEdges 5 = .ok (.iconst 0, 1) := by decide +kernel
theorem dM_findEdges_6 : decode cM_findEdges 6 = .ok (.istore_n 1, 1) := by decide +kernel
theorem dM_findEdges_7 : decode cM_findEdges 7 = .ok (.iload_n 1, 1) := by decide +kernel
theorem dM_findEdges_8 : decode cM_findEdges 8 = .ok (.aload_n 0, 1) := by decide +kernel
theorem dM_findEdges_9 : decode cM_findEdges 9 = .ok (.getfield 77, 3) := by decide +kernel
theorem dM_findEdges_12 : decode cM_findEdges 12 = .ok (.if_icmp .ge 96, 3) := by decide +kernel
theorem dM_findEdges_15 : decode cM_findEdges 15 = .ok (.aload_n 0, 1) := by decide +kernel
theorem dM_findEdges_16 : decode cM_findEdges 16 = .ok (.aload_n 0, 1) := by decide +kernel
theorem dM_findEdges_17 : decode cM_findEdges 17 = .ok (.iload_n 1, 1) := by decide +kernel
theorem dM_findEdges_18 : decode cM_findEdges 18 = .ok (.invokevirtual 166, 3) := by decide +kernel
theorem dM_findEdges_21 : decode cM_findEdges 21 = .ok (.invokevirtual 170, 3) := by decide +kernel
theorem dM_findEdges_24 : decode cM_findEdges 24 = .ok (.istore_n 2, 1) := by decide +kernel
theorem dM_findEdges_25 : decode cM_findEdges 25 = .ok (.iload_n 2, 1) := by decide +kernel
theorem dM_findEdges_26 : decode cM_findEdges 26 = .ok (.ifCond .ne 6, 3) := by decide +kernel
theorem dM_findEdges_29 : decode cM_findEdges 29 = .ok (.goto 73, 3) := by decide +kernel
theorem dM_findEdges_32 : decode cM_findEdges 32 = .ok (.iconst 0, 1) := by decide +kernel
theorem dM_findEdges_33 : decode cM_findEdges 33 = .ok (.istore_n 3, 1) := by decide +kernel
theorem dM_findEdges_34 : decode cM_findEdges 34 = .ok (.iload_n 3, 1) := by decide +kernel
theorem dM_findEdges_35 : decode cM_findEdges 35 = .ok (.aload_n 0, 1) := by decide +kernel
theorem dM_findEdges_36 : decode cM_findEdges 36 = .ok (.getfield 173, 3) := by decide +kernel
theorem dM_findEdges_39 : decode cM_findEdges 39 = .ok (.if_icmp .ge 19, 3) := by decide +kernel
theorem dM_findEdges_42 : decode cM_findEdges 42 = .ok (.aload_n 0, 1) := by decide +kernel
theorem dM_findEdges_43 : decode cM_findEdges 43 = .ok (.getfield 54, 3) := by decide +kernel
theorem dM_findEdges_46 : decode cM_findEdges 46 = .ok (.iload_n 3, 1) := by decide +kernel
theorem dM_findEdges_47 : decode cM_findEdges 47 = .ok (.iaload, 1) := by decide +kernel
theorem dM_findEdges_48 : decode cM_findEdges 48 = .ok (.iload_n 2, 1) := by decide +kernel
theorem dM_findEdges_49 : decode cM_findEdges 49 = .ok (.if_icmp .eq 9, 3) := by decide +kernel
theorem dM_findEdges_52 : decode cM_findEdges 52 = .ok (.iinc 3 1, 3) := by decide +kernel
theorem dM_findEdges_55 : decode cM_findEdges 55 = .ok (.goto (-21), 3) := by decide +kernel
theorem dM_findEdges_58 : decode cM_findEdges 58 = .ok (.iload_n 3, 1) := by decide +kernel
theorem dM_findEdges_59 : decode cM_findEdges 59 = .ok (.aload_n 0, 1) := by decide +kernel
theorem dM_findEdges_60 : decode cM_findEdges 60 = .ok (.getfield 173, 3) := by decide +kernel
theorem dM_findEdges_63 : decode cM_findEdges 63 = .ok (.if_icmp .ne 27, 3) := by decide +kernel
theorem dM_findEdges_66 : decode cM_findEdges 66 = .ok (.aload_n 0, 1) := by decide +kernel
theorem dM_findEdges_67 : decode cM_findEdges 67 = .ok (.getfield 54, 3) := by decide +kernel
theorem dM_findEdges_70 : decode cM_findEdges 70 = .ok (.iload_n 3, 1) := by decide +kernel
theorem dM_findEdges_71 : decode cM_findEdges 71 = .ok (.iload_n 2, 1) := by decide +kernel
theorem dM_findEdges_72 : decode cM_findEdges 72 = .ok (.iastore, 1) := by decide +kernel
theorem dM_findEdges_73 : decode cM_findEdges 73 = .ok (.aload_n 0, 1) := by decide +kernel
theorem dM_findEdges_74 : decode cM_findEdges 74 = .ok (.getfield 57, 3) := by decide +kernel
theorem dM_findEdges_77 : decode cM_findEdges 77 = .ok (.iload_n 3, 1) := by decide +kernel
theorem dM_findEdges_78 : decode cM_findEdges 78 = .ok (.lconst 0, 1) := by decide +kernel
theorem dM_findEdges_79 : decode cM_findEdges 79 = .ok (.lastore, 1) := by decide +kernel
theorem dM_findEdges_80 : decode cM_findEdges 80 = .ok (.aload_n 0, 1) := by decide +kernel
theorem dM_findEdges_81 : decode cM_findEdges 81 = .ok (.dup, 1) := by decide +kernel
theorem dM_findEdges_82 : decode cM_findEdges 82 = .ok (.getfield 173, 3) := by decide +kernel
theorem dM_findEdges_85 : decode cM_findEdges 85 = .ok (.iconst 1, 1) := by decide +kernel
theorem dM_findEdges_86 : decode cM_findEdges 86 = .ok (.iadd, 1) := by decide +kernel
theorem dM_findEdges_87 : decode cM_findEdges 87 = .ok (.putfield 173, 3) := by decide +kernel
theorem dM_findEdges_90 : decode cM_findEdges 90 = .ok (.aload_n 0, 1) := by decide +kernel
theorem dM_findEdges_91 : decode cM_findEdges 91 = .ok (.getfield 57, 3) := by decide +kernel
theorem dM_findEdges_94 : decode cM_findEdges 94 = .ok (.iload_n 3, 1) := by decide +kernel
theorem dM_findEdges_95 : decode cM_findEdges 95 = .ok (.dup2, 1) := by decide +kernel
theorem dM_findEdges_96 : decode cM_findEdges 96 = .ok (.laload, 1) := by decide +kernel
theorem dM_findEdges_97 : decode cM_findEdges 97 = .ok (.lconst 1, 1) := by decide +kernel
theorem dM_findEdges_98 : decode cM_findEdges 98 = .ok (.iload_n 1, 1) := by decide +kernel
theorem dM_findEdges_99 : decode cM_findEdges 99 = .ok (.lshl, 1) := by decide +kernel
theorem dM_findEdges_100 : decode cM_findEdges 100 = .ok (.lor, 1) := by decide +kernel
theorem dM_findEdges_101 : decode cM_findEdges 101 = .ok (.lastore, 1) := by decide +kernel
theorem dM_findEdges_102 : decode cM_findEdges 102 = .ok (.iinc 1 1, 3) := by decide +kernel
theorem dM_findEdges_105 : decode cM_findEdges 105 = .ok (.goto (-98), 3) := by decide +kernel
theorem dM_findEdges_108 : decode cM_findEdges 108 = .ok (.return_, 1) := by decide +kernel
theorem dM_odds_0 : decode cM_odds 0 = .ok (.lconst 1, 1) := by decide +kernel
theorem dM_odds_1 : decode cM_odds 1 = .ok (.lstore_n 3, 1) := by decide +kernel
theorem dM_odds_2 : decode cM_odds 2 = .ok (.lconst 1, 1) := by decide +kernel
theorem dM_odds_3 : decode cM_odds 3 = .ok (.lstore 5, 2) := by decide +kernel
theorem dM_odds_5 : decode cM_odds 5 = .ok (.iconst 1, 1) := by decide +kernel
theorem dM_odds_6 : decode cM_odds 6 = .ok (.istore 7, 2) := by decide +kernel
theorem dM_odds_8 : decode cM_odds 8 = .ok (.iconst 0, 1) := by decide +kernel
theorem dM_odds_9 : decode cM_odds 9 = .ok (.istore 8, 2) := by decide +kernel
theorem dM_odds_11 : decode cM_odds 11 = .ok (.iload 8, 2) := by decide +kernel
theorem dM_odds_13 : decode cM_odds 13 = .ok (.aload_n 0, 1) := by decide +kernel
theorem dM_odds_14 : decode cM_odds 14 = .ok (.getfield 77, 3) := by decide +kernel
theorem dM_odds_17 : decode cM_odds 17 = .ok (.if_icmp .ge 54, 3) := by decide +kernel
theorem dM_odds_20 : decode cM_odds 20 = .ok (.aload_n 0, 1) := by decide +kernel
theorem dM_odds_21 : decode cM_odds 21 = .ok (.getfield 57, 3) := by decide +kernel
theorem dM_odds_24 : decode cM_odds 24 = .ok (.iload_n 1, 1) := by decide +kernel
theorem dM_odds_25 : decode cM_odds 25 = .ok (.laload, 1) := by decide +kernel
theorem dM_odds_26 : decode cM_odds 26 = .ok (.iload 8, 2) := by decide +kernel
theorem dM_odds_28 : decode cM_odds 28 = .ok (.lshr, 1) := by decide +kernel
theorem dM_odds_29 : decode cM_odds 29 = .ok (.lconst 1, 1) := by decide +kernel
theorem dM_odds_30 : decode cM_odds 30 = .ok (.land, 1) := by decide +kernel
theorem dM_odds_31 : decode cM_odds 31 = .ok (.lconst 0, 1) := by decide +kernel
theorem dM_odds_32 : decode cM_odds 32 = .ok (.lcmp, 1) := by decide +kernel
theorem dM_odds_33 : decode cM_odds 33 = .ok (.ifCond .ne 6, 3) := by decide +kernel
theorem dM_odds_36 : decode cM_odds 36 = .ok (.goto 29, 3) := by decide +kernel
theorem dM_odds_39 : decode cM_odds 39 = .ok (.lload_n 3, 1) := by decide +kernel
theorem dM_odds_40 : decode cM_odds 40 = .ok (.ldc2_w 176, 3) := by decide +kernel
theorem dM_odds_43 : decode cM_odds 43 = .ok (.lmul, 1) := by decide +kernel
theorem dM_odds_44 : decode cM_odds 44 = .ok (.lstore_n 3, 1) := by decide +kernel
theorem dM_odds_45 : decode cM_odds 45 = .ok (.lload 5, 2) := by decide +kernel
theorem dM_odds_47 : decode cM_odds 47 = .ok (.ldc2_w 176, 3) := by decide +kernel
theorem dM_odds_50 : decode cM_odds 50 = .ok (.aload_n 0, 1) := by decide +kernel
theorem dM_odds_51 : decode cM_odds 51 = .ok (.getfield 25, 3) := by decide +kernel
theorem dM_odds_54 : decode cM_odds 54 = .ok (.iload 8, 2) := by decide +kernel
theorem dM_odds_56 : decode cM_odds 56 = .ok (.iaload, 1) := by decide +kernel
theorem dM_odds_57 : decode cM_odds 57 = .ok (.i2l, 1) := by decide +kernel
theorem dM_odds_58 : decode cM_odds 58 = .ok (.lsub, 1) := by decide +kernel
theorem dM_odds_59 : decode cM_odds 59 = .ok (.lmul, 1) := by decide +kernel
theorem dM_odds_60 : decode cM_odds 60 = .ok (.lstore 5, 2) := by decide +kernel
theorem dM_odds_62 : decode cM_odds 62 = .ok (.iinc 7 3, 3) := by decide +kernel
theorem dM_odds_65 : decode cM_odds 65 = .ok (.iinc 8 1, 3) := by decide +kernel
theorem dM_odds_68 : decode cM_odds 68 = .ok (.goto (-57), 3) := by decide +kernel
theorem dM_odds_71 : decode cM_odds 71 = .ok (.lload_n 3, 1) := by decide +kernel
theorem dM_odds_72 : decode cM_odds 72 = .ok (.lload 5, 2) := by decide +kernel
theorem dM_odds_74 : decode cM_odds 74 = .ok (.lsub, 1) := by decide +kernel
theorem dM_odds_75 : decode cM_odds 75 = .ok (.lstore 8, 2) := by decide +kernel
theorem dM_odds_77 : decode cM_odds 77 = .ok (.lload 8, 2) := by decide +kernel
theorem dM_odds_79 : decode cM_odds 79 = .ok (.lconst 0, 1) := by decide +kernel
theorem dM_odds_80 : decode cM_odds 80 = .ok (.lcmp, 1) := by decide +kernel
theorem dM_odds_81 : decode cM_odds 81 = .ok (.ifCond .ne 6, 3) := by decide +kernel
theorem dM_odds_84 : decode cM_odds 84 = .ok (.iconst 0, 1) := by decide +kernel
theorem dM_odds_85 : decode cM_odds 85 = .ok (.istore 7, 2) := by decide +kernel
theorem dM_odds_87 : decode cM_odds 87 = .ok (.iload 7, 2) := by decide +kernel
theorem dM_odds_89 : decode cM_odds 89 = .ok (.ifCond .le 28, 3) := by decide +kernel
theorem dM_odds_92 : decode cM_odds 92 = .ok (.lload 8, 2) := by decide +kernel
theorem dM_odds_94 : decode cM_odds 94 = .ok (.ldc2_w 178, 3) := by decide +kernel
theorem dM_odds_97 : decode cM_odds 97 = .ok (.lrem, 1) := by decide +kernel
theorem dM_odds_98 : decode cM_odds 98 = .ok (.lconst 0, 1) := by decide +kernel
theorem dM_odds_99 : decode cM_odds 99 = .ok (.lcmp, 1) := by decide +kernel
theorem dM_odds_100 : decode cM_odds 100 = .ok (.ifCond .ne 17, 3) := by decide +kernel
theorem dM_odds_103 : decode cM_odds 103 = .ok (.lload 8, 2) := by decide +kernel
theorem dM_odds_105 : decode cM_odds 105 = .ok (.ldc2_w 178, 3) := by decide +kernel
theorem dM_odds_108 : decode cM_odds 108 = .ok (.ldiv, 1) := by decide +kernel
theorem dM_odds_109 : decode cM_odds 109 = .ok (.lstore 8, 2) := by decide +kernel
theorem dM_odds_111 : decode cM_odds 111 = .ok (.iinc 7 (-1), 3) := by decide +kernel
theorem dM_odds_114 : decode cM_odds 114 = .ok (.goto (-27), 3) := by decide +kernel
theorem dM_odds_117 : decode cM_odds 117 = .ok (.iload_n 2, 1) := by decide +kernel
theorem dM_odds_118 : decode cM_odds 118 = .ok (.ifCond .eq 9, 3) := by decide +kernel
theorem dM_odds_121 : decode cM_odds 121 = .ok (.iload 7, 2) := by decide +kernel
theorem dM_odds_123 : decode cM_odds 123 = .ok (.i2l, 1) := by decide +kernel
theorem dM_odds_124 : decode cM_odds 124 = .ok (.goto 5, 3) := by decide +kernel
theorem dM_odds_127 : decode cM_odds 127 = .ok (.lload 8, 2) := by decide +kernel
theorem dM_odds_129 : decode cM_odds 129 = .ok (.lreturn, 1) := by decide +kernel
theorem dM_run_0 : decode cM_run 0 = .ok (.aload_n 0, 1) := by decide +kernel
theorem dM_run_1 : decode cM_run 1 = .ok (.iconst 0, 1) := by decide +kernel
theorem dM_run_2 : decode cM_run 2 = .ok (.putfield 64, 3) := by decide +kernel
theorem dM_run_5 : decode cM_run 5 = .ok (.lload_n 1, 1) := by decide +kernel
theorem dM_run_6 : decode cM_run 6 = .ok (.aload_n 0, 1) := by decide +kernel
theorem dM_run_7 : decode cM_run 7 = .ok (.getfield 77, 3) := by decide +kernel
theorem dM_run_10 : decode cM_run 10 = .ok (.invokestatic 91, 3) := by decide +kernel
theorem dM_run_13 : decode cM_run 13 = .ok (.ifCond .ne 7, 3) := by decide +kernel
theorem dM_run_16 : decode cM_run 16 = .ok (.ldc2_w 145, 3) := by decide +kernel
theorem dM_run_19 : decode cM_run 19 = .ok (.lreturn, 1) := by decide +kernel
theorem dM_run_20 : decode cM_run 20 = .ok (.aload_n 0, 1) := by decide +kernel
theorem dM_run_21 : decode cM_run 21 = .ok (.invokevirtual 147, 3) := by decide +kernel
theorem dM_run_24 : decode cM_run 24 = .ok (.lconst 0, 1) := by decide +kernel
theorem dM_run_25 : decode cM_run 25 = .ok (.lstore 5, 2) := by decide +kernel
theorem dM_run_27 : decode cM_run 27 = .ok (.iconst 0, 1) := by decide +kernel
theorem dM_run_28 : decode cM_run 28 = .ok (.istore 7, 2) := by decide +kernel
theorem dM_run_30 : decode cM_run 30 = .ok (.iload 7, 2) := by decide +kernel
theorem dM_run_32 : decode cM_run 32 = .ok (.aload_n 0, 1) := by decide +kernel
theorem dM_run_33 : decode cM_run 33 = .ok (.getfield 74, 3) := by decide +kernel
theorem dM_run_36 : decode cM_run 36 = .ok (.if_icmp .ge 38, 3) := by decide +kernel
theorem dM_run_39 : decode cM_run 39 = .ok (.lload 5, 2) := by decide +kernel
theorem dM_run_41 : decode cM_run 41 = .ok (.aload_n 0, 1) := by decide +kernel
theorem dM_run_42 : decode cM_run 42 = .ok (.getfield 44, 3) := by decide +kernel
theorem dM_run_45 : decode cM_run 45 = .ok (.iload 7, 2) := by decide +kernel
theorem dM_run_47 : decode cM_run 47 = .ok (.iaload, 1) := by decide +kernel
theorem dM_run_48 : decode cM_run 48 = .ok (.aload_n 0, 1) := by decide +kernel
theorem dM_run_49 : decode cM_run 49 = .ok (.getfield 47, 3) := by decide +kernel
theorem dM_run_52 : decode cM_run 52 = .ok (.iload 7, 2) := by decide +kernel
theorem dM_run_54 : decode cM_run 54 = .ok (.laload, 1) := by decide +kernel
theorem dM_run_55 : decode cM_run 55 = .ok (.lload_n 3, 1) := by decide +kernel
theorem dM_run_56 : decode cM_run 56 = .ok (.land, 1) := by decide +kernel
theorem dM_run_57 : decode cM_run 57 = .ok (.invokestatic 162, 3) := by decide +kernel
theorem dM_run_60 : decode cM_run 60 = .ok (.ixor, 1) := by decide +kernel
theorem dM_run_61 : decode cM_run 61 = .ok (.i2l, 1) := by decide +kernel
theorem dM_run_62 : decode cM_run 62 = .ok (.iload 7, 2) := by decide +kernel
theorem dM_run_64 : decode cM_run 64 = .ok (.lshl, 1) := by decide +kernel
theorem dM_run_65 : decode cM_run 65 = .ok (.lor, 1) := by decide +kernel
theorem dM_run_66 : decode cM_run 66 = .ok (.lstore 5, 2) := by decide +kernel
theorem dM_run_68 : decode cM_run 68 = .ok (.iinc 7 1, 3) := by decide +kernel
theorem dM_run_71 : decode cM_run 71 = .ok (.goto (-41), 3) := by decide +kernel
theorem dM_run_74 : decode cM_run 74 = .ok (.iconst 0, 1) := by decide +kernel
theorem dM_run_75 : decode cM_run 75 = .ok (.istore 7, 2) := by decide +kernel
theorem dM_run_77 : decode cM_run 77 = .ok (.iload 7, 2) := by decide +kernel
theorem dM_run_79 : decode cM_run 79 = .ok (.aload_n 0, 1) := by decide +kernel
theorem dM_run_80 : decode cM_run 80 = .ok (.getfield 77, 3) := by decide +kernel
theorem dM_run_83 : decode cM_run 83 = .ok (.if_icmp .ge 31, 3) := by decide +kernel
theorem dM_run_86 : decode cM_run 86 = .ok (.lload_n 1, 1) := by decide +kernel
theorem dM_run_87 : decode cM_run 87 = .ok (.iload 7, 2) := by decide +kernel
theorem dM_run_89 : decode cM_run 89 = .ok (.lshr, 1) := by decide +kernel
theorem dM_run_90 : decode cM_run 90 = .ok (.lconst 1, 1) := by decide +kernel
theorem dM_run_91 : decode cM_run 91 = .ok (.land, 1) := by decide +kernel
theorem dM_run_92 : decode cM_run 92 = .ok (.lconst 1, 1) := by decide +kernel
theorem dM_run_93 : decode cM_run 93 = .ok (.lcmp, 1) := by decide +kernel
theorem dM_run_94 : decode cM_run 94 = .ok (.ifCond .ne 14, 3) := by decide +kernel
theorem dM_run_97 : decode cM_run 97 = .ok (.lload 5, 2) := by decide +kernel
theorem dM_run_99 : decode cM_run 99 = .ok (.aload_n 0, 1) := by decide +kernel
theorem dM_run_100 : decode cM_run 100 = .ok (.iload 7, 2) := by decide +kernel
theorem dM_run_102 : decode cM_run 102 = .ok (.invokevirtual 166, 3) := by decide +kernel
theorem dM_run_105 : decode cM_run 105 = .ok (.lxor, 1) := by decide +kernel
theorem dM_run_106 : decode cM_run 106 = .ok (.lstore 5, 2) := by decide +kernel
theorem dM_run_108 : decode cM_run 108 = .ok (.iinc 7 1, 3) := by decide +kernel
theorem dM_run_111 : decode cM_run 111 = .ok (.goto (-34), 3) := by decide +kernel
theorem dM_run_114 : decode cM_run 114 = .ok (.lload 5, 2) := by decide +kernel
theorem dM_run_116 : decode cM_run 116 = .ok (.lreturn, 1) := by decide +kernel
theorem dM_total_0 : decode cM_total 0 = .ok (.aload_n 0, 1) := by decide +kernel
theorem dM_total_1 : decode cM_total 1 = .ok (.iconst 0, 1) := by decide +kernel
theorem dM_total_2 : decode cM_total 2 = .ok (.putfield 64, 3) := by decide +kernel
theorem dM_total_5 : decode cM_total 5 = .ok (.iload_n 1, 1) := by decide +kernel
theorem dM_total_6 : decode cM_total 6 = .ok (.tableswitch 72 0 5 #[38, 43, 48, 53, 58, 63], 38) := by decide +kernel
theorem dM_total_44 : decode cM_total 44 = .ok (.aload_n 0, 1) := by decide +kernel
theorem dM_total_45 : decode cM_total 45 = .ok (.getfield 68, 3) := by decide +kernel
theorem dM_total_48 : decode cM_total 48 = .ok (.ireturn, 1) := by decide +kernel
theorem dM_total_49 : decode cM_total 49 = .ok (.aload_n 0, 1) := by decide +kernel
theorem dM_total_50 : decode cM_total 50 = .ok (.getfield 71, 3) := by decide +kernel
theorem dM_total_53 : decode cM_total 53 = .ok (.ireturn, 1) := by decide +kernel
theorem dM_total_54 : decode cM_total 54 = .ok (.aload_n 0, 1) := by decide +kernel
theorem dM_total_55 : decode cM_total 55 = .ok (.getfield 74, 3) := by decide +kernel
theorem dM_total_58 : decode cM_total 58 = .ok (.ireturn, 1) := by decide +kernel
theorem dM_total_59 : decode cM_total 59 = .ok (.aload_n 0, 1) := by decide +kernel
theorem dM_total_60 : decode cM_total 60 = .ok (.getfield 77, 3) := by decide +kernel
theorem dM_total_63 : decode cM_total 63 = .ok (.ireturn, 1) := by decide +kernel
theorem dM_total_64 : decode cM_total 64 = .ok (.aload_n 0, 1) := by decide +kernel
theorem dM_total_65 : decode cM_total 65 = .ok (.getfield 80, 3) := by decide +kernel
theorem dM_total_68 : decode cM_total 68 = .ok (.ireturn, 1) := by decide +kernel
theorem dM_total_69 : decode cM_total 69 = .ok (.aload_n 0, 1) := by decide +kernel
theorem dM_total_70 : decode cM_total 70 = .ok (.invokevirtual 180, 3) := by decide +kernel
theorem dM_total_73 : decode cM_total 73 = .ok (.aload_n 0, 1) := by decide +kernel
theorem dM_total_74 : decode cM_total 74 = .ok (.getfield 173, 3) := by decide +kernel
theorem dM_total_77 : decode cM_total 77 = .ok (.ireturn, 1) := by decide +kernel
theorem dM_total_78 : decode cM_total 78 = .ok (.iconst (-1), 1) := by decide +kernel
theorem dM_total_79 : decode cM_total 79 = .ok (.ireturn, 1) := by decide +kernel
end
section
theorem dL_edge_0 : decode cL_edge 0 = .ok (.aload_n 3, 1) := by decide +kernel
theorem dL_edge_1 : decode cL_edge 1 = .ok (.iconst 0, 1) := by decide +kernel
theorem dL_edge_2 : decode cL_edge 2 = .ok (.aload_n 0, 1) := by decide +kernel
theorem dL_edge_3 : decode cL_edge 3 = .ok (.iload_n 1, 1) := by decide +kernel
theorem dL_edge_4 : decode cL_edge 4 = .ok (.iload_n 2, 1) := by decide +kernel
theorem dL_edge_5 : decode cL_edge 5 = .ok (.invokevirtual 7, 3) := by decide +kernel
theorem dL_edge_8 : decode cL_edge 8 = .ok (.lastore, 1) := by decide +kernel
theorem dL_edge_9 : decode cL_edge 9 = .ok (.goto 7, 3) := by decide +kernel
theorem dL_edge_12 : decode cL_edge 12 = .ok (.astore 4, 2) := by decide +kernel
theorem dL_edge_14 : decode cL_edge 14 = .ok (.iconst 1, 1) := by decide +kernel
theorem dL_edge_15 : decode cL_edge 15 = .ok (.ireturn, 1) := by decide +kernel
theorem dL_edge_16 : decode cL_edge 16 = .ok (.iconst 0, 1) := by decide +kernel
theorem dL_edge_17 : decode cL_edge 17 = .ok (.ireturn, 1) := by decide +kernel
abbrev cL_law : ByteArray := code
theorem dL_law_0 : decode cL_law 0 = .ok (.new 8, 3) := by decide +kernel
theorem dL_law_3 : decode cL_law 3 = .ok (.dup, 1) := by decide +kernel
theorem dL_law_4 : decode cL_law 4 = .ok (.invokespecial 15, 3) := by decide +kernel
theorem dL_law_7 : decode cL_law 7 = .ok (.astore_n 1, 1) := by decide +kernel
theorem dL_law_8 : decode cL_law 8 = .ok (.new 16, 3) := by decide +kernel
theorem dL_law_11 : decode cL_law 11 = .ok (.dup, 1) := by decide +kernel
theorem dL_law_12 : decode cL_law 12 = .ok (.invokespecial 18, 3) := by decide +kernel
theorem dL_law_15 : decode cL_law 15 = .ok (.astore_n 2, 1) := by decide +kernel
theorem dL_law_16 : decode cL_law 16 = .ok (.iconst 1, 1) := by decide +kernel
theorem dL_law_17 : decode cL_law 17 = .ok (.newarray .long, 2) := by decide +kernel
theorem dL_law_19 : decode cL_law 19 = .ok (.astore_n 3, 1) := by decide +kernel
theorem dL_law_20 : decode cL_law 20 = .ok (.iconst 0, 1) := by decide +kernel
theorem dL_law_21 : decode cL_law 21 = .ok (.istore 4, 2) := by decide +kernel
theorem dL_law_23 : decode cL_law 23 = .ok (.iload 4, 2) := by decide +kernel
theorem dL_law_25 : decode cL_law 25 = .ok (.aload_n 0, 1) := by decide +kernel
theorem dL_law_26 : decode cL_law 26 = .ok (.arraylength, 1) := by decide +kernel
theorem dL_law_27 : decode cL_law 27 = .ok (.iconst 5, 1) := by decide +kernel
theorem dL_law_28 : decode cL_law 28 = .ok (.isub, 1) := by decide +kernel
theorem dL_law_29 : decode cL_law 29 = .ok (.if_icmp .gt 614, 3) := by decide +kernel
theorem dL_law_32 : decode cL_law 32 = .ok (.aload_n 0, 1) := by decide +kernel
theorem dL_law_33 : decode cL_law 33 = .ok (.iload 4, 2) := by decide +kernel
theorem dL_law_35 : decode cL_law 35 = .ok (.iaload, 1) := by decide +kernel
theorem dL_law_36 : decode cL_law 36 = .ok (.bipush 15, 2) := by decide +kernel
theorem dL_law_38 : decode cL_law 38 = .ok (.iand, 1) := by decide +kernel
theorem dL_law_39 : decode cL_law 39 = .ok (.tableswitch 598 0 10 #[57, 82, 131, 184, 233, 290, 328, 366, 404, 471, 573], 57) := by decide +kernel
theorem dL_law_96 : decode cL_law 96 = .ok (.aload_n 1, 1) := by decide +kernel
theorem dL_law_97 : decode cL_law 97 = .ok (.aload_n 0, 1) := by decide +kernel
theorem dL_law_98 : decode cL_law 98 = .ok (.iload 4, 2) := by decide +kernel
theorem dL_law_100 : decode cL_law 100 = .ok (.iconst 1, 1) := by decide +kernel
theorem dL_law_101 : decode cL_law 101 = .ok (.iadd, 1) := by decide +kernel
theorem dL_law_102 : decode cL_law 102 = .ok (.iaload, 1) := by decide +kernel
theorem dL_law_103 : decode cL_law 103 = .ok (.invokevirtual 19, 3) := by decide +kernel
theorem dL_law_106 : decode cL_law 106 = .ok (.aload_n 2, 1) := by decide +kernel
theorem dL_law_107 : decode cL_law 107 = .ok (.aload_n 0, 1) := by decide +kernel
theorem dL_law_108 : decode cL_law 108 = .ok (.iload 4, 2) := by decide +kernel
theorem dL_law_110 : decode cL_law 110 = .ok (.iconst 1, 1) := by decide +kernel
theorem dL_law_111 : decode cL_law 111 = .ok (.iadd, 1) := by decide +kernel
theorem dL_law_112 : decode cL_law 112 = .ok (.iaload, 1) := by decide +kernel
theorem dL_law_113 : decode cL_law 113 = .ok (.invokevirtual 23, 3) := by decide +kernel
theorem dL_law_116 : decode cL_law 116 = .ok (.if_icmp .eq 521, 3) := by decide +kernel
theorem dL_law_119 : decode cL_law 119 = .ok (.iconst 0, 1) := by decide +kernel
theorem dL_law_120 : decode cL_law 120 = .ok (.ireturn, 1) := by decide +kernel
theorem dL_law_121 : decode cL_law 121 = .ok (.aload_n 1, 1) := by decide +kernel
theorem dL_law_122 : decode cL_law 122 = .ok (.aload_n 0, 1) := by decide +kernel
theorem dL_law_123 : decode cL_law 123 = .ok (.iload 4, 2) := by decide +kernel
theorem dL_law_125 : decode cL_law 125 = .ok (.iconst 1, 1) := by decide +kernel
theorem dL_law_126 : decode cL_law 126 = .ok (.iadd, 1) := by decide +kernel
theorem dL_law_127 : decode cL_law 127 = .ok (.iaload, 1) := by decide +kernel
theorem dL_law_128 : decode cL_law 128 = .ok (.aload_n 0, 1) := by decide +kernel
theorem dL_law_129 : decode cL_law 129 = .ok (.iload 4, 2) := by decide +kernel
theorem dL_law_131 : decode cL_law 131 = .ok (.iconst 2, 1) := by decide +kernel
theorem dL_law_132 : decode cL_law 132 = .ok (.iadd, 1) := by decide +kernel
theorem dL_law_133 : decode cL_law 133 = .ok (.iaload, 1) := by decide +kernel
theorem dL_law_134 : decode cL_law 134 = .ok (.aload_n 0, 1) := by decide +kernel
theorem dL_law_135 : decode cL_law 135 = .ok (.iload 4, 2) := by decide +kernel
theorem dL_law_137 : decode cL_law 137 = .ok (.iconst 3, 1) := by decide +kernel
theorem dL_law_138 : decode cL_law 138 = .ok (.iadd, 1) := by decide +kernel
theorem dL_law_139 : decode cL_law 139 = .ok (.iaload, 1) := by decide +kernel
theorem dL_law_140 : decode cL_law 140 = .ok (.invokevirtual 24, 3) := by decide +kernel
theorem dL_law_143 : decode cL_law 143 = .ok (.aload_n 2, 1) := by decide +kernel
theorem dL_law_144 : decode cL_law 144 = .ok (.aload_n 0, 1) := by decide +kernel
theorem dL_law_145 : decode cL_law 145 = .ok (.iload 4, 2) := by decide +kernel
theorem dL_law_147 : decode cL_law 147 = .ok (.iconst 1, 1) := by decide +kernel
theorem dL_law_148 : decode cL_law 148 = .ok (.iadd, 1) := by decide +kernel
theorem dL_law_149 : decode cL_law 149 = .ok (.iaload, 1) := by decide +kernel
theorem dL_law_150 : decode cL_law 150 = .ok (.aload_n 0, 1) := by decide +kernel
theorem dL_law_151 : decode cL_law 151 = .ok (.iload 4, 2) := by decide +kernel
theorem dL_law_153 : decode cL_law 153 = .ok (.iconst 2, 1) := by decide +kernel
theorem dL_law_154 : decode cL_law 154 = .ok (.iadd, 1) := by decide +kernel
theorem dL_law_155 : decode cL_law 155 = .ok (.iaload, 1) := by decide +kernel
theorem dL_law_156 : decode cL_law 156 = .ok (.aload_n 0, 1) := by decide +kernel
theorem dL_law_157 : decode cL_law 157 = .ok (.iload 4, 2) := by decide +kernel
theorem dL_law_159 : decode cL_law 159 = .ok (.iconst 3, 1) := by decide +kernel
theorem dL_law_160 : decode cL_law 160 = .ok (.iadd, 1) := by decide +kernel
theorem dL_law_161 : decode cL_law 161 = .ok (.iaload, 1) := by decide +kernel
theorem dL_law_162 : decode cL_law 162 = .ok (.invokevirtual 28, 3) := by decide +kernel
theorem dL_law_165 : decode cL_law 165 = .ok (.if_icmp .eq 472, 3) := by decide +kernel
theorem dL_law_168 : decode cL_law 168 = .ok (.iconst 0, 1) := by decide +kernel
theorem dL_law_169 : decode cL_law 169 = .ok (.ireturn, 1) := by decide +kernel
theorem dL_law_170 : decode cL_law 170 = .ok (.aload_n 1, 1) := by decide +kernel
theorem dL_law_171 : decode cL_law 171 = .ok (.aload_n 0, 1) := by decide +kernel
theorem dL_law_172 : decode cL_law 172 = .ok (.iload 4, 2) := by decide +kernel
theorem dL_law_174 : decode cL_law 174 = .ok (.iconst 1, 1) := by decide +kernel
theorem dL_law_175 : decode cL_law 175 = .ok (.iadd, 1) := by decide +kernel
theorem dL_law_176 : decode cL_law 176 = .ok (.iaload, 1) := by decide +kernel
theorem dL_law_177 : decode cL_law 177 = .ok (.aload_n 0, 1) := by decide +kernel
theorem dL_law_178 : decode cL_law 178 = .ok (.iload 4, 2) := by decide +kernel
theorem dL_law_180 : decode cL_law 180 = .ok (.iconst 2, 1) := by decide +kernel
theorem dL_law_181 : decode cL_law 181 = .ok (.iadd, 1) := by decide +kernel
theorem dL_law_182 : decode cL_law 182 = .ok (.iaload, 1) := by decide +kernel
theorem dL_law_183 : decode cL_law 183 = .ok (.ifCond .eq 7, 3) := by decide +kernel
theorem dL_law_186 : decode cL_law 186 = .ok (.iconst 1, 1) := by decide +kernel
theorem dL_law_187 : decode cL_law 187 = .ok (.goto 4, 3) := by decide +kernel
theorem dL_law_190 : decode cL_law 190 = .ok (.iconst 0, 1) := by decide +kernel
theorem dL_law_191 : decode cL_law 191 = .ok (.invokevirtual 29, 3) := by decide +kernel
theorem dL_law_194 : decode cL_law 194 = .ok (.aload_n 2, 1) := by decide +kernel
theorem dL_law_195 : decode cL_law 195 = .ok (.aload_n 0, 1) := by decide +kernel
theorem dL_law_196 : decode cL_law 196 = .ok (.iload 4, 2) := by decide +kernel
theorem dL_law_198 : decode cL_law 198 = .ok (.iconst 1, 1) := by decide +kernel
theorem dL_law_199 : decode cL_law 199 = .ok (.iadd, 1) := by decide +kernel
theorem dL_law_200 : decode cL_law 200 = .ok (.iaload, 1) := by decide +kernel
theorem dL_law_201 : decode cL_law 201 = .ok (.aload_n 0, 1) := by decide +kernel
theorem dL_law_202 : decode cL_law 202 = .ok (.iload 4, 2) := by decide +kernel
theorem dL_law_204 : decode cL_law 204 = .ok (.iconst 2, 1) := by decide +kernel
theorem dL_law_205 : decode cL_law 205 = .ok (.iadd, 1) := by decide +kernel
theorem dL_law_206 : decode cL_law 206 = .ok (.iaload, 1) := by decide +kernel
theorem dL_law_207 : decode cL_law 207 = .ok (.ifCond .eq 7, 3) := by decide +kernel
theorem dL_law_210 : decode cL_law 210 = .ok (.iconst 1, 1) := by decide +kernel
theorem dL_law_211 : decode cL_law 211 = .ok (.goto 4, 3) := by decide +kernel
theorem dL_law_214 : decode cL_law 214 = .ok (.iconst 0, 1) := by decide +kernel
theorem dL_law_215 : decode cL_law 215 = .ok (.invokevirtual 33, 3) := by decide +kernel
theorem dL_law_218 : decode cL_law 218 = .ok (.if_icmp .eq 419, 3) := by decide +kernel
theorem dL_law_221 : decode cL_law 221 = .ok (.iconst 0, 1) := by decide +kernel
theorem dL_law_222 : decode cL_law 222 = .ok (.ireturn, 1) := by decide +kernel
theorem dL_law_223 : decode cL_law 223 = .ok (.aload_n 1, 1) := by decide +kernel
theorem dL_law_224 : decode cL_law 224 = .ok (.aload_n 0, 1) := by decide +kernel
theorem dL_law_225 : decode cL_law 225 = .ok (.iload 4, 2) := by decide +kernel
theorem dL_law_227 : decode cL_law 227 = .ok (.iconst 1, 1) := by decide +kernel
theorem dL_law_228 : decode cL_law 228 = .ok (.iadd, 1) := by decide +kernel
theorem dL_law_229 : decode cL_law 229 = .ok (.iaload, 1) := by decide +kernel
theorem dL_law_230 : decode cL_law 230 = .ok (.aload_n 0, 1) := by decide +kernel
theorem dL_law_231 : decode cL_law 231 = .ok (.iload 4, 2) := by decide +kernel
theorem dL_law_233 : decode cL_law 233 = .ok (.iconst 2, 1) := by decide +kernel
theorem dL_law_234 : decode cL_law 234 = .ok (.iadd, 1) := by decide +kernel
theorem dL_law_235 : decode cL_law 235 = .ok (.iaload, 1) := by decide +kernel
theorem dL_law_236 : decode cL_law 236 = .ok (.aload_n 0, 1) := by decide +kernel
theorem dL_law_237 : decode cL_law 237 = .ok (.iload 4, 2) := by decide +kernel
theorem dL_law_239 : decode cL_law 239 = .ok (.iconst 3, 1) := by decide +kernel
theorem dL_law_240 : decode cL_law 240 = .ok (.iadd, 1) := by decide +kernel
theorem dL_law_241 : decode cL_law 241 = .ok (.iaload, 1) := by decide +kernel
theorem dL_law_242 : decode cL_law 242 = .ok (.invokevirtual 34, 3) := by decide +kernel
theorem dL_law_245 : decode cL_law 245 = .ok (.aload_n 2, 1) := by decide +kernel
theorem dL_law_246 : decode cL_law 246 = .ok (.aload_n 0, 1) := by decide +kernel
theorem dL_law_247 : decode cL_law 247 = .ok (.iload 4, 2) := by decide +kernel
theorem dL_law_249 : decode cL_law 249 = .ok (.iconst 1, 1) := by decide +kernel
theorem dL_law_250 : decode cL_law 250 = .ok (.iadd, 1) := by decide +kernel
theorem dL_law_251 : decode cL_law 251 = .ok (.iaload, 1) := by decide +kernel
theorem dL_law_252 : decode cL_law 252 = .ok (.aload_n 0, 1) := by decide +kernel
theorem dL_law_253 : decode cL_law 253 = .ok (.iload 4, 2) := by decide +kernel
theorem dL_law_255 : decode cL_law 255 = .ok (.iconst 2, 1) := by decide +kernel
theorem dL_law_256 : decode cL_law 256 = .ok (.iadd, 1) := by decide +kernel
theorem dL_law_257 : decode cL_law 257 = .ok (.iaload, 1) := by decide +kernel
theorem dL_law_258 : decode cL_law 258 = .ok (.aload_n 0, 1) := by decide +kernel
theorem dL_law_259 : decode cL_law 259 = .ok (.iload 4, 2) := by decide +kernel
theorem dL_law_261 : decode cL_law 261 = .ok (.iconst 3, 1) := by decide +kernel
theorem dL_law_262 : decode cL_law 262 = .ok (.iadd, 1) := by decide +kernel
theorem dL_law_263 : decode cL_law 263 = .ok (.iaload, 1) := by decide +kernel
theorem dL_law_264 : decode cL_law 264 = .ok (.invokevirtual 38, 3) := by decide +kernel
theorem dL_law_267 : decode cL_law 267 = .ok (.if_icmp .eq 370, 3) := by decide +kernel
theorem dL_law_270 : decode cL_law 270 = .ok (.iconst 0, 1) := by decide +kernel
theorem dL_law_271 : decode cL_law 271 = .ok (.ireturn, 1) := by decide +kernel
theorem dL_law_272 : decode cL_law 272 = .ok (.aload_n 1, 1) := by decide +kernel
theorem dL_law_273 : decode cL_law 273 = .ok (.aload_n 0, 1) := by decide +kernel
theorem dL_law_274 : decode cL_law 274 = .ok (.iload 4, 2) := by decide +kernel
theorem dL_law_276 : decode cL_law 276 = .ok (.iconst 1, 1) := by decide +kernel
theorem dL_law_277 : decode cL_law 277 = .ok (.iadd, 1) := by decide +kernel
theorem dL_law_278 : decode cL_law 278 = .ok (.iaload, 1) := by decide +kernel
theorem dL_law_279 : decode cL_law 279 = .ok (.i2l, 1) := by decide +kernel
theorem dL_law_280 : decode cL_law 280 = .ok (.bipush 32, 2) := by decide +kernel
theorem dL_law_282 : decode cL_law 282 = .ok (.lshl, 1) := by decide +kernel
theorem dL_law_283 : decode cL_law 283 = .ok (.aload_n 0, 1) := by decide +kernel
theorem dL_law_284 : decode cL_law 284 = .ok (.iload 4, 2) := by decide +kernel
theorem dL_law_286 : decode cL_law 286 = .ok (.iconst 2, 1) := by decide +kernel
theorem dL_law_287 : decode cL_law 287 = .ok (.iadd, 1) := by decide +kernel
theorem dL_law_288 : decode cL_law 288 = .ok (.iaload, 1) := by decide +kernel
theorem dL_law_289 : decode cL_law 289 = .ok (.i2l, 1) := by decide +kernel
theorem dL_law_290 : decode cL_law 290 = .ok (.ldc2_w 39, 3) := by decide +kernel
theorem dL_law_293 : decode cL_law 293 = .ok (.land, 1) := by decide +kernel
theorem dL_law_294 : decode cL_law 294 = .ok (.lor, 1) := by decide +kernel
theorem dL_law_295 : decode cL_law 295 = .ok (.invokevirtual 41, 3) := by decide +kernel
theorem dL_law_298 : decode cL_law 298 = .ok (.aload_n 2, 1) := by decide +kernel
theorem dL_law_299 : decode cL_law 299 = .ok (.aload_n 0, 1) := by decide +kernel
theorem dL_law_300 : decode cL_law 300 = .ok (.iload 4, 2) := by decide +kernel
theorem dL_law_302 : decode cL_law 302 = .ok (.iconst 1, 1) := by decide +kernel
theorem dL_law_303 : decode cL_law 303 = .ok (.iadd, 1) := by decide +kernel
theorem dL_law_304 : decode cL_law 304 = .ok (.iaload, 1) := by decide +kernel
theorem dL_law_305 : decode cL_law 305 = .ok (.i2l, 1) := by decide +kernel
theorem dL_law_306 : decode cL_law 306 = .ok (.bipush 32, 2) := by decide +kernel
theorem dL_law_308 : decode cL_law 308 = .ok (.lshl, 1) := by decide +kernel
theorem dL_law_309 : decode cL_law 309 = .ok (.aload_n 0, 1) := by decide +kernel
theorem dL_law_310 : decode cL_law 310 = .ok (.iload 4, 2) := by decide +kernel
theorem dL_law_312 : decode cL_law 312 = .ok (.iconst 2, 1) := by decide +kernel
theorem dL_law_313 : decode cL_law 313 = .ok (.iadd, 1) := by decide +kernel
theorem dL_law_314 : decode cL_law 314 = .ok (.iaload, 1) := by decide +kernel
theorem dL_law_315 : decode cL_law 315 = .ok (.i2l, 1) := by decide +kernel
theorem dL_law_316 : decode cL_law 316 = .ok (.ldc2_w 39, 3) := by decide +kernel
theorem dL_law_319 : decode cL_law 319 = .ok (.land, 1) := by decide +kernel
theorem dL_law_320 : decode cL_law 320 = .ok (.lor, 1) := by decide +kernel
theorem dL_law_321 : decode cL_law 321 = .ok (.invokevirtual 45, 3) := by decide +kernel
theorem dL_law_324 : decode cL_law 324 = .ok (.if_icmp .eq 313, 3) := by decide +kernel
theorem dL_law_327 : decode cL_law 327 = .ok (.iconst 0, 1) := by decide +kernel
theorem dL_law_328 : decode cL_law 328 = .ok (.ireturn, 1) := by decide +kernel
theorem dL_law_329 : decode cL_law 329 = .ok (.aload_n 1, 1) := by decide +kernel
theorem dL_law_330 : decode cL_law 330 = .ok (.aload_n 0, 1) := by decide +kernel
theorem dL_law_331 : decode cL_law 331 = .ok (.iload 4, 2) := by decide +kernel
theorem dL_law_333 : decode cL_law 333 = .ok (.iconst 1, 1) := by decide +kernel
theorem dL_law_334 : decode cL_law 334 = .ok (.iadd, 1) := by decide +kernel
theorem dL_law_335 : decode cL_law 335 = .ok (.iaload, 1) := by decide +kernel
theorem dL_law_336 : decode cL_law 336 = .ok (.aload_n 0, 1) := by decide +kernel
theorem dL_law_337 : decode cL_law 337 = .ok (.iload 4, 2) := by decide +kernel
theorem dL_law_339 : decode cL_law 339 = .ok (.iconst 2, 1) := by decide +kernel
theorem dL_law_340 : decode cL_law 340 = .ok (.iadd, 1) := by decide +kernel
theorem dL_law_341 : decode cL_law 341 = .ok (.iaload, 1) := by decide +kernel
theorem dL_law_342 : decode cL_law 342 = .ok (.invokevirtual 46, 3) := by decide +kernel
theorem dL_law_345 : decode cL_law 345 = .ok (.aload_n 2, 1) := by decide +kernel
theorem dL_law_346 : decode cL_law 346 = .ok (.aload_n 0, 1) := by decide +kernel
theorem dL_law_347 : decode cL_law 347 = .ok (.iload 4, 2) := by decide +kernel
theorem dL_law_349 : decode cL_law 349 = .ok (.iconst 1, 1) := by decide +kernel
theorem dL_law_350 : decode cL_law 350 = .ok (.iadd, 1) := by decide +kernel
theorem dL_law_351 : decode cL_law 351 = .ok (.iaload, 1) := by decide +kernel
theorem dL_law_352 : decode cL_law 352 = .ok (.aload_n 0, 1) := by decide +kernel
theorem dL_law_353 : decode cL_law 353 = .ok (.iload 4, 2) := by decide +kernel
theorem dL_law_355 : decode cL_law 355 = .ok (.iconst 2, 1) := by decide +kernel
theorem dL_law_356 : decode cL_law 356 = .ok (.iadd, 1) := by decide +kernel
theorem dL_law_357 : decode cL_law 357 = .ok (.iaload, 1) := by decide +kernel
theorem dL_law_358 : decode cL_law 358 = .ok (.invokevirtual 49, 3) := by decide +kernel
theorem dL_law_361 : decode cL_law 361 = .ok (.lcmp, 1) := by decide +kernel
theorem dL_law_362 : decode cL_law 362 = .ok (.ifCond .eq 275, 3) := by decide +kernel
theorem dL_law_365 : decode cL_law 365 = .ok (.iconst 0, 1) := by decide +kernel
theorem dL_law_366 : decode cL_law 366 = .ok (.ireturn, 1) := by decide +kernel
theorem dL_law_367 : decode cL_law 367 = .ok (.aload_n 1, 1) := by decide +kernel
theorem dL_law_368 : decode cL_law 368 = .ok (.aload_n 0, 1) := by decide +kernel
theorem dL_law_369 : decode cL_law 369 = .ok (.iload 4, 2) := by decide +kernel
theorem dL_law_371 : decode cL_law 371 = .ok (.iconst 1, 1) := by decide +kernel
theorem dL_law_372 : decode cL_law 372 = .ok (.iadd, 1) := by decide +kernel
theorem dL_law_373 : decode cL_law 373 = .ok (.iaload, 1) := by decide +kernel
theorem dL_law_374 : decode cL_law 374 = .ok (.aload_n 0, 1) := by decide +kernel
theorem dL_law_375 : decode cL_law 375 = .ok (.iload 4, 2) := by decide +kernel
theorem dL_law_377 : decode cL_law 377 = .ok (.iconst 2, 1) := by decide +kernel
theorem dL_law_378 : decode cL_law 378 = .ok (.iadd, 1) := by decide +kernel
theorem dL_law_379 : decode cL_law 379 = .ok (.iaload, 1) := by decide +kernel
theorem dL_law_380 : decode cL_law 380 = .ok (.invokevirtual 50, 3) := by decide +kernel
theorem dL_law_383 : decode cL_law 383 = .ok (.aload_n 2, 1) := by decide +kernel
theorem dL_law_384 : decode cL_law 384 = .ok (.aload_n 0, 1) := by decide +kernel
theorem dL_law_385 : decode cL_law 385 = .ok (.iload 4, 2) := by decide +kernel
theorem dL_law_387 : decode cL_law 387 = .ok (.iconst 1, 1) := by decide +kernel
theorem dL_law_388 : decode cL_law 388 = .ok (.iadd, 1) := by decide +kernel
theorem dL_law_389 : decode cL_law 389 = .ok (.iaload, 1) := by decide +kernel
theorem dL_law_390 : decode cL_law 390 = .ok (.aload_n 0, 1) := by decide +kernel
theorem dL_law_391 : decode cL_law 391 = .ok (.iload 4, 2) := by decide +kernel
theorem dL_law_393 : decode cL_law 393 = .ok (.iconst 2, 1) := by decide +kernel
theorem dL_law_394 : decode cL_law 394 = .ok (.iadd, 1) := by decide +kernel
theorem dL_law_395 : decode cL_law 395 = .ok (.iaload, 1) := by decide +kernel
theorem dL_law_396 : decode cL_law 396 = .ok (.invokevirtual 53, 3) := by decide +kernel
theorem dL_law_399 : decode cL_law 399 = .ok (.lcmp, 1) := by decide +kernel
theorem dL_law_400 : decode cL_law 400 = .ok (.ifCond .eq 237, 3) := by decide +kernel
theorem dL_law_403 : decode cL_law 403 = .ok (.iconst 0, 1) := by decide +kernel
theorem dL_law_404 : decode cL_law 404 = .ok (.ireturn, 1) := by decide +kernel
theorem dL_law_405 : decode cL_law 405 = .ok (.aload_n 1, 1) := by decide +kernel
theorem dL_law_406 : decode cL_law 406 = .ok (.aload_n 0, 1) := by decide +kernel
theorem dL_law_407 : decode cL_law 407 = .ok (.iload 4, 2) := by decide +kernel
theorem dL_law_409 : decode cL_law 409 = .ok (.iconst 1, 1) := by decide +kernel
theorem dL_law_410 : decode cL_law 410 = .ok (.iadd, 1) := by decide +kernel
theorem dL_law_411 : decode cL_law 411 = .ok (.iaload, 1) := by decide +kernel
theorem dL_law_412 : decode cL_law 412 = .ok (.aload_n 0, 1) := by decide +kernel
theorem dL_law_413 : decode cL_law 413 = .ok (.iload 4, 2) := by decide +kernel
theorem dL_law_415 : decode cL_law 415 = .ok (.iconst 2, 1) := by decide +kernel
theorem dL_law_416 : decode cL_law 416 = .ok (.iadd, 1) := by decide +kernel
theorem dL_law_417 : decode cL_law 417 = .ok (.iaload, 1) := by decide +kernel
theorem dL_law_418 : decode cL_law 418 = .ok (.invokevirtual 54, 3) := by decide +kernel
theorem dL_law_421 : decode cL_law 421 = .ok (.aload_n 2, 1) := by decide +kernel
theorem dL_law_422 : decode cL_law 422 = .ok (.aload_n 0, 1) := by decide +kernel
theorem dL_law_423 : decode cL_law 423 = .ok (.iload 4, 2) := by decide +kernel
theorem dL_law_425 : decode cL_law 425 = .ok (.iconst 1, 1) := by decide +kernel
theorem dL_law_426 : decode cL_law 426 = .ok (.iadd, 1) := by decide +kernel
theorem dL_law_427 : decode cL_law 427 = .ok (.iaload, 1) := by decide +kernel
theorem dL_law_428 : decode cL_law 428 = .ok (.aload_n 0, 1) := by decide +kernel
theorem dL_law_429 : decode cL_law 429 = .ok (.iload 4, 2) := by decide +kernel
theorem dL_law_431 : decode cL_law 431 = .ok (.iconst 2, 1) := by decide +kernel
theorem dL_law_432 : decode cL_law 432 = .ok (.iadd, 1) := by decide +kernel
theorem dL_law_433 : decode cL_law 433 = .ok (.iaload, 1) := by decide +kernel
theorem dL_law_434 : decode cL_law 434 = .ok (.invokevirtual 57, 3) := by decide +kernel
theorem dL_law_437 : decode cL_law 437 = .ok (.lcmp, 1) := by decide +kernel
theorem dL_law_438 : decode cL_law 438 = .ok (.ifCond .eq 199, 3) := by decide +kernel
theorem dL_law_441 : decode cL_law 441 = .ok (.iconst 0, 1) := by decide +kernel
theorem dL_law_442 : decode cL_law 442 = .ok (.ireturn, 1) := by decide +kernel
theorem dL_law_443 : decode cL_law 443 = .ok (.aload_n 1, 1) := by decide +kernel
theorem dL_law_444 : decode cL_law 444 = .ok (.aload_n 0, 1) := by decide +kernel
theorem dL_law_445 : decode cL_law 445 = .ok (.iload 4, 2) := by decide +kernel
theorem dL_law_447 : decode cL_law 447 = .ok (.iconst 1, 1) := by decide +kernel
theorem dL_law_448 : decode cL_law 448 = .ok (.iadd, 1) := by decide +kernel
theorem dL_law_449 : decode cL_law 449 = .ok (.iaload, 1) := by decide +kernel
theorem dL_law_450 : decode cL_law 450 = .ok (.aload_n 0, 1) := by decide +kernel
theorem dL_law_451 : decode cL_law 451 = .ok (.iload 4, 2) := by decide +kernel
theorem dL_law_453 : decode cL_law 453 = .ok (.iconst 2, 1) := by decide +kernel
theorem dL_law_454 : decode cL_law 454 = .ok (.iadd, 1) := by decide +kernel
theorem dL_law_455 : decode cL_law 455 = .ok (.iaload, 1) := by decide +kernel
theorem dL_law_456 : decode cL_law 456 = .ok (.aload_n 3, 1) := by decide +kernel
theorem dL_law_457 : decode cL_law 457 = .ok (.invokestatic 58, 3) := by decide +kernel
theorem dL_law_460 : decode cL_law 460 = .ok (.istore 5, 2) := by decide +kernel
theorem dL_law_462 : decode cL_law 462 = .ok (.aload_n 2, 1) := by decide +kernel
theorem dL_law_463 : decode cL_law 463 = .ok (.aload_n 0, 1) := by decide +kernel
theorem dL_law_464 : decode cL_law 464 = .ok (.iload 4, 2) := by decide +kernel
theorem dL_law_466 : decode cL_law 466 = .ok (.iconst 1, 1) := by decide +kernel
theorem dL_law_467 : decode cL_law 467 = .ok (.iadd, 1) := by decide +kernel
theorem dL_law_468 : decode cL_law 468 = .ok (.iaload, 1) := by decide +kernel
theorem dL_law_469 : decode cL_law 469 = .ok (.aload_n 0, 1) := by decide +kernel
theorem dL_law_470 : decode cL_law 470 = .ok (.iload 4, 2) := by decide +kernel
theorem dL_law_472 : decode cL_law 472 = .ok (.iconst 2, 1) := by decide +kernel
theorem dL_law_473 : decode cL_law 473 = .ok (.iadd, 1) := by decide +kernel
theorem dL_law_474 : decode cL_law 474 = .ok (.iaload, 1) := by decide +kernel
theorem dL_law_475 : decode cL_law 475 = .ok (.invokevirtual 63, 3) := by decide +kernel
theorem dL_law_478 : decode cL_law 478 = .ok (.lstore 6, 2) := by decide +kernel
theorem dL_law_480 : decode cL_law 480 = .ok (.aload_n 2, 1) := by decide +kernel
theorem dL_law_481 : decode cL_law 481 = .ok (.invokevirtual 64, 3) := by decide +kernel
theorem dL_law_484 : decode cL_law 484 = .ok (.iload 5, 2) := by decide +kernel
theorem dL_law_486 : decode cL_law 486 = .ok (.if_icmp .eq 5, 3) := by decide +kernel
theorem dL_law_489 : decode cL_law 489 = .ok (.iconst 0, 1) := by decide +kernel
theorem dL_law_490 : decode cL_law 490 = .ok (.ireturn, 1) := by decide +kernel
theorem dL_law_491 : decode cL_law 491 = .ok (.iload 5, 2) := by decide +kernel
theorem dL_law_493 : decode cL_law 493 = .ok (.ifCond .ne 14, 3) := by decide +kernel
theorem dL_law_496 : decode cL_law 496 = .ok (.aload_n 3, 1) := by decide +kernel
theorem dL_law_497 : decode cL_law 497 = .ok (.iconst 0, 1) := by decide +kernel
theorem dL_law_498 : decode cL_law 498 = .ok (.laload, 1) := by decide +kernel
theorem dL_law_499 : decode cL_law 499 = .ok (.lload 6, 2) := by decide +kernel
theorem dL_law_501 : decode cL_law 501 = .ok (.lcmp, 1) := by decide +kernel
theorem dL_law_502 : decode cL_law 502 = .ok (.ifCond .eq 5, 3) := by decide +kernel
theorem dL_law_505 : decode cL_law 505 = .ok (.iconst 0, 1) := by decide +kernel
theorem dL_law_506 : decode cL_law 506 = .ok (.ireturn, 1) := by decide +kernel
theorem dL_law_507 : decode cL_law 507 = .ok (.goto 130, 3) := by decide +kernel
theorem dL_law_510 : decode cL_law 510 = .ok (.aload_n 1, 1) := by decide +kernel
theorem dL_law_511 : decode cL_law 511 = .ok (.aload_n 0, 1) := by decide +kernel
theorem dL_law_512 : decode cL_law 512 = .ok (.iload 4, 2) := by decide +kernel
theorem dL_law_514 : decode cL_law 514 = .ok (.iconst 1, 1) := by decide +kernel
theorem dL_law_515 : decode cL_law 515 = .ok (.iadd, 1) := by decide +kernel
theorem dL_law_516 : decode cL_law 516 = .ok (.iaload, 1) := by decide +kernel
theorem dL_law_517 : decode cL_law 517 = .ok (.i2l, 1) := by decide +kernel
theorem dL_law_518 : decode cL_law 518 = .ok (.bipush 32, 2) := by decide +kernel
theorem dL_law_520 : decode cL_law 520 = .ok (.lshl, 1) := by decide +kernel
theorem dL_law_521 : decode cL_law 521 = .ok (.aload_n 0, 1) := by decide +kernel
theorem dL_law_522 : decode cL_law 522 = .ok (.iload 4, 2) := by decide +kernel
theorem dL_law_524 : decode cL_law 524 = .ok (.iconst 2, 1) := by decide +kernel
theorem dL_law_525 : decode cL_law 525 = .ok (.iadd, 1) := by decide +kernel
theorem dL_law_526 : decode cL_law 526 = .ok (.iaload, 1) := by decide +kernel
theorem dL_law_527 : decode cL_law 527 = .ok (.i2l, 1) := by decide +kernel
theorem dL_law_528 : decode cL_law 528 = .ok (.ldc2_w 39, 3) := by decide +kernel
theorem dL_law_531 : decode cL_law 531 = .ok (.land, 1) := by decide +kernel
theorem dL_law_532 : decode cL_law 532 = .ok (.lor, 1) := by decide +kernel
theorem dL_law_533 : decode cL_law 533 = .ok (.aload_n 0, 1) := by decide +kernel
theorem dL_law_534 : decode cL_law 534 = .ok (.iload 4, 2) := by decide +kernel
theorem dL_law_536 : decode cL_law 536 = .ok (.iconst 3, 1) := by decide +kernel
theorem dL_law_537 : decode cL_law 537 = .ok (.iadd, 1) := by decide +kernel
theorem dL_law_538 : decode cL_law 538 = .ok (.iaload, 1) := by decide +kernel
theorem dL_law_539 : decode cL_law 539 = .ok (.i2l, 1) := by decide +kernel
theorem dL_law_540 : decode cL_law 540 = .ok (.bipush 32, 2) := by decide +kernel
theorem dL_law_542 : decode cL_law 542 = .ok (.lshl, 1) := by decide +kernel
theorem dL_law_543 : decode cL_law 543 = .ok (.aload_n 0, 1) := by decide +kernel
theorem dL_law_544 : decode cL_law 544 = .ok (.iload 4, 2) := by decide +kernel
theorem dL_law_546 : decode cL_law 546 = .ok (.iconst 4, 1) := by decide +kernel
theorem dL_law_547 : decode cL_law 547 = .ok (.iadd, 1) := by decide +kernel
theorem dL_law_548 : decode cL_law 548 = .ok (.iaload, 1) := by decide +kernel
theorem dL_law_549 : decode cL_law 549 = .ok (.i2l, 1) := by decide +kernel
theorem dL_law_550 : decode cL_law 550 = .ok (.ldc2_w 39, 3) := by decide +kernel
theorem dL_law_553 : decode cL_law 553 = .ok (.land, 1) := by decide +kernel
theorem dL_law_554 : decode cL_law 554 = .ok (.lor, 1) := by decide +kernel
theorem dL_law_555 : decode cL_law 555 = .ok (.invokevirtual 68, 3) := by decide +kernel
theorem dL_law_558 : decode cL_law 558 = .ok (.aload_n 2, 1) := by decide +kernel
theorem dL_law_559 : decode cL_law 559 = .ok (.aload_n 0, 1) := by decide +kernel
theorem dL_law_560 : decode cL_law 560 = .ok (.iload 4, 2) := by decide +kernel
theorem dL_law_562 : decode cL_law 562 = .ok (.iconst 1, 1) := by decide +kernel
theorem dL_law_563 : decode cL_law 563 = .ok (.iadd, 1) := by decide +kernel
theorem dL_law_564 : decode cL_law 564 = .ok (.iaload, 1) := by decide +kernel
theorem dL_law_565 : decode cL_law 565 = .ok (.i2l, 1) := by decide +kernel
theorem dL_law_566 : decode cL_law 566 = .ok (.bipush 32, 2) := by decide +kernel
theorem dL_law_568 : decode cL_law 568 = .ok (.lshl, 1) := by decide +kernel
theorem dL_law_569 : decode cL_law 569 = .ok (.aload_n 0, 1) := by decide +kernel
theorem dL_law_570 : decode cL_law 570 = .ok (.iload 4, 2) := by decide +kernel
theorem dL_law_572 : decode cL_law 572 = .ok (.iconst 2, 1) := by decide +kernel
theorem dL_law_573 : decode cL_law 573 = .ok (.iadd, 1) := by decide +kernel
theorem dL_law_574 : decode cL_law 574 = .ok (.iaload, 1) := by decide +kernel
theorem dL_law_575 : decode cL_law 575 = .ok (.i2l, 1) := by decide +kernel
theorem dL_law_576 : decode cL_law 576 = .ok (.ldc2_w 39, 3) := by decide +kernel
theorem dL_law_579 : decode cL_law 579 = .ok (.land, 1) := by decide +kernel
theorem dL_law_580 : decode cL_law 580 = .ok (.lor, 1) := by decide +kernel
theorem dL_law_581 : decode cL_law 581 = .ok (.aload_n 0, 1) := by decide +kernel
theorem dL_law_582 : decode cL_law 582 = .ok (.iload 4, 2) := by decide +kernel
theorem dL_law_584 : decode cL_law 584 = .ok (.iconst 3, 1) := by decide +kernel
theorem dL_law_585 : decode cL_law 585 = .ok (.iadd, 1) := by decide +kernel
theorem dL_law_586 : decode cL_law 586 = .ok (.iaload, 1) := by decide +kernel
theorem dL_law_587 : decode cL_law 587 = .ok (.i2l, 1) := by decide +kernel
theorem dL_law_588 : decode cL_law 588 = .ok (.bipush 32, 2) := by decide +kernel
theorem dL_law_590 : decode cL_law 590 = .ok (.lshl, 1) := by decide +kernel
theorem dL_law_591 : decode cL_law 591 = .ok (.aload_n 0, 1) := by decide +kernel
theorem dL_law_592 : decode cL_law 592 = .ok (.iload 4, 2) := by decide +kernel
theorem dL_law_594 : decode cL_law 594 = .ok (.iconst 4, 1) := by decide +kernel
theorem dL_law_595 : decode cL_law 595 = .ok (.iadd, 1) := by decide +kernel
theorem dL_law_596 : decode cL_law 596 = .ok (.iaload, 1) := by decide +kernel
theorem dL_law_597 : decode cL_law 597 = .ok (.i2l, 1) := by decide +kernel
theorem dL_law_598 : decode cL_law 598 = .ok (.ldc2_w 39, 3) := by decide +kernel
theorem dL_law_601 : decode cL_law 601 = .ok (.land, 1) := by decide +kernel
theorem dL_law_602 : decode cL_law 602 = .ok (.lor, 1) := by decide +kernel
theorem dL_law_603 : decode cL_law 603 = .ok (.invokevirtual 72, 3) := by decide +kernel
theorem dL_law_606 : decode cL_law 606 = .ok (.lcmp, 1) := by decide +kernel
theorem dL_law_607 : decode cL_law 607 = .ok (.ifCond .eq 30, 3) := by decide +kernel
theorem dL_law_610 : decode cL_law 610 = .ok (.iconst 0, 1) := by decide +kernel
theorem dL_law_611 : decode cL_law 611 = .ok (.ireturn, 1) := by decide +kernel
theorem dL_law_612 : decode cL_law 612 = .ok (.aload_n 1, 1) := by decide +kernel
theorem dL_law_613 : decode cL_law 613 = .ok (.aload_n 0, 1) := by decide +kernel
theorem dL_law_614 : decode cL_law 614 = .ok (.iload 4, 2) := by decide +kernel
theorem dL_law_616 : decode cL_law 616 = .ok (.iconst 1, 1) := by decide +kernel
theorem dL_law_617 : decode cL_law 617 = .ok (.iadd, 1) := by decide +kernel
theorem dL_law_618 : decode cL_law 618 = .ok (.iaload, 1) := by decide +kernel
theorem dL_law_619 : decode cL_law 619 = .ok (.invokevirtual 73, 3) := by decide +kernel
theorem dL_law_622 : decode cL_law 622 = .ok (.aload_n 2, 1) := by decide +kernel
theorem dL_law_623 : decode cL_law 623 = .ok (.aload_n 0, 1) := by decide +kernel
theorem dL_law_624 : decode cL_law 624 = .ok (.iload 4, 2) := by decide +kernel
theorem dL_law_626 : decode cL_law 626 = .ok (.iconst 1, 1) := by decide +kernel
theorem dL_law_627 : decode cL_law 627 = .ok (.iadd, 1) := by decide +kernel
theorem dL_law_628 : decode cL_law 628 = .ok (.iaload, 1) := by decide +kernel
theorem dL_law_629 : decode cL_law 629 = .ok (.invokevirtual 77, 3) := by decide +kernel
theorem dL_law_632 : decode cL_law 632 = .ok (.if_icmp .eq 5, 3) := by decide +kernel
theorem dL_law_635 : decode cL_law 635 = .ok (.iconst 0, 1) := by decide +kernel
theorem dL_law_636 : decode cL_law 636 = .ok (.ireturn, 1) := by decide +kernel
theorem dL_law_637 : decode cL_law 637 = .ok (.iinc 4 5, 3) := by decide +kernel
theorem dL_law_640 : decode cL_law 640 = .ok (.goto (-617), 3) := by decide +kernel
theorem dL_law_643 : decode cL_law 643 = .ok (.iconst 1, 1) := by decide +kernel
theorem dL_law_644 : decode cL_law 644 = .ok (.ireturn, 1) := by decide +kernel
end
section
-- words of nest mates and of arrays over a class, kept over a call
def fn_isN (w : Cond) : Prop := (∃ (a : String) (i : Nat) (b n d h : String), w = .fieldLinkNest a i b n d h) ∨ (∃ (a : String) (i : Nat) (x : MethodName) (h : String), w = .methodLinkNest a i x h) ∨ ∃ C : String, w = .arrayOver (.object C)
theorem fn_nw {nw : List Cond} (hn : ∀ w ∈ nw, fn_isN w) {s U : State} (hW : s.WarmedH U.vm) (h : ∀ w ∈ nw, va_Nw w s) : ∀ w ∈ nw, va_Nw w U := by
  intro w hw
  have h1 := h w hw
  rcases hn w hw with ⟨a, i, b, n, d, q, rfl⟩ | ⟨a, i, x, q, rfl⟩ | ⟨C, rfl⟩
  · exact va_Nw.warmF hW h1
  · exact va_Nw.warmM hW h1
  · exact va_AO.moved hW.alike h1
theorem fn_blind {D : va_G} {cl : List vw_C} {tys : List (ClassId × FieldType)} {nw : List Cond} (hn : ∀ w ∈ nw, fn_isN w) {A : Nat → Prop} {M : fm_M} {av : List Value} : FrameBlind (va_Pc av (fm_St D cl tys nw A M)) := by
  intro a U g mk q
  obtain ⟨q0, q1, q2, q3, q4, q5⟩ := q
  refine ⟨q0, q1, q2, q3, va_K.moved (u := U) (U := U.calling g mk a) (Vm.Alike.refl U.vm) q4, fun w hw => ?_⟩
  have h1 := q5 w hw
  rcases hn w hw with ⟨a, i, b, n, d, q, rfl⟩ | ⟨a, i, x, q, rfl⟩ | ⟨C, rfl⟩
  · exact va_Nw.same rfl rfl h1
  · exact va_Nw.same rfl rfl h1
  · exact va_AO.moved (u := U) (U := U.calling g mk a) (Vm.Alike.refl U.vm) h1
theorem fn_pre {D : va_G} {cl : List vw_C} {tys : List (ClassId × FieldType)} {nw : List Cond} (hn : ∀ w ∈ nw, fn_isN w) {A : Nat → Prop} {M : fm_M} {av : List Value} {s : State} {H : Heap} {locs : List Loc} {H0 : Heap} (hK : va_K D cl tys s) (hN : ∀ w ∈ nw, va_Nw w s) (hW : fm_W D cl A M H0 H locs) : PreS s H (va_Pc av (fm_St D cl tys nw A M)) av :=
  ⟨fn_blind hn, fun U hU hw => ⟨rfl, by rw [hU]; exact hW.1, hW.2.1, fun q hq => hW.2.2.2 q (Nat.le_trans hW.2.2.1.1 (by rw [← hU]; exact hq)), va_K.moved hw.alike hK, fn_nw hn hw hN⟩⟩
theorem fn_preV {D : va_G} {cl : List vw_C} {tys : List (ClassId × FieldType)} {nw : List Cond} (hn : ∀ w ∈ nw, fn_isN w) {A : Nat → Prop} {M : fm_M} {s : State} {H : Heap} {locs : List Loc} {H0 : Heap} {b ci : Nat} {fs As : List Value} {q : vw_C} (hK : va_K D cl tys s) (hN : ∀ w ∈ nw, va_Nw w s) (hW : fm_W D cl A M H0 H locs) (he : M b = some (.inr (ci, fs))) (hc : cl[ci]? = some q) : PreV s H q.1 b (va_Pc (.ref b :: As) (fm_St D cl tys nw A M)) As :=
  ⟨fn_blind hn, va_recv hK (fm_one hW.1 he) hc (q0 := 0) rfl, (fn_pre hn hK hN hW).2⟩
end
section
-- the cells of the class; the words of nest mates
abbrev fs_tys (ct : Nat → ClassId) : List (ClassId × FieldType) := [(ct 0, .int), (ct 1, .long), (ct 2, .boolean), (ct 3, .object "FrameSamples$Pauli"), (ct 4, .object "FrameSamples$Fault")]
def fs_PE (q : fs_Q) : va_E := .inr (0, [.int q.1, .int q.2.1, .int q.2.2.1, .long q.2.2.2])
theorem fs_isnw : ∀ w ∈ fs_nw, fn_isN w := by
  intro w hw
  simp only [fs_nw, List.mem_cons, List.not_mem_nil, or_false] at hw
  rcases hw with rfl | rfl | rfl | rfl | rfl | rfl | rfl | rfl | rfl | rfl | rfl | rfl | rfl | rfl | rfl
  · exact Or.inr (Or.inr ⟨_, rfl⟩)
  · exact Or.inr (Or.inl ⟨_, _, _, _, rfl⟩)
  · exact Or.inl ⟨_, _, _, _, _, _, rfl⟩
  · exact Or.inl ⟨_, _, _, _, _, _, rfl⟩
  · exact Or.inl ⟨_, _, _, _, _, _, rfl⟩
  · exact Or.inl ⟨_, _, _, _, _, _, rfl⟩
  · exact Or.inl ⟨_, _, _, _, _, _, rfl⟩
  · exact Or.inl ⟨_, _, _, _, _, _, rfl⟩
  · exact Or.inr (Or.inr ⟨_, rfl⟩)
  · exact Or.inr (Or.inl ⟨_, _, _, _, rfl⟩)
  · exact Or.inl ⟨_, _, _, _, _, _, rfl⟩
  · exact Or.inl ⟨_, _, _, _, _, _, rfl⟩
  · exact Or.inl ⟨_, _, _, _, _, _, rfl⟩
  · exact Or.inl ⟨_, _, _, _, _, _, rfl⟩
  · exact Or.inr (Or.inl ⟨_, _, _, _, rfl⟩)
set_option maxHeartbeats 4000000 in
set_option maxRecDepth 100000 in
theorem c_JI_bitCount (l : Launch) (D : va_G) (ct : Nat → ClassId) (A : Nat → Prop) (M : fm_M) (i : Int32) : Met l yJI_bitCount wJI_bitCount ({ frames := 0, cells := 0, slots := 0, locals := 0 }) (va_Pc [.int i] (fm_St D fs_cl5 (fs_tys ct) fs_nw A M)) (va_Qi (fun (r : Int32) (M1 : fm_M) => r = fs_bc i ∧ M1 = M) (fm_B D fs_cl5 A) A) 0 0 A := by
  refine Met.ofW (cc := cJI_bitCount) (maxL := 1) (ret := (some .int)) (by decide) rfl ?_
  intro p e s m args below meth c s₁ B hml hv
  obtain ⟨rfl, hP0, hA0, hA1, hK, hN⟩ := hv
  have hx := B.exec
  have hb := B.bytes
  have hr := B.returns
  have hts := atoms_spec (ws := wJI_bitCount) B.pre
  have hT : ∀ w ∈ fs_tb, w.before _ s = true := fun w h => hts w (List.mem_cons_of_mem _ h)
  have hown : s.vm.findClass "java/lang/Integer" = some m.cls := findClass_of_methodNamed B.named
  have hlocks := B.notSynchronized
  have hW : fm_W D fs_cl5 A M s.heap s.heap [] := ⟨hP0, hA0, va_S.rf, hA1⟩
  have hl := lv_entry ([.int i]) (n := 1) (Nat.le_of_ble_eq_true rfl)
  rw [lg_entry_eq]
  generalize (lg_sl ([.int i]) ++ List.replicate (1 - (lg_sl ([.int i])).length) Slot.unset).toArray = ls at hl ⊢
  have hl : lv_has ls 1 [(0, .int i)] := hl
  refine lv_iload_n hx hb dJI_bitCount_0 rfl (lv_at hl 0 rfl) ?_
  refine lv_iload_n hx hb dJI_bitCount_1 rfl (lv_at hl 0 rfl) ?_
  refine lv_iconst (v := 1) hx hb dJI_bitCount_2 (by decide) ?_
  refine lv_iushr (v := fs_ush i 1) hx hb dJI_bitCount_3 rfl ?_
  refine lv_ldcw hx hb hown (hT _ cn_JI_265) dJI_bitCount_4 ?_
  refine lv_iand hx hb dJI_bitCount_7 ?_
  refine lv_isub hx hb dJI_bitCount_8 ?_
  refine lv_topi (fun x_1 ex_1 => ?_)
  refine lv_istore_n (lv' := [(0, .int x_1)]) hx hb dJI_bitCount_9 rfl hl (by decide) rfl (fun ls hl => ?_)
  refine lv_iload_n hx hb dJI_bitCount_10 rfl (lv_at hl 0 rfl) ?_
  refine lv_ldcw hx hb hown (hT _ cn_JI_266) dJI_bitCount_11 ?_
  refine lv_iand hx hb dJI_bitCount_14 ?_
  refine lv_iload_n hx hb dJI_bitCount_15 rfl (lv_at hl 0 rfl) ?_
  refine lv_iconst (v := 2) hx hb dJI_bitCount_16 (by decide) ?_
  refine lv_iushr (v := fs_ush x_1 2) hx hb dJI_bitCount_17 rfl ?_
  refine lv_ldcw hx hb hown (hT _ cn_JI_266) dJI_bitCount_18 ?_
  refine lv_iand hx hb dJI_bitCount_21 ?_
  refine lv_iadd hx hb dJI_bitCount_22 ?_
  refine lv_topi (fun x_2 ex_2 => ?_)
  refine lv_istore_n (lv' := [(0, .int x_2)]) hx hb dJI_bitCount_23 rfl hl (by decide) rfl (fun ls hl => ?_)
  refine lv_iload_n hx hb dJI_bitCount_24 rfl (lv_at hl 0 rfl) ?_
  refine lv_iload_n hx hb dJI_bitCount_25 rfl (lv_at hl 0 rfl) ?_
  refine lv_iconst (v := 4) hx hb dJI_bitCount_26 (by decide) ?_
  refine lv_iushr (v := fs_ush x_2 4) hx hb dJI_bitCount_27 rfl ?_
  refine lv_iadd hx hb dJI_bitCount_28 ?_
  refine lv_ldcw hx hb hown (hT _ cn_JI_267) dJI_bitCount_29 ?_
  refine lv_iand hx hb dJI_bitCount_32 ?_
  refine lv_topi (fun x_3 ex_3 => ?_)
  refine lv_istore_n (lv' := [(0, .int x_3)]) hx hb dJI_bitCount_33 rfl hl (by decide) rfl (fun ls hl => ?_)
  refine lv_iload_n hx hb dJI_bitCount_34 rfl (lv_at hl 0 rfl) ?_
  refine lv_iload_n hx hb dJI_bitCount_35 rfl (lv_at hl 0 rfl) ?_
  refine lv_bipush (v := 8) hx hb dJI_bitCount_36 (by decide) ?_
  refine lv_iushr (v := fs_ush x_3 8) hx hb dJI_bitCount_38 rfl ?_
  refine lv_iadd hx hb dJI_bitCount_39 ?_
  refine lv_topi (fun x_4 ex_4 => ?_)
  refine lv_istore_n (lv' := [(0, .int x_4)]) hx hb dJI_bitCount_40 rfl hl (by decide) rfl (fun ls hl => ?_)
  refine lv_iload_n hx hb dJI_bitCount_41 rfl (lv_at hl 0 rfl) ?_
  refine lv_iload_n hx hb dJI_bitCount_42 rfl (lv_at hl 0 rfl) ?_
  refine lv_bipush (v := 16) hx hb dJI_bitCount_43 (by decide) ?_
  refine lv_iushr (v := fs_ush x_4 16) hx hb dJI_bitCount_45 rfl ?_
  refine lv_iadd hx hb dJI_bitCount_46 ?_
  refine lv_topi (fun x_5 ex_5 => ?_)
  refine lv_istore_n (lv' := [(0, .int x_5)]) hx hb dJI_bitCount_47 rfl hl (by decide) rfl (fun ls hl => ?_)
  refine lv_iload_n hx hb dJI_bitCount_48 rfl (lv_at hl 0 rfl) ?_
  refine lv_bipush (v := 63) hx hb dJI_bitCount_49 (by decide) ?_
  refine lv_iand hx hb dJI_bitCount_51 ?_
  exact fm_iret hx hb hr hlocks hW ⟨by subst ex_5; subst ex_4; subst ex_3; subst ex_2; subst ex_1; rfl, rfl⟩ dJI_bitCount_52
set_option maxHeartbeats 4000000 in
set_option maxRecDepth 100000 in
theorem c_JL_bitCount (l : Launch) (D : va_G) (ct : Nat → ClassId) (A : Nat → Prop) (M : fm_M) (i : Int64) : Met l yJL_bitCount wJL_bitCount ({ frames := 0, cells := 0, slots := 0, locals := 0 }) (va_Pc [.long i] (fm_St D fs_cl5 (fs_tys ct) fs_nw A M)) (va_Qi (fun (r : Int32) (M1 : fm_M) => r = fs_bcl i ∧ M1 = M) (fm_B D fs_cl5 A) A) 0 0 A := by
  refine Met.ofW (cc := cJL_bitCount) (maxL := 2) (ret := (some .int)) (by decide) rfl ?_
  intro p e s m args below meth c s₁ B hml hv
  obtain ⟨rfl, hP0, hA0, hA1, hK, hN⟩ := hv
  have hx := B.exec
  have hb := B.bytes
  have hr := B.returns
  have hts := atoms_spec (ws := wJL_bitCount) B.pre
  have hT : ∀ w ∈ fs_tb, w.before _ s = true := fun w h => hts w (List.mem_cons_of_mem _ h)
  have hown : s.vm.findClass "java/lang/Long" = some m.cls := findClass_of_methodNamed B.named
  have hlocks := B.notSynchronized
  have hW : fm_W D fs_cl5 A M s.heap s.heap [] := ⟨hP0, hA0, va_S.rf, hA1⟩
  have hl := lv_entry ([.long i]) (n := 2) (Nat.le_of_ble_eq_true rfl)
  rw [lg_entry_eq]
  generalize (lg_sl ([.long i]) ++ List.replicate (2 - (lg_sl ([.long i])).length) Slot.unset).toArray = ls at hl ⊢
  have hl : lv_has ls 2 [(0, .long i)] := hl
  refine lv_lload_n hx hb dJL_bitCount_0 rfl (lv_at hl 0 rfl) ?_
  refine lv_lload_n hx hb dJL_bitCount_1 rfl (lv_at hl 0 rfl) ?_
  refine lv_iconst (v := 1) hx hb dJL_bitCount_2 (by decide) ?_
  refine lv_lushr (v := fs_ushl i 1) hx hb dJL_bitCount_3 rfl ?_
  refine lv_ldc2 hx hb hown (hT _ cn_JL_314) dJL_bitCount_4 ?_
  refine lv_land hx hb dJL_bitCount_7 ?_
  refine lv_lsub hx hb dJL_bitCount_8 ?_
  refine lv_topl (fun x_1 ex_1 => ?_)
  refine lv_lstore_n (lv' := [(0, .long x_1)]) hx hb dJL_bitCount_9 rfl hl (by decide) rfl (fun ls hl => ?_)
  refine lv_lload_n hx hb dJL_bitCount_10 rfl (lv_at hl 0 rfl) ?_
  refine lv_ldc2 hx hb hown (hT _ cn_JL_316) dJL_bitCount_11 ?_
  refine lv_land hx hb dJL_bitCount_14 ?_
  refine lv_lload_n hx hb dJL_bitCount_15 rfl (lv_at hl 0 rfl) ?_
  refine lv_iconst (v := 2) hx hb dJL_bitCount_16 (by decide) ?_
  refine lv_lushr (v := fs_ushl x_1 2) hx hb dJL_bitCount_17 rfl ?_
  refine lv_ldc2 hx hb hown (hT _ cn_JL_316) dJL_bitCount_18 ?_
  refine lv_land hx hb dJL_bitCount_21 ?_
  refine lv_ladd hx hb dJL_bitCount_22 ?_
  refine lv_topl (fun x_2 ex_2 => ?_)
  refine lv_lstore_n (lv' := [(0, .long x_2)]) hx hb dJL_bitCount_23 rfl hl (by decide) rfl (fun ls hl => ?_)
  refine lv_lload_n hx hb dJL_bitCount_24 rfl (lv_at hl 0 rfl) ?_
  refine lv_lload_n hx hb dJL_bitCount_25 rfl (lv_at hl 0 rfl) ?_
  refine lv_iconst (v := 4) hx hb dJL_bitCount_26 (by decide) ?_
  refine lv_lushr (v := fs_ushl x_2 4) hx hb dJL_bitCount_27 rfl ?_
  refine lv_ladd hx hb dJL_bitCount_28 ?_
  refine lv_ldc2 hx hb hown (hT _ cn_JL_318) dJL_bitCount_29 ?_
  refine lv_land hx hb dJL_bitCount_32 ?_
  refine lv_topl (fun x_3 ex_3 => ?_)
  refine lv_lstore_n (lv' := [(0, .long x_3)]) hx hb dJL_bitCount_33 rfl hl (by decide) rfl (fun ls hl => ?_)
  refine lv_lload_n hx hb dJL_bitCount_34 rfl (lv_at hl 0 rfl) ?_
  refine lv_lload_n hx hb dJL_bitCount_35 rfl (lv_at hl 0 rfl) ?_
  refine lv_bipush (v := 8) hx hb dJL_bitCount_36 (by decide) ?_
  refine lv_lushr (v := fs_ushl x_3 8) hx hb dJL_bitCount_38 rfl ?_
  refine lv_ladd hx hb dJL_bitCount_39 ?_
  refine lv_topl (fun x_4 ex_4 => ?_)
  refine lv_lstore_n (lv' := [(0, .long x_4)]) hx hb dJL_bitCount_40 rfl hl (by decide) rfl (fun ls hl => ?_)
  refine lv_lload_n hx hb dJL_bitCount_41 rfl (lv_at hl 0 rfl) ?_
  refine lv_lload_n hx hb dJL_bitCount_42 rfl (lv_at hl 0 rfl) ?_
  refine lv_bipush (v := 16) hx hb dJL_bitCount_43 (by decide) ?_
  refine lv_lushr (v := fs_ushl x_4 16) hx hb dJL_bitCount_45 rfl ?_
  refine lv_ladd hx hb dJL_bitCount_46 ?_
  refine lv_topl (fun x_5 ex_5 => ?_)
  refine lv_lstore_n (lv' := [(0, .long x_5)]) hx hb dJL_bitCount_47 rfl hl (by decide) rfl (fun ls hl => ?_)
  refine lv_lload_n hx hb dJL_bitCount_48 rfl (lv_at hl 0 rfl) ?_
  refine lv_lload_n hx hb dJL_bitCount_49 rfl (lv_at hl 0 rfl) ?_
  refine lv_bipush (v := 32) hx hb dJL_bitCount_50 (by decide) ?_
  refine lv_lushr (v := fs_ushl x_5 32) hx hb dJL_bitCount_52 rfl ?_
  refine lv_ladd hx hb dJL_bitCount_53 ?_
  refine lv_topl (fun x_6 ex_6 => ?_)
  refine lv_lstore_n (lv' := [(0, .long x_6)]) hx hb dJL_bitCount_54 rfl hl (by decide) rfl (fun ls hl => ?_)
  refine lv_lload_n hx hb dJL_bitCount_55 rfl (lv_at hl 0 rfl) ?_
  refine lv_l2i (v := x_6.toInt32) hx hb dJL_bitCount_56 rfl ?_
  refine lv_bipush (v := 127) hx hb dJL_bitCount_57 (by decide) ?_
  refine lv_iand hx hb dJL_bitCount_59 ?_
  exact fm_iret hx hb hr hlocks hW ⟨by subst ex_6; subst ex_5; subst ex_4; subst ex_3; subst ex_2; subst ex_1; rfl, rfl⟩ dJL_bitCount_60
set_option maxHeartbeats 4000000 in
set_option maxRecDepth 100000 in
theorem c_P_xOn (l : Launch) (D : va_G) (ct : Nat → ClassId) (A : Nat → Prop) (M : fm_M) (h0 : Nat) (q : fs_Q) (a : Int32)(hM : M h0 = some (fs_PE q)) : Met l yP_xOn wP_xOn ({ frames := 0, cells := 0, slots := 0, locals := 0 }) (va_Pc [.ref h0, .int a] (fm_St D fs_cl5 (fs_tys ct) fs_nw A M)) (va_Qi (fun (r : Int32) (M1 : fm_M) => r = fs_xOn q a ∧ M1 = M) (fm_B D fs_cl5 A) A) 0 0 A := by
  refine Met.ofW (cc := cP_xOn) (maxL := 2) (ret := (some .int)) (by decide) rfl ?_
  intro p e s m args below meth c s₁ B hml hv
  obtain ⟨rfl, hP0, hA0, hA1, hK, hN⟩ := hv
  have hx := B.exec
  have hb := B.bytes
  have hr := B.returns
  have hts := atoms_spec (ws := wP_xOn) B.pre
  have hT : ∀ w ∈ fs_tb, w.before _ s = true := fun w h => hts w (List.mem_cons_of_mem _ h)
  have hown : s.vm.findClass "FrameSamples$Pauli" = some m.cls := findClass_of_methodNamed B.named
  have hlocks := B.notSynchronized
  have hW : fm_W D fs_cl5 A M s.heap s.heap [] := ⟨hP0, hA0, va_S.rf, hA1⟩
  have hl := lv_entry ([.ref h0, .int a]) (n := 2) (Nat.le_of_ble_eq_true rfl)
  rw [lg_entry_eq]
  generalize (lg_sl ([.ref h0, .int a]) ++ List.replicate (2 - (lg_sl ([.ref h0, .int a])).length) Slot.unset).toArray = ls at hl ⊢
  have hl : lv_has ls 2 [(0, .ref h0), (1, .int a)] := hl
  refine lv_aload_n hx hb dP_xOn_0 rfl (lv_at hl 0 rfl) ?_
  refine fm_get (ci := 0) (v := .int q.1) (C := RP) (T := TP) (N := 4) hx hb hT inP hown hK hW hM rfl 0 (by decide) (hT _ fl_P_9) (fun _ h9 => h9) rfl dP_xOn_1 ?_
  refine lv_iload_n hx hb dP_xOn_4 rfl (lv_at hl 1 rfl) ?_
  refine lv_iushr (v := fs_ush q.1 a) hx hb dP_xOn_5 rfl ?_
  refine lv_iconst (v := 1) hx hb dP_xOn_6 (by decide) ?_
  refine lv_iand hx hb dP_xOn_7 ?_
  exact fm_iret hx hb hr hlocks hW ⟨rfl, rfl⟩ dP_xOn_8
set_option maxHeartbeats 4000000 in
set_option maxRecDepth 100000 in
theorem c_P_zOn (l : Launch) (D : va_G) (ct : Nat → ClassId) (A : Nat → Prop) (M : fm_M) (h0 : Nat) (q : fs_Q) (a : Int32)(hM : M h0 = some (fs_PE q)) : Met l yP_zOn wP_zOn ({ frames := 0, cells := 0, slots := 0, locals := 0 }) (va_Pc [.ref h0, .int a] (fm_St D fs_cl5 (fs_tys ct) fs_nw A M)) (va_Qi (fun (r : Int32) (M1 : fm_M) => r = fs_zOn q a ∧ M1 = M) (fm_B D fs_cl5 A) A) 0 0 A := by
  refine Met.ofW (cc := cP_zOn) (maxL := 2) (ret := (some .int)) (by decide) rfl ?_
  intro p e s m args below meth c s₁ B hml hv
  obtain ⟨rfl, hP0, hA0, hA1, hK, hN⟩ := hv
  have hx := B.exec
  have hb := B.bytes
  have hr := B.returns
  have hts := atoms_spec (ws := wP_zOn) B.pre
  have hT : ∀ w ∈ fs_tb, w.before _ s = true := fun w h => hts w (List.mem_cons_of_mem _ h)
  have hown : s.vm.findClass "FrameSamples$Pauli" = some m.cls := findClass_of_methodNamed B.named
  have hlocks := B.notSynchronized
  have hW : fm_W D fs_cl5 A M s.heap s.heap [] := ⟨hP0, hA0, va_S.rf, hA1⟩
  have hl := lv_entry ([.ref h0, .int a]) (n := 2) (Nat.le_of_ble_eq_true rfl)
  rw [lg_entry_eq]
  generalize (lg_sl ([.ref h0, .int a]) ++ List.replicate (2 - (lg_sl ([.ref h0, .int a])).length) Slot.unset).toArray = ls at hl ⊢
  have hl : lv_has ls 2 [(0, .ref h0), (1, .int a)] := hl
  refine lv_aload_n hx hb dP_zOn_0 rfl (lv_at hl 0 rfl) ?_
  refine fm_get (ci := 0) (v := .int q.2.1) (C := RP) (T := TP) (N := 4) hx hb hT inP hown hK hW hM rfl 1 (by decide) (hT _ fl_P_15) (fun _ h9 => h9) rfl dP_zOn_1 ?_
  refine lv_iload_n hx hb dP_zOn_4 rfl (lv_at hl 1 rfl) ?_
  refine lv_iushr (v := fs_ush q.2.1 a) hx hb dP_zOn_5 rfl ?_
  refine lv_iconst (v := 1) hx hb dP_zOn_6 (by decide) ?_
  refine lv_iand hx hb dP_zOn_7 ?_
  exact fm_iret hx hb hr hlocks hW ⟨rfl, rfl⟩ dP_zOn_8
set_option maxHeartbeats 4000000 in
set_option maxRecDepth 100000 in
theorem c_P_passH (l : Launch) (D : va_G) (ct : Nat → ClassId) (A : Nat → Prop) (M : fm_M) (h0 : Nat) (q : fs_Q) (a : Int32)(hM : M h0 = some (fs_PE q)) : Met l yP_passH wP_passH ({ frames := 1, cells := 0, slots := 0, locals := 21 }) (va_Pc [.ref h0, .int a] (fm_St D fs_cl5 (fs_tys ct) fs_nw A M)) (va_Qv (fun (M1 : fm_M) => M1 = va_up M h0 (some (fs_PE (fs_pH q a)))) (fm_B D fs_cl5 A) A) 0 0 A := by
  refine Met.ofW (cc := cP_passH) (maxL := 3) (ret := none) (by decide) rfl ?_
  intro p e s m args below meth c s₁ B hml hv
  obtain ⟨rfl, hP0, hA0, hA1, hK, hN⟩ := hv
  have hx := B.exec
  have hb := B.bytes
  have hr := B.returns
  have hts := atoms_spec (ws := wP_passH) B.pre
  have hT : ∀ w ∈ fs_tb, w.before _ s = true := fun w h => hts w (List.mem_cons_of_mem _ h)
  have hown : s.vm.findClass "FrameSamples$Pauli" = some m.cls := findClass_of_methodNamed B.named
  have hlocks := B.notSynchronized
  have hW : fm_W D fs_cl5 A M s.heap s.heap [] := ⟨hP0, hA0, va_S.rf, hA1⟩
  have hl := lv_entry ([.ref h0, .int a]) (n := 3) (Nat.le_of_ble_eq_true rfl)
  rw [lg_entry_eq]
  generalize (lg_sl ([.ref h0, .int a]) ++ List.replicate (3 - (lg_sl ([.ref h0, .int a])).length) Slot.unset).toArray = ls at hl ⊢
  have hl : lv_has ls 3 [(0, .ref h0), (1, .int a)] := hl
  refine lv_aload_n hx hb dP_passH_0 rfl (lv_at hl 0 rfl) ?_
  refine lv_dup hx hb dP_passH_1 rfl ?_
  refine fm_get (ci := 0) (v := .int q.2.2.1) (C := RP) (T := TP) (N := 4) hx hb hT inP hown hK hW hM rfl 2 (by decide) (hT _ fl_P_18) (fun _ h9 => h9) rfl dP_passH_2 ?_
  refine lv_aload_n hx hb dP_passH_5 rfl (lv_at hl 0 rfl) ?_
  refine lv_iload_n hx hb dP_passH_6 rfl (lv_at hl 1 rfl) ?_
  refine fm_calli (va_runV (As := [.int a]) (rest := [.int q.2.2.1, .ref h0]) ⟨hx, hb, hml, hown, hts⟩ (c_P_xOn l D ct A M h0 (q.1, q.2.1, q.2.2.1, q.2.2.2) a hM) ⟨callB_of 1 hts (fs_gin co_P_xOn) rfl rfl rfl (hT _ ini_P) (hT _ ml_P_44) (by decide +kernel) ⟨Nat.le_of_ble_eq_true rfl, Nat.le_of_ble_eq_true rfl⟩, hT _ im_P_xOn, hT _ se_P_xOn⟩ (fn_preV fs_isnw hK hN hW hM rfl) rfl rfl hl.1 rfl (lv_room (Nat.le_of_ble_eq_true rfl)) dP_passH_7 ⟨Nat.le_of_ble_eq_true rfl, Nat.le_of_ble_eq_true rfl⟩) hW (fun r_1 M_2 H locs hp_3 hW => ?_)
  have hW : fm_W D fs_cl5 A M s.heap H locs := by rw [← hp_3.2]; exact hW
  have er_1 := hp_3.1
  refine lv_aload_n hx hb dP_passH_10 rfl (lv_at hl 0 rfl) ?_
  refine lv_iload_n hx hb dP_passH_11 rfl (lv_at hl 1 rfl) ?_
  refine fm_calli (va_runV (As := [.int a]) (rest := [.int r_1, .int q.2.2.1, .ref h0]) ⟨hx, hb, hml, hown, hts⟩ (c_P_zOn l D ct A M h0 (q.1, q.2.1, q.2.2.1, q.2.2.2) a hM) ⟨callB_of 1 hts (fs_gin co_P_zOn) rfl rfl rfl (hT _ ini_P) (hT _ ml_P_40) (by decide +kernel) ⟨Nat.le_of_ble_eq_true rfl, Nat.le_of_ble_eq_true rfl⟩, hT _ im_P_zOn, hT _ se_P_zOn⟩ (fn_preV fs_isnw hK hN hW hM rfl) rfl rfl hl.1 rfl (lv_room (Nat.le_of_ble_eq_true rfl)) dP_passH_12 ⟨Nat.le_of_ble_eq_true rfl, Nat.le_of_ble_eq_true rfl⟩) hW (fun r_4 M_5 H locs hp_6 hW => ?_)
  have hW : fm_W D fs_cl5 A M s.heap H locs := by rw [← hp_6.2]; exact hW
  have er_4 := hp_6.1
  refine lv_iand hx hb dP_passH_15 ?_
  refine lv_ixor hx hb dP_passH_16 ?_
  refine lv_topi (fun x_7 ex_7 => ?_)
  refine fm_put (ci := 0) (v := .int x_7) (ty := .int) (C := RP) (T := TP) (N := 4) hx hb hT inP tyP tkP nmP hown hK hW hM rfl 2 (by decide) (hT _ fl_P_18) (fun _ h9 => h9) rfl (by decide +kernel) rfl rfl (Nat.le_of_ble_eq_true rfl) dP_passH_17 (fun H locs hW => ?_)
  obtain ⟨M_8, eM_8⟩ : ∃ z : fm_M, z = va_up M h0 (some (.inr (0, [.int q.1, .int q.2.1, .int x_7, .long q.2.2.2]))) := ⟨_, rfl⟩
  have hW : fm_W D fs_cl5 A M_8 s.heap H locs := by rw [eM_8]; exact hW
  have f_9 : M_8 h0 = some (.inr (0, [.int q.1, .int q.2.1, .int x_7, .long q.2.2.2])) := by rw [eM_8]; exact fm_us
  refine lv_aload_n hx hb dP_passH_20 rfl (lv_at hl 0 rfl) ?_
  refine lv_iload_n hx hb dP_passH_21 rfl (lv_at hl 1 rfl) ?_
  refine fm_calli (va_runV (As := [.int a]) (rest := []) ⟨hx, hb, hml, hown, hts⟩ (c_P_xOn l D ct A M_8 h0 (q.1, q.2.1, x_7, q.2.2.2) a f_9) ⟨callB_of 1 hts (fs_gin co_P_xOn) rfl rfl rfl (hT _ ini_P) (hT _ ml_P_44) (by decide +kernel) ⟨Nat.le_of_ble_eq_true rfl, Nat.le_of_ble_eq_true rfl⟩, hT _ im_P_xOn, hT _ se_P_xOn⟩ (fn_preV fs_isnw hK hN hW f_9 rfl) rfl rfl hl.1 rfl (lv_room (Nat.le_of_ble_eq_true rfl)) dP_passH_22 ⟨Nat.le_of_ble_eq_true rfl, Nat.le_of_ble_eq_true rfl⟩) hW (fun r_10 M_11 H locs hp_12 hW => ?_)
  have hW : fm_W D fs_cl5 A M_8 s.heap H locs := by rw [← hp_12.2]; exact hW
  have er_10 := hp_12.1
  refine lv_aload_n hx hb dP_passH_25 rfl (lv_at hl 0 rfl) ?_
  refine lv_iload_n hx hb dP_passH_26 rfl (lv_at hl 1 rfl) ?_
  refine fm_calli (va_runV (As := [.int a]) (rest := [.int r_10]) ⟨hx, hb, hml, hown, hts⟩ (c_P_zOn l D ct A M_8 h0 (q.1, q.2.1, x_7, q.2.2.2) a f_9) ⟨callB_of 1 hts (fs_gin co_P_zOn) rfl rfl rfl (hT _ ini_P) (hT _ ml_P_40) (by decide +kernel) ⟨Nat.le_of_ble_eq_true rfl, Nat.le_of_ble_eq_true rfl⟩, hT _ im_P_zOn, hT _ se_P_zOn⟩ (fn_preV fs_isnw hK hN hW f_9 rfl) rfl rfl hl.1 rfl (lv_room (Nat.le_of_ble_eq_true rfl)) dP_passH_27 ⟨Nat.le_of_ble_eq_true rfl, Nat.le_of_ble_eq_true rfl⟩) hW (fun r_13 M_14 H locs hp_15 hW => ?_)
  have hW : fm_W D fs_cl5 A M_8 s.heap H locs := by rw [← hp_15.2]; exact hW
  have er_13 := hp_15.1
  refine lv_ixor hx hb dP_passH_30 ?_
  refine lv_iload_n hx hb dP_passH_31 rfl (lv_at hl 1 rfl) ?_
  refine lv_ishl hx hb dP_passH_32 ?_
  refine lv_topi (fun x_16 ex_16 => ?_)
  refine lv_istore_n (lv' := [(2, .int x_16), (0, .ref h0), (1, .int a)]) hx hb dP_passH_33 rfl hl (by decide) rfl (fun ls hl => ?_)
  refine lv_aload_n hx hb dP_passH_34 rfl (lv_at hl 1 rfl) ?_
  refine lv_dup hx hb dP_passH_35 rfl ?_
  refine fm_get (ci := 0) (v := .int q.1) (C := RP) (T := TP) (N := 4) hx hb hT inP hown hK hW f_9 rfl 0 (by decide) (hT _ fl_P_9) (fun _ h9 => h9) rfl dP_passH_36 ?_
  refine lv_iload_n hx hb dP_passH_39 rfl (lv_at hl 0 rfl) ?_
  refine lv_ixor hx hb dP_passH_40 ?_
  refine lv_topi (fun x_17 ex_17 => ?_)
  refine fm_put (ci := 0) (v := .int x_17) (ty := .int) (C := RP) (T := TP) (N := 4) hx hb hT inP tyP tkP nmP hown hK hW f_9 rfl 0 (by decide) (hT _ fl_P_9) (fun _ h9 => h9) rfl (by decide +kernel) rfl rfl (Nat.le_of_ble_eq_true rfl) dP_passH_41 (fun H locs hW => ?_)
  obtain ⟨M_18, eM_18⟩ : ∃ z : fm_M, z = va_up M_8 h0 (some (.inr (0, [.int x_17, .int q.2.1, .int x_7, .long q.2.2.2]))) := ⟨_, rfl⟩
  have hW : fm_W D fs_cl5 A M_18 s.heap H locs := by rw [eM_18]; exact hW
  have f_19 : M_18 h0 = some (.inr (0, [.int x_17, .int q.2.1, .int x_7, .long q.2.2.2])) := by rw [eM_18]; exact fm_us
  refine lv_aload_n hx hb dP_passH_44 rfl (lv_at hl 1 rfl) ?_
  refine lv_dup hx hb dP_passH_45 rfl ?_
  refine fm_get (ci := 0) (v := .int q.2.1) (C := RP) (T := TP) (N := 4) hx hb hT inP hown hK hW f_19 rfl 1 (by decide) (hT _ fl_P_15) (fun _ h9 => h9) rfl dP_passH_46 ?_
  refine lv_iload_n hx hb dP_passH_49 rfl (lv_at hl 0 rfl) ?_
  refine lv_ixor hx hb dP_passH_50 ?_
  refine lv_topi (fun x_20 ex_20 => ?_)
  refine fm_put (ci := 0) (v := .int x_20) (ty := .int) (C := RP) (T := TP) (N := 4) hx hb hT inP tyP tkP nmP hown hK hW f_19 rfl 1 (by decide) (hT _ fl_P_15) (fun _ h9 => h9) rfl (by decide +kernel) rfl rfl (Nat.le_of_ble_eq_true rfl) dP_passH_51 (fun H locs hW => ?_)
  obtain ⟨M_21, eM_21⟩ : ∃ z : fm_M, z = va_up M_18 h0 (some (.inr (0, [.int x_17, .int x_20, .int x_7, .long q.2.2.2]))) := ⟨_, rfl⟩
  have hW : fm_W D fs_cl5 A M_21 s.heap H locs := by rw [eM_21]; exact hW
  have f_22 : M_21 h0 = some (.inr (0, [.int x_17, .int x_20, .int x_7, .long q.2.2.2])) := by rw [eM_21]; exact fm_us
  exact fm_vret hx hb hr hlocks hW (by rw [eM_21, eM_18, eM_8, fm_uu, fm_uu]; subst ex_20; subst ex_17; subst ex_16; subst er_13; subst er_10; subst ex_7; subst er_4; subst er_1; rfl) dP_passH_54
set_option maxHeartbeats 4000000 in
set_option maxRecDepth 100000 in
theorem c_P_passS (l : Launch) (D : va_G) (ct : Nat → ClassId) (A : Nat → Prop) (M : fm_M) (h0 : Nat) (q : fs_Q) (a : Int32)(hM : M h0 = some (fs_PE q)) : Met l yP_passS wP_passS ({ frames := 1, cells := 0, slots := 0, locals := 21 }) (va_Pc [.ref h0, .int a] (fm_St D fs_cl5 (fs_tys ct) fs_nw A M)) (va_Qv (fun (M1 : fm_M) => M1 = va_up M h0 (some (fs_PE (fs_pS q a)))) (fm_B D fs_cl5 A) A) 0 0 A := by
  refine Met.ofW (cc := cP_passS) (maxL := 2) (ret := none) (by decide) rfl ?_
  intro p e s m args below meth c s₁ B hml hv
  obtain ⟨rfl, hP0, hA0, hA1, hK, hN⟩ := hv
  have hx := B.exec
  have hb := B.bytes
  have hr := B.returns
  have hts := atoms_spec (ws := wP_passS) B.pre
  have hT : ∀ w ∈ fs_tb, w.before _ s = true := fun w h => hts w (List.mem_cons_of_mem _ h)
  have hown : s.vm.findClass "FrameSamples$Pauli" = some m.cls := findClass_of_methodNamed B.named
  have hlocks := B.notSynchronized
  have hW : fm_W D fs_cl5 A M s.heap s.heap [] := ⟨hP0, hA0, va_S.rf, hA1⟩
  have hl := lv_entry ([.ref h0, .int a]) (n := 2) (Nat.le_of_ble_eq_true rfl)
  rw [lg_entry_eq]
  generalize (lg_sl ([.ref h0, .int a]) ++ List.replicate (2 - (lg_sl ([.ref h0, .int a])).length) Slot.unset).toArray = ls at hl ⊢
  have hl : lv_has ls 2 [(0, .ref h0), (1, .int a)] := hl
  refine lv_aload_n hx hb dP_passS_0 rfl (lv_at hl 0 rfl) ?_
  refine lv_dup hx hb dP_passS_1 rfl ?_
  refine fm_get (ci := 0) (v := .int q.2.2.1) (C := RP) (T := TP) (N := 4) hx hb hT inP hown hK hW hM rfl 2 (by decide) (hT _ fl_P_18) (fun _ h9 => h9) rfl dP_passS_2 ?_
  refine lv_aload_n hx hb dP_passS_5 rfl (lv_at hl 0 rfl) ?_
  refine lv_iload_n hx hb dP_passS_6 rfl (lv_at hl 1 rfl) ?_
  refine fm_calli (va_runV (As := [.int a]) (rest := [.int q.2.2.1, .ref h0]) ⟨hx, hb, hml, hown, hts⟩ (c_P_xOn l D ct A M h0 (q.1, q.2.1, q.2.2.1, q.2.2.2) a hM) ⟨callB_of 1 hts (fs_gin co_P_xOn) rfl rfl rfl (hT _ ini_P) (hT _ ml_P_44) (by decide +kernel) ⟨Nat.le_of_ble_eq_true rfl, Nat.le_of_ble_eq_true rfl⟩, hT _ im_P_xOn, hT _ se_P_xOn⟩ (fn_preV fs_isnw hK hN hW hM rfl) rfl rfl hl.1 rfl (lv_room (Nat.le_of_ble_eq_true rfl)) dP_passS_7 ⟨Nat.le_of_ble_eq_true rfl, Nat.le_of_ble_eq_true rfl⟩) hW (fun r_1 M_2 H locs hp_3 hW => ?_)
  have hW : fm_W D fs_cl5 A M s.heap H locs := by rw [← hp_3.2]; exact hW
  have er_1 := hp_3.1
  refine lv_aload_n hx hb dP_passS_10 rfl (lv_at hl 0 rfl) ?_
  refine lv_iload_n hx hb dP_passS_11 rfl (lv_at hl 1 rfl) ?_
  refine fm_calli (va_runV (As := [.int a]) (rest := [.int r_1, .int q.2.2.1, .ref h0]) ⟨hx, hb, hml, hown, hts⟩ (c_P_zOn l D ct A M h0 (q.1, q.2.1, q.2.2.1, q.2.2.2) a hM) ⟨callB_of 1 hts (fs_gin co_P_zOn) rfl rfl rfl (hT _ ini_P) (hT _ ml_P_40) (by decide +kernel) ⟨Nat.le_of_ble_eq_true rfl, Nat.le_of_ble_eq_true rfl⟩, hT _ im_P_zOn, hT _ se_P_zOn⟩ (fn_preV fs_isnw hK hN hW hM rfl) rfl rfl hl.1 rfl (lv_room (Nat.le_of_ble_eq_true rfl)) dP_passS_12 ⟨Nat.le_of_ble_eq_true rfl, Nat.le_of_ble_eq_true rfl⟩) hW (fun r_4 M_5 H locs hp_6 hW => ?_)
  have hW : fm_W D fs_cl5 A M s.heap H locs := by rw [← hp_6.2]; exact hW
  have er_4 := hp_6.1
  refine lv_iand hx hb dP_passS_15 ?_
  refine lv_ixor hx hb dP_passS_16 ?_
  refine lv_topi (fun x_7 ex_7 => ?_)
  refine fm_put (ci := 0) (v := .int x_7) (ty := .int) (C := RP) (T := TP) (N := 4) hx hb hT inP tyP tkP nmP hown hK hW hM rfl 2 (by decide) (hT _ fl_P_18) (fun _ h9 => h9) rfl (by decide +kernel) rfl rfl (Nat.le_of_ble_eq_true rfl) dP_passS_17 (fun H locs hW => ?_)
  obtain ⟨M_8, eM_8⟩ : ∃ z : fm_M, z = va_up M h0 (some (.inr (0, [.int q.1, .int q.2.1, .int x_7, .long q.2.2.2]))) := ⟨_, rfl⟩
  have hW : fm_W D fs_cl5 A M_8 s.heap H locs := by rw [eM_8]; exact hW
  have f_9 : M_8 h0 = some (.inr (0, [.int q.1, .int q.2.1, .int x_7, .long q.2.2.2])) := by rw [eM_8]; exact fm_us
  refine lv_aload_n hx hb dP_passS_20 rfl (lv_at hl 0 rfl) ?_
  refine lv_dup hx hb dP_passS_21 rfl ?_
  refine fm_get (ci := 0) (v := .int q.2.1) (C := RP) (T := TP) (N := 4) hx hb hT inP hown hK hW f_9 rfl 1 (by decide) (hT _ fl_P_15) (fun _ h9 => h9) rfl dP_passS_22 ?_
  refine lv_aload_n hx hb dP_passS_25 rfl (lv_at hl 0 rfl) ?_
  refine lv_iload_n hx hb dP_passS_26 rfl (lv_at hl 1 rfl) ?_
  refine fm_calli (va_runV (As := [.int a]) (rest := [.int q.2.1, .ref h0]) ⟨hx, hb, hml, hown, hts⟩ (c_P_xOn l D ct A M_8 h0 (q.1, q.2.1, x_7, q.2.2.2) a f_9) ⟨callB_of 1 hts (fs_gin co_P_xOn) rfl rfl rfl (hT _ ini_P) (hT _ ml_P_44) (by decide +kernel) ⟨Nat.le_of_ble_eq_true rfl, Nat.le_of_ble_eq_true rfl⟩, hT _ im_P_xOn, hT _ se_P_xOn⟩ (fn_preV fs_isnw hK hN hW f_9 rfl) rfl rfl hl.1 rfl (lv_room (Nat.le_of_ble_eq_true rfl)) dP_passS_27 ⟨Nat.le_of_ble_eq_true rfl, Nat.le_of_ble_eq_true rfl⟩) hW (fun r_10 M_11 H locs hp_12 hW => ?_)
  have hW : fm_W D fs_cl5 A M_8 s.heap H locs := by rw [← hp_12.2]; exact hW
  have er_10 := hp_12.1
  refine lv_iload_n hx hb dP_passS_30 rfl (lv_at hl 1 rfl) ?_
  refine lv_ishl hx hb dP_passS_31 ?_
  refine lv_ixor hx hb dP_passS_32 ?_
  refine lv_topi (fun x_13 ex_13 => ?_)
  refine fm_put (ci := 0) (v := .int x_13) (ty := .int) (C := RP) (T := TP) (N := 4) hx hb hT inP tyP tkP nmP hown hK hW f_9 rfl 1 (by decide) (hT _ fl_P_15) (fun _ h9 => h9) rfl (by decide +kernel) rfl rfl (Nat.le_of_ble_eq_true rfl) dP_passS_33 (fun H locs hW => ?_)
  obtain ⟨M_14, eM_14⟩ : ∃ z : fm_M, z = va_up M_8 h0 (some (.inr (0, [.int q.1, .int x_13, .int x_7, .long q.2.2.2]))) := ⟨_, rfl⟩
  have hW : fm_W D fs_cl5 A M_14 s.heap H locs := by rw [eM_14]; exact hW
  have f_15 : M_14 h0 = some (.inr (0, [.int q.1, .int x_13, .int x_7, .long q.2.2.2])) := by rw [eM_14]; exact fm_us
  exact fm_vret hx hb hr hlocks hW (by rw [eM_14, eM_8, fm_uu]; subst ex_13; subst er_10; subst ex_7; subst er_4; subst er_1; rfl) dP_passS_36
set_option maxHeartbeats 4000000 in
set_option maxRecDepth 100000 in
theorem c_P_passControlledX (l : Launch) (D : va_G) (ct : Nat → ClassId) (A : Nat → Prop) (M : fm_M) (h0 : Nat) (q : fs_Q) (a : Int32) (b : Int32)(hM : M h0 = some (fs_PE q)) : Met l yP_passControlledX wP_passControlledX ({ frames := 1, cells := 0, slots := 0, locals := 21 }) (va_Pc [.ref h0, .int a, .int b] (fm_St D fs_cl5 (fs_tys ct) fs_nw A M)) (va_Qv (fun (M1 : fm_M) => M1 = va_up M h0 (some (fs_PE (fs_pC q a b)))) (fm_B D fs_cl5 A) A) 0 0 A := by
  refine Met.ofW (cc := cP_passControlledX) (maxL := 3) (ret := none) (by decide) rfl ?_
  intro p e s m args below meth c s₁ B hml hv
  obtain ⟨rfl, hP0, hA0, hA1, hK, hN⟩ := hv
  have hx := B.exec
  have hb := B.bytes
  have hr := B.returns
  have hts := atoms_spec (ws := wP_passControlledX) B.pre
  have hT : ∀ w ∈ fs_tb, w.before _ s = true := fun w h => hts w (List.mem_cons_of_mem _ h)
  have hown : s.vm.findClass "FrameSamples$Pauli" = some m.cls := findClass_of_methodNamed B.named
  have hlocks := B.notSynchronized
  have hW : fm_W D fs_cl5 A M s.heap s.heap [] := ⟨hP0, hA0, va_S.rf, hA1⟩
  have hl := lv_entry ([.ref h0, .int a, .int b]) (n := 3) (Nat.le_of_ble_eq_true rfl)
  rw [lg_entry_eq]
  generalize (lg_sl ([.ref h0, .int a, .int b]) ++ List.replicate (3 - (lg_sl ([.ref h0, .int a, .int b])).length) Slot.unset).toArray = ls at hl ⊢
  have hl : lv_has ls 3 [(0, .ref h0), (1, .int a), (2, .int b)] := hl
  refine lv_aload_n hx hb dP_passControlledX_0 rfl (lv_at hl 0 rfl) ?_
  refine lv_dup hx hb dP_passControlledX_1 rfl ?_
  refine fm_get (ci := 0) (v := .int q.2.2.1) (C := RP) (T := TP) (N := 4) hx hb hT inP hown hK hW hM rfl 2 (by decide) (hT _ fl_P_18) (fun _ h9 => h9) rfl dP_passControlledX_2 ?_
  refine lv_aload_n hx hb dP_passControlledX_5 rfl (lv_at hl 0 rfl) ?_
  refine lv_iload_n hx hb dP_passControlledX_6 rfl (lv_at hl 1 rfl) ?_
  refine fm_calli (va_runV (As := [.int a]) (rest := [.int q.2.2.1, .ref h0]) ⟨hx, hb, hml, hown, hts⟩ (c_P_xOn l D ct A M h0 (q.1, q.2.1, q.2.2.1, q.2.2.2) a hM) ⟨callB_of 1 hts (fs_gin co_P_xOn) rfl rfl rfl (hT _ ini_P) (hT _ ml_P_44) (by decide +kernel) ⟨Nat.le_of_ble_eq_true rfl, Nat.le_of_ble_eq_true rfl⟩, hT _ im_P_xOn, hT _ se_P_xOn⟩ (fn_preV fs_isnw hK hN hW hM rfl) rfl rfl hl.1 rfl (lv_room (Nat.le_of_ble_eq_true rfl)) dP_passControlledX_7 ⟨Nat.le_of_ble_eq_true rfl, Nat.le_of_ble_eq_true rfl⟩) hW (fun r_1 M_2 H locs hp_3 hW => ?_)
  have hW : fm_W D fs_cl5 A M s.heap H locs := by rw [← hp_3.2]; exact hW
  have er_1 := hp_3.1
  refine lv_aload_n hx hb dP_passControlledX_10 rfl (lv_at hl 0 rfl) ?_
  refine lv_iload_n hx hb dP_passControlledX_11 rfl (lv_at hl 2 rfl) ?_
  refine fm_calli (va_runV (As := [.int b]) (rest := [.int r_1, .int q.2.2.1, .ref h0]) ⟨hx, hb, hml, hown, hts⟩ (c_P_zOn l D ct A M h0 (q.1, q.2.1, q.2.2.1, q.2.2.2) b hM) ⟨callB_of 1 hts (fs_gin co_P_zOn) rfl rfl rfl (hT _ ini_P) (hT _ ml_P_40) (by decide +kernel) ⟨Nat.le_of_ble_eq_true rfl, Nat.le_of_ble_eq_true rfl⟩, hT _ im_P_zOn, hT _ se_P_zOn⟩ (fn_preV fs_isnw hK hN hW hM rfl) rfl rfl hl.1 rfl (lv_room (Nat.le_of_ble_eq_true rfl)) dP_passControlledX_12 ⟨Nat.le_of_ble_eq_true rfl, Nat.le_of_ble_eq_true rfl⟩) hW (fun r_4 M_5 H locs hp_6 hW => ?_)
  have hW : fm_W D fs_cl5 A M s.heap H locs := by rw [← hp_6.2]; exact hW
  have er_4 := hp_6.1
  refine lv_iand hx hb dP_passControlledX_15 ?_
  refine lv_aload_n hx hb dP_passControlledX_16 rfl (lv_at hl 0 rfl) ?_
  refine lv_iload_n hx hb dP_passControlledX_17 rfl (lv_at hl 2 rfl) ?_
  refine fm_calli (va_runV (As := [.int b]) (rest := [.int (r_1 &&& r_4), .int q.2.2.1, .ref h0]) ⟨hx, hb, hml, hown, hts⟩ (c_P_xOn l D ct A M h0 (q.1, q.2.1, q.2.2.1, q.2.2.2) b hM) ⟨callB_of 1 hts (fs_gin co_P_xOn) rfl rfl rfl (hT _ ini_P) (hT _ ml_P_44) (by decide +kernel) ⟨Nat.le_of_ble_eq_true rfl, Nat.le_of_ble_eq_true rfl⟩, hT _ im_P_xOn, hT _ se_P_xOn⟩ (fn_preV fs_isnw hK hN hW hM rfl) rfl rfl hl.1 rfl (lv_room (Nat.le_of_ble_eq_true rfl)) dP_passControlledX_18 ⟨Nat.le_of_ble_eq_true rfl, Nat.le_of_ble_eq_true rfl⟩) hW (fun r_7 M_8 H locs hp_9 hW => ?_)
  have hW : fm_W D fs_cl5 A M s.heap H locs := by rw [← hp_9.2]; exact hW
  have er_7 := hp_9.1
  refine lv_aload_n hx hb dP_passControlledX_21 rfl (lv_at hl 0 rfl) ?_
  refine lv_iload_n hx hb dP_passControlledX_22 rfl (lv_at hl 1 rfl) ?_
  refine fm_calli (va_runV (As := [.int a]) (rest := [.int r_7, .int (r_1 &&& r_4), .int q.2.2.1, .ref h0]) ⟨hx, hb, hml, hown, hts⟩ (c_P_zOn l D ct A M h0 (q.1, q.2.1, q.2.2.1, q.2.2.2) a hM) ⟨callB_of 1 hts (fs_gin co_P_zOn) rfl rfl rfl (hT _ ini_P) (hT _ ml_P_40) (by decide +kernel) ⟨Nat.le_of_ble_eq_true rfl, Nat.le_of_ble_eq_true rfl⟩, hT _ im_P_zOn, hT _ se_P_zOn⟩ (fn_preV fs_isnw hK hN hW hM rfl) rfl rfl hl.1 rfl (lv_room (Nat.le_of_ble_eq_true rfl)) dP_passControlledX_23 ⟨Nat.le_of_ble_eq_true rfl, Nat.le_of_ble_eq_true rfl⟩) hW (fun r_10 M_11 H locs hp_12 hW => ?_)
  have hW : fm_W D fs_cl5 A M s.heap H locs := by rw [← hp_12.2]; exact hW
  have er_10 := hp_12.1
  refine lv_ixor hx hb dP_passControlledX_26 ?_
  refine lv_iconst (v := 1) hx hb dP_passControlledX_27 (by decide) ?_
  refine lv_ixor hx hb dP_passControlledX_28 ?_
  refine lv_iand hx hb dP_passControlledX_29 ?_
  refine lv_ixor hx hb dP_passControlledX_30 ?_
  refine lv_topi (fun x_13 ex_13 => ?_)
  refine fm_put (ci := 0) (v := .int x_13) (ty := .int) (C := RP) (T := TP) (N := 4) hx hb hT inP tyP tkP nmP hown hK hW hM rfl 2 (by decide) (hT _ fl_P_18) (fun _ h9 => h9) rfl (by decide +kernel) rfl rfl (Nat.le_of_ble_eq_true rfl) dP_passControlledX_31 (fun H locs hW => ?_)
  obtain ⟨M_14, eM_14⟩ : ∃ z : fm_M, z = va_up M h0 (some (.inr (0, [.int q.1, .int q.2.1, .int x_13, .long q.2.2.2]))) := ⟨_, rfl⟩
  have hW : fm_W D fs_cl5 A M_14 s.heap H locs := by rw [eM_14]; exact hW
  have f_15 : M_14 h0 = some (.inr (0, [.int q.1, .int q.2.1, .int x_13, .long q.2.2.2])) := by rw [eM_14]; exact fm_us
  refine lv_aload_n hx hb dP_passControlledX_34 rfl (lv_at hl 0 rfl) ?_
  refine lv_dup hx hb dP_passControlledX_35 rfl ?_
  refine fm_get (ci := 0) (v := .int q.1) (C := RP) (T := TP) (N := 4) hx hb hT inP hown hK hW f_15 rfl 0 (by decide) (hT _ fl_P_9) (fun _ h9 => h9) rfl dP_passControlledX_36 ?_
  refine lv_aload_n hx hb dP_passControlledX_39 rfl (lv_at hl 0 rfl) ?_
  refine lv_iload_n hx hb dP_passControlledX_40 rfl (lv_at hl 1 rfl) ?_
  refine fm_calli (va_runV (As := [.int a]) (rest := [.int q.1, .ref h0]) ⟨hx, hb, hml, hown, hts⟩ (c_P_xOn l D ct A M_14 h0 (q.1, q.2.1, x_13, q.2.2.2) a f_15) ⟨callB_of 1 hts (fs_gin co_P_xOn) rfl rfl rfl (hT _ ini_P) (hT _ ml_P_44) (by decide +kernel) ⟨Nat.le_of_ble_eq_true rfl, Nat.le_of_ble_eq_true rfl⟩, hT _ im_P_xOn, hT _ se_P_xOn⟩ (fn_preV fs_isnw hK hN hW f_15 rfl) rfl rfl hl.1 rfl (lv_room (Nat.le_of_ble_eq_true rfl)) dP_passControlledX_41 ⟨Nat.le_of_ble_eq_true rfl, Nat.le_of_ble_eq_true rfl⟩) hW (fun r_16 M_17 H locs hp_18 hW => ?_)
  have hW : fm_W D fs_cl5 A M_14 s.heap H locs := by rw [← hp_18.2]; exact hW
  have er_16 := hp_18.1
  refine lv_iload_n hx hb dP_passControlledX_44 rfl (lv_at hl 2 rfl) ?_
  refine lv_ishl hx hb dP_passControlledX_45 ?_
  refine lv_ixor hx hb dP_passControlledX_46 ?_
  refine lv_topi (fun x_19 ex_19 => ?_)
  refine fm_put (ci := 0) (v := .int x_19) (ty := .int) (C := RP) (T := TP) (N := 4) hx hb hT inP tyP tkP nmP hown hK hW f_15 rfl 0 (by decide) (hT _ fl_P_9) (fun _ h9 => h9) rfl (by decide +kernel) rfl rfl (Nat.le_of_ble_eq_true rfl) dP_passControlledX_47 (fun H locs hW => ?_)
  obtain ⟨M_20, eM_20⟩ : ∃ z : fm_M, z = va_up M_14 h0 (some (.inr (0, [.int x_19, .int q.2.1, .int x_13, .long q.2.2.2]))) := ⟨_, rfl⟩
  have hW : fm_W D fs_cl5 A M_20 s.heap H locs := by rw [eM_20]; exact hW
  have f_21 : M_20 h0 = some (.inr (0, [.int x_19, .int q.2.1, .int x_13, .long q.2.2.2])) := by rw [eM_20]; exact fm_us
  refine lv_aload_n hx hb dP_passControlledX_50 rfl (lv_at hl 0 rfl) ?_
  refine lv_dup hx hb dP_passControlledX_51 rfl ?_
  refine fm_get (ci := 0) (v := .int q.2.1) (C := RP) (T := TP) (N := 4) hx hb hT inP hown hK hW f_21 rfl 1 (by decide) (hT _ fl_P_15) (fun _ h9 => h9) rfl dP_passControlledX_52 ?_
  refine lv_aload_n hx hb dP_passControlledX_55 rfl (lv_at hl 0 rfl) ?_
  refine lv_iload_n hx hb dP_passControlledX_56 rfl (lv_at hl 2 rfl) ?_
  refine fm_calli (va_runV (As := [.int b]) (rest := [.int q.2.1, .ref h0]) ⟨hx, hb, hml, hown, hts⟩ (c_P_zOn l D ct A M_20 h0 (x_19, q.2.1, x_13, q.2.2.2) b f_21) ⟨callB_of 1 hts (fs_gin co_P_zOn) rfl rfl rfl (hT _ ini_P) (hT _ ml_P_40) (by decide +kernel) ⟨Nat.le_of_ble_eq_true rfl, Nat.le_of_ble_eq_true rfl⟩, hT _ im_P_zOn, hT _ se_P_zOn⟩ (fn_preV fs_isnw hK hN hW f_21 rfl) rfl rfl hl.1 rfl (lv_room (Nat.le_of_ble_eq_true rfl)) dP_passControlledX_57 ⟨Nat.le_of_ble_eq_true rfl, Nat.le_of_ble_eq_true rfl⟩) hW (fun r_22 M_23 H locs hp_24 hW => ?_)
  have hW : fm_W D fs_cl5 A M_20 s.heap H locs := by rw [← hp_24.2]; exact hW
  have er_22 := hp_24.1
  refine lv_iload_n hx hb dP_passControlledX_60 rfl (lv_at hl 1 rfl) ?_
  refine lv_ishl hx hb dP_passControlledX_61 ?_
  refine lv_ixor hx hb dP_passControlledX_62 ?_
  refine lv_topi (fun x_25 ex_25 => ?_)
  refine fm_put (ci := 0) (v := .int x_25) (ty := .int) (C := RP) (T := TP) (N := 4) hx hb hT inP tyP tkP nmP hown hK hW f_21 rfl 1 (by decide) (hT _ fl_P_15) (fun _ h9 => h9) rfl (by decide +kernel) rfl rfl (Nat.le_of_ble_eq_true rfl) dP_passControlledX_63 (fun H locs hW => ?_)
  obtain ⟨M_26, eM_26⟩ : ∃ z : fm_M, z = va_up M_20 h0 (some (.inr (0, [.int x_19, .int x_25, .int x_13, .long q.2.2.2]))) := ⟨_, rfl⟩
  have hW : fm_W D fs_cl5 A M_26 s.heap H locs := by rw [eM_26]; exact hW
  have f_27 : M_26 h0 = some (.inr (0, [.int x_19, .int x_25, .int x_13, .long q.2.2.2])) := by rw [eM_26]; exact fm_us
  exact fm_vret hx hb hr hlocks hW (by rw [eM_26, eM_20, eM_14, fm_uu, fm_uu]; subst ex_25; subst er_22; subst ex_19; subst er_16; subst ex_13; subst er_10; subst er_7; subst er_4; subst er_1; rfl) dP_passControlledX_66
set_option maxHeartbeats 4000000 in
set_option maxRecDepth 100000 in
theorem c_P_become (l : Launch) (D : va_G) (ct : Nat → ClassId) (A : Nat → Prop) (M : fm_M) (h0 : Nat) (q : fs_Q) (nx nz : Int32)(hM : M h0 = some (fs_PE q)) : Met l yP_become wP_become ({ frames := 0, cells := 0, slots := 0, locals := 0 }) (va_Pc [.ref h0, .int nx, .int nz] (fm_St D fs_cl5 (fs_tys ct) fs_nw A M)) (va_Qv (fun (M1 : fm_M) => M1 = va_up M h0 (some (fs_PE (nx, nz, 0, 0)))) (fm_B D fs_cl5 A) A) 0 0 A := by
  refine Met.ofW (cc := cP_become) (maxL := 3) (ret := none) (by decide) rfl ?_
  intro p e s m args below meth c s₁ B hml hv
  obtain ⟨rfl, hP0, hA0, hA1, hK, hN⟩ := hv
  have hx := B.exec
  have hb := B.bytes
  have hr := B.returns
  have hts := atoms_spec (ws := wP_become) B.pre
  have hT : ∀ w ∈ fs_tb, w.before _ s = true := fun w h => hts w (List.mem_cons_of_mem _ h)
  have hown : s.vm.findClass "FrameSamples$Pauli" = some m.cls := findClass_of_methodNamed B.named
  have hlocks := B.notSynchronized
  have hW : fm_W D fs_cl5 A M s.heap s.heap [] := ⟨hP0, hA0, va_S.rf, hA1⟩
  have hl := lv_entry ([.ref h0, .int nx, .int nz]) (n := 3) (Nat.le_of_ble_eq_true rfl)
  rw [lg_entry_eq]
  generalize (lg_sl ([.ref h0, .int nx, .int nz]) ++ List.replicate (3 - (lg_sl ([.ref h0, .int nx, .int nz])).length) Slot.unset).toArray = ls at hl ⊢
  have hl : lv_has ls 3 [(0, .ref h0), (1, .int nx), (2, .int nz)] := hl
  refine lv_aload_n hx hb dP_become_0 rfl (lv_at hl 0 rfl) ?_
  refine lv_iload_n hx hb dP_become_1 rfl (lv_at hl 1 rfl) ?_
  refine fm_put (ci := 0) (v := .int nx) (ty := .int) (C := RP) (T := TP) (N := 4) hx hb hT inP tyP tkP nmP hown hK hW hM rfl 0 (by decide) (hT _ fl_P_9) (fun _ h9 => h9) rfl (by decide +kernel) rfl rfl (Nat.le_of_ble_eq_true rfl) dP_become_2 (fun H locs hW => ?_)
  obtain ⟨M_1, eM_1⟩ : ∃ z : fm_M, z = va_up M h0 (some (.inr (0, [.int nx, .int q.2.1, .int q.2.2.1, .long q.2.2.2]))) := ⟨_, rfl⟩
  have hW : fm_W D fs_cl5 A M_1 s.heap H locs := by rw [eM_1]; exact hW
  have f_2 : M_1 h0 = some (.inr (0, [.int nx, .int q.2.1, .int q.2.2.1, .long q.2.2.2])) := by rw [eM_1]; exact fm_us
  refine lv_aload_n hx hb dP_become_5 rfl (lv_at hl 0 rfl) ?_
  refine lv_iload_n hx hb dP_become_6 rfl (lv_at hl 2 rfl) ?_
  refine fm_put (ci := 0) (v := .int nz) (ty := .int) (C := RP) (T := TP) (N := 4) hx hb hT inP tyP tkP nmP hown hK hW f_2 rfl 1 (by decide) (hT _ fl_P_15) (fun _ h9 => h9) rfl (by decide +kernel) rfl rfl (Nat.le_of_ble_eq_true rfl) dP_become_7 (fun H locs hW => ?_)
  obtain ⟨M_3, eM_3⟩ : ∃ z : fm_M, z = va_up M_1 h0 (some (.inr (0, [.int nx, .int nz, .int q.2.2.1, .long q.2.2.2]))) := ⟨_, rfl⟩
  have hW : fm_W D fs_cl5 A M_3 s.heap H locs := by rw [eM_3]; exact hW
  have f_4 : M_3 h0 = some (.inr (0, [.int nx, .int nz, .int q.2.2.1, .long q.2.2.2])) := by rw [eM_3]; exact fm_us
  refine lv_aload_n hx hb dP_become_10 rfl (lv_at hl 0 rfl) ?_
  refine lv_iconst (v := 0) hx hb dP_become_11 (by decide) ?_
  refine fm_put (ci := 0) (v := .int 0) (ty := .int) (C := RP) (T := TP) (N := 4) hx hb hT inP tyP tkP nmP hown hK hW f_4 rfl 2 (by decide) (hT _ fl_P_18) (fun _ h9 => h9) rfl (by decide +kernel) rfl rfl (Nat.le_of_ble_eq_true rfl) dP_become_12 (fun H locs hW => ?_)
  obtain ⟨M_5, eM_5⟩ : ∃ z : fm_M, z = va_up M_3 h0 (some (.inr (0, [.int nx, .int nz, .int 0, .long q.2.2.2]))) := ⟨_, rfl⟩
  have hW : fm_W D fs_cl5 A M_5 s.heap H locs := by rw [eM_5]; exact hW
  have f_6 : M_5 h0 = some (.inr (0, [.int nx, .int nz, .int 0, .long q.2.2.2])) := by rw [eM_5]; exact fm_us
  refine lv_aload_n hx hb dP_become_15 rfl (lv_at hl 0 rfl) ?_
  refine lv_lconst (v := 0) hx hb dP_become_16 (by decide) ?_
  refine fm_put (ci := 0) (v := .long 0) (ty := .long) (C := RP) (T := TP) (N := 4) hx hb hT inP tyP tkP nmP hown hK hW f_6 rfl 3 (by decide) (hT _ fl_P_21) (fun _ h9 => h9) rfl (by decide +kernel) rfl rfl (Nat.le_of_ble_eq_true rfl) dP_become_17 (fun H locs hW => ?_)
  obtain ⟨M_7, eM_7⟩ : ∃ z : fm_M, z = va_up M_5 h0 (some (.inr (0, [.int nx, .int nz, .int 0, .long 0]))) := ⟨_, rfl⟩
  have hW : fm_W D fs_cl5 A M_7 s.heap H locs := by rw [eM_7]; exact hW
  have f_8 : M_7 h0 = some (.inr (0, [.int nx, .int nz, .int 0, .long 0])) := by rw [eM_7]; exact fm_us
  exact fm_vret hx hb hr hlocks hW (by rw [eM_7, eM_5, eM_3, eM_1, fm_uu, fm_uu, fm_uu]; rfl) dP_become_20
end
section
-- the rest of the class Pauli
theorem fm_same {M : fm_M} {a : Nat} {e : va_E} (h : M a = some e) : va_up M a (some e) = M := by
  funext j
  unfold va_up
  split
  · rename_i q; rw [q, h]
  · rfl
theorem fs_swo {k : Int32} {n : Nat} (hn : n < 2 ^ 31) (h : ∀ j, j ≤ n → k ≠ nI j) : k.toInt < 0 ∨ (n : Int) < k.toInt := by
  by_cases h0 : k < 0
  · left
    rw [Int32.lt_iff_toInt_lt] at h0
    exact h0
  · right
    obtain ⟨j, hj, rfl⟩ := nI_of h0
    rw [nI_toInt hj]
    have : ¬ j ≤ n := fun q => h j q rfl
    omega
theorem fs_le1 {k : Int32} (h0 : k ≠ 0) (h1 : k ≠ 1) : ∀ j, j ≤ 1 → k ≠ nI j := by
  intro j hj
  rcases (show j = 0 ∨ j = 1 by omega) with rfl | rfl <;> assumption
theorem fs_le2 {k : Int32} (h0 : k ≠ 0) (h1 : k ≠ 1) (h2 : k ≠ 2) : ∀ j, j ≤ 2 → k ≠ nI j := by
  intro j hj
  rcases (show j = 0 ∨ j = 1 ∨ j = 2 by omega) with rfl | rfl | rfl <;> assumption
theorem fs_le3 {k : Int32} (h0 : k ≠ 0) (h1 : k ≠ 1) (h2 : k ≠ 2) (h3 : k ≠ 3) : ∀ j, j ≤ 3 → k ≠ nI j := by
  intro j hj
  rcases (show j = 0 ∨ j = 1 ∨ j = 2 ∨ j = 3 by omega) with rfl | rfl | rfl | rfl <;> assumption
theorem fs_le5 {k : Int32} (h0 : k ≠ 0) (h1 : k ≠ 1) (h2 : k ≠ 2) (h3 : k ≠ 3) (h4 : k ≠ 4) (h5 : k ≠ 5) : ∀ j, j ≤ 5 → k ≠ nI j := by
  intro j hj
  rcases (show j = 0 ∨ j = 1 ∨ j = 2 ∨ j = 3 ∨ j = 4 ∨ j = 5 by omega) with rfl | rfl | rfl | rfl | rfl | rfl <;> assumption
theorem fs_le6 {k : Int32} (h0 : k ≠ 0) (h1 : k ≠ 1) (h2 : k ≠ 2) (h3 : k ≠ 3) (h4 : k ≠ 4) (h5 : k ≠ 5) (h6 : k ≠ 6) : ∀ j, j ≤ 6 → k ≠ nI j := by
  intro j hj
  rcases (show j = 0 ∨ j = 1 ∨ j = 2 ∨ j = 3 ∨ j = 4 ∨ j = 5 ∨ j = 6 by omega) with rfl | rfl | rfl | rfl | rfl | rfl | rfl <;> assumption
theorem fs_le8 {k : Int32} (h0 : k ≠ 0) (h1 : k ≠ 1) (h2 : k ≠ 2) (h3 : k ≠ 3) (h4 : k ≠ 4) (h5 : k ≠ 5) (h6 : k ≠ 6) (h7 : k ≠ 7) (h8 : k ≠ 8) : ∀ j, j ≤ 8 → k ≠ nI j := by
  intro j hj
  rcases (show j = 0 ∨ j = 1 ∨ j = 2 ∨ j = 3 ∨ j = 4 ∨ j = 5 ∨ j = 6 ∨ j = 7 ∨ j = 8 by omega) with rfl | rfl | rfl | rfl | rfl | rfl | rfl | rfl | rfl <;> assumption
theorem fs_le10 {k : Int32} (h0 : k ≠ 0) (h1 : k ≠ 1) (h2 : k ≠ 2) (h3 : k ≠ 3) (h4 : k ≠ 4) (h5 : k ≠ 5) (h6 : k ≠ 6) (h7 : k ≠ 7) (h8 : k ≠ 8) (h9 : k ≠ 9) (h10 : k ≠ 10) : ∀ j, j ≤ 10 → k ≠ nI j := by
  intro j hj
  rcases (show j = 0 ∨ j = 1 ∨ j = 2 ∨ j = 3 ∨ j = 4 ∨ j = 5 ∨ j = 6 ∨ j = 7 ∨ j = 8 ∨ j = 9 ∨ j = 10 by omega) with rfl | rfl | rfl | rfl | rfl | rfl | rfl | rfl | rfl | rfl | rfl <;> assumption
set_option maxHeartbeats 4000000 in
set_option maxRecDepth 100000 in
theorem c_P_init (l : Launch) (D : va_G) (ct : Nat → ClassId) (A : Nat → Prop) (M : fm_M) (h0 : Nat) (q : fs_Q) (hM : M h0 = some (fs_PE q)) : Met l yP_init wP_init ({ frames := 1, cells := 0, slots := 0, locals := 20 }) (va_Pc [.ref h0] (fm_St D fs_cl5 (fs_tys ct) fs_nw A M)) (va_Qv (fun (M1 : fm_M) => M1 = M) (fm_B D fs_cl5 A) A) 0 0 A := by
  refine Met.ofW (cc := cP_init) (maxL := 1) (ret := none) (by decide) rfl ?_
  intro p e s m args below meth c s₁ B hml hv
  obtain ⟨rfl, hP0, hA0, hA1, hK, hN⟩ := hv
  have hx := B.exec
  have hb := B.bytes
  have hr := B.returns
  have hts := atoms_spec (ws := wP_init) B.pre
  have hT : ∀ w ∈ fs_tb, w.before _ s = true := fun w h => hts w (List.mem_cons_of_mem _ h)
  have hown : s.vm.findClass "FrameSamples$Pauli" = some m.cls := findClass_of_methodNamed B.named
  have hlocks := B.notSynchronized
  have hin : meth.name = "<init>" := (name_of_methodNamed B.named B.method).1
  have hW : fm_W D fs_cl5 A M s.heap s.heap [] := ⟨hP0, hA0, va_S.rf, hA1⟩
  have hl := lv_entry ([.ref h0]) (n := 1) (Nat.le_of_ble_eq_true rfl)
  rw [lg_entry_eq]
  generalize (lg_sl ([.ref h0]) ++ List.replicate (1 - (lg_sl ([.ref h0])).length) Slot.unset).toArray = ls at hl ⊢
  have hl : lv_has ls 1 [(0, .ref h0)] := hl
  refine lv_aload_n hx hb dP_init_0 rfl (lv_at hl 0 rfl) ?_
  refine W.objInit hx hb hown (hT _ ml_P_3) (hT _ im_O) (hT _ co_O) rfl (by rw [hml]; exact hl.1) rfl dP_init_1 (Nat.le_of_ble_eq_true rfl) (Nat.le_of_ble_eq_true rfl) ?_
  refine W.eq (g2 := F0 m 4 ls []) rfl ?_
  exact fm_vret hx hb hr hlocks hW rfl dP_init_4
set_option maxHeartbeats 4000000 in
set_option maxRecDepth 100000 in
theorem c_P_swapBits (l : Launch) (D : va_G) (ct : Nat → ClassId) (A : Nat → Prop) (M : fm_M) (x a b : Int32) : Met l yP_swapBits wP_swapBits ({ frames := 0, cells := 0, slots := 0, locals := 0 }) (va_Pc [.int x, .int a, .int b] (fm_St D fs_cl5 (fs_tys ct) fs_nw A M)) (va_Qi (fun (r : Int32) (M1 : fm_M) => r = fs_sw x a b ∧ M1 = M) (fm_B D fs_cl5 A) A) 0 0 A := by
  refine Met.ofW (cc := cP_swapBits) (maxL := 4) (ret := (some .int)) (by decide) rfl ?_
  intro p e s m args below meth c s₁ B hml hv
  obtain ⟨rfl, hP0, hA0, hA1, hK, hN⟩ := hv
  have hx := B.exec
  have hb := B.bytes
  have hr := B.returns
  have hts := atoms_spec (ws := wP_swapBits) B.pre
  have hT : ∀ w ∈ fs_tb, w.before _ s = true := fun w h => hts w (List.mem_cons_of_mem _ h)
  have hown : s.vm.findClass "FrameSamples$Pauli" = some m.cls := findClass_of_methodNamed B.named
  have hlocks := B.notSynchronized
  have hW : fm_W D fs_cl5 A M s.heap s.heap [] := ⟨hP0, hA0, va_S.rf, hA1⟩
  have hl := lv_entry ([.int x, .int a, .int b]) (n := 4) (Nat.le_of_ble_eq_true rfl)
  rw [lg_entry_eq]
  generalize (lg_sl ([.int x, .int a, .int b]) ++ List.replicate (4 - (lg_sl ([.int x, .int a, .int b])).length) Slot.unset).toArray = ls at hl ⊢
  have hl : lv_has ls 4 [(0, .int x), (1, .int a), (2, .int b)] := hl
  refine lv_iload_n hx hb dP_swapBits_0 rfl (lv_at hl 0 rfl) ?_
  refine lv_iload_n hx hb dP_swapBits_1 rfl (lv_at hl 1 rfl) ?_
  refine lv_iushr (v := fs_ush x a) hx hb dP_swapBits_2 rfl ?_
  refine lv_iload_n hx hb dP_swapBits_3 rfl (lv_at hl 0 rfl) ?_
  refine lv_iload_n hx hb dP_swapBits_4 rfl (lv_at hl 2 rfl) ?_
  refine lv_iushr (v := fs_ush x b) hx hb dP_swapBits_5 rfl ?_
  refine lv_ixor hx hb dP_swapBits_6 ?_
  refine lv_iconst (v := 1) hx hb dP_swapBits_7 (by decide) ?_
  refine lv_iand hx hb dP_swapBits_8 ?_
  refine lv_topi (fun x_1 ex_1 => ?_)
  refine lv_istore_n (lv' := [(3, .int x_1), (0, .int x), (1, .int a), (2, .int b)]) hx hb dP_swapBits_9 rfl hl (by decide) rfl (fun ls hl => ?_)
  refine lv_iload_n hx hb dP_swapBits_10 rfl (lv_at hl 1 rfl) ?_
  refine lv_iload_n hx hb dP_swapBits_11 rfl (lv_at hl 0 rfl) ?_
  refine lv_iload_n hx hb dP_swapBits_12 rfl (lv_at hl 2 rfl) ?_
  refine lv_ishl hx hb dP_swapBits_13 ?_
  refine lv_iload_n hx hb dP_swapBits_14 rfl (lv_at hl 0 rfl) ?_
  refine lv_iload_n hx hb dP_swapBits_15 rfl (lv_at hl 3 rfl) ?_
  refine lv_ishl hx hb dP_swapBits_16 ?_
  refine lv_ior hx hb dP_swapBits_17 ?_
  refine lv_ixor hx hb dP_swapBits_18 ?_
  exact fm_iret hx hb hr hlocks hW ⟨by subst ex_1; rfl, rfl⟩ dP_swapBits_19
set_option maxHeartbeats 4000000 in
set_option maxRecDepth 100000 in
theorem c_P_copyFrom (l : Launch) (D : va_G) (ct : Nat → ClassId) (A : Nat → Prop) (M : fm_M) (h0 : Nat) (q : fs_Q) (h1 : Nat) (q2 : fs_Q) (hM : M h0 = some (fs_PE q))(hM2 : M h1 = some (fs_PE q2)) (hne : h1 ≠ h0) : Met l yP_copyFrom wP_copyFrom ({ frames := 0, cells := 0, slots := 0, locals := 0 }) (va_Pc [.ref h0, .ref h1] (fm_St D fs_cl5 (fs_tys ct) fs_nw A M)) (va_Qv (fun (M1 : fm_M) => M1 = va_up M h0 (some (fs_PE q2))) (fm_B D fs_cl5 A) A) 0 0 A := by
  refine Met.ofW (cc := cP_copyFrom) (maxL := 2) (ret := none) (by decide) rfl ?_
  intro p e s m args below meth c s₁ B hml hv
  obtain ⟨rfl, hP0, hA0, hA1, hK, hN⟩ := hv
  have hx := B.exec
  have hb := B.bytes
  have hr := B.returns
  have hts := atoms_spec (ws := wP_copyFrom) B.pre
  have hT : ∀ w ∈ fs_tb, w.before _ s = true := fun w h => hts w (List.mem_cons_of_mem _ h)
  have hown : s.vm.findClass "FrameSamples$Pauli" = some m.cls := findClass_of_methodNamed B.named
  have hlocks := B.notSynchronized
  have hW : fm_W D fs_cl5 A M s.heap s.heap [] := ⟨hP0, hA0, va_S.rf, hA1⟩
  have hl := lv_entry ([.ref h0, .ref h1]) (n := 2) (Nat.le_of_ble_eq_true rfl)
  rw [lg_entry_eq]
  generalize (lg_sl ([.ref h0, .ref h1]) ++ List.replicate (2 - (lg_sl ([.ref h0, .ref h1])).length) Slot.unset).toArray = ls at hl ⊢
  have hl : lv_has ls 2 [(0, .ref h0), (1, .ref h1)] := hl
  refine lv_aload_n hx hb dP_copyFrom_0 rfl (lv_at hl 0 rfl) ?_
  refine lv_aload_n hx hb dP_copyFrom_1 rfl (lv_at hl 1 rfl) ?_
  refine fm_get (ci := 0) (v := .int q2.1) (C := RP) (T := TP) (N := 4) hx hb hT inP hown hK hW hM2 rfl 0 (by decide) (hT _ fl_P_9) (fun _ h9 => h9) rfl dP_copyFrom_2 ?_
  refine lv_topi (fun x_1 ex_1 => ?_)
  refine fm_put (ci := 0) (v := .int x_1) (ty := .int) (C := RP) (T := TP) (N := 4) hx hb hT inP tyP tkP nmP hown hK hW hM rfl 0 (by decide) (hT _ fl_P_9) (fun _ h9 => h9) rfl (by decide +kernel) rfl rfl (Nat.le_of_ble_eq_true rfl) dP_copyFrom_5 (fun H locs hW => ?_)
  obtain ⟨M_2, eM_2⟩ : ∃ z : fm_M, z = va_up M h0 (some (.inr (0, [.int x_1, .int q.2.1, .int q.2.2.1, .long q.2.2.2]))) := ⟨_, rfl⟩
  have hW : fm_W D fs_cl5 A M_2 s.heap H locs := by rw [eM_2]; exact hW
  have f_3 : M_2 h0 = some (.inr (0, [.int x_1, .int q.2.1, .int q.2.2.1, .long q.2.2.2])) := by rw [eM_2]; exact fm_us
  have f_4 := (show M_2 h1 = M h1 by rw [eM_2]; exact fm_un (by omega)).trans hM2
  refine lv_aload_n hx hb dP_copyFrom_8 rfl (lv_at hl 0 rfl) ?_
  refine lv_aload_n hx hb dP_copyFrom_9 rfl (lv_at hl 1 rfl) ?_
  refine fm_get (ci := 0) (v := .int q2.2.1) (C := RP) (T := TP) (N := 4) hx hb hT inP hown hK hW f_4 rfl 1 (by decide) (hT _ fl_P_15) (fun _ h9 => h9) rfl dP_copyFrom_10 ?_
  refine lv_topi (fun x_5 ex_5 => ?_)
  refine fm_put (ci := 0) (v := .int x_5) (ty := .int) (C := RP) (T := TP) (N := 4) hx hb hT inP tyP tkP nmP hown hK hW f_3 rfl 1 (by decide) (hT _ fl_P_15) (fun _ h9 => h9) rfl (by decide +kernel) rfl rfl (Nat.le_of_ble_eq_true rfl) dP_copyFrom_13 (fun H locs hW => ?_)
  obtain ⟨M_6, eM_6⟩ : ∃ z : fm_M, z = va_up M_2 h0 (some (.inr (0, [.int x_1, .int x_5, .int q.2.2.1, .long q.2.2.2]))) := ⟨_, rfl⟩
  have hW : fm_W D fs_cl5 A M_6 s.heap H locs := by rw [eM_6]; exact hW
  have f_7 : M_6 h0 = some (.inr (0, [.int x_1, .int x_5, .int q.2.2.1, .long q.2.2.2])) := by rw [eM_6]; exact fm_us
  have f_8 := (show M_6 h1 = M_2 h1 by rw [eM_6]; exact fm_un (by omega)).trans f_4
  refine lv_aload_n hx hb dP_copyFrom_16 rfl (lv_at hl 0 rfl) ?_
  refine lv_aload_n hx hb dP_copyFrom_17 rfl (lv_at hl 1 rfl) ?_
  refine fm_get (ci := 0) (v := .int q2.2.2.1) (C := RP) (T := TP) (N := 4) hx hb hT inP hown hK hW f_8 rfl 2 (by decide) (hT _ fl_P_18) (fun _ h9 => h9) rfl dP_copyFrom_18 ?_
  refine lv_topi (fun x_9 ex_9 => ?_)
  refine fm_put (ci := 0) (v := .int x_9) (ty := .int) (C := RP) (T := TP) (N := 4) hx hb hT inP tyP tkP nmP hown hK hW f_7 rfl 2 (by decide) (hT _ fl_P_18) (fun _ h9 => h9) rfl (by decide +kernel) rfl rfl (Nat.le_of_ble_eq_true rfl) dP_copyFrom_21 (fun H locs hW => ?_)
  obtain ⟨M_10, eM_10⟩ : ∃ z : fm_M, z = va_up M_6 h0 (some (.inr (0, [.int x_1, .int x_5, .int x_9, .long q.2.2.2]))) := ⟨_, rfl⟩
  have hW : fm_W D fs_cl5 A M_10 s.heap H locs := by rw [eM_10]; exact hW
  have f_11 : M_10 h0 = some (.inr (0, [.int x_1, .int x_5, .int x_9, .long q.2.2.2])) := by rw [eM_10]; exact fm_us
  have f_12 := (show M_10 h1 = M_6 h1 by rw [eM_10]; exact fm_un (by omega)).trans f_8
  refine lv_aload_n hx hb dP_copyFrom_24 rfl (lv_at hl 0 rfl) ?_
  refine lv_aload_n hx hb dP_copyFrom_25 rfl (lv_at hl 1 rfl) ?_
  refine fm_get (ci := 0) (v := .long q2.2.2.2) (C := RP) (T := TP) (N := 4) hx hb hT inP hown hK hW f_12 rfl 3 (by decide) (hT _ fl_P_21) (fun _ h9 => h9) rfl dP_copyFrom_26 ?_
  refine lv_topl (fun x_13 ex_13 => ?_)
  refine fm_put (ci := 0) (v := .long x_13) (ty := .long) (C := RP) (T := TP) (N := 4) hx hb hT inP tyP tkP nmP hown hK hW f_11 rfl 3 (by decide) (hT _ fl_P_21) (fun _ h9 => h9) rfl (by decide +kernel) rfl rfl (Nat.le_of_ble_eq_true rfl) dP_copyFrom_29 (fun H locs hW => ?_)
  obtain ⟨M_14, eM_14⟩ : ∃ z : fm_M, z = va_up M_10 h0 (some (.inr (0, [.int x_1, .int x_5, .int x_9, .long x_13]))) := ⟨_, rfl⟩
  have hW : fm_W D fs_cl5 A M_14 s.heap H locs := by rw [eM_14]; exact hW
  have f_15 : M_14 h0 = some (.inr (0, [.int x_1, .int x_5, .int x_9, .long x_13])) := by rw [eM_14]; exact fm_us
  have f_16 := (show M_14 h1 = M_10 h1 by rw [eM_14]; exact fm_un (by omega)).trans f_12
  exact fm_vret hx hb hr hlocks hW (by rw [eM_14, eM_10, eM_6, eM_2, fm_uu, fm_uu, fm_uu]; subst ex_13; subst ex_9; subst ex_5; subst ex_1; rfl) dP_copyFrom_32
set_option maxHeartbeats 4000000 in
set_option maxRecDepth 100000 in
theorem c_P_multiplyBy (l : Launch) (D : va_G) (ct : Nat → ClassId) (A : Nat → Prop) (M : fm_M) (h0 : Nat) (q : fs_Q) (h1 : Nat) (q2 : fs_Q) (hM : M h0 = some (fs_PE q))(hM2 : M h1 = some (fs_PE q2)) (hne : h1 ≠ h0) : Met l yP_multiplyBy wP_multiplyBy ({ frames := 1, cells := 0, slots := 0, locals := 20 }) (va_Pc [.ref h0, .ref h1] (fm_St D fs_cl5 (fs_tys ct) fs_nw A M)) (va_Qv (fun (M1 : fm_M) => M1 = va_up M h0 (some (fs_PE (fs_mb q q2)))) (fm_B D fs_cl5 A) A) 0 0 A := by
  refine Met.ofW (cc := cP_multiplyBy) (maxL := 8) (ret := none) (by decide) rfl ?_
  intro p e s m args below meth c s₁ B hml hv
  obtain ⟨rfl, hP0, hA0, hA1, hK, hN⟩ := hv
  have hx := B.exec
  have hb := B.bytes
  have hr := B.returns
  have hts := atoms_spec (ws := wP_multiplyBy) B.pre
  have hT : ∀ w ∈ fs_tb, w.before _ s = true := fun w h => hts w (List.mem_cons_of_mem _ h)
  have hown : s.vm.findClass "FrameSamples$Pauli" = some m.cls := findClass_of_methodNamed B.named
  have hlocks := B.notSynchronized
  have hW : fm_W D fs_cl5 A M s.heap s.heap [] := ⟨hP0, hA0, va_S.rf, hA1⟩
  have hl := lv_entry ([.ref h0, .ref h1]) (n := 8) (Nat.le_of_ble_eq_true rfl)
  rw [lg_entry_eq]
  generalize (lg_sl ([.ref h0, .ref h1]) ++ List.replicate (8 - (lg_sl ([.ref h0, .ref h1])).length) Slot.unset).toArray = ls at hl ⊢
  have hl : lv_has ls 8 [(0, .ref h0), (1, .ref h1)] := hl
  refine lv_aload_n hx hb dP_multiplyBy_0 rfl (lv_at hl 1 rfl) ?_
  refine fm_get (ci := 0) (v := .int q2.1) (C := RP) (T := TP) (N := 4) hx hb hT inP hown hK hW hM2 rfl 0 (by decide) (hT _ fl_P_9) (fun _ h9 => h9) rfl dP_multiplyBy_1 ?_
  refine lv_aload_n hx hb dP_multiplyBy_4 rfl (lv_at hl 1 rfl) ?_
  refine fm_get (ci := 0) (v := .int q2.2.1) (C := RP) (T := TP) (N := 4) hx hb hT inP hown hK hW hM2 rfl 1 (by decide) (hT _ fl_P_15) (fun _ h9 => h9) rfl dP_multiplyBy_5 ?_
  refine lv_iand hx hb dP_multiplyBy_8 ?_
  refine lv_topi (fun x_1 ex_1 => ?_)
  refine lv_istore_n (lv' := [(2, .int x_1), (0, .ref h0), (1, .ref h1)]) hx hb dP_multiplyBy_9 rfl hl (by decide) rfl (fun ls hl => ?_)
  refine lv_aload_n hx hb dP_multiplyBy_10 rfl (lv_at hl 2 rfl) ?_
  refine fm_get (ci := 0) (v := .int q2.1) (C := RP) (T := TP) (N := 4) hx hb hT inP hown hK hW hM2 rfl 0 (by decide) (hT _ fl_P_9) (fun _ h9 => h9) rfl dP_multiplyBy_11 ?_
  refine lv_aload_n hx hb dP_multiplyBy_14 rfl (lv_at hl 2 rfl) ?_
  refine fm_get (ci := 0) (v := .int q2.2.1) (C := RP) (T := TP) (N := 4) hx hb hT inP hown hK hW hM2 rfl 1 (by decide) (hT _ fl_P_15) (fun _ h9 => h9) rfl dP_multiplyBy_15 ?_
  refine lv_iconst (v := -1) hx hb dP_multiplyBy_18 (by decide) ?_
  refine lv_ixor hx hb dP_multiplyBy_19 ?_
  refine lv_iand hx hb dP_multiplyBy_20 ?_
  refine lv_topi (fun x_2 ex_2 => ?_)
  refine lv_istore_n (lv' := [(3, .int x_2), (2, .int x_1), (0, .ref h0), (1, .ref h1)]) hx hb dP_multiplyBy_21 rfl hl (by decide) rfl (fun ls hl => ?_)
  refine lv_aload_n hx hb dP_multiplyBy_22 rfl (lv_at hl 3 rfl) ?_
  refine fm_get (ci := 0) (v := .int q2.2.1) (C := RP) (T := TP) (N := 4) hx hb hT inP hown hK hW hM2 rfl 1 (by decide) (hT _ fl_P_15) (fun _ h9 => h9) rfl dP_multiplyBy_23 ?_
  refine lv_aload_n hx hb dP_multiplyBy_26 rfl (lv_at hl 3 rfl) ?_
  refine fm_get (ci := 0) (v := .int q2.1) (C := RP) (T := TP) (N := 4) hx hb hT inP hown hK hW hM2 rfl 0 (by decide) (hT _ fl_P_9) (fun _ h9 => h9) rfl dP_multiplyBy_27 ?_
  refine lv_iconst (v := -1) hx hb dP_multiplyBy_30 (by decide) ?_
  refine lv_ixor hx hb dP_multiplyBy_31 ?_
  refine lv_iand hx hb dP_multiplyBy_32 ?_
  refine lv_topi (fun x_3 ex_3 => ?_)
  refine lv_istore (lv' := [(4, .int x_3), (3, .int x_2), (2, .int x_1), (0, .ref h0), (1, .ref h1)]) hx hb dP_multiplyBy_33 hl (by decide) rfl (fun ls hl => ?_)
  refine lv_iload_n hx hb dP_multiplyBy_35 rfl (lv_at hl 2 rfl) ?_
  refine lv_aload_n hx hb dP_multiplyBy_36 rfl (lv_at hl 3 rfl) ?_
  refine fm_get (ci := 0) (v := .int q.2.1) (C := RP) (T := TP) (N := 4) hx hb hT inP hown hK hW hM rfl 1 (by decide) (hT _ fl_P_15) (fun _ h9 => h9) rfl dP_multiplyBy_37 ?_
  refine lv_iand hx hb dP_multiplyBy_40 ?_
  refine lv_aload_n hx hb dP_multiplyBy_41 rfl (lv_at hl 3 rfl) ?_
  refine fm_get (ci := 0) (v := .int q.1) (C := RP) (T := TP) (N := 4) hx hb hT inP hown hK hW hM rfl 0 (by decide) (hT _ fl_P_9) (fun _ h9 => h9) rfl dP_multiplyBy_42 ?_
  refine lv_iconst (v := -1) hx hb dP_multiplyBy_45 (by decide) ?_
  refine lv_ixor hx hb dP_multiplyBy_46 ?_
  refine lv_iand hx hb dP_multiplyBy_47 ?_
  refine lv_iload_n hx hb dP_multiplyBy_48 rfl (lv_at hl 1 rfl) ?_
  refine lv_aload_n hx hb dP_multiplyBy_49 rfl (lv_at hl 3 rfl) ?_
  refine fm_get (ci := 0) (v := .int q.1) (C := RP) (T := TP) (N := 4) hx hb hT inP hown hK hW hM rfl 0 (by decide) (hT _ fl_P_9) (fun _ h9 => h9) rfl dP_multiplyBy_50 ?_
  refine lv_iand hx hb dP_multiplyBy_53 ?_
  refine lv_aload_n hx hb dP_multiplyBy_54 rfl (lv_at hl 3 rfl) ?_
  refine fm_get (ci := 0) (v := .int q.2.1) (C := RP) (T := TP) (N := 4) hx hb hT inP hown hK hW hM rfl 1 (by decide) (hT _ fl_P_15) (fun _ h9 => h9) rfl dP_multiplyBy_55 ?_
  refine lv_iand hx hb dP_multiplyBy_58 ?_
  refine lv_ior hx hb dP_multiplyBy_59 ?_
  refine lv_iload hx hb dP_multiplyBy_60 (lv_at hl 0 rfl) ?_
  refine lv_aload_n hx hb dP_multiplyBy_62 rfl (lv_at hl 3 rfl) ?_
  refine fm_get (ci := 0) (v := .int q.1) (C := RP) (T := TP) (N := 4) hx hb hT inP hown hK hW hM rfl 0 (by decide) (hT _ fl_P_9) (fun _ h9 => h9) rfl dP_multiplyBy_63 ?_
  refine lv_iand hx hb dP_multiplyBy_66 ?_
  refine lv_aload_n hx hb dP_multiplyBy_67 rfl (lv_at hl 3 rfl) ?_
  refine fm_get (ci := 0) (v := .int q.2.1) (C := RP) (T := TP) (N := 4) hx hb hT inP hown hK hW hM rfl 1 (by decide) (hT _ fl_P_15) (fun _ h9 => h9) rfl dP_multiplyBy_68 ?_
  refine lv_iconst (v := -1) hx hb dP_multiplyBy_71 (by decide) ?_
  refine lv_ixor hx hb dP_multiplyBy_72 ?_
  refine lv_iand hx hb dP_multiplyBy_73 ?_
  refine lv_ior hx hb dP_multiplyBy_74 ?_
  refine lv_topi (fun x_4 ex_4 => ?_)
  refine lv_istore (lv' := [(5, .int x_4), (4, .int x_3), (3, .int x_2), (2, .int x_1), (0, .ref h0), (1, .ref h1)]) hx hb dP_multiplyBy_75 hl (by decide) rfl (fun ls hl => ?_)
  refine lv_iload_n hx hb dP_multiplyBy_77 rfl (lv_at hl 3 rfl) ?_
  refine lv_aload_n hx hb dP_multiplyBy_78 rfl (lv_at hl 4 rfl) ?_
  refine fm_get (ci := 0) (v := .int q.1) (C := RP) (T := TP) (N := 4) hx hb hT inP hown hK hW hM rfl 0 (by decide) (hT _ fl_P_9) (fun _ h9 => h9) rfl dP_multiplyBy_79 ?_
  refine lv_iand hx hb dP_multiplyBy_82 ?_
  refine lv_aload_n hx hb dP_multiplyBy_83 rfl (lv_at hl 4 rfl) ?_
  refine fm_get (ci := 0) (v := .int q.2.1) (C := RP) (T := TP) (N := 4) hx hb hT inP hown hK hW hM rfl 1 (by decide) (hT _ fl_P_15) (fun _ h9 => h9) rfl dP_multiplyBy_84 ?_
  refine lv_iconst (v := -1) hx hb dP_multiplyBy_87 (by decide) ?_
  refine lv_ixor hx hb dP_multiplyBy_88 ?_
  refine lv_iand hx hb dP_multiplyBy_89 ?_
  refine lv_iload_n hx hb dP_multiplyBy_90 rfl (lv_at hl 2 rfl) ?_
  refine lv_aload_n hx hb dP_multiplyBy_91 rfl (lv_at hl 4 rfl) ?_
  refine fm_get (ci := 0) (v := .int q.2.1) (C := RP) (T := TP) (N := 4) hx hb hT inP hown hK hW hM rfl 1 (by decide) (hT _ fl_P_15) (fun _ h9 => h9) rfl dP_multiplyBy_92 ?_
  refine lv_iand hx hb dP_multiplyBy_95 ?_
  refine lv_aload_n hx hb dP_multiplyBy_96 rfl (lv_at hl 4 rfl) ?_
  refine fm_get (ci := 0) (v := .int q.1) (C := RP) (T := TP) (N := 4) hx hb hT inP hown hK hW hM rfl 0 (by decide) (hT _ fl_P_9) (fun _ h9 => h9) rfl dP_multiplyBy_97 ?_
  refine lv_iconst (v := -1) hx hb dP_multiplyBy_100 (by decide) ?_
  refine lv_ixor hx hb dP_multiplyBy_101 ?_
  refine lv_iand hx hb dP_multiplyBy_102 ?_
  refine lv_ior hx hb dP_multiplyBy_103 ?_
  refine lv_iload hx hb dP_multiplyBy_104 (lv_at hl 1 rfl) ?_
  refine lv_aload_n hx hb dP_multiplyBy_106 rfl (lv_at hl 4 rfl) ?_
  refine fm_get (ci := 0) (v := .int q.1) (C := RP) (T := TP) (N := 4) hx hb hT inP hown hK hW hM rfl 0 (by decide) (hT _ fl_P_9) (fun _ h9 => h9) rfl dP_multiplyBy_107 ?_
  refine lv_iand hx hb dP_multiplyBy_110 ?_
  refine lv_aload_n hx hb dP_multiplyBy_111 rfl (lv_at hl 4 rfl) ?_
  refine fm_get (ci := 0) (v := .int q.2.1) (C := RP) (T := TP) (N := 4) hx hb hT inP hown hK hW hM rfl 1 (by decide) (hT _ fl_P_15) (fun _ h9 => h9) rfl dP_multiplyBy_112 ?_
  refine lv_iand hx hb dP_multiplyBy_115 ?_
  refine lv_ior hx hb dP_multiplyBy_116 ?_
  refine lv_topi (fun x_5 ex_5 => ?_)
  refine lv_istore (lv' := [(6, .int x_5), (5, .int x_4), (4, .int x_3), (3, .int x_2), (2, .int x_1), (0, .ref h0), (1, .ref h1)]) hx hb dP_multiplyBy_117 hl (by decide) rfl (fun ls hl => ?_)
  refine lv_iload hx hb dP_multiplyBy_119 (lv_at hl 1 rfl) ?_
  refine fm_calli (va_runS (As := [.int x_4]) (rest := []) ⟨hx, hb, hml, hown, hts⟩ (c_JI_bitCount l D ct A M x_4) ⟨callB_of 1 hts (fs_gin co_JI_bitCount) rfl rfl rfl (hT _ ini_JI) (hT _ ml_P_47) (by decide +kernel) ⟨Nat.le_of_ble_eq_true rfl, Nat.le_of_ble_eq_true rfl⟩, hT _ st_JI_bitCount⟩ (fn_pre fs_isnw hK hN hW) rfl rfl hl.1 rfl (lv_room (Nat.le_of_ble_eq_true rfl)) dP_multiplyBy_121 ⟨Nat.le_of_ble_eq_true rfl, Nat.le_of_ble_eq_true rfl⟩) hW (fun r_6 M_7 H locs hp_8 hW => ?_)
  have hW : fm_W D fs_cl5 A M s.heap H locs := by rw [← hp_8.2]; exact hW
  have er_6 := hp_8.1
  refine lv_iload hx hb dP_multiplyBy_124 (lv_at hl 0 rfl) ?_
  refine fm_calli (va_runS (As := [.int x_5]) (rest := [.int r_6]) ⟨hx, hb, hml, hown, hts⟩ (c_JI_bitCount l D ct A M x_5) ⟨callB_of 1 hts (fs_gin co_JI_bitCount) rfl rfl rfl (hT _ ini_JI) (hT _ ml_P_47) (by decide +kernel) ⟨Nat.le_of_ble_eq_true rfl, Nat.le_of_ble_eq_true rfl⟩, hT _ st_JI_bitCount⟩ (fn_pre fs_isnw hK hN hW) rfl rfl hl.1 rfl (lv_room (Nat.le_of_ble_eq_true rfl)) dP_multiplyBy_126 ⟨Nat.le_of_ble_eq_true rfl, Nat.le_of_ble_eq_true rfl⟩) hW (fun r_9 M_10 H locs hp_11 hW => ?_)
  have hW : fm_W D fs_cl5 A M s.heap H locs := by rw [← hp_11.2]; exact hW
  have er_9 := hp_11.1
  refine lv_isub hx hb dP_multiplyBy_129 ?_
  refine lv_topi (fun x_12 ex_12 => ?_)
  refine lv_istore (lv' := [(7, .int x_12), (6, .int x_5), (5, .int x_4), (4, .int x_3), (3, .int x_2), (2, .int x_1), (0, .ref h0), (1, .ref h1)]) hx hb dP_multiplyBy_130 hl (by decide) rfl (fun ls hl => ?_)
  refine lv_aload_n hx hb dP_multiplyBy_132 rfl (lv_at hl 6 rfl) ?_
  refine lv_dup hx hb dP_multiplyBy_133 rfl ?_
  refine fm_get (ci := 0) (v := .int q.2.2.1) (C := RP) (T := TP) (N := 4) hx hb hT inP hown hK hW hM rfl 2 (by decide) (hT _ fl_P_18) (fun _ h9 => h9) rfl dP_multiplyBy_134 ?_
  refine lv_aload_n hx hb dP_multiplyBy_137 rfl (lv_at hl 7 rfl) ?_
  refine fm_get (ci := 0) (v := .int q2.2.2.1) (C := RP) (T := TP) (N := 4) hx hb hT inP hown hK hW hM2 rfl 2 (by decide) (hT _ fl_P_18) (fun _ h9 => h9) rfl dP_multiplyBy_138 ?_
  refine lv_iload hx hb dP_multiplyBy_141 (lv_at hl 0 rfl) ?_
  refine lv_iconst (v := 1) hx hb dP_multiplyBy_143 (by decide) ?_
  refine lv_ishr hx hb dP_multiplyBy_144 ?_
  refine lv_iconst (v := 1) hx hb dP_multiplyBy_145 (by decide) ?_
  refine lv_iand hx hb dP_multiplyBy_146 ?_
  refine lv_ixor hx hb dP_multiplyBy_147 ?_
  refine lv_ixor hx hb dP_multiplyBy_148 ?_
  refine lv_topi (fun x_13 ex_13 => ?_)
  refine fm_put (ci := 0) (v := .int x_13) (ty := .int) (C := RP) (T := TP) (N := 4) hx hb hT inP tyP tkP nmP hown hK hW hM rfl 2 (by decide) (hT _ fl_P_18) (fun _ h9 => h9) rfl (by decide +kernel) rfl rfl (Nat.le_of_ble_eq_true rfl) dP_multiplyBy_149 (fun H locs hW => ?_)
  obtain ⟨M_14, eM_14⟩ : ∃ z : fm_M, z = va_up M h0 (some (.inr (0, [.int q.1, .int q.2.1, .int x_13, .long q.2.2.2]))) := ⟨_, rfl⟩
  have hW : fm_W D fs_cl5 A M_14 s.heap H locs := by rw [eM_14]; exact hW
  have f_15 : M_14 h0 = some (.inr (0, [.int q.1, .int q.2.1, .int x_13, .long q.2.2.2])) := by rw [eM_14]; exact fm_us
  have f_16 := (show M_14 h1 = M h1 by rw [eM_14]; exact fm_un (by omega)).trans hM2
  refine lv_aload_n hx hb dP_multiplyBy_152 rfl (lv_at hl 6 rfl) ?_
  refine lv_dup hx hb dP_multiplyBy_153 rfl ?_
  refine fm_get (ci := 0) (v := .long q.2.2.2) (C := RP) (T := TP) (N := 4) hx hb hT inP hown hK hW f_15 rfl 3 (by decide) (hT _ fl_P_21) (fun _ h9 => h9) rfl dP_multiplyBy_154 ?_
  refine lv_aload_n hx hb dP_multiplyBy_157 rfl (lv_at hl 7 rfl) ?_
  refine fm_get (ci := 0) (v := .long q2.2.2.2) (C := RP) (T := TP) (N := 4) hx hb hT inP hown hK hW f_16 rfl 3 (by decide) (hT _ fl_P_21) (fun _ h9 => h9) rfl dP_multiplyBy_158 ?_
  refine lv_lxor hx hb dP_multiplyBy_161 ?_
  refine lv_topl (fun x_17 ex_17 => ?_)
  refine fm_put (ci := 0) (v := .long x_17) (ty := .long) (C := RP) (T := TP) (N := 4) hx hb hT inP tyP tkP nmP hown hK hW f_15 rfl 3 (by decide) (hT _ fl_P_21) (fun _ h9 => h9) rfl (by decide +kernel) rfl rfl (Nat.le_of_ble_eq_true rfl) dP_multiplyBy_162 (fun H locs hW => ?_)
  obtain ⟨M_18, eM_18⟩ : ∃ z : fm_M, z = va_up M_14 h0 (some (.inr (0, [.int q.1, .int q.2.1, .int x_13, .long x_17]))) := ⟨_, rfl⟩
  have hW : fm_W D fs_cl5 A M_18 s.heap H locs := by rw [eM_18]; exact hW
  have f_19 : M_18 h0 = some (.inr (0, [.int q.1, .int q.2.1, .int x_13, .long x_17])) := by rw [eM_18]; exact fm_us
  have f_20 := (show M_18 h1 = M_14 h1 by rw [eM_18]; exact fm_un (by omega)).trans f_16
  refine lv_aload_n hx hb dP_multiplyBy_165 rfl (lv_at hl 6 rfl) ?_
  refine lv_dup hx hb dP_multiplyBy_166 rfl ?_
  refine fm_get (ci := 0) (v := .int q.1) (C := RP) (T := TP) (N := 4) hx hb hT inP hown hK hW f_19 rfl 0 (by decide) (hT _ fl_P_9) (fun _ h9 => h9) rfl dP_multiplyBy_167 ?_
  refine lv_aload_n hx hb dP_multiplyBy_170 rfl (lv_at hl 7 rfl) ?_
  refine fm_get (ci := 0) (v := .int q2.1) (C := RP) (T := TP) (N := 4) hx hb hT inP hown hK hW f_20 rfl 0 (by decide) (hT _ fl_P_9) (fun _ h9 => h9) rfl dP_multiplyBy_171 ?_
  refine lv_ixor hx hb dP_multiplyBy_174 ?_
  refine lv_topi (fun x_21 ex_21 => ?_)
  refine fm_put (ci := 0) (v := .int x_21) (ty := .int) (C := RP) (T := TP) (N := 4) hx hb hT inP tyP tkP nmP hown hK hW f_19 rfl 0 (by decide) (hT _ fl_P_9) (fun _ h9 => h9) rfl (by decide +kernel) rfl rfl (Nat.le_of_ble_eq_true rfl) dP_multiplyBy_175 (fun H locs hW => ?_)
  obtain ⟨M_22, eM_22⟩ : ∃ z : fm_M, z = va_up M_18 h0 (some (.inr (0, [.int x_21, .int q.2.1, .int x_13, .long x_17]))) := ⟨_, rfl⟩
  have hW : fm_W D fs_cl5 A M_22 s.heap H locs := by rw [eM_22]; exact hW
  have f_23 : M_22 h0 = some (.inr (0, [.int x_21, .int q.2.1, .int x_13, .long x_17])) := by rw [eM_22]; exact fm_us
  have f_24 := (show M_22 h1 = M_18 h1 by rw [eM_22]; exact fm_un (by omega)).trans f_20
  refine lv_aload_n hx hb dP_multiplyBy_178 rfl (lv_at hl 6 rfl) ?_
  refine lv_dup hx hb dP_multiplyBy_179 rfl ?_
  refine fm_get (ci := 0) (v := .int q.2.1) (C := RP) (T := TP) (N := 4) hx hb hT inP hown hK hW f_23 rfl 1 (by decide) (hT _ fl_P_15) (fun _ h9 => h9) rfl dP_multiplyBy_180 ?_
  refine lv_aload_n hx hb dP_multiplyBy_183 rfl (lv_at hl 7 rfl) ?_
  refine fm_get (ci := 0) (v := .int q2.2.1) (C := RP) (T := TP) (N := 4) hx hb hT inP hown hK hW f_24 rfl 1 (by decide) (hT _ fl_P_15) (fun _ h9 => h9) rfl dP_multiplyBy_184 ?_
  refine lv_ixor hx hb dP_multiplyBy_187 ?_
  refine lv_topi (fun x_25 ex_25 => ?_)
  refine fm_put (ci := 0) (v := .int x_25) (ty := .int) (C := RP) (T := TP) (N := 4) hx hb hT inP tyP tkP nmP hown hK hW f_23 rfl 1 (by decide) (hT _ fl_P_15) (fun _ h9 => h9) rfl (by decide +kernel) rfl rfl (Nat.le_of_ble_eq_true rfl) dP_multiplyBy_188 (fun H locs hW => ?_)
  obtain ⟨M_26, eM_26⟩ : ∃ z : fm_M, z = va_up M_22 h0 (some (.inr (0, [.int x_21, .int x_25, .int x_13, .long x_17]))) := ⟨_, rfl⟩
  have hW : fm_W D fs_cl5 A M_26 s.heap H locs := by rw [eM_26]; exact hW
  have f_27 : M_26 h0 = some (.inr (0, [.int x_21, .int x_25, .int x_13, .long x_17])) := by rw [eM_26]; exact fm_us
  have f_28 := (show M_26 h1 = M_22 h1 by rw [eM_26]; exact fm_un (by omega)).trans f_24
  exact fm_vret hx hb hr hlocks hW (by rw [eM_26, eM_22, eM_18, eM_14, fm_uu, fm_uu, fm_uu]; subst ex_25; subst ex_21; subst ex_17; subst ex_13; subst ex_12; subst er_9; subst er_6; subst ex_5; subst ex_4; subst ex_3; subst ex_2; subst ex_1; rfl) dP_multiplyBy_191
set_option maxHeartbeats 4000000 in
set_option maxRecDepth 100000 in
theorem c_P_pass (l : Launch) (D : va_G) (ct : Nat → ClassId) (A : Nat → Prop) (M : fm_M) (h0 : Nat) (q : fs_Q) (k a b : Int32)(hM : M h0 = some (fs_PE q)) : Met l yP_pass wP_pass ({ frames := 2, cells := 0, slots := 0, locals := 43 }) (va_Pc [.ref h0, .int k, .int a, .int b] (fm_St D fs_cl5 (fs_tys ct) fs_nw A M)) (va_Qv (fun (M1 : fm_M) => M1 = va_up M h0 (some (fs_PE (fs_ps q k a b)))) (fm_B D fs_cl5 A) A) 0 0 A := by
  refine Met.ofW (cc := cP_pass) (maxL := 4) (ret := none) (by decide) rfl ?_
  intro p e s m args below meth c s₁ B hml hv
  obtain ⟨rfl, hP0, hA0, hA1, hK, hN⟩ := hv
  have hx := B.exec
  have hb := B.bytes
  have hr := B.returns
  have hts := atoms_spec (ws := wP_pass) B.pre
  have hT : ∀ w ∈ fs_tb, w.before _ s = true := fun w h => hts w (List.mem_cons_of_mem _ h)
  have hown : s.vm.findClass "FrameSamples$Pauli" = some m.cls := findClass_of_methodNamed B.named
  have hlocks := B.notSynchronized
  have hW : fm_W D fs_cl5 A M s.heap s.heap [] := ⟨hP0, hA0, va_S.rf, hA1⟩
  have hl := lv_entry ([.ref h0, .int k, .int a, .int b]) (n := 4) (Nat.le_of_ble_eq_true rfl)
  rw [lg_entry_eq]
  generalize (lg_sl ([.ref h0, .int k, .int a, .int b]) ++ List.replicate (4 - (lg_sl ([.ref h0, .int k, .int a, .int b])).length) Slot.unset).toArray = ls at hl ⊢
  have hl : lv_has ls 4 [(0, .ref h0), (1, .int k), (2, .int a), (3, .int b)] := hl
  refine lv_iload_n hx hb dP_pass_0 rfl (lv_at hl 1 rfl) ?_
  by_cases hk0 : k = 0
  · subst hk0
    refine lv_tableIn (off := 43) (tgt := 44) hx hb dP_pass_1 (by decide) (by decide) rfl (by decide) ?_
    refine lv_aload_n hx hb dP_pass_44 rfl (lv_at hl 0 rfl) ?_
    refine lv_iload_n hx hb dP_pass_45 rfl (lv_at hl 2 rfl) ?_
    refine fm_callv (va_runV (As := [.int a]) (rest := []) ⟨hx, hb, hml, hown, hts⟩ (c_P_passH l D ct A M h0 (q.1, q.2.1, q.2.2.1, q.2.2.2) a hM) ⟨callB_of 1 hts (fs_gin co_P_passH) rfl rfl rfl (hT _ ini_P) (hT _ ml_P_25) (by decide +kernel) ⟨Nat.le_of_ble_eq_true rfl, Nat.le_of_ble_eq_true rfl⟩, hT _ im_P_passH, hT _ se_P_passH⟩ (fn_preV fs_isnw hK hN hW hM rfl) rfl rfl hl.1 rfl (lv_room (Nat.le_of_ble_eq_true rfl)) dP_pass_46 ⟨Nat.le_of_ble_eq_true rfl, Nat.le_of_ble_eq_true rfl⟩) hW (fun M_2 H locs hp_3 hW => ?_)
    have f_4 := (congrFun hp_3 h0).trans fm_us
    refine lv_goto (tgt := 151) hx hb dP_pass_49 (by decide) ?_
    exact fm_vret hx hb hr hlocks hW (by rw [hp_3]; rfl) dP_pass_151
  by_cases hk1 : k = 1
  · subst hk1
    refine lv_tableIn (off := 51) (tgt := 52) hx hb dP_pass_1 (by decide) (by decide) rfl (by decide) ?_
    refine lv_aload_n hx hb dP_pass_52 rfl (lv_at hl 0 rfl) ?_
    refine lv_iload_n hx hb dP_pass_53 rfl (lv_at hl 2 rfl) ?_
    refine fm_callv (va_runV (As := [.int a]) (rest := []) ⟨hx, hb, hml, hown, hts⟩ (c_P_passS l D ct A M h0 (q.1, q.2.1, q.2.2.1, q.2.2.2) a hM) ⟨callB_of 1 hts (fs_gin co_P_passS) rfl rfl rfl (hT _ ini_P) (hT _ ml_P_29) (by decide +kernel) ⟨Nat.le_of_ble_eq_true rfl, Nat.le_of_ble_eq_true rfl⟩, hT _ im_P_passS, hT _ se_P_passS⟩ (fn_preV fs_isnw hK hN hW hM rfl) rfl rfl hl.1 rfl (lv_room (Nat.le_of_ble_eq_true rfl)) dP_pass_54 ⟨Nat.le_of_ble_eq_true rfl, Nat.le_of_ble_eq_true rfl⟩) hW (fun M_6 H locs hp_7 hW => ?_)
    have f_8 := (congrFun hp_7 h0).trans fm_us
    refine lv_goto (tgt := 151) hx hb dP_pass_57 (by decide) ?_
    exact fm_vret hx hb hr hlocks hW (by rw [hp_7]; rfl) dP_pass_151
  by_cases hk2 : k = 2
  · subst hk2
    refine lv_tableIn (off := 59) (tgt := 60) hx hb dP_pass_1 (by decide) (by decide) rfl (by decide) ?_
    refine lv_aload_n hx hb dP_pass_60 rfl (lv_at hl 0 rfl) ?_
    refine lv_iload_n hx hb dP_pass_61 rfl (lv_at hl 2 rfl) ?_
    refine lv_iload_n hx hb dP_pass_62 rfl (lv_at hl 3 rfl) ?_
    refine fm_callv (va_runV (As := [.int a, .int b]) (rest := []) ⟨hx, hb, hml, hown, hts⟩ (c_P_passControlledX l D ct A M h0 (q.1, q.2.1, q.2.2.1, q.2.2.2) a b hM) ⟨callB_of 2 hts (fs_gin co_P_passControlledX) rfl rfl rfl (hT _ ini_P) (hT _ ml_P_32) (by decide +kernel) ⟨Nat.le_of_ble_eq_true rfl, Nat.le_of_ble_eq_true rfl⟩, hT _ im_P_passControlledX, hT _ se_P_passControlledX⟩ (fn_preV fs_isnw hK hN hW hM rfl) rfl rfl hl.1 rfl (lv_room (Nat.le_of_ble_eq_true rfl)) dP_pass_63 ⟨Nat.le_of_ble_eq_true rfl, Nat.le_of_ble_eq_true rfl⟩) hW (fun M_10 H locs hp_11 hW => ?_)
    have f_12 := (congrFun hp_11 h0).trans fm_us
    refine lv_goto (tgt := 151) hx hb dP_pass_66 (by decide) ?_
    exact fm_vret hx hb hr hlocks hW (by rw [hp_11]; rfl) dP_pass_151
  by_cases hk3 : k = 3
  · subst hk3
    refine lv_tableIn (off := 68) (tgt := 69) hx hb dP_pass_1 (by decide) (by decide) rfl (by decide) ?_
    refine lv_aload_n hx hb dP_pass_69 rfl (lv_at hl 0 rfl) ?_
    refine lv_iload_n hx hb dP_pass_70 rfl (lv_at hl 3 rfl) ?_
    refine fm_callv (va_runV (As := [.int b]) (rest := []) ⟨hx, hb, hml, hown, hts⟩ (c_P_passH l D ct A M h0 (q.1, q.2.1, q.2.2.1, q.2.2.2) b hM) ⟨callB_of 1 hts (fs_gin co_P_passH) rfl rfl rfl (hT _ ini_P) (hT _ ml_P_25) (by decide +kernel) ⟨Nat.le_of_ble_eq_true rfl, Nat.le_of_ble_eq_true rfl⟩, hT _ im_P_passH, hT _ se_P_passH⟩ (fn_preV fs_isnw hK hN hW hM rfl) rfl rfl hl.1 rfl (lv_room (Nat.le_of_ble_eq_true rfl)) dP_pass_71 ⟨Nat.le_of_ble_eq_true rfl, Nat.le_of_ble_eq_true rfl⟩) hW (fun M_14 H locs hp_15 hW => ?_)
    have f_16 := (congrFun hp_15 h0).trans fm_us
    refine lv_aload_n hx hb dP_pass_74 rfl (lv_at hl 0 rfl) ?_
    refine lv_iload_n hx hb dP_pass_75 rfl (lv_at hl 2 rfl) ?_
    refine lv_iload_n hx hb dP_pass_76 rfl (lv_at hl 3 rfl) ?_
    refine fm_callv (va_runV (As := [.int a, .int b]) (rest := []) ⟨hx, hb, hml, hown, hts⟩ (c_P_passControlledX l D ct A M_14 h0 (fs_pH (q.1, q.2.1, q.2.2.1, q.2.2.2) b) a b f_16) ⟨callB_of 2 hts (fs_gin co_P_passControlledX) rfl rfl rfl (hT _ ini_P) (hT _ ml_P_32) (by decide +kernel) ⟨Nat.le_of_ble_eq_true rfl, Nat.le_of_ble_eq_true rfl⟩, hT _ im_P_passControlledX, hT _ se_P_passControlledX⟩ (fn_preV fs_isnw hK hN hW f_16 rfl) rfl rfl hl.1 rfl (lv_room (Nat.le_of_ble_eq_true rfl)) dP_pass_77 ⟨Nat.le_of_ble_eq_true rfl, Nat.le_of_ble_eq_true rfl⟩) hW (fun M_18 H locs hp_19 hW => ?_)
    have f_20 := (congrFun hp_19 h0).trans fm_us
    refine lv_aload_n hx hb dP_pass_80 rfl (lv_at hl 0 rfl) ?_
    refine lv_iload_n hx hb dP_pass_81 rfl (lv_at hl 3 rfl) ?_
    refine fm_callv (va_runV (As := [.int b]) (rest := []) ⟨hx, hb, hml, hown, hts⟩ (c_P_passH l D ct A M_18 h0 (fs_pC (fs_pH (q.1, q.2.1, q.2.2.1, q.2.2.2) b) a b) b f_20) ⟨callB_of 1 hts (fs_gin co_P_passH) rfl rfl rfl (hT _ ini_P) (hT _ ml_P_25) (by decide +kernel) ⟨Nat.le_of_ble_eq_true rfl, Nat.le_of_ble_eq_true rfl⟩, hT _ im_P_passH, hT _ se_P_passH⟩ (fn_preV fs_isnw hK hN hW f_20 rfl) rfl rfl hl.1 rfl (lv_room (Nat.le_of_ble_eq_true rfl)) dP_pass_82 ⟨Nat.le_of_ble_eq_true rfl, Nat.le_of_ble_eq_true rfl⟩) hW (fun M_22 H locs hp_23 hW => ?_)
    have f_24 := (congrFun hp_23 h0).trans fm_us
    refine lv_goto (tgt := 151) hx hb dP_pass_85 (by decide) ?_
    exact fm_vret hx hb hr hlocks hW (by rw [hp_23, hp_19, hp_15, fm_uu, fm_uu]; rfl) dP_pass_151
  by_cases hk4 : k = 4
  · subst hk4
    refine lv_tableIn (off := 87) (tgt := 88) hx hb dP_pass_1 (by decide) (by decide) rfl (by decide) ?_
    refine lv_aload_n hx hb dP_pass_88 rfl (lv_at hl 0 rfl) ?_
    refine lv_aload_n hx hb dP_pass_89 rfl (lv_at hl 0 rfl) ?_
    refine fm_get (ci := 0) (v := .int q.1) (C := RP) (T := TP) (N := 4) hx hb hT inP hown hK hW hM rfl 0 (by decide) (hT _ fl_P_9) (fun _ h9 => h9) rfl dP_pass_90 ?_
    refine lv_iload_n hx hb dP_pass_93 rfl (lv_at hl 2 rfl) ?_
    refine lv_iload_n hx hb dP_pass_94 rfl (lv_at hl 3 rfl) ?_
    refine fm_calli (va_runS (As := [.int q.1, .int a, .int b]) (rest := [.ref h0]) ⟨hx, hb, hml, hown, hts⟩ (c_P_swapBits l D ct A M q.1 a b) ⟨callB_of 3 hts (fs_gin co_P_swapBits) rfl rfl rfl (hT _ ini_P) (hT _ ml_P_36) (by decide +kernel) ⟨Nat.le_of_ble_eq_true rfl, Nat.le_of_ble_eq_true rfl⟩, hT _ st_P_swapBits⟩ (fn_pre fs_isnw hK hN hW) rfl rfl hl.1 rfl (lv_room (Nat.le_of_ble_eq_true rfl)) dP_pass_95 ⟨Nat.le_of_ble_eq_true rfl, Nat.le_of_ble_eq_true rfl⟩) hW (fun r_25 M_26 H locs hp_27 hW => ?_)
    have hW : fm_W D fs_cl5 A M s.heap H locs := by rw [← hp_27.2]; exact hW
    have er_25 := hp_27.1
    refine fm_put (ci := 0) (v := .int r_25) (ty := .int) (C := RP) (T := TP) (N := 4) hx hb hT inP tyP tkP nmP hown hK hW hM rfl 0 (by decide) (hT _ fl_P_9) (fun _ h9 => h9) rfl (by decide +kernel) rfl rfl (Nat.le_of_ble_eq_true rfl) dP_pass_98 (fun H locs hW => ?_)
    obtain ⟨M_28, eM_28⟩ : ∃ z : fm_M, z = va_up M h0 (some (.inr (0, [.int r_25, .int q.2.1, .int q.2.2.1, .long q.2.2.2]))) := ⟨_, rfl⟩
    have hW : fm_W D fs_cl5 A M_28 s.heap H locs := by rw [eM_28]; exact hW
    have f_29 : M_28 h0 = some (.inr (0, [.int r_25, .int q.2.1, .int q.2.2.1, .long q.2.2.2])) := by rw [eM_28]; exact fm_us
    refine lv_aload_n hx hb dP_pass_101 rfl (lv_at hl 0 rfl) ?_
    refine lv_aload_n hx hb dP_pass_102 rfl (lv_at hl 0 rfl) ?_
    refine fm_get (ci := 0) (v := .int q.2.1) (C := RP) (T := TP) (N := 4) hx hb hT inP hown hK hW f_29 rfl 1 (by decide) (hT _ fl_P_15) (fun _ h9 => h9) rfl dP_pass_103 ?_
    refine lv_iload_n hx hb dP_pass_106 rfl (lv_at hl 2 rfl) ?_
    refine lv_iload_n hx hb dP_pass_107 rfl (lv_at hl 3 rfl) ?_
    refine fm_calli (va_runS (As := [.int q.2.1, .int a, .int b]) (rest := [.ref h0]) ⟨hx, hb, hml, hown, hts⟩ (c_P_swapBits l D ct A M_28 q.2.1 a b) ⟨callB_of 3 hts (fs_gin co_P_swapBits) rfl rfl rfl (hT _ ini_P) (hT _ ml_P_36) (by decide +kernel) ⟨Nat.le_of_ble_eq_true rfl, Nat.le_of_ble_eq_true rfl⟩, hT _ st_P_swapBits⟩ (fn_pre fs_isnw hK hN hW) rfl rfl hl.1 rfl (lv_room (Nat.le_of_ble_eq_true rfl)) dP_pass_108 ⟨Nat.le_of_ble_eq_true rfl, Nat.le_of_ble_eq_true rfl⟩) hW (fun r_30 M_31 H locs hp_32 hW => ?_)
    have hW : fm_W D fs_cl5 A M_28 s.heap H locs := by rw [← hp_32.2]; exact hW
    have er_30 := hp_32.1
    refine fm_put (ci := 0) (v := .int r_30) (ty := .int) (C := RP) (T := TP) (N := 4) hx hb hT inP tyP tkP nmP hown hK hW f_29 rfl 1 (by decide) (hT _ fl_P_15) (fun _ h9 => h9) rfl (by decide +kernel) rfl rfl (Nat.le_of_ble_eq_true rfl) dP_pass_111 (fun H locs hW => ?_)
    obtain ⟨M_33, eM_33⟩ : ∃ z : fm_M, z = va_up M_28 h0 (some (.inr (0, [.int r_25, .int r_30, .int q.2.2.1, .long q.2.2.2]))) := ⟨_, rfl⟩
    have hW : fm_W D fs_cl5 A M_33 s.heap H locs := by rw [eM_33]; exact hW
    have f_34 : M_33 h0 = some (.inr (0, [.int r_25, .int r_30, .int q.2.2.1, .long q.2.2.2])) := by rw [eM_33]; exact fm_us
    refine lv_goto (tgt := 151) hx hb dP_pass_114 (by decide) ?_
    exact fm_vret hx hb hr hlocks hW (by rw [eM_33, eM_28, fm_uu]; subst er_30; subst er_25; rfl) dP_pass_151
  by_cases hk5 : k = 5
  · subst hk5
    refine lv_tableIn (off := 116) (tgt := 117) hx hb dP_pass_1 (by decide) (by decide) rfl (by decide) ?_
    refine lv_aload_n hx hb dP_pass_117 rfl (lv_at hl 0 rfl) ?_
    refine lv_dup hx hb dP_pass_118 rfl ?_
    refine fm_get (ci := 0) (v := .int q.2.2.1) (C := RP) (T := TP) (N := 4) hx hb hT inP hown hK hW hM rfl 2 (by decide) (hT _ fl_P_18) (fun _ h9 => h9) rfl dP_pass_119 ?_
    refine lv_aload_n hx hb dP_pass_122 rfl (lv_at hl 0 rfl) ?_
    refine lv_iload_n hx hb dP_pass_123 rfl (lv_at hl 2 rfl) ?_
    refine fm_calli (va_runV (As := [.int a]) (rest := [.int q.2.2.1, .ref h0]) ⟨hx, hb, hml, hown, hts⟩ (c_P_zOn l D ct A M h0 (q.1, q.2.1, q.2.2.1, q.2.2.2) a hM) ⟨callB_of 1 hts (fs_gin co_P_zOn) rfl rfl rfl (hT _ ini_P) (hT _ ml_P_40) (by decide +kernel) ⟨Nat.le_of_ble_eq_true rfl, Nat.le_of_ble_eq_true rfl⟩, hT _ im_P_zOn, hT _ se_P_zOn⟩ (fn_preV fs_isnw hK hN hW hM rfl) rfl rfl hl.1 rfl (lv_room (Nat.le_of_ble_eq_true rfl)) dP_pass_124 ⟨Nat.le_of_ble_eq_true rfl, Nat.le_of_ble_eq_true rfl⟩) hW (fun r_35 M_36 H locs hp_37 hW => ?_)
    have hW : fm_W D fs_cl5 A M s.heap H locs := by rw [← hp_37.2]; exact hW
    have er_35 := hp_37.1
    refine lv_ixor hx hb dP_pass_127 ?_
    refine lv_topi (fun x_38 ex_38 => ?_)
    refine fm_put (ci := 0) (v := .int x_38) (ty := .int) (C := RP) (T := TP) (N := 4) hx hb hT inP tyP tkP nmP hown hK hW hM rfl 2 (by decide) (hT _ fl_P_18) (fun _ h9 => h9) rfl (by decide +kernel) rfl rfl (Nat.le_of_ble_eq_true rfl) dP_pass_128 (fun H locs hW => ?_)
    obtain ⟨M_39, eM_39⟩ : ∃ z : fm_M, z = va_up M h0 (some (.inr (0, [.int q.1, .int q.2.1, .int x_38, .long q.2.2.2]))) := ⟨_, rfl⟩
    have hW : fm_W D fs_cl5 A M_39 s.heap H locs := by rw [eM_39]; exact hW
    have f_40 : M_39 h0 = some (.inr (0, [.int q.1, .int q.2.1, .int x_38, .long q.2.2.2])) := by rw [eM_39]; exact fm_us
    refine lv_goto (tgt := 151) hx hb dP_pass_131 (by decide) ?_
    exact fm_vret hx hb hr hlocks hW (by rw [eM_39]; subst ex_38; subst er_35; rfl) dP_pass_151
  by_cases hk6 : k = 6
  · subst hk6
    refine lv_tableIn (off := 133) (tgt := 134) hx hb dP_pass_1 (by decide) (by decide) rfl (by decide) ?_
    refine lv_aload_n hx hb dP_pass_134 rfl (lv_at hl 0 rfl) ?_
    refine lv_dup hx hb dP_pass_135 rfl ?_
    refine fm_get (ci := 0) (v := .int q.2.2.1) (C := RP) (T := TP) (N := 4) hx hb hT inP hown hK hW hM rfl 2 (by decide) (hT _ fl_P_18) (fun _ h9 => h9) rfl dP_pass_136 ?_
    refine lv_aload_n hx hb dP_pass_139 rfl (lv_at hl 0 rfl) ?_
    refine lv_iload_n hx hb dP_pass_140 rfl (lv_at hl 2 rfl) ?_
    refine fm_calli (va_runV (As := [.int a]) (rest := [.int q.2.2.1, .ref h0]) ⟨hx, hb, hml, hown, hts⟩ (c_P_xOn l D ct A M h0 (q.1, q.2.1, q.2.2.1, q.2.2.2) a hM) ⟨callB_of 1 hts (fs_gin co_P_xOn) rfl rfl rfl (hT _ ini_P) (hT _ ml_P_44) (by decide +kernel) ⟨Nat.le_of_ble_eq_true rfl, Nat.le_of_ble_eq_true rfl⟩, hT _ im_P_xOn, hT _ se_P_xOn⟩ (fn_preV fs_isnw hK hN hW hM rfl) rfl rfl hl.1 rfl (lv_room (Nat.le_of_ble_eq_true rfl)) dP_pass_141 ⟨Nat.le_of_ble_eq_true rfl, Nat.le_of_ble_eq_true rfl⟩) hW (fun r_41 M_42 H locs hp_43 hW => ?_)
    have hW : fm_W D fs_cl5 A M s.heap H locs := by rw [← hp_43.2]; exact hW
    have er_41 := hp_43.1
    refine lv_ixor hx hb dP_pass_144 ?_
    refine lv_topi (fun x_44 ex_44 => ?_)
    refine fm_put (ci := 0) (v := .int x_44) (ty := .int) (C := RP) (T := TP) (N := 4) hx hb hT inP tyP tkP nmP hown hK hW hM rfl 2 (by decide) (hT _ fl_P_18) (fun _ h9 => h9) rfl (by decide +kernel) rfl rfl (Nat.le_of_ble_eq_true rfl) dP_pass_145 (fun H locs hW => ?_)
    obtain ⟨M_45, eM_45⟩ : ∃ z : fm_M, z = va_up M h0 (some (.inr (0, [.int q.1, .int q.2.1, .int x_44, .long q.2.2.2]))) := ⟨_, rfl⟩
    have hW : fm_W D fs_cl5 A M_45 s.heap H locs := by rw [eM_45]; exact hW
    have f_46 : M_45 h0 = some (.inr (0, [.int q.1, .int q.2.1, .int x_44, .long q.2.2.2])) := by rw [eM_45]; exact fm_us
    refine lv_goto (tgt := 151) hx hb dP_pass_148 (by decide) ?_
    exact fm_vret hx hb hr hlocks hW (by rw [eM_45]; subst ex_44; subst er_41; rfl) dP_pass_151
  refine lv_tableOut (tgt := 151) hx hb dP_pass_1 (fs_swo (n := 6) (by decide) (fs_le6 hk0 hk1 hk2 hk3 hk4 hk5 hk6)) (by decide) ?_
  exact fm_vret hx hb hr hlocks hW (by rw [show fs_ps q k a b = q by unfold fs_ps; rw [if_neg hk0, if_neg hk1, if_neg hk2, if_neg hk3, if_neg hk4, if_neg hk5, if_neg hk6]]; exact (fm_same hM).symm) dP_pass_151
end
section
-- a loop with a counter; the cells of a tableau
theorem fm_loop {p : Program} {l : Launch} {e : Env} {R : Room} {s : State} {m : MethodId} {args : Array Value} {below : List Frame} {meth : Method} {c : Code} {cells slots : Nat} {Q : State → Prop} {D : va_G} {cl : List vw_C} {A : Nat → Prop} {H0 : Heap} {head maxL : Nat} {σ : Type} (N : Nat) (I : Nat → σ → fm_M → Prop) (lvf : Nat → σ → List (Nat × Value))
    (step : ∀ (i : Nat) (u : σ) (M : fm_M) (H : Heap) (locs : List Loc) (ls : Array Slot), i < N → I i u M → fm_W D cl A M H0 H locs → lv_has ls maxL (lvf i u) →
      (∀ (u' : σ) (M' : fm_M) (H' : Heap) (locs' : List Loc) (ls' : Array Slot), I (i + 1) u' M' → fm_W D cl A M' H0 H' locs' → lv_has ls' maxL (lvf (i + 1) u') → W p l e R s m args below meth c H' locs' cells slots Q (F0 m head ls' [])) → W p l e R s m args below meth c H locs cells slots Q (F0 m head ls []))
    (ex : ∀ (u : σ) (M : fm_M) (H : Heap) (locs : List Loc) (ls : Array Slot), I N u M → fm_W D cl A M H0 H locs → lv_has ls maxL (lvf N u) → W p l e R s m args below meth c H locs cells slots Q (F0 m head ls [])) :
    ∀ (k i : Nat), i + k = N → ∀ (u : σ) (M : fm_M) (H : Heap) (locs : List Loc) (ls : Array Slot), I i u M → fm_W D cl A M H0 H locs → lv_has ls maxL (lvf i u) → W p l e R s m args below meth c H locs cells slots Q (F0 m head ls []) := by
  intro k
  induction k with
  | zero =>
    intro i hi u M H locs ls h1 h2 h3
    have : i = N := by omega
    subst this
    exact ex u M H locs ls h1 h2 h3
  | succ k ih =>
    intro i hi u M H locs ls h1 h2 h3
    exact step i u M H locs ls (by omega) h1 h2 h3 (fun u' M' H' locs' ls' g1 g2 g3 => ih (i + 1) (by omega) u' M' H' locs' ls' g1 g2 g3)
def fs_rk (b : Nat) : Nat → Option Nat := fun i => if i < 10 then some (b + 4 + 2 * i) else none
def fs_rp (b : Nat) : Nat → Option Nat := fun i => if i < 10 then some (b + 5 + 2 * i) else none
theorem fs_rk_at {b i : Nat} (h : i < 10) : fs_rk b (nI i).toNatClampNeg = some (b + 4 + 2 * i) := by
  rw [nI_clamp (by omega)]
  exact if_pos h
theorem fs_rp_at {b i : Nat} (h : i < 10) : fs_rp b (nI i).toNatClampNeg = some (b + 5 + 2 * i) := by
  rw [nI_clamp (by omega)]
  exact if_pos h
abbrev fs_ra (c : ClassId) (n : Nat) (f : Nat → Option Nat) : va_E := .inl (c, n, .inr (.inr (.inr (.inr f))))
def fs_TB (ct : Nat → ClassId) (M : fm_M) (b : Nat) (kp pn : Nat → fs_Q) (pr : fs_Q) (w : Int32) : Prop :=
  M (b + 1) = some (.inr (1, [.ref (b + 2), .ref (b + 3), .ref (b + 24), .int w])) ∧ M (b + 2) = some (fs_ra (ct 3) 10 (fs_rk b)) ∧ M (b + 3) = some (fs_ra (ct 3) 10 (fs_rp b)) ∧
  (∀ i, i < 10 → M (b + 4 + 2 * i) = some (fs_PE (kp i))) ∧ (∀ i, i < 10 → M (b + 5 + 2 * i) = some (fs_PE (pn i))) ∧ M (b + 24) = some (fs_PE pr)
theorem fs_TB_frame {ct : Nat → ClassId} {M M' : fm_M} {b : Nat} {kp pn : Nat → fs_Q} {pr : fs_Q} {w : Int32} (T : fs_TB ct M b kp pn pr w) (h : ∀ a, b + 1 ≤ a → a < b + 25 → M' a = M a) : fs_TB ct M' b kp pn pr w := by
  obtain ⟨t1, t2, t3, t4, t5, t6⟩ := T
  exact ⟨by rw [h _ (by omega) (by omega)]; exact t1, by rw [h _ (by omega) (by omega)]; exact t2, by rw [h _ (by omega) (by omega)]; exact t3, fun i hi => by rw [h _ (by omega) (by omega)]; exact t4 i hi, fun i hi => by rw [h _ (by omega) (by omega)]; exact t5 i hi, by rw [h _ (by omega) (by omega)]; exact t6⟩
theorem fs_TB_K {ct : Nat → ClassId} {M : fm_M} {b : Nat} {kp pn : Nat → fs_Q} {pr : fs_Q} {w : Int32} (T : fs_TB ct M b kp pn pr w) {i : Nat} (hi : i < 10) (q : fs_Q) : fs_TB ct (va_up M (b + 4 + 2 * i) (some (fs_PE q))) b (va_up kp i q) pn pr w := by
  obtain ⟨t1, t2, t3, t4, t5, t6⟩ := T
  refine ⟨(fm_un (by omega)).trans t1, (fm_un (by omega)).trans t2, (fm_un (by omega)).trans t3, fun j hj => ?_, fun j hj => (fm_un (by omega)).trans (t5 j hj), (fm_un (by omega)).trans t6⟩
  by_cases h : j = i
  · subst h
    rw [fm_us, show va_up kp j q j = q from if_pos rfl]
  · rw [fm_un (by omega), show va_up kp i q j = kp j from if_neg h]
    exact t4 j hj
theorem fs_TB_P {ct : Nat → ClassId} {M : fm_M} {b : Nat} {kp pn : Nat → fs_Q} {pr : fs_Q} {w : Int32} (T : fs_TB ct M b kp pn pr w) {i : Nat} (hi : i < 10) (q : fs_Q) : fs_TB ct (va_up M (b + 5 + 2 * i) (some (fs_PE q))) b kp (va_up pn i q) pr w := by
  obtain ⟨t1, t2, t3, t4, t5, t6⟩ := T
  refine ⟨(fm_un (by omega)).trans t1, (fm_un (by omega)).trans t2, (fm_un (by omega)).trans t3, fun j hj => (fm_un (by omega)).trans (t4 j hj), fun j hj => ?_, (fm_un (by omega)).trans t6⟩
  by_cases h : j = i
  · subst h
    rw [fm_us, show va_up pn j q j = q from if_pos rfl]
  · rw [fm_un (by omega), show va_up pn i q j = pn j from if_neg h]
    exact t5 j hj
theorem fs_TB_R {ct : Nat → ClassId} {M : fm_M} {b : Nat} {kp pn : Nat → fs_Q} {pr : fs_Q} {w : Int32} (T : fs_TB ct M b kp pn pr w) (q : fs_Q) : fs_TB ct (va_up M (b + 24) (some (fs_PE q))) b kp pn q w := by
  obtain ⟨t1, t2, t3, t4, t5, t6⟩ := T
  exact ⟨(fm_un (by omega)).trans t1, (fm_un (by omega)).trans t2, (fm_un (by omega)).trans t3, fun j hj => (fm_un (by omega)).trans (t4 j hj), fun j hj => (fm_un (by omega)).trans (t5 j hj), fm_us⟩
theorem fs_TB_W {ct : Nat → ClassId} {M : fm_M} {b : Nat} {kp pn : Nat → fs_Q} {pr : fs_Q} {w : Int32} (T : fs_TB ct M b kp pn pr w) (v : Int32) : fs_TB ct (va_up M (b + 1) (some (.inr (1, [.ref (b + 2), .ref (b + 3), .ref (b + 24), .int v])))) b kp pn pr v := by
  obtain ⟨t1, t2, t3, t4, t5, t6⟩ := T
  exact ⟨fm_us, (fm_un (by omega)).trans t2, (fm_un (by omega)).trans t3, fun j hj => (fm_un (by omega)).trans (t4 j hj), fun j hj => (fm_un (by omega)).trans (t5 j hj), (fm_un (by omega)).trans t6⟩
/-- nothing but the tableau has changed -/
def fs_Tf (b : Nat) (M M' : fm_M) : Prop := ∀ a, ¬ (b + 1 ≤ a ∧ a < b + 25) → M' a = M a
theorem fs_Tf_r {b : Nat} {M : fm_M} : fs_Tf b M M := fun _ _ => rfl
theorem fs_Tf_u {b : Nat} {M M' : fm_M} (h : fs_Tf b M M') {a : Nat} (ha : b + 1 ≤ a ∧ a < b + 25) (e : Option va_E) : fs_Tf b M (va_up M' a e) := fun x hx => by
  rw [fm_un (by intro z; exact hx (by rw [z]; exact ha))]
  exact h x hx
/-- a family, done up to i -/
def fs_Up {α : Type} (i : Nat) (f g h : Nat → α) : Prop := (∀ j, j < i → h j = g j) ∧ ∀ j, i ≤ j → h j = f j
theorem fs_Up_0 {α : Type} (f g : Nat → α) : fs_Up 0 f g f := ⟨fun j hj => absurd hj (Nat.not_lt_zero j), fun _ _ => rfl⟩
theorem fs_Up_s {α : Type} {i : Nat} {f g h : Nat → α} (H : fs_Up i f g h) {v : α} (hv : v = g i) : fs_Up (i + 1) f g (va_up h i v) := by
  refine ⟨fun j hj => ?_, fun j hj => ?_⟩
  · by_cases q : j = i
    · subst q
      rw [show va_up h j v j = v from if_pos rfl, hv]
    · rw [show va_up h i v j = h j from if_neg q]
      exact H.1 j (by omega)
  · rw [show va_up h i v j = h j from if_neg (by omega)]
    exact H.2 j (by omega)
theorem fs_Up_k {α : Type} {i : Nat} {f g h : Nat → α} (H : fs_Up i f g h) (hv : h i = g i) : fs_Up (i + 1) f g h := by
  refine ⟨fun j hj => ?_, fun j hj => H.2 j (by omega)⟩
  by_cases q : j = i
  · rw [q]; exact hv
  · exact H.1 j (by omega)
end
section
-- the class Tableau
set_option maxHeartbeats 4000000 in
set_option maxRecDepth 100000 in
theorem c_T_pass (l : Launch) (D : va_G) (ct : Nat → ClassId) (A : Nat → Prop) (M : fm_M) (b N : Nat) (kp pn : Nat → fs_Q) (pr : fs_Q) (k a c0 : Int32) (hTB : fs_TB ct M b kp pn pr (nI N)) (hNN : N ≤ 10) : Met l yT_pass wT_pass ({ frames := 3, cells := 0, slots := 0, locals := 66 }) (va_Pc [.ref (b + 1), .int k, .int a, .int c0] (fm_St D fs_cl5 (fs_tys ct) fs_nw A M)) (va_Qv (fun (M1 : fm_M) => ∃ kp2 pn2 : Nat → fs_Q, fs_TB ct M1 b kp2 pn2 pr (nI N) ∧ fs_Tf b M M1 ∧ (∀ i, i < N → kp2 i = fs_ps (kp i) k a c0) ∧ ∀ i, i < N → pn2 i = fs_ps (pn i) k a c0) (fm_B D fs_cl5 A) A) 0 0 A := by
  refine Met.ofW (cc := cT_pass) (maxL := 5) (ret := none) (by decide) rfl ?_
  intro p e s m args below meth c s₁ B hml hv
  obtain ⟨rfl, hP0, hA0, hA1, hK, hN⟩ := hv
  have hx := B.exec
  have hb := B.bytes
  have hr := B.returns
  have hts := atoms_spec (ws := wT_pass) B.pre
  have hT : ∀ w ∈ fs_tb, w.before _ s = true := fun w h => hts w (List.mem_cons_of_mem _ h)
  have hown : s.vm.findClass "FrameSamples$Tableau" = some m.cls := findClass_of_methodNamed B.named
  have hlocks := B.notSynchronized
  have hW : fm_W D fs_cl5 A M s.heap s.heap [] := ⟨hP0, hA0, va_S.rf, hA1⟩
  have hl := lv_entry ([.ref (b + 1), .int k, .int a, .int c0]) (n := 5) (Nat.le_of_ble_eq_true rfl)
  rw [lg_entry_eq]
  generalize (lg_sl ([.ref (b + 1), .int k, .int a, .int c0]) ++ List.replicate (5 - (lg_sl ([.ref (b + 1), .int k, .int a, .int c0])).length) Slot.unset).toArray = ls at hl ⊢
  have hl : lv_has ls 5 [(0, .ref (b + 1)), (1, .int k), (2, .int a), (3, .int c0)] := hl
  have hTf : fs_Tf b M M := fs_Tf_r
  refine lv_iconst (v := 0) hx hb dT_pass_0 (by decide) ?_
  refine lv_istore (lv' := [(4, .int 0), (0, .ref (b + 1)), (1, .int k), (2, .int a), (3, .int c0)]) hx hb dT_pass_1 hl (by decide) rfl (fun ls hl => ?_)
  refine fm_loop (head := 3) (maxL := 5) N (fun i (u : (Nat → fs_Q) × (Nat → fs_Q)) M1 => fs_TB ct M1 b u.1 u.2 pr (nI N) ∧ fs_Tf b M M1 ∧ fs_Up i kp (fun j => fs_ps (kp j) k a c0) u.1 ∧ fs_Up i pn (fun j => fs_ps (pn j) k a c0) u.2) (fun i (u : (Nat → fs_Q) × (Nat → fs_Q)) => [(4, .int (nI i)), (0, .ref (b + 1)), (1, .int k), (2, .int a), (3, .int c0)]) ?_ ?_ N 0 (by omega) (kp, pn) M _ _ ls ⟨hTB, hTf, fs_Up_0 _ _, fs_Up_0 _ _⟩ hW (lv_sub hl [0, 1, 2, 3, 4] rfl)
  · intro i u M2 H locs ls hi hI hW hl back
    obtain ⟨kp1, pn1⟩ := u
    obtain ⟨hTB, hTf, hU, hV⟩ := hI
    have hTB : fs_TB ct M2 b kp1 pn1 pr (nI N) := hTB
    have hU : fs_Up i kp (fun j => fs_ps (kp j) k a c0) kp1 := hU
    have hV : fs_Up i pn (fun j => fs_ps (pn j) k a c0) pn1 := hV
    have hl : lv_has ls 5 [(4, .int (nI i)), (0, .ref (b + 1)), (1, .int k), (2, .int a), (3, .int c0)] := hl
    refine lv_iload hx hb dT_pass_3 (lv_at hl 0 rfl) ?_
    refine lv_aload_n hx hb dT_pass_5 rfl (lv_at hl 1 rfl) ?_
    refine fm_get (ci := 1) (v := .int (nI N)) (C := RT) (T := TT) (N := 4) hx hb hT inT hown hK hW hTB.1 rfl 3 (by decide) (hT _ fl_T_31) (fun _ h9 => h9) rfl dT_pass_6 ?_
    refine lv_icmp_ge (tgt := 44) hx hb dT_pass_9 (by decide) (fun c_1 => ?_) (fun c_1 => ?_)
    · exact absurd c_1 (nI_ge hi (by omega))
    · refine lv_aload_n hx hb dT_pass_12 rfl (lv_at hl 1 rfl) ?_
      refine fm_get (ci := 1) (v := .ref (b + 2)) (C := RT) (T := TT) (N := 4) hx hb hT inT hown hK hW hTB.1 rfl 0 (by decide) (hT _ fl_T_11) (fun _ h9 => h9) rfl dT_pass_13 ?_
      refine lv_iload hx hb dT_pass_16 (lv_at hl 0 rfl) ?_
      refine fm_aald hx hb hK hW 3 hTB.2.1 rfl (vp_in_nI (N := 10) (by omega) (by decide)) (fs_rk_at (by omega)) dT_pass_18 ?_
      refine lv_iload_n hx hb dT_pass_19 rfl (lv_at hl 2 rfl) ?_
      refine lv_iload_n hx hb dT_pass_20 rfl (lv_at hl 3 rfl) ?_
      refine lv_iload_n hx hb dT_pass_21 rfl (lv_at hl 4 rfl) ?_
      refine fm_callv (va_runV (As := [.int k, .int a, .int c0]) (rest := []) ⟨hx, hb, hml, hown, hts⟩ (c_P_pass l D ct A M2 (b + 4 + 2 * i) (kp1 i) k a c0 (hTB.2.2.2.1 i (by omega))) ⟨callB_of 3 hts (fs_gin co_P_pass) rfl rfl rfl (hT _ ini_P) (hT _ ml_T_39) (by decide +kernel) ⟨Nat.le_of_ble_eq_true rfl, Nat.le_of_ble_eq_true rfl⟩, hT _ im_P_pass, hT _ se_P_pass⟩ (fn_preV fs_isnw hK hN hW (hTB.2.2.2.1 i (by omega)) rfl) rfl rfl hl.1 rfl (lv_room (Nat.le_of_ble_eq_true rfl)) dT_pass_22 ⟨Nat.le_of_ble_eq_true rfl, Nat.le_of_ble_eq_true rfl⟩) hW (fun M_3 H locs hp_4 hW => ?_)
      have f_5 := ((congrFun hp_4 (b + 1)).trans (fm_un (by omega))).trans hTB.1
      have f_6 := ((congrFun hp_4 (b + 24)).trans (fm_un (by omega))).trans hTB.2.2.2.2.2
      have f_7 := (congrFun hp_4 (b + 4 + 2 * i)).trans fm_us
      have hTB : fs_TB ct M_3 b (va_up kp1 i (fs_ps (kp1 i) k a c0)) pn1 pr (nI N) := by rw [hp_4]; exact fs_TB_K hTB (by omega) (fs_ps (kp1 i) k a c0)
      have hTf : fs_Tf b M M_3 := by rw [hp_4]; exact fs_Tf_u hTf (by omega) _
      refine lv_aload_n hx hb dT_pass_25 rfl (lv_at hl 1 rfl) ?_
      refine fm_get (ci := 1) (v := .ref (b + 3)) (C := RT) (T := TT) (N := 4) hx hb hT inT hown hK hW f_5 rfl 1 (by decide) (hT _ fl_T_17) (fun _ h9 => h9) rfl dT_pass_26 ?_
      refine lv_iload hx hb dT_pass_29 (lv_at hl 0 rfl) ?_
      refine fm_aald hx hb hK hW 3 hTB.2.2.1 rfl (vp_in_nI (N := 10) (by omega) (by decide)) (fs_rp_at (by omega)) dT_pass_31 ?_
      refine lv_iload_n hx hb dT_pass_32 rfl (lv_at hl 2 rfl) ?_
      refine lv_iload_n hx hb dT_pass_33 rfl (lv_at hl 3 rfl) ?_
      refine lv_iload_n hx hb dT_pass_34 rfl (lv_at hl 4 rfl) ?_
      refine fm_callv (va_runV (As := [.int k, .int a, .int c0]) (rest := []) ⟨hx, hb, hml, hown, hts⟩ (c_P_pass l D ct A M_3 (b + 5 + 2 * i) (pn1 i) k a c0 (hTB.2.2.2.2.1 i (by omega))) ⟨callB_of 3 hts (fs_gin co_P_pass) rfl rfl rfl (hT _ ini_P) (hT _ ml_T_39) (by decide +kernel) ⟨Nat.le_of_ble_eq_true rfl, Nat.le_of_ble_eq_true rfl⟩, hT _ im_P_pass, hT _ se_P_pass⟩ (fn_preV fs_isnw hK hN hW (hTB.2.2.2.2.1 i (by omega)) rfl) rfl rfl hl.1 rfl (lv_room (Nat.le_of_ble_eq_true rfl)) dT_pass_35 ⟨Nat.le_of_ble_eq_true rfl, Nat.le_of_ble_eq_true rfl⟩) hW (fun M_9 H locs hp_10 hW => ?_)
      have f_11 := ((congrFun hp_10 (b + 1)).trans (fm_un (by omega))).trans f_5
      have f_12 := ((congrFun hp_10 (b + 24)).trans (fm_un (by omega))).trans f_6
      have f_13 := ((congrFun hp_10 (b + 4 + 2 * i)).trans (fm_un (by omega))).trans f_7
      have f_14 := (congrFun hp_10 (b + 5 + 2 * i)).trans fm_us
      have hTB : fs_TB ct M_9 b (va_up kp1 i (fs_ps (kp1 i) k a c0)) (va_up pn1 i (fs_ps (pn1 i) k a c0)) pr (nI N) := by rw [hp_10]; exact fs_TB_P hTB (by omega) (fs_ps (pn1 i) k a c0)
      have hTf : fs_Tf b M M_9 := by rw [hp_10]; exact fs_Tf_u hTf (by omega) _
      refine lv_iinc (v := nI (i + 1)) (lv' := [(4, .int (nI (i + 1))), (0, .ref (b + 1)), (1, .int k), (2, .int a), (3, .int c0)]) hx hb dT_pass_38 hl (k := 0) rfl (by show nI i + 1 = nI (i + 1); exact nI_1 i) (by decide) rfl (fun ls hl => ?_)
      refine lv_goto (tgt := 3) hx hb dT_pass_41 (by decide) ?_
      exact back (_, _) _ _ _ ls ⟨hTB, hTf, fs_Up_s hU (by rw [hU.2 i (Nat.le_refl i)]), fs_Up_s hV (by rw [hV.2 i (Nat.le_refl i)])⟩ hW (lv_sub hl [0, 1, 2, 3, 4] rfl)
  · intro u M2 H locs ls hI hW hl
    obtain ⟨kp1, pn1⟩ := u
    obtain ⟨hTB, hTf, hU, hV⟩ := hI
    have hTB : fs_TB ct M2 b kp1 pn1 pr (nI N) := hTB
    have hU : fs_Up N kp (fun j => fs_ps (kp j) k a c0) kp1 := hU
    have hV : fs_Up N pn (fun j => fs_ps (pn j) k a c0) pn1 := hV
    have hl : lv_has ls 5 [(4, .int (nI N)), (0, .ref (b + 1)), (1, .int k), (2, .int a), (3, .int c0)] := hl
    refine lv_iload hx hb dT_pass_3 (lv_at hl 0 rfl) ?_
    refine lv_aload_n hx hb dT_pass_5 rfl (lv_at hl 1 rfl) ?_
    refine fm_get (ci := 1) (v := .int (nI N)) (C := RT) (T := TT) (N := 4) hx hb hT inT hown hK hW hTB.1 rfl 3 (by decide) (hT _ fl_T_31) (fun _ h9 => h9) rfl dT_pass_6 ?_
    refine lv_icmp_ge (tgt := 44) hx hb dT_pass_9 (by decide) (fun c_15 => ?_) (fun c_15 => ?_)
    · exact fm_vret hx hb hr hlocks hW ⟨kp1, pn1, hTB, hTf, fun i hi => hU.1 i hi, fun i hi => hV.1 i hi⟩ dT_pass_44
    · exact absurd (nI_le (Nat.le_refl N) (by omega)) c_15
set_option maxHeartbeats 4000000 in
set_option maxRecDepth 100000 in
theorem c_T_start (l : Launch) (D : va_G) (ct : Nat → ClassId) (A : Nat → Prop) (M : fm_M) (b N : Nat) (kp pn : Nat → fs_Q) (pr : fs_Q) (w0 : Int32) (hTB : fs_TB ct M b kp pn pr w0) (hNN : N ≤ 10) : Met l yT_start wT_start ({ frames := 1, cells := 0, slots := 0, locals := 22 }) (va_Pc [.ref (b + 1), .int (nI N)] (fm_St D fs_cl5 (fs_tys ct) fs_nw A M)) (va_Qv (fun (M1 : fm_M) => ∃ kp2 pn2 : Nat → fs_Q, fs_TB ct M1 b kp2 pn2 pr (nI N) ∧ fs_Tf b M M1 ∧ (∀ i, i < N → kp2 i = ((0, 1 <<< (nI i &&& 31), 0, 0) : fs_Q)) ∧ ∀ i, i < N → pn2 i = ((1 <<< (nI i &&& 31), 0, 0, 0) : fs_Q)) (fm_B D fs_cl5 A) A) 0 0 A := by
  refine Met.ofW (cc := cT_start) (maxL := 3) (ret := none) (by decide) rfl ?_
  intro p e s m args below meth c s₁ B hml hv
  obtain ⟨rfl, hP0, hA0, hA1, hK, hN⟩ := hv
  have hx := B.exec
  have hb := B.bytes
  have hr := B.returns
  have hts := atoms_spec (ws := wT_start) B.pre
  have hT : ∀ w ∈ fs_tb, w.before _ s = true := fun w h => hts w (List.mem_cons_of_mem _ h)
  have hown : s.vm.findClass "FrameSamples$Tableau" = some m.cls := findClass_of_methodNamed B.named
  have hlocks := B.notSynchronized
  have hW : fm_W D fs_cl5 A M s.heap s.heap [] := ⟨hP0, hA0, va_S.rf, hA1⟩
  have hl := lv_entry ([.ref (b + 1), .int (nI N)]) (n := 3) (Nat.le_of_ble_eq_true rfl)
  rw [lg_entry_eq]
  generalize (lg_sl ([.ref (b + 1), .int (nI N)]) ++ List.replicate (3 - (lg_sl ([.ref (b + 1), .int (nI N)])).length) Slot.unset).toArray = ls at hl ⊢
  have hl : lv_has ls 3 [(0, .ref (b + 1)), (1, .int (nI N))] := hl
  have hTf : fs_Tf b M M := fs_Tf_r
  refine lv_aload_n hx hb dT_start_0 rfl (lv_at hl 0 rfl) ?_
  refine lv_iload_n hx hb dT_start_1 rfl (lv_at hl 1 rfl) ?_
  refine lv_bipush (v := 10) hx hb dT_start_2 (by decide) ?_
  refine va_mmin hx hb (by rw [hml]; exact hl.1.symm) hown (hT _ ml_T_25) (hT _ st_JM_min) (hT _ ini_JM) (hT _ co_JM_min) (Nat.le_of_ble_eq_true rfl) (Nat.le_of_ble_eq_true rfl) (Nat.le_refl _) (Nat.le_refl _) dT_start_4 ?_
  refine lv_topi (fun r_1 er_1 => ?_)
  have er_1 : r_1 = nI N := by rw [er_1, if_neg (show ¬ (10 : Int32) < nI N from nI_nlt (a := 10) hNN (by decide))]
  subst er_1
  refine fm_put (ci := 1) (v := .int (nI N)) (ty := .int) (C := RT) (T := TT) (N := 4) hx hb hT inT tyT tkT nmT hown hK hW hTB.1 rfl 3 (by decide) (hT _ fl_T_31) (fun _ h9 => h9) rfl (by decide +kernel) rfl rfl (Nat.le_of_ble_eq_true rfl) dT_start_7 (fun H locs hW => ?_)
  obtain ⟨M_2, eM_2⟩ : ∃ z : fm_M, z = va_up M (b + 1) (some (.inr (1, [.ref (b + 2), .ref (b + 3), .ref (b + 24), .int (nI N)]))) := ⟨_, rfl⟩
  have hW : fm_W D fs_cl5 A M_2 s.heap H locs := by rw [eM_2]; exact hW
  have f_3 : M_2 (b + 1) = some (.inr (1, [.ref (b + 2), .ref (b + 3), .ref (b + 24), .int (nI N)])) := by rw [eM_2]; exact fm_us
  have f_4 := (show M_2 (b + 24) = M (b + 24) by rw [eM_2]; exact fm_un (by omega)).trans hTB.2.2.2.2.2
  have hTB : fs_TB ct M_2 b kp pn pr (nI N) := by rw [eM_2]; exact fs_TB_W hTB _
  have hTf : fs_Tf b M M_2 := by rw [eM_2]; exact fs_Tf_u hTf (by omega) _
  refine lv_iconst (v := 0) hx hb dT_start_10 (by decide) ?_
  refine lv_istore_n (lv' := [(2, .int 0), (0, .ref (b + 1)), (1, .int (nI N))]) hx hb dT_start_11 rfl hl (by decide) rfl (fun ls hl => ?_)
  refine fm_loop (head := 12) (maxL := 3) N (fun i (u : (Nat → fs_Q) × (Nat → fs_Q)) M1 => fs_TB ct M1 b u.1 u.2 pr (nI N) ∧ fs_Tf b M M1 ∧ fs_Up i kp (fun j => ((0, 1 <<< (nI j &&& 31), 0, 0) : fs_Q)) u.1 ∧ fs_Up i pn (fun j => ((1 <<< (nI j &&& 31), 0, 0, 0) : fs_Q)) u.2) (fun i (u : (Nat → fs_Q) × (Nat → fs_Q)) => [(2, .int (nI i)), (0, .ref (b + 1))]) ?_ ?_ N 0 (by omega) (kp, pn) M_2 _ _ ls ⟨hTB, hTf, fs_Up_0 _ _, fs_Up_0 _ _⟩ hW (lv_sub hl [0, 1] rfl)
  · intro i u M2 H locs ls hi hI hW hl back
    obtain ⟨kp1, pn1⟩ := u
    obtain ⟨hTB, hTf, hU, hV⟩ := hI
    have hTB : fs_TB ct M2 b kp1 pn1 pr (nI N) := hTB
    have hU : fs_Up i kp (fun j => ((0, 1 <<< (nI j &&& 31), 0, 0) : fs_Q)) kp1 := hU
    have hV : fs_Up i pn (fun j => ((1 <<< (nI j &&& 31), 0, 0, 0) : fs_Q)) pn1 := hV
    have hl : lv_has ls 3 [(2, .int (nI i)), (0, .ref (b + 1))] := hl
    refine lv_iload_n hx hb dT_start_12 rfl (lv_at hl 0 rfl) ?_
    refine lv_aload_n hx hb dT_start_13 rfl (lv_at hl 1 rfl) ?_
    refine fm_get (ci := 1) (v := .int (nI N)) (C := RT) (T := TT) (N := 4) hx hb hT inT hown hK hW hTB.1 rfl 3 (by decide) (hT _ fl_T_31) (fun _ h9 => h9) rfl dT_start_14 ?_
    refine lv_icmp_ge (tgt := 52) hx hb dT_start_17 (by decide) (fun c_5 => ?_) (fun c_5 => ?_)
    · exact absurd c_5 (nI_ge hi (by omega))
    · refine lv_aload_n hx hb dT_start_20 rfl (lv_at hl 1 rfl) ?_
      refine fm_get (ci := 1) (v := .ref (b + 2)) (C := RT) (T := TT) (N := 4) hx hb hT inT hown hK hW hTB.1 rfl 0 (by decide) (hT _ fl_T_11) (fun _ h9 => h9) rfl dT_start_21 ?_
      refine lv_iload_n hx hb dT_start_24 rfl (lv_at hl 0 rfl) ?_
      refine fm_aald hx hb hK hW 3 hTB.2.1 rfl (vp_in_nI (N := 10) (by omega) (by decide)) (fs_rk_at (by omega)) dT_start_25 ?_
      refine lv_iconst (v := 0) hx hb dT_start_26 (by decide) ?_
      refine lv_iconst (v := 1) hx hb dT_start_27 (by decide) ?_
      refine lv_iload_n hx hb dT_start_28 rfl (lv_at hl 0 rfl) ?_
      refine lv_ishl hx hb dT_start_29 ?_
      refine fm_callv (va_runV (As := [.int 0, .int (1 <<< ((nI i) &&& 31))]) (rest := []) ⟨hx, hb, hml, hown, hts⟩ (c_P_become l D ct A M2 (b + 4 + 2 * i) (kp1 i) 0 (1 <<< ((nI i) &&& 31)) (hTB.2.2.2.1 i (by omega))) ⟨callB_of 2 hts (fs_gin co_P_become) rfl rfl rfl (hT _ ini_P) (hT _ ml_T_35) (by decide +kernel) ⟨Nat.le_of_ble_eq_true rfl, Nat.le_of_ble_eq_true rfl⟩, hT _ im_P_become, hT _ se_P_become⟩ (fn_preV fs_isnw hK hN hW (hTB.2.2.2.1 i (by omega)) rfl) rfl rfl hl.1 rfl (lv_room (Nat.le_of_ble_eq_true rfl)) dT_start_30 ⟨Nat.le_of_ble_eq_true rfl, Nat.le_of_ble_eq_true rfl⟩) hW (fun M_7 H locs hp_8 hW => ?_)
      have f_9 := ((congrFun hp_8 (b + 1)).trans (fm_un (by omega))).trans hTB.1
      have f_10 := ((congrFun hp_8 (b + 24)).trans (fm_un (by omega))).trans hTB.2.2.2.2.2
      have f_11 := (congrFun hp_8 (b + 4 + 2 * i)).trans fm_us
      have hTB : fs_TB ct M_7 b (va_up kp1 i (0, 1 <<< ((nI i) &&& 31), 0, 0)) pn1 pr (nI N) := by rw [hp_8]; exact fs_TB_K hTB (by omega) (0, 1 <<< ((nI i) &&& 31), 0, 0)
      have hTf : fs_Tf b M M_7 := by rw [hp_8]; exact fs_Tf_u hTf (by omega) _
      refine lv_aload_n hx hb dT_start_33 rfl (lv_at hl 1 rfl) ?_
      refine fm_get (ci := 1) (v := .ref (b + 3)) (C := RT) (T := TT) (N := 4) hx hb hT inT hown hK hW f_9 rfl 1 (by decide) (hT _ fl_T_17) (fun _ h9 => h9) rfl dT_start_34 ?_
      refine lv_iload_n hx hb dT_start_37 rfl (lv_at hl 0 rfl) ?_
      refine fm_aald hx hb hK hW 3 hTB.2.2.1 rfl (vp_in_nI (N := 10) (by omega) (by decide)) (fs_rp_at (by omega)) dT_start_38 ?_
      refine lv_iconst (v := 1) hx hb dT_start_39 (by decide) ?_
      refine lv_iload_n hx hb dT_start_40 rfl (lv_at hl 0 rfl) ?_
      refine lv_ishl hx hb dT_start_41 ?_
      refine lv_iconst (v := 0) hx hb dT_start_42 (by decide) ?_
      refine fm_callv (va_runV (As := [.int (1 <<< ((nI i) &&& 31)), .int 0]) (rest := []) ⟨hx, hb, hml, hown, hts⟩ (c_P_become l D ct A M_7 (b + 5 + 2 * i) (pn1 i) (1 <<< ((nI i) &&& 31)) 0 (hTB.2.2.2.2.1 i (by omega))) ⟨callB_of 2 hts (fs_gin co_P_become) rfl rfl rfl (hT _ ini_P) (hT _ ml_T_35) (by decide +kernel) ⟨Nat.le_of_ble_eq_true rfl, Nat.le_of_ble_eq_true rfl⟩, hT _ im_P_become, hT _ se_P_become⟩ (fn_preV fs_isnw hK hN hW (hTB.2.2.2.2.1 i (by omega)) rfl) rfl rfl hl.1 rfl (lv_room (Nat.le_of_ble_eq_true rfl)) dT_start_43 ⟨Nat.le_of_ble_eq_true rfl, Nat.le_of_ble_eq_true rfl⟩) hW (fun M_13 H locs hp_14 hW => ?_)
      have f_15 := ((congrFun hp_14 (b + 1)).trans (fm_un (by omega))).trans f_9
      have f_16 := ((congrFun hp_14 (b + 24)).trans (fm_un (by omega))).trans f_10
      have f_17 := ((congrFun hp_14 (b + 4 + 2 * i)).trans (fm_un (by omega))).trans f_11
      have f_18 := (congrFun hp_14 (b + 5 + 2 * i)).trans fm_us
      have hTB : fs_TB ct M_13 b (va_up kp1 i (0, 1 <<< ((nI i) &&& 31), 0, 0)) (va_up pn1 i (1 <<< ((nI i) &&& 31), 0, 0, 0)) pr (nI N) := by rw [hp_14]; exact fs_TB_P hTB (by omega) (1 <<< ((nI i) &&& 31), 0, 0, 0)
      have hTf : fs_Tf b M M_13 := by rw [hp_14]; exact fs_Tf_u hTf (by omega) _
      refine lv_iinc (v := nI (i + 1)) (lv' := [(2, .int (nI (i + 1))), (0, .ref (b + 1))]) hx hb dT_start_46 hl (k := 0) rfl (by show nI i + 1 = nI (i + 1); exact nI_1 i) (by decide) rfl (fun ls hl => ?_)
      refine lv_goto (tgt := 12) hx hb dT_start_49 (by decide) ?_
      exact back (_, _) _ _ _ ls ⟨hTB, hTf, fs_Up_s hU rfl, fs_Up_s hV rfl⟩ hW (lv_sub hl [0, 1] rfl)
  · intro u M2 H locs ls hI hW hl
    obtain ⟨kp1, pn1⟩ := u
    obtain ⟨hTB, hTf, hU, hV⟩ := hI
    have hTB : fs_TB ct M2 b kp1 pn1 pr (nI N) := hTB
    have hU : fs_Up N kp (fun j => ((0, 1 <<< (nI j &&& 31), 0, 0) : fs_Q)) kp1 := hU
    have hV : fs_Up N pn (fun j => ((1 <<< (nI j &&& 31), 0, 0, 0) : fs_Q)) pn1 := hV
    have hl : lv_has ls 3 [(2, .int (nI N)), (0, .ref (b + 1))] := hl
    refine lv_iload_n hx hb dT_start_12 rfl (lv_at hl 0 rfl) ?_
    refine lv_aload_n hx hb dT_start_13 rfl (lv_at hl 1 rfl) ?_
    refine fm_get (ci := 1) (v := .int (nI N)) (C := RT) (T := TT) (N := 4) hx hb hT inT hown hK hW hTB.1 rfl 3 (by decide) (hT _ fl_T_31) (fun _ h9 => h9) rfl dT_start_14 ?_
    refine lv_icmp_ge (tgt := 52) hx hb dT_start_17 (by decide) (fun c_19 => ?_) (fun c_19 => ?_)
    · exact fm_vret hx hb hr hlocks hW ⟨kp1, pn1, hTB, hTf, fun i hi => hU.1 i hi, fun i hi => hV.1 i hi⟩ dT_start_52
    · exact absurd (nI_le (Nat.le_refl N) (by omega)) c_19
set_option maxHeartbeats 4000000 in
set_option maxRecDepth 100000 in
theorem c_T_zFromKeepers (l : Launch) (D : va_G) (ct : Nat → ClassId) (A : Nat → Prop) (M : fm_M) (b N : Nat) (kp pn : Nat → fs_Q) (pr : fs_Q) (α : Nat) (hTB : fs_TB ct M b kp pn pr (nI N)) (hNN : N ≤ 10) (hα : α < N) : Met l yT_zFromKeepers wT_zFromKeepers ({ frames := 2, cells := 0, slots := 0, locals := 47 }) (va_Pc [.ref (b + 1), .int (nI α)] (fm_St D fs_cl5 (fs_tys ct) fs_nw A M)) (va_Qr (S := fm_M) (fun _ => True) (fun M1 ra t => (fun (ra : Nat) (M1 : fm_M) => ra = b + 24 ∧ fs_TB ct M1 b kp pn (fs_zk kp pn α N) (nI N) ∧ fs_Tf b M M1) ra M1 ∧ fm_B D fs_cl5 A M1 t) A) 0 0 A := by
  refine Met.ofW (cc := cT_zFromKeepers) (maxL := 3) (ret := (some (.object "FrameSamples$Pauli"))) (by decide) rfl ?_
  intro p e s m args below meth c s₁ B hml hv
  obtain ⟨rfl, hP0, hA0, hA1, hK, hN⟩ := hv
  have hx := B.exec
  have hb := B.bytes
  have hr := B.returns
  have hts := atoms_spec (ws := wT_zFromKeepers) B.pre
  have hT : ∀ w ∈ fs_tb, w.before _ s = true := fun w h => hts w (List.mem_cons_of_mem _ h)
  have hown : s.vm.findClass "FrameSamples$Tableau" = some m.cls := findClass_of_methodNamed B.named
  have hlocks := B.notSynchronized
  have hW : fm_W D fs_cl5 A M s.heap s.heap [] := ⟨hP0, hA0, va_S.rf, hA1⟩
  have hl := lv_entry ([.ref (b + 1), .int (nI α)]) (n := 3) (Nat.le_of_ble_eq_true rfl)
  rw [lg_entry_eq]
  generalize (lg_sl ([.ref (b + 1), .int (nI α)]) ++ List.replicate (3 - (lg_sl ([.ref (b + 1), .int (nI α)])).length) Slot.unset).toArray = ls at hl ⊢
  have hl : lv_has ls 3 [(0, .ref (b + 1)), (1, .int (nI α))] := hl
  have hTf : fs_Tf b M M := fs_Tf_r
  refine lv_aload_n hx hb dT_zFromKeepers_0 rfl (lv_at hl 0 rfl) ?_
  refine fm_get (ci := 1) (v := .ref (b + 24)) (C := RT) (T := TT) (N := 4) hx hb hT inT hown hK hW hTB.1 rfl 2 (by decide) (hT _ fl_T_21) (fun _ h9 => h9) rfl dT_zFromKeepers_1 ?_
  refine lv_iconst (v := 0) hx hb dT_zFromKeepers_4 (by decide) ?_
  refine lv_iconst (v := 0) hx hb dT_zFromKeepers_5 (by decide) ?_
  refine fm_callv (va_runV (As := [.int 0, .int 0]) (rest := []) ⟨hx, hb, hml, hown, hts⟩ (c_P_become l D ct A M (b + 24) pr 0 0 hTB.2.2.2.2.2) ⟨callB_of 2 hts (fs_gin co_P_become) rfl rfl rfl (hT _ ini_P) (hT _ ml_T_35) (by decide +kernel) ⟨Nat.le_of_ble_eq_true rfl, Nat.le_of_ble_eq_true rfl⟩, hT _ im_P_become, hT _ se_P_become⟩ (fn_preV fs_isnw hK hN hW hTB.2.2.2.2.2 rfl) rfl rfl hl.1 rfl (lv_room (Nat.le_of_ble_eq_true rfl)) dT_zFromKeepers_6 ⟨Nat.le_of_ble_eq_true rfl, Nat.le_of_ble_eq_true rfl⟩) hW (fun M_2 H locs hp_3 hW => ?_)
  have f_4 := ((congrFun hp_3 (b + 1)).trans (fm_un (by omega))).trans hTB.1
  have f_5 := (congrFun hp_3 (b + 24)).trans fm_us
  have hTB : fs_TB ct M_2 b kp pn (0, 0, 0, 0) (nI N) := by rw [hp_3]; exact fs_TB_R hTB (0, 0, 0, 0)
  have hTf : fs_Tf b M M_2 := by rw [hp_3]; exact fs_Tf_u hTf (by omega) _
  refine lv_iconst (v := 0) hx hb dT_zFromKeepers_9 (by decide) ?_
  refine lv_istore_n (lv' := [(2, .int 0), (0, .ref (b + 1)), (1, .int (nI α))]) hx hb dT_zFromKeepers_10 rfl hl (by decide) rfl (fun ls hl => ?_)
  refine fm_loop (head := 11) (maxL := 3) N (fun i (u : fs_Q) M1 => fs_TB ct M1 b kp pn u (nI N) ∧ fs_Tf b M M1 ∧ u = fs_zk kp pn α i) (fun i (u : fs_Q) => [(2, .int (nI i)), (0, .ref (b + 1)), (1, .int (nI α))]) ?_ ?_ N 0 (by omega) (0, 0, 0, 0) M_2 _ _ ls ⟨hTB, hTf, rfl⟩ hW (lv_sub hl [0, 1, 2] rfl)
  · intro i u M2 H locs ls hi hI hW hl back
    obtain ⟨hTB, hTf, hU⟩ := hI
    have hl : lv_has ls 3 [(2, .int (nI i)), (0, .ref (b + 1)), (1, .int (nI α))] := hl
    refine lv_iload_n hx hb dT_zFromKeepers_11 rfl (lv_at hl 0 rfl) ?_
    refine lv_aload_n hx hb dT_zFromKeepers_12 rfl (lv_at hl 1 rfl) ?_
    refine fm_get (ci := 1) (v := .int (nI N)) (C := RT) (T := TT) (N := 4) hx hb hT inT hown hK hW hTB.1 rfl 3 (by decide) (hT _ fl_T_31) (fun _ h9 => h9) rfl dT_zFromKeepers_13 ?_
    refine lv_icmp_ge (tgt := 52) hx hb dT_zFromKeepers_16 (by decide) (fun c_6 => ?_) (fun c_6 => ?_)
    · exact absurd c_6 (nI_ge hi (by omega))
    · refine lv_aload_n hx hb dT_zFromKeepers_19 rfl (lv_at hl 1 rfl) ?_
      refine fm_get (ci := 1) (v := .ref (b + 3)) (C := RT) (T := TT) (N := 4) hx hb hT inT hown hK hW hTB.1 rfl 1 (by decide) (hT _ fl_T_17) (fun _ h9 => h9) rfl dT_zFromKeepers_20 ?_
      refine lv_iload_n hx hb dT_zFromKeepers_23 rfl (lv_at hl 0 rfl) ?_
      refine fm_aald hx hb hK hW 3 hTB.2.2.1 rfl (vp_in_nI (N := 10) (by omega) (by decide)) (fs_rp_at (by omega)) dT_zFromKeepers_24 ?_
      refine lv_iload_n hx hb dT_zFromKeepers_25 rfl (lv_at hl 2 rfl) ?_
      refine fm_calli (va_runV (As := [.int (nI α)]) (rest := []) ⟨hx, hb, hml, hown, hts⟩ (c_P_xOn l D ct A M2 (b + 5 + 2 * i) (pn i) (nI α) (hTB.2.2.2.2.1 i (by omega))) ⟨callB_of 1 hts (fs_gin co_P_xOn) rfl rfl rfl (hT _ ini_P) (hT _ ml_T_43) (by decide +kernel) ⟨Nat.le_of_ble_eq_true rfl, Nat.le_of_ble_eq_true rfl⟩, hT _ im_P_xOn, hT _ se_P_xOn⟩ (fn_preV fs_isnw hK hN hW (hTB.2.2.2.2.1 i (by omega)) rfl) rfl rfl hl.1 rfl (lv_room (Nat.le_of_ble_eq_true rfl)) dT_zFromKeepers_26 ⟨Nat.le_of_ble_eq_true rfl, Nat.le_of_ble_eq_true rfl⟩) hW (fun r_7 M_8 H locs hp_9 hW => ?_)
      have hW : fm_W D fs_cl5 A M2 s.heap H locs := by rw [← hp_9.2]; exact hW
      have er_7 : r_7 = fs_b (bt (pn i).1 α) := by rw [hp_9.1]; exact fs_xOn_b (by omega) _
      refine lv_iconst (v := 1) hx hb dT_zFromKeepers_29 (by decide) ?_
      refine lv_icmp_ne (tgt := 46) hx hb dT_zFromKeepers_30 (by decide) (fun c_10 => ?_) (fun c_10 => ?_)
      · have hf : bt (pn i).1 α = false := fs_ndt _ (fun z => c_10 (by rw [er_7, z]; rfl))
        refine lv_iinc (v := nI (i + 1)) (lv' := [(2, .int (nI (i + 1))), (0, .ref (b + 1)), (1, .int (nI α))]) hx hb dT_zFromKeepers_46 hl (k := 0) rfl (by show nI i + 1 = nI (i + 1); exact nI_1 i) (by decide) rfl (fun ls hl => ?_)
        refine lv_goto (tgt := 11) hx hb dT_zFromKeepers_49 (by decide) ?_
        exact back u _ _ _ ls ⟨hTB, hTf, by rw [hU]; exact (if_neg (by rw [hf]; decide)).symm⟩ hW (lv_sub hl [0, 1, 2] rfl)
      · have ht : bt (pn i).1 α = true := (fs_b_eq1 _).mp (by rw [← er_7]; exact c_10)
        refine lv_aload_n hx hb dT_zFromKeepers_33 rfl (lv_at hl 1 rfl) ?_
        refine fm_get (ci := 1) (v := .ref (b + 24)) (C := RT) (T := TT) (N := 4) hx hb hT inT hown hK hW hTB.1 rfl 2 (by decide) (hT _ fl_T_21) (fun _ h9 => h9) rfl dT_zFromKeepers_34 ?_
        refine lv_aload_n hx hb dT_zFromKeepers_37 rfl (lv_at hl 1 rfl) ?_
        refine fm_get (ci := 1) (v := .ref (b + 2)) (C := RT) (T := TT) (N := 4) hx hb hT inT hown hK hW hTB.1 rfl 0 (by decide) (hT _ fl_T_11) (fun _ h9 => h9) rfl dT_zFromKeepers_38 ?_
        refine lv_iload_n hx hb dT_zFromKeepers_41 rfl (lv_at hl 0 rfl) ?_
        refine fm_aald hx hb hK hW 3 hTB.2.1 rfl (vp_in_nI (N := 10) (by omega) (by decide)) (fs_rk_at (by omega)) dT_zFromKeepers_42 ?_
        refine fm_callv (va_runV (As := [.ref (b + 4 + 2 * i)]) (rest := []) ⟨hx, hb, hml, hown, hts⟩ (c_P_multiplyBy l D ct A M2 (b + 24) (u) (b + 4 + 2 * i) (kp i) hTB.2.2.2.2.2 (hTB.2.2.2.1 i (by omega)) (by omega)) ⟨callB_of 1 hts (fs_gin co_P_multiplyBy) rfl rfl rfl (hT _ ini_P) (hT _ ml_T_55) (by decide +kernel) ⟨Nat.le_of_ble_eq_true rfl, Nat.le_of_ble_eq_true rfl⟩, hT _ im_P_multiplyBy, hT _ se_P_multiplyBy⟩ (fn_preV fs_isnw hK hN hW hTB.2.2.2.2.2 rfl) rfl rfl hl.1 rfl (lv_room (Nat.le_of_ble_eq_true rfl)) dT_zFromKeepers_43 ⟨Nat.le_of_ble_eq_true rfl, Nat.le_of_ble_eq_true rfl⟩) hW (fun M_12 H locs hp_13 hW => ?_)
        have f_14 := ((congrFun hp_13 (b + 1)).trans (fm_un (by omega))).trans hTB.1
        have f_15 := (congrFun hp_13 (b + 24)).trans fm_us
        have f_16 := ((congrFun hp_13 (b + 5 + 2 * i)).trans (fm_un (by omega))).trans (hTB.2.2.2.2.1 i (by omega))
        have f_17 := ((congrFun hp_13 (b + 4 + 2 * i)).trans (fm_un (by omega))).trans (hTB.2.2.2.1 i (by omega))
        have hTB : fs_TB ct M_12 b kp pn (fs_mb (u) (kp i)) (nI N) := by rw [hp_13]; exact fs_TB_R hTB (fs_mb (u) (kp i))
        have hTf : fs_Tf b M M_12 := by rw [hp_13]; exact fs_Tf_u hTf (by omega) _
        refine lv_iinc (v := nI (i + 1)) (lv' := [(2, .int (nI (i + 1))), (0, .ref (b + 1)), (1, .int (nI α))]) hx hb dT_zFromKeepers_46 hl (k := 0) rfl (by show nI i + 1 = nI (i + 1); exact nI_1 i) (by decide) rfl (fun ls hl => ?_)
        refine lv_goto (tgt := 11) hx hb dT_zFromKeepers_49 (by decide) ?_
        exact back _ _ _ _ ls ⟨hTB, hTf, by rw [hU]; exact (if_pos ht).symm⟩ hW (lv_sub hl [0, 1, 2] rfl)
  · intro u M2 H locs ls hI hW hl
    obtain ⟨hTB, hTf, hU⟩ := hI
    have hl : lv_has ls 3 [(2, .int (nI N)), (0, .ref (b + 1)), (1, .int (nI α))] := hl
    refine lv_iload_n hx hb dT_zFromKeepers_11 rfl (lv_at hl 0 rfl) ?_
    refine lv_aload_n hx hb dT_zFromKeepers_12 rfl (lv_at hl 1 rfl) ?_
    refine fm_get (ci := 1) (v := .int (nI N)) (C := RT) (T := TT) (N := 4) hx hb hT inT hown hK hW hTB.1 rfl 3 (by decide) (hT _ fl_T_31) (fun _ h9 => h9) rfl dT_zFromKeepers_13 ?_
    refine lv_icmp_ge (tgt := 52) hx hb dT_zFromKeepers_16 (by decide) (fun c_18 => ?_) (fun c_18 => ?_)
    · refine lv_aload_n hx hb dT_zFromKeepers_52 rfl (lv_at hl 1 rfl) ?_
      refine fm_get (ci := 1) (v := .ref (b + 24)) (C := RT) (T := TT) (N := 4) hx hb hT inT hown hK hW hTB.1 rfl 2 (by decide) (hT _ fl_T_21) (fun _ h9 => h9) rfl dT_zFromKeepers_53 ?_
      subst hU
      exact fm_aret hx hb hr hlocks hW ⟨rfl, hTB, hTf⟩ dT_zFromKeepers_56
    · exact absurd (nI_le (Nat.le_refl N) (by omega)) c_18
set_option maxHeartbeats 4000000 in
set_option maxRecDepth 100000 in
theorem c_T_flipIfTold (l : Launch) (D : va_G) (ct : Nat → ClassId) (A : Nat → Prop) (M : fm_M) (b N : Nat) (kp pn : Nat → fs_Q) (pr : fs_Q) (α : Nat) (c0 : Int32) (r0 : Int64) (hTB : fs_TB ct M b kp pn pr (nI N)) (hNN : N ≤ 10) (hα : α < N) : Met l yT_flipIfTold wT_flipIfTold ({ frames := 1, cells := 0, slots := 0, locals := 21 }) (va_Pc [.ref (b + 1), .int (nI α), .int c0, .long r0] (fm_St D fs_cl5 (fs_tys ct) fs_nw A M)) (va_Qv (fun (M1 : fm_M) => ∃ kp2 : Nat → fs_Q, fs_TB ct M1 b kp2 pn pr (nI N) ∧ fs_Tf b M M1 ∧ ∀ i, i < N → kp2 i = if bt (kp i).2.1 α = true then fs_fl (kp i) c0 r0 else kp i) (fm_B D fs_cl5 A) A) 0 0 A := by
  refine Met.ofW (cc := cT_flipIfTold) (maxL := 6) (ret := none) (by decide) rfl ?_
  intro p e s m args below meth c s₁ B hml hv
  obtain ⟨rfl, hP0, hA0, hA1, hK, hN⟩ := hv
  have hx := B.exec
  have hb := B.bytes
  have hr := B.returns
  have hts := atoms_spec (ws := wT_flipIfTold) B.pre
  have hT : ∀ w ∈ fs_tb, w.before _ s = true := fun w h => hts w (List.mem_cons_of_mem _ h)
  have hown : s.vm.findClass "FrameSamples$Tableau" = some m.cls := findClass_of_methodNamed B.named
  have hlocks := B.notSynchronized
  have hW : fm_W D fs_cl5 A M s.heap s.heap [] := ⟨hP0, hA0, va_S.rf, hA1⟩
  have hl := lv_entry ([.ref (b + 1), .int (nI α), .int c0, .long r0]) (n := 6) (Nat.le_of_ble_eq_true rfl)
  rw [lg_entry_eq]
  generalize (lg_sl ([.ref (b + 1), .int (nI α), .int c0, .long r0]) ++ List.replicate (6 - (lg_sl ([.ref (b + 1), .int (nI α), .int c0, .long r0])).length) Slot.unset).toArray = ls at hl ⊢
  have hl : lv_has ls 6 [(0, .ref (b + 1)), (1, .int (nI α)), (2, .int c0), (3, .long r0)] := hl
  have hTf : fs_Tf b M M := fs_Tf_r
  refine lv_iconst (v := 0) hx hb dT_flipIfTold_0 (by decide) ?_
  refine lv_istore (lv' := [(5, .int 0), (0, .ref (b + 1)), (1, .int (nI α)), (2, .int c0), (3, .long r0)]) hx hb dT_flipIfTold_1 hl (by decide) rfl (fun ls hl => ?_)
  refine fm_loop (head := 3) (maxL := 6) N (fun i (u : Nat → fs_Q) M1 => fs_TB ct M1 b u pn pr (nI N) ∧ fs_Tf b M M1 ∧ fs_Up i kp (fun j => if bt (kp j).2.1 α = true then fs_fl (kp j) c0 r0 else kp j) u) (fun i (u : Nat → fs_Q) => [(5, .int (nI i)), (0, .ref (b + 1)), (1, .int (nI α)), (2, .int c0), (3, .long r0)]) ?_ ?_ N 0 (by omega) kp M _ _ ls ⟨hTB, hTf, fs_Up_0 _ _⟩ hW (lv_sub hl [0, 1, 2, 3, 4] rfl)
  · intro i u M2 H locs ls hi hI hW hl back
    obtain ⟨hTB, hTf, hU⟩ := hI
    have hl : lv_has ls 6 [(5, .int (nI i)), (0, .ref (b + 1)), (1, .int (nI α)), (2, .int c0), (3, .long r0)] := hl
    refine lv_iload hx hb dT_flipIfTold_3 (lv_at hl 0 rfl) ?_
    refine lv_aload_n hx hb dT_flipIfTold_5 rfl (lv_at hl 1 rfl) ?_
    refine fm_get (ci := 1) (v := .int (nI N)) (C := RT) (T := TT) (N := 4) hx hb hT inT hown hK hW hTB.1 rfl 3 (by decide) (hT _ fl_T_31) (fun _ h9 => h9) rfl dT_flipIfTold_6 ?_
    have hui : u i = kp i := hU.2 i (Nat.le_refl i)
    refine lv_icmp_ge (tgt := 65) hx hb dT_flipIfTold_9 (by decide) (fun c_1 => ?_) (fun c_1 => ?_)
    · exact absurd c_1 (nI_ge hi (by omega))
    · refine lv_aload_n hx hb dT_flipIfTold_12 rfl (lv_at hl 1 rfl) ?_
      refine fm_get (ci := 1) (v := .ref (b + 2)) (C := RT) (T := TT) (N := 4) hx hb hT inT hown hK hW hTB.1 rfl 0 (by decide) (hT _ fl_T_11) (fun _ h9 => h9) rfl dT_flipIfTold_13 ?_
      refine lv_iload hx hb dT_flipIfTold_16 (lv_at hl 0 rfl) ?_
      refine fm_aald hx hb hK hW 3 hTB.2.1 rfl (vp_in_nI (N := 10) (by omega) (by decide)) (fs_rk_at (by omega)) dT_flipIfTold_18 ?_
      refine lv_iload_n hx hb dT_flipIfTold_19 rfl (lv_at hl 2 rfl) ?_
      refine fm_calli (va_runV (As := [.int (nI α)]) (rest := []) ⟨hx, hb, hml, hown, hts⟩ (c_P_zOn l D ct A M2 (b + 4 + 2 * i) (u i) (nI α) (hTB.2.2.2.1 i (by omega))) ⟨callB_of 1 hts (fs_gin co_P_zOn) rfl rfl rfl (hT _ ini_P) (hT _ ml_T_66) (by decide +kernel) ⟨Nat.le_of_ble_eq_true rfl, Nat.le_of_ble_eq_true rfl⟩, hT _ im_P_zOn, hT _ se_P_zOn⟩ (fn_preV fs_isnw hK hN hW (hTB.2.2.2.1 i (by omega)) rfl) rfl rfl hl.1 rfl (lv_room (Nat.le_of_ble_eq_true rfl)) dT_flipIfTold_20 ⟨Nat.le_of_ble_eq_true rfl, Nat.le_of_ble_eq_true rfl⟩) hW (fun r_2 M_3 H locs hp_4 hW => ?_)
      have hW : fm_W D fs_cl5 A M2 s.heap H locs := by rw [← hp_4.2]; exact hW
      have er_2 : r_2 = fs_b (bt (u i).2.1 α) := by rw [hp_4.1]; exact fs_zOn_b (by omega) _
      refine lv_iconst (v := 1) hx hb dT_flipIfTold_23 (by decide) ?_
      refine lv_icmp_ne (tgt := 59) hx hb dT_flipIfTold_24 (by decide) (fun c_5 => ?_) (fun c_5 => ?_)
      · have hf : bt (u i).2.1 α = false := fs_ndt _ (fun z => c_5 (by rw [er_2, z]; rfl))
        refine lv_iinc (v := nI (i + 1)) (lv' := [(5, .int (nI (i + 1))), (0, .ref (b + 1)), (1, .int (nI α)), (2, .int c0), (3, .long r0)]) hx hb dT_flipIfTold_59 hl (k := 0) rfl (by show nI i + 1 = nI (i + 1); exact nI_1 i) (by decide) rfl (fun ls hl => ?_)
        refine lv_goto (tgt := 3) hx hb dT_flipIfTold_62 (by decide) ?_
        exact back u _ _ _ ls ⟨hTB, hTf, fs_Up_k hU (by rw [hui] at hf ⊢; exact (if_neg (by rw [hf]; decide)).symm)⟩ hW (lv_sub hl [0, 1, 2, 3, 4] rfl)
      · have ht : bt (u i).2.1 α = true := (fs_b_eq1 _).mp (by rw [← er_2]; exact c_5)
        refine lv_aload_n hx hb dT_flipIfTold_27 rfl (lv_at hl 1 rfl) ?_
        refine fm_get (ci := 1) (v := .ref (b + 2)) (C := RT) (T := TT) (N := 4) hx hb hT inT hown hK hW hTB.1 rfl 0 (by decide) (hT _ fl_T_11) (fun _ h9 => h9) rfl dT_flipIfTold_28 ?_
        refine lv_iload hx hb dT_flipIfTold_31 (lv_at hl 0 rfl) ?_
        refine fm_aald hx hb hK hW 3 hTB.2.1 rfl (vp_in_nI (N := 10) (by omega) (by decide)) (fs_rk_at (by omega)) dT_flipIfTold_33 ?_
        refine lv_dup hx hb dT_flipIfTold_34 rfl ?_
        refine fm_getN (ci := 0) (v := .int ((u i).2.2.1)) (C := RP) (T := TP) (N := 4) hx hb hT inP hown hK hW (hTB.2.2.2.1 i (by omega)) rfl 2 (by decide) (hN _ (List.mem_of_getElem? (i := 5) rfl)) (fun _ h9 => h9) rfl dT_flipIfTold_35 ?_
        refine lv_iload_n hx hb dT_flipIfTold_38 rfl (lv_at hl 3 rfl) ?_
        refine lv_ixor hx hb dT_flipIfTold_39 ?_
        refine lv_topi (fun x_6 ex_6 => ?_)
        refine fm_putN (ci := 0) (v := .int x_6) (ty := .int) (C := RP) (T := TP) (N := 4) hx hb hT inP tyP tkP nmP hown hK hW (hTB.2.2.2.1 i (by omega)) rfl 2 (by decide) (hN _ (List.mem_of_getElem? (i := 5) rfl)) (fun _ h9 => h9) rfl (by decide +kernel) rfl rfl (Nat.le_of_ble_eq_true rfl) dT_flipIfTold_40 (fun H locs hW => ?_)
        obtain ⟨M_7, eM_7⟩ : ∃ z : fm_M, z = va_up M2 (b + 4 + 2 * i) (some (.inr (0, [.int ((u i).1), .int ((u i).2.1), .int x_6, .long ((u i).2.2.2)]))) := ⟨_, rfl⟩
        have hW : fm_W D fs_cl5 A M_7 s.heap H locs := by rw [eM_7]; exact hW
        have f_8 := (show M_7 (b + 1) = M2 (b + 1) by rw [eM_7]; exact fm_un (by omega)).trans hTB.1
        have f_9 := (show M_7 (b + 24) = M2 (b + 24) by rw [eM_7]; exact fm_un (by omega)).trans hTB.2.2.2.2.2
        have f_10 : M_7 (b + 4 + 2 * i) = some (.inr (0, [.int ((u i).1), .int ((u i).2.1), .int x_6, .long ((u i).2.2.2)])) := by rw [eM_7]; exact fm_us
        have hTB : fs_TB ct M_7 b (va_up u i ((u i).1, (u i).2.1, x_6, (u i).2.2.2)) pn pr (nI N) := by rw [eM_7]; exact fs_TB_K hTB (by omega) ((u i).1, (u i).2.1, x_6, (u i).2.2.2)
        have hTf : fs_Tf b M M_7 := by rw [eM_7]; exact fs_Tf_u hTf (by omega) _
        refine lv_aload_n hx hb dT_flipIfTold_43 rfl (lv_at hl 1 rfl) ?_
        refine fm_get (ci := 1) (v := .ref (b + 2)) (C := RT) (T := TT) (N := 4) hx hb hT inT hown hK hW f_8 rfl 0 (by decide) (hT _ fl_T_11) (fun _ h9 => h9) rfl dT_flipIfTold_44 ?_
        refine lv_iload hx hb dT_flipIfTold_47 (lv_at hl 0 rfl) ?_
        refine fm_aald hx hb hK hW 3 hTB.2.1 rfl (vp_in_nI (N := 10) (by omega) (by decide)) (fs_rk_at (by omega)) dT_flipIfTold_49 ?_
        refine lv_dup hx hb dT_flipIfTold_50 rfl ?_
        refine fm_getN (ci := 0) (v := .long ((u i).2.2.2)) (C := RP) (T := TP) (N := 4) hx hb hT inP hown hK hW f_10 rfl 3 (by decide) (hN _ (List.mem_of_getElem? (i := 7) rfl)) (fun _ h9 => h9) rfl dT_flipIfTold_51 ?_
        refine lv_lload_n hx hb dT_flipIfTold_54 rfl (lv_at hl 4 rfl) ?_
        refine lv_lxor hx hb dT_flipIfTold_55 ?_
        refine lv_topl (fun x_11 ex_11 => ?_)
        refine fm_putN (ci := 0) (v := .long x_11) (ty := .long) (C := RP) (T := TP) (N := 4) hx hb hT inP tyP tkP nmP hown hK hW f_10 rfl 3 (by decide) (hN _ (List.mem_of_getElem? (i := 7) rfl)) (fun _ h9 => h9) rfl (by decide +kernel) rfl rfl (Nat.le_of_ble_eq_true rfl) dT_flipIfTold_56 (fun H locs hW => ?_)
        obtain ⟨M_12, eM_12⟩ : ∃ z : fm_M, z = va_up M_7 (b + 4 + 2 * i) (some (.inr (0, [.int ((u i).1), .int ((u i).2.1), .int x_6, .long x_11]))) := ⟨_, rfl⟩
        have hW : fm_W D fs_cl5 A M_12 s.heap H locs := by rw [eM_12]; exact hW
        have f_13 := (show M_12 (b + 1) = M_7 (b + 1) by rw [eM_12]; exact fm_un (by omega)).trans f_8
        have f_14 := (show M_12 (b + 24) = M_7 (b + 24) by rw [eM_12]; exact fm_un (by omega)).trans f_9
        have f_15 : M_12 (b + 4 + 2 * i) = some (.inr (0, [.int ((u i).1), .int ((u i).2.1), .int x_6, .long x_11])) := by rw [eM_12]; exact fm_us
        have hTB : fs_TB ct M_12 b (va_up (va_up u i ((u i).1, (u i).2.1, x_6, (u i).2.2.2)) i ((u i).1, (u i).2.1, x_6, x_11)) pn pr (nI N) := by rw [eM_12]; exact fs_TB_K hTB (by omega) ((u i).1, (u i).2.1, x_6, x_11)
        have hTf : fs_Tf b M M_12 := by rw [eM_12]; exact fs_Tf_u hTf (by omega) _
        have hTB : fs_TB ct M_12 b (va_up u i (fs_fl (u i) c0 r0)) pn pr (nI N) := by
          have z : va_up (va_up u i ((u i).1, (u i).2.1, x_6, (u i).2.2.2)) i ((u i).1, (u i).2.1, x_6, x_11) = va_up u i (fs_fl (u i) c0 r0) := by
            subst ex_11; subst ex_6; rw [bx_uu]; rfl
          rw [← z]; exact hTB
        refine lv_iinc (v := nI (i + 1)) (lv' := [(5, .int (nI (i + 1))), (0, .ref (b + 1)), (1, .int (nI α)), (2, .int c0), (3, .long r0)]) hx hb dT_flipIfTold_59 hl (k := 0) rfl (by show nI i + 1 = nI (i + 1); exact nI_1 i) (by decide) rfl (fun ls hl => ?_)
        refine lv_goto (tgt := 3) hx hb dT_flipIfTold_62 (by decide) ?_
        exact back _ _ _ _ ls ⟨hTB, hTf, fs_Up_s hU (by rw [hui] at ht ⊢; exact (if_pos ht).symm)⟩ hW (lv_sub hl [0, 1, 2, 3, 4] rfl)
  · intro u M2 H locs ls hI hW hl
    obtain ⟨hTB, hTf, hU⟩ := hI
    have hl : lv_has ls 6 [(5, .int (nI N)), (0, .ref (b + 1)), (1, .int (nI α)), (2, .int c0), (3, .long r0)] := hl
    refine lv_iload hx hb dT_flipIfTold_3 (lv_at hl 0 rfl) ?_
    refine lv_aload_n hx hb dT_flipIfTold_5 rfl (lv_at hl 1 rfl) ?_
    refine fm_get (ci := 1) (v := .int (nI N)) (C := RT) (T := TT) (N := 4) hx hb hT inT hown hK hW hTB.1 rfl 3 (by decide) (hT _ fl_T_31) (fun _ h9 => h9) rfl dT_flipIfTold_6 ?_
    refine lv_icmp_ge (tgt := 65) hx hb dT_flipIfTold_9 (by decide) (fun c_16 => ?_) (fun c_16 => ?_)
    · exact fm_vret hx hb hr hlocks hW ⟨u, hTB, hTf, fun i hi => hU.1 i hi⟩ dT_flipIfTold_65
    · exact absurd (nI_le (Nat.le_refl N) (by omega)) c_16
end
section
-- Tableau.collapse, measure
theorem fu_s {α : Type} {f : Nat → α} {k : Nat} {v : α} : va_up f k v k = v := if_pos rfl
theorem fu_n {α : Type} {f : Nat → α} {k j : Nat} {v : α} (h : j ≠ k) : va_up f k v j = f j := if_neg h
set_option maxHeartbeats 4000000 in
set_option maxRecDepth 100000 in
theorem c_T_collapse (l : Launch) (D : va_G) (ct : Nat → ClassId) (A : Nat → Prop) (M : fm_M) (b N : Nat) (kp pn : Nat → fs_Q) (pr : fs_Q) (p0 α : Nat) (num : Int32) (hTB : fs_TB ct M b kp pn pr (nI N)) (hNN : N ≤ 10) (hp0 : p0 < N) (hα : α < N) : Met l yT_collapse wT_collapse ({ frames := 2, cells := 0, slots := 0, locals := 47 }) (va_Pc [.ref (b + 1), .int (nI p0), .int (nI α), .int num] (fm_St D fs_cl5 (fs_tys ct) fs_nw A M)) (va_Qr (S := fm_M) (fun _ => True) (fun M1 ra t => (fun (ra : Nat) (M1 : fm_M) => ra = b + 4 + 2 * p0 ∧ ∃ kp2 pn2 : Nat → fs_Q, fs_TB ct M1 b kp2 pn2 pr (nI N) ∧ fs_Tf b M M1 ∧ (∀ i, i < N → kp2 i = if i = p0 then ((0, 1 <<< (nI α &&& 31), 0, 1 <<< (num.toInt64 &&& 63)) : fs_Q) else if bt (kp i).1 α = true then fs_mb (kp i) (kp p0) else kp i) ∧ (∀ i, i < N → pn2 i = if i = p0 then kp p0 else if bt (pn i).1 α = true then fs_mb (pn i) (kp p0) else pn i)) ra M1 ∧ fm_B D fs_cl5 A M1 t) A) 0 0 A := by
  refine Met.ofW (cc := cT_collapse) (maxL := 6) (ret := (some (.object "FrameSamples$Pauli"))) (by decide) rfl ?_
  intro p e s m args below meth c s₁ B hml hv
  obtain ⟨rfl, hP0, hA0, hA1, hK, hN⟩ := hv
  have hx := B.exec
  have hb := B.bytes
  have hr := B.returns
  have hts := atoms_spec (ws := wT_collapse) B.pre
  have hT : ∀ w ∈ fs_tb, w.before _ s = true := fun w h => hts w (List.mem_cons_of_mem _ h)
  have hown : s.vm.findClass "FrameSamples$Tableau" = some m.cls := findClass_of_methodNamed B.named
  have hlocks := B.notSynchronized
  have hW : fm_W D fs_cl5 A M s.heap s.heap [] := ⟨hP0, hA0, va_S.rf, hA1⟩
  have hl := lv_entry ([.ref (b + 1), .int (nI p0), .int (nI α), .int num]) (n := 6) (Nat.le_of_ble_eq_true rfl)
  rw [lg_entry_eq]
  generalize (lg_sl ([.ref (b + 1), .int (nI p0), .int (nI α), .int num]) ++ List.replicate (6 - (lg_sl ([.ref (b + 1), .int (nI p0), .int (nI α), .int num])).length) Slot.unset).toArray = ls at hl ⊢
  have hl : lv_has ls 6 [(0, .ref (b + 1)), (1, .int (nI p0)), (2, .int (nI α)), (3, .int num)] := hl
  have hTf : fs_Tf b M M := fs_Tf_r
  refine lv_aload_n hx hb dT_collapse_0 rfl (lv_at hl 0 rfl) ?_
  refine fm_get (ci := 1) (v := .ref (b + 2)) (C := RT) (T := TT) (N := 4) hx hb hT inT hown hK hW hTB.1 rfl 0 (by decide) (hT _ fl_T_11) (fun _ h9 => h9) rfl dT_collapse_1 ?_
  refine lv_iload_n hx hb dT_collapse_4 rfl (lv_at hl 1 rfl) ?_
  refine fm_aald hx hb hK hW 3 hTB.2.1 rfl (vp_in_nI (N := 10) (by omega) (by decide)) (fs_rk_at (by omega)) dT_collapse_5 ?_
  refine lv_astore (lv' := [(4, .ref (b + 4 + 2 * p0)), (0, .ref (b + 1)), (1, .int (nI p0)), (2, .int (nI α)), (3, .int num)]) hx hb dT_collapse_6 hl (by decide) rfl (fun ls hl => ?_)
  refine lv_iconst (v := 0) hx hb dT_collapse_8 (by decide) ?_
  refine lv_istore (lv' := [(5, .int 0), (4, .ref (b + 4 + 2 * p0)), (0, .ref (b + 1)), (1, .int (nI p0)), (2, .int (nI α)), (3, .int num)]) hx hb dT_collapse_9 hl (by decide) rfl (fun ls hl => ?_)
  refine fm_loop (head := 11) (maxL := 6) N (fun i (u : (Nat → fs_Q) × (Nat → fs_Q)) M1 => fs_TB ct M1 b u.1 u.2 pr (nI N) ∧ fs_Tf b M M1 ∧ fs_Up i kp (fun j => if j = p0 then kp p0 else if bt (kp j).1 α = true then fs_mb (kp j) (kp p0) else kp j) u.1 ∧ fs_Up i pn (fun j => if j = p0 then pn p0 else if bt (pn j).1 α = true then fs_mb (pn j) (kp p0) else pn j) u.2) (fun i (u : (Nat → fs_Q) × (Nat → fs_Q)) => [(5, .int (nI i)), (0, .ref (b + 1)), (1, .int (nI p0)), (2, .int (nI α)), (3, .int num), (4, .ref (b + 4 + 2 * p0))]) ?_ ?_ N 0 (by omega) (kp, pn) M _ _ ls ⟨hTB, hTf, fs_Up_0 _ _, fs_Up_0 _ _⟩ hW (lv_sub hl [0, 2, 3, 4, 5, 1] rfl)
  · intro i u M2 H locs ls hi hI hW hl back
    obtain ⟨kp1, pn1⟩ := u
    obtain ⟨hTB, hTf, hU, hV⟩ := hI
    have hTB : fs_TB ct M2 b kp1 pn1 pr (nI N) := hTB
    have hU : fs_Up i kp (fun j => if j = p0 then kp p0 else if bt (kp j).1 α = true then fs_mb (kp j) (kp p0) else kp j) kp1 := hU
    have hV : fs_Up i pn (fun j => if j = p0 then pn p0 else if bt (pn j).1 α = true then fs_mb (pn j) (kp p0) else pn j) pn1 := hV
    have hl : lv_has ls 6 [(5, .int (nI i)), (0, .ref (b + 1)), (1, .int (nI p0)), (2, .int (nI α)), (3, .int num), (4, .ref (b + 4 + 2 * p0))] := hl
    have hup : kp1 p0 = kp p0 := by
      rcases Nat.lt_or_ge p0 i with z | z
      · rw [hU.1 p0 z]; exact if_pos rfl
      · exact hU.2 p0 z
    have hui : kp1 i = kp i := hU.2 i (Nat.le_refl i)
    have hvi : pn1 i = pn i := hV.2 i (Nat.le_refl i)
    refine lv_iload hx hb dT_collapse_11 (lv_at hl 0 rfl) ?_
    refine lv_aload_n hx hb dT_collapse_13 rfl (lv_at hl 1 rfl) ?_
    refine fm_get (ci := 1) (v := .int (nI N)) (C := RT) (T := TT) (N := 4) hx hb hT inT hown hK hW hTB.1 rfl 3 (by decide) (hT _ fl_T_31) (fun _ h9 => h9) rfl dT_collapse_14 ?_
    refine lv_icmp_ge (tgt := 92) hx hb dT_collapse_17 (by decide) (fun c_1 => ?_) (fun c_1 => ?_)
    · exact absurd c_1 (nI_ge hi (by omega))
    · refine lv_iload hx hb dT_collapse_20 (lv_at hl 0 rfl) ?_
      refine lv_iload_n hx hb dT_collapse_22 rfl (lv_at hl 2 rfl) ?_
      refine lv_icmp_eq (tgt := 53) hx hb dT_collapse_23 (by decide) (fun c_2 => ?_) (fun c_2 => ?_)
      · have hie : i = p0 := (nI_eq (by omega) (by omega)).mp c_2
        refine lv_iload hx hb dT_collapse_53 (lv_at hl 0 rfl) ?_
        refine lv_iload_n hx hb dT_collapse_55 rfl (lv_at hl 2 rfl) ?_
        refine lv_icmp_eq (tgt := 86) hx hb dT_collapse_56 (by decide) (fun c_3 => ?_) (fun c_3 => ?_)
        · have hU2 : fs_Up (i + 1) kp (fun j => if j = p0 then kp p0 else if bt (kp j).1 α = true then fs_mb (kp j) (kp p0) else kp j) kp1 := fs_Up_k hU (by rw [hui, hie]; exact (if_pos rfl).symm)
          have hV2 : fs_Up (i + 1) pn (fun j => if j = p0 then pn p0 else if bt (pn j).1 α = true then fs_mb (pn j) (kp p0) else pn j) pn1 := fs_Up_k hV (by rw [hvi, hie]; exact (if_pos rfl).symm)
          refine lv_iinc (v := nI (i + 1)) (lv' := [(5, .int (nI (i + 1))), (0, .ref (b + 1)), (1, .int (nI p0)), (2, .int (nI α)), (3, .int num), (4, .ref (b + 4 + 2 * p0))]) hx hb dT_collapse_86 hl (k := 0) rfl (by show nI i + 1 = nI (i + 1); exact nI_1 i) (by decide) rfl (fun ls hl => ?_)
          refine lv_goto (tgt := 11) hx hb dT_collapse_89 (by decide) ?_
          exact back (kp1, pn1) _ _ _ ls ⟨hTB, hTf, hU2, hV2⟩ hW (lv_sub hl [0, 1, 2, 3, 4, 5] rfl)
        · exact absurd c_2 c_3
      · have hne : i ≠ p0 := fun z => c_2 (by rw [z])
        refine lv_aload_n hx hb dT_collapse_26 rfl (lv_at hl 1 rfl) ?_
        refine fm_get (ci := 1) (v := .ref (b + 2)) (C := RT) (T := TT) (N := 4) hx hb hT inT hown hK hW hTB.1 rfl 0 (by decide) (hT _ fl_T_11) (fun _ h9 => h9) rfl dT_collapse_27 ?_
        refine lv_iload hx hb dT_collapse_30 (lv_at hl 0 rfl) ?_
        refine fm_aald hx hb hK hW 3 hTB.2.1 rfl (vp_in_nI (N := 10) (by omega) (by decide)) (fs_rk_at (by omega)) dT_collapse_32 ?_
        refine lv_iload_n hx hb dT_collapse_33 rfl (lv_at hl 3 rfl) ?_
        refine fm_calli (va_runV (As := [.int (nI α)]) (rest := []) ⟨hx, hb, hml, hown, hts⟩ (c_P_xOn l D ct A M2 (b + 4 + 2 * i) (kp1 i) (nI α) (hTB.2.2.2.1 i (by omega))) ⟨callB_of 1 hts (fs_gin co_P_xOn) rfl rfl rfl (hT _ ini_P) (hT _ ml_T_43) (by decide +kernel) ⟨Nat.le_of_ble_eq_true rfl, Nat.le_of_ble_eq_true rfl⟩, hT _ im_P_xOn, hT _ se_P_xOn⟩ (fn_preV fs_isnw hK hN hW (hTB.2.2.2.1 i (by omega)) rfl) rfl rfl hl.1 rfl (lv_room (Nat.le_of_ble_eq_true rfl)) dT_collapse_34 ⟨Nat.le_of_ble_eq_true rfl, Nat.le_of_ble_eq_true rfl⟩) hW (fun r_4 M_5 H locs hp_6 hW => ?_)
        have hW : fm_W D fs_cl5 A M2 s.heap H locs := by rw [← hp_6.2]; exact hW
        have er_4 : r_4 = fs_b (bt (kp1 i).1 α) := by rw [hp_6.1]; exact fs_xOn_b (by omega) _
        refine lv_iconst (v := 1) hx hb dT_collapse_37 (by decide) ?_
        refine lv_icmp_ne (tgt := 53) hx hb dT_collapse_38 (by decide) (fun c_7 => ?_) (fun c_7 => ?_)
        · have hf : bt (kp1 i).1 α = false := fs_ndt _ (fun z => c_7 (by rw [er_4, z]; rfl))
          refine lv_iload hx hb dT_collapse_53 (lv_at hl 0 rfl) ?_
          refine lv_iload_n hx hb dT_collapse_55 rfl (lv_at hl 2 rfl) ?_
          refine lv_icmp_eq (tgt := 86) hx hb dT_collapse_56 (by decide) (fun c_8 => ?_) (fun c_8 => ?_)
          · exact absurd ((nI_eq (by omega) (by omega)).mp c_8) hne
          · refine lv_aload_n hx hb dT_collapse_59 rfl (lv_at hl 1 rfl) ?_
            refine fm_get (ci := 1) (v := .ref (b + 3)) (C := RT) (T := TT) (N := 4) hx hb hT inT hown hK hW hTB.1 rfl 1 (by decide) (hT _ fl_T_17) (fun _ h9 => h9) rfl dT_collapse_60 ?_
            refine lv_iload hx hb dT_collapse_63 (lv_at hl 0 rfl) ?_
            refine fm_aald hx hb hK hW 3 hTB.2.2.1 rfl (vp_in_nI (N := 10) (by omega) (by decide)) (fs_rp_at (by omega)) dT_collapse_65 ?_
            refine lv_iload_n hx hb dT_collapse_66 rfl (lv_at hl 3 rfl) ?_
            refine fm_calli (va_runV (As := [.int (nI α)]) (rest := []) ⟨hx, hb, hml, hown, hts⟩ (c_P_xOn l D ct A M2 (b + 5 + 2 * i) (pn1 i) (nI α) (hTB.2.2.2.2.1 i (by omega))) ⟨callB_of 1 hts (fs_gin co_P_xOn) rfl rfl rfl (hT _ ini_P) (hT _ ml_T_43) (by decide +kernel) ⟨Nat.le_of_ble_eq_true rfl, Nat.le_of_ble_eq_true rfl⟩, hT _ im_P_xOn, hT _ se_P_xOn⟩ (fn_preV fs_isnw hK hN hW (hTB.2.2.2.2.1 i (by omega)) rfl) rfl rfl hl.1 rfl (lv_room (Nat.le_of_ble_eq_true rfl)) dT_collapse_67 ⟨Nat.le_of_ble_eq_true rfl, Nat.le_of_ble_eq_true rfl⟩) hW (fun r_9 M_10 H locs hp_11 hW => ?_)
            have hW : fm_W D fs_cl5 A M2 s.heap H locs := by rw [← hp_11.2]; exact hW
            have er_9 : r_9 = fs_b (bt (pn1 i).1 α) := by rw [hp_11.1]; exact fs_xOn_b (by omega) _
            refine lv_iconst (v := 1) hx hb dT_collapse_70 (by decide) ?_
            refine lv_icmp_ne (tgt := 86) hx hb dT_collapse_71 (by decide) (fun c_12 => ?_) (fun c_12 => ?_)
            · have hf2 : bt (pn1 i).1 α = false := fs_ndt _ (fun z => c_12 (by rw [er_9, z]; rfl))
              have hU2 : fs_Up (i + 1) kp (fun j => if j = p0 then kp p0 else if bt (kp j).1 α = true then fs_mb (kp j) (kp p0) else kp j) kp1 := fs_Up_k hU (by rw [hui] at hf ⊢; exact ((if_neg hne).trans (if_neg (by rw [hf]; decide))).symm)
              have hV2 : fs_Up (i + 1) pn (fun j => if j = p0 then pn p0 else if bt (pn j).1 α = true then fs_mb (pn j) (kp p0) else pn j) pn1 := fs_Up_k hV (by rw [hvi] at hf2 ⊢; exact ((if_neg hne).trans (if_neg (by rw [hf2]; decide))).symm)
              refine lv_iinc (v := nI (i + 1)) (lv' := [(5, .int (nI (i + 1))), (0, .ref (b + 1)), (1, .int (nI p0)), (2, .int (nI α)), (3, .int num), (4, .ref (b + 4 + 2 * p0))]) hx hb dT_collapse_86 hl (k := 0) rfl (by show nI i + 1 = nI (i + 1); exact nI_1 i) (by decide) rfl (fun ls hl => ?_)
              refine lv_goto (tgt := 11) hx hb dT_collapse_89 (by decide) ?_
              exact back (kp1, pn1) _ _ _ ls ⟨hTB, hTf, hU2, hV2⟩ hW (lv_sub hl [0, 1, 2, 3, 4, 5] rfl)
            · have ht2 : bt (pn1 i).1 α = true := (fs_b_eq1 _).mp (by rw [← er_9]; exact c_12)
              refine lv_aload_n hx hb dT_collapse_74 rfl (lv_at hl 1 rfl) ?_
              refine fm_get (ci := 1) (v := .ref (b + 3)) (C := RT) (T := TT) (N := 4) hx hb hT inT hown hK hW hTB.1 rfl 1 (by decide) (hT _ fl_T_17) (fun _ h9 => h9) rfl dT_collapse_75 ?_
              refine lv_iload hx hb dT_collapse_78 (lv_at hl 0 rfl) ?_
              refine fm_aald hx hb hK hW 3 hTB.2.2.1 rfl (vp_in_nI (N := 10) (by omega) (by decide)) (fs_rp_at (by omega)) dT_collapse_80 ?_
              refine lv_aload hx hb dT_collapse_81 (lv_at hl 5 rfl) ?_
              refine fm_callv (va_runV (As := [.ref (b + 4 + 2 * p0)]) (rest := []) ⟨hx, hb, hml, hown, hts⟩ (c_P_multiplyBy l D ct A M2 (b + 5 + 2 * i) (pn1 i) (b + 4 + 2 * p0) (kp1 p0) (hTB.2.2.2.2.1 i (by omega)) (hTB.2.2.2.1 p0 (by omega)) (by omega)) ⟨callB_of 1 hts (fs_gin co_P_multiplyBy) rfl rfl rfl (hT _ ini_P) (hT _ ml_T_55) (by decide +kernel) ⟨Nat.le_of_ble_eq_true rfl, Nat.le_of_ble_eq_true rfl⟩, hT _ im_P_multiplyBy, hT _ se_P_multiplyBy⟩ (fn_preV fs_isnw hK hN hW (hTB.2.2.2.2.1 i (by omega)) rfl) rfl rfl hl.1 rfl (lv_room (Nat.le_of_ble_eq_true rfl)) dT_collapse_83 ⟨Nat.le_of_ble_eq_true rfl, Nat.le_of_ble_eq_true rfl⟩) hW (fun M_14 H locs hp_15 hW => ?_)
              have f_16 := ((congrFun hp_15 (b + 1)).trans (fm_un (by omega))).trans hTB.1
              have f_17 := ((congrFun hp_15 (b + 24)).trans (fm_un (by omega))).trans hTB.2.2.2.2.2
              have f_18 := ((congrFun hp_15 (b + 4 + 2 * p0)).trans (fm_un (by omega))).trans (hTB.2.2.2.1 p0 (by omega))
              have f_19 := ((congrFun hp_15 (b + 4 + 2 * i)).trans (fm_un (by omega))).trans (hTB.2.2.2.1 i (by omega))
              have f_20 := (congrFun hp_15 (b + 5 + 2 * i)).trans fm_us
              have hTB : fs_TB ct M_14 b kp1 (va_up pn1 i (fs_mb (pn1 i) (kp1 p0))) pr (nI N) := by rw [hp_15]; exact fs_TB_P hTB (by omega) (fs_mb (pn1 i) (kp1 p0))
              have hTf : fs_Tf b M M_14 := by rw [hp_15]; exact fs_Tf_u hTf (by omega) _
              have hU2 : fs_Up (i + 1) kp (fun j => if j = p0 then kp p0 else if bt (kp j).1 α = true then fs_mb (kp j) (kp p0) else kp j) kp1 := fs_Up_k hU (by rw [hui] at hf ⊢; exact ((if_neg hne).trans (if_neg (by rw [hf]; decide))).symm)
              have hV2 : fs_Up (i + 1) pn (fun j => if j = p0 then pn p0 else if bt (pn j).1 α = true then fs_mb (pn j) (kp p0) else pn j) (va_up pn1 i (fs_mb (pn1 i) (kp1 p0))) := fs_Up_s hV (by rw [hvi, hup]; rw [hvi] at ht2; exact ((if_neg hne).trans (if_pos ht2)).symm)
              refine lv_iinc (v := nI (i + 1)) (lv' := [(5, .int (nI (i + 1))), (0, .ref (b + 1)), (1, .int (nI p0)), (2, .int (nI α)), (3, .int num), (4, .ref (b + 4 + 2 * p0))]) hx hb dT_collapse_86 hl (k := 0) rfl (by show nI i + 1 = nI (i + 1); exact nI_1 i) (by decide) rfl (fun ls hl => ?_)
              refine lv_goto (tgt := 11) hx hb dT_collapse_89 (by decide) ?_
              exact back (kp1, va_up pn1 i (fs_mb (pn1 i) (kp1 p0))) _ _ _ ls ⟨hTB, hTf, hU2, hV2⟩ hW (lv_sub hl [0, 1, 2, 3, 4, 5] rfl)
        · have ht : bt (kp1 i).1 α = true := (fs_b_eq1 _).mp (by rw [← er_4]; exact c_7)
          refine lv_aload_n hx hb dT_collapse_41 rfl (lv_at hl 1 rfl) ?_
          refine fm_get (ci := 1) (v := .ref (b + 2)) (C := RT) (T := TT) (N := 4) hx hb hT inT hown hK hW hTB.1 rfl 0 (by decide) (hT _ fl_T_11) (fun _ h9 => h9) rfl dT_collapse_42 ?_
          refine lv_iload hx hb dT_collapse_45 (lv_at hl 0 rfl) ?_
          refine fm_aald hx hb hK hW 3 hTB.2.1 rfl (vp_in_nI (N := 10) (by omega) (by decide)) (fs_rk_at (by omega)) dT_collapse_47 ?_
          refine lv_aload hx hb dT_collapse_48 (lv_at hl 5 rfl) ?_
          refine fm_callv (va_runV (As := [.ref (b + 4 + 2 * p0)]) (rest := []) ⟨hx, hb, hml, hown, hts⟩ (c_P_multiplyBy l D ct A M2 (b + 4 + 2 * i) (kp1 i) (b + 4 + 2 * p0) (kp1 p0) (hTB.2.2.2.1 i (by omega)) (hTB.2.2.2.1 p0 (by omega)) (by omega)) ⟨callB_of 1 hts (fs_gin co_P_multiplyBy) rfl rfl rfl (hT _ ini_P) (hT _ ml_T_55) (by decide +kernel) ⟨Nat.le_of_ble_eq_true rfl, Nat.le_of_ble_eq_true rfl⟩, hT _ im_P_multiplyBy, hT _ se_P_multiplyBy⟩ (fn_preV fs_isnw hK hN hW (hTB.2.2.2.1 i (by omega)) rfl) rfl rfl hl.1 rfl (lv_room (Nat.le_of_ble_eq_true rfl)) dT_collapse_50 ⟨Nat.le_of_ble_eq_true rfl, Nat.le_of_ble_eq_true rfl⟩) hW (fun M_22 H locs hp_23 hW => ?_)
          have f_24 := ((congrFun hp_23 (b + 1)).trans (fm_un (by omega))).trans hTB.1
          have f_25 := ((congrFun hp_23 (b + 24)).trans (fm_un (by omega))).trans hTB.2.2.2.2.2
          have f_26 := ((congrFun hp_23 (b + 4 + 2 * p0)).trans (fm_un (by omega))).trans (hTB.2.2.2.1 p0 (by omega))
          have f_27 := (congrFun hp_23 (b + 4 + 2 * i)).trans fm_us
          have hTB : fs_TB ct M_22 b (va_up kp1 i (fs_mb (kp1 i) (kp1 p0))) pn1 pr (nI N) := by rw [hp_23]; exact fs_TB_K hTB (by omega) (fs_mb (kp1 i) (kp1 p0))
          have hTf : fs_Tf b M M_22 := by rw [hp_23]; exact fs_Tf_u hTf (by omega) _
          refine lv_iload hx hb dT_collapse_53 (lv_at hl 0 rfl) ?_
          refine lv_iload_n hx hb dT_collapse_55 rfl (lv_at hl 2 rfl) ?_
          refine lv_icmp_eq (tgt := 86) hx hb dT_collapse_56 (by decide) (fun c_28 => ?_) (fun c_28 => ?_)
          · exact absurd ((nI_eq (by omega) (by omega)).mp c_28) hne
          · refine lv_aload_n hx hb dT_collapse_59 rfl (lv_at hl 1 rfl) ?_
            refine fm_get (ci := 1) (v := .ref (b + 3)) (C := RT) (T := TT) (N := 4) hx hb hT inT hown hK hW f_24 rfl 1 (by decide) (hT _ fl_T_17) (fun _ h9 => h9) rfl dT_collapse_60 ?_
            refine lv_iload hx hb dT_collapse_63 (lv_at hl 0 rfl) ?_
            refine fm_aald hx hb hK hW 3 hTB.2.2.1 rfl (vp_in_nI (N := 10) (by omega) (by decide)) (fs_rp_at (by omega)) dT_collapse_65 ?_
            refine lv_iload_n hx hb dT_collapse_66 rfl (lv_at hl 3 rfl) ?_
            refine fm_calli (va_runV (As := [.int (nI α)]) (rest := []) ⟨hx, hb, hml, hown, hts⟩ (c_P_xOn l D ct A M_22 (b + 5 + 2 * i) (pn1 i) (nI α) (hTB.2.2.2.2.1 i (by omega))) ⟨callB_of 1 hts (fs_gin co_P_xOn) rfl rfl rfl (hT _ ini_P) (hT _ ml_T_43) (by decide +kernel) ⟨Nat.le_of_ble_eq_true rfl, Nat.le_of_ble_eq_true rfl⟩, hT _ im_P_xOn, hT _ se_P_xOn⟩ (fn_preV fs_isnw hK hN hW (hTB.2.2.2.2.1 i (by omega)) rfl) rfl rfl hl.1 rfl (lv_room (Nat.le_of_ble_eq_true rfl)) dT_collapse_67 ⟨Nat.le_of_ble_eq_true rfl, Nat.le_of_ble_eq_true rfl⟩) hW (fun r_29 M_30 H locs hp_31 hW => ?_)
            have hW : fm_W D fs_cl5 A M_22 s.heap H locs := by rw [← hp_31.2]; exact hW
            have er_29 : r_29 = fs_b (bt (pn1 i).1 α) := by rw [hp_31.1]; exact fs_xOn_b (by omega) _
            refine lv_iconst (v := 1) hx hb dT_collapse_70 (by decide) ?_
            refine lv_icmp_ne (tgt := 86) hx hb dT_collapse_71 (by decide) (fun c_32 => ?_) (fun c_32 => ?_)
            · have hf2 : bt (pn1 i).1 α = false := fs_ndt _ (fun z => c_32 (by rw [er_29, z]; rfl))
              have hU2 : fs_Up (i + 1) kp (fun j => if j = p0 then kp p0 else if bt (kp j).1 α = true then fs_mb (kp j) (kp p0) else kp j) (va_up kp1 i (fs_mb (kp1 i) (kp1 p0))) := fs_Up_s hU (by rw [hui, hup]; rw [hui] at ht; exact ((if_neg hne).trans (if_pos ht)).symm)
              have hV2 : fs_Up (i + 1) pn (fun j => if j = p0 then pn p0 else if bt (pn j).1 α = true then fs_mb (pn j) (kp p0) else pn j) pn1 := fs_Up_k hV (by rw [hvi] at hf2 ⊢; exact ((if_neg hne).trans (if_neg (by rw [hf2]; decide))).symm)
              refine lv_iinc (v := nI (i + 1)) (lv' := [(5, .int (nI (i + 1))), (0, .ref (b + 1)), (1, .int (nI p0)), (2, .int (nI α)), (3, .int num), (4, .ref (b + 4 + 2 * p0))]) hx hb dT_collapse_86 hl (k := 0) rfl (by show nI i + 1 = nI (i + 1); exact nI_1 i) (by decide) rfl (fun ls hl => ?_)
              refine lv_goto (tgt := 11) hx hb dT_collapse_89 (by decide) ?_
              exact back (va_up kp1 i (fs_mb (kp1 i) (kp1 p0)), pn1) _ _ _ ls ⟨hTB, hTf, hU2, hV2⟩ hW (lv_sub hl [0, 1, 2, 3, 4, 5] rfl)
            · have ht2 : bt (pn1 i).1 α = true := (fs_b_eq1 _).mp (by rw [← er_29]; exact c_32)
              refine lv_aload_n hx hb dT_collapse_74 rfl (lv_at hl 1 rfl) ?_
              refine fm_get (ci := 1) (v := .ref (b + 3)) (C := RT) (T := TT) (N := 4) hx hb hT inT hown hK hW f_24 rfl 1 (by decide) (hT _ fl_T_17) (fun _ h9 => h9) rfl dT_collapse_75 ?_
              refine lv_iload hx hb dT_collapse_78 (lv_at hl 0 rfl) ?_
              refine fm_aald hx hb hK hW 3 hTB.2.2.1 rfl (vp_in_nI (N := 10) (by omega) (by decide)) (fs_rp_at (by omega)) dT_collapse_80 ?_
              refine lv_aload hx hb dT_collapse_81 (lv_at hl 5 rfl) ?_
              refine fm_callv (va_runV (As := [.ref (b + 4 + 2 * p0)]) (rest := []) ⟨hx, hb, hml, hown, hts⟩ (c_P_multiplyBy l D ct A M_22 (b + 5 + 2 * i) (pn1 i) (b + 4 + 2 * p0) (kp1 p0) (hTB.2.2.2.2.1 i (by omega)) f_26 (by omega)) ⟨callB_of 1 hts (fs_gin co_P_multiplyBy) rfl rfl rfl (hT _ ini_P) (hT _ ml_T_55) (by decide +kernel) ⟨Nat.le_of_ble_eq_true rfl, Nat.le_of_ble_eq_true rfl⟩, hT _ im_P_multiplyBy, hT _ se_P_multiplyBy⟩ (fn_preV fs_isnw hK hN hW (hTB.2.2.2.2.1 i (by omega)) rfl) rfl rfl hl.1 rfl (lv_room (Nat.le_of_ble_eq_true rfl)) dT_collapse_83 ⟨Nat.le_of_ble_eq_true rfl, Nat.le_of_ble_eq_true rfl⟩) hW (fun M_34 H locs hp_35 hW => ?_)
              have f_36 := ((congrFun hp_35 (b + 1)).trans (fm_un (by omega))).trans f_24
              have f_37 := ((congrFun hp_35 (b + 24)).trans (fm_un (by omega))).trans f_25
              have f_38 := ((congrFun hp_35 (b + 4 + 2 * p0)).trans (fm_un (by omega))).trans f_26
              have f_39 := ((congrFun hp_35 (b + 4 + 2 * i)).trans (fm_un (by omega))).trans f_27
              have f_40 := (congrFun hp_35 (b + 5 + 2 * i)).trans fm_us
              have hTB : fs_TB ct M_34 b (va_up kp1 i (fs_mb (kp1 i) (kp1 p0))) (va_up pn1 i (fs_mb (pn1 i) (kp1 p0))) pr (nI N) := by rw [hp_35]; exact fs_TB_P hTB (by omega) (fs_mb (pn1 i) (kp1 p0))
              have hTf : fs_Tf b M M_34 := by rw [hp_35]; exact fs_Tf_u hTf (by omega) _
              have hU2 : fs_Up (i + 1) kp (fun j => if j = p0 then kp p0 else if bt (kp j).1 α = true then fs_mb (kp j) (kp p0) else kp j) (va_up kp1 i (fs_mb (kp1 i) (kp1 p0))) := fs_Up_s hU (by rw [hui, hup]; rw [hui] at ht; exact ((if_neg hne).trans (if_pos ht)).symm)
              have hV2 : fs_Up (i + 1) pn (fun j => if j = p0 then pn p0 else if bt (pn j).1 α = true then fs_mb (pn j) (kp p0) else pn j) (va_up pn1 i (fs_mb (pn1 i) (kp1 p0))) := fs_Up_s hV (by rw [hvi, hup]; rw [hvi] at ht2; exact ((if_neg hne).trans (if_pos ht2)).symm)
              refine lv_iinc (v := nI (i + 1)) (lv' := [(5, .int (nI (i + 1))), (0, .ref (b + 1)), (1, .int (nI p0)), (2, .int (nI α)), (3, .int num), (4, .ref (b + 4 + 2 * p0))]) hx hb dT_collapse_86 hl (k := 0) rfl (by show nI i + 1 = nI (i + 1); exact nI_1 i) (by decide) rfl (fun ls hl => ?_)
              refine lv_goto (tgt := 11) hx hb dT_collapse_89 (by decide) ?_
              exact back (va_up kp1 i (fs_mb (kp1 i) (kp1 p0)), va_up pn1 i (fs_mb (pn1 i) (kp1 p0))) _ _ _ ls ⟨hTB, hTf, hU2, hV2⟩ hW (lv_sub hl [0, 1, 2, 3, 4, 5] rfl)
  · intro u M2 H locs ls hI hW hl
    obtain ⟨kp1, pn1⟩ := u
    obtain ⟨hTB, hTf, hU, hV⟩ := hI
    have hTB : fs_TB ct M2 b kp1 pn1 pr (nI N) := hTB
    have hU : fs_Up N kp (fun j => if j = p0 then kp p0 else if bt (kp j).1 α = true then fs_mb (kp j) (kp p0) else kp j) kp1 := hU
    have hV : fs_Up N pn (fun j => if j = p0 then pn p0 else if bt (pn j).1 α = true then fs_mb (pn j) (kp p0) else pn j) pn1 := hV
    have hl : lv_has ls 6 [(5, .int (nI N)), (0, .ref (b + 1)), (1, .int (nI p0)), (2, .int (nI α)), (3, .int num), (4, .ref (b + 4 + 2 * p0))] := hl
    have hup : kp1 p0 = kp p0 := by
      rcases Nat.lt_or_ge p0 N with z | z
      · rw [hU.1 p0 z]; exact if_pos rfl
      · exact hU.2 p0 z
    refine lv_iload hx hb dT_collapse_11 (lv_at hl 0 rfl) ?_
    refine lv_aload_n hx hb dT_collapse_13 rfl (lv_at hl 1 rfl) ?_
    refine fm_get (ci := 1) (v := .int (nI N)) (C := RT) (T := TT) (N := 4) hx hb hT inT hown hK hW hTB.1 rfl 3 (by decide) (hT _ fl_T_31) (fun _ h9 => h9) rfl dT_collapse_14 ?_
    refine lv_icmp_ge (tgt := 92) hx hb dT_collapse_17 (by decide) (fun c_41 => ?_) (fun c_41 => ?_)
    · refine lv_aload_n hx hb dT_collapse_92 rfl (lv_at hl 1 rfl) ?_
      refine fm_get (ci := 1) (v := .ref (b + 3)) (C := RT) (T := TT) (N := 4) hx hb hT inT hown hK hW hTB.1 rfl 1 (by decide) (hT _ fl_T_17) (fun _ h9 => h9) rfl dT_collapse_93 ?_
      refine lv_iload_n hx hb dT_collapse_96 rfl (lv_at hl 2 rfl) ?_
      refine fm_aald hx hb hK hW 3 hTB.2.2.1 rfl (vp_in_nI (N := 10) (by omega) (by decide)) (fs_rp_at (by omega)) dT_collapse_97 ?_
      refine lv_aload hx hb dT_collapse_98 (lv_at hl 5 rfl) ?_
      refine fm_callv (va_runV (As := [.ref (b + 4 + 2 * p0)]) (rest := []) ⟨hx, hb, hml, hown, hts⟩ (c_P_copyFrom l D ct A M2 (b + 5 + 2 * p0) (pn1 p0) (b + 4 + 2 * p0) (kp1 p0) (hTB.2.2.2.2.1 p0 (by omega)) (hTB.2.2.2.1 p0 (by omega)) (by omega)) ⟨callB_of 1 hts (fs_gin co_P_copyFrom) rfl rfl rfl (hT _ ini_P) (hT _ ml_T_59) (by decide +kernel) ⟨Nat.le_of_ble_eq_true rfl, Nat.le_of_ble_eq_true rfl⟩, hT _ im_P_copyFrom, hT _ se_P_copyFrom⟩ (fn_preV fs_isnw hK hN hW (hTB.2.2.2.2.1 p0 (by omega)) rfl) rfl rfl hl.1 rfl (lv_room (Nat.le_of_ble_eq_true rfl)) dT_collapse_100 ⟨Nat.le_of_ble_eq_true rfl, Nat.le_of_ble_eq_true rfl⟩) hW (fun M_43 H locs hp_44 hW => ?_)
      have f_45 := ((congrFun hp_44 (b + 1)).trans (fm_un (by omega))).trans hTB.1
      have f_46 := ((congrFun hp_44 (b + 24)).trans (fm_un (by omega))).trans hTB.2.2.2.2.2
      have f_47 := ((congrFun hp_44 (b + 4 + 2 * p0)).trans (fm_un (by omega))).trans (hTB.2.2.2.1 p0 (by omega))
      have f_48 := (congrFun hp_44 (b + 5 + 2 * p0)).trans fm_us
      have hTB : fs_TB ct M_43 b kp1 (va_up pn1 p0 (kp1 p0)) pr (nI N) := by rw [hp_44]; exact fs_TB_P hTB (by omega) (kp1 p0)
      have hTf : fs_Tf b M M_43 := by rw [hp_44]; exact fs_Tf_u hTf (by omega) _
      refine lv_aload hx hb dT_collapse_103 (lv_at hl 5 rfl) ?_
      refine lv_iconst (v := 0) hx hb dT_collapse_105 (by decide) ?_
      refine lv_iconst (v := 1) hx hb dT_collapse_106 (by decide) ?_
      refine lv_iload_n hx hb dT_collapse_107 rfl (lv_at hl 3 rfl) ?_
      refine lv_ishl hx hb dT_collapse_108 ?_
      refine fm_callv (va_runV (As := [.int 0, .int (1 <<< ((nI α) &&& 31))]) (rest := []) ⟨hx, hb, hml, hown, hts⟩ (c_P_become l D ct A M_43 (b + 4 + 2 * p0) (kp1 p0) 0 (1 <<< ((nI α) &&& 31)) f_47) ⟨callB_of 2 hts (fs_gin co_P_become) rfl rfl rfl (hT _ ini_P) (hT _ ml_T_35) (by decide +kernel) ⟨Nat.le_of_ble_eq_true rfl, Nat.le_of_ble_eq_true rfl⟩, hT _ im_P_become, hT _ se_P_become⟩ (fn_preV fs_isnw hK hN hW f_47 rfl) rfl rfl hl.1 rfl (lv_room (Nat.le_of_ble_eq_true rfl)) dT_collapse_109 ⟨Nat.le_of_ble_eq_true rfl, Nat.le_of_ble_eq_true rfl⟩) hW (fun M_50 H locs hp_51 hW => ?_)
      have f_52 := ((congrFun hp_51 (b + 1)).trans (fm_un (by omega))).trans f_45
      have f_53 := ((congrFun hp_51 (b + 24)).trans (fm_un (by omega))).trans f_46
      have f_54 := (congrFun hp_51 (b + 4 + 2 * p0)).trans fm_us
      have f_55 := ((congrFun hp_51 (b + 5 + 2 * p0)).trans (fm_un (by omega))).trans f_48
      have hTB : fs_TB ct M_50 b (va_up kp1 p0 (0, 1 <<< ((nI α) &&& 31), 0, 0)) (va_up pn1 p0 (kp1 p0)) pr (nI N) := by rw [hp_51]; exact fs_TB_K hTB (by omega) (0, 1 <<< ((nI α) &&& 31), 0, 0)
      have hTf : fs_Tf b M M_50 := by rw [hp_51]; exact fs_Tf_u hTf (by omega) _
      refine lv_aload hx hb dT_collapse_112 (lv_at hl 5 rfl) ?_
      refine lv_lconst (v := 1) hx hb dT_collapse_114 (by decide) ?_
      refine lv_iload_n hx hb dT_collapse_115 rfl (lv_at hl 4 rfl) ?_
      refine lv_lshl (v := 1 <<< (num.toInt64 &&& 63)) hx hb dT_collapse_116 rfl ?_
      refine lv_topl (fun x_56 ex_56 => ?_)
      refine fm_putN (ci := 0) (v := .long x_56) (ty := .long) (C := RP) (T := TP) (N := 4) hx hb hT inP tyP tkP nmP hown hK hW f_54 rfl 3 (by decide) (hN _ (List.mem_of_getElem? (i := 7) rfl)) (fun _ h9 => h9) rfl (by decide +kernel) rfl rfl (Nat.le_of_ble_eq_true rfl) dT_collapse_117 (fun H locs hW => ?_)
      obtain ⟨M_57, eM_57⟩ : ∃ z : fm_M, z = va_up M_50 (b + 4 + 2 * p0) (some (.inr (0, [.int 0, .int (1 <<< ((nI α) &&& 31)), .int 0, .long x_56]))) := ⟨_, rfl⟩
      have hW : fm_W D fs_cl5 A M_57 s.heap H locs := by rw [eM_57]; exact hW
      have f_58 := (show M_57 (b + 1) = M_50 (b + 1) by rw [eM_57]; exact fm_un (by omega)).trans f_52
      have f_59 := (show M_57 (b + 24) = M_50 (b + 24) by rw [eM_57]; exact fm_un (by omega)).trans f_53
      have f_60 : M_57 (b + 4 + 2 * p0) = some (.inr (0, [.int 0, .int (1 <<< ((nI α) &&& 31)), .int 0, .long x_56])) := by rw [eM_57]; exact fm_us
      have f_61 := (show M_57 (b + 5 + 2 * p0) = M_50 (b + 5 + 2 * p0) by rw [eM_57]; exact fm_un (by omega)).trans f_55
      have hTB : fs_TB ct M_57 b (va_up (va_up kp1 p0 (0, 1 <<< ((nI α) &&& 31), 0, 0)) p0 (0, 1 <<< ((nI α) &&& 31), 0, x_56)) (va_up pn1 p0 (kp1 p0)) pr (nI N) := by rw [eM_57]; exact fs_TB_K hTB (by omega) (0, 1 <<< ((nI α) &&& 31), 0, x_56)
      have hTf : fs_Tf b M M_57 := by rw [eM_57]; exact fs_Tf_u hTf (by omega) _
      refine lv_aload hx hb dT_collapse_120 (lv_at hl 5 rfl) ?_
      refine fm_aret hx hb hr hlocks hW ⟨rfl, _, _, hTB, hTf, fun i hi => ?_, fun i hi => ?_⟩ dT_collapse_122
      · by_cases q : i = p0
        · subst ex_56; subst q; rw [if_pos rfl, fu_s]
        · rw [if_neg q, fu_n q, fu_n q, hU.1 i hi]; exact if_neg q
      · by_cases q : i = p0
        · subst q; rw [if_pos rfl, fu_s, hup]
        · rw [if_neg q, fu_n q, hV.1 i hi]; exact if_neg q
    · exact absurd (nI_le (Nat.le_refl N) (by omega)) c_41
set_option maxHeartbeats 4000000 in
set_option maxRecDepth 100000 in
theorem c_T_measure (l : Launch) (D : va_G) (ct : Nat → ClassId) (A : Nat → Prop) (M : fm_M) (b N : Nat) (kp pn : Nat → fs_Q) (pr : fs_Q) (α : Nat) (num : Int32) (hTB : fs_TB ct M b kp pn pr (nI N)) (hNN : N ≤ 10) (hα : α < N) : Met l yT_measure wT_measure ({ frames := 3, cells := 0, slots := 0, locals := 72 }) (va_Pc [.ref (b + 1), .int (nI α), .int num] (fm_St D fs_cl5 (fs_tys ct) fs_nw A M)) (va_Qr (S := fm_M) (fun _ => True) (fun M1 ra t => (fun (ra : Nat) (M1 : fm_M) => ∃ (kp2 pn2 : Nat → fs_Q) (pr2 qv : fs_Q), fs_TB ct M1 b kp2 pn2 pr2 (nI N) ∧ fs_Tf b M M1 ∧ (b + 4 ≤ ra ∧ ra < b + 25) ∧ M1 ra = some (fs_PE qv) ∧ fs_cL N α (1 <<< (num.toInt64 &&& 63)) kp pn kp2 pn2 qv.2.2.1 qv.2.2.2) ra M1 ∧ fm_B D fs_cl5 A M1 t) A) 0 0 A := by
  refine Met.ofW (cc := cT_measure) (maxL := 4) (ret := (some (.object "FrameSamples$Pauli"))) (by decide) rfl ?_
  intro p e s m args below meth c s₁ B hml hv
  obtain ⟨rfl, hP0, hA0, hA1, hK, hN⟩ := hv
  have hx := B.exec
  have hb := B.bytes
  have hr := B.returns
  have hts := atoms_spec (ws := wT_measure) B.pre
  have hT : ∀ w ∈ fs_tb, w.before _ s = true := fun w h => hts w (List.mem_cons_of_mem _ h)
  have hown : s.vm.findClass "FrameSamples$Tableau" = some m.cls := findClass_of_methodNamed B.named
  have hlocks := B.notSynchronized
  have hW : fm_W D fs_cl5 A M s.heap s.heap [] := ⟨hP0, hA0, va_S.rf, hA1⟩
  have hl := lv_entry ([.ref (b + 1), .int (nI α), .int num]) (n := 4) (Nat.le_of_ble_eq_true rfl)
  rw [lg_entry_eq]
  generalize (lg_sl ([.ref (b + 1), .int (nI α), .int num]) ++ List.replicate (4 - (lg_sl ([.ref (b + 1), .int (nI α), .int num])).length) Slot.unset).toArray = ls at hl ⊢
  have hl : lv_has ls 4 [(0, .ref (b + 1)), (1, .int (nI α)), (2, .int num)] := hl
  have hTf : fs_Tf b M M := fs_Tf_r
  refine lv_iconst (v := 0) hx hb dT_measure_0 (by decide) ?_
  refine lv_istore_n (lv' := [(3, .int 0), (0, .ref (b + 1)), (1, .int (nI α)), (2, .int num)]) hx hb dT_measure_1 rfl hl (by decide) rfl (fun ls hl => ?_)
  refine fm_loop (head := 2) (maxL := 4) N (fun i (u : Unit) M1 => M1 = M ∧ ∀ j, j < i → bt (kp j).1 α = false) (fun i (u : Unit) => [(3, .int (nI i)), (0, .ref (b + 1)), (1, .int (nI α)), (2, .int num)]) ?_ ?_ N 0 (by omega) () M _ _ ls ⟨rfl, fun j hj => absurd hj (Nat.not_lt_zero j)⟩ hW (lv_sub hl [0, 1, 2, 3] rfl)
  · intro i u M2 H locs ls hi hI hW hl back
    obtain ⟨hMe, hU⟩ := hI
    have hl : lv_has ls 4 [(3, .int (nI i)), (0, .ref (b + 1)), (1, .int (nI α)), (2, .int num)] := hl
    have hW : fm_W D fs_cl5 A M s.heap H locs := by rw [← hMe]; exact hW
    refine lv_iload_n hx hb dT_measure_2 rfl (lv_at hl 0 rfl) ?_
    refine lv_aload_n hx hb dT_measure_3 rfl (lv_at hl 1 rfl) ?_
    refine fm_get (ci := 1) (v := .int (nI N)) (C := RT) (T := TT) (N := 4) hx hb hT inT hown hK hW hTB.1 rfl 3 (by decide) (hT _ fl_T_31) (fun _ h9 => h9) rfl dT_measure_4 ?_
    refine lv_icmp_ge (tgt := 38) hx hb dT_measure_7 (by decide) (fun c_1 => ?_) (fun c_1 => ?_)
    · exact absurd c_1 (nI_ge hi (by omega))
    · refine lv_aload_n hx hb dT_measure_10 rfl (lv_at hl 1 rfl) ?_
      refine fm_get (ci := 1) (v := .ref (b + 2)) (C := RT) (T := TT) (N := 4) hx hb hT inT hown hK hW hTB.1 rfl 0 (by decide) (hT _ fl_T_11) (fun _ h9 => h9) rfl dT_measure_11 ?_
      refine lv_iload_n hx hb dT_measure_14 rfl (lv_at hl 0 rfl) ?_
      refine fm_aald hx hb hK hW 3 hTB.2.1 rfl (vp_in_nI (N := 10) (by omega) (by decide)) (fs_rk_at (by omega)) dT_measure_15 ?_
      refine lv_iload_n hx hb dT_measure_16 rfl (lv_at hl 2 rfl) ?_
      refine fm_calli (va_runV (As := [.int (nI α)]) (rest := []) ⟨hx, hb, hml, hown, hts⟩ (c_P_xOn l D ct A M (b + 4 + 2 * i) (kp i) (nI α) (hTB.2.2.2.1 i (by omega))) ⟨callB_of 1 hts (fs_gin co_P_xOn) rfl rfl rfl (hT _ ini_P) (hT _ ml_T_43) (by decide +kernel) ⟨Nat.le_of_ble_eq_true rfl, Nat.le_of_ble_eq_true rfl⟩, hT _ im_P_xOn, hT _ se_P_xOn⟩ (fn_preV fs_isnw hK hN hW (hTB.2.2.2.1 i (by omega)) rfl) rfl rfl hl.1 rfl (lv_room (Nat.le_of_ble_eq_true rfl)) dT_measure_17 ⟨Nat.le_of_ble_eq_true rfl, Nat.le_of_ble_eq_true rfl⟩) hW (fun r_2 M_3 H locs hp_4 hW => ?_)
      have hW : fm_W D fs_cl5 A M s.heap H locs := by rw [← hp_4.2]; exact hW
      have er_2 : r_2 = fs_b (bt (kp i).1 α) := by rw [hp_4.1]; exact fs_xOn_b (by omega) _
      refine lv_iconst (v := 1) hx hb dT_measure_20 (by decide) ?_
      refine lv_icmp_ne (tgt := 32) hx hb dT_measure_21 (by decide) (fun c_5 => ?_) (fun c_5 => ?_)
      · have hf : bt (kp i).1 α = false := fs_ndt _ (fun z => c_5 (by rw [er_2, z]; rfl))
        refine lv_iinc (v := nI (i + 1)) (lv' := [(3, .int (nI (i + 1))), (0, .ref (b + 1)), (1, .int (nI α)), (2, .int num)]) hx hb dT_measure_32 hl (k := 0) rfl (by show nI i + 1 = nI (i + 1); exact nI_1 i) (by decide) rfl (fun ls hl => ?_)
        refine lv_goto (tgt := 2) hx hb dT_measure_35 (by decide) ?_
        exact back () _ _ _ ls ⟨rfl, fun j hj => by by_cases z : j = i; exact z ▸ hf; exact hU j (by omega)⟩ hW (lv_sub hl [0, 1, 2, 3] rfl)
      · have ht : bt (kp i).1 α = true := (fs_b_eq1 _).mp (by rw [← er_2]; exact c_5)
        refine lv_aload_n hx hb dT_measure_24 rfl (lv_at hl 1 rfl) ?_
        refine lv_iload_n hx hb dT_measure_25 rfl (lv_at hl 0 rfl) ?_
        refine lv_iload_n hx hb dT_measure_26 rfl (lv_at hl 2 rfl) ?_
        refine lv_iload_n hx hb dT_measure_27 rfl (lv_at hl 3 rfl) ?_
        refine fm_callr (va_runV (As := [.int (nI i), .int (nI α), .int num]) (rest := []) ⟨hx, hb, hml, hown, hts⟩ (c_T_collapse l D ct A M b N kp pn pr i α num hTB hNN hi hα) ⟨callB_of 3 hts (fs_gin co_T_collapse) rfl rfl rfl (hT _ ini_T) (hT _ ml_T_47) (by decide +kernel) ⟨Nat.le_of_ble_eq_true rfl, Nat.le_of_ble_eq_true rfl⟩, hT _ im_T_collapse, hT _ se_T_collapse⟩ (fn_preV fs_isnw hK hN hW hTB.1 rfl) rfl rfl hl.1 rfl (lv_room (Nat.le_of_ble_eq_true rfl)) dT_measure_28 ⟨Nat.le_of_ble_eq_true rfl, Nat.le_of_ble_eq_true rfl⟩) hW (fun r_6 M_7 H locs hp_8 hW => ?_)
        obtain ⟨e1, kp2, pn2, t1, t2, t3, t4⟩ := hp_8
        refine fm_aret hx hb hr hlocks hW ⟨kp2, pn2, pr, _, t1, t2, by omega, by rw [e1]; exact t1.2.2.2.1 i (by omega), Or.inl ⟨i, hi, ht, t3, t4, ?_, ?_⟩⟩ dT_measure_31
        · rw [t3 i hi, if_pos rfl]
        · rw [t3 i hi, if_pos rfl]
  · intro u M2 H locs ls hI hW hl
    obtain ⟨hMe, hU⟩ := hI
    have hl : lv_has ls 4 [(3, .int (nI N)), (0, .ref (b + 1)), (1, .int (nI α)), (2, .int num)] := hl
    have hW : fm_W D fs_cl5 A M s.heap H locs := by rw [← hMe]; exact hW
    refine lv_iload_n hx hb dT_measure_2 rfl (lv_at hl 0 rfl) ?_
    refine lv_aload_n hx hb dT_measure_3 rfl (lv_at hl 1 rfl) ?_
    refine fm_get (ci := 1) (v := .int (nI N)) (C := RT) (T := TT) (N := 4) hx hb hT inT hown hK hW hTB.1 rfl 3 (by decide) (hT _ fl_T_31) (fun _ h9 => h9) rfl dT_measure_4 ?_
    refine lv_icmp_ge (tgt := 38) hx hb dT_measure_7 (by decide) (fun c_9 => ?_) (fun c_9 => ?_)
    · refine lv_aload_n hx hb dT_measure_38 rfl (lv_at hl 1 rfl) ?_
      refine lv_iload_n hx hb dT_measure_39 rfl (lv_at hl 2 rfl) ?_
      refine fm_callr (va_runV (As := [.int (nI α)]) (rest := []) ⟨hx, hb, hml, hown, hts⟩ (c_T_zFromKeepers l D ct A M b N kp pn pr α hTB hNN hα) ⟨callB_of 1 hts (fs_gin co_T_zFromKeepers) rfl rfl rfl (hT _ ini_T) (hT _ ml_T_51) (by decide +kernel) ⟨Nat.le_of_ble_eq_true rfl, Nat.le_of_ble_eq_true rfl⟩, hT _ im_T_zFromKeepers, hT _ se_T_zFromKeepers⟩ (fn_preV fs_isnw hK hN hW hTB.1 rfl) rfl rfl hl.1 rfl (lv_room (Nat.le_of_ble_eq_true rfl)) dT_measure_40 ⟨Nat.le_of_ble_eq_true rfl, Nat.le_of_ble_eq_true rfl⟩) hW (fun r_10 M_11 H locs hp_12 hW => ?_)
      obtain ⟨e1, t1, t2⟩ := hp_12
      exact fm_aret hx hb hr hlocks hW ⟨kp, pn, _, _, t1, t2, by omega, by rw [e1]; exact t1.2.2.2.2.2, Or.inr ⟨hU, fun _ _ => rfl, fun _ _ => rfl, rfl, rfl⟩⟩ dT_measure_43
    · exact absurd (nI_le (Nat.le_refl N) (by omega)) c_9
end
section
-- the class Fault; small methods of FrameSamples
def fs_FE (a : Nat) (od : Int32) (cl : Int64) (ck : Int32) : va_E := .inr (2, [.ref a, .int od, .long cl, .int ck])
set_option maxHeartbeats 4000000 in
set_option maxRecDepth 100000 in
theorem c_S_parity (l : Launch) (D : va_G) (ct : Nat → ClassId) (A : Nat → Prop) (M : fm_M) (x : Int64) : Met l yS_parity wS_parity ({ frames := 1, cells := 0, slots := 0, locals := 21 }) (va_Pc [.long x] (fm_St D fs_cl5 (fs_tys ct) fs_nw A M)) (va_Qi (fun (r : Int32) (M1 : fm_M) => r = fs_bcl x &&& 1 ∧ M1 = M) (fm_B D fs_cl5 A) A) 0 0 A := by
  refine Met.ofW (cc := cS_parity) (maxL := 2) (ret := (some .int)) (by decide) rfl ?_
  intro p e s m args below meth c s₁ B hml hv
  obtain ⟨rfl, hP0, hA0, hA1, hK, hN⟩ := hv
  have hx := B.exec
  have hb := B.bytes
  have hr := B.returns
  have hts := atoms_spec (ws := wS_parity) B.pre
  have hT : ∀ w ∈ fs_tb, w.before _ s = true := fun w h => hts w (List.mem_cons_of_mem _ h)
  have hown : s.vm.findClass "FrameSamples" = some m.cls := findClass_of_methodNamed B.named
  have hlocks := B.notSynchronized
  have hW : fm_W D fs_cl5 A M s.heap s.heap [] := ⟨hP0, hA0, va_S.rf, hA1⟩
  have hl := lv_entry ([.long x]) (n := 2) (Nat.le_of_ble_eq_true rfl)
  rw [lg_entry_eq]
  generalize (lg_sl ([.long x]) ++ List.replicate (2 - (lg_sl ([.long x])).length) Slot.unset).toArray = ls at hl ⊢
  have hl : lv_has ls 2 [(0, .long x)] := hl
  refine lv_lload_n hx hb dS_parity_0 rfl (lv_at hl 0 rfl) ?_
  refine fm_calli (va_runS (As := [.long x]) (rest := []) ⟨hx, hb, hml, hown, hts⟩ (c_JL_bitCount l D ct A M x) ⟨callB_of 1 hts (fs_gin co_JL_bitCount) rfl rfl rfl (hT _ ini_JL) (hT _ ml_S_138) (by decide +kernel) ⟨Nat.le_of_ble_eq_true rfl, Nat.le_of_ble_eq_true rfl⟩, hT _ st_JL_bitCount⟩ (fn_pre fs_isnw hK hN hW) rfl rfl hl.1 rfl (lv_room (Nat.le_of_ble_eq_true rfl)) dS_parity_1 ⟨Nat.le_of_ble_eq_true rfl, Nat.le_of_ble_eq_true rfl⟩) hW (fun r_1 M_2 H locs hp_3 hW => ?_)
  have hW : fm_W D fs_cl5 A M s.heap H locs := by rw [← hp_3.2]; exact hW
  have er_1 := hp_3.1
  refine lv_iconst (v := 1) hx hb dS_parity_4 (by decide) ?_
  refine lv_iand hx hb dS_parity_5 ?_
  exact fm_iret hx hb hr hlocks hW ⟨by subst er_1; rfl, rfl⟩ dS_parity_6
set_option maxHeartbeats 4000000 in
set_option maxRecDepth 100000 in
theorem c_S_has (l : Launch) (D : va_G) (ct : Nat → ClassId) (A : Nat → Prop) (M : fm_M) (x : Int64) (k : Nat)(hk : k < 64) : Met l yS_has wS_has ({ frames := 0, cells := 0, slots := 0, locals := 0 }) (va_Pc [.long x, .int (nI k)] (fm_St D fs_cl5 (fs_tys ct) fs_nw A M)) (va_Qi (fun (r : Int32) (M1 : fm_M) => r = fs_b (bl x k) ∧ M1 = M) (fm_B D fs_cl5 A) A) 0 0 A := by
  refine Met.ofW (cc := cS_has) (maxL := 3) (ret := (some .boolean)) (by decide) rfl ?_
  intro p e s m args below meth c s₁ B hml hv
  obtain ⟨rfl, hP0, hA0, hA1, hK, hN⟩ := hv
  have hx := B.exec
  have hb := B.bytes
  have hr := B.returns
  have hts := atoms_spec (ws := wS_has) B.pre
  have hT : ∀ w ∈ fs_tb, w.before _ s = true := fun w h => hts w (List.mem_cons_of_mem _ h)
  have hown : s.vm.findClass "FrameSamples" = some m.cls := findClass_of_methodNamed B.named
  have hlocks := B.notSynchronized
  have hW : fm_W D fs_cl5 A M s.heap s.heap [] := ⟨hP0, hA0, va_S.rf, hA1⟩
  have hl := lv_entry ([.long x, .int (nI k)]) (n := 3) (Nat.le_of_ble_eq_true rfl)
  rw [lg_entry_eq]
  generalize (lg_sl ([.long x, .int (nI k)]) ++ List.replicate (3 - (lg_sl ([.long x, .int (nI k)])).length) Slot.unset).toArray = ls at hl ⊢
  have hl : lv_has ls 3 [(0, .long x), (2, .int (nI k))] := hl
  refine lv_lload_n hx hb dS_has_0 rfl (lv_at hl 0 rfl) ?_
  refine lv_iload_n hx hb dS_has_1 rfl (lv_at hl 1 rfl) ?_
  refine lv_lushr (v := fs_ushl x (nI k)) hx hb dS_has_2 rfl ?_
  refine lv_lconst (v := 1) hx hb dS_has_3 (by decide) ?_
  refine lv_land hx hb dS_has_4 ?_
  refine lv_lconst (v := 0) hx hb dS_has_5 (by decide) ?_
  refine W.lcmp hx hb dS_has_6 ?_
  refine lv_if_eq (tgt := 14) hx hb dS_has_7 (by decide) (fun c_1 => ?_) (fun c_1 => ?_)
  · refine lv_iconst (v := 0) hx hb dS_has_14 (by decide) ?_
    have hv : (0 : Int32) = fs_b (bl x k) := by
      have h : fs_ushl x (nI k) &&& 1 = 0 := (lg_cmp_eq _ _).mp c_1
      rw [fs_onUL hk] at h
      rw [(fs_bL_eq0 _).mp h]
      rfl
    exact fm_zret hx hb hr rfl hlocks hW ⟨hv, rfl⟩ dS_has_15
  · refine lv_iconst (v := 1) hx hb dS_has_10 (by decide) ?_
    refine lv_goto (tgt := 15) hx hb dS_has_11 (by decide) ?_
    have hv : (1 : Int32) = fs_b (bl x k) := by
      have h : ¬ fs_ushl x (nI k) &&& 1 = 0 := fun q => c_1 ((lg_cmp_eq _ _).mpr q)
      rw [fs_onUL hk] at h
      cases hb2 : bl x k with
      | true => rfl
      | false => rw [hb2] at h; exact absurd rfl h
    exact fm_zret hx hb hr rfl hlocks hW ⟨hv, rfl⟩ dS_has_15
set_option maxHeartbeats 4000000 in
set_option maxRecDepth 100000 in
theorem c_S_hasTwoWires (l : Launch) (D : va_G) (ct : Nat → ClassId) (A : Nat → Prop) (M : fm_M) (k : Int32) : Met l yS_hasTwoWires wS_hasTwoWires ({ frames := 0, cells := 0, slots := 0, locals := 0 }) (va_Pc [.int k] (fm_St D fs_cl5 (fs_tys ct) fs_nw A M)) (va_Qi (fun (r : Int32) (M1 : fm_M) => r = (if k = 2 ∨ k = 3 ∨ k = 4 then 1 else 0) ∧ M1 = M) (fm_B D fs_cl5 A) A) 0 0 A := by
  refine Met.ofW (cc := cS_hasTwoWires) (maxL := 1) (ret := (some .boolean)) (by decide) rfl ?_
  intro p e s m args below meth c s₁ B hml hv
  obtain ⟨rfl, hP0, hA0, hA1, hK, hN⟩ := hv
  have hx := B.exec
  have hb := B.bytes
  have hr := B.returns
  have hts := atoms_spec (ws := wS_hasTwoWires) B.pre
  have hT : ∀ w ∈ fs_tb, w.before _ s = true := fun w h => hts w (List.mem_cons_of_mem _ h)
  have hown : s.vm.findClass "FrameSamples" = some m.cls := findClass_of_methodNamed B.named
  have hlocks := B.notSynchronized
  have hW : fm_W D fs_cl5 A M s.heap s.heap [] := ⟨hP0, hA0, va_S.rf, hA1⟩
  have hl := lv_entry ([.int k]) (n := 1) (Nat.le_of_ble_eq_true rfl)
  rw [lg_entry_eq]
  generalize (lg_sl ([.int k]) ++ List.replicate (1 - (lg_sl ([.int k])).length) Slot.unset).toArray = ls at hl ⊢
  have hl : lv_has ls 1 [(0, .int k)] := hl
  refine lv_iload_n hx hb dS_hasTwoWires_0 rfl (lv_at hl 0 rfl) ?_
  refine lv_iconst (v := 2) hx hb dS_hasTwoWires_1 (by decide) ?_
  refine lv_icmp_eq (tgt := 15) hx hb dS_hasTwoWires_2 (by decide) (fun c_1 => ?_) (fun c_1 => ?_)
  · refine lv_iconst (v := 1) hx hb dS_hasTwoWires_15 (by decide) ?_
    refine lv_goto (tgt := 20) hx hb dS_hasTwoWires_16 (by decide) ?_
    exact fm_zret hx hb hr rfl hlocks hW ⟨(if_pos (Or.inl c_1)).symm, rfl⟩ dS_hasTwoWires_20
  · refine lv_iload_n hx hb dS_hasTwoWires_5 rfl (lv_at hl 0 rfl) ?_
    refine lv_iconst (v := 3) hx hb dS_hasTwoWires_6 (by decide) ?_
    refine lv_icmp_eq (tgt := 15) hx hb dS_hasTwoWires_7 (by decide) (fun c_2 => ?_) (fun c_2 => ?_)
    · refine lv_iconst (v := 1) hx hb dS_hasTwoWires_15 (by decide) ?_
      refine lv_goto (tgt := 20) hx hb dS_hasTwoWires_16 (by decide) ?_
      exact fm_zret hx hb hr rfl hlocks hW ⟨(if_pos (Or.inr (Or.inl c_2))).symm, rfl⟩ dS_hasTwoWires_20
    · refine lv_iload_n hx hb dS_hasTwoWires_10 rfl (lv_at hl 0 rfl) ?_
      refine lv_iconst (v := 4) hx hb dS_hasTwoWires_11 (by decide) ?_
      refine lv_icmp_ne (tgt := 19) hx hb dS_hasTwoWires_12 (by decide) (fun c_3 => ?_) (fun c_3 => ?_)
      · refine lv_iconst (v := 0) hx hb dS_hasTwoWires_19 (by decide) ?_
        exact fm_zret hx hb hr rfl hlocks hW ⟨(if_neg (by intro z; rcases z with z | z | z; exact c_1 z; exact c_2 z; exact c_3 z)).symm, rfl⟩ dS_hasTwoWires_20
      · refine lv_iconst (v := 1) hx hb dS_hasTwoWires_15 (by decide) ?_
        refine lv_goto (tgt := 20) hx hb dS_hasTwoWires_16 (by decide) ?_
        exact fm_zret hx hb hr rfl hlocks hW ⟨(if_pos (Or.inr (Or.inr c_3))).symm, rfl⟩ dS_hasTwoWires_20
def fs_SE (b : Nat) (cn : Nat → Nat) : va_E := .inr (3, [.ref (b + 1), .ref (b + 25), .ref (b + 26), .ref (b + 27), .ref (b + 108), .ref (b + 109), .int (nI (cn 0)), .int (nI (cn 1)), .int (nI (cn 2)), .int (nI (cn 3)), .int (nI (cn 4))])
set_option maxHeartbeats 4000000 in
set_option maxRecDepth 100000 in
theorem c_S_isWire (l : Launch) (D : va_G) (ct : Nat → ClassId) (A : Nat → Prop) (M : fm_M) (b : Nat) (cn : Nat → Nat) (a : Int32)(hM : M b = some (fs_SE b cn)) : Met l yS_isWire wS_isWire ({ frames := 0, cells := 0, slots := 0, locals := 0 }) (va_Pc [.ref b, .int a] (fm_St D fs_cl5 (fs_tys ct) fs_nw A M)) (va_Qi (fun (r : Int32) (M1 : fm_M) => r = (if a < 0 ∨ nI (cn 0) ≤ a then 0 else 1) ∧ M1 = M) (fm_B D fs_cl5 A) A) 0 0 A := by
  refine Met.ofW (cc := cS_isWire) (maxL := 2) (ret := (some .boolean)) (by decide) rfl ?_
  intro p e s m args below meth c s₁ B hml hv
  obtain ⟨rfl, hP0, hA0, hA1, hK, hN⟩ := hv
  have hx := B.exec
  have hb := B.bytes
  have hr := B.returns
  have hts := atoms_spec (ws := wS_isWire) B.pre
  have hT : ∀ w ∈ fs_tb, w.before _ s = true := fun w h => hts w (List.mem_cons_of_mem _ h)
  have hown : s.vm.findClass "FrameSamples" = some m.cls := findClass_of_methodNamed B.named
  have hlocks := B.notSynchronized
  have hW : fm_W D fs_cl5 A M s.heap s.heap [] := ⟨hP0, hA0, va_S.rf, hA1⟩
  have hl := lv_entry ([.ref b, .int a]) (n := 2) (Nat.le_of_ble_eq_true rfl)
  rw [lg_entry_eq]
  generalize (lg_sl ([.ref b, .int a]) ++ List.replicate (2 - (lg_sl ([.ref b, .int a])).length) Slot.unset).toArray = ls at hl ⊢
  have hl : lv_has ls 2 [(0, .ref b), (1, .int a)] := hl
  refine lv_iload_n hx hb dS_isWire_0 rfl (lv_at hl 1 rfl) ?_
  refine lv_if_lt (tgt := 16) hx hb dS_isWire_1 (by decide) (fun c_1 => ?_) (fun c_1 => ?_)
  · refine lv_iconst (v := 0) hx hb dS_isWire_16 (by decide) ?_
    exact fm_zret hx hb hr rfl hlocks hW ⟨(if_pos (Or.inl c_1)).symm, rfl⟩ dS_isWire_17
  · refine lv_iload_n hx hb dS_isWire_4 rfl (lv_at hl 1 rfl) ?_
    refine lv_aload_n hx hb dS_isWire_5 rfl (lv_at hl 0 rfl) ?_
    refine fm_get (ci := 3) (v := .int (nI (cn 0))) (C := RS) (T := TS) (N := 11) hx hb hT inS hown hK hW hM rfl 6 (by decide) (hT _ fl_S_129) (fun _ h9 => h9) rfl dS_isWire_6 ?_
    refine lv_icmp_ge (tgt := 16) hx hb dS_isWire_9 (by decide) (fun c_2 => ?_) (fun c_2 => ?_)
    · refine lv_iconst (v := 0) hx hb dS_isWire_16 (by decide) ?_
      exact fm_zret hx hb hr rfl hlocks hW ⟨(if_pos (Or.inr c_2)).symm, rfl⟩ dS_isWire_17
    · refine lv_iconst (v := 1) hx hb dS_isWire_12 (by decide) ?_
      refine lv_goto (tgt := 17) hx hb dS_isWire_13 (by decide) ?_
      exact fm_zret hx hb hr rfl hlocks hW ⟨(if_neg (by intro z; rcases z with z | z; exact c_1 z; exact c_2 z)).symm, rfl⟩ dS_isWire_17
theorem fm_comm (M : fm_M) {a b : Nat} (h : a ≠ b) (e f : Option va_E) : va_up (va_up M a e) b f = va_up (va_up M b f) a e := by
  funext j
  unfold va_up
  by_cases q : j = b
  · subst q; rw [if_pos rfl, if_neg (Ne.symm h), if_pos rfl]
  · simp only [if_neg q]
set_option maxHeartbeats 4000000 in
set_option maxRecDepth 100000 in
theorem c_F_meetCheck (l : Launch) (D : va_G) (ct : Nat → ClassId) (A : Nat → Prop) (M : fm_M) (f0 a2 : Nat) (od : Int32) (cl : Int64) (ck : Int32) (q : fs_Q) (num : Int32) (lk : Int64) (hF : M f0 = some (fs_FE a2 od cl ck)) (hQ : M a2 = some (fs_PE q)) (hne : a2 ≠ f0) : Met l yF_meetCheck wF_meetCheck ({ frames := 2, cells := 0, slots := 0, locals := 42 }) (va_Pc [.ref f0, .int num, .long lk] (fm_St D fs_cl5 (fs_tys ct) fs_nw A M)) (va_Qv (fun (M1 : fm_M) => M1 = va_up M f0 (some (fs_FE a2 od cl (ck ||| ((fs_bcl (cl &&& lk) &&& 1) <<< (num &&& 31)))))) (fm_B D fs_cl5 A) A) 0 0 A := by
  refine Met.ofW (cc := cF_meetCheck) (maxL := 4) (ret := none) (by decide) rfl ?_
  intro p e s m args below meth c s₁ B hml hv
  obtain ⟨rfl, hP0, hA0, hA1, hK, hN⟩ := hv
  have hx := B.exec
  have hb := B.bytes
  have hr := B.returns
  have hts := atoms_spec (ws := wF_meetCheck) B.pre
  have hT : ∀ w ∈ fs_tb, w.before _ s = true := fun w h => hts w (List.mem_cons_of_mem _ h)
  have hown : s.vm.findClass "FrameSamples$Fault" = some m.cls := findClass_of_methodNamed B.named
  have hlocks := B.notSynchronized
  have hW : fm_W D fs_cl5 A M s.heap s.heap [] := ⟨hP0, hA0, va_S.rf, hA1⟩
  have hl := lv_entry ([.ref f0, .int num, .long lk]) (n := 4) (Nat.le_of_ble_eq_true rfl)
  rw [lg_entry_eq]
  generalize (lg_sl ([.ref f0, .int num, .long lk]) ++ List.replicate (4 - (lg_sl ([.ref f0, .int num, .long lk])).length) Slot.unset).toArray = ls at hl ⊢
  have hl : lv_has ls 4 [(0, .ref f0), (1, .int num), (2, .long lk)] := hl
  refine lv_aload_n hx hb dF_meetCheck_0 rfl (lv_at hl 0 rfl) ?_
  refine lv_dup hx hb dF_meetCheck_1 rfl ?_
  refine fm_get (ci := 2) (v := .int ck) (C := RF) (T := TF) (N := 4) hx hb hT inF hown hK hW hF rfl 3 (by decide) (hT _ fl_F_30) (fun _ h9 => h9) rfl dF_meetCheck_2 ?_
  refine lv_aload_n hx hb dF_meetCheck_5 rfl (lv_at hl 0 rfl) ?_
  refine fm_get (ci := 2) (v := .long cl) (C := RF) (T := TF) (N := 4) hx hb hT inF hown hK hW hF rfl 2 (by decide) (hT _ fl_F_26) (fun _ h9 => h9) rfl dF_meetCheck_6 ?_
  refine lv_lload_n hx hb dF_meetCheck_9 rfl (lv_at hl 2 rfl) ?_
  refine lv_land hx hb dF_meetCheck_10 ?_
  refine fm_calli (va_runSN (As := [.long (cl &&& lk)]) (rest := [.int ck, .ref f0]) ⟨hx, hb, hml, hown, hts⟩ (c_S_parity l D ct A M (cl &&& lk)) ⟨va_cnB 1 hts (fs_gin co_S_parity) rfl rfl rfl (hN _ (List.mem_of_getElem? (i := 14) rfl)) (hT _ ini_S) (by decide +kernel) ⟨Nat.le_of_ble_eq_true rfl, Nat.le_of_ble_eq_true rfl⟩, hT _ st_S_parity, trivial⟩ (fn_pre fs_isnw hK hN hW) rfl rfl hl.1 rfl (lv_room (Nat.le_of_ble_eq_true rfl)) dF_meetCheck_11 ⟨Nat.le_of_ble_eq_true rfl, Nat.le_of_ble_eq_true rfl⟩) hW (fun r_1 M_2 H locs hp_3 hW => ?_)
  have hW : fm_W D fs_cl5 A M s.heap H locs := by rw [← hp_3.2]; exact hW
  have er_1 := hp_3.1
  refine lv_iload_n hx hb dF_meetCheck_14 rfl (lv_at hl 1 rfl) ?_
  refine lv_ishl hx hb dF_meetCheck_15 ?_
  refine lv_ior hx hb dF_meetCheck_16 ?_
  refine lv_topi (fun x_4 ex_4 => ?_)
  refine fm_put (ci := 2) (v := .int x_4) (ty := .int) (C := RF) (T := TF) (N := 4) hx hb hT inF tyF tkF nmF hown hK hW hF rfl 3 (by decide) (hT _ fl_F_30) (fun _ h9 => h9) rfl (by decide +kernel) rfl rfl (Nat.le_of_ble_eq_true rfl) dF_meetCheck_17 (fun H locs hW => ?_)
  obtain ⟨M_5, eM_5⟩ : ∃ z : fm_M, z = va_up M f0 (some (.inr (2, [.ref a2, .int od, .long cl, .int x_4]))) := ⟨_, rfl⟩
  have hW : fm_W D fs_cl5 A M_5 s.heap H locs := by rw [eM_5]; exact hW
  have f_6 : M_5 f0 = some (.inr (2, [.ref a2, .int od, .long cl, .int x_4])) := by rw [eM_5]; exact fm_us
  have f_7 := (show M_5 a2 = M a2 by rw [eM_5]; exact fm_un (by omega)).trans hQ
  exact fm_vret hx hb hr hlocks hW (by rw [eM_5]; subst ex_4; subst er_1; rfl) dF_meetCheck_20
set_option maxHeartbeats 4000000 in
set_option maxRecDepth 100000 in
theorem c_F_meetLook (l : Launch) (D : va_G) (ct : Nat → ClassId) (A : Nat → Prop) (M : fm_M) (f0 a2 : Nat) (od : Int32) (cl : Int64) (ck : Int32) (q : fs_Q) (a num rs : Int32) (hF : M f0 = some (fs_FE a2 od cl ck)) (hQ : M a2 = some (fs_PE q)) (hne : a2 ≠ f0) : Met l yF_meetLook wF_meetLook ({ frames := 1, cells := 0, slots := 0, locals := 21 }) (va_Pc [.ref f0, .int a, .int num, .int rs] (fm_St D fs_cl5 (fs_tys ct) fs_nw A M)) (va_Qv (fun (M1 : fm_M) => M1 = va_up (va_up M f0 (some (fs_FE a2 od (cl ||| ((fs_xOn q a).toInt64 <<< (num.toInt64 &&& 63))) ck))) a2 (some (fs_PE (fs_mk q a (decide (rs ≠ 0)))))) (fm_B D fs_cl5 A) A) 0 0 A := by
  refine Met.ofW (cc := cF_meetLook) (maxL := 4) (ret := none) (by decide) rfl ?_
  intro p e s m args below meth c s₁ B hml hv
  obtain ⟨rfl, hP0, hA0, hA1, hK, hN⟩ := hv
  have hx := B.exec
  have hb := B.bytes
  have hr := B.returns
  have hts := atoms_spec (ws := wF_meetLook) B.pre
  have hT : ∀ w ∈ fs_tb, w.before _ s = true := fun w h => hts w (List.mem_cons_of_mem _ h)
  have hown : s.vm.findClass "FrameSamples$Fault" = some m.cls := findClass_of_methodNamed B.named
  have hlocks := B.notSynchronized
  have hW : fm_W D fs_cl5 A M s.heap s.heap [] := ⟨hP0, hA0, va_S.rf, hA1⟩
  have hl := lv_entry ([.ref f0, .int a, .int num, .int rs]) (n := 4) (Nat.le_of_ble_eq_true rfl)
  rw [lg_entry_eq]
  generalize (lg_sl ([.ref f0, .int a, .int num, .int rs]) ++ List.replicate (4 - (lg_sl ([.ref f0, .int a, .int num, .int rs])).length) Slot.unset).toArray = ls at hl ⊢
  have hl : lv_has ls 4 [(0, .ref f0), (1, .int a), (2, .int num), (3, .int rs)] := hl
  refine lv_aload_n hx hb dF_meetLook_0 rfl (lv_at hl 0 rfl) ?_
  refine lv_dup hx hb dF_meetLook_1 rfl ?_
  refine fm_get (ci := 2) (v := .long cl) (C := RF) (T := TF) (N := 4) hx hb hT inF hown hK hW hF rfl 2 (by decide) (hT _ fl_F_26) (fun _ h9 => h9) rfl dF_meetLook_2 ?_
  refine lv_aload_n hx hb dF_meetLook_5 rfl (lv_at hl 0 rfl) ?_
  refine fm_get (ci := 2) (v := .ref a2) (C := RF) (T := TF) (N := 4) hx hb hT inF hown hK hW hF rfl 0 (by decide) (hT _ fl_F_12) (fun _ h9 => h9) rfl dF_meetLook_6 ?_
  refine lv_iload_n hx hb dF_meetLook_9 rfl (lv_at hl 1 rfl) ?_
  refine fm_calli (va_runV (As := [.int a]) (rest := [.long cl, .ref f0]) ⟨hx, hb, hml, hown, hts⟩ (c_P_xOn l D ct A M a2 q a hQ) ⟨callB_of 1 hts (fs_gin co_P_xOn) rfl rfl rfl (hT _ ini_P) (hT _ ml_F_33) (by decide +kernel) ⟨Nat.le_of_ble_eq_true rfl, Nat.le_of_ble_eq_true rfl⟩, hT _ im_P_xOn, hT _ se_P_xOn⟩ (fn_preV fs_isnw hK hN hW hQ rfl) rfl rfl hl.1 rfl (lv_room (Nat.le_of_ble_eq_true rfl)) dF_meetLook_10 ⟨Nat.le_of_ble_eq_true rfl, Nat.le_of_ble_eq_true rfl⟩) hW (fun r_1 M_2 H locs hp_3 hW => ?_)
  have hW : fm_W D fs_cl5 A M s.heap H locs := by rw [← hp_3.2]; exact hW
  have er_1 := hp_3.1
  refine lv_i2l (v := r_1.toInt64) hx hb dF_meetLook_13 rfl ?_
  refine lv_iload_n hx hb dF_meetLook_14 rfl (lv_at hl 2 rfl) ?_
  refine lv_lshl (v := r_1.toInt64 <<< (num.toInt64 &&& 63)) hx hb dF_meetLook_15 rfl ?_
  refine lv_lor hx hb dF_meetLook_16 ?_
  refine lv_topl (fun x_4 ex_4 => ?_)
  refine fm_put (ci := 2) (v := .long x_4) (ty := .long) (C := RF) (T := TF) (N := 4) hx hb hT inF tyF tkF nmF hown hK hW hF rfl 2 (by decide) (hT _ fl_F_26) (fun _ h9 => h9) rfl (by decide +kernel) rfl rfl (Nat.le_of_ble_eq_true rfl) dF_meetLook_17 (fun H locs hW => ?_)
  obtain ⟨M_5, eM_5⟩ : ∃ z : fm_M, z = va_up M f0 (some (.inr (2, [.ref a2, .int od, .long x_4, .int ck]))) := ⟨_, rfl⟩
  have hW : fm_W D fs_cl5 A M_5 s.heap H locs := by rw [eM_5]; exact hW
  have f_6 : M_5 f0 = some (.inr (2, [.ref a2, .int od, .long x_4, .int ck])) := by rw [eM_5]; exact fm_us
  have f_7 := (show M_5 a2 = M a2 by rw [eM_5]; exact fm_un (by omega)).trans hQ
  refine lv_aload_n hx hb dF_meetLook_20 rfl (lv_at hl 0 rfl) ?_
  refine fm_get (ci := 2) (v := .ref a2) (C := RF) (T := TF) (N := 4) hx hb hT inF hown hK hW f_6 rfl 0 (by decide) (hT _ fl_F_12) (fun _ h9 => h9) rfl dF_meetLook_21 ?_
  refine lv_dup hx hb dF_meetLook_24 rfl ?_
  refine fm_getN (ci := 0) (v := .int q.2.1) (C := RP) (T := TP) (N := 4) hx hb hT inP hown hK hW f_7 rfl 1 (by decide) (hN _ (List.mem_of_getElem? (i := 3) rfl)) (fun _ h9 => h9) rfl dF_meetLook_25 ?_
  refine lv_iconst (v := 1) hx hb dF_meetLook_28 (by decide) ?_
  refine lv_iload_n hx hb dF_meetLook_29 rfl (lv_at hl 1 rfl) ?_
  refine lv_ishl hx hb dF_meetLook_30 ?_
  refine lv_iconst (v := -1) hx hb dF_meetLook_31 (by decide) ?_
  refine lv_ixor hx hb dF_meetLook_32 ?_
  refine lv_iand hx hb dF_meetLook_33 ?_
  refine lv_topi (fun x_8 ex_8 => ?_)
  refine fm_putN (ci := 0) (v := .int x_8) (ty := .int) (C := RP) (T := TP) (N := 4) hx hb hT inP tyP tkP nmP hown hK hW f_7 rfl 1 (by decide) (hN _ (List.mem_of_getElem? (i := 3) rfl)) (fun _ h9 => h9) rfl (by decide +kernel) rfl rfl (Nat.le_of_ble_eq_true rfl) dF_meetLook_34 (fun H locs hW => ?_)
  obtain ⟨M_9, eM_9⟩ : ∃ z : fm_M, z = va_up M_5 a2 (some (.inr (0, [.int q.1, .int x_8, .int q.2.2.1, .long q.2.2.2]))) := ⟨_, rfl⟩
  have hW : fm_W D fs_cl5 A M_9 s.heap H locs := by rw [eM_9]; exact hW
  have f_10 := (show M_9 f0 = M_5 f0 by rw [eM_9]; exact fm_un (by omega)).trans f_6
  have f_11 : M_9 a2 = some (.inr (0, [.int q.1, .int x_8, .int q.2.2.1, .long q.2.2.2])) := by rw [eM_9]; exact fm_us
  refine lv_iload_n hx hb dF_meetLook_37 rfl (lv_at hl 3 rfl) ?_
  refine lv_if_eq (tgt := 58) hx hb dF_meetLook_38 (by decide) (fun c_12 => ?_) (fun c_12 => ?_)
  · have hd : decide (rs ≠ 0) = false := decide_eq_false (fun z => z c_12)
    exact fm_vret hx hb hr hlocks hW (by rw [hd, eM_9, eM_5]; subst ex_8; subst ex_4; subst er_1; rfl) dF_meetLook_58
  · refine lv_aload_n hx hb dF_meetLook_41 rfl (lv_at hl 0 rfl) ?_
    refine fm_get (ci := 2) (v := .ref a2) (C := RF) (T := TF) (N := 4) hx hb hT inF hown hK hW f_10 rfl 0 (by decide) (hT _ fl_F_12) (fun _ h9 => h9) rfl dF_meetLook_42 ?_
    refine lv_dup hx hb dF_meetLook_45 rfl ?_
    refine fm_getN (ci := 0) (v := .int q.1) (C := RP) (T := TP) (N := 4) hx hb hT inP hown hK hW f_11 rfl 0 (by decide) (hN _ (List.mem_of_getElem? (i := 2) rfl)) (fun _ h9 => h9) rfl dF_meetLook_46 ?_
    refine lv_iconst (v := 1) hx hb dF_meetLook_49 (by decide) ?_
    refine lv_iload_n hx hb dF_meetLook_50 rfl (lv_at hl 1 rfl) ?_
    refine lv_ishl hx hb dF_meetLook_51 ?_
    refine lv_iconst (v := -1) hx hb dF_meetLook_52 (by decide) ?_
    refine lv_ixor hx hb dF_meetLook_53 ?_
    refine lv_iand hx hb dF_meetLook_54 ?_
    refine lv_topi (fun x_13 ex_13 => ?_)
    refine fm_putN (ci := 0) (v := .int x_13) (ty := .int) (C := RP) (T := TP) (N := 4) hx hb hT inP tyP tkP nmP hown hK hW f_11 rfl 0 (by decide) (hN _ (List.mem_of_getElem? (i := 2) rfl)) (fun _ h9 => h9) rfl (by decide +kernel) rfl rfl (Nat.le_of_ble_eq_true rfl) dF_meetLook_55 (fun H locs hW => ?_)
    obtain ⟨M_14, eM_14⟩ : ∃ z : fm_M, z = va_up M_9 a2 (some (.inr (0, [.int x_13, .int x_8, .int q.2.2.1, .long q.2.2.2]))) := ⟨_, rfl⟩
    have hW : fm_W D fs_cl5 A M_14 s.heap H locs := by rw [eM_14]; exact hW
    have f_15 := (show M_14 f0 = M_9 f0 by rw [eM_14]; exact fm_un (by omega)).trans f_10
    have f_16 : M_14 a2 = some (.inr (0, [.int x_13, .int x_8, .int q.2.2.1, .long q.2.2.2])) := by rw [eM_14]; exact fm_us
    have hd : decide (rs ≠ 0) = true := decide_eq_true c_12
    exact fm_vret hx hb hr hlocks hW (by rw [hd, eM_14, eM_9, eM_5, fm_uu]; subst ex_13; subst ex_8; subst ex_4; subst er_1; rfl) dF_meetLook_58
set_option maxHeartbeats 4000000 in
set_option maxRecDepth 100000 in
theorem c_F_start (l : Launch) (D : va_G) (ct : Nat → ClassId) (A : Nat → Prop) (M : fm_M) (f0 a2 : Nat) (od : Int32) (cl : Int64) (ck : Int32) (q : fs_Q) (wh a k : Int32) (hF : M f0 = some (fs_FE a2 od cl ck)) (hQ : M a2 = some (fs_PE q)) (hne : a2 ≠ f0) (hwh : wh = 0 ∨ wh = 1 ∨ wh = 2) : Met l yF_start wF_start ({ frames := 1, cells := 0, slots := 0, locals := 22 }) (va_Pc [.ref f0, .int wh, .int a, .int k] (fm_St D fs_cl5 (fs_tys ct) fs_nw A M)) (va_Qv (fun (M1 : fm_M) => M1 = va_up (va_up M a2 (some (fs_PE (fs_fx wh a, fs_fz wh a, 0, 0)))) f0 (some (fs_FE a2 k 0 0))) (fm_B D fs_cl5 A) A) 0 0 A := by
  refine Met.ofW (cc := cF_start) (maxL := 6) (ret := none) (by decide) rfl ?_
  intro p e s m args below meth c s₁ B hml hv
  obtain ⟨rfl, hP0, hA0, hA1, hK, hN⟩ := hv
  have hx := B.exec
  have hb := B.bytes
  have hr := B.returns
  have hts := atoms_spec (ws := wF_start) B.pre
  have hT : ∀ w ∈ fs_tb, w.before _ s = true := fun w h => hts w (List.mem_cons_of_mem _ h)
  have hown : s.vm.findClass "FrameSamples$Fault" = some m.cls := findClass_of_methodNamed B.named
  have hlocks := B.notSynchronized
  have hW : fm_W D fs_cl5 A M s.heap s.heap [] := ⟨hP0, hA0, va_S.rf, hA1⟩
  have hl := lv_entry ([.ref f0, .int wh, .int a, .int k]) (n := 6) (Nat.le_of_ble_eq_true rfl)
  rw [lg_entry_eq]
  generalize (lg_sl ([.ref f0, .int wh, .int a, .int k]) ++ List.replicate (6 - (lg_sl ([.ref f0, .int wh, .int a, .int k])).length) Slot.unset).toArray = ls at hl ⊢
  have hl : lv_has ls 6 [(0, .ref f0), (1, .int wh), (2, .int a), (3, .int k)] := hl
  rcases hwh with rfl | rfl | rfl
  · refine lv_iload_n hx hb dF_start_0 rfl (lv_at hl 1 rfl) ?_
    refine lv_if_eq (tgt := 9) hx hb dF_start_1 (by decide) (fun _ => ?_) (fun c_1 => absurd c_1 (by decide))
    refine lv_iconst (v := 1) hx hb dF_start_9 (by decide) ?_
    refine lv_iload_n hx hb dF_start_10 rfl (lv_at hl 2 rfl) ?_
    refine lv_ishl hx hb dF_start_11 ?_
    refine lv_goto (tgt := 16) hx hb dF_start_12 (by decide) ?_
    refine lv_topi (fun x_2 ex_2 => ?_)
    refine lv_istore (lv' := [(4, .int x_2), (0, .ref f0), (1, .int 0), (2, .int a), (3, .int k)]) hx hb dF_start_16 hl (by decide) rfl (fun ls hl => ?_)
    refine lv_iload_n hx hb dF_start_18 rfl (lv_at hl 2 rfl) ?_
    refine lv_iconst (v := 2) hx hb dF_start_19 (by decide) ?_
    refine lv_icmp_eq (tgt := 28) hx hb dF_start_20 (by decide) (fun c_3 => absurd c_3 (by decide)) (fun _ => ?_)
    refine lv_iload_n hx hb dF_start_23 rfl (lv_at hl 2 rfl) ?_
    refine lv_iconst (v := 1) hx hb dF_start_24 (by decide) ?_
    refine lv_icmp_ne (tgt := 34) hx hb dF_start_25 (by decide) (fun _ => ?_) (fun c_4 => absurd c_4 (by decide))
    refine lv_iconst (v := 0) hx hb dF_start_34 (by decide) ?_
    refine lv_istore (lv' := [(5, .int 0), (4, .int x_2), (0, .ref f0), (1, .int 0), (2, .int a), (3, .int k)]) hx hb dF_start_35 hl (by decide) rfl (fun ls hl => ?_)
    refine lv_aload_n hx hb dF_start_37 rfl (lv_at hl 2 rfl) ?_
    refine fm_get (ci := 2) (v := .ref a2) (C := RF) (T := TF) (N := 4) hx hb hT inF hown hK hW hF rfl 0 (by decide) (hT _ fl_F_12) (fun _ h9 => h9) rfl dF_start_38 ?_
    refine lv_iload hx hb dF_start_41 (lv_at hl 1 rfl) ?_
    refine lv_iload hx hb dF_start_43 (lv_at hl 0 rfl) ?_
    refine fm_callv (va_runV (As := [.int x_2, .int 0]) (rest := []) ⟨hx, hb, hml, hown, hts⟩ (c_P_become l D ct A M a2 q x_2 0 hQ) ⟨callB_of 2 hts (fs_gin co_P_become) rfl rfl rfl (hT _ ini_P) (hT _ ml_F_18) (by decide +kernel) ⟨Nat.le_of_ble_eq_true rfl, Nat.le_of_ble_eq_true rfl⟩, hT _ im_P_become, hT _ se_P_become⟩ (fn_preV fs_isnw hK hN hW hQ rfl) rfl rfl hl.1 rfl (lv_room (Nat.le_of_ble_eq_true rfl)) dF_start_45 ⟨Nat.le_of_ble_eq_true rfl, Nat.le_of_ble_eq_true rfl⟩) hW (fun M_6 H locs hp_7 hW => ?_)
    have f_8 := ((congrFun hp_7 f0).trans (fm_un (by omega))).trans hF
    have f_9 := (congrFun hp_7 a2).trans fm_us
    refine lv_aload_n hx hb dF_start_48 rfl (lv_at hl 2 rfl) ?_
    refine lv_iload_n hx hb dF_start_49 rfl (lv_at hl 5 rfl) ?_
    refine fm_put (ci := 2) (v := .int k) (ty := .int) (C := RF) (T := TF) (N := 4) hx hb hT inF tyF tkF nmF hown hK hW f_8 rfl 1 (by decide) (hT _ fl_F_22) (fun _ h9 => h9) rfl (by decide +kernel) rfl rfl (Nat.le_of_ble_eq_true rfl) dF_start_50 (fun H locs hW => ?_)
    obtain ⟨M_10, eM_10⟩ : ∃ z : fm_M, z = va_up M_6 f0 (some (.inr (2, [.ref a2, .int k, .long cl, .int ck]))) := ⟨_, rfl⟩
    have hW : fm_W D fs_cl5 A M_10 s.heap H locs := by rw [eM_10]; exact hW
    have f_11 : M_10 f0 = some (.inr (2, [.ref a2, .int k, .long cl, .int ck])) := by rw [eM_10]; exact fm_us
    have f_12 := (show M_10 a2 = M_6 a2 by rw [eM_10]; exact fm_un (by omega)).trans f_9
    refine lv_aload_n hx hb dF_start_53 rfl (lv_at hl 2 rfl) ?_
    refine lv_lconst (v := 0) hx hb dF_start_54 (by decide) ?_
    refine fm_put (ci := 2) (v := .long 0) (ty := .long) (C := RF) (T := TF) (N := 4) hx hb hT inF tyF tkF nmF hown hK hW f_11 rfl 2 (by decide) (hT _ fl_F_26) (fun _ h9 => h9) rfl (by decide +kernel) rfl rfl (Nat.le_of_ble_eq_true rfl) dF_start_55 (fun H locs hW => ?_)
    obtain ⟨M_13, eM_13⟩ : ∃ z : fm_M, z = va_up M_10 f0 (some (.inr (2, [.ref a2, .int k, .long 0, .int ck]))) := ⟨_, rfl⟩
    have hW : fm_W D fs_cl5 A M_13 s.heap H locs := by rw [eM_13]; exact hW
    have f_14 : M_13 f0 = some (.inr (2, [.ref a2, .int k, .long 0, .int ck])) := by rw [eM_13]; exact fm_us
    have f_15 := (show M_13 a2 = M_10 a2 by rw [eM_13]; exact fm_un (by omega)).trans f_12
    refine lv_aload_n hx hb dF_start_58 rfl (lv_at hl 2 rfl) ?_
    refine lv_iconst (v := 0) hx hb dF_start_59 (by decide) ?_
    refine fm_put (ci := 2) (v := .int 0) (ty := .int) (C := RF) (T := TF) (N := 4) hx hb hT inF tyF tkF nmF hown hK hW f_14 rfl 3 (by decide) (hT _ fl_F_30) (fun _ h9 => h9) rfl (by decide +kernel) rfl rfl (Nat.le_of_ble_eq_true rfl) dF_start_60 (fun H locs hW => ?_)
    obtain ⟨M_16, eM_16⟩ : ∃ z : fm_M, z = va_up M_13 f0 (some (.inr (2, [.ref a2, .int k, .long 0, .int 0]))) := ⟨_, rfl⟩
    have hW : fm_W D fs_cl5 A M_16 s.heap H locs := by rw [eM_16]; exact hW
    have f_17 : M_16 f0 = some (.inr (2, [.ref a2, .int k, .long 0, .int 0])) := by rw [eM_16]; exact fm_us
    have f_18 := (show M_16 a2 = M_13 a2 by rw [eM_16]; exact fm_un (by omega)).trans f_15
    exact fm_vret hx hb hr hlocks hW (by rw [eM_16, eM_13, eM_10, fm_uu, fm_uu, hp_7]; subst ex_2; rfl) dF_start_63
  · refine lv_iload_n hx hb dF_start_0 rfl (lv_at hl 1 rfl) ?_
    refine lv_if_eq (tgt := 9) hx hb dF_start_1 (by decide) (fun c_19 => absurd c_19 (by decide)) (fun _ => ?_)
    refine lv_iload_n hx hb dF_start_4 rfl (lv_at hl 1 rfl) ?_
    refine lv_iconst (v := 1) hx hb dF_start_5 (by decide) ?_
    refine lv_icmp_ne (tgt := 15) hx hb dF_start_6 (by decide) (fun c_20 => absurd c_20 (by decide)) (fun _ => ?_)
    refine lv_iconst (v := 1) hx hb dF_start_9 (by decide) ?_
    refine lv_iload_n hx hb dF_start_10 rfl (lv_at hl 2 rfl) ?_
    refine lv_ishl hx hb dF_start_11 ?_
    refine lv_goto (tgt := 16) hx hb dF_start_12 (by decide) ?_
    refine lv_topi (fun x_21 ex_21 => ?_)
    refine lv_istore (lv' := [(4, .int x_21), (0, .ref f0), (1, .int 1), (2, .int a), (3, .int k)]) hx hb dF_start_16 hl (by decide) rfl (fun ls hl => ?_)
    refine lv_iload_n hx hb dF_start_18 rfl (lv_at hl 2 rfl) ?_
    refine lv_iconst (v := 2) hx hb dF_start_19 (by decide) ?_
    refine lv_icmp_eq (tgt := 28) hx hb dF_start_20 (by decide) (fun c_22 => absurd c_22 (by decide)) (fun _ => ?_)
    refine lv_iload_n hx hb dF_start_23 rfl (lv_at hl 2 rfl) ?_
    refine lv_iconst (v := 1) hx hb dF_start_24 (by decide) ?_
    refine lv_icmp_ne (tgt := 34) hx hb dF_start_25 (by decide) (fun c_23 => absurd c_23 (by decide)) (fun _ => ?_)
    refine lv_iconst (v := 1) hx hb dF_start_28 (by decide) ?_
    refine lv_iload_n hx hb dF_start_29 rfl (lv_at hl 3 rfl) ?_
    refine lv_ishl hx hb dF_start_30 ?_
    refine lv_goto (tgt := 35) hx hb dF_start_31 (by decide) ?_
    refine lv_topi (fun x_24 ex_24 => ?_)
    refine lv_istore (lv' := [(5, .int x_24), (4, .int x_21), (0, .ref f0), (1, .int 1), (2, .int a), (3, .int k)]) hx hb dF_start_35 hl (by decide) rfl (fun ls hl => ?_)
    refine lv_aload_n hx hb dF_start_37 rfl (lv_at hl 2 rfl) ?_
    refine fm_get (ci := 2) (v := .ref a2) (C := RF) (T := TF) (N := 4) hx hb hT inF hown hK hW hF rfl 0 (by decide) (hT _ fl_F_12) (fun _ h9 => h9) rfl dF_start_38 ?_
    refine lv_iload hx hb dF_start_41 (lv_at hl 1 rfl) ?_
    refine lv_iload hx hb dF_start_43 (lv_at hl 0 rfl) ?_
    refine fm_callv (va_runV (As := [.int x_21, .int x_24]) (rest := []) ⟨hx, hb, hml, hown, hts⟩ (c_P_become l D ct A M a2 q x_21 x_24 hQ) ⟨callB_of 2 hts (fs_gin co_P_become) rfl rfl rfl (hT _ ini_P) (hT _ ml_F_18) (by decide +kernel) ⟨Nat.le_of_ble_eq_true rfl, Nat.le_of_ble_eq_true rfl⟩, hT _ im_P_become, hT _ se_P_become⟩ (fn_preV fs_isnw hK hN hW hQ rfl) rfl rfl hl.1 rfl (lv_room (Nat.le_of_ble_eq_true rfl)) dF_start_45 ⟨Nat.le_of_ble_eq_true rfl, Nat.le_of_ble_eq_true rfl⟩) hW (fun M_26 H locs hp_27 hW => ?_)
    have f_28 := ((congrFun hp_27 f0).trans (fm_un (by omega))).trans hF
    have f_29 := (congrFun hp_27 a2).trans fm_us
    refine lv_aload_n hx hb dF_start_48 rfl (lv_at hl 2 rfl) ?_
    refine lv_iload_n hx hb dF_start_49 rfl (lv_at hl 5 rfl) ?_
    refine fm_put (ci := 2) (v := .int k) (ty := .int) (C := RF) (T := TF) (N := 4) hx hb hT inF tyF tkF nmF hown hK hW f_28 rfl 1 (by decide) (hT _ fl_F_22) (fun _ h9 => h9) rfl (by decide +kernel) rfl rfl (Nat.le_of_ble_eq_true rfl) dF_start_50 (fun H locs hW => ?_)
    obtain ⟨M_30, eM_30⟩ : ∃ z : fm_M, z = va_up M_26 f0 (some (.inr (2, [.ref a2, .int k, .long cl, .int ck]))) := ⟨_, rfl⟩
    have hW : fm_W D fs_cl5 A M_30 s.heap H locs := by rw [eM_30]; exact hW
    have f_31 : M_30 f0 = some (.inr (2, [.ref a2, .int k, .long cl, .int ck])) := by rw [eM_30]; exact fm_us
    have f_32 := (show M_30 a2 = M_26 a2 by rw [eM_30]; exact fm_un (by omega)).trans f_29
    refine lv_aload_n hx hb dF_start_53 rfl (lv_at hl 2 rfl) ?_
    refine lv_lconst (v := 0) hx hb dF_start_54 (by decide) ?_
    refine fm_put (ci := 2) (v := .long 0) (ty := .long) (C := RF) (T := TF) (N := 4) hx hb hT inF tyF tkF nmF hown hK hW f_31 rfl 2 (by decide) (hT _ fl_F_26) (fun _ h9 => h9) rfl (by decide +kernel) rfl rfl (Nat.le_of_ble_eq_true rfl) dF_start_55 (fun H locs hW => ?_)
    obtain ⟨M_33, eM_33⟩ : ∃ z : fm_M, z = va_up M_30 f0 (some (.inr (2, [.ref a2, .int k, .long 0, .int ck]))) := ⟨_, rfl⟩
    have hW : fm_W D fs_cl5 A M_33 s.heap H locs := by rw [eM_33]; exact hW
    have f_34 : M_33 f0 = some (.inr (2, [.ref a2, .int k, .long 0, .int ck])) := by rw [eM_33]; exact fm_us
    have f_35 := (show M_33 a2 = M_30 a2 by rw [eM_33]; exact fm_un (by omega)).trans f_32
    refine lv_aload_n hx hb dF_start_58 rfl (lv_at hl 2 rfl) ?_
    refine lv_iconst (v := 0) hx hb dF_start_59 (by decide) ?_
    refine fm_put (ci := 2) (v := .int 0) (ty := .int) (C := RF) (T := TF) (N := 4) hx hb hT inF tyF tkF nmF hown hK hW f_34 rfl 3 (by decide) (hT _ fl_F_30) (fun _ h9 => h9) rfl (by decide +kernel) rfl rfl (Nat.le_of_ble_eq_true rfl) dF_start_60 (fun H locs hW => ?_)
    obtain ⟨M_36, eM_36⟩ : ∃ z : fm_M, z = va_up M_33 f0 (some (.inr (2, [.ref a2, .int k, .long 0, .int 0]))) := ⟨_, rfl⟩
    have hW : fm_W D fs_cl5 A M_36 s.heap H locs := by rw [eM_36]; exact hW
    have f_37 : M_36 f0 = some (.inr (2, [.ref a2, .int k, .long 0, .int 0])) := by rw [eM_36]; exact fm_us
    have f_38 := (show M_36 a2 = M_33 a2 by rw [eM_36]; exact fm_un (by omega)).trans f_35
    exact fm_vret hx hb hr hlocks hW (by rw [eM_36, eM_33, eM_30, fm_uu, fm_uu, hp_27]; subst ex_24; subst ex_21; rfl) dF_start_63
  · refine lv_iload_n hx hb dF_start_0 rfl (lv_at hl 1 rfl) ?_
    refine lv_if_eq (tgt := 9) hx hb dF_start_1 (by decide) (fun c_39 => absurd c_39 (by decide)) (fun _ => ?_)
    refine lv_iload_n hx hb dF_start_4 rfl (lv_at hl 1 rfl) ?_
    refine lv_iconst (v := 1) hx hb dF_start_5 (by decide) ?_
    refine lv_icmp_ne (tgt := 15) hx hb dF_start_6 (by decide) (fun _ => ?_) (fun c_40 => absurd c_40 (by decide))
    refine lv_iconst (v := 0) hx hb dF_start_15 (by decide) ?_
    refine lv_istore (lv' := [(4, .int 0), (0, .ref f0), (1, .int 2), (2, .int a), (3, .int k)]) hx hb dF_start_16 hl (by decide) rfl (fun ls hl => ?_)
    refine lv_iload_n hx hb dF_start_18 rfl (lv_at hl 2 rfl) ?_
    refine lv_iconst (v := 2) hx hb dF_start_19 (by decide) ?_
    refine lv_icmp_eq (tgt := 28) hx hb dF_start_20 (by decide) (fun _ => ?_) (fun c_41 => absurd c_41 (by decide))
    refine lv_iconst (v := 1) hx hb dF_start_28 (by decide) ?_
    refine lv_iload_n hx hb dF_start_29 rfl (lv_at hl 3 rfl) ?_
    refine lv_ishl hx hb dF_start_30 ?_
    refine lv_goto (tgt := 35) hx hb dF_start_31 (by decide) ?_
    refine lv_topi (fun x_42 ex_42 => ?_)
    refine lv_istore (lv' := [(5, .int x_42), (4, .int 0), (0, .ref f0), (1, .int 2), (2, .int a), (3, .int k)]) hx hb dF_start_35 hl (by decide) rfl (fun ls hl => ?_)
    refine lv_aload_n hx hb dF_start_37 rfl (lv_at hl 2 rfl) ?_
    refine fm_get (ci := 2) (v := .ref a2) (C := RF) (T := TF) (N := 4) hx hb hT inF hown hK hW hF rfl 0 (by decide) (hT _ fl_F_12) (fun _ h9 => h9) rfl dF_start_38 ?_
    refine lv_iload hx hb dF_start_41 (lv_at hl 1 rfl) ?_
    refine lv_iload hx hb dF_start_43 (lv_at hl 0 rfl) ?_
    refine fm_callv (va_runV (As := [.int 0, .int x_42]) (rest := []) ⟨hx, hb, hml, hown, hts⟩ (c_P_become l D ct A M a2 q 0 x_42 hQ) ⟨callB_of 2 hts (fs_gin co_P_become) rfl rfl rfl (hT _ ini_P) (hT _ ml_F_18) (by decide +kernel) ⟨Nat.le_of_ble_eq_true rfl, Nat.le_of_ble_eq_true rfl⟩, hT _ im_P_become, hT _ se_P_become⟩ (fn_preV fs_isnw hK hN hW hQ rfl) rfl rfl hl.1 rfl (lv_room (Nat.le_of_ble_eq_true rfl)) dF_start_45 ⟨Nat.le_of_ble_eq_true rfl, Nat.le_of_ble_eq_true rfl⟩) hW (fun M_44 H locs hp_45 hW => ?_)
    have f_46 := ((congrFun hp_45 f0).trans (fm_un (by omega))).trans hF
    have f_47 := (congrFun hp_45 a2).trans fm_us
    refine lv_aload_n hx hb dF_start_48 rfl (lv_at hl 2 rfl) ?_
    refine lv_iload_n hx hb dF_start_49 rfl (lv_at hl 5 rfl) ?_
    refine fm_put (ci := 2) (v := .int k) (ty := .int) (C := RF) (T := TF) (N := 4) hx hb hT inF tyF tkF nmF hown hK hW f_46 rfl 1 (by decide) (hT _ fl_F_22) (fun _ h9 => h9) rfl (by decide +kernel) rfl rfl (Nat.le_of_ble_eq_true rfl) dF_start_50 (fun H locs hW => ?_)
    obtain ⟨M_48, eM_48⟩ : ∃ z : fm_M, z = va_up M_44 f0 (some (.inr (2, [.ref a2, .int k, .long cl, .int ck]))) := ⟨_, rfl⟩
    have hW : fm_W D fs_cl5 A M_48 s.heap H locs := by rw [eM_48]; exact hW
    have f_49 : M_48 f0 = some (.inr (2, [.ref a2, .int k, .long cl, .int ck])) := by rw [eM_48]; exact fm_us
    have f_50 := (show M_48 a2 = M_44 a2 by rw [eM_48]; exact fm_un (by omega)).trans f_47
    refine lv_aload_n hx hb dF_start_53 rfl (lv_at hl 2 rfl) ?_
    refine lv_lconst (v := 0) hx hb dF_start_54 (by decide) ?_
    refine fm_put (ci := 2) (v := .long 0) (ty := .long) (C := RF) (T := TF) (N := 4) hx hb hT inF tyF tkF nmF hown hK hW f_49 rfl 2 (by decide) (hT _ fl_F_26) (fun _ h9 => h9) rfl (by decide +kernel) rfl rfl (Nat.le_of_ble_eq_true rfl) dF_start_55 (fun H locs hW => ?_)
    obtain ⟨M_51, eM_51⟩ : ∃ z : fm_M, z = va_up M_48 f0 (some (.inr (2, [.ref a2, .int k, .long 0, .int ck]))) := ⟨_, rfl⟩
    have hW : fm_W D fs_cl5 A M_51 s.heap H locs := by rw [eM_51]; exact hW
    have f_52 : M_51 f0 = some (.inr (2, [.ref a2, .int k, .long 0, .int ck])) := by rw [eM_51]; exact fm_us
    have f_53 := (show M_51 a2 = M_48 a2 by rw [eM_51]; exact fm_un (by omega)).trans f_50
    refine lv_aload_n hx hb dF_start_58 rfl (lv_at hl 2 rfl) ?_
    refine lv_iconst (v := 0) hx hb dF_start_59 (by decide) ?_
    refine fm_put (ci := 2) (v := .int 0) (ty := .int) (C := RF) (T := TF) (N := 4) hx hb hT inF tyF tkF nmF hown hK hW f_52 rfl 3 (by decide) (hT _ fl_F_30) (fun _ h9 => h9) rfl (by decide +kernel) rfl rfl (Nat.le_of_ble_eq_true rfl) dF_start_60 (fun H locs hW => ?_)
    obtain ⟨M_54, eM_54⟩ : ∃ z : fm_M, z = va_up M_51 f0 (some (.inr (2, [.ref a2, .int k, .long 0, .int 0]))) := ⟨_, rfl⟩
    have hW : fm_W D fs_cl5 A M_54 s.heap H locs := by rw [eM_54]; exact hW
    have f_55 : M_54 f0 = some (.inr (2, [.ref a2, .int k, .long 0, .int 0])) := by rw [eM_54]; exact fm_us
    have f_56 := (show M_54 a2 = M_51 a2 by rw [eM_54]; exact fm_un (by omega)).trans f_53
    exact fm_vret hx hb hr hlocks hW (by rw [eM_54, eM_51, eM_48, fm_uu, fm_uu, hp_45]; subst ex_42; rfl) dF_start_63
end
section
-- the cells of an object of the class
def fs_rf (b : Nat) : Nat → Option Nat := fun i => if i < 40 then some (b + 28 + 2 * i) else none
theorem fs_rf_at {b i : Nat} (h : i < 40) : fs_rf b (nI i).toNatClampNeg = some (b + 28 + 2 * i) := by
  rw [nI_clamp (by omega)]
  exact if_pos h
def fs_CW (ct : Nat → ClassId) (M : fm_M) (b : Nat) (cn : Nat → Nat) (kp pn : Nat → fs_Q) (pr : fs_Q) (lc : Nat → Int32) (lr : Nat → Int64) (fr : Nat → fs_Q) (od : Nat → Int32) (cl : Nat → Int64) (ck : Nat → Int32) (cc : Nat → Int32) (cr : Nat → Int64) : Prop :=
  M b = some (fs_SE b cn) ∧ fs_TB ct M b kp pn pr (nI (cn 0)) ∧ M (b + 25) = some (.inl (ct 0, 60, .inl lc)) ∧ M (b + 26) = some (.inl (ct 1, 60, .inr (.inl lr))) ∧ M (b + 27) = some (fs_ra (ct 4) 40 (fs_rf b)) ∧
  (∀ i, i < 40 → M (b + 28 + 2 * i) = some (fs_FE (b + 29 + 2 * i) (od i) (cl i) (ck i))) ∧ (∀ i, i < 40 → M (b + 29 + 2 * i) = some (fs_PE (fr i))) ∧ M (b + 108) = some (.inl (ct 0, 16, .inl cc)) ∧ M (b + 109) = some (.inl (ct 1, 16, .inr (.inl cr)))
def fs_Cf (b : Nat) (M M2 : fm_M) : Prop := ∀ a, ¬ (b ≤ a ∧ a < b + 110) → M2 a = M a
theorem fs_Cf_r {b : Nat} {M : fm_M} : fs_Cf b M M := fun _ _ => rfl
theorem fs_Cf_u {b : Nat} {M M2 : fm_M} (h : fs_Cf b M M2) {a : Nat} (ha : b ≤ a ∧ a < b + 110) (e : Option va_E) : fs_Cf b M (va_up M2 a e) := fun x hx => by
  rw [fm_un (by intro z; exact hx (by rw [z]; exact ha))]
  exact h x hx
theorem fs_Cf_t {b : Nat} {M M2 M3 : fm_M} (h : fs_Cf b M M2) (g : fs_Tf b M2 M3) : fs_Cf b M M3 := fun x hx => (g x (by omega)).trans (h x hx)
theorem fs_CW_S {ct : Nat → ClassId} {M : fm_M} {b : Nat} {cn : Nat → Nat} {kp pn : Nat → fs_Q} {pr : fs_Q} {lc : Nat → Int32} {lr : Nat → Int64} {fr : Nat → fs_Q} {od : Nat → Int32} {cl : Nat → Int64} {ck : Nat → Int32} {cc : Nat → Int32} {cr : Nat → Int64} (C : fs_CW ct M b cn kp pn pr lc lr fr od cl ck cc cr) {cn2 : Nat → Nat} (h0 : cn2 0 = cn 0) : fs_CW ct (va_up M (b) (some (fs_SE b cn2))) b cn2 kp pn pr lc lr fr od cl ck cc cr := by
  obtain ⟨t1, t2, t3, t4, t5, t6, t7, t8, t9⟩ := C
  refine ⟨fm_us, by rw [h0]; exact fs_TB_frame t2 (fun a h1 h2 => fm_un (by omega)), (fm_un (by omega)).trans t3, (fm_un (by omega)).trans t4, (fm_un (by omega)).trans t5, fun j hj => (fm_un (by omega)).trans (t6 j hj), fun j hj => (fm_un (by omega)).trans (t7 j hj), (fm_un (by omega)).trans t8, (fm_un (by omega)).trans t9⟩
theorem fs_CW_lc {ct : Nat → ClassId} {M : fm_M} {b : Nat} {cn : Nat → Nat} {kp pn : Nat → fs_Q} {pr : fs_Q} {lc : Nat → Int32} {lr : Nat → Int64} {fr : Nat → fs_Q} {od : Nat → Int32} {cl : Nat → Int64} {ck : Nat → Int32} {cc : Nat → Int32} {cr : Nat → Int64} (C : fs_CW ct M b cn kp pn pr lc lr fr od cl ck cc cr) (f : Nat → Int32) : fs_CW ct (va_up M (b + 25) (some (.inl (ct 0, 60, .inl f)))) b cn kp pn pr f lr fr od cl ck cc cr := by
  obtain ⟨t1, t2, t3, t4, t5, t6, t7, t8, t9⟩ := C
  refine ⟨(fm_un (by omega)).trans t1, fs_TB_frame t2 (fun a h1 h2 => fm_un (by omega)), fm_us, (fm_un (by omega)).trans t4, (fm_un (by omega)).trans t5, fun j hj => (fm_un (by omega)).trans (t6 j hj), fun j hj => (fm_un (by omega)).trans (t7 j hj), (fm_un (by omega)).trans t8, (fm_un (by omega)).trans t9⟩
theorem fs_CW_lr {ct : Nat → ClassId} {M : fm_M} {b : Nat} {cn : Nat → Nat} {kp pn : Nat → fs_Q} {pr : fs_Q} {lc : Nat → Int32} {lr : Nat → Int64} {fr : Nat → fs_Q} {od : Nat → Int32} {cl : Nat → Int64} {ck : Nat → Int32} {cc : Nat → Int32} {cr : Nat → Int64} (C : fs_CW ct M b cn kp pn pr lc lr fr od cl ck cc cr) (f : Nat → Int64) : fs_CW ct (va_up M (b + 26) (some (.inl (ct 1, 60, .inr (.inl f))))) b cn kp pn pr lc f fr od cl ck cc cr := by
  obtain ⟨t1, t2, t3, t4, t5, t6, t7, t8, t9⟩ := C
  refine ⟨(fm_un (by omega)).trans t1, fs_TB_frame t2 (fun a h1 h2 => fm_un (by omega)), (fm_un (by omega)).trans t3, fm_us, (fm_un (by omega)).trans t5, fun j hj => (fm_un (by omega)).trans (t6 j hj), fun j hj => (fm_un (by omega)).trans (t7 j hj), (fm_un (by omega)).trans t8, (fm_un (by omega)).trans t9⟩
theorem fs_CW_cc {ct : Nat → ClassId} {M : fm_M} {b : Nat} {cn : Nat → Nat} {kp pn : Nat → fs_Q} {pr : fs_Q} {lc : Nat → Int32} {lr : Nat → Int64} {fr : Nat → fs_Q} {od : Nat → Int32} {cl : Nat → Int64} {ck : Nat → Int32} {cc : Nat → Int32} {cr : Nat → Int64} (C : fs_CW ct M b cn kp pn pr lc lr fr od cl ck cc cr) (f : Nat → Int32) : fs_CW ct (va_up M (b + 108) (some (.inl (ct 0, 16, .inl f)))) b cn kp pn pr lc lr fr od cl ck f cr := by
  obtain ⟨t1, t2, t3, t4, t5, t6, t7, t8, t9⟩ := C
  refine ⟨(fm_un (by omega)).trans t1, fs_TB_frame t2 (fun a h1 h2 => fm_un (by omega)), (fm_un (by omega)).trans t3, (fm_un (by omega)).trans t4, (fm_un (by omega)).trans t5, fun j hj => (fm_un (by omega)).trans (t6 j hj), fun j hj => (fm_un (by omega)).trans (t7 j hj), fm_us, (fm_un (by omega)).trans t9⟩
theorem fs_CW_cr {ct : Nat → ClassId} {M : fm_M} {b : Nat} {cn : Nat → Nat} {kp pn : Nat → fs_Q} {pr : fs_Q} {lc : Nat → Int32} {lr : Nat → Int64} {fr : Nat → fs_Q} {od : Nat → Int32} {cl : Nat → Int64} {ck : Nat → Int32} {cc : Nat → Int32} {cr : Nat → Int64} (C : fs_CW ct M b cn kp pn pr lc lr fr od cl ck cc cr) (f : Nat → Int64) : fs_CW ct (va_up M (b + 109) (some (.inl (ct 1, 16, .inr (.inl f))))) b cn kp pn pr lc lr fr od cl ck cc f := by
  obtain ⟨t1, t2, t3, t4, t5, t6, t7, t8, t9⟩ := C
  refine ⟨(fm_un (by omega)).trans t1, fs_TB_frame t2 (fun a h1 h2 => fm_un (by omega)), (fm_un (by omega)).trans t3, (fm_un (by omega)).trans t4, (fm_un (by omega)).trans t5, fun j hj => (fm_un (by omega)).trans (t6 j hj), fun j hj => (fm_un (by omega)).trans (t7 j hj), (fm_un (by omega)).trans t8, fm_us⟩
theorem fs_CW_F {ct : Nat → ClassId} {M : fm_M} {b : Nat} {cn : Nat → Nat} {kp pn : Nat → fs_Q} {pr : fs_Q} {lc : Nat → Int32} {lr : Nat → Int64} {fr : Nat → fs_Q} {od : Nat → Int32} {cl : Nat → Int64} {ck : Nat → Int32} {cc : Nat → Int32} {cr : Nat → Int64} (C : fs_CW ct M b cn kp pn pr lc lr fr od cl ck cc cr) {i : Nat} (hi : i < 40) (o2 : Int32) (l2 : Int64) (k2 : Int32) : fs_CW ct (va_up M (b + 28 + 2 * i) (some (fs_FE (b + 29 + 2 * i) o2 l2 k2))) b cn kp pn pr lc lr fr (va_up od i o2) (va_up cl i l2) (va_up ck i k2) cc cr := by
  obtain ⟨t1, t2, t3, t4, t5, t6, t7, t8, t9⟩ := C
  refine ⟨(fm_un (by omega)).trans t1, fs_TB_frame t2 (fun a h1 h2 => fm_un (by omega)), (fm_un (by omega)).trans t3, (fm_un (by omega)).trans t4, (fm_un (by omega)).trans t5, fun j hj => ?_, fun j hj => (fm_un (by omega)).trans (t7 j hj), (fm_un (by omega)).trans t8, (fm_un (by omega)).trans t9⟩
  by_cases h : j = i
  · subst h
    rw [fm_us, fu_s, fu_s, fu_s]
  · rw [fm_un (by omega), fu_n h, fu_n h, fu_n h]
    exact t6 j hj
theorem fs_CW_Q {ct : Nat → ClassId} {M : fm_M} {b : Nat} {cn : Nat → Nat} {kp pn : Nat → fs_Q} {pr : fs_Q} {lc : Nat → Int32} {lr : Nat → Int64} {fr : Nat → fs_Q} {od : Nat → Int32} {cl : Nat → Int64} {ck : Nat → Int32} {cc : Nat → Int32} {cr : Nat → Int64} (C : fs_CW ct M b cn kp pn pr lc lr fr od cl ck cc cr) {i : Nat} (hi : i < 40) (q2 : fs_Q) : fs_CW ct (va_up M (b + 29 + 2 * i) (some (fs_PE q2))) b cn kp pn pr lc lr (va_up fr i q2) od cl ck cc cr := by
  obtain ⟨t1, t2, t3, t4, t5, t6, t7, t8, t9⟩ := C
  refine ⟨(fm_un (by omega)).trans t1, fs_TB_frame t2 (fun a h1 h2 => fm_un (by omega)), (fm_un (by omega)).trans t3, (fm_un (by omega)).trans t4, (fm_un (by omega)).trans t5, fun j hj => (fm_un (by omega)).trans (t6 j hj), fun j hj => ?_, (fm_un (by omega)).trans t8, (fm_un (by omega)).trans t9⟩
  by_cases h : j = i
  · subst h
    rw [fm_us, fu_s]
  · rw [fm_un (by omega), fu_n h]
    exact t7 j hj
theorem fs_CW_T {ct : Nat → ClassId} {M M2 : fm_M} {b : Nat} {cn : Nat → Nat} {kp pn : Nat → fs_Q} {pr : fs_Q} {lc : Nat → Int32} {lr : Nat → Int64} {fr : Nat → fs_Q} {od : Nat → Int32} {cl : Nat → Int64} {ck : Nat → Int32} {cc : Nat → Int32} {cr : Nat → Int64} {kp2 pn2 : Nat → fs_Q} {pr2 : fs_Q} (C : fs_CW ct M b cn kp pn pr lc lr fr od cl ck cc cr) (T : fs_TB ct M2 b kp2 pn2 pr2 (nI (cn 0))) (h : fs_Tf b M M2) : fs_CW ct M2 b cn kp2 pn2 pr2 lc lr fr od cl ck cc cr := by
  obtain ⟨t1, t2, t3, t4, t5, t6, t7, t8, t9⟩ := C
  exact ⟨(h _ (by omega)).trans t1, T, (h _ (by omega)).trans t3, (h _ (by omega)).trans t4, (h _ (by omega)).trans t5, fun j hj => (h _ (by omega)).trans (t6 j hj), fun j hj => (h _ (by omega)).trans (t7 j hj), (h _ (by omega)).trans t8, (h _ (by omega)).trans t9⟩
theorem fs_CW_frame {ct : Nat → ClassId} {M M2 : fm_M} {b : Nat} {cn : Nat → Nat} {kp pn : Nat → fs_Q} {pr : fs_Q} {lc : Nat → Int32} {lr : Nat → Int64} {fr : Nat → fs_Q} {od : Nat → Int32} {cl : Nat → Int64} {ck : Nat → Int32} {cc : Nat → Int32} {cr : Nat → Int64} (C : fs_CW ct M b cn kp pn pr lc lr fr od cl ck cc cr) (h : ∀ a, b ≤ a → a < b + 110 → M2 a = M a) : fs_CW ct M2 b cn kp pn pr lc lr fr od cl ck cc cr := by
  obtain ⟨t1, t2, t3, t4, t5, t6, t7, t8, t9⟩ := C
  exact ⟨(h _ (by omega) (by omega)).trans t1, fs_TB_frame t2 (fun a h1 h2 => h a (by omega) (by omega)), (h _ (by omega) (by omega)).trans t3, (h _ (by omega) (by omega)).trans t4, (h _ (by omega) (by omega)).trans t5, fun j hj => (h _ (by omega) (by omega)).trans (t6 j hj), fun j hj => (h _ (by omega) (by omega)).trans (t7 j hj), (h _ (by omega) (by omega)).trans t8, (h _ (by omega) (by omega)).trans t9⟩
end
section
-- FrameSamples: startOver, begin, gate
def fs_Bd (cn : Nat → Nat) : Prop := 1 ≤ cn 0 ∧ cn 0 ≤ 10 ∧ cn 1 ≤ 300 ∧ cn 2 ≤ 60 ∧ cn 3 ≤ 40 ∧ cn 4 ≤ 16
def fs_c0 (n : Nat) : Nat → Nat := fun k => if k = 0 then n else 0
theorem fs_CW_re {ct : Nat → ClassId} {M M2 : fm_M} {b : Nat} {cn : Nat → Nat} {kp pn : Nat → fs_Q} {pr : fs_Q} {lc : Nat → Int32} {lr : Nat → Int64} {fr : Nat → fs_Q} {od : Nat → Int32} {cl : Nat → Int64} {ck : Nat → Int32} {cc : Nat → Int32} {cr : Nat → Int64} {cn2 : Nat → Nat} {kp2 pn2 : Nat → fs_Q} {pr2 : fs_Q} (C : fs_CW ct M b cn kp pn pr lc lr fr od cl ck cc cr) (T : fs_TB ct M2 b kp2 pn2 pr2 (nI (cn2 0))) (h : fs_Tf b M M2) : fs_CW ct (va_up M2 b (some (fs_SE b cn2))) b cn2 kp2 pn2 pr2 lc lr fr od cl ck cc cr := by
  obtain ⟨t1, t2, t3, t4, t5, t6, t7, t8, t9⟩ := C
  exact ⟨fm_us, fs_TB_frame T (fun a h1 h2 => fm_un (by omega)), (fm_un (by omega)).trans ((h _ (by omega)).trans t3), (fm_un (by omega)).trans ((h _ (by omega)).trans t4), (fm_un (by omega)).trans ((h _ (by omega)).trans t5), fun j hj => (fm_un (by omega)).trans ((h _ (by omega)).trans (t6 j hj)), fun j hj => (fm_un (by omega)).trans ((h _ (by omega)).trans (t7 j hj)), (fm_un (by omega)).trans ((h _ (by omega)).trans t8), (fm_un (by omega)).trans ((h _ (by omega)).trans t9)⟩
theorem fs_n10 {x : Int32} (h1 : ¬ x < 1) (h2 : x ≤ 10) : ∃ N : Nat, 1 ≤ N ∧ N ≤ 10 ∧ x = nI N := by
  have h0 : ¬ x < 0 := fun z => h1 (by
    rw [Int32.lt_iff_toInt_lt] at z ⊢
    have : (0 : Int32).toInt = 0 := rfl
    have : (1 : Int32).toInt = 1 := rfl
    omega)
  obtain ⟨j, hj, rfl⟩ := nI_of2 (M := 10) (n := 10) rfl h0 h2
  refine ⟨j, ?_, hj, rfl⟩
  rcases Nat.lt_or_ge j 1 with q | q
  · exact absurd (nI_lt (b := 1) q (by decide)) h1
  · exact q
section FNR
variable {p : Program} {l : Launch} {e : Env} {R : Room} {s : State} {m : MethodId} {args : Array Value} {below : List Frame} {meth : Method} {c : Code} {H : Heap} {locs : List Loc} {cells slots : Nat} {Q : State → Prop}
variable {cc : ByteArray} {pc : Nat} {ls : Array Slot} {rest : List Value} {D : va_G} {cl : List vw_C} {A : Nat → Prop} {a : Nat} {tys : List (ClassId × FieldType)} {M : fm_M} {H0 : Heap}
theorem fn_iald (hexec : p.tables.exec = Jvm.exec) (hb : c.code = cc) (hK : va_K D cl tys s) (hW : fm_W D cl A M H0 H locs) (t0 : Nat) {cA : ClassId} {n : Nat} {f : Nat → Int32} (ha : M a = some (.inl (cA, n, .inl f))) (ht : tys[t0]? = some (cA, .int)) {i : Nat} (hi : i < n) (hn : n < 2 ^ 31) (hdg : decode cc pc = .ok (.iaload, 1))
    (kk : W p l e R s m args below meth c H locs cells slots Q (F0 m (pc + 1) ls (.int (f i) :: rest))) : W p l e R s m args below meth c H locs cells slots Q (F0 m pc ls (.int (nI i) :: .ref a :: rest)) :=
  fm_iald hexec hb hK hW t0 ha ht (vp_in_nI hi hn) hdg (by rw [nI_clamp (by omega)]; exact kk)
theorem fn_lald (hexec : p.tables.exec = Jvm.exec) (hb : c.code = cc) (hK : va_K D cl tys s) (hW : fm_W D cl A M H0 H locs) (t0 : Nat) {cA : ClassId} {n : Nat} {f : Nat → Int64} (ha : M a = some (.inl (cA, n, .inr (.inl f)))) (ht : tys[t0]? = some (cA, .long)) {i : Nat} (hi : i < n) (hn : n < 2 ^ 31) (hdg : decode cc pc = .ok (.laload, 1))
    (kk : W p l e R s m args below meth c H locs cells slots Q (F0 m (pc + 1) ls (.long (f i) :: rest))) : W p l e R s m args below meth c H locs cells slots Q (F0 m pc ls (.int (nI i) :: .ref a :: rest)) :=
  fm_lald hexec hb hK hW t0 ha ht (vp_in_nI hi hn) hdg (by rw [nI_clamp (by omega)]; exact kk)
theorem fn_zald (hexec : p.tables.exec = Jvm.exec) (hb : c.code = cc) (hK : va_K D cl tys s) (hW : fm_W D cl A M H0 H locs) (t0 : Nat) {cA : ClassId} {n : Nat} {f : Nat → Int32} (ha : M a = some (.inl (cA, n, .inl f))) (ht : tys[t0]? = some (cA, .boolean)) {i : Nat} (hi : i < n) (hn : n < 2 ^ 31) (hdg : decode cc pc = .ok (.baload, 1))
    (kk : W p l e R s m args below meth c H locs cells slots Q (F0 m (pc + 1) ls (.int (f i) :: rest))) : W p l e R s m args below meth c H locs cells slots Q (F0 m pc ls (.int (nI i) :: .ref a :: rest)) :=
  fm_zald hexec hb hK hW t0 ha ht (vp_in_nI hi hn) hdg (by rw [nI_clamp (by omega)]; exact kk)
theorem fn_iast (hexec : p.tables.exec = Jvm.exec) (hb : c.code = cc) (hK : va_K D cl tys s) (hW : fm_W D cl A M H0 H locs) (t0 : Nat) {cA : ClassId} {n : Nat} {f : Nat → Int32} (ha : M a = some (.inl (cA, n, .inl f))) (ht : tys[t0]? = some (cA, .int)) {i : Nat} (hi : i < n) (hn : n < 2 ^ 31) {x : Int32} (hdg : decode cc pc = .ok (.iastore, 1))
    (kk : ∀ (H1 : Heap) (locs1 : List Loc), fm_W D cl A (va_up M a (some (.inl (cA, n, .inl (upd f i x))))) H0 H1 locs1 → W p l e R s m args below meth c H1 locs1 cells slots Q (F0 m (pc + 1) ls rest)) : W p l e R s m args below meth c H locs cells slots Q (F0 m pc ls (.int x :: .int (nI i) :: .ref a :: rest)) :=
  fm_iast hexec hb hK hW t0 ha ht (vp_in_nI hi hn) hdg (by rw [nI_clamp (by omega)]; exact kk)
theorem fn_last (hexec : p.tables.exec = Jvm.exec) (hb : c.code = cc) (hK : va_K D cl tys s) (hW : fm_W D cl A M H0 H locs) (t0 : Nat) {cA : ClassId} {n : Nat} {f : Nat → Int64} (ha : M a = some (.inl (cA, n, .inr (.inl f)))) (ht : tys[t0]? = some (cA, .long)) {i : Nat} (hi : i < n) (hn : n < 2 ^ 31) {x : Int64} (hdg : decode cc pc = .ok (.lastore, 1))
    (kk : ∀ (H1 : Heap) (locs1 : List Loc), fm_W D cl A (va_up M a (some (.inl (cA, n, .inr (.inl (vp_updL f i x)))))) H0 H1 locs1 → W p l e R s m args below meth c H1 locs1 cells slots Q (F0 m (pc + 1) ls rest)) : W p l e R s m args below meth c H locs cells slots Q (F0 m pc ls (.long x :: .int (nI i) :: .ref a :: rest)) :=
  fm_last hexec hb hK hW t0 ha ht (vp_in_nI hi hn) hdg (by rw [nI_clamp (by omega)]; exact kk)
end FNR
set_option maxHeartbeats 4000000 in
set_option maxRecDepth 100000 in
theorem c_S_startOver (l : Launch) (D : va_G) (ct : Nat → ClassId) (A : Nat → Prop) (M : fm_M) (b : Nat) (cn : Nat → Nat) (kp pn : Nat → fs_Q) (pr : fs_Q) (lc : Nat → Int32) (lr : Nat → Int64) (fr : Nat → fs_Q) (od : Nat → Int32) (cl : Nat → Int64) (ck : Nat → Int32) (cc : Nat → Int32) (cr : Nat → Int64) (N : Nat) (hC : fs_CW ct M b cn kp pn pr lc lr fr od cl ck cc cr) (hN2 : N ≤ 10) : Met l yS_startOver wS_startOver ({ frames := 2, cells := 0, slots := 0, locals := 44 }) (va_Pc [.ref b, .int (nI N)] (fm_St D fs_cl5 (fs_tys ct) fs_nw A M)) (va_Qv (fun (M1 : fm_M) => ∃ kp2 pn2 : Nat → fs_Q, fs_CW ct M1 b (fs_c0 N) kp2 pn2 pr lc lr fr od cl ck cc cr ∧ fs_Cf b M M1 ∧ (∀ i, i < N → kp2 i = ((0, 1 <<< (nI i &&& 31), 0, 0) : fs_Q)) ∧ ∀ i, i < N → pn2 i = ((1 <<< (nI i &&& 31), 0, 0, 0) : fs_Q)) (fm_B D fs_cl5 A) A) 0 0 A := by
  refine Met.ofW (cc := cS_startOver) (maxL := 2) (ret := none) (by decide) rfl ?_
  intro p e s m args below meth c s₁ B hml hv
  obtain ⟨rfl, hP0, hA0, hA1, hK, hN⟩ := hv
  have hx := B.exec
  have hb := B.bytes
  have hr := B.returns
  have hts := atoms_spec (ws := wS_startOver) B.pre
  have hT : ∀ w ∈ fs_tb, w.before _ s = true := fun w h => hts w (List.mem_cons_of_mem _ h)
  have hown : s.vm.findClass "FrameSamples" = some m.cls := findClass_of_methodNamed B.named
  have hlocks := B.notSynchronized
  have hW : fm_W D fs_cl5 A M s.heap s.heap [] := ⟨hP0, hA0, va_S.rf, hA1⟩
  have hl := lv_entry ([.ref b, .int (nI N)]) (n := 2) (Nat.le_of_ble_eq_true rfl)
  rw [lg_entry_eq]
  generalize (lg_sl ([.ref b, .int (nI N)]) ++ List.replicate (2 - (lg_sl ([.ref b, .int (nI N)])).length) Slot.unset).toArray = ls at hl ⊢
  have hl : lv_has ls 2 [(0, .ref b), (1, .int (nI N))] := hl
  refine lv_aload_n hx hb dS_startOver_0 rfl (lv_at hl 0 rfl) ?_
  refine fm_get (ci := 3) (v := .ref (b + 1)) (C := RS) (T := TS) (N := 11) hx hb hT inS hown hK hW hC.1 rfl 0 (by decide) (hT _ fl_S_10) (fun _ h9 => h9) rfl dS_startOver_1 ?_
  refine lv_iload_n hx hb dS_startOver_4 rfl (lv_at hl 1 rfl) ?_
  refine fm_callv (va_runV (As := [.int (nI N)]) (rest := []) ⟨hx, hb, hml, hown, hts⟩ (c_T_start l D ct A M b N kp pn pr (nI (cn 0)) hC.2.1 hN2) ⟨callB_of 1 hts (fs_gin co_T_start) rfl rfl rfl (hT _ ini_T) (hT _ ml_S_136) (by decide +kernel) ⟨Nat.le_of_ble_eq_true rfl, Nat.le_of_ble_eq_true rfl⟩, hT _ im_T_start, hT _ se_T_start⟩ (fn_preV fs_isnw hK hN hW hC.2.1.1 rfl) rfl rfl hl.1 rfl (lv_room (Nat.le_of_ble_eq_true rfl)) dS_startOver_5 ⟨Nat.le_of_ble_eq_true rfl, Nat.le_of_ble_eq_true rfl⟩) hW (fun M_2 H locs hp_3 hW => ?_)
  obtain ⟨kp2, pn2, t1, t2, t3, t4⟩ := hp_3
  have hb0 : M_2 b = some (fs_SE b cn) := (t2 b (by omega)).trans hC.1
  refine lv_aload_n hx hb dS_startOver_8 rfl (lv_at hl 0 rfl) ?_
  refine lv_iload_n hx hb dS_startOver_9 rfl (lv_at hl 1 rfl) ?_
  refine fm_put (ci := 3) (v := .int (nI N)) (ty := .int) (C := RS) (T := TS) (N := 11) hx hb hT inS tyS tkS nmS hown hK hW hb0 rfl 6 (by decide) (hT _ fl_S_129) (fun _ h9 => h9) rfl (by decide +kernel) rfl rfl (Nat.le_of_ble_eq_true rfl) dS_startOver_10 (fun H locs hW => ?_)
  obtain ⟨M_4, eM_4⟩ : ∃ z : fm_M, z = va_up M_2 b (some (.inr (3, [.ref (b + 1), .ref (b + 25), .ref (b + 26), .ref (b + 27), .ref (b + 108), .ref (b + 109), .int (nI N), .int (nI (cn 1)), .int (nI (cn 2)), .int (nI (cn 3)), .int (nI (cn 4))]))) := ⟨_, rfl⟩
  have hW : fm_W D fs_cl5 A M_4 s.heap H locs := by rw [eM_4]; exact hW
  have f_5 : M_4 b = some (.inr (3, [.ref (b + 1), .ref (b + 25), .ref (b + 26), .ref (b + 27), .ref (b + 108), .ref (b + 109), .int (nI N), .int (nI (cn 1)), .int (nI (cn 2)), .int (nI (cn 3)), .int (nI (cn 4))])) := by rw [eM_4]; exact fm_us
  refine lv_aload_n hx hb dS_startOver_13 rfl (lv_at hl 0 rfl) ?_
  refine lv_iconst (v := 0) hx hb dS_startOver_14 (by decide) ?_
  refine fm_put (ci := 3) (v := .int 0) (ty := .int) (C := RS) (T := TS) (N := 11) hx hb hT inS tyS tkS nmS hown hK hW f_5 rfl 7 (by decide) (hT _ fl_S_45) (fun _ h9 => h9) rfl (by decide +kernel) rfl rfl (Nat.le_of_ble_eq_true rfl) dS_startOver_15 (fun H locs hW => ?_)
  obtain ⟨M_6, eM_6⟩ : ∃ z : fm_M, z = va_up M_4 b (some (.inr (3, [.ref (b + 1), .ref (b + 25), .ref (b + 26), .ref (b + 27), .ref (b + 108), .ref (b + 109), .int (nI N), .int 0, .int (nI (cn 2)), .int (nI (cn 3)), .int (nI (cn 4))]))) := ⟨_, rfl⟩
  have hW : fm_W D fs_cl5 A M_6 s.heap H locs := by rw [eM_6]; exact hW
  have f_7 : M_6 b = some (.inr (3, [.ref (b + 1), .ref (b + 25), .ref (b + 26), .ref (b + 27), .ref (b + 108), .ref (b + 109), .int (nI N), .int 0, .int (nI (cn 2)), .int (nI (cn 3)), .int (nI (cn 4))])) := by rw [eM_6]; exact fm_us
  refine lv_aload_n hx hb dS_startOver_18 rfl (lv_at hl 0 rfl) ?_
  refine lv_iconst (v := 0) hx hb dS_startOver_19 (by decide) ?_
  refine fm_put (ci := 3) (v := .int 0) (ty := .int) (C := RS) (T := TS) (N := 11) hx hb hT inS tyS tkS nmS hown hK hW f_7 rfl 8 (by decide) (hT _ fl_S_66) (fun _ h9 => h9) rfl (by decide +kernel) rfl rfl (Nat.le_of_ble_eq_true rfl) dS_startOver_20 (fun H locs hW => ?_)
  obtain ⟨M_8, eM_8⟩ : ∃ z : fm_M, z = va_up M_6 b (some (.inr (3, [.ref (b + 1), .ref (b + 25), .ref (b + 26), .ref (b + 27), .ref (b + 108), .ref (b + 109), .int (nI N), .int 0, .int 0, .int (nI (cn 3)), .int (nI (cn 4))]))) := ⟨_, rfl⟩
  have hW : fm_W D fs_cl5 A M_8 s.heap H locs := by rw [eM_8]; exact hW
  have f_9 : M_8 b = some (.inr (3, [.ref (b + 1), .ref (b + 25), .ref (b + 26), .ref (b + 27), .ref (b + 108), .ref (b + 109), .int (nI N), .int 0, .int 0, .int (nI (cn 3)), .int (nI (cn 4))])) := by rw [eM_8]; exact fm_us
  refine lv_aload_n hx hb dS_startOver_23 rfl (lv_at hl 0 rfl) ?_
  refine lv_iconst (v := 0) hx hb dS_startOver_24 (by decide) ?_
  refine fm_put (ci := 3) (v := .int 0) (ty := .int) (C := RS) (T := TS) (N := 11) hx hb hT inS tyS tkS nmS hown hK hW f_9 rfl 9 (by decide) (hT _ fl_S_56) (fun _ h9 => h9) rfl (by decide +kernel) rfl rfl (Nat.le_of_ble_eq_true rfl) dS_startOver_25 (fun H locs hW => ?_)
  obtain ⟨M_10, eM_10⟩ : ∃ z : fm_M, z = va_up M_8 b (some (.inr (3, [.ref (b + 1), .ref (b + 25), .ref (b + 26), .ref (b + 27), .ref (b + 108), .ref (b + 109), .int (nI N), .int 0, .int 0, .int 0, .int (nI (cn 4))]))) := ⟨_, rfl⟩
  have hW : fm_W D fs_cl5 A M_10 s.heap H locs := by rw [eM_10]; exact hW
  have f_11 : M_10 b = some (.inr (3, [.ref (b + 1), .ref (b + 25), .ref (b + 26), .ref (b + 27), .ref (b + 108), .ref (b + 109), .int (nI N), .int 0, .int 0, .int 0, .int (nI (cn 4))])) := by rw [eM_10]; exact fm_us
  refine lv_aload_n hx hb dS_startOver_28 rfl (lv_at hl 0 rfl) ?_
  refine lv_iconst (v := 0) hx hb dS_startOver_29 (by decide) ?_
  refine fm_put (ci := 3) (v := .int 0) (ty := .int) (C := RS) (T := TS) (N := 11) hx hb hT inS tyS tkS nmS hown hK hW f_11 rfl 10 (by decide) (hT _ fl_S_91) (fun _ h9 => h9) rfl (by decide +kernel) rfl rfl (Nat.le_of_ble_eq_true rfl) dS_startOver_30 (fun H locs hW => ?_)
  obtain ⟨M_12, eM_12⟩ : ∃ z : fm_M, z = va_up M_10 b (some (.inr (3, [.ref (b + 1), .ref (b + 25), .ref (b + 26), .ref (b + 27), .ref (b + 108), .ref (b + 109), .int (nI N), .int 0, .int 0, .int 0, .int 0]))) := ⟨_, rfl⟩
  have hW : fm_W D fs_cl5 A M_12 s.heap H locs := by rw [eM_12]; exact hW
  have f_13 : M_12 b = some (.inr (3, [.ref (b + 1), .ref (b + 25), .ref (b + 26), .ref (b + 27), .ref (b + 108), .ref (b + 109), .int (nI N), .int 0, .int 0, .int 0, .int 0])) := by rw [eM_12]; exact fm_us
  have zM_12 : M_12 = va_up M_2 b (some (fs_SE b (fs_c0 N))) := by
    rw [eM_12, eM_10, eM_8, eM_6, eM_4, fm_uu, fm_uu, fm_uu, fm_uu]
    rfl
  refine fm_vret hx hb hr hlocks hW ⟨kp2, pn2, by rw [zM_12]; exact fs_CW_re hC t1 t2, ?_, t3, t4⟩ dS_startOver_33
  rw [zM_12]
  exact fs_Cf_u (fs_Cf_t fs_Cf_r t2) (by omega) _
set_option maxHeartbeats 4000000 in
set_option maxRecDepth 100000 in
theorem c_S_begin (l : Launch) (D : va_G) (ct : Nat → ClassId) (A : Nat → Prop) (M : fm_M) (b : Nat) (cn : Nat → Nat) (kp pn : Nat → fs_Q) (pr : fs_Q) (lc : Nat → Int32) (lr : Nat → Int64) (fr : Nat → fs_Q) (od : Nat → Int32) (cl : Nat → Int64) (ck : Nat → Int32) (cc : Nat → Int32) (cr : Nat → Int64) (n : Int32) (hC : fs_CW ct M b cn kp pn pr lc lr fr od cl ck cc cr) (hB : fs_Bd cn) : Met l yS_begin wS_begin ({ frames := 3, cells := 0, slots := 0, locals := 65 }) (va_Pc [.ref b, .int n] (fm_St D fs_cl5 (fs_tys ct) fs_nw A M)) (va_Qi (fun (r : Int32) (M1 : fm_M) => (r = 0 ∧ M1 = M ∧ (n < 1 ∨ ¬ n ≤ 10)) ∨ (r = 1 ∧ ∃ N : Nat, 1 ≤ N ∧ N ≤ 10 ∧ n = nI N ∧ ∃ kp2 pn2 : Nat → fs_Q, fs_CW ct M1 b (fs_c0 N) kp2 pn2 pr lc lr fr od cl ck cc cr ∧ fs_Cf b M M1 ∧ (∀ i, i < N → kp2 i = ((0, 1 <<< (nI i &&& 31), 0, 0) : fs_Q)) ∧ ∀ i, i < N → pn2 i = ((1 <<< (nI i &&& 31), 0, 0, 0) : fs_Q))) (fm_B D fs_cl5 A) A) 0 0 A := by
  refine Met.ofW (cc := cS_begin) (maxL := 2) (ret := (some .boolean)) (by decide) rfl ?_
  intro p e s m args below meth c s₁ B hml hv
  obtain ⟨rfl, hP0, hA0, hA1, hK, hN⟩ := hv
  have hx := B.exec
  have hb := B.bytes
  have hr := B.returns
  have hts := atoms_spec (ws := wS_begin) B.pre
  have hT : ∀ w ∈ fs_tb, w.before _ s = true := fun w h => hts w (List.mem_cons_of_mem _ h)
  have hown : s.vm.findClass "FrameSamples" = some m.cls := findClass_of_methodNamed B.named
  have hlocks := B.notSynchronized
  have hW : fm_W D fs_cl5 A M s.heap s.heap [] := ⟨hP0, hA0, va_S.rf, hA1⟩
  have hl := lv_entry ([.ref b, .int n]) (n := 2) (Nat.le_of_ble_eq_true rfl)
  rw [lg_entry_eq]
  generalize (lg_sl ([.ref b, .int n]) ++ List.replicate (2 - (lg_sl ([.ref b, .int n])).length) Slot.unset).toArray = ls at hl ⊢
  have hl : lv_has ls 2 [(0, .ref b), (1, .int n)] := hl
  obtain ⟨hB0, hB1, hB2, hB3, hB4, hB5⟩ := hB
  have hCf : fs_Cf b M M := fs_Cf_r
  refine lv_iload_n hx hb dS_begin_0 rfl (lv_at hl 1 rfl) ?_
  refine lv_iconst (v := 1) hx hb dS_begin_1 (by decide) ?_
  refine lv_icmp_lt (tgt := 11) hx hb dS_begin_2 (by decide) (fun c_1 => ?_) (fun c_1 => ?_)
  · refine lv_iconst (v := 0) hx hb dS_begin_11 (by decide) ?_
    exact fm_zret hx hb hr rfl hlocks hW (Or.inl ⟨rfl, rfl, Or.inl c_1⟩) dS_begin_12
  · refine lv_iload_n hx hb dS_begin_5 rfl (lv_at hl 1 rfl) ?_
    refine lv_bipush (v := 10) hx hb dS_begin_6 (by decide) ?_
    refine lv_icmp_le (tgt := 13) hx hb dS_begin_8 (by decide) (fun c_2 => ?_) (fun c_2 => ?_)
    · obtain ⟨N, a1, a2, rfl⟩ := fs_n10 c_1 c_2
      refine lv_aload_n hx hb dS_begin_13 rfl (lv_at hl 0 rfl) ?_
      refine lv_iload_n hx hb dS_begin_14 rfl (lv_at hl 1 rfl) ?_
      refine fm_callv (va_runV (As := [.int (nI N)]) (rest := []) ⟨hx, hb, hml, hown, hts⟩ (c_S_startOver l D ct A M b cn kp pn pr lc lr fr od cl ck cc cr N hC a2) ⟨callB_of 1 hts (fs_gin co_S_startOver) rfl rfl rfl (hT _ ini_S) (hT _ ml_S_37) (by decide +kernel) ⟨Nat.le_of_ble_eq_true rfl, Nat.le_of_ble_eq_true rfl⟩, hT _ im_S_startOver, hT _ se_S_startOver⟩ (fn_preV fs_isnw hK hN hW hC.1 rfl) rfl rfl hl.1 rfl (lv_room (Nat.le_of_ble_eq_true rfl)) dS_begin_15 ⟨Nat.le_of_ble_eq_true rfl, Nat.le_of_ble_eq_true rfl⟩) hW (fun M_4 H locs hp_5 hW => ?_)
      refine lv_iconst (v := 1) hx hb dS_begin_18 (by decide) ?_
      exact fm_zret hx hb hr rfl hlocks hW (Or.inr ⟨rfl, N, a1, a2, rfl, hp_5⟩) dS_begin_19
    · refine lv_iconst (v := 0) hx hb dS_begin_11 (by decide) ?_
      exact fm_zret hx hb hr rfl hlocks hW (Or.inl ⟨rfl, rfl, Or.inr c_2⟩) dS_begin_12
end
section
-- FrameSamples.gate
theorem fs_if0 {P : Prop} {r : Int32} [Decidable P] (e : r = if P then 0 else 1) : (r = 0 → P) ∧ (¬ r = 0 → ¬ P) := by
  by_cases h : P
  · rw [if_pos h] at e
    exact ⟨fun _ => h, fun z => absurd e z⟩
  · rw [if_neg h] at e
    exact ⟨fun z => absurd (e.symm.trans z) (by decide), fun _ => h⟩
theorem fs_if1 {P : Prop} {r : Int32} [Decidable P] (e : r = if P then 1 else 0) : (r = 0 → ¬ P) ∧ (¬ r = 0 → P) := by
  by_cases h : P
  · rw [if_pos h] at e
    exact ⟨fun z => absurd (e.symm.trans z) (by decide), fun _ => h⟩
  · rw [if_neg h] at e
    exact ⟨fun _ => h, fun z => absurd e z⟩
def fs_gk (cn : Nat → Nat) (k a c0 : Int32) : Prop := ¬ k < 0 ∧ ¬ 6 < k ∧ ¬ (a < 0 ∨ nI (cn 0) ≤ a) ∧ nI (cn 1) < 300 ∧ ((k = 2 ∨ k = 3 ∨ k = 4) → ¬ (c0 < 0 ∨ nI (cn 0) ≤ c0) ∧ a ≠ c0)
set_option maxHeartbeats 4000000 in
set_option maxRecDepth 100000 in
theorem c_S_gate (l : Launch) (D : va_G) (ct : Nat → ClassId) (A : Nat → Prop) (M : fm_M) (b : Nat) (cn : Nat → Nat) (kp pn : Nat → fs_Q) (pr : fs_Q) (lc : Nat → Int32) (lr : Nat → Int64) (fr : Nat → fs_Q) (od : Nat → Int32) (cl : Nat → Int64) (ck : Nat → Int32) (cc : Nat → Int32) (cr : Nat → Int64) (k a c0 : Int32) (hC : fs_CW ct M b cn kp pn pr lc lr fr od cl ck cc cr) (hB : fs_Bd cn) : Met l yS_gate wS_gate ({ frames := 4, cells := 0, slots := 0, locals := 90 }) (va_Pc [.ref b, .int k, .int a, .int c0] (fm_St D fs_cl5 (fs_tys ct) fs_nw A M)) (va_Qi (fun (r : Int32) (M1 : fm_M) => (r = 0 ∧ M1 = M ∧ ¬ fs_gk cn k a c0) ∨ (r = 1 ∧ fs_gk cn k a c0 ∧ ∃ kp2 pn2 fr2 : Nat → fs_Q, fs_CW ct M1 b (va_up cn 1 (cn 1 + 1)) kp2 pn2 pr lc lr fr2 od cl ck cc cr ∧ fs_Cf b M M1 ∧ (∀ i, i < cn 0 → kp2 i = fs_ps (kp i) k a c0) ∧ (∀ i, i < cn 0 → pn2 i = fs_ps (pn i) k a c0) ∧ ∀ i, i < cn 3 → fr2 i = fs_ps (fr i) k a c0)) (fm_B D fs_cl5 A) A) 0 0 A := by
  refine Met.ofW (cc := cS_gate) (maxL := 5) (ret := (some .boolean)) (by decide) rfl ?_
  intro p e s m args below meth c s₁ B hml hv
  obtain ⟨rfl, hP0, hA0, hA1, hK, hN⟩ := hv
  have hx := B.exec
  have hb := B.bytes
  have hr := B.returns
  have hts := atoms_spec (ws := wS_gate) B.pre
  have hT : ∀ w ∈ fs_tb, w.before _ s = true := fun w h => hts w (List.mem_cons_of_mem _ h)
  have hown : s.vm.findClass "FrameSamples" = some m.cls := findClass_of_methodNamed B.named
  have hlocks := B.notSynchronized
  have hW : fm_W D fs_cl5 A M s.heap s.heap [] := ⟨hP0, hA0, va_S.rf, hA1⟩
  have hl := lv_entry ([.ref b, .int k, .int a, .int c0]) (n := 5) (Nat.le_of_ble_eq_true rfl)
  rw [lg_entry_eq]
  generalize (lg_sl ([.ref b, .int k, .int a, .int c0]) ++ List.replicate (5 - (lg_sl ([.ref b, .int k, .int a, .int c0])).length) Slot.unset).toArray = ls at hl ⊢
  have hl : lv_has ls 5 [(0, .ref b), (1, .int k), (2, .int a), (3, .int c0)] := hl
  obtain ⟨hB0, hB1, hB2, hB3, hB4, hB5⟩ := hB
  have hCf : fs_Cf b M M := fs_Cf_r
  refine lv_iload_n hx hb dS_gate_0 rfl (lv_at hl 1 rfl) ?_
  refine lv_if_lt (tgt := 28) hx hb dS_gate_1 (by decide) (fun c_1 => ?_) (fun c_1 => ?_)
  · refine lv_iconst (v := 0) hx hb dS_gate_28 (by decide) ?_
    exact fm_zret hx hb hr rfl hlocks hW (Or.inl ⟨rfl, rfl, fun z => z.1 c_1⟩) dS_gate_29
  · refine lv_iload_n hx hb dS_gate_4 rfl (lv_at hl 1 rfl) ?_
    refine lv_bipush (v := 6) hx hb dS_gate_5 (by decide) ?_
    refine lv_icmp_gt (tgt := 28) hx hb dS_gate_7 (by decide) (fun c_2 => ?_) (fun c_2 => ?_)
    · refine lv_iconst (v := 0) hx hb dS_gate_28 (by decide) ?_
      exact fm_zret hx hb hr rfl hlocks hW (Or.inl ⟨rfl, rfl, fun z => z.2.1 c_2⟩) dS_gate_29
    · refine lv_aload_n hx hb dS_gate_10 rfl (lv_at hl 0 rfl) ?_
      refine lv_iload_n hx hb dS_gate_11 rfl (lv_at hl 2 rfl) ?_
      refine fm_calli (va_runV (As := [.int a]) (rest := []) ⟨hx, hb, hml, hown, hts⟩ (c_S_isWire l D ct A M b cn a hC.1) ⟨callB_of 1 hts (fs_gin co_S_isWire) rfl rfl rfl (hT _ ini_S) (hT _ ml_S_41) (by decide +kernel) ⟨Nat.le_of_ble_eq_true rfl, Nat.le_of_ble_eq_true rfl⟩, hT _ im_S_isWire, hT _ se_S_isWire⟩ (fn_preV fs_isnw hK hN hW hC.1 rfl) rfl rfl hl.1 rfl (lv_room (Nat.le_of_ble_eq_true rfl)) dS_gate_12 ⟨Nat.le_of_ble_eq_true rfl, Nat.le_of_ble_eq_true rfl⟩) hW (fun r_3 M_4 H locs hp_5 hW => ?_)
      have hW : fm_W D fs_cl5 A M s.heap H locs := by rw [← hp_5.2]; exact hW
      have er_3 := hp_5.1
      refine lv_if_eq (tgt := 28) hx hb dS_gate_15 (by decide) (fun c_6 => ?_) (fun c_6 => ?_)
      · refine lv_iconst (v := 0) hx hb dS_gate_28 (by decide) ?_
        exact fm_zret hx hb hr rfl hlocks hW (Or.inl ⟨rfl, rfl, fun z => z.2.2.1 ((fs_if0 er_3).1 c_6)⟩) dS_gate_29
      · have h3 := (fs_if0 er_3).2 c_6
        refine lv_aload_n hx hb dS_gate_18 rfl (lv_at hl 0 rfl) ?_
        refine fm_get (ci := 3) (v := .int (nI (cn 1))) (C := RS) (T := TS) (N := 11) hx hb hT inS hown hK hW hC.1 rfl 7 (by decide) (hT _ fl_S_45) (fun _ h9 => h9) rfl dS_gate_19 ?_
        refine lv_sipush (v := 300) hx hb dS_gate_22 (by decide) ?_
        refine lv_icmp_lt (tgt := 30) hx hb dS_gate_25 (by decide) (fun c_7 => ?_) (fun c_7 => ?_)
        · refine lv_iload_n hx hb dS_gate_30 rfl (lv_at hl 1 rfl) ?_
          refine fm_calli (va_runS (As := [.int k]) (rest := []) ⟨hx, hb, hml, hown, hts⟩ (c_S_hasTwoWires l D ct A M k) ⟨callB_of 1 hts (fs_gin co_S_hasTwoWires) rfl rfl rfl (hT _ ini_S) (hT _ ml_S_49) (by decide +kernel) ⟨Nat.le_of_ble_eq_true rfl, Nat.le_of_ble_eq_true rfl⟩, hT _ st_S_hasTwoWires⟩ (fn_pre fs_isnw hK hN hW) rfl rfl hl.1 rfl (lv_room (Nat.le_of_ble_eq_true rfl)) dS_gate_31 ⟨Nat.le_of_ble_eq_true rfl, Nat.le_of_ble_eq_true rfl⟩) hW (fun r_8 M_9 H locs hp_10 hW => ?_)
          have hW : fm_W D fs_cl5 A M s.heap H locs := by rw [← hp_10.2]; exact hW
          have er_8 := hp_10.1
          refine lv_if_eq (tgt := 52) hx hb dS_gate_34 (by decide) (fun c_11 => ?_) (fun c_11 => ?_)
          · have hgk : fs_gk cn k a c0 := ⟨c_1, c_2, h3, c_7, fun z => absurd z ((fs_if1 er_8).1 c_11)⟩
            refine lv_aload_n hx hb dS_gate_52 rfl (lv_at hl 0 rfl) ?_
            refine fm_get (ci := 3) (v := .ref (b + 1)) (C := RS) (T := TS) (N := 11) hx hb hT inS hown hK hW hC.1 rfl 0 (by decide) (hT _ fl_S_10) (fun _ h9 => h9) rfl dS_gate_53 ?_
            refine lv_iload_n hx hb dS_gate_56 rfl (lv_at hl 1 rfl) ?_
            refine lv_iload_n hx hb dS_gate_57 rfl (lv_at hl 2 rfl) ?_
            refine lv_iload_n hx hb dS_gate_58 rfl (lv_at hl 3 rfl) ?_
            refine fm_callv (va_runV (As := [.int k, .int a, .int c0]) (rest := []) ⟨hx, hb, hml, hown, hts⟩ (c_T_pass l D ct A M b (cn 0) kp pn pr k a c0 hC.2.1 hB1) ⟨callB_of 3 hts (fs_gin co_T_pass) rfl rfl rfl (hT _ ini_T) (hT _ ml_S_52) (by decide +kernel) ⟨Nat.le_of_ble_eq_true rfl, Nat.le_of_ble_eq_true rfl⟩, hT _ im_T_pass, hT _ se_T_pass⟩ (fn_preV fs_isnw hK hN hW hC.2.1.1 rfl) rfl rfl hl.1 rfl (lv_room (Nat.le_of_ble_eq_true rfl)) dS_gate_59 ⟨Nat.le_of_ble_eq_true rfl, Nat.le_of_ble_eq_true rfl⟩) hW (fun M_13 H locs hp_14 hW => ?_)
            obtain ⟨kp2, pn2, t1, t2, t3, t4⟩ := hp_14
            have hC := fs_CW_T hC t1 t2
            have hCf := fs_Cf_t hCf t2
            refine lv_iconst (v := 0) hx hb dS_gate_62 (by decide) ?_
            refine lv_istore (lv' := [(4, .int 0), (0, .ref b), (1, .int k), (2, .int a), (3, .int c0)]) hx hb dS_gate_63 hl (by decide) rfl (fun ls hl => ?_)
            refine fm_loop (head := 65) (maxL := 5) (cn 3) (fun i (u : Nat → fs_Q) M1 => fs_CW ct M1 b cn kp2 pn2 pr lc lr u od cl ck cc cr ∧ fs_Cf b M M1 ∧ fs_Up i fr (fun j => fs_ps (fr j) k a c0) u) (fun i (u : Nat → fs_Q) => [(4, .int (nI i)), (0, .ref b), (1, .int k), (2, .int a), (3, .int c0)]) ?_ ?_ (cn 3) 0 (by omega) fr M_13 _ _ ls ⟨hC, hCf, fs_Up_0 _ _⟩ hW (lv_sub hl [0, 1, 2, 3, 4] rfl)
            · intro i u M2 H locs ls hi hI hW hl back
              obtain ⟨hC, hCf, hU⟩ := hI
              have hl : lv_has ls 5 [(4, .int (nI i)), (0, .ref b), (1, .int k), (2, .int a), (3, .int c0)] := hl
              refine lv_iload hx hb dS_gate_65 (lv_at hl 0 rfl) ?_
              refine lv_aload_n hx hb dS_gate_67 rfl (lv_at hl 1 rfl) ?_
              refine fm_get (ci := 3) (v := .int (nI (cn 3))) (C := RS) (T := TS) (N := 11) hx hb hT inS hown hK hW hC.1 rfl 9 (by decide) (hT _ fl_S_56) (fun _ h9 => h9) rfl dS_gate_68 ?_
              refine lv_icmp_ge (tgt := 96) hx hb dS_gate_71 (by decide) (fun c_15 => ?_) (fun c_15 => ?_)
              · exact absurd c_15 (nI_ge hi (by omega))
              · refine lv_aload_n hx hb dS_gate_74 rfl (lv_at hl 1 rfl) ?_
                refine fm_get (ci := 3) (v := .ref (b + 27)) (C := RS) (T := TS) (N := 11) hx hb hT inS hown hK hW hC.1 rfl 3 (by decide) (hT _ fl_S_26) (fun _ h9 => h9) rfl dS_gate_75 ?_
                refine lv_iload hx hb dS_gate_78 (lv_at hl 0 rfl) ?_
                refine fm_aald hx hb hK hW 4 hC.2.2.2.2.1 rfl (vp_in_nI (N := 40) (by omega) (by decide)) (fs_rf_at (by omega)) dS_gate_80 ?_
                refine fm_getN (ci := 2) (v := .ref (b + 29 + 2 * i)) (C := RF) (T := TF) (N := 4) hx hb hT inF hown hK hW (hC.2.2.2.2.2.1 i (by omega)) rfl 0 (by decide) (hN _ (List.mem_of_getElem? (i := 10) rfl)) (fun _ h9 => h9) rfl dS_gate_81 ?_
                refine lv_iload_n hx hb dS_gate_84 rfl (lv_at hl 2 rfl) ?_
                refine lv_iload_n hx hb dS_gate_85 rfl (lv_at hl 3 rfl) ?_
                refine lv_iload_n hx hb dS_gate_86 rfl (lv_at hl 4 rfl) ?_
                refine fm_callv (va_runV (As := [.int k, .int a, .int c0]) (rest := []) ⟨hx, hb, hml, hown, hts⟩ (c_P_pass l D ct A M2 (b + 29 + 2 * i) (u i) k a c0 (hC.2.2.2.2.2.2.1 i (by omega))) ⟨callB_of 3 hts (fs_gin co_P_pass) rfl rfl rfl (hT _ ini_P) (hT _ ml_S_63) (by decide +kernel) ⟨Nat.le_of_ble_eq_true rfl, Nat.le_of_ble_eq_true rfl⟩, hT _ im_P_pass, hT _ se_P_pass⟩ (fn_preV fs_isnw hK hN hW (hC.2.2.2.2.2.2.1 i (by omega)) rfl) rfl rfl hl.1 rfl (lv_room (Nat.le_of_ble_eq_true rfl)) dS_gate_87 ⟨Nat.le_of_ble_eq_true rfl, Nat.le_of_ble_eq_true rfl⟩) hW (fun M_17 H locs hp_18 hW => ?_)
                have hC : fs_CW ct M_17 b cn kp2 pn2 pr lc lr (va_up u i (fs_ps (u i) k a c0)) od cl ck cc cr := by rw [hp_18]; exact fs_CW_Q hC (by omega) _
                have hCf : fs_Cf b M M_17 := by rw [hp_18]; exact fs_Cf_u hCf (by omega) _
                refine lv_iinc (v := nI (i + 1)) (lv' := [(4, .int (nI (i + 1))), (0, .ref b), (1, .int k), (2, .int a), (3, .int c0)]) hx hb dS_gate_90 hl (k := 0) rfl (by show nI i + 1 = nI (i + 1); exact nI_1 i) (by decide) rfl (fun ls hl => ?_)
                refine lv_goto (tgt := 65) hx hb dS_gate_93 (by decide) ?_
                exact back _ _ _ _ ls ⟨hC, hCf, fs_Up_s hU (by rw [hU.2 i (Nat.le_refl i)])⟩ hW (lv_sub hl [0, 1, 2, 3, 4] rfl)
            · intro u M2 H locs ls hI hW hl
              obtain ⟨hC, hCf, hU⟩ := hI
              have hl : lv_has ls 5 [(4, .int (nI (cn 3))), (0, .ref b), (1, .int k), (2, .int a), (3, .int c0)] := hl
              refine lv_iload hx hb dS_gate_65 (lv_at hl 0 rfl) ?_
              refine lv_aload_n hx hb dS_gate_67 rfl (lv_at hl 1 rfl) ?_
              refine fm_get (ci := 3) (v := .int (nI (cn 3))) (C := RS) (T := TS) (N := 11) hx hb hT inS hown hK hW hC.1 rfl 9 (by decide) (hT _ fl_S_56) (fun _ h9 => h9) rfl dS_gate_68 ?_
              refine lv_icmp_ge (tgt := 96) hx hb dS_gate_71 (by decide) (fun c_19 => ?_) (fun c_19 => ?_)
              · refine lv_aload_n hx hb dS_gate_96 rfl (lv_at hl 1 rfl) ?_
                refine lv_dup hx hb dS_gate_97 rfl ?_
                refine fm_get (ci := 3) (v := .int (nI (cn 1))) (C := RS) (T := TS) (N := 11) hx hb hT inS hown hK hW hC.1 rfl 7 (by decide) (hT _ fl_S_45) (fun _ h9 => h9) rfl dS_gate_98 ?_
                refine lv_iconst (v := 1) hx hb dS_gate_101 (by decide) ?_
                refine lv_iadd hx hb dS_gate_102 ?_
                refine fm_put (ci := 3) (v := .int ((nI (cn 1)) + 1)) (ty := .int) (C := RS) (T := TS) (N := 11) hx hb hT inS tyS tkS nmS hown hK hW hC.1 rfl 7 (by decide) (hT _ fl_S_45) (fun _ h9 => h9) rfl (by decide +kernel) rfl rfl (Nat.le_of_ble_eq_true rfl) dS_gate_103 (fun H locs hW => ?_)
                obtain ⟨M_20, eM_20⟩ : ∃ z : fm_M, z = va_up M2 b (some (.inr (3, [.ref (b + 1), .ref (b + 25), .ref (b + 26), .ref (b + 27), .ref (b + 108), .ref (b + 109), .int (nI (cn 0)), .int ((nI (cn 1)) + 1), .int (nI (cn 2)), .int (nI (cn 3)), .int (nI (cn 4))]))) := ⟨_, rfl⟩
                have hW : fm_W D fs_cl5 A M_20 s.heap H locs := by rw [eM_20]; exact hW
                have f_21 : M_20 b = some (.inr (3, [.ref (b + 1), .ref (b + 25), .ref (b + 26), .ref (b + 27), .ref (b + 108), .ref (b + 109), .int (nI (cn 0)), .int ((nI (cn 1)) + 1), .int (nI (cn 2)), .int (nI (cn 3)), .int (nI (cn 4))])) := by rw [eM_20]; exact fm_us
                have zM_20 : M_20 = va_up M2 b (some (fs_SE b (va_up cn 1 (cn 1 + 1)))) := by
                  rw [eM_20]
                  rw [nI_1]; rfl
                have hC : fs_CW ct M_20 b (va_up cn 1 (cn 1 + 1)) kp2 pn2 pr lc lr u od cl ck cc cr := by rw [zM_20]; exact fs_CW_S hC rfl
                have hCf : fs_Cf b M M_20 := by rw [zM_20]; exact fs_Cf_u hCf (by omega) _
                refine lv_iconst (v := 1) hx hb dS_gate_106 (by decide) ?_
                exact fm_zret hx hb hr rfl hlocks hW (Or.inr ⟨rfl, hgk, kp2, pn2, u, hC, hCf, t3, t4, fun i hi => hU.1 i hi⟩) dS_gate_107
              · exact absurd (nI_le (Nat.le_refl (cn 3)) (by omega)) c_19
          · have h5 := (fs_if1 er_8).2 c_11
            refine lv_aload_n hx hb dS_gate_37 rfl (lv_at hl 0 rfl) ?_
            refine lv_iload_n hx hb dS_gate_38 rfl (lv_at hl 3 rfl) ?_
            refine fm_calli (va_runV (As := [.int c0]) (rest := []) ⟨hx, hb, hml, hown, hts⟩ (c_S_isWire l D ct A M b cn c0 hC.1) ⟨callB_of 1 hts (fs_gin co_S_isWire) rfl rfl rfl (hT _ ini_S) (hT _ ml_S_41) (by decide +kernel) ⟨Nat.le_of_ble_eq_true rfl, Nat.le_of_ble_eq_true rfl⟩, hT _ im_S_isWire, hT _ se_S_isWire⟩ (fn_preV fs_isnw hK hN hW hC.1 rfl) rfl rfl hl.1 rfl (lv_room (Nat.le_of_ble_eq_true rfl)) dS_gate_39 ⟨Nat.le_of_ble_eq_true rfl, Nat.le_of_ble_eq_true rfl⟩) hW (fun r_22 M_23 H locs hp_24 hW => ?_)
            have hW : fm_W D fs_cl5 A M s.heap H locs := by rw [← hp_24.2]; exact hW
            have er_22 := hp_24.1
            refine lv_if_eq (tgt := 50) hx hb dS_gate_42 (by decide) (fun c_25 => ?_) (fun c_25 => ?_)
            · refine lv_iconst (v := 0) hx hb dS_gate_50 (by decide) ?_
              exact fm_zret hx hb hr rfl hlocks hW (Or.inl ⟨rfl, rfl, fun z => (z.2.2.2.2 h5).1 ((fs_if0 er_22).1 c_25)⟩) dS_gate_51
            · have h6 := (fs_if0 er_22).2 c_25
              refine lv_iload_n hx hb dS_gate_45 rfl (lv_at hl 2 rfl) ?_
              refine lv_iload_n hx hb dS_gate_46 rfl (lv_at hl 3 rfl) ?_
              refine lv_icmp_ne (tgt := 52) hx hb dS_gate_47 (by decide) (fun c_26 => ?_) (fun c_26 => ?_)
              · have hgk : fs_gk cn k a c0 := ⟨c_1, c_2, h3, c_7, fun _ => ⟨h6, c_26⟩⟩
                refine lv_aload_n hx hb dS_gate_52 rfl (lv_at hl 0 rfl) ?_
                refine fm_get (ci := 3) (v := .ref (b + 1)) (C := RS) (T := TS) (N := 11) hx hb hT inS hown hK hW hC.1 rfl 0 (by decide) (hT _ fl_S_10) (fun _ h9 => h9) rfl dS_gate_53 ?_
                refine lv_iload_n hx hb dS_gate_56 rfl (lv_at hl 1 rfl) ?_
                refine lv_iload_n hx hb dS_gate_57 rfl (lv_at hl 2 rfl) ?_
                refine lv_iload_n hx hb dS_gate_58 rfl (lv_at hl 3 rfl) ?_
                refine fm_callv (va_runV (As := [.int k, .int a, .int c0]) (rest := []) ⟨hx, hb, hml, hown, hts⟩ (c_T_pass l D ct A M b (cn 0) kp pn pr k a c0 hC.2.1 hB1) ⟨callB_of 3 hts (fs_gin co_T_pass) rfl rfl rfl (hT _ ini_T) (hT _ ml_S_52) (by decide +kernel) ⟨Nat.le_of_ble_eq_true rfl, Nat.le_of_ble_eq_true rfl⟩, hT _ im_T_pass, hT _ se_T_pass⟩ (fn_preV fs_isnw hK hN hW hC.2.1.1 rfl) rfl rfl hl.1 rfl (lv_room (Nat.le_of_ble_eq_true rfl)) dS_gate_59 ⟨Nat.le_of_ble_eq_true rfl, Nat.le_of_ble_eq_true rfl⟩) hW (fun M_28 H locs hp_29 hW => ?_)
                obtain ⟨kp2, pn2, t1, t2, t3, t4⟩ := hp_29
                have hC := fs_CW_T hC t1 t2
                have hCf := fs_Cf_t hCf t2
                refine lv_iconst (v := 0) hx hb dS_gate_62 (by decide) ?_
                refine lv_istore (lv' := [(4, .int 0), (0, .ref b), (1, .int k), (2, .int a), (3, .int c0)]) hx hb dS_gate_63 hl (by decide) rfl (fun ls hl => ?_)
                refine fm_loop (head := 65) (maxL := 5) (cn 3) (fun i (u : Nat → fs_Q) M1 => fs_CW ct M1 b cn kp2 pn2 pr lc lr u od cl ck cc cr ∧ fs_Cf b M M1 ∧ fs_Up i fr (fun j => fs_ps (fr j) k a c0) u) (fun i (u : Nat → fs_Q) => [(4, .int (nI i)), (0, .ref b), (1, .int k), (2, .int a), (3, .int c0)]) ?_ ?_ (cn 3) 0 (by omega) fr M_28 _ _ ls ⟨hC, hCf, fs_Up_0 _ _⟩ hW (lv_sub hl [0, 1, 2, 3, 4] rfl)
                · intro i u M2 H locs ls hi hI hW hl back
                  obtain ⟨hC, hCf, hU⟩ := hI
                  have hl : lv_has ls 5 [(4, .int (nI i)), (0, .ref b), (1, .int k), (2, .int a), (3, .int c0)] := hl
                  refine lv_iload hx hb dS_gate_65 (lv_at hl 0 rfl) ?_
                  refine lv_aload_n hx hb dS_gate_67 rfl (lv_at hl 1 rfl) ?_
                  refine fm_get (ci := 3) (v := .int (nI (cn 3))) (C := RS) (T := TS) (N := 11) hx hb hT inS hown hK hW hC.1 rfl 9 (by decide) (hT _ fl_S_56) (fun _ h9 => h9) rfl dS_gate_68 ?_
                  refine lv_icmp_ge (tgt := 96) hx hb dS_gate_71 (by decide) (fun c_30 => ?_) (fun c_30 => ?_)
                  · exact absurd c_30 (nI_ge hi (by omega))
                  · refine lv_aload_n hx hb dS_gate_74 rfl (lv_at hl 1 rfl) ?_
                    refine fm_get (ci := 3) (v := .ref (b + 27)) (C := RS) (T := TS) (N := 11) hx hb hT inS hown hK hW hC.1 rfl 3 (by decide) (hT _ fl_S_26) (fun _ h9 => h9) rfl dS_gate_75 ?_
                    refine lv_iload hx hb dS_gate_78 (lv_at hl 0 rfl) ?_
                    refine fm_aald hx hb hK hW 4 hC.2.2.2.2.1 rfl (vp_in_nI (N := 40) (by omega) (by decide)) (fs_rf_at (by omega)) dS_gate_80 ?_
                    refine fm_getN (ci := 2) (v := .ref (b + 29 + 2 * i)) (C := RF) (T := TF) (N := 4) hx hb hT inF hown hK hW (hC.2.2.2.2.2.1 i (by omega)) rfl 0 (by decide) (hN _ (List.mem_of_getElem? (i := 10) rfl)) (fun _ h9 => h9) rfl dS_gate_81 ?_
                    refine lv_iload_n hx hb dS_gate_84 rfl (lv_at hl 2 rfl) ?_
                    refine lv_iload_n hx hb dS_gate_85 rfl (lv_at hl 3 rfl) ?_
                    refine lv_iload_n hx hb dS_gate_86 rfl (lv_at hl 4 rfl) ?_
                    refine fm_callv (va_runV (As := [.int k, .int a, .int c0]) (rest := []) ⟨hx, hb, hml, hown, hts⟩ (c_P_pass l D ct A M2 (b + 29 + 2 * i) (u i) k a c0 (hC.2.2.2.2.2.2.1 i (by omega))) ⟨callB_of 3 hts (fs_gin co_P_pass) rfl rfl rfl (hT _ ini_P) (hT _ ml_S_63) (by decide +kernel) ⟨Nat.le_of_ble_eq_true rfl, Nat.le_of_ble_eq_true rfl⟩, hT _ im_P_pass, hT _ se_P_pass⟩ (fn_preV fs_isnw hK hN hW (hC.2.2.2.2.2.2.1 i (by omega)) rfl) rfl rfl hl.1 rfl (lv_room (Nat.le_of_ble_eq_true rfl)) dS_gate_87 ⟨Nat.le_of_ble_eq_true rfl, Nat.le_of_ble_eq_true rfl⟩) hW (fun M_32 H locs hp_33 hW => ?_)
                    have hC : fs_CW ct M_32 b cn kp2 pn2 pr lc lr (va_up u i (fs_ps (u i) k a c0)) od cl ck cc cr := by rw [hp_33]; exact fs_CW_Q hC (by omega) _
                    have hCf : fs_Cf b M M_32 := by rw [hp_33]; exact fs_Cf_u hCf (by omega) _
                    refine lv_iinc (v := nI (i + 1)) (lv' := [(4, .int (nI (i + 1))), (0, .ref b), (1, .int k), (2, .int a), (3, .int c0)]) hx hb dS_gate_90 hl (k := 0) rfl (by show nI i + 1 = nI (i + 1); exact nI_1 i) (by decide) rfl (fun ls hl => ?_)
                    refine lv_goto (tgt := 65) hx hb dS_gate_93 (by decide) ?_
                    exact back _ _ _ _ ls ⟨hC, hCf, fs_Up_s hU (by rw [hU.2 i (Nat.le_refl i)])⟩ hW (lv_sub hl [0, 1, 2, 3, 4] rfl)
                · intro u M2 H locs ls hI hW hl
                  obtain ⟨hC, hCf, hU⟩ := hI
                  have hl : lv_has ls 5 [(4, .int (nI (cn 3))), (0, .ref b), (1, .int k), (2, .int a), (3, .int c0)] := hl
                  refine lv_iload hx hb dS_gate_65 (lv_at hl 0 rfl) ?_
                  refine lv_aload_n hx hb dS_gate_67 rfl (lv_at hl 1 rfl) ?_
                  refine fm_get (ci := 3) (v := .int (nI (cn 3))) (C := RS) (T := TS) (N := 11) hx hb hT inS hown hK hW hC.1 rfl 9 (by decide) (hT _ fl_S_56) (fun _ h9 => h9) rfl dS_gate_68 ?_
                  refine lv_icmp_ge (tgt := 96) hx hb dS_gate_71 (by decide) (fun c_34 => ?_) (fun c_34 => ?_)
                  · refine lv_aload_n hx hb dS_gate_96 rfl (lv_at hl 1 rfl) ?_
                    refine lv_dup hx hb dS_gate_97 rfl ?_
                    refine fm_get (ci := 3) (v := .int (nI (cn 1))) (C := RS) (T := TS) (N := 11) hx hb hT inS hown hK hW hC.1 rfl 7 (by decide) (hT _ fl_S_45) (fun _ h9 => h9) rfl dS_gate_98 ?_
                    refine lv_iconst (v := 1) hx hb dS_gate_101 (by decide) ?_
                    refine lv_iadd hx hb dS_gate_102 ?_
                    refine fm_put (ci := 3) (v := .int ((nI (cn 1)) + 1)) (ty := .int) (C := RS) (T := TS) (N := 11) hx hb hT inS tyS tkS nmS hown hK hW hC.1 rfl 7 (by decide) (hT _ fl_S_45) (fun _ h9 => h9) rfl (by decide +kernel) rfl rfl (Nat.le_of_ble_eq_true rfl) dS_gate_103 (fun H locs hW => ?_)
                    obtain ⟨M_35, eM_35⟩ : ∃ z : fm_M, z = va_up M2 b (some (.inr (3, [.ref (b + 1), .ref (b + 25), .ref (b + 26), .ref (b + 27), .ref (b + 108), .ref (b + 109), .int (nI (cn 0)), .int ((nI (cn 1)) + 1), .int (nI (cn 2)), .int (nI (cn 3)), .int (nI (cn 4))]))) := ⟨_, rfl⟩
                    have hW : fm_W D fs_cl5 A M_35 s.heap H locs := by rw [eM_35]; exact hW
                    have f_36 : M_35 b = some (.inr (3, [.ref (b + 1), .ref (b + 25), .ref (b + 26), .ref (b + 27), .ref (b + 108), .ref (b + 109), .int (nI (cn 0)), .int ((nI (cn 1)) + 1), .int (nI (cn 2)), .int (nI (cn 3)), .int (nI (cn 4))])) := by rw [eM_35]; exact fm_us
                    have zM_35 : M_35 = va_up M2 b (some (fs_SE b (va_up cn 1 (cn 1 + 1)))) := by
                      rw [eM_35]
                      rw [nI_1]; rfl
                    have hC : fs_CW ct M_35 b (va_up cn 1 (cn 1 + 1)) kp2 pn2 pr lc lr u od cl ck cc cr := by rw [zM_35]; exact fs_CW_S hC rfl
                    have hCf : fs_Cf b M M_35 := by rw [zM_35]; exact fs_Cf_u hCf (by omega) _
                    refine lv_iconst (v := 1) hx hb dS_gate_106 (by decide) ?_
                    exact fm_zret hx hb hr rfl hlocks hW (Or.inr ⟨rfl, hgk, kp2, pn2, u, hC, hCf, t3, t4, fun i hi => hU.1 i hi⟩) dS_gate_107
                  · exact absurd (nI_le (Nat.le_refl (cn 3)) (by omega)) c_34
              · refine lv_iconst (v := 0) hx hb dS_gate_50 (by decide) ?_
                exact fm_zret hx hb hr rfl hlocks hW (Or.inl ⟨rfl, rfl, fun z => (z.2.2.2.2 h5).2 c_26⟩) dS_gate_51
        · refine lv_iconst (v := 0) hx hb dS_gate_28 (by decide) ?_
          exact fm_zret hx hb hr rfl hlocks hW (Or.inl ⟨rfl, rfl, fun z => c_7 z.2.2.2.1⟩) dS_gate_29
end
section
-- FrameSamples.look, fault
theorem fs_wire {a : Int32} {n : Nat} (hn : n ≤ 10) (h : ¬ (a < 0 ∨ nI n ≤ a)) : ∃ α : Nat, α < n ∧ a = nI α := by
  rcases pk_ix a (n := n) (by omega) with q | q | ⟨j, h1, h2⟩
  · exact absurd (Or.inl q) h
  · exact absurd (Or.inr q) h
  · exact ⟨j, h1, h2⟩
theorem fs_cge {a N : Nat} (hN : N < 2 ^ 31) (h : ¬ nI N ≤ nI a) (ha : a < 2 ^ 31) : a < N := by
  rcases Nat.lt_or_ge a N with q | q
  · exact q
  · exact absurd (nI_le q ha) h
theorem fu_same {α : Type} (f : Nat → α) (k : Nat) : va_up f k (f k) = f := by
  funext j
  by_cases h : j = k
  · subst h; exact fu_s
  · exact fu_n h
theorem fs_CW_ML {ct : Nat → ClassId} {M : fm_M} {b : Nat} {cn : Nat → Nat} {kp pn : Nat → fs_Q} {pr : fs_Q} {lc : Nat → Int32} {lr : Nat → Int64} {fr : Nat → fs_Q} {od : Nat → Int32} {cl : Nat → Int64} {ck : Nat → Int32} {cc : Nat → Int32} {cr : Nat → Int64} (C : fs_CW ct M b cn kp pn pr lc lr fr od cl ck cc cr) {i : Nat} (hi : i < 40) (l2 : Int64) (q2 : fs_Q) :
    fs_CW ct (va_up (va_up M (b + 28 + 2 * i) (some (fs_FE (b + 29 + 2 * i) (od i) l2 (ck i)))) (b + 29 + 2 * i) (some (fs_PE q2))) b cn kp pn pr lc lr (va_up fr i q2) od (va_up cl i l2) ck cc cr := by
  have h := fs_CW_Q (fs_CW_F C hi (od i) l2 (ck i)) hi q2
  rw [fu_same, fu_same] at h
  exact h
theorem fs_CW_MC {ct : Nat → ClassId} {M : fm_M} {b : Nat} {cn : Nat → Nat} {kp pn : Nat → fs_Q} {pr : fs_Q} {lc : Nat → Int32} {lr : Nat → Int64} {fr : Nat → fs_Q} {od : Nat → Int32} {cl : Nat → Int64} {ck : Nat → Int32} {cc : Nat → Int32} {cr : Nat → Int64} (C : fs_CW ct M b cn kp pn pr lc lr fr od cl ck cc cr) {i : Nat} (hi : i < 40) (k2 : Int32) :
    fs_CW ct (va_up M (b + 28 + 2 * i) (some (fs_FE (b + 29 + 2 * i) (od i) (cl i) k2))) b cn kp pn pr lc lr fr od cl (va_up ck i k2) cc cr := by
  have h := fs_CW_F C hi (od i) (cl i) k2
  rw [fu_same, fu_same] at h
  exact h
theorem fs_CW_FS {ct : Nat → ClassId} {M : fm_M} {b : Nat} {cn : Nat → Nat} {kp pn : Nat → fs_Q} {pr : fs_Q} {lc : Nat → Int32} {lr : Nat → Int64} {fr : Nat → fs_Q} {od : Nat → Int32} {cl : Nat → Int64} {ck : Nat → Int32} {cc : Nat → Int32} {cr : Nat → Int64} (C : fs_CW ct M b cn kp pn pr lc lr fr od cl ck cc cr) {i : Nat} (hi : i < 40) (o2 : Int32) (l2 : Int64) (k2 : Int32) (q2 : fs_Q) :
    fs_CW ct (va_up (va_up M (b + 29 + 2 * i) (some (fs_PE q2))) (b + 28 + 2 * i) (some (fs_FE (b + 29 + 2 * i) o2 l2 k2))) b cn kp pn pr lc lr (va_up fr i q2) (va_up od i o2) (va_up cl i l2) (va_up ck i k2) cc cr :=
  fs_CW_F (fs_CW_Q C hi q2) hi o2 l2 k2
def fs_lk (cn : Nat → Nat) (a : Int32) : Prop := ¬ (a < 0 ∨ nI (cn 0) ≤ a) ∧ ¬ 60 ≤ nI (cn 2) ∧ nI (cn 1) < 300
set_option maxHeartbeats 4000000 in
set_option maxRecDepth 100000 in
theorem c_S_look (l : Launch) (D : va_G) (ct : Nat → ClassId) (A : Nat → Prop) (M : fm_M) (b : Nat) (cn : Nat → Nat) (kp pn : Nat → fs_Q) (pr : fs_Q) (lc : Nat → Int32) (lr : Nat → Int64) (fr : Nat → fs_Q) (od : Nat → Int32) (cl : Nat → Int64) (ck : Nat → Int32) (cc : Nat → Int32) (cr : Nat → Int64) (a rs : Int32) (hC : fs_CW ct M b cn kp pn pr lc lr fr od cl ck cc cr) (hB : fs_Bd cn) : Met l yS_look wS_look ({ frames := 4, cells := 0, slots := 0, locals := 95 }) (va_Pc [.ref b, .int a, .int rs] (fm_St D fs_cl5 (fs_tys ct) fs_nw A M)) (va_Qi (fun (r : Int32) (M1 : fm_M) => (r = -1 ∧ M1 = M ∧ ¬ fs_lk cn a) ∨ (r = nI (cn 2) ∧ fs_lk cn a ∧ ∃ α : Nat, a = nI α ∧ α < cn 0 ∧ ∃ (kp1 kp2 pn2 fr2 : Nat → fs_Q) (pr2 : fs_Q) (cl2 : Nat → Int64) (cv : Int32) (hv : Int64), fs_CW ct M1 b (va_up (va_up cn 2 (cn 2 + 1)) 1 (cn 1 + 1)) kp2 pn2 pr2 (upd lc (cn 2) cv) (vp_updL lr (cn 2) hv) fr2 od cl2 ck cc cr ∧ fs_Cf b M M1 ∧ fs_cL (cn 0) α (1 <<< ((nI (cn 2)).toInt64 &&& 63)) kp pn kp1 pn2 cv hv ∧ (∀ i, i < cn 0 → kp2 i = if rs ≠ 0 ∧ bt (kp1 i).2.1 α = true then fs_fl (kp1 i) cv hv else kp1 i) ∧ (∀ i, i < cn 3 → fr2 i = fs_mk (fr i) (nI α) (decide (rs ≠ 0))) ∧ ∀ i, i < cn 3 → cl2 i = cl i ||| ((fs_xOn (fr i) (nI α)).toInt64 <<< ((nI (cn 2)).toInt64 &&& 63)))) (fm_B D fs_cl5 A) A) 0 0 A := by
  refine Met.ofW (cc := cS_look) (maxL := 6) (ret := (some .int)) (by decide) rfl ?_
  intro p e s m args below meth c s₁ B hml hv
  obtain ⟨rfl, hP0, hA0, hA1, hK, hN⟩ := hv
  have hx := B.exec
  have hb := B.bytes
  have hr := B.returns
  have hts := atoms_spec (ws := wS_look) B.pre
  have hT : ∀ w ∈ fs_tb, w.before _ s = true := fun w h => hts w (List.mem_cons_of_mem _ h)
  have hown : s.vm.findClass "FrameSamples" = some m.cls := findClass_of_methodNamed B.named
  have hlocks := B.notSynchronized
  have hW : fm_W D fs_cl5 A M s.heap s.heap [] := ⟨hP0, hA0, va_S.rf, hA1⟩
  have hl := lv_entry ([.ref b, .int a, .int rs]) (n := 6) (Nat.le_of_ble_eq_true rfl)
  rw [lg_entry_eq]
  generalize (lg_sl ([.ref b, .int a, .int rs]) ++ List.replicate (6 - (lg_sl ([.ref b, .int a, .int rs])).length) Slot.unset).toArray = ls at hl ⊢
  have hl : lv_has ls 6 [(0, .ref b), (1, .int a), (2, .int rs)] := hl
  obtain ⟨hB0, hB1, hB2, hB3, hB4, hB5⟩ := hB
  have hCf : fs_Cf b M M := fs_Cf_r
  refine lv_aload_n hx hb dS_look_0 rfl (lv_at hl 0 rfl) ?_
  refine lv_iload_n hx hb dS_look_1 rfl (lv_at hl 1 rfl) ?_
  refine fm_calli (va_runV (As := [.int a]) (rest := []) ⟨hx, hb, hml, hown, hts⟩ (c_S_isWire l D ct A M b cn a hC.1) ⟨callB_of 1 hts (fs_gin co_S_isWire) rfl rfl rfl (hT _ ini_S) (hT _ ml_S_41) (by decide +kernel) ⟨Nat.le_of_ble_eq_true rfl, Nat.le_of_ble_eq_true rfl⟩, hT _ im_S_isWire, hT _ se_S_isWire⟩ (fn_preV fs_isnw hK hN hW hC.1 rfl) rfl rfl hl.1 rfl (lv_room (Nat.le_of_ble_eq_true rfl)) dS_look_2 ⟨Nat.le_of_ble_eq_true rfl, Nat.le_of_ble_eq_true rfl⟩) hW (fun r_1 M_2 H locs hp_3 hW => ?_)
  have hW : fm_W D fs_cl5 A M s.heap H locs := by rw [← hp_3.2]; exact hW
  have er_1 := hp_3.1
  refine lv_if_eq (tgt := 27) hx hb dS_look_5 (by decide) (fun c_4 => ?_) (fun c_4 => ?_)
  · refine lv_iconst (v := -1) hx hb dS_look_27 (by decide) ?_
    exact fm_iret hx hb hr hlocks hW (Or.inl ⟨rfl, rfl, fun z => z.1 ((fs_if0 er_1).1 c_4)⟩) dS_look_28
  · have h1 := (fs_if0 er_1).2 c_4
    refine lv_aload_n hx hb dS_look_8 rfl (lv_at hl 0 rfl) ?_
    refine fm_get (ci := 3) (v := .int (nI (cn 2))) (C := RS) (T := TS) (N := 11) hx hb hT inS hown hK hW hC.1 rfl 8 (by decide) (hT _ fl_S_66) (fun _ h9 => h9) rfl dS_look_9 ?_
    refine lv_bipush (v := 60) hx hb dS_look_12 (by decide) ?_
    refine lv_icmp_ge (tgt := 27) hx hb dS_look_14 (by decide) (fun c_5 => ?_) (fun c_5 => ?_)
    · refine lv_iconst (v := -1) hx hb dS_look_27 (by decide) ?_
      exact fm_iret hx hb hr hlocks hW (Or.inl ⟨rfl, rfl, fun z => z.2.1 c_5⟩) dS_look_28
    · refine lv_aload_n hx hb dS_look_17 rfl (lv_at hl 0 rfl) ?_
      refine fm_get (ci := 3) (v := .int (nI (cn 1))) (C := RS) (T := TS) (N := 11) hx hb hT inS hown hK hW hC.1 rfl 7 (by decide) (hT _ fl_S_45) (fun _ h9 => h9) rfl dS_look_18 ?_
      refine lv_sipush (v := 300) hx hb dS_look_21 (by decide) ?_
      refine lv_icmp_lt (tgt := 29) hx hb dS_look_24 (by decide) (fun c_6 => ?_) (fun c_6 => ?_)
      · have hlk : fs_lk cn a := ⟨h1, c_5, c_6⟩
        have hn2 : cn 2 < 60 := fs_cge (N := 60) (by decide) c_5 (by omega)
        obtain ⟨α, hα, rfl⟩ := fs_wire hB1 h1
        refine lv_aload_n hx hb dS_look_29 rfl (lv_at hl 0 rfl) ?_
        refine fm_get (ci := 3) (v := .int (nI (cn 2))) (C := RS) (T := TS) (N := 11) hx hb hT inS hown hK hW hC.1 rfl 8 (by decide) (hT _ fl_S_66) (fun _ h9 => h9) rfl dS_look_30 ?_
        refine lv_istore_n (lv' := [(3, .int (nI (cn 2))), (0, .ref b), (1, .int (nI α)), (2, .int rs)]) hx hb dS_look_33 rfl hl (by decide) rfl (fun ls hl => ?_)
        refine lv_aload_n hx hb dS_look_34 rfl (lv_at hl 1 rfl) ?_
        refine fm_get (ci := 3) (v := .ref (b + 1)) (C := RS) (T := TS) (N := 11) hx hb hT inS hown hK hW hC.1 rfl 0 (by decide) (hT _ fl_S_10) (fun _ h9 => h9) rfl dS_look_35 ?_
        refine lv_iload_n hx hb dS_look_38 rfl (lv_at hl 2 rfl) ?_
        refine lv_iload_n hx hb dS_look_39 rfl (lv_at hl 0 rfl) ?_
        refine fm_callr (va_runV (As := [.int (nI α), .int (nI (cn 2))]) (rest := []) ⟨hx, hb, hml, hown, hts⟩ (c_T_measure l D ct A M b (cn 0) kp pn pr α (nI (cn 2)) hC.2.1 hB1 hα) ⟨callB_of 2 hts (fs_gin co_T_measure) rfl rfl rfl (hT _ ini_T) (hT _ ml_S_69) (by decide +kernel) ⟨Nat.le_of_ble_eq_true rfl, Nat.le_of_ble_eq_true rfl⟩, hT _ im_T_measure, hT _ se_T_measure⟩ (fn_preV fs_isnw hK hN hW hC.2.1.1 rfl) rfl rfl hl.1 rfl (lv_room (Nat.le_of_ble_eq_true rfl)) dS_look_40 ⟨Nat.le_of_ble_eq_true rfl, Nat.le_of_ble_eq_true rfl⟩) hW (fun r_7 M_8 H locs hp_9 hW => ?_)
        obtain ⟨kp2, pn2, pr2, qv, t1, t2, hra, hqv, hcl⟩ := hp_9
        have hC := fs_CW_T hC t1 t2
        have hCf := fs_Cf_t hCf t2
        refine lv_astore (lv' := [(4, .ref r_7), (3, .int (nI (cn 2))), (0, .ref b), (1, .int (nI α)), (2, .int rs)]) hx hb dS_look_43 hl (by decide) rfl (fun ls hl => ?_)
        refine lv_aload_n hx hb dS_look_45 rfl (lv_at hl 2 rfl) ?_
        refine fm_get (ci := 3) (v := .ref (b + 25)) (C := RS) (T := TS) (N := 11) hx hb hT inS hown hK hW hC.1 rfl 1 (by decide) (hT _ fl_S_16) (fun _ h9 => h9) rfl dS_look_46 ?_
        refine lv_iload_n hx hb dS_look_49 rfl (lv_at hl 1 rfl) ?_
        refine lv_aload hx hb dS_look_50 (lv_at hl 0 rfl) ?_
        refine fm_getN (ci := 0) (v := .int qv.2.2.1) (C := RP) (T := TP) (N := 4) hx hb hT inP hown hK hW hqv rfl 2 (by decide) (hN _ (List.mem_of_getElem? (i := 4) rfl)) (fun _ h9 => h9) rfl dS_look_52 ?_
        refine lv_topi (fun x_10 ex_10 => ?_)
        refine fn_iast hx hb hK hW 0 hC.2.2.1 rfl (show (cn 2) < _ by omega) (by decide) dS_look_55 (fun H locs hW => ?_)
        obtain ⟨M_11, eM_11⟩ : ∃ z : fm_M, z = va_up M_8 (b + 25) (some (.inl (ct 0, 60, .inl (upd lc (cn 2) x_10)))) := ⟨_, rfl⟩
        have hW : fm_W D fs_cl5 A M_11 s.heap H locs := by rw [eM_11]; exact hW
        have hC : fs_CW ct M_11 b cn kp2 pn2 pr2 (upd lc (cn 2) x_10) lr fr od cl ck cc cr := by rw [eM_11]; exact fs_CW_lc hC _
        have hCf : fs_Cf b M M_11 := by rw [eM_11]; exact fs_Cf_u hCf (by omega) _
        have f_12 := ((congrFun eM_11 r_7).trans (fm_un (by omega))).trans hqv
        refine lv_aload_n hx hb dS_look_56 rfl (lv_at hl 2 rfl) ?_
        refine fm_get (ci := 3) (v := .ref (b + 26)) (C := RS) (T := TS) (N := 11) hx hb hT inS hown hK hW hC.1 rfl 2 (by decide) (hT _ fl_S_20) (fun _ h9 => h9) rfl dS_look_57 ?_
        refine lv_iload_n hx hb dS_look_60 rfl (lv_at hl 1 rfl) ?_
        refine lv_aload hx hb dS_look_61 (lv_at hl 0 rfl) ?_
        refine fm_getN (ci := 0) (v := .long qv.2.2.2) (C := RP) (T := TP) (N := 4) hx hb hT inP hown hK hW f_12 rfl 3 (by decide) (hN _ (List.mem_of_getElem? (i := 6) rfl)) (fun _ h9 => h9) rfl dS_look_63 ?_
        refine lv_topl (fun x_13 ex_13 => ?_)
        refine fn_last hx hb hK hW 1 hC.2.2.2.1 rfl (show (cn 2) < _ by omega) (by decide) dS_look_66 (fun H locs hW => ?_)
        obtain ⟨M_14, eM_14⟩ : ∃ z : fm_M, z = va_up M_11 (b + 26) (some (.inl (ct 1, 60, .inr (.inl (vp_updL lr (cn 2) x_13))))) := ⟨_, rfl⟩
        have hW : fm_W D fs_cl5 A M_14 s.heap H locs := by rw [eM_14]; exact hW
        have hC : fs_CW ct M_14 b cn kp2 pn2 pr2 (upd lc (cn 2) x_10) (vp_updL lr (cn 2) x_13) fr od cl ck cc cr := by rw [eM_14]; exact fs_CW_lr hC _
        have hCf : fs_Cf b M M_14 := by rw [eM_14]; exact fs_Cf_u hCf (by omega) _
        have f_15 := ((congrFun eM_14 r_7).trans (fm_un (by omega))).trans f_12
        refine lv_iload_n hx hb dS_look_67 rfl (lv_at hl 4 rfl) ?_
        refine lv_if_eq (tgt := 91) hx hb dS_look_68 (by decide) (fun c_16 => ?_) (fun c_16 => ?_)
        · refine lv_iconst (v := 0) hx hb dS_look_91 (by decide) ?_
          refine lv_istore (lv' := [(5, .int 0), (4, .ref r_7), (3, .int (nI (cn 2))), (0, .ref b), (1, .int (nI α)), (2, .int rs)]) hx hb dS_look_92 hl (by decide) rfl (fun ls hl => ?_)
          refine fm_loop (head := 94) (maxL := 6) (cn 3) (fun i (u : (Nat → fs_Q) × (Nat → Int64)) M1 => fs_CW ct M1 b cn kp2 pn2 pr2 (upd lc (cn 2) x_10) (vp_updL lr (cn 2) x_13) u.1 od u.2 ck cc cr ∧ fs_Cf b M M1 ∧ fs_Up i fr (fun j => fs_mk (fr j) (nI α) (decide (rs ≠ 0))) u.1 ∧ fs_Up i cl (fun j => cl j ||| ((fs_xOn (fr j) (nI α)).toInt64 <<< ((nI (cn 2)).toInt64 &&& 63))) u.2) (fun i (u : (Nat → fs_Q) × (Nat → Int64)) => [(5, .int (nI i)), (0, .ref b), (1, .int (nI α)), (2, .int rs), (3, .int (nI (cn 2)))]) ?_ ?_ (cn 3) 0 (by omega) (fr, cl) M_14 _ _ ls ⟨hC, hCf, fs_Up_0 _ _, fs_Up_0 _ _⟩ hW (lv_sub hl [0, 3, 4, 5, 2] rfl)
          · intro i u M2 H locs ls hi hI hW hl back
            obtain ⟨fr1, cl1⟩ := u
            obtain ⟨hC, hCf, hU, hV⟩ := hI
            have hC : fs_CW ct M2 b cn kp2 pn2 pr2 (upd lc (cn 2) x_10) (vp_updL lr (cn 2) x_13) fr1 od cl1 ck cc cr := hC
            have hU : fs_Up i fr (fun j => fs_mk (fr j) (nI α) (decide (rs ≠ 0))) fr1 := hU
            have hV : fs_Up i cl (fun j => cl j ||| ((fs_xOn (fr j) (nI α)).toInt64 <<< ((nI (cn 2)).toInt64 &&& 63))) cl1 := hV
            have hl : lv_has ls 6 [(5, .int (nI i)), (0, .ref b), (1, .int (nI α)), (2, .int rs), (3, .int (nI (cn 2)))] := hl
            refine lv_iload hx hb dS_look_94 (lv_at hl 0 rfl) ?_
            refine lv_aload_n hx hb dS_look_96 rfl (lv_at hl 1 rfl) ?_
            refine fm_get (ci := 3) (v := .int (nI (cn 3))) (C := RS) (T := TS) (N := 11) hx hb hT inS hown hK hW hC.1 rfl 9 (by decide) (hT _ fl_S_56) (fun _ h9 => h9) rfl dS_look_97 ?_
            refine lv_icmp_ge (tgt := 122) hx hb dS_look_100 (by decide) (fun c_17 => ?_) (fun c_17 => ?_)
            · exact absurd c_17 (nI_ge hi (by omega))
            · refine lv_aload_n hx hb dS_look_103 rfl (lv_at hl 1 rfl) ?_
              refine fm_get (ci := 3) (v := .ref (b + 27)) (C := RS) (T := TS) (N := 11) hx hb hT inS hown hK hW hC.1 rfl 3 (by decide) (hT _ fl_S_26) (fun _ h9 => h9) rfl dS_look_104 ?_
              refine lv_iload hx hb dS_look_107 (lv_at hl 0 rfl) ?_
              refine fm_aald hx hb hK hW 4 hC.2.2.2.2.1 rfl (vp_in_nI (N := 40) (by omega) (by decide)) (fs_rf_at (by omega)) dS_look_109 ?_
              refine lv_iload_n hx hb dS_look_110 rfl (lv_at hl 2 rfl) ?_
              refine lv_iload_n hx hb dS_look_111 rfl (lv_at hl 4 rfl) ?_
              refine lv_iload_n hx hb dS_look_112 rfl (lv_at hl 3 rfl) ?_
              refine fm_callv (va_runV (As := [.int (nI α), .int (nI (cn 2)), .int rs]) (rest := []) ⟨hx, hb, hml, hown, hts⟩ (c_F_meetLook l D ct A M2 (b + 28 + 2 * i) (b + 29 + 2 * i) (od i) (cl1 i) (ck i) (fr1 i) (nI α) (nI (cn 2)) rs (hC.2.2.2.2.2.1 i (by omega)) (hC.2.2.2.2.2.2.1 i (by omega)) (by omega)) ⟨callB_of 3 hts (fs_gin co_F_meetLook) rfl rfl rfl (hT _ ini_F) (hT _ ml_S_84) (by decide +kernel) ⟨Nat.le_of_ble_eq_true rfl, Nat.le_of_ble_eq_true rfl⟩, hT _ im_F_meetLook, hT _ se_F_meetLook⟩ (fn_preV fs_isnw hK hN hW (hC.2.2.2.2.2.1 i (by omega)) rfl) rfl rfl hl.1 rfl (lv_room (Nat.le_of_ble_eq_true rfl)) dS_look_113 ⟨Nat.le_of_ble_eq_true rfl, Nat.le_of_ble_eq_true rfl⟩) hW (fun M_19 H locs hp_20 hW => ?_)
              have hC : fs_CW ct M_19 b cn kp2 pn2 pr2 (upd lc (cn 2) x_10) (vp_updL lr (cn 2) x_13) (va_up fr1 i (fs_mk (fr1 i) (nI α) (decide (rs ≠ 0)))) od (va_up cl1 i (cl1 i ||| ((fs_xOn (fr1 i) (nI α)).toInt64 <<< ((nI (cn 2)).toInt64 &&& 63)))) ck cc cr := by rw [hp_20]; exact fs_CW_ML hC (by omega) _ _
              have hCf : fs_Cf b M M_19 := by rw [hp_20]; exact fs_Cf_u (fs_Cf_u hCf (by omega) _) (by omega) _
              have hU2 : fs_Up (i + 1) fr (fun j => fs_mk (fr j) (nI α) (decide (rs ≠ 0))) (va_up fr1 i (fs_mk (fr1 i) (nI α) (decide (rs ≠ 0)))) := fs_Up_s hU (by rw [hU.2 i (Nat.le_refl i)])
              have hV2 : fs_Up (i + 1) cl (fun j => cl j ||| ((fs_xOn (fr j) (nI α)).toInt64 <<< ((nI (cn 2)).toInt64 &&& 63))) (va_up cl1 i (cl1 i ||| ((fs_xOn (fr1 i) (nI α)).toInt64 <<< ((nI (cn 2)).toInt64 &&& 63)))) := fs_Up_s hV (by rw [hU.2 i (Nat.le_refl i), hV.2 i (Nat.le_refl i)])
              refine lv_iinc (v := nI (i + 1)) (lv' := [(5, .int (nI (i + 1))), (0, .ref b), (1, .int (nI α)), (2, .int rs), (3, .int (nI (cn 2)))]) hx hb dS_look_116 hl (k := 0) rfl (by show nI i + 1 = nI (i + 1); exact nI_1 i) (by decide) rfl (fun ls hl => ?_)
              refine lv_goto (tgt := 94) hx hb dS_look_119 (by decide) ?_
              exact back (va_up fr1 i (fs_mk (fr1 i) (nI α) (decide (rs ≠ 0))), va_up cl1 i (cl1 i ||| ((fs_xOn (fr1 i) (nI α)).toInt64 <<< ((nI (cn 2)).toInt64 &&& 63)))) _ _ _ ls ⟨hC, hCf, hU2, hV2⟩ hW (lv_sub hl [0, 1, 2, 3, 4] rfl)
          · intro u M2 H locs ls hI hW hl
            obtain ⟨fr1, cl1⟩ := u
            obtain ⟨hC, hCf, hU, hV⟩ := hI
            have hC : fs_CW ct M2 b cn kp2 pn2 pr2 (upd lc (cn 2) x_10) (vp_updL lr (cn 2) x_13) fr1 od cl1 ck cc cr := hC
            have hU : fs_Up (cn 3) fr (fun j => fs_mk (fr j) (nI α) (decide (rs ≠ 0))) fr1 := hU
            have hV : fs_Up (cn 3) cl (fun j => cl j ||| ((fs_xOn (fr j) (nI α)).toInt64 <<< ((nI (cn 2)).toInt64 &&& 63))) cl1 := hV
            have hl : lv_has ls 6 [(5, .int (nI (cn 3))), (0, .ref b), (1, .int (nI α)), (2, .int rs), (3, .int (nI (cn 2)))] := hl
            refine lv_iload hx hb dS_look_94 (lv_at hl 0 rfl) ?_
            refine lv_aload_n hx hb dS_look_96 rfl (lv_at hl 1 rfl) ?_
            refine fm_get (ci := 3) (v := .int (nI (cn 3))) (C := RS) (T := TS) (N := 11) hx hb hT inS hown hK hW hC.1 rfl 9 (by decide) (hT _ fl_S_56) (fun _ h9 => h9) rfl dS_look_97 ?_
            refine lv_icmp_ge (tgt := 122) hx hb dS_look_100 (by decide) (fun c_21 => ?_) (fun c_21 => ?_)
            · refine lv_aload_n hx hb dS_look_122 rfl (lv_at hl 1 rfl) ?_
              refine lv_dup hx hb dS_look_123 rfl ?_
              refine fm_get (ci := 3) (v := .int (nI (cn 2))) (C := RS) (T := TS) (N := 11) hx hb hT inS hown hK hW hC.1 rfl 8 (by decide) (hT _ fl_S_66) (fun _ h9 => h9) rfl dS_look_124 ?_
              refine lv_iconst (v := 1) hx hb dS_look_127 (by decide) ?_
              refine lv_iadd hx hb dS_look_128 ?_
              refine fm_put (ci := 3) (v := .int ((nI (cn 2)) + 1)) (ty := .int) (C := RS) (T := TS) (N := 11) hx hb hT inS tyS tkS nmS hown hK hW hC.1 rfl 8 (by decide) (hT _ fl_S_66) (fun _ h9 => h9) rfl (by decide +kernel) rfl rfl (Nat.le_of_ble_eq_true rfl) dS_look_129 (fun H locs hW => ?_)
              obtain ⟨M_22, eM_22⟩ : ∃ z : fm_M, z = va_up M2 b (some (.inr (3, [.ref (b + 1), .ref (b + 25), .ref (b + 26), .ref (b + 27), .ref (b + 108), .ref (b + 109), .int (nI (cn 0)), .int (nI (cn 1)), .int ((nI (cn 2)) + 1), .int (nI (cn 3)), .int (nI (cn 4))]))) := ⟨_, rfl⟩
              have hW : fm_W D fs_cl5 A M_22 s.heap H locs := by rw [eM_22]; exact hW
              have f_23 : M_22 b = some (.inr (3, [.ref (b + 1), .ref (b + 25), .ref (b + 26), .ref (b + 27), .ref (b + 108), .ref (b + 109), .int (nI (cn 0)), .int (nI (cn 1)), .int ((nI (cn 2)) + 1), .int (nI (cn 3)), .int (nI (cn 4))])) := by rw [eM_22]; exact fm_us
              refine lv_aload_n hx hb dS_look_132 rfl (lv_at hl 1 rfl) ?_
              refine lv_dup hx hb dS_look_133 rfl ?_
              refine fm_get (ci := 3) (v := .int (nI (cn 1))) (C := RS) (T := TS) (N := 11) hx hb hT inS hown hK hW f_23 rfl 7 (by decide) (hT _ fl_S_45) (fun _ h9 => h9) rfl dS_look_134 ?_
              refine lv_iconst (v := 1) hx hb dS_look_137 (by decide) ?_
              refine lv_iadd hx hb dS_look_138 ?_
              refine fm_put (ci := 3) (v := .int ((nI (cn 1)) + 1)) (ty := .int) (C := RS) (T := TS) (N := 11) hx hb hT inS tyS tkS nmS hown hK hW f_23 rfl 7 (by decide) (hT _ fl_S_45) (fun _ h9 => h9) rfl (by decide +kernel) rfl rfl (Nat.le_of_ble_eq_true rfl) dS_look_139 (fun H locs hW => ?_)
              obtain ⟨M_24, eM_24⟩ : ∃ z : fm_M, z = va_up M_22 b (some (.inr (3, [.ref (b + 1), .ref (b + 25), .ref (b + 26), .ref (b + 27), .ref (b + 108), .ref (b + 109), .int (nI (cn 0)), .int ((nI (cn 1)) + 1), .int ((nI (cn 2)) + 1), .int (nI (cn 3)), .int (nI (cn 4))]))) := ⟨_, rfl⟩
              have hW : fm_W D fs_cl5 A M_24 s.heap H locs := by rw [eM_24]; exact hW
              have f_25 : M_24 b = some (.inr (3, [.ref (b + 1), .ref (b + 25), .ref (b + 26), .ref (b + 27), .ref (b + 108), .ref (b + 109), .int (nI (cn 0)), .int ((nI (cn 1)) + 1), .int ((nI (cn 2)) + 1), .int (nI (cn 3)), .int (nI (cn 4))])) := by rw [eM_24]; exact fm_us
              have zM_24 : M_24 = va_up M2 b (some (fs_SE b (va_up (va_up cn 2 (cn 2 + 1)) 1 (cn 1 + 1)))) := by
                rw [eM_24, eM_22, fm_uu]
                rw [nI_1, nI_1]; rfl
              have hC : fs_CW ct M_24 b (va_up (va_up cn 2 (cn 2 + 1)) 1 (cn 1 + 1)) kp2 pn2 pr2 (upd lc (cn 2) x_10) (vp_updL lr (cn 2) x_13) fr1 od cl1 ck cc cr := by rw [zM_24]; exact fs_CW_S hC rfl
              have hCf : fs_Cf b M M_24 := by rw [zM_24]; exact fs_Cf_u hCf (by omega) _
              refine lv_iload_n hx hb dS_look_142 rfl (lv_at hl 4 rfl) ?_
              exact fm_iret hx hb hr hlocks hW (Or.inr ⟨rfl, hlk, α, rfl, hα, kp2, _, pn2, fr1, pr2, cl1, _, _, hC, hCf, by rw [ex_10, ex_13]; exact hcl, fun i hi => (if_neg (fun z => z.1 c_16)).symm, fun i hi => hU.1 i hi, fun i hi => hV.1 i hi⟩) dS_look_143
            · exact absurd (nI_le (Nat.le_refl (cn 3)) (by omega)) c_21
        · refine lv_aload_n hx hb dS_look_71 rfl (lv_at hl 2 rfl) ?_
          refine fm_get (ci := 3) (v := .ref (b + 1)) (C := RS) (T := TS) (N := 11) hx hb hT inS hown hK hW hC.1 rfl 0 (by decide) (hT _ fl_S_10) (fun _ h9 => h9) rfl dS_look_72 ?_
          refine lv_iload_n hx hb dS_look_75 rfl (lv_at hl 3 rfl) ?_
          refine lv_aload_n hx hb dS_look_76 rfl (lv_at hl 2 rfl) ?_
          refine fm_get (ci := 3) (v := .ref (b + 25)) (C := RS) (T := TS) (N := 11) hx hb hT inS hown hK hW hC.1 rfl 1 (by decide) (hT _ fl_S_16) (fun _ h9 => h9) rfl dS_look_77 ?_
          refine lv_iload_n hx hb dS_look_80 rfl (lv_at hl 1 rfl) ?_
          refine fn_iald hx hb hK hW 0 hC.2.2.1 rfl (show (cn 2) < _ by omega) (by decide) dS_look_81 ?_
          refine lv_aload_n hx hb dS_look_82 rfl (lv_at hl 2 rfl) ?_
          refine fm_get (ci := 3) (v := .ref (b + 26)) (C := RS) (T := TS) (N := 11) hx hb hT inS hown hK hW hC.1 rfl 2 (by decide) (hT _ fl_S_20) (fun _ h9 => h9) rfl dS_look_83 ?_
          refine lv_iload_n hx hb dS_look_86 rfl (lv_at hl 1 rfl) ?_
          refine fn_lald hx hb hK hW 1 hC.2.2.2.1 rfl (show (cn 2) < _ by omega) (by decide) dS_look_87 ?_
          refine fm_callv (va_runV (As := [.int (nI α), .int ((upd lc (cn 2) x_10) (cn 2)), .long ((vp_updL lr (cn 2) x_13) (cn 2))]) (rest := []) ⟨hx, hb, hml, hown, hts⟩ (c_T_flipIfTold l D ct A M_14 b (cn 0) kp2 pn2 pr2 α ((upd lc (cn 2) x_10) (cn 2)) ((vp_updL lr (cn 2) x_13) (cn 2)) hC.2.1 hB1 hα) ⟨callB_of 3 hts (fs_gin co_T_flipIfTold) rfl rfl rfl (hT _ ini_T) (hT _ ml_S_80) (by decide +kernel) ⟨Nat.le_of_ble_eq_true rfl, Nat.le_of_ble_eq_true rfl⟩, hT _ im_T_flipIfTold, hT _ se_T_flipIfTold⟩ (fn_preV fs_isnw hK hN hW hC.2.1.1 rfl) rfl rfl hl.1 rfl (lv_room (Nat.le_of_ble_eq_true rfl)) dS_look_88 ⟨Nat.le_of_ble_eq_true rfl, Nat.le_of_ble_eq_true rfl⟩) hW (fun M_27 H locs hp_28 hW => ?_)
          obtain ⟨kp3, t5, t6, t7⟩ := hp_28
          have hC := fs_CW_T hC t5 t6
          have hCf := fs_Cf_t hCf t6
          rw [pk_us, pk_uLs] at t7
          refine lv_iconst (v := 0) hx hb dS_look_91 (by decide) ?_
          refine lv_istore (lv' := [(5, .int 0), (4, .ref r_7), (3, .int (nI (cn 2))), (0, .ref b), (1, .int (nI α)), (2, .int rs)]) hx hb dS_look_92 hl (by decide) rfl (fun ls hl => ?_)
          refine fm_loop (head := 94) (maxL := 6) (cn 3) (fun i (u : (Nat → fs_Q) × (Nat → Int64)) M1 => fs_CW ct M1 b cn kp3 pn2 pr2 (upd lc (cn 2) x_10) (vp_updL lr (cn 2) x_13) u.1 od u.2 ck cc cr ∧ fs_Cf b M M1 ∧ fs_Up i fr (fun j => fs_mk (fr j) (nI α) (decide (rs ≠ 0))) u.1 ∧ fs_Up i cl (fun j => cl j ||| ((fs_xOn (fr j) (nI α)).toInt64 <<< ((nI (cn 2)).toInt64 &&& 63))) u.2) (fun i (u : (Nat → fs_Q) × (Nat → Int64)) => [(5, .int (nI i)), (0, .ref b), (1, .int (nI α)), (2, .int rs), (3, .int (nI (cn 2)))]) ?_ ?_ (cn 3) 0 (by omega) (fr, cl) M_27 _ _ ls ⟨hC, hCf, fs_Up_0 _ _, fs_Up_0 _ _⟩ hW (lv_sub hl [0, 3, 4, 5, 2] rfl)
          · intro i u M2 H locs ls hi hI hW hl back
            obtain ⟨fr1, cl1⟩ := u
            obtain ⟨hC, hCf, hU, hV⟩ := hI
            have hC : fs_CW ct M2 b cn kp3 pn2 pr2 (upd lc (cn 2) x_10) (vp_updL lr (cn 2) x_13) fr1 od cl1 ck cc cr := hC
            have hU : fs_Up i fr (fun j => fs_mk (fr j) (nI α) (decide (rs ≠ 0))) fr1 := hU
            have hV : fs_Up i cl (fun j => cl j ||| ((fs_xOn (fr j) (nI α)).toInt64 <<< ((nI (cn 2)).toInt64 &&& 63))) cl1 := hV
            have hl : lv_has ls 6 [(5, .int (nI i)), (0, .ref b), (1, .int (nI α)), (2, .int rs), (3, .int (nI (cn 2)))] := hl
            refine lv_iload hx hb dS_look_94 (lv_at hl 0 rfl) ?_
            refine lv_aload_n hx hb dS_look_96 rfl (lv_at hl 1 rfl) ?_
            refine fm_get (ci := 3) (v := .int (nI (cn 3))) (C := RS) (T := TS) (N := 11) hx hb hT inS hown hK hW hC.1 rfl 9 (by decide) (hT _ fl_S_56) (fun _ h9 => h9) rfl dS_look_97 ?_
            refine lv_icmp_ge (tgt := 122) hx hb dS_look_100 (by decide) (fun c_29 => ?_) (fun c_29 => ?_)
            · exact absurd c_29 (nI_ge hi (by omega))
            · refine lv_aload_n hx hb dS_look_103 rfl (lv_at hl 1 rfl) ?_
              refine fm_get (ci := 3) (v := .ref (b + 27)) (C := RS) (T := TS) (N := 11) hx hb hT inS hown hK hW hC.1 rfl 3 (by decide) (hT _ fl_S_26) (fun _ h9 => h9) rfl dS_look_104 ?_
              refine lv_iload hx hb dS_look_107 (lv_at hl 0 rfl) ?_
              refine fm_aald hx hb hK hW 4 hC.2.2.2.2.1 rfl (vp_in_nI (N := 40) (by omega) (by decide)) (fs_rf_at (by omega)) dS_look_109 ?_
              refine lv_iload_n hx hb dS_look_110 rfl (lv_at hl 2 rfl) ?_
              refine lv_iload_n hx hb dS_look_111 rfl (lv_at hl 4 rfl) ?_
              refine lv_iload_n hx hb dS_look_112 rfl (lv_at hl 3 rfl) ?_
              refine fm_callv (va_runV (As := [.int (nI α), .int (nI (cn 2)), .int rs]) (rest := []) ⟨hx, hb, hml, hown, hts⟩ (c_F_meetLook l D ct A M2 (b + 28 + 2 * i) (b + 29 + 2 * i) (od i) (cl1 i) (ck i) (fr1 i) (nI α) (nI (cn 2)) rs (hC.2.2.2.2.2.1 i (by omega)) (hC.2.2.2.2.2.2.1 i (by omega)) (by omega)) ⟨callB_of 3 hts (fs_gin co_F_meetLook) rfl rfl rfl (hT _ ini_F) (hT _ ml_S_84) (by decide +kernel) ⟨Nat.le_of_ble_eq_true rfl, Nat.le_of_ble_eq_true rfl⟩, hT _ im_F_meetLook, hT _ se_F_meetLook⟩ (fn_preV fs_isnw hK hN hW (hC.2.2.2.2.2.1 i (by omega)) rfl) rfl rfl hl.1 rfl (lv_room (Nat.le_of_ble_eq_true rfl)) dS_look_113 ⟨Nat.le_of_ble_eq_true rfl, Nat.le_of_ble_eq_true rfl⟩) hW (fun M_31 H locs hp_32 hW => ?_)
              have hC : fs_CW ct M_31 b cn kp3 pn2 pr2 (upd lc (cn 2) x_10) (vp_updL lr (cn 2) x_13) (va_up fr1 i (fs_mk (fr1 i) (nI α) (decide (rs ≠ 0)))) od (va_up cl1 i (cl1 i ||| ((fs_xOn (fr1 i) (nI α)).toInt64 <<< ((nI (cn 2)).toInt64 &&& 63)))) ck cc cr := by rw [hp_32]; exact fs_CW_ML hC (by omega) _ _
              have hCf : fs_Cf b M M_31 := by rw [hp_32]; exact fs_Cf_u (fs_Cf_u hCf (by omega) _) (by omega) _
              have hU2 : fs_Up (i + 1) fr (fun j => fs_mk (fr j) (nI α) (decide (rs ≠ 0))) (va_up fr1 i (fs_mk (fr1 i) (nI α) (decide (rs ≠ 0)))) := fs_Up_s hU (by rw [hU.2 i (Nat.le_refl i)])
              have hV2 : fs_Up (i + 1) cl (fun j => cl j ||| ((fs_xOn (fr j) (nI α)).toInt64 <<< ((nI (cn 2)).toInt64 &&& 63))) (va_up cl1 i (cl1 i ||| ((fs_xOn (fr1 i) (nI α)).toInt64 <<< ((nI (cn 2)).toInt64 &&& 63)))) := fs_Up_s hV (by rw [hU.2 i (Nat.le_refl i), hV.2 i (Nat.le_refl i)])
              refine lv_iinc (v := nI (i + 1)) (lv' := [(5, .int (nI (i + 1))), (0, .ref b), (1, .int (nI α)), (2, .int rs), (3, .int (nI (cn 2)))]) hx hb dS_look_116 hl (k := 0) rfl (by show nI i + 1 = nI (i + 1); exact nI_1 i) (by decide) rfl (fun ls hl => ?_)
              refine lv_goto (tgt := 94) hx hb dS_look_119 (by decide) ?_
              exact back (va_up fr1 i (fs_mk (fr1 i) (nI α) (decide (rs ≠ 0))), va_up cl1 i (cl1 i ||| ((fs_xOn (fr1 i) (nI α)).toInt64 <<< ((nI (cn 2)).toInt64 &&& 63)))) _ _ _ ls ⟨hC, hCf, hU2, hV2⟩ hW (lv_sub hl [0, 1, 2, 3, 4] rfl)
          · intro u M2 H locs ls hI hW hl
            obtain ⟨fr1, cl1⟩ := u
            obtain ⟨hC, hCf, hU, hV⟩ := hI
            have hC : fs_CW ct M2 b cn kp3 pn2 pr2 (upd lc (cn 2) x_10) (vp_updL lr (cn 2) x_13) fr1 od cl1 ck cc cr := hC
            have hU : fs_Up (cn 3) fr (fun j => fs_mk (fr j) (nI α) (decide (rs ≠ 0))) fr1 := hU
            have hV : fs_Up (cn 3) cl (fun j => cl j ||| ((fs_xOn (fr j) (nI α)).toInt64 <<< ((nI (cn 2)).toInt64 &&& 63))) cl1 := hV
            have hl : lv_has ls 6 [(5, .int (nI (cn 3))), (0, .ref b), (1, .int (nI α)), (2, .int rs), (3, .int (nI (cn 2)))] := hl
            refine lv_iload hx hb dS_look_94 (lv_at hl 0 rfl) ?_
            refine lv_aload_n hx hb dS_look_96 rfl (lv_at hl 1 rfl) ?_
            refine fm_get (ci := 3) (v := .int (nI (cn 3))) (C := RS) (T := TS) (N := 11) hx hb hT inS hown hK hW hC.1 rfl 9 (by decide) (hT _ fl_S_56) (fun _ h9 => h9) rfl dS_look_97 ?_
            refine lv_icmp_ge (tgt := 122) hx hb dS_look_100 (by decide) (fun c_33 => ?_) (fun c_33 => ?_)
            · refine lv_aload_n hx hb dS_look_122 rfl (lv_at hl 1 rfl) ?_
              refine lv_dup hx hb dS_look_123 rfl ?_
              refine fm_get (ci := 3) (v := .int (nI (cn 2))) (C := RS) (T := TS) (N := 11) hx hb hT inS hown hK hW hC.1 rfl 8 (by decide) (hT _ fl_S_66) (fun _ h9 => h9) rfl dS_look_124 ?_
              refine lv_iconst (v := 1) hx hb dS_look_127 (by decide) ?_
              refine lv_iadd hx hb dS_look_128 ?_
              refine fm_put (ci := 3) (v := .int ((nI (cn 2)) + 1)) (ty := .int) (C := RS) (T := TS) (N := 11) hx hb hT inS tyS tkS nmS hown hK hW hC.1 rfl 8 (by decide) (hT _ fl_S_66) (fun _ h9 => h9) rfl (by decide +kernel) rfl rfl (Nat.le_of_ble_eq_true rfl) dS_look_129 (fun H locs hW => ?_)
              obtain ⟨M_34, eM_34⟩ : ∃ z : fm_M, z = va_up M2 b (some (.inr (3, [.ref (b + 1), .ref (b + 25), .ref (b + 26), .ref (b + 27), .ref (b + 108), .ref (b + 109), .int (nI (cn 0)), .int (nI (cn 1)), .int ((nI (cn 2)) + 1), .int (nI (cn 3)), .int (nI (cn 4))]))) := ⟨_, rfl⟩
              have hW : fm_W D fs_cl5 A M_34 s.heap H locs := by rw [eM_34]; exact hW
              have f_35 : M_34 b = some (.inr (3, [.ref (b + 1), .ref (b + 25), .ref (b + 26), .ref (b + 27), .ref (b + 108), .ref (b + 109), .int (nI (cn 0)), .int (nI (cn 1)), .int ((nI (cn 2)) + 1), .int (nI (cn 3)), .int (nI (cn 4))])) := by rw [eM_34]; exact fm_us
              refine lv_aload_n hx hb dS_look_132 rfl (lv_at hl 1 rfl) ?_
              refine lv_dup hx hb dS_look_133 rfl ?_
              refine fm_get (ci := 3) (v := .int (nI (cn 1))) (C := RS) (T := TS) (N := 11) hx hb hT inS hown hK hW f_35 rfl 7 (by decide) (hT _ fl_S_45) (fun _ h9 => h9) rfl dS_look_134 ?_
              refine lv_iconst (v := 1) hx hb dS_look_137 (by decide) ?_
              refine lv_iadd hx hb dS_look_138 ?_
              refine fm_put (ci := 3) (v := .int ((nI (cn 1)) + 1)) (ty := .int) (C := RS) (T := TS) (N := 11) hx hb hT inS tyS tkS nmS hown hK hW f_35 rfl 7 (by decide) (hT _ fl_S_45) (fun _ h9 => h9) rfl (by decide +kernel) rfl rfl (Nat.le_of_ble_eq_true rfl) dS_look_139 (fun H locs hW => ?_)
              obtain ⟨M_36, eM_36⟩ : ∃ z : fm_M, z = va_up M_34 b (some (.inr (3, [.ref (b + 1), .ref (b + 25), .ref (b + 26), .ref (b + 27), .ref (b + 108), .ref (b + 109), .int (nI (cn 0)), .int ((nI (cn 1)) + 1), .int ((nI (cn 2)) + 1), .int (nI (cn 3)), .int (nI (cn 4))]))) := ⟨_, rfl⟩
              have hW : fm_W D fs_cl5 A M_36 s.heap H locs := by rw [eM_36]; exact hW
              have f_37 : M_36 b = some (.inr (3, [.ref (b + 1), .ref (b + 25), .ref (b + 26), .ref (b + 27), .ref (b + 108), .ref (b + 109), .int (nI (cn 0)), .int ((nI (cn 1)) + 1), .int ((nI (cn 2)) + 1), .int (nI (cn 3)), .int (nI (cn 4))])) := by rw [eM_36]; exact fm_us
              have zM_36 : M_36 = va_up M2 b (some (fs_SE b (va_up (va_up cn 2 (cn 2 + 1)) 1 (cn 1 + 1)))) := by
                rw [eM_36, eM_34, fm_uu]
                rw [nI_1, nI_1]; rfl
              have hC : fs_CW ct M_36 b (va_up (va_up cn 2 (cn 2 + 1)) 1 (cn 1 + 1)) kp3 pn2 pr2 (upd lc (cn 2) x_10) (vp_updL lr (cn 2) x_13) fr1 od cl1 ck cc cr := by rw [zM_36]; exact fs_CW_S hC rfl
              have hCf : fs_Cf b M M_36 := by rw [zM_36]; exact fs_Cf_u hCf (by omega) _
              refine lv_iload_n hx hb dS_look_142 rfl (lv_at hl 4 rfl) ?_
              exact fm_iret hx hb hr hlocks hW (Or.inr ⟨rfl, hlk, α, rfl, hα, kp2, _, pn2, fr1, pr2, cl1, _, _, hC, hCf, by rw [ex_10, ex_13]; exact hcl, fun i hi => by rw [t7 i hi]; by_cases z : bt (kp2 i).2.1 α = true; rw [if_pos z, if_pos ⟨c_16, z⟩]; rw [if_neg z, if_neg (fun y => z y.2)], fun i hi => hU.1 i hi, fun i hi => hV.1 i hi⟩) dS_look_143
            · exact absurd (nI_le (Nat.le_refl (cn 3)) (by omega)) c_33
      · refine lv_iconst (v := -1) hx hb dS_look_27 (by decide) ?_
        exact fm_iret hx hb hr hlocks hW (Or.inl ⟨rfl, rfl, fun z => c_6 z.2.2⟩) dS_look_28
def fs_fk (cn : Nat → Nat) (wh a k : Int32) : Prop := ¬ wh < 0 ∧ ¬ 2 < wh ∧ ¬ (a < 0 ∨ nI (cn 0) ≤ a) ∧ ¬ k < 0 ∧ k ≤ 16 ∧ ¬ 40 ≤ nI (cn 3) ∧ nI (cn 1) < 300
theorem fs_w3 {x : Int32} (h1 : ¬ x < 0) (h2 : ¬ 2 < x) : x = 0 ∨ x = 1 ∨ x = 2 := by
  obtain ⟨j, hj, rfl⟩ := nI_of2 (M := 2) (n := 2) rfl h1 (Int32.not_lt.mp h2)
  rcases (show j = 0 ∨ j = 1 ∨ j = 2 by omega) with rfl | rfl | rfl
  · exact Or.inl rfl
  · exact Or.inr (Or.inl rfl)
  · exact Or.inr (Or.inr rfl)
set_option maxHeartbeats 4000000 in
set_option maxRecDepth 100000 in
theorem c_S_fault (l : Launch) (D : va_G) (ct : Nat → ClassId) (A : Nat → Prop) (M : fm_M) (b : Nat) (cn : Nat → Nat) (kp pn : Nat → fs_Q) (pr : fs_Q) (lc : Nat → Int32) (lr : Nat → Int64) (fr : Nat → fs_Q) (od : Nat → Int32) (cl : Nat → Int64) (ck : Nat → Int32) (cc : Nat → Int32) (cr : Nat → Int64) (wh a k : Int32) (hC : fs_CW ct M b cn kp pn pr lc lr fr od cl ck cc cr) (hB : fs_Bd cn) : Met l yS_fault wS_fault ({ frames := 2, cells := 0, slots := 0, locals := 47 }) (va_Pc [.ref b, .int wh, .int a, .int k] (fm_St D fs_cl5 (fs_tys ct) fs_nw A M)) (va_Qi (fun (r : Int32) (M1 : fm_M) => (r = -1 ∧ M1 = M ∧ ¬ fs_fk cn wh a k) ∨ (r = nI (cn 3) ∧ fs_fk cn wh a k ∧ fs_CW ct M1 b (va_up (va_up cn 3 (cn 3 + 1)) 1 (cn 1 + 1)) kp pn pr lc lr (va_up fr (cn 3) (fs_fx wh a, fs_fz wh a, 0, 0)) (va_up od (cn 3) k) (va_up cl (cn 3) 0) (va_up ck (cn 3) 0) cc cr ∧ fs_Cf b M M1)) (fm_B D fs_cl5 A) A) 0 0 A := by
  refine Met.ofW (cc := cS_fault) (maxL := 5) (ret := (some .int)) (by decide) rfl ?_
  intro p e s m args below meth c s₁ B hml hv
  obtain ⟨rfl, hP0, hA0, hA1, hK, hN⟩ := hv
  have hx := B.exec
  have hb := B.bytes
  have hr := B.returns
  have hts := atoms_spec (ws := wS_fault) B.pre
  have hT : ∀ w ∈ fs_tb, w.before _ s = true := fun w h => hts w (List.mem_cons_of_mem _ h)
  have hown : s.vm.findClass "FrameSamples" = some m.cls := findClass_of_methodNamed B.named
  have hlocks := B.notSynchronized
  have hW : fm_W D fs_cl5 A M s.heap s.heap [] := ⟨hP0, hA0, va_S.rf, hA1⟩
  have hl := lv_entry ([.ref b, .int wh, .int a, .int k]) (n := 5) (Nat.le_of_ble_eq_true rfl)
  rw [lg_entry_eq]
  generalize (lg_sl ([.ref b, .int wh, .int a, .int k]) ++ List.replicate (5 - (lg_sl ([.ref b, .int wh, .int a, .int k])).length) Slot.unset).toArray = ls at hl ⊢
  have hl : lv_has ls 5 [(0, .ref b), (1, .int wh), (2, .int a), (3, .int k)] := hl
  obtain ⟨hB0, hB1, hB2, hB3, hB4, hB5⟩ := hB
  have hCf : fs_Cf b M M := fs_Cf_r
  refine lv_iload_n hx hb dS_fault_0 rfl (lv_at hl 1 rfl) ?_
  refine lv_if_lt (tgt := 27) hx hb dS_fault_1 (by decide) (fun c_1 => ?_) (fun c_1 => ?_)
  · refine lv_iconst (v := -1) hx hb dS_fault_27 (by decide) ?_
    exact fm_iret hx hb hr hlocks hW (Or.inl ⟨rfl, rfl, fun z => z.1 c_1⟩) dS_fault_28
  · refine lv_iload_n hx hb dS_fault_4 rfl (lv_at hl 1 rfl) ?_
    refine lv_iconst (v := 2) hx hb dS_fault_5 (by decide) ?_
    refine lv_icmp_gt (tgt := 27) hx hb dS_fault_6 (by decide) (fun c_2 => ?_) (fun c_2 => ?_)
    · refine lv_iconst (v := -1) hx hb dS_fault_27 (by decide) ?_
      exact fm_iret hx hb hr hlocks hW (Or.inl ⟨rfl, rfl, fun z => z.2.1 c_2⟩) dS_fault_28
    · refine lv_aload_n hx hb dS_fault_9 rfl (lv_at hl 0 rfl) ?_
      refine lv_iload_n hx hb dS_fault_10 rfl (lv_at hl 2 rfl) ?_
      refine fm_calli (va_runV (As := [.int a]) (rest := []) ⟨hx, hb, hml, hown, hts⟩ (c_S_isWire l D ct A M b cn a hC.1) ⟨callB_of 1 hts (fs_gin co_S_isWire) rfl rfl rfl (hT _ ini_S) (hT _ ml_S_41) (by decide +kernel) ⟨Nat.le_of_ble_eq_true rfl, Nat.le_of_ble_eq_true rfl⟩, hT _ im_S_isWire, hT _ se_S_isWire⟩ (fn_preV fs_isnw hK hN hW hC.1 rfl) rfl rfl hl.1 rfl (lv_room (Nat.le_of_ble_eq_true rfl)) dS_fault_11 ⟨Nat.le_of_ble_eq_true rfl, Nat.le_of_ble_eq_true rfl⟩) hW (fun r_3 M_4 H locs hp_5 hW => ?_)
      have hW : fm_W D fs_cl5 A M s.heap H locs := by rw [← hp_5.2]; exact hW
      have er_3 := hp_5.1
      refine lv_if_eq (tgt := 27) hx hb dS_fault_14 (by decide) (fun c_6 => ?_) (fun c_6 => ?_)
      · refine lv_iconst (v := -1) hx hb dS_fault_27 (by decide) ?_
        exact fm_iret hx hb hr hlocks hW (Or.inl ⟨rfl, rfl, fun z => z.2.2.1 ((fs_if0 er_3).1 c_6)⟩) dS_fault_28
      · have h3 := (fs_if0 er_3).2 c_6
        refine lv_iload_n hx hb dS_fault_17 rfl (lv_at hl 3 rfl) ?_
        refine lv_if_lt (tgt := 27) hx hb dS_fault_18 (by decide) (fun c_7 => ?_) (fun c_7 => ?_)
        · refine lv_iconst (v := -1) hx hb dS_fault_27 (by decide) ?_
          exact fm_iret hx hb hr hlocks hW (Or.inl ⟨rfl, rfl, fun z => z.2.2.2.1 c_7⟩) dS_fault_28
        · refine lv_iload_n hx hb dS_fault_21 rfl (lv_at hl 3 rfl) ?_
          refine lv_bipush (v := 16) hx hb dS_fault_22 (by decide) ?_
          refine lv_icmp_le (tgt := 29) hx hb dS_fault_24 (by decide) (fun c_8 => ?_) (fun c_8 => ?_)
          · refine lv_aload_n hx hb dS_fault_29 rfl (lv_at hl 0 rfl) ?_
            refine fm_get (ci := 3) (v := .int (nI (cn 3))) (C := RS) (T := TS) (N := 11) hx hb hT inS hown hK hW hC.1 rfl 9 (by decide) (hT _ fl_S_56) (fun _ h9 => h9) rfl dS_fault_30 ?_
            refine lv_bipush (v := 40) hx hb dS_fault_33 (by decide) ?_
            refine lv_icmp_ge (tgt := 48) hx hb dS_fault_35 (by decide) (fun c_9 => ?_) (fun c_9 => ?_)
            · refine lv_iconst (v := -1) hx hb dS_fault_48 (by decide) ?_
              exact fm_iret hx hb hr hlocks hW (Or.inl ⟨rfl, rfl, fun z => z.2.2.2.2.2.1 c_9⟩) dS_fault_49
            · refine lv_aload_n hx hb dS_fault_38 rfl (lv_at hl 0 rfl) ?_
              refine fm_get (ci := 3) (v := .int (nI (cn 1))) (C := RS) (T := TS) (N := 11) hx hb hT inS hown hK hW hC.1 rfl 7 (by decide) (hT _ fl_S_45) (fun _ h9 => h9) rfl dS_fault_39 ?_
              refine lv_sipush (v := 300) hx hb dS_fault_42 (by decide) ?_
              refine lv_icmp_lt (tgt := 50) hx hb dS_fault_45 (by decide) (fun c_10 => ?_) (fun c_10 => ?_)
              · have hfk : fs_fk cn wh a k := ⟨c_1, c_2, h3, c_7, c_8, c_9, c_10⟩
                have hn3 : cn 3 < 40 := fs_cge (N := 40) (by decide) c_9 (by omega)
                refine lv_aload_n hx hb dS_fault_50 rfl (lv_at hl 0 rfl) ?_
                refine fm_get (ci := 3) (v := .int (nI (cn 3))) (C := RS) (T := TS) (N := 11) hx hb hT inS hown hK hW hC.1 rfl 9 (by decide) (hT _ fl_S_56) (fun _ h9 => h9) rfl dS_fault_51 ?_
                refine lv_istore (lv' := [(4, .int (nI (cn 3))), (0, .ref b), (1, .int wh), (2, .int a), (3, .int k)]) hx hb dS_fault_54 hl (by decide) rfl (fun ls hl => ?_)
                refine lv_aload_n hx hb dS_fault_56 rfl (lv_at hl 1 rfl) ?_
                refine fm_get (ci := 3) (v := .ref (b + 27)) (C := RS) (T := TS) (N := 11) hx hb hT inS hown hK hW hC.1 rfl 3 (by decide) (hT _ fl_S_26) (fun _ h9 => h9) rfl dS_fault_57 ?_
                refine lv_iload hx hb dS_fault_60 (lv_at hl 0 rfl) ?_
                refine fm_aald hx hb hK hW 4 hC.2.2.2.2.1 rfl (vp_in_nI (N := 40) (by omega) (by decide)) (fs_rf_at (by omega)) dS_fault_62 ?_
                refine lv_iload_n hx hb dS_fault_63 rfl (lv_at hl 2 rfl) ?_
                refine lv_iload_n hx hb dS_fault_64 rfl (lv_at hl 3 rfl) ?_
                refine lv_iload_n hx hb dS_fault_65 rfl (lv_at hl 4 rfl) ?_
                refine fm_callv (va_runV (As := [.int wh, .int a, .int k]) (rest := []) ⟨hx, hb, hml, hown, hts⟩ (c_F_start l D ct A M (b + 28 + 2 * (cn 3)) (b + 29 + 2 * (cn 3)) (od (cn 3)) (cl (cn 3)) (ck (cn 3)) (fr (cn 3)) wh a k (hC.2.2.2.2.2.1 (cn 3) (by omega)) (hC.2.2.2.2.2.2.1 (cn 3) (by omega)) (by omega) (fs_w3 c_1 c_2)) ⟨callB_of 3 hts (fs_gin co_F_start) rfl rfl rfl (hT _ ini_F) (hT _ ml_S_88) (by decide +kernel) ⟨Nat.le_of_ble_eq_true rfl, Nat.le_of_ble_eq_true rfl⟩, hT _ im_F_start, hT _ se_F_start⟩ (fn_preV fs_isnw hK hN hW (hC.2.2.2.2.2.1 (cn 3) (by omega)) rfl) rfl rfl hl.1 rfl (lv_room (Nat.le_of_ble_eq_true rfl)) dS_fault_66 ⟨Nat.le_of_ble_eq_true rfl, Nat.le_of_ble_eq_true rfl⟩) hW (fun M_12 H locs hp_13 hW => ?_)
                have hC : fs_CW ct M_12 b cn kp pn pr lc lr (va_up fr (cn 3) (fs_fx wh a, fs_fz wh a, 0, 0)) (va_up od (cn 3) k) (va_up cl (cn 3) 0) (va_up ck (cn 3) 0) cc cr := by rw [hp_13]; exact fs_CW_FS hC (by omega) _ _ _ _
                have hCf : fs_Cf b M M_12 := by rw [hp_13]; exact fs_Cf_u (fs_Cf_u hCf (by omega) _) (by omega) _
                refine lv_aload_n hx hb dS_fault_69 rfl (lv_at hl 1 rfl) ?_
                refine lv_dup hx hb dS_fault_70 rfl ?_
                refine fm_get (ci := 3) (v := .int (nI (cn 3))) (C := RS) (T := TS) (N := 11) hx hb hT inS hown hK hW hC.1 rfl 9 (by decide) (hT _ fl_S_56) (fun _ h9 => h9) rfl dS_fault_71 ?_
                refine lv_iconst (v := 1) hx hb dS_fault_74 (by decide) ?_
                refine lv_iadd hx hb dS_fault_75 ?_
                refine fm_put (ci := 3) (v := .int ((nI (cn 3)) + 1)) (ty := .int) (C := RS) (T := TS) (N := 11) hx hb hT inS tyS tkS nmS hown hK hW hC.1 rfl 9 (by decide) (hT _ fl_S_56) (fun _ h9 => h9) rfl (by decide +kernel) rfl rfl (Nat.le_of_ble_eq_true rfl) dS_fault_76 (fun H locs hW => ?_)
                obtain ⟨M_14, eM_14⟩ : ∃ z : fm_M, z = va_up M_12 b (some (.inr (3, [.ref (b + 1), .ref (b + 25), .ref (b + 26), .ref (b + 27), .ref (b + 108), .ref (b + 109), .int (nI (cn 0)), .int (nI (cn 1)), .int (nI (cn 2)), .int ((nI (cn 3)) + 1), .int (nI (cn 4))]))) := ⟨_, rfl⟩
                have hW : fm_W D fs_cl5 A M_14 s.heap H locs := by rw [eM_14]; exact hW
                have f_15 : M_14 b = some (.inr (3, [.ref (b + 1), .ref (b + 25), .ref (b + 26), .ref (b + 27), .ref (b + 108), .ref (b + 109), .int (nI (cn 0)), .int (nI (cn 1)), .int (nI (cn 2)), .int ((nI (cn 3)) + 1), .int (nI (cn 4))])) := by rw [eM_14]; exact fm_us
                refine lv_aload_n hx hb dS_fault_79 rfl (lv_at hl 1 rfl) ?_
                refine lv_dup hx hb dS_fault_80 rfl ?_
                refine fm_get (ci := 3) (v := .int (nI (cn 1))) (C := RS) (T := TS) (N := 11) hx hb hT inS hown hK hW f_15 rfl 7 (by decide) (hT _ fl_S_45) (fun _ h9 => h9) rfl dS_fault_81 ?_
                refine lv_iconst (v := 1) hx hb dS_fault_84 (by decide) ?_
                refine lv_iadd hx hb dS_fault_85 ?_
                refine fm_put (ci := 3) (v := .int ((nI (cn 1)) + 1)) (ty := .int) (C := RS) (T := TS) (N := 11) hx hb hT inS tyS tkS nmS hown hK hW f_15 rfl 7 (by decide) (hT _ fl_S_45) (fun _ h9 => h9) rfl (by decide +kernel) rfl rfl (Nat.le_of_ble_eq_true rfl) dS_fault_86 (fun H locs hW => ?_)
                obtain ⟨M_16, eM_16⟩ : ∃ z : fm_M, z = va_up M_14 b (some (.inr (3, [.ref (b + 1), .ref (b + 25), .ref (b + 26), .ref (b + 27), .ref (b + 108), .ref (b + 109), .int (nI (cn 0)), .int ((nI (cn 1)) + 1), .int (nI (cn 2)), .int ((nI (cn 3)) + 1), .int (nI (cn 4))]))) := ⟨_, rfl⟩
                have hW : fm_W D fs_cl5 A M_16 s.heap H locs := by rw [eM_16]; exact hW
                have f_17 : M_16 b = some (.inr (3, [.ref (b + 1), .ref (b + 25), .ref (b + 26), .ref (b + 27), .ref (b + 108), .ref (b + 109), .int (nI (cn 0)), .int ((nI (cn 1)) + 1), .int (nI (cn 2)), .int ((nI (cn 3)) + 1), .int (nI (cn 4))])) := by rw [eM_16]; exact fm_us
                have zM_16 : M_16 = va_up M_12 b (some (fs_SE b (va_up (va_up cn 3 (cn 3 + 1)) 1 (cn 1 + 1)))) := by
                  rw [eM_16, eM_14, fm_uu]
                  rw [nI_1, nI_1]; rfl
                have hC : fs_CW ct M_16 b (va_up (va_up cn 3 (cn 3 + 1)) 1 (cn 1 + 1)) kp pn pr lc lr (va_up fr (cn 3) (fs_fx wh a, fs_fz wh a, 0, 0)) (va_up od (cn 3) k) (va_up cl (cn 3) 0) (va_up ck (cn 3) 0) cc cr := by rw [zM_16]; exact fs_CW_S hC rfl
                have hCf : fs_Cf b M M_16 := by rw [zM_16]; exact fs_Cf_u hCf (by omega) _
                refine lv_iload hx hb dS_fault_89 (lv_at hl 0 rfl) ?_
                exact fm_iret hx hb hr hlocks hW (Or.inr ⟨rfl, hfk, hC, hCf⟩) dS_fault_91
              · refine lv_iconst (v := -1) hx hb dS_fault_48 (by decide) ?_
                exact fm_iret hx hb hr hlocks hW (Or.inl ⟨rfl, rfl, fun z => c_10 z.2.2.2.2.2.2⟩) dS_fault_49
          · refine lv_iconst (v := -1) hx hb dS_fault_27 (by decide) ?_
            exact fm_iret hx hb hr hlocks hW (Or.inl ⟨rfl, rfl, fun z => c_8 z.2.2.2.2.1⟩) dS_fault_28
end
section
-- FrameSamples.check, run
def fs_ckk (cn : Nat → Nat) (st : Int64) : Prop := fs_ushl st (nI (cn 2)) = 0 ∧ nI (cn 4) < 16
set_option maxHeartbeats 4000000 in
set_option maxRecDepth 100000 in
theorem c_S_check (l : Launch) (D : va_G) (ct : Nat → ClassId) (A : Nat → Prop) (M : fm_M) (b : Nat) (cn : Nat → Nat) (kp pn : Nat → fs_Q) (pr : fs_Q) (lc : Nat → Int32) (lr : Nat → Int64) (fr : Nat → fs_Q) (od : Nat → Int32) (cl : Nat → Int64) (ck : Nat → Int32) (cc : Nat → Int32) (cr : Nat → Int64) (st : Int64) (hC : fs_CW ct M b cn kp pn pr lc lr fr od cl ck cc cr) (hB : fs_Bd cn) : Met l yS_check wS_check ({ frames := 3, cells := 0, slots := 0, locals := 65 }) (va_Pc [.ref b, .long st] (fm_St D fs_cl5 (fs_tys ct) fs_nw A M)) (va_Qi (fun (r : Int32) (M1 : fm_M) => (r = -1 ∧ M1 = M ∧ ¬ fs_ckk cn st) ∨ (r = nI (cn 4) ∧ fs_ckk cn st ∧ ∃ ck2 : Nat → Int32, fs_CW ct M1 b (va_up cn 4 (cn 4 + 1)) kp pn pr lc lr fr od cl ck2 (upd cc (cn 4) (fs_xr lc lr st (cn 2)).1) (vp_updL cr (cn 4) (fs_xr lc lr st (cn 2)).2) ∧ fs_Cf b M M1 ∧ ∀ i, i < cn 3 → ck2 i = ck i ||| ((fs_bcl (cl i &&& st) &&& 1) <<< (nI (cn 4) &&& 31)))) (fm_B D fs_cl5 A) A) 0 0 A := by
  refine Met.ofW (cc := cS_check) (maxL := 8) (ret := (some .int)) (by decide) rfl ?_
  intro p e s m args below meth c s₁ B hml hv
  obtain ⟨rfl, hP0, hA0, hA1, hK, hN⟩ := hv
  have hx := B.exec
  have hb := B.bytes
  have hr := B.returns
  have hts := atoms_spec (ws := wS_check) B.pre
  have hT : ∀ w ∈ fs_tb, w.before _ s = true := fun w h => hts w (List.mem_cons_of_mem _ h)
  have hown : s.vm.findClass "FrameSamples" = some m.cls := findClass_of_methodNamed B.named
  have hlocks := B.notSynchronized
  have hW : fm_W D fs_cl5 A M s.heap s.heap [] := ⟨hP0, hA0, va_S.rf, hA1⟩
  have hl := lv_entry ([.ref b, .long st]) (n := 8) (Nat.le_of_ble_eq_true rfl)
  rw [lg_entry_eq]
  generalize (lg_sl ([.ref b, .long st]) ++ List.replicate (8 - (lg_sl ([.ref b, .long st])).length) Slot.unset).toArray = ls at hl ⊢
  have hl : lv_has ls 8 [(0, .ref b), (1, .long st)] := hl
  obtain ⟨hB0, hB1, hB2, hB3, hB4, hB5⟩ := hB
  have hCf : fs_Cf b M M := fs_Cf_r
  refine lv_lload_n hx hb dS_check_0 rfl (lv_at hl 1 rfl) ?_
  refine lv_aload_n hx hb dS_check_1 rfl (lv_at hl 0 rfl) ?_
  refine fm_get (ci := 3) (v := .int (nI (cn 2))) (C := RS) (T := TS) (N := 11) hx hb hT inS hown hK hW hC.1 rfl 8 (by decide) (hT _ fl_S_66) (fun _ h9 => h9) rfl dS_check_2 ?_
  refine lv_lushr (v := fs_ushl st (nI (cn 2))) hx hb dS_check_5 rfl ?_
  refine lv_lconst (v := 0) hx hb dS_check_6 (by decide) ?_
  refine W.lcmp hx hb dS_check_7 ?_
  refine lv_if_ne (tgt := 20) hx hb dS_check_8 (by decide) (fun c_1 => ?_) (fun c_1 => ?_)
  · refine lv_iconst (v := -1) hx hb dS_check_20 (by decide) ?_
    exact fm_iret hx hb hr hlocks hW (Or.inl ⟨rfl, rfl, fun z => c_1 ((lg_cmp_eq _ _).mpr z.1)⟩) dS_check_21
  · have h1 : fs_ushl st (nI (cn 2)) = 0 := (lg_cmp_eq _ _).mp c_1
    refine lv_aload_n hx hb dS_check_11 rfl (lv_at hl 0 rfl) ?_
    refine fm_get (ci := 3) (v := .int (nI (cn 4))) (C := RS) (T := TS) (N := 11) hx hb hT inS hown hK hW hC.1 rfl 10 (by decide) (hT _ fl_S_91) (fun _ h9 => h9) rfl dS_check_12 ?_
    refine lv_bipush (v := 16) hx hb dS_check_15 (by decide) ?_
    refine lv_icmp_lt (tgt := 22) hx hb dS_check_17 (by decide) (fun c_2 => ?_) (fun c_2 => ?_)
    · have hck : fs_ckk cn st := ⟨h1, c_2⟩
      have hn4 : cn 4 < 16 := (nI_ltI (b := 16) (by omega) (by decide)).mp c_2
      refine lv_aload_n hx hb dS_check_22 rfl (lv_at hl 0 rfl) ?_
      refine fm_get (ci := 3) (v := .int (nI (cn 4))) (C := RS) (T := TS) (N := 11) hx hb hT inS hown hK hW hC.1 rfl 10 (by decide) (hT _ fl_S_91) (fun _ h9 => h9) rfl dS_check_23 ?_
      refine lv_istore_n (lv' := [(3, .int (nI (cn 4))), (0, .ref b), (1, .long st)]) hx hb dS_check_26 rfl hl (by decide) rfl (fun ls hl => ?_)
      refine lv_iconst (v := 0) hx hb dS_check_27 (by decide) ?_
      refine lv_istore (lv' := [(4, .int 0), (3, .int (nI (cn 4))), (0, .ref b), (1, .long st)]) hx hb dS_check_28 hl (by decide) rfl (fun ls hl => ?_)
      refine lv_lconst (v := 0) hx hb dS_check_30 (by decide) ?_
      refine lv_lstore (lv' := [(5, .long 0), (4, .int 0), (3, .int (nI (cn 4))), (0, .ref b), (1, .long st)]) hx hb dS_check_31 hl (by decide) rfl (fun ls hl => ?_)
      refine lv_iconst (v := 0) hx hb dS_check_33 (by decide) ?_
      refine lv_istore (lv' := [(7, .int 0), (5, .long 0), (4, .int 0), (3, .int (nI (cn 4))), (0, .ref b), (1, .long st)]) hx hb dS_check_34 hl (by decide) rfl (fun ls hl => ?_)
      refine fm_loop (head := 36) (maxL := 8) (cn 2) (fun i (u : Int32 × Int64) M1 => M1 = M ∧ u = fs_xr lc lr st i) (fun i (u : Int32 × Int64) => [(7, .int (nI i)), (0, .ref b), (1, .long st), (3, .int (nI (cn 4))), (4, .int u.1), (5, .long u.2)]) ?_ ?_ (cn 2) 0 (by omega) (0, 0) M _ _ ls ⟨rfl, rfl⟩ hW (lv_sub hl [0, 4, 5, 3, 2, 1] rfl)
      · intro i u M2 H locs ls hi hI hW hl back
        obtain ⟨cv, hv⟩ := u
        obtain ⟨hMe, hU⟩ := hI
        have hU : (cv, hv) = fs_xr lc lr st i := hU
        have hW : fm_W D fs_cl5 A M s.heap H locs := by rw [← hMe]; exact hW
        have hl : lv_has ls 8 [(7, .int (nI i)), (0, .ref b), (1, .long st), (3, .int (nI (cn 4))), (4, .int cv), (5, .long hv)] := hl
        refine lv_iload hx hb dS_check_36 (lv_at hl 0 rfl) ?_
        refine lv_aload_n hx hb dS_check_38 rfl (lv_at hl 1 rfl) ?_
        refine fm_get (ci := 3) (v := .int (nI (cn 2))) (C := RS) (T := TS) (N := 11) hx hb hT inS hown hK hW hC.1 rfl 8 (by decide) (hT _ fl_S_66) (fun _ h9 => h9) rfl dS_check_39 ?_
        refine lv_icmp_ge (tgt := 84) hx hb dS_check_42 (by decide) (fun c_3 => ?_) (fun c_3 => ?_)
        · exact absurd c_3 (nI_ge hi (by omega))
        · refine lv_lload_n hx hb dS_check_45 rfl (lv_at hl 2 rfl) ?_
          refine lv_iload hx hb dS_check_46 (lv_at hl 0 rfl) ?_
          refine fm_calli (va_runS (As := [.long st, .int (nI i)]) (rest := []) ⟨hx, hb, hml, hown, hts⟩ (c_S_has l D ct A M st i (by omega)) ⟨callB_of 2 hts (fs_gin co_S_has) rfl rfl rfl (hT _ ini_S) (hT _ ml_S_94) (by decide +kernel) ⟨Nat.le_of_ble_eq_true rfl, Nat.le_of_ble_eq_true rfl⟩, hT _ st_S_has⟩ (fn_pre fs_isnw hK hN hW) rfl rfl hl.1 rfl (lv_room (Nat.le_of_ble_eq_true rfl)) dS_check_48 ⟨Nat.le_of_ble_eq_true rfl, Nat.le_of_ble_eq_true rfl⟩) hW (fun r_4 M_5 H locs hp_6 hW => ?_)
          have hW : fm_W D fs_cl5 A M s.heap H locs := by rw [← hp_6.2]; exact hW
          have er_4 := hp_6.1
          refine lv_if_eq (tgt := 78) hx hb dS_check_51 (by decide) (fun c_7 => ?_) (fun c_7 => ?_)
          · have hf : bl st i = false := (fs_b_eq0 _).mp (er_4.symm.trans c_7)
            refine lv_iinc (v := nI (i + 1)) (lv' := [(7, .int (nI (i + 1))), (0, .ref b), (1, .long st), (3, .int (nI (cn 4))), (4, .int cv), (5, .long hv)]) hx hb dS_check_78 hl (k := 0) rfl (by show nI i + 1 = nI (i + 1); exact nI_1 i) (by decide) rfl (fun ls hl => ?_)
            refine lv_goto (tgt := 36) hx hb dS_check_81 (by decide) ?_
            exact back (cv, hv) _ _ _ ls ⟨rfl, by rw [hU]; exact (if_neg (by rw [hf]; decide)).symm⟩ hW (lv_sub hl [0, 1, 2, 3, 4, 5] rfl)
          · have ht : bl st i = true := by
              cases hz : bl st i with
              | true => rfl
              | false => exact absurd (by rw [er_4, hz]; rfl) c_7
            refine lv_iload hx hb dS_check_54 (lv_at hl 4 rfl) ?_
            refine lv_aload_n hx hb dS_check_56 rfl (lv_at hl 1 rfl) ?_
            refine fm_get (ci := 3) (v := .ref (b + 25)) (C := RS) (T := TS) (N := 11) hx hb hT inS hown hK hW hC.1 rfl 1 (by decide) (hT _ fl_S_16) (fun _ h9 => h9) rfl dS_check_57 ?_
            refine lv_iload hx hb dS_check_60 (lv_at hl 0 rfl) ?_
            refine fn_iald hx hb hK hW 0 hC.2.2.1 rfl (show i < _ by omega) (by decide) dS_check_62 ?_
            refine lv_ixor hx hb dS_check_63 ?_
            refine lv_topi (fun x_8 ex_8 => ?_)
            refine lv_istore (lv' := [(4, .int x_8), (7, .int (nI i)), (0, .ref b), (1, .long st), (3, .int (nI (cn 4))), (5, .long hv)]) hx hb dS_check_64 hl (by decide) rfl (fun ls hl => ?_)
            refine lv_lload hx hb dS_check_66 (lv_at hl 5 rfl) ?_
            refine lv_aload_n hx hb dS_check_68 rfl (lv_at hl 2 rfl) ?_
            refine fm_get (ci := 3) (v := .ref (b + 26)) (C := RS) (T := TS) (N := 11) hx hb hT inS hown hK hW hC.1 rfl 2 (by decide) (hT _ fl_S_20) (fun _ h9 => h9) rfl dS_check_69 ?_
            refine lv_iload hx hb dS_check_72 (lv_at hl 1 rfl) ?_
            refine fn_lald hx hb hK hW 1 hC.2.2.2.1 rfl (show i < _ by omega) (by decide) dS_check_74 ?_
            refine lv_lxor hx hb dS_check_75 ?_
            refine lv_topl (fun x_9 ex_9 => ?_)
            refine lv_lstore (lv' := [(5, .long x_9), (4, .int x_8), (7, .int (nI i)), (0, .ref b), (1, .long st), (3, .int (nI (cn 4)))]) hx hb dS_check_76 hl (by decide) rfl (fun ls hl => ?_)
            have hU2 : (x_8, x_9) = fs_xr lc lr st (i + 1) := by
              rw [ex_8, ex_9, show fs_xr lc lr st (i + 1) = _ from if_pos ht, ← hU]
            refine lv_iinc (v := nI (i + 1)) (lv' := [(7, .int (nI (i + 1))), (5, .long x_9), (4, .int x_8), (0, .ref b), (1, .long st), (3, .int (nI (cn 4)))]) hx hb dS_check_78 hl (k := 2) rfl (by show nI i + 1 = nI (i + 1); exact nI_1 i) (by decide) rfl (fun ls hl => ?_)
            refine lv_goto (tgt := 36) hx hb dS_check_81 (by decide) ?_
            exact back (x_8, x_9) _ _ _ ls ⟨rfl, hU2⟩ hW (lv_sub hl [0, 3, 4, 5, 2, 1] rfl)
      · intro u M2 H locs ls hI hW hl
        obtain ⟨cv, hv⟩ := u
        obtain ⟨hMe, hU⟩ := hI
        have hU : (cv, hv) = fs_xr lc lr st (cn 2) := hU
        have hW : fm_W D fs_cl5 A M s.heap H locs := by rw [← hMe]; exact hW
        have hl : lv_has ls 8 [(7, .int (nI (cn 2))), (0, .ref b), (1, .long st), (3, .int (nI (cn 4))), (4, .int cv), (5, .long hv)] := hl
        refine lv_iload hx hb dS_check_36 (lv_at hl 0 rfl) ?_
        refine lv_aload_n hx hb dS_check_38 rfl (lv_at hl 1 rfl) ?_
        refine fm_get (ci := 3) (v := .int (nI (cn 2))) (C := RS) (T := TS) (N := 11) hx hb hT inS hown hK hW hC.1 rfl 8 (by decide) (hT _ fl_S_66) (fun _ h9 => h9) rfl dS_check_39 ?_
        have hu1 : cv = (fs_xr lc lr st (cn 2)).1 := congrArg (fun z : Int32 × Int64 => z.1) hU
        have hu2 : hv = (fs_xr lc lr st (cn 2)).2 := congrArg (fun z : Int32 × Int64 => z.2) hU
        refine lv_icmp_ge (tgt := 84) hx hb dS_check_42 (by decide) (fun c_10 => ?_) (fun c_10 => ?_)
        · refine lv_aload_n hx hb dS_check_84 rfl (lv_at hl 1 rfl) ?_
          refine fm_get (ci := 3) (v := .ref (b + 108)) (C := RS) (T := TS) (N := 11) hx hb hT inS hown hK hW hC.1 rfl 4 (by decide) (hT _ fl_S_31) (fun _ h9 => h9) rfl dS_check_85 ?_
          refine lv_iload_n hx hb dS_check_88 rfl (lv_at hl 3 rfl) ?_
          refine lv_iload hx hb dS_check_89 (lv_at hl 4 rfl) ?_
          refine fn_iast hx hb hK hW 0 hC.2.2.2.2.2.2.2.1 rfl (show (cn 4) < _ by omega) (by decide) dS_check_91 (fun H locs hW => ?_)
          obtain ⟨M_11, eM_11⟩ : ∃ z : fm_M, z = va_up M (b + 108) (some (.inl (ct 0, 16, .inl (upd cc (cn 4) cv)))) := ⟨_, rfl⟩
          have hW : fm_W D fs_cl5 A M_11 s.heap H locs := by rw [eM_11]; exact hW
          have hC : fs_CW ct M_11 b cn kp pn pr lc lr fr od cl ck (upd cc (cn 4) cv) cr := by rw [eM_11]; exact fs_CW_cc hC _
          have hCf : fs_Cf b M M_11 := by rw [eM_11]; exact fs_Cf_u hCf (by omega) _
          refine lv_aload_n hx hb dS_check_92 rfl (lv_at hl 1 rfl) ?_
          refine fm_get (ci := 3) (v := .ref (b + 109)) (C := RS) (T := TS) (N := 11) hx hb hT inS hown hK hW hC.1 rfl 5 (by decide) (hT _ fl_S_34) (fun _ h9 => h9) rfl dS_check_93 ?_
          refine lv_iload_n hx hb dS_check_96 rfl (lv_at hl 3 rfl) ?_
          refine lv_lload hx hb dS_check_97 (lv_at hl 5 rfl) ?_
          refine fn_last hx hb hK hW 1 hC.2.2.2.2.2.2.2.2 rfl (show (cn 4) < _ by omega) (by decide) dS_check_99 (fun H locs hW => ?_)
          obtain ⟨M_12, eM_12⟩ : ∃ z : fm_M, z = va_up M_11 (b + 109) (some (.inl (ct 1, 16, .inr (.inl (vp_updL cr (cn 4) hv))))) := ⟨_, rfl⟩
          have hW : fm_W D fs_cl5 A M_12 s.heap H locs := by rw [eM_12]; exact hW
          have hC : fs_CW ct M_12 b cn kp pn pr lc lr fr od cl ck (upd cc (cn 4) cv) (vp_updL cr (cn 4) hv) := by rw [eM_12]; exact fs_CW_cr hC _
          have hCf : fs_Cf b M M_12 := by rw [eM_12]; exact fs_Cf_u hCf (by omega) _
          refine lv_iconst (v := 0) hx hb dS_check_100 (by decide) ?_
          refine lv_istore (lv' := [(7, .int 0), (0, .ref b), (1, .long st), (3, .int (nI (cn 4))), (4, .int cv), (5, .long hv)]) hx hb dS_check_101 hl (by decide) rfl (fun ls hl => ?_)
          refine fm_loop (head := 103) (maxL := 8) (cn 3) (fun i (u : Nat → Int32) M1 => fs_CW ct M1 b cn kp pn pr lc lr fr od cl u (upd cc (cn 4) cv) (vp_updL cr (cn 4) hv) ∧ fs_Cf b M M1 ∧ fs_Up i ck (fun j => ck j ||| ((fs_bcl (cl j &&& st) &&& 1) <<< (nI (cn 4) &&& 31))) u) (fun i (u : Nat → Int32) => [(7, .int (nI i)), (0, .ref b), (1, .long st), (3, .int (nI (cn 4)))]) ?_ ?_ (cn 3) 0 (by omega) ck M_12 _ _ ls ⟨hC, hCf, fs_Up_0 _ _⟩ hW (lv_sub hl [0, 1, 2, 3] rfl)
          · intro i u M2 H locs ls hi hI hW hl back
            obtain ⟨hC, hCf, hU⟩ := hI
            have hl : lv_has ls 8 [(7, .int (nI i)), (0, .ref b), (1, .long st), (3, .int (nI (cn 4)))] := hl
            refine lv_iload hx hb dS_check_103 (lv_at hl 0 rfl) ?_
            refine lv_aload_n hx hb dS_check_105 rfl (lv_at hl 1 rfl) ?_
            refine fm_get (ci := 3) (v := .int (nI (cn 3))) (C := RS) (T := TS) (N := 11) hx hb hT inS hown hK hW hC.1 rfl 9 (by decide) (hT _ fl_S_56) (fun _ h9 => h9) rfl dS_check_106 ?_
            refine lv_icmp_ge (tgt := 130) hx hb dS_check_109 (by decide) (fun c_13 => ?_) (fun c_13 => ?_)
            · exact absurd c_13 (nI_ge hi (by omega))
            · refine lv_aload_n hx hb dS_check_112 rfl (lv_at hl 1 rfl) ?_
              refine fm_get (ci := 3) (v := .ref (b + 27)) (C := RS) (T := TS) (N := 11) hx hb hT inS hown hK hW hC.1 rfl 3 (by decide) (hT _ fl_S_26) (fun _ h9 => h9) rfl dS_check_113 ?_
              refine lv_iload hx hb dS_check_116 (lv_at hl 0 rfl) ?_
              refine fm_aald hx hb hK hW 4 hC.2.2.2.2.1 rfl (vp_in_nI (N := 40) (by omega) (by decide)) (fs_rf_at (by omega)) dS_check_118 ?_
              refine lv_iload_n hx hb dS_check_119 rfl (lv_at hl 3 rfl) ?_
              refine lv_lload_n hx hb dS_check_120 rfl (lv_at hl 2 rfl) ?_
              refine fm_callv (va_runV (As := [.int (nI (cn 4)), .long st]) (rest := []) ⟨hx, hb, hml, hown, hts⟩ (c_F_meetCheck l D ct A M2 (b + 28 + 2 * i) (b + 29 + 2 * i) (od i) (cl i) (u i) (fr i) (nI (cn 4)) st (hC.2.2.2.2.2.1 i (by omega)) (hC.2.2.2.2.2.2.1 i (by omega)) (by omega)) ⟨callB_of 2 hts (fs_gin co_F_meetCheck) rfl rfl rfl (hT _ ini_F) (hT _ ml_S_98) (by decide +kernel) ⟨Nat.le_of_ble_eq_true rfl, Nat.le_of_ble_eq_true rfl⟩, hT _ im_F_meetCheck, hT _ se_F_meetCheck⟩ (fn_preV fs_isnw hK hN hW (hC.2.2.2.2.2.1 i (by omega)) rfl) rfl rfl hl.1 rfl (lv_room (Nat.le_of_ble_eq_true rfl)) dS_check_121 ⟨Nat.le_of_ble_eq_true rfl, Nat.le_of_ble_eq_true rfl⟩) hW (fun M_15 H locs hp_16 hW => ?_)
              have hC : fs_CW ct M_15 b cn kp pn pr lc lr fr od cl (va_up u i (u i ||| ((fs_bcl (cl i &&& st) &&& 1) <<< (nI (cn 4) &&& 31)))) (upd cc (cn 4) cv) (vp_updL cr (cn 4) hv) := by rw [hp_16]; exact fs_CW_MC hC (by omega) _
              have hCf : fs_Cf b M M_15 := by rw [hp_16]; exact fs_Cf_u hCf (by omega) _
              refine lv_iinc (v := nI (i + 1)) (lv' := [(7, .int (nI (i + 1))), (0, .ref b), (1, .long st), (3, .int (nI (cn 4)))]) hx hb dS_check_124 hl (k := 0) rfl (by show nI i + 1 = nI (i + 1); exact nI_1 i) (by decide) rfl (fun ls hl => ?_)
              refine lv_goto (tgt := 103) hx hb dS_check_127 (by decide) ?_
              exact back _ _ _ _ ls ⟨hC, hCf, fs_Up_s hU (by rw [hU.2 i (Nat.le_refl i)])⟩ hW (lv_sub hl [0, 1, 2, 3] rfl)
          · intro u M2 H locs ls hI hW hl
            obtain ⟨hC, hCf, hU⟩ := hI
            have hl : lv_has ls 8 [(7, .int (nI (cn 3))), (0, .ref b), (1, .long st), (3, .int (nI (cn 4)))] := hl
            refine lv_iload hx hb dS_check_103 (lv_at hl 0 rfl) ?_
            refine lv_aload_n hx hb dS_check_105 rfl (lv_at hl 1 rfl) ?_
            refine fm_get (ci := 3) (v := .int (nI (cn 3))) (C := RS) (T := TS) (N := 11) hx hb hT inS hown hK hW hC.1 rfl 9 (by decide) (hT _ fl_S_56) (fun _ h9 => h9) rfl dS_check_106 ?_
            refine lv_icmp_ge (tgt := 130) hx hb dS_check_109 (by decide) (fun c_17 => ?_) (fun c_17 => ?_)
            · refine lv_aload_n hx hb dS_check_130 rfl (lv_at hl 1 rfl) ?_
              refine lv_dup hx hb dS_check_131 rfl ?_
              refine fm_get (ci := 3) (v := .int (nI (cn 4))) (C := RS) (T := TS) (N := 11) hx hb hT inS hown hK hW hC.1 rfl 10 (by decide) (hT _ fl_S_91) (fun _ h9 => h9) rfl dS_check_132 ?_
              refine lv_iconst (v := 1) hx hb dS_check_135 (by decide) ?_
              refine lv_iadd hx hb dS_check_136 ?_
              refine fm_put (ci := 3) (v := .int ((nI (cn 4)) + 1)) (ty := .int) (C := RS) (T := TS) (N := 11) hx hb hT inS tyS tkS nmS hown hK hW hC.1 rfl 10 (by decide) (hT _ fl_S_91) (fun _ h9 => h9) rfl (by decide +kernel) rfl rfl (Nat.le_of_ble_eq_true rfl) dS_check_137 (fun H locs hW => ?_)
              obtain ⟨M_18, eM_18⟩ : ∃ z : fm_M, z = va_up M2 b (some (.inr (3, [.ref (b + 1), .ref (b + 25), .ref (b + 26), .ref (b + 27), .ref (b + 108), .ref (b + 109), .int (nI (cn 0)), .int (nI (cn 1)), .int (nI (cn 2)), .int (nI (cn 3)), .int ((nI (cn 4)) + 1)]))) := ⟨_, rfl⟩
              have hW : fm_W D fs_cl5 A M_18 s.heap H locs := by rw [eM_18]; exact hW
              have f_19 : M_18 b = some (.inr (3, [.ref (b + 1), .ref (b + 25), .ref (b + 26), .ref (b + 27), .ref (b + 108), .ref (b + 109), .int (nI (cn 0)), .int (nI (cn 1)), .int (nI (cn 2)), .int (nI (cn 3)), .int ((nI (cn 4)) + 1)])) := by rw [eM_18]; exact fm_us
              have zM_18 : M_18 = va_up M2 b (some (fs_SE b (va_up cn 4 (cn 4 + 1)))) := by
                rw [eM_18]
                rw [nI_1]; rfl
              have hC : fs_CW ct M_18 b (va_up cn 4 (cn 4 + 1)) kp pn pr lc lr fr od cl u (upd cc (cn 4) cv) (vp_updL cr (cn 4) hv) := by rw [zM_18]; exact fs_CW_S hC rfl
              have hCf : fs_Cf b M M_18 := by rw [zM_18]; exact fs_Cf_u hCf (by omega) _
              refine lv_iload_n hx hb dS_check_140 rfl (lv_at hl 3 rfl) ?_
              exact fm_iret hx hb hr hlocks hW (Or.inr ⟨rfl, hck, u, by rw [← hu1, ← hu2]; exact hC, hCf, fun i hi => hU.1 i hi⟩) dS_check_141
            · exact absurd (nI_le (Nat.le_refl (cn 3)) (by omega)) c_17
        · exact absurd (nI_le (Nat.le_refl (cn 2)) (by omega)) c_10
    · refine lv_iconst (v := -1) hx hb dS_check_20 (by decide) ?_
      exact fm_iret hx hb hr hlocks hW (Or.inl ⟨rfl, rfl, fun z => c_2 z.2⟩) dS_check_21
/-- what the looks tell without faults -/
def fs_rn (lc : Nat → Int32) (lr : Nat → Int64) (tl : Int64) : Nat → Int64
  | 0 => 0
  | i + 1 => fs_rn lc lr tl i ||| ((lc i ^^^ (fs_bcl (lr i &&& tl) &&& 1)).toInt64 <<< ((nI i).toInt64 &&& 63))
def fs_rx (cl : Nat → Int64) (fa : Int64) (z : Int64) : Nat → Int64
  | 0 => z
  | i + 1 => if bl fa i = true then fs_rx cl fa z i ^^^ cl i else fs_rx cl fa z i
set_option maxHeartbeats 4000000 in
set_option maxRecDepth 100000 in
theorem c_S_run (l : Launch) (D : va_G) (ct : Nat → ClassId) (A : Nat → Prop) (M : fm_M) (b : Nat) (cn : Nat → Nat) (kp pn : Nat → fs_Q) (pr : fs_Q) (lc : Nat → Int32) (lr : Nat → Int64) (fr : Nat → fs_Q) (od : Nat → Int32) (cl : Nat → Int64) (ck : Nat → Int32) (cc : Nat → Int32) (cr : Nat → Int64) (fa tl : Int64) (hC : fs_CW ct M b cn kp pn pr lc lr fr od cl ck cc cr) (hB : fs_Bd cn) : Met l yS_run wS_run ({ frames := 2, cells := 0, slots := 0, locals := 42 }) (va_Pc [.ref b, .long fa, .long tl] (fm_St D fs_cl5 (fs_tys ct) fs_nw A M)) (va_Ql (fun (r : Int64) (M1 : fm_M) => M1 = M ∧ r = if fs_ushl fa (nI (cn 3)) = 0 then fs_rx cl fa (fs_rn lc lr tl (cn 2)) (cn 3) else -1) (fm_B D fs_cl5 A) A) 0 0 A := by
  refine Met.ofW (cc := cS_run) (maxL := 10) (ret := (some .long)) (by decide) rfl ?_
  intro p e s m args below meth c s₁ B hml hv
  obtain ⟨rfl, hP0, hA0, hA1, hK, hN⟩ := hv
  have hx := B.exec
  have hb := B.bytes
  have hr := B.returns
  have hts := atoms_spec (ws := wS_run) B.pre
  have hT : ∀ w ∈ fs_tb, w.before _ s = true := fun w h => hts w (List.mem_cons_of_mem _ h)
  have hown : s.vm.findClass "FrameSamples" = some m.cls := findClass_of_methodNamed B.named
  have hlocks := B.notSynchronized
  have hW : fm_W D fs_cl5 A M s.heap s.heap [] := ⟨hP0, hA0, va_S.rf, hA1⟩
  have hl := lv_entry ([.ref b, .long fa, .long tl]) (n := 10) (Nat.le_of_ble_eq_true rfl)
  rw [lg_entry_eq]
  generalize (lg_sl ([.ref b, .long fa, .long tl]) ++ List.replicate (10 - (lg_sl ([.ref b, .long fa, .long tl])).length) Slot.unset).toArray = ls at hl ⊢
  have hl : lv_has ls 10 [(0, .ref b), (1, .long fa), (3, .long tl)] := hl
  obtain ⟨hB0, hB1, hB2, hB3, hB4, hB5⟩ := hB
  have hCf : fs_Cf b M M := fs_Cf_r
  refine lv_lload_n hx hb dS_run_0 rfl (lv_at hl 1 rfl) ?_
  refine lv_aload_n hx hb dS_run_1 rfl (lv_at hl 0 rfl) ?_
  refine fm_get (ci := 3) (v := .int (nI (cn 3))) (C := RS) (T := TS) (N := 11) hx hb hT inS hown hK hW hC.1 rfl 9 (by decide) (hT _ fl_S_56) (fun _ h9 => h9) rfl dS_run_2 ?_
  refine lv_lushr (v := fs_ushl fa (nI (cn 3))) hx hb dS_run_5 rfl ?_
  refine lv_lconst (v := 0) hx hb dS_run_6 (by decide) ?_
  refine W.lcmp hx hb dS_run_7 ?_
  refine lv_if_eq (tgt := 15) hx hb dS_run_8 (by decide) (fun c_1 => ?_) (fun c_1 => ?_)
  · have h1 : fs_ushl fa (nI (cn 3)) = 0 := (lg_cmp_eq _ _).mp c_1
    refine lv_lconst (v := 0) hx hb dS_run_15 (by decide) ?_
    refine lv_lstore (lv' := [(5, .long 0), (0, .ref b), (1, .long fa), (3, .long tl)]) hx hb dS_run_16 hl (by decide) rfl (fun ls hl => ?_)
    refine lv_iconst (v := 0) hx hb dS_run_18 (by decide) ?_
    refine lv_istore (lv' := [(7, .int 0), (5, .long 0), (0, .ref b), (1, .long fa), (3, .long tl)]) hx hb dS_run_19 hl (by decide) rfl (fun ls hl => ?_)
    refine fm_loop (head := 21) (maxL := 10) (cn 2) (fun i (u : Int64) M1 => M1 = M ∧ u = fs_rn lc lr tl i) (fun i (u : Int64) => [(7, .int (nI i)), (0, .ref b), (1, .long fa), (3, .long tl), (5, .long u)]) ?_ ?_ (cn 2) 0 (by omega) 0 M _ _ ls ⟨rfl, rfl⟩ hW (lv_sub hl [0, 2, 3, 4, 1] rfl)
    · intro i u M2 H locs ls hi hI hW hl back
      obtain ⟨hMe, hU⟩ := hI
      have hW : fm_W D fs_cl5 A M s.heap H locs := by rw [← hMe]; exact hW
      have hl : lv_has ls 10 [(7, .int (nI i)), (0, .ref b), (1, .long fa), (3, .long tl), (5, .long u)] := hl
      refine lv_iload hx hb dS_run_21 (lv_at hl 0 rfl) ?_
      refine lv_aload_n hx hb dS_run_23 rfl (lv_at hl 1 rfl) ?_
      refine fm_get (ci := 3) (v := .int (nI (cn 2))) (C := RS) (T := TS) (N := 11) hx hb hT inS hown hK hW hC.1 rfl 8 (by decide) (hT _ fl_S_66) (fun _ h9 => h9) rfl dS_run_24 ?_
      refine lv_icmp_ge (tgt := 69) hx hb dS_run_27 (by decide) (fun c_2 => ?_) (fun c_2 => ?_)
      · exact absurd c_2 (nI_ge hi (by omega))
      · refine lv_aload_n hx hb dS_run_30 rfl (lv_at hl 1 rfl) ?_
        refine fm_get (ci := 3) (v := .ref (b + 25)) (C := RS) (T := TS) (N := 11) hx hb hT inS hown hK hW hC.1 rfl 1 (by decide) (hT _ fl_S_16) (fun _ h9 => h9) rfl dS_run_31 ?_
        refine lv_iload hx hb dS_run_34 (lv_at hl 0 rfl) ?_
        refine fn_iald hx hb hK hW 0 hC.2.2.1 rfl (show i < _ by omega) (by decide) dS_run_36 ?_
        refine lv_aload_n hx hb dS_run_37 rfl (lv_at hl 1 rfl) ?_
        refine fm_get (ci := 3) (v := .ref (b + 26)) (C := RS) (T := TS) (N := 11) hx hb hT inS hown hK hW hC.1 rfl 2 (by decide) (hT _ fl_S_20) (fun _ h9 => h9) rfl dS_run_38 ?_
        refine lv_iload hx hb dS_run_41 (lv_at hl 0 rfl) ?_
        refine fn_lald hx hb hK hW 1 hC.2.2.2.1 rfl (show i < _ by omega) (by decide) dS_run_43 ?_
        refine lv_lload_n hx hb dS_run_44 rfl (lv_at hl 3 rfl) ?_
        refine lv_land hx hb dS_run_45 ?_
        refine fm_calli (va_runS (As := [.long ((lr i) &&& tl)]) (rest := [.int (lc i)]) ⟨hx, hb, hml, hown, hts⟩ (c_S_parity l D ct A M ((lr i) &&& tl)) ⟨callB_of 1 hts (fs_gin co_S_parity) rfl rfl rfl (hT _ ini_S) (hT _ ml_S_125) (by decide +kernel) ⟨Nat.le_of_ble_eq_true rfl, Nat.le_of_ble_eq_true rfl⟩, hT _ st_S_parity⟩ (fn_pre fs_isnw hK hN hW) rfl rfl hl.1 rfl (lv_room (Nat.le_of_ble_eq_true rfl)) dS_run_46 ⟨Nat.le_of_ble_eq_true rfl, Nat.le_of_ble_eq_true rfl⟩) hW (fun r_3 M_4 H locs hp_5 hW => ?_)
        have hW : fm_W D fs_cl5 A M s.heap H locs := by rw [← hp_5.2]; exact hW
        have er_3 := hp_5.1
        refine lv_ixor hx hb dS_run_49 ?_
        refine lv_i2l (v := ((lc i) ^^^ r_3).toInt64) hx hb dS_run_50 rfl ?_
        refine lv_topl (fun x_6 ex_6 => ?_)
        refine lv_lstore (lv' := [(8, .long x_6), (7, .int (nI i)), (0, .ref b), (1, .long fa), (3, .long tl), (5, .long u)]) hx hb dS_run_51 hl (by decide) rfl (fun ls hl => ?_)
        refine lv_lload hx hb dS_run_53 (lv_at hl 5 rfl) ?_
        refine lv_lload hx hb dS_run_55 (lv_at hl 0 rfl) ?_
        refine lv_iload hx hb dS_run_57 (lv_at hl 1 rfl) ?_
        refine lv_lshl (v := x_6 <<< ((nI i).toInt64 &&& 63)) hx hb dS_run_59 rfl ?_
        refine lv_lor hx hb dS_run_60 ?_
        refine lv_topl (fun x_7 ex_7 => ?_)
        refine lv_lstore (lv' := [(5, .long x_7), (8, .long x_6), (7, .int (nI i)), (0, .ref b), (1, .long fa), (3, .long tl)]) hx hb dS_run_61 hl (by decide) rfl (fun ls hl => ?_)
        have hU2 : x_7 = fs_rn lc lr tl (i + 1) := by rw [ex_7, ex_6, er_3, hU]; rfl
        refine lv_iinc (v := nI (i + 1)) (lv' := [(7, .int (nI (i + 1))), (5, .long x_7), (8, .long x_6), (0, .ref b), (1, .long fa), (3, .long tl)]) hx hb dS_run_63 hl (k := 2) rfl (by show nI i + 1 = nI (i + 1); exact nI_1 i) (by decide) rfl (fun ls hl => ?_)
        refine lv_goto (tgt := 21) hx hb dS_run_66 (by decide) ?_
        exact back x_7 _ _ _ ls ⟨rfl, hU2⟩ hW (lv_sub hl [0, 3, 4, 5, 1] rfl)
    · intro u M2 H locs ls hI hW hl
      obtain ⟨hMe, hU⟩ := hI
      have hW : fm_W D fs_cl5 A M s.heap H locs := by rw [← hMe]; exact hW
      have hl : lv_has ls 10 [(7, .int (nI (cn 2))), (0, .ref b), (1, .long fa), (3, .long tl), (5, .long u)] := hl
      refine lv_iload hx hb dS_run_21 (lv_at hl 0 rfl) ?_
      refine lv_aload_n hx hb dS_run_23 rfl (lv_at hl 1 rfl) ?_
      refine fm_get (ci := 3) (v := .int (nI (cn 2))) (C := RS) (T := TS) (N := 11) hx hb hT inS hown hK hW hC.1 rfl 8 (by decide) (hT _ fl_S_66) (fun _ h9 => h9) rfl dS_run_24 ?_
      refine lv_icmp_ge (tgt := 69) hx hb dS_run_27 (by decide) (fun c_8 => ?_) (fun c_8 => ?_)
      · refine lv_iconst (v := 0) hx hb dS_run_69 (by decide) ?_
        refine lv_istore (lv' := [(7, .int 0), (0, .ref b), (1, .long fa), (3, .long tl), (5, .long u)]) hx hb dS_run_70 hl (by decide) rfl (fun ls hl => ?_)
        have hz : u = fs_rn lc lr tl (cn 2) := hU
        refine fm_loop (head := 72) (maxL := 10) (cn 3) (fun i (u : Int64) M1 => M1 = M ∧ u = fs_rx cl fa (fs_rn lc lr tl (cn 2)) i) (fun i (u : Int64) => [(7, .int (nI i)), (0, .ref b), (1, .long fa), (5, .long u)]) ?_ ?_ (cn 3) 0 (by omega) u M _ _ ls ⟨rfl, hz⟩ hW (lv_sub hl [0, 1, 2, 4] rfl)
        · intro i u M2 H locs ls hi hI hW hl back
          obtain ⟨hMe, hU⟩ := hI
          have hW : fm_W D fs_cl5 A M s.heap H locs := by rw [← hMe]; exact hW
          have hl : lv_has ls 10 [(7, .int (nI i)), (0, .ref b), (1, .long fa), (5, .long u)] := hl
          refine lv_iload hx hb dS_run_72 (lv_at hl 0 rfl) ?_
          refine lv_aload_n hx hb dS_run_74 rfl (lv_at hl 1 rfl) ?_
          refine fm_get (ci := 3) (v := .int (nI (cn 3))) (C := RS) (T := TS) (N := 11) hx hb hT inS hown hK hW hC.1 rfl 9 (by decide) (hT _ fl_S_56) (fun _ h9 => h9) rfl dS_run_75 ?_
          refine lv_icmp_ge (tgt := 111) hx hb dS_run_78 (by decide) (fun c_9 => ?_) (fun c_9 => ?_)
          · exact absurd c_9 (nI_ge hi (by omega))
          · refine lv_lload_n hx hb dS_run_81 rfl (lv_at hl 2 rfl) ?_
            refine lv_iload hx hb dS_run_82 (lv_at hl 0 rfl) ?_
            refine fm_calli (va_runS (As := [.long fa, .int (nI i)]) (rest := []) ⟨hx, hb, hml, hown, hts⟩ (c_S_has l D ct A M fa i (by omega)) ⟨callB_of 2 hts (fs_gin co_S_has) rfl rfl rfl (hT _ ini_S) (hT _ ml_S_94) (by decide +kernel) ⟨Nat.le_of_ble_eq_true rfl, Nat.le_of_ble_eq_true rfl⟩, hT _ st_S_has⟩ (fn_pre fs_isnw hK hN hW) rfl rfl hl.1 rfl (lv_room (Nat.le_of_ble_eq_true rfl)) dS_run_84 ⟨Nat.le_of_ble_eq_true rfl, Nat.le_of_ble_eq_true rfl⟩) hW (fun r_10 M_11 H locs hp_12 hW => ?_)
            have hW : fm_W D fs_cl5 A M s.heap H locs := by rw [← hp_12.2]; exact hW
            have er_10 := hp_12.1
            refine lv_if_eq (tgt := 105) hx hb dS_run_87 (by decide) (fun c_13 => ?_) (fun c_13 => ?_)
            · have hf : bl fa i = false := (fs_b_eq0 _).mp (er_10.symm.trans c_13)
              refine lv_iinc (v := nI (i + 1)) (lv' := [(7, .int (nI (i + 1))), (0, .ref b), (1, .long fa), (5, .long u)]) hx hb dS_run_105 hl (k := 0) rfl (by show nI i + 1 = nI (i + 1); exact nI_1 i) (by decide) rfl (fun ls hl => ?_)
              refine lv_goto (tgt := 72) hx hb dS_run_108 (by decide) ?_
              exact back u _ _ _ ls ⟨rfl, by rw [hU]; exact (if_neg (by rw [hf]; decide)).symm⟩ hW (lv_sub hl [0, 1, 2, 3] rfl)
            · have ht : bl fa i = true := by
                cases hz : bl fa i with
                | true => rfl
                | false => exact absurd (by rw [er_10, hz]; rfl) c_13
              refine lv_lload hx hb dS_run_90 (lv_at hl 3 rfl) ?_
              refine lv_aload_n hx hb dS_run_92 rfl (lv_at hl 1 rfl) ?_
              refine fm_get (ci := 3) (v := .ref (b + 27)) (C := RS) (T := TS) (N := 11) hx hb hT inS hown hK hW hC.1 rfl 3 (by decide) (hT _ fl_S_26) (fun _ h9 => h9) rfl dS_run_93 ?_
              refine lv_iload hx hb dS_run_96 (lv_at hl 0 rfl) ?_
              refine fm_aald hx hb hK hW 4 hC.2.2.2.2.1 rfl (vp_in_nI (N := 40) (by omega) (by decide)) (fs_rf_at (by omega)) dS_run_98 ?_
              refine fm_getN (ci := 2) (v := .long (cl i)) (C := RF) (T := TF) (N := 4) hx hb hT inF hown hK hW (hC.2.2.2.2.2.1 i (by omega)) rfl 2 (by decide) (hN _ (List.mem_of_getElem? (i := 12) rfl)) (fun _ h9 => h9) rfl dS_run_99 ?_
              refine lv_lxor hx hb dS_run_102 ?_
              refine lv_topl (fun x_14 ex_14 => ?_)
              refine lv_lstore (lv' := [(5, .long x_14), (7, .int (nI i)), (0, .ref b), (1, .long fa)]) hx hb dS_run_103 hl (by decide) rfl (fun ls hl => ?_)
              have hU2 : x_14 = fs_rx cl fa (fs_rn lc lr tl (cn 2)) (i + 1) := by
                rw [ex_14, hU]; exact (if_pos ht).symm
              refine lv_iinc (v := nI (i + 1)) (lv' := [(7, .int (nI (i + 1))), (5, .long x_14), (0, .ref b), (1, .long fa)]) hx hb dS_run_105 hl (k := 1) rfl (by show nI i + 1 = nI (i + 1); exact nI_1 i) (by decide) rfl (fun ls hl => ?_)
              refine lv_goto (tgt := 72) hx hb dS_run_108 (by decide) ?_
              exact back x_14 _ _ _ ls ⟨rfl, hU2⟩ hW (lv_sub hl [0, 2, 3, 1] rfl)
        · intro u M2 H locs ls hI hW hl
          obtain ⟨hMe, hU⟩ := hI
          have hW : fm_W D fs_cl5 A M s.heap H locs := by rw [← hMe]; exact hW
          have hl : lv_has ls 10 [(7, .int (nI (cn 3))), (0, .ref b), (1, .long fa), (5, .long u)] := hl
          refine lv_iload hx hb dS_run_72 (lv_at hl 0 rfl) ?_
          refine lv_aload_n hx hb dS_run_74 rfl (lv_at hl 1 rfl) ?_
          refine fm_get (ci := 3) (v := .int (nI (cn 3))) (C := RS) (T := TS) (N := 11) hx hb hT inS hown hK hW hC.1 rfl 9 (by decide) (hT _ fl_S_56) (fun _ h9 => h9) rfl dS_run_75 ?_
          refine lv_icmp_ge (tgt := 111) hx hb dS_run_78 (by decide) (fun c_15 => ?_) (fun c_15 => ?_)
          · refine lv_lload hx hb dS_run_111 (lv_at hl 3 rfl) ?_
            exact fm_lret hx hb hr hlocks hW ⟨rfl, by rw [if_pos h1]; exact hU⟩ dS_run_113
          · exact absurd (nI_le (Nat.le_refl (cn 3)) (by omega)) c_15
      · exact absurd (nI_le (Nat.le_refl (cn 2)) (by omega)) c_8
  · refine lv_ldc2 hx hb hown (hT _ cn_S_102) dS_run_11 ?_
    exact fm_lret hx hb hr hlocks hW ⟨rfl, (if_neg (fun z => c_1 ((lg_cmp_eq _ _).mpr z))).symm⟩ dS_run_14
end
