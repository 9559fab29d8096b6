-- signed products of x's and z's, with a phase mod 4 and a set of random looks: a group; what its rows span
abbrev fs_V : Type := (Nat → Bool) × (Nat → Bool)
abbrev fs_E : Type := fs_V × BitVec 2 × Int64
def fs_par (f : Nat → Bool) : Nat → Bool
  | 0 => false
  | n + 1 => fs_par f n ^^ f n
def fs_s (f : Nat → BitVec 2) : Nat → BitVec 2
  | 0 => 0#2
  | n + 1 => fs_s f n + f n
def fs_d (b : Bool) : BitVec 2 := bif b then 2#2 else 0#2
def fs_o (b : Bool) : BitVec 2 := bif b then 1#2 else 0#2
theorem fs_d_xor : ∀ a b : Bool, fs_d (a ^^ b) = fs_d a + fs_d b := by decide
theorem fs_d_inj : ∀ a b : Bool, fs_d a = fs_d b → a = b := by decide
theorem fs_par_congr {f g : Nat → Bool} {n : Nat} (h : ∀ w, w < n → f w = g w) : fs_par f n = fs_par g n := by
  induction n with
  | zero => rfl
  | succ n ih =>
    show (fs_par f n ^^ f n) = (fs_par g n ^^ g n)
    rw [ih (fun w hw => h w (by omega)), h n (by omega)]
theorem fs_s_congr {f g : Nat → BitVec 2} {n : Nat} (h : ∀ w, w < n → f w = g w) : fs_s f n = fs_s g n := by
  induction n with
  | zero => rfl
  | succ n ih =>
    show fs_s f n + f n = fs_s g n + g n
    rw [ih (fun w hw => h w (by omega)), h n (by omega)]
theorem fs_bx4 : ∀ a b c d : Bool, ((a ^^ b) ^^ (c ^^ d)) = ((a ^^ c) ^^ (b ^^ d)) := by decide
theorem fs_par_xor (f g : Nat → Bool) (n : Nat) : fs_par (fun w => f w ^^ g w) n = (fs_par f n ^^ fs_par g n) := by
  induction n with
  | zero => rfl
  | succ n ih =>
    show (fs_par (fun w => f w ^^ g w) n ^^ (f n ^^ g n)) = _
    rw [ih]
    exact fs_bx4 _ _ _ _
theorem fs_par_false (n : Nat) : fs_par (fun _ => false) n = false := by
  induction n with
  | zero => rfl
  | succ n ih =>
    show (fs_par (fun _ => false) n ^^ false) = false
    rw [ih]; rfl
theorem fs_va4 : ∀ a b c d : BitVec 2, a + b + (c + d) = a + c + (b + d) := by decide +kernel
theorem fs_s_add (f g : Nat → BitVec 2) (n : Nat) : fs_s (fun w => f w + g w) n = fs_s f n + fs_s g n := by
  induction n with
  | zero => rfl
  | succ n ih =>
    show fs_s (fun w => f w + g w) n + (f n + g n) = _
    rw [ih]
    exact fs_va4 _ _ _ _
theorem fs_s_d (f : Nat → Bool) (n : Nat) : fs_s (fun w => fs_d (f w)) n = fs_d (fs_par f n) := by
  induction n with
  | zero => rfl
  | succ n ih =>
    show fs_s (fun w => fs_d (f w)) n + fs_d (f n) = fs_d (fs_par f n ^^ f n)
    rw [ih, fs_d_xor]
/-- one place changed -/
theorem fs_par_upd {f g : Nat → Bool} {a : Nat} : ∀ {n : Nat}, a < n → (∀ w, w < n → w ≠ a → f w = g w) → fs_par f n = (fs_par g n ^^ (f a ^^ g a))
  | 0, h, _ => absurd h (Nat.not_lt_zero _)
  | n + 1, h, he => by
    show (fs_par f n ^^ f n) = ((fs_par g n ^^ g n) ^^ (f a ^^ g a))
    by_cases hn : a = n
    · subst hn
      rw [fs_par_congr (n := a) (fun w hw => he w (by omega) (by omega))]
      generalize fs_par g a = x; generalize f a = y; generalize g a = z
      revert x y z; decide
    · rw [fs_par_upd (n := n) (by omega) (fun w hw => he w (by omega)), he n (by omega) (fun h => hn h.symm)]
      generalize fs_par g n = x; generalize g n = y; generalize (f a ^^ g a) = z
      revert x y z; decide
theorem fs_s_upd {f g : Nat → BitVec 2} {a : Nat} : ∀ {n : Nat}, a < n → (∀ w, w < n → w ≠ a → f w = g w) → fs_s f n = fs_s g n + (f a - g a)
  | 0, h, _ => absurd h (Nat.not_lt_zero _)
  | n + 1, h, he => by
    show fs_s f n + f n = (fs_s g n + g n) + (f a - g a)
    by_cases hn : a = n
    · subst hn
      rw [fs_s_congr (n := a) (fun w hw => he w (by omega) (by omega))]
      generalize fs_s g a = x; generalize f a = y; generalize g a = z
      revert x y z; decide +kernel
    · rw [fs_s_upd (n := n) (by omega) (fun w hw => he w (by omega)), he n (by omega) (fun h => hn h.symm)]
      generalize fs_s g n = x; generalize g n = y; generalize (f a - g a) = z
      revert x y z; decide +kernel
def fs_up (f : Nat → Bool) (a : Nat) (v : Bool) : Nat → Bool := fun w => if w = a then v else f w
theorem fs_up_s (f : Nat → Bool) (a : Nat) (v : Bool) : fs_up f a v a = v := if_pos rfl
theorem fs_up_n {f : Nat → Bool} {a w : Nat} {v : Bool} (h : w ≠ a) : fs_up f a v w = f w := if_neg h
theorem fs_par_upd2 {f g : Nat → Bool} {a b n : Nat} (ha : a < n) (hb : b < n) (hab : a ≠ b) (he : ∀ w, w < n → w ≠ a → w ≠ b → f w = g w) : fs_par f n = (fs_par g n ^^ ((f a ^^ g a) ^^ (f b ^^ g b))) := by
  have h1 : fs_par f n = (fs_par (fs_up f a (g a)) n ^^ (f a ^^ g a)) := by
    have := fs_par_upd (f := f) (g := fs_up f a (g a)) ha (fun w _ hw => (fs_up_n hw).symm)
    rw [fs_up_s] at this
    exact this
  have h2 : fs_par (fs_up f a (g a)) n = (fs_par g n ^^ (f b ^^ g b)) := by
    have := fs_par_upd (f := fs_up f a (g a)) (g := g) hb (fun w hw hwb => by
      by_cases hwa : w = a
      · subst hwa; exact fs_up_s _ _ _
      · rw [fs_up_n hwa]; exact he w hw hwa hwb)
    rw [fs_up_n (fun h => hab h.symm)] at this
    exact this
  rw [h1, h2]
  generalize fs_par g n = x; generalize (f a ^^ g a) = y; generalize (f b ^^ g b) = z
  revert x y z; decide
theorem fs_s_upd2 {f g : Nat → BitVec 2} {a b n : Nat} (ha : a < n) (hb : b < n) (hab : a ≠ b) (he : ∀ w, w < n → w ≠ a → w ≠ b → f w = g w) : fs_s f n = fs_s g n + ((f a - g a) + (f b - g b)) := by
  have h1 : fs_s f n = fs_s (fun w => if w = a then g a else f w) n + (f a - g a) := by
    have := fs_s_upd (f := f) (g := fun w => if w = a then g a else f w) ha (fun w _ hw => by simp [hw])
    simpa using this
  have h2 : fs_s (fun w => if w = a then g a else f w) n = fs_s g n + (f b - g b) := by
    have := fs_s_upd (f := fun w => if w = a then g a else f w) (g := g) hb (fun w hw hwb => by
      by_cases hwa : w = a
      · subst hwa; simp
      · simp [hwa]; exact he w hw hwa hwb)
    simpa [Ne.symm hab] using this
  rw [h1, h2]
  generalize fs_s g n = x; generalize (f a - g a) = y; generalize (f b - g b) = z
  revert x y z; decide +kernel
-- the form
def fs_lp (z x : Nat → Bool) : Bool := fs_par (fun w => z w && x w) 10
def fs_va (u v : fs_V) : fs_V := (fun w => u.1 w ^^ v.1 w, fun w => u.2 w ^^ v.2 w)
def fs_v0 : fs_V := (fun _ => false, fun _ => false)
def fs_om (u v : fs_V) : Bool := fs_lp u.2 v.1 ^^ fs_lp v.2 u.1
theorem fs_and_xor_l : ∀ a b c : Bool, ((a ^^ b) && c) = ((a && c) ^^ (b && c)) := by decide
theorem fs_and_xor_r : ∀ a b c : Bool, (c && (a ^^ b)) = ((c && a) ^^ (c && b)) := by decide
theorem fs_lp_l (z1 z2 x : Nat → Bool) : fs_lp (fun w => z1 w ^^ z2 w) x = (fs_lp z1 x ^^ fs_lp z2 x) := by
  unfold fs_lp
  rw [← fs_par_xor]
  exact fs_par_congr (fun w _ => fs_and_xor_l _ _ _)
theorem fs_lp_r (z x1 x2 : Nat → Bool) : fs_lp z (fun w => x1 w ^^ x2 w) = (fs_lp z x1 ^^ fs_lp z x2) := by
  unfold fs_lp
  rw [← fs_par_xor]
  exact fs_par_congr (fun w _ => fs_and_xor_r _ _ _)
theorem fs_om_l (u v t : fs_V) : fs_om (fs_va u v) t = (fs_om u t ^^ fs_om v t) := by
  unfold fs_om fs_va
  dsimp only
  rw [fs_lp_l, fs_lp_r]
  exact fs_bx4 _ _ _ _
theorem fs_om_r (u v t : fs_V) : fs_om t (fs_va u v) = (fs_om t u ^^ fs_om t v) := by
  unfold fs_om fs_va
  dsimp only
  rw [fs_lp_l, fs_lp_r]
  exact fs_bx4 _ _ _ _
theorem fs_om_c (u v : fs_V) : fs_om u v = fs_om v u := by
  unfold fs_om
  exact Bool.xor_comm _ _
theorem fs_om_s (u : fs_V) : fs_om u u = false := by
  unfold fs_om
  exact Bool.xor_self _
theorem fs_lp_0l (x : Nat → Bool) : fs_lp (fun _ => false) x = false := by
  unfold fs_lp
  simp only [Bool.false_and]
  exact fs_par_false 10
theorem fs_lp_0r (x : Nat → Bool) : fs_lp x (fun _ => false) = false := by
  unfold fs_lp
  simp only [Bool.and_false]
  exact fs_par_false 10
theorem fs_om_0 (u : fs_V) : fs_om u fs_v0 = false := by
  unfold fs_om fs_v0
  dsimp only
  rw [fs_lp_0l, fs_lp_0r]; rfl
theorem fs_V_ext {u v : fs_V} (h : ∀ w, u.1 w = v.1 w ∧ u.2 w = v.2 w) : u = v := Prod.ext (funext fun w => (h w).1) (funext fun w => (h w).2)
theorem fs_va_assoc (u v t : fs_V) : fs_va (fs_va u v) t = fs_va u (fs_va v t) := fs_V_ext fun w => ⟨Bool.xor_assoc _ _ _, Bool.xor_assoc _ _ _⟩
theorem fs_va_comm (u v : fs_V) : fs_va u v = fs_va v u := fs_V_ext fun w => ⟨Bool.xor_comm _ _, Bool.xor_comm _ _⟩
theorem fs_va_self (u : fs_V) : fs_va u u = fs_v0 := fs_V_ext fun w => ⟨Bool.xor_self _, Bool.xor_self _⟩
theorem fs_va_0 (u : fs_V) : fs_va u fs_v0 = u := fs_V_ext fun w => ⟨Bool.xor_false _, Bool.xor_false _⟩
theorem fs_va_0l (u : fs_V) : fs_va fs_v0 u = u := fs_V_ext fun w => ⟨Bool.false_xor _, Bool.false_xor _⟩
-- the group
def fs_one : fs_E := (fs_v0, 0#2, 0)
def fs_mul (g h : fs_E) : fs_E := (fs_va g.1 h.1, g.2.1 + h.2.1 + fs_d (fs_lp g.1.2 h.1.1), g.2.2 ^^^ h.2.2)
theorem fs_x64a (a b c : Int64) : a ^^^ b ^^^ c = a ^^^ (b ^^^ c) := Int64.toBitVec_inj.mp (by rw [Int64.toBitVec_xor, Int64.toBitVec_xor, Int64.toBitVec_xor, Int64.toBitVec_xor, BitVec.xor_assoc])
theorem fs_x64c (a b : Int64) : a ^^^ b = b ^^^ a := Int64.toBitVec_inj.mp (by rw [Int64.toBitVec_xor, Int64.toBitVec_xor, BitVec.xor_comm])
theorem fs_x64s (a : Int64) : a ^^^ a = 0 := Int64.toBitVec_inj.mp (by rw [Int64.toBitVec_xor, BitVec.xor_self]; rfl)
theorem fs_x640 (a : Int64) : a ^^^ 0 = a := Int64.toBitVec_inj.mp (by rw [Int64.toBitVec_xor]; exact BitVec.xor_zero)
theorem fs_asc : ∀ (a b c : BitVec 2) (l1 l2 l3 : Bool), a + b + fs_d l1 + c + fs_d (l2 ^^ l3) = a + (b + c + fs_d l3) + fs_d (l1 ^^ l2) := by decide +kernel
theorem fs_mul_assoc (g h k : fs_E) : fs_mul (fs_mul g h) k = fs_mul g (fs_mul h k) := by
  unfold fs_mul
  dsimp only
  refine Prod.ext (fs_va_assoc _ _ _) (Prod.ext ?_ (fs_x64a _ _ _))
  show _ + _ = _ + _
  unfold fs_va
  dsimp only
  rw [fs_lp_l, fs_lp_r]
  exact fs_asc _ _ _ _ _ _
theorem fs_mul_1 (g : fs_E) : fs_mul g fs_one = g := by
  unfold fs_mul fs_one
  dsimp only
  refine Prod.ext (fs_va_0 _) (Prod.ext ?_ (fs_x640 _))
  show g.2.1 + 0#2 + fs_d (fs_lp g.1.2 fs_v0.1) = g.2.1
  rw [show fs_lp g.1.2 fs_v0.1 = false from fs_lp_0r _]
  show g.2.1 + 0#2 + 0#2 = g.2.1
  rw [BitVec.add_zero, BitVec.add_zero]
theorem fs_1_mul (g : fs_E) : fs_mul fs_one g = g := by
  unfold fs_mul fs_one
  dsimp only
  refine Prod.ext (fs_va_0l _) (Prod.ext ?_ ((fs_x64c _ _).trans (fs_x640 _)))
  show 0#2 + g.2.1 + fs_d (fs_lp fs_v0.2 g.1.1) = g.2.1
  rw [show fs_lp fs_v0.2 g.1.1 = false from fs_lp_0l _]
  show 0#2 + g.2.1 + 0#2 = g.2.1
  rw [BitVec.zero_add, BitVec.add_zero]
theorem fs_xf : ∀ a b : Bool, (a ^^ b) = false → a = b := by decide
theorem fs_mul_comm {g h : fs_E} (c : fs_om g.1 h.1 = false) : fs_mul g h = fs_mul h g := by
  have e : fs_lp g.1.2 h.1.1 = fs_lp h.1.2 g.1.1 := fs_xf _ _ c
  unfold fs_mul
  try dsimp only
  refine Prod.ext (fs_va_comm _ _) (Prod.ext ?_ (fs_x64c _ _))
  show _ + _ = _ + _
  rw [e, BitVec.add_comm g.2.1]
def fs_inv (g : fs_E) : Prop := fs_mul g g = fs_one
theorem fs_inv_mul {g h : fs_E} (c : fs_om g.1 h.1 = false) (a : fs_inv g) (b : fs_inv h) : fs_inv (fs_mul g h) := by
  unfold fs_inv at *
  rw [fs_mul_assoc, ← fs_mul_assoc h g h, fs_mul_comm (g := h) (h := g) (by rw [fs_om_c]; exact c), fs_mul_assoc g h h, b, fs_mul_1, a]
-- what rows span
def fs_Sp (n : Nat) (R : Nat → fs_E) (g : fs_E) : Prop := ∀ S : fs_E → Prop, S fs_one → (∀ (g : fs_E) (i : Nat), i < n → S g → S (fs_mul g (R i))) → S g
theorem fs_Sp_1 {n : Nat} {R : Nat → fs_E} : fs_Sp n R fs_one := fun _ h _ => h
theorem fs_Sp_r {n : Nat} {R : Nat → fs_E} {g : fs_E} {i : Nat} (hi : i < n) (h : fs_Sp n R g) : fs_Sp n R (fs_mul g (R i)) := fun S h1 h2 => h2 _ i hi (h S h1 h2)
theorem fs_Sp_g {n : Nat} {R : Nat → fs_E} {i : Nat} (hi : i < n) : fs_Sp n R (R i) := by
  have := fs_Sp_r hi (fs_Sp_1 (n := n) (R := R))
  rwa [fs_1_mul] at this
theorem fs_Sp_mul {n : Nat} {R : Nat → fs_E} {g h : fs_E} (hg : fs_Sp n R g) (hh : fs_Sp n R h) : fs_Sp n R (fs_mul g h) := by
  refine hh (fun k => fs_Sp n R (fs_mul g k)) ?_ ?_
  · rw [fs_mul_1]; exact hg
  · intro k i hi hk
    rw [← fs_mul_assoc]
    exact fs_Sp_r hi hk
theorem fs_Sp_le {n : Nat} {R R' : Nat → fs_E} (h : ∀ i, i < n → fs_Sp n R' (R i)) {g : fs_E} (hg : fs_Sp n R g) : fs_Sp n R' g :=
  hg (fs_Sp n R') fs_Sp_1 (fun _ i hi hk => fs_Sp_mul hk (h i hi))
theorem fs_Sp_congr {n : Nat} {R R' : Nat → fs_E} (h : ∀ i, i < n → R i = R' i) (g : fs_E) : fs_Sp n R g ↔ fs_Sp n R' g :=
  ⟨fs_Sp_le (fun i hi => by rw [h i hi]; exact fs_Sp_g hi), fs_Sp_le (fun i hi => by rw [← h i hi]; exact fs_Sp_g hi)⟩
/-- rows commute: so does what they span -/
def fs_Cm (n : Nat) (R : Nat → fs_E) : Prop := ∀ i j, i < n → j < n → fs_om (R i).1 (R j).1 = false
theorem fs_mul_v (g h : fs_E) : (fs_mul g h).1 = fs_va g.1 h.1 := rfl
theorem fs_Sp_om1 {n : Nat} {R : Nat → fs_E} {v : fs_V} (h : ∀ i, i < n → fs_om (R i).1 v = false) {g : fs_E} (hg : fs_Sp n R g) : fs_om g.1 v = false := by
  refine hg (fun g => fs_om g.1 v = false) ?_ ?_
  · rw [fs_om_c]; exact fs_om_0 v
  · intro k i hi hk
    rw [fs_mul_v, fs_om_l, hk, h i hi]; rfl
theorem fs_Sp_om {n : Nat} {R : Nat → fs_E} (hC : fs_Cm n R) {g h : fs_E} (hg : fs_Sp n R g) (hh : fs_Sp n R h) : fs_om g.1 h.1 = false :=
  fs_Sp_om1 (fun i hi => by rw [fs_om_c]; exact fs_Sp_om1 (fun j hj => hC j i hj hi) hh) hg
theorem fs_Sp_inv {n : Nat} {R : Nat → fs_E} (hC : fs_Cm n R) (hI : ∀ i, i < n → fs_inv (R i)) {g : fs_E} (hg : fs_Sp n R g) : fs_inv g := by
  have : fs_Sp n R g ∧ fs_inv g := by
    refine hg (fun g => fs_Sp n R g ∧ fs_inv g) ⟨fs_Sp_1, fs_mul_1 _⟩ ?_
    intro k i hi hk
    exact ⟨fs_Sp_r hi hk.1, fs_inv_mul (fs_Sp_om hC hk.1 (fs_Sp_g hi)) hk.2 (hI i hi)⟩
  exact this.2
/-- a map that keeps products -/
theorem fs_Sp_map {n : Nat} {R : Nat → fs_E} {f : fs_E → fs_E} (h1 : f fs_one = fs_one) (hm : ∀ g h, f (fs_mul g h) = fs_mul (f g) (f h)) (g : fs_E) : fs_Sp n (fun i => f (R i)) g ↔ ∃ k, fs_Sp n R k ∧ g = f k := by
  constructor
  · intro hg
    refine hg (fun g => ∃ k, fs_Sp n R k ∧ g = f k) ⟨fs_one, fs_Sp_1, h1.symm⟩ ?_
    rintro g i hi ⟨k, hk, rfl⟩
    exact ⟨fs_mul k (R i), fs_Sp_r hi hk, (hm _ _).symm⟩
  · rintro ⟨k, hk, rfl⟩
    refine hk (fun k => fs_Sp n (fun i => f (R i)) (f k)) ?_ ?_
    · rw [h1]; exact fs_Sp_1
    · intro k i hi h
      rw [hm]
      exact fs_Sp_r (R := fun i => f (R i)) hi h
/-- a look that is random: the pivot row goes, the rows that have an x there are multiplied by it -/
def fs_col (R : Nat → fs_E) (p : Nat) (q : fs_E) : Nat → fs_E := fun i => if i = p then q else if fs_om (R i).1 q.1 = true then fs_mul (R i) (R p) else R i
theorem fs_ndt : ∀ a : Bool, ¬ a = true → a = false := by decide
theorem fs_col_in {n p : Nat} {R : Nat → fs_E} {q : fs_E} (hp : p < n) {i : Nat} (hi : i < n) (hip : i ≠ p) (hk : fs_om (R p).1 q.1 = true) : fs_Sp n R (fs_col R p q i) ∧ fs_om (fs_col R p q i).1 q.1 = false := by
  unfold fs_col
  rw [if_neg hip]
  by_cases h : fs_om (R i).1 q.1 = true
  · rw [if_pos h]
    exact ⟨fs_Sp_mul (fs_Sp_g hi) (fs_Sp_g hp), by rw [fs_mul_v, fs_om_l, h, hk]; rfl⟩
  · rw [if_neg h]
    exact ⟨fs_Sp_g hi, fs_ndt _ h⟩
theorem fs_Sp_col {n p : Nat} {R : Nat → fs_E} {q : fs_E} (hp : p < n) (hC : fs_Cm n R) (hI : ∀ i, i < n → fs_inv (R i)) (hq : fs_inv q) (hk : fs_om (R p).1 q.1 = true) (g : fs_E) :
    fs_Sp n (fs_col R p q) g ↔ ∃ k, fs_Sp n R k ∧ fs_om k.1 q.1 = false ∧ (g = k ∨ g = fs_mul k q) := by
  constructor
  · intro hg
    refine hg (fun g => ∃ k, fs_Sp n R k ∧ fs_om k.1 q.1 = false ∧ (g = k ∨ g = fs_mul k q)) ⟨fs_one, fs_Sp_1, by rw [fs_om_c]; exact fs_om_0 _, Or.inl rfl⟩ ?_
    rintro g i hi ⟨k, hk1, hk2, hk3⟩
    by_cases hip : i = p
    · have e : fs_col R p q i = q := by unfold fs_col; rw [if_pos hip]
      rw [e]
      rcases hk3 with rfl | rfl
      · exact ⟨g, hk1, hk2, Or.inr rfl⟩
      · exact ⟨k, hk1, hk2, Or.inl (by rw [fs_mul_assoc, show fs_mul q q = fs_one from hq, fs_mul_1])⟩
    · obtain ⟨a1, a2⟩ := fs_col_in hp hi hip hk
      refine ⟨fs_mul k (fs_col R p q i), fs_Sp_mul hk1 a1, by rw [fs_mul_v, fs_om_l, hk2, a2]; rfl, ?_⟩
      rcases hk3 with rfl | rfl
      · exact Or.inl rfl
      · right
        rw [fs_mul_assoc, fs_mul_comm (g := q) (by rw [fs_om_c]; exact a2), ← fs_mul_assoc]
  · have key : ∀ k, fs_Sp n R k → (fs_om k.1 q.1 = false → fs_Sp n (fs_col R p q) k) ∧ (fs_om k.1 q.1 = true → fs_Sp n (fs_col R p q) (fs_mul k (R p))) := by
      intro k hk0
      have : fs_Sp n R k ∧ ((fs_om k.1 q.1 = false → fs_Sp n (fs_col R p q) k) ∧ (fs_om k.1 q.1 = true → fs_Sp n (fs_col R p q) (fs_mul k (R p)))) := by
        refine hk0 (fun k => fs_Sp n R k ∧ ((fs_om k.1 q.1 = false → fs_Sp n (fs_col R p q) k) ∧ (fs_om k.1 q.1 = true → fs_Sp n (fs_col R p q) (fs_mul k (R p))))) ⟨fs_Sp_1, fun _ => fs_Sp_1, fun h => ?_⟩ ?_
        · have := fs_om_0 q.1
          rw [fs_om_c] at this
          rw [show fs_om fs_one.1 q.1 = false from this] at h
          cases h
        · rintro k i hi ⟨hk1, ha, hb⟩
          have hsq : fs_mul (R p) (R p) = fs_one := hI p hp
          refine ⟨fs_Sp_r hi hk1, ?_, ?_⟩
          · intro h
            rw [fs_mul_v, fs_om_l] at h
            by_cases hki : fs_om (R i).1 q.1 = true
            · have hkk : fs_om k.1 q.1 = true := by rw [hki] at h; revert h; generalize fs_om k.1 q.1 = b; revert b; decide
              have h1 := hb hkk
              by_cases hip : i = p
              · rw [hip]; exact h1
              · have e : fs_col R p q i = fs_mul (R i) (R p) := by unfold fs_col; rw [if_neg hip, if_pos hki]
                have h2 := fs_Sp_r hi h1
                rw [e, fs_mul_comm (g := R i) (hC i p hi hp), fs_mul_assoc, ← fs_mul_assoc (R p), hsq, fs_1_mul] at h2
                exact h2
            · have hki' := fs_ndt _ hki
              have hkk : fs_om k.1 q.1 = false := by rw [hki'] at h; revert h; generalize fs_om k.1 q.1 = b; revert b; decide
              have hip : i ≠ p := fun z => hki (by rw [z]; exact hk)
              have e : fs_col R p q i = R i := by unfold fs_col; rw [if_neg hip, if_neg hki]
              have h2 := fs_Sp_r hi (ha hkk)
              rw [e] at h2
              exact h2
          · intro h
            rw [fs_mul_v, fs_om_l] at h
            by_cases hki : fs_om (R i).1 q.1 = true
            · have hkk : fs_om k.1 q.1 = false := by rw [hki] at h; revert h; generalize fs_om k.1 q.1 = b; revert b; decide
              have h1 := ha hkk
              by_cases hip : i = p
              · rw [hip, fs_mul_assoc, hsq, fs_mul_1]; exact h1
              · have e : fs_col R p q i = fs_mul (R i) (R p) := by unfold fs_col; rw [if_neg hip, if_pos hki]
                have h2 := fs_Sp_r hi h1
                rw [e, ← fs_mul_assoc] at h2
                exact h2
            · have hki' := fs_ndt _ hki
              have hkk : fs_om k.1 q.1 = true := by rw [hki'] at h; revert h; generalize fs_om k.1 q.1 = b; revert b; decide
              have hip : i ≠ p := fun z => hki (by rw [z]; exact hk)
              have e : fs_col R p q i = R i := by unfold fs_col; rw [if_neg hip, if_neg hki]
              have h2 := fs_Sp_r hi (hb hkk)
              rw [e, fs_mul_assoc, fs_mul_comm (g := R p) (hC p i hp hi), ← fs_mul_assoc] at h2
              exact h2
      exact this.2
    have hqin : fs_Sp n (fs_col R p q) q := by
      have := fs_Sp_g (R := fs_col R p q) hp
      rwa [show fs_col R p q p = q by unfold fs_col; rw [if_pos rfl]] at this
    rintro ⟨k, hk1, hk2, rfl | rfl⟩
    · exact (key _ hk1).1 hk2
    · exact fs_Sp_mul ((key _ hk1).1 hk2) hqin
/-- a row multiplied by another: the same span -/
theorem fs_Sp_step {n p r : Nat} {R : Nat → fs_E} (hp : p < n) (hr : r < n) (hrp : r ≠ p) (hI : fs_inv (R p)) (g : fs_E) : fs_Sp n (fun i => if i = r then fs_mul (R r) (R p) else R i) g ↔ fs_Sp n R g := by
  have hpp : (fun i => if i = r then fs_mul (R r) (R p) else R i) p = R p := if_neg (Ne.symm hrp)
  constructor
  · refine fs_Sp_le (fun i hi => ?_)
    show fs_Sp n R (if i = r then fs_mul (R r) (R p) else R i)
    split
    · exact fs_Sp_mul (fs_Sp_g hr) (fs_Sp_g hp)
    · exact fs_Sp_g hi
  · refine fs_Sp_le (fun i hi => ?_)
    by_cases h : i = r
    · have h1 := fs_Sp_g (R := fun i => if i = r then fs_mul (R r) (R p) else R i) hr
      have h2 := fs_Sp_g (R := fun i => if i = r then fs_mul (R r) (R p) else R i) hp
      have h3 := fs_Sp_mul h1 h2
      rw [if_pos rfl, if_neg (Ne.symm hrp), fs_mul_assoc, show fs_mul (R p) (R p) = fs_one from hI, fs_mul_1] at h3
      rw [h]; exact h3
    · have h1 := fs_Sp_g (R := fun i => if i = r then fs_mul (R r) (R p) else R i) hi
      rwa [if_neg h] at h1
-- a product of chosen rows
def fs_pr (K : Nat → fs_E) (c : Nat → Bool) : Nat → fs_E
  | 0 => fs_one
  | n + 1 => if c n = true then fs_mul (fs_pr K c n) (K n) else fs_pr K c n
theorem fs_pr_congr {K : Nat → fs_E} {c c' : Nat → Bool} {n : Nat} (h : ∀ i, i < n → c i = c' i) : fs_pr K c n = fs_pr K c' n := by
  induction n with
  | zero => rfl
  | succ n ih =>
    show (if c n = true then fs_mul (fs_pr K c n) (K n) else fs_pr K c n) = (if c' n = true then fs_mul (fs_pr K c' n) (K n) else fs_pr K c' n)
    rw [ih (fun i hi => h i (by omega)), h n (by omega)]
theorem fs_pr_in {N : Nat} {K : Nat → fs_E} {c : Nat → Bool} {n : Nat} (hn : n ≤ N) : fs_Sp N K (fs_pr K c n) := by
  induction n with
  | zero => exact fs_Sp_1
  | succ n ih =>
    show fs_Sp N K (if c n = true then fs_mul (fs_pr K c n) (K n) else fs_pr K c n)
    split
    · exact fs_Sp_r (by omega) (ih (by omega))
    · exact ih (by omega)
theorem fs_pr_flip {N : Nat} {K : Nat → fs_E} (hC : fs_Cm N K) (hI : ∀ i, i < N → fs_inv (K i)) {c c' : Nat → Bool} {j : Nat} (hj : c' j = !c j) (ho : ∀ i, i ≠ j → c' i = c i) : ∀ {n : Nat}, n ≤ N → j < n → fs_pr K c' n = fs_mul (fs_pr K c n) (K j)
  | 0, _, h => absurd h (Nat.not_lt_zero _)
  | n + 1, hN, h => by
    show (if c' n = true then fs_mul (fs_pr K c' n) (K n) else fs_pr K c' n) = fs_mul (if c n = true then fs_mul (fs_pr K c n) (K n) else fs_pr K c n) (K j)
    by_cases hjn : j = n
    · subst hjn
      rw [fs_pr_congr (c := c') (c' := c) (n := j) (fun i hi => ho i (by omega)), hj]
      cases hc : c j with
      | true =>
        simp only [Bool.not_true, if_true, Bool.false_eq_true, if_false]
        rw [fs_mul_assoc, show fs_mul (K j) (K j) = fs_one from hI j (by omega), fs_mul_1]
      | false => simp only [Bool.not_false, if_true, Bool.false_eq_true, if_false]
    · rw [fs_pr_flip hC hI hj ho (n := n) (by omega) (by omega), ho n (fun z => hjn z.symm)]
      split
      · rw [fs_mul_assoc, fs_mul_comm (g := K j) (hC j n (by omega) (by omega)), ← fs_mul_assoc]
      · rfl
/-- partners tell the rows that a product is made of: so the sign is one for each product -/
theorem fs_pr_all {n : Nat} {K : Nat → fs_E} {P : Nat → fs_V} (hC : fs_Cm n K) (hI : ∀ i, i < n → fs_inv (K i)) (hP : ∀ i j, i < n → j < n → fs_om (P i) (K j).1 = decide (i = j)) {g : fs_E} (hg : fs_Sp n K g) : g = fs_pr K (fun i => fs_om (P i) g.1) n := by
  refine hg (fun g => g = fs_pr K (fun i => fs_om (P i) g.1) n) ?_ ?_
  · have : ∀ m, fs_pr K (fun i => fs_om (P i) fs_one.1) m = fs_one := by
      intro m
      induction m with
      | zero => rfl
      | succ m ih =>
        show (if fs_om (P m) fs_one.1 = true then _ else fs_pr K (fun i => fs_om (P i) fs_one.1) m) = fs_one
        rw [if_neg (by rw [show fs_om (P m) fs_one.1 = false from fs_om_0 _]; decide)]
        exact ih
    exact (this n).symm
  · intro g j hj hg
    have h1 := fs_pr_flip (K := K) hC hI (c := fun i => fs_om (P i) g.1) (c' := fun i => if i < n then fs_om (P i) (fs_mul g (K j)).1 else fs_om (P i) g.1) (j := j)
      (by simp only [hj, if_true]; rw [fs_mul_v, fs_om_r, hP j j hj hj]; simp)
      (fun i hij => by
        split
        · rename_i hi
          rw [fs_mul_v, fs_om_r, hP i j hi hj, decide_eq_false hij, Bool.xor_false]
        · rfl) (n := n) (Nat.le_refl n) hj
    rw [← hg] at h1
    refine h1.symm.trans ?_
    exact fs_pr_congr (fun i hi => by rw [if_pos hi])
theorem fs_Sp_one {n : Nat} {K : Nat → fs_E} {P : Nat → fs_V} (hC : fs_Cm n K) (hI : ∀ i, i < n → fs_inv (K i)) (hP : ∀ i j, i < n → j < n → fs_om (P i) (K j).1 = decide (i = j)) {g h : fs_E} (hg : fs_Sp n K g) (hh : fs_Sp n K h) (e : g.1 = h.1) : g = h := by
  rw [fs_pr_all hC hI hP hg, fs_pr_all hC hI hP hh, e]
