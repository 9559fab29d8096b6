-- a fault on its way: the class's frame and the reference's goX, goZ, changed
abbrev fs_G : Type := Int32 × Int32 × Int64
def fs_go (k a o : Int32) (g : fs_G) : fs_G :=
  let x := fs_bi g.1 a
  let z := fs_bi g.2.1 a
  if k = 0 then (g.1 ^^^ ((x ^^^ z) <<< (a &&& 31)), g.2.1 ^^^ ((x ^^^ z) <<< (a &&& 31)), g.2.2)
  else if k = 1 then (g.1, g.2.1 ^^^ (x <<< (a &&& 31)), g.2.2)
  else if k = 2 then (g.1 ^^^ (x <<< (o &&& 31)), g.2.1 ^^^ (fs_bi g.2.1 o <<< (a &&& 31)), g.2.2)
  else if k = 3 then (g.1, g.2.1 ^^^ ((fs_bi g.1 o <<< (a &&& 31)) ||| (x <<< (o &&& 31))), g.2.2)
  else if k = 4 then (g.1 ^^^ (((x ^^^ fs_bi g.1 o) <<< (a &&& 31)) ||| ((x ^^^ fs_bi g.1 o) <<< (o &&& 31))), g.2.1 ^^^ (((z ^^^ fs_bi g.2.1 o) <<< (a &&& 31)) ||| ((z ^^^ fs_bi g.2.1 o) <<< (o &&& 31))), g.2.2)
  else if k = 7 ∨ k = 8 then (if k = 8 then g.1 &&& ((1 <<< (a &&& 31)) ^^^ (-1)) else g.1, g.2.1 &&& ((1 <<< (a &&& 31)) ^^^ (-1)), if x = 1 then g.2.2 ||| (1 <<< (o.toInt64 &&& 63)) else g.2.2)
  else g
theorem fs_go_gate {κ : Nat} (hκ : κ ≤ 6) (a o : Int32) (g : fs_G) : fs_go (nI κ) a o g = ((fs_gd (g.1, g.2.1, 0, 0) (nI κ) a o).1, (fs_gd (g.1, g.2.1, 0, 0) (nI κ) a o).2.1, g.2.2) :=
  fs_kind7 (P := fun κ => fs_go (nI κ) a o g = ((fs_gd (g.1, g.2.1, 0, 0) (nI κ) a o).1, (fs_gd (g.1, g.2.1, 0, 0) (nI κ) a o).2.1, g.2.2)) rfl rfl rfl rfl rfl rfl rfl hκ
theorem fs_go_fault (a o : Int32) (g : fs_G) : fs_go 9 a o g = g := rfl
theorem fs_go_look (rs : Bool) (a o : Int32) (g : fs_G) : fs_go (if rs = true then 8 else 7) a o g = (if rs = true then g.1 &&& ((1 <<< (a &&& 31)) ^^^ (-1)) else g.1, g.2.1 &&& ((1 <<< (a &&& 31)) ^^^ (-1)), if fs_bi g.1 a = 1 then g.2.2 ||| (1 <<< (o.toInt64 &&& 63)) else g.2.2) := by
  cases rs <;> rfl
/-- the frame at a look -/
def fs_mk (q : fs_Q) (a : Int32) (rs : Bool) : fs_Q := (if rs = true then q.1 &&& ((1 <<< (a &&& 31)) ^^^ (-1)) else q.1, q.2.1 &&& ((1 <<< (a &&& 31)) ^^^ (-1)), q.2.2.1, q.2.2.2)
def fs_FR (n L : Nat) (fr : fs_Q) (ch : Int64) (g : fs_G) : Prop := fs_sq n fr ∧ fs_vv fr = (bt g.1, bt g.2.1) ∧ ch = g.2.2 ∧ fs_lt ch L
theorem fs_FR_gate {n L κ α β : Nat} {o : Int32} {fr : fs_Q} {ch : Int64} {g : fs_G} (hn : n ≤ 10) (hg : fs_okg n κ α β) (ho : 2 ≤ κ → κ ≤ 4 → o = nI β) (F : fs_FR n L fr ch g) : fs_FR n L (fs_ps fr (nI κ) (nI α) o) ch (fs_go (nI κ) (nI α) o g) := by
  obtain ⟨f1, f2, f3, f4⟩ := F
  have e := fs_ps_abs hn hg ho f1.2
  have e2 := fs_gd_abs (q := (g.1, g.2.1, 0, 0)) hn hg ho fs_01_0
  refine ⟨fs_sq_gr hg f1 e, ?_, ?_, f4⟩
  · rw [fs_go_gate hg.1]
    show (fs_abs (fs_ps fr (nI κ) (nI α) o)).1 = (fs_abs (fs_gd (g.1, g.2.1, 0, 0) (nI κ) (nI α) o)).1
    rw [e.1, e2.1]
    show fs_ga κ α β (fs_vv fr) = fs_ga κ α β (bt g.1, bt g.2.1)
    rw [f2]
  · rw [fs_go_gate hg.1]; exact f3
theorem fs_FR_fault {n L : Nat} {fr : fs_Q} {ch : Int64} {g : fs_G} (F : fs_FR n L fr ch g) (a o : Int32) : fs_FR n L fr ch (fs_go 9 a o g) := F
theorem fs_su_out {n a : Nat} {f : Nat → Bool} (h : ∀ w, n ≤ w → f w = false) : ∀ w, n ≤ w → fs_up f a false w = false := fun w hw => by
  unfold fs_up
  split
  · rfl
  · exact h w hw
theorem fs_or0 (x : Int64) : x ||| 0 = x := bl_ext fun i _ => by rw [bl_or, bl_0, Bool.or_false]
theorem fs_sh0 {a : Nat} (ha : a < 64) : fs_bL false <<< ((nI a).toInt64 &&& 63) = 0 := bl_ext fun i _ => by rw [fs_shL ha, Bool.and_false, bl_0]
theorem fs_FR_look {n L α : Nat} {rs : Bool} {fr : fs_Q} {ch : Int64} {g : fs_G} (hn : n ≤ 10) (ha : α < n) (hL : L < 60) (F : fs_FR n L fr ch g) :
    fs_FR n (L + 1) (fs_mk fr (nI α) rs) (ch ||| ((fs_xOn fr (nI α)).toInt64 <<< ((nI L).toInt64 &&& 63))) (fs_go (if rs = true then 8 else 7) (nI α) (nI L) g) := by
  obtain ⟨⟨f0, f1⟩, f2, f3, f4⟩ := F
  have ha' : α < 32 := by omega
  have v1 : bt fr.1 = bt g.1 := congrArg Prod.fst f2
  have v2 : bt fr.2.1 = bt g.2.1 := congrArg Prod.snd f2
  have s1 : ∀ w, n ≤ w → bt fr.1 w = false := fun w hw => (f0 w hw).1
  have s2 : ∀ w, n ≤ w → bt fr.2.1 w = false := fun w hw => (f0 w hw).2
  have ec : (ch ||| ((fs_xOn fr (nI α)).toInt64 <<< ((nI L).toInt64 &&& 63))) = if fs_bi g.1 (nI α) = 1 then g.2.2 ||| (1 <<< ((nI L).toInt64 &&& 63)) else g.2.2 := by
    rw [fs_xOn_b ha', fs_bi_b ha', show (fs_abs fr).1.1 α = bt g.1 α from congrFun v1 α, fs_b_L, f3]
    cases hb : bt g.1 α with
    | true => rw [if_pos (show fs_b true = 1 by decide)]; rfl
    | false => rw [if_neg (by decide), fs_sh0 (by omega), fs_or0]
  rw [fs_go_look]
  refine ⟨⟨?_, f1⟩, ?_, ec, ?_⟩
  · refine fs_su_i ?_ ?_
    · show ∀ w, n ≤ w → bt (if rs = true then fr.1 &&& ((1 <<< (nI α &&& 31)) ^^^ (-1)) else fr.1) w = false
      split
      · rw [fs_out ha']; exact fs_su_out s1
      · exact s1
    · show ∀ w, n ≤ w → bt (fr.2.1 &&& ((1 <<< (nI α &&& 31)) ^^^ (-1))) w = false
      rw [fs_out ha']; exact fs_su_out s2
  · refine Prod.ext ?_ ?_
    · show bt (if rs = true then fr.1 &&& ((1 <<< (nI α &&& 31)) ^^^ (-1)) else fr.1) = bt (if rs = true then g.1 &&& ((1 <<< (nI α &&& 31)) ^^^ (-1)) else g.1)
      split
      · rw [fs_out ha', fs_out ha', v1]
      · exact v1
    · show bt (fr.2.1 &&& ((1 <<< (nI α &&& 31)) ^^^ (-1))) = bt (g.2.1 &&& ((1 <<< (nI α &&& 31)) ^^^ (-1)))
      rw [fs_out ha', fs_out ha', v2]
  · intro i hi
    rw [bl_or, f4 i (by omega), Bool.false_or, fs_xOn_b ha', fs_b_L, fs_shL (by omega), decide_eq_false (by omega), Bool.false_and]
theorem fs_FR_up {n L L' : Nat} {fr : fs_Q} {ch : Int64} {g : fs_G} (F : fs_FR n L fr ch g) (h : L ≤ L') : fs_FR n L' fr ch g := ⟨F.1, F.2.1, F.2.2.1, fun i hi => F.2.2.2 i (by omega)⟩
/-- how a fault begins -/
def fs_fx (w a : Int32) : Int32 := if w = 2 then 0 else 1 <<< (a &&& 31)
def fs_fz (w a : Int32) : Int32 := if w = 0 then 0 else 1 <<< (a &&& 31)
theorem fs_FR_start {n L α : Nat} {w : Int32} (hn : n ≤ 10) (ha : α < n) : fs_FR n L (fs_fx w (nI α), fs_fz w (nI α), 0, 0) 0 (fs_fx w (nI α), fs_fz w (nI α), 0) := by
  refine ⟨⟨fs_su_i ?_ ?_, fs_01_0⟩, rfl, rfl, fun i _ => bl_0 i⟩
  · show ∀ w', n ≤ w' → bt (fs_fx w (nI α)) w' = false
    unfold fs_fx
    split
    · exact fun i _ => b_0 i
    · intro i hi
      rw [fs_sh1 (by omega), decide_eq_false (by omega)]
  · show ∀ w', n ≤ w' → bt (fs_fz w (nI α)) w' = false
    unfold fs_fz
    split
    · exact fun i _ => b_0 i
    · intro i hi
      rw [fs_sh1 (by omega), decide_eq_false (by omega)]
/-- from act t + 1 on -/
def fs_gor (kd on ot : Nat → Int32) (g0 : fs_G) (t : Nat) : Nat → fs_G
  | 0 => g0
  | j + 1 => fs_go (kd (t + 1 + j)) (on (t + 1 + j)) (ot (t + 1 + j)) (fs_gor kd on ot g0 t j)
theorem fs_gor_congr {kd on ot kd' on' ot' : Nat → Int32} {g0 : fs_G} {t m : Nat} (he : ∀ k, k < m → kd' k = kd k ∧ on' k = on k ∧ ot' k = ot k) : ∀ j, t + 1 + j ≤ m → fs_gor kd' on' ot' g0 t j = fs_gor kd on ot g0 t j := by
  intro j
  induction j with
  | zero => intro _; rfl
  | succ j ih =>
    intro h
    obtain ⟨e1, e2, e3⟩ := he (t + 1 + j) (by omega)
    show fs_go _ _ _ _ = fs_go _ _ _ _
    rw [e1, e2, e3, ih (by omega)]
-- checks
/-- the exclusive or of what the looks of a set tell -/
def fs_xr (lc : Nat → Int32) (lr : Nat → Int64) (st : Int64) : Nat → Int32 × Int64
  | 0 => (0, 0)
  | k + 1 => if bl st k = true then ((fs_xr lc lr st k).1 ^^^ lc k, (fs_xr lc lr st k).2 ^^^ lr k) else fs_xr lc lr st k
theorem fs_xr_congr {lc lc' : Nat → Int32} {lr lr' : Nat → Int64} {st : Int64} : ∀ {L : Nat}, (∀ i, i < L → lc' i = lc i ∧ lr' i = lr i) → fs_xr lc' lr' st L = fs_xr lc lr st L
  | 0, _ => rfl
  | L + 1, h => by
    show (if bl st L = true then _ else _) = (if bl st L = true then _ else _)
    rw [fs_xr_congr (L := L) (fun i hi => h i (by omega)), (h L (by omega)).1, (h L (by omega)).2]
theorem fs_xr_more {lc : Nat → Int32} {lr : Nat → Int64} {st : Int64} {L L' : Nat} (h : fs_lt st L) (hL : L ≤ L') : fs_xr lc lr st L' = fs_xr lc lr st L := by
  induction L' with
  | zero => rw [show L = 0 by omega]
  | succ k ih =>
    by_cases q : L = k + 1
    · rw [q]
    · show (if bl st k = true then _ else _) = _
      rw [h k (by omega), if_neg (by decide)]
      exact ih (by omega)
/-- the checks that a set of changed looks changes -/
def fs_ck (cs : Nat → Int64) (ch : Int64) : Nat → Int32
  | 0 => 0
  | c + 1 => fs_ck cs ch c ||| (fs_b (fs_pa (ch &&& cs c)) <<< (nI c &&& 31))
theorem fs_ck_congr {cs cs' : Nat → Int64} {ch ch' : Int64} : ∀ {C : Nat}, (∀ c, c < C → ch' &&& cs' c = ch &&& cs c) → fs_ck cs' ch' C = fs_ck cs ch C
  | 0, _ => rfl
  | C + 1, h => by
    show fs_ck cs' ch' C ||| _ = fs_ck cs ch C ||| _
    rw [fs_ck_congr (C := C) (fun c hc => h c (by omega)), h C (by omega)]
/-- a look more changes no check of the looks before -/
theorem fs_and_new {ch st : Int64} {L : Nat} {b : Bool} (hL : L < 64) (h : fs_lt st L) : (ch ||| (fs_bL b <<< ((nI L).toInt64 &&& 63))) &&& st = ch &&& st := by
  refine bl_ext fun i _ => ?_
  rw [bl_and, bl_and, bl_or, fs_shL hL]
  rcases Nat.lt_or_ge i L with q | q
  · rw [decide_eq_false (by omega), Bool.false_and, Bool.or_false]
  · rw [h i q, Bool.and_false, Bool.and_false]
theorem fs_and0 (st : Int64) : (0 : Int64) &&& st = 0 := bl_ext fun i _ => by rw [bl_and, bl_0, Bool.false_and]
theorem fs_pa0 : fs_pa 0 = false := by decide
theorem fs_b0sh : ∀ c, c < 32 → fs_b false <<< (nI c &&& 31) = 0 := by decide +kernel
theorem fs_ck_0 {cs : Nat → Int64} : ∀ {C : Nat}, C ≤ 16 → fs_ck cs 0 C = 0
  | 0, _ => rfl
  | C + 1, h => by
    show fs_ck cs 0 C ||| _ = 0
    rw [fs_ck_0 (C := C) (by omega), fs_and0, fs_pa0, fs_b0sh C (by omega)]
    rfl
-- THE RELATION of the class's state and the reference's
/-- n wires, m acts, L looks, F faults, C checks -/
def fs_Rel (n m L F C : Nat) (kp pn : Nat → fs_Q) (lc : Nat → Int32) (lr : Nat → Int64) (fr : Nat → fs_Q) (od : Nat → Int32) (cl : Nat → Int64) (ck : Nat → Int32) (cc : Nat → Int32) (cr : Nat → Int64)
    (kd on ot fa fw fo : Nat → Int32) (cs : Nat → Int64) : Prop :=
  (1 ≤ n ∧ n ≤ 10 ∧ m ≤ 300 ∧ L ≤ 60 ∧ F ≤ 40 ∧ C ≤ 16) ∧ fs_RP n kd on ot m L kp pn lc lr ∧
  (∀ f, f < F → ∃ t α : Nat, t < m ∧ α < n ∧ fa f = nI t ∧ on t = nI α ∧ od f = fo f ∧ (∃ k : Nat, k ≤ 16 ∧ fo f = nI k) ∧ fs_FR n L (fr f) (cl f) (fs_gor kd on ot (fs_fx (fw f) (nI α), fs_fz (fw f) (nI α), 0) t (m - (t + 1))) ∧ ck f = fs_ck cs (cl f) C) ∧
  (∀ c, c < C → fs_lt (cs c) L ∧ cc c = (fs_xr lc lr (cs c) L).1 ∧ cr c = (fs_xr lc lr (cs c) L).2)
