-- what every call keeps of both states
theorem fs_gor_n {kd on ot kd' on' ot' : Nat → Int32} {g0 : fs_G} {t m : Nat} (ht : t < m) (he : ∀ k, k < m → kd' k = kd k ∧ on' k = on k ∧ ot' k = ot k) : fs_gor kd' on' ot' g0 t (m + 1 - (t + 1)) = fs_go (kd' m) (on' m) (ot' m) (fs_gor kd on ot g0 t (m - (t + 1))) := by
  rw [show m + 1 - (t + 1) = m - (t + 1) + 1 by omega]
  show fs_go (kd' (t + 1 + (m - (t + 1)))) (on' (t + 1 + (m - (t + 1)))) (ot' (t + 1 + (m - (t + 1)))) (fs_gor kd' on' ot' g0 t (m - (t + 1))) = _
  rw [show t + 1 + (m - (t + 1)) = m by omega, fs_gor_congr he (m - (t + 1)) (by omega)]
theorem fs_Rel_gate {n m L F C κ α β : Nat} {o : Int32} {kp pn kp' pn' : Nat → fs_Q} {lc : Nat → Int32} {lr : Nat → Int64} {fr fr' : Nat → fs_Q} {od : Nat → Int32} {cl : Nat → Int64} {ck : Nat → Int32} {cc : Nat → Int32} {cr : Nat → Int64} {kd on ot kd' on' ot' fa fw fo : Nat → Int32} {cs : Nat → Int64}
    (R : fs_Rel n m L F C kp pn lc lr fr od cl ck cc cr kd on ot fa fw fo cs) (hm : m < 300) (hg : fs_okg n κ α β) (ho : 2 ≤ κ → κ ≤ 4 → o = nI β) (he : ∀ k, k < m → kd' k = kd k ∧ on' k = on k ∧ ot' k = ot k) (h1 : kd' m = nI κ) (h2 : on' m = nI α) (h3 : ot' m = o)
    (hk : ∀ i, i < n → kp' i = fs_ps (kp i) (nI κ) (nI α) o) (hp : ∀ i, i < n → pn' i = fs_ps (pn i) (nI κ) (nI α) o) (hf : ∀ i, i < F → fr' i = fs_ps (fr i) (nI κ) (nI α) o) : fs_Rel n (m + 1) L F C kp' pn' lc lr fr' od cl ck cc cr kd' on' ot' fa fw fo cs := by
  obtain ⟨⟨b0, b1, b2, b3, b4, b5⟩, r1, r2, r3⟩ := R
  refine ⟨⟨b0, b1, by omega, b3, b4, b5⟩, fs_RP_gate r1 hg ho he h1 h2 h3 hk hp, fun f hF => ?_, r3⟩
  obtain ⟨t, a, ht, ha, e1, e2, e3, e4, FR, e5⟩ := r2 f hF
  refine ⟨t, a, by omega, ha, e1, by rw [(he t ht).2.1]; exact e2, e3, e4, ?_, e5⟩
  rw [fs_gor_n ht he, h1, h2, h3, hf f hF]
  exact fs_FR_gate b1 hg ho FR
theorem fs_Rel_look {n m L F C α : Nat} {rs : Bool} {kp pn kp1 kp' pn' : Nat → fs_Q} {lc lc' : Nat → Int32} {lr lr' : Nat → Int64} {fr fr' : Nat → fs_Q} {od : Nat → Int32} {cl cl' : Nat → Int64} {ck : Nat → Int32} {cc : Nat → Int32} {cr : Nat → Int64} {kd on ot kd' on' ot' fa fw fo : Nat → Int32} {cs : Nat → Int64} {c : Int32} {h : Int64}
    (R : fs_Rel n m L F C kp pn lc lr fr od cl ck cc cr kd on ot fa fw fo cs) (hm : m < 300) (ha : α < n) (hL : L < 60) (he : ∀ k, k < m → kd' k = kd k ∧ on' k = on k ∧ ot' k = ot k) (h1 : kd' m = if rs = true then 8 else 7) (h2 : on' m = nI α) (h3 : ot' m = nI L)
    (C0 : fs_cL n α (1 <<< ((nI L).toInt64 &&& 63)) kp pn kp1 pn' c h) (hc : ∀ i, i < n → kp' i = if rs = true ∧ bt (kp1 i).2.1 α = true then fs_fl (kp1 i) c h else kp1 i)
    (hlc : ∀ i, i < L → lc' i = lc i) (hlr : ∀ i, i < L → lr' i = lr i) (hlc1 : lc' L = c) (hlr1 : lr' L = h)
    (hf : ∀ i, i < F → fr' i = fs_mk (fr i) (nI α) rs) (hcl : ∀ i, i < F → cl' i = cl i ||| ((fs_xOn (fr i) (nI α)).toInt64 <<< ((nI L).toInt64 &&& 63))) : fs_Rel n (m + 1) (L + 1) F C kp' pn' lc' lr' fr' od cl' ck cc cr kd' on' ot' fa fw fo cs := by
  obtain ⟨⟨b0, b1, b2, b3, b4, b5⟩, r1, r2, r3⟩ := R
  refine ⟨⟨b0, b1, by omega, by omega, b4, b5⟩, fs_RP_look r1 ha hL he h1 h2 h3 C0 hc hlc hlr hlc1 hlr1, fun f hF => ?_, fun x hx => ?_⟩
  · obtain ⟨t, a, ht, hα, e1, e2, e3, e4, FR, e5⟩ := r2 f hF
    refine ⟨t, a, by omega, hα, e1, by rw [(he t ht).2.1]; exact e2, e3, e4, ?_, ?_⟩
    · rw [fs_gor_n ht he, h1, h2, h3, hf f hF, hcl f hF]
      exact fs_FR_look b1 ha hL FR
    · rw [e5]
      refine (fs_ck_congr fun y hy => ?_).symm
      rw [hcl f hF, fs_xOn_b (by omega), fs_b_L, fs_and_new (by omega) (r3 y hy).1]
  · obtain ⟨s1, s2, s3⟩ := r3 x hx
    have e : fs_xr lc' lr' (cs x) (L + 1) = fs_xr lc lr (cs x) L := (fs_xr_more s1 (by omega)).trans (fs_xr_congr fun i hi => ⟨hlc i hi, hlr i hi⟩)
    exact ⟨fun i hi => s1 i (by omega), by rw [e]; exact s2, by rw [e]; exact s3⟩
theorem fs_Rel_fault {n m L F C α k : Nat} {w : Int32} {kp pn : Nat → fs_Q} {lc : Nat → Int32} {lr : Nat → Int64} {fr fr' : Nat → fs_Q} {od od' : Nat → Int32} {cl cl' : Nat → Int64} {ck ck' : Nat → Int32} {cc : Nat → Int32} {cr : Nat → Int64} {kd on ot kd' on' ot' fa fw fo fa' fw' fo' : Nat → Int32} {cs : Nat → Int64}
    (R : fs_Rel n m L F C kp pn lc lr fr od cl ck cc cr kd on ot fa fw fo cs) (hm : m < 300) (ha : α < n) (hF : F < 40) (hk : k ≤ 16) (he : ∀ k, k < m → kd' k = kd k ∧ on' k = on k ∧ ot' k = ot k) (h1 : kd' m = 9) (h2 : on' m = nI α)
    (hs : ∀ f, f < F → fr' f = fr f ∧ od' f = od f ∧ cl' f = cl f ∧ ck' f = ck f ∧ fa' f = fa f ∧ fw' f = fw f ∧ fo' f = fo f)
    (n1 : fr' F = (fs_fx w (nI α), fs_fz w (nI α), 0, 0)) (n2 : od' F = nI k) (n3 : cl' F = 0) (n4 : ck' F = 0) (n5 : fa' F = nI m) (n6 : fw' F = w) (n7 : fo' F = nI k) : fs_Rel n (m + 1) L (F + 1) C kp pn lc lr fr' od' cl' ck' cc cr kd' on' ot' fa' fw' fo' cs := by
  obtain ⟨⟨b0, b1, b2, b3, b4, b5⟩, r1, r2, r3⟩ := R
  refine ⟨⟨b0, b1, by omega, b3, by omega, b5⟩, fs_RP_fault r1 he h1, fun f hf => ?_, r3⟩
  rcases Nat.lt_or_ge f F with q | q
  · obtain ⟨t, a, ht, hα, e1, e2, e3, e4, FR, e5⟩ := r2 f q
    obtain ⟨s1, s2, s3, s4, s5, s6, s7⟩ := hs f q
    refine ⟨t, a, by omega, hα, by rw [s5]; exact e1, by rw [(he t ht).2.1]; exact e2, by rw [s2, s7]; exact e3, by rw [s7]; exact e4, ?_, by rw [s4, s3]; exact e5⟩
    rw [fs_gor_n ht he, h1, s1, s3, s6]
    exact fs_FR_fault FR _ _
  · have hz : f = F := by omega
    subst hz
    refine ⟨m, α, by omega, ha, n5, h2, by rw [n2, n7], ⟨k, hk, n7⟩, ?_, by rw [n4, n3, fs_ck_0 b5]⟩
    rw [Nat.sub_self, n1, n3, n6]
    exact fs_FR_start b1 ha
theorem fs_Rel_check {n m L F C : Nat} {st : Int64} {kp pn : Nat → fs_Q} {lc : Nat → Int32} {lr : Nat → Int64} {fr : Nat → fs_Q} {od : Nat → Int32} {cl : Nat → Int64} {ck ck' : Nat → Int32} {cc cc' : Nat → Int32} {cr cr' : Nat → Int64} {kd on ot fa fw fo : Nat → Int32} {cs cs' : Nat → Int64}
    (R : fs_Rel n m L F C kp pn lc lr fr od cl ck cc cr kd on ot fa fw fo cs) (hC : C < 16) (hst : fs_lt st L) (hs : ∀ c, c < C → cc' c = cc c ∧ cr' c = cr c ∧ cs' c = cs c) (n1 : cc' C = (fs_xr lc lr st L).1) (n2 : cr' C = (fs_xr lc lr st L).2) (n3 : cs' C = st)
    (hck : ∀ i, i < F → ck' i = ck i ||| ((fs_bcl (cl i &&& st) &&& 1) <<< (nI C &&& 31))) : fs_Rel n m L F (C + 1) kp pn lc lr fr od cl ck' cc' cr' kd on ot fa fw fo cs' := by
  obtain ⟨⟨b0, b1, b2, b3, b4, b5⟩, r1, r2, r3⟩ := R
  refine ⟨⟨b0, b1, b2, b3, b4, by omega⟩, r1, fun f hF => ?_, fun c hc => ?_⟩
  · obtain ⟨t, a, ht, hα, e1, e2, e3, e4, FR, e5⟩ := r2 f hF
    refine ⟨t, a, ht, hα, e1, e2, e3, e4, FR, ?_⟩
    show _ = fs_ck cs' (cl f) C ||| (fs_b (fs_pa (cl f &&& cs' C)) <<< (nI C &&& 31))
    rw [hck f hF, e5, n3, fs_pa_class]
    congr 1
    exact (fs_ck_congr fun y hy => by rw [(hs y hy).2.2]).symm
  · rcases Nat.lt_or_ge c C with q | q
    · obtain ⟨s1, s2, s3⟩ := hs c q
      rw [s1, s2, s3]
      exact r3 c q
    · have hz : c = C := by omega
      subst hz
      rw [n1, n2, n3]
      exact ⟨hst, rfl, rfl⟩
/-- the class's state and the reference's -/
def fs_J (cn : Nat → Nat) (kp pn : Nat → fs_Q) (lc : Nat → Int32) (lr : Nat → Int64) (fr : Nat → fs_Q) (od : Nat → Int32) (cl : Nat → Int64) (ck : Nat → Int32) (cc : Nat → Int32) (cr : Nat → Int64) (ia : Nat → Nat → Int32) (la : Nat → Nat → Int64) : Prop :=
  fs_wf cn ia ∧ fs_Rel (cn 0) (cn 1) (cn 2) (cn 3) (cn 4) kp pn lc lr fr od cl ck cc cr (ia 1) (ia 2) (ia 3) (ia 4) (ia 5) (ia 6) (la 7)
theorem fs_J_B {cn : Nat → Nat} {kp pn : Nat → fs_Q} {lc : Nat → Int32} {lr : Nat → Int64} {fr : Nat → fs_Q} {od : Nat → Int32} {cl : Nat → Int64} {ck : Nat → Int32} {cc : Nat → Int32} {cr : Nat → Int64} {ia : Nat → Nat → Int32} {la : Nat → Nat → Int64} (J : fs_J cn kp pn lc lr fr od cl ck cc cr ia la) : fs_Bd cn := J.2.1
theorem fs_J_RP {cn : Nat → Nat} {kp pn : Nat → fs_Q} {lc : Nat → Int32} {lr : Nat → Int64} {fr : Nat → fs_Q} {od : Nat → Int32} {cl : Nat → Int64} {ck : Nat → Int32} {cc : Nat → Int32} {cr : Nat → Int64} {ia : Nat → Nat → Int32} {la : Nat → Nat → Int64} (J : fs_J cn kp pn lc lr fr od cl ck cc cr ia la) : fs_RP (cn 0) (ia 1) (ia 2) (ia 3) (cn 1) (cn 2) kp pn lc lr := J.2.2.1
theorem fs_J_F {cn : Nat → Nat} {kp pn : Nat → fs_Q} {lc : Nat → Int32} {lr : Nat → Int64} {fr : Nat → fs_Q} {od : Nat → Int32} {cl : Nat → Int64} {ck : Nat → Int32} {cc : Nat → Int32} {cr : Nat → Int64} {ia : Nat → Nat → Int32} {la : Nat → Nat → Int64} (J : fs_J cn kp pn lc lr fr od cl ck cc cr ia la) : ∀ f, f < cn 3 → fs_fq cn ia f (cl f) ∧ ck f = fs_ck (la 7) (cl f) (cn 4) := fun f hf => by
  obtain ⟨t, a, ht, hα, e1, e2, e3, e4, FR, e5⟩ := J.2.2.2.1 f hf
  refine ⟨⟨t, ht, e1, ?_⟩, e5⟩
  rw [e2]
  exact FR.2.2.1.symm
theorem fs_J_O {cn : Nat → Nat} {kp pn : Nat → fs_Q} {lc : Nat → Int32} {lr : Nat → Int64} {fr : Nat → fs_Q} {od : Nat → Int32} {cl : Nat → Int64} {ck : Nat → Int32} {cc : Nat → Int32} {cr : Nat → Int64} {ia : Nat → Nat → Int32} {la : Nat → Nat → Int64} (J : fs_J cn kp pn lc lr fr od cl ck cc cr ia la) : ∀ f, f < cn 3 → od f = ia 6 f ∧ ∃ k : Nat, k ≤ 16 ∧ ia 6 f = nI k := fun f hf => by
  obtain ⟨t, a, ht, hα, e1, e2, e3, e4, FR, e5⟩ := J.2.2.2.1 f hf
  exact ⟨e3, e4⟩
theorem fs_J_c {cn : Nat → Nat} {kp pn : Nat → fs_Q} {lc : Nat → Int32} {lr : Nat → Int64} {fr : Nat → fs_Q} {od : Nat → Int32} {cl : Nat → Int64} {ck : Nat → Int32} {cc : Nat → Int32} {cr : Nat → Int64} {ia : Nat → Nat → Int32} {la : Nat → Nat → Int64} (J : fs_J cn kp pn lc lr fr od cl ck cc cr ia la) : ∀ c, c < cn 4 → cc c = (fs_xr lc lr (la 7 c) (cn 2)).1 ∧ cr c = (fs_xr lc lr (la 7 c) (cn 2)).2 := fun c hc => (J.2.2.2.2 c hc).2
theorem fs_J_po {cn : Nat → Nat} {kp pn : Nat → fs_Q} {lc : Nat → Int32} {lr : Nat → Int64} {fr : Nat → fs_Q} {od : Nat → Int32} {cl : Nat → Int64} {ck : Nat → Int32} {cc : Nat → Int32} {cr : Nat → Int64} {ia : Nat → Nat → Int32} {la : Nat → Nat → Int64} (J : fs_J cn kp pn lc lr fr od cl ck cc cr ia la) {ia2 : Nat → Nat → Int32} {la2 : Nat → Nat → Int64} (h1 : ∀ k, k ≤ 6 → ia2 k = ia k) (h2 : la2 7 = la 7) : fs_J cn kp pn lc lr fr od cl ck cc cr ia2 la2 := by
  unfold fs_J fs_wf at *
  rw [h1 1 (by omega), h1 2 (by omega), h1 3 (by omega), h1 4 (by omega), h1 5 (by omega), h1 6 (by omega), h2]
  exact J
theorem fs_J_0 {kp pn : Nat → fs_Q} {lc : Nat → Int32} {lr : Nat → Int64} {fr : Nat → fs_Q} {od : Nat → Int32} {cl : Nat → Int64} {ck : Nat → Int32} {cc : Nat → Int32} {cr : Nat → Int64} {ia : Nat → Nat → Int32} {la : Nat → Nat → Int64} {N : Nat} (h1 : 1 ≤ N) (h2 : N ≤ 10) (hk : ∀ i, i < N → kp i = ((0, 1 <<< (nI i &&& 31), 0, 0) : fs_Q)) (hp : ∀ i, i < N → pn i = ((1 <<< (nI i &&& 31), 0, 0, 0) : fs_Q)) : fs_J (fs_c0 N) kp pn lc lr fr od cl ck cc cr ia la :=
  ⟨fun k hk => absurd hk (Nat.not_lt_zero k), ⟨h1, h2, Nat.zero_le _, Nat.zero_le _, Nat.zero_le _, Nat.zero_le _⟩, fs_RP_0 h2 hk hp, fun f hf => absurd hf (Nat.not_lt_zero f), fun c hc => absurd hc (Nat.not_lt_zero c)⟩
theorem fs_wf_s {cn cn2 : Nat → Nat} {ia ia2 : Nat → Nat → Int32} (h : fs_wf cn ia) {κ α : Nat} (h0 : cn2 0 = cn 0) (h1 : cn2 1 = cn 1 + 1) (he : ∀ k, k < cn 1 → ia2 1 k = ia 1 k ∧ ia2 2 k = ia 2 k ∧ ia2 3 k = ia 3 k) (hκ : κ ≤ 9) (hα : α < cn 0) (e1 : ia2 1 (cn 1) = nI κ) (e2 : ia2 2 (cn 1) = nI α) (e3 : (κ = 7 ∨ κ = 8) → ∃ j : Nat, j < 60 ∧ ia2 3 (cn 1) = nI j) : fs_wf cn2 ia2 := by
  intro k hk
  rw [h1] at hk
  rcases Nat.lt_or_ge k (cn 1) with q | q
  · obtain ⟨q1, q2, q3⟩ := he k q
    rw [q1, q2, q3, h0]
    exact h k q
  · have hz : k = cn 1 := by omega
    subst hz
    rw [h0]
    exact ⟨κ, α, hκ, hα, e1, e2, e3⟩
theorem fs_uin {f : Nat → Int32} {k j : Nat} {x : Int32} (h : j < k) : upd f k x j = f j := if_neg (by omega)
theorem fs_uis {f : Nat → Int32} {k : Nat} {x : Int32} : upd f k x k = x := if_pos rfl
theorem fs_uln {f : Nat → Int64} {k j : Nat} {x : Int64} (h : j < k) : vp_updL f k x j = f j := if_neg (by omega)
theorem fs_uls {f : Nat → Int64} {k : Nat} {x : Int64} : vp_updL f k x k = x := if_pos rfl
theorem fs_vuc {α : Type} {f : Nat → α} {i j : Nat} {x y : α} (h : i ≠ j) : va_up (va_up f i x) j y = va_up (va_up f j y) i x := by
  funext k
  unfold va_up
  split
  · rename_i q
    rw [if_neg (by omega)]
  · rfl
theorem fs_lt300 {m : Nat} (hm : m ≤ 300) (h : nI m < 300) : m < 300 := (nI_ltI (b := 300) (by omega) (by decide)).mp h
theorem fs_J_gate {cn : Nat → Nat} {kp pn kp2 pn2 : Nat → fs_Q} {lc : Nat → Int32} {lr : Nat → Int64} {fr fr2 : Nat → fs_Q} {od : Nat → Int32} {cl : Nat → Int64} {ck : Nat → Int32} {cc : Nat → Int32} {cr : Nat → Int64} {ia : Nat → Nat → Int32} {la : Nat → Nat → Int64} (J : fs_J cn kp pn lc lr fr od cl ck cc cr ia la) {k a c0 : Int32} (h : fs_gk cn k a c0) (hk : ∀ i, i < cn 0 → kp2 i = fs_ps (kp i) k a c0) (hp : ∀ i, i < cn 0 → pn2 i = fs_ps (pn i) k a c0) (hf : ∀ i, i < cn 3 → fr2 i = fs_ps (fr i) k a c0) :
    fs_J (va_up cn 1 (cn 1 + 1)) kp2 pn2 lc lr fr2 od cl ck cc cr (va_up (va_up (va_up ia 1 (upd (ia 1) (cn 1) k)) 2 (upd (ia 2) (cn 1) a)) 3 (upd (ia 3) (cn 1) c0)) la := by
  obtain ⟨g1, g2, g3, g4, g5⟩ := h
  have hB := fs_J_B J
  obtain ⟨κ, hκ, rfl⟩ := nI_of2 (M := 6) (n := 6) rfl g1 (Int32.not_lt.mp g2)
  obtain ⟨α, hα, rfl⟩ := fs_wire hB.2.1 g3
  have h300 := fs_lt300 hB.2.2.1 g4
  have hβ : ∃ β : Nat, fs_okg (cn 0) κ α β ∧ (2 ≤ κ → κ ≤ 4 → c0 = nI β) := by
    by_cases q : 2 ≤ κ ∧ κ ≤ 4
    · have q2 : nI κ = 2 ∨ nI κ = 3 ∨ nI κ = 4 := by
        rcases (show κ = 2 ∨ κ = 3 ∨ κ = 4 by omega) with rfl | rfl | rfl
        · exact Or.inl rfl
        · exact Or.inr (Or.inl rfl)
        · exact Or.inr (Or.inr rfl)
      obtain ⟨β, hβ, rfl⟩ := fs_wire hB.2.1 (g5 q2).1
      exact ⟨β, ⟨hκ, hα, fun _ _ => ⟨hβ, fun z => (g5 q2).2 (by rw [z])⟩⟩, fun _ _ => rfl⟩
    · exact ⟨0, ⟨hκ, hα, fun u v => absurd ⟨u, v⟩ q⟩, fun u v => absurd ⟨u, v⟩ q⟩
  obtain ⟨β, hg, ho⟩ := hβ
  refine ⟨fs_wf_s (κ := κ) (α := α) J.1 rfl rfl (fun k hk => ⟨fs_uin hk, fs_uin hk, fs_uin hk⟩) (by omega) hα fs_uis fs_uis (fun q => by omega), ?_⟩
  exact fs_Rel_gate (kd' := upd (ia 1) (cn 1) (nI κ)) (on' := upd (ia 2) (cn 1) (nI α)) (ot' := upd (ia 3) (cn 1) c0) J.2 h300 hg ho (fun k hk => ⟨fs_uin hk, fs_uin hk, fs_uin hk⟩) fs_uis fs_uis fs_uis hk hp hf
theorem fs_J_look {cn : Nat → Nat} {kp pn kp1 kp2 pn2 : Nat → fs_Q} {lc : Nat → Int32} {lr : Nat → Int64} {fr fr2 : Nat → fs_Q} {od : Nat → Int32} {cl cl2 : Nat → Int64} {ck : Nat → Int32} {cc : Nat → Int32} {cr : Nat → Int64} {ia : Nat → Nat → Int32} {la : Nat → Nat → Int64} (J : fs_J cn kp pn lc lr fr od cl ck cc cr ia la) {rs : Int32} {α : Nat} {cv : Int32} {hv : Int64} (h : fs_lk cn (nI α)) (hα : α < cn 0)
    (C0 : fs_cL (cn 0) α (1 <<< ((nI (cn 2)).toInt64 &&& 63)) kp pn kp1 pn2 cv hv) (hk : ∀ i, i < cn 0 → kp2 i = if rs ≠ 0 ∧ bt (kp1 i).2.1 α = true then fs_fl (kp1 i) cv hv else kp1 i) (hf : ∀ i, i < cn 3 → fr2 i = fs_mk (fr i) (nI α) (decide (rs ≠ 0))) (hc : ∀ i, i < cn 3 → cl2 i = cl i ||| ((fs_xOn (fr i) (nI α)).toInt64 <<< ((nI (cn 2)).toInt64 &&& 63))) :
    fs_J (va_up (va_up cn 1 (cn 1 + 1)) 2 (cn 2 + 1)) kp2 pn2 (upd lc (cn 2) cv) (vp_updL lr (cn 2) hv) fr2 od cl2 ck cc cr (va_up (va_up (va_up ia 1 (upd (ia 1) (cn 1) (if rs = 0 then 7 else 8))) 2 (upd (ia 2) (cn 1) (nI α))) 3 (upd (ia 3) (cn 1) (nI (cn 2)))) la := by
  obtain ⟨g1, g2, g3⟩ := h
  have hB := fs_J_B J
  have h300 := fs_lt300 hB.2.2.1 g3
  have h60 : cn 2 < 60 := by
    exact Nat.lt_of_not_le fun q => g2 ((nI_leI (a := 60) (b := cn 2) (by decide) (by have := hB.2.2.2.1; omega)).mpr q)
  have e7 : (if rs = 0 then (7 : Int32) else 8) = if decide (rs ≠ 0) = true then 8 else 7 := by
    by_cases q : rs = 0
    · rw [if_pos q, if_neg (by simp [q])]
    · rw [if_neg q, if_pos (by simp [q])]
  refine ⟨fs_wf_s (κ := if rs = 0 then 7 else 8) (α := α) J.1 rfl rfl (fun k hk => ⟨fs_uin hk, fs_uin hk, fs_uin hk⟩) (by split <;> omega) hα (fs_uis.trans (by split <;> rfl)) fs_uis (fun _ => ⟨cn 2, h60, fs_uis⟩), ?_⟩
  exact fs_Rel_look (rs := decide (rs ≠ 0)) (kd' := upd (ia 1) (cn 1) (if rs = 0 then 7 else 8)) (on' := upd (ia 2) (cn 1) (nI α)) (ot' := upd (ia 3) (cn 1) (nI (cn 2))) J.2 h300 hα h60 (fun k hk => ⟨fs_uin hk, fs_uin hk, fs_uin hk⟩) (fs_uis.trans e7) fs_uis fs_uis C0
    (fun i hi => (hk i hi).trans (by simp only [decide_eq_true_eq])) (fun i hi => fs_uin hi) (fun i hi => fs_uln hi) fs_uis fs_uls hf hc
theorem fs_J_fault {cn : Nat → Nat} {kp pn : Nat → fs_Q} {lc : Nat → Int32} {lr : Nat → Int64} {fr : Nat → fs_Q} {od : Nat → Int32} {cl : Nat → Int64} {ck : Nat → Int32} {cc : Nat → Int32} {cr : Nat → Int64} {ia : Nat → Nat → Int32} {la : Nat → Nat → Int64} (J : fs_J cn kp pn lc lr fr od cl ck cc cr ia la) {wh a k : Int32} (h : fs_fk cn wh a k) :
    fs_J (va_up (va_up cn 1 (cn 1 + 1)) 3 (cn 3 + 1)) kp pn lc lr (va_up fr (cn 3) (fs_fx wh a, fs_fz wh a, 0, 0)) (va_up od (cn 3) k) (va_up cl (cn 3) 0) (va_up ck (cn 3) 0) cc cr (va_up (va_up (va_up (va_up (va_up (va_up ia 4 (upd (ia 4) (cn 3) (nI (cn 1)))) 5 (upd (ia 5) (cn 3) wh)) 6 (upd (ia 6) (cn 3) k)) 1 (upd (ia 1) (cn 1) 9)) 2 (upd (ia 2) (cn 1) a)) 3 (upd (ia 3) (cn 1) (nI (cn 3)))) la := by
  obtain ⟨g1, g2, g3, g4, g5, g6, g7⟩ := h
  have hB := fs_J_B J
  have h300 := fs_lt300 hB.2.2.1 g7
  obtain ⟨α, hα, rfl⟩ := fs_wire hB.2.1 g3
  obtain ⟨κ, hκ, rfl⟩ := nI_of2 (M := 16) (n := 16) rfl g4 g5
  have h40 : cn 3 < 40 := by
    exact Nat.lt_of_not_le fun q => g6 ((nI_leI (a := 40) (b := cn 3) (by decide) (by have := hB.2.2.2.2.1; omega)).mpr q)
  refine ⟨fs_wf_s (κ := 9) (α := α) J.1 rfl rfl (fun k hk => ⟨fs_uin hk, fs_uin hk, fs_uin hk⟩) (by omega) hα fs_uis fs_uis (fun q => by omega), ?_⟩
  exact fs_Rel_fault (k := κ) (w := wh) (kd' := upd (ia 1) (cn 1) 9) (on' := upd (ia 2) (cn 1) (nI α)) (ot' := upd (ia 3) (cn 1) (nI (cn 3))) (fa' := upd (ia 4) (cn 3) (nI (cn 1))) (fw' := upd (ia 5) (cn 3) wh) (fo' := upd (ia 6) (cn 3) (nI κ)) J.2 h300 hα h40 hκ (fun k hk => ⟨fs_uin hk, fs_uin hk, fs_uin hk⟩) fs_uis fs_uis
    (fun f hf => ⟨fu_n (by omega), fu_n (by omega), fu_n (by omega), fu_n (by omega), fs_uin hf, fs_uin hf, fs_uin hf⟩) fu_s fu_s fu_s fu_s fs_uis fs_uis fs_uis
theorem fs_ckk_iff {cn : Nat → Nat} (hB : fs_Bd cn) {st : Int64} : ((0 ≤ st ∧ fs_ushl st (nI (cn 2)) = 0) ∧ nI (cn 4) < 16) ↔ fs_ckk cn st := by
  have h64 : cn 2 < 64 := by have := hB.2.2.2.1; omega
  unfold fs_ckk
  rw [fs_isSet h64, ← fs_lt_ushr h64]
theorem fs_J_check {cn : Nat → Nat} {kp pn : Nat → fs_Q} {lc : Nat → Int32} {lr : Nat → Int64} {fr : Nat → fs_Q} {od : Nat → Int32} {cl : Nat → Int64} {ck ck2 : Nat → Int32} {cc : Nat → Int32} {cr : Nat → Int64} {ia : Nat → Nat → Int32} {la : Nat → Nat → Int64} (J : fs_J cn kp pn lc lr fr od cl ck cc cr ia la) {st : Int64} (h : fs_ckk cn st) (hk : ∀ i, i < cn 3 → ck2 i = ck i ||| ((fs_bcl (cl i &&& st) &&& 1) <<< (nI (cn 4) &&& 31))) :
    fs_J (va_up cn 4 (cn 4 + 1)) kp pn lc lr fr od cl ck2 (upd cc (cn 4) (fs_xr lc lr st (cn 2)).1) (vp_updL cr (cn 4) (fs_xr lc lr st (cn 2)).2) ia (va_up la 7 (vp_updL (la 7) (cn 4) st)) := by
  obtain ⟨g1, g2⟩ := h
  have hB := fs_J_B J
  have h64 : cn 2 < 64 := by have := hB.2.2.2.1; omega
  have h16 : cn 4 < 16 := (nI_ltI (a := cn 4) (b := 16) (by have := hB.2.2.2.2.2; omega) (by decide)).mp g2
  refine ⟨J.1, ?_⟩
  exact fs_Rel_check (cs' := vp_updL (la 7) (cn 4) st) J.2 h16 ((fs_lt_ushr h64 st).mp g1) (fun c hc => ⟨fs_uin hc, fs_uln hc, fs_uln hc⟩) fs_uis fs_uls fs_uls hk
