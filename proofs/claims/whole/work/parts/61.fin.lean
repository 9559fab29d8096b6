-- odds: the class's and the reference's are one number
def fs_hw (n U : Nat) : Nat × Nat := if U = 0 then (0, 0) else fs_hv (1 + 3 * n) U
def fs_sh (o mb : Int64) : Int32 := if 4 * fs_bcl mb < fs_nzl o then 4 * fs_bcl mb else fs_nzl o
theorem fs_uN_lN {n : Nat} (h : n < 2 ^ 64) : fs_uN (lN n) = n := Nat.mod_eq_of_lt h
theorem fs_uN_inj {x y : Int64} (h : fs_uN x = fs_uN y) : x = y := Int64.toBitVec_inj.mp (BitVec.eq_of_toNat_eq h)
theorem fs_fin {n o e : Nat} {E : Int} (h : fs_OI n o e E) (h1 : 1 ≤ n) (h15 : n ≤ 15) {mb : Int64} (hb : fs_bcl mb = nI n) :
    ∃ U : Nat, U < 2 ^ 62 ∧ lN (8 ^ n) - Int64.ofInt E = lN U ∧ fs_ushl (lN o) (fs_sh (lN o) mb) = lN (fs_hw n U).1 ∧ (4 * fs_bcl mb - fs_sh (lN o) mb).toInt64 = lN (fs_hw n U).2 := by
  obtain ⟨g1, g2, g3, g4⟩ := id h
  have p16 : 16 ^ n ≤ 2 ^ 60 := by
    rw [show (16 : Nat) = 2 ^ 4 from rfl, ← Nat.pow_mul]
    exact Nat.pow_le_pow_right (by decide) (by omega)
  have p8 : 8 ^ n ≤ 2 ^ 45 := by
    rw [show (8 : Nat) = 2 ^ 3 from rfl, ← Nat.pow_mul]
    exact Nat.pow_le_pow_right (by decide) (by omega)
  have e8 : ((8 ^ n : Nat) : Int) = (8 : Int) ^ n := by rw [Int.natCast_pow]; rfl
  obtain ⟨U, hU⟩ : ∃ U : Nat, (U : Int) = 8 ^ n - E := ⟨(8 ^ n - E).toNat, Int.toNat_of_nonneg (by omega)⟩
  have hUlt : U < 2 ^ 62 := by rw [← e8] at hU g3; omega
  have hdiff : lN (8 ^ n) - Int64.ofInt E = lN U := by
    rw [show lN (8 ^ n) = Int64.ofInt ((8 ^ n : Nat) : Int) from rfl, ← Int64.ofInt_sub, e8, ← hU]
    rfl
  have ho : o ≤ 2 ^ 60 := by omega
  have h4 : 4 * fs_bcl mb = nI (4 * n) := by rw [hb]; exact pk_mul 4 n
  obtain ⟨j, rfl⟩ : ∃ j, n = j + 1 := ⟨n - 1, by omega⟩
  have hoU : o = 2 ^ j * U := fs_OI_u h hU
  refine ⟨U, hUlt, hdiff, ?_⟩
  unfold fs_sh
  rw [h4]
  by_cases hz : U = 0
  · have ho0 : o = 0 := by rw [hoU, hz, Nat.mul_zero]
    have e1 : fs_hw (j + 1) U = (0, 0) := if_pos hz
    rw [e1, ho0, show lN 0 = (0 : Int64) from rfl, fs_nzl_0, if_pos (nI_lt (by omega) (by decide))]
    refine ⟨?_, ?_⟩
    · refine fs_uN_inj ?_
      rw [fs_uN_sh (by omega), show fs_uN 0 = 0 from rfl, Nat.zero_div]
    · rw [pk_sub (Nat.le_refl _), Nat.sub_self]; rfl
  · obtain ⟨v, w, w1, w2, w3, w4⟩ := fs_odds (j := j) (U := U) (by omega)
    have e1 : fs_hw (j + 1) U = fs_hv (3 * (j + 1) + 1) U := by unfold fs_hw; rw [if_neg hz, Nat.add_comm]
    have hul : fs_uN (lN o) = 2 ^ (j + v) * w := by rw [fs_uN_lN (by omega), hoU, w3]
    rw [e1, w4, fs_nzl_t w1 hul]
    have hjv : j + v < 64 := by
      rcases Nat.lt_or_ge (j + v) 64 with q | q
      · exact q
      · have q1 : 2 ^ 64 ≤ 2 ^ (j + v) := Nat.pow_le_pow_right (by decide) q
        have q2 : 2 ^ (j + v) * 1 ≤ 2 ^ (j + v) * w := Nat.mul_le_mul_left _ (by omega)
        rw [← w3, ← hoU] at q2
        omega
    have hs : (if nI (4 * (j + 1)) < nI (j + v) then nI (4 * (j + 1)) else nI (j + v)) = nI (min (j + v) (4 * (j + 1))) := by
      by_cases q : 4 * (j + 1) < j + v
      · rw [if_pos (nI_lt q (by omega)), Nat.min_eq_right (by omega)]
      · rw [if_neg (nI_nlt (by omega) (by omega)), Nat.min_eq_left (by omega)]
    rw [hs]
    have hm : min (j + v) (4 * (j + 1)) ≤ 4 * (j + 1) := Nat.min_le_right _ _
    refine ⟨?_, ?_⟩
    · refine fs_uN_inj ?_
      have hdle : 2 ^ j * U / 2 ^ min (j + v) (4 * (j + 1)) ≤ 2 ^ j * U := Nat.div_le_self _ _
      rw [fs_uN_sh (by omega), fs_uN_lN (by omega), fs_uN_lN (by rw [← hoU] at hdle ⊢; omega), hoU]
    · rw [pk_sub hm, nI_l (by omega)]
theorem fs_mem_bl {v : Nat → Int32} {x : Int32} : ∀ {F : Nat}, F ≤ 64 → ∀ i, bl (fs_mem v x F) i = (decide (i < F) && decide (v i = x)) := by
  intro F
  induction F with
  | zero => intro _ i; rw [decide_eq_false (Nat.not_lt_zero i)]; exact bl_0 i
  | succ F ih =>
    intro hF i
    have h := ih (by omega) i
    by_cases q : v F = x
    · rw [fs_mem_eq q, bl_or, h, fs_shL1 (by omega)]
      by_cases g : i = F
      · subst g; rw [decide_eq_true q, decide_eq_true (Nat.lt_succ_self i), decide_eq_true rfl, Bool.or_true]; rfl
      · rw [decide_eq_false g, Bool.or_false]
        by_cases g2 : i < F
        · rw [decide_eq_true g2, decide_eq_true (show i < F + 1 by omega)]
        · rw [decide_eq_false g2, decide_eq_false (show ¬ i < F + 1 by omega)]
    · rw [fs_mem_ne q, h]
      by_cases g : i = F
      · subst g; rw [decide_eq_false q, Bool.and_false, Bool.and_false]
      · by_cases g2 : i < F
        · rw [decide_eq_true g2, decide_eq_true (show i < F + 1 by omega)]
        · rw [decide_eq_false g2, decide_eq_false (show ¬ i < F + 1 by omega)]
theorem fs_lt_nat {x : Int64} {F : Nat} (h : fs_lt x F) : fs_uN x / 2 ^ F = 0 :=
  Nat.div_eq_of_lt (Nat.lt_pow_two_of_testBit _ (fun i hi => h i hi))
theorem fs_pc_F {x : Int64} {F : Nat} (hF : F ≤ 64) (h : fs_lt x F) : fs_pc 64 (fs_uN x) = fs_pc F (fs_uN x) := by
  have z := fs_pc_z (fs_lt_nat h) (64 - F)
  rw [show F + (64 - F) = 64 by omega] at z
  exact z
theorem fs_mem_lt {v : Nat → Int32} {x : Int32} {F : Nat} (hF : F ≤ 64) : fs_lt (fs_mem v x F) F := fun i hi => by
  rw [fs_mem_bl hF, decide_eq_false (by omega), Bool.false_and]
theorem fs_pc_pos {N : Nat} : ∀ {F g : Nat}, g < F → N / 2 ^ g % 2 = 1 → 1 ≤ fs_pc F N := by
  intro F
  induction F with
  | zero => intro g hg; exact absurd hg (Nat.not_lt_zero g)
  | succ F ih =>
    intro g hg h
    rw [fs_pc_1]
    by_cases q : g = F
    · subst q; omega
    · have := ih (g := g) (by omega) h; omega
theorem fs_mem_pos {v : Nat → Int32} {F g : Nat} (hF : F ≤ 64) (hg : g < F) : 1 ≤ fs_pc F (fs_uN (fs_mem v (v g) F)) := by
  refine fs_pc_pos hg ?_
  have h := fs_mem_bl (v := v) (x := v g) hF g
  rw [decide_eq_true hg, decide_eq_true rfl] at h
  have h2 : bl (fs_mem v (v g) F) g = decide (fs_uN (fs_mem v (v g) F) / 2 ^ g % 2 = 1) := Nat.testBit_eq_decide_div_mod_eq
  rw [h2] at h
  exact of_decide_eq_true h
/-- the class's answer of edge 2, 3 -/
def fs_vC (od : Nat → Int32) (mb : Int64) (F : Nat) (wh : Int32) : Int64 := if wh = 2 then fs_ushl (fs_oe od mb F).1 (fs_sh (fs_oe od mb F).1 mb) else (4 * fs_bcl mb - fs_sh (fs_oe od mb F).1 mb).toInt64
/-- .. is the reference's -/
theorem fs_vR {od : Nat → Int32} {v : Nat → Int32} {F g : Nat} (hF : F ≤ 40) (hg : g < F) (ho : ∀ j, j < F → ∃ k : Nat, k ≤ 16 ∧ od j = nI k) (h15 : fs_pc 64 (fs_uN (fs_mem v (v g) F)) ≤ 15) :
    ∃ n U : Nat, n ≤ 15 ∧ U < 2 ^ 62 ∧ (fs_ae od (fs_mem v (v g) F) F).1 - (fs_ae od (fs_mem v (v g) F) F).2.1 = lN U ∧ (fs_ae od (fs_mem v (v g) F) F).2.2 = nI (1 + 3 * n) ∧ ∀ wh, fs_vC od (fs_mem v (v g) F) F wh = if wh = 2 then lN (fs_hw n U).1 else lN (fs_hw n U).2 := by
  have hk : ∀ j, j < F → (od j).toNatClampNeg ≤ 16 ∧ od j = nI (od j).toNatClampNeg := fun j hj => by
    obtain ⟨k, h1, h2⟩ := ho j hj
    rw [h2, nI_clamp (by omega)]
    exact ⟨h1, rfl⟩
  have hpc := fs_pc_F (by omega) (fs_mem_lt (v := v) (x := v g) (F := F) (by omega))
  have hcn := fs_cnt_pc (kf := fun j => (od j).toNatClampNeg) (mb := fs_mem v (v g) F) F
  have hOI := fs_oN_OI (kf := fun j => (od j).toNatClampNeg) (mem := bl (fs_mem v (v g) F)) (i := F) (fun j hj => (hk j hj).1)
  have hoe := fs_oe_N (mb := fs_mem v (v g) F) (i := F) hk
  have hae := fs_ae_N (mb := fs_mem v (v g) F) (i := F) hk
  rw [hpc, ← hcn] at h15
  have hpos := fs_mem_pos (v := v) (F := F) (g := g) (by omega) hg
  rw [← hcn] at hpos
  have hbc : fs_bcl (fs_mem v (v g) F) = nI (fs_oN (fun j => (od j).toNatClampNeg) (bl (fs_mem v (v g) F)) F).2.2.2 := by rw [fs_bcl_pc, hpc, hcn]
  obtain ⟨U, u1, u2, u3, u4⟩ := fs_fin hOI hpos h15 hbc
  refine ⟨_, U, h15, u1, ?_, ?_, fun wh => ?_⟩
  · rw [hae]; exact u2
  · rw [hae]
  · unfold fs_vC
    rw [hoe]
    show (if wh = 2 then fs_ushl (lN _) _ else _) = _
    rw [u3, u4]
/-- what edge answers: thrown or not, and the number -/
def fs_ER (F : Nat) (ck od : Nat → Int32) (lk wh thr : Int32) (r : Int64) : Prop :=
  ((∀ g, g < F → fs_isb ck g = true → nI (fs_ce ck g) ≠ lk) ∧ thr = 0 ∧ r = -1) ∨
  ∃ g, g < F ∧ fs_isb ck g = true ∧ nI (fs_ce ck g) = lk ∧
    ((wh = 0 ∧ thr = 0 ∧ r = (ck g).toInt64) ∨ (wh = 1 ∧ thr = 0 ∧ r = fs_mem ck (ck g) F) ∨ ((wh = 2 ∨ wh = 3) ∧ fs_pc 64 (fs_uN (fs_mem ck (ck g) F)) ≤ 15 ∧ thr = 0 ∧ r = fs_vC od (fs_mem ck (ck g) F) F wh) ∨
     ((wh = 2 ∨ wh = 3) ∧ ¬ fs_pc 64 (fs_uN (fs_mem ck (ck g) F)) ≤ 15 ∧ thr = 1) ∨ (¬ wh = 0 ∧ ¬ wh = 1 ∧ ¬ wh = 2 ∧ ¬ wh = 3 ∧ thr = 0 ∧ r = -1))
theorem fs_ER_eq {F : Nat} {ck od : Nat → Int32} {lk wh t1 t2 : Int32} {r1 r2 : Int64} (hF : F ≤ 40) (h1 : fs_ER F ck od lk wh t1 r1) (h2 : fs_ER F ck od lk wh t2 r2) : t1 = t2 ∧ (t1 = 0 → r1 = r2) := by
  rcases h1 with ⟨a1, a2, a3⟩ | ⟨g, a1, a2, a3, a4⟩
  · rcases h2 with ⟨b1, b2, b3⟩ | ⟨g2, b1, b2, b3, b4⟩
    · exact ⟨by rw [a2, b2], fun _ => by rw [a3, b3]⟩
    · exact absurd b3 (a1 g2 b1 b2)
  · rcases h2 with ⟨b1, b2, b3⟩ | ⟨g2, b1, b2, b3, b4⟩
    · exact absurd a3 (b1 g a1 a2)
    · have hgg : g = g2 := fs_ce_inj a2 b2 (by
        have h3 := fs_ce_le ck g
        have h4 := fs_ce_le ck g2
        exact (nI_eq (by omega) (by omega)).mp (a3.trans b3.symm))
      subst hgg
      rcases a4 with ⟨x1, x2, x3⟩ | ⟨x1, x2, x3⟩ | ⟨x1, x2, x3, x4⟩ | ⟨x1, x2, x3⟩ | ⟨x1, x2, x3, x4, x5, x6⟩ <;>
      rcases b4 with ⟨y1, y2, y3⟩ | ⟨y1, y2, y3⟩ | ⟨y1, y2, y3, y4⟩ | ⟨y1, y2, y3⟩ | ⟨y1, y2, y3, y4, y5, y6⟩
      · exact ⟨by rw [x2, y2], fun _ => by rw [x3, y3]⟩
      · rw [x1] at y1; exact absurd y1 (by decide)
      · rw [x1] at y1; exact absurd y1 (by decide)
      · rw [x1] at y1; exact absurd y1 (by decide)
      · exact absurd x1 y1
      · rw [x1] at y1; exact absurd y1 (by decide)
      · exact ⟨by rw [x2, y2], fun _ => by rw [x3, y3]⟩
      · rw [x1] at y1; exact absurd y1 (by decide)
      · rw [x1] at y1; exact absurd y1 (by decide)
      · exact absurd x1 y2
      · rw [y1] at x1; exact absurd x1 (by decide)
      · rw [y1] at x1; exact absurd x1 (by decide)
      · exact ⟨by rw [x3, y3], fun _ => by rw [x4, y4]⟩
      · exact absurd x2 y2
      · rcases x1 with x1 | x1
        · exact absurd x1 y3
        · exact absurd x1 y4
      · rw [y1] at x1; exact absurd x1 (by decide)
      · rw [y1] at x1; exact absurd x1 (by decide)
      · exact absurd y2 x2
      · exact ⟨by rw [x3, y3], fun z => absurd (x3.symm.trans z) (by decide)⟩
      · rcases x1 with x1 | x1
        · exact absurd x1 y3
        · exact absurd x1 y4
      · exact absurd y1 x1
      · exact absurd y1 x2
      · rcases y1 with y1 | y1
        · exact absurd y1 x3
        · exact absurd y1 x4
      · rcases y1 with y1 | y1
        · exact absurd y1 x3
        · exact absurd y1 x4
      · exact ⟨by rw [x5, y5], fun _ => by rw [x6, y6]⟩
