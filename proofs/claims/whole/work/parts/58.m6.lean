-- the reference: a fault on its way
def fs_gs (si : Nat → Int32) (sl : Nat → Int64) : fs_G := (si 24, si 25, sl 26)
def fs_sk (si si2 : Nat → Int32) : Prop := si2 0 = si 0 ∧ si2 27 = si 27
theorem fs_sk_r {si : Nat → Int32} : fs_sk si si := ⟨rfl, rfl⟩
theorem fs_sk_t {si si1 si2 : Nat → Int32} (h : fs_sk si si1) (g : fs_sk si1 si2) : fs_sk si si2 := ⟨g.1.trans h.1, g.2.trans h.2⟩
theorem fs_go_9 {k a o : Int32} {g : fs_G} (h0 : ¬ k = 0) (h1 : ¬ k = 1) (h2 : ¬ k = 2) (h3 : ¬ k = 3) (h4 : ¬ k = 4) (h7 : ¬ k = 7) (h8 : ¬ k = 8) : fs_go k a o g = g := by
  unfold fs_go
  simp only [if_neg h0, if_neg h1, if_neg h2, if_neg h3, if_neg h4]
  rw [if_neg (fun z => z.elim h7 h8)]
theorem fs_go_7 (a o : Int32) (g : fs_G) : fs_go 7 a o g = (g.1, g.2.1 &&& ((1 <<< (a &&& 31)) ^^^ (-1)), if fs_bi g.1 a = 1 then g.2.2 ||| (1 <<< (o.toInt64 &&& 63)) else g.2.2) := rfl
theorem fs_go_8 (a o : Int32) (g : fs_G) : fs_go 8 a o g = (g.1 &&& ((1 <<< (a &&& 31)) ^^^ (-1)), g.2.1 &&& ((1 <<< (a &&& 31)) ^^^ (-1)), if fs_bi g.1 a = 1 then g.2.2 ||| (1 <<< (o.toInt64 &&& 63)) else g.2.2) := rfl
theorem fs_gor_s {kd on ot : Nat → Int32} {g0 : fs_G} {t i : Nat} (h : t + 1 ≤ i) : fs_gor kd on ot g0 t (i + 1 - (t + 1)) = fs_go (kd i) (on i) (ot i) (fs_gor kd on ot g0 t (i - (t + 1))) := by
  obtain ⟨j, rfl⟩ : ∃ j, i = t + 1 + j := ⟨i - (t + 1), by omega⟩
  rw [show t + 1 + j + 1 - (t + 1) = j + 1 by omega, show t + 1 + j - (t + 1) = j by omega]
  rfl
/-- fault f is made at act t, and changes the looks of ch -/
def fs_fq (cn : Nat → Nat) (ia : Nat → Nat → Int32) (f : Nat) (ch : Int64) : Prop := ∃ t : Nat, t < cn 1 ∧ ia 4 f = nI t ∧ (fs_gor (ia 1) (ia 2) (ia 3) (fs_fx (ia 5 f) (ia 2 t), fs_fz (ia 5 f) (ia 2 t), 0) t (cn 1 - (t + 1))).2.2 = ch
theorem fs_pc_z {N i : Nat} (h : N / 2 ^ i = 0) : ∀ d, fs_pc (i + d) N = fs_pc i N := by
  intro d
  rw [fs_pc_add, h, fs_pc_0]; rfl
theorem fs_par_s (N i : Nat) : decide (fs_pc (i + 1) N % 2 = 1) = (decide (fs_pc i N % 2 = 1) ^^ decide (N / 2 ^ i % 2 = 1)) := by
  rw [fs_pc_1]
  generalize fs_pc i N = x
  generalize N / 2 ^ i = y
  rcases (show x % 2 = 0 ∨ x % 2 = 1 by omega) with h | h <;> rcases (show y % 2 = 0 ∨ y % 2 = 1 by omega) with g | g
  · rw [show (x + y % 2) % 2 = 0 by omega, h, g]; rfl
  · rw [show (x + y % 2) % 2 = 1 by omega, h, g]; rfl
  · rw [show (x + y % 2) % 2 = 1 by omega, h, g]; rfl
  · rw [show (x + y % 2) % 2 = 0 by omega, h, g]; rfl
theorem fs_bL_32 : ∀ b : Bool, (fs_bL b).toInt32 = fs_b b := by decide
theorem fs_uN_0 {x : Int64} (h : x = 0) : fs_uN x = 0 := by rw [h]; rfl
theorem fs_uN_z {x : Int64} (h : fs_uN x = 0) : x = 0 := Int64.toBitVec_inj.mp (BitVec.eq_of_toNat_eq h)
theorem fs_par_st {x a : Int64} {p : Int32} {i : Nat} (h1 : fs_uN a = fs_uN x / 2 ^ i) (h2 : p = fs_b (decide (fs_pc i (fs_uN x) % 2 = 1))) : fs_uN (fs_ushl a 1) = fs_uN x / 2 ^ (i + 1) ∧ p ^^^ (a &&& 1).toInt32 = fs_b (decide (fs_pc (i + 1) (fs_uN x) % 2 = 1)) := by
  constructor
  · rw [show (1 : Int32) = nI 1 from rfl, fs_uN_sh (by omega), h1, Nat.div_div_eq_div_mul, Nat.pow_succ]
    rfl
  · rw [fs_andL1, fs_bL_32, h2, fs_b_xor, fs_par_s]
    congr 2
    show (fs_uN a).testBit 0 = _
    rw [h1, Nat.testBit_zero]
set_option maxHeartbeats 4000000 in
set_option maxRecDepth 100000 in
theorem c_M_goThrough (l : Launch) (D : va_G) (ct : Nat → ClassId) (A : Nat → Prop) (M : fm_M) (b : Nat) (cn : Nat → Nat) (si : Nat → Int32) (sl : Nat → Int64) (ia : Nat → Nat → Int32) (la : Nat → Nat → Int64) (ω : Nat) (hM : fs_MW ct M b cn si sl ia la) (hB : fs_Bd cn) (hω : ω < 300) : Met l yM_goThrough wM_goThrough ({ frames := 1, cells := 0, slots := 0, locals := 21 }) (va_Pc [.ref b, .int (nI ω)] (fm_St D fs_cl5 (fs_tys ct) fs_nw A M)) (va_Qv (fun (M1 : fm_M) => ∃ (si2 : Nat → Int32) (sl2 : Nat → Int64), fs_MW ct M1 b cn si2 sl2 ia la ∧ fs_Mf b M M1 ∧ fs_sk si si2 ∧ fs_gs si2 sl2 = fs_go (ia 1 ω) (ia 2 ω) (ia 3 ω) (fs_gs si sl)) (fm_B D fs_cl5 A) A) 0 0 A := by
  refine Met.ofW (cc := cM_goThrough) (maxL := 6) (ret := none) (by decide) rfl ?_
  intro p e s m args below meth c s₁ B hml hv
  obtain ⟨rfl, hP0, hA0, hA1, hK, hN⟩ := hv
  have hx := B.exec
  have hb := B.bytes
  have hr := B.returns
  have hts := atoms_spec (ws := wM_goThrough) B.pre
  have hT : ∀ w ∈ fs_tb, w.before _ s = true := fun w h => hts w (List.mem_cons_of_mem _ h)
  have hown : s.vm.findClass "FrameSamplesModel" = some m.cls := findClass_of_methodNamed B.named
  have hlocks := B.notSynchronized
  have hW : fm_W D fs_cl5 A M s.heap s.heap [] := ⟨hP0, hA0, va_S.rf, hA1⟩
  have hl := lv_entry ([.ref b, .int (nI ω)]) (n := 6) (Nat.le_of_ble_eq_true rfl)
  rw [lg_entry_eq]
  generalize (lg_sl ([.ref b, .int (nI ω)]) ++ List.replicate (6 - (lg_sl ([.ref b, .int (nI ω)])).length) Slot.unset).toArray = ls at hl ⊢
  have hl : lv_has ls 6 [(0, .ref b), (1, .int (nI ω))] := hl
  obtain ⟨hB0, hB1, hB2, hB3, hB4, hB5⟩ := hB
  have hMf : fs_Mf b M M := fs_Mf_r
  refine lv_aload_n hx hb dM_goThrough_0 rfl (lv_at hl 0 rfl) ?_
  refine fm_get (ci := 4) (v := .ref (b + 2)) (C := RM) (T := TM) (N := 30) hx hb hT inM hown hK hW hM.1 rfl 7 (by decide) (hT _ fl_M_13) (fun _ h9 => h9) rfl dM_goThrough_1 ?_
  refine lv_iload_n hx hb dM_goThrough_4 rfl (lv_at hl 1 rfl) ?_
  refine fn_iald (n := 300) (f := ia 2) hx hb hK hW 0 (hM.2.1 2 rfl) rfl (show ω < 300 by omega) (by decide) dM_goThrough_5 ?_
  refine lv_topi (fun x_1 ex_1 => ?_)
  refine lv_istore_n (lv' := [(2, .int x_1), (0, .ref b), (1, .int (nI ω))]) hx hb dM_goThrough_6 rfl hl (by decide) rfl (fun ls hl => ?_)
  refine lv_aload_n hx hb dM_goThrough_7 rfl (lv_at hl 1 rfl) ?_
  refine fm_get (ci := 4) (v := .ref (b + 3)) (C := RM) (T := TM) (N := 30) hx hb hT inM hown hK hW hM.1 rfl 8 (by decide) (hT _ fl_M_16) (fun _ h9 => h9) rfl dM_goThrough_8 ?_
  refine lv_iload_n hx hb dM_goThrough_11 rfl (lv_at hl 2 rfl) ?_
  refine fn_iald (n := 300) (f := ia 3) hx hb hK hW 0 (hM.2.1 3 rfl) rfl (show ω < 300 by omega) (by decide) dM_goThrough_12 ?_
  refine lv_topi (fun x_2 ex_2 => ?_)
  refine lv_istore_n (lv' := [(3, .int x_2), (2, .int x_1), (0, .ref b), (1, .int (nI ω))]) hx hb dM_goThrough_13 rfl hl (by decide) rfl (fun ls hl => ?_)
  refine lv_aload_n hx hb dM_goThrough_14 rfl (lv_at hl 2 rfl) ?_
  refine fm_get (ci := 4) (v := .int (si 24)) (C := RM) (T := TM) (N := 30) hx hb hT inM hown hK hW hM.1 rfl 24 (by decide) (hT _ fl_M_150) (fun _ h9 => h9) rfl dM_goThrough_15 ?_
  refine lv_iload_n hx hb dM_goThrough_18 rfl (lv_at hl 1 rfl) ?_
  refine fm_calli (va_runS (As := [.int (si 24), .int x_1]) (rest := []) ⟨hx, hb, hml, hown, hts⟩ (c_M_bit l D ct A M (si 24) x_1) ⟨callB_of 2 hts (fs_gin co_M_bit) rfl rfl rfl (hT _ ini_M) (hT _ ml_M_95) (by decide +kernel) ⟨Nat.le_of_ble_eq_true rfl, Nat.le_of_ble_eq_true rfl⟩, hT _ st_M_bit⟩ (fn_pre fs_isnw hK hN hW) rfl rfl hl.1 rfl (lv_room (Nat.le_of_ble_eq_true rfl)) dM_goThrough_19 ⟨Nat.le_of_ble_eq_true rfl, Nat.le_of_ble_eq_true rfl⟩) hW (fun r_3 M_4 H locs hp_5 hW => ?_)
  have hW : fm_W D fs_cl5 A M s.heap H locs := by rw [← hp_5.2]; exact hW
  have er_3 := hp_5.1
  refine lv_istore (lv' := [(4, .int r_3), (3, .int x_2), (2, .int x_1), (0, .ref b), (1, .int (nI ω))]) hx hb dM_goThrough_22 hl (by decide) rfl (fun ls hl => ?_)
  refine lv_aload_n hx hb dM_goThrough_24 rfl (lv_at hl 3 rfl) ?_
  refine fm_get (ci := 4) (v := .int (si 25)) (C := RM) (T := TM) (N := 30) hx hb hT inM hown hK hW hM.1 rfl 25 (by decide) (hT _ fl_M_153) (fun _ h9 => h9) rfl dM_goThrough_25 ?_
  refine lv_iload_n hx hb dM_goThrough_28 rfl (lv_at hl 2 rfl) ?_
  refine fm_calli (va_runS (As := [.int (si 25), .int x_1]) (rest := []) ⟨hx, hb, hml, hown, hts⟩ (c_M_bit l D ct A M (si 25) x_1) ⟨callB_of 2 hts (fs_gin co_M_bit) rfl rfl rfl (hT _ ini_M) (hT _ ml_M_95) (by decide +kernel) ⟨Nat.le_of_ble_eq_true rfl, Nat.le_of_ble_eq_true rfl⟩, hT _ st_M_bit⟩ (fn_pre fs_isnw hK hN hW) rfl rfl hl.1 rfl (lv_room (Nat.le_of_ble_eq_true rfl)) dM_goThrough_29 ⟨Nat.le_of_ble_eq_true rfl, Nat.le_of_ble_eq_true rfl⟩) hW (fun r_6 M_7 H locs hp_8 hW => ?_)
  have hW : fm_W D fs_cl5 A M s.heap H locs := by rw [← hp_8.2]; exact hW
  have er_6 := hp_8.1
  refine lv_istore (lv' := [(5, .int r_6), (4, .int r_3), (3, .int x_2), (2, .int x_1), (0, .ref b), (1, .int (nI ω))]) hx hb dM_goThrough_32 hl (by decide) rfl (fun ls hl => ?_)
  refine lv_aload_n hx hb dM_goThrough_34 rfl (lv_at hl 4 rfl) ?_
  refine fm_get (ci := 4) (v := .ref (b + 1)) (C := RM) (T := TM) (N := 30) hx hb hT inM hown hK hW hM.1 rfl 6 (by decide) (hT _ fl_M_7) (fun _ h9 => h9) rfl dM_goThrough_35 ?_
  refine lv_iload_n hx hb dM_goThrough_38 rfl (lv_at hl 5 rfl) ?_
  refine fn_iald (n := 300) (f := ia 1) hx hb hK hW 0 (hM.2.1 1 rfl) rfl (show ω < 300 by omega) (by decide) dM_goThrough_39 ?_
  refine lv_topi (fun x_9 ex_9 => ?_)
  by_cases hk0 : x_9 = 0
  · subst hk0
    refine lv_tableIn (off := 52) (tgt := 92) hx hb dM_goThrough_40 (by decide) (by decide) rfl (by decide) ?_
    refine lv_aload_n hx hb dM_goThrough_92 rfl (lv_at hl 4 rfl) ?_
    refine lv_dup hx hb dM_goThrough_93 rfl ?_
    refine fm_get (ci := 4) (v := .int (si 24)) (C := RM) (T := TM) (N := 30) hx hb hT inM hown hK hW hM.1 rfl 24 (by decide) (hT _ fl_M_150) (fun _ h9 => h9) rfl dM_goThrough_94 ?_
    refine lv_iload hx hb dM_goThrough_97 (lv_at hl 1 rfl) ?_
    refine lv_iload hx hb dM_goThrough_99 (lv_at hl 0 rfl) ?_
    refine lv_ixor hx hb dM_goThrough_101 ?_
    refine lv_iload_n hx hb dM_goThrough_102 rfl (lv_at hl 3 rfl) ?_
    refine lv_ishl hx hb dM_goThrough_103 ?_
    refine lv_ixor hx hb dM_goThrough_104 ?_
    refine lv_topi (fun x_10 ex_10 => ?_)
    refine fm_put (ci := 4) (v := .int x_10) (ty := .int) (C := RM) (T := TM) (N := 30) hx hb hT inM tyM tkM nmM hown hK hW hM.1 rfl 24 (by decide) (hT _ fl_M_150) (fun _ h9 => h9) rfl (by decide +kernel) rfl rfl (Nat.le_of_ble_eq_true rfl) dM_goThrough_105 (fun H locs hW => ?_)
    obtain ⟨M_11, eM_11⟩ : ∃ z : fm_M, z = va_up M b (some (.inr (4, [.int (si 0), .int (nI (cn 0)), .int (nI (cn 1)), .int (nI (cn 2)), .int (nI (cn 3)), .int (nI (cn 4)), .ref (b + 1), .ref (b + 2), .ref (b + 3), .ref (b + 4), .ref (b + 5), .ref (b + 6), .ref (b + 7), .ref (b + 8), .ref (b + 9), .ref (b + 10), .ref (b + 11), .ref (b + 12), .ref (b + 13), .ref (b + 14), .int (si 20), .int (si 21), .int (si 22), .long (sl 23), .int x_10, .int (si 25), .long (sl 26), .int (si 27), .ref (b + 15), .ref (b + 16)]))) := ⟨_, rfl⟩
    have hW : fm_W D fs_cl5 A M_11 s.heap H locs := by rw [eM_11]; exact hW
    have f_12 : M_11 b = some (.inr (4, [.int (si 0), .int (nI (cn 0)), .int (nI (cn 1)), .int (nI (cn 2)), .int (nI (cn 3)), .int (nI (cn 4)), .ref (b + 1), .ref (b + 2), .ref (b + 3), .ref (b + 4), .ref (b + 5), .ref (b + 6), .ref (b + 7), .ref (b + 8), .ref (b + 9), .ref (b + 10), .ref (b + 11), .ref (b + 12), .ref (b + 13), .ref (b + 14), .int (si 20), .int (si 21), .int (si 22), .long (sl 23), .int x_10, .int (si 25), .long (sl 26), .int (si 27), .ref (b + 15), .ref (b + 16)])) := by rw [eM_11]; exact fm_us
    have hM : fs_MW ct M_11 b cn (va_up si 24 x_10) sl ia la := by rw [eM_11]; exact fs_MW_o hM cn (va_up si 24 x_10) sl
    have hMf : fs_Mf b M M_11 := by rw [eM_11]; exact fs_Mf_u hMf (by omega) _
    refine lv_aload_n hx hb dM_goThrough_108 rfl (lv_at hl 4 rfl) ?_
    refine lv_dup hx hb dM_goThrough_109 rfl ?_
    refine fm_get (ci := 4) (v := .int (si 25)) (C := RM) (T := TM) (N := 30) hx hb hT inM hown hK hW f_12 rfl 25 (by decide) (hT _ fl_M_153) (fun _ h9 => h9) rfl dM_goThrough_110 ?_
    refine lv_iload hx hb dM_goThrough_113 (lv_at hl 1 rfl) ?_
    refine lv_iload hx hb dM_goThrough_115 (lv_at hl 0 rfl) ?_
    refine lv_ixor hx hb dM_goThrough_117 ?_
    refine lv_iload_n hx hb dM_goThrough_118 rfl (lv_at hl 3 rfl) ?_
    refine lv_ishl hx hb dM_goThrough_119 ?_
    refine lv_ixor hx hb dM_goThrough_120 ?_
    refine lv_topi (fun x_13 ex_13 => ?_)
    refine fm_put (ci := 4) (v := .int x_13) (ty := .int) (C := RM) (T := TM) (N := 30) hx hb hT inM tyM tkM nmM hown hK hW f_12 rfl 25 (by decide) (hT _ fl_M_153) (fun _ h9 => h9) rfl (by decide +kernel) rfl rfl (Nat.le_of_ble_eq_true rfl) dM_goThrough_121 (fun H locs hW => ?_)
    obtain ⟨M_14, eM_14⟩ : ∃ z : fm_M, z = va_up M_11 b (some (.inr (4, [.int (si 0), .int (nI (cn 0)), .int (nI (cn 1)), .int (nI (cn 2)), .int (nI (cn 3)), .int (nI (cn 4)), .ref (b + 1), .ref (b + 2), .ref (b + 3), .ref (b + 4), .ref (b + 5), .ref (b + 6), .ref (b + 7), .ref (b + 8), .ref (b + 9), .ref (b + 10), .ref (b + 11), .ref (b + 12), .ref (b + 13), .ref (b + 14), .int (si 20), .int (si 21), .int (si 22), .long (sl 23), .int x_10, .int x_13, .long (sl 26), .int (si 27), .ref (b + 15), .ref (b + 16)]))) := ⟨_, rfl⟩
    have hW : fm_W D fs_cl5 A M_14 s.heap H locs := by rw [eM_14]; exact hW
    have f_15 : M_14 b = some (.inr (4, [.int (si 0), .int (nI (cn 0)), .int (nI (cn 1)), .int (nI (cn 2)), .int (nI (cn 3)), .int (nI (cn 4)), .ref (b + 1), .ref (b + 2), .ref (b + 3), .ref (b + 4), .ref (b + 5), .ref (b + 6), .ref (b + 7), .ref (b + 8), .ref (b + 9), .ref (b + 10), .ref (b + 11), .ref (b + 12), .ref (b + 13), .ref (b + 14), .int (si 20), .int (si 21), .int (si 22), .long (sl 23), .int x_10, .int x_13, .long (sl 26), .int (si 27), .ref (b + 15), .ref (b + 16)])) := by rw [eM_14]; exact fm_us
    have hM : fs_MW ct M_14 b cn (va_up (va_up si 24 x_10) 25 x_13) sl ia la := by rw [eM_14]; exact fs_MW_o hM cn (va_up (va_up si 24 x_10) 25 x_13) sl
    have hMf : fs_Mf b M M_14 := by rw [eM_14]; exact fs_Mf_u hMf (by omega) _
    refine lv_goto (tgt := 330) hx hb dM_goThrough_124 (by decide) ?_
    have hR : fs_gs (va_up (va_up si 24 x_10) 25 x_13) sl = fs_go (ia 1 ω) (ia 2 ω) (ia 3 ω) (fs_gs si sl) := by
      show (x_10, x_13, sl 26) = _
      rw [← ex_9]
      subst ex_13
      subst ex_10
      subst er_6
      subst er_3
      subst ex_2
      subst ex_1
      rfl
    exact fm_vret hx hb hr hlocks hW ⟨_, _, hM, hMf, ⟨rfl, rfl⟩, hR⟩ dM_goThrough_330
  by_cases hk1 : x_9 = 1
  · subst hk1
    refine lv_tableIn (off := 87) (tgt := 127) hx hb dM_goThrough_40 (by decide) (by decide) rfl (by decide) ?_
    refine lv_aload_n hx hb dM_goThrough_127 rfl (lv_at hl 4 rfl) ?_
    refine lv_dup hx hb dM_goThrough_128 rfl ?_
    refine fm_get (ci := 4) (v := .int (si 25)) (C := RM) (T := TM) (N := 30) hx hb hT inM hown hK hW hM.1 rfl 25 (by decide) (hT _ fl_M_153) (fun _ h9 => h9) rfl dM_goThrough_129 ?_
    refine lv_iload hx hb dM_goThrough_132 (lv_at hl 1 rfl) ?_
    refine lv_iload_n hx hb dM_goThrough_134 rfl (lv_at hl 3 rfl) ?_
    refine lv_ishl hx hb dM_goThrough_135 ?_
    refine lv_ixor hx hb dM_goThrough_136 ?_
    refine lv_topi (fun x_16 ex_16 => ?_)
    refine fm_put (ci := 4) (v := .int x_16) (ty := .int) (C := RM) (T := TM) (N := 30) hx hb hT inM tyM tkM nmM hown hK hW hM.1 rfl 25 (by decide) (hT _ fl_M_153) (fun _ h9 => h9) rfl (by decide +kernel) rfl rfl (Nat.le_of_ble_eq_true rfl) dM_goThrough_137 (fun H locs hW => ?_)
    obtain ⟨M_17, eM_17⟩ : ∃ z : fm_M, z = va_up M b (some (.inr (4, [.int (si 0), .int (nI (cn 0)), .int (nI (cn 1)), .int (nI (cn 2)), .int (nI (cn 3)), .int (nI (cn 4)), .ref (b + 1), .ref (b + 2), .ref (b + 3), .ref (b + 4), .ref (b + 5), .ref (b + 6), .ref (b + 7), .ref (b + 8), .ref (b + 9), .ref (b + 10), .ref (b + 11), .ref (b + 12), .ref (b + 13), .ref (b + 14), .int (si 20), .int (si 21), .int (si 22), .long (sl 23), .int (si 24), .int x_16, .long (sl 26), .int (si 27), .ref (b + 15), .ref (b + 16)]))) := ⟨_, rfl⟩
    have hW : fm_W D fs_cl5 A M_17 s.heap H locs := by rw [eM_17]; exact hW
    have f_18 : M_17 b = some (.inr (4, [.int (si 0), .int (nI (cn 0)), .int (nI (cn 1)), .int (nI (cn 2)), .int (nI (cn 3)), .int (nI (cn 4)), .ref (b + 1), .ref (b + 2), .ref (b + 3), .ref (b + 4), .ref (b + 5), .ref (b + 6), .ref (b + 7), .ref (b + 8), .ref (b + 9), .ref (b + 10), .ref (b + 11), .ref (b + 12), .ref (b + 13), .ref (b + 14), .int (si 20), .int (si 21), .int (si 22), .long (sl 23), .int (si 24), .int x_16, .long (sl 26), .int (si 27), .ref (b + 15), .ref (b + 16)])) := by rw [eM_17]; exact fm_us
    have hM : fs_MW ct M_17 b cn (va_up si 25 x_16) sl ia la := by rw [eM_17]; exact fs_MW_o hM cn (va_up si 25 x_16) sl
    have hMf : fs_Mf b M M_17 := by rw [eM_17]; exact fs_Mf_u hMf (by omega) _
    refine lv_goto (tgt := 330) hx hb dM_goThrough_140 (by decide) ?_
    have hR : fs_gs (va_up si 25 x_16) sl = fs_go (ia 1 ω) (ia 2 ω) (ia 3 ω) (fs_gs si sl) := by
      show (si 24, x_16, sl 26) = _
      rw [← ex_9]
      subst ex_16
      subst er_6
      subst er_3
      subst ex_2
      subst ex_1
      rfl
    exact fm_vret hx hb hr hlocks hW ⟨_, _, hM, hMf, ⟨rfl, rfl⟩, hR⟩ dM_goThrough_330
  by_cases hk2 : x_9 = 2
  · subst hk2
    refine lv_tableIn (off := 103) (tgt := 143) hx hb dM_goThrough_40 (by decide) (by decide) rfl (by decide) ?_
    refine lv_aload_n hx hb dM_goThrough_143 rfl (lv_at hl 4 rfl) ?_
    refine lv_dup hx hb dM_goThrough_144 rfl ?_
    refine fm_get (ci := 4) (v := .int (si 24)) (C := RM) (T := TM) (N := 30) hx hb hT inM hown hK hW hM.1 rfl 24 (by decide) (hT _ fl_M_150) (fun _ h9 => h9) rfl dM_goThrough_145 ?_
    refine lv_iload hx hb dM_goThrough_148 (lv_at hl 1 rfl) ?_
    refine lv_iload_n hx hb dM_goThrough_150 rfl (lv_at hl 2 rfl) ?_
    refine lv_ishl hx hb dM_goThrough_151 ?_
    refine lv_ixor hx hb dM_goThrough_152 ?_
    refine lv_topi (fun x_19 ex_19 => ?_)
    refine fm_put (ci := 4) (v := .int x_19) (ty := .int) (C := RM) (T := TM) (N := 30) hx hb hT inM tyM tkM nmM hown hK hW hM.1 rfl 24 (by decide) (hT _ fl_M_150) (fun _ h9 => h9) rfl (by decide +kernel) rfl rfl (Nat.le_of_ble_eq_true rfl) dM_goThrough_153 (fun H locs hW => ?_)
    obtain ⟨M_20, eM_20⟩ : ∃ z : fm_M, z = va_up M b (some (.inr (4, [.int (si 0), .int (nI (cn 0)), .int (nI (cn 1)), .int (nI (cn 2)), .int (nI (cn 3)), .int (nI (cn 4)), .ref (b + 1), .ref (b + 2), .ref (b + 3), .ref (b + 4), .ref (b + 5), .ref (b + 6), .ref (b + 7), .ref (b + 8), .ref (b + 9), .ref (b + 10), .ref (b + 11), .ref (b + 12), .ref (b + 13), .ref (b + 14), .int (si 20), .int (si 21), .int (si 22), .long (sl 23), .int x_19, .int (si 25), .long (sl 26), .int (si 27), .ref (b + 15), .ref (b + 16)]))) := ⟨_, rfl⟩
    have hW : fm_W D fs_cl5 A M_20 s.heap H locs := by rw [eM_20]; exact hW
    have f_21 : M_20 b = some (.inr (4, [.int (si 0), .int (nI (cn 0)), .int (nI (cn 1)), .int (nI (cn 2)), .int (nI (cn 3)), .int (nI (cn 4)), .ref (b + 1), .ref (b + 2), .ref (b + 3), .ref (b + 4), .ref (b + 5), .ref (b + 6), .ref (b + 7), .ref (b + 8), .ref (b + 9), .ref (b + 10), .ref (b + 11), .ref (b + 12), .ref (b + 13), .ref (b + 14), .int (si 20), .int (si 21), .int (si 22), .long (sl 23), .int x_19, .int (si 25), .long (sl 26), .int (si 27), .ref (b + 15), .ref (b + 16)])) := by rw [eM_20]; exact fm_us
    have hM : fs_MW ct M_20 b cn (va_up si 24 x_19) sl ia la := by rw [eM_20]; exact fs_MW_o hM cn (va_up si 24 x_19) sl
    have hMf : fs_Mf b M M_20 := by rw [eM_20]; exact fs_Mf_u hMf (by omega) _
    refine lv_aload_n hx hb dM_goThrough_156 rfl (lv_at hl 4 rfl) ?_
    refine lv_dup hx hb dM_goThrough_157 rfl ?_
    refine fm_get (ci := 4) (v := .int (si 25)) (C := RM) (T := TM) (N := 30) hx hb hT inM hown hK hW f_21 rfl 25 (by decide) (hT _ fl_M_153) (fun _ h9 => h9) rfl dM_goThrough_158 ?_
    refine lv_aload_n hx hb dM_goThrough_161 rfl (lv_at hl 4 rfl) ?_
    refine fm_get (ci := 4) (v := .int (si 25)) (C := RM) (T := TM) (N := 30) hx hb hT inM hown hK hW f_21 rfl 25 (by decide) (hT _ fl_M_153) (fun _ h9 => h9) rfl dM_goThrough_162 ?_
    refine lv_iload_n hx hb dM_goThrough_165 rfl (lv_at hl 2 rfl) ?_
    refine fm_calli (va_runS (As := [.int (si 25), .int x_2]) (rest := [.int (si 25), .ref b]) ⟨hx, hb, hml, hown, hts⟩ (c_M_bit l D ct A M_20 (si 25) x_2) ⟨callB_of 2 hts (fs_gin co_M_bit) rfl rfl rfl (hT _ ini_M) (hT _ ml_M_95) (by decide +kernel) ⟨Nat.le_of_ble_eq_true rfl, Nat.le_of_ble_eq_true rfl⟩, hT _ st_M_bit⟩ (fn_pre fs_isnw hK hN hW) rfl rfl hl.1 rfl (lv_room (Nat.le_of_ble_eq_true rfl)) dM_goThrough_166 ⟨Nat.le_of_ble_eq_true rfl, Nat.le_of_ble_eq_true rfl⟩) hW (fun r_22 M_23 H locs hp_24 hW => ?_)
    have hW : fm_W D fs_cl5 A M_20 s.heap H locs := by rw [← hp_24.2]; exact hW
    have er_22 := hp_24.1
    refine lv_iload_n hx hb dM_goThrough_169 rfl (lv_at hl 3 rfl) ?_
    refine lv_ishl hx hb dM_goThrough_170 ?_
    refine lv_ixor hx hb dM_goThrough_171 ?_
    refine lv_topi (fun x_25 ex_25 => ?_)
    refine fm_put (ci := 4) (v := .int x_25) (ty := .int) (C := RM) (T := TM) (N := 30) hx hb hT inM tyM tkM nmM hown hK hW f_21 rfl 25 (by decide) (hT _ fl_M_153) (fun _ h9 => h9) rfl (by decide +kernel) rfl rfl (Nat.le_of_ble_eq_true rfl) dM_goThrough_172 (fun H locs hW => ?_)
    obtain ⟨M_26, eM_26⟩ : ∃ z : fm_M, z = va_up M_20 b (some (.inr (4, [.int (si 0), .int (nI (cn 0)), .int (nI (cn 1)), .int (nI (cn 2)), .int (nI (cn 3)), .int (nI (cn 4)), .ref (b + 1), .ref (b + 2), .ref (b + 3), .ref (b + 4), .ref (b + 5), .ref (b + 6), .ref (b + 7), .ref (b + 8), .ref (b + 9), .ref (b + 10), .ref (b + 11), .ref (b + 12), .ref (b + 13), .ref (b + 14), .int (si 20), .int (si 21), .int (si 22), .long (sl 23), .int x_19, .int x_25, .long (sl 26), .int (si 27), .ref (b + 15), .ref (b + 16)]))) := ⟨_, rfl⟩
    have hW : fm_W D fs_cl5 A M_26 s.heap H locs := by rw [eM_26]; exact hW
    have f_27 : M_26 b = some (.inr (4, [.int (si 0), .int (nI (cn 0)), .int (nI (cn 1)), .int (nI (cn 2)), .int (nI (cn 3)), .int (nI (cn 4)), .ref (b + 1), .ref (b + 2), .ref (b + 3), .ref (b + 4), .ref (b + 5), .ref (b + 6), .ref (b + 7), .ref (b + 8), .ref (b + 9), .ref (b + 10), .ref (b + 11), .ref (b + 12), .ref (b + 13), .ref (b + 14), .int (si 20), .int (si 21), .int (si 22), .long (sl 23), .int x_19, .int x_25, .long (sl 26), .int (si 27), .ref (b + 15), .ref (b + 16)])) := by rw [eM_26]; exact fm_us
    have hM : fs_MW ct M_26 b cn (va_up (va_up si 24 x_19) 25 x_25) sl ia la := by rw [eM_26]; exact fs_MW_o hM cn (va_up (va_up si 24 x_19) 25 x_25) sl
    have hMf : fs_Mf b M M_26 := by rw [eM_26]; exact fs_Mf_u hMf (by omega) _
    refine lv_goto (tgt := 330) hx hb dM_goThrough_175 (by decide) ?_
    have hR : fs_gs (va_up (va_up si 24 x_19) 25 x_25) sl = fs_go (ia 1 ω) (ia 2 ω) (ia 3 ω) (fs_gs si sl) := by
      show (x_19, x_25, sl 26) = _
      rw [← ex_9]
      subst ex_25
      subst er_22
      subst ex_19
      subst er_6
      subst er_3
      subst ex_2
      subst ex_1
      rfl
    exact fm_vret hx hb hr hlocks hW ⟨_, _, hM, hMf, ⟨rfl, rfl⟩, hR⟩ dM_goThrough_330
  by_cases hk3 : x_9 = 3
  · subst hk3
    refine lv_tableIn (off := 138) (tgt := 178) hx hb dM_goThrough_40 (by decide) (by decide) rfl (by decide) ?_
    refine lv_aload_n hx hb dM_goThrough_178 rfl (lv_at hl 4 rfl) ?_
    refine lv_dup hx hb dM_goThrough_179 rfl ?_
    refine fm_get (ci := 4) (v := .int (si 25)) (C := RM) (T := TM) (N := 30) hx hb hT inM hown hK hW hM.1 rfl 25 (by decide) (hT _ fl_M_153) (fun _ h9 => h9) rfl dM_goThrough_180 ?_
    refine lv_aload_n hx hb dM_goThrough_183 rfl (lv_at hl 4 rfl) ?_
    refine fm_get (ci := 4) (v := .int (si 24)) (C := RM) (T := TM) (N := 30) hx hb hT inM hown hK hW hM.1 rfl 24 (by decide) (hT _ fl_M_150) (fun _ h9 => h9) rfl dM_goThrough_184 ?_
    refine lv_iload_n hx hb dM_goThrough_187 rfl (lv_at hl 2 rfl) ?_
    refine fm_calli (va_runS (As := [.int (si 24), .int x_2]) (rest := [.int (si 25), .ref b]) ⟨hx, hb, hml, hown, hts⟩ (c_M_bit l D ct A M (si 24) x_2) ⟨callB_of 2 hts (fs_gin co_M_bit) rfl rfl rfl (hT _ ini_M) (hT _ ml_M_95) (by decide +kernel) ⟨Nat.le_of_ble_eq_true rfl, Nat.le_of_ble_eq_true rfl⟩, hT _ st_M_bit⟩ (fn_pre fs_isnw hK hN hW) rfl rfl hl.1 rfl (lv_room (Nat.le_of_ble_eq_true rfl)) dM_goThrough_188 ⟨Nat.le_of_ble_eq_true rfl, Nat.le_of_ble_eq_true rfl⟩) hW (fun r_28 M_29 H locs hp_30 hW => ?_)
    have hW : fm_W D fs_cl5 A M s.heap H locs := by rw [← hp_30.2]; exact hW
    have er_28 := hp_30.1
    refine lv_iload_n hx hb dM_goThrough_191 rfl (lv_at hl 3 rfl) ?_
    refine lv_ishl hx hb dM_goThrough_192 ?_
    refine lv_iload hx hb dM_goThrough_193 (lv_at hl 1 rfl) ?_
    refine lv_iload_n hx hb dM_goThrough_195 rfl (lv_at hl 2 rfl) ?_
    refine lv_ishl hx hb dM_goThrough_196 ?_
    refine lv_ior hx hb dM_goThrough_197 ?_
    refine lv_ixor hx hb dM_goThrough_198 ?_
    refine lv_topi (fun x_31 ex_31 => ?_)
    refine fm_put (ci := 4) (v := .int x_31) (ty := .int) (C := RM) (T := TM) (N := 30) hx hb hT inM tyM tkM nmM hown hK hW hM.1 rfl 25 (by decide) (hT _ fl_M_153) (fun _ h9 => h9) rfl (by decide +kernel) rfl rfl (Nat.le_of_ble_eq_true rfl) dM_goThrough_199 (fun H locs hW => ?_)
    obtain ⟨M_32, eM_32⟩ : ∃ z : fm_M, z = va_up M b (some (.inr (4, [.int (si 0), .int (nI (cn 0)), .int (nI (cn 1)), .int (nI (cn 2)), .int (nI (cn 3)), .int (nI (cn 4)), .ref (b + 1), .ref (b + 2), .ref (b + 3), .ref (b + 4), .ref (b + 5), .ref (b + 6), .ref (b + 7), .ref (b + 8), .ref (b + 9), .ref (b + 10), .ref (b + 11), .ref (b + 12), .ref (b + 13), .ref (b + 14), .int (si 20), .int (si 21), .int (si 22), .long (sl 23), .int (si 24), .int x_31, .long (sl 26), .int (si 27), .ref (b + 15), .ref (b + 16)]))) := ⟨_, rfl⟩
    have hW : fm_W D fs_cl5 A M_32 s.heap H locs := by rw [eM_32]; exact hW
    have f_33 : M_32 b = some (.inr (4, [.int (si 0), .int (nI (cn 0)), .int (nI (cn 1)), .int (nI (cn 2)), .int (nI (cn 3)), .int (nI (cn 4)), .ref (b + 1), .ref (b + 2), .ref (b + 3), .ref (b + 4), .ref (b + 5), .ref (b + 6), .ref (b + 7), .ref (b + 8), .ref (b + 9), .ref (b + 10), .ref (b + 11), .ref (b + 12), .ref (b + 13), .ref (b + 14), .int (si 20), .int (si 21), .int (si 22), .long (sl 23), .int (si 24), .int x_31, .long (sl 26), .int (si 27), .ref (b + 15), .ref (b + 16)])) := by rw [eM_32]; exact fm_us
    have hM : fs_MW ct M_32 b cn (va_up si 25 x_31) sl ia la := by rw [eM_32]; exact fs_MW_o hM cn (va_up si 25 x_31) sl
    have hMf : fs_Mf b M M_32 := by rw [eM_32]; exact fs_Mf_u hMf (by omega) _
    refine lv_goto (tgt := 330) hx hb dM_goThrough_202 (by decide) ?_
    have hR : fs_gs (va_up si 25 x_31) sl = fs_go (ia 1 ω) (ia 2 ω) (ia 3 ω) (fs_gs si sl) := by
      show (si 24, x_31, sl 26) = _
      rw [← ex_9]
      subst ex_31
      subst er_28
      subst er_6
      subst er_3
      subst ex_2
      subst ex_1
      rfl
    exact fm_vret hx hb hr hlocks hW ⟨_, _, hM, hMf, ⟨rfl, rfl⟩, hR⟩ dM_goThrough_330
  by_cases hk4 : x_9 = 4
  · subst hk4
    refine lv_tableIn (off := 165) (tgt := 205) hx hb dM_goThrough_40 (by decide) (by decide) rfl (by decide) ?_
    refine lv_iload hx hb dM_goThrough_205 (lv_at hl 1 rfl) ?_
    refine lv_aload_n hx hb dM_goThrough_207 rfl (lv_at hl 4 rfl) ?_
    refine fm_get (ci := 4) (v := .int (si 24)) (C := RM) (T := TM) (N := 30) hx hb hT inM hown hK hW hM.1 rfl 24 (by decide) (hT _ fl_M_150) (fun _ h9 => h9) rfl dM_goThrough_208 ?_
    refine lv_iload_n hx hb dM_goThrough_211 rfl (lv_at hl 2 rfl) ?_
    refine fm_calli (va_runS (As := [.int (si 24), .int x_2]) (rest := [.int r_3]) ⟨hx, hb, hml, hown, hts⟩ (c_M_bit l D ct A M (si 24) x_2) ⟨callB_of 2 hts (fs_gin co_M_bit) rfl rfl rfl (hT _ ini_M) (hT _ ml_M_95) (by decide +kernel) ⟨Nat.le_of_ble_eq_true rfl, Nat.le_of_ble_eq_true rfl⟩, hT _ st_M_bit⟩ (fn_pre fs_isnw hK hN hW) rfl rfl hl.1 rfl (lv_room (Nat.le_of_ble_eq_true rfl)) dM_goThrough_212 ⟨Nat.le_of_ble_eq_true rfl, Nat.le_of_ble_eq_true rfl⟩) hW (fun r_34 M_35 H locs hp_36 hW => ?_)
    have hW : fm_W D fs_cl5 A M s.heap H locs := by rw [← hp_36.2]; exact hW
    have er_34 := hp_36.1
    refine lv_ixor hx hb dM_goThrough_215 ?_
    refine lv_topi (fun x_37 ex_37 => ?_)
    refine lv_istore (lv' := [(4, .int x_37), (5, .int r_6), (3, .int x_2), (2, .int x_1), (0, .ref b), (1, .int (nI ω))]) hx hb dM_goThrough_216 hl (by decide) rfl (fun ls hl => ?_)
    refine lv_iload hx hb dM_goThrough_218 (lv_at hl 1 rfl) ?_
    refine lv_aload_n hx hb dM_goThrough_220 rfl (lv_at hl 4 rfl) ?_
    refine fm_get (ci := 4) (v := .int (si 25)) (C := RM) (T := TM) (N := 30) hx hb hT inM hown hK hW hM.1 rfl 25 (by decide) (hT _ fl_M_153) (fun _ h9 => h9) rfl dM_goThrough_221 ?_
    refine lv_iload_n hx hb dM_goThrough_224 rfl (lv_at hl 2 rfl) ?_
    refine fm_calli (va_runS (As := [.int (si 25), .int x_2]) (rest := [.int r_6]) ⟨hx, hb, hml, hown, hts⟩ (c_M_bit l D ct A M (si 25) x_2) ⟨callB_of 2 hts (fs_gin co_M_bit) rfl rfl rfl (hT _ ini_M) (hT _ ml_M_95) (by decide +kernel) ⟨Nat.le_of_ble_eq_true rfl, Nat.le_of_ble_eq_true rfl⟩, hT _ st_M_bit⟩ (fn_pre fs_isnw hK hN hW) rfl rfl hl.1 rfl (lv_room (Nat.le_of_ble_eq_true rfl)) dM_goThrough_225 ⟨Nat.le_of_ble_eq_true rfl, Nat.le_of_ble_eq_true rfl⟩) hW (fun r_38 M_39 H locs hp_40 hW => ?_)
    have hW : fm_W D fs_cl5 A M s.heap H locs := by rw [← hp_40.2]; exact hW
    have er_38 := hp_40.1
    refine lv_ixor hx hb dM_goThrough_228 ?_
    refine lv_topi (fun x_41 ex_41 => ?_)
    refine lv_istore (lv' := [(5, .int x_41), (4, .int x_37), (3, .int x_2), (2, .int x_1), (0, .ref b), (1, .int (nI ω))]) hx hb dM_goThrough_229 hl (by decide) rfl (fun ls hl => ?_)
    refine lv_aload_n hx hb dM_goThrough_231 rfl (lv_at hl 4 rfl) ?_
    refine lv_dup hx hb dM_goThrough_232 rfl ?_
    refine fm_get (ci := 4) (v := .int (si 24)) (C := RM) (T := TM) (N := 30) hx hb hT inM hown hK hW hM.1 rfl 24 (by decide) (hT _ fl_M_150) (fun _ h9 => h9) rfl dM_goThrough_233 ?_
    refine lv_iload hx hb dM_goThrough_236 (lv_at hl 1 rfl) ?_
    refine lv_iload_n hx hb dM_goThrough_238 rfl (lv_at hl 3 rfl) ?_
    refine lv_ishl hx hb dM_goThrough_239 ?_
    refine lv_iload hx hb dM_goThrough_240 (lv_at hl 1 rfl) ?_
    refine lv_iload_n hx hb dM_goThrough_242 rfl (lv_at hl 2 rfl) ?_
    refine lv_ishl hx hb dM_goThrough_243 ?_
    refine lv_ior hx hb dM_goThrough_244 ?_
    refine lv_ixor hx hb dM_goThrough_245 ?_
    refine lv_topi (fun x_42 ex_42 => ?_)
    refine fm_put (ci := 4) (v := .int x_42) (ty := .int) (C := RM) (T := TM) (N := 30) hx hb hT inM tyM tkM nmM hown hK hW hM.1 rfl 24 (by decide) (hT _ fl_M_150) (fun _ h9 => h9) rfl (by decide +kernel) rfl rfl (Nat.le_of_ble_eq_true rfl) dM_goThrough_246 (fun H locs hW => ?_)
    obtain ⟨M_43, eM_43⟩ : ∃ z : fm_M, z = va_up M b (some (.inr (4, [.int (si 0), .int (nI (cn 0)), .int (nI (cn 1)), .int (nI (cn 2)), .int (nI (cn 3)), .int (nI (cn 4)), .ref (b + 1), .ref (b + 2), .ref (b + 3), .ref (b + 4), .ref (b + 5), .ref (b + 6), .ref (b + 7), .ref (b + 8), .ref (b + 9), .ref (b + 10), .ref (b + 11), .ref (b + 12), .ref (b + 13), .ref (b + 14), .int (si 20), .int (si 21), .int (si 22), .long (sl 23), .int x_42, .int (si 25), .long (sl 26), .int (si 27), .ref (b + 15), .ref (b + 16)]))) := ⟨_, rfl⟩
    have hW : fm_W D fs_cl5 A M_43 s.heap H locs := by rw [eM_43]; exact hW
    have f_44 : M_43 b = some (.inr (4, [.int (si 0), .int (nI (cn 0)), .int (nI (cn 1)), .int (nI (cn 2)), .int (nI (cn 3)), .int (nI (cn 4)), .ref (b + 1), .ref (b + 2), .ref (b + 3), .ref (b + 4), .ref (b + 5), .ref (b + 6), .ref (b + 7), .ref (b + 8), .ref (b + 9), .ref (b + 10), .ref (b + 11), .ref (b + 12), .ref (b + 13), .ref (b + 14), .int (si 20), .int (si 21), .int (si 22), .long (sl 23), .int x_42, .int (si 25), .long (sl 26), .int (si 27), .ref (b + 15), .ref (b + 16)])) := by rw [eM_43]; exact fm_us
    have hM : fs_MW ct M_43 b cn (va_up si 24 x_42) sl ia la := by rw [eM_43]; exact fs_MW_o hM cn (va_up si 24 x_42) sl
    have hMf : fs_Mf b M M_43 := by rw [eM_43]; exact fs_Mf_u hMf (by omega) _
    refine lv_aload_n hx hb dM_goThrough_249 rfl (lv_at hl 4 rfl) ?_
    refine lv_dup hx hb dM_goThrough_250 rfl ?_
    refine fm_get (ci := 4) (v := .int (si 25)) (C := RM) (T := TM) (N := 30) hx hb hT inM hown hK hW f_44 rfl 25 (by decide) (hT _ fl_M_153) (fun _ h9 => h9) rfl dM_goThrough_251 ?_
    refine lv_iload hx hb dM_goThrough_254 (lv_at hl 0 rfl) ?_
    refine lv_iload_n hx hb dM_goThrough_256 rfl (lv_at hl 3 rfl) ?_
    refine lv_ishl hx hb dM_goThrough_257 ?_
    refine lv_iload hx hb dM_goThrough_258 (lv_at hl 0 rfl) ?_
    refine lv_iload_n hx hb dM_goThrough_260 rfl (lv_at hl 2 rfl) ?_
    refine lv_ishl hx hb dM_goThrough_261 ?_
    refine lv_ior hx hb dM_goThrough_262 ?_
    refine lv_ixor hx hb dM_goThrough_263 ?_
    refine lv_topi (fun x_45 ex_45 => ?_)
    refine fm_put (ci := 4) (v := .int x_45) (ty := .int) (C := RM) (T := TM) (N := 30) hx hb hT inM tyM tkM nmM hown hK hW f_44 rfl 25 (by decide) (hT _ fl_M_153) (fun _ h9 => h9) rfl (by decide +kernel) rfl rfl (Nat.le_of_ble_eq_true rfl) dM_goThrough_264 (fun H locs hW => ?_)
    obtain ⟨M_46, eM_46⟩ : ∃ z : fm_M, z = va_up M_43 b (some (.inr (4, [.int (si 0), .int (nI (cn 0)), .int (nI (cn 1)), .int (nI (cn 2)), .int (nI (cn 3)), .int (nI (cn 4)), .ref (b + 1), .ref (b + 2), .ref (b + 3), .ref (b + 4), .ref (b + 5), .ref (b + 6), .ref (b + 7), .ref (b + 8), .ref (b + 9), .ref (b + 10), .ref (b + 11), .ref (b + 12), .ref (b + 13), .ref (b + 14), .int (si 20), .int (si 21), .int (si 22), .long (sl 23), .int x_42, .int x_45, .long (sl 26), .int (si 27), .ref (b + 15), .ref (b + 16)]))) := ⟨_, rfl⟩
    have hW : fm_W D fs_cl5 A M_46 s.heap H locs := by rw [eM_46]; exact hW
    have f_47 : M_46 b = some (.inr (4, [.int (si 0), .int (nI (cn 0)), .int (nI (cn 1)), .int (nI (cn 2)), .int (nI (cn 3)), .int (nI (cn 4)), .ref (b + 1), .ref (b + 2), .ref (b + 3), .ref (b + 4), .ref (b + 5), .ref (b + 6), .ref (b + 7), .ref (b + 8), .ref (b + 9), .ref (b + 10), .ref (b + 11), .ref (b + 12), .ref (b + 13), .ref (b + 14), .int (si 20), .int (si 21), .int (si 22), .long (sl 23), .int x_42, .int x_45, .long (sl 26), .int (si 27), .ref (b + 15), .ref (b + 16)])) := by rw [eM_46]; exact fm_us
    have hM : fs_MW ct M_46 b cn (va_up (va_up si 24 x_42) 25 x_45) sl ia la := by rw [eM_46]; exact fs_MW_o hM cn (va_up (va_up si 24 x_42) 25 x_45) sl
    have hMf : fs_Mf b M M_46 := by rw [eM_46]; exact fs_Mf_u hMf (by omega) _
    refine lv_goto (tgt := 330) hx hb dM_goThrough_267 (by decide) ?_
    have hR : fs_gs (va_up (va_up si 24 x_42) 25 x_45) sl = fs_go (ia 1 ω) (ia 2 ω) (ia 3 ω) (fs_gs si sl) := by
      show (x_42, x_45, sl 26) = _
      rw [← ex_9]
      subst ex_45
      subst ex_42
      subst ex_41
      subst er_38
      subst ex_37
      subst er_34
      subst er_6
      subst er_3
      subst ex_2
      subst ex_1
      rfl
    exact fm_vret hx hb hr hlocks hW ⟨_, _, hM, hMf, ⟨rfl, rfl⟩, hR⟩ dM_goThrough_330
  by_cases hk5 : x_9 = 5
  · subst hk5
    refine lv_tableIn (off := 290) (tgt := 330) hx hb dM_goThrough_40 (by decide) (by decide) rfl (by decide) ?_
    have hR : fs_gs si sl = fs_go (ia 1 ω) (ia 2 ω) (ia 3 ω) (fs_gs si sl) := by
      show (si 24, si 25, sl 26) = _
      rw [← ex_9]
      subst er_6
      subst er_3
      subst ex_2
      subst ex_1
      rfl
    exact fm_vret hx hb hr hlocks hW ⟨_, _, hM, hMf, ⟨rfl, rfl⟩, hR⟩ dM_goThrough_330
  by_cases hk6 : x_9 = 6
  · subst hk6
    refine lv_tableIn (off := 290) (tgt := 330) hx hb dM_goThrough_40 (by decide) (by decide) rfl (by decide) ?_
    have hR : fs_gs si sl = fs_go (ia 1 ω) (ia 2 ω) (ia 3 ω) (fs_gs si sl) := by
      show (si 24, si 25, sl 26) = _
      rw [← ex_9]
      subst er_6
      subst er_3
      subst ex_2
      subst ex_1
      rfl
    exact fm_vret hx hb hr hlocks hW ⟨_, _, hM, hMf, ⟨rfl, rfl⟩, hR⟩ dM_goThrough_330
  by_cases hk7 : x_9 = 7
  · subst hk7
    refine lv_tableIn (off := 230) (tgt := 270) hx hb dM_goThrough_40 (by decide) (by decide) rfl (by decide) ?_
    refine lv_iload hx hb dM_goThrough_270 (lv_at hl 1 rfl) ?_
    refine lv_iconst (v := 1) hx hb dM_goThrough_272 (by decide) ?_
    refine lv_icmp_ne (tgt := 288) hx hb dM_goThrough_273 (by decide) (fun c_48 => ?_) (fun c_48 => ?_)
    · have hx1 : ¬ fs_bi (fs_gs si sl).1 (ia 2 ω) = 1 := by have z := c_48; rw [er_3] at z; rw [ex_1] at z; exact z
      refine lv_aload_n hx hb dM_goThrough_288 rfl (lv_at hl 4 rfl) ?_
      refine lv_dup hx hb dM_goThrough_289 rfl ?_
      refine fm_get (ci := 4) (v := .int (si 25)) (C := RM) (T := TM) (N := 30) hx hb hT inM hown hK hW hM.1 rfl 25 (by decide) (hT _ fl_M_153) (fun _ h9 => h9) rfl dM_goThrough_290 ?_
      refine lv_iconst (v := 1) hx hb dM_goThrough_293 (by decide) ?_
      refine lv_iload_n hx hb dM_goThrough_294 rfl (lv_at hl 3 rfl) ?_
      refine lv_ishl hx hb dM_goThrough_295 ?_
      refine lv_iconst (v := -1) hx hb dM_goThrough_296 (by decide) ?_
      refine lv_ixor hx hb dM_goThrough_297 ?_
      refine lv_iand hx hb dM_goThrough_298 ?_
      refine lv_topi (fun x_49 ex_49 => ?_)
      refine fm_put (ci := 4) (v := .int x_49) (ty := .int) (C := RM) (T := TM) (N := 30) hx hb hT inM tyM tkM nmM hown hK hW hM.1 rfl 25 (by decide) (hT _ fl_M_153) (fun _ h9 => h9) rfl (by decide +kernel) rfl rfl (Nat.le_of_ble_eq_true rfl) dM_goThrough_299 (fun H locs hW => ?_)
      obtain ⟨M_50, eM_50⟩ : ∃ z : fm_M, z = va_up M b (some (.inr (4, [.int (si 0), .int (nI (cn 0)), .int (nI (cn 1)), .int (nI (cn 2)), .int (nI (cn 3)), .int (nI (cn 4)), .ref (b + 1), .ref (b + 2), .ref (b + 3), .ref (b + 4), .ref (b + 5), .ref (b + 6), .ref (b + 7), .ref (b + 8), .ref (b + 9), .ref (b + 10), .ref (b + 11), .ref (b + 12), .ref (b + 13), .ref (b + 14), .int (si 20), .int (si 21), .int (si 22), .long (sl 23), .int (si 24), .int x_49, .long (sl 26), .int (si 27), .ref (b + 15), .ref (b + 16)]))) := ⟨_, rfl⟩
      have hW : fm_W D fs_cl5 A M_50 s.heap H locs := by rw [eM_50]; exact hW
      have f_51 : M_50 b = some (.inr (4, [.int (si 0), .int (nI (cn 0)), .int (nI (cn 1)), .int (nI (cn 2)), .int (nI (cn 3)), .int (nI (cn 4)), .ref (b + 1), .ref (b + 2), .ref (b + 3), .ref (b + 4), .ref (b + 5), .ref (b + 6), .ref (b + 7), .ref (b + 8), .ref (b + 9), .ref (b + 10), .ref (b + 11), .ref (b + 12), .ref (b + 13), .ref (b + 14), .int (si 20), .int (si 21), .int (si 22), .long (sl 23), .int (si 24), .int x_49, .long (sl 26), .int (si 27), .ref (b + 15), .ref (b + 16)])) := by rw [eM_50]; exact fm_us
      have hM : fs_MW ct M_50 b cn (va_up si 25 x_49) sl ia la := by rw [eM_50]; exact fs_MW_o hM cn (va_up si 25 x_49) sl
      have hMf : fs_Mf b M M_50 := by rw [eM_50]; exact fs_Mf_u hMf (by omega) _
      refine lv_aload_n hx hb dM_goThrough_302 rfl (lv_at hl 4 rfl) ?_
      refine fm_get (ci := 4) (v := .ref (b + 1)) (C := RM) (T := TM) (N := 30) hx hb hT inM hown hK hW f_51 rfl 6 (by decide) (hT _ fl_M_7) (fun _ h9 => h9) rfl dM_goThrough_303 ?_
      refine lv_iload_n hx hb dM_goThrough_306 rfl (lv_at hl 5 rfl) ?_
      refine fn_iald (n := 300) (f := ia 1) hx hb hK hW 0 (hM.2.1 1 rfl) rfl (show ω < 300 by omega) (by decide) dM_goThrough_307 ?_
      refine lv_bipush (v := 8) hx hb dM_goThrough_308 (by decide) ?_
      refine lv_icmp_ne (tgt := 330) hx hb dM_goThrough_310 (by decide) (fun c_52 => ?_) (fun c_52 => ?_)
      · have hR : fs_gs (va_up si 25 x_49) sl = fs_go (ia 1 ω) (ia 2 ω) (ia 3 ω) (fs_gs si sl) := by
          show (si 24, x_49, sl 26) = _
          rw [← ex_9, fs_go_7, if_neg hx1]
          subst ex_49
          subst er_6
          subst er_3
          subst ex_2
          subst ex_1
          rfl
        exact fm_vret hx hb hr hlocks hW ⟨_, _, hM, hMf, ⟨rfl, rfl⟩, hR⟩ dM_goThrough_330
      · exact absurd (ex_9.trans c_52) (by decide)
    · have hx1 : fs_bi (fs_gs si sl).1 (ia 2 ω) = 1 := by have z := c_48; rw [er_3] at z; rw [ex_1] at z; exact z
      refine lv_aload_n hx hb dM_goThrough_276 rfl (lv_at hl 4 rfl) ?_
      refine lv_dup hx hb dM_goThrough_277 rfl ?_
      refine fm_get (ci := 4) (v := .long (sl 26)) (C := RM) (T := TM) (N := 30) hx hb hT inM hown hK hW hM.1 rfl 26 (by decide) (hT _ fl_M_156) (fun _ h9 => h9) rfl dM_goThrough_278 ?_
      refine lv_lconst (v := 1) hx hb dM_goThrough_281 (by decide) ?_
      refine lv_iload_n hx hb dM_goThrough_282 rfl (lv_at hl 2 rfl) ?_
      refine lv_lshl (v := 1 <<< (x_2.toInt64 &&& 63)) hx hb dM_goThrough_283 rfl ?_
      refine lv_lor hx hb dM_goThrough_284 ?_
      refine lv_topl (fun x_53 ex_53 => ?_)
      refine fm_put (ci := 4) (v := .long x_53) (ty := .long) (C := RM) (T := TM) (N := 30) hx hb hT inM tyM tkM nmM hown hK hW hM.1 rfl 26 (by decide) (hT _ fl_M_156) (fun _ h9 => h9) rfl (by decide +kernel) rfl rfl (Nat.le_of_ble_eq_true rfl) dM_goThrough_285 (fun H locs hW => ?_)
      obtain ⟨M_54, eM_54⟩ : ∃ z : fm_M, z = va_up M b (some (.inr (4, [.int (si 0), .int (nI (cn 0)), .int (nI (cn 1)), .int (nI (cn 2)), .int (nI (cn 3)), .int (nI (cn 4)), .ref (b + 1), .ref (b + 2), .ref (b + 3), .ref (b + 4), .ref (b + 5), .ref (b + 6), .ref (b + 7), .ref (b + 8), .ref (b + 9), .ref (b + 10), .ref (b + 11), .ref (b + 12), .ref (b + 13), .ref (b + 14), .int (si 20), .int (si 21), .int (si 22), .long (sl 23), .int (si 24), .int (si 25), .long x_53, .int (si 27), .ref (b + 15), .ref (b + 16)]))) := ⟨_, rfl⟩
      have hW : fm_W D fs_cl5 A M_54 s.heap H locs := by rw [eM_54]; exact hW
      have f_55 : M_54 b = some (.inr (4, [.int (si 0), .int (nI (cn 0)), .int (nI (cn 1)), .int (nI (cn 2)), .int (nI (cn 3)), .int (nI (cn 4)), .ref (b + 1), .ref (b + 2), .ref (b + 3), .ref (b + 4), .ref (b + 5), .ref (b + 6), .ref (b + 7), .ref (b + 8), .ref (b + 9), .ref (b + 10), .ref (b + 11), .ref (b + 12), .ref (b + 13), .ref (b + 14), .int (si 20), .int (si 21), .int (si 22), .long (sl 23), .int (si 24), .int (si 25), .long x_53, .int (si 27), .ref (b + 15), .ref (b + 16)])) := by rw [eM_54]; exact fm_us
      have hM : fs_MW ct M_54 b cn si (va_up sl 26 x_53) ia la := by rw [eM_54]; exact fs_MW_o hM cn si (va_up sl 26 x_53)
      have hMf : fs_Mf b M M_54 := by rw [eM_54]; exact fs_Mf_u hMf (by omega) _
      refine lv_aload_n hx hb dM_goThrough_288 rfl (lv_at hl 4 rfl) ?_
      refine lv_dup hx hb dM_goThrough_289 rfl ?_
      refine fm_get (ci := 4) (v := .int (si 25)) (C := RM) (T := TM) (N := 30) hx hb hT inM hown hK hW f_55 rfl 25 (by decide) (hT _ fl_M_153) (fun _ h9 => h9) rfl dM_goThrough_290 ?_
      refine lv_iconst (v := 1) hx hb dM_goThrough_293 (by decide) ?_
      refine lv_iload_n hx hb dM_goThrough_294 rfl (lv_at hl 3 rfl) ?_
      refine lv_ishl hx hb dM_goThrough_295 ?_
      refine lv_iconst (v := -1) hx hb dM_goThrough_296 (by decide) ?_
      refine lv_ixor hx hb dM_goThrough_297 ?_
      refine lv_iand hx hb dM_goThrough_298 ?_
      refine lv_topi (fun x_56 ex_56 => ?_)
      refine fm_put (ci := 4) (v := .int x_56) (ty := .int) (C := RM) (T := TM) (N := 30) hx hb hT inM tyM tkM nmM hown hK hW f_55 rfl 25 (by decide) (hT _ fl_M_153) (fun _ h9 => h9) rfl (by decide +kernel) rfl rfl (Nat.le_of_ble_eq_true rfl) dM_goThrough_299 (fun H locs hW => ?_)
      obtain ⟨M_57, eM_57⟩ : ∃ z : fm_M, z = va_up M_54 b (some (.inr (4, [.int (si 0), .int (nI (cn 0)), .int (nI (cn 1)), .int (nI (cn 2)), .int (nI (cn 3)), .int (nI (cn 4)), .ref (b + 1), .ref (b + 2), .ref (b + 3), .ref (b + 4), .ref (b + 5), .ref (b + 6), .ref (b + 7), .ref (b + 8), .ref (b + 9), .ref (b + 10), .ref (b + 11), .ref (b + 12), .ref (b + 13), .ref (b + 14), .int (si 20), .int (si 21), .int (si 22), .long (sl 23), .int (si 24), .int x_56, .long x_53, .int (si 27), .ref (b + 15), .ref (b + 16)]))) := ⟨_, rfl⟩
      have hW : fm_W D fs_cl5 A M_57 s.heap H locs := by rw [eM_57]; exact hW
      have f_58 : M_57 b = some (.inr (4, [.int (si 0), .int (nI (cn 0)), .int (nI (cn 1)), .int (nI (cn 2)), .int (nI (cn 3)), .int (nI (cn 4)), .ref (b + 1), .ref (b + 2), .ref (b + 3), .ref (b + 4), .ref (b + 5), .ref (b + 6), .ref (b + 7), .ref (b + 8), .ref (b + 9), .ref (b + 10), .ref (b + 11), .ref (b + 12), .ref (b + 13), .ref (b + 14), .int (si 20), .int (si 21), .int (si 22), .long (sl 23), .int (si 24), .int x_56, .long x_53, .int (si 27), .ref (b + 15), .ref (b + 16)])) := by rw [eM_57]; exact fm_us
      have hM : fs_MW ct M_57 b cn (va_up si 25 x_56) (va_up sl 26 x_53) ia la := by rw [eM_57]; exact fs_MW_o hM cn (va_up si 25 x_56) (va_up sl 26 x_53)
      have hMf : fs_Mf b M M_57 := by rw [eM_57]; exact fs_Mf_u hMf (by omega) _
      refine lv_aload_n hx hb dM_goThrough_302 rfl (lv_at hl 4 rfl) ?_
      refine fm_get (ci := 4) (v := .ref (b + 1)) (C := RM) (T := TM) (N := 30) hx hb hT inM hown hK hW f_58 rfl 6 (by decide) (hT _ fl_M_7) (fun _ h9 => h9) rfl dM_goThrough_303 ?_
      refine lv_iload_n hx hb dM_goThrough_306 rfl (lv_at hl 5 rfl) ?_
      refine fn_iald (n := 300) (f := ia 1) hx hb hK hW 0 (hM.2.1 1 rfl) rfl (show ω < 300 by omega) (by decide) dM_goThrough_307 ?_
      refine lv_bipush (v := 8) hx hb dM_goThrough_308 (by decide) ?_
      refine lv_icmp_ne (tgt := 330) hx hb dM_goThrough_310 (by decide) (fun c_59 => ?_) (fun c_59 => ?_)
      · have hR : fs_gs (va_up si 25 x_56) (va_up sl 26 x_53) = fs_go (ia 1 ω) (ia 2 ω) (ia 3 ω) (fs_gs si sl) := by
          show (si 24, x_56, x_53) = _
          rw [← ex_9, fs_go_7, if_pos hx1]
          subst ex_56
          subst ex_53
          subst er_6
          subst er_3
          subst ex_2
          subst ex_1
          rfl
        exact fm_vret hx hb hr hlocks hW ⟨_, _, hM, hMf, ⟨rfl, rfl⟩, hR⟩ dM_goThrough_330
      · exact absurd (ex_9.trans c_59) (by decide)
  by_cases hk8 : x_9 = 8
  · subst hk8
    refine lv_tableIn (off := 230) (tgt := 270) hx hb dM_goThrough_40 (by decide) (by decide) rfl (by decide) ?_
    refine lv_iload hx hb dM_goThrough_270 (lv_at hl 1 rfl) ?_
    refine lv_iconst (v := 1) hx hb dM_goThrough_272 (by decide) ?_
    refine lv_icmp_ne (tgt := 288) hx hb dM_goThrough_273 (by decide) (fun c_60 => ?_) (fun c_60 => ?_)
    · have hx1 : ¬ fs_bi (fs_gs si sl).1 (ia 2 ω) = 1 := by have z := c_60; rw [er_3] at z; rw [ex_1] at z; exact z
      refine lv_aload_n hx hb dM_goThrough_288 rfl (lv_at hl 4 rfl) ?_
      refine lv_dup hx hb dM_goThrough_289 rfl ?_
      refine fm_get (ci := 4) (v := .int (si 25)) (C := RM) (T := TM) (N := 30) hx hb hT inM hown hK hW hM.1 rfl 25 (by decide) (hT _ fl_M_153) (fun _ h9 => h9) rfl dM_goThrough_290 ?_
      refine lv_iconst (v := 1) hx hb dM_goThrough_293 (by decide) ?_
      refine lv_iload_n hx hb dM_goThrough_294 rfl (lv_at hl 3 rfl) ?_
      refine lv_ishl hx hb dM_goThrough_295 ?_
      refine lv_iconst (v := -1) hx hb dM_goThrough_296 (by decide) ?_
      refine lv_ixor hx hb dM_goThrough_297 ?_
      refine lv_iand hx hb dM_goThrough_298 ?_
      refine lv_topi (fun x_61 ex_61 => ?_)
      refine fm_put (ci := 4) (v := .int x_61) (ty := .int) (C := RM) (T := TM) (N := 30) hx hb hT inM tyM tkM nmM hown hK hW hM.1 rfl 25 (by decide) (hT _ fl_M_153) (fun _ h9 => h9) rfl (by decide +kernel) rfl rfl (Nat.le_of_ble_eq_true rfl) dM_goThrough_299 (fun H locs hW => ?_)
      obtain ⟨M_62, eM_62⟩ : ∃ z : fm_M, z = va_up M b (some (.inr (4, [.int (si 0), .int (nI (cn 0)), .int (nI (cn 1)), .int (nI (cn 2)), .int (nI (cn 3)), .int (nI (cn 4)), .ref (b + 1), .ref (b + 2), .ref (b + 3), .ref (b + 4), .ref (b + 5), .ref (b + 6), .ref (b + 7), .ref (b + 8), .ref (b + 9), .ref (b + 10), .ref (b + 11), .ref (b + 12), .ref (b + 13), .ref (b + 14), .int (si 20), .int (si 21), .int (si 22), .long (sl 23), .int (si 24), .int x_61, .long (sl 26), .int (si 27), .ref (b + 15), .ref (b + 16)]))) := ⟨_, rfl⟩
      have hW : fm_W D fs_cl5 A M_62 s.heap H locs := by rw [eM_62]; exact hW
      have f_63 : M_62 b = some (.inr (4, [.int (si 0), .int (nI (cn 0)), .int (nI (cn 1)), .int (nI (cn 2)), .int (nI (cn 3)), .int (nI (cn 4)), .ref (b + 1), .ref (b + 2), .ref (b + 3), .ref (b + 4), .ref (b + 5), .ref (b + 6), .ref (b + 7), .ref (b + 8), .ref (b + 9), .ref (b + 10), .ref (b + 11), .ref (b + 12), .ref (b + 13), .ref (b + 14), .int (si 20), .int (si 21), .int (si 22), .long (sl 23), .int (si 24), .int x_61, .long (sl 26), .int (si 27), .ref (b + 15), .ref (b + 16)])) := by rw [eM_62]; exact fm_us
      have hM : fs_MW ct M_62 b cn (va_up si 25 x_61) sl ia la := by rw [eM_62]; exact fs_MW_o hM cn (va_up si 25 x_61) sl
      have hMf : fs_Mf b M M_62 := by rw [eM_62]; exact fs_Mf_u hMf (by omega) _
      refine lv_aload_n hx hb dM_goThrough_302 rfl (lv_at hl 4 rfl) ?_
      refine fm_get (ci := 4) (v := .ref (b + 1)) (C := RM) (T := TM) (N := 30) hx hb hT inM hown hK hW f_63 rfl 6 (by decide) (hT _ fl_M_7) (fun _ h9 => h9) rfl dM_goThrough_303 ?_
      refine lv_iload_n hx hb dM_goThrough_306 rfl (lv_at hl 5 rfl) ?_
      refine fn_iald (n := 300) (f := ia 1) hx hb hK hW 0 (hM.2.1 1 rfl) rfl (show ω < 300 by omega) (by decide) dM_goThrough_307 ?_
      refine lv_bipush (v := 8) hx hb dM_goThrough_308 (by decide) ?_
      refine lv_icmp_ne (tgt := 330) hx hb dM_goThrough_310 (by decide) (fun c_64 => ?_) (fun c_64 => ?_)
      · exact absurd ex_9.symm c_64
      · refine lv_aload_n hx hb dM_goThrough_313 rfl (lv_at hl 4 rfl) ?_
        refine lv_dup hx hb dM_goThrough_314 rfl ?_
        refine fm_get (ci := 4) (v := .int (si 24)) (C := RM) (T := TM) (N := 30) hx hb hT inM hown hK hW f_63 rfl 24 (by decide) (hT _ fl_M_150) (fun _ h9 => h9) rfl dM_goThrough_315 ?_
        refine lv_iconst (v := 1) hx hb dM_goThrough_318 (by decide) ?_
        refine lv_iload_n hx hb dM_goThrough_319 rfl (lv_at hl 3 rfl) ?_
        refine lv_ishl hx hb dM_goThrough_320 ?_
        refine lv_iconst (v := -1) hx hb dM_goThrough_321 (by decide) ?_
        refine lv_ixor hx hb dM_goThrough_322 ?_
        refine lv_iand hx hb dM_goThrough_323 ?_
        refine lv_topi (fun x_65 ex_65 => ?_)
        refine fm_put (ci := 4) (v := .int x_65) (ty := .int) (C := RM) (T := TM) (N := 30) hx hb hT inM tyM tkM nmM hown hK hW f_63 rfl 24 (by decide) (hT _ fl_M_150) (fun _ h9 => h9) rfl (by decide +kernel) rfl rfl (Nat.le_of_ble_eq_true rfl) dM_goThrough_324 (fun H locs hW => ?_)
        obtain ⟨M_66, eM_66⟩ : ∃ z : fm_M, z = va_up M_62 b (some (.inr (4, [.int (si 0), .int (nI (cn 0)), .int (nI (cn 1)), .int (nI (cn 2)), .int (nI (cn 3)), .int (nI (cn 4)), .ref (b + 1), .ref (b + 2), .ref (b + 3), .ref (b + 4), .ref (b + 5), .ref (b + 6), .ref (b + 7), .ref (b + 8), .ref (b + 9), .ref (b + 10), .ref (b + 11), .ref (b + 12), .ref (b + 13), .ref (b + 14), .int (si 20), .int (si 21), .int (si 22), .long (sl 23), .int x_65, .int x_61, .long (sl 26), .int (si 27), .ref (b + 15), .ref (b + 16)]))) := ⟨_, rfl⟩
        have hW : fm_W D fs_cl5 A M_66 s.heap H locs := by rw [eM_66]; exact hW
        have f_67 : M_66 b = some (.inr (4, [.int (si 0), .int (nI (cn 0)), .int (nI (cn 1)), .int (nI (cn 2)), .int (nI (cn 3)), .int (nI (cn 4)), .ref (b + 1), .ref (b + 2), .ref (b + 3), .ref (b + 4), .ref (b + 5), .ref (b + 6), .ref (b + 7), .ref (b + 8), .ref (b + 9), .ref (b + 10), .ref (b + 11), .ref (b + 12), .ref (b + 13), .ref (b + 14), .int (si 20), .int (si 21), .int (si 22), .long (sl 23), .int x_65, .int x_61, .long (sl 26), .int (si 27), .ref (b + 15), .ref (b + 16)])) := by rw [eM_66]; exact fm_us
        have hM : fs_MW ct M_66 b cn (va_up (va_up si 25 x_61) 24 x_65) sl ia la := by rw [eM_66]; exact fs_MW_o hM cn (va_up (va_up si 25 x_61) 24 x_65) sl
        have hMf : fs_Mf b M M_66 := by rw [eM_66]; exact fs_Mf_u hMf (by omega) _
        refine lv_goto (tgt := 330) hx hb dM_goThrough_327 (by decide) ?_
        have hR : fs_gs (va_up (va_up si 25 x_61) 24 x_65) sl = fs_go (ia 1 ω) (ia 2 ω) (ia 3 ω) (fs_gs si sl) := by
          show (x_65, x_61, sl 26) = _
          rw [← ex_9, fs_go_8, if_neg hx1]
          subst ex_65
          subst ex_61
          subst er_6
          subst er_3
          subst ex_2
          subst ex_1
          rfl
        exact fm_vret hx hb hr hlocks hW ⟨_, _, hM, hMf, ⟨rfl, rfl⟩, hR⟩ dM_goThrough_330
    · have hx1 : fs_bi (fs_gs si sl).1 (ia 2 ω) = 1 := by have z := c_60; rw [er_3] at z; rw [ex_1] at z; exact z
      refine lv_aload_n hx hb dM_goThrough_276 rfl (lv_at hl 4 rfl) ?_
      refine lv_dup hx hb dM_goThrough_277 rfl ?_
      refine fm_get (ci := 4) (v := .long (sl 26)) (C := RM) (T := TM) (N := 30) hx hb hT inM hown hK hW hM.1 rfl 26 (by decide) (hT _ fl_M_156) (fun _ h9 => h9) rfl dM_goThrough_278 ?_
      refine lv_lconst (v := 1) hx hb dM_goThrough_281 (by decide) ?_
      refine lv_iload_n hx hb dM_goThrough_282 rfl (lv_at hl 2 rfl) ?_
      refine lv_lshl (v := 1 <<< (x_2.toInt64 &&& 63)) hx hb dM_goThrough_283 rfl ?_
      refine lv_lor hx hb dM_goThrough_284 ?_
      refine lv_topl (fun x_68 ex_68 => ?_)
      refine fm_put (ci := 4) (v := .long x_68) (ty := .long) (C := RM) (T := TM) (N := 30) hx hb hT inM tyM tkM nmM hown hK hW hM.1 rfl 26 (by decide) (hT _ fl_M_156) (fun _ h9 => h9) rfl (by decide +kernel) rfl rfl (Nat.le_of_ble_eq_true rfl) dM_goThrough_285 (fun H locs hW => ?_)
      obtain ⟨M_69, eM_69⟩ : ∃ z : fm_M, z = va_up M b (some (.inr (4, [.int (si 0), .int (nI (cn 0)), .int (nI (cn 1)), .int (nI (cn 2)), .int (nI (cn 3)), .int (nI (cn 4)), .ref (b + 1), .ref (b + 2), .ref (b + 3), .ref (b + 4), .ref (b + 5), .ref (b + 6), .ref (b + 7), .ref (b + 8), .ref (b + 9), .ref (b + 10), .ref (b + 11), .ref (b + 12), .ref (b + 13), .ref (b + 14), .int (si 20), .int (si 21), .int (si 22), .long (sl 23), .int (si 24), .int (si 25), .long x_68, .int (si 27), .ref (b + 15), .ref (b + 16)]))) := ⟨_, rfl⟩
      have hW : fm_W D fs_cl5 A M_69 s.heap H locs := by rw [eM_69]; exact hW
      have f_70 : M_69 b = some (.inr (4, [.int (si 0), .int (nI (cn 0)), .int (nI (cn 1)), .int (nI (cn 2)), .int (nI (cn 3)), .int (nI (cn 4)), .ref (b + 1), .ref (b + 2), .ref (b + 3), .ref (b + 4), .ref (b + 5), .ref (b + 6), .ref (b + 7), .ref (b + 8), .ref (b + 9), .ref (b + 10), .ref (b + 11), .ref (b + 12), .ref (b + 13), .ref (b + 14), .int (si 20), .int (si 21), .int (si 22), .long (sl 23), .int (si 24), .int (si 25), .long x_68, .int (si 27), .ref (b + 15), .ref (b + 16)])) := by rw [eM_69]; exact fm_us
      have hM : fs_MW ct M_69 b cn si (va_up sl 26 x_68) ia la := by rw [eM_69]; exact fs_MW_o hM cn si (va_up sl 26 x_68)
      have hMf : fs_Mf b M M_69 := by rw [eM_69]; exact fs_Mf_u hMf (by omega) _
      refine lv_aload_n hx hb dM_goThrough_288 rfl (lv_at hl 4 rfl) ?_
      refine lv_dup hx hb dM_goThrough_289 rfl ?_
      refine fm_get (ci := 4) (v := .int (si 25)) (C := RM) (T := TM) (N := 30) hx hb hT inM hown hK hW f_70 rfl 25 (by decide) (hT _ fl_M_153) (fun _ h9 => h9) rfl dM_goThrough_290 ?_
      refine lv_iconst (v := 1) hx hb dM_goThrough_293 (by decide) ?_
      refine lv_iload_n hx hb dM_goThrough_294 rfl (lv_at hl 3 rfl) ?_
      refine lv_ishl hx hb dM_goThrough_295 ?_
      refine lv_iconst (v := -1) hx hb dM_goThrough_296 (by decide) ?_
      refine lv_ixor hx hb dM_goThrough_297 ?_
      refine lv_iand hx hb dM_goThrough_298 ?_
      refine lv_topi (fun x_71 ex_71 => ?_)
      refine fm_put (ci := 4) (v := .int x_71) (ty := .int) (C := RM) (T := TM) (N := 30) hx hb hT inM tyM tkM nmM hown hK hW f_70 rfl 25 (by decide) (hT _ fl_M_153) (fun _ h9 => h9) rfl (by decide +kernel) rfl rfl (Nat.le_of_ble_eq_true rfl) dM_goThrough_299 (fun H locs hW => ?_)
      obtain ⟨M_72, eM_72⟩ : ∃ z : fm_M, z = va_up M_69 b (some (.inr (4, [.int (si 0), .int (nI (cn 0)), .int (nI (cn 1)), .int (nI (cn 2)), .int (nI (cn 3)), .int (nI (cn 4)), .ref (b + 1), .ref (b + 2), .ref (b + 3), .ref (b + 4), .ref (b + 5), .ref (b + 6), .ref (b + 7), .ref (b + 8), .ref (b + 9), .ref (b + 10), .ref (b + 11), .ref (b + 12), .ref (b + 13), .ref (b + 14), .int (si 20), .int (si 21), .int (si 22), .long (sl 23), .int (si 24), .int x_71, .long x_68, .int (si 27), .ref (b + 15), .ref (b + 16)]))) := ⟨_, rfl⟩
      have hW : fm_W D fs_cl5 A M_72 s.heap H locs := by rw [eM_72]; exact hW
      have f_73 : M_72 b = some (.inr (4, [.int (si 0), .int (nI (cn 0)), .int (nI (cn 1)), .int (nI (cn 2)), .int (nI (cn 3)), .int (nI (cn 4)), .ref (b + 1), .ref (b + 2), .ref (b + 3), .ref (b + 4), .ref (b + 5), .ref (b + 6), .ref (b + 7), .ref (b + 8), .ref (b + 9), .ref (b + 10), .ref (b + 11), .ref (b + 12), .ref (b + 13), .ref (b + 14), .int (si 20), .int (si 21), .int (si 22), .long (sl 23), .int (si 24), .int x_71, .long x_68, .int (si 27), .ref (b + 15), .ref (b + 16)])) := by rw [eM_72]; exact fm_us
      have hM : fs_MW ct M_72 b cn (va_up si 25 x_71) (va_up sl 26 x_68) ia la := by rw [eM_72]; exact fs_MW_o hM cn (va_up si 25 x_71) (va_up sl 26 x_68)
      have hMf : fs_Mf b M M_72 := by rw [eM_72]; exact fs_Mf_u hMf (by omega) _
      refine lv_aload_n hx hb dM_goThrough_302 rfl (lv_at hl 4 rfl) ?_
      refine fm_get (ci := 4) (v := .ref (b + 1)) (C := RM) (T := TM) (N := 30) hx hb hT inM hown hK hW f_73 rfl 6 (by decide) (hT _ fl_M_7) (fun _ h9 => h9) rfl dM_goThrough_303 ?_
      refine lv_iload_n hx hb dM_goThrough_306 rfl (lv_at hl 5 rfl) ?_
      refine fn_iald (n := 300) (f := ia 1) hx hb hK hW 0 (hM.2.1 1 rfl) rfl (show ω < 300 by omega) (by decide) dM_goThrough_307 ?_
      refine lv_bipush (v := 8) hx hb dM_goThrough_308 (by decide) ?_
      refine lv_icmp_ne (tgt := 330) hx hb dM_goThrough_310 (by decide) (fun c_74 => ?_) (fun c_74 => ?_)
      · exact absurd ex_9.symm c_74
      · refine lv_aload_n hx hb dM_goThrough_313 rfl (lv_at hl 4 rfl) ?_
        refine lv_dup hx hb dM_goThrough_314 rfl ?_
        refine fm_get (ci := 4) (v := .int (si 24)) (C := RM) (T := TM) (N := 30) hx hb hT inM hown hK hW f_73 rfl 24 (by decide) (hT _ fl_M_150) (fun _ h9 => h9) rfl dM_goThrough_315 ?_
        refine lv_iconst (v := 1) hx hb dM_goThrough_318 (by decide) ?_
        refine lv_iload_n hx hb dM_goThrough_319 rfl (lv_at hl 3 rfl) ?_
        refine lv_ishl hx hb dM_goThrough_320 ?_
        refine lv_iconst (v := -1) hx hb dM_goThrough_321 (by decide) ?_
        refine lv_ixor hx hb dM_goThrough_322 ?_
        refine lv_iand hx hb dM_goThrough_323 ?_
        refine lv_topi (fun x_75 ex_75 => ?_)
        refine fm_put (ci := 4) (v := .int x_75) (ty := .int) (C := RM) (T := TM) (N := 30) hx hb hT inM tyM tkM nmM hown hK hW f_73 rfl 24 (by decide) (hT _ fl_M_150) (fun _ h9 => h9) rfl (by decide +kernel) rfl rfl (Nat.le_of_ble_eq_true rfl) dM_goThrough_324 (fun H locs hW => ?_)
        obtain ⟨M_76, eM_76⟩ : ∃ z : fm_M, z = va_up M_72 b (some (.inr (4, [.int (si 0), .int (nI (cn 0)), .int (nI (cn 1)), .int (nI (cn 2)), .int (nI (cn 3)), .int (nI (cn 4)), .ref (b + 1), .ref (b + 2), .ref (b + 3), .ref (b + 4), .ref (b + 5), .ref (b + 6), .ref (b + 7), .ref (b + 8), .ref (b + 9), .ref (b + 10), .ref (b + 11), .ref (b + 12), .ref (b + 13), .ref (b + 14), .int (si 20), .int (si 21), .int (si 22), .long (sl 23), .int x_75, .int x_71, .long x_68, .int (si 27), .ref (b + 15), .ref (b + 16)]))) := ⟨_, rfl⟩
        have hW : fm_W D fs_cl5 A M_76 s.heap H locs := by rw [eM_76]; exact hW
        have f_77 : M_76 b = some (.inr (4, [.int (si 0), .int (nI (cn 0)), .int (nI (cn 1)), .int (nI (cn 2)), .int (nI (cn 3)), .int (nI (cn 4)), .ref (b + 1), .ref (b + 2), .ref (b + 3), .ref (b + 4), .ref (b + 5), .ref (b + 6), .ref (b + 7), .ref (b + 8), .ref (b + 9), .ref (b + 10), .ref (b + 11), .ref (b + 12), .ref (b + 13), .ref (b + 14), .int (si 20), .int (si 21), .int (si 22), .long (sl 23), .int x_75, .int x_71, .long x_68, .int (si 27), .ref (b + 15), .ref (b + 16)])) := by rw [eM_76]; exact fm_us
        have hM : fs_MW ct M_76 b cn (va_up (va_up si 25 x_71) 24 x_75) (va_up sl 26 x_68) ia la := by rw [eM_76]; exact fs_MW_o hM cn (va_up (va_up si 25 x_71) 24 x_75) (va_up sl 26 x_68)
        have hMf : fs_Mf b M M_76 := by rw [eM_76]; exact fs_Mf_u hMf (by omega) _
        refine lv_goto (tgt := 330) hx hb dM_goThrough_327 (by decide) ?_
        have hR : fs_gs (va_up (va_up si 25 x_71) 24 x_75) (va_up sl 26 x_68) = fs_go (ia 1 ω) (ia 2 ω) (ia 3 ω) (fs_gs si sl) := by
          show (x_75, x_71, x_68) = _
          rw [← ex_9, fs_go_8, if_pos hx1]
          subst ex_75
          subst ex_71
          subst ex_68
          subst er_6
          subst er_3
          subst ex_2
          subst ex_1
          rfl
        exact fm_vret hx hb hr hlocks hW ⟨_, _, hM, hMf, ⟨rfl, rfl⟩, hR⟩ dM_goThrough_330
  refine lv_tableOut (tgt := 330) hx hb dM_goThrough_40 (fs_swo (n := 8) (by decide) (fs_le8 hk0 hk1 hk2 hk3 hk4 hk5 hk6 hk7 hk8)) (by decide) ?_
  have hR : fs_gs si sl = fs_go (ia 1 ω) (ia 2 ω) (ia 3 ω) (fs_gs si sl) := by
    show (si 24, si 25, sl 26) = _
    rw [← ex_9, fs_go_9 hk0 hk1 hk2 hk3 hk4 hk7 hk8]
    subst er_6
    subst er_3
    subst ex_2
    subst ex_1
    rfl
  exact fm_vret hx hb hr hlocks hW ⟨_, _, hM, hMf, ⟨rfl, rfl⟩, hR⟩ dM_goThrough_330
set_option maxHeartbeats 4000000 in
set_option maxRecDepth 100000 in
theorem c_M_changedBy (l : Launch) (D : va_G) (ct : Nat → ClassId) (A : Nat → Prop) (M : fm_M) (b : Nat) (cn : Nat → Nat) (si : Nat → Int32) (sl : Nat → Int64) (ia : Nat → Nat → Int32) (la : Nat → Nat → Int64) (φ : Nat) (ch : Int64) (hM : fs_MW ct M b cn si sl ia la) (hB : fs_Bd cn) (hφ : φ < cn 3) (hq : fs_fq cn ia φ ch) : Met l yM_changedBy wM_changedBy ({ frames := 2, cells := 0, slots := 0, locals := 46 }) (va_Pc [.ref b, .int (nI φ)] (fm_St D fs_cl5 (fs_tys ct) fs_nw A M)) (va_Ql (fun (r : Int64) (M1 : fm_M) => r = ch ∧ ∃ (si2 : Nat → Int32) (sl2 : Nat → Int64), fs_MW ct M1 b cn si2 sl2 ia la ∧ fs_Mf b M M1 ∧ fs_sk si si2) (fm_B D fs_cl5 A) A) 0 0 A := by
  refine Met.ofW (cc := cM_changedBy) (maxL := 4) (ret := (some .long)) (by decide) rfl ?_
  intro p e s m args below meth c s₁ B hml hv
  obtain ⟨rfl, hP0, hA0, hA1, hK, hN⟩ := hv
  have hx := B.exec
  have hb := B.bytes
  have hr := B.returns
  have hts := atoms_spec (ws := wM_changedBy) B.pre
  have hT : ∀ w ∈ fs_tb, w.before _ s = true := fun w h => hts w (List.mem_cons_of_mem _ h)
  have hown : s.vm.findClass "FrameSamplesModel" = some m.cls := findClass_of_methodNamed B.named
  have hlocks := B.notSynchronized
  have hW : fm_W D fs_cl5 A M s.heap s.heap [] := ⟨hP0, hA0, va_S.rf, hA1⟩
  have hl := lv_entry ([.ref b, .int (nI φ)]) (n := 4) (Nat.le_of_ble_eq_true rfl)
  rw [lg_entry_eq]
  generalize (lg_sl ([.ref b, .int (nI φ)]) ++ List.replicate (4 - (lg_sl ([.ref b, .int (nI φ)])).length) Slot.unset).toArray = ls at hl ⊢
  have hl : lv_has ls 4 [(0, .ref b), (1, .int (nI φ))] := hl
  obtain ⟨hB0, hB1, hB2, hB3, hB4, hB5⟩ := hB
  have hMf : fs_Mf b M M := fs_Mf_r
  obtain ⟨t, ht, h4, hch⟩ := hq
  refine lv_aload_n hx hb dM_changedBy_0 rfl (lv_at hl 0 rfl) ?_
  refine fm_get (ci := 4) (v := .ref (b + 2)) (C := RM) (T := TM) (N := 30) hx hb hT inM hown hK hW hM.1 rfl 7 (by decide) (hT _ fl_M_13) (fun _ h9 => h9) rfl dM_changedBy_1 ?_
  refine lv_aload_n hx hb dM_changedBy_4 rfl (lv_at hl 0 rfl) ?_
  refine fm_get (ci := 4) (v := .ref (b + 4)) (C := RM) (T := TM) (N := 30) hx hb hT inM hown hK hW hM.1 rfl 9 (by decide) (hT _ fl_M_19) (fun _ h9 => h9) rfl dM_changedBy_5 ?_
  refine lv_iload_n hx hb dM_changedBy_8 rfl (lv_at hl 1 rfl) ?_
  refine fn_iald (n := 40) (f := ia 4) hx hb hK hW 0 (hM.2.1 4 rfl) rfl (show φ < 40 by omega) (by decide) dM_changedBy_9 ?_
  rw [show (ia 4) φ = nI t from h4]
  refine fn_iald (n := 300) (f := ia 2) hx hb hK hW 0 (hM.2.1 2 rfl) rfl (show t < 300 by omega) (by decide) dM_changedBy_10 ?_
  refine lv_topi (fun x_1 ex_1 => ?_)
  refine lv_istore_n (lv' := [(2, .int x_1), (0, .ref b), (1, .int (nI φ))]) hx hb dM_changedBy_11 rfl hl (by decide) rfl (fun ls hl => ?_)
  refine lv_aload_n hx hb dM_changedBy_12 rfl (lv_at hl 1 rfl) ?_
  refine lv_aload_n hx hb dM_changedBy_13 rfl (lv_at hl 1 rfl) ?_
  refine fm_get (ci := 4) (v := .ref (b + 5)) (C := RM) (T := TM) (N := 30) hx hb hT inM hown hK hW hM.1 rfl 10 (by decide) (hT _ fl_M_22) (fun _ h9 => h9) rfl dM_changedBy_14 ?_
  refine lv_iload_n hx hb dM_changedBy_17 rfl (lv_at hl 2 rfl) ?_
  refine fn_iald (n := 40) (f := ia 5) hx hb hK hW 0 (hM.2.1 5 rfl) rfl (show φ < 40 by omega) (by decide) dM_changedBy_18 ?_
  refine lv_iconst (v := 2) hx hb dM_changedBy_19 (by decide) ?_
  refine lv_icmp_ne (tgt := 27) hx hb dM_changedBy_20 (by decide) (fun c_2 => ?_) (fun c_2 => ?_)
  · refine lv_iconst (v := 1) hx hb dM_changedBy_27 (by decide) ?_
    refine lv_iload_n hx hb dM_changedBy_28 rfl (lv_at hl 0 rfl) ?_
    refine lv_ishl hx hb dM_changedBy_29 ?_
    refine lv_topi (fun gx egx => ?_)
    have egx : gx = fs_fx (ia 5 φ) (ia 2 t) := by unfold fs_fx; rw [egx, if_neg c_2, ex_1]
    refine fm_put (ci := 4) (v := .int gx) (ty := .int) (C := RM) (T := TM) (N := 30) hx hb hT inM tyM tkM nmM hown hK hW hM.1 rfl 24 (by decide) (hT _ fl_M_150) (fun _ h9 => h9) rfl (by decide +kernel) rfl rfl (Nat.le_of_ble_eq_true rfl) dM_changedBy_30 (fun H locs hW => ?_)
    obtain ⟨M_3, eM_3⟩ : ∃ z : fm_M, z = va_up M b (some (.inr (4, [.int (si 0), .int (nI (cn 0)), .int (nI (cn 1)), .int (nI (cn 2)), .int (nI (cn 3)), .int (nI (cn 4)), .ref (b + 1), .ref (b + 2), .ref (b + 3), .ref (b + 4), .ref (b + 5), .ref (b + 6), .ref (b + 7), .ref (b + 8), .ref (b + 9), .ref (b + 10), .ref (b + 11), .ref (b + 12), .ref (b + 13), .ref (b + 14), .int (si 20), .int (si 21), .int (si 22), .long (sl 23), .int gx, .int (si 25), .long (sl 26), .int (si 27), .ref (b + 15), .ref (b + 16)]))) := ⟨_, rfl⟩
    have hW : fm_W D fs_cl5 A M_3 s.heap H locs := by rw [eM_3]; exact hW
    have f_4 : M_3 b = some (.inr (4, [.int (si 0), .int (nI (cn 0)), .int (nI (cn 1)), .int (nI (cn 2)), .int (nI (cn 3)), .int (nI (cn 4)), .ref (b + 1), .ref (b + 2), .ref (b + 3), .ref (b + 4), .ref (b + 5), .ref (b + 6), .ref (b + 7), .ref (b + 8), .ref (b + 9), .ref (b + 10), .ref (b + 11), .ref (b + 12), .ref (b + 13), .ref (b + 14), .int (si 20), .int (si 21), .int (si 22), .long (sl 23), .int gx, .int (si 25), .long (sl 26), .int (si 27), .ref (b + 15), .ref (b + 16)])) := by rw [eM_3]; exact fm_us
    have hM : fs_MW ct M_3 b cn (va_up si 24 gx) sl ia la := by rw [eM_3]; exact fs_MW_o hM cn (va_up si 24 gx) sl
    have hMf : fs_Mf b M M_3 := by rw [eM_3]; exact fs_Mf_u hMf (by omega) _
    refine lv_aload_n hx hb dM_changedBy_33 rfl (lv_at hl 1 rfl) ?_
    refine lv_aload_n hx hb dM_changedBy_34 rfl (lv_at hl 1 rfl) ?_
    refine fm_get (ci := 4) (v := .ref (b + 5)) (C := RM) (T := TM) (N := 30) hx hb hT inM hown hK hW f_4 rfl 10 (by decide) (hT _ fl_M_22) (fun _ h9 => h9) rfl dM_changedBy_35 ?_
    refine lv_iload_n hx hb dM_changedBy_38 rfl (lv_at hl 2 rfl) ?_
    refine fn_iald (n := 40) (f := ia 5) hx hb hK hW 0 (hM.2.1 5 rfl) rfl (show φ < 40 by omega) (by decide) dM_changedBy_39 ?_
    refine lv_if_ne (tgt := 47) hx hb dM_changedBy_40 (by decide) (fun c_5 => ?_) (fun c_5 => ?_)
    · refine lv_iconst (v := 1) hx hb dM_changedBy_47 (by decide) ?_
      refine lv_iload_n hx hb dM_changedBy_48 rfl (lv_at hl 0 rfl) ?_
      refine lv_ishl hx hb dM_changedBy_49 ?_
      refine lv_topi (fun gz egz => ?_)
      have egz : gz = fs_fz (ia 5 φ) (ia 2 t) := by unfold fs_fz; rw [egz, if_neg c_5, ex_1]
      refine fm_put (ci := 4) (v := .int gz) (ty := .int) (C := RM) (T := TM) (N := 30) hx hb hT inM tyM tkM nmM hown hK hW f_4 rfl 25 (by decide) (hT _ fl_M_153) (fun _ h9 => h9) rfl (by decide +kernel) rfl rfl (Nat.le_of_ble_eq_true rfl) dM_changedBy_50 (fun H locs hW => ?_)
      obtain ⟨M_6, eM_6⟩ : ∃ z : fm_M, z = va_up M_3 b (some (.inr (4, [.int (si 0), .int (nI (cn 0)), .int (nI (cn 1)), .int (nI (cn 2)), .int (nI (cn 3)), .int (nI (cn 4)), .ref (b + 1), .ref (b + 2), .ref (b + 3), .ref (b + 4), .ref (b + 5), .ref (b + 6), .ref (b + 7), .ref (b + 8), .ref (b + 9), .ref (b + 10), .ref (b + 11), .ref (b + 12), .ref (b + 13), .ref (b + 14), .int (si 20), .int (si 21), .int (si 22), .long (sl 23), .int gx, .int gz, .long (sl 26), .int (si 27), .ref (b + 15), .ref (b + 16)]))) := ⟨_, rfl⟩
      have hW : fm_W D fs_cl5 A M_6 s.heap H locs := by rw [eM_6]; exact hW
      have f_7 : M_6 b = some (.inr (4, [.int (si 0), .int (nI (cn 0)), .int (nI (cn 1)), .int (nI (cn 2)), .int (nI (cn 3)), .int (nI (cn 4)), .ref (b + 1), .ref (b + 2), .ref (b + 3), .ref (b + 4), .ref (b + 5), .ref (b + 6), .ref (b + 7), .ref (b + 8), .ref (b + 9), .ref (b + 10), .ref (b + 11), .ref (b + 12), .ref (b + 13), .ref (b + 14), .int (si 20), .int (si 21), .int (si 22), .long (sl 23), .int gx, .int gz, .long (sl 26), .int (si 27), .ref (b + 15), .ref (b + 16)])) := by rw [eM_6]; exact fm_us
      have hM : fs_MW ct M_6 b cn (va_up (va_up si 24 gx) 25 gz) sl ia la := by rw [eM_6]; exact fs_MW_o hM cn (va_up (va_up si 24 gx) 25 gz) sl
      have hMf : fs_Mf b M M_6 := by rw [eM_6]; exact fs_Mf_u hMf (by omega) _
      refine lv_aload_n hx hb dM_changedBy_53 rfl (lv_at hl 1 rfl) ?_
      refine lv_lconst (v := 0) hx hb dM_changedBy_54 (by decide) ?_
      refine fm_put (ci := 4) (v := .long 0) (ty := .long) (C := RM) (T := TM) (N := 30) hx hb hT inM tyM tkM nmM hown hK hW f_7 rfl 26 (by decide) (hT _ fl_M_156) (fun _ h9 => h9) rfl (by decide +kernel) rfl rfl (Nat.le_of_ble_eq_true rfl) dM_changedBy_55 (fun H locs hW => ?_)
      obtain ⟨M_8, eM_8⟩ : ∃ z : fm_M, z = va_up M_6 b (some (.inr (4, [.int (si 0), .int (nI (cn 0)), .int (nI (cn 1)), .int (nI (cn 2)), .int (nI (cn 3)), .int (nI (cn 4)), .ref (b + 1), .ref (b + 2), .ref (b + 3), .ref (b + 4), .ref (b + 5), .ref (b + 6), .ref (b + 7), .ref (b + 8), .ref (b + 9), .ref (b + 10), .ref (b + 11), .ref (b + 12), .ref (b + 13), .ref (b + 14), .int (si 20), .int (si 21), .int (si 22), .long (sl 23), .int gx, .int gz, .long 0, .int (si 27), .ref (b + 15), .ref (b + 16)]))) := ⟨_, rfl⟩
      have hW : fm_W D fs_cl5 A M_8 s.heap H locs := by rw [eM_8]; exact hW
      have f_9 : M_8 b = some (.inr (4, [.int (si 0), .int (nI (cn 0)), .int (nI (cn 1)), .int (nI (cn 2)), .int (nI (cn 3)), .int (nI (cn 4)), .ref (b + 1), .ref (b + 2), .ref (b + 3), .ref (b + 4), .ref (b + 5), .ref (b + 6), .ref (b + 7), .ref (b + 8), .ref (b + 9), .ref (b + 10), .ref (b + 11), .ref (b + 12), .ref (b + 13), .ref (b + 14), .int (si 20), .int (si 21), .int (si 22), .long (sl 23), .int gx, .int gz, .long 0, .int (si 27), .ref (b + 15), .ref (b + 16)])) := by rw [eM_8]; exact fm_us
      have hM : fs_MW ct M_8 b cn (va_up (va_up si 24 gx) 25 gz) (va_up sl 26 0) ia la := by rw [eM_8]; exact fs_MW_o hM cn (va_up (va_up si 24 gx) 25 gz) (va_up sl 26 0)
      have hMf : fs_Mf b M M_8 := by rw [eM_8]; exact fs_Mf_u hMf (by omega) _
      refine lv_aload_n hx hb dM_changedBy_58 rfl (lv_at hl 1 rfl) ?_
      refine fm_get (ci := 4) (v := .ref (b + 4)) (C := RM) (T := TM) (N := 30) hx hb hT inM hown hK hW f_9 rfl 9 (by decide) (hT _ fl_M_19) (fun _ h9 => h9) rfl dM_changedBy_59 ?_
      refine lv_iload_n hx hb dM_changedBy_62 rfl (lv_at hl 2 rfl) ?_
      refine fn_iald (n := 40) (f := ia 4) hx hb hK hW 0 (hM.2.1 4 rfl) rfl (show φ < 40 by omega) (by decide) dM_changedBy_63 ?_
      refine lv_iconst (v := 1) hx hb dM_changedBy_64 (by decide) ?_
      refine lv_iadd hx hb dM_changedBy_65 ?_
      refine lv_topi (fun st0 est0 => ?_)
      have est0 : st0 = nI (t + 1) := by rw [est0, h4]; exact nI_1 t
      subst est0
      refine lv_istore_n (lv' := [(3, .int (nI (t + 1))), (2, .int x_1), (0, .ref b), (1, .int (nI φ))]) hx hb dM_changedBy_66 rfl hl (by decide) rfl (fun ls hl => ?_)
      have hg0 : fs_gs (va_up (va_up si 24 gx) 25 gz) (va_up sl 26 0) = fs_gor (ia 1) (ia 2) (ia 3) (fs_fx (ia 5 φ) (ia 2 t), fs_fz (ia 5 φ) (ia 2 t), 0) t (t + 1 - (t + 1)) := by
        rw [Nat.sub_self]
        show (gx, gz, (0 : Int64)) = _
        rw [egx, egz]
        rfl
      refine fm_loop (head := 67) (maxL := 4) (cn 1) (fun i (u : (Nat → Int32) × (Nat → Int64)) M1 => t + 1 ≤ i ∧ fs_MW ct M1 b cn u.1 u.2 ia la ∧ fs_Mf b M M1 ∧ fs_sk si u.1 ∧ fs_gs u.1 u.2 = fs_gor (ia 1) (ia 2) (ia 3) (fs_fx (ia 5 φ) (ia 2 t), fs_fz (ia 5 φ) (ia 2 t), 0) t (i - (t + 1))) (fun i (u : (Nat → Int32) × (Nat → Int64)) => [(3, .int (nI i)), (0, .ref b), (1, .int (nI φ))]) ?_ ?_ (cn 1 - (t + 1)) (t + 1) (by omega) (_, _) M_8 _ _ ls ⟨Nat.le_refl _, hM, hMf, ⟨rfl, rfl⟩, hg0⟩ hW (lv_sub hl [0, 2, 3] rfl)
      · intro i u M_10 H locs ls hi hI hW hl back
        have hl : lv_has ls 4 [(3, .int (nI i)), (0, .ref b), (1, .int (nI φ))] := hl
        obtain ⟨si1, sl1⟩ := u
        obtain ⟨hti, hM, hMf, hsk, hg⟩ := hI
        have hM : fs_MW ct M_10 b cn si1 sl1 ia la := hM
        have hsk : fs_sk si si1 := hsk
        have hg : fs_gs si1 sl1 = fs_gor (ia 1) (ia 2) (ia 3) (fs_fx (ia 5 φ) (ia 2 t), fs_fz (ia 5 φ) (ia 2 t), 0) t (i - (t + 1)) := hg
        refine lv_iload_n hx hb dM_changedBy_67 rfl (lv_at hl 0 rfl) ?_
        refine lv_aload_n hx hb dM_changedBy_68 rfl (lv_at hl 1 rfl) ?_
        refine fm_get (ci := 4) (v := .int (nI (cn 1))) (C := RM) (T := TM) (N := 30) hx hb hT inM hown hK hW hM.1 rfl 2 (by decide) (hT _ fl_M_71) (fun _ h9 => h9) rfl dM_changedBy_69 ?_
        refine lv_icmp_ge (tgt := 86) hx hb dM_changedBy_72 (by decide) (fun c_11 => ?_) (fun c_11 => ?_)
        · exact absurd c_11 (nI_ge hi (by omega))
        · refine lv_aload_n hx hb dM_changedBy_75 rfl (lv_at hl 1 rfl) ?_
          refine lv_iload_n hx hb dM_changedBy_76 rfl (lv_at hl 0 rfl) ?_
          refine fm_callv (va_runV (As := [.int (nI i)]) (rest := []) ⟨hx, hb, hml, hown, hts⟩ (c_M_goThrough l D ct A M_10 b cn si1 sl1 ia la i hM ⟨hB0, hB1, hB2, hB3, hB4, hB5⟩ (by omega)) ⟨callB_of 1 hts (fs_gin co_M_goThrough) rfl rfl rfl (hT _ ini_M) (hT _ ml_M_159) (by decide +kernel) ⟨Nat.le_of_ble_eq_true rfl, Nat.le_of_ble_eq_true rfl⟩, hT _ im_M_goThrough, hT _ se_M_goThrough⟩ (fn_preV fs_isnw hK hN hW hM.1 rfl) rfl rfl hl.1 rfl (lv_room (Nat.le_of_ble_eq_true rfl)) dM_changedBy_77 ⟨Nat.le_of_ble_eq_true rfl, Nat.le_of_ble_eq_true rfl⟩) hW (fun M_13 H locs hp_14 hW => ?_)
          obtain ⟨si3, sl3, hM, hMf3, hsk3, hg3⟩ := hp_14
          have hMf := fs_Mf_t hMf hMf3
          refine lv_iinc (v := nI (i + 1)) (lv' := [(3, .int (nI (i + 1))), (0, .ref b), (1, .int (nI φ))]) hx hb dM_changedBy_80 hl (k := 0) rfl (nI_1 i) (by decide) rfl (fun ls hl => ?_)
          refine lv_goto (tgt := 67) hx hb dM_changedBy_83 (by decide) ?_
          exact back (_, _) _ _ _ ls ⟨by omega, hM, hMf, fs_sk_t hsk hsk3, by rw [fs_gor_s hti, ← hg]; exact hg3⟩ hW (lv_sub hl [0, 1, 2] rfl)
      · intro u M_15 H locs ls hI hW hl
        have hl : lv_has ls 4 [(3, .int (nI (cn 1))), (0, .ref b), (1, .int (nI φ))] := hl
        obtain ⟨si1, sl1⟩ := u
        obtain ⟨hti, hM, hMf, hsk, hg⟩ := hI
        have hM : fs_MW ct M_15 b cn si1 sl1 ia la := hM
        have hsk : fs_sk si si1 := hsk
        have hg : fs_gs si1 sl1 = fs_gor (ia 1) (ia 2) (ia 3) (fs_fx (ia 5 φ) (ia 2 t), fs_fz (ia 5 φ) (ia 2 t), 0) t (cn 1 - (t + 1)) := hg
        refine lv_iload_n hx hb dM_changedBy_67 rfl (lv_at hl 0 rfl) ?_
        refine lv_aload_n hx hb dM_changedBy_68 rfl (lv_at hl 1 rfl) ?_
        refine fm_get (ci := 4) (v := .int (nI (cn 1))) (C := RM) (T := TM) (N := 30) hx hb hT inM hown hK hW hM.1 rfl 2 (by decide) (hT _ fl_M_71) (fun _ h9 => h9) rfl dM_changedBy_69 ?_
        refine lv_icmp_ge (tgt := 86) hx hb dM_changedBy_72 (by decide) (fun c_16 => ?_) (fun c_16 => ?_)
        · refine lv_aload_n hx hb dM_changedBy_86 rfl (lv_at hl 1 rfl) ?_
          refine fm_get (ci := 4) (v := .long (sl1 26)) (C := RM) (T := TM) (N := 30) hx hb hT inM hown hK hW hM.1 rfl 26 (by decide) (hT _ fl_M_156) (fun _ h9 => h9) rfl dM_changedBy_87 ?_
          have hr2 : sl1 26 = ch := by rw [← hch, ← hg]; rfl
          exact fm_lret hx hb hr hlocks hW ⟨hr2, si1, sl1, hM, hMf, hsk⟩ dM_changedBy_90
        · exact absurd (nI_le (Nat.le_refl (cn 1)) (by omega)) c_16
    · refine lv_iconst (v := 0) hx hb dM_changedBy_43 (by decide) ?_
      refine lv_goto (tgt := 50) hx hb dM_changedBy_44 (by decide) ?_
      refine lv_topi (fun gz egz => ?_)
      have egz : gz = fs_fz (ia 5 φ) (ia 2 t) := by unfold fs_fz; rw [egz, if_pos c_5]
      refine fm_put (ci := 4) (v := .int gz) (ty := .int) (C := RM) (T := TM) (N := 30) hx hb hT inM tyM tkM nmM hown hK hW f_4 rfl 25 (by decide) (hT _ fl_M_153) (fun _ h9 => h9) rfl (by decide +kernel) rfl rfl (Nat.le_of_ble_eq_true rfl) dM_changedBy_50 (fun H locs hW => ?_)
      obtain ⟨M_17, eM_17⟩ : ∃ z : fm_M, z = va_up M_3 b (some (.inr (4, [.int (si 0), .int (nI (cn 0)), .int (nI (cn 1)), .int (nI (cn 2)), .int (nI (cn 3)), .int (nI (cn 4)), .ref (b + 1), .ref (b + 2), .ref (b + 3), .ref (b + 4), .ref (b + 5), .ref (b + 6), .ref (b + 7), .ref (b + 8), .ref (b + 9), .ref (b + 10), .ref (b + 11), .ref (b + 12), .ref (b + 13), .ref (b + 14), .int (si 20), .int (si 21), .int (si 22), .long (sl 23), .int gx, .int gz, .long (sl 26), .int (si 27), .ref (b + 15), .ref (b + 16)]))) := ⟨_, rfl⟩
      have hW : fm_W D fs_cl5 A M_17 s.heap H locs := by rw [eM_17]; exact hW
      have f_18 : M_17 b = some (.inr (4, [.int (si 0), .int (nI (cn 0)), .int (nI (cn 1)), .int (nI (cn 2)), .int (nI (cn 3)), .int (nI (cn 4)), .ref (b + 1), .ref (b + 2), .ref (b + 3), .ref (b + 4), .ref (b + 5), .ref (b + 6), .ref (b + 7), .ref (b + 8), .ref (b + 9), .ref (b + 10), .ref (b + 11), .ref (b + 12), .ref (b + 13), .ref (b + 14), .int (si 20), .int (si 21), .int (si 22), .long (sl 23), .int gx, .int gz, .long (sl 26), .int (si 27), .ref (b + 15), .ref (b + 16)])) := by rw [eM_17]; exact fm_us
      have hM : fs_MW ct M_17 b cn (va_up (va_up si 24 gx) 25 gz) sl ia la := by rw [eM_17]; exact fs_MW_o hM cn (va_up (va_up si 24 gx) 25 gz) sl
      have hMf : fs_Mf b M M_17 := by rw [eM_17]; exact fs_Mf_u hMf (by omega) _
      refine lv_aload_n hx hb dM_changedBy_53 rfl (lv_at hl 1 rfl) ?_
      refine lv_lconst (v := 0) hx hb dM_changedBy_54 (by decide) ?_
      refine fm_put (ci := 4) (v := .long 0) (ty := .long) (C := RM) (T := TM) (N := 30) hx hb hT inM tyM tkM nmM hown hK hW f_18 rfl 26 (by decide) (hT _ fl_M_156) (fun _ h9 => h9) rfl (by decide +kernel) rfl rfl (Nat.le_of_ble_eq_true rfl) dM_changedBy_55 (fun H locs hW => ?_)
      obtain ⟨M_19, eM_19⟩ : ∃ z : fm_M, z = va_up M_17 b (some (.inr (4, [.int (si 0), .int (nI (cn 0)), .int (nI (cn 1)), .int (nI (cn 2)), .int (nI (cn 3)), .int (nI (cn 4)), .ref (b + 1), .ref (b + 2), .ref (b + 3), .ref (b + 4), .ref (b + 5), .ref (b + 6), .ref (b + 7), .ref (b + 8), .ref (b + 9), .ref (b + 10), .ref (b + 11), .ref (b + 12), .ref (b + 13), .ref (b + 14), .int (si 20), .int (si 21), .int (si 22), .long (sl 23), .int gx, .int gz, .long 0, .int (si 27), .ref (b + 15), .ref (b + 16)]))) := ⟨_, rfl⟩
      have hW : fm_W D fs_cl5 A M_19 s.heap H locs := by rw [eM_19]; exact hW
      have f_20 : M_19 b = some (.inr (4, [.int (si 0), .int (nI (cn 0)), .int (nI (cn 1)), .int (nI (cn 2)), .int (nI (cn 3)), .int (nI (cn 4)), .ref (b + 1), .ref (b + 2), .ref (b + 3), .ref (b + 4), .ref (b + 5), .ref (b + 6), .ref (b + 7), .ref (b + 8), .ref (b + 9), .ref (b + 10), .ref (b + 11), .ref (b + 12), .ref (b + 13), .ref (b + 14), .int (si 20), .int (si 21), .int (si 22), .long (sl 23), .int gx, .int gz, .long 0, .int (si 27), .ref (b + 15), .ref (b + 16)])) := by rw [eM_19]; exact fm_us
      have hM : fs_MW ct M_19 b cn (va_up (va_up si 24 gx) 25 gz) (va_up sl 26 0) ia la := by rw [eM_19]; exact fs_MW_o hM cn (va_up (va_up si 24 gx) 25 gz) (va_up sl 26 0)
      have hMf : fs_Mf b M M_19 := by rw [eM_19]; exact fs_Mf_u hMf (by omega) _
      refine lv_aload_n hx hb dM_changedBy_58 rfl (lv_at hl 1 rfl) ?_
      refine fm_get (ci := 4) (v := .ref (b + 4)) (C := RM) (T := TM) (N := 30) hx hb hT inM hown hK hW f_20 rfl 9 (by decide) (hT _ fl_M_19) (fun _ h9 => h9) rfl dM_changedBy_59 ?_
      refine lv_iload_n hx hb dM_changedBy_62 rfl (lv_at hl 2 rfl) ?_
      refine fn_iald (n := 40) (f := ia 4) hx hb hK hW 0 (hM.2.1 4 rfl) rfl (show φ < 40 by omega) (by decide) dM_changedBy_63 ?_
      refine lv_iconst (v := 1) hx hb dM_changedBy_64 (by decide) ?_
      refine lv_iadd hx hb dM_changedBy_65 ?_
      refine lv_topi (fun st0 est0 => ?_)
      have est0 : st0 = nI (t + 1) := by rw [est0, h4]; exact nI_1 t
      subst est0
      refine lv_istore_n (lv' := [(3, .int (nI (t + 1))), (2, .int x_1), (0, .ref b), (1, .int (nI φ))]) hx hb dM_changedBy_66 rfl hl (by decide) rfl (fun ls hl => ?_)
      have hg0 : fs_gs (va_up (va_up si 24 gx) 25 gz) (va_up sl 26 0) = fs_gor (ia 1) (ia 2) (ia 3) (fs_fx (ia 5 φ) (ia 2 t), fs_fz (ia 5 φ) (ia 2 t), 0) t (t + 1 - (t + 1)) := by
        rw [Nat.sub_self]
        show (gx, gz, (0 : Int64)) = _
        rw [egx, egz]
        rfl
      refine fm_loop (head := 67) (maxL := 4) (cn 1) (fun i (u : (Nat → Int32) × (Nat → Int64)) M1 => t + 1 ≤ i ∧ fs_MW ct M1 b cn u.1 u.2 ia la ∧ fs_Mf b M M1 ∧ fs_sk si u.1 ∧ fs_gs u.1 u.2 = fs_gor (ia 1) (ia 2) (ia 3) (fs_fx (ia 5 φ) (ia 2 t), fs_fz (ia 5 φ) (ia 2 t), 0) t (i - (t + 1))) (fun i (u : (Nat → Int32) × (Nat → Int64)) => [(3, .int (nI i)), (0, .ref b), (1, .int (nI φ))]) ?_ ?_ (cn 1 - (t + 1)) (t + 1) (by omega) (_, _) M_19 _ _ ls ⟨Nat.le_refl _, hM, hMf, ⟨rfl, rfl⟩, hg0⟩ hW (lv_sub hl [0, 2, 3] rfl)
      · intro i u M_21 H locs ls hi hI hW hl back
        have hl : lv_has ls 4 [(3, .int (nI i)), (0, .ref b), (1, .int (nI φ))] := hl
        obtain ⟨si1, sl1⟩ := u
        obtain ⟨hti, hM, hMf, hsk, hg⟩ := hI
        have hM : fs_MW ct M_21 b cn si1 sl1 ia la := hM
        have hsk : fs_sk si si1 := hsk
        have hg : fs_gs si1 sl1 = fs_gor (ia 1) (ia 2) (ia 3) (fs_fx (ia 5 φ) (ia 2 t), fs_fz (ia 5 φ) (ia 2 t), 0) t (i - (t + 1)) := hg
        refine lv_iload_n hx hb dM_changedBy_67 rfl (lv_at hl 0 rfl) ?_
        refine lv_aload_n hx hb dM_changedBy_68 rfl (lv_at hl 1 rfl) ?_
        refine fm_get (ci := 4) (v := .int (nI (cn 1))) (C := RM) (T := TM) (N := 30) hx hb hT inM hown hK hW hM.1 rfl 2 (by decide) (hT _ fl_M_71) (fun _ h9 => h9) rfl dM_changedBy_69 ?_
        refine lv_icmp_ge (tgt := 86) hx hb dM_changedBy_72 (by decide) (fun c_22 => ?_) (fun c_22 => ?_)
        · exact absurd c_22 (nI_ge hi (by omega))
        · refine lv_aload_n hx hb dM_changedBy_75 rfl (lv_at hl 1 rfl) ?_
          refine lv_iload_n hx hb dM_changedBy_76 rfl (lv_at hl 0 rfl) ?_
          refine fm_callv (va_runV (As := [.int (nI i)]) (rest := []) ⟨hx, hb, hml, hown, hts⟩ (c_M_goThrough l D ct A M_21 b cn si1 sl1 ia la i hM ⟨hB0, hB1, hB2, hB3, hB4, hB5⟩ (by omega)) ⟨callB_of 1 hts (fs_gin co_M_goThrough) rfl rfl rfl (hT _ ini_M) (hT _ ml_M_159) (by decide +kernel) ⟨Nat.le_of_ble_eq_true rfl, Nat.le_of_ble_eq_true rfl⟩, hT _ im_M_goThrough, hT _ se_M_goThrough⟩ (fn_preV fs_isnw hK hN hW hM.1 rfl) rfl rfl hl.1 rfl (lv_room (Nat.le_of_ble_eq_true rfl)) dM_changedBy_77 ⟨Nat.le_of_ble_eq_true rfl, Nat.le_of_ble_eq_true rfl⟩) hW (fun M_24 H locs hp_25 hW => ?_)
          obtain ⟨si3, sl3, hM, hMf3, hsk3, hg3⟩ := hp_25
          have hMf := fs_Mf_t hMf hMf3
          refine lv_iinc (v := nI (i + 1)) (lv' := [(3, .int (nI (i + 1))), (0, .ref b), (1, .int (nI φ))]) hx hb dM_changedBy_80 hl (k := 0) rfl (nI_1 i) (by decide) rfl (fun ls hl => ?_)
          refine lv_goto (tgt := 67) hx hb dM_changedBy_83 (by decide) ?_
          exact back (_, _) _ _ _ ls ⟨by omega, hM, hMf, fs_sk_t hsk hsk3, by rw [fs_gor_s hti, ← hg]; exact hg3⟩ hW (lv_sub hl [0, 1, 2] rfl)
      · intro u M_26 H locs ls hI hW hl
        have hl : lv_has ls 4 [(3, .int (nI (cn 1))), (0, .ref b), (1, .int (nI φ))] := hl
        obtain ⟨si1, sl1⟩ := u
        obtain ⟨hti, hM, hMf, hsk, hg⟩ := hI
        have hM : fs_MW ct M_26 b cn si1 sl1 ia la := hM
        have hsk : fs_sk si si1 := hsk
        have hg : fs_gs si1 sl1 = fs_gor (ia 1) (ia 2) (ia 3) (fs_fx (ia 5 φ) (ia 2 t), fs_fz (ia 5 φ) (ia 2 t), 0) t (cn 1 - (t + 1)) := hg
        refine lv_iload_n hx hb dM_changedBy_67 rfl (lv_at hl 0 rfl) ?_
        refine lv_aload_n hx hb dM_changedBy_68 rfl (lv_at hl 1 rfl) ?_
        refine fm_get (ci := 4) (v := .int (nI (cn 1))) (C := RM) (T := TM) (N := 30) hx hb hT inM hown hK hW hM.1 rfl 2 (by decide) (hT _ fl_M_71) (fun _ h9 => h9) rfl dM_changedBy_69 ?_
        refine lv_icmp_ge (tgt := 86) hx hb dM_changedBy_72 (by decide) (fun c_27 => ?_) (fun c_27 => ?_)
        · refine lv_aload_n hx hb dM_changedBy_86 rfl (lv_at hl 1 rfl) ?_
          refine fm_get (ci := 4) (v := .long (sl1 26)) (C := RM) (T := TM) (N := 30) hx hb hT inM hown hK hW hM.1 rfl 26 (by decide) (hT _ fl_M_156) (fun _ h9 => h9) rfl dM_changedBy_87 ?_
          have hr2 : sl1 26 = ch := by rw [← hch, ← hg]; rfl
          exact fm_lret hx hb hr hlocks hW ⟨hr2, si1, sl1, hM, hMf, hsk⟩ dM_changedBy_90
        · exact absurd (nI_le (Nat.le_refl (cn 1)) (by omega)) c_27
  · refine lv_iconst (v := 0) hx hb dM_changedBy_23 (by decide) ?_
    refine lv_goto (tgt := 30) hx hb dM_changedBy_24 (by decide) ?_
    refine lv_topi (fun gx egx => ?_)
    have egx : gx = fs_fx (ia 5 φ) (ia 2 t) := by unfold fs_fx; rw [egx, if_pos c_2]
    refine fm_put (ci := 4) (v := .int gx) (ty := .int) (C := RM) (T := TM) (N := 30) hx hb hT inM tyM tkM nmM hown hK hW hM.1 rfl 24 (by decide) (hT _ fl_M_150) (fun _ h9 => h9) rfl (by decide +kernel) rfl rfl (Nat.le_of_ble_eq_true rfl) dM_changedBy_30 (fun H locs hW => ?_)
    obtain ⟨M_28, eM_28⟩ : ∃ z : fm_M, z = va_up M b (some (.inr (4, [.int (si 0), .int (nI (cn 0)), .int (nI (cn 1)), .int (nI (cn 2)), .int (nI (cn 3)), .int (nI (cn 4)), .ref (b + 1), .ref (b + 2), .ref (b + 3), .ref (b + 4), .ref (b + 5), .ref (b + 6), .ref (b + 7), .ref (b + 8), .ref (b + 9), .ref (b + 10), .ref (b + 11), .ref (b + 12), .ref (b + 13), .ref (b + 14), .int (si 20), .int (si 21), .int (si 22), .long (sl 23), .int gx, .int (si 25), .long (sl 26), .int (si 27), .ref (b + 15), .ref (b + 16)]))) := ⟨_, rfl⟩
    have hW : fm_W D fs_cl5 A M_28 s.heap H locs := by rw [eM_28]; exact hW
    have f_29 : M_28 b = some (.inr (4, [.int (si 0), .int (nI (cn 0)), .int (nI (cn 1)), .int (nI (cn 2)), .int (nI (cn 3)), .int (nI (cn 4)), .ref (b + 1), .ref (b + 2), .ref (b + 3), .ref (b + 4), .ref (b + 5), .ref (b + 6), .ref (b + 7), .ref (b + 8), .ref (b + 9), .ref (b + 10), .ref (b + 11), .ref (b + 12), .ref (b + 13), .ref (b + 14), .int (si 20), .int (si 21), .int (si 22), .long (sl 23), .int gx, .int (si 25), .long (sl 26), .int (si 27), .ref (b + 15), .ref (b + 16)])) := by rw [eM_28]; exact fm_us
    have hM : fs_MW ct M_28 b cn (va_up si 24 gx) sl ia la := by rw [eM_28]; exact fs_MW_o hM cn (va_up si 24 gx) sl
    have hMf : fs_Mf b M M_28 := by rw [eM_28]; exact fs_Mf_u hMf (by omega) _
    refine lv_aload_n hx hb dM_changedBy_33 rfl (lv_at hl 1 rfl) ?_
    refine lv_aload_n hx hb dM_changedBy_34 rfl (lv_at hl 1 rfl) ?_
    refine fm_get (ci := 4) (v := .ref (b + 5)) (C := RM) (T := TM) (N := 30) hx hb hT inM hown hK hW f_29 rfl 10 (by decide) (hT _ fl_M_22) (fun _ h9 => h9) rfl dM_changedBy_35 ?_
    refine lv_iload_n hx hb dM_changedBy_38 rfl (lv_at hl 2 rfl) ?_
    refine fn_iald (n := 40) (f := ia 5) hx hb hK hW 0 (hM.2.1 5 rfl) rfl (show φ < 40 by omega) (by decide) dM_changedBy_39 ?_
    refine lv_if_ne (tgt := 47) hx hb dM_changedBy_40 (by decide) (fun c_30 => ?_) (fun c_30 => ?_)
    · refine lv_iconst (v := 1) hx hb dM_changedBy_47 (by decide) ?_
      refine lv_iload_n hx hb dM_changedBy_48 rfl (lv_at hl 0 rfl) ?_
      refine lv_ishl hx hb dM_changedBy_49 ?_
      refine lv_topi (fun gz egz => ?_)
      have egz : gz = fs_fz (ia 5 φ) (ia 2 t) := by unfold fs_fz; rw [egz, if_neg c_30, ex_1]
      refine fm_put (ci := 4) (v := .int gz) (ty := .int) (C := RM) (T := TM) (N := 30) hx hb hT inM tyM tkM nmM hown hK hW f_29 rfl 25 (by decide) (hT _ fl_M_153) (fun _ h9 => h9) rfl (by decide +kernel) rfl rfl (Nat.le_of_ble_eq_true rfl) dM_changedBy_50 (fun H locs hW => ?_)
      obtain ⟨M_31, eM_31⟩ : ∃ z : fm_M, z = va_up M_28 b (some (.inr (4, [.int (si 0), .int (nI (cn 0)), .int (nI (cn 1)), .int (nI (cn 2)), .int (nI (cn 3)), .int (nI (cn 4)), .ref (b + 1), .ref (b + 2), .ref (b + 3), .ref (b + 4), .ref (b + 5), .ref (b + 6), .ref (b + 7), .ref (b + 8), .ref (b + 9), .ref (b + 10), .ref (b + 11), .ref (b + 12), .ref (b + 13), .ref (b + 14), .int (si 20), .int (si 21), .int (si 22), .long (sl 23), .int gx, .int gz, .long (sl 26), .int (si 27), .ref (b + 15), .ref (b + 16)]))) := ⟨_, rfl⟩
      have hW : fm_W D fs_cl5 A M_31 s.heap H locs := by rw [eM_31]; exact hW
      have f_32 : M_31 b = some (.inr (4, [.int (si 0), .int (nI (cn 0)), .int (nI (cn 1)), .int (nI (cn 2)), .int (nI (cn 3)), .int (nI (cn 4)), .ref (b + 1), .ref (b + 2), .ref (b + 3), .ref (b + 4), .ref (b + 5), .ref (b + 6), .ref (b + 7), .ref (b + 8), .ref (b + 9), .ref (b + 10), .ref (b + 11), .ref (b + 12), .ref (b + 13), .ref (b + 14), .int (si 20), .int (si 21), .int (si 22), .long (sl 23), .int gx, .int gz, .long (sl 26), .int (si 27), .ref (b + 15), .ref (b + 16)])) := by rw [eM_31]; exact fm_us
      have hM : fs_MW ct M_31 b cn (va_up (va_up si 24 gx) 25 gz) sl ia la := by rw [eM_31]; exact fs_MW_o hM cn (va_up (va_up si 24 gx) 25 gz) sl
      have hMf : fs_Mf b M M_31 := by rw [eM_31]; exact fs_Mf_u hMf (by omega) _
      refine lv_aload_n hx hb dM_changedBy_53 rfl (lv_at hl 1 rfl) ?_
      refine lv_lconst (v := 0) hx hb dM_changedBy_54 (by decide) ?_
      refine fm_put (ci := 4) (v := .long 0) (ty := .long) (C := RM) (T := TM) (N := 30) hx hb hT inM tyM tkM nmM hown hK hW f_32 rfl 26 (by decide) (hT _ fl_M_156) (fun _ h9 => h9) rfl (by decide +kernel) rfl rfl (Nat.le_of_ble_eq_true rfl) dM_changedBy_55 (fun H locs hW => ?_)
      obtain ⟨M_33, eM_33⟩ : ∃ z : fm_M, z = va_up M_31 b (some (.inr (4, [.int (si 0), .int (nI (cn 0)), .int (nI (cn 1)), .int (nI (cn 2)), .int (nI (cn 3)), .int (nI (cn 4)), .ref (b + 1), .ref (b + 2), .ref (b + 3), .ref (b + 4), .ref (b + 5), .ref (b + 6), .ref (b + 7), .ref (b + 8), .ref (b + 9), .ref (b + 10), .ref (b + 11), .ref (b + 12), .ref (b + 13), .ref (b + 14), .int (si 20), .int (si 21), .int (si 22), .long (sl 23), .int gx, .int gz, .long 0, .int (si 27), .ref (b + 15), .ref (b + 16)]))) := ⟨_, rfl⟩
      have hW : fm_W D fs_cl5 A M_33 s.heap H locs := by rw [eM_33]; exact hW
      have f_34 : M_33 b = some (.inr (4, [.int (si 0), .int (nI (cn 0)), .int (nI (cn 1)), .int (nI (cn 2)), .int (nI (cn 3)), .int (nI (cn 4)), .ref (b + 1), .ref (b + 2), .ref (b + 3), .ref (b + 4), .ref (b + 5), .ref (b + 6), .ref (b + 7), .ref (b + 8), .ref (b + 9), .ref (b + 10), .ref (b + 11), .ref (b + 12), .ref (b + 13), .ref (b + 14), .int (si 20), .int (si 21), .int (si 22), .long (sl 23), .int gx, .int gz, .long 0, .int (si 27), .ref (b + 15), .ref (b + 16)])) := by rw [eM_33]; exact fm_us
      have hM : fs_MW ct M_33 b cn (va_up (va_up si 24 gx) 25 gz) (va_up sl 26 0) ia la := by rw [eM_33]; exact fs_MW_o hM cn (va_up (va_up si 24 gx) 25 gz) (va_up sl 26 0)
      have hMf : fs_Mf b M M_33 := by rw [eM_33]; exact fs_Mf_u hMf (by omega) _
      refine lv_aload_n hx hb dM_changedBy_58 rfl (lv_at hl 1 rfl) ?_
      refine fm_get (ci := 4) (v := .ref (b + 4)) (C := RM) (T := TM) (N := 30) hx hb hT inM hown hK hW f_34 rfl 9 (by decide) (hT _ fl_M_19) (fun _ h9 => h9) rfl dM_changedBy_59 ?_
      refine lv_iload_n hx hb dM_changedBy_62 rfl (lv_at hl 2 rfl) ?_
      refine fn_iald (n := 40) (f := ia 4) hx hb hK hW 0 (hM.2.1 4 rfl) rfl (show φ < 40 by omega) (by decide) dM_changedBy_63 ?_
      refine lv_iconst (v := 1) hx hb dM_changedBy_64 (by decide) ?_
      refine lv_iadd hx hb dM_changedBy_65 ?_
      refine lv_topi (fun st0 est0 => ?_)
      have est0 : st0 = nI (t + 1) := by rw [est0, h4]; exact nI_1 t
      subst est0
      refine lv_istore_n (lv' := [(3, .int (nI (t + 1))), (2, .int x_1), (0, .ref b), (1, .int (nI φ))]) hx hb dM_changedBy_66 rfl hl (by decide) rfl (fun ls hl => ?_)
      have hg0 : fs_gs (va_up (va_up si 24 gx) 25 gz) (va_up sl 26 0) = fs_gor (ia 1) (ia 2) (ia 3) (fs_fx (ia 5 φ) (ia 2 t), fs_fz (ia 5 φ) (ia 2 t), 0) t (t + 1 - (t + 1)) := by
        rw [Nat.sub_self]
        show (gx, gz, (0 : Int64)) = _
        rw [egx, egz]
        rfl
      refine fm_loop (head := 67) (maxL := 4) (cn 1) (fun i (u : (Nat → Int32) × (Nat → Int64)) M1 => t + 1 ≤ i ∧ fs_MW ct M1 b cn u.1 u.2 ia la ∧ fs_Mf b M M1 ∧ fs_sk si u.1 ∧ fs_gs u.1 u.2 = fs_gor (ia 1) (ia 2) (ia 3) (fs_fx (ia 5 φ) (ia 2 t), fs_fz (ia 5 φ) (ia 2 t), 0) t (i - (t + 1))) (fun i (u : (Nat → Int32) × (Nat → Int64)) => [(3, .int (nI i)), (0, .ref b), (1, .int (nI φ))]) ?_ ?_ (cn 1 - (t + 1)) (t + 1) (by omega) (_, _) M_33 _ _ ls ⟨Nat.le_refl _, hM, hMf, ⟨rfl, rfl⟩, hg0⟩ hW (lv_sub hl [0, 2, 3] rfl)
      · intro i u M_35 H locs ls hi hI hW hl back
        have hl : lv_has ls 4 [(3, .int (nI i)), (0, .ref b), (1, .int (nI φ))] := hl
        obtain ⟨si1, sl1⟩ := u
        obtain ⟨hti, hM, hMf, hsk, hg⟩ := hI
        have hM : fs_MW ct M_35 b cn si1 sl1 ia la := hM
        have hsk : fs_sk si si1 := hsk
        have hg : fs_gs si1 sl1 = fs_gor (ia 1) (ia 2) (ia 3) (fs_fx (ia 5 φ) (ia 2 t), fs_fz (ia 5 φ) (ia 2 t), 0) t (i - (t + 1)) := hg
        refine lv_iload_n hx hb dM_changedBy_67 rfl (lv_at hl 0 rfl) ?_
        refine lv_aload_n hx hb dM_changedBy_68 rfl (lv_at hl 1 rfl) ?_
        refine fm_get (ci := 4) (v := .int (nI (cn 1))) (C := RM) (T := TM) (N := 30) hx hb hT inM hown hK hW hM.1 rfl 2 (by decide) (hT _ fl_M_71) (fun _ h9 => h9) rfl dM_changedBy_69 ?_
        refine lv_icmp_ge (tgt := 86) hx hb dM_changedBy_72 (by decide) (fun c_36 => ?_) (fun c_36 => ?_)
        · exact absurd c_36 (nI_ge hi (by omega))
        · refine lv_aload_n hx hb dM_changedBy_75 rfl (lv_at hl 1 rfl) ?_
          refine lv_iload_n hx hb dM_changedBy_76 rfl (lv_at hl 0 rfl) ?_
          refine fm_callv (va_runV (As := [.int (nI i)]) (rest := []) ⟨hx, hb, hml, hown, hts⟩ (c_M_goThrough l D ct A M_35 b cn si1 sl1 ia la i hM ⟨hB0, hB1, hB2, hB3, hB4, hB5⟩ (by omega)) ⟨callB_of 1 hts (fs_gin co_M_goThrough) rfl rfl rfl (hT _ ini_M) (hT _ ml_M_159) (by decide +kernel) ⟨Nat.le_of_ble_eq_true rfl, Nat.le_of_ble_eq_true rfl⟩, hT _ im_M_goThrough, hT _ se_M_goThrough⟩ (fn_preV fs_isnw hK hN hW hM.1 rfl) rfl rfl hl.1 rfl (lv_room (Nat.le_of_ble_eq_true rfl)) dM_changedBy_77 ⟨Nat.le_of_ble_eq_true rfl, Nat.le_of_ble_eq_true rfl⟩) hW (fun M_38 H locs hp_39 hW => ?_)
          obtain ⟨si3, sl3, hM, hMf3, hsk3, hg3⟩ := hp_39
          have hMf := fs_Mf_t hMf hMf3
          refine lv_iinc (v := nI (i + 1)) (lv' := [(3, .int (nI (i + 1))), (0, .ref b), (1, .int (nI φ))]) hx hb dM_changedBy_80 hl (k := 0) rfl (nI_1 i) (by decide) rfl (fun ls hl => ?_)
          refine lv_goto (tgt := 67) hx hb dM_changedBy_83 (by decide) ?_
          exact back (_, _) _ _ _ ls ⟨by omega, hM, hMf, fs_sk_t hsk hsk3, by rw [fs_gor_s hti, ← hg]; exact hg3⟩ hW (lv_sub hl [0, 1, 2] rfl)
      · intro u M_40 H locs ls hI hW hl
        have hl : lv_has ls 4 [(3, .int (nI (cn 1))), (0, .ref b), (1, .int (nI φ))] := hl
        obtain ⟨si1, sl1⟩ := u
        obtain ⟨hti, hM, hMf, hsk, hg⟩ := hI
        have hM : fs_MW ct M_40 b cn si1 sl1 ia la := hM
        have hsk : fs_sk si si1 := hsk
        have hg : fs_gs si1 sl1 = fs_gor (ia 1) (ia 2) (ia 3) (fs_fx (ia 5 φ) (ia 2 t), fs_fz (ia 5 φ) (ia 2 t), 0) t (cn 1 - (t + 1)) := hg
        refine lv_iload_n hx hb dM_changedBy_67 rfl (lv_at hl 0 rfl) ?_
        refine lv_aload_n hx hb dM_changedBy_68 rfl (lv_at hl 1 rfl) ?_
        refine fm_get (ci := 4) (v := .int (nI (cn 1))) (C := RM) (T := TM) (N := 30) hx hb hT inM hown hK hW hM.1 rfl 2 (by decide) (hT _ fl_M_71) (fun _ h9 => h9) rfl dM_changedBy_69 ?_
        refine lv_icmp_ge (tgt := 86) hx hb dM_changedBy_72 (by decide) (fun c_41 => ?_) (fun c_41 => ?_)
        · refine lv_aload_n hx hb dM_changedBy_86 rfl (lv_at hl 1 rfl) ?_
          refine fm_get (ci := 4) (v := .long (sl1 26)) (C := RM) (T := TM) (N := 30) hx hb hT inM hown hK hW hM.1 rfl 26 (by decide) (hT _ fl_M_156) (fun _ h9 => h9) rfl dM_changedBy_87 ?_
          have hr2 : sl1 26 = ch := by rw [← hch, ← hg]; rfl
          exact fm_lret hx hb hr hlocks hW ⟨hr2, si1, sl1, hM, hMf, hsk⟩ dM_changedBy_90
        · exact absurd (nI_le (Nat.le_refl (cn 1)) (by omega)) c_41
    · refine lv_iconst (v := 0) hx hb dM_changedBy_43 (by decide) ?_
      refine lv_goto (tgt := 50) hx hb dM_changedBy_44 (by decide) ?_
      refine lv_topi (fun gz egz => ?_)
      have egz : gz = fs_fz (ia 5 φ) (ia 2 t) := by unfold fs_fz; rw [egz, if_pos c_30]
      refine fm_put (ci := 4) (v := .int gz) (ty := .int) (C := RM) (T := TM) (N := 30) hx hb hT inM tyM tkM nmM hown hK hW f_29 rfl 25 (by decide) (hT _ fl_M_153) (fun _ h9 => h9) rfl (by decide +kernel) rfl rfl (Nat.le_of_ble_eq_true rfl) dM_changedBy_50 (fun H locs hW => ?_)
      obtain ⟨M_42, eM_42⟩ : ∃ z : fm_M, z = va_up M_28 b (some (.inr (4, [.int (si 0), .int (nI (cn 0)), .int (nI (cn 1)), .int (nI (cn 2)), .int (nI (cn 3)), .int (nI (cn 4)), .ref (b + 1), .ref (b + 2), .ref (b + 3), .ref (b + 4), .ref (b + 5), .ref (b + 6), .ref (b + 7), .ref (b + 8), .ref (b + 9), .ref (b + 10), .ref (b + 11), .ref (b + 12), .ref (b + 13), .ref (b + 14), .int (si 20), .int (si 21), .int (si 22), .long (sl 23), .int gx, .int gz, .long (sl 26), .int (si 27), .ref (b + 15), .ref (b + 16)]))) := ⟨_, rfl⟩
      have hW : fm_W D fs_cl5 A M_42 s.heap H locs := by rw [eM_42]; exact hW
      have f_43 : M_42 b = some (.inr (4, [.int (si 0), .int (nI (cn 0)), .int (nI (cn 1)), .int (nI (cn 2)), .int (nI (cn 3)), .int (nI (cn 4)), .ref (b + 1), .ref (b + 2), .ref (b + 3), .ref (b + 4), .ref (b + 5), .ref (b + 6), .ref (b + 7), .ref (b + 8), .ref (b + 9), .ref (b + 10), .ref (b + 11), .ref (b + 12), .ref (b + 13), .ref (b + 14), .int (si 20), .int (si 21), .int (si 22), .long (sl 23), .int gx, .int gz, .long (sl 26), .int (si 27), .ref (b + 15), .ref (b + 16)])) := by rw [eM_42]; exact fm_us
      have hM : fs_MW ct M_42 b cn (va_up (va_up si 24 gx) 25 gz) sl ia la := by rw [eM_42]; exact fs_MW_o hM cn (va_up (va_up si 24 gx) 25 gz) sl
      have hMf : fs_Mf b M M_42 := by rw [eM_42]; exact fs_Mf_u hMf (by omega) _
      refine lv_aload_n hx hb dM_changedBy_53 rfl (lv_at hl 1 rfl) ?_
      refine lv_lconst (v := 0) hx hb dM_changedBy_54 (by decide) ?_
      refine fm_put (ci := 4) (v := .long 0) (ty := .long) (C := RM) (T := TM) (N := 30) hx hb hT inM tyM tkM nmM hown hK hW f_43 rfl 26 (by decide) (hT _ fl_M_156) (fun _ h9 => h9) rfl (by decide +kernel) rfl rfl (Nat.le_of_ble_eq_true rfl) dM_changedBy_55 (fun H locs hW => ?_)
      obtain ⟨M_44, eM_44⟩ : ∃ z : fm_M, z = va_up M_42 b (some (.inr (4, [.int (si 0), .int (nI (cn 0)), .int (nI (cn 1)), .int (nI (cn 2)), .int (nI (cn 3)), .int (nI (cn 4)), .ref (b + 1), .ref (b + 2), .ref (b + 3), .ref (b + 4), .ref (b + 5), .ref (b + 6), .ref (b + 7), .ref (b + 8), .ref (b + 9), .ref (b + 10), .ref (b + 11), .ref (b + 12), .ref (b + 13), .ref (b + 14), .int (si 20), .int (si 21), .int (si 22), .long (sl 23), .int gx, .int gz, .long 0, .int (si 27), .ref (b + 15), .ref (b + 16)]))) := ⟨_, rfl⟩
      have hW : fm_W D fs_cl5 A M_44 s.heap H locs := by rw [eM_44]; exact hW
      have f_45 : M_44 b = some (.inr (4, [.int (si 0), .int (nI (cn 0)), .int (nI (cn 1)), .int (nI (cn 2)), .int (nI (cn 3)), .int (nI (cn 4)), .ref (b + 1), .ref (b + 2), .ref (b + 3), .ref (b + 4), .ref (b + 5), .ref (b + 6), .ref (b + 7), .ref (b + 8), .ref (b + 9), .ref (b + 10), .ref (b + 11), .ref (b + 12), .ref (b + 13), .ref (b + 14), .int (si 20), .int (si 21), .int (si 22), .long (sl 23), .int gx, .int gz, .long 0, .int (si 27), .ref (b + 15), .ref (b + 16)])) := by rw [eM_44]; exact fm_us
      have hM : fs_MW ct M_44 b cn (va_up (va_up si 24 gx) 25 gz) (va_up sl 26 0) ia la := by rw [eM_44]; exact fs_MW_o hM cn (va_up (va_up si 24 gx) 25 gz) (va_up sl 26 0)
      have hMf : fs_Mf b M M_44 := by rw [eM_44]; exact fs_Mf_u hMf (by omega) _
      refine lv_aload_n hx hb dM_changedBy_58 rfl (lv_at hl 1 rfl) ?_
      refine fm_get (ci := 4) (v := .ref (b + 4)) (C := RM) (T := TM) (N := 30) hx hb hT inM hown hK hW f_45 rfl 9 (by decide) (hT _ fl_M_19) (fun _ h9 => h9) rfl dM_changedBy_59 ?_
      refine lv_iload_n hx hb dM_changedBy_62 rfl (lv_at hl 2 rfl) ?_
      refine fn_iald (n := 40) (f := ia 4) hx hb hK hW 0 (hM.2.1 4 rfl) rfl (show φ < 40 by omega) (by decide) dM_changedBy_63 ?_
      refine lv_iconst (v := 1) hx hb dM_changedBy_64 (by decide) ?_
      refine lv_iadd hx hb dM_changedBy_65 ?_
      refine lv_topi (fun st0 est0 => ?_)
      have est0 : st0 = nI (t + 1) := by rw [est0, h4]; exact nI_1 t
      subst est0
      refine lv_istore_n (lv' := [(3, .int (nI (t + 1))), (2, .int x_1), (0, .ref b), (1, .int (nI φ))]) hx hb dM_changedBy_66 rfl hl (by decide) rfl (fun ls hl => ?_)
      have hg0 : fs_gs (va_up (va_up si 24 gx) 25 gz) (va_up sl 26 0) = fs_gor (ia 1) (ia 2) (ia 3) (fs_fx (ia 5 φ) (ia 2 t), fs_fz (ia 5 φ) (ia 2 t), 0) t (t + 1 - (t + 1)) := by
        rw [Nat.sub_self]
        show (gx, gz, (0 : Int64)) = _
        rw [egx, egz]
        rfl
      refine fm_loop (head := 67) (maxL := 4) (cn 1) (fun i (u : (Nat → Int32) × (Nat → Int64)) M1 => t + 1 ≤ i ∧ fs_MW ct M1 b cn u.1 u.2 ia la ∧ fs_Mf b M M1 ∧ fs_sk si u.1 ∧ fs_gs u.1 u.2 = fs_gor (ia 1) (ia 2) (ia 3) (fs_fx (ia 5 φ) (ia 2 t), fs_fz (ia 5 φ) (ia 2 t), 0) t (i - (t + 1))) (fun i (u : (Nat → Int32) × (Nat → Int64)) => [(3, .int (nI i)), (0, .ref b), (1, .int (nI φ))]) ?_ ?_ (cn 1 - (t + 1)) (t + 1) (by omega) (_, _) M_44 _ _ ls ⟨Nat.le_refl _, hM, hMf, ⟨rfl, rfl⟩, hg0⟩ hW (lv_sub hl [0, 2, 3] rfl)
      · intro i u M_46 H locs ls hi hI hW hl back
        have hl : lv_has ls 4 [(3, .int (nI i)), (0, .ref b), (1, .int (nI φ))] := hl
        obtain ⟨si1, sl1⟩ := u
        obtain ⟨hti, hM, hMf, hsk, hg⟩ := hI
        have hM : fs_MW ct M_46 b cn si1 sl1 ia la := hM
        have hsk : fs_sk si si1 := hsk
        have hg : fs_gs si1 sl1 = fs_gor (ia 1) (ia 2) (ia 3) (fs_fx (ia 5 φ) (ia 2 t), fs_fz (ia 5 φ) (ia 2 t), 0) t (i - (t + 1)) := hg
        refine lv_iload_n hx hb dM_changedBy_67 rfl (lv_at hl 0 rfl) ?_
        refine lv_aload_n hx hb dM_changedBy_68 rfl (lv_at hl 1 rfl) ?_
        refine fm_get (ci := 4) (v := .int (nI (cn 1))) (C := RM) (T := TM) (N := 30) hx hb hT inM hown hK hW hM.1 rfl 2 (by decide) (hT _ fl_M_71) (fun _ h9 => h9) rfl dM_changedBy_69 ?_
        refine lv_icmp_ge (tgt := 86) hx hb dM_changedBy_72 (by decide) (fun c_47 => ?_) (fun c_47 => ?_)
        · exact absurd c_47 (nI_ge hi (by omega))
        · refine lv_aload_n hx hb dM_changedBy_75 rfl (lv_at hl 1 rfl) ?_
          refine lv_iload_n hx hb dM_changedBy_76 rfl (lv_at hl 0 rfl) ?_
          refine fm_callv (va_runV (As := [.int (nI i)]) (rest := []) ⟨hx, hb, hml, hown, hts⟩ (c_M_goThrough l D ct A M_46 b cn si1 sl1 ia la i hM ⟨hB0, hB1, hB2, hB3, hB4, hB5⟩ (by omega)) ⟨callB_of 1 hts (fs_gin co_M_goThrough) rfl rfl rfl (hT _ ini_M) (hT _ ml_M_159) (by decide +kernel) ⟨Nat.le_of_ble_eq_true rfl, Nat.le_of_ble_eq_true rfl⟩, hT _ im_M_goThrough, hT _ se_M_goThrough⟩ (fn_preV fs_isnw hK hN hW hM.1 rfl) rfl rfl hl.1 rfl (lv_room (Nat.le_of_ble_eq_true rfl)) dM_changedBy_77 ⟨Nat.le_of_ble_eq_true rfl, Nat.le_of_ble_eq_true rfl⟩) hW (fun M_49 H locs hp_50 hW => ?_)
          obtain ⟨si3, sl3, hM, hMf3, hsk3, hg3⟩ := hp_50
          have hMf := fs_Mf_t hMf hMf3
          refine lv_iinc (v := nI (i + 1)) (lv' := [(3, .int (nI (i + 1))), (0, .ref b), (1, .int (nI φ))]) hx hb dM_changedBy_80 hl (k := 0) rfl (nI_1 i) (by decide) rfl (fun ls hl => ?_)
          refine lv_goto (tgt := 67) hx hb dM_changedBy_83 (by decide) ?_
          exact back (_, _) _ _ _ ls ⟨by omega, hM, hMf, fs_sk_t hsk hsk3, by rw [fs_gor_s hti, ← hg]; exact hg3⟩ hW (lv_sub hl [0, 1, 2] rfl)
      · intro u M_51 H locs ls hI hW hl
        have hl : lv_has ls 4 [(3, .int (nI (cn 1))), (0, .ref b), (1, .int (nI φ))] := hl
        obtain ⟨si1, sl1⟩ := u
        obtain ⟨hti, hM, hMf, hsk, hg⟩ := hI
        have hM : fs_MW ct M_51 b cn si1 sl1 ia la := hM
        have hsk : fs_sk si si1 := hsk
        have hg : fs_gs si1 sl1 = fs_gor (ia 1) (ia 2) (ia 3) (fs_fx (ia 5 φ) (ia 2 t), fs_fz (ia 5 φ) (ia 2 t), 0) t (cn 1 - (t + 1)) := hg
        refine lv_iload_n hx hb dM_changedBy_67 rfl (lv_at hl 0 rfl) ?_
        refine lv_aload_n hx hb dM_changedBy_68 rfl (lv_at hl 1 rfl) ?_
        refine fm_get (ci := 4) (v := .int (nI (cn 1))) (C := RM) (T := TM) (N := 30) hx hb hT inM hown hK hW hM.1 rfl 2 (by decide) (hT _ fl_M_71) (fun _ h9 => h9) rfl dM_changedBy_69 ?_
        refine lv_icmp_ge (tgt := 86) hx hb dM_changedBy_72 (by decide) (fun c_52 => ?_) (fun c_52 => ?_)
        · refine lv_aload_n hx hb dM_changedBy_86 rfl (lv_at hl 1 rfl) ?_
          refine fm_get (ci := 4) (v := .long (sl1 26)) (C := RM) (T := TM) (N := 30) hx hb hT inM hown hK hW hM.1 rfl 26 (by decide) (hT _ fl_M_156) (fun _ h9 => h9) rfl dM_changedBy_87 ?_
          have hr2 : sl1 26 = ch := by rw [← hch, ← hg]; rfl
          exact fm_lret hx hb hr hlocks hW ⟨hr2, si1, sl1, hM, hMf, hsk⟩ dM_changedBy_90
        · exact absurd (nI_le (Nat.le_refl (cn 1)) (by omega)) c_52
set_option maxHeartbeats 4000000 in
set_option maxRecDepth 100000 in
theorem c_M_parity (l : Launch) (D : va_G) (ct : Nat → ClassId) (A : Nat → Prop) (M : fm_M) (x : Int64) : Met l yM_parity wM_parity ({ frames := 0, cells := 0, slots := 0, locals := 0 }) (va_Pc [.long x] (fm_St D fs_cl5 (fs_tys ct) fs_nw A M)) (va_Qi (fun (r : Int32) (M1 : fm_M) => r = fs_b (fs_pa x) ∧ M1 = M) (fm_B D fs_cl5 A) A) 0 0 A := by
  refine Met.ofW (cc := cM_parity) (maxL := 5) (ret := (some .int)) (by decide) rfl ?_
  intro p e s m args below meth c s₁ B hml hv
  obtain ⟨rfl, hP0, hA0, hA1, hK, hN⟩ := hv
  have hx := B.exec
  have hb := B.bytes
  have hr := B.returns
  have hts := atoms_spec (ws := wM_parity) B.pre
  have hT : ∀ w ∈ fs_tb, w.before _ s = true := fun w h => hts w (List.mem_cons_of_mem _ h)
  have hown : s.vm.findClass "FrameSamplesModel" = some m.cls := findClass_of_methodNamed B.named
  have hlocks := B.notSynchronized
  have hW : fm_W D fs_cl5 A M s.heap s.heap [] := ⟨hP0, hA0, va_S.rf, hA1⟩
  have hl := lv_entry ([.long x]) (n := 5) (Nat.le_of_ble_eq_true rfl)
  rw [lg_entry_eq]
  generalize (lg_sl ([.long x]) ++ List.replicate (5 - (lg_sl ([.long x])).length) Slot.unset).toArray = ls at hl ⊢
  have hl : lv_has ls 5 [(0, .long x)] := hl
  refine lv_lload_n hx hb dM_parity_0 rfl (lv_at hl 0 rfl) ?_
  refine lv_lstore_n (lv' := [(2, .long x), (0, .long x)]) hx hb dM_parity_1 rfl hl (by decide) rfl (fun ls hl => ?_)
  refine lv_iconst (v := 0) hx hb dM_parity_2 (by decide) ?_
  refine lv_istore (lv' := [(4, .int 0), (2, .long x), (0, .long x)]) hx hb dM_parity_3 hl (by decide) rfl (fun ls hl => ?_)
  refine fm_loop (head := 5) (maxL := 5) 64 (fun i (u : Int64 × Int32) M1 => M1 = M ∧ fs_uN u.1 = fs_uN x / 2 ^ i ∧ u.2 = fs_b (decide (fs_pc i (fs_uN x) % 2 = 1))) (fun i (u : Int64 × Int32) => [(4, .int u.2), (2, .long u.1)]) ?_ ?_ 64 0 (Nat.zero_add _) (x, 0) M _ _ ls ⟨rfl, (Nat.div_one _).symm, rfl⟩ hW (lv_sub hl [0, 1] rfl)
  · intro i u M_1 H locs ls hi hI hW hl back
    have hl : lv_has ls 5 [(4, .int u.2), (2, .long u.1)] := hl
    obtain ⟨y, q⟩ := u
    obtain ⟨hMe, h1, h2⟩ := hI
    have h1 : fs_uN y = fs_uN x / 2 ^ i := h1
    have h2 : q = fs_b (decide (fs_pc i (fs_uN x) % 2 = 1)) := h2
    have hl : lv_has ls 5 [(4, .int q), (2, .long y)] := hl
    have hW : fm_W D fs_cl5 A M s.heap H locs := by rw [← hMe]; exact hW
    refine lv_lload_n hx hb dM_parity_5 rfl (lv_at hl 1 rfl) ?_
    refine lv_lconst (v := 0) hx hb dM_parity_6 (by decide) ?_
    refine W.lcmp hx hb dM_parity_7 ?_
    refine lv_if_eq (tgt := 27) hx hb dM_parity_8 (by decide) (fun c_2 => ?_) (fun c_2 => ?_)
    · refine lv_iload hx hb dM_parity_27 (lv_at hl 0 rfl) ?_
      have hz : fs_uN x / 2 ^ i = 0 := h1.symm.trans (fs_uN_0 ((lg_cmp_eq _ _).mp c_2))
      have hv : q = fs_b (fs_pa x) := by rw [h2]; unfold fs_pa; have z := fs_pc_z hz (64 - i); rw [show i + (64 - i) = 64 by omega] at z; rw [← z]; rfl
      exact fm_iret hx hb hr hlocks hW ⟨hv, rfl⟩ dM_parity_29
    · refine lv_iload hx hb dM_parity_11 (lv_at hl 0 rfl) ?_
      refine lv_lload_n hx hb dM_parity_13 rfl (lv_at hl 1 rfl) ?_
      refine lv_lconst (v := 1) hx hb dM_parity_14 (by decide) ?_
      refine lv_land hx hb dM_parity_15 ?_
      refine lv_l2i (v := (y &&& 1).toInt32) hx hb dM_parity_16 rfl ?_
      refine lv_ixor hx hb dM_parity_17 ?_
      refine lv_topi (fun x_3 ex_3 => ?_)
      refine lv_istore (lv' := [(4, .int x_3), (2, .long y)]) hx hb dM_parity_18 hl (by decide) rfl (fun ls hl => ?_)
      refine lv_lload_n hx hb dM_parity_20 rfl (lv_at hl 1 rfl) ?_
      refine lv_iconst (v := 1) hx hb dM_parity_21 (by decide) ?_
      refine lv_lushr (v := fs_ushl y 1) hx hb dM_parity_22 rfl ?_
      refine lv_topl (fun x_4 ex_4 => ?_)
      refine lv_lstore_n (lv' := [(2, .long x_4), (4, .int x_3)]) hx hb dM_parity_23 rfl hl (by decide) rfl (fun ls hl => ?_)
      obtain ⟨s1, s2⟩ := fs_par_st h1 h2
      refine lv_goto (tgt := 5) hx hb dM_parity_24 (by decide) ?_
      exact back (x_4, x_3) _ _ _ ls ⟨rfl, by rw [ex_4]; exact s1, by rw [ex_3]; exact s2⟩ hW (lv_sub hl [1, 0] rfl)
  · intro u M_5 H locs ls hI hW hl
    have hl : lv_has ls 5 [(4, .int u.2), (2, .long u.1)] := hl
    obtain ⟨y, q⟩ := u
    obtain ⟨hMe, h1, h2⟩ := hI
    have h1 : fs_uN y = fs_uN x / 2 ^ 64 := h1
    have h2 : q = fs_b (decide (fs_pc 64 (fs_uN x) % 2 = 1)) := h2
    have hl : lv_has ls 5 [(4, .int q), (2, .long y)] := hl
    have hW : fm_W D fs_cl5 A M s.heap H locs := by rw [← hMe]; exact hW
    refine lv_lload_n hx hb dM_parity_5 rfl (lv_at hl 1 rfl) ?_
    refine lv_lconst (v := 0) hx hb dM_parity_6 (by decide) ?_
    refine W.lcmp hx hb dM_parity_7 ?_
    have hz : fs_uN x / 2 ^ 64 = 0 := Nat.div_eq_of_lt (fs_uN_lt x)
    refine lv_if_eq (tgt := 27) hx hb dM_parity_8 (by decide) (fun c_6 => ?_) (fun c_6 => ?_)
    · refine lv_iload hx hb dM_parity_27 (lv_at hl 0 rfl) ?_
      exact fm_iret hx hb hr hlocks hW ⟨h2, rfl⟩ dM_parity_29
    · exact absurd ((lg_cmp_eq _ _).mpr (fs_uN_z (h1.trans hz))) c_6
set_option maxHeartbeats 4000000 in
set_option maxRecDepth 100000 in
theorem c_M_checksOf (l : Launch) (D : va_G) (ct : Nat → ClassId) (A : Nat → Prop) (M : fm_M) (b : Nat) (cn : Nat → Nat) (si : Nat → Int32) (sl : Nat → Int64) (ia : Nat → Nat → Int32) (la : Nat → Nat → Int64) (x : Int64) (hM : fs_MW ct M b cn si sl ia la) (hB : fs_Bd cn) : Met l yM_checksOf wM_checksOf ({ frames := 1, cells := 0, slots := 0, locals := 24 }) (va_Pc [.ref b, .long x] (fm_St D fs_cl5 (fs_tys ct) fs_nw A M)) (va_Qi (fun (r : Int32) (M1 : fm_M) => r = fs_ck (la 7) x (cn 4) ∧ M1 = M) (fm_B D fs_cl5 A) A) 0 0 A := by
  refine Met.ofW (cc := cM_checksOf) (maxL := 5) (ret := (some .int)) (by decide) rfl ?_
  intro p e s m args below meth c s₁ B hml hv
  obtain ⟨rfl, hP0, hA0, hA1, hK, hN⟩ := hv
  have hx := B.exec
  have hb := B.bytes
  have hr := B.returns
  have hts := atoms_spec (ws := wM_checksOf) B.pre
  have hT : ∀ w ∈ fs_tb, w.before _ s = true := fun w h => hts w (List.mem_cons_of_mem _ h)
  have hown : s.vm.findClass "FrameSamplesModel" = some m.cls := findClass_of_methodNamed B.named
  have hlocks := B.notSynchronized
  have hW : fm_W D fs_cl5 A M s.heap s.heap [] := ⟨hP0, hA0, va_S.rf, hA1⟩
  have hl := lv_entry ([.ref b, .long x]) (n := 5) (Nat.le_of_ble_eq_true rfl)
  rw [lg_entry_eq]
  generalize (lg_sl ([.ref b, .long x]) ++ List.replicate (5 - (lg_sl ([.ref b, .long x])).length) Slot.unset).toArray = ls at hl ⊢
  have hl : lv_has ls 5 [(0, .ref b), (1, .long x)] := hl
  obtain ⟨hB0, hB1, hB2, hB3, hB4, hB5⟩ := hB
  have hMf : fs_Mf b M M := fs_Mf_r
  refine lv_iconst (v := 0) hx hb dM_checksOf_0 (by decide) ?_
  refine lv_istore_n (lv' := [(3, .int 0), (0, .ref b), (1, .long x)]) hx hb dM_checksOf_1 rfl hl (by decide) rfl (fun ls hl => ?_)
  refine lv_iconst (v := 0) hx hb dM_checksOf_2 (by decide) ?_
  refine lv_istore (lv' := [(4, .int 0), (3, .int 0), (0, .ref b), (1, .long x)]) hx hb dM_checksOf_3 hl (by decide) rfl (fun ls hl => ?_)
  refine fm_loop (head := 5) (maxL := 5) (cn 4) (fun i (u : Int32) M1 => M1 = M ∧ u = fs_ck (la 7) x i) (fun i (u : Int32) => [(4, .int (nI i)), (0, .ref b), (1, .long x), (3, .int u)]) ?_ ?_ (cn 4) 0 (Nat.zero_add _) 0 M _ _ ls ⟨rfl, rfl⟩ hW (lv_sub hl [0, 2, 3, 1] rfl)
  · intro i u M_1 H locs ls hi hI hW hl back
    have hl : lv_has ls 5 [(4, .int (nI i)), (0, .ref b), (1, .long x), (3, .int u)] := hl
    have hW : fm_W D fs_cl5 A M s.heap H locs := by rw [← hI.1]; exact hW
    refine lv_iload hx hb dM_checksOf_5 (lv_at hl 0 rfl) ?_
    refine lv_aload_n hx hb dM_checksOf_7 rfl (lv_at hl 1 rfl) ?_
    refine fm_get (ci := 4) (v := .int (nI (cn 4))) (C := RM) (T := TM) (N := 30) hx hb hT inM hown hK hW hM.1 rfl 5 (by decide) (hT _ fl_M_80) (fun _ h9 => h9) rfl dM_checksOf_8 ?_
    refine lv_icmp_ge (tgt := 38) hx hb dM_checksOf_11 (by decide) (fun c_2 => ?_) (fun c_2 => ?_)
    · exact absurd c_2 (nI_ge hi (by omega))
    · refine lv_iload_n hx hb dM_checksOf_14 rfl (lv_at hl 3 rfl) ?_
      refine lv_lload_n hx hb dM_checksOf_15 rfl (lv_at hl 2 rfl) ?_
      refine lv_aload_n hx hb dM_checksOf_16 rfl (lv_at hl 1 rfl) ?_
      refine fm_get (ci := 4) (v := .ref (b + 7)) (C := RM) (T := TM) (N := 30) hx hb hT inM hown hK hW hM.1 rfl 12 (by decide) (hT _ fl_M_28) (fun _ h9 => h9) rfl dM_checksOf_17 ?_
      refine lv_iload hx hb dM_checksOf_20 (lv_at hl 0 rfl) ?_
      refine fn_lald (n := 16) (f := la 7) hx hb hK hW 1 (hM.2.2.1 7 rfl) rfl (show i < 16 by omega) (by decide) dM_checksOf_22 ?_
      refine lv_land hx hb dM_checksOf_23 ?_
      refine fm_calli (va_runS (As := [.long (x &&& ((la 7) i))]) (rest := [.int u]) ⟨hx, hb, hml, hown, hts⟩ (c_M_parity l D ct A M (x &&& ((la 7) i))) ⟨callB_of 1 hts (fs_gin co_M_parity) rfl rfl rfl (hT _ ini_M) (hT _ ml_M_162) (by decide +kernel) ⟨Nat.le_of_ble_eq_true rfl, Nat.le_of_ble_eq_true rfl⟩, hT _ st_M_parity⟩ (fn_pre fs_isnw hK hN hW) rfl rfl hl.1 rfl (lv_room (Nat.le_of_ble_eq_true rfl)) dM_checksOf_24 ⟨Nat.le_of_ble_eq_true rfl, Nat.le_of_ble_eq_true rfl⟩) hW (fun r_3 M_4 H locs hp_5 hW => ?_)
      have hW : fm_W D fs_cl5 A M s.heap H locs := by rw [← hp_5.2]; exact hW
      have er_3 := hp_5.1
      refine lv_iload hx hb dM_checksOf_27 (lv_at hl 0 rfl) ?_
      refine lv_ishl hx hb dM_checksOf_29 ?_
      refine lv_ior hx hb dM_checksOf_30 ?_
      refine lv_topi (fun x_6 ex_6 => ?_)
      refine lv_istore_n (lv' := [(3, .int x_6), (4, .int (nI i)), (0, .ref b), (1, .long x)]) hx hb dM_checksOf_31 rfl hl (by decide) rfl (fun ls hl => ?_)
      refine lv_iinc (v := nI (i + 1)) (lv' := [(4, .int (nI (i + 1))), (3, .int x_6), (0, .ref b), (1, .long x)]) hx hb dM_checksOf_32 hl (k := 1) rfl (nI_1 i) (by decide) rfl (fun ls hl => ?_)
      refine lv_goto (tgt := 5) hx hb dM_checksOf_35 (by decide) ?_
      exact back x_6 _ _ _ ls ⟨rfl, by rw [ex_6, hI.2, er_3]; rfl⟩ hW (lv_sub hl [0, 2, 3, 1] rfl)
  · intro u M_7 H locs ls hI hW hl
    have hl : lv_has ls 5 [(4, .int (nI (cn 4))), (0, .ref b), (1, .long x), (3, .int u)] := hl
    have hW : fm_W D fs_cl5 A M s.heap H locs := by rw [← hI.1]; exact hW
    refine lv_iload hx hb dM_checksOf_5 (lv_at hl 0 rfl) ?_
    refine lv_aload_n hx hb dM_checksOf_7 rfl (lv_at hl 1 rfl) ?_
    refine fm_get (ci := 4) (v := .int (nI (cn 4))) (C := RM) (T := TM) (N := 30) hx hb hT inM hown hK hW hM.1 rfl 5 (by decide) (hT _ fl_M_80) (fun _ h9 => h9) rfl dM_checksOf_8 ?_
    refine lv_icmp_ge (tgt := 38) hx hb dM_checksOf_11 (by decide) (fun c_8 => ?_) (fun c_8 => ?_)
    · refine lv_iload_n hx hb dM_checksOf_38 rfl (lv_at hl 3 rfl) ?_
      exact fm_iret hx hb hr hlocks hW ⟨hI.2, rfl⟩ dM_checksOf_39
    · exact absurd (nI_le (Nat.le_refl (cn 4)) (by omega)) c_8
