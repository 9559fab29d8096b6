-- the reference: outcome, told, changes, run, edges found, total
theorem fs_fq_po {cn : Nat → Nat} {si si2 : Nat → Int32} {ia ia2 : Nat → Nat → Int32} {la la2 : Nat → Nat → Int64} (h : fs_po si ia la si2 ia2 la2) {f : Nat} {ch : Int64} (q : fs_fq cn ia f ch) : fs_fq cn ia2 f ch := by
  obtain ⟨t, q1, q2, q3⟩ := q
  refine ⟨t, q1, ?_, ?_⟩
  · rw [h.1 4 (by decide)]; exact q2
  · rw [h.1 1 (by decide), h.1 2 (by decide), h.1 3 (by decide), h.1 5 (by decide)]; exact q3
theorem fs_wh1 {x : Int32} (h0 : ¬ x < 0) (h1 : x ≤ 1) (h : ¬ x = 0) : x = 1 := by
  obtain ⟨j, hj, rfl⟩ := nI_of2 (M := 1) (n := 1) rfl h0 h1
  rcases (show j = 0 ∨ j = 1 by omega) with rfl | rfl
  · exact absurd rfl h
  · rfl
theorem fs_wh2 {x : Int32} (h0 : ¬ x < 0) (h1 : x ≤ 2) (h : ¬ x = 0) (h2 : ¬ x = 1) : x = 2 := by
  obtain ⟨j, hj, rfl⟩ := nI_of2 (M := 2) (n := 2) rfl h0 h1
  rcases (show j = 0 ∨ j = 1 ∨ j = 2 by omega) with rfl | rfl | rfl
  · exact absurd rfl h
  · exact absurd rfl h2
  · rfl
theorem fs_ulul {f : Nat → Int64} {e : Nat} {x y : Int64} : vp_updL (vp_updL f e x) e y = vp_updL f e y := by
  funext j
  unfold vp_updL
  split <;> rfl
set_option maxHeartbeats 4000000 in
set_option maxRecDepth 100000 in
theorem c_M_outcome (l : Launch) (D : va_G) (ct : Nat → ClassId) (A : Nat → Prop) (M : fm_M) (b : Nat) (cn : Nat → Nat) (si : Nat → Int32) (sl : Nat → Int64) (ia : Nat → Nat → Int32) (la : Nat → Nat → Int64) (kp pn : Nat → fs_Q) (lc : Nat → Int32) (lr : Nat → Int64) (lk wh : Int32) (hM : fs_MW ct M b cn si sl ia la) (hB : fs_Bd cn) (hwf : fs_wf cn ia) (hRP : fs_RP (cn 0) (ia 1) (ia 2) (ia 3) (cn 1) (cn 2) kp pn lc lr) : Met l yM_outcome wM_outcome ({ frames := 6, cells := 0, slots := 0, locals := 142 }) (va_Pc [.ref b, .int lk, .int wh] (fm_St D fs_cl5 (fs_tys ct) fs_nw A M)) (va_Ql (fun (r : Int64) (M1 : fm_M) => r = fs_oo (cn 2) lc lr lk wh ∧ ∃ (si2 : Nat → Int32) (sl2 : Nat → Int64) (ia2 : Nat → Nat → Int32) (la2 : Nat → Nat → Int64), fs_MW ct M1 b cn si2 sl2 ia2 la2 ∧ fs_Mf b M M1 ∧ fs_po (va_up si 0 0) ia la si2 ia2 la2) (fm_B D fs_cl5 A) A) 0 0 A := by
  refine Met.ofW (cc := cM_outcome) (maxL := 3) (ret := (some .long)) (by decide) rfl ?_
  intro p e s m args below meth c s₁ B hml hv
  obtain ⟨rfl, hP0, hA0, hA1, hK, hN⟩ := hv
  have hx := B.exec
  have hb := B.bytes
  have hr := B.returns
  have hts := atoms_spec (ws := wM_outcome) B.pre
  have hT : ∀ w ∈ fs_tb, w.before _ s = true := fun w h => hts w (List.mem_cons_of_mem _ h)
  have hown : s.vm.findClass "FrameSamplesModel" = some m.cls := findClass_of_methodNamed B.named
  have hlocks := B.notSynchronized
  have hW : fm_W D fs_cl5 A M s.heap s.heap [] := ⟨hP0, hA0, va_S.rf, hA1⟩
  have hl := lv_entry ([.ref b, .int lk, .int wh]) (n := 3) (Nat.le_of_ble_eq_true rfl)
  rw [lg_entry_eq]
  generalize (lg_sl ([.ref b, .int lk, .int wh]) ++ List.replicate (3 - (lg_sl ([.ref b, .int lk, .int wh])).length) Slot.unset).toArray = ls at hl ⊢
  have hl : lv_has ls 3 [(0, .ref b), (1, .int lk), (2, .int wh)] := hl
  obtain ⟨hB0, hB1, hB2, hB3, hB4, hB5⟩ := hB
  have hMf : fs_Mf b M M := fs_Mf_r
  refine lv_aload_n hx hb dM_outcome_0 rfl (lv_at hl 0 rfl) ?_
  refine lv_iconst (v := 0) hx hb dM_outcome_1 (by decide) ?_
  refine fm_put (ci := 4) (v := .int 0) (ty := .int) (C := RM) (T := TM) (N := 30) hx hb hT inM tyM tkM nmM hown hK hW hM.1 rfl 0 (by decide) (hT _ fl_M_64) (fun _ h9 => h9) rfl (by decide +kernel) rfl rfl (Nat.le_of_ble_eq_true rfl) dM_outcome_2 (fun H locs hW => ?_)
  obtain ⟨M_1, eM_1⟩ : ∃ z : fm_M, z = va_up M b (some (.inr (4, [.int 0, .int (nI (cn 0)), .int (nI (cn 1)), .int (nI (cn 2)), .int (nI (cn 3)), .int (nI (cn 4)), .ref (b + 1), .ref (b + 2), .ref (b + 3), .ref (b + 4), .ref (b + 5), .ref (b + 6), .ref (b + 7), .ref (b + 8), .ref (b + 9), .ref (b + 10), .ref (b + 11), .ref (b + 12), .ref (b + 13), .ref (b + 14), .int (si 20), .int (si 21), .int (si 22), .long (sl 23), .int (si 24), .int (si 25), .long (sl 26), .int (si 27), .ref (b + 15), .ref (b + 16)]))) := ⟨_, rfl⟩
  have hW : fm_W D fs_cl5 A M_1 s.heap H locs := by rw [eM_1]; exact hW
  have f_2 : M_1 b = some (.inr (4, [.int 0, .int (nI (cn 0)), .int (nI (cn 1)), .int (nI (cn 2)), .int (nI (cn 3)), .int (nI (cn 4)), .ref (b + 1), .ref (b + 2), .ref (b + 3), .ref (b + 4), .ref (b + 5), .ref (b + 6), .ref (b + 7), .ref (b + 8), .ref (b + 9), .ref (b + 10), .ref (b + 11), .ref (b + 12), .ref (b + 13), .ref (b + 14), .int (si 20), .int (si 21), .int (si 22), .long (sl 23), .int (si 24), .int (si 25), .long (sl 26), .int (si 27), .ref (b + 15), .ref (b + 16)])) := by rw [eM_1]; exact fm_us
  have hM : fs_MW ct M_1 b cn (va_up si 0 0) sl ia la := by rw [eM_1]; exact fs_MW_o hM cn (va_up si 0 0) sl
  have hMf : fs_Mf b M M_1 := by rw [eM_1]; exact fs_Mf_u hMf (by omega) _
  refine lv_iload_n hx hb dM_outcome_5 rfl (lv_at hl 1 rfl) ?_
  refine lv_if_lt (tgt := 26) hx hb dM_outcome_6 (by decide) (fun c_3 => ?_) (fun c_3 => ?_)
  · refine lv_ldc2 hx hb hown (hT _ cn_M_145) dM_outcome_26 ?_
    exact fm_lret hx hb hr hlocks hW ⟨(if_pos (Or.inl c_3)).symm, _, _, _, _, hM, hMf, fs_po_r⟩ dM_outcome_29
  · refine lv_iload_n hx hb dM_outcome_9 rfl (lv_at hl 1 rfl) ?_
    refine lv_aload_n hx hb dM_outcome_10 rfl (lv_at hl 0 rfl) ?_
    refine fm_get (ci := 4) (v := .int (nI (cn 2))) (C := RM) (T := TM) (N := 30) hx hb hT inM hown hK hW f_2 rfl 3 (by decide) (hT _ fl_M_74) (fun _ h9 => h9) rfl dM_outcome_11 ?_
    refine lv_icmp_ge (tgt := 26) hx hb dM_outcome_14 (by decide) (fun c_4 => ?_) (fun c_4 => ?_)
    · refine lv_ldc2 hx hb hown (hT _ cn_M_145) dM_outcome_26 ?_
      exact fm_lret hx hb hr hlocks hW ⟨(if_pos (Or.inr (Int32.not_lt.mpr c_4))).symm, _, _, _, _, hM, hMf, fs_po_r⟩ dM_outcome_29
    · have hn0 : ¬ (lk < 0 ∨ ¬ lk < nI (cn 2)) := fun z => z.elim c_3 (fun y => y (Int32.not_le.mp c_4))
      obtain ⟨j, hj, rfl⟩ := fs_ixl (by omega) c_3 (Int32.not_le.mp c_4)
      refine lv_iload_n hx hb dM_outcome_17 rfl (lv_at hl 2 rfl) ?_
      refine lv_if_lt (tgt := 26) hx hb dM_outcome_18 (by decide) (fun c_5 => ?_) (fun c_5 => ?_)
      · refine lv_ldc2 hx hb hown (hT _ cn_M_145) dM_outcome_26 ?_
        exact fm_lret hx hb hr hlocks hW ⟨by unfold fs_oo; rw [if_neg hn0, if_neg (show ¬ wh = 0 from by rintro rfl; exact absurd c_5 (by decide)), if_neg (show ¬ wh = 1 from by rintro rfl; exact absurd c_5 (by decide))], _, _, _, _, hM, hMf, fs_po_r⟩ dM_outcome_29
      · refine lv_iload_n hx hb dM_outcome_21 rfl (lv_at hl 2 rfl) ?_
        refine lv_iconst (v := 1) hx hb dM_outcome_22 (by decide) ?_
        refine lv_icmp_le (tgt := 30) hx hb dM_outcome_23 (by decide) (fun c_6 => ?_) (fun c_6 => ?_)
        · refine lv_aload_n hx hb dM_outcome_30 rfl (lv_at hl 0 rfl) ?_
          refine fm_callv (va_runV (As := []) (rest := []) ⟨hx, hb, hml, hown, hts⟩ (c_M_playAll l D ct A M_1 b cn (va_up si 0 0) sl ia la hM ⟨hB0, hB1, hB2, hB3, hB4, hB5⟩ hwf) ⟨callB_of 0 hts (fs_gin co_M_playAll) rfl rfl rfl (hT _ ini_M) (hT _ ml_M_147) (by decide +kernel) ⟨Nat.le_of_ble_eq_true rfl, Nat.le_of_ble_eq_true rfl⟩, hT _ im_M_playAll, hT _ se_M_playAll⟩ (fn_preV fs_isnw hK hN hW hM.1 rfl) rfl rfl hl.1 rfl (lv_room (Nat.le_of_ble_eq_true rfl)) dM_outcome_31 ⟨Nat.le_of_ble_eq_true rfl, Nat.le_of_ble_eq_true rfl⟩) hW (fun M_8 H locs hp_9 hW => ?_)
          obtain ⟨si3, sl3, ia3, la3, hM, hMf3, hpo, hP⟩ := hp_9
          have hMf := fs_Mf_t hMf hMf3
          obtain ⟨-, hL⟩ := hRP.2 _ _ _ hP
          refine lv_iload_n hx hb dM_outcome_34 rfl (lv_at hl 2 rfl) ?_
          refine lv_if_ne (tgt := 48) hx hb dM_outcome_35 (by decide) (fun c_10 => ?_) (fun c_10 => ?_)
          · refine lv_aload_n hx hb dM_outcome_48 rfl (lv_at hl 0 rfl) ?_
            refine fm_get (ci := 4) (v := .ref (b + 13)) (C := RM) (T := TM) (N := 30) hx hb hT inM hown hK hW hM.1 rfl 18 (by decide) (hT _ fl_M_47) (fun _ h9 => h9) rfl dM_outcome_49 ?_
            refine lv_iload_n hx hb dM_outcome_52 rfl (lv_at hl 1 rfl) ?_
            refine fn_lald (n := 60) (f := la3 13) hx hb hK hW 1 (hM.2.2.1 13 rfl) rfl (show j < 60 by omega) (by decide) dM_outcome_53 ?_
            have hw1 := fs_wh1 c_5 c_6 c_10
            exact fm_lret hx hb hr hlocks hW ⟨by unfold fs_oo; rw [if_neg hn0, if_neg c_10, if_pos hw1, nI_clamp (by omega)]; exact (hL j hj).2, _, _, _, _, hM, hMf, hpo⟩ dM_outcome_54
          · refine lv_aload_n hx hb dM_outcome_38 rfl (lv_at hl 0 rfl) ?_
            refine fm_get (ci := 4) (v := .ref (b + 12)) (C := RM) (T := TM) (N := 30) hx hb hT inM hown hK hW hM.1 rfl 17 (by decide) (hT _ fl_M_44) (fun _ h9 => h9) rfl dM_outcome_39 ?_
            refine lv_iload_n hx hb dM_outcome_42 rfl (lv_at hl 1 rfl) ?_
            refine fn_iald (n := 60) (f := ia3 12) hx hb hK hW 0 (hM.2.1 12 rfl) rfl (show j < 60 by omega) (by decide) dM_outcome_43 ?_
            refine lv_i2l (v := ((ia3 12) j).toInt64) hx hb dM_outcome_44 rfl ?_
            refine lv_goto (tgt := 54) hx hb dM_outcome_45 (by decide) ?_
            exact fm_lret hx hb hr hlocks hW ⟨by unfold fs_oo; rw [if_neg hn0, if_pos c_10, nI_clamp (by omega), ← (hL j hj).1], _, _, _, _, hM, hMf, hpo⟩ dM_outcome_54
        · refine lv_ldc2 hx hb hown (hT _ cn_M_145) dM_outcome_26 ?_
          exact fm_lret hx hb hr hlocks hW ⟨by unfold fs_oo; rw [if_neg hn0, if_neg (show ¬ wh = 0 from by rintro rfl; exact c_6 (by decide)), if_neg (show ¬ wh = 1 from by rintro rfl; exact c_6 (by decide))], _, _, _, _, hM, hMf, fs_po_r⟩ dM_outcome_29
set_option maxHeartbeats 4000000 in
set_option maxRecDepth 100000 in
theorem c_M_told (l : Launch) (D : va_G) (ct : Nat → ClassId) (A : Nat → Prop) (M : fm_M) (b : Nat) (cn : Nat → Nat) (si : Nat → Int32) (sl : Nat → Int64) (ia : Nat → Nat → Int32) (la : Nat → Nat → Int64) (kp pn : Nat → fs_Q) (lc : Nat → Int32) (lr : Nat → Int64) (cc : Nat → Int32) (cr : Nat → Int64) (lk wh : Int32) (hM : fs_MW ct M b cn si sl ia la) (hB : fs_Bd cn) (hwf : fs_wf cn ia) (hRP : fs_RP (cn 0) (ia 1) (ia 2) (ia 3) (cn 1) (cn 2) kp pn lc lr) (hc : ∀ c, c < cn 4 → cc c = (fs_xr lc lr (la 7 c) (cn 2)).1 ∧ cr c = (fs_xr lc lr (la 7 c) (cn 2)).2) : Met l yM_told wM_told ({ frames := 6, cells := 0, slots := 0, locals := 142 }) (va_Pc [.ref b, .int lk, .int wh] (fm_St D fs_cl5 (fs_tys ct) fs_nw A M)) (va_Ql (fun (r : Int64) (M1 : fm_M) => r = fs_tt (cn 4) cc cr lk wh ∧ ∃ (si2 : Nat → Int32) (sl2 : Nat → Int64) (ia2 : Nat → Nat → Int32) (la2 : Nat → Nat → Int64), fs_MW ct M1 b cn si2 sl2 ia2 la2 ∧ fs_Mf b M M1 ∧ fs_po (va_up si 0 0) ia la si2 ia2 la2) (fm_B D fs_cl5 A) A) 0 0 A := by
  refine Met.ofW (cc := cM_told) (maxL := 7) (ret := (some .long)) (by decide) rfl ?_
  intro p e s m args below meth c s₁ B hml hv
  obtain ⟨rfl, hP0, hA0, hA1, hK, hN⟩ := hv
  have hx := B.exec
  have hb := B.bytes
  have hr := B.returns
  have hts := atoms_spec (ws := wM_told) B.pre
  have hT : ∀ w ∈ fs_tb, w.before _ s = true := fun w h => hts w (List.mem_cons_of_mem _ h)
  have hown : s.vm.findClass "FrameSamplesModel" = some m.cls := findClass_of_methodNamed B.named
  have hlocks := B.notSynchronized
  have hW : fm_W D fs_cl5 A M s.heap s.heap [] := ⟨hP0, hA0, va_S.rf, hA1⟩
  have hl := lv_entry ([.ref b, .int lk, .int wh]) (n := 7) (Nat.le_of_ble_eq_true rfl)
  rw [lg_entry_eq]
  generalize (lg_sl ([.ref b, .int lk, .int wh]) ++ List.replicate (7 - (lg_sl ([.ref b, .int lk, .int wh])).length) Slot.unset).toArray = ls at hl ⊢
  have hl : lv_has ls 7 [(0, .ref b), (1, .int lk), (2, .int wh)] := hl
  obtain ⟨hB0, hB1, hB2, hB3, hB4, hB5⟩ := hB
  have hMf : fs_Mf b M M := fs_Mf_r
  refine lv_aload_n hx hb dM_told_0 rfl (lv_at hl 0 rfl) ?_
  refine lv_iconst (v := 0) hx hb dM_told_1 (by decide) ?_
  refine fm_put (ci := 4) (v := .int 0) (ty := .int) (C := RM) (T := TM) (N := 30) hx hb hT inM tyM tkM nmM hown hK hW hM.1 rfl 0 (by decide) (hT _ fl_M_64) (fun _ h9 => h9) rfl (by decide +kernel) rfl rfl (Nat.le_of_ble_eq_true rfl) dM_told_2 (fun H locs hW => ?_)
  obtain ⟨M_1, eM_1⟩ : ∃ z : fm_M, z = va_up M b (some (.inr (4, [.int 0, .int (nI (cn 0)), .int (nI (cn 1)), .int (nI (cn 2)), .int (nI (cn 3)), .int (nI (cn 4)), .ref (b + 1), .ref (b + 2), .ref (b + 3), .ref (b + 4), .ref (b + 5), .ref (b + 6), .ref (b + 7), .ref (b + 8), .ref (b + 9), .ref (b + 10), .ref (b + 11), .ref (b + 12), .ref (b + 13), .ref (b + 14), .int (si 20), .int (si 21), .int (si 22), .long (sl 23), .int (si 24), .int (si 25), .long (sl 26), .int (si 27), .ref (b + 15), .ref (b + 16)]))) := ⟨_, rfl⟩
  have hW : fm_W D fs_cl5 A M_1 s.heap H locs := by rw [eM_1]; exact hW
  have f_2 : M_1 b = some (.inr (4, [.int 0, .int (nI (cn 0)), .int (nI (cn 1)), .int (nI (cn 2)), .int (nI (cn 3)), .int (nI (cn 4)), .ref (b + 1), .ref (b + 2), .ref (b + 3), .ref (b + 4), .ref (b + 5), .ref (b + 6), .ref (b + 7), .ref (b + 8), .ref (b + 9), .ref (b + 10), .ref (b + 11), .ref (b + 12), .ref (b + 13), .ref (b + 14), .int (si 20), .int (si 21), .int (si 22), .long (sl 23), .int (si 24), .int (si 25), .long (sl 26), .int (si 27), .ref (b + 15), .ref (b + 16)])) := by rw [eM_1]; exact fm_us
  have hM : fs_MW ct M_1 b cn (va_up si 0 0) sl ia la := by rw [eM_1]; exact fs_MW_o hM cn (va_up si 0 0) sl
  have hMf : fs_Mf b M M_1 := by rw [eM_1]; exact fs_Mf_u hMf (by omega) _
  refine lv_iload_n hx hb dM_told_5 rfl (lv_at hl 1 rfl) ?_
  refine lv_if_lt (tgt := 26) hx hb dM_told_6 (by decide) (fun c_3 => ?_) (fun c_3 => ?_)
  · refine lv_ldc2 hx hb hown (hT _ cn_M_145) dM_told_26 ?_
    exact fm_lret hx hb hr hlocks hW ⟨(if_pos (Or.inl c_3)).symm, _, _, _, _, hM, hMf, fs_po_r⟩ dM_told_29
  · refine lv_iload_n hx hb dM_told_9 rfl (lv_at hl 1 rfl) ?_
    refine lv_aload_n hx hb dM_told_10 rfl (lv_at hl 0 rfl) ?_
    refine fm_get (ci := 4) (v := .int (nI (cn 4))) (C := RM) (T := TM) (N := 30) hx hb hT inM hown hK hW f_2 rfl 5 (by decide) (hT _ fl_M_80) (fun _ h9 => h9) rfl dM_told_11 ?_
    refine lv_icmp_ge (tgt := 26) hx hb dM_told_14 (by decide) (fun c_4 => ?_) (fun c_4 => ?_)
    · refine lv_ldc2 hx hb hown (hT _ cn_M_145) dM_told_26 ?_
      exact fm_lret hx hb hr hlocks hW ⟨(if_pos (Or.inr (Int32.not_lt.mpr c_4))).symm, _, _, _, _, hM, hMf, fs_po_r⟩ dM_told_29
    · have hn0 : ¬ (lk < 0 ∨ ¬ lk < nI (cn 4)) := fun z => z.elim c_3 (fun y => y (Int32.not_le.mp c_4))
      obtain ⟨j, hj, rfl⟩ := fs_ixl (by omega) c_3 (Int32.not_le.mp c_4)
      refine lv_iload_n hx hb dM_told_17 rfl (lv_at hl 2 rfl) ?_
      refine lv_if_lt (tgt := 26) hx hb dM_told_18 (by decide) (fun c_5 => ?_) (fun c_5 => ?_)
      · refine lv_ldc2 hx hb hown (hT _ cn_M_145) dM_told_26 ?_
        exact fm_lret hx hb hr hlocks hW ⟨by unfold fs_tt; rw [if_neg hn0, if_neg (show ¬ wh = 0 from by rintro rfl; exact absurd c_5 (by decide)), if_neg (show ¬ wh = 1 from by rintro rfl; exact absurd c_5 (by decide)), if_neg (show ¬ wh = 2 from by rintro rfl; exact absurd c_5 (by decide))], _, _, _, _, hM, hMf, fs_po_r⟩ dM_told_29
      · refine lv_iload_n hx hb dM_told_21 rfl (lv_at hl 2 rfl) ?_
        refine lv_iconst (v := 2) hx hb dM_told_22 (by decide) ?_
        refine lv_icmp_le (tgt := 30) hx hb dM_told_23 (by decide) (fun c_6 => ?_) (fun c_6 => ?_)
        · refine lv_aload_n hx hb dM_told_30 rfl (lv_at hl 0 rfl) ?_
          refine fm_callv (va_runV (As := []) (rest := []) ⟨hx, hb, hml, hown, hts⟩ (c_M_playAll l D ct A M_1 b cn (va_up si 0 0) sl ia la hM ⟨hB0, hB1, hB2, hB3, hB4, hB5⟩ hwf) ⟨callB_of 0 hts (fs_gin co_M_playAll) rfl rfl rfl (hT _ ini_M) (hT _ ml_M_147) (by decide +kernel) ⟨Nat.le_of_ble_eq_true rfl, Nat.le_of_ble_eq_true rfl⟩, hT _ im_M_playAll, hT _ se_M_playAll⟩ (fn_preV fs_isnw hK hN hW hM.1 rfl) rfl rfl hl.1 rfl (lv_room (Nat.le_of_ble_eq_true rfl)) dM_told_31 ⟨Nat.le_of_ble_eq_true rfl, Nat.le_of_ble_eq_true rfl⟩) hW (fun M_8 H locs hp_9 hW => ?_)
          obtain ⟨si3, sl3, ia3, la3, hM, hMf3, hpo, hP⟩ := hp_9
          have hMf := fs_Mf_t hMf hMf3
          obtain ⟨-, hL⟩ := hRP.2 _ _ _ hP
          refine lv_iconst (v := 0) hx hb dM_told_34 (by decide) ?_
          refine lv_istore_n (lv' := [(3, .int 0), (0, .ref b), (1, .int (nI j)), (2, .int wh)]) hx hb dM_told_35 rfl hl (by decide) rfl (fun ls hl => ?_)
          refine lv_lconst (v := 0) hx hb dM_told_36 (by decide) ?_
          refine lv_lstore (lv' := [(4, .long 0), (3, .int 0), (0, .ref b), (1, .int (nI j)), (2, .int wh)]) hx hb dM_told_37 hl (by decide) rfl (fun ls hl => ?_)
          refine lv_iconst (v := 0) hx hb dM_told_39 (by decide) ?_
          refine lv_istore (lv' := [(6, .int 0), (4, .long 0), (3, .int 0), (0, .ref b), (1, .int (nI j)), (2, .int wh)]) hx hb dM_told_40 hl (by decide) rfl (fun ls hl => ?_)
          have h7 : la3 7 j = la 7 j := by rw [hpo.2.1]
          refine fm_loop (head := 42) (maxL := 7) (cn 2) (fun i (u : Int32 × Int64) M1 => M1 = M_8 ∧ u = fs_xr (ia3 12) (la3 13) (la3 7 j) i) (fun i (u : Int32 × Int64) => [(6, .int (nI i)), (0, .ref b), (1, .int (nI j)), (2, .int wh), (3, .int u.1), (4, .long u.2)]) ?_ ?_ (cn 2) 0 (Nat.zero_add _) (0, 0) M_8 _ _ ls ⟨rfl, rfl⟩ hW (lv_sub hl [0, 3, 4, 5, 2, 1] rfl)
          · intro i u M_10 H locs ls hi hI hW hl back
            have hl : lv_has ls 7 [(6, .int (nI i)), (0, .ref b), (1, .int (nI j)), (2, .int wh), (3, .int u.1), (4, .long u.2)] := hl
            obtain ⟨u1, u2⟩ := u
            have hW : fm_W D fs_cl5 A M_8 s.heap H locs := by rw [← hI.1]; exact hW
            have hU : (u1, u2) = fs_xr (ia3 12) (la3 13) (la3 7 j) i := hI.2
            have hl : lv_has ls 7 [(6, .int (nI i)), (0, .ref b), (1, .int (nI j)), (2, .int wh), (3, .int u1), (4, .long u2)] := hl
            refine lv_iload hx hb dM_told_42 (lv_at hl 0 rfl) ?_
            refine lv_aload_n hx hb dM_told_44 rfl (lv_at hl 1 rfl) ?_
            refine fm_get (ci := 4) (v := .int (nI (cn 2))) (C := RM) (T := TM) (N := 30) hx hb hT inM hown hK hW hM.1 rfl 3 (by decide) (hT _ fl_M_74) (fun _ h9 => h9) rfl dM_told_45 ?_
            refine lv_icmp_ge (tgt := 98) hx hb dM_told_48 (by decide) (fun c_11 => ?_) (fun c_11 => ?_)
            · exact absurd c_11 (nI_ge hi (by omega))
            · refine lv_aload_n hx hb dM_told_51 rfl (lv_at hl 1 rfl) ?_
              refine fm_get (ci := 4) (v := .ref (b + 7)) (C := RM) (T := TM) (N := 30) hx hb hT inM hown hK hW hM.1 rfl 12 (by decide) (hT _ fl_M_28) (fun _ h9 => h9) rfl dM_told_52 ?_
              refine lv_iload_n hx hb dM_told_55 rfl (lv_at hl 2 rfl) ?_
              refine fn_lald (n := 16) (f := la3 7) hx hb hK hW 1 (hM.2.2.1 7 rfl) rfl (show j < 16 by omega) (by decide) dM_told_56 ?_
              refine lv_iload hx hb dM_told_57 (lv_at hl 0 rfl) ?_
              refine lv_lshr (v := ((la3 7) j) >>> ((nI i).toInt64 &&& 63)) hx hb dM_told_59 rfl ?_
              refine lv_lconst (v := 1) hx hb dM_told_60 (by decide) ?_
              refine lv_land hx hb dM_told_61 ?_
              refine lv_lconst (v := 0) hx hb dM_told_62 (by decide) ?_
              refine W.lcmp hx hb dM_told_63 ?_
              refine lv_if_ne (tgt := 70) hx hb dM_told_64 (by decide) (fun c_12 => ?_) (fun c_12 => ?_)
              · have hbit : bl (la3 7 j) i = true := fs_ndf _ (fun z => c_12 ((lg_cmp_eq _ _).mpr (by rw [fs_onSL (by omega), z]; rfl)))
                refine lv_iload_n hx hb dM_told_70 rfl (lv_at hl 4 rfl) ?_
                refine lv_aload_n hx hb dM_told_71 rfl (lv_at hl 1 rfl) ?_
                refine fm_get (ci := 4) (v := .ref (b + 12)) (C := RM) (T := TM) (N := 30) hx hb hT inM hown hK hW hM.1 rfl 17 (by decide) (hT _ fl_M_44) (fun _ h9 => h9) rfl dM_told_72 ?_
                refine lv_iload hx hb dM_told_75 (lv_at hl 0 rfl) ?_
                refine fn_iald (n := 60) (f := ia3 12) hx hb hK hW 0 (hM.2.1 12 rfl) rfl (show i < 60 by omega) (by decide) dM_told_77 ?_
                refine lv_ixor hx hb dM_told_78 ?_
                refine lv_topi (fun x_13 ex_13 => ?_)
                refine lv_istore_n (lv' := [(3, .int x_13), (6, .int (nI i)), (0, .ref b), (1, .int (nI j)), (2, .int wh), (4, .long u2)]) hx hb dM_told_79 rfl hl (by decide) rfl (fun ls hl => ?_)
                refine lv_lload hx hb dM_told_80 (lv_at hl 5 rfl) ?_
                refine lv_aload_n hx hb dM_told_82 rfl (lv_at hl 2 rfl) ?_
                refine fm_get (ci := 4) (v := .ref (b + 13)) (C := RM) (T := TM) (N := 30) hx hb hT inM hown hK hW hM.1 rfl 18 (by decide) (hT _ fl_M_47) (fun _ h9 => h9) rfl dM_told_83 ?_
                refine lv_iload hx hb dM_told_86 (lv_at hl 1 rfl) ?_
                refine fn_lald (n := 60) (f := la3 13) hx hb hK hW 1 (hM.2.2.1 13 rfl) rfl (show i < 60 by omega) (by decide) dM_told_88 ?_
                refine lv_lxor hx hb dM_told_89 ?_
                refine lv_topl (fun x_14 ex_14 => ?_)
                refine lv_lstore (lv' := [(4, .long x_14), (3, .int x_13), (6, .int (nI i)), (0, .ref b), (1, .int (nI j)), (2, .int wh)]) hx hb dM_told_90 hl (by decide) rfl (fun ls hl => ?_)
                have hU2 : (x_13, x_14) = fs_xr (ia3 12) (la3 13) (la3 7 j) (i + 1) := by
                  rw [show fs_xr (ia3 12) (la3 13) (la3 7 j) (i + 1) = ((fs_xr (ia3 12) (la3 13) (la3 7 j) i).1 ^^^ ia3 12 i, (fs_xr (ia3 12) (la3 13) (la3 7 j) i).2 ^^^ la3 13 i) from if_pos hbit, ← hU, ex_13, ex_14]
                refine lv_iinc (v := nI (i + 1)) (lv' := [(6, .int (nI (i + 1))), (4, .long x_14), (3, .int x_13), (0, .ref b), (1, .int (nI j)), (2, .int wh)]) hx hb dM_told_92 hl (k := 2) rfl (nI_1 i) (by decide) rfl (fun ls hl => ?_)
                refine lv_goto (tgt := 42) hx hb dM_told_95 (by decide) ?_
                exact back (x_13, x_14) _ _ _ ls ⟨rfl, hU2⟩ hW (lv_sub hl [0, 3, 4, 5, 2, 1] rfl)
              · have hbit : bl (la3 7 j) i = false := (fs_bL_eq0 _).mp ((fs_onSL (by omega) _).symm.trans ((lg_cmp_eq _ _).mp c_12))
                refine lv_goto (tgt := 92) hx hb dM_told_67 (by decide) ?_
                refine lv_iinc (v := nI (i + 1)) (lv' := [(6, .int (nI (i + 1))), (0, .ref b), (1, .int (nI j)), (2, .int wh), (3, .int u1), (4, .long u2)]) hx hb dM_told_92 hl (k := 0) rfl (nI_1 i) (by decide) rfl (fun ls hl => ?_)
                refine lv_goto (tgt := 42) hx hb dM_told_95 (by decide) ?_
                exact back (u1, u2) _ _ _ ls ⟨rfl, hU.trans (if_neg (by rw [hbit]; decide)).symm⟩ hW (lv_sub hl [0, 1, 2, 3, 4, 5] rfl)
          · intro u M_15 H locs ls hI hW hl
            have hl : lv_has ls 7 [(6, .int (nI (cn 2))), (0, .ref b), (1, .int (nI j)), (2, .int wh), (3, .int u.1), (4, .long u.2)] := hl
            obtain ⟨u1, u2⟩ := u
            have hW : fm_W D fs_cl5 A M_8 s.heap H locs := by rw [← hI.1]; exact hW
            have hU : (u1, u2) = fs_xr (ia3 12) (la3 13) (la3 7 j) (cn 2) := hI.2
            have hl : lv_has ls 7 [(6, .int (nI (cn 2))), (0, .ref b), (1, .int (nI j)), (2, .int wh), (3, .int u1), (4, .long u2)] := hl
            refine lv_iload hx hb dM_told_42 (lv_at hl 0 rfl) ?_
            refine lv_aload_n hx hb dM_told_44 rfl (lv_at hl 1 rfl) ?_
            refine fm_get (ci := 4) (v := .int (nI (cn 2))) (C := RM) (T := TM) (N := 30) hx hb hT inM hown hK hW hM.1 rfl 3 (by decide) (hT _ fl_M_74) (fun _ h9 => h9) rfl dM_told_45 ?_
            refine lv_icmp_ge (tgt := 98) hx hb dM_told_48 (by decide) (fun c_16 => ?_) (fun c_16 => ?_)
            · rw [h7, fs_xr_congr hL] at hU
              have z1 : u1 = cc j := (congrArg Prod.fst hU).trans (hc j hj).1.symm
              have z2 : u2 = cr j := (congrArg Prod.snd hU).trans (hc j hj).2.symm
              refine lv_iload_n hx hb dM_told_98 rfl (lv_at hl 3 rfl) ?_
              refine lv_if_ne (tgt := 117) hx hb dM_told_99 (by decide) (fun c_17 => ?_) (fun c_17 => ?_)
              · refine lv_iload_n hx hb dM_told_117 rfl (lv_at hl 3 rfl) ?_
                refine lv_iconst (v := 1) hx hb dM_told_118 (by decide) ?_
                refine lv_icmp_ne (tgt := 127) hx hb dM_told_119 (by decide) (fun c_18 => ?_) (fun c_18 => ?_)
                · refine lv_lload hx hb dM_told_127 (lv_at hl 5 rfl) ?_
                  have hw := fs_wh2 c_5 c_6 c_17 c_18
                  exact fm_lret hx hb hr hlocks hW ⟨by unfold fs_tt; rw [if_neg hn0, if_neg c_17, if_neg c_18, if_pos hw, nI_clamp (by omega)]; exact z2, _, _, _, _, hM, hMf, hpo⟩ dM_told_129
                · refine lv_iload_n hx hb dM_told_122 rfl (lv_at hl 4 rfl) ?_
                  refine lv_i2l (v := u1.toInt64) hx hb dM_told_123 rfl ?_
                  refine lv_goto (tgt := 129) hx hb dM_told_124 (by decide) ?_
                  exact fm_lret hx hb hr hlocks hW ⟨by unfold fs_tt; rw [if_neg hn0, if_neg c_17, if_pos c_18, nI_clamp (by omega), z1], _, _, _, _, hM, hMf, hpo⟩ dM_told_129
              · refine lv_lload hx hb dM_told_102 (lv_at hl 5 rfl) ?_
                refine lv_lconst (v := 0) hx hb dM_told_104 (by decide) ?_
                refine W.lcmp hx hb dM_told_105 ?_
                refine lv_if_ne (tgt := 113) hx hb dM_told_106 (by decide) (fun c_19 => ?_) (fun c_19 => ?_)
                · refine lv_lconst (v := 0) hx hb dM_told_113 (by decide) ?_
                  refine lv_goto (tgt := 129) hx hb dM_told_114 (by decide) ?_
                  exact fm_lret hx hb hr hlocks hW ⟨by unfold fs_tt; rw [if_neg hn0, if_pos c_17, nI_clamp (by omega), if_neg (fun z => c_19 ((lg_cmp_eq _ _).mpr (z2.trans z)))], _, _, _, _, hM, hMf, hpo⟩ dM_told_129
                · refine lv_lconst (v := 1) hx hb dM_told_109 (by decide) ?_
                  refine lv_goto (tgt := 129) hx hb dM_told_110 (by decide) ?_
                  exact fm_lret hx hb hr hlocks hW ⟨by unfold fs_tt; rw [if_neg hn0, if_pos c_17, nI_clamp (by omega), if_pos (z2.symm.trans ((lg_cmp_eq _ _).mp c_19))], _, _, _, _, hM, hMf, hpo⟩ dM_told_129
            · exact absurd (nI_le (Nat.le_refl (cn 2)) (by omega)) c_16
        · refine lv_ldc2 hx hb hown (hT _ cn_M_145) dM_told_26 ?_
          exact fm_lret hx hb hr hlocks hW ⟨by unfold fs_tt; rw [if_neg hn0, if_neg (show ¬ wh = 0 from by rintro rfl; exact c_6 (by decide)), if_neg (show ¬ wh = 1 from by rintro rfl; exact c_6 (by decide)), if_neg (show ¬ wh = 2 from by rintro rfl; exact c_6 (by decide))], _, _, _, _, hM, hMf, fs_po_r⟩ dM_told_29
set_option maxHeartbeats 4000000 in
set_option maxRecDepth 100000 in
theorem c_M_changes (l : Launch) (D : va_G) (ct : Nat → ClassId) (A : Nat → Prop) (M : fm_M) (b : Nat) (cn : Nat → Nat) (si : Nat → Int32) (sl : Nat → Int64) (ia : Nat → Nat → Int32) (la : Nat → Nat → Int64) (cl : Nat → Int64) (ck : Nat → Int32) (lk wh : Int32) (hM : fs_MW ct M b cn si sl ia la) (hB : fs_Bd cn) (hF : ∀ f, f < cn 3 → fs_fq cn ia f (cl f) ∧ ck f = fs_ck (la 7) (cl f) (cn 4)) : Met l yM_changes wM_changes ({ frames := 3, cells := 0, slots := 0, locals := 69 }) (va_Pc [.ref b, .int lk, .int wh] (fm_St D fs_cl5 (fs_tys ct) fs_nw A M)) (va_Ql (fun (r : Int64) (M1 : fm_M) => r = fs_hh (cn 3) cl ck lk wh ∧ ∃ (si2 : Nat → Int32) (sl2 : Nat → Int64) (ia2 : Nat → Nat → Int32) (la2 : Nat → Nat → Int64), fs_MW ct M1 b cn si2 sl2 ia2 la2 ∧ fs_Mf b M M1 ∧ fs_po (va_up si 0 0) ia la si2 ia2 la2) (fm_B D fs_cl5 A) A) 0 0 A := by
  refine Met.ofW (cc := cM_changes) (maxL := 5) (ret := (some .long)) (by decide) rfl ?_
  intro p e s m args below meth c s₁ B hml hv
  obtain ⟨rfl, hP0, hA0, hA1, hK, hN⟩ := hv
  have hx := B.exec
  have hb := B.bytes
  have hr := B.returns
  have hts := atoms_spec (ws := wM_changes) B.pre
  have hT : ∀ w ∈ fs_tb, w.before _ s = true := fun w h => hts w (List.mem_cons_of_mem _ h)
  have hown : s.vm.findClass "FrameSamplesModel" = some m.cls := findClass_of_methodNamed B.named
  have hlocks := B.notSynchronized
  have hW : fm_W D fs_cl5 A M s.heap s.heap [] := ⟨hP0, hA0, va_S.rf, hA1⟩
  have hl := lv_entry ([.ref b, .int lk, .int wh]) (n := 5) (Nat.le_of_ble_eq_true rfl)
  rw [lg_entry_eq]
  generalize (lg_sl ([.ref b, .int lk, .int wh]) ++ List.replicate (5 - (lg_sl ([.ref b, .int lk, .int wh])).length) Slot.unset).toArray = ls at hl ⊢
  have hl : lv_has ls 5 [(0, .ref b), (1, .int lk), (2, .int wh)] := hl
  obtain ⟨hB0, hB1, hB2, hB3, hB4, hB5⟩ := hB
  have hMf : fs_Mf b M M := fs_Mf_r
  refine lv_aload_n hx hb dM_changes_0 rfl (lv_at hl 0 rfl) ?_
  refine lv_iconst (v := 0) hx hb dM_changes_1 (by decide) ?_
  refine fm_put (ci := 4) (v := .int 0) (ty := .int) (C := RM) (T := TM) (N := 30) hx hb hT inM tyM tkM nmM hown hK hW hM.1 rfl 0 (by decide) (hT _ fl_M_64) (fun _ h9 => h9) rfl (by decide +kernel) rfl rfl (Nat.le_of_ble_eq_true rfl) dM_changes_2 (fun H locs hW => ?_)
  obtain ⟨M_1, eM_1⟩ : ∃ z : fm_M, z = va_up M b (some (.inr (4, [.int 0, .int (nI (cn 0)), .int (nI (cn 1)), .int (nI (cn 2)), .int (nI (cn 3)), .int (nI (cn 4)), .ref (b + 1), .ref (b + 2), .ref (b + 3), .ref (b + 4), .ref (b + 5), .ref (b + 6), .ref (b + 7), .ref (b + 8), .ref (b + 9), .ref (b + 10), .ref (b + 11), .ref (b + 12), .ref (b + 13), .ref (b + 14), .int (si 20), .int (si 21), .int (si 22), .long (sl 23), .int (si 24), .int (si 25), .long (sl 26), .int (si 27), .ref (b + 15), .ref (b + 16)]))) := ⟨_, rfl⟩
  have hW : fm_W D fs_cl5 A M_1 s.heap H locs := by rw [eM_1]; exact hW
  have f_2 : M_1 b = some (.inr (4, [.int 0, .int (nI (cn 0)), .int (nI (cn 1)), .int (nI (cn 2)), .int (nI (cn 3)), .int (nI (cn 4)), .ref (b + 1), .ref (b + 2), .ref (b + 3), .ref (b + 4), .ref (b + 5), .ref (b + 6), .ref (b + 7), .ref (b + 8), .ref (b + 9), .ref (b + 10), .ref (b + 11), .ref (b + 12), .ref (b + 13), .ref (b + 14), .int (si 20), .int (si 21), .int (si 22), .long (sl 23), .int (si 24), .int (si 25), .long (sl 26), .int (si 27), .ref (b + 15), .ref (b + 16)])) := by rw [eM_1]; exact fm_us
  have hM : fs_MW ct M_1 b cn (va_up si 0 0) sl ia la := by rw [eM_1]; exact fs_MW_o hM cn (va_up si 0 0) sl
  have hMf : fs_Mf b M M_1 := by rw [eM_1]; exact fs_Mf_u hMf (by omega) _
  refine lv_iload_n hx hb dM_changes_5 rfl (lv_at hl 1 rfl) ?_
  refine lv_if_lt (tgt := 26) hx hb dM_changes_6 (by decide) (fun c_3 => ?_) (fun c_3 => ?_)
  · refine lv_ldc2 hx hb hown (hT _ cn_M_145) dM_changes_26 ?_
    exact fm_lret hx hb hr hlocks hW ⟨(if_pos (Or.inl c_3)).symm, _, _, _, _, hM, hMf, fs_po_r⟩ dM_changes_29
  · refine lv_iload_n hx hb dM_changes_9 rfl (lv_at hl 1 rfl) ?_
    refine lv_aload_n hx hb dM_changes_10 rfl (lv_at hl 0 rfl) ?_
    refine fm_get (ci := 4) (v := .int (nI (cn 3))) (C := RM) (T := TM) (N := 30) hx hb hT inM hown hK hW f_2 rfl 4 (by decide) (hT _ fl_M_77) (fun _ h9 => h9) rfl dM_changes_11 ?_
    refine lv_icmp_ge (tgt := 26) hx hb dM_changes_14 (by decide) (fun c_4 => ?_) (fun c_4 => ?_)
    · refine lv_ldc2 hx hb hown (hT _ cn_M_145) dM_changes_26 ?_
      exact fm_lret hx hb hr hlocks hW ⟨(if_pos (Or.inr (Int32.not_lt.mpr c_4))).symm, _, _, _, _, hM, hMf, fs_po_r⟩ dM_changes_29
    · have hn0 : ¬ (lk < 0 ∨ ¬ lk < nI (cn 3)) := fun z => z.elim c_3 (fun y => y (Int32.not_le.mp c_4))
      obtain ⟨j, hj, rfl⟩ := fs_ixl (by omega) c_3 (Int32.not_le.mp c_4)
      refine lv_iload_n hx hb dM_changes_17 rfl (lv_at hl 2 rfl) ?_
      refine lv_if_lt (tgt := 26) hx hb dM_changes_18 (by decide) (fun c_5 => ?_) (fun c_5 => ?_)
      · refine lv_ldc2 hx hb hown (hT _ cn_M_145) dM_changes_26 ?_
        exact fm_lret hx hb hr hlocks hW ⟨by unfold fs_hh; rw [if_neg hn0, if_neg (show ¬ wh = 0 from by rintro rfl; exact absurd c_5 (by decide)), if_neg (show ¬ wh = 1 from by rintro rfl; exact absurd c_5 (by decide))], _, _, _, _, hM, hMf, fs_po_r⟩ dM_changes_29
      · refine lv_iload_n hx hb dM_changes_21 rfl (lv_at hl 2 rfl) ?_
        refine lv_iconst (v := 1) hx hb dM_changes_22 (by decide) ?_
        refine lv_icmp_le (tgt := 30) hx hb dM_changes_23 (by decide) (fun c_6 => ?_) (fun c_6 => ?_)
        · refine lv_aload_n hx hb dM_changes_30 rfl (lv_at hl 0 rfl) ?_
          refine lv_iload_n hx hb dM_changes_31 rfl (lv_at hl 1 rfl) ?_
          refine fm_calll (va_runV (As := [.int (nI j)]) (rest := []) ⟨hx, hb, hml, hown, hts⟩ (c_M_changedBy l D ct A M_1 b cn (va_up si 0 0) sl ia la j (cl j) hM ⟨hB0, hB1, hB2, hB3, hB4, hB5⟩ hj (hF j hj).1) ⟨callB_of 1 hts (fs_gin co_M_changedBy) rfl rfl rfl (hT _ ini_M) (hT _ ml_M_166) (by decide +kernel) ⟨Nat.le_of_ble_eq_true rfl, Nat.le_of_ble_eq_true rfl⟩, hT _ im_M_changedBy, hT _ se_M_changedBy⟩ (fn_preV fs_isnw hK hN hW hM.1 rfl) rfl rfl hl.1 rfl (lv_room (Nat.le_of_ble_eq_true rfl)) dM_changes_32 ⟨Nat.le_of_ble_eq_true rfl, Nat.le_of_ble_eq_true rfl⟩) hW (fun r_7 M_8 H locs hp_9 hW => ?_)
          obtain ⟨er_7, sit_10, slt_10, hM, hMf3, hskt_10⟩ := hp_9
          have hMf := fs_Mf_t hMf hMf3
          refine lv_lstore_n (lv' := [(3, .long r_7), (0, .ref b), (1, .int (nI j)), (2, .int wh)]) hx hb dM_changes_35 rfl hl (by decide) rfl (fun ls hl => ?_)
          refine lv_iload_n hx hb dM_changes_36 rfl (lv_at hl 3 rfl) ?_
          refine lv_if_ne (tgt := 44) hx hb dM_changes_37 (by decide) (fun c_11 => ?_) (fun c_11 => ?_)
          · refine lv_aload_n hx hb dM_changes_44 rfl (lv_at hl 1 rfl) ?_
            refine lv_lload_n hx hb dM_changes_45 rfl (lv_at hl 0 rfl) ?_
            refine fm_calli (va_runV (As := [.long r_7]) (rest := []) ⟨hx, hb, hml, hown, hts⟩ (c_M_checksOf l D ct A M_8 b cn sit_10 slt_10 ia la r_7 hM ⟨hB0, hB1, hB2, hB3, hB4, hB5⟩) ⟨callB_of 1 hts (fs_gin co_M_checksOf) rfl rfl rfl (hT _ ini_M) (hT _ ml_M_170) (by decide +kernel) ⟨Nat.le_of_ble_eq_true rfl, Nat.le_of_ble_eq_true rfl⟩, hT _ im_M_checksOf, hT _ se_M_checksOf⟩ (fn_preV fs_isnw hK hN hW hM.1 rfl) rfl rfl hl.1 rfl (lv_room (Nat.le_of_ble_eq_true rfl)) dM_changes_46 ⟨Nat.le_of_ble_eq_true rfl, Nat.le_of_ble_eq_true rfl⟩) hW (fun r_12 M_13 H locs hp_14 hW => ?_)
            have hW : fm_W D fs_cl5 A M_8 s.heap H locs := by rw [← hp_14.2]; exact hW
            have er_12 := hp_14.1
            refine lv_i2l (v := r_12.toInt64) hx hb dM_changes_49 rfl ?_
            exact fm_lret hx hb hr hlocks hW ⟨by unfold fs_hh; rw [if_neg hn0, if_neg c_11, if_pos (fs_wh1 c_5 c_6 c_11), nI_clamp (by omega), er_12, er_7, (hF j hj).2], _, _, _, _, hM, hMf, ⟨fun _ _ => rfl, rfl, hskt_10.1⟩⟩ dM_changes_50
          · refine lv_lload_n hx hb dM_changes_40 rfl (lv_at hl 0 rfl) ?_
            refine lv_goto (tgt := 50) hx hb dM_changes_41 (by decide) ?_
            exact fm_lret hx hb hr hlocks hW ⟨by unfold fs_hh; rw [if_neg hn0, if_pos c_11, nI_clamp (by omega)]; exact er_7, _, _, _, _, hM, hMf, ⟨fun _ _ => rfl, rfl, hskt_10.1⟩⟩ dM_changes_50
        · refine lv_ldc2 hx hb hown (hT _ cn_M_145) dM_changes_26 ?_
          exact fm_lret hx hb hr hlocks hW ⟨by unfold fs_hh; rw [if_neg hn0, if_neg (show ¬ wh = 0 from by rintro rfl; exact c_6 (by decide)), if_neg (show ¬ wh = 1 from by rintro rfl; exact c_6 (by decide))], _, _, _, _, hM, hMf, fs_po_r⟩ dM_changes_29
set_option maxHeartbeats 4000000 in
set_option maxRecDepth 100000 in
theorem c_M_run (l : Launch) (D : va_G) (ct : Nat → ClassId) (A : Nat → Prop) (M : fm_M) (b : Nat) (cn : Nat → Nat) (si : Nat → Int32) (sl : Nat → Int64) (ia : Nat → Nat → Int32) (la : Nat → Nat → Int64) (kp pn : Nat → fs_Q) (lc : Nat → Int32) (lr : Nat → Int64) (cl : Nat → Int64) (ck : Nat → Int32) (fa tl : Int64) (hM : fs_MW ct M b cn si sl ia la) (hB : fs_Bd cn) (hwf : fs_wf cn ia) (hRP : fs_RP (cn 0) (ia 1) (ia 2) (ia 3) (cn 1) (cn 2) kp pn lc lr) (hF : ∀ f, f < cn 3 → fs_fq cn ia f (cl f) ∧ ck f = fs_ck (la 7) (cl f) (cn 4)) : Met l yM_run wM_run ({ frames := 6, cells := 0, slots := 0, locals := 142 }) (va_Pc [.ref b, .long fa, .long tl] (fm_St D fs_cl5 (fs_tys ct) fs_nw A M)) (va_Ql (fun (r : Int64) (M1 : fm_M) => r = (if fs_ushl fa (nI (cn 3)) = 0 then fs_rx cl fa (fs_rn lc lr tl (cn 2)) (cn 3) else -1) ∧ ∃ (si2 : Nat → Int32) (sl2 : Nat → Int64) (ia2 : Nat → Nat → Int32) (la2 : Nat → Nat → Int64), fs_MW ct M1 b cn si2 sl2 ia2 la2 ∧ fs_Mf b M M1 ∧ fs_po (va_up si 0 0) ia la si2 ia2 la2) (fm_B D fs_cl5 A) A) 0 0 A := by
  refine Met.ofW (cc := cM_run) (maxL := 8) (ret := (some .long)) (by decide) rfl ?_
  intro p e s m args below meth c s₁ B hml hv
  obtain ⟨rfl, hP0, hA0, hA1, hK, hN⟩ := hv
  have hx := B.exec
  have hb := B.bytes
  have hr := B.returns
  have hts := atoms_spec (ws := wM_run) B.pre
  have hT : ∀ w ∈ fs_tb, w.before _ s = true := fun w h => hts w (List.mem_cons_of_mem _ h)
  have hown : s.vm.findClass "FrameSamplesModel" = some m.cls := findClass_of_methodNamed B.named
  have hlocks := B.notSynchronized
  have hW : fm_W D fs_cl5 A M s.heap s.heap [] := ⟨hP0, hA0, va_S.rf, hA1⟩
  have hl := lv_entry ([.ref b, .long fa, .long tl]) (n := 8) (Nat.le_of_ble_eq_true rfl)
  rw [lg_entry_eq]
  generalize (lg_sl ([.ref b, .long fa, .long tl]) ++ List.replicate (8 - (lg_sl ([.ref b, .long fa, .long tl])).length) Slot.unset).toArray = ls at hl ⊢
  have hl : lv_has ls 8 [(0, .ref b), (1, .long fa), (3, .long tl)] := hl
  obtain ⟨hB0, hB1, hB2, hB3, hB4, hB5⟩ := hB
  have hMf : fs_Mf b M M := fs_Mf_r
  refine lv_aload_n hx hb dM_run_0 rfl (lv_at hl 0 rfl) ?_
  refine lv_iconst (v := 0) hx hb dM_run_1 (by decide) ?_
  refine fm_put (ci := 4) (v := .int 0) (ty := .int) (C := RM) (T := TM) (N := 30) hx hb hT inM tyM tkM nmM hown hK hW hM.1 rfl 0 (by decide) (hT _ fl_M_64) (fun _ h9 => h9) rfl (by decide +kernel) rfl rfl (Nat.le_of_ble_eq_true rfl) dM_run_2 (fun H locs hW => ?_)
  obtain ⟨M_1, eM_1⟩ : ∃ z : fm_M, z = va_up M b (some (.inr (4, [.int 0, .int (nI (cn 0)), .int (nI (cn 1)), .int (nI (cn 2)), .int (nI (cn 3)), .int (nI (cn 4)), .ref (b + 1), .ref (b + 2), .ref (b + 3), .ref (b + 4), .ref (b + 5), .ref (b + 6), .ref (b + 7), .ref (b + 8), .ref (b + 9), .ref (b + 10), .ref (b + 11), .ref (b + 12), .ref (b + 13), .ref (b + 14), .int (si 20), .int (si 21), .int (si 22), .long (sl 23), .int (si 24), .int (si 25), .long (sl 26), .int (si 27), .ref (b + 15), .ref (b + 16)]))) := ⟨_, rfl⟩
  have hW : fm_W D fs_cl5 A M_1 s.heap H locs := by rw [eM_1]; exact hW
  have f_2 : M_1 b = some (.inr (4, [.int 0, .int (nI (cn 0)), .int (nI (cn 1)), .int (nI (cn 2)), .int (nI (cn 3)), .int (nI (cn 4)), .ref (b + 1), .ref (b + 2), .ref (b + 3), .ref (b + 4), .ref (b + 5), .ref (b + 6), .ref (b + 7), .ref (b + 8), .ref (b + 9), .ref (b + 10), .ref (b + 11), .ref (b + 12), .ref (b + 13), .ref (b + 14), .int (si 20), .int (si 21), .int (si 22), .long (sl 23), .int (si 24), .int (si 25), .long (sl 26), .int (si 27), .ref (b + 15), .ref (b + 16)])) := by rw [eM_1]; exact fm_us
  have hM : fs_MW ct M_1 b cn (va_up si 0 0) sl ia la := by rw [eM_1]; exact fs_MW_o hM cn (va_up si 0 0) sl
  have hMf : fs_Mf b M M_1 := by rw [eM_1]; exact fs_Mf_u hMf (by omega) _
  refine lv_lload_n hx hb dM_run_5 rfl (lv_at hl 1 rfl) ?_
  refine lv_aload_n hx hb dM_run_6 rfl (lv_at hl 0 rfl) ?_
  refine fm_get (ci := 4) (v := .int (nI (cn 3))) (C := RM) (T := TM) (N := 30) hx hb hT inM hown hK hW f_2 rfl 4 (by decide) (hT _ fl_M_77) (fun _ h9 => h9) rfl dM_run_7 ?_
  refine fm_calli (va_runS (As := [.long fa, .int (nI (cn 3))]) (rest := []) ⟨hx, hb, hml, hown, hts⟩ (c_M_isSet l D ct A M_1 fa (nI (cn 3))) ⟨callB_of 2 hts (fs_gin co_M_isSet) rfl rfl rfl (hT _ ini_M) (hT _ ml_M_91) (by decide +kernel) ⟨Nat.le_of_ble_eq_true rfl, Nat.le_of_ble_eq_true rfl⟩, hT _ st_M_isSet⟩ (fn_pre fs_isnw hK hN hW) rfl rfl hl.1 rfl (lv_room (Nat.le_of_ble_eq_true rfl)) dM_run_10 ⟨Nat.le_of_ble_eq_true rfl, Nat.le_of_ble_eq_true rfl⟩) hW (fun r_3 M_4 H locs hp_5 hW => ?_)
  have hW : fm_W D fs_cl5 A M_1 s.heap H locs := by rw [← hp_5.2]; exact hW
  have er_3 := hp_5.1
  refine lv_if_ne (tgt := 20) hx hb dM_run_13 (by decide) (fun c_6 => ?_) (fun c_6 => ?_)
  · have hok : fs_ushl fa (nI (cn 3)) = 0 := ((fs_if1 er_3).2 c_6).2
    refine lv_aload_n hx hb dM_run_20 rfl (lv_at hl 0 rfl) ?_
    refine fm_callv (va_runV (As := []) (rest := []) ⟨hx, hb, hml, hown, hts⟩ (c_M_playAll l D ct A M_1 b cn (va_up si 0 0) sl ia la hM ⟨hB0, hB1, hB2, hB3, hB4, hB5⟩ hwf) ⟨callB_of 0 hts (fs_gin co_M_playAll) rfl rfl rfl (hT _ ini_M) (hT _ ml_M_147) (by decide +kernel) ⟨Nat.le_of_ble_eq_true rfl, Nat.le_of_ble_eq_true rfl⟩, hT _ im_M_playAll, hT _ se_M_playAll⟩ (fn_preV fs_isnw hK hN hW hM.1 rfl) rfl rfl hl.1 rfl (lv_room (Nat.le_of_ble_eq_true rfl)) dM_run_21 ⟨Nat.le_of_ble_eq_true rfl, Nat.le_of_ble_eq_true rfl⟩) hW (fun M_8 H locs hp_9 hW => ?_)
    obtain ⟨si3, sl3, ia3, la3, hM, hMf3, hpo, hP⟩ := hp_9
    have hMf := fs_Mf_t hMf hMf3
    obtain ⟨-, hL⟩ := hRP.2 _ _ _ hP
    refine lv_lconst (v := 0) hx hb dM_run_24 (by decide) ?_
    refine lv_lstore (lv' := [(5, .long 0), (0, .ref b), (1, .long fa), (3, .long tl)]) hx hb dM_run_25 hl (by decide) rfl (fun ls hl => ?_)
    refine lv_iconst (v := 0) hx hb dM_run_27 (by decide) ?_
    refine lv_istore (lv' := [(7, .int 0), (5, .long 0), (0, .ref b), (1, .long fa), (3, .long tl)]) hx hb dM_run_28 hl (by decide) rfl (fun ls hl => ?_)
    refine fm_loop (head := 30) (maxL := 8) (cn 2) (fun i (u : Int64) M1 => M1 = M_8 ∧ u = fs_rn lc lr tl i) (fun i (u : Int64) => [(7, .int (nI i)), (0, .ref b), (1, .long fa), (3, .long tl), (5, .long u)]) ?_ ?_ (cn 2) 0 (Nat.zero_add _) 0 M_8 _ _ ls ⟨rfl, rfl⟩ hW (lv_sub hl [0, 2, 3, 4, 1] rfl)
    · intro i u M_10 H locs ls hi hI hW hl back
      have hl : lv_has ls 8 [(7, .int (nI i)), (0, .ref b), (1, .long fa), (3, .long tl), (5, .long u)] := hl
      have hW : fm_W D fs_cl5 A M_8 s.heap H locs := by rw [← hI.1]; exact hW
      refine lv_iload hx hb dM_run_30 (lv_at hl 0 rfl) ?_
      refine lv_aload_n hx hb dM_run_32 rfl (lv_at hl 1 rfl) ?_
      refine fm_get (ci := 4) (v := .int (nI (cn 2))) (C := RM) (T := TM) (N := 30) hx hb hT inM hown hK hW hM.1 rfl 3 (by decide) (hT _ fl_M_74) (fun _ h9 => h9) rfl dM_run_33 ?_
      refine lv_icmp_ge (tgt := 74) hx hb dM_run_36 (by decide) (fun c_11 => ?_) (fun c_11 => ?_)
      · exact absurd c_11 (nI_ge hi (by omega))
      · refine lv_lload hx hb dM_run_39 (lv_at hl 4 rfl) ?_
        refine lv_aload_n hx hb dM_run_41 rfl (lv_at hl 1 rfl) ?_
        refine fm_get (ci := 4) (v := .ref (b + 12)) (C := RM) (T := TM) (N := 30) hx hb hT inM hown hK hW hM.1 rfl 17 (by decide) (hT _ fl_M_44) (fun _ h9 => h9) rfl dM_run_42 ?_
        refine lv_iload hx hb dM_run_45 (lv_at hl 0 rfl) ?_
        refine fn_iald (n := 60) (f := ia3 12) hx hb hK hW 0 (hM.2.1 12 rfl) rfl (show i < 60 by omega) (by decide) dM_run_47 ?_
        refine lv_aload_n hx hb dM_run_48 rfl (lv_at hl 1 rfl) ?_
        refine fm_get (ci := 4) (v := .ref (b + 13)) (C := RM) (T := TM) (N := 30) hx hb hT inM hown hK hW hM.1 rfl 18 (by decide) (hT _ fl_M_47) (fun _ h9 => h9) rfl dM_run_49 ?_
        refine lv_iload hx hb dM_run_52 (lv_at hl 0 rfl) ?_
        refine fn_lald (n := 60) (f := la3 13) hx hb hK hW 1 (hM.2.2.1 13 rfl) rfl (show i < 60 by omega) (by decide) dM_run_54 ?_
        refine lv_lload_n hx hb dM_run_55 rfl (lv_at hl 3 rfl) ?_
        refine lv_land hx hb dM_run_56 ?_
        refine fm_calli (va_runS (As := [.long (((la3 13) i) &&& tl)]) (rest := [.int ((ia3 12) i), .long u]) ⟨hx, hb, hml, hown, hts⟩ (c_M_parity l D ct A M_8 (((la3 13) i) &&& tl)) ⟨callB_of 1 hts (fs_gin co_M_parity) rfl rfl rfl (hT _ ini_M) (hT _ ml_M_162) (by decide +kernel) ⟨Nat.le_of_ble_eq_true rfl, Nat.le_of_ble_eq_true rfl⟩, hT _ st_M_parity⟩ (fn_pre fs_isnw hK hN hW) rfl rfl hl.1 rfl (lv_room (Nat.le_of_ble_eq_true rfl)) dM_run_57 ⟨Nat.le_of_ble_eq_true rfl, Nat.le_of_ble_eq_true rfl⟩) hW (fun r_12 M_13 H locs hp_14 hW => ?_)
        have hW : fm_W D fs_cl5 A M_8 s.heap H locs := by rw [← hp_14.2]; exact hW
        have er_12 := hp_14.1
        refine lv_ixor hx hb dM_run_60 ?_
        refine lv_i2l (v := (((ia3 12) i) ^^^ r_12).toInt64) hx hb dM_run_61 rfl ?_
        refine lv_iload hx hb dM_run_62 (lv_at hl 0 rfl) ?_
        refine lv_lshl (v := ((((ia3 12) i) ^^^ r_12).toInt64) <<< ((nI i).toInt64 &&& 63)) hx hb dM_run_64 rfl ?_
        refine lv_lor hx hb dM_run_65 ?_
        refine lv_topl (fun x_15 ex_15 => ?_)
        refine lv_lstore (lv' := [(5, .long x_15), (7, .int (nI i)), (0, .ref b), (1, .long fa), (3, .long tl)]) hx hb dM_run_66 hl (by decide) rfl (fun ls hl => ?_)
        refine lv_iinc (v := nI (i + 1)) (lv' := [(7, .int (nI (i + 1))), (5, .long x_15), (0, .ref b), (1, .long fa), (3, .long tl)]) hx hb dM_run_68 hl (k := 1) rfl (nI_1 i) (by decide) rfl (fun ls hl => ?_)
        refine lv_goto (tgt := 30) hx hb dM_run_71 (by decide) ?_
        exact back x_15 _ _ _ ls ⟨rfl, by rw [ex_15, hI.2, er_12, (hL i hi).1, (hL i hi).2, ← fs_pa_class]; rfl⟩ hW (lv_sub hl [0, 2, 3, 4, 1] rfl)
    · intro u M_16 H locs ls hI hW hl
      have hl : lv_has ls 8 [(7, .int (nI (cn 2))), (0, .ref b), (1, .long fa), (3, .long tl), (5, .long u)] := hl
      have hW : fm_W D fs_cl5 A M_8 s.heap H locs := by rw [← hI.1]; exact hW
      refine lv_iload hx hb dM_run_30 (lv_at hl 0 rfl) ?_
      refine lv_aload_n hx hb dM_run_32 rfl (lv_at hl 1 rfl) ?_
      refine fm_get (ci := 4) (v := .int (nI (cn 2))) (C := RM) (T := TM) (N := 30) hx hb hT inM hown hK hW hM.1 rfl 3 (by decide) (hT _ fl_M_74) (fun _ h9 => h9) rfl dM_run_33 ?_
      refine lv_icmp_ge (tgt := 74) hx hb dM_run_36 (by decide) (fun c_17 => ?_) (fun c_17 => ?_)
      · refine lv_iconst (v := 0) hx hb dM_run_74 (by decide) ?_
        refine lv_istore (lv' := [(7, .int 0), (0, .ref b), (1, .long fa), (3, .long tl), (5, .long u)]) hx hb dM_run_75 hl (by decide) rfl (fun ls hl => ?_)
        have hz : u = fs_rn lc lr tl (cn 2) := hI.2
        refine fm_loop (head := 77) (maxL := 8) (cn 3) (fun i (u2 : Int64 × (Nat → Int32) × (Nat → Int64)) M1 => fs_MW ct M1 b cn u2.2.1 u2.2.2 ia3 la3 ∧ fs_Mf b M M1 ∧ u2.2.1 0 = si3 0 ∧ u2.1 = fs_rx cl fa (fs_rn lc lr tl (cn 2)) i) (fun i (u2 : Int64 × (Nat → Int32) × (Nat → Int64)) => [(7, .int (nI i)), (0, .ref b), (1, .long fa), (5, .long u2.1)]) ?_ ?_ (cn 3) 0 (Nat.zero_add _) (u, si3, sl3) M_8 _ _ ls ⟨hM, hMf, rfl, hz⟩ hW (lv_sub hl [0, 1, 2, 4] rfl)
        · intro i u2 M_18 H locs ls hi2 hI2 hW hl back2
          have hl : lv_has ls 8 [(7, .int (nI i)), (0, .ref b), (1, .long fa), (5, .long u2.1)] := hl
          obtain ⟨v, si4, sl4⟩ := u2
          obtain ⟨hM, hMf, h04, hU⟩ := hI2
          have hM : fs_MW ct M_18 b cn si4 sl4 ia3 la3 := hM
          have h04 : si4 0 = si3 0 := h04
          have hU : v = fs_rx cl fa (fs_rn lc lr tl (cn 2)) i := hU
          have hl : lv_has ls 8 [(7, .int (nI i)), (0, .ref b), (1, .long fa), (5, .long v)] := hl
          refine lv_iload hx hb dM_run_77 (lv_at hl 0 rfl) ?_
          refine lv_aload_n hx hb dM_run_79 rfl (lv_at hl 1 rfl) ?_
          refine fm_get (ci := 4) (v := .int (nI (cn 3))) (C := RM) (T := TM) (N := 30) hx hb hT inM hown hK hW hM.1 rfl 4 (by decide) (hT _ fl_M_77) (fun _ h9 => h9) rfl dM_run_80 ?_
          refine lv_icmp_ge (tgt := 114) hx hb dM_run_83 (by decide) (fun c_19 => ?_) (fun c_19 => ?_)
          · exact absurd c_19 (nI_ge hi2 (by omega))
          · refine lv_lload_n hx hb dM_run_86 rfl (lv_at hl 2 rfl) ?_
            refine lv_iload hx hb dM_run_87 (lv_at hl 0 rfl) ?_
            refine lv_lshr (v := fa >>> ((nI i).toInt64 &&& 63)) hx hb dM_run_89 rfl ?_
            refine lv_lconst (v := 1) hx hb dM_run_90 (by decide) ?_
            refine lv_land hx hb dM_run_91 ?_
            refine lv_lconst (v := 1) hx hb dM_run_92 (by decide) ?_
            refine W.lcmp hx hb dM_run_93 ?_
            refine lv_if_ne (tgt := 108) hx hb dM_run_94 (by decide) (fun c_20 => ?_) (fun c_20 => ?_)
            · have hbit : bl fa i = false := fs_ndt _ (fun z => c_20 ((lg_cmp_eq _ _).mpr (by rw [fs_onSL (by omega), z]; rfl)))
              refine lv_iinc (v := nI (i + 1)) (lv' := [(7, .int (nI (i + 1))), (0, .ref b), (1, .long fa), (5, .long v)]) hx hb dM_run_108 hl (k := 0) rfl (nI_1 i) (by decide) rfl (fun ls hl => ?_)
              refine lv_goto (tgt := 77) hx hb dM_run_111 (by decide) ?_
              exact back2 (v, si4, sl4) _ _ _ ls ⟨hM, hMf, h04, hU.trans (if_neg (by rw [hbit]; decide)).symm⟩ hW (lv_sub hl [0, 1, 2, 3] rfl)
            · have hbit : bl fa i = true := (fs_bL_eq1 _).mp ((fs_onSL (by omega) _).symm.trans ((lg_cmp_eq _ _).mp c_20))
              refine lv_lload hx hb dM_run_97 (lv_at hl 3 rfl) ?_
              refine lv_aload_n hx hb dM_run_99 rfl (lv_at hl 1 rfl) ?_
              refine lv_iload hx hb dM_run_100 (lv_at hl 0 rfl) ?_
              refine fm_calll (va_runV (As := [.int (nI i)]) (rest := [.long v]) ⟨hx, hb, hml, hown, hts⟩ (c_M_changedBy l D ct A M_18 b cn si4 sl4 ia3 la3 i (cl i) hM ⟨hB0, hB1, hB2, hB3, hB4, hB5⟩ hi2 (fs_fq_po hpo (hF i hi2).1)) ⟨callB_of 1 hts (fs_gin co_M_changedBy) rfl rfl rfl (hT _ ini_M) (hT _ ml_M_166) (by decide +kernel) ⟨Nat.le_of_ble_eq_true rfl, Nat.le_of_ble_eq_true rfl⟩, hT _ im_M_changedBy, hT _ se_M_changedBy⟩ (fn_preV fs_isnw hK hN hW hM.1 rfl) rfl rfl hl.1 rfl (lv_room (Nat.le_of_ble_eq_true rfl)) dM_run_102 ⟨Nat.le_of_ble_eq_true rfl, Nat.le_of_ble_eq_true rfl⟩) hW (fun r_21 M_22 H locs hp_23 hW => ?_)
              obtain ⟨er_21, sit_24, slt_24, hM, hMf3, hskt_24⟩ := hp_23
              have hMf := fs_Mf_t hMf hMf3
              refine lv_lxor hx hb dM_run_105 ?_
              refine lv_topl (fun x_25 ex_25 => ?_)
              refine lv_lstore (lv' := [(5, .long x_25), (7, .int (nI i)), (0, .ref b), (1, .long fa)]) hx hb dM_run_106 hl (by decide) rfl (fun ls hl => ?_)
              refine lv_iinc (v := nI (i + 1)) (lv' := [(7, .int (nI (i + 1))), (5, .long x_25), (0, .ref b), (1, .long fa)]) hx hb dM_run_108 hl (k := 1) rfl (nI_1 i) (by decide) rfl (fun ls hl => ?_)
              refine lv_goto (tgt := 77) hx hb dM_run_111 (by decide) ?_
              exact back2 (x_25, _, _) _ _ _ ls ⟨hM, hMf, hskt_24.1.trans h04, by show x_25 = _; rw [ex_25, er_21, hU]; exact (if_pos hbit).symm⟩ hW (lv_sub hl [0, 2, 3, 1] rfl)
        · intro u2 M_26 H locs ls hI2 hW hl
          have hl : lv_has ls 8 [(7, .int (nI (cn 3))), (0, .ref b), (1, .long fa), (5, .long u2.1)] := hl
          obtain ⟨v, si4, sl4⟩ := u2
          obtain ⟨hM, hMf, h04, hU⟩ := hI2
          have hM : fs_MW ct M_26 b cn si4 sl4 ia3 la3 := hM
          have h04 : si4 0 = si3 0 := h04
          have hU : v = fs_rx cl fa (fs_rn lc lr tl (cn 2)) (cn 3) := hU
          have hl : lv_has ls 8 [(7, .int (nI (cn 3))), (0, .ref b), (1, .long fa), (5, .long v)] := hl
          refine lv_iload hx hb dM_run_77 (lv_at hl 0 rfl) ?_
          refine lv_aload_n hx hb dM_run_79 rfl (lv_at hl 1 rfl) ?_
          refine fm_get (ci := 4) (v := .int (nI (cn 3))) (C := RM) (T := TM) (N := 30) hx hb hT inM hown hK hW hM.1 rfl 4 (by decide) (hT _ fl_M_77) (fun _ h9 => h9) rfl dM_run_80 ?_
          refine lv_icmp_ge (tgt := 114) hx hb dM_run_83 (by decide) (fun c_27 => ?_) (fun c_27 => ?_)
          · refine lv_lload hx hb dM_run_114 (lv_at hl 3 rfl) ?_
            exact fm_lret hx hb hr hlocks hW ⟨by rw [if_pos hok]; exact hU, _, _, _, _, hM, hMf, ⟨hpo.1, hpo.2.1, h04.trans hpo.2.2⟩⟩ dM_run_116
          · exact absurd (nI_le (Nat.le_refl (cn 3)) (by omega)) c_27
      · exact absurd (nI_le (Nat.le_refl (cn 2)) (by omega)) c_17
  · refine lv_ldc2 hx hb hown (hT _ cn_M_145) dM_run_16 ?_
    have hbad : ¬ fs_ushl fa (nI (cn 3)) = 0 := fun z => (fs_if1 er_3).1 c_6 ((fs_isSet (by omega) fa).mpr ((fs_lt_ushr (by omega) fa).mp z))
    exact fm_lret hx hb hr hlocks hW ⟨(if_neg hbad).symm, _, _, _, _, hM, hMf, fs_po_r⟩ dM_run_19
set_option maxHeartbeats 4000000 in
set_option maxRecDepth 100000 in
theorem c_M_findEdges (l : Launch) (D : va_G) (ct : Nat → ClassId) (A : Nat → Prop) (M : fm_M) (b : Nat) (cn : Nat → Nat) (si : Nat → Int32) (sl : Nat → Int64) (ia : Nat → Nat → Int32) (la : Nat → Nat → Int64) (cl : Nat → Int64) (ck : Nat → Int32) (hM : fs_MW ct M b cn si sl ia la) (hB : fs_Bd cn) (hF : ∀ f, f < cn 3 → fs_fq cn ia f (cl f) ∧ ck f = fs_ck (la 7) (cl f) (cn 4)) : Met l yM_findEdges wM_findEdges ({ frames := 3, cells := 0, slots := 0, locals := 69 }) (va_Pc [.ref b] (fm_St D fs_cl5 (fs_tys ct) fs_nw A M)) (va_Qv (fun (M1 : fm_M) => ∃ (si2 : Nat → Int32) (sl2 : Nat → Int64) (ia2 : Nat → Nat → Int32) (la2 : Nat → Nat → Int64), fs_MW ct M1 b cn si2 sl2 ia2 la2 ∧ fs_Mf b M M1 ∧ fs_po si ia la si2 ia2 la2 ∧ si2 27 = nI (fs_ce ck (cn 3)) ∧ fs_Ed ck (cn 3) (ia2 15) (la2 16)) (fm_B D fs_cl5 A) A) 0 0 A := by
  refine Met.ofW (cc := cM_findEdges) (maxL := 4) (ret := none) (by decide) rfl ?_
  intro p e s m args below meth c s₁ B hml hv
  obtain ⟨rfl, hP0, hA0, hA1, hK, hN⟩ := hv
  have hx := B.exec
  have hb := B.bytes
  have hr := B.returns
  have hts := atoms_spec (ws := wM_findEdges) B.pre
  have hT : ∀ w ∈ fs_tb, w.before _ s = true := fun w h => hts w (List.mem_cons_of_mem _ h)
  have hown : s.vm.findClass "FrameSamplesModel" = some m.cls := findClass_of_methodNamed B.named
  have hlocks := B.notSynchronized
  have hW : fm_W D fs_cl5 A M s.heap s.heap [] := ⟨hP0, hA0, va_S.rf, hA1⟩
  have hl := lv_entry ([.ref b]) (n := 4) (Nat.le_of_ble_eq_true rfl)
  rw [lg_entry_eq]
  generalize (lg_sl ([.ref b]) ++ List.replicate (4 - (lg_sl ([.ref b])).length) Slot.unset).toArray = ls at hl ⊢
  have hl : lv_has ls 4 [(0, .ref b)] := hl
  obtain ⟨hB0, hB1, hB2, hB3, hB4, hB5⟩ := hB
  have hMf : fs_Mf b M M := fs_Mf_r
  refine lv_aload_n hx hb dM_findEdges_0 rfl (lv_at hl 0 rfl) ?_
  refine lv_iconst (v := 0) hx hb dM_findEdges_1 (by decide) ?_
  refine fm_put (ci := 4) (v := .int 0) (ty := .int) (C := RM) (T := TM) (N := 30) hx hb hT inM tyM tkM nmM hown hK hW hM.1 rfl 27 (by decide) (hT _ fl_M_173) (fun _ h9 => h9) rfl (by decide +kernel) rfl rfl (Nat.le_of_ble_eq_true rfl) dM_findEdges_2 (fun H locs hW => ?_)
  obtain ⟨M_1, eM_1⟩ : ∃ z : fm_M, z = va_up M b (some (.inr (4, [.int (si 0), .int (nI (cn 0)), .int (nI (cn 1)), .int (nI (cn 2)), .int (nI (cn 3)), .int (nI (cn 4)), .ref (b + 1), .ref (b + 2), .ref (b + 3), .ref (b + 4), .ref (b + 5), .ref (b + 6), .ref (b + 7), .ref (b + 8), .ref (b + 9), .ref (b + 10), .ref (b + 11), .ref (b + 12), .ref (b + 13), .ref (b + 14), .int (si 20), .int (si 21), .int (si 22), .long (sl 23), .int (si 24), .int (si 25), .long (sl 26), .int 0, .ref (b + 15), .ref (b + 16)]))) := ⟨_, rfl⟩
  have hW : fm_W D fs_cl5 A M_1 s.heap H locs := by rw [eM_1]; exact hW
  have f_2 : M_1 b = some (.inr (4, [.int (si 0), .int (nI (cn 0)), .int (nI (cn 1)), .int (nI (cn 2)), .int (nI (cn 3)), .int (nI (cn 4)), .ref (b + 1), .ref (b + 2), .ref (b + 3), .ref (b + 4), .ref (b + 5), .ref (b + 6), .ref (b + 7), .ref (b + 8), .ref (b + 9), .ref (b + 10), .ref (b + 11), .ref (b + 12), .ref (b + 13), .ref (b + 14), .int (si 20), .int (si 21), .int (si 22), .long (sl 23), .int (si 24), .int (si 25), .long (sl 26), .int 0, .ref (b + 15), .ref (b + 16)])) := by rw [eM_1]; exact fm_us
  have hM : fs_MW ct M_1 b cn (va_up si 27 0) sl ia la := by rw [eM_1]; exact fs_MW_o hM cn (va_up si 27 0) sl
  have hMf : fs_Mf b M M_1 := by rw [eM_1]; exact fs_Mf_u hMf (by omega) _
  refine lv_iconst (v := 0) hx hb dM_findEdges_5 (by decide) ?_
  refine lv_istore_n (lv' := [(1, .int 0), (0, .ref b)]) hx hb dM_findEdges_6 rfl hl (by decide) rfl (fun ls hl => ?_)
  refine fm_loop (head := 7) (maxL := 4) (cn 3) (fun i (u : (Nat → Int32) × (Nat → Int64) × (Nat → Nat → Int32) × (Nat → Nat → Int64)) M1 => fs_MW ct M1 b cn u.1 u.2.1 u.2.2.1 u.2.2.2 ∧ fs_Mf b M M1 ∧ fs_po si ia la u.1 u.2.2.1 u.2.2.2 ∧ u.1 27 = nI (fs_ce ck i) ∧ fs_Ed ck i (u.2.2.1 15) (u.2.2.2 16)) (fun i (u : (Nat → Int32) × (Nat → Int64) × (Nat → Nat → Int32) × (Nat → Nat → Int64)) => [(1, .int (nI i)), (0, .ref b)]) ?_ ?_ (cn 3) 0 (Nat.zero_add _) (_, sl, ia, la) M_1 _ _ ls ⟨hM, hMf, ⟨fun _ _ => rfl, rfl, rfl⟩, rfl, fs_Ed_0 _ _ _⟩ hW (lv_sub hl [0, 1] rfl)
  · intro i u M_3 H locs ls hi hI hW hl back
    have hl : lv_has ls 4 [(1, .int (nI i)), (0, .ref b)] := hl
    obtain ⟨si1, sl1, ia1, la1⟩ := u
    obtain ⟨hM, hMf, hpo, h27, hE⟩ := hI
    have hM : fs_MW ct M_3 b cn si1 sl1 ia1 la1 := hM
    have hpo : fs_po si ia la si1 ia1 la1 := hpo
    have h27 : si1 27 = nI (fs_ce ck i) := h27
    have hE : fs_Ed ck i (ia1 15) (la1 16) := hE
    refine lv_iload_n hx hb dM_findEdges_7 rfl (lv_at hl 0 rfl) ?_
    refine lv_aload_n hx hb dM_findEdges_8 rfl (lv_at hl 1 rfl) ?_
    refine fm_get (ci := 4) (v := .int (nI (cn 3))) (C := RM) (T := TM) (N := 30) hx hb hT inM hown hK hW hM.1 rfl 4 (by decide) (hT _ fl_M_77) (fun _ h9 => h9) rfl dM_findEdges_9 ?_
    refine lv_icmp_ge (tgt := 108) hx hb dM_findEdges_12 (by decide) (fun c_4 => ?_) (fun c_4 => ?_)
    · exact absurd c_4 (nI_ge hi (by omega))
    · refine lv_aload_n hx hb dM_findEdges_15 rfl (lv_at hl 1 rfl) ?_
      refine lv_aload_n hx hb dM_findEdges_16 rfl (lv_at hl 1 rfl) ?_
      refine lv_iload_n hx hb dM_findEdges_17 rfl (lv_at hl 0 rfl) ?_
      refine fm_calll (va_runV (As := [.int (nI i)]) (rest := [.ref b]) ⟨hx, hb, hml, hown, hts⟩ (c_M_changedBy l D ct A M_3 b cn si1 sl1 ia1 la1 i (cl i) hM ⟨hB0, hB1, hB2, hB3, hB4, hB5⟩ hi (fs_fq_po hpo (hF i hi).1)) ⟨callB_of 1 hts (fs_gin co_M_changedBy) rfl rfl rfl (hT _ ini_M) (hT _ ml_M_166) (by decide +kernel) ⟨Nat.le_of_ble_eq_true rfl, Nat.le_of_ble_eq_true rfl⟩, hT _ im_M_changedBy, hT _ se_M_changedBy⟩ (fn_preV fs_isnw hK hN hW hM.1 rfl) rfl rfl hl.1 rfl (lv_room (Nat.le_of_ble_eq_true rfl)) dM_findEdges_18 ⟨Nat.le_of_ble_eq_true rfl, Nat.le_of_ble_eq_true rfl⟩) hW (fun r_5 M_6 H locs hp_7 hW => ?_)
      obtain ⟨er_5, sit_8, slt_8, hM, hMf3, hskt_8⟩ := hp_7
      have hMf := fs_Mf_t hMf hMf3
      refine fm_calli (va_runV (As := [.long r_5]) (rest := []) ⟨hx, hb, hml, hown, hts⟩ (c_M_checksOf l D ct A M_6 b cn sit_8 slt_8 ia1 la1 r_5 hM ⟨hB0, hB1, hB2, hB3, hB4, hB5⟩) ⟨callB_of 1 hts (fs_gin co_M_checksOf) rfl rfl rfl (hT _ ini_M) (hT _ ml_M_170) (by decide +kernel) ⟨Nat.le_of_ble_eq_true rfl, Nat.le_of_ble_eq_true rfl⟩, hT _ im_M_checksOf, hT _ se_M_checksOf⟩ (fn_preV fs_isnw hK hN hW hM.1 rfl) rfl rfl hl.1 rfl (lv_room (Nat.le_of_ble_eq_true rfl)) dM_findEdges_21 ⟨Nat.le_of_ble_eq_true rfl, Nat.le_of_ble_eq_true rfl⟩) hW (fun r_9 M_10 H locs hp_11 hW => ?_)
      have hW : fm_W D fs_cl5 A M_6 s.heap H locs := by rw [← hp_11.2]; exact hW
      have hst : r_9 = ck i := by rw [hp_11.1, er_5, hpo.2.1, (hF i hi).2]
      have h27b : sit_8 27 = nI (fs_ce ck i) := hskt_8.2.trans h27
      have hpo2 : fs_po si ia la sit_8 ia1 la1 := ⟨hpo.1, hpo.2.1, hskt_8.1.trans hpo.2.2⟩
      have hce : fs_ce ck i ≤ i := fs_ce_le ck i
      refine lv_istore_n (lv' := [(2, .int r_9), (1, .int (nI i)), (0, .ref b)]) hx hb dM_findEdges_24 rfl hl (by decide) rfl (fun ls hl => ?_)
      refine lv_iload_n hx hb dM_findEdges_25 rfl (lv_at hl 0 rfl) ?_
      refine lv_if_ne (tgt := 32) hx hb dM_findEdges_26 (by decide) (fun c_12 => ?_) (fun c_12 => ?_)
      · refine lv_iconst (v := 0) hx hb dM_findEdges_32 (by decide) ?_
        refine lv_istore_n (lv' := [(3, .int 0), (2, .int r_9), (1, .int (nI i)), (0, .ref b)]) hx hb dM_findEdges_33 rfl hl (by decide) rfl (fun ls hl => ?_)
        have h0 : ck i ≠ 0 := fun z => c_12 (hst.trans z)
        refine fm_loop (head := 34) (maxL := 4) (fs_ce ck i) (fun ε (ue : Unit) M1 => M1 = M_6 ∧ ∀ q, q < ε → ia1 15 q ≠ ck i) (fun ε (ue : Unit) => [(3, .int (nI ε)), (2, .int r_9), (1, .int (nI i)), (0, .ref b)]) ?_ ?_ (fs_ce ck i) 0 (Nat.zero_add _) () M_6 _ _ ls ⟨rfl, fun q hq => absurd hq (Nat.not_lt_zero q)⟩ hW (lv_sub hl [0, 1, 2, 3] rfl)
        · intro ε ue M_13 H locs ls hie hIe hW hl backe
          have hl : lv_has ls 4 [(3, .int (nI ε)), (2, .int r_9), (1, .int (nI i)), (0, .ref b)] := hl
          have hW : fm_W D fs_cl5 A M_6 s.heap H locs := by rw [← hIe.1]; exact hW
          have hs := hIe.2
          refine lv_iload_n hx hb dM_findEdges_34 rfl (lv_at hl 0 rfl) ?_
          refine lv_aload_n hx hb dM_findEdges_35 rfl (lv_at hl 3 rfl) ?_
          refine fm_get (ci := 4) (v := .int (sit_8 27)) (C := RM) (T := TM) (N := 30) hx hb hT inM hown hK hW hM.1 rfl 27 (by decide) (hT _ fl_M_173) (fun _ h9 => h9) rfl dM_findEdges_36 ?_
          rw [show sit_8 27 = nI (fs_ce ck i) from h27b]
          refine lv_icmp_ge (tgt := 58) hx hb dM_findEdges_39 (by decide) (fun c_14 => ?_) (fun c_14 => ?_)
          · exact absurd c_14 (nI_ge hie (by omega))
          · refine lv_aload_n hx hb dM_findEdges_42 rfl (lv_at hl 3 rfl) ?_
            refine fm_get (ci := 4) (v := .ref (b + 15)) (C := RM) (T := TM) (N := 30) hx hb hT inM hown hK hW hM.1 rfl 28 (by decide) (hT _ fl_M_54) (fun _ h9 => h9) rfl dM_findEdges_43 ?_
            refine lv_iload_n hx hb dM_findEdges_46 rfl (lv_at hl 0 rfl) ?_
            refine fn_iald (n := 40) (f := ia1 15) hx hb hK hW 0 (hM.2.1 15 rfl) rfl (show ε < 40 by omega) (by decide) dM_findEdges_47 ?_
            refine lv_iload_n hx hb dM_findEdges_48 rfl (lv_at hl 1 rfl) ?_
            refine lv_icmp_eq (tgt := 58) hx hb dM_findEdges_49 (by decide) (fun c_15 => ?_) (fun c_15 => ?_)
            · have hfe : ia1 15 ε = ck i := c_15.trans hst
              refine lv_iload_n hx hb dM_findEdges_58 rfl (lv_at hl 0 rfl) ?_
              refine lv_aload_n hx hb dM_findEdges_59 rfl (lv_at hl 3 rfl) ?_
              refine fm_get (ci := 4) (v := .int (sit_8 27)) (C := RM) (T := TM) (N := 30) hx hb hT inM hown hK hW hM.1 rfl 27 (by decide) (hT _ fl_M_173) (fun _ h9 => h9) rfl dM_findEdges_60 ?_
              rw [show sit_8 27 = nI (fs_ce ck i) from h27b]
              refine lv_icmp_ne (tgt := 90) hx hb dM_findEdges_63 (by decide) (fun c_16 => ?_) (fun c_16 => ?_)
              · refine lv_aload_n hx hb dM_findEdges_90 rfl (lv_at hl 3 rfl) ?_
                refine fm_get (ci := 4) (v := .ref (b + 16)) (C := RM) (T := TM) (N := 30) hx hb hT inM hown hK hW hM.1 rfl 29 (by decide) (hT _ fl_M_57) (fun _ h9 => h9) rfl dM_findEdges_91 ?_
                refine lv_iload_n hx hb dM_findEdges_94 rfl (lv_at hl 0 rfl) ?_
                refine lv_dup2_11 hx hb dM_findEdges_95 rfl rfl ?_
                refine fn_lald (n := 40) (f := la1 16) hx hb hK hW 1 (hM.2.2.1 16 rfl) rfl (show ε < 40 by omega) (by decide) dM_findEdges_96 ?_
                refine lv_lconst (v := 1) hx hb dM_findEdges_97 (by decide) ?_
                refine lv_iload_n hx hb dM_findEdges_98 rfl (lv_at hl 2 rfl) ?_
                refine lv_lshl (v := 1 <<< ((nI i).toInt64 &&& 63)) hx hb dM_findEdges_99 rfl ?_
                refine lv_lor hx hb dM_findEdges_100 ?_
                refine lv_topl (fun x_17 ex_17 => ?_)
                refine fn_last (n := 40) (f := la1 16) hx hb hK hW 1 (hM.2.2.1 16 rfl) rfl (show ε < 40 by omega) (by decide) dM_findEdges_101 (fun H locs hW => ?_)
                obtain ⟨M_18, eM_18⟩ : ∃ z : fm_M, z = va_up M_6 (b + 16) (some (.inl (ct 1, 40, .inr (.inl (vp_updL (la1 16) ε x_17))))) := ⟨_, rfl⟩
                have hW : fm_W D fs_cl5 A M_18 s.heap H locs := by rw [eM_18]; exact hW
                have hM : fs_MW ct M_18 b cn sit_8 slt_8 ia1 (va_up la1 16 (vp_updL (la1 16) ε x_17)) := by rw [eM_18]; exact fs_MW_l hM 16 rfl _
                have hMf : fs_Mf b M M_18 := by rw [eM_18]; exact fs_Mf_u hMf (by omega) _
                have hE2 := fs_Ed_old hE hie hfe
                rw [← ex_17] at hE2
                have hpo3 : fs_po si ia la sit_8 ia1 (va_up la1 16 (vp_updL (la1 16) ε x_17)) := ⟨hpo2.1, (fu_n (by decide)).trans hpo2.2.1, hpo2.2.2⟩
                refine lv_iinc (v := nI (i + 1)) (lv' := [(1, .int (nI (i + 1))), (3, .int (nI ε)), (2, .int r_9), (0, .ref b)]) hx hb dM_findEdges_102 hl (k := 2) rfl (nI_1 i) (by decide) rfl (fun ls hl => ?_)
                refine lv_goto (tgt := 7) hx hb dM_findEdges_105 (by decide) ?_
                exact back (sit_8, slt_8, ia1, va_up la1 16 (vp_updL (la1 16) ε x_17)) _ _ _ ls ⟨hM, hMf, hpo3, by rw [hE2.2]; exact h27b, hE2.1⟩ hW (lv_sub hl [0, 3] rfl)
              · exact absurd ((nI_eq (by omega) (by omega)).mp c_16) (Nat.ne_of_lt hie)
            · refine lv_iinc (v := nI (ε + 1)) (lv' := [(3, .int (nI (ε + 1))), (2, .int r_9), (1, .int (nI i)), (0, .ref b)]) hx hb dM_findEdges_52 hl (k := 0) rfl (nI_1 ε) (by decide) rfl (fun ls hl => ?_)
              refine lv_goto (tgt := 34) hx hb dM_findEdges_55 (by decide) ?_
              exact backe () _ _ _ ls ⟨rfl, fs_ls hs (fun z => c_15 (z.trans hst.symm))⟩ hW (lv_sub hl [0, 1, 2, 3] rfl)
        · intro ue M_19 H locs ls hIe hW hl
          have hl : lv_has ls 4 [(3, .int (nI (fs_ce ck i))), (2, .int r_9), (1, .int (nI i)), (0, .ref b)] := hl
          have hW : fm_W D fs_cl5 A M_6 s.heap H locs := by rw [← hIe.1]; exact hW
          have hs := hIe.2
          refine lv_iload_n hx hb dM_findEdges_34 rfl (lv_at hl 0 rfl) ?_
          refine lv_aload_n hx hb dM_findEdges_35 rfl (lv_at hl 3 rfl) ?_
          refine fm_get (ci := 4) (v := .int (sit_8 27)) (C := RM) (T := TM) (N := 30) hx hb hT inM hown hK hW hM.1 rfl 27 (by decide) (hT _ fl_M_173) (fun _ h9 => h9) rfl dM_findEdges_36 ?_
          rw [show sit_8 27 = nI (fs_ce ck i) from h27b]
          refine lv_icmp_ge (tgt := 58) hx hb dM_findEdges_39 (by decide) (fun c_20 => ?_) (fun c_20 => ?_)
          · refine lv_iload_n hx hb dM_findEdges_58 rfl (lv_at hl 0 rfl) ?_
            refine lv_aload_n hx hb dM_findEdges_59 rfl (lv_at hl 3 rfl) ?_
            refine fm_get (ci := 4) (v := .int (sit_8 27)) (C := RM) (T := TM) (N := 30) hx hb hT inM hown hK hW hM.1 rfl 27 (by decide) (hT _ fl_M_173) (fun _ h9 => h9) rfl dM_findEdges_60 ?_
            rw [show sit_8 27 = nI (fs_ce ck i) from h27b]
            refine lv_icmp_ne (tgt := 90) hx hb dM_findEdges_63 (by decide) (fun c_21 => ?_) (fun c_21 => ?_)
            · exact absurd rfl c_21
            · refine lv_aload_n hx hb dM_findEdges_66 rfl (lv_at hl 3 rfl) ?_
              refine fm_get (ci := 4) (v := .ref (b + 15)) (C := RM) (T := TM) (N := 30) hx hb hT inM hown hK hW hM.1 rfl 28 (by decide) (hT _ fl_M_54) (fun _ h9 => h9) rfl dM_findEdges_67 ?_
              refine lv_iload_n hx hb dM_findEdges_70 rfl (lv_at hl 0 rfl) ?_
              refine lv_iload_n hx hb dM_findEdges_71 rfl (lv_at hl 1 rfl) ?_
              refine fn_iast (n := 40) (f := ia1 15) hx hb hK hW 0 (hM.2.1 15 rfl) rfl (show (fs_ce ck i) < 40 by omega) (by decide) dM_findEdges_72 (fun H locs hW => ?_)
              obtain ⟨M_22, eM_22⟩ : ∃ z : fm_M, z = va_up M_6 (b + 15) (some (.inl (ct 0, 40, .inl (upd (ia1 15) (fs_ce ck i) r_9)))) := ⟨_, rfl⟩
              have hW : fm_W D fs_cl5 A M_22 s.heap H locs := by rw [eM_22]; exact hW
              have hM : fs_MW ct M_22 b cn sit_8 slt_8 (va_up ia1 15 (upd (ia1 15) (fs_ce ck i) r_9)) la1 := by rw [eM_22]; exact fs_MW_i hM 15 rfl _
              have hMf : fs_Mf b M M_22 := by rw [eM_22]; exact fs_Mf_u hMf (by omega) _
              refine lv_aload_n hx hb dM_findEdges_73 rfl (lv_at hl 3 rfl) ?_
              refine fm_get (ci := 4) (v := .ref (b + 16)) (C := RM) (T := TM) (N := 30) hx hb hT inM hown hK hW hM.1 rfl 29 (by decide) (hT _ fl_M_57) (fun _ h9 => h9) rfl dM_findEdges_74 ?_
              refine lv_iload_n hx hb dM_findEdges_77 rfl (lv_at hl 0 rfl) ?_
              refine lv_lconst (v := 0) hx hb dM_findEdges_78 (by decide) ?_
              refine fn_last (n := 40) (f := la1 16) hx hb hK hW 1 (hM.2.2.1 16 rfl) rfl (show (fs_ce ck i) < 40 by omega) (by decide) dM_findEdges_79 (fun H locs hW => ?_)
              obtain ⟨M_23, eM_23⟩ : ∃ z : fm_M, z = va_up M_22 (b + 16) (some (.inl (ct 1, 40, .inr (.inl (vp_updL (la1 16) (fs_ce ck i) 0))))) := ⟨_, rfl⟩
              have hW : fm_W D fs_cl5 A M_23 s.heap H locs := by rw [eM_23]; exact hW
              have hM : fs_MW ct M_23 b cn sit_8 slt_8 (va_up ia1 15 (upd (ia1 15) (fs_ce ck i) r_9)) (va_up la1 16 (vp_updL (la1 16) (fs_ce ck i) 0)) := by rw [eM_23]; exact fs_MW_l hM 16 rfl _
              have hMf : fs_Mf b M M_23 := by rw [eM_23]; exact fs_Mf_u hMf (by omega) _
              refine lv_aload_n hx hb dM_findEdges_80 rfl (lv_at hl 3 rfl) ?_
              refine lv_dup hx hb dM_findEdges_81 rfl ?_
              refine fm_get (ci := 4) (v := .int (sit_8 27)) (C := RM) (T := TM) (N := 30) hx hb hT inM hown hK hW hM.1 rfl 27 (by decide) (hT _ fl_M_173) (fun _ h9 => h9) rfl dM_findEdges_82 ?_
              refine lv_iconst (v := 1) hx hb dM_findEdges_85 (by decide) ?_
              refine lv_iadd hx hb dM_findEdges_86 ?_
              refine lv_topi (fun x_24 ex_24 => ?_)
              refine fm_put (ci := 4) (v := .int x_24) (ty := .int) (C := RM) (T := TM) (N := 30) hx hb hT inM tyM tkM nmM hown hK hW hM.1 rfl 27 (by decide) (hT _ fl_M_173) (fun _ h9 => h9) rfl (by decide +kernel) rfl rfl (Nat.le_of_ble_eq_true rfl) dM_findEdges_87 (fun H locs hW => ?_)
              obtain ⟨M_25, eM_25⟩ : ∃ z : fm_M, z = va_up M_23 b (some (.inr (4, [.int (sit_8 0), .int (nI (cn 0)), .int (nI (cn 1)), .int (nI (cn 2)), .int (nI (cn 3)), .int (nI (cn 4)), .ref (b + 1), .ref (b + 2), .ref (b + 3), .ref (b + 4), .ref (b + 5), .ref (b + 6), .ref (b + 7), .ref (b + 8), .ref (b + 9), .ref (b + 10), .ref (b + 11), .ref (b + 12), .ref (b + 13), .ref (b + 14), .int (sit_8 20), .int (sit_8 21), .int (sit_8 22), .long (slt_8 23), .int (sit_8 24), .int (sit_8 25), .long (slt_8 26), .int x_24, .ref (b + 15), .ref (b + 16)]))) := ⟨_, rfl⟩
              have hW : fm_W D fs_cl5 A M_25 s.heap H locs := by rw [eM_25]; exact hW
              have f_26 : M_25 b = some (.inr (4, [.int (sit_8 0), .int (nI (cn 0)), .int (nI (cn 1)), .int (nI (cn 2)), .int (nI (cn 3)), .int (nI (cn 4)), .ref (b + 1), .ref (b + 2), .ref (b + 3), .ref (b + 4), .ref (b + 5), .ref (b + 6), .ref (b + 7), .ref (b + 8), .ref (b + 9), .ref (b + 10), .ref (b + 11), .ref (b + 12), .ref (b + 13), .ref (b + 14), .int (sit_8 20), .int (sit_8 21), .int (sit_8 22), .long (slt_8 23), .int (sit_8 24), .int (sit_8 25), .long (slt_8 26), .int x_24, .ref (b + 15), .ref (b + 16)])) := by rw [eM_25]; exact fm_us
              have hM : fs_MW ct M_25 b cn (va_up sit_8 27 x_24) slt_8 (va_up ia1 15 (upd (ia1 15) (fs_ce ck i) r_9)) (va_up la1 16 (vp_updL (la1 16) (fs_ce ck i) 0)) := by rw [eM_25]; exact fs_MW_o hM cn (va_up sit_8 27 x_24) slt_8
              have hMf : fs_Mf b M M_25 := by rw [eM_25]; exact fs_Mf_u hMf (by omega) _
              refine lv_aload_n hx hb dM_findEdges_90 rfl (lv_at hl 3 rfl) ?_
              refine fm_get (ci := 4) (v := .ref (b + 16)) (C := RM) (T := TM) (N := 30) hx hb hT inM hown hK hW f_26 rfl 29 (by decide) (hT _ fl_M_57) (fun _ h9 => h9) rfl dM_findEdges_91 ?_
              refine lv_iload_n hx hb dM_findEdges_94 rfl (lv_at hl 0 rfl) ?_
              refine lv_dup2_11 hx hb dM_findEdges_95 rfl rfl ?_
              refine fn_lald (n := 40) (f := vp_updL (la1 16) (fs_ce ck i) 0) hx hb hK hW 1 (hM.2.2.1 16 rfl) rfl (show (fs_ce ck i) < 40 by omega) (by decide) dM_findEdges_96 ?_
              refine lv_lconst (v := 1) hx hb dM_findEdges_97 (by decide) ?_
              refine lv_iload_n hx hb dM_findEdges_98 rfl (lv_at hl 2 rfl) ?_
              refine lv_lshl (v := 1 <<< ((nI i).toInt64 &&& 63)) hx hb dM_findEdges_99 rfl ?_
              refine lv_lor hx hb dM_findEdges_100 ?_
              refine lv_topl (fun x_27 ex_27 => ?_)
              refine fn_last (n := 40) (f := vp_updL (la1 16) (fs_ce ck i) 0) hx hb hK hW 1 (hM.2.2.1 16 rfl) rfl (show (fs_ce ck i) < 40 by omega) (by decide) dM_findEdges_101 (fun H locs hW => ?_)
              obtain ⟨M_28, eM_28⟩ : ∃ z : fm_M, z = va_up M_25 (b + 16) (some (.inl (ct 1, 40, .inr (.inl (vp_updL (vp_updL (la1 16) (fs_ce ck i) 0) (fs_ce ck i) x_27))))) := ⟨_, rfl⟩
              have hW : fm_W D fs_cl5 A M_28 s.heap H locs := by rw [eM_28]; exact hW
              have hM : fs_MW ct M_28 b cn (va_up sit_8 27 x_24) slt_8 (va_up ia1 15 (upd (ia1 15) (fs_ce ck i) r_9)) (va_up (va_up la1 16 (vp_updL (la1 16) (fs_ce ck i) 0)) 16 (vp_updL (vp_updL (la1 16) (fs_ce ck i) 0) (fs_ce ck i) x_27)) := by rw [eM_28]; exact fs_MW_l hM 16 rfl _
              have hMf : fs_Mf b M M_28 := by rw [eM_28]; exact fs_Mf_u hMf (by omega) _
              have hE2 := fs_Ed_new hE h0 hs
              have hx9 : x_27 = (0 : Int64) ||| (1 <<< ((nI i).toInt64 &&& 63)) := by rw [ex_27, pk_uLs]
              have h15 : (upd (ia1 15) (fs_ce ck i) r_9) = upd (ia1 15) (fs_ce ck i) (ck i) := by rw [hst]
              have h16 : (vp_updL (vp_updL (la1 16) (fs_ce ck i) 0) (fs_ce ck i) x_27) = vp_updL (la1 16) (fs_ce ck i) ((0 : Int64) ||| (1 <<< ((nI i).toInt64 &&& 63))) := by rw [fs_ulul, hx9]
              have hEn : fs_Ed ck (i + 1) ((va_up ia1 15 (upd (ia1 15) (fs_ce ck i) r_9)) 15) ((va_up (va_up la1 16 (vp_updL (la1 16) (fs_ce ck i) 0)) 16 (vp_updL (vp_updL (la1 16) (fs_ce ck i) 0) (fs_ce ck i) x_27)) 16) := by
                show fs_Ed ck (i + 1) (upd (ia1 15) (fs_ce ck i) r_9) (vp_updL (vp_updL (la1 16) (fs_ce ck i) 0) (fs_ce ck i) x_27)
                rw [h15, h16]; exact hE2.1
              have hpo3 : fs_po si ia la (va_up sit_8 27 x_24) (va_up ia1 15 (upd (ia1 15) (fs_ce ck i) r_9)) (va_up (va_up la1 16 (vp_updL (la1 16) (fs_ce ck i) 0)) 16 (vp_updL (vp_updL (la1 16) (fs_ce ck i) 0) (fs_ce ck i) x_27)) := ⟨fun k hk => (fu_n (by omega)).trans (hpo2.1 k hk), ((fu_n (by decide)).trans (fu_n (by decide))).trans hpo2.2.1, hpo2.2.2⟩
              refine lv_iinc (v := nI (i + 1)) (lv' := [(1, .int (nI (i + 1))), (3, .int (nI (fs_ce ck i))), (2, .int r_9), (0, .ref b)]) hx hb dM_findEdges_102 hl (k := 2) rfl (nI_1 i) (by decide) rfl (fun ls hl => ?_)
              refine lv_goto (tgt := 7) hx hb dM_findEdges_105 (by decide) ?_
              exact back (va_up sit_8 27 x_24, slt_8, va_up ia1 15 (upd (ia1 15) (fs_ce ck i) r_9), va_up (va_up la1 16 (vp_updL (la1 16) (fs_ce ck i) 0)) 16 (vp_updL (vp_updL (la1 16) (fs_ce ck i) 0) (fs_ce ck i) x_27)) _ _ _ ls ⟨hM, hMf, hpo3, by rw [hE2.2]; show x_24 = _; rw [ex_24, h27b]; exact nI_1 _, hEn⟩ hW (lv_sub hl [0, 3] rfl)
          · exact absurd (nI_le (Nat.le_refl (fs_ce ck i)) (by omega)) c_20
      · refine lv_goto (tgt := 102) hx hb dM_findEdges_29 (by decide) ?_
        have hE2 := fs_Ed_z hE (hst.symm.trans c_12)
        refine lv_iinc (v := nI (i + 1)) (lv' := [(1, .int (nI (i + 1))), (2, .int r_9), (0, .ref b)]) hx hb dM_findEdges_102 hl (k := 1) rfl (nI_1 i) (by decide) rfl (fun ls hl => ?_)
        refine lv_goto (tgt := 7) hx hb dM_findEdges_105 (by decide) ?_
        exact back (_, _, _, _) _ _ _ ls ⟨hM, hMf, hpo2, by rw [hE2.2]; exact h27b, hE2.1⟩ hW (lv_sub hl [0, 2] rfl)
  · intro u M_29 H locs ls hI hW hl
    have hl : lv_has ls 4 [(1, .int (nI (cn 3))), (0, .ref b)] := hl
    obtain ⟨si1, sl1, ia1, la1⟩ := u
    obtain ⟨hM, hMf, hpo, h27, hE⟩ := hI
    have hM : fs_MW ct M_29 b cn si1 sl1 ia1 la1 := hM
    have hpo : fs_po si ia la si1 ia1 la1 := hpo
    have h27 : si1 27 = nI (fs_ce ck (cn 3)) := h27
    have hE : fs_Ed ck (cn 3) (ia1 15) (la1 16) := hE
    refine lv_iload_n hx hb dM_findEdges_7 rfl (lv_at hl 0 rfl) ?_
    refine lv_aload_n hx hb dM_findEdges_8 rfl (lv_at hl 1 rfl) ?_
    refine fm_get (ci := 4) (v := .int (nI (cn 3))) (C := RM) (T := TM) (N := 30) hx hb hT inM hown hK hW hM.1 rfl 4 (by decide) (hT _ fl_M_77) (fun _ h9 => h9) rfl dM_findEdges_9 ?_
    refine lv_icmp_ge (tgt := 108) hx hb dM_findEdges_12 (by decide) (fun c_30 => ?_) (fun c_30 => ?_)
    · exact fm_vret hx hb hr hlocks hW ⟨_, _, _, _, hM, hMf, hpo, h27, hE⟩ dM_findEdges_108
    · exact absurd (nI_le (Nat.le_refl (cn 3)) (by omega)) c_30
set_option maxHeartbeats 4000000 in
set_option maxRecDepth 100000 in
theorem c_M_total (l : Launch) (D : va_G) (ct : Nat → ClassId) (A : Nat → Prop) (M : fm_M) (b : Nat) (cn : Nat → Nat) (si : Nat → Int32) (sl : Nat → Int64) (ia : Nat → Nat → Int32) (la : Nat → Nat → Int64) (cl : Nat → Int64) (ck : Nat → Int32) (wh : Int32) (hM : fs_MW ct M b cn si sl ia la) (hB : fs_Bd cn) (hF : ∀ f, f < cn 3 → fs_fq cn ia f (cl f) ∧ ck f = fs_ck (la 7) (cl f) (cn 4)) : Met l yM_total wM_total ({ frames := 4, cells := 0, slots := 0, locals := 92 }) (va_Pc [.ref b, .int wh] (fm_St D fs_cl5 (fs_tys ct) fs_nw A M)) (va_Qi (fun (r : Int32) (M1 : fm_M) => r = fs_to cn ck wh ∧ ∃ (si2 : Nat → Int32) (sl2 : Nat → Int64) (ia2 : Nat → Nat → Int32) (la2 : Nat → Nat → Int64), fs_MW ct M1 b cn si2 sl2 ia2 la2 ∧ fs_Mf b M M1 ∧ fs_po (va_up si 0 0) ia la si2 ia2 la2) (fm_B D fs_cl5 A) A) 0 0 A := by
  refine Met.ofW (cc := cM_total) (maxL := 2) (ret := (some .int)) (by decide) rfl ?_
  intro p e s m args below meth c s₁ B hml hv
  obtain ⟨rfl, hP0, hA0, hA1, hK, hN⟩ := hv
  have hx := B.exec
  have hb := B.bytes
  have hr := B.returns
  have hts := atoms_spec (ws := wM_total) B.pre
  have hT : ∀ w ∈ fs_tb, w.before _ s = true := fun w h => hts w (List.mem_cons_of_mem _ h)
  have hown : s.vm.findClass "FrameSamplesModel" = some m.cls := findClass_of_methodNamed B.named
  have hlocks := B.notSynchronized
  have hW : fm_W D fs_cl5 A M s.heap s.heap [] := ⟨hP0, hA0, va_S.rf, hA1⟩
  have hl := lv_entry ([.ref b, .int wh]) (n := 2) (Nat.le_of_ble_eq_true rfl)
  rw [lg_entry_eq]
  generalize (lg_sl ([.ref b, .int wh]) ++ List.replicate (2 - (lg_sl ([.ref b, .int wh])).length) Slot.unset).toArray = ls at hl ⊢
  have hl : lv_has ls 2 [(0, .ref b), (1, .int wh)] := hl
  obtain ⟨hB0, hB1, hB2, hB3, hB4, hB5⟩ := hB
  have hMf : fs_Mf b M M := fs_Mf_r
  refine lv_aload_n hx hb dM_total_0 rfl (lv_at hl 0 rfl) ?_
  refine lv_iconst (v := 0) hx hb dM_total_1 (by decide) ?_
  refine fm_put (ci := 4) (v := .int 0) (ty := .int) (C := RM) (T := TM) (N := 30) hx hb hT inM tyM tkM nmM hown hK hW hM.1 rfl 0 (by decide) (hT _ fl_M_64) (fun _ h9 => h9) rfl (by decide +kernel) rfl rfl (Nat.le_of_ble_eq_true rfl) dM_total_2 (fun H locs hW => ?_)
  obtain ⟨M_1, eM_1⟩ : ∃ z : fm_M, z = va_up M b (some (.inr (4, [.int 0, .int (nI (cn 0)), .int (nI (cn 1)), .int (nI (cn 2)), .int (nI (cn 3)), .int (nI (cn 4)), .ref (b + 1), .ref (b + 2), .ref (b + 3), .ref (b + 4), .ref (b + 5), .ref (b + 6), .ref (b + 7), .ref (b + 8), .ref (b + 9), .ref (b + 10), .ref (b + 11), .ref (b + 12), .ref (b + 13), .ref (b + 14), .int (si 20), .int (si 21), .int (si 22), .long (sl 23), .int (si 24), .int (si 25), .long (sl 26), .int (si 27), .ref (b + 15), .ref (b + 16)]))) := ⟨_, rfl⟩
  have hW : fm_W D fs_cl5 A M_1 s.heap H locs := by rw [eM_1]; exact hW
  have f_2 : M_1 b = some (.inr (4, [.int 0, .int (nI (cn 0)), .int (nI (cn 1)), .int (nI (cn 2)), .int (nI (cn 3)), .int (nI (cn 4)), .ref (b + 1), .ref (b + 2), .ref (b + 3), .ref (b + 4), .ref (b + 5), .ref (b + 6), .ref (b + 7), .ref (b + 8), .ref (b + 9), .ref (b + 10), .ref (b + 11), .ref (b + 12), .ref (b + 13), .ref (b + 14), .int (si 20), .int (si 21), .int (si 22), .long (sl 23), .int (si 24), .int (si 25), .long (sl 26), .int (si 27), .ref (b + 15), .ref (b + 16)])) := by rw [eM_1]; exact fm_us
  have hM : fs_MW ct M_1 b cn (va_up si 0 0) sl ia la := by rw [eM_1]; exact fs_MW_o hM cn (va_up si 0 0) sl
  have hMf : fs_Mf b M M_1 := by rw [eM_1]; exact fs_Mf_u hMf (by omega) _
  refine lv_iload_n hx hb dM_total_5 rfl (lv_at hl 1 rfl) ?_
  by_cases hk0 : wh = 0
  · subst hk0
    refine lv_tableIn (off := 38) (tgt := 44) hx hb dM_total_6 (by decide) (by decide) rfl (by decide) ?_
    refine lv_aload_n hx hb dM_total_44 rfl (lv_at hl 0 rfl) ?_
    refine fm_get (ci := 4) (v := .int (nI (cn 0))) (C := RM) (T := TM) (N := 30) hx hb hT inM hown hK hW f_2 rfl 1 (by decide) (hT _ fl_M_68) (fun _ h9 => h9) rfl dM_total_45 ?_
    exact fm_iret hx hb hr hlocks hW ⟨rfl, _, _, _, _, hM, hMf, fs_po_r⟩ dM_total_48
  by_cases hk1 : wh = 1
  · subst hk1
    refine lv_tableIn (off := 43) (tgt := 49) hx hb dM_total_6 (by decide) (by decide) rfl (by decide) ?_
    refine lv_aload_n hx hb dM_total_49 rfl (lv_at hl 0 rfl) ?_
    refine fm_get (ci := 4) (v := .int (nI (cn 1))) (C := RM) (T := TM) (N := 30) hx hb hT inM hown hK hW f_2 rfl 2 (by decide) (hT _ fl_M_71) (fun _ h9 => h9) rfl dM_total_50 ?_
    exact fm_iret hx hb hr hlocks hW ⟨rfl, _, _, _, _, hM, hMf, fs_po_r⟩ dM_total_53
  by_cases hk2 : wh = 2
  · subst hk2
    refine lv_tableIn (off := 48) (tgt := 54) hx hb dM_total_6 (by decide) (by decide) rfl (by decide) ?_
    refine lv_aload_n hx hb dM_total_54 rfl (lv_at hl 0 rfl) ?_
    refine fm_get (ci := 4) (v := .int (nI (cn 2))) (C := RM) (T := TM) (N := 30) hx hb hT inM hown hK hW f_2 rfl 3 (by decide) (hT _ fl_M_74) (fun _ h9 => h9) rfl dM_total_55 ?_
    exact fm_iret hx hb hr hlocks hW ⟨rfl, _, _, _, _, hM, hMf, fs_po_r⟩ dM_total_58
  by_cases hk3 : wh = 3
  · subst hk3
    refine lv_tableIn (off := 53) (tgt := 59) hx hb dM_total_6 (by decide) (by decide) rfl (by decide) ?_
    refine lv_aload_n hx hb dM_total_59 rfl (lv_at hl 0 rfl) ?_
    refine fm_get (ci := 4) (v := .int (nI (cn 3))) (C := RM) (T := TM) (N := 30) hx hb hT inM hown hK hW f_2 rfl 4 (by decide) (hT _ fl_M_77) (fun _ h9 => h9) rfl dM_total_60 ?_
    exact fm_iret hx hb hr hlocks hW ⟨rfl, _, _, _, _, hM, hMf, fs_po_r⟩ dM_total_63
  by_cases hk4 : wh = 4
  · subst hk4
    refine lv_tableIn (off := 58) (tgt := 64) hx hb dM_total_6 (by decide) (by decide) rfl (by decide) ?_
    refine lv_aload_n hx hb dM_total_64 rfl (lv_at hl 0 rfl) ?_
    refine fm_get (ci := 4) (v := .int (nI (cn 4))) (C := RM) (T := TM) (N := 30) hx hb hT inM hown hK hW f_2 rfl 5 (by decide) (hT _ fl_M_80) (fun _ h9 => h9) rfl dM_total_65 ?_
    exact fm_iret hx hb hr hlocks hW ⟨rfl, _, _, _, _, hM, hMf, fs_po_r⟩ dM_total_68
  by_cases hk5 : wh = 5
  · subst hk5
    refine lv_tableIn (off := 63) (tgt := 69) hx hb dM_total_6 (by decide) (by decide) rfl (by decide) ?_
    refine lv_aload_n hx hb dM_total_69 rfl (lv_at hl 0 rfl) ?_
    refine fm_callv (va_runV (As := []) (rest := []) ⟨hx, hb, hml, hown, hts⟩ (c_M_findEdges l D ct A M_1 b cn (va_up si 0 0) sl ia la cl ck hM ⟨hB0, hB1, hB2, hB3, hB4, hB5⟩ hF) ⟨callB_of 0 hts (fs_gin co_M_findEdges) rfl rfl rfl (hT _ ini_M) (hT _ ml_M_180) (by decide +kernel) ⟨Nat.le_of_ble_eq_true rfl, Nat.le_of_ble_eq_true rfl⟩, hT _ im_M_findEdges, hT _ se_M_findEdges⟩ (fn_preV fs_isnw hK hN hW hM.1 rfl) rfl rfl hl.1 rfl (lv_room (Nat.le_of_ble_eq_true rfl)) dM_total_70 ⟨Nat.le_of_ble_eq_true rfl, Nat.le_of_ble_eq_true rfl⟩) hW (fun M_4 H locs hp_5 hW => ?_)
    obtain ⟨si3, sl3, ia3, la3, hM, hMf3, hpo, h27, -⟩ := hp_5
    have hMf := fs_Mf_t hMf hMf3
    refine lv_aload_n hx hb dM_total_73 rfl (lv_at hl 0 rfl) ?_
    refine fm_get (ci := 4) (v := .int (si3 27)) (C := RM) (T := TM) (N := 30) hx hb hT inM hown hK hW hM.1 rfl 27 (by decide) (hT _ fl_M_173) (fun _ h9 => h9) rfl dM_total_74 ?_
    exact fm_iret hx hb hr hlocks hW ⟨h27, _, _, _, _, hM, hMf, hpo⟩ dM_total_77
  refine lv_tableOut (tgt := 78) hx hb dM_total_6 (fs_swo (n := 5) (by decide) (fs_le5 hk0 hk1 hk2 hk3 hk4 hk5)) (by decide) ?_
  refine lv_iconst (v := -1) hx hb dM_total_78 (by decide) ?_
  exact fm_iret hx hb hr hlocks hW ⟨by unfold fs_to; rw [if_neg hk0, if_neg hk1, if_neg hk2, if_neg hk3, if_neg hk4, if_neg hk5], _, _, _, _, hM, hMf, fs_po_r⟩ dM_total_79
