-- FrameSamples.outcome, told, changes; edges counted; total
theorem fs_ixl {x : Int32} {n : Nat} (hn : n < 2 ^ 31) (h0 : ¬ x < 0) (h1 : x < nI n) : ∃ j : Nat, j < n ∧ x = nI j := by
  obtain ⟨j, hj, rfl⟩ := nI_of h0
  exact ⟨j, (nI_ltI hj hn).mp h1, rfl⟩
def fs_oo (L : Nat) (lc : Nat → Int32) (lr : Nat → Int64) (lk wh : Int32) : Int64 := if lk < 0 ∨ ¬ lk < nI L then -1 else if wh = 0 then (lc lk.toNatClampNeg).toInt64 else if wh = 1 then lr lk.toNatClampNeg else -1
def fs_tt (C : Nat) (cc : Nat → Int32) (cr : Nat → Int64) (lk wh : Int32) : Int64 := if lk < 0 ∨ ¬ lk < nI C then -1 else if wh = 0 then (if cr lk.toNatClampNeg = 0 then 1 else 0) else if wh = 1 then (cc lk.toNatClampNeg).toInt64 else if wh = 2 then cr lk.toNatClampNeg else -1
def fs_hh (F : Nat) (cl : Nat → Int64) (ck : Nat → Int32) (lk wh : Int32) : Int64 := if lk < 0 ∨ ¬ lk < nI F then -1 else if wh = 0 then cl lk.toNatClampNeg else if wh = 1 then (ck lk.toNatClampNeg).toInt64 else -1
set_option maxHeartbeats 4000000 in
set_option maxRecDepth 100000 in
theorem c_S_outcome (l : Launch) (D : va_G) (ct : Nat → ClassId) (A : Nat → Prop) (M : fm_M) (b : Nat) (cn : Nat → Nat) (kp pn : Nat → fs_Q) (pr : fs_Q) (lc : Nat → Int32) (lr : Nat → Int64) (fr : Nat → fs_Q) (od : Nat → Int32) (cl : Nat → Int64) (ck : Nat → Int32) (cc : Nat → Int32) (cr : Nat → Int64) (lk wh : Int32) (hC : fs_CW ct M b cn kp pn pr lc lr fr od cl ck cc cr) (hB : fs_Bd cn) : Met l yS_outcome wS_outcome ({ frames := 0, cells := 0, slots := 0, locals := 0 }) (va_Pc [.ref b, .int lk, .int wh] (fm_St D fs_cl5 (fs_tys ct) fs_nw A M)) (va_Ql (fun (r : Int64) (M1 : fm_M) => M1 = M ∧ r = fs_oo (cn 2) lc lr lk wh) (fm_B D fs_cl5 A) A) 0 0 A := by
  refine Met.ofW (cc := cS_outcome) (maxL := 3) (ret := (some .long)) (by decide) rfl ?_
  intro p e s m args below meth c s₁ B hml hv
  obtain ⟨rfl, hP0, hA0, hA1, hK, hN⟩ := hv
  have hx := B.exec
  have hb := B.bytes
  have hr := B.returns
  have hts := atoms_spec (ws := wS_outcome) B.pre
  have hT : ∀ w ∈ fs_tb, w.before _ s = true := fun w h => hts w (List.mem_cons_of_mem _ h)
  have hown : s.vm.findClass "FrameSamples" = some m.cls := findClass_of_methodNamed B.named
  have hlocks := B.notSynchronized
  have hW : fm_W D fs_cl5 A M s.heap s.heap [] := ⟨hP0, hA0, va_S.rf, hA1⟩
  have hl := lv_entry ([.ref b, .int lk, .int wh]) (n := 3) (Nat.le_of_ble_eq_true rfl)
  rw [lg_entry_eq]
  generalize (lg_sl ([.ref b, .int lk, .int wh]) ++ List.replicate (3 - (lg_sl ([.ref b, .int lk, .int wh])).length) Slot.unset).toArray = ls at hl ⊢
  have hl : lv_has ls 3 [(0, .ref b), (1, .int lk), (2, .int wh)] := hl
  obtain ⟨hB0, hB1, hB2, hB3, hB4, hB5⟩ := hB
  have hCf : fs_Cf b M M := fs_Cf_r
  refine lv_iload_n hx hb dS_outcome_0 rfl (lv_at hl 1 rfl) ?_
  refine lv_if_lt (tgt := 12) hx hb dS_outcome_1 (by decide) (fun c_1 => ?_) (fun c_1 => ?_)
  · refine lv_ldc2 hx hb hown (hT _ cn_S_102) dS_outcome_12 ?_
    exact fm_lret hx hb hr hlocks hW ⟨rfl, (if_pos (Or.inl c_1)).symm⟩ dS_outcome_15
  · refine lv_iload_n hx hb dS_outcome_4 rfl (lv_at hl 1 rfl) ?_
    refine lv_aload_n hx hb dS_outcome_5 rfl (lv_at hl 0 rfl) ?_
    refine fm_get (ci := 3) (v := .int (nI (cn 2))) (C := RS) (T := TS) (N := 11) hx hb hT inS hown hK hW hC.1 rfl 8 (by decide) (hT _ fl_S_66) (fun _ h9 => h9) rfl dS_outcome_6 ?_
    refine lv_icmp_lt (tgt := 16) hx hb dS_outcome_9 (by decide) (fun c_2 => ?_) (fun c_2 => ?_)
    · have hn0 : ¬ (lk < 0 ∨ ¬ lk < nI (cn 2)) := fun z => z.elim c_1 (fun y => y c_2)
      obtain ⟨j, hj, rfl⟩ := fs_ixl (by omega) c_1 c_2
      refine lv_iload_n hx hb dS_outcome_16 rfl (lv_at hl 2 rfl) ?_
      by_cases hk0 : wh = 0
      · subst hk0
        refine lv_lookup (off := 27) (tgt := 44) hx hb dS_outcome_17 (by decide) (by decide) (by decide) ?_
        refine lv_aload_n hx hb dS_outcome_44 rfl (lv_at hl 0 rfl) ?_
        refine fm_get (ci := 3) (v := .ref (b + 25)) (C := RS) (T := TS) (N := 11) hx hb hT inS hown hK hW hC.1 rfl 1 (by decide) (hT _ fl_S_16) (fun _ h9 => h9) rfl dS_outcome_45 ?_
        refine lv_iload_n hx hb dS_outcome_48 rfl (lv_at hl 1 rfl) ?_
        refine fn_iald hx hb hK hW 0 hC.2.2.1 rfl (show j < _ by omega) (by decide) dS_outcome_49 ?_
        refine lv_i2l (v := (lc j).toInt64) hx hb dS_outcome_50 rfl ?_
        exact fm_lret hx hb hr hlocks hW ⟨rfl, by unfold fs_oo; rw [if_neg hn0, if_pos rfl, nI_clamp (by omega)]⟩ dS_outcome_51
      by_cases hk1 : wh = 1
      · subst hk1
        refine lv_lookup (off := 35) (tgt := 52) hx hb dS_outcome_17 (by decide) (by decide) (by decide) ?_
        refine lv_aload_n hx hb dS_outcome_52 rfl (lv_at hl 0 rfl) ?_
        refine fm_get (ci := 3) (v := .ref (b + 26)) (C := RS) (T := TS) (N := 11) hx hb hT inS hown hK hW hC.1 rfl 2 (by decide) (hT _ fl_S_20) (fun _ h9 => h9) rfl dS_outcome_53 ?_
        refine lv_iload_n hx hb dS_outcome_56 rfl (lv_at hl 1 rfl) ?_
        refine fn_lald hx hb hK hW 1 hC.2.2.2.1 rfl (show j < _ by omega) (by decide) dS_outcome_57 ?_
        exact fm_lret hx hb hr hlocks hW ⟨rfl, by unfold fs_oo; rw [if_neg hn0, if_neg (by decide : ¬ ((1 : Int32) = 0)), if_pos rfl, nI_clamp (by omega)]⟩ dS_outcome_58
      refine lv_lookup (off := 42) (tgt := 59) hx hb dS_outcome_17 (by decide) ((lv_osw hk0 rfl).trans ((lv_osw hk1 rfl).trans (rfl))) (by decide) ?_
      refine lv_ldc2 hx hb hown (hT _ cn_S_102) dS_outcome_59 ?_
      exact fm_lret hx hb hr hlocks hW ⟨rfl, by unfold fs_oo; rw [if_neg hn0, if_neg hk0, if_neg hk1]⟩ dS_outcome_62
    · refine lv_ldc2 hx hb hown (hT _ cn_S_102) dS_outcome_12 ?_
      exact fm_lret hx hb hr hlocks hW ⟨rfl, (if_pos (Or.inr c_2)).symm⟩ dS_outcome_15
set_option maxHeartbeats 4000000 in
set_option maxRecDepth 100000 in
theorem c_S_told (l : Launch) (D : va_G) (ct : Nat → ClassId) (A : Nat → Prop) (M : fm_M) (b : Nat) (cn : Nat → Nat) (kp pn : Nat → fs_Q) (pr : fs_Q) (lc : Nat → Int32) (lr : Nat → Int64) (fr : Nat → fs_Q) (od : Nat → Int32) (cl : Nat → Int64) (ck : Nat → Int32) (cc : Nat → Int32) (cr : Nat → Int64) (lk wh : Int32) (hC : fs_CW ct M b cn kp pn pr lc lr fr od cl ck cc cr) (hB : fs_Bd cn) : Met l yS_told wS_told ({ frames := 0, cells := 0, slots := 0, locals := 0 }) (va_Pc [.ref b, .int lk, .int wh] (fm_St D fs_cl5 (fs_tys ct) fs_nw A M)) (va_Ql (fun (r : Int64) (M1 : fm_M) => M1 = M ∧ r = fs_tt (cn 4) cc cr lk wh) (fm_B D fs_cl5 A) A) 0 0 A := by
  refine Met.ofW (cc := cS_told) (maxL := 3) (ret := (some .long)) (by decide) rfl ?_
  intro p e s m args below meth c s₁ B hml hv
  obtain ⟨rfl, hP0, hA0, hA1, hK, hN⟩ := hv
  have hx := B.exec
  have hb := B.bytes
  have hr := B.returns
  have hts := atoms_spec (ws := wS_told) B.pre
  have hT : ∀ w ∈ fs_tb, w.before _ s = true := fun w h => hts w (List.mem_cons_of_mem _ h)
  have hown : s.vm.findClass "FrameSamples" = some m.cls := findClass_of_methodNamed B.named
  have hlocks := B.notSynchronized
  have hW : fm_W D fs_cl5 A M s.heap s.heap [] := ⟨hP0, hA0, va_S.rf, hA1⟩
  have hl := lv_entry ([.ref b, .int lk, .int wh]) (n := 3) (Nat.le_of_ble_eq_true rfl)
  rw [lg_entry_eq]
  generalize (lg_sl ([.ref b, .int lk, .int wh]) ++ List.replicate (3 - (lg_sl ([.ref b, .int lk, .int wh])).length) Slot.unset).toArray = ls at hl ⊢
  have hl : lv_has ls 3 [(0, .ref b), (1, .int lk), (2, .int wh)] := hl
  obtain ⟨hB0, hB1, hB2, hB3, hB4, hB5⟩ := hB
  have hCf : fs_Cf b M M := fs_Cf_r
  refine lv_iload_n hx hb dS_told_0 rfl (lv_at hl 1 rfl) ?_
  refine lv_if_lt (tgt := 12) hx hb dS_told_1 (by decide) (fun c_1 => ?_) (fun c_1 => ?_)
  · refine lv_ldc2 hx hb hown (hT _ cn_S_102) dS_told_12 ?_
    exact fm_lret hx hb hr hlocks hW ⟨rfl, (if_pos (Or.inl c_1)).symm⟩ dS_told_15
  · refine lv_iload_n hx hb dS_told_4 rfl (lv_at hl 1 rfl) ?_
    refine lv_aload_n hx hb dS_told_5 rfl (lv_at hl 0 rfl) ?_
    refine fm_get (ci := 3) (v := .int (nI (cn 4))) (C := RS) (T := TS) (N := 11) hx hb hT inS hown hK hW hC.1 rfl 10 (by decide) (hT _ fl_S_91) (fun _ h9 => h9) rfl dS_told_6 ?_
    refine lv_icmp_lt (tgt := 16) hx hb dS_told_9 (by decide) (fun c_2 => ?_) (fun c_2 => ?_)
    · have hn0 : ¬ (lk < 0 ∨ ¬ lk < nI (cn 4)) := fun z => z.elim c_1 (fun y => y c_2)
      obtain ⟨j, hj, rfl⟩ := fs_ixl (by omega) c_1 c_2
      refine lv_iload_n hx hb dS_told_16 rfl (lv_at hl 2 rfl) ?_
      by_cases hk0 : wh = 0
      · subst hk0
        refine lv_tableIn (off := 27) (tgt := 44) hx hb dS_told_17 (by decide) (by decide) rfl (by decide) ?_
        refine lv_aload_n hx hb dS_told_44 rfl (lv_at hl 0 rfl) ?_
        refine fm_get (ci := 3) (v := .ref (b + 109)) (C := RS) (T := TS) (N := 11) hx hb hT inS hown hK hW hC.1 rfl 5 (by decide) (hT _ fl_S_34) (fun _ h9 => h9) rfl dS_told_45 ?_
        refine lv_iload_n hx hb dS_told_48 rfl (lv_at hl 1 rfl) ?_
        refine fn_lald hx hb hK hW 1 hC.2.2.2.2.2.2.2.2 rfl (show j < _ by omega) (by decide) dS_told_49 ?_
        refine lv_lconst (v := 0) hx hb dS_told_50 (by decide) ?_
        refine W.lcmp hx hb dS_told_51 ?_
        refine lv_if_ne (tgt := 59) hx hb dS_told_52 (by decide) (fun c_3 => ?_) (fun c_3 => ?_)
        · refine lv_lconst (v := 0) hx hb dS_told_59 (by decide) ?_
          exact fm_lret hx hb hr hlocks hW ⟨rfl, by unfold fs_tt; rw [if_neg hn0, if_pos rfl, nI_clamp (by omega), if_neg (fun z => c_3 ((lg_cmp_eq _ _).mpr z))]⟩ dS_told_60
        · refine lv_lconst (v := 1) hx hb dS_told_55 (by decide) ?_
          refine lv_goto (tgt := 60) hx hb dS_told_56 (by decide) ?_
          exact fm_lret hx hb hr hlocks hW ⟨rfl, by unfold fs_tt; rw [if_neg hn0, if_pos rfl, nI_clamp (by omega), if_pos ((lg_cmp_eq _ _).mp c_3)]⟩ dS_told_60
      by_cases hk1 : wh = 1
      · subst hk1
        refine lv_tableIn (off := 44) (tgt := 61) hx hb dS_told_17 (by decide) (by decide) rfl (by decide) ?_
        refine lv_aload_n hx hb dS_told_61 rfl (lv_at hl 0 rfl) ?_
        refine fm_get (ci := 3) (v := .ref (b + 108)) (C := RS) (T := TS) (N := 11) hx hb hT inS hown hK hW hC.1 rfl 4 (by decide) (hT _ fl_S_31) (fun _ h9 => h9) rfl dS_told_62 ?_
        refine lv_iload_n hx hb dS_told_65 rfl (lv_at hl 1 rfl) ?_
        refine fn_iald hx hb hK hW 0 hC.2.2.2.2.2.2.2.1 rfl (show j < _ by omega) (by decide) dS_told_66 ?_
        refine lv_i2l (v := (cc j).toInt64) hx hb dS_told_67 rfl ?_
        exact fm_lret hx hb hr hlocks hW ⟨rfl, by unfold fs_tt; rw [if_neg hn0, if_neg (by decide : ¬ ((1 : Int32) = 0)), if_pos rfl, nI_clamp (by omega)]⟩ dS_told_68
      by_cases hk2 : wh = 2
      · subst hk2
        refine lv_tableIn (off := 52) (tgt := 69) hx hb dS_told_17 (by decide) (by decide) rfl (by decide) ?_
        refine lv_aload_n hx hb dS_told_69 rfl (lv_at hl 0 rfl) ?_
        refine fm_get (ci := 3) (v := .ref (b + 109)) (C := RS) (T := TS) (N := 11) hx hb hT inS hown hK hW hC.1 rfl 5 (by decide) (hT _ fl_S_34) (fun _ h9 => h9) rfl dS_told_70 ?_
        refine lv_iload_n hx hb dS_told_73 rfl (lv_at hl 1 rfl) ?_
        refine fn_lald hx hb hK hW 1 hC.2.2.2.2.2.2.2.2 rfl (show j < _ by omega) (by decide) dS_told_74 ?_
        exact fm_lret hx hb hr hlocks hW ⟨rfl, by unfold fs_tt; rw [if_neg hn0, if_neg (by decide : ¬ ((2 : Int32) = 0)), if_neg (by decide : ¬ ((2 : Int32) = 1)), if_pos rfl, nI_clamp (by omega)]⟩ dS_told_75
      refine lv_tableOut (tgt := 76) hx hb dS_told_17 (fs_swo (n := 2) (by decide) (fs_le2 hk0 hk1 hk2)) (by decide) ?_
      refine lv_ldc2 hx hb hown (hT _ cn_S_102) dS_told_76 ?_
      exact fm_lret hx hb hr hlocks hW ⟨rfl, by unfold fs_tt; rw [if_neg hn0, if_neg hk0, if_neg hk1, if_neg hk2]⟩ dS_told_79
    · refine lv_ldc2 hx hb hown (hT _ cn_S_102) dS_told_12 ?_
      exact fm_lret hx hb hr hlocks hW ⟨rfl, (if_pos (Or.inr c_2)).symm⟩ dS_told_15
set_option maxHeartbeats 4000000 in
set_option maxRecDepth 100000 in
theorem c_S_changes (l : Launch) (D : va_G) (ct : Nat → ClassId) (A : Nat → Prop) (M : fm_M) (b : Nat) (cn : Nat → Nat) (kp pn : Nat → fs_Q) (pr : fs_Q) (lc : Nat → Int32) (lr : Nat → Int64) (fr : Nat → fs_Q) (od : Nat → Int32) (cl : Nat → Int64) (ck : Nat → Int32) (cc : Nat → Int32) (cr : Nat → Int64) (lk wh : Int32) (hC : fs_CW ct M b cn kp pn pr lc lr fr od cl ck cc cr) (hB : fs_Bd cn) : Met l yS_changes wS_changes ({ frames := 0, cells := 0, slots := 0, locals := 0 }) (va_Pc [.ref b, .int lk, .int wh] (fm_St D fs_cl5 (fs_tys ct) fs_nw A M)) (va_Ql (fun (r : Int64) (M1 : fm_M) => M1 = M ∧ r = fs_hh (cn 3) cl ck lk wh) (fm_B D fs_cl5 A) A) 0 0 A := by
  refine Met.ofW (cc := cS_changes) (maxL := 3) (ret := (some .long)) (by decide) rfl ?_
  intro p e s m args below meth c s₁ B hml hv
  obtain ⟨rfl, hP0, hA0, hA1, hK, hN⟩ := hv
  have hx := B.exec
  have hb := B.bytes
  have hr := B.returns
  have hts := atoms_spec (ws := wS_changes) B.pre
  have hT : ∀ w ∈ fs_tb, w.before _ s = true := fun w h => hts w (List.mem_cons_of_mem _ h)
  have hown : s.vm.findClass "FrameSamples" = some m.cls := findClass_of_methodNamed B.named
  have hlocks := B.notSynchronized
  have hW : fm_W D fs_cl5 A M s.heap s.heap [] := ⟨hP0, hA0, va_S.rf, hA1⟩
  have hl := lv_entry ([.ref b, .int lk, .int wh]) (n := 3) (Nat.le_of_ble_eq_true rfl)
  rw [lg_entry_eq]
  generalize (lg_sl ([.ref b, .int lk, .int wh]) ++ List.replicate (3 - (lg_sl ([.ref b, .int lk, .int wh])).length) Slot.unset).toArray = ls at hl ⊢
  have hl : lv_has ls 3 [(0, .ref b), (1, .int lk), (2, .int wh)] := hl
  obtain ⟨hB0, hB1, hB2, hB3, hB4, hB5⟩ := hB
  have hCf : fs_Cf b M M := fs_Cf_r
  refine lv_iload_n hx hb dS_changes_0 rfl (lv_at hl 1 rfl) ?_
  refine lv_if_lt (tgt := 12) hx hb dS_changes_1 (by decide) (fun c_1 => ?_) (fun c_1 => ?_)
  · refine lv_ldc2 hx hb hown (hT _ cn_S_102) dS_changes_12 ?_
    exact fm_lret hx hb hr hlocks hW ⟨rfl, (if_pos (Or.inl c_1)).symm⟩ dS_changes_15
  · refine lv_iload_n hx hb dS_changes_4 rfl (lv_at hl 1 rfl) ?_
    refine lv_aload_n hx hb dS_changes_5 rfl (lv_at hl 0 rfl) ?_
    refine fm_get (ci := 3) (v := .int (nI (cn 3))) (C := RS) (T := TS) (N := 11) hx hb hT inS hown hK hW hC.1 rfl 9 (by decide) (hT _ fl_S_56) (fun _ h9 => h9) rfl dS_changes_6 ?_
    refine lv_icmp_lt (tgt := 16) hx hb dS_changes_9 (by decide) (fun c_2 => ?_) (fun c_2 => ?_)
    · have hn0 : ¬ (lk < 0 ∨ ¬ lk < nI (cn 3)) := fun z => z.elim c_1 (fun y => y c_2)
      obtain ⟨j, hj, rfl⟩ := fs_ixl (by omega) c_1 c_2
      refine lv_iload_n hx hb dS_changes_16 rfl (lv_at hl 2 rfl) ?_
      by_cases hk0 : wh = 0
      · subst hk0
        refine lv_lookup (off := 27) (tgt := 44) hx hb dS_changes_17 (by decide) (by decide) (by decide) ?_
        refine lv_aload_n hx hb dS_changes_44 rfl (lv_at hl 0 rfl) ?_
        refine fm_get (ci := 3) (v := .ref (b + 27)) (C := RS) (T := TS) (N := 11) hx hb hT inS hown hK hW hC.1 rfl 3 (by decide) (hT _ fl_S_26) (fun _ h9 => h9) rfl dS_changes_45 ?_
        refine lv_iload_n hx hb dS_changes_48 rfl (lv_at hl 1 rfl) ?_
        refine fm_aald hx hb hK hW 4 hC.2.2.2.2.1 rfl (vp_in_nI (N := 40) (by omega) (by decide)) (fs_rf_at (by omega)) dS_changes_49 ?_
        refine fm_getN (ci := 2) (v := .long (cl j)) (C := RF) (T := TF) (N := 4) hx hb hT inF hown hK hW (hC.2.2.2.2.2.1 j (by omega)) rfl 2 (by decide) (hN _ (List.mem_of_getElem? (i := 12) rfl)) (fun _ h9 => h9) rfl dS_changes_50 ?_
        exact fm_lret hx hb hr hlocks hW ⟨rfl, by unfold fs_hh; rw [if_neg hn0, if_pos rfl, nI_clamp (by omega)]⟩ dS_changes_53
      by_cases hk1 : wh = 1
      · subst hk1
        refine lv_lookup (off := 37) (tgt := 54) hx hb dS_changes_17 (by decide) (by decide) (by decide) ?_
        refine lv_aload_n hx hb dS_changes_54 rfl (lv_at hl 0 rfl) ?_
        refine fm_get (ci := 3) (v := .ref (b + 27)) (C := RS) (T := TS) (N := 11) hx hb hT inS hown hK hW hC.1 rfl 3 (by decide) (hT _ fl_S_26) (fun _ h9 => h9) rfl dS_changes_55 ?_
        refine lv_iload_n hx hb dS_changes_58 rfl (lv_at hl 1 rfl) ?_
        refine fm_aald hx hb hK hW 4 hC.2.2.2.2.1 rfl (vp_in_nI (N := 40) (by omega) (by decide)) (fs_rf_at (by omega)) dS_changes_59 ?_
        refine fm_getN (ci := 2) (v := .int (ck j)) (C := RF) (T := TF) (N := 4) hx hb hT inF hown hK hW (hC.2.2.2.2.2.1 j (by omega)) rfl 3 (by decide) (hN _ (List.mem_of_getElem? (i := 13) rfl)) (fun _ h9 => h9) rfl dS_changes_60 ?_
        refine lv_i2l (v := (ck j).toInt64) hx hb dS_changes_63 rfl ?_
        exact fm_lret hx hb hr hlocks hW ⟨rfl, by unfold fs_hh; rw [if_neg hn0, if_neg (by decide : ¬ ((1 : Int32) = 0)), if_pos rfl, nI_clamp (by omega)]⟩ dS_changes_64
      refine lv_lookup (off := 48) (tgt := 65) hx hb dS_changes_17 (by decide) ((lv_osw hk0 rfl).trans ((lv_osw hk1 rfl).trans (rfl))) (by decide) ?_
      refine lv_ldc2 hx hb hown (hT _ cn_S_102) dS_changes_65 ?_
      exact fm_lret hx hb hr hlocks hW ⟨rfl, by unfold fs_hh; rw [if_neg hn0, if_neg hk0, if_neg hk1]⟩ dS_changes_68
    · refine lv_ldc2 hx hb hown (hT _ cn_S_102) dS_changes_12 ?_
      exact fm_lret hx hb hr hlocks hW ⟨rfl, (if_pos (Or.inr c_2)).symm⟩ dS_changes_15
set_option maxHeartbeats 4000000 in
set_option maxRecDepth 100000 in
theorem c_S_isFirstOfEdge (l : Launch) (D : va_G) (ct : Nat → ClassId) (A : Nat → Prop) (M : fm_M) (b : Nat) (cn : Nat → Nat) (kp pn : Nat → fs_Q) (pr : fs_Q) (lc : Nat → Int32) (lr : Nat → Int64) (fr : Nat → fs_Q) (od : Nat → Int32) (cl : Nat → Int64) (ck : Nat → Int32) (cc : Nat → Int32) (cr : Nat → Int64) (f : Nat) (hC : fs_CW ct M b cn kp pn pr lc lr fr od cl ck cc cr) (hB : fs_Bd cn) (hf : f < cn 3) : Met l yS_isFirstOfEdge wS_isFirstOfEdge ({ frames := 0, cells := 0, slots := 0, locals := 0 }) (va_Pc [.ref b, .int (nI f)] (fm_St D fs_cl5 (fs_tys ct) fs_nw A M)) (va_Qi (fun (r : Int32) (M1 : fm_M) => r = fs_b (fs_isb ck f) ∧ M1 = M) (fm_B D fs_cl5 A) A) 0 0 A := by
  refine Met.ofW (cc := cS_isFirstOfEdge) (maxL := 4) (ret := (some .boolean)) (by decide) rfl ?_
  intro p e s m args below meth c s₁ B hml hv
  obtain ⟨rfl, hP0, hA0, hA1, hK, hN⟩ := hv
  have hx := B.exec
  have hb := B.bytes
  have hr := B.returns
  have hts := atoms_spec (ws := wS_isFirstOfEdge) B.pre
  have hT : ∀ w ∈ fs_tb, w.before _ s = true := fun w h => hts w (List.mem_cons_of_mem _ h)
  have hown : s.vm.findClass "FrameSamples" = some m.cls := findClass_of_methodNamed B.named
  have hlocks := B.notSynchronized
  have hW : fm_W D fs_cl5 A M s.heap s.heap [] := ⟨hP0, hA0, va_S.rf, hA1⟩
  have hl := lv_entry ([.ref b, .int (nI f)]) (n := 4) (Nat.le_of_ble_eq_true rfl)
  rw [lg_entry_eq]
  generalize (lg_sl ([.ref b, .int (nI f)]) ++ List.replicate (4 - (lg_sl ([.ref b, .int (nI f)])).length) Slot.unset).toArray = ls at hl ⊢
  have hl : lv_has ls 4 [(0, .ref b), (1, .int (nI f))] := hl
  obtain ⟨hB0, hB1, hB2, hB3, hB4, hB5⟩ := hB
  have hCf : fs_Cf b M M := fs_Cf_r
  refine lv_aload_n hx hb dS_isFirstOfEdge_0 rfl (lv_at hl 0 rfl) ?_
  refine fm_get (ci := 3) (v := .ref (b + 27)) (C := RS) (T := TS) (N := 11) hx hb hT inS hown hK hW hC.1 rfl 3 (by decide) (hT _ fl_S_26) (fun _ h9 => h9) rfl dS_isFirstOfEdge_1 ?_
  refine lv_iload_n hx hb dS_isFirstOfEdge_4 rfl (lv_at hl 1 rfl) ?_
  refine fm_aald hx hb hK hW 4 hC.2.2.2.2.1 rfl (vp_in_nI (N := 40) (by omega) (by decide)) (fs_rf_at (by omega)) dS_isFirstOfEdge_5 ?_
  refine fm_getN (ci := 2) (v := .int (ck f)) (C := RF) (T := TF) (N := 4) hx hb hT inF hown hK hW (hC.2.2.2.2.2.1 f (by omega)) rfl 3 (by decide) (hN _ (List.mem_of_getElem? (i := 13) rfl)) (fun _ h9 => h9) rfl dS_isFirstOfEdge_6 ?_
  refine lv_topi (fun x_1 ex_1 => ?_)
  refine lv_istore_n (lv' := [(2, .int x_1), (0, .ref b), (1, .int (nI f))]) hx hb dS_isFirstOfEdge_9 rfl hl (by decide) rfl (fun ls hl => ?_)
  refine lv_iload_n hx hb dS_isFirstOfEdge_10 rfl (lv_at hl 0 rfl) ?_
  refine lv_if_ne (tgt := 16) hx hb dS_isFirstOfEdge_11 (by decide) (fun c_2 => ?_) (fun c_2 => ?_)
  · refine lv_iconst (v := 0) hx hb dS_isFirstOfEdge_16 (by decide) ?_
    refine lv_istore_n (lv' := [(3, .int 0), (2, .int x_1), (0, .ref b), (1, .int (nI f))]) hx hb dS_isFirstOfEdge_17 rfl hl (by decide) rfl (fun ls hl => ?_)
    refine fm_loop (head := 18) (maxL := 4) f (fun i (u : Unit) M1 => M1 = M ∧ fs_any ck (ck f) i = false) (fun i (u : Unit) => [(3, .int (nI i)), (0, .ref b), (1, .int (nI f)), (2, .int x_1)]) ?_ ?_ f 0 (by omega) () M _ _ ls ⟨rfl, rfl⟩ hW (lv_sub hl [0, 2, 3, 1] rfl)
    · intro i u M2 H locs ls hi hI hW hl back
      have hW : fm_W D fs_cl5 A M s.heap H locs := by rw [← hI.1]; exact hW
      have hl : lv_has ls 4 [(3, .int (nI i)), (0, .ref b), (1, .int (nI f)), (2, .int x_1)] := hl
      refine lv_iload_n hx hb dS_isFirstOfEdge_18 rfl (lv_at hl 0 rfl) ?_
      refine lv_iload_n hx hb dS_isFirstOfEdge_19 rfl (lv_at hl 2 rfl) ?_
      refine lv_icmp_ge (tgt := 44) hx hb dS_isFirstOfEdge_20 (by decide) (fun c_3 => ?_) (fun c_3 => ?_)
      · exact absurd c_3 (nI_ge hi (by omega))
      · refine lv_aload_n hx hb dS_isFirstOfEdge_23 rfl (lv_at hl 1 rfl) ?_
        refine fm_get (ci := 3) (v := .ref (b + 27)) (C := RS) (T := TS) (N := 11) hx hb hT inS hown hK hW hC.1 rfl 3 (by decide) (hT _ fl_S_26) (fun _ h9 => h9) rfl dS_isFirstOfEdge_24 ?_
        refine lv_iload_n hx hb dS_isFirstOfEdge_27 rfl (lv_at hl 0 rfl) ?_
        refine fm_aald hx hb hK hW 4 hC.2.2.2.2.1 rfl (vp_in_nI (N := 40) (by omega) (by decide)) (fs_rf_at (by omega)) dS_isFirstOfEdge_28 ?_
        refine fm_getN (ci := 2) (v := .int (ck i)) (C := RF) (T := TF) (N := 4) hx hb hT inF hown hK hW (hC.2.2.2.2.2.1 i (by omega)) rfl 3 (by decide) (hN _ (List.mem_of_getElem? (i := 13) rfl)) (fun _ h9 => h9) rfl dS_isFirstOfEdge_29 ?_
        refine lv_iload_n hx hb dS_isFirstOfEdge_32 rfl (lv_at hl 3 rfl) ?_
        refine lv_icmp_ne (tgt := 38) hx hb dS_isFirstOfEdge_33 (by decide) (fun c_4 => ?_) (fun c_4 => ?_)
        · refine lv_iinc (v := nI (i + 1)) (lv' := [(3, .int (nI (i + 1))), (0, .ref b), (1, .int (nI f)), (2, .int x_1)]) hx hb dS_isFirstOfEdge_38 hl (k := 0) rfl (by show nI i + 1 = nI (i + 1); exact nI_1 i) (by decide) rfl (fun ls hl => ?_)
          refine lv_goto (tgt := 18) hx hb dS_isFirstOfEdge_41 (by decide) ?_
          exact back () _ _ _ ls ⟨rfl, by show (fs_any ck (ck f) i || decide (ck i = ck f)) = false; rw [hI.2, decide_eq_false (by rw [← ex_1]; exact c_4)]; rfl⟩ hW (lv_sub hl [0, 1, 2, 3] rfl)
        · refine lv_iconst (v := 0) hx hb dS_isFirstOfEdge_36 (by decide) ?_
          have hz : fs_isb ck f = false := by
            cases hq : fs_isb ck f with
            | false => rfl
            | true => exact absurd (c_4.trans ex_1) ((fs_isb_iff.mp hq).2 i hi)
          exact fm_zret hx hb hr rfl hlocks hW ⟨by rw [hz]; rfl, rfl⟩ dS_isFirstOfEdge_37
    · intro u M2 H locs ls hI hW hl
      have hW : fm_W D fs_cl5 A M s.heap H locs := by rw [← hI.1]; exact hW
      have hl : lv_has ls 4 [(3, .int (nI f)), (0, .ref b), (1, .int (nI f)), (2, .int x_1)] := hl
      refine lv_iload_n hx hb dS_isFirstOfEdge_18 rfl (lv_at hl 0 rfl) ?_
      refine lv_iload_n hx hb dS_isFirstOfEdge_19 rfl (lv_at hl 2 rfl) ?_
      refine lv_icmp_ge (tgt := 44) hx hb dS_isFirstOfEdge_20 (by decide) (fun c_5 => ?_) (fun c_5 => ?_)
      · refine lv_iconst (v := 1) hx hb dS_isFirstOfEdge_44 (by decide) ?_
        have hz : fs_isb ck f = true := by unfold fs_isb; rw [hI.2, decide_eq_false (by rw [← ex_1]; exact c_2)]; rfl
        exact fm_zret hx hb hr rfl hlocks hW ⟨by rw [hz]; rfl, rfl⟩ dS_isFirstOfEdge_45
      · exact absurd (nI_le (Nat.le_refl f) (by omega)) c_5
  · refine lv_iconst (v := 0) hx hb dS_isFirstOfEdge_14 (by decide) ?_
    have hz : fs_isb ck f = false := by unfold fs_isb; rw [← ex_1, decide_eq_true c_2]; rfl
    exact fm_zret hx hb hr rfl hlocks hW ⟨by rw [hz]; rfl, rfl⟩ dS_isFirstOfEdge_15
set_option maxHeartbeats 4000000 in
set_option maxRecDepth 100000 in
theorem c_S_countEdges (l : Launch) (D : va_G) (ct : Nat → ClassId) (A : Nat → Prop) (M : fm_M) (b : Nat) (cn : Nat → Nat) (kp pn : Nat → fs_Q) (pr : fs_Q) (lc : Nat → Int32) (lr : Nat → Int64) (fr : Nat → fs_Q) (od : Nat → Int32) (cl : Nat → Int64) (ck : Nat → Int32) (cc : Nat → Int32) (cr : Nat → Int64) (hC : fs_CW ct M b cn kp pn pr lc lr fr od cl ck cc cr) (hB : fs_Bd cn) : Met l yS_countEdges wS_countEdges ({ frames := 1, cells := 0, slots := 0, locals := 23 }) (va_Pc [.ref b] (fm_St D fs_cl5 (fs_tys ct) fs_nw A M)) (va_Qi (fun (r : Int32) (M1 : fm_M) => r = nI (fs_ce ck (cn 3)) ∧ M1 = M) (fm_B D fs_cl5 A) A) 0 0 A := by
  refine Met.ofW (cc := cS_countEdges) (maxL := 3) (ret := (some .int)) (by decide) rfl ?_
  intro p e s m args below meth c s₁ B hml hv
  obtain ⟨rfl, hP0, hA0, hA1, hK, hN⟩ := hv
  have hx := B.exec
  have hb := B.bytes
  have hr := B.returns
  have hts := atoms_spec (ws := wS_countEdges) B.pre
  have hT : ∀ w ∈ fs_tb, w.before _ s = true := fun w h => hts w (List.mem_cons_of_mem _ h)
  have hown : s.vm.findClass "FrameSamples" = some m.cls := findClass_of_methodNamed B.named
  have hlocks := B.notSynchronized
  have hW : fm_W D fs_cl5 A M s.heap s.heap [] := ⟨hP0, hA0, va_S.rf, hA1⟩
  have hl := lv_entry ([.ref b]) (n := 3) (Nat.le_of_ble_eq_true rfl)
  rw [lg_entry_eq]
  generalize (lg_sl ([.ref b]) ++ List.replicate (3 - (lg_sl ([.ref b])).length) Slot.unset).toArray = ls at hl ⊢
  have hl : lv_has ls 3 [(0, .ref b)] := hl
  obtain ⟨hB0, hB1, hB2, hB3, hB4, hB5⟩ := hB
  have hCf : fs_Cf b M M := fs_Cf_r
  refine lv_iconst (v := 0) hx hb dS_countEdges_0 (by decide) ?_
  refine lv_istore_n (lv' := [(1, .int 0), (0, .ref b)]) hx hb dS_countEdges_1 rfl hl (by decide) rfl (fun ls hl => ?_)
  refine lv_iconst (v := 0) hx hb dS_countEdges_2 (by decide) ?_
  refine lv_istore_n (lv' := [(2, .int 0), (1, .int 0), (0, .ref b)]) hx hb dS_countEdges_3 rfl hl (by decide) rfl (fun ls hl => ?_)
  refine fm_loop (head := 4) (maxL := 3) (cn 3) (fun i (u : Int32) M1 => M1 = M ∧ u = nI (fs_ce ck i)) (fun i (u : Int32) => [(2, .int (nI i)), (0, .ref b), (1, .int u)]) ?_ ?_ (cn 3) 0 (by omega) 0 M _ _ ls ⟨rfl, rfl⟩ hW (lv_sub hl [0, 2, 1] rfl)
  · intro i u M2 H locs ls hi hI hW hl back
    have hW : fm_W D fs_cl5 A M s.heap H locs := by rw [← hI.1]; exact hW
    have hl : lv_has ls 3 [(2, .int (nI i)), (0, .ref b), (1, .int u)] := hl
    refine lv_iload_n hx hb dS_countEdges_4 rfl (lv_at hl 0 rfl) ?_
    refine lv_aload_n hx hb dS_countEdges_5 rfl (lv_at hl 1 rfl) ?_
    refine fm_get (ci := 3) (v := .int (nI (cn 3))) (C := RS) (T := TS) (N := 11) hx hb hT inS hown hK hW hC.1 rfl 9 (by decide) (hT _ fl_S_56) (fun _ h9 => h9) rfl dS_countEdges_6 ?_
    refine lv_icmp_ge (tgt := 29) hx hb dS_countEdges_9 (by decide) (fun c_1 => ?_) (fun c_1 => ?_)
    · exact absurd c_1 (nI_ge hi (by omega))
    · refine lv_aload_n hx hb dS_countEdges_12 rfl (lv_at hl 1 rfl) ?_
      refine lv_iload_n hx hb dS_countEdges_13 rfl (lv_at hl 0 rfl) ?_
      refine fm_calli (va_runV (As := [.int (nI i)]) (rest := []) ⟨hx, hb, hml, hown, hts⟩ (c_S_isFirstOfEdge l D ct A M b cn kp pn pr lc lr fr od cl ck cc cr i hC ⟨hB0, hB1, hB2, hB3, hB4, hB5⟩ hi) ⟨callB_of 1 hts (fs_gin co_S_isFirstOfEdge) rfl rfl rfl (hT _ ini_S) (hT _ ml_S_143) (by decide +kernel) ⟨Nat.le_of_ble_eq_true rfl, Nat.le_of_ble_eq_true rfl⟩, hT _ im_S_isFirstOfEdge, hT _ se_S_isFirstOfEdge⟩ (fn_preV fs_isnw hK hN hW hC.1 rfl) rfl rfl hl.1 rfl (lv_room (Nat.le_of_ble_eq_true rfl)) dS_countEdges_14 ⟨Nat.le_of_ble_eq_true rfl, Nat.le_of_ble_eq_true rfl⟩) hW (fun r_2 M_3 H locs hp_4 hW => ?_)
      have hW : fm_W D fs_cl5 A M s.heap H locs := by rw [← hp_4.2]; exact hW
      have er_2 := hp_4.1
      refine lv_if_eq (tgt := 23) hx hb dS_countEdges_17 (by decide) (fun c_5 => ?_) (fun c_5 => ?_)
      · have hf : fs_isb ck i = false := (fs_b_eq0 _).mp (er_2.symm.trans c_5)
        have hce : fs_ce ck (i + 1) = fs_ce ck i := if_neg (by rw [hf]; decide)
        refine lv_iinc (v := nI (i + 1)) (lv' := [(2, .int (nI (i + 1))), (0, .ref b), (1, .int u)]) hx hb dS_countEdges_23 hl (k := 0) rfl (by show nI i + 1 = nI (i + 1); exact nI_1 i) (by decide) rfl (fun ls hl => ?_)
        refine lv_goto (tgt := 4) hx hb dS_countEdges_26 (by decide) ?_
        exact back u _ _ _ ls ⟨rfl, by rw [hce]; exact hI.2⟩ hW (lv_sub hl [0, 1, 2] rfl)
      · have ht : fs_isb ck i = true := by
          cases hq : fs_isb ck i with
          | true => rfl
          | false => exact absurd (by rw [er_2, hq]; rfl) c_5
        have hce : fs_ce ck (i + 1) = fs_ce ck i + 1 := if_pos ht
        obtain ⟨x_6, ex_6⟩ : ∃ y : Int32, y = u + 1 := ⟨_, rfl⟩
        refine lv_iinc (v := x_6) (lv' := [(1, .int x_6), (2, .int (nI i)), (0, .ref b)]) hx hb dS_countEdges_20 hl (k := 2) rfl (by rw [ex_6]; rfl) (by decide) rfl (fun ls hl => ?_)
        refine lv_iinc (v := nI (i + 1)) (lv' := [(2, .int (nI (i + 1))), (1, .int x_6), (0, .ref b)]) hx hb dS_countEdges_23 hl (k := 1) rfl (by show nI i + 1 = nI (i + 1); exact nI_1 i) (by decide) rfl (fun ls hl => ?_)
        refine lv_goto (tgt := 4) hx hb dS_countEdges_26 (by decide) ?_
        exact back x_6 _ _ _ ls ⟨rfl, by rw [hce, ex_6, hI.2, nI_1]⟩ hW (lv_sub hl [0, 2, 1] rfl)
  · intro u M2 H locs ls hI hW hl
    have hW : fm_W D fs_cl5 A M s.heap H locs := by rw [← hI.1]; exact hW
    have hl : lv_has ls 3 [(2, .int (nI (cn 3))), (0, .ref b), (1, .int u)] := hl
    refine lv_iload_n hx hb dS_countEdges_4 rfl (lv_at hl 0 rfl) ?_
    refine lv_aload_n hx hb dS_countEdges_5 rfl (lv_at hl 1 rfl) ?_
    refine fm_get (ci := 3) (v := .int (nI (cn 3))) (C := RS) (T := TS) (N := 11) hx hb hT inS hown hK hW hC.1 rfl 9 (by decide) (hT _ fl_S_56) (fun _ h9 => h9) rfl dS_countEdges_6 ?_
    refine lv_icmp_ge (tgt := 29) hx hb dS_countEdges_9 (by decide) (fun c_7 => ?_) (fun c_7 => ?_)
    · refine lv_iload_n hx hb dS_countEdges_29 rfl (lv_at hl 2 rfl) ?_
      exact fm_iret hx hb hr hlocks hW ⟨hI.2, rfl⟩ dS_countEdges_30
    · exact absurd (nI_le (Nat.le_refl (cn 3)) (by omega)) c_7
set_option maxHeartbeats 4000000 in
set_option maxRecDepth 100000 in
theorem c_S_firstFaultOfEdge (l : Launch) (D : va_G) (ct : Nat → ClassId) (A : Nat → Prop) (M : fm_M) (b : Nat) (cn : Nat → Nat) (kp pn : Nat → fs_Q) (pr : fs_Q) (lc : Nat → Int32) (lr : Nat → Int64) (fr : Nat → fs_Q) (od : Nat → Int32) (cl : Nat → Int64) (ck : Nat → Int32) (cc : Nat → Int32) (cr : Nat → Int64) (e0 : Int32) (hC : fs_CW ct M b cn kp pn pr lc lr fr od cl ck cc cr) (hB : fs_Bd cn) : Met l yS_firstFaultOfEdge wS_firstFaultOfEdge ({ frames := 1, cells := 0, slots := 0, locals := 23 }) (va_Pc [.ref b, .int e0] (fm_St D fs_cl5 (fs_tys ct) fs_nw A M)) (va_Qi (fun (r : Int32) (M1 : fm_M) => ((r = -1 ∧ ∀ g, g < cn 3 → fs_isb ck g = true → nI (fs_ce ck g) ≠ e0) ∨ ∃ g : Nat, g < cn 3 ∧ fs_isb ck g = true ∧ nI (fs_ce ck g) = e0 ∧ r = nI g) ∧ M1 = M) (fm_B D fs_cl5 A) A) 0 0 A := by
  refine Met.ofW (cc := cS_firstFaultOfEdge) (maxL := 4) (ret := (some .int)) (by decide) rfl ?_
  intro p e s m args below meth c s₁ B hml hv
  obtain ⟨rfl, hP0, hA0, hA1, hK, hN⟩ := hv
  have hx := B.exec
  have hb := B.bytes
  have hr := B.returns
  have hts := atoms_spec (ws := wS_firstFaultOfEdge) B.pre
  have hT : ∀ w ∈ fs_tb, w.before _ s = true := fun w h => hts w (List.mem_cons_of_mem _ h)
  have hown : s.vm.findClass "FrameSamples" = some m.cls := findClass_of_methodNamed B.named
  have hlocks := B.notSynchronized
  have hW : fm_W D fs_cl5 A M s.heap s.heap [] := ⟨hP0, hA0, va_S.rf, hA1⟩
  have hl := lv_entry ([.ref b, .int e0]) (n := 4) (Nat.le_of_ble_eq_true rfl)
  rw [lg_entry_eq]
  generalize (lg_sl ([.ref b, .int e0]) ++ List.replicate (4 - (lg_sl ([.ref b, .int e0])).length) Slot.unset).toArray = ls at hl ⊢
  have hl : lv_has ls 4 [(0, .ref b), (1, .int e0)] := hl
  obtain ⟨hB0, hB1, hB2, hB3, hB4, hB5⟩ := hB
  have hCf : fs_Cf b M M := fs_Cf_r
  refine lv_iconst (v := 0) hx hb dS_firstFaultOfEdge_0 (by decide) ?_
  refine lv_istore_n (lv' := [(2, .int 0), (0, .ref b), (1, .int e0)]) hx hb dS_firstFaultOfEdge_1 rfl hl (by decide) rfl (fun ls hl => ?_)
  refine lv_iconst (v := 0) hx hb dS_firstFaultOfEdge_2 (by decide) ?_
  refine lv_istore_n (lv' := [(3, .int 0), (2, .int 0), (0, .ref b), (1, .int e0)]) hx hb dS_firstFaultOfEdge_3 rfl hl (by decide) rfl (fun ls hl => ?_)
  refine fm_loop (head := 4) (maxL := 4) (cn 3) (fun i (u : Int32) M1 => M1 = M ∧ u = nI (fs_ce ck i) ∧ ∀ g, g < i → fs_isb ck g = true → nI (fs_ce ck g) ≠ e0) (fun i (u : Int32) => [(3, .int (nI i)), (0, .ref b), (1, .int e0), (2, .int u)]) ?_ ?_ (cn 3) 0 (by omega) 0 M _ _ ls ⟨rfl, rfl, fun g hg => absurd hg (Nat.not_lt_zero g)⟩ hW (lv_sub hl [0, 2, 3, 1] rfl)
  · intro i u M2 H locs ls hi hI hW hl back
    have hW : fm_W D fs_cl5 A M s.heap H locs := by rw [← hI.1]; exact hW
    have hl : lv_has ls 4 [(3, .int (nI i)), (0, .ref b), (1, .int e0), (2, .int u)] := hl
    refine lv_iload_n hx hb dS_firstFaultOfEdge_4 rfl (lv_at hl 0 rfl) ?_
    refine lv_aload_n hx hb dS_firstFaultOfEdge_5 rfl (lv_at hl 1 rfl) ?_
    refine fm_get (ci := 3) (v := .int (nI (cn 3))) (C := RS) (T := TS) (N := 11) hx hb hT inS hown hK hW hC.1 rfl 9 (by decide) (hT _ fl_S_56) (fun _ h9 => h9) rfl dS_firstFaultOfEdge_6 ?_
    refine lv_icmp_ge (tgt := 36) hx hb dS_firstFaultOfEdge_9 (by decide) (fun c_1 => ?_) (fun c_1 => ?_)
    · exact absurd c_1 (nI_ge hi (by omega))
    · refine lv_aload_n hx hb dS_firstFaultOfEdge_12 rfl (lv_at hl 1 rfl) ?_
      refine lv_iload_n hx hb dS_firstFaultOfEdge_13 rfl (lv_at hl 0 rfl) ?_
      refine fm_calli (va_runV (As := [.int (nI i)]) (rest := []) ⟨hx, hb, hml, hown, hts⟩ (c_S_isFirstOfEdge l D ct A M b cn kp pn pr lc lr fr od cl ck cc cr i hC ⟨hB0, hB1, hB2, hB3, hB4, hB5⟩ hi) ⟨callB_of 1 hts (fs_gin co_S_isFirstOfEdge) rfl rfl rfl (hT _ ini_S) (hT _ ml_S_143) (by decide +kernel) ⟨Nat.le_of_ble_eq_true rfl, Nat.le_of_ble_eq_true rfl⟩, hT _ im_S_isFirstOfEdge, hT _ se_S_isFirstOfEdge⟩ (fn_preV fs_isnw hK hN hW hC.1 rfl) rfl rfl hl.1 rfl (lv_room (Nat.le_of_ble_eq_true rfl)) dS_firstFaultOfEdge_14 ⟨Nat.le_of_ble_eq_true rfl, Nat.le_of_ble_eq_true rfl⟩) hW (fun r_2 M_3 H locs hp_4 hW => ?_)
      have hW : fm_W D fs_cl5 A M s.heap H locs := by rw [← hp_4.2]; exact hW
      have er_2 := hp_4.1
      refine lv_if_eq (tgt := 30) hx hb dS_firstFaultOfEdge_17 (by decide) (fun c_5 => ?_) (fun c_5 => ?_)
      · have hf : fs_isb ck i = false := (fs_b_eq0 _).mp (er_2.symm.trans c_5)
        have hce : fs_ce ck (i + 1) = fs_ce ck i := if_neg (by rw [hf]; decide)
        refine lv_iinc (v := nI (i + 1)) (lv' := [(3, .int (nI (i + 1))), (0, .ref b), (1, .int e0), (2, .int u)]) hx hb dS_firstFaultOfEdge_30 hl (k := 0) rfl (by show nI i + 1 = nI (i + 1); exact nI_1 i) (by decide) rfl (fun ls hl => ?_)
        refine lv_goto (tgt := 4) hx hb dS_firstFaultOfEdge_33 (by decide) ?_
        exact back u _ _ _ ls ⟨rfl, by rw [hce]; exact hI.2.1, fun g hg hgb => by by_cases z : g = i; rw [z, hf] at hgb; cases hgb; exact hI.2.2 g (by omega) hgb⟩ hW (lv_sub hl [0, 1, 2, 3] rfl)
      · have ht : fs_isb ck i = true := by
          cases hq : fs_isb ck i with
          | true => rfl
          | false => exact absurd (by rw [er_2, hq]; rfl) c_5
        have hce : fs_ce ck (i + 1) = fs_ce ck i + 1 := if_pos ht
        refine lv_iload_n hx hb dS_firstFaultOfEdge_20 rfl (lv_at hl 3 rfl) ?_
        refine lv_iload_n hx hb dS_firstFaultOfEdge_21 rfl (lv_at hl 2 rfl) ?_
        refine lv_icmp_ne (tgt := 27) hx hb dS_firstFaultOfEdge_22 (by decide) (fun c_6 => ?_) (fun c_6 => ?_)
        · obtain ⟨x_7, ex_7⟩ : ∃ y : Int32, y = u + 1 := ⟨_, rfl⟩
          refine lv_iinc (v := x_7) (lv' := [(2, .int x_7), (3, .int (nI i)), (0, .ref b), (1, .int e0)]) hx hb dS_firstFaultOfEdge_27 hl (k := 3) rfl (by rw [ex_7]; rfl) (by decide) rfl (fun ls hl => ?_)
          refine lv_iinc (v := nI (i + 1)) (lv' := [(3, .int (nI (i + 1))), (2, .int x_7), (0, .ref b), (1, .int e0)]) hx hb dS_firstFaultOfEdge_30 hl (k := 1) rfl (by show nI i + 1 = nI (i + 1); exact nI_1 i) (by decide) rfl (fun ls hl => ?_)
          refine lv_goto (tgt := 4) hx hb dS_firstFaultOfEdge_33 (by decide) ?_
          exact back x_7 _ _ _ ls ⟨rfl, by rw [hce, ex_7, hI.2.1, nI_1], fun g hg hgb => by by_cases z : g = i; rw [z, ← hI.2.1]; exact c_6; exact hI.2.2 g (by omega) hgb⟩ hW (lv_sub hl [0, 2, 3, 1] rfl)
        · refine lv_iload_n hx hb dS_firstFaultOfEdge_25 rfl (lv_at hl 0 rfl) ?_
          exact fm_iret hx hb hr hlocks hW ⟨Or.inr ⟨i, hi, ht, by rw [← hI.2.1]; exact c_6, rfl⟩, rfl⟩ dS_firstFaultOfEdge_26
  · intro u M2 H locs ls hI hW hl
    have hW : fm_W D fs_cl5 A M s.heap H locs := by rw [← hI.1]; exact hW
    have hl : lv_has ls 4 [(3, .int (nI (cn 3))), (0, .ref b), (1, .int e0), (2, .int u)] := hl
    refine lv_iload_n hx hb dS_firstFaultOfEdge_4 rfl (lv_at hl 0 rfl) ?_
    refine lv_aload_n hx hb dS_firstFaultOfEdge_5 rfl (lv_at hl 1 rfl) ?_
    refine fm_get (ci := 3) (v := .int (nI (cn 3))) (C := RS) (T := TS) (N := 11) hx hb hT inS hown hK hW hC.1 rfl 9 (by decide) (hT _ fl_S_56) (fun _ h9 => h9) rfl dS_firstFaultOfEdge_6 ?_
    refine lv_icmp_ge (tgt := 36) hx hb dS_firstFaultOfEdge_9 (by decide) (fun c_8 => ?_) (fun c_8 => ?_)
    · refine lv_iconst (v := -1) hx hb dS_firstFaultOfEdge_36 (by decide) ?_
      exact fm_iret hx hb hr hlocks hW ⟨Or.inl ⟨rfl, hI.2.2⟩, rfl⟩ dS_firstFaultOfEdge_37
    · exact absurd (nI_le (Nat.le_refl (cn 3)) (by omega)) c_8
set_option maxHeartbeats 4000000 in
set_option maxRecDepth 100000 in
theorem c_S_faultsLike (l : Launch) (D : va_G) (ct : Nat → ClassId) (A : Nat → Prop) (M : fm_M) (b : Nat) (cn : Nat → Nat) (kp pn : Nat → fs_Q) (pr : fs_Q) (lc : Nat → Int32) (lr : Nat → Int64) (fr : Nat → fs_Q) (od : Nat → Int32) (cl : Nat → Int64) (ck : Nat → Int32) (cc : Nat → Int32) (cr : Nat → Int64) (f : Nat) (hC : fs_CW ct M b cn kp pn pr lc lr fr od cl ck cc cr) (hB : fs_Bd cn) (hf : f < cn 3) : Met l yS_faultsLike wS_faultsLike ({ frames := 0, cells := 0, slots := 0, locals := 0 }) (va_Pc [.ref b, .int (nI f)] (fm_St D fs_cl5 (fs_tys ct) fs_nw A M)) (va_Ql (fun (r : Int64) (M1 : fm_M) => r = fs_mem ck (ck f) (cn 3) ∧ M1 = M) (fm_B D fs_cl5 A) A) 0 0 A := by
  refine Met.ofW (cc := cS_faultsLike) (maxL := 5) (ret := (some .long)) (by decide) rfl ?_
  intro p e s m args below meth c s₁ B hml hv
  obtain ⟨rfl, hP0, hA0, hA1, hK, hN⟩ := hv
  have hx := B.exec
  have hb := B.bytes
  have hr := B.returns
  have hts := atoms_spec (ws := wS_faultsLike) B.pre
  have hT : ∀ w ∈ fs_tb, w.before _ s = true := fun w h => hts w (List.mem_cons_of_mem _ h)
  have hown : s.vm.findClass "FrameSamples" = some m.cls := findClass_of_methodNamed B.named
  have hlocks := B.notSynchronized
  have hW : fm_W D fs_cl5 A M s.heap s.heap [] := ⟨hP0, hA0, va_S.rf, hA1⟩
  have hl := lv_entry ([.ref b, .int (nI f)]) (n := 5) (Nat.le_of_ble_eq_true rfl)
  rw [lg_entry_eq]
  generalize (lg_sl ([.ref b, .int (nI f)]) ++ List.replicate (5 - (lg_sl ([.ref b, .int (nI f)])).length) Slot.unset).toArray = ls at hl ⊢
  have hl : lv_has ls 5 [(0, .ref b), (1, .int (nI f))] := hl
  obtain ⟨hB0, hB1, hB2, hB3, hB4, hB5⟩ := hB
  have hCf : fs_Cf b M M := fs_Cf_r
  refine lv_lconst (v := 0) hx hb dS_faultsLike_0 (by decide) ?_
  refine lv_lstore_n (lv' := [(2, .long 0), (0, .ref b), (1, .int (nI f))]) hx hb dS_faultsLike_1 rfl hl (by decide) rfl (fun ls hl => ?_)
  refine lv_iconst (v := 0) hx hb dS_faultsLike_2 (by decide) ?_
  refine lv_istore (lv' := [(4, .int 0), (2, .long 0), (0, .ref b), (1, .int (nI f))]) hx hb dS_faultsLike_3 hl (by decide) rfl (fun ls hl => ?_)
  refine fm_loop (head := 5) (maxL := 5) (cn 3) (fun i (u : Int64) M1 => M1 = M ∧ u = fs_mem ck (ck f) i) (fun i (u : Int64) => [(4, .int (nI i)), (0, .ref b), (1, .int (nI f)), (2, .long u)]) ?_ ?_ (cn 3) 0 (by omega) 0 M _ _ ls ⟨rfl, rfl⟩ hW (lv_sub hl [0, 2, 3, 1] rfl)
  · intro i u M2 H locs ls hi hI hW hl back
    have hW : fm_W D fs_cl5 A M s.heap H locs := by rw [← hI.1]; exact hW
    have hl : lv_has ls 5 [(4, .int (nI i)), (0, .ref b), (1, .int (nI f)), (2, .long u)] := hl
    refine lv_iload hx hb dS_faultsLike_5 (lv_at hl 0 rfl) ?_
    refine lv_aload_n hx hb dS_faultsLike_7 rfl (lv_at hl 1 rfl) ?_
    refine fm_get (ci := 3) (v := .int (nI (cn 3))) (C := RS) (T := TS) (N := 11) hx hb hT inS hown hK hW hC.1 rfl 9 (by decide) (hT _ fl_S_56) (fun _ h9 => h9) rfl dS_faultsLike_8 ?_
    refine lv_icmp_ge (tgt := 49) hx hb dS_faultsLike_11 (by decide) (fun c_1 => ?_) (fun c_1 => ?_)
    · exact absurd c_1 (nI_ge hi (by omega))
    · refine lv_aload_n hx hb dS_faultsLike_14 rfl (lv_at hl 1 rfl) ?_
      refine fm_get (ci := 3) (v := .ref (b + 27)) (C := RS) (T := TS) (N := 11) hx hb hT inS hown hK hW hC.1 rfl 3 (by decide) (hT _ fl_S_26) (fun _ h9 => h9) rfl dS_faultsLike_15 ?_
      refine lv_iload hx hb dS_faultsLike_18 (lv_at hl 0 rfl) ?_
      refine fm_aald hx hb hK hW 4 hC.2.2.2.2.1 rfl (vp_in_nI (N := 40) (by omega) (by decide)) (fs_rf_at (by omega)) dS_faultsLike_20 ?_
      refine fm_getN (ci := 2) (v := .int (ck i)) (C := RF) (T := TF) (N := 4) hx hb hT inF hown hK hW (hC.2.2.2.2.2.1 i (by omega)) rfl 3 (by decide) (hN _ (List.mem_of_getElem? (i := 13) rfl)) (fun _ h9 => h9) rfl dS_faultsLike_21 ?_
      refine lv_aload_n hx hb dS_faultsLike_24 rfl (lv_at hl 1 rfl) ?_
      refine fm_get (ci := 3) (v := .ref (b + 27)) (C := RS) (T := TS) (N := 11) hx hb hT inS hown hK hW hC.1 rfl 3 (by decide) (hT _ fl_S_26) (fun _ h9 => h9) rfl dS_faultsLike_25 ?_
      refine lv_iload_n hx hb dS_faultsLike_28 rfl (lv_at hl 2 rfl) ?_
      refine fm_aald hx hb hK hW 4 hC.2.2.2.2.1 rfl (vp_in_nI (N := 40) (by omega) (by decide)) (fs_rf_at (by omega)) dS_faultsLike_29 ?_
      refine fm_getN (ci := 2) (v := .int (ck f)) (C := RF) (T := TF) (N := 4) hx hb hT inF hown hK hW (hC.2.2.2.2.2.1 f (by omega)) rfl 3 (by decide) (hN _ (List.mem_of_getElem? (i := 13) rfl)) (fun _ h9 => h9) rfl dS_faultsLike_30 ?_
      refine lv_icmp_ne (tgt := 43) hx hb dS_faultsLike_33 (by decide) (fun c_2 => ?_) (fun c_2 => ?_)
      · refine lv_iinc (v := nI (i + 1)) (lv' := [(4, .int (nI (i + 1))), (0, .ref b), (1, .int (nI f)), (2, .long u)]) hx hb dS_faultsLike_43 hl (k := 0) rfl (by show nI i + 1 = nI (i + 1); exact nI_1 i) (by decide) rfl (fun ls hl => ?_)
        refine lv_goto (tgt := 5) hx hb dS_faultsLike_46 (by decide) ?_
        exact back u _ _ _ ls ⟨rfl, by rw [hI.2]; exact (fs_mem_ne c_2).symm⟩ hW (lv_sub hl [0, 1, 2, 3] rfl)
      · refine lv_lload_n hx hb dS_faultsLike_36 rfl (lv_at hl 3 rfl) ?_
        refine lv_lconst (v := 1) hx hb dS_faultsLike_37 (by decide) ?_
        refine lv_iload hx hb dS_faultsLike_38 (lv_at hl 0 rfl) ?_
        refine lv_lshl (v := 1 <<< ((nI i).toInt64 &&& 63)) hx hb dS_faultsLike_40 rfl ?_
        refine lv_lor hx hb dS_faultsLike_41 ?_
        refine lv_topl (fun x_3 ex_3 => ?_)
        refine lv_lstore_n (lv' := [(2, .long x_3), (4, .int (nI i)), (0, .ref b), (1, .int (nI f))]) hx hb dS_faultsLike_42 rfl hl (by decide) rfl (fun ls hl => ?_)
        refine lv_iinc (v := nI (i + 1)) (lv' := [(4, .int (nI (i + 1))), (2, .long x_3), (0, .ref b), (1, .int (nI f))]) hx hb dS_faultsLike_43 hl (k := 1) rfl (by show nI i + 1 = nI (i + 1); exact nI_1 i) (by decide) rfl (fun ls hl => ?_)
        refine lv_goto (tgt := 5) hx hb dS_faultsLike_46 (by decide) ?_
        exact back x_3 _ _ _ ls ⟨rfl, by rw [ex_3, hI.2]; exact (fs_mem_eq c_2).symm⟩ hW (lv_sub hl [0, 2, 3, 1] rfl)
  · intro u M2 H locs ls hI hW hl
    have hW : fm_W D fs_cl5 A M s.heap H locs := by rw [← hI.1]; exact hW
    have hl : lv_has ls 5 [(4, .int (nI (cn 3))), (0, .ref b), (1, .int (nI f)), (2, .long u)] := hl
    refine lv_iload hx hb dS_faultsLike_5 (lv_at hl 0 rfl) ?_
    refine lv_aload_n hx hb dS_faultsLike_7 rfl (lv_at hl 1 rfl) ?_
    refine fm_get (ci := 3) (v := .int (nI (cn 3))) (C := RS) (T := TS) (N := 11) hx hb hT inS hown hK hW hC.1 rfl 9 (by decide) (hT _ fl_S_56) (fun _ h9 => h9) rfl dS_faultsLike_8 ?_
    refine lv_icmp_ge (tgt := 49) hx hb dS_faultsLike_11 (by decide) (fun c_4 => ?_) (fun c_4 => ?_)
    · refine lv_lload_n hx hb dS_faultsLike_49 rfl (lv_at hl 3 rfl) ?_
      exact fm_lret hx hb hr hlocks hW ⟨hI.2, rfl⟩ dS_faultsLike_50
    · exact absurd (nI_le (Nat.le_refl (cn 3)) (by omega)) c_4
def fs_to (cn : Nat → Nat) (ck : Nat → Int32) (wh : Int32) : Int32 := if wh = 0 then nI (cn 0) else if wh = 1 then nI (cn 1) else if wh = 2 then nI (cn 2) else if wh = 3 then nI (cn 3) else if wh = 4 then nI (cn 4) else if wh = 5 then nI (fs_ce ck (cn 3)) else -1
set_option maxHeartbeats 4000000 in
set_option maxRecDepth 100000 in
theorem c_S_total (l : Launch) (D : va_G) (ct : Nat → ClassId) (A : Nat → Prop) (M : fm_M) (b : Nat) (cn : Nat → Nat) (kp pn : Nat → fs_Q) (pr : fs_Q) (lc : Nat → Int32) (lr : Nat → Int64) (fr : Nat → fs_Q) (od : Nat → Int32) (cl : Nat → Int64) (ck : Nat → Int32) (cc : Nat → Int32) (cr : Nat → Int64) (wh : Int32) (hC : fs_CW ct M b cn kp pn pr lc lr fr od cl ck cc cr) (hB : fs_Bd cn) : Met l yS_total wS_total ({ frames := 2, cells := 0, slots := 0, locals := 45 }) (va_Pc [.ref b, .int wh] (fm_St D fs_cl5 (fs_tys ct) fs_nw A M)) (va_Qi (fun (r : Int32) (M1 : fm_M) => r = fs_to cn ck wh ∧ M1 = M) (fm_B D fs_cl5 A) A) 0 0 A := by
  refine Met.ofW (cc := cS_total) (maxL := 2) (ret := (some .int)) (by decide) rfl ?_
  intro p e s m args below meth c s₁ B hml hv
  obtain ⟨rfl, hP0, hA0, hA1, hK, hN⟩ := hv
  have hx := B.exec
  have hb := B.bytes
  have hr := B.returns
  have hts := atoms_spec (ws := wS_total) B.pre
  have hT : ∀ w ∈ fs_tb, w.before _ s = true := fun w h => hts w (List.mem_cons_of_mem _ h)
  have hown : s.vm.findClass "FrameSamples" = some m.cls := findClass_of_methodNamed B.named
  have hlocks := B.notSynchronized
  have hW : fm_W D fs_cl5 A M s.heap s.heap [] := ⟨hP0, hA0, va_S.rf, hA1⟩
  have hl := lv_entry ([.ref b, .int wh]) (n := 2) (Nat.le_of_ble_eq_true rfl)
  rw [lg_entry_eq]
  generalize (lg_sl ([.ref b, .int wh]) ++ List.replicate (2 - (lg_sl ([.ref b, .int wh])).length) Slot.unset).toArray = ls at hl ⊢
  have hl : lv_has ls 2 [(0, .ref b), (1, .int wh)] := hl
  obtain ⟨hB0, hB1, hB2, hB3, hB4, hB5⟩ := hB
  have hCf : fs_Cf b M M := fs_Cf_r
  refine lv_iload_n hx hb dS_total_0 rfl (lv_at hl 1 rfl) ?_
  by_cases hk0 : wh = 0
  · subst hk0
    refine lv_tableIn (off := 39) (tgt := 40) hx hb dS_total_1 (by decide) (by decide) rfl (by decide) ?_
    refine lv_aload_n hx hb dS_total_40 rfl (lv_at hl 0 rfl) ?_
    refine fm_get (ci := 3) (v := .int (nI (cn 0))) (C := RS) (T := TS) (N := 11) hx hb hT inS hown hK hW hC.1 rfl 6 (by decide) (hT _ fl_S_129) (fun _ h9 => h9) rfl dS_total_41 ?_
    exact fm_iret hx hb hr hlocks hW ⟨rfl, rfl⟩ dS_total_44
  by_cases hk1 : wh = 1
  · subst hk1
    refine lv_tableIn (off := 44) (tgt := 45) hx hb dS_total_1 (by decide) (by decide) rfl (by decide) ?_
    refine lv_aload_n hx hb dS_total_45 rfl (lv_at hl 0 rfl) ?_
    refine fm_get (ci := 3) (v := .int (nI (cn 1))) (C := RS) (T := TS) (N := 11) hx hb hT inS hown hK hW hC.1 rfl 7 (by decide) (hT _ fl_S_45) (fun _ h9 => h9) rfl dS_total_46 ?_
    exact fm_iret hx hb hr hlocks hW ⟨rfl, rfl⟩ dS_total_49
  by_cases hk2 : wh = 2
  · subst hk2
    refine lv_tableIn (off := 49) (tgt := 50) hx hb dS_total_1 (by decide) (by decide) rfl (by decide) ?_
    refine lv_aload_n hx hb dS_total_50 rfl (lv_at hl 0 rfl) ?_
    refine fm_get (ci := 3) (v := .int (nI (cn 2))) (C := RS) (T := TS) (N := 11) hx hb hT inS hown hK hW hC.1 rfl 8 (by decide) (hT _ fl_S_66) (fun _ h9 => h9) rfl dS_total_51 ?_
    exact fm_iret hx hb hr hlocks hW ⟨rfl, rfl⟩ dS_total_54
  by_cases hk3 : wh = 3
  · subst hk3
    refine lv_tableIn (off := 54) (tgt := 55) hx hb dS_total_1 (by decide) (by decide) rfl (by decide) ?_
    refine lv_aload_n hx hb dS_total_55 rfl (lv_at hl 0 rfl) ?_
    refine fm_get (ci := 3) (v := .int (nI (cn 3))) (C := RS) (T := TS) (N := 11) hx hb hT inS hown hK hW hC.1 rfl 9 (by decide) (hT _ fl_S_56) (fun _ h9 => h9) rfl dS_total_56 ?_
    exact fm_iret hx hb hr hlocks hW ⟨rfl, rfl⟩ dS_total_59
  by_cases hk4 : wh = 4
  · subst hk4
    refine lv_tableIn (off := 59) (tgt := 60) hx hb dS_total_1 (by decide) (by decide) rfl (by decide) ?_
    refine lv_aload_n hx hb dS_total_60 rfl (lv_at hl 0 rfl) ?_
    refine fm_get (ci := 3) (v := .int (nI (cn 4))) (C := RS) (T := TS) (N := 11) hx hb hT inS hown hK hW hC.1 rfl 10 (by decide) (hT _ fl_S_91) (fun _ h9 => h9) rfl dS_total_61 ?_
    exact fm_iret hx hb hr hlocks hW ⟨rfl, rfl⟩ dS_total_64
  by_cases hk5 : wh = 5
  · subst hk5
    refine lv_tableIn (off := 64) (tgt := 65) hx hb dS_total_1 (by decide) (by decide) rfl (by decide) ?_
    refine lv_aload_n hx hb dS_total_65 rfl (lv_at hl 0 rfl) ?_
    refine fm_calli (va_runV (As := []) (rest := []) ⟨hx, hb, hml, hown, hts⟩ (c_S_countEdges l D ct A M b cn kp pn pr lc lr fr od cl ck cc cr hC ⟨hB0, hB1, hB2, hB3, hB4, hB5⟩) ⟨callB_of 0 hts (fs_gin co_S_countEdges) rfl rfl rfl (hT _ ini_S) (hT _ ml_S_132) (by decide +kernel) ⟨Nat.le_of_ble_eq_true rfl, Nat.le_of_ble_eq_true rfl⟩, hT _ im_S_countEdges, hT _ se_S_countEdges⟩ (fn_preV fs_isnw hK hN hW hC.1 rfl) rfl rfl hl.1 rfl (lv_room (Nat.le_of_ble_eq_true rfl)) dS_total_66 ⟨Nat.le_of_ble_eq_true rfl, Nat.le_of_ble_eq_true rfl⟩) hW (fun r_1 M_2 H locs hp_3 hW => ?_)
    have hW : fm_W D fs_cl5 A M s.heap H locs := by rw [← hp_3.2]; exact hW
    exact fm_iret hx hb hr hlocks hW ⟨hp_3.1, rfl⟩ dS_total_69
  refine lv_tableOut (tgt := 70) hx hb dS_total_1 (fs_swo (n := 5) (by decide) (fs_le5 hk0 hk1 hk2 hk3 hk4 hk5)) (by decide) ?_
  refine lv_iconst (v := -1) hx hb dS_total_70 (by decide) ?_
  exact fm_iret hx hb hr hlocks hW ⟨by unfold fs_to; rw [if_neg hk0, if_neg hk1, if_neg hk2, if_neg hk3, if_neg hk4, if_neg hk5], rfl⟩ dS_total_71
