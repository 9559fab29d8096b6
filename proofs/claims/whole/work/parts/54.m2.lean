-- the reference: gate, look, fault, check
theorem fs_ne3 {m N : Nat} (hN : N < 2 ^ 31) (h : ¬ nI m = nI N) (hm : m ≤ N) : nI m < nI N := by
  have : m ≠ N := fun z => h (by rw [z])
  exact nI_lt (by omega) hN
theorem fs_eq3 {m N : Nat} (h : nI m = nI N) : ¬ nI m < nI N := by
  rw [h]
  exact fun z => Int32.lt_irrefl z
theorem fs_234 {k : Int32} (h1 : ¬ k < 2) (h2 : ¬ 4 < k) : k = 2 ∨ k = 3 ∨ k = 4 := by
  have h0 : ¬ k < 0 := fun z => h1 (by
    rw [Int32.lt_iff_toInt_lt] at z ⊢
    have : (0 : Int32).toInt = 0 := rfl
    have : (2 : Int32).toInt = 2 := rfl
    omega)
  obtain ⟨j, hj, rfl⟩ := nI_of2 (M := 4) (n := 4) rfl h0 (Int32.not_lt.mp h2)
  rcases (show j = 0 ∨ j = 1 ∨ j = 2 ∨ j = 3 ∨ j = 4 by omega) with rfl | rfl | rfl | rfl | rfl
  · exact absurd (by decide) h1
  · exact absurd (by decide) h1
  · exact Or.inl rfl
  · exact Or.inr (Or.inl rfl)
  · exact Or.inr (Or.inr rfl)
theorem fs_n234 {k : Int32} (h : k < 2 ∨ 4 < k) : ¬ (k = 2 ∨ k = 3 ∨ k = 4) := by
  rintro (rfl | rfl | rfl) <;> revert h <;> decide
set_option maxHeartbeats 4000000 in
set_option maxRecDepth 100000 in
theorem c_M_gate (l : Launch) (D : va_G) (ct : Nat → ClassId) (A : Nat → Prop) (M : fm_M) (b : Nat) (cn : Nat → Nat) (si : Nat → Int32) (sl : Nat → Int64) (ia : Nat → Nat → Int32) (la : Nat → Nat → Int64) (k a c0 : Int32) (hM : fs_MW ct M b cn si sl ia la) (hB : fs_Bd cn) : Met l yM_gate wM_gate ({ frames := 1, cells := 0, slots := 0, locals := 23 }) (va_Pc [.ref b, .int k, .int a, .int c0] (fm_St D fs_cl5 (fs_tys ct) fs_nw A M)) (va_Qi (fun (r : Int32) (M1 : fm_M) => (r = 0 ∧ ¬ fs_gk cn k a c0 ∧ fs_MW ct M1 b cn (va_up si 0 0) sl ia la ∧ fs_Mf b M M1) ∨ (r = 1 ∧ fs_gk cn k a c0 ∧ fs_MW ct M1 b (va_up cn 1 (cn 1 + 1)) (va_up si 0 0) sl (va_up (va_up (va_up ia 1 (upd (ia 1) (cn 1) k)) 2 (upd (ia 2) (cn 1) a)) 3 (upd (ia 3) (cn 1) c0)) la ∧ fs_Mf b M M1)) (fm_B D fs_cl5 A) A) 0 0 A := by
  refine Met.ofW (cc := cM_gate) (maxL := 4) (ret := (some .boolean)) (by decide) rfl ?_
  intro p e s m args below meth c s₁ B hml hv
  obtain ⟨rfl, hP0, hA0, hA1, hK, hN⟩ := hv
  have hx := B.exec
  have hb := B.bytes
  have hr := B.returns
  have hts := atoms_spec (ws := wM_gate) B.pre
  have hT : ∀ w ∈ fs_tb, w.before _ s = true := fun w h => hts w (List.mem_cons_of_mem _ h)
  have hown : s.vm.findClass "FrameSamplesModel" = some m.cls := findClass_of_methodNamed B.named
  have hlocks := B.notSynchronized
  have hW : fm_W D fs_cl5 A M s.heap s.heap [] := ⟨hP0, hA0, va_S.rf, hA1⟩
  have hl := lv_entry ([.ref b, .int k, .int a, .int c0]) (n := 4) (Nat.le_of_ble_eq_true rfl)
  rw [lg_entry_eq]
  generalize (lg_sl ([.ref b, .int k, .int a, .int c0]) ++ List.replicate (4 - (lg_sl ([.ref b, .int k, .int a, .int c0])).length) Slot.unset).toArray = ls at hl ⊢
  have hl : lv_has ls 4 [(0, .ref b), (1, .int k), (2, .int a), (3, .int c0)] := hl
  obtain ⟨hB0, hB1, hB2, hB3, hB4, hB5⟩ := hB
  have hMf : fs_Mf b M M := fs_Mf_r
  refine lv_aload_n hx hb dM_gate_0 rfl (lv_at hl 0 rfl) ?_
  refine lv_iconst (v := 0) hx hb dM_gate_1 (by decide) ?_
  refine fm_put (ci := 4) (v := .int 0) (ty := .int) (C := RM) (T := TM) (N := 30) hx hb hT inM tyM tkM nmM hown hK hW hM.1 rfl 0 (by decide) (hT _ fl_M_64) (fun _ h9 => h9) rfl (by decide +kernel) rfl rfl (Nat.le_of_ble_eq_true rfl) dM_gate_2 (fun H locs hW => ?_)
  obtain ⟨M_1, eM_1⟩ : ∃ z : fm_M, z = va_up M b (some (.inr (4, [.int 0, .int (nI (cn 0)), .int (nI (cn 1)), .int (nI (cn 2)), .int (nI (cn 3)), .int (nI (cn 4)), .ref (b + 1), .ref (b + 2), .ref (b + 3), .ref (b + 4), .ref (b + 5), .ref (b + 6), .ref (b + 7), .ref (b + 8), .ref (b + 9), .ref (b + 10), .ref (b + 11), .ref (b + 12), .ref (b + 13), .ref (b + 14), .int (si 20), .int (si 21), .int (si 22), .long (sl 23), .int (si 24), .int (si 25), .long (sl 26), .int (si 27), .ref (b + 15), .ref (b + 16)]))) := ⟨_, rfl⟩
  have hW : fm_W D fs_cl5 A M_1 s.heap H locs := by rw [eM_1]; exact hW
  have f_2 : M_1 b = some (.inr (4, [.int 0, .int (nI (cn 0)), .int (nI (cn 1)), .int (nI (cn 2)), .int (nI (cn 3)), .int (nI (cn 4)), .ref (b + 1), .ref (b + 2), .ref (b + 3), .ref (b + 4), .ref (b + 5), .ref (b + 6), .ref (b + 7), .ref (b + 8), .ref (b + 9), .ref (b + 10), .ref (b + 11), .ref (b + 12), .ref (b + 13), .ref (b + 14), .int (si 20), .int (si 21), .int (si 22), .long (sl 23), .int (si 24), .int (si 25), .long (sl 26), .int (si 27), .ref (b + 15), .ref (b + 16)])) := by rw [eM_1]; exact fm_us
  have hM : fs_MW ct M_1 b cn (va_up si 0 0) sl ia la := by rw [eM_1]; exact fs_MW_o hM cn (va_up si 0 0) sl
  have hMf : fs_Mf b M M_1 := by rw [eM_1]; exact fs_Mf_u hMf (by omega) _
  refine lv_iload_n hx hb dM_gate_5 rfl (lv_at hl 1 rfl) ?_
  refine lv_if_lt (tgt := 33) hx hb dM_gate_6 (by decide) (fun c_3 => ?_) (fun c_3 => ?_)
  · refine lv_iconst (v := 0) hx hb dM_gate_33 (by decide) ?_
    exact fm_zret hx hb hr rfl hlocks hW (Or.inl ⟨rfl, fun z => z.1 c_3, hM, hMf⟩) dM_gate_34
  · refine lv_iload_n hx hb dM_gate_9 rfl (lv_at hl 1 rfl) ?_
    refine lv_bipush (v := 6) hx hb dM_gate_10 (by decide) ?_
    refine lv_icmp_gt (tgt := 33) hx hb dM_gate_12 (by decide) (fun c_4 => ?_) (fun c_4 => ?_)
    · refine lv_iconst (v := 0) hx hb dM_gate_33 (by decide) ?_
      exact fm_zret hx hb hr rfl hlocks hW (Or.inl ⟨rfl, fun z => z.2.1 c_4, hM, hMf⟩) dM_gate_34
    · refine lv_aload_n hx hb dM_gate_15 rfl (lv_at hl 0 rfl) ?_
      refine lv_iload_n hx hb dM_gate_16 rfl (lv_at hl 2 rfl) ?_
      refine fm_calli (va_runV (As := [.int a]) (rest := []) ⟨hx, hb, hml, hown, hts⟩ (c_M_isWire l D ct A M_1 b cn (va_up si 0 0) sl ia la a hM) ⟨callB_of 1 hts (fs_gin co_M_isWire) rfl rfl rfl (hT _ ini_M) (hT _ ml_M_83) (by decide +kernel) ⟨Nat.le_of_ble_eq_true rfl, Nat.le_of_ble_eq_true rfl⟩, hT _ im_M_isWire, hT _ se_M_isWire⟩ (fn_preV fs_isnw hK hN hW hM.1 rfl) rfl rfl hl.1 rfl (lv_room (Nat.le_of_ble_eq_true rfl)) dM_gate_17 ⟨Nat.le_of_ble_eq_true rfl, Nat.le_of_ble_eq_true rfl⟩) hW (fun r_5 M_6 H locs hp_7 hW => ?_)
      have hW : fm_W D fs_cl5 A M_1 s.heap H locs := by rw [← hp_7.2]; exact hW
      have er_5 := hp_7.1
      refine lv_if_eq (tgt := 33) hx hb dM_gate_20 (by decide) (fun c_8 => ?_) (fun c_8 => ?_)
      · refine lv_iconst (v := 0) hx hb dM_gate_33 (by decide) ?_
        exact fm_zret hx hb hr rfl hlocks hW (Or.inl ⟨rfl, fun z => z.2.2.1 ((fs_if0 er_5).1 c_8), hM, hMf⟩) dM_gate_34
      · have h3 := (fs_if0 er_5).2 c_8
        refine lv_aload_n hx hb dM_gate_23 rfl (lv_at hl 0 rfl) ?_
        refine fm_get (ci := 4) (v := .int (nI (cn 1))) (C := RM) (T := TM) (N := 30) hx hb hT inM hown hK hW f_2 rfl 2 (by decide) (hT _ fl_M_71) (fun _ h9 => h9) rfl dM_gate_24 ?_
        refine lv_sipush (v := 300) hx hb dM_gate_27 (by decide) ?_
        refine lv_icmp_ne (tgt := 35) hx hb dM_gate_30 (by decide) (fun c_9 => ?_) (fun c_9 => ?_)
        · have h4 : nI (cn 1) < 300 := fs_ne3 (N := 300) (by decide) c_9 hB2
          have h300 : cn 1 < 300 := (nI_ltI (b := 300) (by omega) (by decide)).mp h4
          refine lv_iload_n hx hb dM_gate_35 rfl (lv_at hl 1 rfl) ?_
          refine lv_iconst (v := 2) hx hb dM_gate_36 (by decide) ?_
          refine lv_icmp_lt (tgt := 60) hx hb dM_gate_37 (by decide) (fun c_10 => ?_) (fun c_10 => ?_)
          · have hgk : fs_gk cn k a c0 := ⟨c_3, c_4, h3, h4, fun z => absurd z (fs_n234 (Or.inl c_10))⟩
            refine lv_aload_n hx hb dM_gate_60 rfl (lv_at hl 0 rfl) ?_
            refine lv_iload_n hx hb dM_gate_61 rfl (lv_at hl 1 rfl) ?_
            refine lv_iload_n hx hb dM_gate_62 rfl (lv_at hl 2 rfl) ?_
            refine lv_iload_n hx hb dM_gate_63 rfl (lv_at hl 3 rfl) ?_
            refine fm_callv (va_runV (As := [.int k, .int a, .int c0]) (rest := []) ⟨hx, hb, hml, hown, hts⟩ (c_M_act l D ct A M_1 b cn (va_up si 0 0) sl ia la k a c0 hM h300) ⟨callB_of 3 hts (fs_gin co_M_act) rfl rfl rfl (hT _ ini_M) (hT _ ml_M_87) (by decide +kernel) ⟨Nat.le_of_ble_eq_true rfl, Nat.le_of_ble_eq_true rfl⟩, hT _ im_M_act, hT _ se_M_act⟩ (fn_preV fs_isnw hK hN hW hM.1 rfl) rfl rfl hl.1 rfl (lv_room (Nat.le_of_ble_eq_true rfl)) dM_gate_64 ⟨Nat.le_of_ble_eq_true rfl, Nat.le_of_ble_eq_true rfl⟩) hW (fun M_12 H locs hp_13 hW => ?_)
            refine lv_iconst (v := 1) hx hb dM_gate_67 (by decide) ?_
            exact fm_zret hx hb hr rfl hlocks hW (Or.inr ⟨rfl, hgk, hp_13.1, fs_Mf_t hMf hp_13.2⟩) dM_gate_68
          · refine lv_iload_n hx hb dM_gate_40 rfl (lv_at hl 1 rfl) ?_
            refine lv_iconst (v := 4) hx hb dM_gate_41 (by decide) ?_
            refine lv_icmp_gt (tgt := 60) hx hb dM_gate_42 (by decide) (fun c_14 => ?_) (fun c_14 => ?_)
            · have hgk : fs_gk cn k a c0 := ⟨c_3, c_4, h3, h4, fun z => absurd z (fs_n234 (Or.inr c_14))⟩
              refine lv_aload_n hx hb dM_gate_60 rfl (lv_at hl 0 rfl) ?_
              refine lv_iload_n hx hb dM_gate_61 rfl (lv_at hl 1 rfl) ?_
              refine lv_iload_n hx hb dM_gate_62 rfl (lv_at hl 2 rfl) ?_
              refine lv_iload_n hx hb dM_gate_63 rfl (lv_at hl 3 rfl) ?_
              refine fm_callv (va_runV (As := [.int k, .int a, .int c0]) (rest := []) ⟨hx, hb, hml, hown, hts⟩ (c_M_act l D ct A M_1 b cn (va_up si 0 0) sl ia la k a c0 hM h300) ⟨callB_of 3 hts (fs_gin co_M_act) rfl rfl rfl (hT _ ini_M) (hT _ ml_M_87) (by decide +kernel) ⟨Nat.le_of_ble_eq_true rfl, Nat.le_of_ble_eq_true rfl⟩, hT _ im_M_act, hT _ se_M_act⟩ (fn_preV fs_isnw hK hN hW hM.1 rfl) rfl rfl hl.1 rfl (lv_room (Nat.le_of_ble_eq_true rfl)) dM_gate_64 ⟨Nat.le_of_ble_eq_true rfl, Nat.le_of_ble_eq_true rfl⟩) hW (fun M_16 H locs hp_17 hW => ?_)
              refine lv_iconst (v := 1) hx hb dM_gate_67 (by decide) ?_
              exact fm_zret hx hb hr rfl hlocks hW (Or.inr ⟨rfl, hgk, hp_17.1, fs_Mf_t hMf hp_17.2⟩) dM_gate_68
            · have h56 := fs_234 c_10 c_14
              refine lv_aload_n hx hb dM_gate_45 rfl (lv_at hl 0 rfl) ?_
              refine lv_iload_n hx hb dM_gate_46 rfl (lv_at hl 3 rfl) ?_
              refine fm_calli (va_runV (As := [.int c0]) (rest := []) ⟨hx, hb, hml, hown, hts⟩ (c_M_isWire l D ct A M_1 b cn (va_up si 0 0) sl ia la c0 hM) ⟨callB_of 1 hts (fs_gin co_M_isWire) rfl rfl rfl (hT _ ini_M) (hT _ ml_M_83) (by decide +kernel) ⟨Nat.le_of_ble_eq_true rfl, Nat.le_of_ble_eq_true rfl⟩, hT _ im_M_isWire, hT _ se_M_isWire⟩ (fn_preV fs_isnw hK hN hW hM.1 rfl) rfl rfl hl.1 rfl (lv_room (Nat.le_of_ble_eq_true rfl)) dM_gate_47 ⟨Nat.le_of_ble_eq_true rfl, Nat.le_of_ble_eq_true rfl⟩) hW (fun r_18 M_19 H locs hp_20 hW => ?_)
              have hW : fm_W D fs_cl5 A M_1 s.heap H locs := by rw [← hp_20.2]; exact hW
              have er_18 := hp_20.1
              refine lv_if_eq (tgt := 58) hx hb dM_gate_50 (by decide) (fun c_21 => ?_) (fun c_21 => ?_)
              · refine lv_iconst (v := 0) hx hb dM_gate_58 (by decide) ?_
                exact fm_zret hx hb hr rfl hlocks hW (Or.inl ⟨rfl, fun z => (z.2.2.2.2 h56).1 ((fs_if0 er_18).1 c_21), hM, hMf⟩) dM_gate_59
              · have h7 := (fs_if0 er_18).2 c_21
                refine lv_iload_n hx hb dM_gate_53 rfl (lv_at hl 2 rfl) ?_
                refine lv_iload_n hx hb dM_gate_54 rfl (lv_at hl 3 rfl) ?_
                refine lv_icmp_ne (tgt := 60) hx hb dM_gate_55 (by decide) (fun c_22 => ?_) (fun c_22 => ?_)
                · have hgk : fs_gk cn k a c0 := ⟨c_3, c_4, h3, h4, fun _ => ⟨h7, c_22⟩⟩
                  refine lv_aload_n hx hb dM_gate_60 rfl (lv_at hl 0 rfl) ?_
                  refine lv_iload_n hx hb dM_gate_61 rfl (lv_at hl 1 rfl) ?_
                  refine lv_iload_n hx hb dM_gate_62 rfl (lv_at hl 2 rfl) ?_
                  refine lv_iload_n hx hb dM_gate_63 rfl (lv_at hl 3 rfl) ?_
                  refine fm_callv (va_runV (As := [.int k, .int a, .int c0]) (rest := []) ⟨hx, hb, hml, hown, hts⟩ (c_M_act l D ct A M_1 b cn (va_up si 0 0) sl ia la k a c0 hM h300) ⟨callB_of 3 hts (fs_gin co_M_act) rfl rfl rfl (hT _ ini_M) (hT _ ml_M_87) (by decide +kernel) ⟨Nat.le_of_ble_eq_true rfl, Nat.le_of_ble_eq_true rfl⟩, hT _ im_M_act, hT _ se_M_act⟩ (fn_preV fs_isnw hK hN hW hM.1 rfl) rfl rfl hl.1 rfl (lv_room (Nat.le_of_ble_eq_true rfl)) dM_gate_64 ⟨Nat.le_of_ble_eq_true rfl, Nat.le_of_ble_eq_true rfl⟩) hW (fun M_24 H locs hp_25 hW => ?_)
                  refine lv_iconst (v := 1) hx hb dM_gate_67 (by decide) ?_
                  exact fm_zret hx hb hr rfl hlocks hW (Or.inr ⟨rfl, hgk, hp_25.1, fs_Mf_t hMf hp_25.2⟩) dM_gate_68
                · refine lv_iconst (v := 0) hx hb dM_gate_58 (by decide) ?_
                  exact fm_zret hx hb hr rfl hlocks hW (Or.inl ⟨rfl, fun z => (z.2.2.2.2 h56).2 c_22, hM, hMf⟩) dM_gate_59
        · refine lv_iconst (v := 0) hx hb dM_gate_33 (by decide) ?_
          exact fm_zret hx hb hr rfl hlocks hW (Or.inl ⟨rfl, fun z => fs_eq3 (N := 300) c_9 z.2.2.2.1, hM, hMf⟩) dM_gate_34
set_option maxHeartbeats 4000000 in
set_option maxRecDepth 100000 in
theorem c_M_look (l : Launch) (D : va_G) (ct : Nat → ClassId) (A : Nat → Prop) (M : fm_M) (b : Nat) (cn : Nat → Nat) (si : Nat → Int32) (sl : Nat → Int64) (ia : Nat → Nat → Int32) (la : Nat → Nat → Int64) (a rs : Int32) (hM : fs_MW ct M b cn si sl ia la) (hB : fs_Bd cn) : Met l yM_look wM_look ({ frames := 1, cells := 0, slots := 0, locals := 23 }) (va_Pc [.ref b, .int a, .int rs] (fm_St D fs_cl5 (fs_tys ct) fs_nw A M)) (va_Qi (fun (r : Int32) (M1 : fm_M) => (r = -1 ∧ ¬ fs_lk cn a ∧ fs_MW ct M1 b cn (va_up si 0 0) sl ia la ∧ fs_Mf b M M1) ∨ (r = nI (cn 2) ∧ fs_lk cn a ∧ fs_MW ct M1 b (va_up (va_up cn 1 (cn 1 + 1)) 2 (cn 2 + 1)) (va_up si 0 0) sl (va_up (va_up (va_up ia 1 (upd (ia 1) (cn 1) (if rs = 0 then 7 else 8))) 2 (upd (ia 2) (cn 1) a)) 3 (upd (ia 3) (cn 1) (nI (cn 2)))) la ∧ fs_Mf b M M1)) (fm_B D fs_cl5 A) A) 0 0 A := by
  refine Met.ofW (cc := cM_look) (maxL := 3) (ret := (some .int)) (by decide) rfl ?_
  intro p e s m args below meth c s₁ B hml hv
  obtain ⟨rfl, hP0, hA0, hA1, hK, hN⟩ := hv
  have hx := B.exec
  have hb := B.bytes
  have hr := B.returns
  have hts := atoms_spec (ws := wM_look) B.pre
  have hT : ∀ w ∈ fs_tb, w.before _ s = true := fun w h => hts w (List.mem_cons_of_mem _ h)
  have hown : s.vm.findClass "FrameSamplesModel" = some m.cls := findClass_of_methodNamed B.named
  have hlocks := B.notSynchronized
  have hW : fm_W D fs_cl5 A M s.heap s.heap [] := ⟨hP0, hA0, va_S.rf, hA1⟩
  have hl := lv_entry ([.ref b, .int a, .int rs]) (n := 3) (Nat.le_of_ble_eq_true rfl)
  rw [lg_entry_eq]
  generalize (lg_sl ([.ref b, .int a, .int rs]) ++ List.replicate (3 - (lg_sl ([.ref b, .int a, .int rs])).length) Slot.unset).toArray = ls at hl ⊢
  have hl : lv_has ls 3 [(0, .ref b), (1, .int a), (2, .int rs)] := hl
  obtain ⟨hB0, hB1, hB2, hB3, hB4, hB5⟩ := hB
  have hMf : fs_Mf b M M := fs_Mf_r
  refine lv_aload_n hx hb dM_look_0 rfl (lv_at hl 0 rfl) ?_
  refine lv_iconst (v := 0) hx hb dM_look_1 (by decide) ?_
  refine fm_put (ci := 4) (v := .int 0) (ty := .int) (C := RM) (T := TM) (N := 30) hx hb hT inM tyM tkM nmM hown hK hW hM.1 rfl 0 (by decide) (hT _ fl_M_64) (fun _ h9 => h9) rfl (by decide +kernel) rfl rfl (Nat.le_of_ble_eq_true rfl) dM_look_2 (fun H locs hW => ?_)
  obtain ⟨M_1, eM_1⟩ : ∃ z : fm_M, z = va_up M b (some (.inr (4, [.int 0, .int (nI (cn 0)), .int (nI (cn 1)), .int (nI (cn 2)), .int (nI (cn 3)), .int (nI (cn 4)), .ref (b + 1), .ref (b + 2), .ref (b + 3), .ref (b + 4), .ref (b + 5), .ref (b + 6), .ref (b + 7), .ref (b + 8), .ref (b + 9), .ref (b + 10), .ref (b + 11), .ref (b + 12), .ref (b + 13), .ref (b + 14), .int (si 20), .int (si 21), .int (si 22), .long (sl 23), .int (si 24), .int (si 25), .long (sl 26), .int (si 27), .ref (b + 15), .ref (b + 16)]))) := ⟨_, rfl⟩
  have hW : fm_W D fs_cl5 A M_1 s.heap H locs := by rw [eM_1]; exact hW
  have f_2 : M_1 b = some (.inr (4, [.int 0, .int (nI (cn 0)), .int (nI (cn 1)), .int (nI (cn 2)), .int (nI (cn 3)), .int (nI (cn 4)), .ref (b + 1), .ref (b + 2), .ref (b + 3), .ref (b + 4), .ref (b + 5), .ref (b + 6), .ref (b + 7), .ref (b + 8), .ref (b + 9), .ref (b + 10), .ref (b + 11), .ref (b + 12), .ref (b + 13), .ref (b + 14), .int (si 20), .int (si 21), .int (si 22), .long (sl 23), .int (si 24), .int (si 25), .long (sl 26), .int (si 27), .ref (b + 15), .ref (b + 16)])) := by rw [eM_1]; exact fm_us
  have hM : fs_MW ct M_1 b cn (va_up si 0 0) sl ia la := by rw [eM_1]; exact fs_MW_o hM cn (va_up si 0 0) sl
  have hMf : fs_Mf b M M_1 := by rw [eM_1]; exact fs_Mf_u hMf (by omega) _
  refine lv_aload_n hx hb dM_look_5 rfl (lv_at hl 0 rfl) ?_
  refine lv_iload_n hx hb dM_look_6 rfl (lv_at hl 1 rfl) ?_
  refine fm_calli (va_runV (As := [.int a]) (rest := []) ⟨hx, hb, hml, hown, hts⟩ (c_M_isWire l D ct A M_1 b cn (va_up si 0 0) sl ia la a hM) ⟨callB_of 1 hts (fs_gin co_M_isWire) rfl rfl rfl (hT _ ini_M) (hT _ ml_M_83) (by decide +kernel) ⟨Nat.le_of_ble_eq_true rfl, Nat.le_of_ble_eq_true rfl⟩, hT _ im_M_isWire, hT _ se_M_isWire⟩ (fn_preV fs_isnw hK hN hW hM.1 rfl) rfl rfl hl.1 rfl (lv_room (Nat.le_of_ble_eq_true rfl)) dM_look_7 ⟨Nat.le_of_ble_eq_true rfl, Nat.le_of_ble_eq_true rfl⟩) hW (fun r_3 M_4 H locs hp_5 hW => ?_)
  have hW : fm_W D fs_cl5 A M_1 s.heap H locs := by rw [← hp_5.2]; exact hW
  have er_3 := hp_5.1
  refine lv_if_eq (tgt := 32) hx hb dM_look_10 (by decide) (fun c_6 => ?_) (fun c_6 => ?_)
  · refine lv_iconst (v := -1) hx hb dM_look_32 (by decide) ?_
    exact fm_iret hx hb hr hlocks hW (Or.inl ⟨rfl, fun z => z.1 ((fs_if0 er_3).1 c_6), hM, hMf⟩) dM_look_33
  · have h1 := (fs_if0 er_3).2 c_6
    refine lv_aload_n hx hb dM_look_13 rfl (lv_at hl 0 rfl) ?_
    refine fm_get (ci := 4) (v := .int (nI (cn 2))) (C := RM) (T := TM) (N := 30) hx hb hT inM hown hK hW f_2 rfl 3 (by decide) (hT _ fl_M_74) (fun _ h9 => h9) rfl dM_look_14 ?_
    refine lv_bipush (v := 60) hx hb dM_look_17 (by decide) ?_
    refine lv_icmp_eq (tgt := 32) hx hb dM_look_19 (by decide) (fun c_7 => ?_) (fun c_7 => ?_)
    · refine lv_iconst (v := -1) hx hb dM_look_32 (by decide) ?_
      exact fm_iret hx hb hr hlocks hW (Or.inl ⟨rfl, fun z => z.2.1 (by rw [c_7]; decide), hM, hMf⟩) dM_look_33
    · have h2 : ¬ 60 ≤ nI (cn 2) := fun z => absurd (fs_ne3 (N := 60) (by decide) c_7 hB3) (Int32.not_lt.mpr z)
      refine lv_aload_n hx hb dM_look_22 rfl (lv_at hl 0 rfl) ?_
      refine fm_get (ci := 4) (v := .int (nI (cn 1))) (C := RM) (T := TM) (N := 30) hx hb hT inM hown hK hW f_2 rfl 2 (by decide) (hT _ fl_M_71) (fun _ h9 => h9) rfl dM_look_23 ?_
      refine lv_sipush (v := 300) hx hb dM_look_26 (by decide) ?_
      refine lv_icmp_ne (tgt := 34) hx hb dM_look_29 (by decide) (fun c_8 => ?_) (fun c_8 => ?_)
      · have h4 : nI (cn 1) < 300 := fs_ne3 (N := 300) (by decide) c_8 hB2
        have h300 : cn 1 < 300 := (nI_ltI (b := 300) (by omega) (by decide)).mp h4
        refine lv_aload_n hx hb dM_look_34 rfl (lv_at hl 0 rfl) ?_
        refine lv_iload_n hx hb dM_look_35 rfl (lv_at hl 2 rfl) ?_
        refine lv_if_eq (tgt := 44) hx hb dM_look_36 (by decide) (fun c_9 => ?_) (fun c_9 => ?_)
        · refine lv_bipush (v := 7) hx hb dM_look_44 (by decide) ?_
          refine lv_iload_n hx hb dM_look_46 rfl (lv_at hl 1 rfl) ?_
          refine lv_aload_n hx hb dM_look_47 rfl (lv_at hl 0 rfl) ?_
          refine fm_get (ci := 4) (v := .int (nI (cn 2))) (C := RM) (T := TM) (N := 30) hx hb hT inM hown hK hW f_2 rfl 3 (by decide) (hT _ fl_M_74) (fun _ h9 => h9) rfl dM_look_48 ?_
          refine fm_callv (va_runV (As := [.int 7, .int a, .int (nI (cn 2))]) (rest := []) ⟨hx, hb, hml, hown, hts⟩ (c_M_act l D ct A M_1 b cn (va_up si 0 0) sl ia la 7 a (nI (cn 2)) hM h300) ⟨callB_of 3 hts (fs_gin co_M_act) rfl rfl rfl (hT _ ini_M) (hT _ ml_M_87) (by decide +kernel) ⟨Nat.le_of_ble_eq_true rfl, Nat.le_of_ble_eq_true rfl⟩, hT _ im_M_act, hT _ se_M_act⟩ (fn_preV fs_isnw hK hN hW hM.1 rfl) rfl rfl hl.1 rfl (lv_room (Nat.le_of_ble_eq_true rfl)) dM_look_51 ⟨Nat.le_of_ble_eq_true rfl, Nat.le_of_ble_eq_true rfl⟩) hW (fun M_11 H locs hp_12 hW => ?_)
          have hM := hp_12.1
          have hMf := fs_Mf_t hMf hp_12.2
          refine lv_aload_n hx hb dM_look_54 rfl (lv_at hl 0 rfl) ?_
          refine lv_dup hx hb dM_look_55 rfl ?_
          refine fm_get (ci := 4) (v := .int (nI (cn 2))) (C := RM) (T := TM) (N := 30) hx hb hT inM hown hK hW hM.1 rfl 3 (by decide) (hT _ fl_M_74) (fun _ h9 => h9) rfl dM_look_56 ?_
          refine lv_iconst (v := 1) hx hb dM_look_59 (by decide) ?_
          refine lv_iadd hx hb dM_look_60 ?_
          refine lv_topi (fun x_13 ex_13 => ?_)
          have ex_13 : x_13 = nI (cn 2 + 1) := by rw [ex_13]; exact nI_1 _
          subst ex_13
          refine fm_put (ci := 4) (v := .int (nI (cn 2 + 1))) (ty := .int) (C := RM) (T := TM) (N := 30) hx hb hT inM tyM tkM nmM hown hK hW hM.1 rfl 3 (by decide) (hT _ fl_M_74) (fun _ h9 => h9) rfl (by decide +kernel) rfl rfl (Nat.le_of_ble_eq_true rfl) dM_look_61 (fun H locs hW => ?_)
          obtain ⟨M_14, eM_14⟩ : ∃ z : fm_M, z = va_up M_11 b (some (.inr (4, [.int ((va_up si 0 0) 0), .int (nI ((va_up cn 1 (cn 1 + 1)) 0)), .int (nI (cn 1 + 1)), .int (nI (cn 2 + 1)), .int (nI ((va_up cn 1 (cn 1 + 1)) 3)), .int (nI ((va_up cn 1 (cn 1 + 1)) 4)), .ref (b + 1), .ref (b + 2), .ref (b + 3), .ref (b + 4), .ref (b + 5), .ref (b + 6), .ref (b + 7), .ref (b + 8), .ref (b + 9), .ref (b + 10), .ref (b + 11), .ref (b + 12), .ref (b + 13), .ref (b + 14), .int ((va_up si 0 0) 20), .int ((va_up si 0 0) 21), .int ((va_up si 0 0) 22), .long (sl 23), .int ((va_up si 0 0) 24), .int ((va_up si 0 0) 25), .long (sl 26), .int ((va_up si 0 0) 27), .ref (b + 15), .ref (b + 16)]))) := ⟨_, rfl⟩
          have hW : fm_W D fs_cl5 A M_14 s.heap H locs := by rw [eM_14]; exact hW
          have f_15 : M_14 b = some (.inr (4, [.int ((va_up si 0 0) 0), .int (nI ((va_up cn 1 (cn 1 + 1)) 0)), .int (nI (cn 1 + 1)), .int (nI (cn 2 + 1)), .int (nI ((va_up cn 1 (cn 1 + 1)) 3)), .int (nI ((va_up cn 1 (cn 1 + 1)) 4)), .ref (b + 1), .ref (b + 2), .ref (b + 3), .ref (b + 4), .ref (b + 5), .ref (b + 6), .ref (b + 7), .ref (b + 8), .ref (b + 9), .ref (b + 10), .ref (b + 11), .ref (b + 12), .ref (b + 13), .ref (b + 14), .int ((va_up si 0 0) 20), .int ((va_up si 0 0) 21), .int ((va_up si 0 0) 22), .long (sl 23), .int ((va_up si 0 0) 24), .int ((va_up si 0 0) 25), .long (sl 26), .int ((va_up si 0 0) 27), .ref (b + 15), .ref (b + 16)])) := by rw [eM_14]; exact fm_us
          have hM : fs_MW ct M_14 b (va_up (va_up cn 1 (cn 1 + 1)) 2 (cn 2 + 1)) (va_up si 0 0) sl (va_up (va_up (va_up ia 1 (upd (ia 1) (cn 1) 7)) 2 (upd (ia 2) (cn 1) a)) 3 (upd (ia 3) (cn 1) (nI (cn 2)))) la := by rw [eM_14]; exact fs_MW_o hM (va_up (va_up cn 1 (cn 1 + 1)) 2 (cn 2 + 1)) (va_up si 0 0) sl
          have hMf : fs_Mf b M M_14 := by rw [eM_14]; exact fs_Mf_u hMf (by omega) _
          refine lv_aload_n hx hb dM_look_64 rfl (lv_at hl 0 rfl) ?_
          refine fm_get (ci := 4) (v := .int (nI (cn 2 + 1))) (C := RM) (T := TM) (N := 30) hx hb hT inM hown hK hW f_15 rfl 3 (by decide) (hT _ fl_M_74) (fun _ h9 => h9) rfl dM_look_65 ?_
          refine lv_iconst (v := 1) hx hb dM_look_68 (by decide) ?_
          refine lv_isub hx hb dM_look_69 ?_
          rw [show (7 : Int32) = (if rs = 0 then 7 else 8) from (if_pos c_9).symm] at hM
          exact fm_iret hx hb hr hlocks hW (Or.inr ⟨nI_pred _, ⟨h1, h2, h4⟩, hM, hMf⟩) dM_look_70
        · refine lv_bipush (v := 8) hx hb dM_look_39 (by decide) ?_
          refine lv_goto (tgt := 46) hx hb dM_look_41 (by decide) ?_
          refine lv_iload_n hx hb dM_look_46 rfl (lv_at hl 1 rfl) ?_
          refine lv_aload_n hx hb dM_look_47 rfl (lv_at hl 0 rfl) ?_
          refine fm_get (ci := 4) (v := .int (nI (cn 2))) (C := RM) (T := TM) (N := 30) hx hb hT inM hown hK hW f_2 rfl 3 (by decide) (hT _ fl_M_74) (fun _ h9 => h9) rfl dM_look_48 ?_
          refine fm_callv (va_runV (As := [.int 8, .int a, .int (nI (cn 2))]) (rest := []) ⟨hx, hb, hml, hown, hts⟩ (c_M_act l D ct A M_1 b cn (va_up si 0 0) sl ia la 8 a (nI (cn 2)) hM h300) ⟨callB_of 3 hts (fs_gin co_M_act) rfl rfl rfl (hT _ ini_M) (hT _ ml_M_87) (by decide +kernel) ⟨Nat.le_of_ble_eq_true rfl, Nat.le_of_ble_eq_true rfl⟩, hT _ im_M_act, hT _ se_M_act⟩ (fn_preV fs_isnw hK hN hW hM.1 rfl) rfl rfl hl.1 rfl (lv_room (Nat.le_of_ble_eq_true rfl)) dM_look_51 ⟨Nat.le_of_ble_eq_true rfl, Nat.le_of_ble_eq_true rfl⟩) hW (fun M_17 H locs hp_18 hW => ?_)
          have hM := hp_18.1
          have hMf := fs_Mf_t hMf hp_18.2
          refine lv_aload_n hx hb dM_look_54 rfl (lv_at hl 0 rfl) ?_
          refine lv_dup hx hb dM_look_55 rfl ?_
          refine fm_get (ci := 4) (v := .int (nI (cn 2))) (C := RM) (T := TM) (N := 30) hx hb hT inM hown hK hW hM.1 rfl 3 (by decide) (hT _ fl_M_74) (fun _ h9 => h9) rfl dM_look_56 ?_
          refine lv_iconst (v := 1) hx hb dM_look_59 (by decide) ?_
          refine lv_iadd hx hb dM_look_60 ?_
          refine lv_topi (fun x_19 ex_19 => ?_)
          have ex_19 : x_19 = nI (cn 2 + 1) := by rw [ex_19]; exact nI_1 _
          subst ex_19
          refine fm_put (ci := 4) (v := .int (nI (cn 2 + 1))) (ty := .int) (C := RM) (T := TM) (N := 30) hx hb hT inM tyM tkM nmM hown hK hW hM.1 rfl 3 (by decide) (hT _ fl_M_74) (fun _ h9 => h9) rfl (by decide +kernel) rfl rfl (Nat.le_of_ble_eq_true rfl) dM_look_61 (fun H locs hW => ?_)
          obtain ⟨M_20, eM_20⟩ : ∃ z : fm_M, z = va_up M_17 b (some (.inr (4, [.int ((va_up si 0 0) 0), .int (nI ((va_up cn 1 (cn 1 + 1)) 0)), .int (nI (cn 1 + 1)), .int (nI (cn 2 + 1)), .int (nI ((va_up cn 1 (cn 1 + 1)) 3)), .int (nI ((va_up cn 1 (cn 1 + 1)) 4)), .ref (b + 1), .ref (b + 2), .ref (b + 3), .ref (b + 4), .ref (b + 5), .ref (b + 6), .ref (b + 7), .ref (b + 8), .ref (b + 9), .ref (b + 10), .ref (b + 11), .ref (b + 12), .ref (b + 13), .ref (b + 14), .int ((va_up si 0 0) 20), .int ((va_up si 0 0) 21), .int ((va_up si 0 0) 22), .long (sl 23), .int ((va_up si 0 0) 24), .int ((va_up si 0 0) 25), .long (sl 26), .int ((va_up si 0 0) 27), .ref (b + 15), .ref (b + 16)]))) := ⟨_, rfl⟩
          have hW : fm_W D fs_cl5 A M_20 s.heap H locs := by rw [eM_20]; exact hW
          have f_21 : M_20 b = some (.inr (4, [.int ((va_up si 0 0) 0), .int (nI ((va_up cn 1 (cn 1 + 1)) 0)), .int (nI (cn 1 + 1)), .int (nI (cn 2 + 1)), .int (nI ((va_up cn 1 (cn 1 + 1)) 3)), .int (nI ((va_up cn 1 (cn 1 + 1)) 4)), .ref (b + 1), .ref (b + 2), .ref (b + 3), .ref (b + 4), .ref (b + 5), .ref (b + 6), .ref (b + 7), .ref (b + 8), .ref (b + 9), .ref (b + 10), .ref (b + 11), .ref (b + 12), .ref (b + 13), .ref (b + 14), .int ((va_up si 0 0) 20), .int ((va_up si 0 0) 21), .int ((va_up si 0 0) 22), .long (sl 23), .int ((va_up si 0 0) 24), .int ((va_up si 0 0) 25), .long (sl 26), .int ((va_up si 0 0) 27), .ref (b + 15), .ref (b + 16)])) := by rw [eM_20]; exact fm_us
          have hM : fs_MW ct M_20 b (va_up (va_up cn 1 (cn 1 + 1)) 2 (cn 2 + 1)) (va_up si 0 0) sl (va_up (va_up (va_up ia 1 (upd (ia 1) (cn 1) 8)) 2 (upd (ia 2) (cn 1) a)) 3 (upd (ia 3) (cn 1) (nI (cn 2)))) la := by rw [eM_20]; exact fs_MW_o hM (va_up (va_up cn 1 (cn 1 + 1)) 2 (cn 2 + 1)) (va_up si 0 0) sl
          have hMf : fs_Mf b M M_20 := by rw [eM_20]; exact fs_Mf_u hMf (by omega) _
          refine lv_aload_n hx hb dM_look_64 rfl (lv_at hl 0 rfl) ?_
          refine fm_get (ci := 4) (v := .int (nI (cn 2 + 1))) (C := RM) (T := TM) (N := 30) hx hb hT inM hown hK hW f_21 rfl 3 (by decide) (hT _ fl_M_74) (fun _ h9 => h9) rfl dM_look_65 ?_
          refine lv_iconst (v := 1) hx hb dM_look_68 (by decide) ?_
          refine lv_isub hx hb dM_look_69 ?_
          rw [show (8 : Int32) = (if rs = 0 then 7 else 8) from (if_neg c_9).symm] at hM
          exact fm_iret hx hb hr hlocks hW (Or.inr ⟨nI_pred _, ⟨h1, h2, h4⟩, hM, hMf⟩) dM_look_70
      · refine lv_iconst (v := -1) hx hb dM_look_32 (by decide) ?_
        exact fm_iret hx hb hr hlocks hW (Or.inl ⟨rfl, fun z => fs_eq3 (N := 300) c_8 z.2.2, hM, hMf⟩) dM_look_33
set_option maxHeartbeats 4000000 in
set_option maxRecDepth 100000 in
theorem c_M_fault (l : Launch) (D : va_G) (ct : Nat → ClassId) (A : Nat → Prop) (M : fm_M) (b : Nat) (cn : Nat → Nat) (si : Nat → Int32) (sl : Nat → Int64) (ia : Nat → Nat → Int32) (la : Nat → Nat → Int64) (wh a k : Int32) (hM : fs_MW ct M b cn si sl ia la) (hB : fs_Bd cn) : Met l yM_fault wM_fault ({ frames := 1, cells := 0, slots := 0, locals := 23 }) (va_Pc [.ref b, .int wh, .int a, .int k] (fm_St D fs_cl5 (fs_tys ct) fs_nw A M)) (va_Qi (fun (r : Int32) (M1 : fm_M) => (r = -1 ∧ ¬ fs_fk cn wh a k ∧ fs_MW ct M1 b cn (va_up si 0 0) sl ia la ∧ fs_Mf b M M1) ∨ (r = nI (cn 3) ∧ fs_fk cn wh a k ∧ fs_MW ct M1 b (va_up (va_up cn 1 (cn 1 + 1)) 3 (cn 3 + 1)) (va_up si 0 0) sl (va_up (va_up (va_up (va_up (va_up (va_up ia 4 (upd (ia 4) (cn 3) (nI (cn 1)))) 5 (upd (ia 5) (cn 3) wh)) 6 (upd (ia 6) (cn 3) k)) 1 (upd (ia 1) (cn 1) 9)) 2 (upd (ia 2) (cn 1) a)) 3 (upd (ia 3) (cn 1) (nI (cn 3)))) la ∧ fs_Mf b M M1)) (fm_B D fs_cl5 A) A) 0 0 A := by
  refine Met.ofW (cc := cM_fault) (maxL := 4) (ret := (some .int)) (by decide) rfl ?_
  intro p e s m args below meth c s₁ B hml hv
  obtain ⟨rfl, hP0, hA0, hA1, hK, hN⟩ := hv
  have hx := B.exec
  have hb := B.bytes
  have hr := B.returns
  have hts := atoms_spec (ws := wM_fault) B.pre
  have hT : ∀ w ∈ fs_tb, w.before _ s = true := fun w h => hts w (List.mem_cons_of_mem _ h)
  have hown : s.vm.findClass "FrameSamplesModel" = some m.cls := findClass_of_methodNamed B.named
  have hlocks := B.notSynchronized
  have hW : fm_W D fs_cl5 A M s.heap s.heap [] := ⟨hP0, hA0, va_S.rf, hA1⟩
  have hl := lv_entry ([.ref b, .int wh, .int a, .int k]) (n := 4) (Nat.le_of_ble_eq_true rfl)
  rw [lg_entry_eq]
  generalize (lg_sl ([.ref b, .int wh, .int a, .int k]) ++ List.replicate (4 - (lg_sl ([.ref b, .int wh, .int a, .int k])).length) Slot.unset).toArray = ls at hl ⊢
  have hl : lv_has ls 4 [(0, .ref b), (1, .int wh), (2, .int a), (3, .int k)] := hl
  obtain ⟨hB0, hB1, hB2, hB3, hB4, hB5⟩ := hB
  have hMf : fs_Mf b M M := fs_Mf_r
  refine lv_aload_n hx hb dM_fault_0 rfl (lv_at hl 0 rfl) ?_
  refine lv_iconst (v := 0) hx hb dM_fault_1 (by decide) ?_
  refine fm_put (ci := 4) (v := .int 0) (ty := .int) (C := RM) (T := TM) (N := 30) hx hb hT inM tyM tkM nmM hown hK hW hM.1 rfl 0 (by decide) (hT _ fl_M_64) (fun _ h9 => h9) rfl (by decide +kernel) rfl rfl (Nat.le_of_ble_eq_true rfl) dM_fault_2 (fun H locs hW => ?_)
  obtain ⟨M_1, eM_1⟩ : ∃ z : fm_M, z = va_up M b (some (.inr (4, [.int 0, .int (nI (cn 0)), .int (nI (cn 1)), .int (nI (cn 2)), .int (nI (cn 3)), .int (nI (cn 4)), .ref (b + 1), .ref (b + 2), .ref (b + 3), .ref (b + 4), .ref (b + 5), .ref (b + 6), .ref (b + 7), .ref (b + 8), .ref (b + 9), .ref (b + 10), .ref (b + 11), .ref (b + 12), .ref (b + 13), .ref (b + 14), .int (si 20), .int (si 21), .int (si 22), .long (sl 23), .int (si 24), .int (si 25), .long (sl 26), .int (si 27), .ref (b + 15), .ref (b + 16)]))) := ⟨_, rfl⟩
  have hW : fm_W D fs_cl5 A M_1 s.heap H locs := by rw [eM_1]; exact hW
  have f_2 : M_1 b = some (.inr (4, [.int 0, .int (nI (cn 0)), .int (nI (cn 1)), .int (nI (cn 2)), .int (nI (cn 3)), .int (nI (cn 4)), .ref (b + 1), .ref (b + 2), .ref (b + 3), .ref (b + 4), .ref (b + 5), .ref (b + 6), .ref (b + 7), .ref (b + 8), .ref (b + 9), .ref (b + 10), .ref (b + 11), .ref (b + 12), .ref (b + 13), .ref (b + 14), .int (si 20), .int (si 21), .int (si 22), .long (sl 23), .int (si 24), .int (si 25), .long (sl 26), .int (si 27), .ref (b + 15), .ref (b + 16)])) := by rw [eM_1]; exact fm_us
  have hM : fs_MW ct M_1 b cn (va_up si 0 0) sl ia la := by rw [eM_1]; exact fs_MW_o hM cn (va_up si 0 0) sl
  have hMf : fs_Mf b M M_1 := by rw [eM_1]; exact fs_Mf_u hMf (by omega) _
  refine lv_iload_n hx hb dM_fault_5 rfl (lv_at hl 1 rfl) ?_
  refine lv_if_lt (tgt := 51) hx hb dM_fault_6 (by decide) (fun c_3 => ?_) (fun c_3 => ?_)
  · refine lv_iconst (v := -1) hx hb dM_fault_51 (by decide) ?_
    exact fm_iret hx hb hr hlocks hW (Or.inl ⟨rfl, fun z => z.1 c_3, hM, hMf⟩) dM_fault_52
  · refine lv_iload_n hx hb dM_fault_9 rfl (lv_at hl 1 rfl) ?_
    refine lv_iconst (v := 2) hx hb dM_fault_10 (by decide) ?_
    refine lv_icmp_gt (tgt := 51) hx hb dM_fault_11 (by decide) (fun c_4 => ?_) (fun c_4 => ?_)
    · refine lv_iconst (v := -1) hx hb dM_fault_51 (by decide) ?_
      exact fm_iret hx hb hr hlocks hW (Or.inl ⟨rfl, fun z => z.2.1 c_4, hM, hMf⟩) dM_fault_52
    · refine lv_aload_n hx hb dM_fault_14 rfl (lv_at hl 0 rfl) ?_
      refine lv_iload_n hx hb dM_fault_15 rfl (lv_at hl 2 rfl) ?_
      refine fm_calli (va_runV (As := [.int a]) (rest := []) ⟨hx, hb, hml, hown, hts⟩ (c_M_isWire l D ct A M_1 b cn (va_up si 0 0) sl ia la a hM) ⟨callB_of 1 hts (fs_gin co_M_isWire) rfl rfl rfl (hT _ ini_M) (hT _ ml_M_83) (by decide +kernel) ⟨Nat.le_of_ble_eq_true rfl, Nat.le_of_ble_eq_true rfl⟩, hT _ im_M_isWire, hT _ se_M_isWire⟩ (fn_preV fs_isnw hK hN hW hM.1 rfl) rfl rfl hl.1 rfl (lv_room (Nat.le_of_ble_eq_true rfl)) dM_fault_16 ⟨Nat.le_of_ble_eq_true rfl, Nat.le_of_ble_eq_true rfl⟩) hW (fun r_5 M_6 H locs hp_7 hW => ?_)
      have hW : fm_W D fs_cl5 A M_1 s.heap H locs := by rw [← hp_7.2]; exact hW
      have er_5 := hp_7.1
      refine lv_if_eq (tgt := 51) hx hb dM_fault_19 (by decide) (fun c_8 => ?_) (fun c_8 => ?_)
      · refine lv_iconst (v := -1) hx hb dM_fault_51 (by decide) ?_
        exact fm_iret hx hb hr hlocks hW (Or.inl ⟨rfl, fun z => z.2.2.1 ((fs_if0 er_5).1 c_8), hM, hMf⟩) dM_fault_52
      · have h3 := (fs_if0 er_5).2 c_8
        refine lv_iload_n hx hb dM_fault_22 rfl (lv_at hl 3 rfl) ?_
        refine lv_if_lt (tgt := 51) hx hb dM_fault_23 (by decide) (fun c_9 => ?_) (fun c_9 => ?_)
        · refine lv_iconst (v := -1) hx hb dM_fault_51 (by decide) ?_
          exact fm_iret hx hb hr hlocks hW (Or.inl ⟨rfl, fun z => z.2.2.2.1 c_9, hM, hMf⟩) dM_fault_52
        · refine lv_iload_n hx hb dM_fault_26 rfl (lv_at hl 3 rfl) ?_
          refine lv_bipush (v := 16) hx hb dM_fault_27 (by decide) ?_
          refine lv_icmp_gt (tgt := 51) hx hb dM_fault_29 (by decide) (fun c_10 => ?_) (fun c_10 => ?_)
          · refine lv_iconst (v := -1) hx hb dM_fault_51 (by decide) ?_
            exact fm_iret hx hb hr hlocks hW (Or.inl ⟨rfl, fun z => absurd c_10 (Int32.not_lt.mpr z.2.2.2.2.1), hM, hMf⟩) dM_fault_52
          · refine lv_aload_n hx hb dM_fault_32 rfl (lv_at hl 0 rfl) ?_
            refine fm_get (ci := 4) (v := .int (nI (cn 3))) (C := RM) (T := TM) (N := 30) hx hb hT inM hown hK hW f_2 rfl 4 (by decide) (hT _ fl_M_77) (fun _ h9 => h9) rfl dM_fault_33 ?_
            refine lv_bipush (v := 40) hx hb dM_fault_36 (by decide) ?_
            refine lv_icmp_eq (tgt := 51) hx hb dM_fault_38 (by decide) (fun c_11 => ?_) (fun c_11 => ?_)
            · refine lv_iconst (v := -1) hx hb dM_fault_51 (by decide) ?_
              exact fm_iret hx hb hr hlocks hW (Or.inl ⟨rfl, fun z => z.2.2.2.2.2.1 (by rw [c_11]; decide), hM, hMf⟩) dM_fault_52
            · have h6 : ¬ 40 ≤ nI (cn 3) := fun z => absurd (fs_ne3 (N := 40) (by decide) c_11 hB4) (Int32.not_lt.mpr z)
              have h40 : cn 3 < 40 := fs_cge (N := 40) (by decide) h6 (by omega)
              refine lv_aload_n hx hb dM_fault_41 rfl (lv_at hl 0 rfl) ?_
              refine fm_get (ci := 4) (v := .int (nI (cn 1))) (C := RM) (T := TM) (N := 30) hx hb hT inM hown hK hW f_2 rfl 2 (by decide) (hT _ fl_M_71) (fun _ h9 => h9) rfl dM_fault_42 ?_
              refine lv_sipush (v := 300) hx hb dM_fault_45 (by decide) ?_
              refine lv_icmp_ne (tgt := 53) hx hb dM_fault_48 (by decide) (fun c_12 => ?_) (fun c_12 => ?_)
              · have h4 : nI (cn 1) < 300 := fs_ne3 (N := 300) (by decide) c_12 hB2
                have h300 : cn 1 < 300 := (nI_ltI (b := 300) (by omega) (by decide)).mp h4
                refine lv_aload_n hx hb dM_fault_53 rfl (lv_at hl 0 rfl) ?_
                refine fm_get (ci := 4) (v := .ref (b + 4)) (C := RM) (T := TM) (N := 30) hx hb hT inM hown hK hW f_2 rfl 9 (by decide) (hT _ fl_M_19) (fun _ h9 => h9) rfl dM_fault_54 ?_
                refine lv_aload_n hx hb dM_fault_57 rfl (lv_at hl 0 rfl) ?_
                refine fm_get (ci := 4) (v := .int (nI (cn 3))) (C := RM) (T := TM) (N := 30) hx hb hT inM hown hK hW f_2 rfl 4 (by decide) (hT _ fl_M_77) (fun _ h9 => h9) rfl dM_fault_58 ?_
                refine lv_aload_n hx hb dM_fault_61 rfl (lv_at hl 0 rfl) ?_
                refine fm_get (ci := 4) (v := .int (nI (cn 1))) (C := RM) (T := TM) (N := 30) hx hb hT inM hown hK hW f_2 rfl 2 (by decide) (hT _ fl_M_71) (fun _ h9 => h9) rfl dM_fault_62 ?_
                refine fn_iast (n := 40) (f := ia 4) hx hb hK hW 0 (hM.2.1 4 rfl) rfl (show (cn 3) < 40 by omega) (by decide) dM_fault_65 (fun H locs hW => ?_)
                obtain ⟨M_13, eM_13⟩ : ∃ z : fm_M, z = va_up M_1 (b + 4) (some (.inl (ct 0, 40, .inl (upd (ia 4) (cn 3) (nI (cn 1)))))) := ⟨_, rfl⟩
                have hW : fm_W D fs_cl5 A M_13 s.heap H locs := by rw [eM_13]; exact hW
                have hM : fs_MW ct M_13 b cn (va_up si 0 0) sl (va_up ia 4 (upd (ia 4) (cn 3) (nI (cn 1)))) la := by rw [eM_13]; exact fs_MW_i hM 4 rfl _
                have hMf : fs_Mf b M M_13 := by rw [eM_13]; exact fs_Mf_u hMf (by omega) _
                refine lv_aload_n hx hb dM_fault_66 rfl (lv_at hl 0 rfl) ?_
                refine fm_get (ci := 4) (v := .ref (b + 5)) (C := RM) (T := TM) (N := 30) hx hb hT inM hown hK hW hM.1 rfl 10 (by decide) (hT _ fl_M_22) (fun _ h9 => h9) rfl dM_fault_67 ?_
                refine lv_aload_n hx hb dM_fault_70 rfl (lv_at hl 0 rfl) ?_
                refine fm_get (ci := 4) (v := .int (nI (cn 3))) (C := RM) (T := TM) (N := 30) hx hb hT inM hown hK hW hM.1 rfl 4 (by decide) (hT _ fl_M_77) (fun _ h9 => h9) rfl dM_fault_71 ?_
                refine lv_iload_n hx hb dM_fault_74 rfl (lv_at hl 1 rfl) ?_
                refine fn_iast (n := 40) (f := ia 5) hx hb hK hW 0 (hM.2.1 5 rfl) rfl (show (cn 3) < 40 by omega) (by decide) dM_fault_75 (fun H locs hW => ?_)
                obtain ⟨M_14, eM_14⟩ : ∃ z : fm_M, z = va_up M_13 (b + 5) (some (.inl (ct 0, 40, .inl (upd (ia 5) (cn 3) wh)))) := ⟨_, rfl⟩
                have hW : fm_W D fs_cl5 A M_14 s.heap H locs := by rw [eM_14]; exact hW
                have hM : fs_MW ct M_14 b cn (va_up si 0 0) sl (va_up (va_up ia 4 (upd (ia 4) (cn 3) (nI (cn 1)))) 5 (upd (ia 5) (cn 3) wh)) la := by rw [eM_14]; exact fs_MW_i hM 5 rfl _
                have hMf : fs_Mf b M M_14 := by rw [eM_14]; exact fs_Mf_u hMf (by omega) _
                refine lv_aload_n hx hb dM_fault_76 rfl (lv_at hl 0 rfl) ?_
                refine fm_get (ci := 4) (v := .ref (b + 6)) (C := RM) (T := TM) (N := 30) hx hb hT inM hown hK hW hM.1 rfl 11 (by decide) (hT _ fl_M_25) (fun _ h9 => h9) rfl dM_fault_77 ?_
                refine lv_aload_n hx hb dM_fault_80 rfl (lv_at hl 0 rfl) ?_
                refine fm_get (ci := 4) (v := .int (nI (cn 3))) (C := RM) (T := TM) (N := 30) hx hb hT inM hown hK hW hM.1 rfl 4 (by decide) (hT _ fl_M_77) (fun _ h9 => h9) rfl dM_fault_81 ?_
                refine lv_iload_n hx hb dM_fault_84 rfl (lv_at hl 3 rfl) ?_
                refine fn_iast (n := 40) (f := ia 6) hx hb hK hW 0 (hM.2.1 6 rfl) rfl (show (cn 3) < 40 by omega) (by decide) dM_fault_85 (fun H locs hW => ?_)
                obtain ⟨M_15, eM_15⟩ : ∃ z : fm_M, z = va_up M_14 (b + 6) (some (.inl (ct 0, 40, .inl (upd (ia 6) (cn 3) k)))) := ⟨_, rfl⟩
                have hW : fm_W D fs_cl5 A M_15 s.heap H locs := by rw [eM_15]; exact hW
                have hM : fs_MW ct M_15 b cn (va_up si 0 0) sl (va_up (va_up (va_up ia 4 (upd (ia 4) (cn 3) (nI (cn 1)))) 5 (upd (ia 5) (cn 3) wh)) 6 (upd (ia 6) (cn 3) k)) la := by rw [eM_15]; exact fs_MW_i hM 6 rfl _
                have hMf : fs_Mf b M M_15 := by rw [eM_15]; exact fs_Mf_u hMf (by omega) _
                refine lv_aload_n hx hb dM_fault_86 rfl (lv_at hl 0 rfl) ?_
                refine lv_bipush (v := 9) hx hb dM_fault_87 (by decide) ?_
                refine lv_iload_n hx hb dM_fault_89 rfl (lv_at hl 2 rfl) ?_
                refine lv_aload_n hx hb dM_fault_90 rfl (lv_at hl 0 rfl) ?_
                refine fm_get (ci := 4) (v := .int (nI (cn 3))) (C := RM) (T := TM) (N := 30) hx hb hT inM hown hK hW hM.1 rfl 4 (by decide) (hT _ fl_M_77) (fun _ h9 => h9) rfl dM_fault_91 ?_
                refine fm_callv (va_runV (As := [.int 9, .int a, .int (nI (cn 3))]) (rest := []) ⟨hx, hb, hml, hown, hts⟩ (c_M_act l D ct A M_15 b cn (va_up si 0 0) sl (va_up (va_up (va_up ia 4 (upd (ia 4) (cn 3) (nI (cn 1)))) 5 (upd (ia 5) (cn 3) wh)) 6 (upd (ia 6) (cn 3) k)) la 9 a (nI (cn 3)) hM h300) ⟨callB_of 3 hts (fs_gin co_M_act) rfl rfl rfl (hT _ ini_M) (hT _ ml_M_87) (by decide +kernel) ⟨Nat.le_of_ble_eq_true rfl, Nat.le_of_ble_eq_true rfl⟩, hT _ im_M_act, hT _ se_M_act⟩ (fn_preV fs_isnw hK hN hW hM.1 rfl) rfl rfl hl.1 rfl (lv_room (Nat.le_of_ble_eq_true rfl)) dM_fault_94 ⟨Nat.le_of_ble_eq_true rfl, Nat.le_of_ble_eq_true rfl⟩) hW (fun M_17 H locs hp_18 hW => ?_)
                have hM : fs_MW ct M_17 b (va_up cn 1 (cn 1 + 1)) (va_up si 0 0) sl (va_up (va_up (va_up (va_up (va_up (va_up ia 4 (upd (ia 4) (cn 3) (nI (cn 1)))) 5 (upd (ia 5) (cn 3) wh)) 6 (upd (ia 6) (cn 3) k)) 1 (upd (ia 1) (cn 1) 9)) 2 (upd (ia 2) (cn 1) a)) 3 (upd (ia 3) (cn 1) (nI (cn 3)))) la := hp_18.1
                have hMf := fs_Mf_t hMf hp_18.2
                refine lv_aload_n hx hb dM_fault_97 rfl (lv_at hl 0 rfl) ?_
                refine lv_dup hx hb dM_fault_98 rfl ?_
                refine fm_get (ci := 4) (v := .int (nI (cn 3))) (C := RM) (T := TM) (N := 30) hx hb hT inM hown hK hW hM.1 rfl 4 (by decide) (hT _ fl_M_77) (fun _ h9 => h9) rfl dM_fault_99 ?_
                refine lv_iconst (v := 1) hx hb dM_fault_102 (by decide) ?_
                refine lv_iadd hx hb dM_fault_103 ?_
                refine lv_topi (fun x_19 ex_19 => ?_)
                have ex_19 : x_19 = nI (cn 3 + 1) := by rw [ex_19]; exact nI_1 _
                subst ex_19
                refine fm_put (ci := 4) (v := .int (nI (cn 3 + 1))) (ty := .int) (C := RM) (T := TM) (N := 30) hx hb hT inM tyM tkM nmM hown hK hW hM.1 rfl 4 (by decide) (hT _ fl_M_77) (fun _ h9 => h9) rfl (by decide +kernel) rfl rfl (Nat.le_of_ble_eq_true rfl) dM_fault_104 (fun H locs hW => ?_)
                obtain ⟨M_20, eM_20⟩ : ∃ z : fm_M, z = va_up M_17 b (some (.inr (4, [.int ((va_up si 0 0) 0), .int (nI ((va_up cn 1 (cn 1 + 1)) 0)), .int (nI (cn 1 + 1)), .int (nI ((va_up cn 1 (cn 1 + 1)) 2)), .int (nI (cn 3 + 1)), .int (nI ((va_up cn 1 (cn 1 + 1)) 4)), .ref (b + 1), .ref (b + 2), .ref (b + 3), .ref (b + 4), .ref (b + 5), .ref (b + 6), .ref (b + 7), .ref (b + 8), .ref (b + 9), .ref (b + 10), .ref (b + 11), .ref (b + 12), .ref (b + 13), .ref (b + 14), .int ((va_up si 0 0) 20), .int ((va_up si 0 0) 21), .int ((va_up si 0 0) 22), .long (sl 23), .int ((va_up si 0 0) 24), .int ((va_up si 0 0) 25), .long (sl 26), .int ((va_up si 0 0) 27), .ref (b + 15), .ref (b + 16)]))) := ⟨_, rfl⟩
                have hW : fm_W D fs_cl5 A M_20 s.heap H locs := by rw [eM_20]; exact hW
                have f_21 : M_20 b = some (.inr (4, [.int ((va_up si 0 0) 0), .int (nI ((va_up cn 1 (cn 1 + 1)) 0)), .int (nI (cn 1 + 1)), .int (nI ((va_up cn 1 (cn 1 + 1)) 2)), .int (nI (cn 3 + 1)), .int (nI ((va_up cn 1 (cn 1 + 1)) 4)), .ref (b + 1), .ref (b + 2), .ref (b + 3), .ref (b + 4), .ref (b + 5), .ref (b + 6), .ref (b + 7), .ref (b + 8), .ref (b + 9), .ref (b + 10), .ref (b + 11), .ref (b + 12), .ref (b + 13), .ref (b + 14), .int ((va_up si 0 0) 20), .int ((va_up si 0 0) 21), .int ((va_up si 0 0) 22), .long (sl 23), .int ((va_up si 0 0) 24), .int ((va_up si 0 0) 25), .long (sl 26), .int ((va_up si 0 0) 27), .ref (b + 15), .ref (b + 16)])) := by rw [eM_20]; exact fm_us
                have hM : fs_MW ct M_20 b (va_up (va_up cn 1 (cn 1 + 1)) 3 (cn 3 + 1)) (va_up si 0 0) sl (va_up (va_up (va_up (va_up (va_up (va_up ia 4 (upd (ia 4) (cn 3) (nI (cn 1)))) 5 (upd (ia 5) (cn 3) wh)) 6 (upd (ia 6) (cn 3) k)) 1 (upd (ia 1) (cn 1) 9)) 2 (upd (ia 2) (cn 1) a)) 3 (upd (ia 3) (cn 1) (nI (cn 3)))) la := by rw [eM_20]; exact fs_MW_o hM (va_up (va_up cn 1 (cn 1 + 1)) 3 (cn 3 + 1)) (va_up si 0 0) sl
                have hMf : fs_Mf b M M_20 := by rw [eM_20]; exact fs_Mf_u hMf (by omega) _
                refine lv_aload_n hx hb dM_fault_107 rfl (lv_at hl 0 rfl) ?_
                refine fm_get (ci := 4) (v := .int (nI (cn 3 + 1))) (C := RM) (T := TM) (N := 30) hx hb hT inM hown hK hW f_21 rfl 4 (by decide) (hT _ fl_M_77) (fun _ h9 => h9) rfl dM_fault_108 ?_
                refine lv_iconst (v := 1) hx hb dM_fault_111 (by decide) ?_
                refine lv_isub hx hb dM_fault_112 ?_
                exact fm_iret hx hb hr hlocks hW (Or.inr ⟨nI_pred _, ⟨c_3, c_4, h3, c_9, Int32.not_lt.mp c_10, h6, h4⟩, hM, hMf⟩) dM_fault_113
              · refine lv_iconst (v := -1) hx hb dM_fault_51 (by decide) ?_
                exact fm_iret hx hb hr hlocks hW (Or.inl ⟨rfl, fun z => fs_eq3 (N := 300) c_12 z.2.2.2.2.2.2, hM, hMf⟩) dM_fault_52
set_option maxHeartbeats 4000000 in
set_option maxRecDepth 100000 in
theorem c_M_check (l : Launch) (D : va_G) (ct : Nat → ClassId) (A : Nat → Prop) (M : fm_M) (b : Nat) (cn : Nat → Nat) (si : Nat → Int32) (sl : Nat → Int64) (ia : Nat → Nat → Int32) (la : Nat → Nat → Int64) (st : Int64) (hM : fs_MW ct M b cn si sl ia la) (hB : fs_Bd cn) : Met l yM_check wM_check ({ frames := 1, cells := 0, slots := 0, locals := 22 }) (va_Pc [.ref b, .long st] (fm_St D fs_cl5 (fs_tys ct) fs_nw A M)) (va_Qi (fun (r : Int32) (M1 : fm_M) => (r = -1 ∧ ¬ ((0 ≤ st ∧ fs_ushl st (nI (cn 2)) = 0) ∧ nI (cn 4) < 16) ∧ fs_MW ct M1 b cn (va_up si 0 0) sl ia la ∧ fs_Mf b M M1) ∨ (r = nI (cn 4) ∧ ((0 ≤ st ∧ fs_ushl st (nI (cn 2)) = 0) ∧ nI (cn 4) < 16) ∧ fs_MW ct M1 b (va_up cn 4 (cn 4 + 1)) (va_up si 0 0) sl ia (va_up la 7 (vp_updL (la 7) (cn 4) st)) ∧ fs_Mf b M M1)) (fm_B D fs_cl5 A) A) 0 0 A := by
  refine Met.ofW (cc := cM_check) (maxL := 3) (ret := (some .int)) (by decide) rfl ?_
  intro p e s m args below meth c s₁ B hml hv
  obtain ⟨rfl, hP0, hA0, hA1, hK, hN⟩ := hv
  have hx := B.exec
  have hb := B.bytes
  have hr := B.returns
  have hts := atoms_spec (ws := wM_check) B.pre
  have hT : ∀ w ∈ fs_tb, w.before _ s = true := fun w h => hts w (List.mem_cons_of_mem _ h)
  have hown : s.vm.findClass "FrameSamplesModel" = some m.cls := findClass_of_methodNamed B.named
  have hlocks := B.notSynchronized
  have hW : fm_W D fs_cl5 A M s.heap s.heap [] := ⟨hP0, hA0, va_S.rf, hA1⟩
  have hl := lv_entry ([.ref b, .long st]) (n := 3) (Nat.le_of_ble_eq_true rfl)
  rw [lg_entry_eq]
  generalize (lg_sl ([.ref b, .long st]) ++ List.replicate (3 - (lg_sl ([.ref b, .long st])).length) Slot.unset).toArray = ls at hl ⊢
  have hl : lv_has ls 3 [(0, .ref b), (1, .long st)] := hl
  obtain ⟨hB0, hB1, hB2, hB3, hB4, hB5⟩ := hB
  have hMf : fs_Mf b M M := fs_Mf_r
  refine lv_aload_n hx hb dM_check_0 rfl (lv_at hl 0 rfl) ?_
  refine lv_iconst (v := 0) hx hb dM_check_1 (by decide) ?_
  refine fm_put (ci := 4) (v := .int 0) (ty := .int) (C := RM) (T := TM) (N := 30) hx hb hT inM tyM tkM nmM hown hK hW hM.1 rfl 0 (by decide) (hT _ fl_M_64) (fun _ h9 => h9) rfl (by decide +kernel) rfl rfl (Nat.le_of_ble_eq_true rfl) dM_check_2 (fun H locs hW => ?_)
  obtain ⟨M_1, eM_1⟩ : ∃ z : fm_M, z = va_up M b (some (.inr (4, [.int 0, .int (nI (cn 0)), .int (nI (cn 1)), .int (nI (cn 2)), .int (nI (cn 3)), .int (nI (cn 4)), .ref (b + 1), .ref (b + 2), .ref (b + 3), .ref (b + 4), .ref (b + 5), .ref (b + 6), .ref (b + 7), .ref (b + 8), .ref (b + 9), .ref (b + 10), .ref (b + 11), .ref (b + 12), .ref (b + 13), .ref (b + 14), .int (si 20), .int (si 21), .int (si 22), .long (sl 23), .int (si 24), .int (si 25), .long (sl 26), .int (si 27), .ref (b + 15), .ref (b + 16)]))) := ⟨_, rfl⟩
  have hW : fm_W D fs_cl5 A M_1 s.heap H locs := by rw [eM_1]; exact hW
  have f_2 : M_1 b = some (.inr (4, [.int 0, .int (nI (cn 0)), .int (nI (cn 1)), .int (nI (cn 2)), .int (nI (cn 3)), .int (nI (cn 4)), .ref (b + 1), .ref (b + 2), .ref (b + 3), .ref (b + 4), .ref (b + 5), .ref (b + 6), .ref (b + 7), .ref (b + 8), .ref (b + 9), .ref (b + 10), .ref (b + 11), .ref (b + 12), .ref (b + 13), .ref (b + 14), .int (si 20), .int (si 21), .int (si 22), .long (sl 23), .int (si 24), .int (si 25), .long (sl 26), .int (si 27), .ref (b + 15), .ref (b + 16)])) := by rw [eM_1]; exact fm_us
  have hM : fs_MW ct M_1 b cn (va_up si 0 0) sl ia la := by rw [eM_1]; exact fs_MW_o hM cn (va_up si 0 0) sl
  have hMf : fs_Mf b M M_1 := by rw [eM_1]; exact fs_Mf_u hMf (by omega) _
  refine lv_lload_n hx hb dM_check_5 rfl (lv_at hl 1 rfl) ?_
  refine lv_aload_n hx hb dM_check_6 rfl (lv_at hl 0 rfl) ?_
  refine fm_get (ci := 4) (v := .int (nI (cn 2))) (C := RM) (T := TM) (N := 30) hx hb hT inM hown hK hW f_2 rfl 3 (by decide) (hT _ fl_M_74) (fun _ h9 => h9) rfl dM_check_7 ?_
  refine fm_calli (va_runS (As := [.long st, .int (nI (cn 2))]) (rest := []) ⟨hx, hb, hml, hown, hts⟩ (c_M_isSet l D ct A M_1 st (nI (cn 2))) ⟨callB_of 2 hts (fs_gin co_M_isSet) rfl rfl rfl (hT _ ini_M) (hT _ ml_M_91) (by decide +kernel) ⟨Nat.le_of_ble_eq_true rfl, Nat.le_of_ble_eq_true rfl⟩, hT _ st_M_isSet⟩ (fn_pre fs_isnw hK hN hW) rfl rfl hl.1 rfl (lv_room (Nat.le_of_ble_eq_true rfl)) dM_check_10 ⟨Nat.le_of_ble_eq_true rfl, Nat.le_of_ble_eq_true rfl⟩) hW (fun r_3 M_4 H locs hp_5 hW => ?_)
  have hW : fm_W D fs_cl5 A M_1 s.heap H locs := by rw [← hp_5.2]; exact hW
  have er_3 := hp_5.1
  refine lv_if_eq (tgt := 25) hx hb dM_check_13 (by decide) (fun c_6 => ?_) (fun c_6 => ?_)
  · refine lv_iconst (v := -1) hx hb dM_check_25 (by decide) ?_
    exact fm_iret hx hb hr hlocks hW (Or.inl ⟨rfl, fun z => (fs_if1 er_3).1 c_6 z.1, hM, hMf⟩) dM_check_26
  · have h1 := (fs_if1 er_3).2 c_6
    refine lv_aload_n hx hb dM_check_16 rfl (lv_at hl 0 rfl) ?_
    refine fm_get (ci := 4) (v := .int (nI (cn 4))) (C := RM) (T := TM) (N := 30) hx hb hT inM hown hK hW f_2 rfl 5 (by decide) (hT _ fl_M_80) (fun _ h9 => h9) rfl dM_check_17 ?_
    refine lv_bipush (v := 16) hx hb dM_check_20 (by decide) ?_
    refine lv_icmp_ne (tgt := 27) hx hb dM_check_22 (by decide) (fun c_7 => ?_) (fun c_7 => ?_)
    · have h2 : nI (cn 4) < 16 := fs_ne3 (N := 16) (by decide) c_7 hB5
      have h16 : cn 4 < 16 := (nI_ltI (b := 16) (by omega) (by decide)).mp h2
      refine lv_aload_n hx hb dM_check_27 rfl (lv_at hl 0 rfl) ?_
      refine fm_get (ci := 4) (v := .ref (b + 7)) (C := RM) (T := TM) (N := 30) hx hb hT inM hown hK hW f_2 rfl 12 (by decide) (hT _ fl_M_28) (fun _ h9 => h9) rfl dM_check_28 ?_
      refine lv_aload_n hx hb dM_check_31 rfl (lv_at hl 0 rfl) ?_
      refine fm_get (ci := 4) (v := .int (nI (cn 4))) (C := RM) (T := TM) (N := 30) hx hb hT inM hown hK hW f_2 rfl 5 (by decide) (hT _ fl_M_80) (fun _ h9 => h9) rfl dM_check_32 ?_
      refine lv_lload_n hx hb dM_check_35 rfl (lv_at hl 1 rfl) ?_
      refine fn_last (n := 16) (f := la 7) hx hb hK hW 1 (hM.2.2.1 7 rfl) rfl (show (cn 4) < 16 by omega) (by decide) dM_check_36 (fun H locs hW => ?_)
      obtain ⟨M_8, eM_8⟩ : ∃ z : fm_M, z = va_up M_1 (b + 7) (some (.inl (ct 1, 16, .inr (.inl (vp_updL (la 7) (cn 4) st))))) := ⟨_, rfl⟩
      have hW : fm_W D fs_cl5 A M_8 s.heap H locs := by rw [eM_8]; exact hW
      have hM : fs_MW ct M_8 b cn (va_up si 0 0) sl ia (va_up la 7 (vp_updL (la 7) (cn 4) st)) := by rw [eM_8]; exact fs_MW_l hM 7 rfl _
      have hMf : fs_Mf b M M_8 := by rw [eM_8]; exact fs_Mf_u hMf (by omega) _
      refine lv_aload_n hx hb dM_check_37 rfl (lv_at hl 0 rfl) ?_
      refine lv_dup hx hb dM_check_38 rfl ?_
      refine fm_get (ci := 4) (v := .int (nI (cn 4))) (C := RM) (T := TM) (N := 30) hx hb hT inM hown hK hW hM.1 rfl 5 (by decide) (hT _ fl_M_80) (fun _ h9 => h9) rfl dM_check_39 ?_
      refine lv_iconst (v := 1) hx hb dM_check_42 (by decide) ?_
      refine lv_iadd hx hb dM_check_43 ?_
      refine lv_topi (fun x_9 ex_9 => ?_)
      have ex_9 : x_9 = nI (cn 4 + 1) := by rw [ex_9]; exact nI_1 _
      subst ex_9
      refine fm_put (ci := 4) (v := .int (nI (cn 4 + 1))) (ty := .int) (C := RM) (T := TM) (N := 30) hx hb hT inM tyM tkM nmM hown hK hW hM.1 rfl 5 (by decide) (hT _ fl_M_80) (fun _ h9 => h9) rfl (by decide +kernel) rfl rfl (Nat.le_of_ble_eq_true rfl) dM_check_44 (fun H locs hW => ?_)
      obtain ⟨M_10, eM_10⟩ : ∃ z : fm_M, z = va_up M_8 b (some (.inr (4, [.int 0, .int (nI (cn 0)), .int (nI (cn 1)), .int (nI (cn 2)), .int (nI (cn 3)), .int (nI (cn 4 + 1)), .ref (b + 1), .ref (b + 2), .ref (b + 3), .ref (b + 4), .ref (b + 5), .ref (b + 6), .ref (b + 7), .ref (b + 8), .ref (b + 9), .ref (b + 10), .ref (b + 11), .ref (b + 12), .ref (b + 13), .ref (b + 14), .int (si 20), .int (si 21), .int (si 22), .long (sl 23), .int (si 24), .int (si 25), .long (sl 26), .int (si 27), .ref (b + 15), .ref (b + 16)]))) := ⟨_, rfl⟩
      have hW : fm_W D fs_cl5 A M_10 s.heap H locs := by rw [eM_10]; exact hW
      have f_11 : M_10 b = some (.inr (4, [.int 0, .int (nI (cn 0)), .int (nI (cn 1)), .int (nI (cn 2)), .int (nI (cn 3)), .int (nI (cn 4 + 1)), .ref (b + 1), .ref (b + 2), .ref (b + 3), .ref (b + 4), .ref (b + 5), .ref (b + 6), .ref (b + 7), .ref (b + 8), .ref (b + 9), .ref (b + 10), .ref (b + 11), .ref (b + 12), .ref (b + 13), .ref (b + 14), .int (si 20), .int (si 21), .int (si 22), .long (sl 23), .int (si 24), .int (si 25), .long (sl 26), .int (si 27), .ref (b + 15), .ref (b + 16)])) := by rw [eM_10]; exact fm_us
      have hM : fs_MW ct M_10 b (va_up cn 4 (cn 4 + 1)) (va_up si 0 0) sl ia (va_up la 7 (vp_updL (la 7) (cn 4) st)) := by rw [eM_10]; exact fs_MW_o hM (va_up cn 4 (cn 4 + 1)) (va_up si 0 0) sl
      have hMf : fs_Mf b M M_10 := by rw [eM_10]; exact fs_Mf_u hMf (by omega) _
      refine lv_aload_n hx hb dM_check_47 rfl (lv_at hl 0 rfl) ?_
      refine fm_get (ci := 4) (v := .int (nI (cn 4 + 1))) (C := RM) (T := TM) (N := 30) hx hb hT inM hown hK hW f_11 rfl 5 (by decide) (hT _ fl_M_80) (fun _ h9 => h9) rfl dM_check_48 ?_
      refine lv_iconst (v := 1) hx hb dM_check_51 (by decide) ?_
      refine lv_isub hx hb dM_check_52 ?_
      exact fm_iret hx hb hr hlocks hW (Or.inr ⟨nI_pred _, ⟨h1, h2⟩, hM, hMf⟩) dM_check_53
    · refine lv_iconst (v := -1) hx hb dM_check_25 (by decide) ?_
      exact fm_iret hx hb hr hlocks hW (Or.inl ⟨rfl, fun z => fs_eq3 (N := 16) c_7 z.2, hM, hMf⟩) dM_check_26
