-- the reference: bits, powers, acts
set_option maxHeartbeats 4000000 in
set_option maxRecDepth 100000 in
theorem c_M_bit (l : Launch) (D : va_G) (ct : Nat → ClassId) (A : Nat → Prop) (M : fm_M) (v k : Int32) : Met l yM_bit wM_bit ({ frames := 0, cells := 0, slots := 0, locals := 0 }) (va_Pc [.int v, .int k] (fm_St D fs_cl5 (fs_tys ct) fs_nw A M)) (va_Qi (fun (r : Int32) (M1 : fm_M) => r = fs_bi v k ∧ M1 = M) (fm_B D fs_cl5 A) A) 0 0 A := by
  refine Met.ofW (cc := cM_bit) (maxL := 2) (ret := (some .int)) (by decide) rfl ?_
  intro p e s m args below meth c s₁ B hml hv
  obtain ⟨rfl, hP0, hA0, hA1, hK, hN⟩ := hv
  have hx := B.exec
  have hb := B.bytes
  have hr := B.returns
  have hts := atoms_spec (ws := wM_bit) B.pre
  have hT : ∀ w ∈ fs_tb, w.before _ s = true := fun w h => hts w (List.mem_cons_of_mem _ h)
  have hown : s.vm.findClass "FrameSamplesModel" = some m.cls := findClass_of_methodNamed B.named
  have hlocks := B.notSynchronized
  have hW : fm_W D fs_cl5 A M s.heap s.heap [] := ⟨hP0, hA0, va_S.rf, hA1⟩
  have hl := lv_entry ([.int v, .int k]) (n := 2) (Nat.le_of_ble_eq_true rfl)
  rw [lg_entry_eq]
  generalize (lg_sl ([.int v, .int k]) ++ List.replicate (2 - (lg_sl ([.int v, .int k])).length) Slot.unset).toArray = ls at hl ⊢
  have hl : lv_has ls 2 [(0, .int v), (1, .int k)] := hl
  refine lv_iload_n hx hb dM_bit_0 rfl (lv_at hl 0 rfl) ?_
  refine lv_iload_n hx hb dM_bit_1 rfl (lv_at hl 1 rfl) ?_
  refine lv_ishr hx hb dM_bit_2 ?_
  refine lv_iconst (v := 1) hx hb dM_bit_3 (by decide) ?_
  refine lv_iand hx hb dM_bit_4 ?_
  exact fm_iret hx hb hr hlocks hW ⟨rfl, rfl⟩ dM_bit_5
set_option maxHeartbeats 4000000 in
set_option maxRecDepth 100000 in
theorem c_M_power (l : Launch) (D : va_G) (ct : Nat → ClassId) (A : Nat → Prop) (M : fm_M) (x1 z1 x2 z2 : Int32) : Met l yM_power wM_power ({ frames := 0, cells := 0, slots := 0, locals := 0 }) (va_Pc [.int x1, .int z1, .int x2, .int z2] (fm_St D fs_cl5 (fs_tys ct) fs_nw A M)) (va_Qi (fun (r : Int32) (M1 : fm_M) => r = fs_pw x1 z1 x2 z2 ∧ M1 = M) (fm_B D fs_cl5 A) A) 0 0 A := by
  refine Met.ofW (cc := cM_power) (maxL := 4) (ret := (some .int)) (by decide) rfl ?_
  intro p e s m args below meth c s₁ B hml hv
  obtain ⟨rfl, hP0, hA0, hA1, hK, hN⟩ := hv
  have hx := B.exec
  have hb := B.bytes
  have hr := B.returns
  have hts := atoms_spec (ws := wM_power) B.pre
  have hT : ∀ w ∈ fs_tb, w.before _ s = true := fun w h => hts w (List.mem_cons_of_mem _ h)
  have hown : s.vm.findClass "FrameSamplesModel" = some m.cls := findClass_of_methodNamed B.named
  have hlocks := B.notSynchronized
  have hW : fm_W D fs_cl5 A M s.heap s.heap [] := ⟨hP0, hA0, va_S.rf, hA1⟩
  have hl := lv_entry ([.int x1, .int z1, .int x2, .int z2]) (n := 4) (Nat.le_of_ble_eq_true rfl)
  rw [lg_entry_eq]
  generalize (lg_sl ([.int x1, .int z1, .int x2, .int z2]) ++ List.replicate (4 - (lg_sl ([.int x1, .int z1, .int x2, .int z2])).length) Slot.unset).toArray = ls at hl ⊢
  have hl : lv_has ls 4 [(0, .int x1), (1, .int z1), (2, .int x2), (3, .int z2)] := hl
  refine lv_iload_n hx hb dM_power_0 rfl (lv_at hl 0 rfl) ?_
  refine lv_if_ne (tgt := 10) hx hb dM_power_1 (by decide) (fun c_1 => ?_) (fun c_1 => ?_)
  · refine lv_iload_n hx hb dM_power_10 rfl (lv_at hl 0 rfl) ?_
    refine lv_iconst (v := 1) hx hb dM_power_11 (by decide) ?_
    refine lv_icmp_ne (tgt := 24) hx hb dM_power_12 (by decide) (fun c_2 => ?_) (fun c_2 => ?_)
    · refine lv_iload_n hx hb dM_power_24 rfl (lv_at hl 0 rfl) ?_
      refine lv_iconst (v := 1) hx hb dM_power_25 (by decide) ?_
      refine lv_icmp_ne (tgt := 39) hx hb dM_power_26 (by decide) (fun c_3 => ?_) (fun c_3 => ?_)
      · refine lv_iload_n hx hb dM_power_39 rfl (lv_at hl 2 rfl) ?_
        refine lv_iconst (v := 1) hx hb dM_power_40 (by decide) ?_
        refine lv_iconst (v := 2) hx hb dM_power_41 (by decide) ?_
        refine lv_iload_n hx hb dM_power_42 rfl (lv_at hl 3 rfl) ?_
        refine lv_imul hx hb dM_power_43 ?_
        refine lv_isub hx hb dM_power_44 ?_
        refine lv_imul hx hb dM_power_45 ?_
        exact fm_iret hx hb hr hlocks hW ⟨by unfold fs_pw; rw [if_neg (fun z => c_1 z.1), if_neg (fun z => c_2 z.1), if_neg c_2], rfl⟩ dM_power_46
      · exact absurd c_3 c_2
    · refine lv_iload_n hx hb dM_power_15 rfl (lv_at hl 1 rfl) ?_
      refine lv_iconst (v := 1) hx hb dM_power_16 (by decide) ?_
      refine lv_icmp_ne (tgt := 24) hx hb dM_power_17 (by decide) (fun c_4 => ?_) (fun c_4 => ?_)
      · refine lv_iload_n hx hb dM_power_24 rfl (lv_at hl 0 rfl) ?_
        refine lv_iconst (v := 1) hx hb dM_power_25 (by decide) ?_
        refine lv_icmp_ne (tgt := 39) hx hb dM_power_26 (by decide) (fun c_5 => ?_) (fun c_5 => ?_)
        · exact absurd c_2 c_5
        · refine lv_iload_n hx hb dM_power_29 rfl (lv_at hl 3 rfl) ?_
          refine lv_iconst (v := 2) hx hb dM_power_30 (by decide) ?_
          refine lv_iload_n hx hb dM_power_31 rfl (lv_at hl 2 rfl) ?_
          refine lv_imul hx hb dM_power_32 ?_
          refine lv_iconst (v := 1) hx hb dM_power_33 (by decide) ?_
          refine lv_isub hx hb dM_power_34 ?_
          refine lv_imul hx hb dM_power_35 ?_
          refine lv_goto (tgt := 46) hx hb dM_power_36 (by decide) ?_
          exact fm_iret hx hb hr hlocks hW ⟨by unfold fs_pw; rw [if_neg (fun z => c_1 z.1), if_neg (fun z => c_4 z.2), if_pos c_2], rfl⟩ dM_power_46
      · refine lv_iload_n hx hb dM_power_20 rfl (lv_at hl 3 rfl) ?_
        refine lv_iload_n hx hb dM_power_21 rfl (lv_at hl 2 rfl) ?_
        refine lv_isub hx hb dM_power_22 ?_
        exact fm_iret hx hb hr hlocks hW ⟨by unfold fs_pw; rw [if_neg (fun z => c_1 z.1), if_pos ⟨c_2, c_4⟩], rfl⟩ dM_power_23
  · refine lv_iload_n hx hb dM_power_4 rfl (lv_at hl 1 rfl) ?_
    refine lv_if_ne (tgt := 10) hx hb dM_power_5 (by decide) (fun c_6 => ?_) (fun c_6 => ?_)
    · refine lv_iload_n hx hb dM_power_10 rfl (lv_at hl 0 rfl) ?_
      refine lv_iconst (v := 1) hx hb dM_power_11 (by decide) ?_
      refine lv_icmp_ne (tgt := 24) hx hb dM_power_12 (by decide) (fun c_7 => ?_) (fun c_7 => ?_)
      · refine lv_iload_n hx hb dM_power_24 rfl (lv_at hl 0 rfl) ?_
        refine lv_iconst (v := 1) hx hb dM_power_25 (by decide) ?_
        refine lv_icmp_ne (tgt := 39) hx hb dM_power_26 (by decide) (fun c_8 => ?_) (fun c_8 => ?_)
        · refine lv_iload_n hx hb dM_power_39 rfl (lv_at hl 2 rfl) ?_
          refine lv_iconst (v := 1) hx hb dM_power_40 (by decide) ?_
          refine lv_iconst (v := 2) hx hb dM_power_41 (by decide) ?_
          refine lv_iload_n hx hb dM_power_42 rfl (lv_at hl 3 rfl) ?_
          refine lv_imul hx hb dM_power_43 ?_
          refine lv_isub hx hb dM_power_44 ?_
          refine lv_imul hx hb dM_power_45 ?_
          exact fm_iret hx hb hr hlocks hW ⟨by unfold fs_pw; rw [if_neg (fun z => c_6 z.2), if_neg (fun z => c_7 z.1), if_neg c_7], rfl⟩ dM_power_46
        · exact absurd c_8 c_7
      · refine lv_iload_n hx hb dM_power_15 rfl (lv_at hl 1 rfl) ?_
        refine lv_iconst (v := 1) hx hb dM_power_16 (by decide) ?_
        refine lv_icmp_ne (tgt := 24) hx hb dM_power_17 (by decide) (fun c_9 => ?_) (fun c_9 => ?_)
        · refine lv_iload_n hx hb dM_power_24 rfl (lv_at hl 0 rfl) ?_
          refine lv_iconst (v := 1) hx hb dM_power_25 (by decide) ?_
          refine lv_icmp_ne (tgt := 39) hx hb dM_power_26 (by decide) (fun c_10 => ?_) (fun c_10 => ?_)
          · exact absurd c_7 c_10
          · refine lv_iload_n hx hb dM_power_29 rfl (lv_at hl 3 rfl) ?_
            refine lv_iconst (v := 2) hx hb dM_power_30 (by decide) ?_
            refine lv_iload_n hx hb dM_power_31 rfl (lv_at hl 2 rfl) ?_
            refine lv_imul hx hb dM_power_32 ?_
            refine lv_iconst (v := 1) hx hb dM_power_33 (by decide) ?_
            refine lv_isub hx hb dM_power_34 ?_
            refine lv_imul hx hb dM_power_35 ?_
            refine lv_goto (tgt := 46) hx hb dM_power_36 (by decide) ?_
            exact fm_iret hx hb hr hlocks hW ⟨by unfold fs_pw; rw [if_neg (fun z => c_6 z.2), if_neg (fun z => c_9 z.2), if_pos c_7], rfl⟩ dM_power_46
        · refine lv_iload_n hx hb dM_power_20 rfl (lv_at hl 3 rfl) ?_
          refine lv_iload_n hx hb dM_power_21 rfl (lv_at hl 2 rfl) ?_
          refine lv_isub hx hb dM_power_22 ?_
          exact fm_iret hx hb hr hlocks hW ⟨by unfold fs_pw; rw [if_neg (fun z => c_6 z.2), if_pos ⟨c_7, c_9⟩], rfl⟩ dM_power_23
    · refine lv_iconst (v := 0) hx hb dM_power_8 (by decide) ?_
      exact fm_iret hx hb hr hlocks hW ⟨by unfold fs_pw; rw [if_pos ⟨c_1, c_6⟩], rfl⟩ dM_power_9
set_option maxHeartbeats 4000000 in
set_option maxRecDepth 100000 in
theorem c_M_isSet (l : Launch) (D : va_G) (ct : Nat → ClassId) (A : Nat → Prop) (M : fm_M) (x : Int64) (n : Int32) : Met l yM_isSet wM_isSet ({ frames := 0, cells := 0, slots := 0, locals := 0 }) (va_Pc [.long x, .int n] (fm_St D fs_cl5 (fs_tys ct) fs_nw A M)) (va_Qi (fun (r : Int32) (M1 : fm_M) => r = (if 0 ≤ x ∧ fs_ushl x n = 0 then 1 else 0) ∧ M1 = M) (fm_B D fs_cl5 A) A) 0 0 A := by
  refine Met.ofW (cc := cM_isSet) (maxL := 3) (ret := (some .boolean)) (by decide) rfl ?_
  intro p e s m args below meth c s₁ B hml hv
  obtain ⟨rfl, hP0, hA0, hA1, hK, hN⟩ := hv
  have hx := B.exec
  have hb := B.bytes
  have hr := B.returns
  have hts := atoms_spec (ws := wM_isSet) B.pre
  have hT : ∀ w ∈ fs_tb, w.before _ s = true := fun w h => hts w (List.mem_cons_of_mem _ h)
  have hown : s.vm.findClass "FrameSamplesModel" = some m.cls := findClass_of_methodNamed B.named
  have hlocks := B.notSynchronized
  have hW : fm_W D fs_cl5 A M s.heap s.heap [] := ⟨hP0, hA0, va_S.rf, hA1⟩
  have hl := lv_entry ([.long x, .int n]) (n := 3) (Nat.le_of_ble_eq_true rfl)
  rw [lg_entry_eq]
  generalize (lg_sl ([.long x, .int n]) ++ List.replicate (3 - (lg_sl ([.long x, .int n])).length) Slot.unset).toArray = ls at hl ⊢
  have hl : lv_has ls 3 [(0, .long x), (2, .int n)] := hl
  refine lv_lload_n hx hb dM_isSet_0 rfl (lv_at hl 0 rfl) ?_
  refine lv_lconst (v := 0) hx hb dM_isSet_1 (by decide) ?_
  refine W.lcmp hx hb dM_isSet_2 ?_
  refine lv_if_lt (tgt := 18) hx hb dM_isSet_3 (by decide) (fun c_1 => ?_) (fun c_1 => ?_)
  · refine lv_iconst (v := 0) hx hb dM_isSet_18 (by decide) ?_
    exact fm_zret hx hb hr rfl hlocks hW ⟨(if_neg (fun z => absurd ((lg_cmp_lt _ _).mp c_1) (Int64.not_lt.mpr z.1))).symm, rfl⟩ dM_isSet_19
  · refine lv_lload_n hx hb dM_isSet_6 rfl (lv_at hl 0 rfl) ?_
    refine lv_iload_n hx hb dM_isSet_7 rfl (lv_at hl 1 rfl) ?_
    refine lv_lushr (v := fs_ushl x n) hx hb dM_isSet_8 rfl ?_
    refine lv_lconst (v := 0) hx hb dM_isSet_9 (by decide) ?_
    refine W.lcmp hx hb dM_isSet_10 ?_
    refine lv_if_ne (tgt := 18) hx hb dM_isSet_11 (by decide) (fun c_2 => ?_) (fun c_2 => ?_)
    · refine lv_iconst (v := 0) hx hb dM_isSet_18 (by decide) ?_
      exact fm_zret hx hb hr rfl hlocks hW ⟨(if_neg (fun z => c_2 ((lg_cmp_eq _ _).mpr z.2))).symm, rfl⟩ dM_isSet_19
    · refine lv_iconst (v := 1) hx hb dM_isSet_14 (by decide) ?_
      refine lv_goto (tgt := 19) hx hb dM_isSet_15 (by decide) ?_
      exact fm_zret hx hb hr rfl hlocks hW ⟨(if_pos ⟨Int64.not_lt.mp (fun z => c_1 ((lg_cmp_lt _ _).mpr z)), (lg_cmp_eq _ _).mp c_2⟩).symm, rfl⟩ dM_isSet_19
set_option maxHeartbeats 4000000 in
set_option maxRecDepth 100000 in
theorem c_M_column (l : Launch) (D : va_G) (ct : Nat → ClassId) (A : Nat → Prop) (M : fm_M) (x z : Int32) (k : Nat)(hk : k < 20) : Met l yM_column wM_column ({ frames := 1, cells := 0, slots := 0, locals := 21 }) (va_Pc [.int x, .int z, .int (nI k)] (fm_St D fs_cl5 (fs_tys ct) fs_nw A M)) (va_Qi (fun (r : Int32) (M1 : fm_M) => r = fs_b (fs_co x z k) ∧ M1 = M) (fm_B D fs_cl5 A) A) 0 0 A := by
  refine Met.ofW (cc := cM_column) (maxL := 3) (ret := (some .int)) (by decide) rfl ?_
  intro p e s m args below meth c s₁ B hml hv
  obtain ⟨rfl, hP0, hA0, hA1, hK, hN⟩ := hv
  have hx := B.exec
  have hb := B.bytes
  have hr := B.returns
  have hts := atoms_spec (ws := wM_column) B.pre
  have hT : ∀ w ∈ fs_tb, w.before _ s = true := fun w h => hts w (List.mem_cons_of_mem _ h)
  have hown : s.vm.findClass "FrameSamplesModel" = some m.cls := findClass_of_methodNamed B.named
  have hlocks := B.notSynchronized
  have hW : fm_W D fs_cl5 A M s.heap s.heap [] := ⟨hP0, hA0, va_S.rf, hA1⟩
  have hl := lv_entry ([.int x, .int z, .int (nI k)]) (n := 3) (Nat.le_of_ble_eq_true rfl)
  rw [lg_entry_eq]
  generalize (lg_sl ([.int x, .int z, .int (nI k)]) ++ List.replicate (3 - (lg_sl ([.int x, .int z, .int (nI k)])).length) Slot.unset).toArray = ls at hl ⊢
  have hl : lv_has ls 3 [(0, .int x), (1, .int z), (2, .int (nI k))] := hl
  refine lv_iload_n hx hb dM_column_0 rfl (lv_at hl 2 rfl) ?_
  refine lv_bipush (v := 10) hx hb dM_column_1 (by decide) ?_
  refine lv_icmp_ge (tgt := 14) hx hb dM_column_3 (by decide) (fun c_1 => ?_) (fun c_1 => ?_)
  · have hk2 : 10 ≤ k := (nI_leI (a := 10) (by decide) (by omega)).mp c_1
    refine lv_iload_n hx hb dM_column_14 rfl (lv_at hl 1 rfl) ?_
    refine lv_iload_n hx hb dM_column_15 rfl (lv_at hl 2 rfl) ?_
    refine lv_bipush (v := 10) hx hb dM_column_16 (by decide) ?_
    refine lv_isub hx hb dM_column_18 ?_
    refine fm_calli (va_runS (As := [.int z, .int ((nI k) - 10)]) (rest := []) ⟨hx, hb, hml, hown, hts⟩ (c_M_bit l D ct A M z (nI k - 10)) ⟨callB_of 2 hts (fs_gin co_M_bit) rfl rfl rfl (hT _ ini_M) (hT _ ml_M_95) (by decide +kernel) ⟨Nat.le_of_ble_eq_true rfl, Nat.le_of_ble_eq_true rfl⟩, hT _ st_M_bit⟩ (fn_pre fs_isnw hK hN hW) rfl rfl hl.1 rfl (lv_room (Nat.le_of_ble_eq_true rfl)) dM_column_19 ⟨Nat.le_of_ble_eq_true rfl, Nat.le_of_ble_eq_true rfl⟩) hW (fun r_2 M_3 H locs hp_4 hW => ?_)
    have hW : fm_W D fs_cl5 A M s.heap H locs := by rw [← hp_4.2]; exact hW
    have hv : r_2 = fs_b (fs_co x z k) := by
      rw [hp_4.1, show nI k - 10 = nI (k - 10) from pk_sub (b := 10) hk2, fs_bi_b (by omega)]
      unfold fs_co; rw [if_neg (by omega)]
    exact fm_iret hx hb hr hlocks hW ⟨hv, rfl⟩ dM_column_22
  · have hk2 : k < 10 := fs_cge (N := 10) (by decide) c_1 (by omega)
    refine lv_iload_n hx hb dM_column_6 rfl (lv_at hl 0 rfl) ?_
    refine lv_iload_n hx hb dM_column_7 rfl (lv_at hl 2 rfl) ?_
    refine fm_calli (va_runS (As := [.int x, .int (nI k)]) (rest := []) ⟨hx, hb, hml, hown, hts⟩ (c_M_bit l D ct A M x (nI k)) ⟨callB_of 2 hts (fs_gin co_M_bit) rfl rfl rfl (hT _ ini_M) (hT _ ml_M_95) (by decide +kernel) ⟨Nat.le_of_ble_eq_true rfl, Nat.le_of_ble_eq_true rfl⟩, hT _ st_M_bit⟩ (fn_pre fs_isnw hK hN hW) rfl rfl hl.1 rfl (lv_room (Nat.le_of_ble_eq_true rfl)) dM_column_8 ⟨Nat.le_of_ble_eq_true rfl, Nat.le_of_ble_eq_true rfl⟩) hW (fun r_5 M_6 H locs hp_7 hW => ?_)
    have hW : fm_W D fs_cl5 A M s.heap H locs := by rw [← hp_7.2]; exact hW
    refine lv_goto (tgt := 22) hx hb dM_column_11 (by decide) ?_
    have hv : r_5 = fs_b (fs_co x z k) := by
      rw [hp_7.1, fs_bi_b (by omega)]
      unfold fs_co; rw [if_pos hk2]
    exact fm_iret hx hb hr hlocks hW ⟨hv, rfl⟩ dM_column_22
set_option maxHeartbeats 4000000 in
set_option maxRecDepth 100000 in
theorem c_M_isWire (l : Launch) (D : va_G) (ct : Nat → ClassId) (A : Nat → Prop) (M : fm_M) (b : Nat) (cn : Nat → Nat) (si : Nat → Int32) (sl : Nat → Int64) (ia : Nat → Nat → Int32) (la : Nat → Nat → Int64) (a : Int32) (hM : fs_MW ct M b cn si sl ia la) : Met l yM_isWire wM_isWire ({ frames := 0, cells := 0, slots := 0, locals := 0 }) (va_Pc [.ref b, .int a] (fm_St D fs_cl5 (fs_tys ct) fs_nw A M)) (va_Qi (fun (r : Int32) (M1 : fm_M) => r = (if a < 0 ∨ nI (cn 0) ≤ a then 0 else 1) ∧ M1 = M) (fm_B D fs_cl5 A) A) 0 0 A := by
  refine Met.ofW (cc := cM_isWire) (maxL := 2) (ret := (some .boolean)) (by decide) rfl ?_
  intro p e s m args below meth c s₁ B hml hv
  obtain ⟨rfl, hP0, hA0, hA1, hK, hN⟩ := hv
  have hx := B.exec
  have hb := B.bytes
  have hr := B.returns
  have hts := atoms_spec (ws := wM_isWire) B.pre
  have hT : ∀ w ∈ fs_tb, w.before _ s = true := fun w h => hts w (List.mem_cons_of_mem _ h)
  have hown : s.vm.findClass "FrameSamplesModel" = some m.cls := findClass_of_methodNamed B.named
  have hlocks := B.notSynchronized
  have hW : fm_W D fs_cl5 A M s.heap s.heap [] := ⟨hP0, hA0, va_S.rf, hA1⟩
  have hl := lv_entry ([.ref b, .int a]) (n := 2) (Nat.le_of_ble_eq_true rfl)
  rw [lg_entry_eq]
  generalize (lg_sl ([.ref b, .int a]) ++ List.replicate (2 - (lg_sl ([.ref b, .int a])).length) Slot.unset).toArray = ls at hl ⊢
  have hl : lv_has ls 2 [(0, .ref b), (1, .int a)] := hl
  have hMf : fs_Mf b M M := fs_Mf_r
  refine lv_iload_n hx hb dM_isWire_0 rfl (lv_at hl 1 rfl) ?_
  refine lv_if_lt (tgt := 16) hx hb dM_isWire_1 (by decide) (fun c_1 => ?_) (fun c_1 => ?_)
  · refine lv_iconst (v := 0) hx hb dM_isWire_16 (by decide) ?_
    exact fm_zret hx hb hr rfl hlocks hW ⟨(if_pos (Or.inl c_1)).symm, rfl⟩ dM_isWire_17
  · refine lv_iload_n hx hb dM_isWire_4 rfl (lv_at hl 1 rfl) ?_
    refine lv_aload_n hx hb dM_isWire_5 rfl (lv_at hl 0 rfl) ?_
    refine fm_get (ci := 4) (v := .int (nI (cn 0))) (C := RM) (T := TM) (N := 30) hx hb hT inM hown hK hW hM.1 rfl 1 (by decide) (hT _ fl_M_68) (fun _ h9 => h9) rfl dM_isWire_6 ?_
    refine lv_icmp_ge (tgt := 16) hx hb dM_isWire_9 (by decide) (fun c_2 => ?_) (fun c_2 => ?_)
    · refine lv_iconst (v := 0) hx hb dM_isWire_16 (by decide) ?_
      exact fm_zret hx hb hr rfl hlocks hW ⟨(if_pos (Or.inr c_2)).symm, rfl⟩ dM_isWire_17
    · refine lv_iconst (v := 1) hx hb dM_isWire_12 (by decide) ?_
      refine lv_goto (tgt := 17) hx hb dM_isWire_13 (by decide) ?_
      exact fm_zret hx hb hr rfl hlocks hW ⟨(if_neg (by intro z; rcases z with z | z; exact c_1 z; exact c_2 z)).symm, rfl⟩ dM_isWire_17
set_option maxHeartbeats 4000000 in
set_option maxRecDepth 100000 in
theorem c_M_thrown (l : Launch) (D : va_G) (ct : Nat → ClassId) (A : Nat → Prop) (M : fm_M) (b : Nat) (cn : Nat → Nat) (si : Nat → Int32) (sl : Nat → Int64) (ia : Nat → Nat → Int32) (la : Nat → Nat → Int64) (hM : fs_MW ct M b cn si sl ia la) : Met l yM_thrown wM_thrown ({ frames := 0, cells := 0, slots := 0, locals := 0 }) (va_Pc [.ref b] (fm_St D fs_cl5 (fs_tys ct) fs_nw A M)) (va_Qi (fun (r : Int32) (M1 : fm_M) => r = si 0 ∧ M1 = M) (fm_B D fs_cl5 A) A) 0 0 A := by
  refine Met.ofW (cc := cM_thrown) (maxL := 1) (ret := (some .int)) (by decide) rfl ?_
  intro p e s m args below meth c s₁ B hml hv
  obtain ⟨rfl, hP0, hA0, hA1, hK, hN⟩ := hv
  have hx := B.exec
  have hb := B.bytes
  have hr := B.returns
  have hts := atoms_spec (ws := wM_thrown) B.pre
  have hT : ∀ w ∈ fs_tb, w.before _ s = true := fun w h => hts w (List.mem_cons_of_mem _ h)
  have hown : s.vm.findClass "FrameSamplesModel" = some m.cls := findClass_of_methodNamed B.named
  have hlocks := B.notSynchronized
  have hW : fm_W D fs_cl5 A M s.heap s.heap [] := ⟨hP0, hA0, va_S.rf, hA1⟩
  have hl := lv_entry ([.ref b]) (n := 1) (Nat.le_of_ble_eq_true rfl)
  rw [lg_entry_eq]
  generalize (lg_sl ([.ref b]) ++ List.replicate (1 - (lg_sl ([.ref b])).length) Slot.unset).toArray = ls at hl ⊢
  have hl : lv_has ls 1 [(0, .ref b)] := hl
  have hMf : fs_Mf b M M := fs_Mf_r
  refine lv_aload_n hx hb dM_thrown_0 rfl (lv_at hl 0 rfl) ?_
  refine fm_get (ci := 4) (v := .int (si 0)) (C := RM) (T := TM) (N := 30) hx hb hT inM hown hK hW hM.1 rfl 0 (by decide) (hT _ fl_M_64) (fun _ h9 => h9) rfl dM_thrown_1 ?_
  exact fm_iret hx hb hr hlocks hW ⟨rfl, rfl⟩ dM_thrown_4
set_option maxHeartbeats 4000000 in
set_option maxRecDepth 100000 in
theorem c_M_start (l : Launch) (D : va_G) (ct : Nat → ClassId) (A : Nat → Prop) (M : fm_M) (b : Nat) (cn : Nat → Nat) (si : Nat → Int32) (sl : Nat → Int64) (ia : Nat → Nat → Int32) (la : Nat → Nat → Int64) (N : Nat) (hM : fs_MW ct M b cn si sl ia la) : Met l yM_start wM_start ({ frames := 0, cells := 0, slots := 0, locals := 0 }) (va_Pc [.ref b, .int (nI N)] (fm_St D fs_cl5 (fs_tys ct) fs_nw A M)) (va_Qv (fun (M1 : fm_M) => fs_MW ct M1 b (fs_c0 N) si sl ia la ∧ fs_Mf b M M1) (fm_B D fs_cl5 A) A) 0 0 A := by
  refine Met.ofW (cc := cM_start) (maxL := 2) (ret := none) (by decide) rfl ?_
  intro p e s m args below meth c s₁ B hml hv
  obtain ⟨rfl, hP0, hA0, hA1, hK, hN⟩ := hv
  have hx := B.exec
  have hb := B.bytes
  have hr := B.returns
  have hts := atoms_spec (ws := wM_start) B.pre
  have hT : ∀ w ∈ fs_tb, w.before _ s = true := fun w h => hts w (List.mem_cons_of_mem _ h)
  have hown : s.vm.findClass "FrameSamplesModel" = some m.cls := findClass_of_methodNamed B.named
  have hlocks := B.notSynchronized
  have hW : fm_W D fs_cl5 A M s.heap s.heap [] := ⟨hP0, hA0, va_S.rf, hA1⟩
  have hl := lv_entry ([.ref b, .int (nI N)]) (n := 2) (Nat.le_of_ble_eq_true rfl)
  rw [lg_entry_eq]
  generalize (lg_sl ([.ref b, .int (nI N)]) ++ List.replicate (2 - (lg_sl ([.ref b, .int (nI N)])).length) Slot.unset).toArray = ls at hl ⊢
  have hl : lv_has ls 2 [(0, .ref b), (1, .int (nI N))] := hl
  have hMf : fs_Mf b M M := fs_Mf_r
  refine lv_aload_n hx hb dM_start_0 rfl (lv_at hl 0 rfl) ?_
  refine lv_iload_n hx hb dM_start_1 rfl (lv_at hl 1 rfl) ?_
  refine fm_put (ci := 4) (v := .int (nI N)) (ty := .int) (C := RM) (T := TM) (N := 30) hx hb hT inM tyM tkM nmM hown hK hW hM.1 rfl 1 (by decide) (hT _ fl_M_68) (fun _ h9 => h9) rfl (by decide +kernel) rfl rfl (Nat.le_of_ble_eq_true rfl) dM_start_2 (fun H locs hW => ?_)
  obtain ⟨M_1, eM_1⟩ : ∃ z : fm_M, z = va_up M b (some (.inr (4, [.int (si 0), .int (nI N), .int (nI (cn 1)), .int (nI (cn 2)), .int (nI (cn 3)), .int (nI (cn 4)), .ref (b + 1), .ref (b + 2), .ref (b + 3), .ref (b + 4), .ref (b + 5), .ref (b + 6), .ref (b + 7), .ref (b + 8), .ref (b + 9), .ref (b + 10), .ref (b + 11), .ref (b + 12), .ref (b + 13), .ref (b + 14), .int (si 20), .int (si 21), .int (si 22), .long (sl 23), .int (si 24), .int (si 25), .long (sl 26), .int (si 27), .ref (b + 15), .ref (b + 16)]))) := ⟨_, rfl⟩
  have hW : fm_W D fs_cl5 A M_1 s.heap H locs := by rw [eM_1]; exact hW
  have f_2 : M_1 b = some (.inr (4, [.int (si 0), .int (nI N), .int (nI (cn 1)), .int (nI (cn 2)), .int (nI (cn 3)), .int (nI (cn 4)), .ref (b + 1), .ref (b + 2), .ref (b + 3), .ref (b + 4), .ref (b + 5), .ref (b + 6), .ref (b + 7), .ref (b + 8), .ref (b + 9), .ref (b + 10), .ref (b + 11), .ref (b + 12), .ref (b + 13), .ref (b + 14), .int (si 20), .int (si 21), .int (si 22), .long (sl 23), .int (si 24), .int (si 25), .long (sl 26), .int (si 27), .ref (b + 15), .ref (b + 16)])) := by rw [eM_1]; exact fm_us
  refine lv_aload_n hx hb dM_start_5 rfl (lv_at hl 0 rfl) ?_
  refine lv_iconst (v := 0) hx hb dM_start_6 (by decide) ?_
  refine fm_put (ci := 4) (v := .int 0) (ty := .int) (C := RM) (T := TM) (N := 30) hx hb hT inM tyM tkM nmM hown hK hW f_2 rfl 2 (by decide) (hT _ fl_M_71) (fun _ h9 => h9) rfl (by decide +kernel) rfl rfl (Nat.le_of_ble_eq_true rfl) dM_start_7 (fun H locs hW => ?_)
  obtain ⟨M_3, eM_3⟩ : ∃ z : fm_M, z = va_up M_1 b (some (.inr (4, [.int (si 0), .int (nI N), .int 0, .int (nI (cn 2)), .int (nI (cn 3)), .int (nI (cn 4)), .ref (b + 1), .ref (b + 2), .ref (b + 3), .ref (b + 4), .ref (b + 5), .ref (b + 6), .ref (b + 7), .ref (b + 8), .ref (b + 9), .ref (b + 10), .ref (b + 11), .ref (b + 12), .ref (b + 13), .ref (b + 14), .int (si 20), .int (si 21), .int (si 22), .long (sl 23), .int (si 24), .int (si 25), .long (sl 26), .int (si 27), .ref (b + 15), .ref (b + 16)]))) := ⟨_, rfl⟩
  have hW : fm_W D fs_cl5 A M_3 s.heap H locs := by rw [eM_3]; exact hW
  have f_4 : M_3 b = some (.inr (4, [.int (si 0), .int (nI N), .int 0, .int (nI (cn 2)), .int (nI (cn 3)), .int (nI (cn 4)), .ref (b + 1), .ref (b + 2), .ref (b + 3), .ref (b + 4), .ref (b + 5), .ref (b + 6), .ref (b + 7), .ref (b + 8), .ref (b + 9), .ref (b + 10), .ref (b + 11), .ref (b + 12), .ref (b + 13), .ref (b + 14), .int (si 20), .int (si 21), .int (si 22), .long (sl 23), .int (si 24), .int (si 25), .long (sl 26), .int (si 27), .ref (b + 15), .ref (b + 16)])) := by rw [eM_3]; exact fm_us
  refine lv_aload_n hx hb dM_start_10 rfl (lv_at hl 0 rfl) ?_
  refine lv_iconst (v := 0) hx hb dM_start_11 (by decide) ?_
  refine fm_put (ci := 4) (v := .int 0) (ty := .int) (C := RM) (T := TM) (N := 30) hx hb hT inM tyM tkM nmM hown hK hW f_4 rfl 3 (by decide) (hT _ fl_M_74) (fun _ h9 => h9) rfl (by decide +kernel) rfl rfl (Nat.le_of_ble_eq_true rfl) dM_start_12 (fun H locs hW => ?_)
  obtain ⟨M_5, eM_5⟩ : ∃ z : fm_M, z = va_up M_3 b (some (.inr (4, [.int (si 0), .int (nI N), .int 0, .int 0, .int (nI (cn 3)), .int (nI (cn 4)), .ref (b + 1), .ref (b + 2), .ref (b + 3), .ref (b + 4), .ref (b + 5), .ref (b + 6), .ref (b + 7), .ref (b + 8), .ref (b + 9), .ref (b + 10), .ref (b + 11), .ref (b + 12), .ref (b + 13), .ref (b + 14), .int (si 20), .int (si 21), .int (si 22), .long (sl 23), .int (si 24), .int (si 25), .long (sl 26), .int (si 27), .ref (b + 15), .ref (b + 16)]))) := ⟨_, rfl⟩
  have hW : fm_W D fs_cl5 A M_5 s.heap H locs := by rw [eM_5]; exact hW
  have f_6 : M_5 b = some (.inr (4, [.int (si 0), .int (nI N), .int 0, .int 0, .int (nI (cn 3)), .int (nI (cn 4)), .ref (b + 1), .ref (b + 2), .ref (b + 3), .ref (b + 4), .ref (b + 5), .ref (b + 6), .ref (b + 7), .ref (b + 8), .ref (b + 9), .ref (b + 10), .ref (b + 11), .ref (b + 12), .ref (b + 13), .ref (b + 14), .int (si 20), .int (si 21), .int (si 22), .long (sl 23), .int (si 24), .int (si 25), .long (sl 26), .int (si 27), .ref (b + 15), .ref (b + 16)])) := by rw [eM_5]; exact fm_us
  refine lv_aload_n hx hb dM_start_15 rfl (lv_at hl 0 rfl) ?_
  refine lv_iconst (v := 0) hx hb dM_start_16 (by decide) ?_
  refine fm_put (ci := 4) (v := .int 0) (ty := .int) (C := RM) (T := TM) (N := 30) hx hb hT inM tyM tkM nmM hown hK hW f_6 rfl 4 (by decide) (hT _ fl_M_77) (fun _ h9 => h9) rfl (by decide +kernel) rfl rfl (Nat.le_of_ble_eq_true rfl) dM_start_17 (fun H locs hW => ?_)
  obtain ⟨M_7, eM_7⟩ : ∃ z : fm_M, z = va_up M_5 b (some (.inr (4, [.int (si 0), .int (nI N), .int 0, .int 0, .int 0, .int (nI (cn 4)), .ref (b + 1), .ref (b + 2), .ref (b + 3), .ref (b + 4), .ref (b + 5), .ref (b + 6), .ref (b + 7), .ref (b + 8), .ref (b + 9), .ref (b + 10), .ref (b + 11), .ref (b + 12), .ref (b + 13), .ref (b + 14), .int (si 20), .int (si 21), .int (si 22), .long (sl 23), .int (si 24), .int (si 25), .long (sl 26), .int (si 27), .ref (b + 15), .ref (b + 16)]))) := ⟨_, rfl⟩
  have hW : fm_W D fs_cl5 A M_7 s.heap H locs := by rw [eM_7]; exact hW
  have f_8 : M_7 b = some (.inr (4, [.int (si 0), .int (nI N), .int 0, .int 0, .int 0, .int (nI (cn 4)), .ref (b + 1), .ref (b + 2), .ref (b + 3), .ref (b + 4), .ref (b + 5), .ref (b + 6), .ref (b + 7), .ref (b + 8), .ref (b + 9), .ref (b + 10), .ref (b + 11), .ref (b + 12), .ref (b + 13), .ref (b + 14), .int (si 20), .int (si 21), .int (si 22), .long (sl 23), .int (si 24), .int (si 25), .long (sl 26), .int (si 27), .ref (b + 15), .ref (b + 16)])) := by rw [eM_7]; exact fm_us
  refine lv_aload_n hx hb dM_start_20 rfl (lv_at hl 0 rfl) ?_
  refine lv_iconst (v := 0) hx hb dM_start_21 (by decide) ?_
  refine fm_put (ci := 4) (v := .int 0) (ty := .int) (C := RM) (T := TM) (N := 30) hx hb hT inM tyM tkM nmM hown hK hW f_8 rfl 5 (by decide) (hT _ fl_M_80) (fun _ h9 => h9) rfl (by decide +kernel) rfl rfl (Nat.le_of_ble_eq_true rfl) dM_start_22 (fun H locs hW => ?_)
  obtain ⟨M_9, eM_9⟩ : ∃ z : fm_M, z = va_up M_7 b (some (.inr (4, [.int (si 0), .int (nI N), .int 0, .int 0, .int 0, .int 0, .ref (b + 1), .ref (b + 2), .ref (b + 3), .ref (b + 4), .ref (b + 5), .ref (b + 6), .ref (b + 7), .ref (b + 8), .ref (b + 9), .ref (b + 10), .ref (b + 11), .ref (b + 12), .ref (b + 13), .ref (b + 14), .int (si 20), .int (si 21), .int (si 22), .long (sl 23), .int (si 24), .int (si 25), .long (sl 26), .int (si 27), .ref (b + 15), .ref (b + 16)]))) := ⟨_, rfl⟩
  have hW : fm_W D fs_cl5 A M_9 s.heap H locs := by rw [eM_9]; exact hW
  have f_10 : M_9 b = some (.inr (4, [.int (si 0), .int (nI N), .int 0, .int 0, .int 0, .int 0, .ref (b + 1), .ref (b + 2), .ref (b + 3), .ref (b + 4), .ref (b + 5), .ref (b + 6), .ref (b + 7), .ref (b + 8), .ref (b + 9), .ref (b + 10), .ref (b + 11), .ref (b + 12), .ref (b + 13), .ref (b + 14), .int (si 20), .int (si 21), .int (si 22), .long (sl 23), .int (si 24), .int (si 25), .long (sl 26), .int (si 27), .ref (b + 15), .ref (b + 16)])) := by rw [eM_9]; exact fm_us
  have z : M_9 = va_up M b (some (fs_ME b (fs_c0 N) si sl)) := by
    rw [eM_9, eM_7, eM_5, eM_3, eM_1, fm_uu, fm_uu, fm_uu, fm_uu]; rfl
  exact fm_vret hx hb hr hlocks hW ⟨by rw [z]; exact fs_MW_o hM (fs_c0 N) si sl, by rw [z]; exact fs_Mf_u fs_Mf_r (by omega) _⟩ dM_start_25
set_option maxHeartbeats 4000000 in
set_option maxRecDepth 100000 in
theorem c_M_begin (l : Launch) (D : va_G) (ct : Nat → ClassId) (A : Nat → Prop) (M : fm_M) (b : Nat) (cn : Nat → Nat) (si : Nat → Int32) (sl : Nat → Int64) (ia : Nat → Nat → Int32) (la : Nat → Nat → Int64) (n : Int32) (hM : fs_MW ct M b cn si sl ia la) : Met l yM_begin wM_begin ({ frames := 1, cells := 0, slots := 0, locals := 21 }) (va_Pc [.ref b, .int n] (fm_St D fs_cl5 (fs_tys ct) fs_nw A M)) (va_Qi (fun (r : Int32) (M1 : fm_M) => (r = 0 ∧ (n < 1 ∨ ¬ n ≤ 10) ∧ fs_MW ct M1 b cn (va_up si 0 0) sl ia la ∧ fs_Mf b M M1) ∨ (r = 1 ∧ ∃ N : Nat, 1 ≤ N ∧ N ≤ 10 ∧ n = nI N ∧ fs_MW ct M1 b (fs_c0 N) (va_up si 0 0) sl ia la ∧ fs_Mf b M M1)) (fm_B D fs_cl5 A) A) 0 0 A := by
  refine Met.ofW (cc := cM_begin) (maxL := 2) (ret := (some .boolean)) (by decide) rfl ?_
  intro p e s m args below meth c s₁ B hml hv
  obtain ⟨rfl, hP0, hA0, hA1, hK, hN⟩ := hv
  have hx := B.exec
  have hb := B.bytes
  have hr := B.returns
  have hts := atoms_spec (ws := wM_begin) B.pre
  have hT : ∀ w ∈ fs_tb, w.before _ s = true := fun w h => hts w (List.mem_cons_of_mem _ h)
  have hown : s.vm.findClass "FrameSamplesModel" = some m.cls := findClass_of_methodNamed B.named
  have hlocks := B.notSynchronized
  have hW : fm_W D fs_cl5 A M s.heap s.heap [] := ⟨hP0, hA0, va_S.rf, hA1⟩
  have hl := lv_entry ([.ref b, .int n]) (n := 2) (Nat.le_of_ble_eq_true rfl)
  rw [lg_entry_eq]
  generalize (lg_sl ([.ref b, .int n]) ++ List.replicate (2 - (lg_sl ([.ref b, .int n])).length) Slot.unset).toArray = ls at hl ⊢
  have hl : lv_has ls 2 [(0, .ref b), (1, .int n)] := hl
  have hMf : fs_Mf b M M := fs_Mf_r
  refine lv_aload_n hx hb dM_begin_0 rfl (lv_at hl 0 rfl) ?_
  refine lv_iconst (v := 0) hx hb dM_begin_1 (by decide) ?_
  refine fm_put (ci := 4) (v := .int 0) (ty := .int) (C := RM) (T := TM) (N := 30) hx hb hT inM tyM tkM nmM hown hK hW hM.1 rfl 0 (by decide) (hT _ fl_M_64) (fun _ h9 => h9) rfl (by decide +kernel) rfl rfl (Nat.le_of_ble_eq_true rfl) dM_begin_2 (fun H locs hW => ?_)
  obtain ⟨M_1, eM_1⟩ : ∃ z : fm_M, z = va_up M b (some (.inr (4, [.int 0, .int (nI (cn 0)), .int (nI (cn 1)), .int (nI (cn 2)), .int (nI (cn 3)), .int (nI (cn 4)), .ref (b + 1), .ref (b + 2), .ref (b + 3), .ref (b + 4), .ref (b + 5), .ref (b + 6), .ref (b + 7), .ref (b + 8), .ref (b + 9), .ref (b + 10), .ref (b + 11), .ref (b + 12), .ref (b + 13), .ref (b + 14), .int (si 20), .int (si 21), .int (si 22), .long (sl 23), .int (si 24), .int (si 25), .long (sl 26), .int (si 27), .ref (b + 15), .ref (b + 16)]))) := ⟨_, rfl⟩
  have hW : fm_W D fs_cl5 A M_1 s.heap H locs := by rw [eM_1]; exact hW
  have f_2 : M_1 b = some (.inr (4, [.int 0, .int (nI (cn 0)), .int (nI (cn 1)), .int (nI (cn 2)), .int (nI (cn 3)), .int (nI (cn 4)), .ref (b + 1), .ref (b + 2), .ref (b + 3), .ref (b + 4), .ref (b + 5), .ref (b + 6), .ref (b + 7), .ref (b + 8), .ref (b + 9), .ref (b + 10), .ref (b + 11), .ref (b + 12), .ref (b + 13), .ref (b + 14), .int (si 20), .int (si 21), .int (si 22), .long (sl 23), .int (si 24), .int (si 25), .long (sl 26), .int (si 27), .ref (b + 15), .ref (b + 16)])) := by rw [eM_1]; exact fm_us
  have hM : fs_MW ct M_1 b cn (va_up si 0 0) sl ia la := by rw [eM_1]; exact fs_MW_o hM cn (va_up si 0 0) sl
  have hMf : fs_Mf b M M_1 := by rw [eM_1]; exact fs_Mf_u hMf (by omega) _
  refine lv_iload_n hx hb dM_begin_5 rfl (lv_at hl 1 rfl) ?_
  refine lv_iconst (v := 1) hx hb dM_begin_6 (by decide) ?_
  refine lv_icmp_lt (tgt := 16) hx hb dM_begin_7 (by decide) (fun c_3 => ?_) (fun c_3 => ?_)
  · refine lv_iconst (v := 0) hx hb dM_begin_16 (by decide) ?_
    exact fm_zret hx hb hr rfl hlocks hW (Or.inl ⟨rfl, Or.inl c_3, hM, hMf⟩) dM_begin_17
  · refine lv_iload_n hx hb dM_begin_10 rfl (lv_at hl 1 rfl) ?_
    refine lv_bipush (v := 10) hx hb dM_begin_11 (by decide) ?_
    refine lv_icmp_le (tgt := 18) hx hb dM_begin_13 (by decide) (fun c_4 => ?_) (fun c_4 => ?_)
    · obtain ⟨N, a1, a2, rfl⟩ := fs_n10 c_3 c_4
      refine lv_aload_n hx hb dM_begin_18 rfl (lv_at hl 0 rfl) ?_
      refine lv_iload_n hx hb dM_begin_19 rfl (lv_at hl 1 rfl) ?_
      refine fm_callv (va_runV (As := [.int (nI N)]) (rest := []) ⟨hx, hb, hml, hown, hts⟩ (c_M_start l D ct A M_1 b cn (va_up si 0 0) sl ia la N hM) ⟨callB_of 1 hts (fs_gin co_M_start) rfl rfl rfl (hT _ ini_M) (hT _ ml_M_60) (by decide +kernel) ⟨Nat.le_of_ble_eq_true rfl, Nat.le_of_ble_eq_true rfl⟩, hT _ im_M_start, hT _ se_M_start⟩ (fn_preV fs_isnw hK hN hW hM.1 rfl) rfl rfl hl.1 rfl (lv_room (Nat.le_of_ble_eq_true rfl)) dM_begin_20 ⟨Nat.le_of_ble_eq_true rfl, Nat.le_of_ble_eq_true rfl⟩) hW (fun M_6 H locs hp_7 hW => ?_)
      refine lv_iconst (v := 1) hx hb dM_begin_23 (by decide) ?_
      exact fm_zret hx hb hr rfl hlocks hW (Or.inr ⟨rfl, N, a1, a2, rfl, hp_7.1, fs_Mf_t hMf hp_7.2⟩) dM_begin_24
    · refine lv_iconst (v := 0) hx hb dM_begin_16 (by decide) ?_
      exact fm_zret hx hb hr rfl hlocks hW (Or.inl ⟨rfl, Or.inr c_4, hM, hMf⟩) dM_begin_17
set_option maxHeartbeats 4000000 in
set_option maxRecDepth 100000 in
theorem c_M_act (l : Launch) (D : va_G) (ct : Nat → ClassId) (A : Nat → Prop) (M : fm_M) (b : Nat) (cn : Nat → Nat) (si : Nat → Int32) (sl : Nat → Int64) (ia : Nat → Nat → Int32) (la : Nat → Nat → Int64) (k a c0 : Int32) (hM : fs_MW ct M b cn si sl ia la) (hac : cn 1 < 300) : Met l yM_act wM_act ({ frames := 0, cells := 0, slots := 0, locals := 0 }) (va_Pc [.ref b, .int k, .int a, .int c0] (fm_St D fs_cl5 (fs_tys ct) fs_nw A M)) (va_Qv (fun (M1 : fm_M) => fs_MW ct M1 b (va_up cn 1 (cn 1 + 1)) si sl (va_up (va_up (va_up ia 1 (upd (ia 1) (cn 1) k)) 2 (upd (ia 2) (cn 1) a)) 3 (upd (ia 3) (cn 1) c0)) la ∧ fs_Mf b M M1) (fm_B D fs_cl5 A) A) 0 0 A := by
  refine Met.ofW (cc := cM_act) (maxL := 4) (ret := none) (by decide) rfl ?_
  intro p e s m args below meth c s₁ B hml hv
  obtain ⟨rfl, hP0, hA0, hA1, hK, hN⟩ := hv
  have hx := B.exec
  have hb := B.bytes
  have hr := B.returns
  have hts := atoms_spec (ws := wM_act) B.pre
  have hT : ∀ w ∈ fs_tb, w.before _ s = true := fun w h => hts w (List.mem_cons_of_mem _ h)
  have hown : s.vm.findClass "FrameSamplesModel" = some m.cls := findClass_of_methodNamed B.named
  have hlocks := B.notSynchronized
  have hW : fm_W D fs_cl5 A M s.heap s.heap [] := ⟨hP0, hA0, va_S.rf, hA1⟩
  have hl := lv_entry ([.ref b, .int k, .int a, .int c0]) (n := 4) (Nat.le_of_ble_eq_true rfl)
  rw [lg_entry_eq]
  generalize (lg_sl ([.ref b, .int k, .int a, .int c0]) ++ List.replicate (4 - (lg_sl ([.ref b, .int k, .int a, .int c0])).length) Slot.unset).toArray = ls at hl ⊢
  have hl : lv_has ls 4 [(0, .ref b), (1, .int k), (2, .int a), (3, .int c0)] := hl
  have hMf : fs_Mf b M M := fs_Mf_r
  refine lv_aload_n hx hb dM_act_0 rfl (lv_at hl 0 rfl) ?_
  refine fm_get (ci := 4) (v := .ref (b + 1)) (C := RM) (T := TM) (N := 30) hx hb hT inM hown hK hW hM.1 rfl 6 (by decide) (hT _ fl_M_7) (fun _ h9 => h9) rfl dM_act_1 ?_
  refine lv_aload_n hx hb dM_act_4 rfl (lv_at hl 0 rfl) ?_
  refine fm_get (ci := 4) (v := .int (nI (cn 1))) (C := RM) (T := TM) (N := 30) hx hb hT inM hown hK hW hM.1 rfl 2 (by decide) (hT _ fl_M_71) (fun _ h9 => h9) rfl dM_act_5 ?_
  refine lv_iload_n hx hb dM_act_8 rfl (lv_at hl 1 rfl) ?_
  refine fn_iast (n := 300) (f := ia 1) hx hb hK hW 0 (hM.2.1 1 rfl) rfl (show (cn 1) < 300 by omega) (by decide) dM_act_9 (fun H locs hW => ?_)
  obtain ⟨M_1, eM_1⟩ : ∃ z : fm_M, z = va_up M (b + 1) (some (.inl (ct 0, 300, .inl (upd (ia 1) (cn 1) k)))) := ⟨_, rfl⟩
  have hW : fm_W D fs_cl5 A M_1 s.heap H locs := by rw [eM_1]; exact hW
  have hM : fs_MW ct M_1 b cn si sl (va_up ia 1 (upd (ia 1) (cn 1) k)) la := by rw [eM_1]; exact fs_MW_i hM 1 rfl _
  have hMf : fs_Mf b M M_1 := by rw [eM_1]; exact fs_Mf_u hMf (by omega) _
  refine lv_aload_n hx hb dM_act_10 rfl (lv_at hl 0 rfl) ?_
  refine fm_get (ci := 4) (v := .ref (b + 2)) (C := RM) (T := TM) (N := 30) hx hb hT inM hown hK hW hM.1 rfl 7 (by decide) (hT _ fl_M_13) (fun _ h9 => h9) rfl dM_act_11 ?_
  refine lv_aload_n hx hb dM_act_14 rfl (lv_at hl 0 rfl) ?_
  refine fm_get (ci := 4) (v := .int (nI (cn 1))) (C := RM) (T := TM) (N := 30) hx hb hT inM hown hK hW hM.1 rfl 2 (by decide) (hT _ fl_M_71) (fun _ h9 => h9) rfl dM_act_15 ?_
  refine lv_iload_n hx hb dM_act_18 rfl (lv_at hl 2 rfl) ?_
  refine fn_iast (n := 300) (f := ia 2) hx hb hK hW 0 (hM.2.1 2 rfl) rfl (show (cn 1) < 300 by omega) (by decide) dM_act_19 (fun H locs hW => ?_)
  obtain ⟨M_2, eM_2⟩ : ∃ z : fm_M, z = va_up M_1 (b + 2) (some (.inl (ct 0, 300, .inl (upd (ia 2) (cn 1) a)))) := ⟨_, rfl⟩
  have hW : fm_W D fs_cl5 A M_2 s.heap H locs := by rw [eM_2]; exact hW
  have hM : fs_MW ct M_2 b cn si sl (va_up (va_up ia 1 (upd (ia 1) (cn 1) k)) 2 (upd (ia 2) (cn 1) a)) la := by rw [eM_2]; exact fs_MW_i hM 2 rfl _
  have hMf : fs_Mf b M M_2 := by rw [eM_2]; exact fs_Mf_u hMf (by omega) _
  refine lv_aload_n hx hb dM_act_20 rfl (lv_at hl 0 rfl) ?_
  refine fm_get (ci := 4) (v := .ref (b + 3)) (C := RM) (T := TM) (N := 30) hx hb hT inM hown hK hW hM.1 rfl 8 (by decide) (hT _ fl_M_16) (fun _ h9 => h9) rfl dM_act_21 ?_
  refine lv_aload_n hx hb dM_act_24 rfl (lv_at hl 0 rfl) ?_
  refine fm_get (ci := 4) (v := .int (nI (cn 1))) (C := RM) (T := TM) (N := 30) hx hb hT inM hown hK hW hM.1 rfl 2 (by decide) (hT _ fl_M_71) (fun _ h9 => h9) rfl dM_act_25 ?_
  refine lv_iload_n hx hb dM_act_28 rfl (lv_at hl 3 rfl) ?_
  refine fn_iast (n := 300) (f := ia 3) hx hb hK hW 0 (hM.2.1 3 rfl) rfl (show (cn 1) < 300 by omega) (by decide) dM_act_29 (fun H locs hW => ?_)
  obtain ⟨M_3, eM_3⟩ : ∃ z : fm_M, z = va_up M_2 (b + 3) (some (.inl (ct 0, 300, .inl (upd (ia 3) (cn 1) c0)))) := ⟨_, rfl⟩
  have hW : fm_W D fs_cl5 A M_3 s.heap H locs := by rw [eM_3]; exact hW
  have hM : fs_MW ct M_3 b cn si sl (va_up (va_up (va_up ia 1 (upd (ia 1) (cn 1) k)) 2 (upd (ia 2) (cn 1) a)) 3 (upd (ia 3) (cn 1) c0)) la := by rw [eM_3]; exact fs_MW_i hM 3 rfl _
  have hMf : fs_Mf b M M_3 := by rw [eM_3]; exact fs_Mf_u hMf (by omega) _
  refine lv_aload_n hx hb dM_act_30 rfl (lv_at hl 0 rfl) ?_
  refine lv_dup hx hb dM_act_31 rfl ?_
  refine fm_get (ci := 4) (v := .int (nI (cn 1))) (C := RM) (T := TM) (N := 30) hx hb hT inM hown hK hW hM.1 rfl 2 (by decide) (hT _ fl_M_71) (fun _ h9 => h9) rfl dM_act_32 ?_
  refine lv_iconst (v := 1) hx hb dM_act_35 (by decide) ?_
  refine lv_iadd hx hb dM_act_36 ?_
  refine lv_topi (fun x_4 ex_4 => ?_)
  have ex_4 : x_4 = nI (cn 1 + 1) := by rw [ex_4]; exact nI_1 _
  subst ex_4
  refine fm_put (ci := 4) (v := .int (nI (cn 1 + 1))) (ty := .int) (C := RM) (T := TM) (N := 30) hx hb hT inM tyM tkM nmM hown hK hW hM.1 rfl 2 (by decide) (hT _ fl_M_71) (fun _ h9 => h9) rfl (by decide +kernel) rfl rfl (Nat.le_of_ble_eq_true rfl) dM_act_37 (fun H locs hW => ?_)
  obtain ⟨M_5, eM_5⟩ : ∃ z : fm_M, z = va_up M_3 b (some (.inr (4, [.int (si 0), .int (nI (cn 0)), .int (nI (cn 1 + 1)), .int (nI (cn 2)), .int (nI (cn 3)), .int (nI (cn 4)), .ref (b + 1), .ref (b + 2), .ref (b + 3), .ref (b + 4), .ref (b + 5), .ref (b + 6), .ref (b + 7), .ref (b + 8), .ref (b + 9), .ref (b + 10), .ref (b + 11), .ref (b + 12), .ref (b + 13), .ref (b + 14), .int (si 20), .int (si 21), .int (si 22), .long (sl 23), .int (si 24), .int (si 25), .long (sl 26), .int (si 27), .ref (b + 15), .ref (b + 16)]))) := ⟨_, rfl⟩
  have hW : fm_W D fs_cl5 A M_5 s.heap H locs := by rw [eM_5]; exact hW
  have f_6 : M_5 b = some (.inr (4, [.int (si 0), .int (nI (cn 0)), .int (nI (cn 1 + 1)), .int (nI (cn 2)), .int (nI (cn 3)), .int (nI (cn 4)), .ref (b + 1), .ref (b + 2), .ref (b + 3), .ref (b + 4), .ref (b + 5), .ref (b + 6), .ref (b + 7), .ref (b + 8), .ref (b + 9), .ref (b + 10), .ref (b + 11), .ref (b + 12), .ref (b + 13), .ref (b + 14), .int (si 20), .int (si 21), .int (si 22), .long (sl 23), .int (si 24), .int (si 25), .long (sl 26), .int (si 27), .ref (b + 15), .ref (b + 16)])) := by rw [eM_5]; exact fm_us
  have hM : fs_MW ct M_5 b (va_up cn 1 (cn 1 + 1)) si sl (va_up (va_up (va_up ia 1 (upd (ia 1) (cn 1) k)) 2 (upd (ia 2) (cn 1) a)) 3 (upd (ia 3) (cn 1) c0)) la := by rw [eM_5]; exact fs_MW_o hM (va_up cn 1 (cn 1 + 1)) si sl
  have hMf : fs_Mf b M M_5 := by rw [eM_5]; exact fs_Mf_u hMf (by omega) _
  exact fm_vret hx hb hr hlocks hW ⟨hM, hMf⟩ dM_act_40
set_option maxHeartbeats 4000000 in
set_option maxRecDepth 100000 in
theorem c_M_powers (l : Launch) (D : va_G) (ct : Nat → ClassId) (A : Nat → Prop) (M : fm_M) (b : Nat) (cn : Nat → Nat) (si : Nat → Int32) (sl : Nat → Int64) (ia : Nat → Nat → Int32) (la : Nat → Nat → Int64) (x1 z1 x2 z2 : Int32) (hM : fs_MW ct M b cn si sl ia la) (hB : fs_Bd cn) : Met l yM_powers wM_powers ({ frames := 1, cells := 0, slots := 0, locals := 23 }) (va_Pc [.ref b, .int x1, .int z1, .int x2, .int z2] (fm_St D fs_cl5 (fs_tys ct) fs_nw A M)) (va_Qi (fun (r : Int32) (M1 : fm_M) => r = fs_pws x1 z1 x2 z2 (cn 0) &&& 3 ∧ M1 = M) (fm_B D fs_cl5 A) A) 0 0 A := by
  refine Met.ofW (cc := cM_powers) (maxL := 7) (ret := (some .int)) (by decide) rfl ?_
  intro p e s m args below meth c s₁ B hml hv
  obtain ⟨rfl, hP0, hA0, hA1, hK, hN⟩ := hv
  have hx := B.exec
  have hb := B.bytes
  have hr := B.returns
  have hts := atoms_spec (ws := wM_powers) B.pre
  have hT : ∀ w ∈ fs_tb, w.before _ s = true := fun w h => hts w (List.mem_cons_of_mem _ h)
  have hown : s.vm.findClass "FrameSamplesModel" = some m.cls := findClass_of_methodNamed B.named
  have hlocks := B.notSynchronized
  have hW : fm_W D fs_cl5 A M s.heap s.heap [] := ⟨hP0, hA0, va_S.rf, hA1⟩
  have hl := lv_entry ([.ref b, .int x1, .int z1, .int x2, .int z2]) (n := 7) (Nat.le_of_ble_eq_true rfl)
  rw [lg_entry_eq]
  generalize (lg_sl ([.ref b, .int x1, .int z1, .int x2, .int z2]) ++ List.replicate (7 - (lg_sl ([.ref b, .int x1, .int z1, .int x2, .int z2])).length) Slot.unset).toArray = ls at hl ⊢
  have hl : lv_has ls 7 [(0, .ref b), (1, .int x1), (2, .int z1), (3, .int x2), (4, .int z2)] := hl
  obtain ⟨hB0, hB1, hB2, hB3, hB4, hB5⟩ := hB
  have hMf : fs_Mf b M M := fs_Mf_r
  refine lv_iconst (v := 0) hx hb dM_powers_0 (by decide) ?_
  refine lv_istore (lv' := [(5, .int 0), (0, .ref b), (1, .int x1), (2, .int z1), (3, .int x2), (4, .int z2)]) hx hb dM_powers_1 hl (by decide) rfl (fun ls hl => ?_)
  refine lv_iconst (v := 0) hx hb dM_powers_3 (by decide) ?_
  refine lv_istore (lv' := [(6, .int 0), (5, .int 0), (0, .ref b), (1, .int x1), (2, .int z1), (3, .int x2), (4, .int z2)]) hx hb dM_powers_4 hl (by decide) rfl (fun ls hl => ?_)
  refine fm_loop (head := 6) (maxL := 7) (cn 0) (fun i (u : Int32) M1 => M1 = M ∧ u = fs_pws x1 z1 x2 z2 i) (fun i (u : Int32) => [(6, .int (nI i)), (0, .ref b), (1, .int x1), (2, .int z1), (3, .int x2), (4, .int z2), (5, .int u)]) ?_ ?_ (cn 0) 0 (by omega) 0 M _ _ ls ⟨rfl, rfl⟩ hW (lv_sub hl [0, 2, 3, 4, 5, 6, 1] rfl)
  · intro i u M2 H locs ls hi hI hW hl back
    have hW : fm_W D fs_cl5 A M s.heap H locs := by rw [← hI.1]; exact hW
    have hl : lv_has ls 7 [(6, .int (nI i)), (0, .ref b), (1, .int x1), (2, .int z1), (3, .int x2), (4, .int z2), (5, .int u)] := hl
    refine lv_iload hx hb dM_powers_6 (lv_at hl 0 rfl) ?_
    refine lv_aload_n hx hb dM_powers_8 rfl (lv_at hl 1 rfl) ?_
    refine fm_get (ci := 4) (v := .int (nI (cn 0))) (C := RM) (T := TM) (N := 30) hx hb hT inM hown hK hW hM.1 rfl 1 (by decide) (hT _ fl_M_68) (fun _ h9 => h9) rfl dM_powers_9 ?_
    refine lv_icmp_ge (tgt := 54) hx hb dM_powers_12 (by decide) (fun c_1 => ?_) (fun c_1 => ?_)
    · exact absurd c_1 (nI_ge hi (by omega))
    · refine lv_iload hx hb dM_powers_15 (lv_at hl 6 rfl) ?_
      refine lv_iload_n hx hb dM_powers_17 rfl (lv_at hl 2 rfl) ?_
      refine lv_iload hx hb dM_powers_18 (lv_at hl 0 rfl) ?_
      refine fm_calli (va_runS (As := [.int x1, .int (nI i)]) (rest := [.int u]) ⟨hx, hb, hml, hown, hts⟩ (c_M_bit l D ct A M x1 (nI i)) ⟨callB_of 2 hts (fs_gin co_M_bit) rfl rfl rfl (hT _ ini_M) (hT _ ml_M_95) (by decide +kernel) ⟨Nat.le_of_ble_eq_true rfl, Nat.le_of_ble_eq_true rfl⟩, hT _ st_M_bit⟩ (fn_pre fs_isnw hK hN hW) rfl rfl hl.1 rfl (lv_room (Nat.le_of_ble_eq_true rfl)) dM_powers_20 ⟨Nat.le_of_ble_eq_true rfl, Nat.le_of_ble_eq_true rfl⟩) hW (fun r_2 M_3 H locs hp_4 hW => ?_)
      have hW : fm_W D fs_cl5 A M s.heap H locs := by rw [← hp_4.2]; exact hW
      have er_2 := hp_4.1
      refine lv_iload_n hx hb dM_powers_23 rfl (lv_at hl 3 rfl) ?_
      refine lv_iload hx hb dM_powers_24 (lv_at hl 0 rfl) ?_
      refine fm_calli (va_runS (As := [.int z1, .int (nI i)]) (rest := [.int r_2, .int u]) ⟨hx, hb, hml, hown, hts⟩ (c_M_bit l D ct A M z1 (nI i)) ⟨callB_of 2 hts (fs_gin co_M_bit) rfl rfl rfl (hT _ ini_M) (hT _ ml_M_95) (by decide +kernel) ⟨Nat.le_of_ble_eq_true rfl, Nat.le_of_ble_eq_true rfl⟩, hT _ st_M_bit⟩ (fn_pre fs_isnw hK hN hW) rfl rfl hl.1 rfl (lv_room (Nat.le_of_ble_eq_true rfl)) dM_powers_26 ⟨Nat.le_of_ble_eq_true rfl, Nat.le_of_ble_eq_true rfl⟩) hW (fun r_5 M_6 H locs hp_7 hW => ?_)
      have hW : fm_W D fs_cl5 A M s.heap H locs := by rw [← hp_7.2]; exact hW
      have er_5 := hp_7.1
      refine lv_iload_n hx hb dM_powers_29 rfl (lv_at hl 4 rfl) ?_
      refine lv_iload hx hb dM_powers_30 (lv_at hl 0 rfl) ?_
      refine fm_calli (va_runS (As := [.int x2, .int (nI i)]) (rest := [.int r_5, .int r_2, .int u]) ⟨hx, hb, hml, hown, hts⟩ (c_M_bit l D ct A M x2 (nI i)) ⟨callB_of 2 hts (fs_gin co_M_bit) rfl rfl rfl (hT _ ini_M) (hT _ ml_M_95) (by decide +kernel) ⟨Nat.le_of_ble_eq_true rfl, Nat.le_of_ble_eq_true rfl⟩, hT _ st_M_bit⟩ (fn_pre fs_isnw hK hN hW) rfl rfl hl.1 rfl (lv_room (Nat.le_of_ble_eq_true rfl)) dM_powers_32 ⟨Nat.le_of_ble_eq_true rfl, Nat.le_of_ble_eq_true rfl⟩) hW (fun r_8 M_9 H locs hp_10 hW => ?_)
      have hW : fm_W D fs_cl5 A M s.heap H locs := by rw [← hp_10.2]; exact hW
      have er_8 := hp_10.1
      refine lv_iload hx hb dM_powers_35 (lv_at hl 5 rfl) ?_
      refine lv_iload hx hb dM_powers_37 (lv_at hl 0 rfl) ?_
      refine fm_calli (va_runS (As := [.int z2, .int (nI i)]) (rest := [.int r_8, .int r_5, .int r_2, .int u]) ⟨hx, hb, hml, hown, hts⟩ (c_M_bit l D ct A M z2 (nI i)) ⟨callB_of 2 hts (fs_gin co_M_bit) rfl rfl rfl (hT _ ini_M) (hT _ ml_M_95) (by decide +kernel) ⟨Nat.le_of_ble_eq_true rfl, Nat.le_of_ble_eq_true rfl⟩, hT _ st_M_bit⟩ (fn_pre fs_isnw hK hN hW) rfl rfl hl.1 rfl (lv_room (Nat.le_of_ble_eq_true rfl)) dM_powers_39 ⟨Nat.le_of_ble_eq_true rfl, Nat.le_of_ble_eq_true rfl⟩) hW (fun r_11 M_12 H locs hp_13 hW => ?_)
      have hW : fm_W D fs_cl5 A M s.heap H locs := by rw [← hp_13.2]; exact hW
      have er_11 := hp_13.1
      refine fm_calli (va_runS (As := [.int r_2, .int r_5, .int r_8, .int r_11]) (rest := [.int u]) ⟨hx, hb, hml, hown, hts⟩ (c_M_power l D ct A M r_2 r_5 r_8 r_11) ⟨callB_of 4 hts (fs_gin co_M_power) rfl rfl rfl (hT _ ini_M) (hT _ ml_M_99) (by decide +kernel) ⟨Nat.le_of_ble_eq_true rfl, Nat.le_of_ble_eq_true rfl⟩, hT _ st_M_power⟩ (fn_pre fs_isnw hK hN hW) rfl rfl hl.1 rfl (lv_room (Nat.le_of_ble_eq_true rfl)) dM_powers_42 ⟨Nat.le_of_ble_eq_true rfl, Nat.le_of_ble_eq_true rfl⟩) hW (fun r_14 M_15 H locs hp_16 hW => ?_)
      have hW : fm_W D fs_cl5 A M s.heap H locs := by rw [← hp_16.2]; exact hW
      have er_14 := hp_16.1
      refine lv_iadd hx hb dM_powers_45 ?_
      refine lv_topi (fun x_17 ex_17 => ?_)
      refine lv_istore (lv' := [(5, .int x_17), (6, .int (nI i)), (0, .ref b), (1, .int x1), (2, .int z1), (3, .int x2), (4, .int z2)]) hx hb dM_powers_46 hl (by decide) rfl (fun ls hl => ?_)
      refine lv_iinc (v := nI (i + 1)) (lv' := [(6, .int (nI (i + 1))), (5, .int x_17), (0, .ref b), (1, .int x1), (2, .int z1), (3, .int x2), (4, .int z2)]) hx hb dM_powers_48 hl (k := 1) rfl (by show nI i + 1 = nI (i + 1); exact nI_1 i) (by decide) rfl (fun ls hl => ?_)
      refine lv_goto (tgt := 6) hx hb dM_powers_51 (by decide) ?_
      exact back x_17 _ _ _ ls ⟨rfl, by rw [ex_17, hI.2, er_14, er_11, er_8, er_5, er_2]; rfl⟩ hW (lv_sub hl [0, 2, 3, 4, 5, 6, 1] rfl)
  · intro u M2 H locs ls hI hW hl
    have hW : fm_W D fs_cl5 A M s.heap H locs := by rw [← hI.1]; exact hW
    have hl : lv_has ls 7 [(6, .int (nI (cn 0))), (0, .ref b), (1, .int x1), (2, .int z1), (3, .int x2), (4, .int z2), (5, .int u)] := hl
    refine lv_iload hx hb dM_powers_6 (lv_at hl 0 rfl) ?_
    refine lv_aload_n hx hb dM_powers_8 rfl (lv_at hl 1 rfl) ?_
    refine fm_get (ci := 4) (v := .int (nI (cn 0))) (C := RM) (T := TM) (N := 30) hx hb hT inM hown hK hW hM.1 rfl 1 (by decide) (hT _ fl_M_68) (fun _ h9 => h9) rfl dM_powers_9 ?_
    refine lv_icmp_ge (tgt := 54) hx hb dM_powers_12 (by decide) (fun c_18 => ?_) (fun c_18 => ?_)
    · refine lv_iload hx hb dM_powers_54 (lv_at hl 6 rfl) ?_
      refine lv_iconst (v := 3) hx hb dM_powers_56 (by decide) ?_
      refine lv_iand hx hb dM_powers_57 ?_
      exact fm_iret hx hb hr hlocks hW ⟨by rw [hI.2], rfl⟩ dM_powers_58
    · exact absurd (nI_le (Nat.le_refl (cn 0)) (by omega)) c_18
