-- the class Tableau
set_option maxHeartbeats 4000000 in
set_option maxRecDepth 100000 in
theorem c_T_pass (l : Launch) (D : va_G) (ct : Nat → ClassId) (A : Nat → Prop) (M : fm_M) (b N : Nat) (kp pn : Nat → fs_Q) (pr : fs_Q) (k a c0 : Int32) (hTB : fs_TB ct M b kp pn pr (nI N)) (hNN : N ≤ 10) : Met l yT_pass wT_pass ({ frames := 3, cells := 0, slots := 0, locals := 66 }) (va_Pc [.ref (b + 1), .int k, .int a, .int c0] (fm_St D fs_cl5 (fs_tys ct) fs_nw A M)) (va_Qv (fun (M1 : fm_M) => ∃ kp2 pn2 : Nat → fs_Q, fs_TB ct M1 b kp2 pn2 pr (nI N) ∧ fs_Tf b M M1 ∧ (∀ i, i < N → kp2 i = fs_ps (kp i) k a c0) ∧ ∀ i, i < N → pn2 i = fs_ps (pn i) k a c0) (fm_B D fs_cl5 A) A) 0 0 A := by
  refine Met.ofW (cc := cT_pass) (maxL := 5) (ret := none) (by decide) rfl ?_
  intro p e s m args below meth c s₁ B hml hv
  obtain ⟨rfl, hP0, hA0, hA1, hK, hN⟩ := hv
  have hx := B.exec
  have hb := B.bytes
  have hr := B.returns
  have hts := atoms_spec (ws := wT_pass) B.pre
  have hT : ∀ w ∈ fs_tb, w.before _ s = true := fun w h => hts w (List.mem_cons_of_mem _ h)
  have hown : s.vm.findClass "FrameSamples$Tableau" = some m.cls := findClass_of_methodNamed B.named
  have hlocks := B.notSynchronized
  have hW : fm_W D fs_cl5 A M s.heap s.heap [] := ⟨hP0, hA0, va_S.rf, hA1⟩
  have hl := lv_entry ([.ref (b + 1), .int k, .int a, .int c0]) (n := 5) (Nat.le_of_ble_eq_true rfl)
  rw [lg_entry_eq]
  generalize (lg_sl ([.ref (b + 1), .int k, .int a, .int c0]) ++ List.replicate (5 - (lg_sl ([.ref (b + 1), .int k, .int a, .int c0])).length) Slot.unset).toArray = ls at hl ⊢
  have hl : lv_has ls 5 [(0, .ref (b + 1)), (1, .int k), (2, .int a), (3, .int c0)] := hl
  have hTf : fs_Tf b M M := fs_Tf_r
  refine lv_iconst (v := 0) hx hb dT_pass_0 (by decide) ?_
  refine lv_istore (lv' := [(4, .int 0), (0, .ref (b + 1)), (1, .int k), (2, .int a), (3, .int c0)]) hx hb dT_pass_1 hl (by decide) rfl (fun ls hl => ?_)
  refine fm_loop (head := 3) (maxL := 5) N (fun i (u : (Nat → fs_Q) × (Nat → fs_Q)) M1 => fs_TB ct M1 b u.1 u.2 pr (nI N) ∧ fs_Tf b M M1 ∧ fs_Up i kp (fun j => fs_ps (kp j) k a c0) u.1 ∧ fs_Up i pn (fun j => fs_ps (pn j) k a c0) u.2) (fun i (u : (Nat → fs_Q) × (Nat → fs_Q)) => [(4, .int (nI i)), (0, .ref (b + 1)), (1, .int k), (2, .int a), (3, .int c0)]) ?_ ?_ N 0 (by omega) (kp, pn) M _ _ ls ⟨hTB, hTf, fs_Up_0 _ _, fs_Up_0 _ _⟩ hW (lv_sub hl [0, 1, 2, 3, 4] rfl)
  · intro i u M2 H locs ls hi hI hW hl back
    obtain ⟨kp1, pn1⟩ := u
    obtain ⟨hTB, hTf, hU, hV⟩ := hI
    have hTB : fs_TB ct M2 b kp1 pn1 pr (nI N) := hTB
    have hU : fs_Up i kp (fun j => fs_ps (kp j) k a c0) kp1 := hU
    have hV : fs_Up i pn (fun j => fs_ps (pn j) k a c0) pn1 := hV
    have hl : lv_has ls 5 [(4, .int (nI i)), (0, .ref (b + 1)), (1, .int k), (2, .int a), (3, .int c0)] := hl
    refine lv_iload hx hb dT_pass_3 (lv_at hl 0 rfl) ?_
    refine lv_aload_n hx hb dT_pass_5 rfl (lv_at hl 1 rfl) ?_
    refine fm_get (ci := 1) (v := .int (nI N)) (C := RT) (T := TT) (N := 4) hx hb hT inT hown hK hW hTB.1 rfl 3 (by decide) (hT _ fl_T_31) (fun _ h9 => h9) rfl dT_pass_6 ?_
    refine lv_icmp_ge (tgt := 44) hx hb dT_pass_9 (by decide) (fun c_1 => ?_) (fun c_1 => ?_)
    · exact absurd c_1 (nI_ge hi (by omega))
    · refine lv_aload_n hx hb dT_pass_12 rfl (lv_at hl 1 rfl) ?_
      refine fm_get (ci := 1) (v := .ref (b + 2)) (C := RT) (T := TT) (N := 4) hx hb hT inT hown hK hW hTB.1 rfl 0 (by decide) (hT _ fl_T_11) (fun _ h9 => h9) rfl dT_pass_13 ?_
      refine lv_iload hx hb dT_pass_16 (lv_at hl 0 rfl) ?_
      refine fm_aald hx hb hK hW 3 hTB.2.1 rfl (vp_in_nI (N := 10) (by omega) (by decide)) (fs_rk_at (by omega)) dT_pass_18 ?_
      refine lv_iload_n hx hb dT_pass_19 rfl (lv_at hl 2 rfl) ?_
      refine lv_iload_n hx hb dT_pass_20 rfl (lv_at hl 3 rfl) ?_
      refine lv_iload_n hx hb dT_pass_21 rfl (lv_at hl 4 rfl) ?_
      refine fm_callv (va_runV (As := [.int k, .int a, .int c0]) (rest := []) ⟨hx, hb, hml, hown, hts⟩ (c_P_pass l D ct A M2 (b + 4 + 2 * i) (kp1 i) k a c0 (hTB.2.2.2.1 i (by omega))) ⟨callB_of 3 hts (fs_gin co_P_pass) rfl rfl rfl (hT _ ini_P) (hT _ ml_T_39) (by decide +kernel) ⟨Nat.le_of_ble_eq_true rfl, Nat.le_of_ble_eq_true rfl⟩, hT _ im_P_pass, hT _ se_P_pass⟩ (fn_preV fs_isnw hK hN hW (hTB.2.2.2.1 i (by omega)) rfl) rfl rfl hl.1 rfl (lv_room (Nat.le_of_ble_eq_true rfl)) dT_pass_22 ⟨Nat.le_of_ble_eq_true rfl, Nat.le_of_ble_eq_true rfl⟩) hW (fun M_3 H locs hp_4 hW => ?_)
      have f_5 := ((congrFun hp_4 (b + 1)).trans (fm_un (by omega))).trans hTB.1
      have f_6 := ((congrFun hp_4 (b + 24)).trans (fm_un (by omega))).trans hTB.2.2.2.2.2
      have f_7 := (congrFun hp_4 (b + 4 + 2 * i)).trans fm_us
      have hTB : fs_TB ct M_3 b (va_up kp1 i (fs_ps (kp1 i) k a c0)) pn1 pr (nI N) := by rw [hp_4]; exact fs_TB_K hTB (by omega) (fs_ps (kp1 i) k a c0)
      have hTf : fs_Tf b M M_3 := by rw [hp_4]; exact fs_Tf_u hTf (by omega) _
      refine lv_aload_n hx hb dT_pass_25 rfl (lv_at hl 1 rfl) ?_
      refine fm_get (ci := 1) (v := .ref (b + 3)) (C := RT) (T := TT) (N := 4) hx hb hT inT hown hK hW f_5 rfl 1 (by decide) (hT _ fl_T_17) (fun _ h9 => h9) rfl dT_pass_26 ?_
      refine lv_iload hx hb dT_pass_29 (lv_at hl 0 rfl) ?_
      refine fm_aald hx hb hK hW 3 hTB.2.2.1 rfl (vp_in_nI (N := 10) (by omega) (by decide)) (fs_rp_at (by omega)) dT_pass_31 ?_
      refine lv_iload_n hx hb dT_pass_32 rfl (lv_at hl 2 rfl) ?_
      refine lv_iload_n hx hb dT_pass_33 rfl (lv_at hl 3 rfl) ?_
      refine lv_iload_n hx hb dT_pass_34 rfl (lv_at hl 4 rfl) ?_
      refine fm_callv (va_runV (As := [.int k, .int a, .int c0]) (rest := []) ⟨hx, hb, hml, hown, hts⟩ (c_P_pass l D ct A M_3 (b + 5 + 2 * i) (pn1 i) k a c0 (hTB.2.2.2.2.1 i (by omega))) ⟨callB_of 3 hts (fs_gin co_P_pass) rfl rfl rfl (hT _ ini_P) (hT _ ml_T_39) (by decide +kernel) ⟨Nat.le_of_ble_eq_true rfl, Nat.le_of_ble_eq_true rfl⟩, hT _ im_P_pass, hT _ se_P_pass⟩ (fn_preV fs_isnw hK hN hW (hTB.2.2.2.2.1 i (by omega)) rfl) rfl rfl hl.1 rfl (lv_room (Nat.le_of_ble_eq_true rfl)) dT_pass_35 ⟨Nat.le_of_ble_eq_true rfl, Nat.le_of_ble_eq_true rfl⟩) hW (fun M_9 H locs hp_10 hW => ?_)
      have f_11 := ((congrFun hp_10 (b + 1)).trans (fm_un (by omega))).trans f_5
      have f_12 := ((congrFun hp_10 (b + 24)).trans (fm_un (by omega))).trans f_6
      have f_13 := ((congrFun hp_10 (b + 4 + 2 * i)).trans (fm_un (by omega))).trans f_7
      have f_14 := (congrFun hp_10 (b + 5 + 2 * i)).trans fm_us
      have hTB : fs_TB ct M_9 b (va_up kp1 i (fs_ps (kp1 i) k a c0)) (va_up pn1 i (fs_ps (pn1 i) k a c0)) pr (nI N) := by rw [hp_10]; exact fs_TB_P hTB (by omega) (fs_ps (pn1 i) k a c0)
      have hTf : fs_Tf b M M_9 := by rw [hp_10]; exact fs_Tf_u hTf (by omega) _
      refine lv_iinc (v := nI (i + 1)) (lv' := [(4, .int (nI (i + 1))), (0, .ref (b + 1)), (1, .int k), (2, .int a), (3, .int c0)]) hx hb dT_pass_38 hl (k := 0) rfl (by show nI i + 1 = nI (i + 1); exact nI_1 i) (by decide) rfl (fun ls hl => ?_)
      refine lv_goto (tgt := 3) hx hb dT_pass_41 (by decide) ?_
      exact back (_, _) _ _ _ ls ⟨hTB, hTf, fs_Up_s hU (by rw [hU.2 i (Nat.le_refl i)]), fs_Up_s hV (by rw [hV.2 i (Nat.le_refl i)])⟩ hW (lv_sub hl [0, 1, 2, 3, 4] rfl)
  · intro u M2 H locs ls hI hW hl
    obtain ⟨kp1, pn1⟩ := u
    obtain ⟨hTB, hTf, hU, hV⟩ := hI
    have hTB : fs_TB ct M2 b kp1 pn1 pr (nI N) := hTB
    have hU : fs_Up N kp (fun j => fs_ps (kp j) k a c0) kp1 := hU
    have hV : fs_Up N pn (fun j => fs_ps (pn j) k a c0) pn1 := hV
    have hl : lv_has ls 5 [(4, .int (nI N)), (0, .ref (b + 1)), (1, .int k), (2, .int a), (3, .int c0)] := hl
    refine lv_iload hx hb dT_pass_3 (lv_at hl 0 rfl) ?_
    refine lv_aload_n hx hb dT_pass_5 rfl (lv_at hl 1 rfl) ?_
    refine fm_get (ci := 1) (v := .int (nI N)) (C := RT) (T := TT) (N := 4) hx hb hT inT hown hK hW hTB.1 rfl 3 (by decide) (hT _ fl_T_31) (fun _ h9 => h9) rfl dT_pass_6 ?_
    refine lv_icmp_ge (tgt := 44) hx hb dT_pass_9 (by decide) (fun c_15 => ?_) (fun c_15 => ?_)
    · exact fm_vret hx hb hr hlocks hW ⟨kp1, pn1, hTB, hTf, fun i hi => hU.1 i hi, fun i hi => hV.1 i hi⟩ dT_pass_44
    · exact absurd (nI_le (Nat.le_refl N) (by omega)) c_15
set_option maxHeartbeats 4000000 in
set_option maxRecDepth 100000 in
theorem c_T_start (l : Launch) (D : va_G) (ct : Nat → ClassId) (A : Nat → Prop) (M : fm_M) (b N : Nat) (kp pn : Nat → fs_Q) (pr : fs_Q) (w0 : Int32) (hTB : fs_TB ct M b kp pn pr w0) (hNN : N ≤ 10) : Met l yT_start wT_start ({ frames := 1, cells := 0, slots := 0, locals := 22 }) (va_Pc [.ref (b + 1), .int (nI N)] (fm_St D fs_cl5 (fs_tys ct) fs_nw A M)) (va_Qv (fun (M1 : fm_M) => ∃ kp2 pn2 : Nat → fs_Q, fs_TB ct M1 b kp2 pn2 pr (nI N) ∧ fs_Tf b M M1 ∧ (∀ i, i < N → kp2 i = ((0, 1 <<< (nI i &&& 31), 0, 0) : fs_Q)) ∧ ∀ i, i < N → pn2 i = ((1 <<< (nI i &&& 31), 0, 0, 0) : fs_Q)) (fm_B D fs_cl5 A) A) 0 0 A := by
  refine Met.ofW (cc := cT_start) (maxL := 3) (ret := none) (by decide) rfl ?_
  intro p e s m args below meth c s₁ B hml hv
  obtain ⟨rfl, hP0, hA0, hA1, hK, hN⟩ := hv
  have hx := B.exec
  have hb := B.bytes
  have hr := B.returns
  have hts := atoms_spec (ws := wT_start) B.pre
  have hT : ∀ w ∈ fs_tb, w.before _ s = true := fun w h => hts w (List.mem_cons_of_mem _ h)
  have hown : s.vm.findClass "FrameSamples$Tableau" = some m.cls := findClass_of_methodNamed B.named
  have hlocks := B.notSynchronized
  have hW : fm_W D fs_cl5 A M s.heap s.heap [] := ⟨hP0, hA0, va_S.rf, hA1⟩
  have hl := lv_entry ([.ref (b + 1), .int (nI N)]) (n := 3) (Nat.le_of_ble_eq_true rfl)
  rw [lg_entry_eq]
  generalize (lg_sl ([.ref (b + 1), .int (nI N)]) ++ List.replicate (3 - (lg_sl ([.ref (b + 1), .int (nI N)])).length) Slot.unset).toArray = ls at hl ⊢
  have hl : lv_has ls 3 [(0, .ref (b + 1)), (1, .int (nI N))] := hl
  have hTf : fs_Tf b M M := fs_Tf_r
  refine lv_aload_n hx hb dT_start_0 rfl (lv_at hl 0 rfl) ?_
  refine lv_iload_n hx hb dT_start_1 rfl (lv_at hl 1 rfl) ?_
  refine lv_bipush (v := 10) hx hb dT_start_2 (by decide) ?_
  refine va_mmin hx hb (by rw [hml]; exact hl.1.symm) hown (hT _ ml_T_25) (hT _ st_JM_min) (hT _ ini_JM) (hT _ co_JM_min) (Nat.le_of_ble_eq_true rfl) (Nat.le_of_ble_eq_true rfl) (Nat.le_refl _) (Nat.le_refl _) dT_start_4 ?_
  refine lv_topi (fun r_1 er_1 => ?_)
  have er_1 : r_1 = nI N := by rw [er_1, if_neg (show ¬ (10 : Int32) < nI N from nI_nlt (a := 10) hNN (by decide))]
  subst er_1
  refine fm_put (ci := 1) (v := .int (nI N)) (ty := .int) (C := RT) (T := TT) (N := 4) hx hb hT inT tyT tkT nmT hown hK hW hTB.1 rfl 3 (by decide) (hT _ fl_T_31) (fun _ h9 => h9) rfl (by decide +kernel) rfl rfl (Nat.le_of_ble_eq_true rfl) dT_start_7 (fun H locs hW => ?_)
  obtain ⟨M_2, eM_2⟩ : ∃ z : fm_M, z = va_up M (b + 1) (some (.inr (1, [.ref (b + 2), .ref (b + 3), .ref (b + 24), .int (nI N)]))) := ⟨_, rfl⟩
  have hW : fm_W D fs_cl5 A M_2 s.heap H locs := by rw [eM_2]; exact hW
  have f_3 : M_2 (b + 1) = some (.inr (1, [.ref (b + 2), .ref (b + 3), .ref (b + 24), .int (nI N)])) := by rw [eM_2]; exact fm_us
  have f_4 := (show M_2 (b + 24) = M (b + 24) by rw [eM_2]; exact fm_un (by omega)).trans hTB.2.2.2.2.2
  have hTB : fs_TB ct M_2 b kp pn pr (nI N) := by rw [eM_2]; exact fs_TB_W hTB _
  have hTf : fs_Tf b M M_2 := by rw [eM_2]; exact fs_Tf_u hTf (by omega) _
  refine lv_iconst (v := 0) hx hb dT_start_10 (by decide) ?_
  refine lv_istore_n (lv' := [(2, .int 0), (0, .ref (b + 1)), (1, .int (nI N))]) hx hb dT_start_11 rfl hl (by decide) rfl (fun ls hl => ?_)
  refine fm_loop (head := 12) (maxL := 3) N (fun i (u : (Nat → fs_Q) × (Nat → fs_Q)) M1 => fs_TB ct M1 b u.1 u.2 pr (nI N) ∧ fs_Tf b M M1 ∧ fs_Up i kp (fun j => ((0, 1 <<< (nI j &&& 31), 0, 0) : fs_Q)) u.1 ∧ fs_Up i pn (fun j => ((1 <<< (nI j &&& 31), 0, 0, 0) : fs_Q)) u.2) (fun i (u : (Nat → fs_Q) × (Nat → fs_Q)) => [(2, .int (nI i)), (0, .ref (b + 1))]) ?_ ?_ N 0 (by omega) (kp, pn) M_2 _ _ ls ⟨hTB, hTf, fs_Up_0 _ _, fs_Up_0 _ _⟩ hW (lv_sub hl [0, 1] rfl)
  · intro i u M2 H locs ls hi hI hW hl back
    obtain ⟨kp1, pn1⟩ := u
    obtain ⟨hTB, hTf, hU, hV⟩ := hI
    have hTB : fs_TB ct M2 b kp1 pn1 pr (nI N) := hTB
    have hU : fs_Up i kp (fun j => ((0, 1 <<< (nI j &&& 31), 0, 0) : fs_Q)) kp1 := hU
    have hV : fs_Up i pn (fun j => ((1 <<< (nI j &&& 31), 0, 0, 0) : fs_Q)) pn1 := hV
    have hl : lv_has ls 3 [(2, .int (nI i)), (0, .ref (b + 1))] := hl
    refine lv_iload_n hx hb dT_start_12 rfl (lv_at hl 0 rfl) ?_
    refine lv_aload_n hx hb dT_start_13 rfl (lv_at hl 1 rfl) ?_
    refine fm_get (ci := 1) (v := .int (nI N)) (C := RT) (T := TT) (N := 4) hx hb hT inT hown hK hW hTB.1 rfl 3 (by decide) (hT _ fl_T_31) (fun _ h9 => h9) rfl dT_start_14 ?_
    refine lv_icmp_ge (tgt := 52) hx hb dT_start_17 (by decide) (fun c_5 => ?_) (fun c_5 => ?_)
    · exact absurd c_5 (nI_ge hi (by omega))
    · refine lv_aload_n hx hb dT_start_20 rfl (lv_at hl 1 rfl) ?_
      refine fm_get (ci := 1) (v := .ref (b + 2)) (C := RT) (T := TT) (N := 4) hx hb hT inT hown hK hW hTB.1 rfl 0 (by decide) (hT _ fl_T_11) (fun _ h9 => h9) rfl dT_start_21 ?_
      refine lv_iload_n hx hb dT_start_24 rfl (lv_at hl 0 rfl) ?_
      refine fm_aald hx hb hK hW 3 hTB.2.1 rfl (vp_in_nI (N := 10) (by omega) (by decide)) (fs_rk_at (by omega)) dT_start_25 ?_
      refine lv_iconst (v := 0) hx hb dT_start_26 (by decide) ?_
      refine lv_iconst (v := 1) hx hb dT_start_27 (by decide) ?_
      refine lv_iload_n hx hb dT_start_28 rfl (lv_at hl 0 rfl) ?_
      refine lv_ishl hx hb dT_start_29 ?_
      refine fm_callv (va_runV (As := [.int 0, .int (1 <<< ((nI i) &&& 31))]) (rest := []) ⟨hx, hb, hml, hown, hts⟩ (c_P_become l D ct A M2 (b + 4 + 2 * i) (kp1 i) 0 (1 <<< ((nI i) &&& 31)) (hTB.2.2.2.1 i (by omega))) ⟨callB_of 2 hts (fs_gin co_P_become) rfl rfl rfl (hT _ ini_P) (hT _ ml_T_35) (by decide +kernel) ⟨Nat.le_of_ble_eq_true rfl, Nat.le_of_ble_eq_true rfl⟩, hT _ im_P_become, hT _ se_P_become⟩ (fn_preV fs_isnw hK hN hW (hTB.2.2.2.1 i (by omega)) rfl) rfl rfl hl.1 rfl (lv_room (Nat.le_of_ble_eq_true rfl)) dT_start_30 ⟨Nat.le_of_ble_eq_true rfl, Nat.le_of_ble_eq_true rfl⟩) hW (fun M_7 H locs hp_8 hW => ?_)
      have f_9 := ((congrFun hp_8 (b + 1)).trans (fm_un (by omega))).trans hTB.1
      have f_10 := ((congrFun hp_8 (b + 24)).trans (fm_un (by omega))).trans hTB.2.2.2.2.2
      have f_11 := (congrFun hp_8 (b + 4 + 2 * i)).trans fm_us
      have hTB : fs_TB ct M_7 b (va_up kp1 i (0, 1 <<< ((nI i) &&& 31), 0, 0)) pn1 pr (nI N) := by rw [hp_8]; exact fs_TB_K hTB (by omega) (0, 1 <<< ((nI i) &&& 31), 0, 0)
      have hTf : fs_Tf b M M_7 := by rw [hp_8]; exact fs_Tf_u hTf (by omega) _
      refine lv_aload_n hx hb dT_start_33 rfl (lv_at hl 1 rfl) ?_
      refine fm_get (ci := 1) (v := .ref (b + 3)) (C := RT) (T := TT) (N := 4) hx hb hT inT hown hK hW f_9 rfl 1 (by decide) (hT _ fl_T_17) (fun _ h9 => h9) rfl dT_start_34 ?_
      refine lv_iload_n hx hb dT_start_37 rfl (lv_at hl 0 rfl) ?_
      refine fm_aald hx hb hK hW 3 hTB.2.2.1 rfl (vp_in_nI (N := 10) (by omega) (by decide)) (fs_rp_at (by omega)) dT_start_38 ?_
      refine lv_iconst (v := 1) hx hb dT_start_39 (by decide) ?_
      refine lv_iload_n hx hb dT_start_40 rfl (lv_at hl 0 rfl) ?_
      refine lv_ishl hx hb dT_start_41 ?_
      refine lv_iconst (v := 0) hx hb dT_start_42 (by decide) ?_
      refine fm_callv (va_runV (As := [.int (1 <<< ((nI i) &&& 31)), .int 0]) (rest := []) ⟨hx, hb, hml, hown, hts⟩ (c_P_become l D ct A M_7 (b + 5 + 2 * i) (pn1 i) (1 <<< ((nI i) &&& 31)) 0 (hTB.2.2.2.2.1 i (by omega))) ⟨callB_of 2 hts (fs_gin co_P_become) rfl rfl rfl (hT _ ini_P) (hT _ ml_T_35) (by decide +kernel) ⟨Nat.le_of_ble_eq_true rfl, Nat.le_of_ble_eq_true rfl⟩, hT _ im_P_become, hT _ se_P_become⟩ (fn_preV fs_isnw hK hN hW (hTB.2.2.2.2.1 i (by omega)) rfl) rfl rfl hl.1 rfl (lv_room (Nat.le_of_ble_eq_true rfl)) dT_start_43 ⟨Nat.le_of_ble_eq_true rfl, Nat.le_of_ble_eq_true rfl⟩) hW (fun M_13 H locs hp_14 hW => ?_)
      have f_15 := ((congrFun hp_14 (b + 1)).trans (fm_un (by omega))).trans f_9
      have f_16 := ((congrFun hp_14 (b + 24)).trans (fm_un (by omega))).trans f_10
      have f_17 := ((congrFun hp_14 (b + 4 + 2 * i)).trans (fm_un (by omega))).trans f_11
      have f_18 := (congrFun hp_14 (b + 5 + 2 * i)).trans fm_us
      have hTB : fs_TB ct M_13 b (va_up kp1 i (0, 1 <<< ((nI i) &&& 31), 0, 0)) (va_up pn1 i (1 <<< ((nI i) &&& 31), 0, 0, 0)) pr (nI N) := by rw [hp_14]; exact fs_TB_P hTB (by omega) (1 <<< ((nI i) &&& 31), 0, 0, 0)
      have hTf : fs_Tf b M M_13 := by rw [hp_14]; exact fs_Tf_u hTf (by omega) _
      refine lv_iinc (v := nI (i + 1)) (lv' := [(2, .int (nI (i + 1))), (0, .ref (b + 1))]) hx hb dT_start_46 hl (k := 0) rfl (by show nI i + 1 = nI (i + 1); exact nI_1 i) (by decide) rfl (fun ls hl => ?_)
      refine lv_goto (tgt := 12) hx hb dT_start_49 (by decide) ?_
      exact back (_, _) _ _ _ ls ⟨hTB, hTf, fs_Up_s hU rfl, fs_Up_s hV rfl⟩ hW (lv_sub hl [0, 1] rfl)
  · intro u M2 H locs ls hI hW hl
    obtain ⟨kp1, pn1⟩ := u
    obtain ⟨hTB, hTf, hU, hV⟩ := hI
    have hTB : fs_TB ct M2 b kp1 pn1 pr (nI N) := hTB
    have hU : fs_Up N kp (fun j => ((0, 1 <<< (nI j &&& 31), 0, 0) : fs_Q)) kp1 := hU
    have hV : fs_Up N pn (fun j => ((1 <<< (nI j &&& 31), 0, 0, 0) : fs_Q)) pn1 := hV
    have hl : lv_has ls 3 [(2, .int (nI N)), (0, .ref (b + 1))] := hl
    refine lv_iload_n hx hb dT_start_12 rfl (lv_at hl 0 rfl) ?_
    refine lv_aload_n hx hb dT_start_13 rfl (lv_at hl 1 rfl) ?_
    refine fm_get (ci := 1) (v := .int (nI N)) (C := RT) (T := TT) (N := 4) hx hb hT inT hown hK hW hTB.1 rfl 3 (by decide) (hT _ fl_T_31) (fun _ h9 => h9) rfl dT_start_14 ?_
    refine lv_icmp_ge (tgt := 52) hx hb dT_start_17 (by decide) (fun c_19 => ?_) (fun c_19 => ?_)
    · exact fm_vret hx hb hr hlocks hW ⟨kp1, pn1, hTB, hTf, fun i hi => hU.1 i hi, fun i hi => hV.1 i hi⟩ dT_start_52
    · exact absurd (nI_le (Nat.le_refl N) (by omega)) c_19
set_option maxHeartbeats 4000000 in
set_option maxRecDepth 100000 in
theorem c_T_zFromKeepers (l : Launch) (D : va_G) (ct : Nat → ClassId) (A : Nat → Prop) (M : fm_M) (b N : Nat) (kp pn : Nat → fs_Q) (pr : fs_Q) (α : Nat) (hTB : fs_TB ct M b kp pn pr (nI N)) (hNN : N ≤ 10) (hα : α < N) : Met l yT_zFromKeepers wT_zFromKeepers ({ frames := 2, cells := 0, slots := 0, locals := 47 }) (va_Pc [.ref (b + 1), .int (nI α)] (fm_St D fs_cl5 (fs_tys ct) fs_nw A M)) (va_Qr (S := fm_M) (fun _ => True) (fun M1 ra t => (fun (ra : Nat) (M1 : fm_M) => ra = b + 24 ∧ fs_TB ct M1 b kp pn (fs_zk kp pn α N) (nI N) ∧ fs_Tf b M M1) ra M1 ∧ fm_B D fs_cl5 A M1 t) A) 0 0 A := by
  refine Met.ofW (cc := cT_zFromKeepers) (maxL := 3) (ret := (some (.object "FrameSamples$Pauli"))) (by decide) rfl ?_
  intro p e s m args below meth c s₁ B hml hv
  obtain ⟨rfl, hP0, hA0, hA1, hK, hN⟩ := hv
  have hx := B.exec
  have hb := B.bytes
  have hr := B.returns
  have hts := atoms_spec (ws := wT_zFromKeepers) B.pre
  have hT : ∀ w ∈ fs_tb, w.before _ s = true := fun w h => hts w (List.mem_cons_of_mem _ h)
  have hown : s.vm.findClass "FrameSamples$Tableau" = some m.cls := findClass_of_methodNamed B.named
  have hlocks := B.notSynchronized
  have hW : fm_W D fs_cl5 A M s.heap s.heap [] := ⟨hP0, hA0, va_S.rf, hA1⟩
  have hl := lv_entry ([.ref (b + 1), .int (nI α)]) (n := 3) (Nat.le_of_ble_eq_true rfl)
  rw [lg_entry_eq]
  generalize (lg_sl ([.ref (b + 1), .int (nI α)]) ++ List.replicate (3 - (lg_sl ([.ref (b + 1), .int (nI α)])).length) Slot.unset).toArray = ls at hl ⊢
  have hl : lv_has ls 3 [(0, .ref (b + 1)), (1, .int (nI α))] := hl
  have hTf : fs_Tf b M M := fs_Tf_r
  refine lv_aload_n hx hb dT_zFromKeepers_0 rfl (lv_at hl 0 rfl) ?_
  refine fm_get (ci := 1) (v := .ref (b + 24)) (C := RT) (T := TT) (N := 4) hx hb hT inT hown hK hW hTB.1 rfl 2 (by decide) (hT _ fl_T_21) (fun _ h9 => h9) rfl dT_zFromKeepers_1 ?_
  refine lv_iconst (v := 0) hx hb dT_zFromKeepers_4 (by decide) ?_
  refine lv_iconst (v := 0) hx hb dT_zFromKeepers_5 (by decide) ?_
  refine fm_callv (va_runV (As := [.int 0, .int 0]) (rest := []) ⟨hx, hb, hml, hown, hts⟩ (c_P_become l D ct A M (b + 24) pr 0 0 hTB.2.2.2.2.2) ⟨callB_of 2 hts (fs_gin co_P_become) rfl rfl rfl (hT _ ini_P) (hT _ ml_T_35) (by decide +kernel) ⟨Nat.le_of_ble_eq_true rfl, Nat.le_of_ble_eq_true rfl⟩, hT _ im_P_become, hT _ se_P_become⟩ (fn_preV fs_isnw hK hN hW hTB.2.2.2.2.2 rfl) rfl rfl hl.1 rfl (lv_room (Nat.le_of_ble_eq_true rfl)) dT_zFromKeepers_6 ⟨Nat.le_of_ble_eq_true rfl, Nat.le_of_ble_eq_true rfl⟩) hW (fun M_2 H locs hp_3 hW => ?_)
  have f_4 := ((congrFun hp_3 (b + 1)).trans (fm_un (by omega))).trans hTB.1
  have f_5 := (congrFun hp_3 (b + 24)).trans fm_us
  have hTB : fs_TB ct M_2 b kp pn (0, 0, 0, 0) (nI N) := by rw [hp_3]; exact fs_TB_R hTB (0, 0, 0, 0)
  have hTf : fs_Tf b M M_2 := by rw [hp_3]; exact fs_Tf_u hTf (by omega) _
  refine lv_iconst (v := 0) hx hb dT_zFromKeepers_9 (by decide) ?_
  refine lv_istore_n (lv' := [(2, .int 0), (0, .ref (b + 1)), (1, .int (nI α))]) hx hb dT_zFromKeepers_10 rfl hl (by decide) rfl (fun ls hl => ?_)
  refine fm_loop (head := 11) (maxL := 3) N (fun i (u : fs_Q) M1 => fs_TB ct M1 b kp pn u (nI N) ∧ fs_Tf b M M1 ∧ u = fs_zk kp pn α i) (fun i (u : fs_Q) => [(2, .int (nI i)), (0, .ref (b + 1)), (1, .int (nI α))]) ?_ ?_ N 0 (by omega) (0, 0, 0, 0) M_2 _ _ ls ⟨hTB, hTf, rfl⟩ hW (lv_sub hl [0, 1, 2] rfl)
  · intro i u M2 H locs ls hi hI hW hl back
    obtain ⟨hTB, hTf, hU⟩ := hI
    have hl : lv_has ls 3 [(2, .int (nI i)), (0, .ref (b + 1)), (1, .int (nI α))] := hl
    refine lv_iload_n hx hb dT_zFromKeepers_11 rfl (lv_at hl 0 rfl) ?_
    refine lv_aload_n hx hb dT_zFromKeepers_12 rfl (lv_at hl 1 rfl) ?_
    refine fm_get (ci := 1) (v := .int (nI N)) (C := RT) (T := TT) (N := 4) hx hb hT inT hown hK hW hTB.1 rfl 3 (by decide) (hT _ fl_T_31) (fun _ h9 => h9) rfl dT_zFromKeepers_13 ?_
    refine lv_icmp_ge (tgt := 52) hx hb dT_zFromKeepers_16 (by decide) (fun c_6 => ?_) (fun c_6 => ?_)
    · exact absurd c_6 (nI_ge hi (by omega))
    · refine lv_aload_n hx hb dT_zFromKeepers_19 rfl (lv_at hl 1 rfl) ?_
      refine fm_get (ci := 1) (v := .ref (b + 3)) (C := RT) (T := TT) (N := 4) hx hb hT inT hown hK hW hTB.1 rfl 1 (by decide) (hT _ fl_T_17) (fun _ h9 => h9) rfl dT_zFromKeepers_20 ?_
      refine lv_iload_n hx hb dT_zFromKeepers_23 rfl (lv_at hl 0 rfl) ?_
      refine fm_aald hx hb hK hW 3 hTB.2.2.1 rfl (vp_in_nI (N := 10) (by omega) (by decide)) (fs_rp_at (by omega)) dT_zFromKeepers_24 ?_
      refine lv_iload_n hx hb dT_zFromKeepers_25 rfl (lv_at hl 2 rfl) ?_
      refine fm_calli (va_runV (As := [.int (nI α)]) (rest := []) ⟨hx, hb, hml, hown, hts⟩ (c_P_xOn l D ct A M2 (b + 5 + 2 * i) (pn i) (nI α) (hTB.2.2.2.2.1 i (by omega))) ⟨callB_of 1 hts (fs_gin co_P_xOn) rfl rfl rfl (hT _ ini_P) (hT _ ml_T_43) (by decide +kernel) ⟨Nat.le_of_ble_eq_true rfl, Nat.le_of_ble_eq_true rfl⟩, hT _ im_P_xOn, hT _ se_P_xOn⟩ (fn_preV fs_isnw hK hN hW (hTB.2.2.2.2.1 i (by omega)) rfl) rfl rfl hl.1 rfl (lv_room (Nat.le_of_ble_eq_true rfl)) dT_zFromKeepers_26 ⟨Nat.le_of_ble_eq_true rfl, Nat.le_of_ble_eq_true rfl⟩) hW (fun r_7 M_8 H locs hp_9 hW => ?_)
      have hW : fm_W D fs_cl5 A M2 s.heap H locs := by rw [← hp_9.2]; exact hW
      have er_7 : r_7 = fs_b (bt (pn i).1 α) := by rw [hp_9.1]; exact fs_xOn_b (by omega) _
      refine lv_iconst (v := 1) hx hb dT_zFromKeepers_29 (by decide) ?_
      refine lv_icmp_ne (tgt := 46) hx hb dT_zFromKeepers_30 (by decide) (fun c_10 => ?_) (fun c_10 => ?_)
      · have hf : bt (pn i).1 α = false := fs_ndt _ (fun z => c_10 (by rw [er_7, z]; rfl))
        refine lv_iinc (v := nI (i + 1)) (lv' := [(2, .int (nI (i + 1))), (0, .ref (b + 1)), (1, .int (nI α))]) hx hb dT_zFromKeepers_46 hl (k := 0) rfl (by show nI i + 1 = nI (i + 1); exact nI_1 i) (by decide) rfl (fun ls hl => ?_)
        refine lv_goto (tgt := 11) hx hb dT_zFromKeepers_49 (by decide) ?_
        exact back u _ _ _ ls ⟨hTB, hTf, by rw [hU]; exact (if_neg (by rw [hf]; decide)).symm⟩ hW (lv_sub hl [0, 1, 2] rfl)
      · have ht : bt (pn i).1 α = true := (fs_b_eq1 _).mp (by rw [← er_7]; exact c_10)
        refine lv_aload_n hx hb dT_zFromKeepers_33 rfl (lv_at hl 1 rfl) ?_
        refine fm_get (ci := 1) (v := .ref (b + 24)) (C := RT) (T := TT) (N := 4) hx hb hT inT hown hK hW hTB.1 rfl 2 (by decide) (hT _ fl_T_21) (fun _ h9 => h9) rfl dT_zFromKeepers_34 ?_
        refine lv_aload_n hx hb dT_zFromKeepers_37 rfl (lv_at hl 1 rfl) ?_
        refine fm_get (ci := 1) (v := .ref (b + 2)) (C := RT) (T := TT) (N := 4) hx hb hT inT hown hK hW hTB.1 rfl 0 (by decide) (hT _ fl_T_11) (fun _ h9 => h9) rfl dT_zFromKeepers_38 ?_
        refine lv_iload_n hx hb dT_zFromKeepers_41 rfl (lv_at hl 0 rfl) ?_
        refine fm_aald hx hb hK hW 3 hTB.2.1 rfl (vp_in_nI (N := 10) (by omega) (by decide)) (fs_rk_at (by omega)) dT_zFromKeepers_42 ?_
        refine fm_callv (va_runV (As := [.ref (b + 4 + 2 * i)]) (rest := []) ⟨hx, hb, hml, hown, hts⟩ (c_P_multiplyBy l D ct A M2 (b + 24) (u) (b + 4 + 2 * i) (kp i) hTB.2.2.2.2.2 (hTB.2.2.2.1 i (by omega)) (by omega)) ⟨callB_of 1 hts (fs_gin co_P_multiplyBy) rfl rfl rfl (hT _ ini_P) (hT _ ml_T_55) (by decide +kernel) ⟨Nat.le_of_ble_eq_true rfl, Nat.le_of_ble_eq_true rfl⟩, hT _ im_P_multiplyBy, hT _ se_P_multiplyBy⟩ (fn_preV fs_isnw hK hN hW hTB.2.2.2.2.2 rfl) rfl rfl hl.1 rfl (lv_room (Nat.le_of_ble_eq_true rfl)) dT_zFromKeepers_43 ⟨Nat.le_of_ble_eq_true rfl, Nat.le_of_ble_eq_true rfl⟩) hW (fun M_12 H locs hp_13 hW => ?_)
        have f_14 := ((congrFun hp_13 (b + 1)).trans (fm_un (by omega))).trans hTB.1
        have f_15 := (congrFun hp_13 (b + 24)).trans fm_us
        have f_16 := ((congrFun hp_13 (b + 5 + 2 * i)).trans (fm_un (by omega))).trans (hTB.2.2.2.2.1 i (by omega))
        have f_17 := ((congrFun hp_13 (b + 4 + 2 * i)).trans (fm_un (by omega))).trans (hTB.2.2.2.1 i (by omega))
        have hTB : fs_TB ct M_12 b kp pn (fs_mb (u) (kp i)) (nI N) := by rw [hp_13]; exact fs_TB_R hTB (fs_mb (u) (kp i))
        have hTf : fs_Tf b M M_12 := by rw [hp_13]; exact fs_Tf_u hTf (by omega) _
        refine lv_iinc (v := nI (i + 1)) (lv' := [(2, .int (nI (i + 1))), (0, .ref (b + 1)), (1, .int (nI α))]) hx hb dT_zFromKeepers_46 hl (k := 0) rfl (by show nI i + 1 = nI (i + 1); exact nI_1 i) (by decide) rfl (fun ls hl => ?_)
        refine lv_goto (tgt := 11) hx hb dT_zFromKeepers_49 (by decide) ?_
        exact back _ _ _ _ ls ⟨hTB, hTf, by rw [hU]; exact (if_pos ht).symm⟩ hW (lv_sub hl [0, 1, 2] rfl)
  · intro u M2 H locs ls hI hW hl
    obtain ⟨hTB, hTf, hU⟩ := hI
    have hl : lv_has ls 3 [(2, .int (nI N)), (0, .ref (b + 1)), (1, .int (nI α))] := hl
    refine lv_iload_n hx hb dT_zFromKeepers_11 rfl (lv_at hl 0 rfl) ?_
    refine lv_aload_n hx hb dT_zFromKeepers_12 rfl (lv_at hl 1 rfl) ?_
    refine fm_get (ci := 1) (v := .int (nI N)) (C := RT) (T := TT) (N := 4) hx hb hT inT hown hK hW hTB.1 rfl 3 (by decide) (hT _ fl_T_31) (fun _ h9 => h9) rfl dT_zFromKeepers_13 ?_
    refine lv_icmp_ge (tgt := 52) hx hb dT_zFromKeepers_16 (by decide) (fun c_18 => ?_) (fun c_18 => ?_)
    · refine lv_aload_n hx hb dT_zFromKeepers_52 rfl (lv_at hl 1 rfl) ?_
      refine fm_get (ci := 1) (v := .ref (b + 24)) (C := RT) (T := TT) (N := 4) hx hb hT inT hown hK hW hTB.1 rfl 2 (by decide) (hT _ fl_T_21) (fun _ h9 => h9) rfl dT_zFromKeepers_53 ?_
      subst hU
      exact fm_aret hx hb hr hlocks hW ⟨rfl, hTB, hTf⟩ dT_zFromKeepers_56
    · exact absurd (nI_le (Nat.le_refl N) (by omega)) c_18
set_option maxHeartbeats 4000000 in
set_option maxRecDepth 100000 in
theorem c_T_flipIfTold (l : Launch) (D : va_G) (ct : Nat → ClassId) (A : Nat → Prop) (M : fm_M) (b N : Nat) (kp pn : Nat → fs_Q) (pr : fs_Q) (α : Nat) (c0 : Int32) (r0 : Int64) (hTB : fs_TB ct M b kp pn pr (nI N)) (hNN : N ≤ 10) (hα : α < N) : Met l yT_flipIfTold wT_flipIfTold ({ frames := 1, cells := 0, slots := 0, locals := 21 }) (va_Pc [.ref (b + 1), .int (nI α), .int c0, .long r0] (fm_St D fs_cl5 (fs_tys ct) fs_nw A M)) (va_Qv (fun (M1 : fm_M) => ∃ kp2 : Nat → fs_Q, fs_TB ct M1 b kp2 pn pr (nI N) ∧ fs_Tf b M M1 ∧ ∀ i, i < N → kp2 i = if bt (kp i).2.1 α = true then fs_fl (kp i) c0 r0 else kp i) (fm_B D fs_cl5 A) A) 0 0 A := by
  refine Met.ofW (cc := cT_flipIfTold) (maxL := 6) (ret := none) (by decide) rfl ?_
  intro p e s m args below meth c s₁ B hml hv
  obtain ⟨rfl, hP0, hA0, hA1, hK, hN⟩ := hv
  have hx := B.exec
  have hb := B.bytes
  have hr := B.returns
  have hts := atoms_spec (ws := wT_flipIfTold) B.pre
  have hT : ∀ w ∈ fs_tb, w.before _ s = true := fun w h => hts w (List.mem_cons_of_mem _ h)
  have hown : s.vm.findClass "FrameSamples$Tableau" = some m.cls := findClass_of_methodNamed B.named
  have hlocks := B.notSynchronized
  have hW : fm_W D fs_cl5 A M s.heap s.heap [] := ⟨hP0, hA0, va_S.rf, hA1⟩
  have hl := lv_entry ([.ref (b + 1), .int (nI α), .int c0, .long r0]) (n := 6) (Nat.le_of_ble_eq_true rfl)
  rw [lg_entry_eq]
  generalize (lg_sl ([.ref (b + 1), .int (nI α), .int c0, .long r0]) ++ List.replicate (6 - (lg_sl ([.ref (b + 1), .int (nI α), .int c0, .long r0])).length) Slot.unset).toArray = ls at hl ⊢
  have hl : lv_has ls 6 [(0, .ref (b + 1)), (1, .int (nI α)), (2, .int c0), (3, .long r0)] := hl
  have hTf : fs_Tf b M M := fs_Tf_r
  refine lv_iconst (v := 0) hx hb dT_flipIfTold_0 (by decide) ?_
  refine lv_istore (lv' := [(5, .int 0), (0, .ref (b + 1)), (1, .int (nI α)), (2, .int c0), (3, .long r0)]) hx hb dT_flipIfTold_1 hl (by decide) rfl (fun ls hl => ?_)
  refine fm_loop (head := 3) (maxL := 6) N (fun i (u : Nat → fs_Q) M1 => fs_TB ct M1 b u pn pr (nI N) ∧ fs_Tf b M M1 ∧ fs_Up i kp (fun j => if bt (kp j).2.1 α = true then fs_fl (kp j) c0 r0 else kp j) u) (fun i (u : Nat → fs_Q) => [(5, .int (nI i)), (0, .ref (b + 1)), (1, .int (nI α)), (2, .int c0), (3, .long r0)]) ?_ ?_ N 0 (by omega) kp M _ _ ls ⟨hTB, hTf, fs_Up_0 _ _⟩ hW (lv_sub hl [0, 1, 2, 3, 4] rfl)
  · intro i u M2 H locs ls hi hI hW hl back
    obtain ⟨hTB, hTf, hU⟩ := hI
    have hl : lv_has ls 6 [(5, .int (nI i)), (0, .ref (b + 1)), (1, .int (nI α)), (2, .int c0), (3, .long r0)] := hl
    refine lv_iload hx hb dT_flipIfTold_3 (lv_at hl 0 rfl) ?_
    refine lv_aload_n hx hb dT_flipIfTold_5 rfl (lv_at hl 1 rfl) ?_
    refine fm_get (ci := 1) (v := .int (nI N)) (C := RT) (T := TT) (N := 4) hx hb hT inT hown hK hW hTB.1 rfl 3 (by decide) (hT _ fl_T_31) (fun _ h9 => h9) rfl dT_flipIfTold_6 ?_
    have hui : u i = kp i := hU.2 i (Nat.le_refl i)
    refine lv_icmp_ge (tgt := 65) hx hb dT_flipIfTold_9 (by decide) (fun c_1 => ?_) (fun c_1 => ?_)
    · exact absurd c_1 (nI_ge hi (by omega))
    · refine lv_aload_n hx hb dT_flipIfTold_12 rfl (lv_at hl 1 rfl) ?_
      refine fm_get (ci := 1) (v := .ref (b + 2)) (C := RT) (T := TT) (N := 4) hx hb hT inT hown hK hW hTB.1 rfl 0 (by decide) (hT _ fl_T_11) (fun _ h9 => h9) rfl dT_flipIfTold_13 ?_
      refine lv_iload hx hb dT_flipIfTold_16 (lv_at hl 0 rfl) ?_
      refine fm_aald hx hb hK hW 3 hTB.2.1 rfl (vp_in_nI (N := 10) (by omega) (by decide)) (fs_rk_at (by omega)) dT_flipIfTold_18 ?_
      refine lv_iload_n hx hb dT_flipIfTold_19 rfl (lv_at hl 2 rfl) ?_
      refine fm_calli (va_runV (As := [.int (nI α)]) (rest := []) ⟨hx, hb, hml, hown, hts⟩ (c_P_zOn l D ct A M2 (b + 4 + 2 * i) (u i) (nI α) (hTB.2.2.2.1 i (by omega))) ⟨callB_of 1 hts (fs_gin co_P_zOn) rfl rfl rfl (hT _ ini_P) (hT _ ml_T_66) (by decide +kernel) ⟨Nat.le_of_ble_eq_true rfl, Nat.le_of_ble_eq_true rfl⟩, hT _ im_P_zOn, hT _ se_P_zOn⟩ (fn_preV fs_isnw hK hN hW (hTB.2.2.2.1 i (by omega)) rfl) rfl rfl hl.1 rfl (lv_room (Nat.le_of_ble_eq_true rfl)) dT_flipIfTold_20 ⟨Nat.le_of_ble_eq_true rfl, Nat.le_of_ble_eq_true rfl⟩) hW (fun r_2 M_3 H locs hp_4 hW => ?_)
      have hW : fm_W D fs_cl5 A M2 s.heap H locs := by rw [← hp_4.2]; exact hW
      have er_2 : r_2 = fs_b (bt (u i).2.1 α) := by rw [hp_4.1]; exact fs_zOn_b (by omega) _
      refine lv_iconst (v := 1) hx hb dT_flipIfTold_23 (by decide) ?_
      refine lv_icmp_ne (tgt := 59) hx hb dT_flipIfTold_24 (by decide) (fun c_5 => ?_) (fun c_5 => ?_)
      · have hf : bt (u i).2.1 α = false := fs_ndt _ (fun z => c_5 (by rw [er_2, z]; rfl))
        refine lv_iinc (v := nI (i + 1)) (lv' := [(5, .int (nI (i + 1))), (0, .ref (b + 1)), (1, .int (nI α)), (2, .int c0), (3, .long r0)]) hx hb dT_flipIfTold_59 hl (k := 0) rfl (by show nI i + 1 = nI (i + 1); exact nI_1 i) (by decide) rfl (fun ls hl => ?_)
        refine lv_goto (tgt := 3) hx hb dT_flipIfTold_62 (by decide) ?_
        exact back u _ _ _ ls ⟨hTB, hTf, fs_Up_k hU (by rw [hui] at hf ⊢; exact (if_neg (by rw [hf]; decide)).symm)⟩ hW (lv_sub hl [0, 1, 2, 3, 4] rfl)
      · have ht : bt (u i).2.1 α = true := (fs_b_eq1 _).mp (by rw [← er_2]; exact c_5)
        refine lv_aload_n hx hb dT_flipIfTold_27 rfl (lv_at hl 1 rfl) ?_
        refine fm_get (ci := 1) (v := .ref (b + 2)) (C := RT) (T := TT) (N := 4) hx hb hT inT hown hK hW hTB.1 rfl 0 (by decide) (hT _ fl_T_11) (fun _ h9 => h9) rfl dT_flipIfTold_28 ?_
        refine lv_iload hx hb dT_flipIfTold_31 (lv_at hl 0 rfl) ?_
        refine fm_aald hx hb hK hW 3 hTB.2.1 rfl (vp_in_nI (N := 10) (by omega) (by decide)) (fs_rk_at (by omega)) dT_flipIfTold_33 ?_
        refine lv_dup hx hb dT_flipIfTold_34 rfl ?_
        refine fm_getN (ci := 0) (v := .int ((u i).2.2.1)) (C := RP) (T := TP) (N := 4) hx hb hT inP hown hK hW (hTB.2.2.2.1 i (by omega)) rfl 2 (by decide) (hN _ (List.mem_of_getElem? (i := 5) rfl)) (fun _ h9 => h9) rfl dT_flipIfTold_35 ?_
        refine lv_iload_n hx hb dT_flipIfTold_38 rfl (lv_at hl 3 rfl) ?_
        refine lv_ixor hx hb dT_flipIfTold_39 ?_
        refine lv_topi (fun x_6 ex_6 => ?_)
        refine fm_putN (ci := 0) (v := .int x_6) (ty := .int) (C := RP) (T := TP) (N := 4) hx hb hT inP tyP tkP nmP hown hK hW (hTB.2.2.2.1 i (by omega)) rfl 2 (by decide) (hN _ (List.mem_of_getElem? (i := 5) rfl)) (fun _ h9 => h9) rfl (by decide +kernel) rfl rfl (Nat.le_of_ble_eq_true rfl) dT_flipIfTold_40 (fun H locs hW => ?_)
        obtain ⟨M_7, eM_7⟩ : ∃ z : fm_M, z = va_up M2 (b + 4 + 2 * i) (some (.inr (0, [.int ((u i).1), .int ((u i).2.1), .int x_6, .long ((u i).2.2.2)]))) := ⟨_, rfl⟩
        have hW : fm_W D fs_cl5 A M_7 s.heap H locs := by rw [eM_7]; exact hW
        have f_8 := (show M_7 (b + 1) = M2 (b + 1) by rw [eM_7]; exact fm_un (by omega)).trans hTB.1
        have f_9 := (show M_7 (b + 24) = M2 (b + 24) by rw [eM_7]; exact fm_un (by omega)).trans hTB.2.2.2.2.2
        have f_10 : M_7 (b + 4 + 2 * i) = some (.inr (0, [.int ((u i).1), .int ((u i).2.1), .int x_6, .long ((u i).2.2.2)])) := by rw [eM_7]; exact fm_us
        have hTB : fs_TB ct M_7 b (va_up u i ((u i).1, (u i).2.1, x_6, (u i).2.2.2)) pn pr (nI N) := by rw [eM_7]; exact fs_TB_K hTB (by omega) ((u i).1, (u i).2.1, x_6, (u i).2.2.2)
        have hTf : fs_Tf b M M_7 := by rw [eM_7]; exact fs_Tf_u hTf (by omega) _
        refine lv_aload_n hx hb dT_flipIfTold_43 rfl (lv_at hl 1 rfl) ?_
        refine fm_get (ci := 1) (v := .ref (b + 2)) (C := RT) (T := TT) (N := 4) hx hb hT inT hown hK hW f_8 rfl 0 (by decide) (hT _ fl_T_11) (fun _ h9 => h9) rfl dT_flipIfTold_44 ?_
        refine lv_iload hx hb dT_flipIfTold_47 (lv_at hl 0 rfl) ?_
        refine fm_aald hx hb hK hW 3 hTB.2.1 rfl (vp_in_nI (N := 10) (by omega) (by decide)) (fs_rk_at (by omega)) dT_flipIfTold_49 ?_
        refine lv_dup hx hb dT_flipIfTold_50 rfl ?_
        refine fm_getN (ci := 0) (v := .long ((u i).2.2.2)) (C := RP) (T := TP) (N := 4) hx hb hT inP hown hK hW f_10 rfl 3 (by decide) (hN _ (List.mem_of_getElem? (i := 7) rfl)) (fun _ h9 => h9) rfl dT_flipIfTold_51 ?_
        refine lv_lload_n hx hb dT_flipIfTold_54 rfl (lv_at hl 4 rfl) ?_
        refine lv_lxor hx hb dT_flipIfTold_55 ?_
        refine lv_topl (fun x_11 ex_11 => ?_)
        refine fm_putN (ci := 0) (v := .long x_11) (ty := .long) (C := RP) (T := TP) (N := 4) hx hb hT inP tyP tkP nmP hown hK hW f_10 rfl 3 (by decide) (hN _ (List.mem_of_getElem? (i := 7) rfl)) (fun _ h9 => h9) rfl (by decide +kernel) rfl rfl (Nat.le_of_ble_eq_true rfl) dT_flipIfTold_56 (fun H locs hW => ?_)
        obtain ⟨M_12, eM_12⟩ : ∃ z : fm_M, z = va_up M_7 (b + 4 + 2 * i) (some (.inr (0, [.int ((u i).1), .int ((u i).2.1), .int x_6, .long x_11]))) := ⟨_, rfl⟩
        have hW : fm_W D fs_cl5 A M_12 s.heap H locs := by rw [eM_12]; exact hW
        have f_13 := (show M_12 (b + 1) = M_7 (b + 1) by rw [eM_12]; exact fm_un (by omega)).trans f_8
        have f_14 := (show M_12 (b + 24) = M_7 (b + 24) by rw [eM_12]; exact fm_un (by omega)).trans f_9
        have f_15 : M_12 (b + 4 + 2 * i) = some (.inr (0, [.int ((u i).1), .int ((u i).2.1), .int x_6, .long x_11])) := by rw [eM_12]; exact fm_us
        have hTB : fs_TB ct M_12 b (va_up (va_up u i ((u i).1, (u i).2.1, x_6, (u i).2.2.2)) i ((u i).1, (u i).2.1, x_6, x_11)) pn pr (nI N) := by rw [eM_12]; exact fs_TB_K hTB (by omega) ((u i).1, (u i).2.1, x_6, x_11)
        have hTf : fs_Tf b M M_12 := by rw [eM_12]; exact fs_Tf_u hTf (by omega) _
        have hTB : fs_TB ct M_12 b (va_up u i (fs_fl (u i) c0 r0)) pn pr (nI N) := by
          have z : va_up (va_up u i ((u i).1, (u i).2.1, x_6, (u i).2.2.2)) i ((u i).1, (u i).2.1, x_6, x_11) = va_up u i (fs_fl (u i) c0 r0) := by
            subst ex_11; subst ex_6; rw [bx_uu]; rfl
          rw [← z]; exact hTB
        refine lv_iinc (v := nI (i + 1)) (lv' := [(5, .int (nI (i + 1))), (0, .ref (b + 1)), (1, .int (nI α)), (2, .int c0), (3, .long r0)]) hx hb dT_flipIfTold_59 hl (k := 0) rfl (by show nI i + 1 = nI (i + 1); exact nI_1 i) (by decide) rfl (fun ls hl => ?_)
        refine lv_goto (tgt := 3) hx hb dT_flipIfTold_62 (by decide) ?_
        exact back _ _ _ _ ls ⟨hTB, hTf, fs_Up_s hU (by rw [hui] at ht ⊢; exact (if_pos ht).symm)⟩ hW (lv_sub hl [0, 1, 2, 3, 4] rfl)
  · intro u M2 H locs ls hI hW hl
    obtain ⟨hTB, hTf, hU⟩ := hI
    have hl : lv_has ls 6 [(5, .int (nI N)), (0, .ref (b + 1)), (1, .int (nI α)), (2, .int c0), (3, .long r0)] := hl
    refine lv_iload hx hb dT_flipIfTold_3 (lv_at hl 0 rfl) ?_
    refine lv_aload_n hx hb dT_flipIfTold_5 rfl (lv_at hl 1 rfl) ?_
    refine fm_get (ci := 1) (v := .int (nI N)) (C := RT) (T := TT) (N := 4) hx hb hT inT hown hK hW hTB.1 rfl 3 (by decide) (hT _ fl_T_31) (fun _ h9 => h9) rfl dT_flipIfTold_6 ?_
    refine lv_icmp_ge (tgt := 65) hx hb dT_flipIfTold_9 (by decide) (fun c_16 => ?_) (fun c_16 => ?_)
    · exact fm_vret hx hb hr hlocks hW ⟨u, hTB, hTf, fun i hi => hU.1 i hi⟩ dT_flipIfTold_65
    · exact absurd (nI_le (Nat.le_refl N) (by omega)) c_16
