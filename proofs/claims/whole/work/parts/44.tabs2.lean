-- Tableau.collapse, measure
theorem fu_s {α : Type} {f : Nat → α} {k : Nat} {v : α} : va_up f k v k = v := if_pos rfl
theorem fu_n {α : Type} {f : Nat → α} {k j : Nat} {v : α} (h : j ≠ k) : va_up f k v j = f j := if_neg h
set_option maxHeartbeats 4000000 in
set_option maxRecDepth 100000 in
theorem c_T_collapse (l : Launch) (D : va_G) (ct : Nat → ClassId) (A : Nat → Prop) (M : fm_M) (b N : Nat) (kp pn : Nat → fs_Q) (pr : fs_Q) (p0 α : Nat) (num : Int32) (hTB : fs_TB ct M b kp pn pr (nI N)) (hNN : N ≤ 10) (hp0 : p0 < N) (hα : α < N) : Met l yT_collapse wT_collapse ({ frames := 2, cells := 0, slots := 0, locals := 47 }) (va_Pc [.ref (b + 1), .int (nI p0), .int (nI α), .int num] (fm_St D fs_cl5 (fs_tys ct) fs_nw A M)) (va_Qr (S := fm_M) (fun _ => True) (fun M1 ra t => (fun (ra : Nat) (M1 : fm_M) => ra = b + 4 + 2 * p0 ∧ ∃ kp2 pn2 : Nat → fs_Q, fs_TB ct M1 b kp2 pn2 pr (nI N) ∧ fs_Tf b M M1 ∧ (∀ i, i < N → kp2 i = if i = p0 then ((0, 1 <<< (nI α &&& 31), 0, 1 <<< (num.toInt64 &&& 63)) : fs_Q) else if bt (kp i).1 α = true then fs_mb (kp i) (kp p0) else kp i) ∧ (∀ i, i < N → pn2 i = if i = p0 then kp p0 else if bt (pn i).1 α = true then fs_mb (pn i) (kp p0) else pn i)) ra M1 ∧ fm_B D fs_cl5 A M1 t) A) 0 0 A := by
  refine Met.ofW (cc := cT_collapse) (maxL := 6) (ret := (some (.object "FrameSamples$Pauli"))) (by decide) rfl ?_
  intro p e s m args below meth c s₁ B hml hv
  obtain ⟨rfl, hP0, hA0, hA1, hK, hN⟩ := hv
  have hx := B.exec
  have hb := B.bytes
  have hr := B.returns
  have hts := atoms_spec (ws := wT_collapse) B.pre
  have hT : ∀ w ∈ fs_tb, w.before _ s = true := fun w h => hts w (List.mem_cons_of_mem _ h)
  have hown : s.vm.findClass "FrameSamples$Tableau" = some m.cls := findClass_of_methodNamed B.named
  have hlocks := B.notSynchronized
  have hW : fm_W D fs_cl5 A M s.heap s.heap [] := ⟨hP0, hA0, va_S.rf, hA1⟩
  have hl := lv_entry ([.ref (b + 1), .int (nI p0), .int (nI α), .int num]) (n := 6) (Nat.le_of_ble_eq_true rfl)
  rw [lg_entry_eq]
  generalize (lg_sl ([.ref (b + 1), .int (nI p0), .int (nI α), .int num]) ++ List.replicate (6 - (lg_sl ([.ref (b + 1), .int (nI p0), .int (nI α), .int num])).length) Slot.unset).toArray = ls at hl ⊢
  have hl : lv_has ls 6 [(0, .ref (b + 1)), (1, .int (nI p0)), (2, .int (nI α)), (3, .int num)] := hl
  have hTf : fs_Tf b M M := fs_Tf_r
  refine lv_aload_n hx hb dT_collapse_0 rfl (lv_at hl 0 rfl) ?_
  refine fm_get (ci := 1) (v := .ref (b + 2)) (C := RT) (T := TT) (N := 4) hx hb hT inT hown hK hW hTB.1 rfl 0 (by decide) (hT _ fl_T_11) (fun _ h9 => h9) rfl dT_collapse_1 ?_
  refine lv_iload_n hx hb dT_collapse_4 rfl (lv_at hl 1 rfl) ?_
  refine fm_aald hx hb hK hW 3 hTB.2.1 rfl (vp_in_nI (N := 10) (by omega) (by decide)) (fs_rk_at (by omega)) dT_collapse_5 ?_
  refine lv_astore (lv' := [(4, .ref (b + 4 + 2 * p0)), (0, .ref (b + 1)), (1, .int (nI p0)), (2, .int (nI α)), (3, .int num)]) hx hb dT_collapse_6 hl (by decide) rfl (fun ls hl => ?_)
  refine lv_iconst (v := 0) hx hb dT_collapse_8 (by decide) ?_
  refine lv_istore (lv' := [(5, .int 0), (4, .ref (b + 4 + 2 * p0)), (0, .ref (b + 1)), (1, .int (nI p0)), (2, .int (nI α)), (3, .int num)]) hx hb dT_collapse_9 hl (by decide) rfl (fun ls hl => ?_)
  refine fm_loop (head := 11) (maxL := 6) N (fun i (u : (Nat → fs_Q) × (Nat → fs_Q)) M1 => fs_TB ct M1 b u.1 u.2 pr (nI N) ∧ fs_Tf b M M1 ∧ fs_Up i kp (fun j => if j = p0 then kp p0 else if bt (kp j).1 α = true then fs_mb (kp j) (kp p0) else kp j) u.1 ∧ fs_Up i pn (fun j => if j = p0 then pn p0 else if bt (pn j).1 α = true then fs_mb (pn j) (kp p0) else pn j) u.2) (fun i (u : (Nat → fs_Q) × (Nat → fs_Q)) => [(5, .int (nI i)), (0, .ref (b + 1)), (1, .int (nI p0)), (2, .int (nI α)), (3, .int num), (4, .ref (b + 4 + 2 * p0))]) ?_ ?_ N 0 (by omega) (kp, pn) M _ _ ls ⟨hTB, hTf, fs_Up_0 _ _, fs_Up_0 _ _⟩ hW (lv_sub hl [0, 2, 3, 4, 5, 1] rfl)
  · intro i u M2 H locs ls hi hI hW hl back
    obtain ⟨kp1, pn1⟩ := u
    obtain ⟨hTB, hTf, hU, hV⟩ := hI
    have hTB : fs_TB ct M2 b kp1 pn1 pr (nI N) := hTB
    have hU : fs_Up i kp (fun j => if j = p0 then kp p0 else if bt (kp j).1 α = true then fs_mb (kp j) (kp p0) else kp j) kp1 := hU
    have hV : fs_Up i pn (fun j => if j = p0 then pn p0 else if bt (pn j).1 α = true then fs_mb (pn j) (kp p0) else pn j) pn1 := hV
    have hl : lv_has ls 6 [(5, .int (nI i)), (0, .ref (b + 1)), (1, .int (nI p0)), (2, .int (nI α)), (3, .int num), (4, .ref (b + 4 + 2 * p0))] := hl
    have hup : kp1 p0 = kp p0 := by
      rcases Nat.lt_or_ge p0 i with z | z
      · rw [hU.1 p0 z]; exact if_pos rfl
      · exact hU.2 p0 z
    have hui : kp1 i = kp i := hU.2 i (Nat.le_refl i)
    have hvi : pn1 i = pn i := hV.2 i (Nat.le_refl i)
    refine lv_iload hx hb dT_collapse_11 (lv_at hl 0 rfl) ?_
    refine lv_aload_n hx hb dT_collapse_13 rfl (lv_at hl 1 rfl) ?_
    refine fm_get (ci := 1) (v := .int (nI N)) (C := RT) (T := TT) (N := 4) hx hb hT inT hown hK hW hTB.1 rfl 3 (by decide) (hT _ fl_T_31) (fun _ h9 => h9) rfl dT_collapse_14 ?_
    refine lv_icmp_ge (tgt := 92) hx hb dT_collapse_17 (by decide) (fun c_1 => ?_) (fun c_1 => ?_)
    · exact absurd c_1 (nI_ge hi (by omega))
    · refine lv_iload hx hb dT_collapse_20 (lv_at hl 0 rfl) ?_
      refine lv_iload_n hx hb dT_collapse_22 rfl (lv_at hl 2 rfl) ?_
      refine lv_icmp_eq (tgt := 53) hx hb dT_collapse_23 (by decide) (fun c_2 => ?_) (fun c_2 => ?_)
      · have hie : i = p0 := (nI_eq (by omega) (by omega)).mp c_2
        refine lv_iload hx hb dT_collapse_53 (lv_at hl 0 rfl) ?_
        refine lv_iload_n hx hb dT_collapse_55 rfl (lv_at hl 2 rfl) ?_
        refine lv_icmp_eq (tgt := 86) hx hb dT_collapse_56 (by decide) (fun c_3 => ?_) (fun c_3 => ?_)
        · have hU2 : fs_Up (i + 1) kp (fun j => if j = p0 then kp p0 else if bt (kp j).1 α = true then fs_mb (kp j) (kp p0) else kp j) kp1 := fs_Up_k hU (by rw [hui, hie]; exact (if_pos rfl).symm)
          have hV2 : fs_Up (i + 1) pn (fun j => if j = p0 then pn p0 else if bt (pn j).1 α = true then fs_mb (pn j) (kp p0) else pn j) pn1 := fs_Up_k hV (by rw [hvi, hie]; exact (if_pos rfl).symm)
          refine lv_iinc (v := nI (i + 1)) (lv' := [(5, .int (nI (i + 1))), (0, .ref (b + 1)), (1, .int (nI p0)), (2, .int (nI α)), (3, .int num), (4, .ref (b + 4 + 2 * p0))]) hx hb dT_collapse_86 hl (k := 0) rfl (by show nI i + 1 = nI (i + 1); exact nI_1 i) (by decide) rfl (fun ls hl => ?_)
          refine lv_goto (tgt := 11) hx hb dT_collapse_89 (by decide) ?_
          exact back (kp1, pn1) _ _ _ ls ⟨hTB, hTf, hU2, hV2⟩ hW (lv_sub hl [0, 1, 2, 3, 4, 5] rfl)
        · exact absurd c_2 c_3
      · have hne : i ≠ p0 := fun z => c_2 (by rw [z])
        refine lv_aload_n hx hb dT_collapse_26 rfl (lv_at hl 1 rfl) ?_
        refine fm_get (ci := 1) (v := .ref (b + 2)) (C := RT) (T := TT) (N := 4) hx hb hT inT hown hK hW hTB.1 rfl 0 (by decide) (hT _ fl_T_11) (fun _ h9 => h9) rfl dT_collapse_27 ?_
        refine lv_iload hx hb dT_collapse_30 (lv_at hl 0 rfl) ?_
        refine fm_aald hx hb hK hW 3 hTB.2.1 rfl (vp_in_nI (N := 10) (by omega) (by decide)) (fs_rk_at (by omega)) dT_collapse_32 ?_
        refine lv_iload_n hx hb dT_collapse_33 rfl (lv_at hl 3 rfl) ?_
        refine fm_calli (va_runV (As := [.int (nI α)]) (rest := []) ⟨hx, hb, hml, hown, hts⟩ (c_P_xOn l D ct A M2 (b + 4 + 2 * i) (kp1 i) (nI α) (hTB.2.2.2.1 i (by omega))) ⟨callB_of 1 hts (fs_gin co_P_xOn) rfl rfl rfl (hT _ ini_P) (hT _ ml_T_43) (by decide +kernel) ⟨Nat.le_of_ble_eq_true rfl, Nat.le_of_ble_eq_true rfl⟩, hT _ im_P_xOn, hT _ se_P_xOn⟩ (fn_preV fs_isnw hK hN hW (hTB.2.2.2.1 i (by omega)) rfl) rfl rfl hl.1 rfl (lv_room (Nat.le_of_ble_eq_true rfl)) dT_collapse_34 ⟨Nat.le_of_ble_eq_true rfl, Nat.le_of_ble_eq_true rfl⟩) hW (fun r_4 M_5 H locs hp_6 hW => ?_)
        have hW : fm_W D fs_cl5 A M2 s.heap H locs := by rw [← hp_6.2]; exact hW
        have er_4 : r_4 = fs_b (bt (kp1 i).1 α) := by rw [hp_6.1]; exact fs_xOn_b (by omega) _
        refine lv_iconst (v := 1) hx hb dT_collapse_37 (by decide) ?_
        refine lv_icmp_ne (tgt := 53) hx hb dT_collapse_38 (by decide) (fun c_7 => ?_) (fun c_7 => ?_)
        · have hf : bt (kp1 i).1 α = false := fs_ndt _ (fun z => c_7 (by rw [er_4, z]; rfl))
          refine lv_iload hx hb dT_collapse_53 (lv_at hl 0 rfl) ?_
          refine lv_iload_n hx hb dT_collapse_55 rfl (lv_at hl 2 rfl) ?_
          refine lv_icmp_eq (tgt := 86) hx hb dT_collapse_56 (by decide) (fun c_8 => ?_) (fun c_8 => ?_)
          · exact absurd ((nI_eq (by omega) (by omega)).mp c_8) hne
          · refine lv_aload_n hx hb dT_collapse_59 rfl (lv_at hl 1 rfl) ?_
            refine fm_get (ci := 1) (v := .ref (b + 3)) (C := RT) (T := TT) (N := 4) hx hb hT inT hown hK hW hTB.1 rfl 1 (by decide) (hT _ fl_T_17) (fun _ h9 => h9) rfl dT_collapse_60 ?_
            refine lv_iload hx hb dT_collapse_63 (lv_at hl 0 rfl) ?_
            refine fm_aald hx hb hK hW 3 hTB.2.2.1 rfl (vp_in_nI (N := 10) (by omega) (by decide)) (fs_rp_at (by omega)) dT_collapse_65 ?_
            refine lv_iload_n hx hb dT_collapse_66 rfl (lv_at hl 3 rfl) ?_
            refine fm_calli (va_runV (As := [.int (nI α)]) (rest := []) ⟨hx, hb, hml, hown, hts⟩ (c_P_xOn l D ct A M2 (b + 5 + 2 * i) (pn1 i) (nI α) (hTB.2.2.2.2.1 i (by omega))) ⟨callB_of 1 hts (fs_gin co_P_xOn) rfl rfl rfl (hT _ ini_P) (hT _ ml_T_43) (by decide +kernel) ⟨Nat.le_of_ble_eq_true rfl, Nat.le_of_ble_eq_true rfl⟩, hT _ im_P_xOn, hT _ se_P_xOn⟩ (fn_preV fs_isnw hK hN hW (hTB.2.2.2.2.1 i (by omega)) rfl) rfl rfl hl.1 rfl (lv_room (Nat.le_of_ble_eq_true rfl)) dT_collapse_67 ⟨Nat.le_of_ble_eq_true rfl, Nat.le_of_ble_eq_true rfl⟩) hW (fun r_9 M_10 H locs hp_11 hW => ?_)
            have hW : fm_W D fs_cl5 A M2 s.heap H locs := by rw [← hp_11.2]; exact hW
            have er_9 : r_9 = fs_b (bt (pn1 i).1 α) := by rw [hp_11.1]; exact fs_xOn_b (by omega) _
            refine lv_iconst (v := 1) hx hb dT_collapse_70 (by decide) ?_
            refine lv_icmp_ne (tgt := 86) hx hb dT_collapse_71 (by decide) (fun c_12 => ?_) (fun c_12 => ?_)
            · have hf2 : bt (pn1 i).1 α = false := fs_ndt _ (fun z => c_12 (by rw [er_9, z]; rfl))
              have hU2 : fs_Up (i + 1) kp (fun j => if j = p0 then kp p0 else if bt (kp j).1 α = true then fs_mb (kp j) (kp p0) else kp j) kp1 := fs_Up_k hU (by rw [hui] at hf ⊢; exact ((if_neg hne).trans (if_neg (by rw [hf]; decide))).symm)
              have hV2 : fs_Up (i + 1) pn (fun j => if j = p0 then pn p0 else if bt (pn j).1 α = true then fs_mb (pn j) (kp p0) else pn j) pn1 := fs_Up_k hV (by rw [hvi] at hf2 ⊢; exact ((if_neg hne).trans (if_neg (by rw [hf2]; decide))).symm)
              refine lv_iinc (v := nI (i + 1)) (lv' := [(5, .int (nI (i + 1))), (0, .ref (b + 1)), (1, .int (nI p0)), (2, .int (nI α)), (3, .int num), (4, .ref (b + 4 + 2 * p0))]) hx hb dT_collapse_86 hl (k := 0) rfl (by show nI i + 1 = nI (i + 1); exact nI_1 i) (by decide) rfl (fun ls hl => ?_)
              refine lv_goto (tgt := 11) hx hb dT_collapse_89 (by decide) ?_
              exact back (kp1, pn1) _ _ _ ls ⟨hTB, hTf, hU2, hV2⟩ hW (lv_sub hl [0, 1, 2, 3, 4, 5] rfl)
            · have ht2 : bt (pn1 i).1 α = true := (fs_b_eq1 _).mp (by rw [← er_9]; exact c_12)
              refine lv_aload_n hx hb dT_collapse_74 rfl (lv_at hl 1 rfl) ?_
              refine fm_get (ci := 1) (v := .ref (b + 3)) (C := RT) (T := TT) (N := 4) hx hb hT inT hown hK hW hTB.1 rfl 1 (by decide) (hT _ fl_T_17) (fun _ h9 => h9) rfl dT_collapse_75 ?_
              refine lv_iload hx hb dT_collapse_78 (lv_at hl 0 rfl) ?_
              refine fm_aald hx hb hK hW 3 hTB.2.2.1 rfl (vp_in_nI (N := 10) (by omega) (by decide)) (fs_rp_at (by omega)) dT_collapse_80 ?_
              refine lv_aload hx hb dT_collapse_81 (lv_at hl 5 rfl) ?_
              refine fm_callv (va_runV (As := [.ref (b + 4 + 2 * p0)]) (rest := []) ⟨hx, hb, hml, hown, hts⟩ (c_P_multiplyBy l D ct A M2 (b + 5 + 2 * i) (pn1 i) (b + 4 + 2 * p0) (kp1 p0) (hTB.2.2.2.2.1 i (by omega)) (hTB.2.2.2.1 p0 (by omega)) (by omega)) ⟨callB_of 1 hts (fs_gin co_P_multiplyBy) rfl rfl rfl (hT _ ini_P) (hT _ ml_T_55) (by decide +kernel) ⟨Nat.le_of_ble_eq_true rfl, Nat.le_of_ble_eq_true rfl⟩, hT _ im_P_multiplyBy, hT _ se_P_multiplyBy⟩ (fn_preV fs_isnw hK hN hW (hTB.2.2.2.2.1 i (by omega)) rfl) rfl rfl hl.1 rfl (lv_room (Nat.le_of_ble_eq_true rfl)) dT_collapse_83 ⟨Nat.le_of_ble_eq_true rfl, Nat.le_of_ble_eq_true rfl⟩) hW (fun M_14 H locs hp_15 hW => ?_)
              have f_16 := ((congrFun hp_15 (b + 1)).trans (fm_un (by omega))).trans hTB.1
              have f_17 := ((congrFun hp_15 (b + 24)).trans (fm_un (by omega))).trans hTB.2.2.2.2.2
              have f_18 := ((congrFun hp_15 (b + 4 + 2 * p0)).trans (fm_un (by omega))).trans (hTB.2.2.2.1 p0 (by omega))
              have f_19 := ((congrFun hp_15 (b + 4 + 2 * i)).trans (fm_un (by omega))).trans (hTB.2.2.2.1 i (by omega))
              have f_20 := (congrFun hp_15 (b + 5 + 2 * i)).trans fm_us
              have hTB : fs_TB ct M_14 b kp1 (va_up pn1 i (fs_mb (pn1 i) (kp1 p0))) pr (nI N) := by rw [hp_15]; exact fs_TB_P hTB (by omega) (fs_mb (pn1 i) (kp1 p0))
              have hTf : fs_Tf b M M_14 := by rw [hp_15]; exact fs_Tf_u hTf (by omega) _
              have hU2 : fs_Up (i + 1) kp (fun j => if j = p0 then kp p0 else if bt (kp j).1 α = true then fs_mb (kp j) (kp p0) else kp j) kp1 := fs_Up_k hU (by rw [hui] at hf ⊢; exact ((if_neg hne).trans (if_neg (by rw [hf]; decide))).symm)
              have hV2 : fs_Up (i + 1) pn (fun j => if j = p0 then pn p0 else if bt (pn j).1 α = true then fs_mb (pn j) (kp p0) else pn j) (va_up pn1 i (fs_mb (pn1 i) (kp1 p0))) := fs_Up_s hV (by rw [hvi, hup]; rw [hvi] at ht2; exact ((if_neg hne).trans (if_pos ht2)).symm)
              refine lv_iinc (v := nI (i + 1)) (lv' := [(5, .int (nI (i + 1))), (0, .ref (b + 1)), (1, .int (nI p0)), (2, .int (nI α)), (3, .int num), (4, .ref (b + 4 + 2 * p0))]) hx hb dT_collapse_86 hl (k := 0) rfl (by show nI i + 1 = nI (i + 1); exact nI_1 i) (by decide) rfl (fun ls hl => ?_)
              refine lv_goto (tgt := 11) hx hb dT_collapse_89 (by decide) ?_
              exact back (kp1, va_up pn1 i (fs_mb (pn1 i) (kp1 p0))) _ _ _ ls ⟨hTB, hTf, hU2, hV2⟩ hW (lv_sub hl [0, 1, 2, 3, 4, 5] rfl)
        · have ht : bt (kp1 i).1 α = true := (fs_b_eq1 _).mp (by rw [← er_4]; exact c_7)
          refine lv_aload_n hx hb dT_collapse_41 rfl (lv_at hl 1 rfl) ?_
          refine fm_get (ci := 1) (v := .ref (b + 2)) (C := RT) (T := TT) (N := 4) hx hb hT inT hown hK hW hTB.1 rfl 0 (by decide) (hT _ fl_T_11) (fun _ h9 => h9) rfl dT_collapse_42 ?_
          refine lv_iload hx hb dT_collapse_45 (lv_at hl 0 rfl) ?_
          refine fm_aald hx hb hK hW 3 hTB.2.1 rfl (vp_in_nI (N := 10) (by omega) (by decide)) (fs_rk_at (by omega)) dT_collapse_47 ?_
          refine lv_aload hx hb dT_collapse_48 (lv_at hl 5 rfl) ?_
          refine fm_callv (va_runV (As := [.ref (b + 4 + 2 * p0)]) (rest := []) ⟨hx, hb, hml, hown, hts⟩ (c_P_multiplyBy l D ct A M2 (b + 4 + 2 * i) (kp1 i) (b + 4 + 2 * p0) (kp1 p0) (hTB.2.2.2.1 i (by omega)) (hTB.2.2.2.1 p0 (by omega)) (by omega)) ⟨callB_of 1 hts (fs_gin co_P_multiplyBy) rfl rfl rfl (hT _ ini_P) (hT _ ml_T_55) (by decide +kernel) ⟨Nat.le_of_ble_eq_true rfl, Nat.le_of_ble_eq_true rfl⟩, hT _ im_P_multiplyBy, hT _ se_P_multiplyBy⟩ (fn_preV fs_isnw hK hN hW (hTB.2.2.2.1 i (by omega)) rfl) rfl rfl hl.1 rfl (lv_room (Nat.le_of_ble_eq_true rfl)) dT_collapse_50 ⟨Nat.le_of_ble_eq_true rfl, Nat.le_of_ble_eq_true rfl⟩) hW (fun M_22 H locs hp_23 hW => ?_)
          have f_24 := ((congrFun hp_23 (b + 1)).trans (fm_un (by omega))).trans hTB.1
          have f_25 := ((congrFun hp_23 (b + 24)).trans (fm_un (by omega))).trans hTB.2.2.2.2.2
          have f_26 := ((congrFun hp_23 (b + 4 + 2 * p0)).trans (fm_un (by omega))).trans (hTB.2.2.2.1 p0 (by omega))
          have f_27 := (congrFun hp_23 (b + 4 + 2 * i)).trans fm_us
          have hTB : fs_TB ct M_22 b (va_up kp1 i (fs_mb (kp1 i) (kp1 p0))) pn1 pr (nI N) := by rw [hp_23]; exact fs_TB_K hTB (by omega) (fs_mb (kp1 i) (kp1 p0))
          have hTf : fs_Tf b M M_22 := by rw [hp_23]; exact fs_Tf_u hTf (by omega) _
          refine lv_iload hx hb dT_collapse_53 (lv_at hl 0 rfl) ?_
          refine lv_iload_n hx hb dT_collapse_55 rfl (lv_at hl 2 rfl) ?_
          refine lv_icmp_eq (tgt := 86) hx hb dT_collapse_56 (by decide) (fun c_28 => ?_) (fun c_28 => ?_)
          · exact absurd ((nI_eq (by omega) (by omega)).mp c_28) hne
          · refine lv_aload_n hx hb dT_collapse_59 rfl (lv_at hl 1 rfl) ?_
            refine fm_get (ci := 1) (v := .ref (b + 3)) (C := RT) (T := TT) (N := 4) hx hb hT inT hown hK hW f_24 rfl 1 (by decide) (hT _ fl_T_17) (fun _ h9 => h9) rfl dT_collapse_60 ?_
            refine lv_iload hx hb dT_collapse_63 (lv_at hl 0 rfl) ?_
            refine fm_aald hx hb hK hW 3 hTB.2.2.1 rfl (vp_in_nI (N := 10) (by omega) (by decide)) (fs_rp_at (by omega)) dT_collapse_65 ?_
            refine lv_iload_n hx hb dT_collapse_66 rfl (lv_at hl 3 rfl) ?_
            refine fm_calli (va_runV (As := [.int (nI α)]) (rest := []) ⟨hx, hb, hml, hown, hts⟩ (c_P_xOn l D ct A M_22 (b + 5 + 2 * i) (pn1 i) (nI α) (hTB.2.2.2.2.1 i (by omega))) ⟨callB_of 1 hts (fs_gin co_P_xOn) rfl rfl rfl (hT _ ini_P) (hT _ ml_T_43) (by decide +kernel) ⟨Nat.le_of_ble_eq_true rfl, Nat.le_of_ble_eq_true rfl⟩, hT _ im_P_xOn, hT _ se_P_xOn⟩ (fn_preV fs_isnw hK hN hW (hTB.2.2.2.2.1 i (by omega)) rfl) rfl rfl hl.1 rfl (lv_room (Nat.le_of_ble_eq_true rfl)) dT_collapse_67 ⟨Nat.le_of_ble_eq_true rfl, Nat.le_of_ble_eq_true rfl⟩) hW (fun r_29 M_30 H locs hp_31 hW => ?_)
            have hW : fm_W D fs_cl5 A M_22 s.heap H locs := by rw [← hp_31.2]; exact hW
            have er_29 : r_29 = fs_b (bt (pn1 i).1 α) := by rw [hp_31.1]; exact fs_xOn_b (by omega) _
            refine lv_iconst (v := 1) hx hb dT_collapse_70 (by decide) ?_
            refine lv_icmp_ne (tgt := 86) hx hb dT_collapse_71 (by decide) (fun c_32 => ?_) (fun c_32 => ?_)
            · have hf2 : bt (pn1 i).1 α = false := fs_ndt _ (fun z => c_32 (by rw [er_29, z]; rfl))
              have hU2 : fs_Up (i + 1) kp (fun j => if j = p0 then kp p0 else if bt (kp j).1 α = true then fs_mb (kp j) (kp p0) else kp j) (va_up kp1 i (fs_mb (kp1 i) (kp1 p0))) := fs_Up_s hU (by rw [hui, hup]; rw [hui] at ht; exact ((if_neg hne).trans (if_pos ht)).symm)
              have hV2 : fs_Up (i + 1) pn (fun j => if j = p0 then pn p0 else if bt (pn j).1 α = true then fs_mb (pn j) (kp p0) else pn j) pn1 := fs_Up_k hV (by rw [hvi] at hf2 ⊢; exact ((if_neg hne).trans (if_neg (by rw [hf2]; decide))).symm)
              refine lv_iinc (v := nI (i + 1)) (lv' := [(5, .int (nI (i + 1))), (0, .ref (b + 1)), (1, .int (nI p0)), (2, .int (nI α)), (3, .int num), (4, .ref (b + 4 + 2 * p0))]) hx hb dT_collapse_86 hl (k := 0) rfl (by show nI i + 1 = nI (i + 1); exact nI_1 i) (by decide) rfl (fun ls hl => ?_)
              refine lv_goto (tgt := 11) hx hb dT_collapse_89 (by decide) ?_
              exact back (va_up kp1 i (fs_mb (kp1 i) (kp1 p0)), pn1) _ _ _ ls ⟨hTB, hTf, hU2, hV2⟩ hW (lv_sub hl [0, 1, 2, 3, 4, 5] rfl)
            · have ht2 : bt (pn1 i).1 α = true := (fs_b_eq1 _).mp (by rw [← er_29]; exact c_32)
              refine lv_aload_n hx hb dT_collapse_74 rfl (lv_at hl 1 rfl) ?_
              refine fm_get (ci := 1) (v := .ref (b + 3)) (C := RT) (T := TT) (N := 4) hx hb hT inT hown hK hW f_24 rfl 1 (by decide) (hT _ fl_T_17) (fun _ h9 => h9) rfl dT_collapse_75 ?_
              refine lv_iload hx hb dT_collapse_78 (lv_at hl 0 rfl) ?_
              refine fm_aald hx hb hK hW 3 hTB.2.2.1 rfl (vp_in_nI (N := 10) (by omega) (by decide)) (fs_rp_at (by omega)) dT_collapse_80 ?_
              refine lv_aload hx hb dT_collapse_81 (lv_at hl 5 rfl) ?_
              refine fm_callv (va_runV (As := [.ref (b + 4 + 2 * p0)]) (rest := []) ⟨hx, hb, hml, hown, hts⟩ (c_P_multiplyBy l D ct A M_22 (b + 5 + 2 * i) (pn1 i) (b + 4 + 2 * p0) (kp1 p0) (hTB.2.2.2.2.1 i (by omega)) f_26 (by omega)) ⟨callB_of 1 hts (fs_gin co_P_multiplyBy) rfl rfl rfl (hT _ ini_P) (hT _ ml_T_55) (by decide +kernel) ⟨Nat.le_of_ble_eq_true rfl, Nat.le_of_ble_eq_true rfl⟩, hT _ im_P_multiplyBy, hT _ se_P_multiplyBy⟩ (fn_preV fs_isnw hK hN hW (hTB.2.2.2.2.1 i (by omega)) rfl) rfl rfl hl.1 rfl (lv_room (Nat.le_of_ble_eq_true rfl)) dT_collapse_83 ⟨Nat.le_of_ble_eq_true rfl, Nat.le_of_ble_eq_true rfl⟩) hW (fun M_34 H locs hp_35 hW => ?_)
              have f_36 := ((congrFun hp_35 (b + 1)).trans (fm_un (by omega))).trans f_24
              have f_37 := ((congrFun hp_35 (b + 24)).trans (fm_un (by omega))).trans f_25
              have f_38 := ((congrFun hp_35 (b + 4 + 2 * p0)).trans (fm_un (by omega))).trans f_26
              have f_39 := ((congrFun hp_35 (b + 4 + 2 * i)).trans (fm_un (by omega))).trans f_27
              have f_40 := (congrFun hp_35 (b + 5 + 2 * i)).trans fm_us
              have hTB : fs_TB ct M_34 b (va_up kp1 i (fs_mb (kp1 i) (kp1 p0))) (va_up pn1 i (fs_mb (pn1 i) (kp1 p0))) pr (nI N) := by rw [hp_35]; exact fs_TB_P hTB (by omega) (fs_mb (pn1 i) (kp1 p0))
              have hTf : fs_Tf b M M_34 := by rw [hp_35]; exact fs_Tf_u hTf (by omega) _
              have hU2 : fs_Up (i + 1) kp (fun j => if j = p0 then kp p0 else if bt (kp j).1 α = true then fs_mb (kp j) (kp p0) else kp j) (va_up kp1 i (fs_mb (kp1 i) (kp1 p0))) := fs_Up_s hU (by rw [hui, hup]; rw [hui] at ht; exact ((if_neg hne).trans (if_pos ht)).symm)
              have hV2 : fs_Up (i + 1) pn (fun j => if j = p0 then pn p0 else if bt (pn j).1 α = true then fs_mb (pn j) (kp p0) else pn j) (va_up pn1 i (fs_mb (pn1 i) (kp1 p0))) := fs_Up_s hV (by rw [hvi, hup]; rw [hvi] at ht2; exact ((if_neg hne).trans (if_pos ht2)).symm)
              refine lv_iinc (v := nI (i + 1)) (lv' := [(5, .int (nI (i + 1))), (0, .ref (b + 1)), (1, .int (nI p0)), (2, .int (nI α)), (3, .int num), (4, .ref (b + 4 + 2 * p0))]) hx hb dT_collapse_86 hl (k := 0) rfl (by show nI i + 1 = nI (i + 1); exact nI_1 i) (by decide) rfl (fun ls hl => ?_)
              refine lv_goto (tgt := 11) hx hb dT_collapse_89 (by decide) ?_
              exact back (va_up kp1 i (fs_mb (kp1 i) (kp1 p0)), va_up pn1 i (fs_mb (pn1 i) (kp1 p0))) _ _ _ ls ⟨hTB, hTf, hU2, hV2⟩ hW (lv_sub hl [0, 1, 2, 3, 4, 5] rfl)
  · intro u M2 H locs ls hI hW hl
    obtain ⟨kp1, pn1⟩ := u
    obtain ⟨hTB, hTf, hU, hV⟩ := hI
    have hTB : fs_TB ct M2 b kp1 pn1 pr (nI N) := hTB
    have hU : fs_Up N kp (fun j => if j = p0 then kp p0 else if bt (kp j).1 α = true then fs_mb (kp j) (kp p0) else kp j) kp1 := hU
    have hV : fs_Up N pn (fun j => if j = p0 then pn p0 else if bt (pn j).1 α = true then fs_mb (pn j) (kp p0) else pn j) pn1 := hV
    have hl : lv_has ls 6 [(5, .int (nI N)), (0, .ref (b + 1)), (1, .int (nI p0)), (2, .int (nI α)), (3, .int num), (4, .ref (b + 4 + 2 * p0))] := hl
    have hup : kp1 p0 = kp p0 := by
      rcases Nat.lt_or_ge p0 N with z | z
      · rw [hU.1 p0 z]; exact if_pos rfl
      · exact hU.2 p0 z
    refine lv_iload hx hb dT_collapse_11 (lv_at hl 0 rfl) ?_
    refine lv_aload_n hx hb dT_collapse_13 rfl (lv_at hl 1 rfl) ?_
    refine fm_get (ci := 1) (v := .int (nI N)) (C := RT) (T := TT) (N := 4) hx hb hT inT hown hK hW hTB.1 rfl 3 (by decide) (hT _ fl_T_31) (fun _ h9 => h9) rfl dT_collapse_14 ?_
    refine lv_icmp_ge (tgt := 92) hx hb dT_collapse_17 (by decide) (fun c_41 => ?_) (fun c_41 => ?_)
    · refine lv_aload_n hx hb dT_collapse_92 rfl (lv_at hl 1 rfl) ?_
      refine fm_get (ci := 1) (v := .ref (b + 3)) (C := RT) (T := TT) (N := 4) hx hb hT inT hown hK hW hTB.1 rfl 1 (by decide) (hT _ fl_T_17) (fun _ h9 => h9) rfl dT_collapse_93 ?_
      refine lv_iload_n hx hb dT_collapse_96 rfl (lv_at hl 2 rfl) ?_
      refine fm_aald hx hb hK hW 3 hTB.2.2.1 rfl (vp_in_nI (N := 10) (by omega) (by decide)) (fs_rp_at (by omega)) dT_collapse_97 ?_
      refine lv_aload hx hb dT_collapse_98 (lv_at hl 5 rfl) ?_
      refine fm_callv (va_runV (As := [.ref (b + 4 + 2 * p0)]) (rest := []) ⟨hx, hb, hml, hown, hts⟩ (c_P_copyFrom l D ct A M2 (b + 5 + 2 * p0) (pn1 p0) (b + 4 + 2 * p0) (kp1 p0) (hTB.2.2.2.2.1 p0 (by omega)) (hTB.2.2.2.1 p0 (by omega)) (by omega)) ⟨callB_of 1 hts (fs_gin co_P_copyFrom) rfl rfl rfl (hT _ ini_P) (hT _ ml_T_59) (by decide +kernel) ⟨Nat.le_of_ble_eq_true rfl, Nat.le_of_ble_eq_true rfl⟩, hT _ im_P_copyFrom, hT _ se_P_copyFrom⟩ (fn_preV fs_isnw hK hN hW (hTB.2.2.2.2.1 p0 (by omega)) rfl) rfl rfl hl.1 rfl (lv_room (Nat.le_of_ble_eq_true rfl)) dT_collapse_100 ⟨Nat.le_of_ble_eq_true rfl, Nat.le_of_ble_eq_true rfl⟩) hW (fun M_43 H locs hp_44 hW => ?_)
      have f_45 := ((congrFun hp_44 (b + 1)).trans (fm_un (by omega))).trans hTB.1
      have f_46 := ((congrFun hp_44 (b + 24)).trans (fm_un (by omega))).trans hTB.2.2.2.2.2
      have f_47 := ((congrFun hp_44 (b + 4 + 2 * p0)).trans (fm_un (by omega))).trans (hTB.2.2.2.1 p0 (by omega))
      have f_48 := (congrFun hp_44 (b + 5 + 2 * p0)).trans fm_us
      have hTB : fs_TB ct M_43 b kp1 (va_up pn1 p0 (kp1 p0)) pr (nI N) := by rw [hp_44]; exact fs_TB_P hTB (by omega) (kp1 p0)
      have hTf : fs_Tf b M M_43 := by rw [hp_44]; exact fs_Tf_u hTf (by omega) _
      refine lv_aload hx hb dT_collapse_103 (lv_at hl 5 rfl) ?_
      refine lv_iconst (v := 0) hx hb dT_collapse_105 (by decide) ?_
      refine lv_iconst (v := 1) hx hb dT_collapse_106 (by decide) ?_
      refine lv_iload_n hx hb dT_collapse_107 rfl (lv_at hl 3 rfl) ?_
      refine lv_ishl hx hb dT_collapse_108 ?_
      refine fm_callv (va_runV (As := [.int 0, .int (1 <<< ((nI α) &&& 31))]) (rest := []) ⟨hx, hb, hml, hown, hts⟩ (c_P_become l D ct A M_43 (b + 4 + 2 * p0) (kp1 p0) 0 (1 <<< ((nI α) &&& 31)) f_47) ⟨callB_of 2 hts (fs_gin co_P_become) rfl rfl rfl (hT _ ini_P) (hT _ ml_T_35) (by decide +kernel) ⟨Nat.le_of_ble_eq_true rfl, Nat.le_of_ble_eq_true rfl⟩, hT _ im_P_become, hT _ se_P_become⟩ (fn_preV fs_isnw hK hN hW f_47 rfl) rfl rfl hl.1 rfl (lv_room (Nat.le_of_ble_eq_true rfl)) dT_collapse_109 ⟨Nat.le_of_ble_eq_true rfl, Nat.le_of_ble_eq_true rfl⟩) hW (fun M_50 H locs hp_51 hW => ?_)
      have f_52 := ((congrFun hp_51 (b + 1)).trans (fm_un (by omega))).trans f_45
      have f_53 := ((congrFun hp_51 (b + 24)).trans (fm_un (by omega))).trans f_46
      have f_54 := (congrFun hp_51 (b + 4 + 2 * p0)).trans fm_us
      have f_55 := ((congrFun hp_51 (b + 5 + 2 * p0)).trans (fm_un (by omega))).trans f_48
      have hTB : fs_TB ct M_50 b (va_up kp1 p0 (0, 1 <<< ((nI α) &&& 31), 0, 0)) (va_up pn1 p0 (kp1 p0)) pr (nI N) := by rw [hp_51]; exact fs_TB_K hTB (by omega) (0, 1 <<< ((nI α) &&& 31), 0, 0)
      have hTf : fs_Tf b M M_50 := by rw [hp_51]; exact fs_Tf_u hTf (by omega) _
      refine lv_aload hx hb dT_collapse_112 (lv_at hl 5 rfl) ?_
      refine lv_lconst (v := 1) hx hb dT_collapse_114 (by decide) ?_
      refine lv_iload_n hx hb dT_collapse_115 rfl (lv_at hl 4 rfl) ?_
      refine lv_lshl (v := 1 <<< (num.toInt64 &&& 63)) hx hb dT_collapse_116 rfl ?_
      refine lv_topl (fun x_56 ex_56 => ?_)
      refine fm_putN (ci := 0) (v := .long x_56) (ty := .long) (C := RP) (T := TP) (N := 4) hx hb hT inP tyP tkP nmP hown hK hW f_54 rfl 3 (by decide) (hN _ (List.mem_of_getElem? (i := 7) rfl)) (fun _ h9 => h9) rfl (by decide +kernel) rfl rfl (Nat.le_of_ble_eq_true rfl) dT_collapse_117 (fun H locs hW => ?_)
      obtain ⟨M_57, eM_57⟩ : ∃ z : fm_M, z = va_up M_50 (b + 4 + 2 * p0) (some (.inr (0, [.int 0, .int (1 <<< ((nI α) &&& 31)), .int 0, .long x_56]))) := ⟨_, rfl⟩
      have hW : fm_W D fs_cl5 A M_57 s.heap H locs := by rw [eM_57]; exact hW
      have f_58 := (show M_57 (b + 1) = M_50 (b + 1) by rw [eM_57]; exact fm_un (by omega)).trans f_52
      have f_59 := (show M_57 (b + 24) = M_50 (b + 24) by rw [eM_57]; exact fm_un (by omega)).trans f_53
      have f_60 : M_57 (b + 4 + 2 * p0) = some (.inr (0, [.int 0, .int (1 <<< ((nI α) &&& 31)), .int 0, .long x_56])) := by rw [eM_57]; exact fm_us
      have f_61 := (show M_57 (b + 5 + 2 * p0) = M_50 (b + 5 + 2 * p0) by rw [eM_57]; exact fm_un (by omega)).trans f_55
      have hTB : fs_TB ct M_57 b (va_up (va_up kp1 p0 (0, 1 <<< ((nI α) &&& 31), 0, 0)) p0 (0, 1 <<< ((nI α) &&& 31), 0, x_56)) (va_up pn1 p0 (kp1 p0)) pr (nI N) := by rw [eM_57]; exact fs_TB_K hTB (by omega) (0, 1 <<< ((nI α) &&& 31), 0, x_56)
      have hTf : fs_Tf b M M_57 := by rw [eM_57]; exact fs_Tf_u hTf (by omega) _
      refine lv_aload hx hb dT_collapse_120 (lv_at hl 5 rfl) ?_
      refine fm_aret hx hb hr hlocks hW ⟨rfl, _, _, hTB, hTf, fun i hi => ?_, fun i hi => ?_⟩ dT_collapse_122
      · by_cases q : i = p0
        · subst ex_56; subst q; rw [if_pos rfl, fu_s]
        · rw [if_neg q, fu_n q, fu_n q, hU.1 i hi]; exact if_neg q
      · by_cases q : i = p0
        · subst q; rw [if_pos rfl, fu_s, hup]
        · rw [if_neg q, fu_n q, hV.1 i hi]; exact if_neg q
    · exact absurd (nI_le (Nat.le_refl N) (by omega)) c_41
set_option maxHeartbeats 4000000 in
set_option maxRecDepth 100000 in
theorem c_T_measure (l : Launch) (D : va_G) (ct : Nat → ClassId) (A : Nat → Prop) (M : fm_M) (b N : Nat) (kp pn : Nat → fs_Q) (pr : fs_Q) (α : Nat) (num : Int32) (hTB : fs_TB ct M b kp pn pr (nI N)) (hNN : N ≤ 10) (hα : α < N) : Met l yT_measure wT_measure ({ frames := 3, cells := 0, slots := 0, locals := 72 }) (va_Pc [.ref (b + 1), .int (nI α), .int num] (fm_St D fs_cl5 (fs_tys ct) fs_nw A M)) (va_Qr (S := fm_M) (fun _ => True) (fun M1 ra t => (fun (ra : Nat) (M1 : fm_M) => ∃ (kp2 pn2 : Nat → fs_Q) (pr2 qv : fs_Q), fs_TB ct M1 b kp2 pn2 pr2 (nI N) ∧ fs_Tf b M M1 ∧ (b + 4 ≤ ra ∧ ra < b + 25) ∧ M1 ra = some (fs_PE qv) ∧ fs_cL N α (1 <<< (num.toInt64 &&& 63)) kp pn kp2 pn2 qv.2.2.1 qv.2.2.2) ra M1 ∧ fm_B D fs_cl5 A M1 t) A) 0 0 A := by
  refine Met.ofW (cc := cT_measure) (maxL := 4) (ret := (some (.object "FrameSamples$Pauli"))) (by decide) rfl ?_
  intro p e s m args below meth c s₁ B hml hv
  obtain ⟨rfl, hP0, hA0, hA1, hK, hN⟩ := hv
  have hx := B.exec
  have hb := B.bytes
  have hr := B.returns
  have hts := atoms_spec (ws := wT_measure) B.pre
  have hT : ∀ w ∈ fs_tb, w.before _ s = true := fun w h => hts w (List.mem_cons_of_mem _ h)
  have hown : s.vm.findClass "FrameSamples$Tableau" = some m.cls := findClass_of_methodNamed B.named
  have hlocks := B.notSynchronized
  have hW : fm_W D fs_cl5 A M s.heap s.heap [] := ⟨hP0, hA0, va_S.rf, hA1⟩
  have hl := lv_entry ([.ref (b + 1), .int (nI α), .int num]) (n := 4) (Nat.le_of_ble_eq_true rfl)
  rw [lg_entry_eq]
  generalize (lg_sl ([.ref (b + 1), .int (nI α), .int num]) ++ List.replicate (4 - (lg_sl ([.ref (b + 1), .int (nI α), .int num])).length) Slot.unset).toArray = ls at hl ⊢
  have hl : lv_has ls 4 [(0, .ref (b + 1)), (1, .int (nI α)), (2, .int num)] := hl
  have hTf : fs_Tf b M M := fs_Tf_r
  refine lv_iconst (v := 0) hx hb dT_measure_0 (by decide) ?_
  refine lv_istore_n (lv' := [(3, .int 0), (0, .ref (b + 1)), (1, .int (nI α)), (2, .int num)]) hx hb dT_measure_1 rfl hl (by decide) rfl (fun ls hl => ?_)
  refine fm_loop (head := 2) (maxL := 4) N (fun i (u : Unit) M1 => M1 = M ∧ ∀ j, j < i → bt (kp j).1 α = false) (fun i (u : Unit) => [(3, .int (nI i)), (0, .ref (b + 1)), (1, .int (nI α)), (2, .int num)]) ?_ ?_ N 0 (by omega) () M _ _ ls ⟨rfl, fun j hj => absurd hj (Nat.not_lt_zero j)⟩ hW (lv_sub hl [0, 1, 2, 3] rfl)
  · intro i u M2 H locs ls hi hI hW hl back
    obtain ⟨hMe, hU⟩ := hI
    have hl : lv_has ls 4 [(3, .int (nI i)), (0, .ref (b + 1)), (1, .int (nI α)), (2, .int num)] := hl
    have hW : fm_W D fs_cl5 A M s.heap H locs := by rw [← hMe]; exact hW
    refine lv_iload_n hx hb dT_measure_2 rfl (lv_at hl 0 rfl) ?_
    refine lv_aload_n hx hb dT_measure_3 rfl (lv_at hl 1 rfl) ?_
    refine fm_get (ci := 1) (v := .int (nI N)) (C := RT) (T := TT) (N := 4) hx hb hT inT hown hK hW hTB.1 rfl 3 (by decide) (hT _ fl_T_31) (fun _ h9 => h9) rfl dT_measure_4 ?_
    refine lv_icmp_ge (tgt := 38) hx hb dT_measure_7 (by decide) (fun c_1 => ?_) (fun c_1 => ?_)
    · exact absurd c_1 (nI_ge hi (by omega))
    · refine lv_aload_n hx hb dT_measure_10 rfl (lv_at hl 1 rfl) ?_
      refine fm_get (ci := 1) (v := .ref (b + 2)) (C := RT) (T := TT) (N := 4) hx hb hT inT hown hK hW hTB.1 rfl 0 (by decide) (hT _ fl_T_11) (fun _ h9 => h9) rfl dT_measure_11 ?_
      refine lv_iload_n hx hb dT_measure_14 rfl (lv_at hl 0 rfl) ?_
      refine fm_aald hx hb hK hW 3 hTB.2.1 rfl (vp_in_nI (N := 10) (by omega) (by decide)) (fs_rk_at (by omega)) dT_measure_15 ?_
      refine lv_iload_n hx hb dT_measure_16 rfl (lv_at hl 2 rfl) ?_
      refine fm_calli (va_runV (As := [.int (nI α)]) (rest := []) ⟨hx, hb, hml, hown, hts⟩ (c_P_xOn l D ct A M (b + 4 + 2 * i) (kp i) (nI α) (hTB.2.2.2.1 i (by omega))) ⟨callB_of 1 hts (fs_gin co_P_xOn) rfl rfl rfl (hT _ ini_P) (hT _ ml_T_43) (by decide +kernel) ⟨Nat.le_of_ble_eq_true rfl, Nat.le_of_ble_eq_true rfl⟩, hT _ im_P_xOn, hT _ se_P_xOn⟩ (fn_preV fs_isnw hK hN hW (hTB.2.2.2.1 i (by omega)) rfl) rfl rfl hl.1 rfl (lv_room (Nat.le_of_ble_eq_true rfl)) dT_measure_17 ⟨Nat.le_of_ble_eq_true rfl, Nat.le_of_ble_eq_true rfl⟩) hW (fun r_2 M_3 H locs hp_4 hW => ?_)
      have hW : fm_W D fs_cl5 A M s.heap H locs := by rw [← hp_4.2]; exact hW
      have er_2 : r_2 = fs_b (bt (kp i).1 α) := by rw [hp_4.1]; exact fs_xOn_b (by omega) _
      refine lv_iconst (v := 1) hx hb dT_measure_20 (by decide) ?_
      refine lv_icmp_ne (tgt := 32) hx hb dT_measure_21 (by decide) (fun c_5 => ?_) (fun c_5 => ?_)
      · have hf : bt (kp i).1 α = false := fs_ndt _ (fun z => c_5 (by rw [er_2, z]; rfl))
        refine lv_iinc (v := nI (i + 1)) (lv' := [(3, .int (nI (i + 1))), (0, .ref (b + 1)), (1, .int (nI α)), (2, .int num)]) hx hb dT_measure_32 hl (k := 0) rfl (by show nI i + 1 = nI (i + 1); exact nI_1 i) (by decide) rfl (fun ls hl => ?_)
        refine lv_goto (tgt := 2) hx hb dT_measure_35 (by decide) ?_
        exact back () _ _ _ ls ⟨rfl, fun j hj => by by_cases z : j = i; exact z ▸ hf; exact hU j (by omega)⟩ hW (lv_sub hl [0, 1, 2, 3] rfl)
      · have ht : bt (kp i).1 α = true := (fs_b_eq1 _).mp (by rw [← er_2]; exact c_5)
        refine lv_aload_n hx hb dT_measure_24 rfl (lv_at hl 1 rfl) ?_
        refine lv_iload_n hx hb dT_measure_25 rfl (lv_at hl 0 rfl) ?_
        refine lv_iload_n hx hb dT_measure_26 rfl (lv_at hl 2 rfl) ?_
        refine lv_iload_n hx hb dT_measure_27 rfl (lv_at hl 3 rfl) ?_
        refine fm_callr (va_runV (As := [.int (nI i), .int (nI α), .int num]) (rest := []) ⟨hx, hb, hml, hown, hts⟩ (c_T_collapse l D ct A M b N kp pn pr i α num hTB hNN hi hα) ⟨callB_of 3 hts (fs_gin co_T_collapse) rfl rfl rfl (hT _ ini_T) (hT _ ml_T_47) (by decide +kernel) ⟨Nat.le_of_ble_eq_true rfl, Nat.le_of_ble_eq_true rfl⟩, hT _ im_T_collapse, hT _ se_T_collapse⟩ (fn_preV fs_isnw hK hN hW hTB.1 rfl) rfl rfl hl.1 rfl (lv_room (Nat.le_of_ble_eq_true rfl)) dT_measure_28 ⟨Nat.le_of_ble_eq_true rfl, Nat.le_of_ble_eq_true rfl⟩) hW (fun r_6 M_7 H locs hp_8 hW => ?_)
        obtain ⟨e1, kp2, pn2, t1, t2, t3, t4⟩ := hp_8
        refine fm_aret hx hb hr hlocks hW ⟨kp2, pn2, pr, _, t1, t2, by omega, by rw [e1]; exact t1.2.2.2.1 i (by omega), Or.inl ⟨i, hi, ht, t3, t4, ?_, ?_⟩⟩ dT_measure_31
        · rw [t3 i hi, if_pos rfl]
        · rw [t3 i hi, if_pos rfl]
  · intro u M2 H locs ls hI hW hl
    obtain ⟨hMe, hU⟩ := hI
    have hl : lv_has ls 4 [(3, .int (nI N)), (0, .ref (b + 1)), (1, .int (nI α)), (2, .int num)] := hl
    have hW : fm_W D fs_cl5 A M s.heap H locs := by rw [← hMe]; exact hW
    refine lv_iload_n hx hb dT_measure_2 rfl (lv_at hl 0 rfl) ?_
    refine lv_aload_n hx hb dT_measure_3 rfl (lv_at hl 1 rfl) ?_
    refine fm_get (ci := 1) (v := .int (nI N)) (C := RT) (T := TT) (N := 4) hx hb hT inT hown hK hW hTB.1 rfl 3 (by decide) (hT _ fl_T_31) (fun _ h9 => h9) rfl dT_measure_4 ?_
    refine lv_icmp_ge (tgt := 38) hx hb dT_measure_7 (by decide) (fun c_9 => ?_) (fun c_9 => ?_)
    · refine lv_aload_n hx hb dT_measure_38 rfl (lv_at hl 1 rfl) ?_
      refine lv_iload_n hx hb dT_measure_39 rfl (lv_at hl 2 rfl) ?_
      refine fm_callr (va_runV (As := [.int (nI α)]) (rest := []) ⟨hx, hb, hml, hown, hts⟩ (c_T_zFromKeepers l D ct A M b N kp pn pr α hTB hNN hα) ⟨callB_of 1 hts (fs_gin co_T_zFromKeepers) rfl rfl rfl (hT _ ini_T) (hT _ ml_T_51) (by decide +kernel) ⟨Nat.le_of_ble_eq_true rfl, Nat.le_of_ble_eq_true rfl⟩, hT _ im_T_zFromKeepers, hT _ se_T_zFromKeepers⟩ (fn_preV fs_isnw hK hN hW hTB.1 rfl) rfl rfl hl.1 rfl (lv_room (Nat.le_of_ble_eq_true rfl)) dT_measure_40 ⟨Nat.le_of_ble_eq_true rfl, Nat.le_of_ble_eq_true rfl⟩) hW (fun r_10 M_11 H locs hp_12 hW => ?_)
      obtain ⟨e1, t1, t2⟩ := hp_12
      exact fm_aret hx hb hr hlocks hW ⟨kp, pn, _, _, t1, t2, by omega, by rw [e1]; exact t1.2.2.2.2.2, Or.inr ⟨hU, fun _ _ => rfl, fun _ _ => rfl, rfl, rfl⟩⟩ dT_measure_43
    · exact absurd (nI_le (Nat.le_refl N) (by omega)) c_9
