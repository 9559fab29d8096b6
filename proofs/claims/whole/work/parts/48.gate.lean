-- FrameSamples.gate
theorem fs_if0 {P : Prop} {r : Int32} [Decidable P] (e : r = if P then 0 else 1) : (r = 0 → P) ∧ (¬ r = 0 → ¬ P) := by
  by_cases h : P
  · rw [if_pos h] at e
    exact ⟨fun _ => h, fun z => absurd e z⟩
  · rw [if_neg h] at e
    exact ⟨fun z => absurd (e.symm.trans z) (by decide), fun _ => h⟩
theorem fs_if1 {P : Prop} {r : Int32} [Decidable P] (e : r = if P then 1 else 0) : (r = 0 → ¬ P) ∧ (¬ r = 0 → P) := by
  by_cases h : P
  · rw [if_pos h] at e
    exact ⟨fun z => absurd (e.symm.trans z) (by decide), fun _ => h⟩
  · rw [if_neg h] at e
    exact ⟨fun _ => h, fun z => absurd e z⟩
def fs_gk (cn : Nat → Nat) (k a c0 : Int32) : Prop := ¬ k < 0 ∧ ¬ 6 < k ∧ ¬ (a < 0 ∨ nI (cn 0) ≤ a) ∧ nI (cn 1) < 300 ∧ ((k = 2 ∨ k = 3 ∨ k = 4) → ¬ (c0 < 0 ∨ nI (cn 0) ≤ c0) ∧ a ≠ c0)
set_option maxHeartbeats 4000000 in
set_option maxRecDepth 100000 in
theorem c_S_gate (l : Launch) (D : va_G) (ct : Nat → ClassId) (A : Nat → Prop) (M : fm_M) (b : Nat) (cn : Nat → Nat) (kp pn : Nat → fs_Q) (pr : fs_Q) (lc : Nat → Int32) (lr : Nat → Int64) (fr : Nat → fs_Q) (od : Nat → Int32) (cl : Nat → Int64) (ck : Nat → Int32) (cc : Nat → Int32) (cr : Nat → Int64) (k a c0 : Int32) (hC : fs_CW ct M b cn kp pn pr lc lr fr od cl ck cc cr) (hB : fs_Bd cn) : Met l yS_gate wS_gate ({ frames := 4, cells := 0, slots := 0, locals := 90 }) (va_Pc [.ref b, .int k, .int a, .int c0] (fm_St D fs_cl5 (fs_tys ct) fs_nw A M)) (va_Qi (fun (r : Int32) (M1 : fm_M) => (r = 0 ∧ M1 = M ∧ ¬ fs_gk cn k a c0) ∨ (r = 1 ∧ fs_gk cn k a c0 ∧ ∃ kp2 pn2 fr2 : Nat → fs_Q, fs_CW ct M1 b (va_up cn 1 (cn 1 + 1)) kp2 pn2 pr lc lr fr2 od cl ck cc cr ∧ fs_Cf b M M1 ∧ (∀ i, i < cn 0 → kp2 i = fs_ps (kp i) k a c0) ∧ (∀ i, i < cn 0 → pn2 i = fs_ps (pn i) k a c0) ∧ ∀ i, i < cn 3 → fr2 i = fs_ps (fr i) k a c0)) (fm_B D fs_cl5 A) A) 0 0 A := by
  refine Met.ofW (cc := cS_gate) (maxL := 5) (ret := (some .boolean)) (by decide) rfl ?_
  intro p e s m args below meth c s₁ B hml hv
  obtain ⟨rfl, hP0, hA0, hA1, hK, hN⟩ := hv
  have hx := B.exec
  have hb := B.bytes
  have hr := B.returns
  have hts := atoms_spec (ws := wS_gate) B.pre
  have hT : ∀ w ∈ fs_tb, w.before _ s = true := fun w h => hts w (List.mem_cons_of_mem _ h)
  have hown : s.vm.findClass "FrameSamples" = some m.cls := findClass_of_methodNamed B.named
  have hlocks := B.notSynchronized
  have hW : fm_W D fs_cl5 A M s.heap s.heap [] := ⟨hP0, hA0, va_S.rf, hA1⟩
  have hl := lv_entry ([.ref b, .int k, .int a, .int c0]) (n := 5) (Nat.le_of_ble_eq_true rfl)
  rw [lg_entry_eq]
  generalize (lg_sl ([.ref b, .int k, .int a, .int c0]) ++ List.replicate (5 - (lg_sl ([.ref b, .int k, .int a, .int c0])).length) Slot.unset).toArray = ls at hl ⊢
  have hl : lv_has ls 5 [(0, .ref b), (1, .int k), (2, .int a), (3, .int c0)] := hl
  obtain ⟨hB0, hB1, hB2, hB3, hB4, hB5⟩ := hB
  have hCf : fs_Cf b M M := fs_Cf_r
  refine lv_iload_n hx hb dS_gate_0 rfl (lv_at hl 1 rfl) ?_
  refine lv_if_lt (tgt := 28) hx hb dS_gate_1 (by decide) (fun c_1 => ?_) (fun c_1 => ?_)
  · refine lv_iconst (v := 0) hx hb dS_gate_28 (by decide) ?_
    exact fm_zret hx hb hr rfl hlocks hW (Or.inl ⟨rfl, rfl, fun z => z.1 c_1⟩) dS_gate_29
  · refine lv_iload_n hx hb dS_gate_4 rfl (lv_at hl 1 rfl) ?_
    refine lv_bipush (v := 6) hx hb dS_gate_5 (by decide) ?_
    refine lv_icmp_gt (tgt := 28) hx hb dS_gate_7 (by decide) (fun c_2 => ?_) (fun c_2 => ?_)
    · refine lv_iconst (v := 0) hx hb dS_gate_28 (by decide) ?_
      exact fm_zret hx hb hr rfl hlocks hW (Or.inl ⟨rfl, rfl, fun z => z.2.1 c_2⟩) dS_gate_29
    · refine lv_aload_n hx hb dS_gate_10 rfl (lv_at hl 0 rfl) ?_
      refine lv_iload_n hx hb dS_gate_11 rfl (lv_at hl 2 rfl) ?_
      refine fm_calli (va_runV (As := [.int a]) (rest := []) ⟨hx, hb, hml, hown, hts⟩ (c_S_isWire l D ct A M b cn a hC.1) ⟨callB_of 1 hts (fs_gin co_S_isWire) rfl rfl rfl (hT _ ini_S) (hT _ ml_S_41) (by decide +kernel) ⟨Nat.le_of_ble_eq_true rfl, Nat.le_of_ble_eq_true rfl⟩, hT _ im_S_isWire, hT _ se_S_isWire⟩ (fn_preV fs_isnw hK hN hW hC.1 rfl) rfl rfl hl.1 rfl (lv_room (Nat.le_of_ble_eq_true rfl)) dS_gate_12 ⟨Nat.le_of_ble_eq_true rfl, Nat.le_of_ble_eq_true rfl⟩) hW (fun r_3 M_4 H locs hp_5 hW => ?_)
      have hW : fm_W D fs_cl5 A M s.heap H locs := by rw [← hp_5.2]; exact hW
      have er_3 := hp_5.1
      refine lv_if_eq (tgt := 28) hx hb dS_gate_15 (by decide) (fun c_6 => ?_) (fun c_6 => ?_)
      · refine lv_iconst (v := 0) hx hb dS_gate_28 (by decide) ?_
        exact fm_zret hx hb hr rfl hlocks hW (Or.inl ⟨rfl, rfl, fun z => z.2.2.1 ((fs_if0 er_3).1 c_6)⟩) dS_gate_29
      · have h3 := (fs_if0 er_3).2 c_6
        refine lv_aload_n hx hb dS_gate_18 rfl (lv_at hl 0 rfl) ?_
        refine fm_get (ci := 3) (v := .int (nI (cn 1))) (C := RS) (T := TS) (N := 11) hx hb hT inS hown hK hW hC.1 rfl 7 (by decide) (hT _ fl_S_45) (fun _ h9 => h9) rfl dS_gate_19 ?_
        refine lv_sipush (v := 300) hx hb dS_gate_22 (by decide) ?_
        refine lv_icmp_lt (tgt := 30) hx hb dS_gate_25 (by decide) (fun c_7 => ?_) (fun c_7 => ?_)
        · refine lv_iload_n hx hb dS_gate_30 rfl (lv_at hl 1 rfl) ?_
          refine fm_calli (va_runS (As := [.int k]) (rest := []) ⟨hx, hb, hml, hown, hts⟩ (c_S_hasTwoWires l D ct A M k) ⟨callB_of 1 hts (fs_gin co_S_hasTwoWires) rfl rfl rfl (hT _ ini_S) (hT _ ml_S_49) (by decide +kernel) ⟨Nat.le_of_ble_eq_true rfl, Nat.le_of_ble_eq_true rfl⟩, hT _ st_S_hasTwoWires⟩ (fn_pre fs_isnw hK hN hW) rfl rfl hl.1 rfl (lv_room (Nat.le_of_ble_eq_true rfl)) dS_gate_31 ⟨Nat.le_of_ble_eq_true rfl, Nat.le_of_ble_eq_true rfl⟩) hW (fun r_8 M_9 H locs hp_10 hW => ?_)
          have hW : fm_W D fs_cl5 A M s.heap H locs := by rw [← hp_10.2]; exact hW
          have er_8 := hp_10.1
          refine lv_if_eq (tgt := 52) hx hb dS_gate_34 (by decide) (fun c_11 => ?_) (fun c_11 => ?_)
          · have hgk : fs_gk cn k a c0 := ⟨c_1, c_2, h3, c_7, fun z => absurd z ((fs_if1 er_8).1 c_11)⟩
            refine lv_aload_n hx hb dS_gate_52 rfl (lv_at hl 0 rfl) ?_
            refine fm_get (ci := 3) (v := .ref (b + 1)) (C := RS) (T := TS) (N := 11) hx hb hT inS hown hK hW hC.1 rfl 0 (by decide) (hT _ fl_S_10) (fun _ h9 => h9) rfl dS_gate_53 ?_
            refine lv_iload_n hx hb dS_gate_56 rfl (lv_at hl 1 rfl) ?_
            refine lv_iload_n hx hb dS_gate_57 rfl (lv_at hl 2 rfl) ?_
            refine lv_iload_n hx hb dS_gate_58 rfl (lv_at hl 3 rfl) ?_
            refine fm_callv (va_runV (As := [.int k, .int a, .int c0]) (rest := []) ⟨hx, hb, hml, hown, hts⟩ (c_T_pass l D ct A M b (cn 0) kp pn pr k a c0 hC.2.1 hB1) ⟨callB_of 3 hts (fs_gin co_T_pass) rfl rfl rfl (hT _ ini_T) (hT _ ml_S_52) (by decide +kernel) ⟨Nat.le_of_ble_eq_true rfl, Nat.le_of_ble_eq_true rfl⟩, hT _ im_T_pass, hT _ se_T_pass⟩ (fn_preV fs_isnw hK hN hW hC.2.1.1 rfl) rfl rfl hl.1 rfl (lv_room (Nat.le_of_ble_eq_true rfl)) dS_gate_59 ⟨Nat.le_of_ble_eq_true rfl, Nat.le_of_ble_eq_true rfl⟩) hW (fun M_13 H locs hp_14 hW => ?_)
            obtain ⟨kp2, pn2, t1, t2, t3, t4⟩ := hp_14
            have hC := fs_CW_T hC t1 t2
            have hCf := fs_Cf_t hCf t2
            refine lv_iconst (v := 0) hx hb dS_gate_62 (by decide) ?_
            refine lv_istore (lv' := [(4, .int 0), (0, .ref b), (1, .int k), (2, .int a), (3, .int c0)]) hx hb dS_gate_63 hl (by decide) rfl (fun ls hl => ?_)
            refine fm_loop (head := 65) (maxL := 5) (cn 3) (fun i (u : Nat → fs_Q) M1 => fs_CW ct M1 b cn kp2 pn2 pr lc lr u od cl ck cc cr ∧ fs_Cf b M M1 ∧ fs_Up i fr (fun j => fs_ps (fr j) k a c0) u) (fun i (u : Nat → fs_Q) => [(4, .int (nI i)), (0, .ref b), (1, .int k), (2, .int a), (3, .int c0)]) ?_ ?_ (cn 3) 0 (by omega) fr M_13 _ _ ls ⟨hC, hCf, fs_Up_0 _ _⟩ hW (lv_sub hl [0, 1, 2, 3, 4] rfl)
            · intro i u M2 H locs ls hi hI hW hl back
              obtain ⟨hC, hCf, hU⟩ := hI
              have hl : lv_has ls 5 [(4, .int (nI i)), (0, .ref b), (1, .int k), (2, .int a), (3, .int c0)] := hl
              refine lv_iload hx hb dS_gate_65 (lv_at hl 0 rfl) ?_
              refine lv_aload_n hx hb dS_gate_67 rfl (lv_at hl 1 rfl) ?_
              refine fm_get (ci := 3) (v := .int (nI (cn 3))) (C := RS) (T := TS) (N := 11) hx hb hT inS hown hK hW hC.1 rfl 9 (by decide) (hT _ fl_S_56) (fun _ h9 => h9) rfl dS_gate_68 ?_
              refine lv_icmp_ge (tgt := 96) hx hb dS_gate_71 (by decide) (fun c_15 => ?_) (fun c_15 => ?_)
              · exact absurd c_15 (nI_ge hi (by omega))
              · refine lv_aload_n hx hb dS_gate_74 rfl (lv_at hl 1 rfl) ?_
                refine fm_get (ci := 3) (v := .ref (b + 27)) (C := RS) (T := TS) (N := 11) hx hb hT inS hown hK hW hC.1 rfl 3 (by decide) (hT _ fl_S_26) (fun _ h9 => h9) rfl dS_gate_75 ?_
                refine lv_iload hx hb dS_gate_78 (lv_at hl 0 rfl) ?_
                refine fm_aald hx hb hK hW 4 hC.2.2.2.2.1 rfl (vp_in_nI (N := 40) (by omega) (by decide)) (fs_rf_at (by omega)) dS_gate_80 ?_
                refine fm_getN (ci := 2) (v := .ref (b + 29 + 2 * i)) (C := RF) (T := TF) (N := 4) hx hb hT inF hown hK hW (hC.2.2.2.2.2.1 i (by omega)) rfl 0 (by decide) (hN _ (List.mem_of_getElem? (i := 10) rfl)) (fun _ h9 => h9) rfl dS_gate_81 ?_
                refine lv_iload_n hx hb dS_gate_84 rfl (lv_at hl 2 rfl) ?_
                refine lv_iload_n hx hb dS_gate_85 rfl (lv_at hl 3 rfl) ?_
                refine lv_iload_n hx hb dS_gate_86 rfl (lv_at hl 4 rfl) ?_
                refine fm_callv (va_runV (As := [.int k, .int a, .int c0]) (rest := []) ⟨hx, hb, hml, hown, hts⟩ (c_P_pass l D ct A M2 (b + 29 + 2 * i) (u i) k a c0 (hC.2.2.2.2.2.2.1 i (by omega))) ⟨callB_of 3 hts (fs_gin co_P_pass) rfl rfl rfl (hT _ ini_P) (hT _ ml_S_63) (by decide +kernel) ⟨Nat.le_of_ble_eq_true rfl, Nat.le_of_ble_eq_true rfl⟩, hT _ im_P_pass, hT _ se_P_pass⟩ (fn_preV fs_isnw hK hN hW (hC.2.2.2.2.2.2.1 i (by omega)) rfl) rfl rfl hl.1 rfl (lv_room (Nat.le_of_ble_eq_true rfl)) dS_gate_87 ⟨Nat.le_of_ble_eq_true rfl, Nat.le_of_ble_eq_true rfl⟩) hW (fun M_17 H locs hp_18 hW => ?_)
                have hC : fs_CW ct M_17 b cn kp2 pn2 pr lc lr (va_up u i (fs_ps (u i) k a c0)) od cl ck cc cr := by rw [hp_18]; exact fs_CW_Q hC (by omega) _
                have hCf : fs_Cf b M M_17 := by rw [hp_18]; exact fs_Cf_u hCf (by omega) _
                refine lv_iinc (v := nI (i + 1)) (lv' := [(4, .int (nI (i + 1))), (0, .ref b), (1, .int k), (2, .int a), (3, .int c0)]) hx hb dS_gate_90 hl (k := 0) rfl (by show nI i + 1 = nI (i + 1); exact nI_1 i) (by decide) rfl (fun ls hl => ?_)
                refine lv_goto (tgt := 65) hx hb dS_gate_93 (by decide) ?_
                exact back _ _ _ _ ls ⟨hC, hCf, fs_Up_s hU (by rw [hU.2 i (Nat.le_refl i)])⟩ hW (lv_sub hl [0, 1, 2, 3, 4] rfl)
            · intro u M2 H locs ls hI hW hl
              obtain ⟨hC, hCf, hU⟩ := hI
              have hl : lv_has ls 5 [(4, .int (nI (cn 3))), (0, .ref b), (1, .int k), (2, .int a), (3, .int c0)] := hl
              refine lv_iload hx hb dS_gate_65 (lv_at hl 0 rfl) ?_
              refine lv_aload_n hx hb dS_gate_67 rfl (lv_at hl 1 rfl) ?_
              refine fm_get (ci := 3) (v := .int (nI (cn 3))) (C := RS) (T := TS) (N := 11) hx hb hT inS hown hK hW hC.1 rfl 9 (by decide) (hT _ fl_S_56) (fun _ h9 => h9) rfl dS_gate_68 ?_
              refine lv_icmp_ge (tgt := 96) hx hb dS_gate_71 (by decide) (fun c_19 => ?_) (fun c_19 => ?_)
              · refine lv_aload_n hx hb dS_gate_96 rfl (lv_at hl 1 rfl) ?_
                refine lv_dup hx hb dS_gate_97 rfl ?_
                refine fm_get (ci := 3) (v := .int (nI (cn 1))) (C := RS) (T := TS) (N := 11) hx hb hT inS hown hK hW hC.1 rfl 7 (by decide) (hT _ fl_S_45) (fun _ h9 => h9) rfl dS_gate_98 ?_
                refine lv_iconst (v := 1) hx hb dS_gate_101 (by decide) ?_
                refine lv_iadd hx hb dS_gate_102 ?_
                refine fm_put (ci := 3) (v := .int ((nI (cn 1)) + 1)) (ty := .int) (C := RS) (T := TS) (N := 11) hx hb hT inS tyS tkS nmS hown hK hW hC.1 rfl 7 (by decide) (hT _ fl_S_45) (fun _ h9 => h9) rfl (by decide +kernel) rfl rfl (Nat.le_of_ble_eq_true rfl) dS_gate_103 (fun H locs hW => ?_)
                obtain ⟨M_20, eM_20⟩ : ∃ z : fm_M, z = va_up M2 b (some (.inr (3, [.ref (b + 1), .ref (b + 25), .ref (b + 26), .ref (b + 27), .ref (b + 108), .ref (b + 109), .int (nI (cn 0)), .int ((nI (cn 1)) + 1), .int (nI (cn 2)), .int (nI (cn 3)), .int (nI (cn 4))]))) := ⟨_, rfl⟩
                have hW : fm_W D fs_cl5 A M_20 s.heap H locs := by rw [eM_20]; exact hW
                have f_21 : M_20 b = some (.inr (3, [.ref (b + 1), .ref (b + 25), .ref (b + 26), .ref (b + 27), .ref (b + 108), .ref (b + 109), .int (nI (cn 0)), .int ((nI (cn 1)) + 1), .int (nI (cn 2)), .int (nI (cn 3)), .int (nI (cn 4))])) := by rw [eM_20]; exact fm_us
                have zM_20 : M_20 = va_up M2 b (some (fs_SE b (va_up cn 1 (cn 1 + 1)))) := by
                  rw [eM_20]
                  rw [nI_1]; rfl
                have hC : fs_CW ct M_20 b (va_up cn 1 (cn 1 + 1)) kp2 pn2 pr lc lr u od cl ck cc cr := by rw [zM_20]; exact fs_CW_S hC rfl
                have hCf : fs_Cf b M M_20 := by rw [zM_20]; exact fs_Cf_u hCf (by omega) _
                refine lv_iconst (v := 1) hx hb dS_gate_106 (by decide) ?_
                exact fm_zret hx hb hr rfl hlocks hW (Or.inr ⟨rfl, hgk, kp2, pn2, u, hC, hCf, t3, t4, fun i hi => hU.1 i hi⟩) dS_gate_107
              · exact absurd (nI_le (Nat.le_refl (cn 3)) (by omega)) c_19
          · have h5 := (fs_if1 er_8).2 c_11
            refine lv_aload_n hx hb dS_gate_37 rfl (lv_at hl 0 rfl) ?_
            refine lv_iload_n hx hb dS_gate_38 rfl (lv_at hl 3 rfl) ?_
            refine fm_calli (va_runV (As := [.int c0]) (rest := []) ⟨hx, hb, hml, hown, hts⟩ (c_S_isWire l D ct A M b cn c0 hC.1) ⟨callB_of 1 hts (fs_gin co_S_isWire) rfl rfl rfl (hT _ ini_S) (hT _ ml_S_41) (by decide +kernel) ⟨Nat.le_of_ble_eq_true rfl, Nat.le_of_ble_eq_true rfl⟩, hT _ im_S_isWire, hT _ se_S_isWire⟩ (fn_preV fs_isnw hK hN hW hC.1 rfl) rfl rfl hl.1 rfl (lv_room (Nat.le_of_ble_eq_true rfl)) dS_gate_39 ⟨Nat.le_of_ble_eq_true rfl, Nat.le_of_ble_eq_true rfl⟩) hW (fun r_22 M_23 H locs hp_24 hW => ?_)
            have hW : fm_W D fs_cl5 A M s.heap H locs := by rw [← hp_24.2]; exact hW
            have er_22 := hp_24.1
            refine lv_if_eq (tgt := 50) hx hb dS_gate_42 (by decide) (fun c_25 => ?_) (fun c_25 => ?_)
            · refine lv_iconst (v := 0) hx hb dS_gate_50 (by decide) ?_
              exact fm_zret hx hb hr rfl hlocks hW (Or.inl ⟨rfl, rfl, fun z => (z.2.2.2.2 h5).1 ((fs_if0 er_22).1 c_25)⟩) dS_gate_51
            · have h6 := (fs_if0 er_22).2 c_25
              refine lv_iload_n hx hb dS_gate_45 rfl (lv_at hl 2 rfl) ?_
              refine lv_iload_n hx hb dS_gate_46 rfl (lv_at hl 3 rfl) ?_
              refine lv_icmp_ne (tgt := 52) hx hb dS_gate_47 (by decide) (fun c_26 => ?_) (fun c_26 => ?_)
              · have hgk : fs_gk cn k a c0 := ⟨c_1, c_2, h3, c_7, fun _ => ⟨h6, c_26⟩⟩
                refine lv_aload_n hx hb dS_gate_52 rfl (lv_at hl 0 rfl) ?_
                refine fm_get (ci := 3) (v := .ref (b + 1)) (C := RS) (T := TS) (N := 11) hx hb hT inS hown hK hW hC.1 rfl 0 (by decide) (hT _ fl_S_10) (fun _ h9 => h9) rfl dS_gate_53 ?_
                refine lv_iload_n hx hb dS_gate_56 rfl (lv_at hl 1 rfl) ?_
                refine lv_iload_n hx hb dS_gate_57 rfl (lv_at hl 2 rfl) ?_
                refine lv_iload_n hx hb dS_gate_58 rfl (lv_at hl 3 rfl) ?_
                refine fm_callv (va_runV (As := [.int k, .int a, .int c0]) (rest := []) ⟨hx, hb, hml, hown, hts⟩ (c_T_pass l D ct A M b (cn 0) kp pn pr k a c0 hC.2.1 hB1) ⟨callB_of 3 hts (fs_gin co_T_pass) rfl rfl rfl (hT _ ini_T) (hT _ ml_S_52) (by decide +kernel) ⟨Nat.le_of_ble_eq_true rfl, Nat.le_of_ble_eq_true rfl⟩, hT _ im_T_pass, hT _ se_T_pass⟩ (fn_preV fs_isnw hK hN hW hC.2.1.1 rfl) rfl rfl hl.1 rfl (lv_room (Nat.le_of_ble_eq_true rfl)) dS_gate_59 ⟨Nat.le_of_ble_eq_true rfl, Nat.le_of_ble_eq_true rfl⟩) hW (fun M_28 H locs hp_29 hW => ?_)
                obtain ⟨kp2, pn2, t1, t2, t3, t4⟩ := hp_29
                have hC := fs_CW_T hC t1 t2
                have hCf := fs_Cf_t hCf t2
                refine lv_iconst (v := 0) hx hb dS_gate_62 (by decide) ?_
                refine lv_istore (lv' := [(4, .int 0), (0, .ref b), (1, .int k), (2, .int a), (3, .int c0)]) hx hb dS_gate_63 hl (by decide) rfl (fun ls hl => ?_)
                refine fm_loop (head := 65) (maxL := 5) (cn 3) (fun i (u : Nat → fs_Q) M1 => fs_CW ct M1 b cn kp2 pn2 pr lc lr u od cl ck cc cr ∧ fs_Cf b M M1 ∧ fs_Up i fr (fun j => fs_ps (fr j) k a c0) u) (fun i (u : Nat → fs_Q) => [(4, .int (nI i)), (0, .ref b), (1, .int k), (2, .int a), (3, .int c0)]) ?_ ?_ (cn 3) 0 (by omega) fr M_28 _ _ ls ⟨hC, hCf, fs_Up_0 _ _⟩ hW (lv_sub hl [0, 1, 2, 3, 4] rfl)
                · intro i u M2 H locs ls hi hI hW hl back
                  obtain ⟨hC, hCf, hU⟩ := hI
                  have hl : lv_has ls 5 [(4, .int (nI i)), (0, .ref b), (1, .int k), (2, .int a), (3, .int c0)] := hl
                  refine lv_iload hx hb dS_gate_65 (lv_at hl 0 rfl) ?_
                  refine lv_aload_n hx hb dS_gate_67 rfl (lv_at hl 1 rfl) ?_
                  refine fm_get (ci := 3) (v := .int (nI (cn 3))) (C := RS) (T := TS) (N := 11) hx hb hT inS hown hK hW hC.1 rfl 9 (by decide) (hT _ fl_S_56) (fun _ h9 => h9) rfl dS_gate_68 ?_
                  refine lv_icmp_ge (tgt := 96) hx hb dS_gate_71 (by decide) (fun c_30 => ?_) (fun c_30 => ?_)
                  · exact absurd c_30 (nI_ge hi (by omega))
                  · refine lv_aload_n hx hb dS_gate_74 rfl (lv_at hl 1 rfl) ?_
                    refine fm_get (ci := 3) (v := .ref (b + 27)) (C := RS) (T := TS) (N := 11) hx hb hT inS hown hK hW hC.1 rfl 3 (by decide) (hT _ fl_S_26) (fun _ h9 => h9) rfl dS_gate_75 ?_
                    refine lv_iload hx hb dS_gate_78 (lv_at hl 0 rfl) ?_
                    refine fm_aald hx hb hK hW 4 hC.2.2.2.2.1 rfl (vp_in_nI (N := 40) (by omega) (by decide)) (fs_rf_at (by omega)) dS_gate_80 ?_
                    refine fm_getN (ci := 2) (v := .ref (b + 29 + 2 * i)) (C := RF) (T := TF) (N := 4) hx hb hT inF hown hK hW (hC.2.2.2.2.2.1 i (by omega)) rfl 0 (by decide) (hN _ (List.mem_of_getElem? (i := 10) rfl)) (fun _ h9 => h9) rfl dS_gate_81 ?_
                    refine lv_iload_n hx hb dS_gate_84 rfl (lv_at hl 2 rfl) ?_
                    refine lv_iload_n hx hb dS_gate_85 rfl (lv_at hl 3 rfl) ?_
                    refine lv_iload_n hx hb dS_gate_86 rfl (lv_at hl 4 rfl) ?_
                    refine fm_callv (va_runV (As := [.int k, .int a, .int c0]) (rest := []) ⟨hx, hb, hml, hown, hts⟩ (c_P_pass l D ct A M2 (b + 29 + 2 * i) (u i) k a c0 (hC.2.2.2.2.2.2.1 i (by omega))) ⟨callB_of 3 hts (fs_gin co_P_pass) rfl rfl rfl (hT _ ini_P) (hT _ ml_S_63) (by decide +kernel) ⟨Nat.le_of_ble_eq_true rfl, Nat.le_of_ble_eq_true rfl⟩, hT _ im_P_pass, hT _ se_P_pass⟩ (fn_preV fs_isnw hK hN hW (hC.2.2.2.2.2.2.1 i (by omega)) rfl) rfl rfl hl.1 rfl (lv_room (Nat.le_of_ble_eq_true rfl)) dS_gate_87 ⟨Nat.le_of_ble_eq_true rfl, Nat.le_of_ble_eq_true rfl⟩) hW (fun M_32 H locs hp_33 hW => ?_)
                    have hC : fs_CW ct M_32 b cn kp2 pn2 pr lc lr (va_up u i (fs_ps (u i) k a c0)) od cl ck cc cr := by rw [hp_33]; exact fs_CW_Q hC (by omega) _
                    have hCf : fs_Cf b M M_32 := by rw [hp_33]; exact fs_Cf_u hCf (by omega) _
                    refine lv_iinc (v := nI (i + 1)) (lv' := [(4, .int (nI (i + 1))), (0, .ref b), (1, .int k), (2, .int a), (3, .int c0)]) hx hb dS_gate_90 hl (k := 0) rfl (by show nI i + 1 = nI (i + 1); exact nI_1 i) (by decide) rfl (fun ls hl => ?_)
                    refine lv_goto (tgt := 65) hx hb dS_gate_93 (by decide) ?_
                    exact back _ _ _ _ ls ⟨hC, hCf, fs_Up_s hU (by rw [hU.2 i (Nat.le_refl i)])⟩ hW (lv_sub hl [0, 1, 2, 3, 4] rfl)
                · intro u M2 H locs ls hI hW hl
                  obtain ⟨hC, hCf, hU⟩ := hI
                  have hl : lv_has ls 5 [(4, .int (nI (cn 3))), (0, .ref b), (1, .int k), (2, .int a), (3, .int c0)] := hl
                  refine lv_iload hx hb dS_gate_65 (lv_at hl 0 rfl) ?_
                  refine lv_aload_n hx hb dS_gate_67 rfl (lv_at hl 1 rfl) ?_
                  refine fm_get (ci := 3) (v := .int (nI (cn 3))) (C := RS) (T := TS) (N := 11) hx hb hT inS hown hK hW hC.1 rfl 9 (by decide) (hT _ fl_S_56) (fun _ h9 => h9) rfl dS_gate_68 ?_
                  refine lv_icmp_ge (tgt := 96) hx hb dS_gate_71 (by decide) (fun c_34 => ?_) (fun c_34 => ?_)
                  · refine lv_aload_n hx hb dS_gate_96 rfl (lv_at hl 1 rfl) ?_
                    refine lv_dup hx hb dS_gate_97 rfl ?_
                    refine fm_get (ci := 3) (v := .int (nI (cn 1))) (C := RS) (T := TS) (N := 11) hx hb hT inS hown hK hW hC.1 rfl 7 (by decide) (hT _ fl_S_45) (fun _ h9 => h9) rfl dS_gate_98 ?_
                    refine lv_iconst (v := 1) hx hb dS_gate_101 (by decide) ?_
                    refine lv_iadd hx hb dS_gate_102 ?_
                    refine fm_put (ci := 3) (v := .int ((nI (cn 1)) + 1)) (ty := .int) (C := RS) (T := TS) (N := 11) hx hb hT inS tyS tkS nmS hown hK hW hC.1 rfl 7 (by decide) (hT _ fl_S_45) (fun _ h9 => h9) rfl (by decide +kernel) rfl rfl (Nat.le_of_ble_eq_true rfl) dS_gate_103 (fun H locs hW => ?_)
                    obtain ⟨M_35, eM_35⟩ : ∃ z : fm_M, z = va_up M2 b (some (.inr (3, [.ref (b + 1), .ref (b + 25), .ref (b + 26), .ref (b + 27), .ref (b + 108), .ref (b + 109), .int (nI (cn 0)), .int ((nI (cn 1)) + 1), .int (nI (cn 2)), .int (nI (cn 3)), .int (nI (cn 4))]))) := ⟨_, rfl⟩
                    have hW : fm_W D fs_cl5 A M_35 s.heap H locs := by rw [eM_35]; exact hW
                    have f_36 : M_35 b = some (.inr (3, [.ref (b + 1), .ref (b + 25), .ref (b + 26), .ref (b + 27), .ref (b + 108), .ref (b + 109), .int (nI (cn 0)), .int ((nI (cn 1)) + 1), .int (nI (cn 2)), .int (nI (cn 3)), .int (nI (cn 4))])) := by rw [eM_35]; exact fm_us
                    have zM_35 : M_35 = va_up M2 b (some (fs_SE b (va_up cn 1 (cn 1 + 1)))) := by
                      rw [eM_35]
                      rw [nI_1]; rfl
                    have hC : fs_CW ct M_35 b (va_up cn 1 (cn 1 + 1)) kp2 pn2 pr lc lr u od cl ck cc cr := by rw [zM_35]; exact fs_CW_S hC rfl
                    have hCf : fs_Cf b M M_35 := by rw [zM_35]; exact fs_Cf_u hCf (by omega) _
                    refine lv_iconst (v := 1) hx hb dS_gate_106 (by decide) ?_
                    exact fm_zret hx hb hr rfl hlocks hW (Or.inr ⟨rfl, hgk, kp2, pn2, u, hC, hCf, t3, t4, fun i hi => hU.1 i hi⟩) dS_gate_107
                  · exact absurd (nI_le (Nat.le_refl (cn 3)) (by omega)) c_34
              · refine lv_iconst (v := 0) hx hb dS_gate_50 (by decide) ?_
                exact fm_zret hx hb hr rfl hlocks hW (Or.inl ⟨rfl, rfl, fun z => (z.2.2.2.2 h5).2 c_26⟩) dS_gate_51
        · refine lv_iconst (v := 0) hx hb dS_gate_28 (by decide) ?_
          exact fm_zret hx hb hr rfl hlocks hW (Or.inl ⟨rfl, rfl, fun z => c_7 z.2.2.2.1⟩) dS_gate_29
