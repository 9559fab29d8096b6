-- the reference: a look, all acts
/-- the acts are well formed -/
def fs_wf (cn : Nat → Nat) (ia : Nat → Nat → Int32) : Prop := ∀ k, k < cn 1 → ∃ κ α : Nat, κ ≤ 9 ∧ α < cn 0 ∧ ia 1 k = nI κ ∧ ia 2 k = nI α ∧ ((κ = 7 ∨ κ = 8) → ∃ j : Nat, j < 60 ∧ ia 3 k = nI j)
set_option maxHeartbeats 4000000 in
set_option maxRecDepth 100000 in
theorem c_M_lookAt (l : Launch) (D : va_G) (ct : Nat → ClassId) (A : Nat → Prop) (M : fm_M) (b : Nat) (cn : Nat → Nat) (si : Nat → Int32) (sl : Nat → Int64) (ia : Nat → Nat → Int32) (la : Nat → Nat → Int64) (ν α : Nat) (hM : fs_MW ct M b cn si sl ia la) (hB : fs_Bd cn) (hν : ν < 60) (hα : α < 32) : Met l yM_lookAt wM_lookAt ({ frames := 4, cells := 0, slots := 0, locals := 96 }) (va_Pc [.ref b, .int (nI ν), .int (nI α)] (fm_St D fs_cl5 (fs_tys ct) fs_nw A M)) (va_Qv (fun (M1 : fm_M) => ∃ (si2 : Nat → Int32) (sl2 : Nat → Int64) (ia2 : Nat → Nat → Int32) (la2 : Nat → Nat → Int64), fs_MW ct M1 b cn si2 sl2 ia2 la2 ∧ fs_Mf b M M1 ∧ fs_po si ia la si2 ia2 la2 ∧ ∃ (c : Int32) (h : Int64), fs_kL (cn 0) α (1 <<< ((nI ν).toInt64 &&& 63)) (fs_rw ia la) (fs_rw ia2 la2) c h ∧ ia2 12 = upd (ia 12) ν c ∧ la2 13 = vp_updL (la 13) ν h) (fm_B D fs_cl5 A) A) 0 0 A := by
  refine Met.ofW (cc := cM_lookAt) (maxL := 5) (ret := none) (by decide) rfl ?_
  intro p e s m args below meth c s₁ B hml hv
  obtain ⟨rfl, hP0, hA0, hA1, hK, hN⟩ := hv
  have hx := B.exec
  have hb := B.bytes
  have hr := B.returns
  have hts := atoms_spec (ws := wM_lookAt) B.pre
  have hT : ∀ w ∈ fs_tb, w.before _ s = true := fun w h => hts w (List.mem_cons_of_mem _ h)
  have hown : s.vm.findClass "FrameSamplesModel" = some m.cls := findClass_of_methodNamed B.named
  have hlocks := B.notSynchronized
  have hW : fm_W D fs_cl5 A M s.heap s.heap [] := ⟨hP0, hA0, va_S.rf, hA1⟩
  have hl := lv_entry ([.ref b, .int (nI ν), .int (nI α)]) (n := 5) (Nat.le_of_ble_eq_true rfl)
  rw [lg_entry_eq]
  generalize (lg_sl ([.ref b, .int (nI ν), .int (nI α)]) ++ List.replicate (5 - (lg_sl ([.ref b, .int (nI ν), .int (nI α)])).length) Slot.unset).toArray = ls at hl ⊢
  have hl : lv_has ls 5 [(0, .ref b), (1, .int (nI ν)), (2, .int (nI α))] := hl
  obtain ⟨hB0, hB1, hB2, hB3, hB4, hB5⟩ := hB
  have hMf : fs_Mf b M M := fs_Mf_r
  refine lv_iconst (v := 0) hx hb dM_lookAt_0 (by decide) ?_
  refine lv_istore_n (lv' := [(3, .int 0), (0, .ref b), (1, .int (nI ν)), (2, .int (nI α))]) hx hb dM_lookAt_1 rfl hl (by decide) rfl (fun ls hl => ?_)
  refine fm_loop (head := 2) (maxL := 5) (cn 0) (fun i (u : Unit) M1 => M1 = M ∧ ∀ q, q < i → bt (fs_rw ia la q).1 α = false) (fun i (u : Unit) => [(3, .int (nI i)), (0, .ref b), (1, .int (nI ν)), (2, .int (nI α))]) ?_ ?_ (cn 0) 0 (Nat.zero_add _) () M _ _ ls ⟨rfl, fun q hq => absurd hq (Nat.not_lt_zero q)⟩ hW (lv_sub hl [0, 1, 2, 3] rfl)
  · intro i u M_1 H locs ls hi hI hW hl back
    have hl : lv_has ls 5 [(3, .int (nI i)), (0, .ref b), (1, .int (nI ν)), (2, .int (nI α))] := hl
    have hW : fm_W D fs_cl5 A M s.heap H locs := by rw [← hI.1]; exact hW
    have hs := hI.2
    refine lv_iload_n hx hb dM_lookAt_2 rfl (lv_at hl 0 rfl) ?_
    refine lv_aload_n hx hb dM_lookAt_3 rfl (lv_at hl 1 rfl) ?_
    refine fm_get (ci := 4) (v := .int (nI (cn 0))) (C := RM) (T := TM) (N := 30) hx hb hT inM hown hK hW hM.1 rfl 1 (by decide) (hT _ fl_M_68) (fun _ h9 => h9) rfl dM_lookAt_4 ?_
    refine lv_icmp_ge (tgt := 29) hx hb dM_lookAt_7 (by decide) (fun c_2 => ?_) (fun c_2 => ?_)
    · exact absurd c_2 (nI_ge hi (by omega))
    · refine lv_aload_n hx hb dM_lookAt_10 rfl (lv_at hl 1 rfl) ?_
      refine fm_get (ci := 4) (v := .ref (b + 8)) (C := RM) (T := TM) (N := 30) hx hb hT inM hown hK hW hM.1 rfl 13 (by decide) (hT _ fl_M_32) (fun _ h9 => h9) rfl dM_lookAt_11 ?_
      refine lv_iload_n hx hb dM_lookAt_14 rfl (lv_at hl 0 rfl) ?_
      refine fn_iald (n := 10) (f := ia 8) hx hb hK hW 0 (hM.2.1 8 rfl) rfl (show i < 10 by omega) (by decide) dM_lookAt_15 ?_
      refine lv_iload_n hx hb dM_lookAt_16 rfl (lv_at hl 3 rfl) ?_
      refine fm_calli (va_runS (As := [.int ((ia 8) i), .int (nI α)]) (rest := []) ⟨hx, hb, hml, hown, hts⟩ (c_M_bit l D ct A M ((ia 8) i) (nI α)) ⟨callB_of 2 hts (fs_gin co_M_bit) rfl rfl rfl (hT _ ini_M) (hT _ ml_M_95) (by decide +kernel) ⟨Nat.le_of_ble_eq_true rfl, Nat.le_of_ble_eq_true rfl⟩, hT _ st_M_bit⟩ (fn_pre fs_isnw hK hN hW) rfl rfl hl.1 rfl (lv_room (Nat.le_of_ble_eq_true rfl)) dM_lookAt_17 ⟨Nat.le_of_ble_eq_true rfl, Nat.le_of_ble_eq_true rfl⟩) hW (fun r_3 M_4 H locs hp_5 hW => ?_)
      have hW : fm_W D fs_cl5 A M s.heap H locs := by rw [← hp_5.2]; exact hW
      have er_3 := hp_5.1
      have er_3 : r_3 = fs_b (bt (fs_rw ia la i).1 α) := by rw [er_3]; exact fs_bi_b hα _
      refine lv_if_ne (tgt := 29) hx hb dM_lookAt_20 (by decide) (fun c_6 => ?_) (fun c_6 => ?_)
      · have ht : bt (fs_rw ia la i).1 α = true := fs_ndf _ (fun z => c_6 (by rw [er_3, z]; rfl))
        refine lv_iload_n hx hb dM_lookAt_29 rfl (lv_at hl 0 rfl) ?_
        refine lv_aload_n hx hb dM_lookAt_30 rfl (lv_at hl 1 rfl) ?_
        refine fm_get (ci := 4) (v := .int (nI (cn 0))) (C := RM) (T := TM) (N := 30) hx hb hT inM hown hK hW hM.1 rfl 1 (by decide) (hT _ fl_M_68) (fun _ h9 => h9) rfl dM_lookAt_31 ?_
        refine lv_icmp_ne (tgt := 44) hx hb dM_lookAt_34 (by decide) (fun c_7 => ?_) (fun c_7 => ?_)
        · refine lv_iconst (v := 0) hx hb dM_lookAt_44 (by decide) ?_
          refine lv_istore (lv' := [(4, .int 0), (3, .int (nI i)), (0, .ref b), (1, .int (nI ν)), (2, .int (nI α))]) hx hb dM_lookAt_45 hl (by decide) rfl (fun ls hl => ?_)
          refine fm_loop (head := 47) (maxL := 5) (cn 0) (fun ρ (ur : (Nat → Nat → Int32) × (Nat → Nat → Int64)) M1 => fs_MW ct M1 b cn si sl ur.1 ur.2 ∧ fs_Mf b M M1 ∧ fs_ro ia la ur.1 ur.2 ∧ fs_Up ρ (fs_rw ia la) (fun j => if j ≠ i ∧ bt (fs_rw ia la j).1 α = true then fs_ml (cn 0) (fs_rw ia la j) (fs_rw ia la i) else fs_rw ia la j) (fs_rw ur.1 ur.2)) (fun ρ (ur : (Nat → Nat → Int32) × (Nat → Nat → Int64)) => [(4, .int (nI ρ)), (3, .int (nI i)), (0, .ref b), (1, .int (nI ν)), (2, .int (nI α))]) ?_ ?_ (cn 0) 0 (Nat.zero_add _) (ia, la) M _ _ ls ⟨hM, hMf, fs_ro_r, fs_Up_0 _ _⟩ hW (lv_sub hl [0, 1, 2, 3, 4] rfl)
          · intro ρ ur M_8 H locs ls hir hIr hW hl backr
            have hl : lv_has ls 5 [(4, .int (nI ρ)), (3, .int (nI i)), (0, .ref b), (1, .int (nI ν)), (2, .int (nI α))] := hl
            obtain ⟨ia2, la2⟩ := ur
            obtain ⟨hM, hMf, hro, hU⟩ := hIr
            have hM : fs_MW ct M_8 b cn si sl ia2 la2 := hM
            have hro : fs_ro ia la ia2 la2 := hro
            have hU : fs_Up ρ (fs_rw ia la) (fun j => if j ≠ i ∧ bt (fs_rw ia la j).1 α = true then fs_ml (cn 0) (fs_rw ia la j) (fs_rw ia la i) else fs_rw ia la j) (fs_rw ia2 la2) := hU
            have hpi : fs_rw ia2 la2 i = fs_rw ia la i := by
              rcases Nat.lt_or_ge i ρ with z | z
              · exact (hU.1 i z).trans (if_neg (fun g => g.1 rfl))
              · exact hU.2 i z
            have hui : fs_rw ia2 la2 ρ = fs_rw ia la ρ := hU.2 ρ (Nat.le_refl ρ)
            refine lv_iload hx hb dM_lookAt_47 (lv_at hl 0 rfl) ?_
            refine lv_aload_n hx hb dM_lookAt_49 rfl (lv_at hl 2 rfl) ?_
            refine fm_get (ci := 4) (v := .int (nI (cn 0))) (C := RM) (T := TM) (N := 30) hx hb hT inM hown hK hW hM.1 rfl 1 (by decide) (hT _ fl_M_68) (fun _ h9 => h9) rfl dM_lookAt_50 ?_
            refine lv_icmp_ge (tgt := 90) hx hb dM_lookAt_53 (by decide) (fun c_9 => ?_) (fun c_9 => ?_)
            · exact absurd c_9 (nI_ge hir (by omega))
            · refine lv_iload hx hb dM_lookAt_56 (lv_at hl 0 rfl) ?_
              refine lv_iload_n hx hb dM_lookAt_58 rfl (lv_at hl 1 rfl) ?_
              refine lv_icmp_eq (tgt := 84) hx hb dM_lookAt_59 (by decide) (fun c_10 => ?_) (fun c_10 => ?_)
              · refine lv_iinc (v := nI (ρ + 1)) (lv' := [(4, .int (nI (ρ + 1))), (3, .int (nI i)), (0, .ref b), (1, .int (nI ν)), (2, .int (nI α))]) hx hb dM_lookAt_84 hl (k := 0) rfl (nI_1 ρ) (by decide) rfl (fun ls hl => ?_)
                refine lv_goto (tgt := 47) hx hb dM_lookAt_87 (by decide) ?_
                exact backr (_, _) _ _ _ ls ⟨hM, hMf, hro, fs_Up_k hU (by rw [hui]; exact (if_neg (fun g => g.1 ((nI_eq (by omega) (by omega)).mp c_10))).symm)⟩ hW (lv_sub hl [0, 1, 2, 3, 4] rfl)
              · have hne : ρ ≠ i := fun z => c_10 (by rw [z])
                refine lv_aload_n hx hb dM_lookAt_62 rfl (lv_at hl 2 rfl) ?_
                refine fm_get (ci := 4) (v := .ref (b + 8)) (C := RM) (T := TM) (N := 30) hx hb hT inM hown hK hW hM.1 rfl 13 (by decide) (hT _ fl_M_32) (fun _ h9 => h9) rfl dM_lookAt_63 ?_
                refine lv_iload hx hb dM_lookAt_66 (lv_at hl 0 rfl) ?_
                refine fn_iald (n := 10) (f := ia2 8) hx hb hK hW 0 (hM.2.1 8 rfl) rfl (show ρ < 10 by omega) (by decide) dM_lookAt_68 ?_
                refine lv_iload_n hx hb dM_lookAt_69 rfl (lv_at hl 4 rfl) ?_
                refine fm_calli (va_runS (As := [.int ((ia2 8) ρ), .int (nI α)]) (rest := []) ⟨hx, hb, hml, hown, hts⟩ (c_M_bit l D ct A M_8 ((ia2 8) ρ) (nI α)) ⟨callB_of 2 hts (fs_gin co_M_bit) rfl rfl rfl (hT _ ini_M) (hT _ ml_M_95) (by decide +kernel) ⟨Nat.le_of_ble_eq_true rfl, Nat.le_of_ble_eq_true rfl⟩, hT _ st_M_bit⟩ (fn_pre fs_isnw hK hN hW) rfl rfl hl.1 rfl (lv_room (Nat.le_of_ble_eq_true rfl)) dM_lookAt_70 ⟨Nat.le_of_ble_eq_true rfl, Nat.le_of_ble_eq_true rfl⟩) hW (fun r_11 M_12 H locs hp_13 hW => ?_)
                have hW : fm_W D fs_cl5 A M_8 s.heap H locs := by rw [← hp_13.2]; exact hW
                have er_11 := hp_13.1
                refine lv_iconst (v := 1) hx hb dM_lookAt_73 (by decide) ?_
                have er_11 : r_11 = fs_b (bt (fs_rw ia2 la2 ρ).1 α) := by rw [er_11]; exact fs_bi_b hα _
                rw [hui] at er_11
                refine lv_icmp_ne (tgt := 84) hx hb dM_lookAt_74 (by decide) (fun c_14 => ?_) (fun c_14 => ?_)
                · refine lv_iinc (v := nI (ρ + 1)) (lv' := [(4, .int (nI (ρ + 1))), (3, .int (nI i)), (0, .ref b), (1, .int (nI ν)), (2, .int (nI α))]) hx hb dM_lookAt_84 hl (k := 0) rfl (nI_1 ρ) (by decide) rfl (fun ls hl => ?_)
                  refine lv_goto (tgt := 47) hx hb dM_lookAt_87 (by decide) ?_
                  exact backr (_, _) _ _ _ ls ⟨hM, hMf, hro, fs_Up_k hU (by rw [hui]; exact (if_neg (fun g => c_14 (by rw [er_11]; exact (fs_b_eq1 _).mpr g.2))).symm)⟩ hW (lv_sub hl [0, 1, 2, 3, 4] rfl)
                · have hc1 := (fs_b_eq1 _).mp (er_11.symm.trans c_14)
                  refine lv_aload_n hx hb dM_lookAt_77 rfl (lv_at hl 2 rfl) ?_
                  refine lv_iload hx hb dM_lookAt_78 (lv_at hl 0 rfl) ?_
                  refine lv_iload_n hx hb dM_lookAt_80 rfl (lv_at hl 1 rfl) ?_
                  refine fm_callv (va_runV (As := [.int (nI ρ), .int (nI i)]) (rest := []) ⟨hx, hb, hml, hown, hts⟩ (c_M_multiply l D ct A M_8 b cn si sl ia2 la2 ρ i hM ⟨hB0, hB1, hB2, hB3, hB4, hB5⟩ hir hi) ⟨callB_of 2 hts (fs_gin co_M_multiply) rfl rfl rfl (hT _ ini_M) (hT _ ml_M_113) (by decide +kernel) ⟨Nat.le_of_ble_eq_true rfl, Nat.le_of_ble_eq_true rfl⟩, hT _ im_M_multiply, hT _ se_M_multiply⟩ (fn_preV fs_isnw hK hN hW hM.1 rfl) rfl rfl hl.1 rfl (lv_room (Nat.le_of_ble_eq_true rfl)) dM_lookAt_81 ⟨Nat.le_of_ble_eq_true rfl, Nat.le_of_ble_eq_true rfl⟩) hW (fun M_16 H locs hp_17 hW => ?_)
                  obtain ⟨ia_18, la_19, hM, hMf2, hR⟩ := hp_17
                  have hMf := fs_Mf_t hMf hMf2
                  refine lv_iinc (v := nI (ρ + 1)) (lv' := [(4, .int (nI (ρ + 1))), (3, .int (nI i)), (0, .ref b), (1, .int (nI ν)), (2, .int (nI α))]) hx hb dM_lookAt_84 hl (k := 0) rfl (nI_1 ρ) (by decide) rfl (fun ls hl => ?_)
                  refine lv_goto (tgt := 47) hx hb dM_lookAt_87 (by decide) ?_
                  exact backr (_, _) _ _ _ ls ⟨hM, hMf, fs_ro_t hro hR.1, fs_Up_r hU hR.2 (by rw [hui, hpi]; exact (if_pos ⟨hne, hc1⟩).symm)⟩ hW (lv_sub hl [0, 1, 2, 3, 4] rfl)
          · intro ur M_20 H locs ls hIr hW hl
            have hl : lv_has ls 5 [(4, .int (nI (cn 0))), (3, .int (nI i)), (0, .ref b), (1, .int (nI ν)), (2, .int (nI α))] := hl
            obtain ⟨ia2, la2⟩ := ur
            obtain ⟨hM, hMf, hro, hU⟩ := hIr
            have hM : fs_MW ct M_20 b cn si sl ia2 la2 := hM
            have hro : fs_ro ia la ia2 la2 := hro
            have hU : fs_Up (cn 0) (fs_rw ia la) (fun j => if j ≠ i ∧ bt (fs_rw ia la j).1 α = true then fs_ml (cn 0) (fs_rw ia la j) (fs_rw ia la i) else fs_rw ia la j) (fs_rw ia2 la2) := hU
            have hpi : fs_rw ia2 la2 i = fs_rw ia la i := by
              rcases Nat.lt_or_ge i (cn 0) with z | z
              · exact (hU.1 i z).trans (if_neg (fun g => g.1 rfl))
              · exact hU.2 i z
            refine lv_iload hx hb dM_lookAt_47 (lv_at hl 0 rfl) ?_
            refine lv_aload_n hx hb dM_lookAt_49 rfl (lv_at hl 2 rfl) ?_
            refine fm_get (ci := 4) (v := .int (nI (cn 0))) (C := RM) (T := TM) (N := 30) hx hb hT inM hown hK hW hM.1 rfl 1 (by decide) (hT _ fl_M_68) (fun _ h9 => h9) rfl dM_lookAt_50 ?_
            refine lv_icmp_ge (tgt := 90) hx hb dM_lookAt_53 (by decide) (fun c_21 => ?_) (fun c_21 => ?_)
            · refine lv_aload_n hx hb dM_lookAt_90 rfl (lv_at hl 2 rfl) ?_
              refine fm_get (ci := 4) (v := .ref (b + 8)) (C := RM) (T := TM) (N := 30) hx hb hT inM hown hK hW hM.1 rfl 13 (by decide) (hT _ fl_M_32) (fun _ h9 => h9) rfl dM_lookAt_91 ?_
              refine lv_iload_n hx hb dM_lookAt_94 rfl (lv_at hl 1 rfl) ?_
              refine lv_iconst (v := 0) hx hb dM_lookAt_95 (by decide) ?_
              refine fn_iast (n := 10) (f := ia2 8) hx hb hK hW 0 (hM.2.1 8 rfl) rfl (show i < 10 by omega) (by decide) dM_lookAt_96 (fun H locs hW => ?_)
              obtain ⟨M_22, eM_22⟩ : ∃ z : fm_M, z = va_up M_20 (b + 8) (some (.inl (ct 0, 10, .inl (upd (ia2 8) i 0)))) := ⟨_, rfl⟩
              have hW : fm_W D fs_cl5 A M_22 s.heap H locs := by rw [eM_22]; exact hW
              have hM : fs_MW ct M_22 b cn si sl (va_up ia2 8 (upd (ia2 8) i 0)) la2 := by rw [eM_22]; exact fs_MW_i hM 8 rfl _
              have hMf : fs_Mf b M M_22 := by rw [eM_22]; exact fs_Mf_u hMf (by omega) _
              refine lv_aload_n hx hb dM_lookAt_97 rfl (lv_at hl 2 rfl) ?_
              refine fm_get (ci := 4) (v := .ref (b + 9)) (C := RM) (T := TM) (N := 30) hx hb hT inM hown hK hW hM.1 rfl 14 (by decide) (hT _ fl_M_35) (fun _ h9 => h9) rfl dM_lookAt_98 ?_
              refine lv_iload_n hx hb dM_lookAt_101 rfl (lv_at hl 1 rfl) ?_
              refine lv_iconst (v := 1) hx hb dM_lookAt_102 (by decide) ?_
              refine lv_iload_n hx hb dM_lookAt_103 rfl (lv_at hl 4 rfl) ?_
              refine lv_ishl hx hb dM_lookAt_104 ?_
              refine lv_topi (fun x_23 ex_23 => ?_)
              refine fn_iast (n := 10) (f := ia2 9) hx hb hK hW 0 (hM.2.1 9 rfl) rfl (show i < 10 by omega) (by decide) dM_lookAt_105 (fun H locs hW => ?_)
              obtain ⟨M_24, eM_24⟩ : ∃ z : fm_M, z = va_up M_22 (b + 9) (some (.inl (ct 0, 10, .inl (upd (ia2 9) i x_23)))) := ⟨_, rfl⟩
              have hW : fm_W D fs_cl5 A M_24 s.heap H locs := by rw [eM_24]; exact hW
              have hM : fs_MW ct M_24 b cn si sl (va_up (va_up ia2 8 (upd (ia2 8) i 0)) 9 (upd (ia2 9) i x_23)) la2 := by rw [eM_24]; exact fs_MW_i hM 9 rfl _
              have hMf : fs_Mf b M M_24 := by rw [eM_24]; exact fs_Mf_u hMf (by omega) _
              refine lv_aload_n hx hb dM_lookAt_106 rfl (lv_at hl 2 rfl) ?_
              refine fm_get (ci := 4) (v := .ref (b + 10)) (C := RM) (T := TM) (N := 30) hx hb hT inM hown hK hW hM.1 rfl 15 (by decide) (hT _ fl_M_38) (fun _ h9 => h9) rfl dM_lookAt_107 ?_
              refine lv_iload_n hx hb dM_lookAt_110 rfl (lv_at hl 1 rfl) ?_
              refine lv_iconst (v := 0) hx hb dM_lookAt_111 (by decide) ?_
              refine fn_iast (n := 10) (f := ia2 10) hx hb hK hW 0 (hM.2.1 10 rfl) rfl (show i < 10 by omega) (by decide) dM_lookAt_112 (fun H locs hW => ?_)
              obtain ⟨M_25, eM_25⟩ : ∃ z : fm_M, z = va_up M_24 (b + 10) (some (.inl (ct 0, 10, .inl (upd (ia2 10) i 0)))) := ⟨_, rfl⟩
              have hW : fm_W D fs_cl5 A M_25 s.heap H locs := by rw [eM_25]; exact hW
              have hM : fs_MW ct M_25 b cn si sl (va_up (va_up (va_up ia2 8 (upd (ia2 8) i 0)) 9 (upd (ia2 9) i x_23)) 10 (upd (ia2 10) i 0)) la2 := by rw [eM_25]; exact fs_MW_i hM 10 rfl _
              have hMf : fs_Mf b M M_25 := by rw [eM_25]; exact fs_Mf_u hMf (by omega) _
              refine lv_aload_n hx hb dM_lookAt_113 rfl (lv_at hl 2 rfl) ?_
              refine fm_get (ci := 4) (v := .ref (b + 11)) (C := RM) (T := TM) (N := 30) hx hb hT inM hown hK hW hM.1 rfl 16 (by decide) (hT _ fl_M_41) (fun _ h9 => h9) rfl dM_lookAt_114 ?_
              refine lv_iload_n hx hb dM_lookAt_117 rfl (lv_at hl 1 rfl) ?_
              refine lv_lconst (v := 1) hx hb dM_lookAt_118 (by decide) ?_
              refine lv_iload_n hx hb dM_lookAt_119 rfl (lv_at hl 3 rfl) ?_
              refine lv_lshl (v := 1 <<< ((nI ν).toInt64 &&& 63)) hx hb dM_lookAt_120 rfl ?_
              refine lv_topl (fun x_26 ex_26 => ?_)
              refine fn_last (n := 10) (f := la2 11) hx hb hK hW 1 (hM.2.2.1 11 rfl) rfl (show i < 10 by omega) (by decide) dM_lookAt_121 (fun H locs hW => ?_)
              obtain ⟨M_27, eM_27⟩ : ∃ z : fm_M, z = va_up M_25 (b + 11) (some (.inl (ct 1, 10, .inr (.inl (vp_updL (la2 11) i x_26))))) := ⟨_, rfl⟩
              have hW : fm_W D fs_cl5 A M_27 s.heap H locs := by rw [eM_27]; exact hW
              have hM : fs_MW ct M_27 b cn si sl (va_up (va_up (va_up ia2 8 (upd (ia2 8) i 0)) 9 (upd (ia2 9) i x_23)) 10 (upd (ia2 10) i 0)) (va_up la2 11 (vp_updL (la2 11) i x_26)) := by rw [eM_27]; exact fs_MW_l hM 11 rfl _
              have hMf : fs_Mf b M M_27 := by rw [eM_27]; exact fs_Mf_u hMf (by omega) _
              refine lv_aload_n hx hb dM_lookAt_122 rfl (lv_at hl 2 rfl) ?_
              refine fm_get (ci := 4) (v := .ref (b + 12)) (C := RM) (T := TM) (N := 30) hx hb hT inM hown hK hW hM.1 rfl 17 (by decide) (hT _ fl_M_44) (fun _ h9 => h9) rfl dM_lookAt_123 ?_
              refine lv_iload_n hx hb dM_lookAt_126 rfl (lv_at hl 3 rfl) ?_
              refine lv_iconst (v := 0) hx hb dM_lookAt_127 (by decide) ?_
              refine fn_iast (n := 60) (f := ia2 12) hx hb hK hW 0 (hM.2.1 12 rfl) rfl (show ν < 60 by omega) (by decide) dM_lookAt_128 (fun H locs hW => ?_)
              obtain ⟨M_28, eM_28⟩ : ∃ z : fm_M, z = va_up M_27 (b + 12) (some (.inl (ct 0, 60, .inl (upd (ia2 12) ν 0)))) := ⟨_, rfl⟩
              have hW : fm_W D fs_cl5 A M_28 s.heap H locs := by rw [eM_28]; exact hW
              have hM : fs_MW ct M_28 b cn si sl (va_up (va_up (va_up (va_up ia2 8 (upd (ia2 8) i 0)) 9 (upd (ia2 9) i x_23)) 10 (upd (ia2 10) i 0)) 12 (upd (ia2 12) ν 0)) (va_up la2 11 (vp_updL (la2 11) i x_26)) := by rw [eM_28]; exact fs_MW_i hM 12 rfl _
              have hMf : fs_Mf b M M_28 := by rw [eM_28]; exact fs_Mf_u hMf (by omega) _
              refine lv_aload_n hx hb dM_lookAt_129 rfl (lv_at hl 2 rfl) ?_
              refine fm_get (ci := 4) (v := .ref (b + 13)) (C := RM) (T := TM) (N := 30) hx hb hT inM hown hK hW hM.1 rfl 18 (by decide) (hT _ fl_M_47) (fun _ h9 => h9) rfl dM_lookAt_130 ?_
              refine lv_iload_n hx hb dM_lookAt_133 rfl (lv_at hl 3 rfl) ?_
              refine lv_lconst (v := 1) hx hb dM_lookAt_134 (by decide) ?_
              refine lv_iload_n hx hb dM_lookAt_135 rfl (lv_at hl 3 rfl) ?_
              refine lv_lshl (v := 1 <<< ((nI ν).toInt64 &&& 63)) hx hb dM_lookAt_136 rfl ?_
              refine lv_topl (fun x_29 ex_29 => ?_)
              refine fn_last (n := 60) (f := la2 13) hx hb hK hW 1 (hM.2.2.1 13 rfl) rfl (show ν < 60 by omega) (by decide) dM_lookAt_137 (fun H locs hW => ?_)
              obtain ⟨M_30, eM_30⟩ : ∃ z : fm_M, z = va_up M_28 (b + 13) (some (.inl (ct 1, 60, .inr (.inl (vp_updL (la2 13) ν x_29))))) := ⟨_, rfl⟩
              have hW : fm_W D fs_cl5 A M_30 s.heap H locs := by rw [eM_30]; exact hW
              have hM : fs_MW ct M_30 b cn si sl (va_up (va_up (va_up (va_up ia2 8 (upd (ia2 8) i 0)) 9 (upd (ia2 9) i x_23)) 10 (upd (ia2 10) i 0)) 12 (upd (ia2 12) ν 0)) (va_up (va_up la2 11 (vp_updL (la2 11) i x_26)) 13 (vp_updL (la2 13) ν x_29)) := by rw [eM_30]; exact fs_MW_l hM 13 rfl _
              have hMf : fs_Mf b M M_30 := by rw [eM_30]; exact fs_Mf_u hMf (by omega) _
              have hrow : ∀ z9, fs_rw (va_up (va_up (va_up (va_up ia2 8 (upd (ia2 8) i 0)) 9 (upd (ia2 9) i x_23)) 10 (upd (ia2 10) i 0)) 12 (upd (ia2 12) ν 0)) (va_up (va_up la2 11 (vp_updL (la2 11) i x_26)) 13 (vp_updL (la2 13) ν x_29)) z9 = if z9 = i then ((0, 1 <<< (nI α &&& 31), 0, 1 <<< ((nI ν).toInt64 &&& 63)) : fs_Q) else fs_rw ia2 la2 z9 := by
                intro z9
                show ((upd (ia2 8) i 0) z9, (upd (ia2 9) i x_23) z9, (upd (ia2 10) i 0) z9, (vp_updL (la2 11) i x_26) z9) = _
                subst ex_29
                subst ex_26
                subst ex_23
                by_cases q : z9 = i
                · rw [if_pos q, q, pk_us, pk_us, pk_us, pk_uLs]
                · rw [if_neg q, pk_un q, pk_un q, pk_un q, pk_uLn q]; rfl
              have hrow2 : ∀ z9, z9 < cn 0 → fs_rw (va_up (va_up (va_up (va_up ia2 8 (upd (ia2 8) i 0)) 9 (upd (ia2 9) i x_23)) 10 (upd (ia2 10) i 0)) 12 (upd (ia2 12) ν 0)) (va_up (va_up la2 11 (vp_updL (la2 11) i x_26)) 13 (vp_updL (la2 13) ν x_29)) z9 = if z9 = i then ((0, 1 <<< (nI α &&& 31), 0, 1 <<< ((nI ν).toInt64 &&& 63)) : fs_Q) else if bt (fs_rw ia la z9).1 α = true then fs_ml (cn 0) (fs_rw ia la z9) (fs_rw ia la i) else fs_rw ia la z9 := by
                intro z9 hz
                rw [hrow z9]
                by_cases q : z9 = i
                · rw [if_pos q, if_pos q]
                · rw [if_neg q, if_neg q, hU.1 z9 hz]
                  show (if z9 ≠ i ∧ bt (fs_rw ia la z9).1 α = true then _ else _) = _
                  by_cases g : bt (fs_rw ia la z9).1 α = true
                  · rw [if_pos ⟨q, g⟩, if_pos g]
                  · rw [if_neg (fun z => g z.2), if_neg g]
              have hls : (upd (ia2 12) ν 0) = upd (ia 12) ν 0 := by rw [← hro.1 12 (by decide) (by decide) (by decide)]
              have hlh : (vp_updL (la2 13) ν x_29) = vp_updL (la 13) ν (1 <<< ((nI ν).toInt64 &&& 63)) := by rw [← hro.2 13 (by decide), ex_29]
              exact fm_vret hx hb hr hlocks hW ⟨_, _, _, _, hM, hMf, ⟨fun k hk => by rw [fu_n (by omega), fu_n (by omega), fu_n (by omega), fu_n (by omega)]; exact hro.1 k (by omega) (by omega) (by omega), by rw [fu_n (by decide), fu_n (by decide)]; exact hro.2 7 (by decide), rfl⟩, 0, _, Or.inl ⟨⟨i, hi, ht, hrow2⟩, rfl, rfl⟩, hls, hlh⟩ dM_lookAt_138
            · exact absurd (nI_le (Nat.le_refl (cn 0)) (by omega)) c_21
        · exact absurd ((nI_eq (by omega) (by omega)).mp c_7) (Nat.ne_of_lt hi)
      · refine lv_iinc (v := nI (i + 1)) (lv' := [(3, .int (nI (i + 1))), (0, .ref b), (1, .int (nI ν)), (2, .int (nI α))]) hx hb dM_lookAt_23 hl (k := 0) rfl (nI_1 i) (by decide) rfl (fun ls hl => ?_)
        refine lv_goto (tgt := 2) hx hb dM_lookAt_26 (by decide) ?_
        exact back () _ _ _ ls ⟨rfl, fs_ls hs ((fs_b_eq0 _).mp (er_3.symm.trans c_6))⟩ hW (lv_sub hl [0, 1, 2, 3] rfl)
  · intro u M_31 H locs ls hI hW hl
    have hl : lv_has ls 5 [(3, .int (nI (cn 0))), (0, .ref b), (1, .int (nI ν)), (2, .int (nI α))] := hl
    have hW : fm_W D fs_cl5 A M s.heap H locs := by rw [← hI.1]; exact hW
    have hs := hI.2
    refine lv_iload_n hx hb dM_lookAt_2 rfl (lv_at hl 0 rfl) ?_
    refine lv_aload_n hx hb dM_lookAt_3 rfl (lv_at hl 1 rfl) ?_
    refine fm_get (ci := 4) (v := .int (nI (cn 0))) (C := RM) (T := TM) (N := 30) hx hb hT inM hown hK hW hM.1 rfl 1 (by decide) (hT _ fl_M_68) (fun _ h9 => h9) rfl dM_lookAt_4 ?_
    refine lv_icmp_ge (tgt := 29) hx hb dM_lookAt_7 (by decide) (fun c_32 => ?_) (fun c_32 => ?_)
    · refine lv_iload_n hx hb dM_lookAt_29 rfl (lv_at hl 0 rfl) ?_
      refine lv_aload_n hx hb dM_lookAt_30 rfl (lv_at hl 1 rfl) ?_
      refine fm_get (ci := 4) (v := .int (nI (cn 0))) (C := RM) (T := TM) (N := 30) hx hb hT inM hown hK hW hM.1 rfl 1 (by decide) (hT _ fl_M_68) (fun _ h9 => h9) rfl dM_lookAt_31 ?_
      refine lv_icmp_ne (tgt := 44) hx hb dM_lookAt_34 (by decide) (fun c_33 => ?_) (fun c_33 => ?_)
      · exact absurd rfl c_33
      · refine lv_aload_n hx hb dM_lookAt_37 rfl (lv_at hl 1 rfl) ?_
        refine lv_iload_n hx hb dM_lookAt_38 rfl (lv_at hl 2 rfl) ?_
        refine lv_iload_n hx hb dM_lookAt_39 rfl (lv_at hl 3 rfl) ?_
        refine fm_callv (va_runV (As := [.int (nI ν), .int (nI α)]) (rest := []) ⟨hx, hb, hml, hown, hts⟩ (c_M_solve l D ct A M b cn si sl ia la ν α hM ⟨hB0, hB1, hB2, hB3, hB4, hB5⟩ hν hα) ⟨callB_of 2 hts (fs_gin co_M_solve) rfl rfl rfl (hT _ ini_M) (hT _ ml_M_109) (by decide +kernel) ⟨Nat.le_of_ble_eq_true rfl, Nat.le_of_ble_eq_true rfl⟩, hT _ im_M_solve, hT _ se_M_solve⟩ (fn_preV fs_isnw hK hN hW hM.1 rfl) rfl rfl hl.1 rfl (lv_room (Nat.le_of_ble_eq_true rfl)) dM_lookAt_40 ⟨Nat.le_of_ble_eq_true rfl, Nat.le_of_ble_eq_true rfl⟩) hW (fun M_35 H locs hp_36 hW => ?_)
        obtain ⟨si2, sl2, ia2, la2, hM, hMf, hpo, us, md, h1, h2, h3⟩ := hp_36
        exact fm_vret hx hb hr hlocks hW ⟨si2, sl2, ia2, la2, hM, hMf, hpo, _, _, Or.inr ⟨hs, us, md, h1, rfl, rfl⟩, h2, h3⟩ dM_lookAt_43
    · exact absurd (nI_le (Nat.le_refl (cn 0)) (by omega)) c_32
set_option maxHeartbeats 4000000 in
set_option maxRecDepth 100000 in
theorem c_M_playAll (l : Launch) (D : va_G) (ct : Nat → ClassId) (A : Nat → Prop) (M : fm_M) (b : Nat) (cn : Nat → Nat) (si : Nat → Int32) (sl : Nat → Int64) (ia : Nat → Nat → Int32) (la : Nat → Nat → Int64) (hM : fs_MW ct M b cn si sl ia la) (hB : fs_Bd cn) (hwf : fs_wf cn ia) : Met l yM_playAll wM_playAll ({ frames := 5, cells := 0, slots := 0, locals := 120 }) (va_Pc [.ref b] (fm_St D fs_cl5 (fs_tys ct) fs_nw A M)) (va_Qv (fun (M1 : fm_M) => ∃ (si2 : Nat → Int32) (sl2 : Nat → Int64) (ia2 : Nat → Nat → Int32) (la2 : Nat → Nat → Int64), fs_MW ct M1 b cn si2 sl2 ia2 la2 ∧ fs_Mf b M M1 ∧ fs_po si ia la si2 ia2 la2 ∧ fs_kP (cn 0) (ia 1) (ia 2) (ia 3) (cn 1) (fs_rw ia2 la2) (ia2 12) (la2 13)) (fm_B D fs_cl5 A) A) 0 0 A := by
  refine Met.ofW (cc := cM_playAll) (maxL := 3) (ret := none) (by decide) rfl ?_
  intro p e s m args below meth c s₁ B hml hv
  obtain ⟨rfl, hP0, hA0, hA1, hK, hN⟩ := hv
  have hx := B.exec
  have hb := B.bytes
  have hr := B.returns
  have hts := atoms_spec (ws := wM_playAll) B.pre
  have hT : ∀ w ∈ fs_tb, w.before _ s = true := fun w h => hts w (List.mem_cons_of_mem _ h)
  have hown : s.vm.findClass "FrameSamplesModel" = some m.cls := findClass_of_methodNamed B.named
  have hlocks := B.notSynchronized
  have hW : fm_W D fs_cl5 A M s.heap s.heap [] := ⟨hP0, hA0, va_S.rf, hA1⟩
  have hl := lv_entry ([.ref b]) (n := 3) (Nat.le_of_ble_eq_true rfl)
  rw [lg_entry_eq]
  generalize (lg_sl ([.ref b]) ++ List.replicate (3 - (lg_sl ([.ref b])).length) Slot.unset).toArray = ls at hl ⊢
  have hl : lv_has ls 3 [(0, .ref b)] := hl
  obtain ⟨hB0, hB1, hB2, hB3, hB4, hB5⟩ := hB
  have hMf : fs_Mf b M M := fs_Mf_r
  refine lv_iconst (v := 0) hx hb dM_playAll_0 (by decide) ?_
  refine lv_istore_n (lv' := [(1, .int 0), (0, .ref b)]) hx hb dM_playAll_1 rfl hl (by decide) rfl (fun ls hl => ?_)
  refine fm_loop (head := 2) (maxL := 3) (cn 0) (fun i (u : (Nat → Nat → Int32) × (Nat → Nat → Int64)) M1 => fs_MW ct M1 b cn si sl u.1 u.2 ∧ fs_Mf b M M1 ∧ fs_ro ia la u.1 u.2 ∧ fs_Up i (fs_rw ia la) (fun j => ((0, 1 <<< (nI j &&& 31), 0, 0) : fs_Q)) (fs_rw u.1 u.2)) (fun i (u : (Nat → Nat → Int32) × (Nat → Nat → Int64)) => [(1, .int (nI i)), (0, .ref b)]) ?_ ?_ (cn 0) 0 (Nat.zero_add _) (ia, la) M _ _ ls ⟨hM, hMf, fs_ro_r, fs_Up_0 _ _⟩ hW (lv_sub hl [0, 1] rfl)
  · intro i u M_1 H locs ls hi hI hW hl back
    have hl : lv_has ls 3 [(1, .int (nI i)), (0, .ref b)] := hl
    obtain ⟨ia1, la1⟩ := u
    obtain ⟨hM, hMf, hro, hU⟩ := hI
    have hM : fs_MW ct M_1 b cn si sl ia1 la1 := hM
    have hro : fs_ro ia la ia1 la1 := hro
    have hU : fs_Up i (fs_rw ia la) (fun j => ((0, 1 <<< (nI j &&& 31), 0, 0) : fs_Q)) (fs_rw ia1 la1) := hU
    refine lv_iload_n hx hb dM_playAll_2 rfl (lv_at hl 0 rfl) ?_
    refine lv_aload_n hx hb dM_playAll_3 rfl (lv_at hl 1 rfl) ?_
    refine fm_get (ci := 4) (v := .int (nI (cn 0))) (C := RM) (T := TM) (N := 30) hx hb hT inM hown hK hW hM.1 rfl 1 (by decide) (hT _ fl_M_68) (fun _ h9 => h9) rfl dM_playAll_4 ?_
    refine lv_icmp_ge (tgt := 46) hx hb dM_playAll_7 (by decide) (fun c_2 => ?_) (fun c_2 => ?_)
    · exact absurd c_2 (nI_ge hi (by omega))
    · refine lv_aload_n hx hb dM_playAll_10 rfl (lv_at hl 1 rfl) ?_
      refine fm_get (ci := 4) (v := .ref (b + 8)) (C := RM) (T := TM) (N := 30) hx hb hT inM hown hK hW hM.1 rfl 13 (by decide) (hT _ fl_M_32) (fun _ h9 => h9) rfl dM_playAll_11 ?_
      refine lv_iload_n hx hb dM_playAll_14 rfl (lv_at hl 0 rfl) ?_
      refine lv_iconst (v := 0) hx hb dM_playAll_15 (by decide) ?_
      refine fn_iast (n := 10) (f := ia1 8) hx hb hK hW 0 (hM.2.1 8 rfl) rfl (show i < 10 by omega) (by decide) dM_playAll_16 (fun H locs hW => ?_)
      obtain ⟨M_3, eM_3⟩ : ∃ z : fm_M, z = va_up M_1 (b + 8) (some (.inl (ct 0, 10, .inl (upd (ia1 8) i 0)))) := ⟨_, rfl⟩
      have hW : fm_W D fs_cl5 A M_3 s.heap H locs := by rw [eM_3]; exact hW
      have hM : fs_MW ct M_3 b cn si sl (va_up ia1 8 (upd (ia1 8) i 0)) la1 := by rw [eM_3]; exact fs_MW_i hM 8 rfl _
      have hMf : fs_Mf b M M_3 := by rw [eM_3]; exact fs_Mf_u hMf (by omega) _
      refine lv_aload_n hx hb dM_playAll_17 rfl (lv_at hl 1 rfl) ?_
      refine fm_get (ci := 4) (v := .ref (b + 9)) (C := RM) (T := TM) (N := 30) hx hb hT inM hown hK hW hM.1 rfl 14 (by decide) (hT _ fl_M_35) (fun _ h9 => h9) rfl dM_playAll_18 ?_
      refine lv_iload_n hx hb dM_playAll_21 rfl (lv_at hl 0 rfl) ?_
      refine lv_iconst (v := 1) hx hb dM_playAll_22 (by decide) ?_
      refine lv_iload_n hx hb dM_playAll_23 rfl (lv_at hl 0 rfl) ?_
      refine lv_ishl hx hb dM_playAll_24 ?_
      refine lv_topi (fun x_4 ex_4 => ?_)
      refine fn_iast (n := 10) (f := ia1 9) hx hb hK hW 0 (hM.2.1 9 rfl) rfl (show i < 10 by omega) (by decide) dM_playAll_25 (fun H locs hW => ?_)
      obtain ⟨M_5, eM_5⟩ : ∃ z : fm_M, z = va_up M_3 (b + 9) (some (.inl (ct 0, 10, .inl (upd (ia1 9) i x_4)))) := ⟨_, rfl⟩
      have hW : fm_W D fs_cl5 A M_5 s.heap H locs := by rw [eM_5]; exact hW
      have hM : fs_MW ct M_5 b cn si sl (va_up (va_up ia1 8 (upd (ia1 8) i 0)) 9 (upd (ia1 9) i x_4)) la1 := by rw [eM_5]; exact fs_MW_i hM 9 rfl _
      have hMf : fs_Mf b M M_5 := by rw [eM_5]; exact fs_Mf_u hMf (by omega) _
      refine lv_aload_n hx hb dM_playAll_26 rfl (lv_at hl 1 rfl) ?_
      refine fm_get (ci := 4) (v := .ref (b + 10)) (C := RM) (T := TM) (N := 30) hx hb hT inM hown hK hW hM.1 rfl 15 (by decide) (hT _ fl_M_38) (fun _ h9 => h9) rfl dM_playAll_27 ?_
      refine lv_iload_n hx hb dM_playAll_30 rfl (lv_at hl 0 rfl) ?_
      refine lv_iconst (v := 0) hx hb dM_playAll_31 (by decide) ?_
      refine fn_iast (n := 10) (f := ia1 10) hx hb hK hW 0 (hM.2.1 10 rfl) rfl (show i < 10 by omega) (by decide) dM_playAll_32 (fun H locs hW => ?_)
      obtain ⟨M_6, eM_6⟩ : ∃ z : fm_M, z = va_up M_5 (b + 10) (some (.inl (ct 0, 10, .inl (upd (ia1 10) i 0)))) := ⟨_, rfl⟩
      have hW : fm_W D fs_cl5 A M_6 s.heap H locs := by rw [eM_6]; exact hW
      have hM : fs_MW ct M_6 b cn si sl (va_up (va_up (va_up ia1 8 (upd (ia1 8) i 0)) 9 (upd (ia1 9) i x_4)) 10 (upd (ia1 10) i 0)) la1 := by rw [eM_6]; exact fs_MW_i hM 10 rfl _
      have hMf : fs_Mf b M M_6 := by rw [eM_6]; exact fs_Mf_u hMf (by omega) _
      refine lv_aload_n hx hb dM_playAll_33 rfl (lv_at hl 1 rfl) ?_
      refine fm_get (ci := 4) (v := .ref (b + 11)) (C := RM) (T := TM) (N := 30) hx hb hT inM hown hK hW hM.1 rfl 16 (by decide) (hT _ fl_M_41) (fun _ h9 => h9) rfl dM_playAll_34 ?_
      refine lv_iload_n hx hb dM_playAll_37 rfl (lv_at hl 0 rfl) ?_
      refine lv_lconst (v := 0) hx hb dM_playAll_38 (by decide) ?_
      refine fn_last (n := 10) (f := la1 11) hx hb hK hW 1 (hM.2.2.1 11 rfl) rfl (show i < 10 by omega) (by decide) dM_playAll_39 (fun H locs hW => ?_)
      obtain ⟨M_7, eM_7⟩ : ∃ z : fm_M, z = va_up M_6 (b + 11) (some (.inl (ct 1, 10, .inr (.inl (vp_updL (la1 11) i 0))))) := ⟨_, rfl⟩
      have hW : fm_W D fs_cl5 A M_7 s.heap H locs := by rw [eM_7]; exact hW
      have hM : fs_MW ct M_7 b cn si sl (va_up (va_up (va_up ia1 8 (upd (ia1 8) i 0)) 9 (upd (ia1 9) i x_4)) 10 (upd (ia1 10) i 0)) (va_up la1 11 (vp_updL (la1 11) i 0)) := by rw [eM_7]; exact fs_MW_l hM 11 rfl _
      have hMf : fs_Mf b M M_7 := by rw [eM_7]; exact fs_Mf_u hMf (by omega) _
      have hR : fs_rs ia1 la1 (va_up (va_up (va_up ia1 8 (upd (ia1 8) i 0)) 9 (upd (ia1 9) i x_4)) 10 (upd (ia1 10) i 0)) (va_up la1 11 (vp_updL (la1 11) i 0)) i (((0, 1 <<< (nI i &&& 31), 0, 0) : fs_Q)) := by
        refine ⟨⟨fun k h8 h9 h10 => ?_, fun k h11 => ?_⟩, fun z9 => ?_⟩
        · simp only [fu_n h8, fu_n h9, fu_n h10]
        · simp only [fu_n h11]
        · show ((upd (ia1 8) i 0) z9, (upd (ia1 9) i x_4) z9, (upd (ia1 10) i 0) z9, (vp_updL (la1 11) i 0) z9) = _
          by_cases q : z9 = i
          · subst q; rw [if_pos rfl]; simp only [pk_us, pk_uLs]
            subst ex_4
            rfl
          · rw [if_neg q]; try simp only [pk_un q, pk_uLn q]
            rfl
      refine lv_iinc (v := nI (i + 1)) (lv' := [(1, .int (nI (i + 1))), (0, .ref b)]) hx hb dM_playAll_40 hl (k := 0) rfl (nI_1 i) (by decide) rfl (fun ls hl => ?_)
      refine lv_goto (tgt := 2) hx hb dM_playAll_43 (by decide) ?_
      exact back (_, _) _ _ _ ls ⟨hM, hMf, fs_ro_t hro hR.1, fs_Up_r hU hR.2 rfl⟩ hW (lv_sub hl [0, 1] rfl)
  · intro u M_8 H locs ls hI hW hl
    have hl : lv_has ls 3 [(1, .int (nI (cn 0))), (0, .ref b)] := hl
    obtain ⟨ia1, la1⟩ := u
    obtain ⟨hM, hMf, hro, hU⟩ := hI
    have hM : fs_MW ct M_8 b cn si sl ia1 la1 := hM
    have hro : fs_ro ia la ia1 la1 := hro
    have hU : fs_Up (cn 0) (fs_rw ia la) (fun j => ((0, 1 <<< (nI j &&& 31), 0, 0) : fs_Q)) (fs_rw ia1 la1) := hU
    refine lv_iload_n hx hb dM_playAll_2 rfl (lv_at hl 0 rfl) ?_
    refine lv_aload_n hx hb dM_playAll_3 rfl (lv_at hl 1 rfl) ?_
    refine fm_get (ci := 4) (v := .int (nI (cn 0))) (C := RM) (T := TM) (N := 30) hx hb hT inM hown hK hW hM.1 rfl 1 (by decide) (hT _ fl_M_68) (fun _ h9 => h9) rfl dM_playAll_4 ?_
    refine lv_icmp_ge (tgt := 46) hx hb dM_playAll_7 (by decide) (fun c_9 => ?_) (fun c_9 => ?_)
    · refine lv_iconst (v := 0) hx hb dM_playAll_46 (by decide) ?_
      refine lv_istore_n (lv' := [(1, .int 0), (0, .ref b)]) hx hb dM_playAll_47 rfl hl (by decide) rfl (fun ls hl => ?_)
      refine fm_loop (head := 48) (maxL := 3) (cn 1) (fun κ0 (uk : (Nat → Int32) × (Nat → Int64) × (Nat → Nat → Int32) × (Nat → Nat → Int64)) M1 => fs_MW ct M1 b cn uk.1 uk.2.1 uk.2.2.1 uk.2.2.2 ∧ fs_Mf b M M1 ∧ fs_po si ia la uk.1 uk.2.2.1 uk.2.2.2 ∧ fs_kP (cn 0) (ia 1) (ia 2) (ia 3) κ0 (fs_rw uk.2.2.1 uk.2.2.2) (uk.2.2.1 12) (uk.2.2.2 13)) (fun κ0 (uk : (Nat → Int32) × (Nat → Int64) × (Nat → Nat → Int32) × (Nat → Nat → Int64)) => [(1, .int (nI κ0)), (0, .ref b)]) ?_ ?_ (cn 1) 0 (Nat.zero_add _) (si, sl, ia1, la1) M_8 _ _ ls ⟨hM, hMf, fs_po_ro hro, fun i hi => hU.1 i hi⟩ hW (lv_sub hl [0, 1] rfl)
      · intro κ0 uk M_10 H locs ls hik hIk hW hl backk
        have hl : lv_has ls 3 [(1, .int (nI κ0)), (0, .ref b)] := hl
        obtain ⟨si2, sl2, ia2, la2⟩ := uk
        obtain ⟨hM, hMf, hpo, hP⟩ := hIk
        have hM : fs_MW ct M_10 b cn si2 sl2 ia2 la2 := hM
        have hpo : fs_po si ia la si2 ia2 la2 := hpo
        have hP : fs_kP (cn 0) (ia 1) (ia 2) (ia 3) κ0 (fs_rw ia2 la2) (ia2 12) (la2 13) := hP
        obtain ⟨κ, α, hκ, hα, w1, w2, w3⟩ := hwf κ0 hik
        have hα32 : α < 32 := by omega
        have q1 : ia2 1 κ0 = nI κ := by rw [hpo.1 1 (by decide)]; exact w1
        have q2 : ia2 2 κ0 = nI α := by rw [hpo.1 2 (by decide)]; exact w2
        refine lv_iload_n hx hb dM_playAll_48 rfl (lv_at hl 0 rfl) ?_
        refine lv_aload_n hx hb dM_playAll_49 rfl (lv_at hl 1 rfl) ?_
        refine fm_get (ci := 4) (v := .int (nI (cn 1))) (C := RM) (T := TM) (N := 30) hx hb hT inM hown hK hW hM.1 rfl 2 (by decide) (hT _ fl_M_71) (fun _ h9 => h9) rfl dM_playAll_50 ?_
        refine lv_icmp_ge (tgt := 160) hx hb dM_playAll_53 (by decide) (fun c_11 => ?_) (fun c_11 => ?_)
        · exact absurd c_11 (nI_ge hik (by omega))
        · rcases (show κ ≤ 6 ∨ κ = 7 ∨ κ = 8 ∨ κ = 9 by omega) with hk | rfl | rfl | rfl
          · obtain ⟨n7, n8, n9⟩ := fs_nI9 κ hk
            refine lv_aload_n hx hb dM_playAll_56 rfl (lv_at hl 1 rfl) ?_
            refine fm_get (ci := 4) (v := .ref (b + 1)) (C := RM) (T := TM) (N := 30) hx hb hT inM hown hK hW hM.1 rfl 6 (by decide) (hT _ fl_M_7) (fun _ h9 => h9) rfl dM_playAll_57 ?_
            refine lv_iload_n hx hb dM_playAll_60 rfl (lv_at hl 0 rfl) ?_
            refine fn_iald (n := 300) (f := ia2 1) hx hb hK hW 0 (hM.2.1 1 rfl) rfl (show κ0 < 300 by omega) (by decide) dM_playAll_61 ?_
            refine lv_bipush (v := 7) hx hb dM_playAll_62 (by decide) ?_
            refine lv_icmp_eq (tgt := 78) hx hb dM_playAll_64 (by decide) (fun c_12 => ?_) (fun c_12 => ?_)
            · exact absurd (q1.symm.trans c_12) n7
            · refine lv_aload_n hx hb dM_playAll_67 rfl (lv_at hl 1 rfl) ?_
              refine fm_get (ci := 4) (v := .ref (b + 1)) (C := RM) (T := TM) (N := 30) hx hb hT inM hown hK hW hM.1 rfl 6 (by decide) (hT _ fl_M_7) (fun _ h9 => h9) rfl dM_playAll_68 ?_
              refine lv_iload_n hx hb dM_playAll_71 rfl (lv_at hl 0 rfl) ?_
              refine fn_iald (n := 300) (f := ia2 1) hx hb hK hW 0 (hM.2.1 1 rfl) rfl (show κ0 < 300 by omega) (by decide) dM_playAll_72 ?_
              refine lv_bipush (v := 8) hx hb dM_playAll_73 (by decide) ?_
              refine lv_icmp_ne (tgt := 94) hx hb dM_playAll_75 (by decide) (fun c_13 => ?_) (fun c_13 => ?_)
              · refine lv_aload_n hx hb dM_playAll_94 rfl (lv_at hl 1 rfl) ?_
                refine fm_get (ci := 4) (v := .ref (b + 1)) (C := RM) (T := TM) (N := 30) hx hb hT inM hown hK hW hM.1 rfl 6 (by decide) (hT _ fl_M_7) (fun _ h9 => h9) rfl dM_playAll_95 ?_
                refine lv_iload_n hx hb dM_playAll_98 rfl (lv_at hl 0 rfl) ?_
                refine fn_iald (n := 300) (f := ia2 1) hx hb hK hW 0 (hM.2.1 1 rfl) rfl (show κ0 < 300 by omega) (by decide) dM_playAll_99 ?_
                refine lv_bipush (v := 8) hx hb dM_playAll_100 (by decide) ?_
                refine lv_icmp_ne (tgt := 121) hx hb dM_playAll_102 (by decide) (fun c_14 => ?_) (fun c_14 => ?_)
                · refine lv_iconst (v := 0) hx hb dM_playAll_121 (by decide) ?_
                  refine lv_istore_n (lv' := [(2, .int 0), (1, .int (nI κ0)), (0, .ref b)]) hx hb dM_playAll_122 rfl hl (by decide) rfl (fun ls hl => ?_)
                  refine fm_loop (head := 123) (maxL := 3) (cn 0) (fun ρ (ur : (Nat → Nat → Int32) × (Nat → Nat → Int64)) M1 => fs_MW ct M1 b cn si2 sl2 ur.1 ur.2 ∧ fs_Mf b M M1 ∧ fs_ro ia2 la2 ur.1 ur.2 ∧ fs_Up ρ (fs_rw ia2 la2) (fun j => fs_gd (fs_rw ia2 la2 j) (ia 1 κ0) (ia 2 κ0) (ia 3 κ0)) (fs_rw ur.1 ur.2)) (fun ρ (ur : (Nat → Nat → Int32) × (Nat → Nat → Int64)) => [(2, .int (nI ρ)), (1, .int (nI κ0)), (0, .ref b)]) ?_ ?_ (cn 0) 0 (Nat.zero_add _) (ia2, la2) M_10 _ _ ls ⟨hM, hMf, fs_ro_r, fs_Up_0 _ _⟩ hW (lv_sub hl [0, 1, 2] rfl)
                  · intro ρ ur M_15 H locs ls hir hIr hW hl backr
                    have hl : lv_has ls 3 [(2, .int (nI ρ)), (1, .int (nI κ0)), (0, .ref b)] := hl
                    obtain ⟨ia3, la3⟩ := ur
                    obtain ⟨hM, hMf, hro3, hU3⟩ := hIr
                    have hM : fs_MW ct M_15 b cn si2 sl2 ia3 la3 := hM
                    have hro3 : fs_ro ia2 la2 ia3 la3 := hro3
                    have hU3 : fs_Up ρ (fs_rw ia2 la2) (fun j => fs_gd (fs_rw ia2 la2 j) (ia 1 κ0) (ia 2 κ0) (ia 3 κ0)) (fs_rw ia3 la3) := hU3
                    refine lv_iload_n hx hb dM_playAll_123 rfl (lv_at hl 0 rfl) ?_
                    refine lv_aload_n hx hb dM_playAll_124 rfl (lv_at hl 2 rfl) ?_
                    refine fm_get (ci := 4) (v := .int (nI (cn 0))) (C := RM) (T := TM) (N := 30) hx hb hT inM hown hK hW hM.1 rfl 1 (by decide) (hT _ fl_M_68) (fun _ h9 => h9) rfl dM_playAll_125 ?_
                    have hui : fs_rw ia3 la3 ρ = fs_rw ia2 la2 ρ := hU3.2 ρ (Nat.le_refl ρ)
                    have f1 : ia3 1 κ0 = ia 1 κ0 := by rw [hro3.1 1 (by decide) (by decide) (by decide), hpo.1 1 (by decide)]
                    have f2 : ia3 2 κ0 = ia 2 κ0 := by rw [hro3.1 2 (by decide) (by decide) (by decide), hpo.1 2 (by decide)]
                    have f3 : ia3 3 κ0 = ia 3 κ0 := by rw [hro3.1 3 (by decide) (by decide) (by decide), hpo.1 3 (by decide)]
                    refine lv_icmp_ge (tgt := 154) hx hb dM_playAll_128 (by decide) (fun c_16 => ?_) (fun c_16 => ?_)
                    · exact absurd c_16 (nI_ge hir (by omega))
                    · refine lv_aload_n hx hb dM_playAll_131 rfl (lv_at hl 2 rfl) ?_
                      refine fm_get (ci := 4) (v := .ref (b + 1)) (C := RM) (T := TM) (N := 30) hx hb hT inM hown hK hW hM.1 rfl 6 (by decide) (hT _ fl_M_7) (fun _ h9 => h9) rfl dM_playAll_132 ?_
                      refine lv_iload_n hx hb dM_playAll_135 rfl (lv_at hl 1 rfl) ?_
                      refine fn_iald (n := 300) (f := ia3 1) hx hb hK hW 0 (hM.2.1 1 rfl) rfl (show κ0 < 300 by omega) (by decide) dM_playAll_136 ?_
                      refine lv_bipush (v := 7) hx hb dM_playAll_137 (by decide) ?_
                      refine lv_icmp_ge (tgt := 154) hx hb dM_playAll_139 (by decide) (fun c_17 => ?_) (fun c_17 => ?_)
                      · exact absurd (show (7 : Int32) ≤ nI κ by rw [← w1, ← f1]; exact c_17) (nI_ge (b := 7) (by omega) (by decide))
                      · refine lv_aload_n hx hb dM_playAll_142 rfl (lv_at hl 2 rfl) ?_
                        refine lv_iload_n hx hb dM_playAll_143 rfl (lv_at hl 0 rfl) ?_
                        refine lv_iload_n hx hb dM_playAll_144 rfl (lv_at hl 1 rfl) ?_
                        refine fm_callv (va_runV (As := [.int (nI ρ), .int (nI κ0)]) (rest := []) ⟨hx, hb, hml, hown, hts⟩ (c_M_gateRow l D ct A M_15 b cn si2 sl2 ia3 la3 ρ κ0 hM ⟨hB0, hB1, hB2, hB3, hB4, hB5⟩ hir (by omega)) ⟨callB_of 2 hts (fs_gin co_M_gateRow) rfl rfl rfl (hT _ ini_M) (hT _ ml_M_142) (by decide +kernel) ⟨Nat.le_of_ble_eq_true rfl, Nat.le_of_ble_eq_true rfl⟩, hT _ im_M_gateRow, hT _ se_M_gateRow⟩ (fn_preV fs_isnw hK hN hW hM.1 rfl) rfl rfl hl.1 rfl (lv_room (Nat.le_of_ble_eq_true rfl)) dM_playAll_145 ⟨Nat.le_of_ble_eq_true rfl, Nat.le_of_ble_eq_true rfl⟩) hW (fun M_19 H locs hp_20 hW => ?_)
                        obtain ⟨ia_21, la_22, hM, hMf2, hR⟩ := hp_20
                        have hMf := fs_Mf_t hMf hMf2
                        refine lv_iinc (v := nI (ρ + 1)) (lv' := [(2, .int (nI (ρ + 1))), (1, .int (nI κ0)), (0, .ref b)]) hx hb dM_playAll_148 hl (k := 0) rfl (nI_1 ρ) (by decide) rfl (fun ls hl => ?_)
                        refine lv_goto (tgt := 123) hx hb dM_playAll_151 (by decide) ?_
                        exact backr (_, _) _ _ _ ls ⟨hM, hMf, fs_ro_t hro3 hR.1, fs_Up_r hU3 hR.2 (by rw [hui, f1, f2, f3])⟩ hW (lv_sub hl [0, 1, 2] rfl)
                  · intro ur M_23 H locs ls hIr hW hl
                    have hl : lv_has ls 3 [(2, .int (nI (cn 0))), (1, .int (nI κ0)), (0, .ref b)] := hl
                    obtain ⟨ia3, la3⟩ := ur
                    obtain ⟨hM, hMf, hro3, hU3⟩ := hIr
                    have hM : fs_MW ct M_23 b cn si2 sl2 ia3 la3 := hM
                    have hro3 : fs_ro ia2 la2 ia3 la3 := hro3
                    have hU3 : fs_Up (cn 0) (fs_rw ia2 la2) (fun j => fs_gd (fs_rw ia2 la2 j) (ia 1 κ0) (ia 2 κ0) (ia 3 κ0)) (fs_rw ia3 la3) := hU3
                    refine lv_iload_n hx hb dM_playAll_123 rfl (lv_at hl 0 rfl) ?_
                    refine lv_aload_n hx hb dM_playAll_124 rfl (lv_at hl 2 rfl) ?_
                    refine fm_get (ci := 4) (v := .int (nI (cn 0))) (C := RM) (T := TM) (N := 30) hx hb hT inM hown hK hW hM.1 rfl 1 (by decide) (hT _ fl_M_68) (fun _ h9 => h9) rfl dM_playAll_125 ?_
                    refine lv_icmp_ge (tgt := 154) hx hb dM_playAll_128 (by decide) (fun c_24 => ?_) (fun c_24 => ?_)
                    · refine lv_iinc (v := nI (κ0 + 1)) (lv' := [(1, .int (nI (κ0 + 1))), (2, .int (nI (cn 0))), (0, .ref b)]) hx hb dM_playAll_154 hl (k := 1) rfl (nI_1 κ0) (by decide) rfl (fun ls hl => ?_)
                      refine lv_goto (tgt := 48) hx hb dM_playAll_157 (by decide) ?_
                      exact backk (_, _, _, _) _ _ _ ls ⟨hM, hMf, fs_po_t hpo (fs_po_ro hro3), ⟨_, _, _, hP, Or.inl ⟨κ, α, hk, w1, w2, hα, fun i hi => hU3.1 i hi, hro3.1 12 (by decide) (by decide) (by decide), hro3.2 13 (by decide)⟩⟩⟩ hW (lv_sub hl [0, 2] rfl)
                    · exact absurd (nI_le (Nat.le_refl (cn 0)) (by omega)) c_24
                · exact absurd (q1.symm.trans c_14) n8
              · exact absurd (q1.symm.trans c_13) n8
          · obtain ⟨j, hj, w4⟩ := w3 (by decide)
            have q3 : ia2 3 κ0 = nI j := by rw [hpo.1 3 (by decide)]; exact w4
            refine lv_aload_n hx hb dM_playAll_56 rfl (lv_at hl 1 rfl) ?_
            refine fm_get (ci := 4) (v := .ref (b + 1)) (C := RM) (T := TM) (N := 30) hx hb hT inM hown hK hW hM.1 rfl 6 (by decide) (hT _ fl_M_7) (fun _ h9 => h9) rfl dM_playAll_57 ?_
            refine lv_iload_n hx hb dM_playAll_60 rfl (lv_at hl 0 rfl) ?_
            refine fn_iald (n := 300) (f := ia2 1) hx hb hK hW 0 (hM.2.1 1 rfl) rfl (show κ0 < 300 by omega) (by decide) dM_playAll_61 ?_
            refine lv_bipush (v := 7) hx hb dM_playAll_62 (by decide) ?_
            refine lv_icmp_eq (tgt := 78) hx hb dM_playAll_64 (by decide) (fun c_25 => ?_) (fun c_25 => ?_)
            · refine lv_aload_n hx hb dM_playAll_78 rfl (lv_at hl 1 rfl) ?_
              refine lv_aload_n hx hb dM_playAll_79 rfl (lv_at hl 1 rfl) ?_
              refine fm_get (ci := 4) (v := .ref (b + 3)) (C := RM) (T := TM) (N := 30) hx hb hT inM hown hK hW hM.1 rfl 8 (by decide) (hT _ fl_M_16) (fun _ h9 => h9) rfl dM_playAll_80 ?_
              refine lv_iload_n hx hb dM_playAll_83 rfl (lv_at hl 0 rfl) ?_
              refine fn_iald (n := 300) (f := ia2 3) hx hb hK hW 0 (hM.2.1 3 rfl) rfl (show κ0 < 300 by omega) (by decide) dM_playAll_84 ?_
              refine lv_aload_n hx hb dM_playAll_85 rfl (lv_at hl 1 rfl) ?_
              refine fm_get (ci := 4) (v := .ref (b + 2)) (C := RM) (T := TM) (N := 30) hx hb hT inM hown hK hW hM.1 rfl 7 (by decide) (hT _ fl_M_13) (fun _ h9 => h9) rfl dM_playAll_86 ?_
              refine lv_iload_n hx hb dM_playAll_89 rfl (lv_at hl 0 rfl) ?_
              refine fn_iald (n := 300) (f := ia2 2) hx hb hK hW 0 (hM.2.1 2 rfl) rfl (show κ0 < 300 by omega) (by decide) dM_playAll_90 ?_
              rw [show (ia2 2) κ0 = nI α from q2, show (ia2 3) κ0 = nI j from q3]
              refine fm_callv (va_runV (As := [.int (nI j), .int (nI α)]) (rest := []) ⟨hx, hb, hml, hown, hts⟩ (c_M_lookAt l D ct A M_10 b cn si2 sl2 ia2 la2 j α hM ⟨hB0, hB1, hB2, hB3, hB4, hB5⟩ hj hα32) ⟨callB_of 2 hts (fs_gin co_M_lookAt) rfl rfl rfl (hT _ ini_M) (hT _ ml_M_136) (by decide +kernel) ⟨Nat.le_of_ble_eq_true rfl, Nat.le_of_ble_eq_true rfl⟩, hT _ im_M_lookAt, hT _ se_M_lookAt⟩ (fn_preV fs_isnw hK hN hW hM.1 rfl) rfl rfl hl.1 rfl (lv_room (Nat.le_of_ble_eq_true rfl)) dM_playAll_91 ⟨Nat.le_of_ble_eq_true rfl, Nat.le_of_ble_eq_true rfl⟩) hW (fun M_27 H locs hp_28 hW => ?_)
              obtain ⟨si3, sl3, ia3, la3, hM, hMf3, hpo3, cc0, hh0, hL, h12, h13⟩ := hp_28
              have hMf := fs_Mf_t hMf hMf3
              have g1 : ia3 1 κ0 = ia2 1 κ0 := by rw [hpo3.1 1 (by decide)]
              have g2 : ia3 2 κ0 = ia2 2 κ0 := by rw [hpo3.1 2 (by decide)]
              have g3 : ia3 3 κ0 = ia2 3 κ0 := by rw [hpo3.1 3 (by decide)]
              refine lv_aload_n hx hb dM_playAll_94 rfl (lv_at hl 1 rfl) ?_
              refine fm_get (ci := 4) (v := .ref (b + 1)) (C := RM) (T := TM) (N := 30) hx hb hT inM hown hK hW hM.1 rfl 6 (by decide) (hT _ fl_M_7) (fun _ h9 => h9) rfl dM_playAll_95 ?_
              refine lv_iload_n hx hb dM_playAll_98 rfl (lv_at hl 0 rfl) ?_
              refine fn_iald (n := 300) (f := ia3 1) hx hb hK hW 0 (hM.2.1 1 rfl) rfl (show κ0 < 300 by omega) (by decide) dM_playAll_99 ?_
              refine lv_bipush (v := 8) hx hb dM_playAll_100 (by decide) ?_
              refine lv_icmp_ne (tgt := 121) hx hb dM_playAll_102 (by decide) (fun c_29 => ?_) (fun c_29 => ?_)
              · refine lv_iconst (v := 0) hx hb dM_playAll_121 (by decide) ?_
                refine lv_istore_n (lv' := [(2, .int 0), (1, .int (nI κ0)), (0, .ref b)]) hx hb dM_playAll_122 rfl hl (by decide) rfl (fun ls hl => ?_)
                refine lv_iload_n hx hb dM_playAll_123 rfl (lv_at hl 0 rfl) ?_
                refine lv_aload_n hx hb dM_playAll_124 rfl (lv_at hl 2 rfl) ?_
                refine fm_get (ci := 4) (v := .int (nI (cn 0))) (C := RM) (T := TM) (N := 30) hx hb hT inM hown hK hW hM.1 rfl 1 (by decide) (hT _ fl_M_68) (fun _ h9 => h9) rfl dM_playAll_125 ?_
                refine lv_icmp_ge (tgt := 154) hx hb dM_playAll_128 (by decide) (fun c_30 => ?_) (fun c_30 => ?_)
                · exact absurd c_30 (nI_ge (a := 0) (by omega) (by omega))
                · refine lv_aload_n hx hb dM_playAll_131 rfl (lv_at hl 2 rfl) ?_
                  refine fm_get (ci := 4) (v := .ref (b + 1)) (C := RM) (T := TM) (N := 30) hx hb hT inM hown hK hW hM.1 rfl 6 (by decide) (hT _ fl_M_7) (fun _ h9 => h9) rfl dM_playAll_132 ?_
                  refine lv_iload_n hx hb dM_playAll_135 rfl (lv_at hl 1 rfl) ?_
                  refine fn_iald (n := 300) (f := ia3 1) hx hb hK hW 0 (hM.2.1 1 rfl) rfl (show κ0 < 300 by omega) (by decide) dM_playAll_136 ?_
                  refine lv_bipush (v := 7) hx hb dM_playAll_137 (by decide) ?_
                  refine lv_icmp_ge (tgt := 154) hx hb dM_playAll_139 (by decide) (fun c_31 => ?_) (fun c_31 => ?_)
                  · refine lv_iinc (v := nI (κ0 + 1)) (lv' := [(1, .int (nI (κ0 + 1))), (2, .int 0), (0, .ref b)]) hx hb dM_playAll_154 hl (k := 1) rfl (nI_1 κ0) (by decide) rfl (fun ls hl => ?_)
                    refine lv_goto (tgt := 48) hx hb dM_playAll_157 (by decide) ?_
                    exact backk (_, _, _, _) _ _ _ ls ⟨hM, hMf, fs_po_t hpo hpo3, ⟨_, _, _, hP, Or.inr (Or.inl ⟨α, j, Or.inl w1, w2, hα, hj, w4, _, _, _, by rw [w4]; exact hL, h12, h13, Or.inl ⟨w1, fun _ _ => rfl⟩⟩)⟩⟩ hW (lv_sub hl [0, 2] rfl)
                  · exact absurd (show (7 : Int32) ≤ _ by rw [g1, q1]; decide) c_31
              · exact absurd (q1.symm.trans (g1.symm.trans c_29)) (by decide)
            · exact absurd q1 c_25
          · obtain ⟨j, hj, w4⟩ := w3 (by decide)
            have q3 : ia2 3 κ0 = nI j := by rw [hpo.1 3 (by decide)]; exact w4
            refine lv_aload_n hx hb dM_playAll_56 rfl (lv_at hl 1 rfl) ?_
            refine fm_get (ci := 4) (v := .ref (b + 1)) (C := RM) (T := TM) (N := 30) hx hb hT inM hown hK hW hM.1 rfl 6 (by decide) (hT _ fl_M_7) (fun _ h9 => h9) rfl dM_playAll_57 ?_
            refine lv_iload_n hx hb dM_playAll_60 rfl (lv_at hl 0 rfl) ?_
            refine fn_iald (n := 300) (f := ia2 1) hx hb hK hW 0 (hM.2.1 1 rfl) rfl (show κ0 < 300 by omega) (by decide) dM_playAll_61 ?_
            refine lv_bipush (v := 7) hx hb dM_playAll_62 (by decide) ?_
            refine lv_icmp_eq (tgt := 78) hx hb dM_playAll_64 (by decide) (fun c_32 => ?_) (fun c_32 => ?_)
            · exact absurd (q1.symm.trans c_32) (by decide)
            · refine lv_aload_n hx hb dM_playAll_67 rfl (lv_at hl 1 rfl) ?_
              refine fm_get (ci := 4) (v := .ref (b + 1)) (C := RM) (T := TM) (N := 30) hx hb hT inM hown hK hW hM.1 rfl 6 (by decide) (hT _ fl_M_7) (fun _ h9 => h9) rfl dM_playAll_68 ?_
              refine lv_iload_n hx hb dM_playAll_71 rfl (lv_at hl 0 rfl) ?_
              refine fn_iald (n := 300) (f := ia2 1) hx hb hK hW 0 (hM.2.1 1 rfl) rfl (show κ0 < 300 by omega) (by decide) dM_playAll_72 ?_
              refine lv_bipush (v := 8) hx hb dM_playAll_73 (by decide) ?_
              refine lv_icmp_ne (tgt := 94) hx hb dM_playAll_75 (by decide) (fun c_33 => ?_) (fun c_33 => ?_)
              · exact absurd q1 c_33
              · refine lv_aload_n hx hb dM_playAll_78 rfl (lv_at hl 1 rfl) ?_
                refine lv_aload_n hx hb dM_playAll_79 rfl (lv_at hl 1 rfl) ?_
                refine fm_get (ci := 4) (v := .ref (b + 3)) (C := RM) (T := TM) (N := 30) hx hb hT inM hown hK hW hM.1 rfl 8 (by decide) (hT _ fl_M_16) (fun _ h9 => h9) rfl dM_playAll_80 ?_
                refine lv_iload_n hx hb dM_playAll_83 rfl (lv_at hl 0 rfl) ?_
                refine fn_iald (n := 300) (f := ia2 3) hx hb hK hW 0 (hM.2.1 3 rfl) rfl (show κ0 < 300 by omega) (by decide) dM_playAll_84 ?_
                refine lv_aload_n hx hb dM_playAll_85 rfl (lv_at hl 1 rfl) ?_
                refine fm_get (ci := 4) (v := .ref (b + 2)) (C := RM) (T := TM) (N := 30) hx hb hT inM hown hK hW hM.1 rfl 7 (by decide) (hT _ fl_M_13) (fun _ h9 => h9) rfl dM_playAll_86 ?_
                refine lv_iload_n hx hb dM_playAll_89 rfl (lv_at hl 0 rfl) ?_
                refine fn_iald (n := 300) (f := ia2 2) hx hb hK hW 0 (hM.2.1 2 rfl) rfl (show κ0 < 300 by omega) (by decide) dM_playAll_90 ?_
                rw [show (ia2 2) κ0 = nI α from q2, show (ia2 3) κ0 = nI j from q3]
                refine fm_callv (va_runV (As := [.int (nI j), .int (nI α)]) (rest := []) ⟨hx, hb, hml, hown, hts⟩ (c_M_lookAt l D ct A M_10 b cn si2 sl2 ia2 la2 j α hM ⟨hB0, hB1, hB2, hB3, hB4, hB5⟩ hj hα32) ⟨callB_of 2 hts (fs_gin co_M_lookAt) rfl rfl rfl (hT _ ini_M) (hT _ ml_M_136) (by decide +kernel) ⟨Nat.le_of_ble_eq_true rfl, Nat.le_of_ble_eq_true rfl⟩, hT _ im_M_lookAt, hT _ se_M_lookAt⟩ (fn_preV fs_isnw hK hN hW hM.1 rfl) rfl rfl hl.1 rfl (lv_room (Nat.le_of_ble_eq_true rfl)) dM_playAll_91 ⟨Nat.le_of_ble_eq_true rfl, Nat.le_of_ble_eq_true rfl⟩) hW (fun M_35 H locs hp_36 hW => ?_)
                obtain ⟨si3, sl3, ia3, la3, hM, hMf3, hpo3, cc0, hh0, hL, h12, h13⟩ := hp_36
                have hMf := fs_Mf_t hMf hMf3
                have g1 : ia3 1 κ0 = ia2 1 κ0 := by rw [hpo3.1 1 (by decide)]
                have g2 : ia3 2 κ0 = ia2 2 κ0 := by rw [hpo3.1 2 (by decide)]
                have g3 : ia3 3 κ0 = ia2 3 κ0 := by rw [hpo3.1 3 (by decide)]
                refine lv_aload_n hx hb dM_playAll_94 rfl (lv_at hl 1 rfl) ?_
                refine fm_get (ci := 4) (v := .ref (b + 1)) (C := RM) (T := TM) (N := 30) hx hb hT inM hown hK hW hM.1 rfl 6 (by decide) (hT _ fl_M_7) (fun _ h9 => h9) rfl dM_playAll_95 ?_
                refine lv_iload_n hx hb dM_playAll_98 rfl (lv_at hl 0 rfl) ?_
                refine fn_iald (n := 300) (f := ia3 1) hx hb hK hW 0 (hM.2.1 1 rfl) rfl (show κ0 < 300 by omega) (by decide) dM_playAll_99 ?_
                refine lv_bipush (v := 8) hx hb dM_playAll_100 (by decide) ?_
                refine lv_icmp_ne (tgt := 121) hx hb dM_playAll_102 (by decide) (fun c_37 => ?_) (fun c_37 => ?_)
                · exact absurd (g1.trans q1) c_37
                · refine lv_aload_n hx hb dM_playAll_105 rfl (lv_at hl 1 rfl) ?_
                  refine lv_aload_n hx hb dM_playAll_106 rfl (lv_at hl 1 rfl) ?_
                  refine fm_get (ci := 4) (v := .ref (b + 3)) (C := RM) (T := TM) (N := 30) hx hb hT inM hown hK hW hM.1 rfl 8 (by decide) (hT _ fl_M_16) (fun _ h9 => h9) rfl dM_playAll_107 ?_
                  refine lv_iload_n hx hb dM_playAll_110 rfl (lv_at hl 0 rfl) ?_
                  refine fn_iald (n := 300) (f := ia3 3) hx hb hK hW 0 (hM.2.1 3 rfl) rfl (show κ0 < 300 by omega) (by decide) dM_playAll_111 ?_
                  refine lv_aload_n hx hb dM_playAll_112 rfl (lv_at hl 1 rfl) ?_
                  refine fm_get (ci := 4) (v := .ref (b + 2)) (C := RM) (T := TM) (N := 30) hx hb hT inM hown hK hW hM.1 rfl 7 (by decide) (hT _ fl_M_13) (fun _ h9 => h9) rfl dM_playAll_113 ?_
                  refine lv_iload_n hx hb dM_playAll_116 rfl (lv_at hl 0 rfl) ?_
                  refine fn_iald (n := 300) (f := ia3 2) hx hb hK hW 0 (hM.2.1 2 rfl) rfl (show κ0 < 300 by omega) (by decide) dM_playAll_117 ?_
                  rw [show (ia3 2) κ0 = nI α from g2.trans q2, show (ia3 3) κ0 = nI j from g3.trans q3]
                  refine fm_callv (va_runV (As := [.int (nI j), .int (nI α)]) (rest := []) ⟨hx, hb, hml, hown, hts⟩ (c_M_clearWire l D ct A M_35 b cn si3 sl3 ia3 la3 j α hM ⟨hB0, hB1, hB2, hB3, hB4, hB5⟩ hj hα32) ⟨callB_of 2 hts (fs_gin co_M_clearWire) rfl rfl rfl (hT _ ini_M) (hT _ ml_M_139) (by decide +kernel) ⟨Nat.le_of_ble_eq_true rfl, Nat.le_of_ble_eq_true rfl⟩, hT _ im_M_clearWire, hT _ se_M_clearWire⟩ (fn_preV fs_isnw hK hN hW hM.1 rfl) rfl rfl hl.1 rfl (lv_room (Nat.le_of_ble_eq_true rfl)) dM_playAll_118 ⟨Nat.le_of_ble_eq_true rfl, Nat.le_of_ble_eq_true rfl⟩) hW (fun M_39 H locs hp_40 hW => ?_)
                  obtain ⟨ia_41, la_42, hM, hMf2, hro4, hrow4⟩ := hp_40
                  have hMf := fs_Mf_t hMf hMf2
                  have k1 : ia_41 1 κ0 = ia3 1 κ0 := by rw [hro4.1 1 (by decide) (by decide) (by decide)]
                  rw [h12, h13, pk_us, pk_uLs] at hrow4
                  refine lv_iconst (v := 0) hx hb dM_playAll_121 (by decide) ?_
                  refine lv_istore_n (lv' := [(2, .int 0), (1, .int (nI κ0)), (0, .ref b)]) hx hb dM_playAll_122 rfl hl (by decide) rfl (fun ls hl => ?_)
                  refine lv_iload_n hx hb dM_playAll_123 rfl (lv_at hl 0 rfl) ?_
                  refine lv_aload_n hx hb dM_playAll_124 rfl (lv_at hl 2 rfl) ?_
                  refine fm_get (ci := 4) (v := .int (nI (cn 0))) (C := RM) (T := TM) (N := 30) hx hb hT inM hown hK hW hM.1 rfl 1 (by decide) (hT _ fl_M_68) (fun _ h9 => h9) rfl dM_playAll_125 ?_
                  refine lv_icmp_ge (tgt := 154) hx hb dM_playAll_128 (by decide) (fun c_43 => ?_) (fun c_43 => ?_)
                  · exact absurd c_43 (nI_ge (a := 0) (by omega) (by omega))
                  · refine lv_aload_n hx hb dM_playAll_131 rfl (lv_at hl 2 rfl) ?_
                    refine fm_get (ci := 4) (v := .ref (b + 1)) (C := RM) (T := TM) (N := 30) hx hb hT inM hown hK hW hM.1 rfl 6 (by decide) (hT _ fl_M_7) (fun _ h9 => h9) rfl dM_playAll_132 ?_
                    refine lv_iload_n hx hb dM_playAll_135 rfl (lv_at hl 1 rfl) ?_
                    refine fn_iald (n := 300) (f := ia_41 1) hx hb hK hW 0 (hM.2.1 1 rfl) rfl (show κ0 < 300 by omega) (by decide) dM_playAll_136 ?_
                    refine lv_bipush (v := 7) hx hb dM_playAll_137 (by decide) ?_
                    refine lv_icmp_ge (tgt := 154) hx hb dM_playAll_139 (by decide) (fun c_44 => ?_) (fun c_44 => ?_)
                    · refine lv_iinc (v := nI (κ0 + 1)) (lv' := [(1, .int (nI (κ0 + 1))), (2, .int 0), (0, .ref b)]) hx hb dM_playAll_154 hl (k := 1) rfl (nI_1 κ0) (by decide) rfl (fun ls hl => ?_)
                      refine lv_goto (tgt := 48) hx hb dM_playAll_157 (by decide) ?_
                      exact backk (_, _, _, _) _ _ _ ls ⟨hM, hMf, fs_po_t (fs_po_t hpo hpo3) (fs_po_ro hro4), ⟨_, _, _, hP, Or.inr (Or.inl ⟨α, j, Or.inr w1, w2, hα, hj, w4, _, _, _, by rw [w4]; exact hL, (hro4.1 12 (by decide) (by decide) (by decide)).trans h12, (hro4.2 13 (by decide)).trans h13, Or.inr ⟨w1, hrow4⟩⟩)⟩⟩ hW (lv_sub hl [0, 2] rfl)
                    · exact absurd (show (7 : Int32) ≤ _ by rw [k1, g1, q1]; decide) c_44
          · refine lv_aload_n hx hb dM_playAll_56 rfl (lv_at hl 1 rfl) ?_
            refine fm_get (ci := 4) (v := .ref (b + 1)) (C := RM) (T := TM) (N := 30) hx hb hT inM hown hK hW hM.1 rfl 6 (by decide) (hT _ fl_M_7) (fun _ h9 => h9) rfl dM_playAll_57 ?_
            refine lv_iload_n hx hb dM_playAll_60 rfl (lv_at hl 0 rfl) ?_
            refine fn_iald (n := 300) (f := ia2 1) hx hb hK hW 0 (hM.2.1 1 rfl) rfl (show κ0 < 300 by omega) (by decide) dM_playAll_61 ?_
            refine lv_bipush (v := 7) hx hb dM_playAll_62 (by decide) ?_
            refine lv_icmp_eq (tgt := 78) hx hb dM_playAll_64 (by decide) (fun c_45 => ?_) (fun c_45 => ?_)
            · exact absurd (q1.symm.trans c_45) (by decide)
            · refine lv_aload_n hx hb dM_playAll_67 rfl (lv_at hl 1 rfl) ?_
              refine fm_get (ci := 4) (v := .ref (b + 1)) (C := RM) (T := TM) (N := 30) hx hb hT inM hown hK hW hM.1 rfl 6 (by decide) (hT _ fl_M_7) (fun _ h9 => h9) rfl dM_playAll_68 ?_
              refine lv_iload_n hx hb dM_playAll_71 rfl (lv_at hl 0 rfl) ?_
              refine fn_iald (n := 300) (f := ia2 1) hx hb hK hW 0 (hM.2.1 1 rfl) rfl (show κ0 < 300 by omega) (by decide) dM_playAll_72 ?_
              refine lv_bipush (v := 8) hx hb dM_playAll_73 (by decide) ?_
              refine lv_icmp_ne (tgt := 94) hx hb dM_playAll_75 (by decide) (fun c_46 => ?_) (fun c_46 => ?_)
              · refine lv_aload_n hx hb dM_playAll_94 rfl (lv_at hl 1 rfl) ?_
                refine fm_get (ci := 4) (v := .ref (b + 1)) (C := RM) (T := TM) (N := 30) hx hb hT inM hown hK hW hM.1 rfl 6 (by decide) (hT _ fl_M_7) (fun _ h9 => h9) rfl dM_playAll_95 ?_
                refine lv_iload_n hx hb dM_playAll_98 rfl (lv_at hl 0 rfl) ?_
                refine fn_iald (n := 300) (f := ia2 1) hx hb hK hW 0 (hM.2.1 1 rfl) rfl (show κ0 < 300 by omega) (by decide) dM_playAll_99 ?_
                refine lv_bipush (v := 8) hx hb dM_playAll_100 (by decide) ?_
                refine lv_icmp_ne (tgt := 121) hx hb dM_playAll_102 (by decide) (fun c_47 => ?_) (fun c_47 => ?_)
                · refine lv_iconst (v := 0) hx hb dM_playAll_121 (by decide) ?_
                  refine lv_istore_n (lv' := [(2, .int 0), (1, .int (nI κ0)), (0, .ref b)]) hx hb dM_playAll_122 rfl hl (by decide) rfl (fun ls hl => ?_)
                  refine lv_iload_n hx hb dM_playAll_123 rfl (lv_at hl 0 rfl) ?_
                  refine lv_aload_n hx hb dM_playAll_124 rfl (lv_at hl 2 rfl) ?_
                  refine fm_get (ci := 4) (v := .int (nI (cn 0))) (C := RM) (T := TM) (N := 30) hx hb hT inM hown hK hW hM.1 rfl 1 (by decide) (hT _ fl_M_68) (fun _ h9 => h9) rfl dM_playAll_125 ?_
                  refine lv_icmp_ge (tgt := 154) hx hb dM_playAll_128 (by decide) (fun c_48 => ?_) (fun c_48 => ?_)
                  · exact absurd c_48 (nI_ge (a := 0) (by omega) (by omega))
                  · refine lv_aload_n hx hb dM_playAll_131 rfl (lv_at hl 2 rfl) ?_
                    refine fm_get (ci := 4) (v := .ref (b + 1)) (C := RM) (T := TM) (N := 30) hx hb hT inM hown hK hW hM.1 rfl 6 (by decide) (hT _ fl_M_7) (fun _ h9 => h9) rfl dM_playAll_132 ?_
                    refine lv_iload_n hx hb dM_playAll_135 rfl (lv_at hl 1 rfl) ?_
                    refine fn_iald (n := 300) (f := ia2 1) hx hb hK hW 0 (hM.2.1 1 rfl) rfl (show κ0 < 300 by omega) (by decide) dM_playAll_136 ?_
                    refine lv_bipush (v := 7) hx hb dM_playAll_137 (by decide) ?_
                    refine lv_icmp_ge (tgt := 154) hx hb dM_playAll_139 (by decide) (fun c_49 => ?_) (fun c_49 => ?_)
                    · refine lv_iinc (v := nI (κ0 + 1)) (lv' := [(1, .int (nI (κ0 + 1))), (2, .int 0), (0, .ref b)]) hx hb dM_playAll_154 hl (k := 1) rfl (nI_1 κ0) (by decide) rfl (fun ls hl => ?_)
                      refine lv_goto (tgt := 48) hx hb dM_playAll_157 (by decide) ?_
                      exact backk (_, _, _, _) _ _ _ ls ⟨hM, hMf, hpo, ⟨_, _, _, hP, Or.inr (Or.inr ⟨w1, fun _ _ => rfl, rfl, rfl⟩)⟩⟩ hW (lv_sub hl [0, 2] rfl)
                    · exact absurd (show (7 : Int32) ≤ _ by rw [q1]; decide) c_49
                · exact absurd (q1.symm.trans c_47) (by decide)
              · exact absurd (q1.symm.trans c_46) (by decide)
      · intro uk M_50 H locs ls hIk hW hl
        have hl : lv_has ls 3 [(1, .int (nI (cn 1))), (0, .ref b)] := hl
        obtain ⟨si2, sl2, ia2, la2⟩ := uk
        obtain ⟨hM, hMf, hpo, hP⟩ := hIk
        have hM : fs_MW ct M_50 b cn si2 sl2 ia2 la2 := hM
        have hpo : fs_po si ia la si2 ia2 la2 := hpo
        have hP : fs_kP (cn 0) (ia 1) (ia 2) (ia 3) (cn 1) (fs_rw ia2 la2) (ia2 12) (la2 13) := hP
        refine lv_iload_n hx hb dM_playAll_48 rfl (lv_at hl 0 rfl) ?_
        refine lv_aload_n hx hb dM_playAll_49 rfl (lv_at hl 1 rfl) ?_
        refine fm_get (ci := 4) (v := .int (nI (cn 1))) (C := RM) (T := TM) (N := 30) hx hb hT inM hown hK hW hM.1 rfl 2 (by decide) (hT _ fl_M_71) (fun _ h9 => h9) rfl dM_playAll_50 ?_
        refine lv_icmp_ge (tgt := 160) hx hb dM_playAll_53 (by decide) (fun c_51 => ?_) (fun c_51 => ?_)
        · exact fm_vret hx hb hr hlocks hW ⟨si2, sl2, ia2, la2, hM, hMf, hpo, hP⟩ dM_playAll_160
        · exact absurd (nI_le (Nat.le_refl (cn 1)) (by omega)) c_51
    · exact absurd (nI_le (Nat.le_refl (cn 0)) (by omega)) c_9
