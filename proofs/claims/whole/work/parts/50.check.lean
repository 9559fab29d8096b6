-- FrameSamples.check, run
def fs_ckk (cn : Nat → Nat) (st : Int64) : Prop := fs_ushl st (nI (cn 2)) = 0 ∧ nI (cn 4) < 16
set_option maxHeartbeats 4000000 in
set_option maxRecDepth 100000 in
theorem c_S_check (l : Launch) (D : va_G) (ct : Nat → ClassId) (A : Nat → Prop) (M : fm_M) (b : Nat) (cn : Nat → Nat) (kp pn : Nat → fs_Q) (pr : fs_Q) (lc : Nat → Int32) (lr : Nat → Int64) (fr : Nat → fs_Q) (od : Nat → Int32) (cl : Nat → Int64) (ck : Nat → Int32) (cc : Nat → Int32) (cr : Nat → Int64) (st : Int64) (hC : fs_CW ct M b cn kp pn pr lc lr fr od cl ck cc cr) (hB : fs_Bd cn) : Met l yS_check wS_check ({ frames := 3, cells := 0, slots := 0, locals := 65 }) (va_Pc [.ref b, .long st] (fm_St D fs_cl5 (fs_tys ct) fs_nw A M)) (va_Qi (fun (r : Int32) (M1 : fm_M) => (r = -1 ∧ M1 = M ∧ ¬ fs_ckk cn st) ∨ (r = nI (cn 4) ∧ fs_ckk cn st ∧ ∃ ck2 : Nat → Int32, fs_CW ct M1 b (va_up cn 4 (cn 4 + 1)) kp pn pr lc lr fr od cl ck2 (upd cc (cn 4) (fs_xr lc lr st (cn 2)).1) (vp_updL cr (cn 4) (fs_xr lc lr st (cn 2)).2) ∧ fs_Cf b M M1 ∧ ∀ i, i < cn 3 → ck2 i = ck i ||| ((fs_bcl (cl i &&& st) &&& 1) <<< (nI (cn 4) &&& 31)))) (fm_B D fs_cl5 A) A) 0 0 A := by
  refine Met.ofW (cc := cS_check) (maxL := 8) (ret := (some .int)) (by decide) rfl ?_
  intro p e s m args below meth c s₁ B hml hv
  obtain ⟨rfl, hP0, hA0, hA1, hK, hN⟩ := hv
  have hx := B.exec
  have hb := B.bytes
  have hr := B.returns
  have hts := atoms_spec (ws := wS_check) B.pre
  have hT : ∀ w ∈ fs_tb, w.before _ s = true := fun w h => hts w (List.mem_cons_of_mem _ h)
  have hown : s.vm.findClass "FrameSamples" = some m.cls := findClass_of_methodNamed B.named
  have hlocks := B.notSynchronized
  have hW : fm_W D fs_cl5 A M s.heap s.heap [] := ⟨hP0, hA0, va_S.rf, hA1⟩
  have hl := lv_entry ([.ref b, .long st]) (n := 8) (Nat.le_of_ble_eq_true rfl)
  rw [lg_entry_eq]
  generalize (lg_sl ([.ref b, .long st]) ++ List.replicate (8 - (lg_sl ([.ref b, .long st])).length) Slot.unset).toArray = ls at hl ⊢
  have hl : lv_has ls 8 [(0, .ref b), (1, .long st)] := hl
  obtain ⟨hB0, hB1, hB2, hB3, hB4, hB5⟩ := hB
  have hCf : fs_Cf b M M := fs_Cf_r
  refine lv_lload_n hx hb dS_check_0 rfl (lv_at hl 1 rfl) ?_
  refine lv_aload_n hx hb dS_check_1 rfl (lv_at hl 0 rfl) ?_
  refine fm_get (ci := 3) (v := .int (nI (cn 2))) (C := RS) (T := TS) (N := 11) hx hb hT inS hown hK hW hC.1 rfl 8 (by decide) (hT _ fl_S_66) (fun _ h9 => h9) rfl dS_check_2 ?_
  refine lv_lushr (v := fs_ushl st (nI (cn 2))) hx hb dS_check_5 rfl ?_
  refine lv_lconst (v := 0) hx hb dS_check_6 (by decide) ?_
  refine W.lcmp hx hb dS_check_7 ?_
  refine lv_if_ne (tgt := 20) hx hb dS_check_8 (by decide) (fun c_1 => ?_) (fun c_1 => ?_)
  · refine lv_iconst (v := -1) hx hb dS_check_20 (by decide) ?_
    exact fm_iret hx hb hr hlocks hW (Or.inl ⟨rfl, rfl, fun z => c_1 ((lg_cmp_eq _ _).mpr z.1)⟩) dS_check_21
  · have h1 : fs_ushl st (nI (cn 2)) = 0 := (lg_cmp_eq _ _).mp c_1
    refine lv_aload_n hx hb dS_check_11 rfl (lv_at hl 0 rfl) ?_
    refine fm_get (ci := 3) (v := .int (nI (cn 4))) (C := RS) (T := TS) (N := 11) hx hb hT inS hown hK hW hC.1 rfl 10 (by decide) (hT _ fl_S_91) (fun _ h9 => h9) rfl dS_check_12 ?_
    refine lv_bipush (v := 16) hx hb dS_check_15 (by decide) ?_
    refine lv_icmp_lt (tgt := 22) hx hb dS_check_17 (by decide) (fun c_2 => ?_) (fun c_2 => ?_)
    · have hck : fs_ckk cn st := ⟨h1, c_2⟩
      have hn4 : cn 4 < 16 := (nI_ltI (b := 16) (by omega) (by decide)).mp c_2
      refine lv_aload_n hx hb dS_check_22 rfl (lv_at hl 0 rfl) ?_
      refine fm_get (ci := 3) (v := .int (nI (cn 4))) (C := RS) (T := TS) (N := 11) hx hb hT inS hown hK hW hC.1 rfl 10 (by decide) (hT _ fl_S_91) (fun _ h9 => h9) rfl dS_check_23 ?_
      refine lv_istore_n (lv' := [(3, .int (nI (cn 4))), (0, .ref b), (1, .long st)]) hx hb dS_check_26 rfl hl (by decide) rfl (fun ls hl => ?_)
      refine lv_iconst (v := 0) hx hb dS_check_27 (by decide) ?_
      refine lv_istore (lv' := [(4, .int 0), (3, .int (nI (cn 4))), (0, .ref b), (1, .long st)]) hx hb dS_check_28 hl (by decide) rfl (fun ls hl => ?_)
      refine lv_lconst (v := 0) hx hb dS_check_30 (by decide) ?_
      refine lv_lstore (lv' := [(5, .long 0), (4, .int 0), (3, .int (nI (cn 4))), (0, .ref b), (1, .long st)]) hx hb dS_check_31 hl (by decide) rfl (fun ls hl => ?_)
      refine lv_iconst (v := 0) hx hb dS_check_33 (by decide) ?_
      refine lv_istore (lv' := [(7, .int 0), (5, .long 0), (4, .int 0), (3, .int (nI (cn 4))), (0, .ref b), (1, .long st)]) hx hb dS_check_34 hl (by decide) rfl (fun ls hl => ?_)
      refine fm_loop (head := 36) (maxL := 8) (cn 2) (fun i (u : Int32 × Int64) M1 => M1 = M ∧ u = fs_xr lc lr st i) (fun i (u : Int32 × Int64) => [(7, .int (nI i)), (0, .ref b), (1, .long st), (3, .int (nI (cn 4))), (4, .int u.1), (5, .long u.2)]) ?_ ?_ (cn 2) 0 (by omega) (0, 0) M _ _ ls ⟨rfl, rfl⟩ hW (lv_sub hl [0, 4, 5, 3, 2, 1] rfl)
      · intro i u M2 H locs ls hi hI hW hl back
        obtain ⟨cv, hv⟩ := u
        obtain ⟨hMe, hU⟩ := hI
        have hU : (cv, hv) = fs_xr lc lr st i := hU
        have hW : fm_W D fs_cl5 A M s.heap H locs := by rw [← hMe]; exact hW
        have hl : lv_has ls 8 [(7, .int (nI i)), (0, .ref b), (1, .long st), (3, .int (nI (cn 4))), (4, .int cv), (5, .long hv)] := hl
        refine lv_iload hx hb dS_check_36 (lv_at hl 0 rfl) ?_
        refine lv_aload_n hx hb dS_check_38 rfl (lv_at hl 1 rfl) ?_
        refine fm_get (ci := 3) (v := .int (nI (cn 2))) (C := RS) (T := TS) (N := 11) hx hb hT inS hown hK hW hC.1 rfl 8 (by decide) (hT _ fl_S_66) (fun _ h9 => h9) rfl dS_check_39 ?_
        refine lv_icmp_ge (tgt := 84) hx hb dS_check_42 (by decide) (fun c_3 => ?_) (fun c_3 => ?_)
        · exact absurd c_3 (nI_ge hi (by omega))
        · refine lv_lload_n hx hb dS_check_45 rfl (lv_at hl 2 rfl) ?_
          refine lv_iload hx hb dS_check_46 (lv_at hl 0 rfl) ?_
          refine fm_calli (va_runS (As := [.long st, .int (nI i)]) (rest := []) ⟨hx, hb, hml, hown, hts⟩ (c_S_has l D ct A M st i (by omega)) ⟨callB_of 2 hts (fs_gin co_S_has) rfl rfl rfl (hT _ ini_S) (hT _ ml_S_94) (by decide +kernel) ⟨Nat.le_of_ble_eq_true rfl, Nat.le_of_ble_eq_true rfl⟩, hT _ st_S_has⟩ (fn_pre fs_isnw hK hN hW) rfl rfl hl.1 rfl (lv_room (Nat.le_of_ble_eq_true rfl)) dS_check_48 ⟨Nat.le_of_ble_eq_true rfl, Nat.le_of_ble_eq_true rfl⟩) hW (fun r_4 M_5 H locs hp_6 hW => ?_)
          have hW : fm_W D fs_cl5 A M s.heap H locs := by rw [← hp_6.2]; exact hW
          have er_4 := hp_6.1
          refine lv_if_eq (tgt := 78) hx hb dS_check_51 (by decide) (fun c_7 => ?_) (fun c_7 => ?_)
          · have hf : bl st i = false := (fs_b_eq0 _).mp (er_4.symm.trans c_7)
            refine lv_iinc (v := nI (i + 1)) (lv' := [(7, .int (nI (i + 1))), (0, .ref b), (1, .long st), (3, .int (nI (cn 4))), (4, .int cv), (5, .long hv)]) hx hb dS_check_78 hl (k := 0) rfl (by show nI i + 1 = nI (i + 1); exact nI_1 i) (by decide) rfl (fun ls hl => ?_)
            refine lv_goto (tgt := 36) hx hb dS_check_81 (by decide) ?_
            exact back (cv, hv) _ _ _ ls ⟨rfl, by rw [hU]; exact (if_neg (by rw [hf]; decide)).symm⟩ hW (lv_sub hl [0, 1, 2, 3, 4, 5] rfl)
          · have ht : bl st i = true := by
              cases hz : bl st i with
              | true => rfl
              | false => exact absurd (by rw [er_4, hz]; rfl) c_7
            refine lv_iload hx hb dS_check_54 (lv_at hl 4 rfl) ?_
            refine lv_aload_n hx hb dS_check_56 rfl (lv_at hl 1 rfl) ?_
            refine fm_get (ci := 3) (v := .ref (b + 25)) (C := RS) (T := TS) (N := 11) hx hb hT inS hown hK hW hC.1 rfl 1 (by decide) (hT _ fl_S_16) (fun _ h9 => h9) rfl dS_check_57 ?_
            refine lv_iload hx hb dS_check_60 (lv_at hl 0 rfl) ?_
            refine fn_iald hx hb hK hW 0 hC.2.2.1 rfl (show i < _ by omega) (by decide) dS_check_62 ?_
            refine lv_ixor hx hb dS_check_63 ?_
            refine lv_topi (fun x_8 ex_8 => ?_)
            refine lv_istore (lv' := [(4, .int x_8), (7, .int (nI i)), (0, .ref b), (1, .long st), (3, .int (nI (cn 4))), (5, .long hv)]) hx hb dS_check_64 hl (by decide) rfl (fun ls hl => ?_)
            refine lv_lload hx hb dS_check_66 (lv_at hl 5 rfl) ?_
            refine lv_aload_n hx hb dS_check_68 rfl (lv_at hl 2 rfl) ?_
            refine fm_get (ci := 3) (v := .ref (b + 26)) (C := RS) (T := TS) (N := 11) hx hb hT inS hown hK hW hC.1 rfl 2 (by decide) (hT _ fl_S_20) (fun _ h9 => h9) rfl dS_check_69 ?_
            refine lv_iload hx hb dS_check_72 (lv_at hl 1 rfl) ?_
            refine fn_lald hx hb hK hW 1 hC.2.2.2.1 rfl (show i < _ by omega) (by decide) dS_check_74 ?_
            refine lv_lxor hx hb dS_check_75 ?_
            refine lv_topl (fun x_9 ex_9 => ?_)
            refine lv_lstore (lv' := [(5, .long x_9), (4, .int x_8), (7, .int (nI i)), (0, .ref b), (1, .long st), (3, .int (nI (cn 4)))]) hx hb dS_check_76 hl (by decide) rfl (fun ls hl => ?_)
            have hU2 : (x_8, x_9) = fs_xr lc lr st (i + 1) := by
              rw [ex_8, ex_9, show fs_xr lc lr st (i + 1) = _ from if_pos ht, ← hU]
            refine lv_iinc (v := nI (i + 1)) (lv' := [(7, .int (nI (i + 1))), (5, .long x_9), (4, .int x_8), (0, .ref b), (1, .long st), (3, .int (nI (cn 4)))]) hx hb dS_check_78 hl (k := 2) rfl (by show nI i + 1 = nI (i + 1); exact nI_1 i) (by decide) rfl (fun ls hl => ?_)
            refine lv_goto (tgt := 36) hx hb dS_check_81 (by decide) ?_
            exact back (x_8, x_9) _ _ _ ls ⟨rfl, hU2⟩ hW (lv_sub hl [0, 3, 4, 5, 2, 1] rfl)
      · intro u M2 H locs ls hI hW hl
        obtain ⟨cv, hv⟩ := u
        obtain ⟨hMe, hU⟩ := hI
        have hU : (cv, hv) = fs_xr lc lr st (cn 2) := hU
        have hW : fm_W D fs_cl5 A M s.heap H locs := by rw [← hMe]; exact hW
        have hl : lv_has ls 8 [(7, .int (nI (cn 2))), (0, .ref b), (1, .long st), (3, .int (nI (cn 4))), (4, .int cv), (5, .long hv)] := hl
        refine lv_iload hx hb dS_check_36 (lv_at hl 0 rfl) ?_
        refine lv_aload_n hx hb dS_check_38 rfl (lv_at hl 1 rfl) ?_
        refine fm_get (ci := 3) (v := .int (nI (cn 2))) (C := RS) (T := TS) (N := 11) hx hb hT inS hown hK hW hC.1 rfl 8 (by decide) (hT _ fl_S_66) (fun _ h9 => h9) rfl dS_check_39 ?_
        have hu1 : cv = (fs_xr lc lr st (cn 2)).1 := congrArg (fun z : Int32 × Int64 => z.1) hU
        have hu2 : hv = (fs_xr lc lr st (cn 2)).2 := congrArg (fun z : Int32 × Int64 => z.2) hU
        refine lv_icmp_ge (tgt := 84) hx hb dS_check_42 (by decide) (fun c_10 => ?_) (fun c_10 => ?_)
        · refine lv_aload_n hx hb dS_check_84 rfl (lv_at hl 1 rfl) ?_
          refine fm_get (ci := 3) (v := .ref (b + 108)) (C := RS) (T := TS) (N := 11) hx hb hT inS hown hK hW hC.1 rfl 4 (by decide) (hT _ fl_S_31) (fun _ h9 => h9) rfl dS_check_85 ?_
          refine lv_iload_n hx hb dS_check_88 rfl (lv_at hl 3 rfl) ?_
          refine lv_iload hx hb dS_check_89 (lv_at hl 4 rfl) ?_
          refine fn_iast hx hb hK hW 0 hC.2.2.2.2.2.2.2.1 rfl (show (cn 4) < _ by omega) (by decide) dS_check_91 (fun H locs hW => ?_)
          obtain ⟨M_11, eM_11⟩ : ∃ z : fm_M, z = va_up M (b + 108) (some (.inl (ct 0, 16, .inl (upd cc (cn 4) cv)))) := ⟨_, rfl⟩
          have hW : fm_W D fs_cl5 A M_11 s.heap H locs := by rw [eM_11]; exact hW
          have hC : fs_CW ct M_11 b cn kp pn pr lc lr fr od cl ck (upd cc (cn 4) cv) cr := by rw [eM_11]; exact fs_CW_cc hC _
          have hCf : fs_Cf b M M_11 := by rw [eM_11]; exact fs_Cf_u hCf (by omega) _
          refine lv_aload_n hx hb dS_check_92 rfl (lv_at hl 1 rfl) ?_
          refine fm_get (ci := 3) (v := .ref (b + 109)) (C := RS) (T := TS) (N := 11) hx hb hT inS hown hK hW hC.1 rfl 5 (by decide) (hT _ fl_S_34) (fun _ h9 => h9) rfl dS_check_93 ?_
          refine lv_iload_n hx hb dS_check_96 rfl (lv_at hl 3 rfl) ?_
          refine lv_lload hx hb dS_check_97 (lv_at hl 5 rfl) ?_
          refine fn_last hx hb hK hW 1 hC.2.2.2.2.2.2.2.2 rfl (show (cn 4) < _ by omega) (by decide) dS_check_99 (fun H locs hW => ?_)
          obtain ⟨M_12, eM_12⟩ : ∃ z : fm_M, z = va_up M_11 (b + 109) (some (.inl (ct 1, 16, .inr (.inl (vp_updL cr (cn 4) hv))))) := ⟨_, rfl⟩
          have hW : fm_W D fs_cl5 A M_12 s.heap H locs := by rw [eM_12]; exact hW
          have hC : fs_CW ct M_12 b cn kp pn pr lc lr fr od cl ck (upd cc (cn 4) cv) (vp_updL cr (cn 4) hv) := by rw [eM_12]; exact fs_CW_cr hC _
          have hCf : fs_Cf b M M_12 := by rw [eM_12]; exact fs_Cf_u hCf (by omega) _
          refine lv_iconst (v := 0) hx hb dS_check_100 (by decide) ?_
          refine lv_istore (lv' := [(7, .int 0), (0, .ref b), (1, .long st), (3, .int (nI (cn 4))), (4, .int cv), (5, .long hv)]) hx hb dS_check_101 hl (by decide) rfl (fun ls hl => ?_)
          refine fm_loop (head := 103) (maxL := 8) (cn 3) (fun i (u : Nat → Int32) M1 => fs_CW ct M1 b cn kp pn pr lc lr fr od cl u (upd cc (cn 4) cv) (vp_updL cr (cn 4) hv) ∧ fs_Cf b M M1 ∧ fs_Up i ck (fun j => ck j ||| ((fs_bcl (cl j &&& st) &&& 1) <<< (nI (cn 4) &&& 31))) u) (fun i (u : Nat → Int32) => [(7, .int (nI i)), (0, .ref b), (1, .long st), (3, .int (nI (cn 4)))]) ?_ ?_ (cn 3) 0 (by omega) ck M_12 _ _ ls ⟨hC, hCf, fs_Up_0 _ _⟩ hW (lv_sub hl [0, 1, 2, 3] rfl)
          · intro i u M2 H locs ls hi hI hW hl back
            obtain ⟨hC, hCf, hU⟩ := hI
            have hl : lv_has ls 8 [(7, .int (nI i)), (0, .ref b), (1, .long st), (3, .int (nI (cn 4)))] := hl
            refine lv_iload hx hb dS_check_103 (lv_at hl 0 rfl) ?_
            refine lv_aload_n hx hb dS_check_105 rfl (lv_at hl 1 rfl) ?_
            refine fm_get (ci := 3) (v := .int (nI (cn 3))) (C := RS) (T := TS) (N := 11) hx hb hT inS hown hK hW hC.1 rfl 9 (by decide) (hT _ fl_S_56) (fun _ h9 => h9) rfl dS_check_106 ?_
            refine lv_icmp_ge (tgt := 130) hx hb dS_check_109 (by decide) (fun c_13 => ?_) (fun c_13 => ?_)
            · exact absurd c_13 (nI_ge hi (by omega))
            · refine lv_aload_n hx hb dS_check_112 rfl (lv_at hl 1 rfl) ?_
              refine fm_get (ci := 3) (v := .ref (b + 27)) (C := RS) (T := TS) (N := 11) hx hb hT inS hown hK hW hC.1 rfl 3 (by decide) (hT _ fl_S_26) (fun _ h9 => h9) rfl dS_check_113 ?_
              refine lv_iload hx hb dS_check_116 (lv_at hl 0 rfl) ?_
              refine fm_aald hx hb hK hW 4 hC.2.2.2.2.1 rfl (vp_in_nI (N := 40) (by omega) (by decide)) (fs_rf_at (by omega)) dS_check_118 ?_
              refine lv_iload_n hx hb dS_check_119 rfl (lv_at hl 3 rfl) ?_
              refine lv_lload_n hx hb dS_check_120 rfl (lv_at hl 2 rfl) ?_
              refine fm_callv (va_runV (As := [.int (nI (cn 4)), .long st]) (rest := []) ⟨hx, hb, hml, hown, hts⟩ (c_F_meetCheck l D ct A M2 (b + 28 + 2 * i) (b + 29 + 2 * i) (od i) (cl i) (u i) (fr i) (nI (cn 4)) st (hC.2.2.2.2.2.1 i (by omega)) (hC.2.2.2.2.2.2.1 i (by omega)) (by omega)) ⟨callB_of 2 hts (fs_gin co_F_meetCheck) rfl rfl rfl (hT _ ini_F) (hT _ ml_S_98) (by decide +kernel) ⟨Nat.le_of_ble_eq_true rfl, Nat.le_of_ble_eq_true rfl⟩, hT _ im_F_meetCheck, hT _ se_F_meetCheck⟩ (fn_preV fs_isnw hK hN hW (hC.2.2.2.2.2.1 i (by omega)) rfl) rfl rfl hl.1 rfl (lv_room (Nat.le_of_ble_eq_true rfl)) dS_check_121 ⟨Nat.le_of_ble_eq_true rfl, Nat.le_of_ble_eq_true rfl⟩) hW (fun M_15 H locs hp_16 hW => ?_)
              have hC : fs_CW ct M_15 b cn kp pn pr lc lr fr od cl (va_up u i (u i ||| ((fs_bcl (cl i &&& st) &&& 1) <<< (nI (cn 4) &&& 31)))) (upd cc (cn 4) cv) (vp_updL cr (cn 4) hv) := by rw [hp_16]; exact fs_CW_MC hC (by omega) _
              have hCf : fs_Cf b M M_15 := by rw [hp_16]; exact fs_Cf_u hCf (by omega) _
              refine lv_iinc (v := nI (i + 1)) (lv' := [(7, .int (nI (i + 1))), (0, .ref b), (1, .long st), (3, .int (nI (cn 4)))]) hx hb dS_check_124 hl (k := 0) rfl (by show nI i + 1 = nI (i + 1); exact nI_1 i) (by decide) rfl (fun ls hl => ?_)
              refine lv_goto (tgt := 103) hx hb dS_check_127 (by decide) ?_
              exact back _ _ _ _ ls ⟨hC, hCf, fs_Up_s hU (by rw [hU.2 i (Nat.le_refl i)])⟩ hW (lv_sub hl [0, 1, 2, 3] rfl)
          · intro u M2 H locs ls hI hW hl
            obtain ⟨hC, hCf, hU⟩ := hI
            have hl : lv_has ls 8 [(7, .int (nI (cn 3))), (0, .ref b), (1, .long st), (3, .int (nI (cn 4)))] := hl
            refine lv_iload hx hb dS_check_103 (lv_at hl 0 rfl) ?_
            refine lv_aload_n hx hb dS_check_105 rfl (lv_at hl 1 rfl) ?_
            refine fm_get (ci := 3) (v := .int (nI (cn 3))) (C := RS) (T := TS) (N := 11) hx hb hT inS hown hK hW hC.1 rfl 9 (by decide) (hT _ fl_S_56) (fun _ h9 => h9) rfl dS_check_106 ?_
            refine lv_icmp_ge (tgt := 130) hx hb dS_check_109 (by decide) (fun c_17 => ?_) (fun c_17 => ?_)
            · refine lv_aload_n hx hb dS_check_130 rfl (lv_at hl 1 rfl) ?_
              refine lv_dup hx hb dS_check_131 rfl ?_
              refine fm_get (ci := 3) (v := .int (nI (cn 4))) (C := RS) (T := TS) (N := 11) hx hb hT inS hown hK hW hC.1 rfl 10 (by decide) (hT _ fl_S_91) (fun _ h9 => h9) rfl dS_check_132 ?_
              refine lv_iconst (v := 1) hx hb dS_check_135 (by decide) ?_
              refine lv_iadd hx hb dS_check_136 ?_
              refine fm_put (ci := 3) (v := .int ((nI (cn 4)) + 1)) (ty := .int) (C := RS) (T := TS) (N := 11) hx hb hT inS tyS tkS nmS hown hK hW hC.1 rfl 10 (by decide) (hT _ fl_S_91) (fun _ h9 => h9) rfl (by decide +kernel) rfl rfl (Nat.le_of_ble_eq_true rfl) dS_check_137 (fun H locs hW => ?_)
              obtain ⟨M_18, eM_18⟩ : ∃ z : fm_M, z = va_up M2 b (some (.inr (3, [.ref (b + 1), .ref (b + 25), .ref (b + 26), .ref (b + 27), .ref (b + 108), .ref (b + 109), .int (nI (cn 0)), .int (nI (cn 1)), .int (nI (cn 2)), .int (nI (cn 3)), .int ((nI (cn 4)) + 1)]))) := ⟨_, rfl⟩
              have hW : fm_W D fs_cl5 A M_18 s.heap H locs := by rw [eM_18]; exact hW
              have f_19 : M_18 b = some (.inr (3, [.ref (b + 1), .ref (b + 25), .ref (b + 26), .ref (b + 27), .ref (b + 108), .ref (b + 109), .int (nI (cn 0)), .int (nI (cn 1)), .int (nI (cn 2)), .int (nI (cn 3)), .int ((nI (cn 4)) + 1)])) := by rw [eM_18]; exact fm_us
              have zM_18 : M_18 = va_up M2 b (some (fs_SE b (va_up cn 4 (cn 4 + 1)))) := by
                rw [eM_18]
                rw [nI_1]; rfl
              have hC : fs_CW ct M_18 b (va_up cn 4 (cn 4 + 1)) kp pn pr lc lr fr od cl u (upd cc (cn 4) cv) (vp_updL cr (cn 4) hv) := by rw [zM_18]; exact fs_CW_S hC rfl
              have hCf : fs_Cf b M M_18 := by rw [zM_18]; exact fs_Cf_u hCf (by omega) _
              refine lv_iload_n hx hb dS_check_140 rfl (lv_at hl 3 rfl) ?_
              exact fm_iret hx hb hr hlocks hW (Or.inr ⟨rfl, hck, u, by rw [← hu1, ← hu2]; exact hC, hCf, fun i hi => hU.1 i hi⟩) dS_check_141
            · exact absurd (nI_le (Nat.le_refl (cn 3)) (by omega)) c_17
        · exact absurd (nI_le (Nat.le_refl (cn 2)) (by omega)) c_10
    · refine lv_iconst (v := -1) hx hb dS_check_20 (by decide) ?_
      exact fm_iret hx hb hr hlocks hW (Or.inl ⟨rfl, rfl, fun z => c_2 z.2⟩) dS_check_21
/-- what the looks tell without faults -/
def fs_rn (lc : Nat → Int32) (lr : Nat → Int64) (tl : Int64) : Nat → Int64
  | 0 => 0
  | i + 1 => fs_rn lc lr tl i ||| ((lc i ^^^ (fs_bcl (lr i &&& tl) &&& 1)).toInt64 <<< ((nI i).toInt64 &&& 63))
def fs_rx (cl : Nat → Int64) (fa : Int64) (z : Int64) : Nat → Int64
  | 0 => z
  | i + 1 => if bl fa i = true then fs_rx cl fa z i ^^^ cl i else fs_rx cl fa z i
set_option maxHeartbeats 4000000 in
set_option maxRecDepth 100000 in
theorem c_S_run (l : Launch) (D : va_G) (ct : Nat → ClassId) (A : Nat → Prop) (M : fm_M) (b : Nat) (cn : Nat → Nat) (kp pn : Nat → fs_Q) (pr : fs_Q) (lc : Nat → Int32) (lr : Nat → Int64) (fr : Nat → fs_Q) (od : Nat → Int32) (cl : Nat → Int64) (ck : Nat → Int32) (cc : Nat → Int32) (cr : Nat → Int64) (fa tl : Int64) (hC : fs_CW ct M b cn kp pn pr lc lr fr od cl ck cc cr) (hB : fs_Bd cn) : Met l yS_run wS_run ({ frames := 2, cells := 0, slots := 0, locals := 42 }) (va_Pc [.ref b, .long fa, .long tl] (fm_St D fs_cl5 (fs_tys ct) fs_nw A M)) (va_Ql (fun (r : Int64) (M1 : fm_M) => M1 = M ∧ r = if fs_ushl fa (nI (cn 3)) = 0 then fs_rx cl fa (fs_rn lc lr tl (cn 2)) (cn 3) else -1) (fm_B D fs_cl5 A) A) 0 0 A := by
  refine Met.ofW (cc := cS_run) (maxL := 10) (ret := (some .long)) (by decide) rfl ?_
  intro p e s m args below meth c s₁ B hml hv
  obtain ⟨rfl, hP0, hA0, hA1, hK, hN⟩ := hv
  have hx := B.exec
  have hb := B.bytes
  have hr := B.returns
  have hts := atoms_spec (ws := wS_run) B.pre
  have hT : ∀ w ∈ fs_tb, w.before _ s = true := fun w h => hts w (List.mem_cons_of_mem _ h)
  have hown : s.vm.findClass "FrameSamples" = some m.cls := findClass_of_methodNamed B.named
  have hlocks := B.notSynchronized
  have hW : fm_W D fs_cl5 A M s.heap s.heap [] := ⟨hP0, hA0, va_S.rf, hA1⟩
  have hl := lv_entry ([.ref b, .long fa, .long tl]) (n := 10) (Nat.le_of_ble_eq_true rfl)
  rw [lg_entry_eq]
  generalize (lg_sl ([.ref b, .long fa, .long tl]) ++ List.replicate (10 - (lg_sl ([.ref b, .long fa, .long tl])).length) Slot.unset).toArray = ls at hl ⊢
  have hl : lv_has ls 10 [(0, .ref b), (1, .long fa), (3, .long tl)] := hl
  obtain ⟨hB0, hB1, hB2, hB3, hB4, hB5⟩ := hB
  have hCf : fs_Cf b M M := fs_Cf_r
  refine lv_lload_n hx hb dS_run_0 rfl (lv_at hl 1 rfl) ?_
  refine lv_aload_n hx hb dS_run_1 rfl (lv_at hl 0 rfl) ?_
  refine fm_get (ci := 3) (v := .int (nI (cn 3))) (C := RS) (T := TS) (N := 11) hx hb hT inS hown hK hW hC.1 rfl 9 (by decide) (hT _ fl_S_56) (fun _ h9 => h9) rfl dS_run_2 ?_
  refine lv_lushr (v := fs_ushl fa (nI (cn 3))) hx hb dS_run_5 rfl ?_
  refine lv_lconst (v := 0) hx hb dS_run_6 (by decide) ?_
  refine W.lcmp hx hb dS_run_7 ?_
  refine lv_if_eq (tgt := 15) hx hb dS_run_8 (by decide) (fun c_1 => ?_) (fun c_1 => ?_)
  · have h1 : fs_ushl fa (nI (cn 3)) = 0 := (lg_cmp_eq _ _).mp c_1
    refine lv_lconst (v := 0) hx hb dS_run_15 (by decide) ?_
    refine lv_lstore (lv' := [(5, .long 0), (0, .ref b), (1, .long fa), (3, .long tl)]) hx hb dS_run_16 hl (by decide) rfl (fun ls hl => ?_)
    refine lv_iconst (v := 0) hx hb dS_run_18 (by decide) ?_
    refine lv_istore (lv' := [(7, .int 0), (5, .long 0), (0, .ref b), (1, .long fa), (3, .long tl)]) hx hb dS_run_19 hl (by decide) rfl (fun ls hl => ?_)
    refine fm_loop (head := 21) (maxL := 10) (cn 2) (fun i (u : Int64) M1 => M1 = M ∧ u = fs_rn lc lr tl i) (fun i (u : Int64) => [(7, .int (nI i)), (0, .ref b), (1, .long fa), (3, .long tl), (5, .long u)]) ?_ ?_ (cn 2) 0 (by omega) 0 M _ _ ls ⟨rfl, rfl⟩ hW (lv_sub hl [0, 2, 3, 4, 1] rfl)
    · intro i u M2 H locs ls hi hI hW hl back
      obtain ⟨hMe, hU⟩ := hI
      have hW : fm_W D fs_cl5 A M s.heap H locs := by rw [← hMe]; exact hW
      have hl : lv_has ls 10 [(7, .int (nI i)), (0, .ref b), (1, .long fa), (3, .long tl), (5, .long u)] := hl
      refine lv_iload hx hb dS_run_21 (lv_at hl 0 rfl) ?_
      refine lv_aload_n hx hb dS_run_23 rfl (lv_at hl 1 rfl) ?_
      refine fm_get (ci := 3) (v := .int (nI (cn 2))) (C := RS) (T := TS) (N := 11) hx hb hT inS hown hK hW hC.1 rfl 8 (by decide) (hT _ fl_S_66) (fun _ h9 => h9) rfl dS_run_24 ?_
      refine lv_icmp_ge (tgt := 69) hx hb dS_run_27 (by decide) (fun c_2 => ?_) (fun c_2 => ?_)
      · exact absurd c_2 (nI_ge hi (by omega))
      · refine lv_aload_n hx hb dS_run_30 rfl (lv_at hl 1 rfl) ?_
        refine fm_get (ci := 3) (v := .ref (b + 25)) (C := RS) (T := TS) (N := 11) hx hb hT inS hown hK hW hC.1 rfl 1 (by decide) (hT _ fl_S_16) (fun _ h9 => h9) rfl dS_run_31 ?_
        refine lv_iload hx hb dS_run_34 (lv_at hl 0 rfl) ?_
        refine fn_iald hx hb hK hW 0 hC.2.2.1 rfl (show i < _ by omega) (by decide) dS_run_36 ?_
        refine lv_aload_n hx hb dS_run_37 rfl (lv_at hl 1 rfl) ?_
        refine fm_get (ci := 3) (v := .ref (b + 26)) (C := RS) (T := TS) (N := 11) hx hb hT inS hown hK hW hC.1 rfl 2 (by decide) (hT _ fl_S_20) (fun _ h9 => h9) rfl dS_run_38 ?_
        refine lv_iload hx hb dS_run_41 (lv_at hl 0 rfl) ?_
        refine fn_lald hx hb hK hW 1 hC.2.2.2.1 rfl (show i < _ by omega) (by decide) dS_run_43 ?_
        refine lv_lload_n hx hb dS_run_44 rfl (lv_at hl 3 rfl) ?_
        refine lv_land hx hb dS_run_45 ?_
        refine fm_calli (va_runS (As := [.long ((lr i) &&& tl)]) (rest := [.int (lc i)]) ⟨hx, hb, hml, hown, hts⟩ (c_S_parity l D ct A M ((lr i) &&& tl)) ⟨callB_of 1 hts (fs_gin co_S_parity) rfl rfl rfl (hT _ ini_S) (hT _ ml_S_125) (by decide +kernel) ⟨Nat.le_of_ble_eq_true rfl, Nat.le_of_ble_eq_true rfl⟩, hT _ st_S_parity⟩ (fn_pre fs_isnw hK hN hW) rfl rfl hl.1 rfl (lv_room (Nat.le_of_ble_eq_true rfl)) dS_run_46 ⟨Nat.le_of_ble_eq_true rfl, Nat.le_of_ble_eq_true rfl⟩) hW (fun r_3 M_4 H locs hp_5 hW => ?_)
        have hW : fm_W D fs_cl5 A M s.heap H locs := by rw [← hp_5.2]; exact hW
        have er_3 := hp_5.1
        refine lv_ixor hx hb dS_run_49 ?_
        refine lv_i2l (v := ((lc i) ^^^ r_3).toInt64) hx hb dS_run_50 rfl ?_
        refine lv_topl (fun x_6 ex_6 => ?_)
        refine lv_lstore (lv' := [(8, .long x_6), (7, .int (nI i)), (0, .ref b), (1, .long fa), (3, .long tl), (5, .long u)]) hx hb dS_run_51 hl (by decide) rfl (fun ls hl => ?_)
        refine lv_lload hx hb dS_run_53 (lv_at hl 5 rfl) ?_
        refine lv_lload hx hb dS_run_55 (lv_at hl 0 rfl) ?_
        refine lv_iload hx hb dS_run_57 (lv_at hl 1 rfl) ?_
        refine lv_lshl (v := x_6 <<< ((nI i).toInt64 &&& 63)) hx hb dS_run_59 rfl ?_
        refine lv_lor hx hb dS_run_60 ?_
        refine lv_topl (fun x_7 ex_7 => ?_)
        refine lv_lstore (lv' := [(5, .long x_7), (8, .long x_6), (7, .int (nI i)), (0, .ref b), (1, .long fa), (3, .long tl)]) hx hb dS_run_61 hl (by decide) rfl (fun ls hl => ?_)
        have hU2 : x_7 = fs_rn lc lr tl (i + 1) := by rw [ex_7, ex_6, er_3, hU]; rfl
        refine lv_iinc (v := nI (i + 1)) (lv' := [(7, .int (nI (i + 1))), (5, .long x_7), (8, .long x_6), (0, .ref b), (1, .long fa), (3, .long tl)]) hx hb dS_run_63 hl (k := 2) rfl (by show nI i + 1 = nI (i + 1); exact nI_1 i) (by decide) rfl (fun ls hl => ?_)
        refine lv_goto (tgt := 21) hx hb dS_run_66 (by decide) ?_
        exact back x_7 _ _ _ ls ⟨rfl, hU2⟩ hW (lv_sub hl [0, 3, 4, 5, 1] rfl)
    · intro u M2 H locs ls hI hW hl
      obtain ⟨hMe, hU⟩ := hI
      have hW : fm_W D fs_cl5 A M s.heap H locs := by rw [← hMe]; exact hW
      have hl : lv_has ls 10 [(7, .int (nI (cn 2))), (0, .ref b), (1, .long fa), (3, .long tl), (5, .long u)] := hl
      refine lv_iload hx hb dS_run_21 (lv_at hl 0 rfl) ?_
      refine lv_aload_n hx hb dS_run_23 rfl (lv_at hl 1 rfl) ?_
      refine fm_get (ci := 3) (v := .int (nI (cn 2))) (C := RS) (T := TS) (N := 11) hx hb hT inS hown hK hW hC.1 rfl 8 (by decide) (hT _ fl_S_66) (fun _ h9 => h9) rfl dS_run_24 ?_
      refine lv_icmp_ge (tgt := 69) hx hb dS_run_27 (by decide) (fun c_8 => ?_) (fun c_8 => ?_)
      · refine lv_iconst (v := 0) hx hb dS_run_69 (by decide) ?_
        refine lv_istore (lv' := [(7, .int 0), (0, .ref b), (1, .long fa), (3, .long tl), (5, .long u)]) hx hb dS_run_70 hl (by decide) rfl (fun ls hl => ?_)
        have hz : u = fs_rn lc lr tl (cn 2) := hU
        refine fm_loop (head := 72) (maxL := 10) (cn 3) (fun i (u : Int64) M1 => M1 = M ∧ u = fs_rx cl fa (fs_rn lc lr tl (cn 2)) i) (fun i (u : Int64) => [(7, .int (nI i)), (0, .ref b), (1, .long fa), (5, .long u)]) ?_ ?_ (cn 3) 0 (by omega) u M _ _ ls ⟨rfl, hz⟩ hW (lv_sub hl [0, 1, 2, 4] rfl)
        · intro i u M2 H locs ls hi hI hW hl back
          obtain ⟨hMe, hU⟩ := hI
          have hW : fm_W D fs_cl5 A M s.heap H locs := by rw [← hMe]; exact hW
          have hl : lv_has ls 10 [(7, .int (nI i)), (0, .ref b), (1, .long fa), (5, .long u)] := hl
          refine lv_iload hx hb dS_run_72 (lv_at hl 0 rfl) ?_
          refine lv_aload_n hx hb dS_run_74 rfl (lv_at hl 1 rfl) ?_
          refine fm_get (ci := 3) (v := .int (nI (cn 3))) (C := RS) (T := TS) (N := 11) hx hb hT inS hown hK hW hC.1 rfl 9 (by decide) (hT _ fl_S_56) (fun _ h9 => h9) rfl dS_run_75 ?_
          refine lv_icmp_ge (tgt := 111) hx hb dS_run_78 (by decide) (fun c_9 => ?_) (fun c_9 => ?_)
          · exact absurd c_9 (nI_ge hi (by omega))
          · refine lv_lload_n hx hb dS_run_81 rfl (lv_at hl 2 rfl) ?_
            refine lv_iload hx hb dS_run_82 (lv_at hl 0 rfl) ?_
            refine fm_calli (va_runS (As := [.long fa, .int (nI i)]) (rest := []) ⟨hx, hb, hml, hown, hts⟩ (c_S_has l D ct A M fa i (by omega)) ⟨callB_of 2 hts (fs_gin co_S_has) rfl rfl rfl (hT _ ini_S) (hT _ ml_S_94) (by decide +kernel) ⟨Nat.le_of_ble_eq_true rfl, Nat.le_of_ble_eq_true rfl⟩, hT _ st_S_has⟩ (fn_pre fs_isnw hK hN hW) rfl rfl hl.1 rfl (lv_room (Nat.le_of_ble_eq_true rfl)) dS_run_84 ⟨Nat.le_of_ble_eq_true rfl, Nat.le_of_ble_eq_true rfl⟩) hW (fun r_10 M_11 H locs hp_12 hW => ?_)
            have hW : fm_W D fs_cl5 A M s.heap H locs := by rw [← hp_12.2]; exact hW
            have er_10 := hp_12.1
            refine lv_if_eq (tgt := 105) hx hb dS_run_87 (by decide) (fun c_13 => ?_) (fun c_13 => ?_)
            · have hf : bl fa i = false := (fs_b_eq0 _).mp (er_10.symm.trans c_13)
              refine lv_iinc (v := nI (i + 1)) (lv' := [(7, .int (nI (i + 1))), (0, .ref b), (1, .long fa), (5, .long u)]) hx hb dS_run_105 hl (k := 0) rfl (by show nI i + 1 = nI (i + 1); exact nI_1 i) (by decide) rfl (fun ls hl => ?_)
              refine lv_goto (tgt := 72) hx hb dS_run_108 (by decide) ?_
              exact back u _ _ _ ls ⟨rfl, by rw [hU]; exact (if_neg (by rw [hf]; decide)).symm⟩ hW (lv_sub hl [0, 1, 2, 3] rfl)
            · have ht : bl fa i = true := by
                cases hz : bl fa i with
                | true => rfl
                | false => exact absurd (by rw [er_10, hz]; rfl) c_13
              refine lv_lload hx hb dS_run_90 (lv_at hl 3 rfl) ?_
              refine lv_aload_n hx hb dS_run_92 rfl (lv_at hl 1 rfl) ?_
              refine fm_get (ci := 3) (v := .ref (b + 27)) (C := RS) (T := TS) (N := 11) hx hb hT inS hown hK hW hC.1 rfl 3 (by decide) (hT _ fl_S_26) (fun _ h9 => h9) rfl dS_run_93 ?_
              refine lv_iload hx hb dS_run_96 (lv_at hl 0 rfl) ?_
              refine fm_aald hx hb hK hW 4 hC.2.2.2.2.1 rfl (vp_in_nI (N := 40) (by omega) (by decide)) (fs_rf_at (by omega)) dS_run_98 ?_
              refine fm_getN (ci := 2) (v := .long (cl i)) (C := RF) (T := TF) (N := 4) hx hb hT inF hown hK hW (hC.2.2.2.2.2.1 i (by omega)) rfl 2 (by decide) (hN _ (List.mem_of_getElem? (i := 12) rfl)) (fun _ h9 => h9) rfl dS_run_99 ?_
              refine lv_lxor hx hb dS_run_102 ?_
              refine lv_topl (fun x_14 ex_14 => ?_)
              refine lv_lstore (lv' := [(5, .long x_14), (7, .int (nI i)), (0, .ref b), (1, .long fa)]) hx hb dS_run_103 hl (by decide) rfl (fun ls hl => ?_)
              have hU2 : x_14 = fs_rx cl fa (fs_rn lc lr tl (cn 2)) (i + 1) := by
                rw [ex_14, hU]; exact (if_pos ht).symm
              refine lv_iinc (v := nI (i + 1)) (lv' := [(7, .int (nI (i + 1))), (5, .long x_14), (0, .ref b), (1, .long fa)]) hx hb dS_run_105 hl (k := 1) rfl (by show nI i + 1 = nI (i + 1); exact nI_1 i) (by decide) rfl (fun ls hl => ?_)
              refine lv_goto (tgt := 72) hx hb dS_run_108 (by decide) ?_
              exact back x_14 _ _ _ ls ⟨rfl, hU2⟩ hW (lv_sub hl [0, 2, 3, 1] rfl)
        · intro u M2 H locs ls hI hW hl
          obtain ⟨hMe, hU⟩ := hI
          have hW : fm_W D fs_cl5 A M s.heap H locs := by rw [← hMe]; exact hW
          have hl : lv_has ls 10 [(7, .int (nI (cn 3))), (0, .ref b), (1, .long fa), (5, .long u)] := hl
          refine lv_iload hx hb dS_run_72 (lv_at hl 0 rfl) ?_
          refine lv_aload_n hx hb dS_run_74 rfl (lv_at hl 1 rfl) ?_
          refine fm_get (ci := 3) (v := .int (nI (cn 3))) (C := RS) (T := TS) (N := 11) hx hb hT inS hown hK hW hC.1 rfl 9 (by decide) (hT _ fl_S_56) (fun _ h9 => h9) rfl dS_run_75 ?_
          refine lv_icmp_ge (tgt := 111) hx hb dS_run_78 (by decide) (fun c_15 => ?_) (fun c_15 => ?_)
          · refine lv_lload hx hb dS_run_111 (lv_at hl 3 rfl) ?_
            exact fm_lret hx hb hr hlocks hW ⟨rfl, by rw [if_pos h1]; exact hU⟩ dS_run_113
          · exact absurd (nI_le (Nat.le_refl (cn 3)) (by omega)) c_15
      · exact absurd (nI_le (Nat.le_refl (cn 2)) (by omega)) c_8
  · refine lv_ldc2 hx hb hown (hT _ cn_S_102) dS_run_11 ?_
    exact fm_lret hx hb hr hlocks hW ⟨rfl, (if_neg (fun z => c_1 ((lg_cmp_eq _ _).mpr z))).symm⟩ dS_run_14
