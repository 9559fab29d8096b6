-- FrameSamples.look, fault
theorem fs_wire {a : Int32} {n : Nat} (hn : n ≤ 10) (h : ¬ (a < 0 ∨ nI n ≤ a)) : ∃ α : Nat, α < n ∧ a = nI α := by
  rcases pk_ix a (n := n) (by omega) with q | q | ⟨j, h1, h2⟩
  · exact absurd (Or.inl q) h
  · exact absurd (Or.inr q) h
  · exact ⟨j, h1, h2⟩
theorem fs_cge {a N : Nat} (hN : N < 2 ^ 31) (h : ¬ nI N ≤ nI a) (ha : a < 2 ^ 31) : a < N := by
  rcases Nat.lt_or_ge a N with q | q
  · exact q
  · exact absurd (nI_le q ha) h
theorem fu_same {α : Type} (f : Nat → α) (k : Nat) : va_up f k (f k) = f := by
  funext j
  by_cases h : j = k
  · subst h; exact fu_s
  · exact fu_n h
theorem fs_CW_ML {ct : Nat → ClassId} {M : fm_M} {b : Nat} {cn : Nat → Nat} {kp pn : Nat → fs_Q} {pr : fs_Q} {lc : Nat → Int32} {lr : Nat → Int64} {fr : Nat → fs_Q} {od : Nat → Int32} {cl : Nat → Int64} {ck : Nat → Int32} {cc : Nat → Int32} {cr : Nat → Int64} (C : fs_CW ct M b cn kp pn pr lc lr fr od cl ck cc cr) {i : Nat} (hi : i < 40) (l2 : Int64) (q2 : fs_Q) :
    fs_CW ct (va_up (va_up M (b + 28 + 2 * i) (some (fs_FE (b + 29 + 2 * i) (od i) l2 (ck i)))) (b + 29 + 2 * i) (some (fs_PE q2))) b cn kp pn pr lc lr (va_up fr i q2) od (va_up cl i l2) ck cc cr := by
  have h := fs_CW_Q (fs_CW_F C hi (od i) l2 (ck i)) hi q2
  rw [fu_same, fu_same] at h
  exact h
theorem fs_CW_MC {ct : Nat → ClassId} {M : fm_M} {b : Nat} {cn : Nat → Nat} {kp pn : Nat → fs_Q} {pr : fs_Q} {lc : Nat → Int32} {lr : Nat → Int64} {fr : Nat → fs_Q} {od : Nat → Int32} {cl : Nat → Int64} {ck : Nat → Int32} {cc : Nat → Int32} {cr : Nat → Int64} (C : fs_CW ct M b cn kp pn pr lc lr fr od cl ck cc cr) {i : Nat} (hi : i < 40) (k2 : Int32) :
    fs_CW ct (va_up M (b + 28 + 2 * i) (some (fs_FE (b + 29 + 2 * i) (od i) (cl i) k2))) b cn kp pn pr lc lr fr od cl (va_up ck i k2) cc cr := by
  have h := fs_CW_F C hi (od i) (cl i) k2
  rw [fu_same, fu_same] at h
  exact h
theorem fs_CW_FS {ct : Nat → ClassId} {M : fm_M} {b : Nat} {cn : Nat → Nat} {kp pn : Nat → fs_Q} {pr : fs_Q} {lc : Nat → Int32} {lr : Nat → Int64} {fr : Nat → fs_Q} {od : Nat → Int32} {cl : Nat → Int64} {ck : Nat → Int32} {cc : Nat → Int32} {cr : Nat → Int64} (C : fs_CW ct M b cn kp pn pr lc lr fr od cl ck cc cr) {i : Nat} (hi : i < 40) (o2 : Int32) (l2 : Int64) (k2 : Int32) (q2 : fs_Q) :
    fs_CW ct (va_up (va_up M (b + 29 + 2 * i) (some (fs_PE q2))) (b + 28 + 2 * i) (some (fs_FE (b + 29 + 2 * i) o2 l2 k2))) b cn kp pn pr lc lr (va_up fr i q2) (va_up od i o2) (va_up cl i l2) (va_up ck i k2) cc cr :=
  fs_CW_F (fs_CW_Q C hi q2) hi o2 l2 k2
def fs_lk (cn : Nat → Nat) (a : Int32) : Prop := ¬ (a < 0 ∨ nI (cn 0) ≤ a) ∧ ¬ 60 ≤ nI (cn 2) ∧ nI (cn 1) < 300
set_option maxHeartbeats 4000000 in
set_option maxRecDepth 100000 in
theorem c_S_look (l : Launch) (D : va_G) (ct : Nat → ClassId) (A : Nat → Prop) (M : fm_M) (b : Nat) (cn : Nat → Nat) (kp pn : Nat → fs_Q) (pr : fs_Q) (lc : Nat → Int32) (lr : Nat → Int64) (fr : Nat → fs_Q) (od : Nat → Int32) (cl : Nat → Int64) (ck : Nat → Int32) (cc : Nat → Int32) (cr : Nat → Int64) (a rs : Int32) (hC : fs_CW ct M b cn kp pn pr lc lr fr od cl ck cc cr) (hB : fs_Bd cn) : Met l yS_look wS_look ({ frames := 4, cells := 0, slots := 0, locals := 95 }) (va_Pc [.ref b, .int a, .int rs] (fm_St D fs_cl5 (fs_tys ct) fs_nw A M)) (va_Qi (fun (r : Int32) (M1 : fm_M) => (r = -1 ∧ M1 = M ∧ ¬ fs_lk cn a) ∨ (r = nI (cn 2) ∧ fs_lk cn a ∧ ∃ α : Nat, a = nI α ∧ α < cn 0 ∧ ∃ (kp1 kp2 pn2 fr2 : Nat → fs_Q) (pr2 : fs_Q) (cl2 : Nat → Int64) (cv : Int32) (hv : Int64), fs_CW ct M1 b (va_up (va_up cn 2 (cn 2 + 1)) 1 (cn 1 + 1)) kp2 pn2 pr2 (upd lc (cn 2) cv) (vp_updL lr (cn 2) hv) fr2 od cl2 ck cc cr ∧ fs_Cf b M M1 ∧ fs_cL (cn 0) α (1 <<< ((nI (cn 2)).toInt64 &&& 63)) kp pn kp1 pn2 cv hv ∧ (∀ i, i < cn 0 → kp2 i = if rs ≠ 0 ∧ bt (kp1 i).2.1 α = true then fs_fl (kp1 i) cv hv else kp1 i) ∧ (∀ i, i < cn 3 → fr2 i = fs_mk (fr i) (nI α) (decide (rs ≠ 0))) ∧ ∀ i, i < cn 3 → cl2 i = cl i ||| ((fs_xOn (fr i) (nI α)).toInt64 <<< ((nI (cn 2)).toInt64 &&& 63)))) (fm_B D fs_cl5 A) A) 0 0 A := by
  refine Met.ofW (cc := cS_look) (maxL := 6) (ret := (some .int)) (by decide) rfl ?_
  intro p e s m args below meth c s₁ B hml hv
  obtain ⟨rfl, hP0, hA0, hA1, hK, hN⟩ := hv
  have hx := B.exec
  have hb := B.bytes
  have hr := B.returns
  have hts := atoms_spec (ws := wS_look) B.pre
  have hT : ∀ w ∈ fs_tb, w.before _ s = true := fun w h => hts w (List.mem_cons_of_mem _ h)
  have hown : s.vm.findClass "FrameSamples" = some m.cls := findClass_of_methodNamed B.named
  have hlocks := B.notSynchronized
  have hW : fm_W D fs_cl5 A M s.heap s.heap [] := ⟨hP0, hA0, va_S.rf, hA1⟩
  have hl := lv_entry ([.ref b, .int a, .int rs]) (n := 6) (Nat.le_of_ble_eq_true rfl)
  rw [lg_entry_eq]
  generalize (lg_sl ([.ref b, .int a, .int rs]) ++ List.replicate (6 - (lg_sl ([.ref b, .int a, .int rs])).length) Slot.unset).toArray = ls at hl ⊢
  have hl : lv_has ls 6 [(0, .ref b), (1, .int a), (2, .int rs)] := hl
  obtain ⟨hB0, hB1, hB2, hB3, hB4, hB5⟩ := hB
  have hCf : fs_Cf b M M := fs_Cf_r
  refine lv_aload_n hx hb dS_look_0 rfl (lv_at hl 0 rfl) ?_
  refine lv_iload_n hx hb dS_look_1 rfl (lv_at hl 1 rfl) ?_
  refine fm_calli (va_runV (As := [.int a]) (rest := []) ⟨hx, hb, hml, hown, hts⟩ (c_S_isWire l D ct A M b cn a hC.1) ⟨callB_of 1 hts (fs_gin co_S_isWire) rfl rfl rfl (hT _ ini_S) (hT _ ml_S_41) (by decide +kernel) ⟨Nat.le_of_ble_eq_true rfl, Nat.le_of_ble_eq_true rfl⟩, hT _ im_S_isWire, hT _ se_S_isWire⟩ (fn_preV fs_isnw hK hN hW hC.1 rfl) rfl rfl hl.1 rfl (lv_room (Nat.le_of_ble_eq_true rfl)) dS_look_2 ⟨Nat.le_of_ble_eq_true rfl, Nat.le_of_ble_eq_true rfl⟩) hW (fun r_1 M_2 H locs hp_3 hW => ?_)
  have hW : fm_W D fs_cl5 A M s.heap H locs := by rw [← hp_3.2]; exact hW
  have er_1 := hp_3.1
  refine lv_if_eq (tgt := 27) hx hb dS_look_5 (by decide) (fun c_4 => ?_) (fun c_4 => ?_)
  · refine lv_iconst (v := -1) hx hb dS_look_27 (by decide) ?_
    exact fm_iret hx hb hr hlocks hW (Or.inl ⟨rfl, rfl, fun z => z.1 ((fs_if0 er_1).1 c_4)⟩) dS_look_28
  · have h1 := (fs_if0 er_1).2 c_4
    refine lv_aload_n hx hb dS_look_8 rfl (lv_at hl 0 rfl) ?_
    refine fm_get (ci := 3) (v := .int (nI (cn 2))) (C := RS) (T := TS) (N := 11) hx hb hT inS hown hK hW hC.1 rfl 8 (by decide) (hT _ fl_S_66) (fun _ h9 => h9) rfl dS_look_9 ?_
    refine lv_bipush (v := 60) hx hb dS_look_12 (by decide) ?_
    refine lv_icmp_ge (tgt := 27) hx hb dS_look_14 (by decide) (fun c_5 => ?_) (fun c_5 => ?_)
    · refine lv_iconst (v := -1) hx hb dS_look_27 (by decide) ?_
      exact fm_iret hx hb hr hlocks hW (Or.inl ⟨rfl, rfl, fun z => z.2.1 c_5⟩) dS_look_28
    · refine lv_aload_n hx hb dS_look_17 rfl (lv_at hl 0 rfl) ?_
      refine fm_get (ci := 3) (v := .int (nI (cn 1))) (C := RS) (T := TS) (N := 11) hx hb hT inS hown hK hW hC.1 rfl 7 (by decide) (hT _ fl_S_45) (fun _ h9 => h9) rfl dS_look_18 ?_
      refine lv_sipush (v := 300) hx hb dS_look_21 (by decide) ?_
      refine lv_icmp_lt (tgt := 29) hx hb dS_look_24 (by decide) (fun c_6 => ?_) (fun c_6 => ?_)
      · have hlk : fs_lk cn a := ⟨h1, c_5, c_6⟩
        have hn2 : cn 2 < 60 := fs_cge (N := 60) (by decide) c_5 (by omega)
        obtain ⟨α, hα, rfl⟩ := fs_wire hB1 h1
        refine lv_aload_n hx hb dS_look_29 rfl (lv_at hl 0 rfl) ?_
        refine fm_get (ci := 3) (v := .int (nI (cn 2))) (C := RS) (T := TS) (N := 11) hx hb hT inS hown hK hW hC.1 rfl 8 (by decide) (hT _ fl_S_66) (fun _ h9 => h9) rfl dS_look_30 ?_
        refine lv_istore_n (lv' := [(3, .int (nI (cn 2))), (0, .ref b), (1, .int (nI α)), (2, .int rs)]) hx hb dS_look_33 rfl hl (by decide) rfl (fun ls hl => ?_)
        refine lv_aload_n hx hb dS_look_34 rfl (lv_at hl 1 rfl) ?_
        refine fm_get (ci := 3) (v := .ref (b + 1)) (C := RS) (T := TS) (N := 11) hx hb hT inS hown hK hW hC.1 rfl 0 (by decide) (hT _ fl_S_10) (fun _ h9 => h9) rfl dS_look_35 ?_
        refine lv_iload_n hx hb dS_look_38 rfl (lv_at hl 2 rfl) ?_
        refine lv_iload_n hx hb dS_look_39 rfl (lv_at hl 0 rfl) ?_
        refine fm_callr (va_runV (As := [.int (nI α), .int (nI (cn 2))]) (rest := []) ⟨hx, hb, hml, hown, hts⟩ (c_T_measure l D ct A M b (cn 0) kp pn pr α (nI (cn 2)) hC.2.1 hB1 hα) ⟨callB_of 2 hts (fs_gin co_T_measure) rfl rfl rfl (hT _ ini_T) (hT _ ml_S_69) (by decide +kernel) ⟨Nat.le_of_ble_eq_true rfl, Nat.le_of_ble_eq_true rfl⟩, hT _ im_T_measure, hT _ se_T_measure⟩ (fn_preV fs_isnw hK hN hW hC.2.1.1 rfl) rfl rfl hl.1 rfl (lv_room (Nat.le_of_ble_eq_true rfl)) dS_look_40 ⟨Nat.le_of_ble_eq_true rfl, Nat.le_of_ble_eq_true rfl⟩) hW (fun r_7 M_8 H locs hp_9 hW => ?_)
        obtain ⟨kp2, pn2, pr2, qv, t1, t2, hra, hqv, hcl⟩ := hp_9
        have hC := fs_CW_T hC t1 t2
        have hCf := fs_Cf_t hCf t2
        refine lv_astore (lv' := [(4, .ref r_7), (3, .int (nI (cn 2))), (0, .ref b), (1, .int (nI α)), (2, .int rs)]) hx hb dS_look_43 hl (by decide) rfl (fun ls hl => ?_)
        refine lv_aload_n hx hb dS_look_45 rfl (lv_at hl 2 rfl) ?_
        refine fm_get (ci := 3) (v := .ref (b + 25)) (C := RS) (T := TS) (N := 11) hx hb hT inS hown hK hW hC.1 rfl 1 (by decide) (hT _ fl_S_16) (fun _ h9 => h9) rfl dS_look_46 ?_
        refine lv_iload_n hx hb dS_look_49 rfl (lv_at hl 1 rfl) ?_
        refine lv_aload hx hb dS_look_50 (lv_at hl 0 rfl) ?_
        refine fm_getN (ci := 0) (v := .int qv.2.2.1) (C := RP) (T := TP) (N := 4) hx hb hT inP hown hK hW hqv rfl 2 (by decide) (hN _ (List.mem_of_getElem? (i := 4) rfl)) (fun _ h9 => h9) rfl dS_look_52 ?_
        refine lv_topi (fun x_10 ex_10 => ?_)
        refine fn_iast hx hb hK hW 0 hC.2.2.1 rfl (show (cn 2) < _ by omega) (by decide) dS_look_55 (fun H locs hW => ?_)
        obtain ⟨M_11, eM_11⟩ : ∃ z : fm_M, z = va_up M_8 (b + 25) (some (.inl (ct 0, 60, .inl (upd lc (cn 2) x_10)))) := ⟨_, rfl⟩
        have hW : fm_W D fs_cl5 A M_11 s.heap H locs := by rw [eM_11]; exact hW
        have hC : fs_CW ct M_11 b cn kp2 pn2 pr2 (upd lc (cn 2) x_10) lr fr od cl ck cc cr := by rw [eM_11]; exact fs_CW_lc hC _
        have hCf : fs_Cf b M M_11 := by rw [eM_11]; exact fs_Cf_u hCf (by omega) _
        have f_12 := ((congrFun eM_11 r_7).trans (fm_un (by omega))).trans hqv
        refine lv_aload_n hx hb dS_look_56 rfl (lv_at hl 2 rfl) ?_
        refine fm_get (ci := 3) (v := .ref (b + 26)) (C := RS) (T := TS) (N := 11) hx hb hT inS hown hK hW hC.1 rfl 2 (by decide) (hT _ fl_S_20) (fun _ h9 => h9) rfl dS_look_57 ?_
        refine lv_iload_n hx hb dS_look_60 rfl (lv_at hl 1 rfl) ?_
        refine lv_aload hx hb dS_look_61 (lv_at hl 0 rfl) ?_
        refine fm_getN (ci := 0) (v := .long qv.2.2.2) (C := RP) (T := TP) (N := 4) hx hb hT inP hown hK hW f_12 rfl 3 (by decide) (hN _ (List.mem_of_getElem? (i := 6) rfl)) (fun _ h9 => h9) rfl dS_look_63 ?_
        refine lv_topl (fun x_13 ex_13 => ?_)
        refine fn_last hx hb hK hW 1 hC.2.2.2.1 rfl (show (cn 2) < _ by omega) (by decide) dS_look_66 (fun H locs hW => ?_)
        obtain ⟨M_14, eM_14⟩ : ∃ z : fm_M, z = va_up M_11 (b + 26) (some (.inl (ct 1, 60, .inr (.inl (vp_updL lr (cn 2) x_13))))) := ⟨_, rfl⟩
        have hW : fm_W D fs_cl5 A M_14 s.heap H locs := by rw [eM_14]; exact hW
        have hC : fs_CW ct M_14 b cn kp2 pn2 pr2 (upd lc (cn 2) x_10) (vp_updL lr (cn 2) x_13) fr od cl ck cc cr := by rw [eM_14]; exact fs_CW_lr hC _
        have hCf : fs_Cf b M M_14 := by rw [eM_14]; exact fs_Cf_u hCf (by omega) _
        have f_15 := ((congrFun eM_14 r_7).trans (fm_un (by omega))).trans f_12
        refine lv_iload_n hx hb dS_look_67 rfl (lv_at hl 4 rfl) ?_
        refine lv_if_eq (tgt := 91) hx hb dS_look_68 (by decide) (fun c_16 => ?_) (fun c_16 => ?_)
        · refine lv_iconst (v := 0) hx hb dS_look_91 (by decide) ?_
          refine lv_istore (lv' := [(5, .int 0), (4, .ref r_7), (3, .int (nI (cn 2))), (0, .ref b), (1, .int (nI α)), (2, .int rs)]) hx hb dS_look_92 hl (by decide) rfl (fun ls hl => ?_)
          refine fm_loop (head := 94) (maxL := 6) (cn 3) (fun i (u : (Nat → fs_Q) × (Nat → Int64)) M1 => fs_CW ct M1 b cn kp2 pn2 pr2 (upd lc (cn 2) x_10) (vp_updL lr (cn 2) x_13) u.1 od u.2 ck cc cr ∧ fs_Cf b M M1 ∧ fs_Up i fr (fun j => fs_mk (fr j) (nI α) (decide (rs ≠ 0))) u.1 ∧ fs_Up i cl (fun j => cl j ||| ((fs_xOn (fr j) (nI α)).toInt64 <<< ((nI (cn 2)).toInt64 &&& 63))) u.2) (fun i (u : (Nat → fs_Q) × (Nat → Int64)) => [(5, .int (nI i)), (0, .ref b), (1, .int (nI α)), (2, .int rs), (3, .int (nI (cn 2)))]) ?_ ?_ (cn 3) 0 (by omega) (fr, cl) M_14 _ _ ls ⟨hC, hCf, fs_Up_0 _ _, fs_Up_0 _ _⟩ hW (lv_sub hl [0, 3, 4, 5, 2] rfl)
          · intro i u M2 H locs ls hi hI hW hl back
            obtain ⟨fr1, cl1⟩ := u
            obtain ⟨hC, hCf, hU, hV⟩ := hI
            have hC : fs_CW ct M2 b cn kp2 pn2 pr2 (upd lc (cn 2) x_10) (vp_updL lr (cn 2) x_13) fr1 od cl1 ck cc cr := hC
            have hU : fs_Up i fr (fun j => fs_mk (fr j) (nI α) (decide (rs ≠ 0))) fr1 := hU
            have hV : fs_Up i cl (fun j => cl j ||| ((fs_xOn (fr j) (nI α)).toInt64 <<< ((nI (cn 2)).toInt64 &&& 63))) cl1 := hV
            have hl : lv_has ls 6 [(5, .int (nI i)), (0, .ref b), (1, .int (nI α)), (2, .int rs), (3, .int (nI (cn 2)))] := hl
            refine lv_iload hx hb dS_look_94 (lv_at hl 0 rfl) ?_
            refine lv_aload_n hx hb dS_look_96 rfl (lv_at hl 1 rfl) ?_
            refine fm_get (ci := 3) (v := .int (nI (cn 3))) (C := RS) (T := TS) (N := 11) hx hb hT inS hown hK hW hC.1 rfl 9 (by decide) (hT _ fl_S_56) (fun _ h9 => h9) rfl dS_look_97 ?_
            refine lv_icmp_ge (tgt := 122) hx hb dS_look_100 (by decide) (fun c_17 => ?_) (fun c_17 => ?_)
            · exact absurd c_17 (nI_ge hi (by omega))
            · refine lv_aload_n hx hb dS_look_103 rfl (lv_at hl 1 rfl) ?_
              refine fm_get (ci := 3) (v := .ref (b + 27)) (C := RS) (T := TS) (N := 11) hx hb hT inS hown hK hW hC.1 rfl 3 (by decide) (hT _ fl_S_26) (fun _ h9 => h9) rfl dS_look_104 ?_
              refine lv_iload hx hb dS_look_107 (lv_at hl 0 rfl) ?_
              refine fm_aald hx hb hK hW 4 hC.2.2.2.2.1 rfl (vp_in_nI (N := 40) (by omega) (by decide)) (fs_rf_at (by omega)) dS_look_109 ?_
              refine lv_iload_n hx hb dS_look_110 rfl (lv_at hl 2 rfl) ?_
              refine lv_iload_n hx hb dS_look_111 rfl (lv_at hl 4 rfl) ?_
              refine lv_iload_n hx hb dS_look_112 rfl (lv_at hl 3 rfl) ?_
              refine fm_callv (va_runV (As := [.int (nI α), .int (nI (cn 2)), .int rs]) (rest := []) ⟨hx, hb, hml, hown, hts⟩ (c_F_meetLook l D ct A M2 (b + 28 + 2 * i) (b + 29 + 2 * i) (od i) (cl1 i) (ck i) (fr1 i) (nI α) (nI (cn 2)) rs (hC.2.2.2.2.2.1 i (by omega)) (hC.2.2.2.2.2.2.1 i (by omega)) (by omega)) ⟨callB_of 3 hts (fs_gin co_F_meetLook) rfl rfl rfl (hT _ ini_F) (hT _ ml_S_84) (by decide +kernel) ⟨Nat.le_of_ble_eq_true rfl, Nat.le_of_ble_eq_true rfl⟩, hT _ im_F_meetLook, hT _ se_F_meetLook⟩ (fn_preV fs_isnw hK hN hW (hC.2.2.2.2.2.1 i (by omega)) rfl) rfl rfl hl.1 rfl (lv_room (Nat.le_of_ble_eq_true rfl)) dS_look_113 ⟨Nat.le_of_ble_eq_true rfl, Nat.le_of_ble_eq_true rfl⟩) hW (fun M_19 H locs hp_20 hW => ?_)
              have hC : fs_CW ct M_19 b cn kp2 pn2 pr2 (upd lc (cn 2) x_10) (vp_updL lr (cn 2) x_13) (va_up fr1 i (fs_mk (fr1 i) (nI α) (decide (rs ≠ 0)))) od (va_up cl1 i (cl1 i ||| ((fs_xOn (fr1 i) (nI α)).toInt64 <<< ((nI (cn 2)).toInt64 &&& 63)))) ck cc cr := by rw [hp_20]; exact fs_CW_ML hC (by omega) _ _
              have hCf : fs_Cf b M M_19 := by rw [hp_20]; exact fs_Cf_u (fs_Cf_u hCf (by omega) _) (by omega) _
              have hU2 : fs_Up (i + 1) fr (fun j => fs_mk (fr j) (nI α) (decide (rs ≠ 0))) (va_up fr1 i (fs_mk (fr1 i) (nI α) (decide (rs ≠ 0)))) := fs_Up_s hU (by rw [hU.2 i (Nat.le_refl i)])
              have hV2 : fs_Up (i + 1) cl (fun j => cl j ||| ((fs_xOn (fr j) (nI α)).toInt64 <<< ((nI (cn 2)).toInt64 &&& 63))) (va_up cl1 i (cl1 i ||| ((fs_xOn (fr1 i) (nI α)).toInt64 <<< ((nI (cn 2)).toInt64 &&& 63)))) := fs_Up_s hV (by rw [hU.2 i (Nat.le_refl i), hV.2 i (Nat.le_refl i)])
              refine lv_iinc (v := nI (i + 1)) (lv' := [(5, .int (nI (i + 1))), (0, .ref b), (1, .int (nI α)), (2, .int rs), (3, .int (nI (cn 2)))]) hx hb dS_look_116 hl (k := 0) rfl (by show nI i + 1 = nI (i + 1); exact nI_1 i) (by decide) rfl (fun ls hl => ?_)
              refine lv_goto (tgt := 94) hx hb dS_look_119 (by decide) ?_
              exact back (va_up fr1 i (fs_mk (fr1 i) (nI α) (decide (rs ≠ 0))), va_up cl1 i (cl1 i ||| ((fs_xOn (fr1 i) (nI α)).toInt64 <<< ((nI (cn 2)).toInt64 &&& 63)))) _ _ _ ls ⟨hC, hCf, hU2, hV2⟩ hW (lv_sub hl [0, 1, 2, 3, 4] rfl)
          · intro u M2 H locs ls hI hW hl
            obtain ⟨fr1, cl1⟩ := u
            obtain ⟨hC, hCf, hU, hV⟩ := hI
            have hC : fs_CW ct M2 b cn kp2 pn2 pr2 (upd lc (cn 2) x_10) (vp_updL lr (cn 2) x_13) fr1 od cl1 ck cc cr := hC
            have hU : fs_Up (cn 3) fr (fun j => fs_mk (fr j) (nI α) (decide (rs ≠ 0))) fr1 := hU
            have hV : fs_Up (cn 3) cl (fun j => cl j ||| ((fs_xOn (fr j) (nI α)).toInt64 <<< ((nI (cn 2)).toInt64 &&& 63))) cl1 := hV
            have hl : lv_has ls 6 [(5, .int (nI (cn 3))), (0, .ref b), (1, .int (nI α)), (2, .int rs), (3, .int (nI (cn 2)))] := hl
            refine lv_iload hx hb dS_look_94 (lv_at hl 0 rfl) ?_
            refine lv_aload_n hx hb dS_look_96 rfl (lv_at hl 1 rfl) ?_
            refine fm_get (ci := 3) (v := .int (nI (cn 3))) (C := RS) (T := TS) (N := 11) hx hb hT inS hown hK hW hC.1 rfl 9 (by decide) (hT _ fl_S_56) (fun _ h9 => h9) rfl dS_look_97 ?_
            refine lv_icmp_ge (tgt := 122) hx hb dS_look_100 (by decide) (fun c_21 => ?_) (fun c_21 => ?_)
            · refine lv_aload_n hx hb dS_look_122 rfl (lv_at hl 1 rfl) ?_
              refine lv_dup hx hb dS_look_123 rfl ?_
              refine fm_get (ci := 3) (v := .int (nI (cn 2))) (C := RS) (T := TS) (N := 11) hx hb hT inS hown hK hW hC.1 rfl 8 (by decide) (hT _ fl_S_66) (fun _ h9 => h9) rfl dS_look_124 ?_
              refine lv_iconst (v := 1) hx hb dS_look_127 (by decide) ?_
              refine lv_iadd hx hb dS_look_128 ?_
              refine fm_put (ci := 3) (v := .int ((nI (cn 2)) + 1)) (ty := .int) (C := RS) (T := TS) (N := 11) hx hb hT inS tyS tkS nmS hown hK hW hC.1 rfl 8 (by decide) (hT _ fl_S_66) (fun _ h9 => h9) rfl (by decide +kernel) rfl rfl (Nat.le_of_ble_eq_true rfl) dS_look_129 (fun H locs hW => ?_)
              obtain ⟨M_22, eM_22⟩ : ∃ z : fm_M, z = va_up M2 b (some (.inr (3, [.ref (b + 1), .ref (b + 25), .ref (b + 26), .ref (b + 27), .ref (b + 108), .ref (b + 109), .int (nI (cn 0)), .int (nI (cn 1)), .int ((nI (cn 2)) + 1), .int (nI (cn 3)), .int (nI (cn 4))]))) := ⟨_, rfl⟩
              have hW : fm_W D fs_cl5 A M_22 s.heap H locs := by rw [eM_22]; exact hW
              have f_23 : M_22 b = some (.inr (3, [.ref (b + 1), .ref (b + 25), .ref (b + 26), .ref (b + 27), .ref (b + 108), .ref (b + 109), .int (nI (cn 0)), .int (nI (cn 1)), .int ((nI (cn 2)) + 1), .int (nI (cn 3)), .int (nI (cn 4))])) := by rw [eM_22]; exact fm_us
              refine lv_aload_n hx hb dS_look_132 rfl (lv_at hl 1 rfl) ?_
              refine lv_dup hx hb dS_look_133 rfl ?_
              refine fm_get (ci := 3) (v := .int (nI (cn 1))) (C := RS) (T := TS) (N := 11) hx hb hT inS hown hK hW f_23 rfl 7 (by decide) (hT _ fl_S_45) (fun _ h9 => h9) rfl dS_look_134 ?_
              refine lv_iconst (v := 1) hx hb dS_look_137 (by decide) ?_
              refine lv_iadd hx hb dS_look_138 ?_
              refine fm_put (ci := 3) (v := .int ((nI (cn 1)) + 1)) (ty := .int) (C := RS) (T := TS) (N := 11) hx hb hT inS tyS tkS nmS hown hK hW f_23 rfl 7 (by decide) (hT _ fl_S_45) (fun _ h9 => h9) rfl (by decide +kernel) rfl rfl (Nat.le_of_ble_eq_true rfl) dS_look_139 (fun H locs hW => ?_)
              obtain ⟨M_24, eM_24⟩ : ∃ z : fm_M, z = va_up M_22 b (some (.inr (3, [.ref (b + 1), .ref (b + 25), .ref (b + 26), .ref (b + 27), .ref (b + 108), .ref (b + 109), .int (nI (cn 0)), .int ((nI (cn 1)) + 1), .int ((nI (cn 2)) + 1), .int (nI (cn 3)), .int (nI (cn 4))]))) := ⟨_, rfl⟩
              have hW : fm_W D fs_cl5 A M_24 s.heap H locs := by rw [eM_24]; exact hW
              have f_25 : M_24 b = some (.inr (3, [.ref (b + 1), .ref (b + 25), .ref (b + 26), .ref (b + 27), .ref (b + 108), .ref (b + 109), .int (nI (cn 0)), .int ((nI (cn 1)) + 1), .int ((nI (cn 2)) + 1), .int (nI (cn 3)), .int (nI (cn 4))])) := by rw [eM_24]; exact fm_us
              have zM_24 : M_24 = va_up M2 b (some (fs_SE b (va_up (va_up cn 2 (cn 2 + 1)) 1 (cn 1 + 1)))) := by
                rw [eM_24, eM_22, fm_uu]
                rw [nI_1, nI_1]; rfl
              have hC : fs_CW ct M_24 b (va_up (va_up cn 2 (cn 2 + 1)) 1 (cn 1 + 1)) kp2 pn2 pr2 (upd lc (cn 2) x_10) (vp_updL lr (cn 2) x_13) fr1 od cl1 ck cc cr := by rw [zM_24]; exact fs_CW_S hC rfl
              have hCf : fs_Cf b M M_24 := by rw [zM_24]; exact fs_Cf_u hCf (by omega) _
              refine lv_iload_n hx hb dS_look_142 rfl (lv_at hl 4 rfl) ?_
              exact fm_iret hx hb hr hlocks hW (Or.inr ⟨rfl, hlk, α, rfl, hα, kp2, _, pn2, fr1, pr2, cl1, _, _, hC, hCf, by rw [ex_10, ex_13]; exact hcl, fun i hi => (if_neg (fun z => z.1 c_16)).symm, fun i hi => hU.1 i hi, fun i hi => hV.1 i hi⟩) dS_look_143
            · exact absurd (nI_le (Nat.le_refl (cn 3)) (by omega)) c_21
        · refine lv_aload_n hx hb dS_look_71 rfl (lv_at hl 2 rfl) ?_
          refine fm_get (ci := 3) (v := .ref (b + 1)) (C := RS) (T := TS) (N := 11) hx hb hT inS hown hK hW hC.1 rfl 0 (by decide) (hT _ fl_S_10) (fun _ h9 => h9) rfl dS_look_72 ?_
          refine lv_iload_n hx hb dS_look_75 rfl (lv_at hl 3 rfl) ?_
          refine lv_aload_n hx hb dS_look_76 rfl (lv_at hl 2 rfl) ?_
          refine fm_get (ci := 3) (v := .ref (b + 25)) (C := RS) (T := TS) (N := 11) hx hb hT inS hown hK hW hC.1 rfl 1 (by decide) (hT _ fl_S_16) (fun _ h9 => h9) rfl dS_look_77 ?_
          refine lv_iload_n hx hb dS_look_80 rfl (lv_at hl 1 rfl) ?_
          refine fn_iald hx hb hK hW 0 hC.2.2.1 rfl (show (cn 2) < _ by omega) (by decide) dS_look_81 ?_
          refine lv_aload_n hx hb dS_look_82 rfl (lv_at hl 2 rfl) ?_
          refine fm_get (ci := 3) (v := .ref (b + 26)) (C := RS) (T := TS) (N := 11) hx hb hT inS hown hK hW hC.1 rfl 2 (by decide) (hT _ fl_S_20) (fun _ h9 => h9) rfl dS_look_83 ?_
          refine lv_iload_n hx hb dS_look_86 rfl (lv_at hl 1 rfl) ?_
          refine fn_lald hx hb hK hW 1 hC.2.2.2.1 rfl (show (cn 2) < _ by omega) (by decide) dS_look_87 ?_
          refine fm_callv (va_runV (As := [.int (nI α), .int ((upd lc (cn 2) x_10) (cn 2)), .long ((vp_updL lr (cn 2) x_13) (cn 2))]) (rest := []) ⟨hx, hb, hml, hown, hts⟩ (c_T_flipIfTold l D ct A M_14 b (cn 0) kp2 pn2 pr2 α ((upd lc (cn 2) x_10) (cn 2)) ((vp_updL lr (cn 2) x_13) (cn 2)) hC.2.1 hB1 hα) ⟨callB_of 3 hts (fs_gin co_T_flipIfTold) rfl rfl rfl (hT _ ini_T) (hT _ ml_S_80) (by decide +kernel) ⟨Nat.le_of_ble_eq_true rfl, Nat.le_of_ble_eq_true rfl⟩, hT _ im_T_flipIfTold, hT _ se_T_flipIfTold⟩ (fn_preV fs_isnw hK hN hW hC.2.1.1 rfl) rfl rfl hl.1 rfl (lv_room (Nat.le_of_ble_eq_true rfl)) dS_look_88 ⟨Nat.le_of_ble_eq_true rfl, Nat.le_of_ble_eq_true rfl⟩) hW (fun M_27 H locs hp_28 hW => ?_)
          obtain ⟨kp3, t5, t6, t7⟩ := hp_28
          have hC := fs_CW_T hC t5 t6
          have hCf := fs_Cf_t hCf t6
          rw [pk_us, pk_uLs] at t7
          refine lv_iconst (v := 0) hx hb dS_look_91 (by decide) ?_
          refine lv_istore (lv' := [(5, .int 0), (4, .ref r_7), (3, .int (nI (cn 2))), (0, .ref b), (1, .int (nI α)), (2, .int rs)]) hx hb dS_look_92 hl (by decide) rfl (fun ls hl => ?_)
          refine fm_loop (head := 94) (maxL := 6) (cn 3) (fun i (u : (Nat → fs_Q) × (Nat → Int64)) M1 => fs_CW ct M1 b cn kp3 pn2 pr2 (upd lc (cn 2) x_10) (vp_updL lr (cn 2) x_13) u.1 od u.2 ck cc cr ∧ fs_Cf b M M1 ∧ fs_Up i fr (fun j => fs_mk (fr j) (nI α) (decide (rs ≠ 0))) u.1 ∧ fs_Up i cl (fun j => cl j ||| ((fs_xOn (fr j) (nI α)).toInt64 <<< ((nI (cn 2)).toInt64 &&& 63))) u.2) (fun i (u : (Nat → fs_Q) × (Nat → Int64)) => [(5, .int (nI i)), (0, .ref b), (1, .int (nI α)), (2, .int rs), (3, .int (nI (cn 2)))]) ?_ ?_ (cn 3) 0 (by omega) (fr, cl) M_27 _ _ ls ⟨hC, hCf, fs_Up_0 _ _, fs_Up_0 _ _⟩ hW (lv_sub hl [0, 3, 4, 5, 2] rfl)
          · intro i u M2 H locs ls hi hI hW hl back
            obtain ⟨fr1, cl1⟩ := u
            obtain ⟨hC, hCf, hU, hV⟩ := hI
            have hC : fs_CW ct M2 b cn kp3 pn2 pr2 (upd lc (cn 2) x_10) (vp_updL lr (cn 2) x_13) fr1 od cl1 ck cc cr := hC
            have hU : fs_Up i fr (fun j => fs_mk (fr j) (nI α) (decide (rs ≠ 0))) fr1 := hU
            have hV : fs_Up i cl (fun j => cl j ||| ((fs_xOn (fr j) (nI α)).toInt64 <<< ((nI (cn 2)).toInt64 &&& 63))) cl1 := hV
            have hl : lv_has ls 6 [(5, .int (nI i)), (0, .ref b), (1, .int (nI α)), (2, .int rs), (3, .int (nI (cn 2)))] := hl
            refine lv_iload hx hb dS_look_94 (lv_at hl 0 rfl) ?_
            refine lv_aload_n hx hb dS_look_96 rfl (lv_at hl 1 rfl) ?_
            refine fm_get (ci := 3) (v := .int (nI (cn 3))) (C := RS) (T := TS) (N := 11) hx hb hT inS hown hK hW hC.1 rfl 9 (by decide) (hT _ fl_S_56) (fun _ h9 => h9) rfl dS_look_97 ?_
            refine lv_icmp_ge (tgt := 122) hx hb dS_look_100 (by decide) (fun c_29 => ?_) (fun c_29 => ?_)
            · exact absurd c_29 (nI_ge hi (by omega))
            · refine lv_aload_n hx hb dS_look_103 rfl (lv_at hl 1 rfl) ?_
              refine fm_get (ci := 3) (v := .ref (b + 27)) (C := RS) (T := TS) (N := 11) hx hb hT inS hown hK hW hC.1 rfl 3 (by decide) (hT _ fl_S_26) (fun _ h9 => h9) rfl dS_look_104 ?_
              refine lv_iload hx hb dS_look_107 (lv_at hl 0 rfl) ?_
              refine fm_aald hx hb hK hW 4 hC.2.2.2.2.1 rfl (vp_in_nI (N := 40) (by omega) (by decide)) (fs_rf_at (by omega)) dS_look_109 ?_
              refine lv_iload_n hx hb dS_look_110 rfl (lv_at hl 2 rfl) ?_
              refine lv_iload_n hx hb dS_look_111 rfl (lv_at hl 4 rfl) ?_
              refine lv_iload_n hx hb dS_look_112 rfl (lv_at hl 3 rfl) ?_
              refine fm_callv (va_runV (As := [.int (nI α), .int (nI (cn 2)), .int rs]) (rest := []) ⟨hx, hb, hml, hown, hts⟩ (c_F_meetLook l D ct A M2 (b + 28 + 2 * i) (b + 29 + 2 * i) (od i) (cl1 i) (ck i) (fr1 i) (nI α) (nI (cn 2)) rs (hC.2.2.2.2.2.1 i (by omega)) (hC.2.2.2.2.2.2.1 i (by omega)) (by omega)) ⟨callB_of 3 hts (fs_gin co_F_meetLook) rfl rfl rfl (hT _ ini_F) (hT _ ml_S_84) (by decide +kernel) ⟨Nat.le_of_ble_eq_true rfl, Nat.le_of_ble_eq_true rfl⟩, hT _ im_F_meetLook, hT _ se_F_meetLook⟩ (fn_preV fs_isnw hK hN hW (hC.2.2.2.2.2.1 i (by omega)) rfl) rfl rfl hl.1 rfl (lv_room (Nat.le_of_ble_eq_true rfl)) dS_look_113 ⟨Nat.le_of_ble_eq_true rfl, Nat.le_of_ble_eq_true rfl⟩) hW (fun M_31 H locs hp_32 hW => ?_)
              have hC : fs_CW ct M_31 b cn kp3 pn2 pr2 (upd lc (cn 2) x_10) (vp_updL lr (cn 2) x_13) (va_up fr1 i (fs_mk (fr1 i) (nI α) (decide (rs ≠ 0)))) od (va_up cl1 i (cl1 i ||| ((fs_xOn (fr1 i) (nI α)).toInt64 <<< ((nI (cn 2)).toInt64 &&& 63)))) ck cc cr := by rw [hp_32]; exact fs_CW_ML hC (by omega) _ _
              have hCf : fs_Cf b M M_31 := by rw [hp_32]; exact fs_Cf_u (fs_Cf_u hCf (by omega) _) (by omega) _
              have hU2 : fs_Up (i + 1) fr (fun j => fs_mk (fr j) (nI α) (decide (rs ≠ 0))) (va_up fr1 i (fs_mk (fr1 i) (nI α) (decide (rs ≠ 0)))) := fs_Up_s hU (by rw [hU.2 i (Nat.le_refl i)])
              have hV2 : fs_Up (i + 1) cl (fun j => cl j ||| ((fs_xOn (fr j) (nI α)).toInt64 <<< ((nI (cn 2)).toInt64 &&& 63))) (va_up cl1 i (cl1 i ||| ((fs_xOn (fr1 i) (nI α)).toInt64 <<< ((nI (cn 2)).toInt64 &&& 63)))) := fs_Up_s hV (by rw [hU.2 i (Nat.le_refl i), hV.2 i (Nat.le_refl i)])
              refine lv_iinc (v := nI (i + 1)) (lv' := [(5, .int (nI (i + 1))), (0, .ref b), (1, .int (nI α)), (2, .int rs), (3, .int (nI (cn 2)))]) hx hb dS_look_116 hl (k := 0) rfl (by show nI i + 1 = nI (i + 1); exact nI_1 i) (by decide) rfl (fun ls hl => ?_)
              refine lv_goto (tgt := 94) hx hb dS_look_119 (by decide) ?_
              exact back (va_up fr1 i (fs_mk (fr1 i) (nI α) (decide (rs ≠ 0))), va_up cl1 i (cl1 i ||| ((fs_xOn (fr1 i) (nI α)).toInt64 <<< ((nI (cn 2)).toInt64 &&& 63)))) _ _ _ ls ⟨hC, hCf, hU2, hV2⟩ hW (lv_sub hl [0, 1, 2, 3, 4] rfl)
          · intro u M2 H locs ls hI hW hl
            obtain ⟨fr1, cl1⟩ := u
            obtain ⟨hC, hCf, hU, hV⟩ := hI
            have hC : fs_CW ct M2 b cn kp3 pn2 pr2 (upd lc (cn 2) x_10) (vp_updL lr (cn 2) x_13) fr1 od cl1 ck cc cr := hC
            have hU : fs_Up (cn 3) fr (fun j => fs_mk (fr j) (nI α) (decide (rs ≠ 0))) fr1 := hU
            have hV : fs_Up (cn 3) cl (fun j => cl j ||| ((fs_xOn (fr j) (nI α)).toInt64 <<< ((nI (cn 2)).toInt64 &&& 63))) cl1 := hV
            have hl : lv_has ls 6 [(5, .int (nI (cn 3))), (0, .ref b), (1, .int (nI α)), (2, .int rs), (3, .int (nI (cn 2)))] := hl
            refine lv_iload hx hb dS_look_94 (lv_at hl 0 rfl) ?_
            refine lv_aload_n hx hb dS_look_96 rfl (lv_at hl 1 rfl) ?_
            refine fm_get (ci := 3) (v := .int (nI (cn 3))) (C := RS) (T := TS) (N := 11) hx hb hT inS hown hK hW hC.1 rfl 9 (by decide) (hT _ fl_S_56) (fun _ h9 => h9) rfl dS_look_97 ?_
            refine lv_icmp_ge (tgt := 122) hx hb dS_look_100 (by decide) (fun c_33 => ?_) (fun c_33 => ?_)
            · refine lv_aload_n hx hb dS_look_122 rfl (lv_at hl 1 rfl) ?_
              refine lv_dup hx hb dS_look_123 rfl ?_
              refine fm_get (ci := 3) (v := .int (nI (cn 2))) (C := RS) (T := TS) (N := 11) hx hb hT inS hown hK hW hC.1 rfl 8 (by decide) (hT _ fl_S_66) (fun _ h9 => h9) rfl dS_look_124 ?_
              refine lv_iconst (v := 1) hx hb dS_look_127 (by decide) ?_
              refine lv_iadd hx hb dS_look_128 ?_
              refine fm_put (ci := 3) (v := .int ((nI (cn 2)) + 1)) (ty := .int) (C := RS) (T := TS) (N := 11) hx hb hT inS tyS tkS nmS hown hK hW hC.1 rfl 8 (by decide) (hT _ fl_S_66) (fun _ h9 => h9) rfl (by decide +kernel) rfl rfl (Nat.le_of_ble_eq_true rfl) dS_look_129 (fun H locs hW => ?_)
              obtain ⟨M_34, eM_34⟩ : ∃ z : fm_M, z = va_up M2 b (some (.inr (3, [.ref (b + 1), .ref (b + 25), .ref (b + 26), .ref (b + 27), .ref (b + 108), .ref (b + 109), .int (nI (cn 0)), .int (nI (cn 1)), .int ((nI (cn 2)) + 1), .int (nI (cn 3)), .int (nI (cn 4))]))) := ⟨_, rfl⟩
              have hW : fm_W D fs_cl5 A M_34 s.heap H locs := by rw [eM_34]; exact hW
              have f_35 : M_34 b = some (.inr (3, [.ref (b + 1), .ref (b + 25), .ref (b + 26), .ref (b + 27), .ref (b + 108), .ref (b + 109), .int (nI (cn 0)), .int (nI (cn 1)), .int ((nI (cn 2)) + 1), .int (nI (cn 3)), .int (nI (cn 4))])) := by rw [eM_34]; exact fm_us
              refine lv_aload_n hx hb dS_look_132 rfl (lv_at hl 1 rfl) ?_
              refine lv_dup hx hb dS_look_133 rfl ?_
              refine fm_get (ci := 3) (v := .int (nI (cn 1))) (C := RS) (T := TS) (N := 11) hx hb hT inS hown hK hW f_35 rfl 7 (by decide) (hT _ fl_S_45) (fun _ h9 => h9) rfl dS_look_134 ?_
              refine lv_iconst (v := 1) hx hb dS_look_137 (by decide) ?_
              refine lv_iadd hx hb dS_look_138 ?_
              refine fm_put (ci := 3) (v := .int ((nI (cn 1)) + 1)) (ty := .int) (C := RS) (T := TS) (N := 11) hx hb hT inS tyS tkS nmS hown hK hW f_35 rfl 7 (by decide) (hT _ fl_S_45) (fun _ h9 => h9) rfl (by decide +kernel) rfl rfl (Nat.le_of_ble_eq_true rfl) dS_look_139 (fun H locs hW => ?_)
              obtain ⟨M_36, eM_36⟩ : ∃ z : fm_M, z = va_up M_34 b (some (.inr (3, [.ref (b + 1), .ref (b + 25), .ref (b + 26), .ref (b + 27), .ref (b + 108), .ref (b + 109), .int (nI (cn 0)), .int ((nI (cn 1)) + 1), .int ((nI (cn 2)) + 1), .int (nI (cn 3)), .int (nI (cn 4))]))) := ⟨_, rfl⟩
              have hW : fm_W D fs_cl5 A M_36 s.heap H locs := by rw [eM_36]; exact hW
              have f_37 : M_36 b = some (.inr (3, [.ref (b + 1), .ref (b + 25), .ref (b + 26), .ref (b + 27), .ref (b + 108), .ref (b + 109), .int (nI (cn 0)), .int ((nI (cn 1)) + 1), .int ((nI (cn 2)) + 1), .int (nI (cn 3)), .int (nI (cn 4))])) := by rw [eM_36]; exact fm_us
              have zM_36 : M_36 = va_up M2 b (some (fs_SE b (va_up (va_up cn 2 (cn 2 + 1)) 1 (cn 1 + 1)))) := by
                rw [eM_36, eM_34, fm_uu]
                rw [nI_1, nI_1]; rfl
              have hC : fs_CW ct M_36 b (va_up (va_up cn 2 (cn 2 + 1)) 1 (cn 1 + 1)) kp3 pn2 pr2 (upd lc (cn 2) x_10) (vp_updL lr (cn 2) x_13) fr1 od cl1 ck cc cr := by rw [zM_36]; exact fs_CW_S hC rfl
              have hCf : fs_Cf b M M_36 := by rw [zM_36]; exact fs_Cf_u hCf (by omega) _
              refine lv_iload_n hx hb dS_look_142 rfl (lv_at hl 4 rfl) ?_
              exact fm_iret hx hb hr hlocks hW (Or.inr ⟨rfl, hlk, α, rfl, hα, kp2, _, pn2, fr1, pr2, cl1, _, _, hC, hCf, by rw [ex_10, ex_13]; exact hcl, fun i hi => by rw [t7 i hi]; by_cases z : bt (kp2 i).2.1 α = true; rw [if_pos z, if_pos ⟨c_16, z⟩]; rw [if_neg z, if_neg (fun y => z y.2)], fun i hi => hU.1 i hi, fun i hi => hV.1 i hi⟩) dS_look_143
            · exact absurd (nI_le (Nat.le_refl (cn 3)) (by omega)) c_33
      · refine lv_iconst (v := -1) hx hb dS_look_27 (by decide) ?_
        exact fm_iret hx hb hr hlocks hW (Or.inl ⟨rfl, rfl, fun z => c_6 z.2.2⟩) dS_look_28
def fs_fk (cn : Nat → Nat) (wh a k : Int32) : Prop := ¬ wh < 0 ∧ ¬ 2 < wh ∧ ¬ (a < 0 ∨ nI (cn 0) ≤ a) ∧ ¬ k < 0 ∧ k ≤ 16 ∧ ¬ 40 ≤ nI (cn 3) ∧ nI (cn 1) < 300
theorem fs_w3 {x : Int32} (h1 : ¬ x < 0) (h2 : ¬ 2 < x) : x = 0 ∨ x = 1 ∨ x = 2 := by
  obtain ⟨j, hj, rfl⟩ := nI_of2 (M := 2) (n := 2) rfl h1 (Int32.not_lt.mp h2)
  rcases (show j = 0 ∨ j = 1 ∨ j = 2 by omega) with rfl | rfl | rfl
  · exact Or.inl rfl
  · exact Or.inr (Or.inl rfl)
  · exact Or.inr (Or.inr rfl)
set_option maxHeartbeats 4000000 in
set_option maxRecDepth 100000 in
theorem c_S_fault (l : Launch) (D : va_G) (ct : Nat → ClassId) (A : Nat → Prop) (M : fm_M) (b : Nat) (cn : Nat → Nat) (kp pn : Nat → fs_Q) (pr : fs_Q) (lc : Nat → Int32) (lr : Nat → Int64) (fr : Nat → fs_Q) (od : Nat → Int32) (cl : Nat → Int64) (ck : Nat → Int32) (cc : Nat → Int32) (cr : Nat → Int64) (wh a k : Int32) (hC : fs_CW ct M b cn kp pn pr lc lr fr od cl ck cc cr) (hB : fs_Bd cn) : Met l yS_fault wS_fault ({ frames := 2, cells := 0, slots := 0, locals := 47 }) (va_Pc [.ref b, .int wh, .int a, .int k] (fm_St D fs_cl5 (fs_tys ct) fs_nw A M)) (va_Qi (fun (r : Int32) (M1 : fm_M) => (r = -1 ∧ M1 = M ∧ ¬ fs_fk cn wh a k) ∨ (r = nI (cn 3) ∧ fs_fk cn wh a k ∧ fs_CW ct M1 b (va_up (va_up cn 3 (cn 3 + 1)) 1 (cn 1 + 1)) kp pn pr lc lr (va_up fr (cn 3) (fs_fx wh a, fs_fz wh a, 0, 0)) (va_up od (cn 3) k) (va_up cl (cn 3) 0) (va_up ck (cn 3) 0) cc cr ∧ fs_Cf b M M1)) (fm_B D fs_cl5 A) A) 0 0 A := by
  refine Met.ofW (cc := cS_fault) (maxL := 5) (ret := (some .int)) (by decide) rfl ?_
  intro p e s m args below meth c s₁ B hml hv
  obtain ⟨rfl, hP0, hA0, hA1, hK, hN⟩ := hv
  have hx := B.exec
  have hb := B.bytes
  have hr := B.returns
  have hts := atoms_spec (ws := wS_fault) B.pre
  have hT : ∀ w ∈ fs_tb, w.before _ s = true := fun w h => hts w (List.mem_cons_of_mem _ h)
  have hown : s.vm.findClass "FrameSamples" = some m.cls := findClass_of_methodNamed B.named
  have hlocks := B.notSynchronized
  have hW : fm_W D fs_cl5 A M s.heap s.heap [] := ⟨hP0, hA0, va_S.rf, hA1⟩
  have hl := lv_entry ([.ref b, .int wh, .int a, .int k]) (n := 5) (Nat.le_of_ble_eq_true rfl)
  rw [lg_entry_eq]
  generalize (lg_sl ([.ref b, .int wh, .int a, .int k]) ++ List.replicate (5 - (lg_sl ([.ref b, .int wh, .int a, .int k])).length) Slot.unset).toArray = ls at hl ⊢
  have hl : lv_has ls 5 [(0, .ref b), (1, .int wh), (2, .int a), (3, .int k)] := hl
  obtain ⟨hB0, hB1, hB2, hB3, hB4, hB5⟩ := hB
  have hCf : fs_Cf b M M := fs_Cf_r
  refine lv_iload_n hx hb dS_fault_0 rfl (lv_at hl 1 rfl) ?_
  refine lv_if_lt (tgt := 27) hx hb dS_fault_1 (by decide) (fun c_1 => ?_) (fun c_1 => ?_)
  · refine lv_iconst (v := -1) hx hb dS_fault_27 (by decide) ?_
    exact fm_iret hx hb hr hlocks hW (Or.inl ⟨rfl, rfl, fun z => z.1 c_1⟩) dS_fault_28
  · refine lv_iload_n hx hb dS_fault_4 rfl (lv_at hl 1 rfl) ?_
    refine lv_iconst (v := 2) hx hb dS_fault_5 (by decide) ?_
    refine lv_icmp_gt (tgt := 27) hx hb dS_fault_6 (by decide) (fun c_2 => ?_) (fun c_2 => ?_)
    · refine lv_iconst (v := -1) hx hb dS_fault_27 (by decide) ?_
      exact fm_iret hx hb hr hlocks hW (Or.inl ⟨rfl, rfl, fun z => z.2.1 c_2⟩) dS_fault_28
    · refine lv_aload_n hx hb dS_fault_9 rfl (lv_at hl 0 rfl) ?_
      refine lv_iload_n hx hb dS_fault_10 rfl (lv_at hl 2 rfl) ?_
      refine fm_calli (va_runV (As := [.int a]) (rest := []) ⟨hx, hb, hml, hown, hts⟩ (c_S_isWire l D ct A M b cn a hC.1) ⟨callB_of 1 hts (fs_gin co_S_isWire) rfl rfl rfl (hT _ ini_S) (hT _ ml_S_41) (by decide +kernel) ⟨Nat.le_of_ble_eq_true rfl, Nat.le_of_ble_eq_true rfl⟩, hT _ im_S_isWire, hT _ se_S_isWire⟩ (fn_preV fs_isnw hK hN hW hC.1 rfl) rfl rfl hl.1 rfl (lv_room (Nat.le_of_ble_eq_true rfl)) dS_fault_11 ⟨Nat.le_of_ble_eq_true rfl, Nat.le_of_ble_eq_true rfl⟩) hW (fun r_3 M_4 H locs hp_5 hW => ?_)
      have hW : fm_W D fs_cl5 A M s.heap H locs := by rw [← hp_5.2]; exact hW
      have er_3 := hp_5.1
      refine lv_if_eq (tgt := 27) hx hb dS_fault_14 (by decide) (fun c_6 => ?_) (fun c_6 => ?_)
      · refine lv_iconst (v := -1) hx hb dS_fault_27 (by decide) ?_
        exact fm_iret hx hb hr hlocks hW (Or.inl ⟨rfl, rfl, fun z => z.2.2.1 ((fs_if0 er_3).1 c_6)⟩) dS_fault_28
      · have h3 := (fs_if0 er_3).2 c_6
        refine lv_iload_n hx hb dS_fault_17 rfl (lv_at hl 3 rfl) ?_
        refine lv_if_lt (tgt := 27) hx hb dS_fault_18 (by decide) (fun c_7 => ?_) (fun c_7 => ?_)
        · refine lv_iconst (v := -1) hx hb dS_fault_27 (by decide) ?_
          exact fm_iret hx hb hr hlocks hW (Or.inl ⟨rfl, rfl, fun z => z.2.2.2.1 c_7⟩) dS_fault_28
        · refine lv_iload_n hx hb dS_fault_21 rfl (lv_at hl 3 rfl) ?_
          refine lv_bipush (v := 16) hx hb dS_fault_22 (by decide) ?_
          refine lv_icmp_le (tgt := 29) hx hb dS_fault_24 (by decide) (fun c_8 => ?_) (fun c_8 => ?_)
          · refine lv_aload_n hx hb dS_fault_29 rfl (lv_at hl 0 rfl) ?_
            refine fm_get (ci := 3) (v := .int (nI (cn 3))) (C := RS) (T := TS) (N := 11) hx hb hT inS hown hK hW hC.1 rfl 9 (by decide) (hT _ fl_S_56) (fun _ h9 => h9) rfl dS_fault_30 ?_
            refine lv_bipush (v := 40) hx hb dS_fault_33 (by decide) ?_
            refine lv_icmp_ge (tgt := 48) hx hb dS_fault_35 (by decide) (fun c_9 => ?_) (fun c_9 => ?_)
            · refine lv_iconst (v := -1) hx hb dS_fault_48 (by decide) ?_
              exact fm_iret hx hb hr hlocks hW (Or.inl ⟨rfl, rfl, fun z => z.2.2.2.2.2.1 c_9⟩) dS_fault_49
            · refine lv_aload_n hx hb dS_fault_38 rfl (lv_at hl 0 rfl) ?_
              refine fm_get (ci := 3) (v := .int (nI (cn 1))) (C := RS) (T := TS) (N := 11) hx hb hT inS hown hK hW hC.1 rfl 7 (by decide) (hT _ fl_S_45) (fun _ h9 => h9) rfl dS_fault_39 ?_
              refine lv_sipush (v := 300) hx hb dS_fault_42 (by decide) ?_
              refine lv_icmp_lt (tgt := 50) hx hb dS_fault_45 (by decide) (fun c_10 => ?_) (fun c_10 => ?_)
              · have hfk : fs_fk cn wh a k := ⟨c_1, c_2, h3, c_7, c_8, c_9, c_10⟩
                have hn3 : cn 3 < 40 := fs_cge (N := 40) (by decide) c_9 (by omega)
                refine lv_aload_n hx hb dS_fault_50 rfl (lv_at hl 0 rfl) ?_
                refine fm_get (ci := 3) (v := .int (nI (cn 3))) (C := RS) (T := TS) (N := 11) hx hb hT inS hown hK hW hC.1 rfl 9 (by decide) (hT _ fl_S_56) (fun _ h9 => h9) rfl dS_fault_51 ?_
                refine lv_istore (lv' := [(4, .int (nI (cn 3))), (0, .ref b), (1, .int wh), (2, .int a), (3, .int k)]) hx hb dS_fault_54 hl (by decide) rfl (fun ls hl => ?_)
                refine lv_aload_n hx hb dS_fault_56 rfl (lv_at hl 1 rfl) ?_
                refine fm_get (ci := 3) (v := .ref (b + 27)) (C := RS) (T := TS) (N := 11) hx hb hT inS hown hK hW hC.1 rfl 3 (by decide) (hT _ fl_S_26) (fun _ h9 => h9) rfl dS_fault_57 ?_
                refine lv_iload hx hb dS_fault_60 (lv_at hl 0 rfl) ?_
                refine fm_aald hx hb hK hW 4 hC.2.2.2.2.1 rfl (vp_in_nI (N := 40) (by omega) (by decide)) (fs_rf_at (by omega)) dS_fault_62 ?_
                refine lv_iload_n hx hb dS_fault_63 rfl (lv_at hl 2 rfl) ?_
                refine lv_iload_n hx hb dS_fault_64 rfl (lv_at hl 3 rfl) ?_
                refine lv_iload_n hx hb dS_fault_65 rfl (lv_at hl 4 rfl) ?_
                refine fm_callv (va_runV (As := [.int wh, .int a, .int k]) (rest := []) ⟨hx, hb, hml, hown, hts⟩ (c_F_start l D ct A M (b + 28 + 2 * (cn 3)) (b + 29 + 2 * (cn 3)) (od (cn 3)) (cl (cn 3)) (ck (cn 3)) (fr (cn 3)) wh a k (hC.2.2.2.2.2.1 (cn 3) (by omega)) (hC.2.2.2.2.2.2.1 (cn 3) (by omega)) (by omega) (fs_w3 c_1 c_2)) ⟨callB_of 3 hts (fs_gin co_F_start) rfl rfl rfl (hT _ ini_F) (hT _ ml_S_88) (by decide +kernel) ⟨Nat.le_of_ble_eq_true rfl, Nat.le_of_ble_eq_true rfl⟩, hT _ im_F_start, hT _ se_F_start⟩ (fn_preV fs_isnw hK hN hW (hC.2.2.2.2.2.1 (cn 3) (by omega)) rfl) rfl rfl hl.1 rfl (lv_room (Nat.le_of_ble_eq_true rfl)) dS_fault_66 ⟨Nat.le_of_ble_eq_true rfl, Nat.le_of_ble_eq_true rfl⟩) hW (fun M_12 H locs hp_13 hW => ?_)
                have hC : fs_CW ct M_12 b cn kp pn pr lc lr (va_up fr (cn 3) (fs_fx wh a, fs_fz wh a, 0, 0)) (va_up od (cn 3) k) (va_up cl (cn 3) 0) (va_up ck (cn 3) 0) cc cr := by rw [hp_13]; exact fs_CW_FS hC (by omega) _ _ _ _
                have hCf : fs_Cf b M M_12 := by rw [hp_13]; exact fs_Cf_u (fs_Cf_u hCf (by omega) _) (by omega) _
                refine lv_aload_n hx hb dS_fault_69 rfl (lv_at hl 1 rfl) ?_
                refine lv_dup hx hb dS_fault_70 rfl ?_
                refine fm_get (ci := 3) (v := .int (nI (cn 3))) (C := RS) (T := TS) (N := 11) hx hb hT inS hown hK hW hC.1 rfl 9 (by decide) (hT _ fl_S_56) (fun _ h9 => h9) rfl dS_fault_71 ?_
                refine lv_iconst (v := 1) hx hb dS_fault_74 (by decide) ?_
                refine lv_iadd hx hb dS_fault_75 ?_
                refine fm_put (ci := 3) (v := .int ((nI (cn 3)) + 1)) (ty := .int) (C := RS) (T := TS) (N := 11) hx hb hT inS tyS tkS nmS hown hK hW hC.1 rfl 9 (by decide) (hT _ fl_S_56) (fun _ h9 => h9) rfl (by decide +kernel) rfl rfl (Nat.le_of_ble_eq_true rfl) dS_fault_76 (fun H locs hW => ?_)
                obtain ⟨M_14, eM_14⟩ : ∃ z : fm_M, z = va_up M_12 b (some (.inr (3, [.ref (b + 1), .ref (b + 25), .ref (b + 26), .ref (b + 27), .ref (b + 108), .ref (b + 109), .int (nI (cn 0)), .int (nI (cn 1)), .int (nI (cn 2)), .int ((nI (cn 3)) + 1), .int (nI (cn 4))]))) := ⟨_, rfl⟩
                have hW : fm_W D fs_cl5 A M_14 s.heap H locs := by rw [eM_14]; exact hW
                have f_15 : M_14 b = some (.inr (3, [.ref (b + 1), .ref (b + 25), .ref (b + 26), .ref (b + 27), .ref (b + 108), .ref (b + 109), .int (nI (cn 0)), .int (nI (cn 1)), .int (nI (cn 2)), .int ((nI (cn 3)) + 1), .int (nI (cn 4))])) := by rw [eM_14]; exact fm_us
                refine lv_aload_n hx hb dS_fault_79 rfl (lv_at hl 1 rfl) ?_
                refine lv_dup hx hb dS_fault_80 rfl ?_
                refine fm_get (ci := 3) (v := .int (nI (cn 1))) (C := RS) (T := TS) (N := 11) hx hb hT inS hown hK hW f_15 rfl 7 (by decide) (hT _ fl_S_45) (fun _ h9 => h9) rfl dS_fault_81 ?_
                refine lv_iconst (v := 1) hx hb dS_fault_84 (by decide) ?_
                refine lv_iadd hx hb dS_fault_85 ?_
                refine fm_put (ci := 3) (v := .int ((nI (cn 1)) + 1)) (ty := .int) (C := RS) (T := TS) (N := 11) hx hb hT inS tyS tkS nmS hown hK hW f_15 rfl 7 (by decide) (hT _ fl_S_45) (fun _ h9 => h9) rfl (by decide +kernel) rfl rfl (Nat.le_of_ble_eq_true rfl) dS_fault_86 (fun H locs hW => ?_)
                obtain ⟨M_16, eM_16⟩ : ∃ z : fm_M, z = va_up M_14 b (some (.inr (3, [.ref (b + 1), .ref (b + 25), .ref (b + 26), .ref (b + 27), .ref (b + 108), .ref (b + 109), .int (nI (cn 0)), .int ((nI (cn 1)) + 1), .int (nI (cn 2)), .int ((nI (cn 3)) + 1), .int (nI (cn 4))]))) := ⟨_, rfl⟩
                have hW : fm_W D fs_cl5 A M_16 s.heap H locs := by rw [eM_16]; exact hW
                have f_17 : M_16 b = some (.inr (3, [.ref (b + 1), .ref (b + 25), .ref (b + 26), .ref (b + 27), .ref (b + 108), .ref (b + 109), .int (nI (cn 0)), .int ((nI (cn 1)) + 1), .int (nI (cn 2)), .int ((nI (cn 3)) + 1), .int (nI (cn 4))])) := by rw [eM_16]; exact fm_us
                have zM_16 : M_16 = va_up M_12 b (some (fs_SE b (va_up (va_up cn 3 (cn 3 + 1)) 1 (cn 1 + 1)))) := by
                  rw [eM_16, eM_14, fm_uu]
                  rw [nI_1, nI_1]; rfl
                have hC : fs_CW ct M_16 b (va_up (va_up cn 3 (cn 3 + 1)) 1 (cn 1 + 1)) kp pn pr lc lr (va_up fr (cn 3) (fs_fx wh a, fs_fz wh a, 0, 0)) (va_up od (cn 3) k) (va_up cl (cn 3) 0) (va_up ck (cn 3) 0) cc cr := by rw [zM_16]; exact fs_CW_S hC rfl
                have hCf : fs_Cf b M M_16 := by rw [zM_16]; exact fs_Cf_u hCf (by omega) _
                refine lv_iload hx hb dS_fault_89 (lv_at hl 0 rfl) ?_
                exact fm_iret hx hb hr hlocks hW (Or.inr ⟨rfl, hfk, hC, hCf⟩) dS_fault_91
              · refine lv_iconst (v := -1) hx hb dS_fault_48 (by decide) ?_
                exact fm_iret hx hb hr hlocks hW (Or.inl ⟨rfl, rfl, fun z => c_10 z.2.2.2.2.2.2⟩) dS_fault_49
          · refine lv_iconst (v := -1) hx hb dS_fault_27 (by decide) ?_
            exact fm_iret hx hb hr hlocks hW (Or.inl ⟨rfl, rfl, fun z => c_8 z.2.2.2.2.1⟩) dS_fault_28
