-- the class Fault; small methods of FrameSamples
def fs_FE (a : Nat) (od : Int32) (cl : Int64) (ck : Int32) : va_E := .inr (2, [.ref a, .int od, .long cl, .int ck])
set_option maxHeartbeats 4000000 in
set_option maxRecDepth 100000 in
theorem c_S_parity (l : Launch) (D : va_G) (ct : Nat → ClassId) (A : Nat → Prop) (M : fm_M) (x : Int64) : Met l yS_parity wS_parity ({ frames := 1, cells := 0, slots := 0, locals := 21 }) (va_Pc [.long x] (fm_St D fs_cl5 (fs_tys ct) fs_nw A M)) (va_Qi (fun (r : Int32) (M1 : fm_M) => r = fs_bcl x &&& 1 ∧ M1 = M) (fm_B D fs_cl5 A) A) 0 0 A := by
  refine Met.ofW (cc := cS_parity) (maxL := 2) (ret := (some .int)) (by decide) rfl ?_
  intro p e s m args below meth c s₁ B hml hv
  obtain ⟨rfl, hP0, hA0, hA1, hK, hN⟩ := hv
  have hx := B.exec
  have hb := B.bytes
  have hr := B.returns
  have hts := atoms_spec (ws := wS_parity) B.pre
  have hT : ∀ w ∈ fs_tb, w.before _ s = true := fun w h => hts w (List.mem_cons_of_mem _ h)
  have hown : s.vm.findClass "FrameSamples" = some m.cls := findClass_of_methodNamed B.named
  have hlocks := B.notSynchronized
  have hW : fm_W D fs_cl5 A M s.heap s.heap [] := ⟨hP0, hA0, va_S.rf, hA1⟩
  have hl := lv_entry ([.long x]) (n := 2) (Nat.le_of_ble_eq_true rfl)
  rw [lg_entry_eq]
  generalize (lg_sl ([.long x]) ++ List.replicate (2 - (lg_sl ([.long x])).length) Slot.unset).toArray = ls at hl ⊢
  have hl : lv_has ls 2 [(0, .long x)] := hl
  refine lv_lload_n hx hb dS_parity_0 rfl (lv_at hl 0 rfl) ?_
  refine fm_calli (va_runS (As := [.long x]) (rest := []) ⟨hx, hb, hml, hown, hts⟩ (c_JL_bitCount l D ct A M x) ⟨callB_of 1 hts (fs_gin co_JL_bitCount) rfl rfl rfl (hT _ ini_JL) (hT _ ml_S_138) (by decide +kernel) ⟨Nat.le_of_ble_eq_true rfl, Nat.le_of_ble_eq_true rfl⟩, hT _ st_JL_bitCount⟩ (fn_pre fs_isnw hK hN hW) rfl rfl hl.1 rfl (lv_room (Nat.le_of_ble_eq_true rfl)) dS_parity_1 ⟨Nat.le_of_ble_eq_true rfl, Nat.le_of_ble_eq_true rfl⟩) hW (fun r_1 M_2 H locs hp_3 hW => ?_)
  have hW : fm_W D fs_cl5 A M s.heap H locs := by rw [← hp_3.2]; exact hW
  have er_1 := hp_3.1
  refine lv_iconst (v := 1) hx hb dS_parity_4 (by decide) ?_
  refine lv_iand hx hb dS_parity_5 ?_
  exact fm_iret hx hb hr hlocks hW ⟨by subst er_1; rfl, rfl⟩ dS_parity_6
set_option maxHeartbeats 4000000 in
set_option maxRecDepth 100000 in
theorem c_S_has (l : Launch) (D : va_G) (ct : Nat → ClassId) (A : Nat → Prop) (M : fm_M) (x : Int64) (k : Nat)(hk : k < 64) : Met l yS_has wS_has ({ frames := 0, cells := 0, slots := 0, locals := 0 }) (va_Pc [.long x, .int (nI k)] (fm_St D fs_cl5 (fs_tys ct) fs_nw A M)) (va_Qi (fun (r : Int32) (M1 : fm_M) => r = fs_b (bl x k) ∧ M1 = M) (fm_B D fs_cl5 A) A) 0 0 A := by
  refine Met.ofW (cc := cS_has) (maxL := 3) (ret := (some .boolean)) (by decide) rfl ?_
  intro p e s m args below meth c s₁ B hml hv
  obtain ⟨rfl, hP0, hA0, hA1, hK, hN⟩ := hv
  have hx := B.exec
  have hb := B.bytes
  have hr := B.returns
  have hts := atoms_spec (ws := wS_has) B.pre
  have hT : ∀ w ∈ fs_tb, w.before _ s = true := fun w h => hts w (List.mem_cons_of_mem _ h)
  have hown : s.vm.findClass "FrameSamples" = some m.cls := findClass_of_methodNamed B.named
  have hlocks := B.notSynchronized
  have hW : fm_W D fs_cl5 A M s.heap s.heap [] := ⟨hP0, hA0, va_S.rf, hA1⟩
  have hl := lv_entry ([.long x, .int (nI k)]) (n := 3) (Nat.le_of_ble_eq_true rfl)
  rw [lg_entry_eq]
  generalize (lg_sl ([.long x, .int (nI k)]) ++ List.replicate (3 - (lg_sl ([.long x, .int (nI k)])).length) Slot.unset).toArray = ls at hl ⊢
  have hl : lv_has ls 3 [(0, .long x), (2, .int (nI k))] := hl
  refine lv_lload_n hx hb dS_has_0 rfl (lv_at hl 0 rfl) ?_
  refine lv_iload_n hx hb dS_has_1 rfl (lv_at hl 1 rfl) ?_
  refine lv_lushr (v := fs_ushl x (nI k)) hx hb dS_has_2 rfl ?_
  refine lv_lconst (v := 1) hx hb dS_has_3 (by decide) ?_
  refine lv_land hx hb dS_has_4 ?_
  refine lv_lconst (v := 0) hx hb dS_has_5 (by decide) ?_
  refine W.lcmp hx hb dS_has_6 ?_
  refine lv_if_eq (tgt := 14) hx hb dS_has_7 (by decide) (fun c_1 => ?_) (fun c_1 => ?_)
  · refine lv_iconst (v := 0) hx hb dS_has_14 (by decide) ?_
    have hv : (0 : Int32) = fs_b (bl x k) := by
      have h : fs_ushl x (nI k) &&& 1 = 0 := (lg_cmp_eq _ _).mp c_1
      rw [fs_onUL hk] at h
      rw [(fs_bL_eq0 _).mp h]
      rfl
    exact fm_zret hx hb hr rfl hlocks hW ⟨hv, rfl⟩ dS_has_15
  · refine lv_iconst (v := 1) hx hb dS_has_10 (by decide) ?_
    refine lv_goto (tgt := 15) hx hb dS_has_11 (by decide) ?_
    have hv : (1 : Int32) = fs_b (bl x k) := by
      have h : ¬ fs_ushl x (nI k) &&& 1 = 0 := fun q => c_1 ((lg_cmp_eq _ _).mpr q)
      rw [fs_onUL hk] at h
      cases hb2 : bl x k with
      | true => rfl
      | false => rw [hb2] at h; exact absurd rfl h
    exact fm_zret hx hb hr rfl hlocks hW ⟨hv, rfl⟩ dS_has_15
set_option maxHeartbeats 4000000 in
set_option maxRecDepth 100000 in
theorem c_S_hasTwoWires (l : Launch) (D : va_G) (ct : Nat → ClassId) (A : Nat → Prop) (M : fm_M) (k : Int32) : Met l yS_hasTwoWires wS_hasTwoWires ({ frames := 0, cells := 0, slots := 0, locals := 0 }) (va_Pc [.int k] (fm_St D fs_cl5 (fs_tys ct) fs_nw A M)) (va_Qi (fun (r : Int32) (M1 : fm_M) => r = (if k = 2 ∨ k = 3 ∨ k = 4 then 1 else 0) ∧ M1 = M) (fm_B D fs_cl5 A) A) 0 0 A := by
  refine Met.ofW (cc := cS_hasTwoWires) (maxL := 1) (ret := (some .boolean)) (by decide) rfl ?_
  intro p e s m args below meth c s₁ B hml hv
  obtain ⟨rfl, hP0, hA0, hA1, hK, hN⟩ := hv
  have hx := B.exec
  have hb := B.bytes
  have hr := B.returns
  have hts := atoms_spec (ws := wS_hasTwoWires) B.pre
  have hT : ∀ w ∈ fs_tb, w.before _ s = true := fun w h => hts w (List.mem_cons_of_mem _ h)
  have hown : s.vm.findClass "FrameSamples" = some m.cls := findClass_of_methodNamed B.named
  have hlocks := B.notSynchronized
  have hW : fm_W D fs_cl5 A M s.heap s.heap [] := ⟨hP0, hA0, va_S.rf, hA1⟩
  have hl := lv_entry ([.int k]) (n := 1) (Nat.le_of_ble_eq_true rfl)
  rw [lg_entry_eq]
  generalize (lg_sl ([.int k]) ++ List.replicate (1 - (lg_sl ([.int k])).length) Slot.unset).toArray = ls at hl ⊢
  have hl : lv_has ls 1 [(0, .int k)] := hl
  refine lv_iload_n hx hb dS_hasTwoWires_0 rfl (lv_at hl 0 rfl) ?_
  refine lv_iconst (v := 2) hx hb dS_hasTwoWires_1 (by decide) ?_
  refine lv_icmp_eq (tgt := 15) hx hb dS_hasTwoWires_2 (by decide) (fun c_1 => ?_) (fun c_1 => ?_)
  · refine lv_iconst (v := 1) hx hb dS_hasTwoWires_15 (by decide) ?_
    refine lv_goto (tgt := 20) hx hb dS_hasTwoWires_16 (by decide) ?_
    exact fm_zret hx hb hr rfl hlocks hW ⟨(if_pos (Or.inl c_1)).symm, rfl⟩ dS_hasTwoWires_20
  · refine lv_iload_n hx hb dS_hasTwoWires_5 rfl (lv_at hl 0 rfl) ?_
    refine lv_iconst (v := 3) hx hb dS_hasTwoWires_6 (by decide) ?_
    refine lv_icmp_eq (tgt := 15) hx hb dS_hasTwoWires_7 (by decide) (fun c_2 => ?_) (fun c_2 => ?_)
    · refine lv_iconst (v := 1) hx hb dS_hasTwoWires_15 (by decide) ?_
      refine lv_goto (tgt := 20) hx hb dS_hasTwoWires_16 (by decide) ?_
      exact fm_zret hx hb hr rfl hlocks hW ⟨(if_pos (Or.inr (Or.inl c_2))).symm, rfl⟩ dS_hasTwoWires_20
    · refine lv_iload_n hx hb dS_hasTwoWires_10 rfl (lv_at hl 0 rfl) ?_
      refine lv_iconst (v := 4) hx hb dS_hasTwoWires_11 (by decide) ?_
      refine lv_icmp_ne (tgt := 19) hx hb dS_hasTwoWires_12 (by decide) (fun c_3 => ?_) (fun c_3 => ?_)
      · refine lv_iconst (v := 0) hx hb dS_hasTwoWires_19 (by decide) ?_
        exact fm_zret hx hb hr rfl hlocks hW ⟨(if_neg (by intro z; rcases z with z | z | z; exact c_1 z; exact c_2 z; exact c_3 z)).symm, rfl⟩ dS_hasTwoWires_20
      · refine lv_iconst (v := 1) hx hb dS_hasTwoWires_15 (by decide) ?_
        refine lv_goto (tgt := 20) hx hb dS_hasTwoWires_16 (by decide) ?_
        exact fm_zret hx hb hr rfl hlocks hW ⟨(if_pos (Or.inr (Or.inr c_3))).symm, rfl⟩ dS_hasTwoWires_20
def fs_SE (b : Nat) (cn : Nat → Nat) : va_E := .inr (3, [.ref (b + 1), .ref (b + 25), .ref (b + 26), .ref (b + 27), .ref (b + 108), .ref (b + 109), .int (nI (cn 0)), .int (nI (cn 1)), .int (nI (cn 2)), .int (nI (cn 3)), .int (nI (cn 4))])
set_option maxHeartbeats 4000000 in
set_option maxRecDepth 100000 in
theorem c_S_isWire (l : Launch) (D : va_G) (ct : Nat → ClassId) (A : Nat → Prop) (M : fm_M) (b : Nat) (cn : Nat → Nat) (a : Int32)(hM : M b = some (fs_SE b cn)) : Met l yS_isWire wS_isWire ({ frames := 0, cells := 0, slots := 0, locals := 0 }) (va_Pc [.ref b, .int a] (fm_St D fs_cl5 (fs_tys ct) fs_nw A M)) (va_Qi (fun (r : Int32) (M1 : fm_M) => r = (if a < 0 ∨ nI (cn 0) ≤ a then 0 else 1) ∧ M1 = M) (fm_B D fs_cl5 A) A) 0 0 A := by
  refine Met.ofW (cc := cS_isWire) (maxL := 2) (ret := (some .boolean)) (by decide) rfl ?_
  intro p e s m args below meth c s₁ B hml hv
  obtain ⟨rfl, hP0, hA0, hA1, hK, hN⟩ := hv
  have hx := B.exec
  have hb := B.bytes
  have hr := B.returns
  have hts := atoms_spec (ws := wS_isWire) B.pre
  have hT : ∀ w ∈ fs_tb, w.before _ s = true := fun w h => hts w (List.mem_cons_of_mem _ h)
  have hown : s.vm.findClass "FrameSamples" = some m.cls := findClass_of_methodNamed B.named
  have hlocks := B.notSynchronized
  have hW : fm_W D fs_cl5 A M s.heap s.heap [] := ⟨hP0, hA0, va_S.rf, hA1⟩
  have hl := lv_entry ([.ref b, .int a]) (n := 2) (Nat.le_of_ble_eq_true rfl)
  rw [lg_entry_eq]
  generalize (lg_sl ([.ref b, .int a]) ++ List.replicate (2 - (lg_sl ([.ref b, .int a])).length) Slot.unset).toArray = ls at hl ⊢
  have hl : lv_has ls 2 [(0, .ref b), (1, .int a)] := hl
  refine lv_iload_n hx hb dS_isWire_0 rfl (lv_at hl 1 rfl) ?_
  refine lv_if_lt (tgt := 16) hx hb dS_isWire_1 (by decide) (fun c_1 => ?_) (fun c_1 => ?_)
  · refine lv_iconst (v := 0) hx hb dS_isWire_16 (by decide) ?_
    exact fm_zret hx hb hr rfl hlocks hW ⟨(if_pos (Or.inl c_1)).symm, rfl⟩ dS_isWire_17
  · refine lv_iload_n hx hb dS_isWire_4 rfl (lv_at hl 1 rfl) ?_
    refine lv_aload_n hx hb dS_isWire_5 rfl (lv_at hl 0 rfl) ?_
    refine fm_get (ci := 3) (v := .int (nI (cn 0))) (C := RS) (T := TS) (N := 11) hx hb hT inS hown hK hW hM rfl 6 (by decide) (hT _ fl_S_129) (fun _ h9 => h9) rfl dS_isWire_6 ?_
    refine lv_icmp_ge (tgt := 16) hx hb dS_isWire_9 (by decide) (fun c_2 => ?_) (fun c_2 => ?_)
    · refine lv_iconst (v := 0) hx hb dS_isWire_16 (by decide) ?_
      exact fm_zret hx hb hr rfl hlocks hW ⟨(if_pos (Or.inr c_2)).symm, rfl⟩ dS_isWire_17
    · refine lv_iconst (v := 1) hx hb dS_isWire_12 (by decide) ?_
      refine lv_goto (tgt := 17) hx hb dS_isWire_13 (by decide) ?_
      exact fm_zret hx hb hr rfl hlocks hW ⟨(if_neg (by intro z; rcases z with z | z; exact c_1 z; exact c_2 z)).symm, rfl⟩ dS_isWire_17
theorem fm_comm (M : fm_M) {a b : Nat} (h : a ≠ b) (e f : Option va_E) : va_up (va_up M a e) b f = va_up (va_up M b f) a e := by
  funext j
  unfold va_up
  by_cases q : j = b
  · subst q; rw [if_pos rfl, if_neg (Ne.symm h), if_pos rfl]
  · simp only [if_neg q]
set_option maxHeartbeats 4000000 in
set_option maxRecDepth 100000 in
theorem c_F_meetCheck (l : Launch) (D : va_G) (ct : Nat → ClassId) (A : Nat → Prop) (M : fm_M) (f0 a2 : Nat) (od : Int32) (cl : Int64) (ck : Int32) (q : fs_Q) (num : Int32) (lk : Int64) (hF : M f0 = some (fs_FE a2 od cl ck)) (hQ : M a2 = some (fs_PE q)) (hne : a2 ≠ f0) : Met l yF_meetCheck wF_meetCheck ({ frames := 2, cells := 0, slots := 0, locals := 42 }) (va_Pc [.ref f0, .int num, .long lk] (fm_St D fs_cl5 (fs_tys ct) fs_nw A M)) (va_Qv (fun (M1 : fm_M) => M1 = va_up M f0 (some (fs_FE a2 od cl (ck ||| ((fs_bcl (cl &&& lk) &&& 1) <<< (num &&& 31)))))) (fm_B D fs_cl5 A) A) 0 0 A := by
  refine Met.ofW (cc := cF_meetCheck) (maxL := 4) (ret := none) (by decide) rfl ?_
  intro p e s m args below meth c s₁ B hml hv
  obtain ⟨rfl, hP0, hA0, hA1, hK, hN⟩ := hv
  have hx := B.exec
  have hb := B.bytes
  have hr := B.returns
  have hts := atoms_spec (ws := wF_meetCheck) B.pre
  have hT : ∀ w ∈ fs_tb, w.before _ s = true := fun w h => hts w (List.mem_cons_of_mem _ h)
  have hown : s.vm.findClass "FrameSamples$Fault" = some m.cls := findClass_of_methodNamed B.named
  have hlocks := B.notSynchronized
  have hW : fm_W D fs_cl5 A M s.heap s.heap [] := ⟨hP0, hA0, va_S.rf, hA1⟩
  have hl := lv_entry ([.ref f0, .int num, .long lk]) (n := 4) (Nat.le_of_ble_eq_true rfl)
  rw [lg_entry_eq]
  generalize (lg_sl ([.ref f0, .int num, .long lk]) ++ List.replicate (4 - (lg_sl ([.ref f0, .int num, .long lk])).length) Slot.unset).toArray = ls at hl ⊢
  have hl : lv_has ls 4 [(0, .ref f0), (1, .int num), (2, .long lk)] := hl
  refine lv_aload_n hx hb dF_meetCheck_0 rfl (lv_at hl 0 rfl) ?_
  refine lv_dup hx hb dF_meetCheck_1 rfl ?_
  refine fm_get (ci := 2) (v := .int ck) (C := RF) (T := TF) (N := 4) hx hb hT inF hown hK hW hF rfl 3 (by decide) (hT _ fl_F_30) (fun _ h9 => h9) rfl dF_meetCheck_2 ?_
  refine lv_aload_n hx hb dF_meetCheck_5 rfl (lv_at hl 0 rfl) ?_
  refine fm_get (ci := 2) (v := .long cl) (C := RF) (T := TF) (N := 4) hx hb hT inF hown hK hW hF rfl 2 (by decide) (hT _ fl_F_26) (fun _ h9 => h9) rfl dF_meetCheck_6 ?_
  refine lv_lload_n hx hb dF_meetCheck_9 rfl (lv_at hl 2 rfl) ?_
  refine lv_land hx hb dF_meetCheck_10 ?_
  refine fm_calli (va_runSN (As := [.long (cl &&& lk)]) (rest := [.int ck, .ref f0]) ⟨hx, hb, hml, hown, hts⟩ (c_S_parity l D ct A M (cl &&& lk)) ⟨va_cnB 1 hts (fs_gin co_S_parity) rfl rfl rfl (hN _ (List.mem_of_getElem? (i := 14) rfl)) (hT _ ini_S) (by decide +kernel) ⟨Nat.le_of_ble_eq_true rfl, Nat.le_of_ble_eq_true rfl⟩, hT _ st_S_parity, trivial⟩ (fn_pre fs_isnw hK hN hW) rfl rfl hl.1 rfl (lv_room (Nat.le_of_ble_eq_true rfl)) dF_meetCheck_11 ⟨Nat.le_of_ble_eq_true rfl, Nat.le_of_ble_eq_true rfl⟩) hW (fun r_1 M_2 H locs hp_3 hW => ?_)
  have hW : fm_W D fs_cl5 A M s.heap H locs := by rw [← hp_3.2]; exact hW
  have er_1 := hp_3.1
  refine lv_iload_n hx hb dF_meetCheck_14 rfl (lv_at hl 1 rfl) ?_
  refine lv_ishl hx hb dF_meetCheck_15 ?_
  refine lv_ior hx hb dF_meetCheck_16 ?_
  refine lv_topi (fun x_4 ex_4 => ?_)
  refine fm_put (ci := 2) (v := .int x_4) (ty := .int) (C := RF) (T := TF) (N := 4) hx hb hT inF tyF tkF nmF hown hK hW hF rfl 3 (by decide) (hT _ fl_F_30) (fun _ h9 => h9) rfl (by decide +kernel) rfl rfl (Nat.le_of_ble_eq_true rfl) dF_meetCheck_17 (fun H locs hW => ?_)
  obtain ⟨M_5, eM_5⟩ : ∃ z : fm_M, z = va_up M f0 (some (.inr (2, [.ref a2, .int od, .long cl, .int x_4]))) := ⟨_, rfl⟩
  have hW : fm_W D fs_cl5 A M_5 s.heap H locs := by rw [eM_5]; exact hW
  have f_6 : M_5 f0 = some (.inr (2, [.ref a2, .int od, .long cl, .int x_4])) := by rw [eM_5]; exact fm_us
  have f_7 := (show M_5 a2 = M a2 by rw [eM_5]; exact fm_un (by omega)).trans hQ
  exact fm_vret hx hb hr hlocks hW (by rw [eM_5]; subst ex_4; subst er_1; rfl) dF_meetCheck_20
set_option maxHeartbeats 4000000 in
set_option maxRecDepth 100000 in
theorem c_F_meetLook (l : Launch) (D : va_G) (ct : Nat → ClassId) (A : Nat → Prop) (M : fm_M) (f0 a2 : Nat) (od : Int32) (cl : Int64) (ck : Int32) (q : fs_Q) (a num rs : Int32) (hF : M f0 = some (fs_FE a2 od cl ck)) (hQ : M a2 = some (fs_PE q)) (hne : a2 ≠ f0) : Met l yF_meetLook wF_meetLook ({ frames := 1, cells := 0, slots := 0, locals := 21 }) (va_Pc [.ref f0, .int a, .int num, .int rs] (fm_St D fs_cl5 (fs_tys ct) fs_nw A M)) (va_Qv (fun (M1 : fm_M) => M1 = va_up (va_up M f0 (some (fs_FE a2 od (cl ||| ((fs_xOn q a).toInt64 <<< (num.toInt64 &&& 63))) ck))) a2 (some (fs_PE (fs_mk q a (decide (rs ≠ 0)))))) (fm_B D fs_cl5 A) A) 0 0 A := by
  refine Met.ofW (cc := cF_meetLook) (maxL := 4) (ret := none) (by decide) rfl ?_
  intro p e s m args below meth c s₁ B hml hv
  obtain ⟨rfl, hP0, hA0, hA1, hK, hN⟩ := hv
  have hx := B.exec
  have hb := B.bytes
  have hr := B.returns
  have hts := atoms_spec (ws := wF_meetLook) B.pre
  have hT : ∀ w ∈ fs_tb, w.before _ s = true := fun w h => hts w (List.mem_cons_of_mem _ h)
  have hown : s.vm.findClass "FrameSamples$Fault" = some m.cls := findClass_of_methodNamed B.named
  have hlocks := B.notSynchronized
  have hW : fm_W D fs_cl5 A M s.heap s.heap [] := ⟨hP0, hA0, va_S.rf, hA1⟩
  have hl := lv_entry ([.ref f0, .int a, .int num, .int rs]) (n := 4) (Nat.le_of_ble_eq_true rfl)
  rw [lg_entry_eq]
  generalize (lg_sl ([.ref f0, .int a, .int num, .int rs]) ++ List.replicate (4 - (lg_sl ([.ref f0, .int a, .int num, .int rs])).length) Slot.unset).toArray = ls at hl ⊢
  have hl : lv_has ls 4 [(0, .ref f0), (1, .int a), (2, .int num), (3, .int rs)] := hl
  refine lv_aload_n hx hb dF_meetLook_0 rfl (lv_at hl 0 rfl) ?_
  refine lv_dup hx hb dF_meetLook_1 rfl ?_
  refine fm_get (ci := 2) (v := .long cl) (C := RF) (T := TF) (N := 4) hx hb hT inF hown hK hW hF rfl 2 (by decide) (hT _ fl_F_26) (fun _ h9 => h9) rfl dF_meetLook_2 ?_
  refine lv_aload_n hx hb dF_meetLook_5 rfl (lv_at hl 0 rfl) ?_
  refine fm_get (ci := 2) (v := .ref a2) (C := RF) (T := TF) (N := 4) hx hb hT inF hown hK hW hF rfl 0 (by decide) (hT _ fl_F_12) (fun _ h9 => h9) rfl dF_meetLook_6 ?_
  refine lv_iload_n hx hb dF_meetLook_9 rfl (lv_at hl 1 rfl) ?_
  refine fm_calli (va_runV (As := [.int a]) (rest := [.long cl, .ref f0]) ⟨hx, hb, hml, hown, hts⟩ (c_P_xOn l D ct A M a2 q a hQ) ⟨callB_of 1 hts (fs_gin co_P_xOn) rfl rfl rfl (hT _ ini_P) (hT _ ml_F_33) (by decide +kernel) ⟨Nat.le_of_ble_eq_true rfl, Nat.le_of_ble_eq_true rfl⟩, hT _ im_P_xOn, hT _ se_P_xOn⟩ (fn_preV fs_isnw hK hN hW hQ rfl) rfl rfl hl.1 rfl (lv_room (Nat.le_of_ble_eq_true rfl)) dF_meetLook_10 ⟨Nat.le_of_ble_eq_true rfl, Nat.le_of_ble_eq_true rfl⟩) hW (fun r_1 M_2 H locs hp_3 hW => ?_)
  have hW : fm_W D fs_cl5 A M s.heap H locs := by rw [← hp_3.2]; exact hW
  have er_1 := hp_3.1
  refine lv_i2l (v := r_1.toInt64) hx hb dF_meetLook_13 rfl ?_
  refine lv_iload_n hx hb dF_meetLook_14 rfl (lv_at hl 2 rfl) ?_
  refine lv_lshl (v := r_1.toInt64 <<< (num.toInt64 &&& 63)) hx hb dF_meetLook_15 rfl ?_
  refine lv_lor hx hb dF_meetLook_16 ?_
  refine lv_topl (fun x_4 ex_4 => ?_)
  refine fm_put (ci := 2) (v := .long x_4) (ty := .long) (C := RF) (T := TF) (N := 4) hx hb hT inF tyF tkF nmF hown hK hW hF rfl 2 (by decide) (hT _ fl_F_26) (fun _ h9 => h9) rfl (by decide +kernel) rfl rfl (Nat.le_of_ble_eq_true rfl) dF_meetLook_17 (fun H locs hW => ?_)
  obtain ⟨M_5, eM_5⟩ : ∃ z : fm_M, z = va_up M f0 (some (.inr (2, [.ref a2, .int od, .long x_4, .int ck]))) := ⟨_, rfl⟩
  have hW : fm_W D fs_cl5 A M_5 s.heap H locs := by rw [eM_5]; exact hW
  have f_6 : M_5 f0 = some (.inr (2, [.ref a2, .int od, .long x_4, .int ck])) := by rw [eM_5]; exact fm_us
  have f_7 := (show M_5 a2 = M a2 by rw [eM_5]; exact fm_un (by omega)).trans hQ
  refine lv_aload_n hx hb dF_meetLook_20 rfl (lv_at hl 0 rfl) ?_
  refine fm_get (ci := 2) (v := .ref a2) (C := RF) (T := TF) (N := 4) hx hb hT inF hown hK hW f_6 rfl 0 (by decide) (hT _ fl_F_12) (fun _ h9 => h9) rfl dF_meetLook_21 ?_
  refine lv_dup hx hb dF_meetLook_24 rfl ?_
  refine fm_getN (ci := 0) (v := .int q.2.1) (C := RP) (T := TP) (N := 4) hx hb hT inP hown hK hW f_7 rfl 1 (by decide) (hN _ (List.mem_of_getElem? (i := 3) rfl)) (fun _ h9 => h9) rfl dF_meetLook_25 ?_
  refine lv_iconst (v := 1) hx hb dF_meetLook_28 (by decide) ?_
  refine lv_iload_n hx hb dF_meetLook_29 rfl (lv_at hl 1 rfl) ?_
  refine lv_ishl hx hb dF_meetLook_30 ?_
  refine lv_iconst (v := -1) hx hb dF_meetLook_31 (by decide) ?_
  refine lv_ixor hx hb dF_meetLook_32 ?_
  refine lv_iand hx hb dF_meetLook_33 ?_
  refine lv_topi (fun x_8 ex_8 => ?_)
  refine fm_putN (ci := 0) (v := .int x_8) (ty := .int) (C := RP) (T := TP) (N := 4) hx hb hT inP tyP tkP nmP hown hK hW f_7 rfl 1 (by decide) (hN _ (List.mem_of_getElem? (i := 3) rfl)) (fun _ h9 => h9) rfl (by decide +kernel) rfl rfl (Nat.le_of_ble_eq_true rfl) dF_meetLook_34 (fun H locs hW => ?_)
  obtain ⟨M_9, eM_9⟩ : ∃ z : fm_M, z = va_up M_5 a2 (some (.inr (0, [.int q.1, .int x_8, .int q.2.2.1, .long q.2.2.2]))) := ⟨_, rfl⟩
  have hW : fm_W D fs_cl5 A M_9 s.heap H locs := by rw [eM_9]; exact hW
  have f_10 := (show M_9 f0 = M_5 f0 by rw [eM_9]; exact fm_un (by omega)).trans f_6
  have f_11 : M_9 a2 = some (.inr (0, [.int q.1, .int x_8, .int q.2.2.1, .long q.2.2.2])) := by rw [eM_9]; exact fm_us
  refine lv_iload_n hx hb dF_meetLook_37 rfl (lv_at hl 3 rfl) ?_
  refine lv_if_eq (tgt := 58) hx hb dF_meetLook_38 (by decide) (fun c_12 => ?_) (fun c_12 => ?_)
  · have hd : decide (rs ≠ 0) = false := decide_eq_false (fun z => z c_12)
    exact fm_vret hx hb hr hlocks hW (by rw [hd, eM_9, eM_5]; subst ex_8; subst ex_4; subst er_1; rfl) dF_meetLook_58
  · refine lv_aload_n hx hb dF_meetLook_41 rfl (lv_at hl 0 rfl) ?_
    refine fm_get (ci := 2) (v := .ref a2) (C := RF) (T := TF) (N := 4) hx hb hT inF hown hK hW f_10 rfl 0 (by decide) (hT _ fl_F_12) (fun _ h9 => h9) rfl dF_meetLook_42 ?_
    refine lv_dup hx hb dF_meetLook_45 rfl ?_
    refine fm_getN (ci := 0) (v := .int q.1) (C := RP) (T := TP) (N := 4) hx hb hT inP hown hK hW f_11 rfl 0 (by decide) (hN _ (List.mem_of_getElem? (i := 2) rfl)) (fun _ h9 => h9) rfl dF_meetLook_46 ?_
    refine lv_iconst (v := 1) hx hb dF_meetLook_49 (by decide) ?_
    refine lv_iload_n hx hb dF_meetLook_50 rfl (lv_at hl 1 rfl) ?_
    refine lv_ishl hx hb dF_meetLook_51 ?_
    refine lv_iconst (v := -1) hx hb dF_meetLook_52 (by decide) ?_
    refine lv_ixor hx hb dF_meetLook_53 ?_
    refine lv_iand hx hb dF_meetLook_54 ?_
    refine lv_topi (fun x_13 ex_13 => ?_)
    refine fm_putN (ci := 0) (v := .int x_13) (ty := .int) (C := RP) (T := TP) (N := 4) hx hb hT inP tyP tkP nmP hown hK hW f_11 rfl 0 (by decide) (hN _ (List.mem_of_getElem? (i := 2) rfl)) (fun _ h9 => h9) rfl (by decide +kernel) rfl rfl (Nat.le_of_ble_eq_true rfl) dF_meetLook_55 (fun H locs hW => ?_)
    obtain ⟨M_14, eM_14⟩ : ∃ z : fm_M, z = va_up M_9 a2 (some (.inr (0, [.int x_13, .int x_8, .int q.2.2.1, .long q.2.2.2]))) := ⟨_, rfl⟩
    have hW : fm_W D fs_cl5 A M_14 s.heap H locs := by rw [eM_14]; exact hW
    have f_15 := (show M_14 f0 = M_9 f0 by rw [eM_14]; exact fm_un (by omega)).trans f_10
    have f_16 : M_14 a2 = some (.inr (0, [.int x_13, .int x_8, .int q.2.2.1, .long q.2.2.2])) := by rw [eM_14]; exact fm_us
    have hd : decide (rs ≠ 0) = true := decide_eq_true c_12
    exact fm_vret hx hb hr hlocks hW (by rw [hd, eM_14, eM_9, eM_5, fm_uu]; subst ex_13; subst ex_8; subst ex_4; subst er_1; rfl) dF_meetLook_58
set_option maxHeartbeats 4000000 in
set_option maxRecDepth 100000 in
theorem c_F_start (l : Launch) (D : va_G) (ct : Nat → ClassId) (A : Nat → Prop) (M : fm_M) (f0 a2 : Nat) (od : Int32) (cl : Int64) (ck : Int32) (q : fs_Q) (wh a k : Int32) (hF : M f0 = some (fs_FE a2 od cl ck)) (hQ : M a2 = some (fs_PE q)) (hne : a2 ≠ f0) (hwh : wh = 0 ∨ wh = 1 ∨ wh = 2) : Met l yF_start wF_start ({ frames := 1, cells := 0, slots := 0, locals := 22 }) (va_Pc [.ref f0, .int wh, .int a, .int k] (fm_St D fs_cl5 (fs_tys ct) fs_nw A M)) (va_Qv (fun (M1 : fm_M) => M1 = va_up (va_up M a2 (some (fs_PE (fs_fx wh a, fs_fz wh a, 0, 0)))) f0 (some (fs_FE a2 k 0 0))) (fm_B D fs_cl5 A) A) 0 0 A := by
  refine Met.ofW (cc := cF_start) (maxL := 6) (ret := none) (by decide) rfl ?_
  intro p e s m args below meth c s₁ B hml hv
  obtain ⟨rfl, hP0, hA0, hA1, hK, hN⟩ := hv
  have hx := B.exec
  have hb := B.bytes
  have hr := B.returns
  have hts := atoms_spec (ws := wF_start) B.pre
  have hT : ∀ w ∈ fs_tb, w.before _ s = true := fun w h => hts w (List.mem_cons_of_mem _ h)
  have hown : s.vm.findClass "FrameSamples$Fault" = some m.cls := findClass_of_methodNamed B.named
  have hlocks := B.notSynchronized
  have hW : fm_W D fs_cl5 A M s.heap s.heap [] := ⟨hP0, hA0, va_S.rf, hA1⟩
  have hl := lv_entry ([.ref f0, .int wh, .int a, .int k]) (n := 6) (Nat.le_of_ble_eq_true rfl)
  rw [lg_entry_eq]
  generalize (lg_sl ([.ref f0, .int wh, .int a, .int k]) ++ List.replicate (6 - (lg_sl ([.ref f0, .int wh, .int a, .int k])).length) Slot.unset).toArray = ls at hl ⊢
  have hl : lv_has ls 6 [(0, .ref f0), (1, .int wh), (2, .int a), (3, .int k)] := hl
  rcases hwh with rfl | rfl | rfl
  · refine lv_iload_n hx hb dF_start_0 rfl (lv_at hl 1 rfl) ?_
    refine lv_if_eq (tgt := 9) hx hb dF_start_1 (by decide) (fun _ => ?_) (fun c_1 => absurd c_1 (by decide))
    refine lv_iconst (v := 1) hx hb dF_start_9 (by decide) ?_
    refine lv_iload_n hx hb dF_start_10 rfl (lv_at hl 2 rfl) ?_
    refine lv_ishl hx hb dF_start_11 ?_
    refine lv_goto (tgt := 16) hx hb dF_start_12 (by decide) ?_
    refine lv_topi (fun x_2 ex_2 => ?_)
    refine lv_istore (lv' := [(4, .int x_2), (0, .ref f0), (1, .int 0), (2, .int a), (3, .int k)]) hx hb dF_start_16 hl (by decide) rfl (fun ls hl => ?_)
    refine lv_iload_n hx hb dF_start_18 rfl (lv_at hl 2 rfl) ?_
    refine lv_iconst (v := 2) hx hb dF_start_19 (by decide) ?_
    refine lv_icmp_eq (tgt := 28) hx hb dF_start_20 (by decide) (fun c_3 => absurd c_3 (by decide)) (fun _ => ?_)
    refine lv_iload_n hx hb dF_start_23 rfl (lv_at hl 2 rfl) ?_
    refine lv_iconst (v := 1) hx hb dF_start_24 (by decide) ?_
    refine lv_icmp_ne (tgt := 34) hx hb dF_start_25 (by decide) (fun _ => ?_) (fun c_4 => absurd c_4 (by decide))
    refine lv_iconst (v := 0) hx hb dF_start_34 (by decide) ?_
    refine lv_istore (lv' := [(5, .int 0), (4, .int x_2), (0, .ref f0), (1, .int 0), (2, .int a), (3, .int k)]) hx hb dF_start_35 hl (by decide) rfl (fun ls hl => ?_)
    refine lv_aload_n hx hb dF_start_37 rfl (lv_at hl 2 rfl) ?_
    refine fm_get (ci := 2) (v := .ref a2) (C := RF) (T := TF) (N := 4) hx hb hT inF hown hK hW hF rfl 0 (by decide) (hT _ fl_F_12) (fun _ h9 => h9) rfl dF_start_38 ?_
    refine lv_iload hx hb dF_start_41 (lv_at hl 1 rfl) ?_
    refine lv_iload hx hb dF_start_43 (lv_at hl 0 rfl) ?_
    refine fm_callv (va_runV (As := [.int x_2, .int 0]) (rest := []) ⟨hx, hb, hml, hown, hts⟩ (c_P_become l D ct A M a2 q x_2 0 hQ) ⟨callB_of 2 hts (fs_gin co_P_become) rfl rfl rfl (hT _ ini_P) (hT _ ml_F_18) (by decide +kernel) ⟨Nat.le_of_ble_eq_true rfl, Nat.le_of_ble_eq_true rfl⟩, hT _ im_P_become, hT _ se_P_become⟩ (fn_preV fs_isnw hK hN hW hQ rfl) rfl rfl hl.1 rfl (lv_room (Nat.le_of_ble_eq_true rfl)) dF_start_45 ⟨Nat.le_of_ble_eq_true rfl, Nat.le_of_ble_eq_true rfl⟩) hW (fun M_6 H locs hp_7 hW => ?_)
    have f_8 := ((congrFun hp_7 f0).trans (fm_un (by omega))).trans hF
    have f_9 := (congrFun hp_7 a2).trans fm_us
    refine lv_aload_n hx hb dF_start_48 rfl (lv_at hl 2 rfl) ?_
    refine lv_iload_n hx hb dF_start_49 rfl (lv_at hl 5 rfl) ?_
    refine fm_put (ci := 2) (v := .int k) (ty := .int) (C := RF) (T := TF) (N := 4) hx hb hT inF tyF tkF nmF hown hK hW f_8 rfl 1 (by decide) (hT _ fl_F_22) (fun _ h9 => h9) rfl (by decide +kernel) rfl rfl (Nat.le_of_ble_eq_true rfl) dF_start_50 (fun H locs hW => ?_)
    obtain ⟨M_10, eM_10⟩ : ∃ z : fm_M, z = va_up M_6 f0 (some (.inr (2, [.ref a2, .int k, .long cl, .int ck]))) := ⟨_, rfl⟩
    have hW : fm_W D fs_cl5 A M_10 s.heap H locs := by rw [eM_10]; exact hW
    have f_11 : M_10 f0 = some (.inr (2, [.ref a2, .int k, .long cl, .int ck])) := by rw [eM_10]; exact fm_us
    have f_12 := (show M_10 a2 = M_6 a2 by rw [eM_10]; exact fm_un (by omega)).trans f_9
    refine lv_aload_n hx hb dF_start_53 rfl (lv_at hl 2 rfl) ?_
    refine lv_lconst (v := 0) hx hb dF_start_54 (by decide) ?_
    refine fm_put (ci := 2) (v := .long 0) (ty := .long) (C := RF) (T := TF) (N := 4) hx hb hT inF tyF tkF nmF hown hK hW f_11 rfl 2 (by decide) (hT _ fl_F_26) (fun _ h9 => h9) rfl (by decide +kernel) rfl rfl (Nat.le_of_ble_eq_true rfl) dF_start_55 (fun H locs hW => ?_)
    obtain ⟨M_13, eM_13⟩ : ∃ z : fm_M, z = va_up M_10 f0 (some (.inr (2, [.ref a2, .int k, .long 0, .int ck]))) := ⟨_, rfl⟩
    have hW : fm_W D fs_cl5 A M_13 s.heap H locs := by rw [eM_13]; exact hW
    have f_14 : M_13 f0 = some (.inr (2, [.ref a2, .int k, .long 0, .int ck])) := by rw [eM_13]; exact fm_us
    have f_15 := (show M_13 a2 = M_10 a2 by rw [eM_13]; exact fm_un (by omega)).trans f_12
    refine lv_aload_n hx hb dF_start_58 rfl (lv_at hl 2 rfl) ?_
    refine lv_iconst (v := 0) hx hb dF_start_59 (by decide) ?_
    refine fm_put (ci := 2) (v := .int 0) (ty := .int) (C := RF) (T := TF) (N := 4) hx hb hT inF tyF tkF nmF hown hK hW f_14 rfl 3 (by decide) (hT _ fl_F_30) (fun _ h9 => h9) rfl (by decide +kernel) rfl rfl (Nat.le_of_ble_eq_true rfl) dF_start_60 (fun H locs hW => ?_)
    obtain ⟨M_16, eM_16⟩ : ∃ z : fm_M, z = va_up M_13 f0 (some (.inr (2, [.ref a2, .int k, .long 0, .int 0]))) := ⟨_, rfl⟩
    have hW : fm_W D fs_cl5 A M_16 s.heap H locs := by rw [eM_16]; exact hW
    have f_17 : M_16 f0 = some (.inr (2, [.ref a2, .int k, .long 0, .int 0])) := by rw [eM_16]; exact fm_us
    have f_18 := (show M_16 a2 = M_13 a2 by rw [eM_16]; exact fm_un (by omega)).trans f_15
    exact fm_vret hx hb hr hlocks hW (by rw [eM_16, eM_13, eM_10, fm_uu, fm_uu, hp_7]; subst ex_2; rfl) dF_start_63
  · refine lv_iload_n hx hb dF_start_0 rfl (lv_at hl 1 rfl) ?_
    refine lv_if_eq (tgt := 9) hx hb dF_start_1 (by decide) (fun c_19 => absurd c_19 (by decide)) (fun _ => ?_)
    refine lv_iload_n hx hb dF_start_4 rfl (lv_at hl 1 rfl) ?_
    refine lv_iconst (v := 1) hx hb dF_start_5 (by decide) ?_
    refine lv_icmp_ne (tgt := 15) hx hb dF_start_6 (by decide) (fun c_20 => absurd c_20 (by decide)) (fun _ => ?_)
    refine lv_iconst (v := 1) hx hb dF_start_9 (by decide) ?_
    refine lv_iload_n hx hb dF_start_10 rfl (lv_at hl 2 rfl) ?_
    refine lv_ishl hx hb dF_start_11 ?_
    refine lv_goto (tgt := 16) hx hb dF_start_12 (by decide) ?_
    refine lv_topi (fun x_21 ex_21 => ?_)
    refine lv_istore (lv' := [(4, .int x_21), (0, .ref f0), (1, .int 1), (2, .int a), (3, .int k)]) hx hb dF_start_16 hl (by decide) rfl (fun ls hl => ?_)
    refine lv_iload_n hx hb dF_start_18 rfl (lv_at hl 2 rfl) ?_
    refine lv_iconst (v := 2) hx hb dF_start_19 (by decide) ?_
    refine lv_icmp_eq (tgt := 28) hx hb dF_start_20 (by decide) (fun c_22 => absurd c_22 (by decide)) (fun _ => ?_)
    refine lv_iload_n hx hb dF_start_23 rfl (lv_at hl 2 rfl) ?_
    refine lv_iconst (v := 1) hx hb dF_start_24 (by decide) ?_
    refine lv_icmp_ne (tgt := 34) hx hb dF_start_25 (by decide) (fun c_23 => absurd c_23 (by decide)) (fun _ => ?_)
    refine lv_iconst (v := 1) hx hb dF_start_28 (by decide) ?_
    refine lv_iload_n hx hb dF_start_29 rfl (lv_at hl 3 rfl) ?_
    refine lv_ishl hx hb dF_start_30 ?_
    refine lv_goto (tgt := 35) hx hb dF_start_31 (by decide) ?_
    refine lv_topi (fun x_24 ex_24 => ?_)
    refine lv_istore (lv' := [(5, .int x_24), (4, .int x_21), (0, .ref f0), (1, .int 1), (2, .int a), (3, .int k)]) hx hb dF_start_35 hl (by decide) rfl (fun ls hl => ?_)
    refine lv_aload_n hx hb dF_start_37 rfl (lv_at hl 2 rfl) ?_
    refine fm_get (ci := 2) (v := .ref a2) (C := RF) (T := TF) (N := 4) hx hb hT inF hown hK hW hF rfl 0 (by decide) (hT _ fl_F_12) (fun _ h9 => h9) rfl dF_start_38 ?_
    refine lv_iload hx hb dF_start_41 (lv_at hl 1 rfl) ?_
    refine lv_iload hx hb dF_start_43 (lv_at hl 0 rfl) ?_
    refine fm_callv (va_runV (As := [.int x_21, .int x_24]) (rest := []) ⟨hx, hb, hml, hown, hts⟩ (c_P_become l D ct A M a2 q x_21 x_24 hQ) ⟨callB_of 2 hts (fs_gin co_P_become) rfl rfl rfl (hT _ ini_P) (hT _ ml_F_18) (by decide +kernel) ⟨Nat.le_of_ble_eq_true rfl, Nat.le_of_ble_eq_true rfl⟩, hT _ im_P_become, hT _ se_P_become⟩ (fn_preV fs_isnw hK hN hW hQ rfl) rfl rfl hl.1 rfl (lv_room (Nat.le_of_ble_eq_true rfl)) dF_start_45 ⟨Nat.le_of_ble_eq_true rfl, Nat.le_of_ble_eq_true rfl⟩) hW (fun M_26 H locs hp_27 hW => ?_)
    have f_28 := ((congrFun hp_27 f0).trans (fm_un (by omega))).trans hF
    have f_29 := (congrFun hp_27 a2).trans fm_us
    refine lv_aload_n hx hb dF_start_48 rfl (lv_at hl 2 rfl) ?_
    refine lv_iload_n hx hb dF_start_49 rfl (lv_at hl 5 rfl) ?_
    refine fm_put (ci := 2) (v := .int k) (ty := .int) (C := RF) (T := TF) (N := 4) hx hb hT inF tyF tkF nmF hown hK hW f_28 rfl 1 (by decide) (hT _ fl_F_22) (fun _ h9 => h9) rfl (by decide +kernel) rfl rfl (Nat.le_of_ble_eq_true rfl) dF_start_50 (fun H locs hW => ?_)
    obtain ⟨M_30, eM_30⟩ : ∃ z : fm_M, z = va_up M_26 f0 (some (.inr (2, [.ref a2, .int k, .long cl, .int ck]))) := ⟨_, rfl⟩
    have hW : fm_W D fs_cl5 A M_30 s.heap H locs := by rw [eM_30]; exact hW
    have f_31 : M_30 f0 = some (.inr (2, [.ref a2, .int k, .long cl, .int ck])) := by rw [eM_30]; exact fm_us
    have f_32 := (show M_30 a2 = M_26 a2 by rw [eM_30]; exact fm_un (by omega)).trans f_29
    refine lv_aload_n hx hb dF_start_53 rfl (lv_at hl 2 rfl) ?_
    refine lv_lconst (v := 0) hx hb dF_start_54 (by decide) ?_
    refine fm_put (ci := 2) (v := .long 0) (ty := .long) (C := RF) (T := TF) (N := 4) hx hb hT inF tyF tkF nmF hown hK hW f_31 rfl 2 (by decide) (hT _ fl_F_26) (fun _ h9 => h9) rfl (by decide +kernel) rfl rfl (Nat.le_of_ble_eq_true rfl) dF_start_55 (fun H locs hW => ?_)
    obtain ⟨M_33, eM_33⟩ : ∃ z : fm_M, z = va_up M_30 f0 (some (.inr (2, [.ref a2, .int k, .long 0, .int ck]))) := ⟨_, rfl⟩
    have hW : fm_W D fs_cl5 A M_33 s.heap H locs := by rw [eM_33]; exact hW
    have f_34 : M_33 f0 = some (.inr (2, [.ref a2, .int k, .long 0, .int ck])) := by rw [eM_33]; exact fm_us
    have f_35 := (show M_33 a2 = M_30 a2 by rw [eM_33]; exact fm_un (by omega)).trans f_32
    refine lv_aload_n hx hb dF_start_58 rfl (lv_at hl 2 rfl) ?_
    refine lv_iconst (v := 0) hx hb dF_start_59 (by decide) ?_
    refine fm_put (ci := 2) (v := .int 0) (ty := .int) (C := RF) (T := TF) (N := 4) hx hb hT inF tyF tkF nmF hown hK hW f_34 rfl 3 (by decide) (hT _ fl_F_30) (fun _ h9 => h9) rfl (by decide +kernel) rfl rfl (Nat.le_of_ble_eq_true rfl) dF_start_60 (fun H locs hW => ?_)
    obtain ⟨M_36, eM_36⟩ : ∃ z : fm_M, z = va_up M_33 f0 (some (.inr (2, [.ref a2, .int k, .long 0, .int 0]))) := ⟨_, rfl⟩
    have hW : fm_W D fs_cl5 A M_36 s.heap H locs := by rw [eM_36]; exact hW
    have f_37 : M_36 f0 = some (.inr (2, [.ref a2, .int k, .long 0, .int 0])) := by rw [eM_36]; exact fm_us
    have f_38 := (show M_36 a2 = M_33 a2 by rw [eM_36]; exact fm_un (by omega)).trans f_35
    exact fm_vret hx hb hr hlocks hW (by rw [eM_36, eM_33, eM_30, fm_uu, fm_uu, hp_27]; subst ex_24; subst ex_21; rfl) dF_start_63
  · refine lv_iload_n hx hb dF_start_0 rfl (lv_at hl 1 rfl) ?_
    refine lv_if_eq (tgt := 9) hx hb dF_start_1 (by decide) (fun c_39 => absurd c_39 (by decide)) (fun _ => ?_)
    refine lv_iload_n hx hb dF_start_4 rfl (lv_at hl 1 rfl) ?_
    refine lv_iconst (v := 1) hx hb dF_start_5 (by decide) ?_
    refine lv_icmp_ne (tgt := 15) hx hb dF_start_6 (by decide) (fun _ => ?_) (fun c_40 => absurd c_40 (by decide))
    refine lv_iconst (v := 0) hx hb dF_start_15 (by decide) ?_
    refine lv_istore (lv' := [(4, .int 0), (0, .ref f0), (1, .int 2), (2, .int a), (3, .int k)]) hx hb dF_start_16 hl (by decide) rfl (fun ls hl => ?_)
    refine lv_iload_n hx hb dF_start_18 rfl (lv_at hl 2 rfl) ?_
    refine lv_iconst (v := 2) hx hb dF_start_19 (by decide) ?_
    refine lv_icmp_eq (tgt := 28) hx hb dF_start_20 (by decide) (fun _ => ?_) (fun c_41 => absurd c_41 (by decide))
    refine lv_iconst (v := 1) hx hb dF_start_28 (by decide) ?_
    refine lv_iload_n hx hb dF_start_29 rfl (lv_at hl 3 rfl) ?_
    refine lv_ishl hx hb dF_start_30 ?_
    refine lv_goto (tgt := 35) hx hb dF_start_31 (by decide) ?_
    refine lv_topi (fun x_42 ex_42 => ?_)
    refine lv_istore (lv' := [(5, .int x_42), (4, .int 0), (0, .ref f0), (1, .int 2), (2, .int a), (3, .int k)]) hx hb dF_start_35 hl (by decide) rfl (fun ls hl => ?_)
    refine lv_aload_n hx hb dF_start_37 rfl (lv_at hl 2 rfl) ?_
    refine fm_get (ci := 2) (v := .ref a2) (C := RF) (T := TF) (N := 4) hx hb hT inF hown hK hW hF rfl 0 (by decide) (hT _ fl_F_12) (fun _ h9 => h9) rfl dF_start_38 ?_
    refine lv_iload hx hb dF_start_41 (lv_at hl 1 rfl) ?_
    refine lv_iload hx hb dF_start_43 (lv_at hl 0 rfl) ?_
    refine fm_callv (va_runV (As := [.int 0, .int x_42]) (rest := []) ⟨hx, hb, hml, hown, hts⟩ (c_P_become l D ct A M a2 q 0 x_42 hQ) ⟨callB_of 2 hts (fs_gin co_P_become) rfl rfl rfl (hT _ ini_P) (hT _ ml_F_18) (by decide +kernel) ⟨Nat.le_of_ble_eq_true rfl, Nat.le_of_ble_eq_true rfl⟩, hT _ im_P_become, hT _ se_P_become⟩ (fn_preV fs_isnw hK hN hW hQ rfl) rfl rfl hl.1 rfl (lv_room (Nat.le_of_ble_eq_true rfl)) dF_start_45 ⟨Nat.le_of_ble_eq_true rfl, Nat.le_of_ble_eq_true rfl⟩) hW (fun M_44 H locs hp_45 hW => ?_)
    have f_46 := ((congrFun hp_45 f0).trans (fm_un (by omega))).trans hF
    have f_47 := (congrFun hp_45 a2).trans fm_us
    refine lv_aload_n hx hb dF_start_48 rfl (lv_at hl 2 rfl) ?_
    refine lv_iload_n hx hb dF_start_49 rfl (lv_at hl 5 rfl) ?_
    refine fm_put (ci := 2) (v := .int k) (ty := .int) (C := RF) (T := TF) (N := 4) hx hb hT inF tyF tkF nmF hown hK hW f_46 rfl 1 (by decide) (hT _ fl_F_22) (fun _ h9 => h9) rfl (by decide +kernel) rfl rfl (Nat.le_of_ble_eq_true rfl) dF_start_50 (fun H locs hW => ?_)
    obtain ⟨M_48, eM_48⟩ : ∃ z : fm_M, z = va_up M_44 f0 (some (.inr (2, [.ref a2, .int k, .long cl, .int ck]))) := ⟨_, rfl⟩
    have hW : fm_W D fs_cl5 A M_48 s.heap H locs := by rw [eM_48]; exact hW
    have f_49 : M_48 f0 = some (.inr (2, [.ref a2, .int k, .long cl, .int ck])) := by rw [eM_48]; exact fm_us
    have f_50 := (show M_48 a2 = M_44 a2 by rw [eM_48]; exact fm_un (by omega)).trans f_47
    refine lv_aload_n hx hb dF_start_53 rfl (lv_at hl 2 rfl) ?_
    refine lv_lconst (v := 0) hx hb dF_start_54 (by decide) ?_
    refine fm_put (ci := 2) (v := .long 0) (ty := .long) (C := RF) (T := TF) (N := 4) hx hb hT inF tyF tkF nmF hown hK hW f_49 rfl 2 (by decide) (hT _ fl_F_26) (fun _ h9 => h9) rfl (by decide +kernel) rfl rfl (Nat.le_of_ble_eq_true rfl) dF_start_55 (fun H locs hW => ?_)
    obtain ⟨M_51, eM_51⟩ : ∃ z : fm_M, z = va_up M_48 f0 (some (.inr (2, [.ref a2, .int k, .long 0, .int ck]))) := ⟨_, rfl⟩
    have hW : fm_W D fs_cl5 A M_51 s.heap H locs := by rw [eM_51]; exact hW
    have f_52 : M_51 f0 = some (.inr (2, [.ref a2, .int k, .long 0, .int ck])) := by rw [eM_51]; exact fm_us
    have f_53 := (show M_51 a2 = M_48 a2 by rw [eM_51]; exact fm_un (by omega)).trans f_50
    refine lv_aload_n hx hb dF_start_58 rfl (lv_at hl 2 rfl) ?_
    refine lv_iconst (v := 0) hx hb dF_start_59 (by decide) ?_
    refine fm_put (ci := 2) (v := .int 0) (ty := .int) (C := RF) (T := TF) (N := 4) hx hb hT inF tyF tkF nmF hown hK hW f_52 rfl 3 (by decide) (hT _ fl_F_30) (fun _ h9 => h9) rfl (by decide +kernel) rfl rfl (Nat.le_of_ble_eq_true rfl) dF_start_60 (fun H locs hW => ?_)
    obtain ⟨M_54, eM_54⟩ : ∃ z : fm_M, z = va_up M_51 f0 (some (.inr (2, [.ref a2, .int k, .long 0, .int 0]))) := ⟨_, rfl⟩
    have hW : fm_W D fs_cl5 A M_54 s.heap H locs := by rw [eM_54]; exact hW
    have f_55 : M_54 f0 = some (.inr (2, [.ref a2, .int k, .long 0, .int 0])) := by rw [eM_54]; exact fm_us
    have f_56 := (show M_54 a2 = M_51 a2 by rw [eM_54]; exact fm_un (by omega)).trans f_53
    exact fm_vret hx hb hr hlocks hW (by rw [eM_54, eM_51, eM_48, fm_uu, fm_uu, hp_45]; subst ex_42; rfl) dF_start_63
