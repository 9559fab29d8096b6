-- where the class throws; the law's edge
abbrev ft_nm : List String := ["java/lang/RuntimeException", "java/lang/Exception"]
abbrev ft_tx : String := "more than 15 faults in an edge"
abbrev ft_XS (A : Nat → Prop) (U : State) (H : Heap) : Prop := ft_X "FrameSamples" ft_tx 148 A U H
abbrev ft_SS (D : va_G) (ct : Nat → ClassId) (A : Nat → Prop) (M : fm_M) : State → Prop := ft_St "FrameSamples" ft_tx 148 D fs_cl5 (fs_tys ct) fs_nw A M
theorem ini_AE : Cond.initialized "java/lang/ArithmeticException" ∈ fs_tb := fs_ti 12 (by decide +kernel) (by decide +kernel)
theorem ft_own0 : ∀ a ∈ Bundle.ownAtoms "FrameSamples" 150 ft_AE ft_nm, (a = .isRef (.static Bundle.tN "UNASSIGNED_STACK" Bundle.steD) ∨ a = .isRef (.static Bundle.tN "SUPPRESSED_SENTINEL" Bundle.listD) ∨ a = .laysStatic Bundle.tN "UNASSIGNED_STACK" Bundle.steD ∨ a = .laysStatic Bundle.tN "SUPPRESSED_SENTINEL" Bundle.listD) ∨ a ∈ ft_ds.map Cond.declares ∨ a = .castable ft_AE ft_AE ∨ (a ∈ tables_1 ∧ goodWord a = true) := by decide +kernel
theorem ft_own {args : Array Value} {s : State} {A : Nat → Prop} (hT : ∀ w ∈ fs_tb, w.before args s = true) (hX : ft_XS A s s.heap) : ∀ a ∈ Bundle.ownAtoms "FrameSamples" 150 ft_AE ft_nm, a.before args s = true := by
  intro a ha
  rcases ft_own0 a ha with (h | h | h | h) | h | h | h
  · rw [h]; exact ft_isRef hX.1.1
  · rw [h]; exact ft_isRef hX.1.2.1
  · rw [h]; exact ft_L.word hX.1.2.2.1
  · rw [h]; exact ft_L.word hX.1.2.2.2
  · obtain ⟨d, hd, rfl⟩ := List.mem_map.mp h
    exact va_Nw.use rfl (hX.2.1 d hd)
  · rw [h]; exact va_Nw.use rfl hX.2.2.1
  · exact hT a (List.mem_filter.mpr ⟨List.mem_append_right _ h.1, h.2⟩)
/-- no table of handlers -/
theorem ft_tab {p : Program} {l : Launch} {e : Env} {R : Room} {s : State} {m : MethodId} {args : Array Value} {below : List Frame} {meth : Method} {c : Code} {H : Heap} {locs : List Loc} {cells slots : Nat} {Q : State → Prop} {g : JFrame} {y : MethodName} {bytes : ByteArray} {maxL : Nat} {ret : Option FieldType} (hn : s.methodNamed? y = some m) (h : (Cond.code y bytes maxL ret).before args s = true)
    (kk : c.exceptionTable.toList = [] → W p l e R s m args below meth c H locs cells slots Q g) : W p l e R s m args below meth c H locs cells slots Q g := by
  intro T hT X
  refine kk ?_ T hT X
  obtain ⟨meth', c', hm', hc', -, -, -, -, hempty, -⟩ := Cond.code_spec hn h
  cases Option.some.inj (hm'.symm.trans X.method)
  cases Option.some.inj (hc'.symm.trans X.code)
  have h0 : c.exceptionTable.size = 0 := by simpa [Array.isEmpty] using hempty
  exact List.eq_nil_of_length_eq_zero (by simpa using h0)
/-- a table of one handler -/
theorem ft_tab1 {p : Program} {l : Launch} {e : Env} {R : Room} {s : State} {m : MethodId} {args : Array Value} {below : List Frame} {meth : Method} {c : Code} {H : Heap} {locs : List Loc} {cells slots : Nat} {Q : State → Prop} {g : JFrame} {y : MethodName} {bytes : ByteArray} {maxL a1 a2 a3 a4 : Nat} {ret : Option FieldType} (hn : s.methodNamed? y = some m) (h : (Cond.codeWith y bytes maxL ret [(a1, a2, a3, a4)]).before args s = true)
    (kk : ∀ en : ExceptionTableEntry, c.exceptionTable.toList = [en] → en.startPc = a1 → en.endPc = a2 → en.handlerPc = a3 → en.catchType = a4 → W p l e R s m args below meth c H locs cells slots Q g) : W p l e R s m args below meth c H locs cells slots Q g := by
  intro T hT X
  obtain ⟨m9, meth', c', hn9, hm', hc', -, -, ht, -⟩ := Cond.codeWith_spec h
  cases Option.some.inj (hn.symm.trans hn9)
  cases Option.some.inj (hm'.symm.trans X.method)
  cases Option.some.inj (hc'.symm.trans X.code)
  cases hl : c.exceptionTable.toList with
  | nil => rw [hl] at ht; cases ht
  | cons en r =>
    rw [hl] at ht
    cases r with
    | cons _ _ => simp at ht
    | nil =>
      simp at ht
      exact kk en hl ht.1 ht.2.1 ht.2.2.1 ht.2.2.2 T hT X
set_option maxHeartbeats 4000000 in
set_option maxRecDepth 100000 in
theorem x_S_oddCases (l : Launch) (hfl : l.flags = pinnedFlags ++ [noTraceFlag]) (D : va_G) (ct : Nat → ClassId) (A : Nat → Prop) (M : fm_M) (b : Nat) (cn : Nat → Nat) (kp pn : Nat → fs_Q) (pr : fs_Q) (lc : Nat → Int32) (lr : Nat → Int64) (fr : Nat → fs_Q) (od : Nat → Int32) (cl : Nat → Int64) (ck : Nat → Int32) (cc : Nat → Int32) (cr : Nat → Int64) (mb : Int64) (hC : fs_CW ct M b cn kp pn pr lc lr fr od cl ck cc cr) (hB : fs_Bd cn) (h15 : ¬ fs_bcl mb ≤ 15) : ft_Met l yS_oddCases wS_oddCases ({ frames := 6, cells := 1, slots := 6, locals := 82 }) (va_Pc [.ref b, .long mb] (ft_SS D ct A M)) (ft_B ft_AE D fs_cl5 A M) 1 6 A := by
  refine ft_ofW (cc := cS_oddCases) (maxL := 12) (ret := (some .long)) (by decide) rfl ?_
  intro p e s m args below meth c s₁ B hml hv
  obtain ⟨rfl, ⟨hP0, hA0, hA1, hK, hN⟩, hX⟩ := hv
  have hx := B.exec
  have hb := B.bytes
  have hr := B.returns
  have hts := atoms_spec (ws := wS_oddCases) B.pre
  have hT : ∀ w ∈ fs_tb, w.before _ s = true := fun w h => hts w (List.mem_cons_of_mem _ h)
  have hown : s.vm.findClass "FrameSamples" = some m.cls := findClass_of_methodNamed B.named
  have hlocks := B.notSynchronized
  have hW : fm_W D fs_cl5 A M s.heap s.heap [] := ⟨hP0, hA0, va_S.rf, hA1⟩
  have hl := lv_entry ([.ref b, .long mb]) (n := 12) (Nat.le_of_ble_eq_true rfl)
  rw [lg_entry_eq]
  generalize (lg_sl ([.ref b, .long mb]) ++ List.replicate (12 - (lg_sl ([.ref b, .long mb])).length) Slot.unset).toArray = ls at hl ⊢
  have hl : lv_has ls 12 [(0, .ref b), (1, .long mb)] := hl
  obtain ⟨hB0, hB1, hB2, hB3, hB4, hB5⟩ := hB
  have hCf : fs_Cf b M M := fs_Cf_r
  refine ft_tab (y := yS_oddCases) B.named (hts _ List.mem_cons_self) (fun htab => ?_)
  have hW0 : fm_W D fs_cl5 (fun q => s.heap.size ≤ q) (fun _ => none) s.heap s.heap [] := ⟨fun a e h => absurd h (by intro z; cases z), fun a e h => absurd h (by intro z; cases z), va_S.rf, fun q h => h⟩
  clear hW
  have hW := hW0
  refine lv_lload_n hx hb dS_oddCases_0 rfl (lv_at hl 1 rfl) ?_
  refine fm_calli (va_runS (As := [.long mb]) (rest := []) ⟨hx, hb, hml, hown, hts⟩ (c_JL_bitCount l D ct (fun q => s.heap.size ≤ q) (fun _ => none) mb) ⟨callB_of 1 hts (fs_gin co_JL_bitCount) rfl rfl rfl (hT _ ini_JL) (hT _ ml_S_138) (by decide +kernel) ⟨Nat.le_of_ble_eq_true rfl, Nat.le_of_ble_eq_true rfl⟩, hT _ st_JL_bitCount⟩ (fn_pre fs_isnw hK hN hW) rfl rfl hl.1 rfl (lv_room (Nat.le_of_ble_eq_true rfl)) dS_oddCases_1 ⟨Nat.le_of_ble_eq_true rfl, Nat.le_of_ble_eq_true rfl⟩) hW (fun r_1 M_2 H locs hp_3 hW => ?_)
  refine va_forget (fun q hq => hW.2.2.1.2.2 q hq) ?_
  have er_1 := hp_3.1
  obtain ⟨q, hq⟩ := hX.2.2.2
  refine lv_bipush (v := 15) hx hb dS_oddCases_4 (by decide) ?_
  refine lv_icmp_le (tgt := 19) hx hb dS_oddCases_6 (by decide) (fun c_4 => ?_) (fun c_4 => ?_)
  · exact absurd (er_1 ▸ c_4) h15
  · exact ft_throw (ix := 146) (il := 148) (ic := 150) (names := ft_nm) hx hb (Launch.traces_off hfl B.admits) hown (by decide +kernel) (by decide +kernel) (ft_own hT hX) (hT _ kl_S_146) (hT _ ini_AE) hq (hl.1.trans hml.symm) htab hlocks dS_oddCases_9 dS_oddCases_12 dS_oddCases_13 dS_oddCases_15 dS_oddCases_18 (Nat.le_of_ble_eq_true rfl) (Nat.le_of_ble_eq_true rfl) (Nat.le_of_ble_eq_true rfl) (Nat.le_of_ble_eq_true rfl) hP0 hA0
set_option maxHeartbeats 4000000 in
set_option maxRecDepth 100000 in
theorem x_S_oddsNumerator (l : Launch) (hfl : l.flags = pinnedFlags ++ [noTraceFlag]) (D : va_G) (ct : Nat → ClassId) (A : Nat → Prop) (M : fm_M) (b : Nat) (cn : Nat → Nat) (kp pn : Nat → fs_Q) (pr : fs_Q) (lc : Nat → Int32) (lr : Nat → Int64) (fr : Nat → fs_Q) (od : Nat → Int32) (cl : Nat → Int64) (ck : Nat → Int32) (cc : Nat → Int32) (cr : Nat → Int64) (mb : Int64) (hC : fs_CW ct M b cn kp pn pr lc lr fr od cl ck cc cr) (hB : fs_Bd cn) (h15 : ¬ fs_bcl mb ≤ 15) : ft_Met l yS_oddsNumerator wS_oddsNumerator ({ frames := 7, cells := 1, slots := 6, locals := 113 }) (va_Pc [.ref b, .long mb] (ft_SS D ct A M)) (ft_B ft_AE D fs_cl5 A M) 1 6 A := by
  refine ft_ofW (cc := cS_oddsNumerator) (maxL := 5) (ret := (some .long)) (by decide) rfl ?_
  intro p e s m args below meth c s₁ B hml hv
  obtain ⟨rfl, ⟨hP0, hA0, hA1, hK, hN⟩, hX⟩ := hv
  have hx := B.exec
  have hb := B.bytes
  have hr := B.returns
  have hts := atoms_spec (ws := wS_oddsNumerator) B.pre
  have hT : ∀ w ∈ fs_tb, w.before _ s = true := fun w h => hts w (List.mem_cons_of_mem _ h)
  have hown : s.vm.findClass "FrameSamples" = some m.cls := findClass_of_methodNamed B.named
  have hlocks := B.notSynchronized
  have hW : fm_W D fs_cl5 A M s.heap s.heap [] := ⟨hP0, hA0, va_S.rf, hA1⟩
  have hl := lv_entry ([.ref b, .long mb]) (n := 5) (Nat.le_of_ble_eq_true rfl)
  rw [lg_entry_eq]
  generalize (lg_sl ([.ref b, .long mb]) ++ List.replicate (5 - (lg_sl ([.ref b, .long mb])).length) Slot.unset).toArray = ls at hl ⊢
  have hl : lv_has ls 5 [(0, .ref b), (1, .long mb)] := hl
  obtain ⟨hB0, hB1, hB2, hB3, hB4, hB5⟩ := hB
  have hCf : fs_Cf b M M := fs_Cf_r
  refine ft_tab (y := yS_oddsNumerator) B.named (hts _ List.mem_cons_self) (fun htab => ?_)
  refine lv_aload_n hx hb dS_oddsNumerator_0 rfl (lv_at hl 0 rfl) ?_
  refine lv_lload_n hx hb dS_oddsNumerator_1 rfl (lv_at hl 1 rfl) ?_
  exact ft_leave (ft_runV (As := [.long mb]) (rest := []) ⟨hx, hb, hml, hown, hts⟩ (x_S_oddCases l hfl D ct A M b cn kp pn pr lc lr fr od cl ck cc cr mb hC ⟨hB0, hB1, hB2, hB3, hB4, hB5⟩ h15) ⟨callB_of 1 hts (fs_gin co_S_oddCases) rfl rfl rfl (hT _ ini_S) (hT _ ml_S_158) (by decide +kernel) ⟨Nat.le_of_ble_eq_true rfl, Nat.le_of_ble_eq_true rfl⟩, hT _ im_S_oddCases, hT _ se_S_oddCases⟩ (ft_preV fs_isnw hK hN hX hW hC.1 rfl) rfl rfl hl.1 rfl (lv_room (Nat.le_of_ble_eq_true rfl)) dS_oddsNumerator_2 ⟨Nat.le_of_ble_eq_true rfl, Nat.le_of_ble_eq_true rfl⟩) hW htab hlocks
set_option maxHeartbeats 4000000 in
set_option maxRecDepth 100000 in
theorem x_S_oddsExponent (l : Launch) (hfl : l.flags = pinnedFlags ++ [noTraceFlag]) (D : va_G) (ct : Nat → ClassId) (A : Nat → Prop) (M : fm_M) (b : Nat) (cn : Nat → Nat) (kp pn : Nat → fs_Q) (pr : fs_Q) (lc : Nat → Int32) (lr : Nat → Int64) (fr : Nat → fs_Q) (od : Nat → Int32) (cl : Nat → Int64) (ck : Nat → Int32) (cc : Nat → Int32) (cr : Nat → Int64) (mb : Int64) (hC : fs_CW ct M b cn kp pn pr lc lr fr od cl ck cc cr) (hB : fs_Bd cn) (h15 : ¬ fs_bcl mb ≤ 15) : ft_Met l yS_oddsExponent wS_oddsExponent ({ frames := 7, cells := 1, slots := 6, locals := 113 }) (va_Pc [.ref b, .long mb] (ft_SS D ct A M)) (ft_B ft_AE D fs_cl5 A M) 1 6 A := by
  refine ft_ofW (cc := cS_oddsExponent) (maxL := 5) (ret := (some .long)) (by decide) rfl ?_
  intro p e s m args below meth c s₁ B hml hv
  obtain ⟨rfl, ⟨hP0, hA0, hA1, hK, hN⟩, hX⟩ := hv
  have hx := B.exec
  have hb := B.bytes
  have hr := B.returns
  have hts := atoms_spec (ws := wS_oddsExponent) B.pre
  have hT : ∀ w ∈ fs_tb, w.before _ s = true := fun w h => hts w (List.mem_cons_of_mem _ h)
  have hown : s.vm.findClass "FrameSamples" = some m.cls := findClass_of_methodNamed B.named
  have hlocks := B.notSynchronized
  have hW : fm_W D fs_cl5 A M s.heap s.heap [] := ⟨hP0, hA0, va_S.rf, hA1⟩
  have hl := lv_entry ([.ref b, .long mb]) (n := 5) (Nat.le_of_ble_eq_true rfl)
  rw [lg_entry_eq]
  generalize (lg_sl ([.ref b, .long mb]) ++ List.replicate (5 - (lg_sl ([.ref b, .long mb])).length) Slot.unset).toArray = ls at hl ⊢
  have hl : lv_has ls 5 [(0, .ref b), (1, .long mb)] := hl
  obtain ⟨hB0, hB1, hB2, hB3, hB4, hB5⟩ := hB
  have hCf : fs_Cf b M M := fs_Cf_r
  refine ft_tab (y := yS_oddsExponent) B.named (hts _ List.mem_cons_self) (fun htab => ?_)
  refine lv_aload_n hx hb dS_oddsExponent_0 rfl (lv_at hl 0 rfl) ?_
  refine lv_lload_n hx hb dS_oddsExponent_1 rfl (lv_at hl 1 rfl) ?_
  exact ft_leave (ft_runV (As := [.long mb]) (rest := []) ⟨hx, hb, hml, hown, hts⟩ (x_S_oddCases l hfl D ct A M b cn kp pn pr lc lr fr od cl ck cc cr mb hC ⟨hB0, hB1, hB2, hB3, hB4, hB5⟩ h15) ⟨callB_of 1 hts (fs_gin co_S_oddCases) rfl rfl rfl (hT _ ini_S) (hT _ ml_S_158) (by decide +kernel) ⟨Nat.le_of_ble_eq_true rfl, Nat.le_of_ble_eq_true rfl⟩, hT _ im_S_oddCases, hT _ se_S_oddCases⟩ (ft_preV fs_isnw hK hN hX hW hC.1 rfl) rfl rfl hl.1 rfl (lv_room (Nat.le_of_ble_eq_true rfl)) dS_oddsExponent_2 ⟨Nat.le_of_ble_eq_true rfl, Nat.le_of_ble_eq_true rfl⟩) hW htab hlocks
set_option maxHeartbeats 4000000 in
set_option maxRecDepth 100000 in
theorem x_S_edge (l : Launch) (hfl : l.flags = pinnedFlags ++ [noTraceFlag]) (D : va_G) (ct : Nat → ClassId) (A : Nat → Prop) (M : fm_M) (b : Nat) (cn : Nat → Nat) (kp pn : Nat → fs_Q) (pr : fs_Q) (lc : Nat → Int32) (lr : Nat → Int64) (fr : Nat → fs_Q) (od : Nat → Int32) (cl : Nat → Int64) (ck : Nat → Int32) (cc : Nat → Int32) (cr : Nat → Int64) (lk wh : Int32) (hC : fs_CW ct M b cn kp pn pr lc lr fr od cl ck cc cr) (hB : fs_Bd cn) (g : Nat) (g1 : g < cn 3) (g2 : fs_isb ck g = true) (g3 : nI (fs_ce ck g) = lk) (hw : wh = 2 ∨ wh = 3) (hn : ¬ fs_pc 64 (fs_uN (fs_mem ck (ck g) (cn 3))) ≤ 15) : ft_Met l yS_edge wS_edge ({ frames := 8, cells := 1, slots := 6, locals := 137 }) (va_Pc [.ref b, .int lk, .int wh] (ft_SS D ct A M)) (ft_B ft_AE D fs_cl5 A M) 1 6 A := by
  refine ft_ofW (cc := cS_edge) (maxL := 6) (ret := (some .long)) (by decide) rfl ?_
  intro p e s m args below meth c s₁ B hml hv
  obtain ⟨rfl, ⟨hP0, hA0, hA1, hK, hN⟩, hX⟩ := hv
  have hx := B.exec
  have hb := B.bytes
  have hr := B.returns
  have hts := atoms_spec (ws := wS_edge) B.pre
  have hT : ∀ w ∈ fs_tb, w.before _ s = true := fun w h => hts w (List.mem_cons_of_mem _ h)
  have hown : s.vm.findClass "FrameSamples" = some m.cls := findClass_of_methodNamed B.named
  have hlocks := B.notSynchronized
  have hW : fm_W D fs_cl5 A M s.heap s.heap [] := ⟨hP0, hA0, va_S.rf, hA1⟩
  have hl := lv_entry ([.ref b, .int lk, .int wh]) (n := 6) (Nat.le_of_ble_eq_true rfl)
  rw [lg_entry_eq]
  generalize (lg_sl ([.ref b, .int lk, .int wh]) ++ List.replicate (6 - (lg_sl ([.ref b, .int lk, .int wh])).length) Slot.unset).toArray = ls at hl ⊢
  have hl : lv_has ls 6 [(0, .ref b), (1, .int lk), (2, .int wh)] := hl
  obtain ⟨hB0, hB1, hB2, hB3, hB4, hB5⟩ := hB
  have hCf : fs_Cf b M M := fs_Cf_r
  refine ft_tab (y := yS_edge) B.named (hts _ List.mem_cons_self) (fun htab => ?_)
  refine lv_aload_n hx hb dS_edge_0 rfl (lv_at hl 0 rfl) ?_
  refine lv_iload_n hx hb dS_edge_1 rfl (lv_at hl 1 rfl) ?_
  refine fm_calli (va_runV (As := [.int lk]) (rest := []) ⟨hx, hb, hml, hown, hts⟩ (c_S_firstFaultOfEdge l D ct A M b cn kp pn pr lc lr fr od cl ck cc cr lk hC ⟨hB0, hB1, hB2, hB3, hB4, hB5⟩) ⟨callB_of 1 hts (fs_gin co_S_firstFaultOfEdge) rfl rfl rfl (hT _ ini_S) (hT _ ml_S_110) (by decide +kernel) ⟨Nat.le_of_ble_eq_true rfl, Nat.le_of_ble_eq_true rfl⟩, hT _ im_S_firstFaultOfEdge, hT _ se_S_firstFaultOfEdge⟩ (fn_preV fs_isnw hK hN hW hC.1 rfl) rfl rfl hl.1 rfl (lv_room (Nat.le_of_ble_eq_true rfl)) dS_edge_2 ⟨Nat.le_of_ble_eq_true rfl, Nat.le_of_ble_eq_true rfl⟩) hW (fun r_1 M_2 H locs hp_3 hW => ?_)
  have hW : fm_W D fs_cl5 A M s.heap H locs := by rw [← hp_3.2]; exact hW
  rcases hp_3.1 with ⟨er, hno⟩ | ⟨γ, γ1, γ2, γ3, er⟩
  · exact absurd g3 (hno g g1 g2)
  · have hgg : γ = g := by
      refine fs_ce_inj γ2 g2 ((nI_eq ?_ ?_).mp (γ3.trans g3.symm))
      · have := fs_ce_le ck γ; omega
      · have := fs_ce_le ck g; omega
    subst hgg
    subst er
    refine lv_istore_n (lv' := [(3, .int (nI γ)), (0, .ref b), (1, .int lk), (2, .int wh)]) hx hb dS_edge_5 rfl hl (by decide) rfl (fun ls hl => ?_)
    refine lv_iload_n hx hb dS_edge_6 rfl (lv_at hl 0 rfl) ?_
    refine lv_iconst (v := -1) hx hb dS_edge_7 (by decide) ?_
    refine lv_icmp_ne (tgt := 15) hx hb dS_edge_8 (by decide) (fun c_4 => ?_) (fun c_4 => ?_)
    · refine lv_aload_n hx hb dS_edge_15 rfl (lv_at hl 1 rfl) ?_
      refine lv_iload_n hx hb dS_edge_16 rfl (lv_at hl 0 rfl) ?_
      refine fm_calll (va_runV (As := [.int (nI γ)]) (rest := []) ⟨hx, hb, hml, hown, hts⟩ (c_S_faultsLike l D ct A M b cn kp pn pr lc lr fr od cl ck cc cr γ hC ⟨hB0, hB1, hB2, hB3, hB4, hB5⟩ g1) ⟨callB_of 1 hts (fs_gin co_S_faultsLike) rfl rfl rfl (hT _ ini_S) (hT _ ml_S_114) (by decide +kernel) ⟨Nat.le_of_ble_eq_true rfl, Nat.le_of_ble_eq_true rfl⟩, hT _ im_S_faultsLike, hT _ se_S_faultsLike⟩ (fn_preV fs_isnw hK hN hW hC.1 rfl) rfl rfl hl.1 rfl (lv_room (Nat.le_of_ble_eq_true rfl)) dS_edge_17 ⟨Nat.le_of_ble_eq_true rfl, Nat.le_of_ble_eq_true rfl⟩) hW (fun r_5 M_6 H locs hp_7 hW => ?_)
      have hW : fm_W D fs_cl5 A M s.heap H locs := by rw [← hp_7.2]; exact hW
      have er_5 := hp_7.1
      have h15c : ¬ fs_bcl r_5 ≤ 15 := by
        rw [fs_bcl_pc, er_5]
        exact fun z => hn ((nI_leI (b := 15) (by have := fs_pc_le 64 (fs_uN (fs_mem ck (ck γ) (cn 3))); omega) (by decide)).mp z)
      refine lv_lstore (lv' := [(4, .long r_5), (3, .int (nI γ)), (0, .ref b), (1, .int lk), (2, .int wh)]) hx hb dS_edge_20 hl (by decide) rfl (fun ls hl => ?_)
      refine lv_iload_n hx hb dS_edge_22 rfl (lv_at hl 4 rfl) ?_
      by_cases hk0 : wh = 0
      · subst hk0
        refine lv_tableIn (off := 29) (tgt := 52) hx hb dS_edge_23 (by decide) (by decide) rfl (by decide) ?_
        exact absurd hw (by decide)
      by_cases hk1 : wh = 1
      · subst hk1
        refine lv_tableIn (off := 40) (tgt := 63) hx hb dS_edge_23 (by decide) (by decide) rfl (by decide) ?_
        exact absurd hw (by decide)
      by_cases hk2 : wh = 2
      · subst hk2
        refine lv_tableIn (off := 43) (tgt := 66) hx hb dS_edge_23 (by decide) (by decide) rfl (by decide) ?_
        refine lv_aload_n hx hb dS_edge_66 rfl (lv_at hl 2 rfl) ?_
        refine lv_lload hx hb dS_edge_67 (lv_at hl 0 rfl) ?_
        exact ft_leave (ft_runV (As := [.long r_5]) (rest := []) ⟨hx, hb, hml, hown, hts⟩ (x_S_oddsNumerator l hfl D ct A M b cn kp pn pr lc lr fr od cl ck cc cr r_5 hC ⟨hB0, hB1, hB2, hB3, hB4, hB5⟩ h15c) ⟨callB_of 1 hts (fs_gin co_S_oddsNumerator) rfl rfl rfl (hT _ ini_S) (hT _ ml_S_118) (by decide +kernel) ⟨Nat.le_of_ble_eq_true rfl, Nat.le_of_ble_eq_true rfl⟩, hT _ im_S_oddsNumerator, hT _ se_S_oddsNumerator⟩ (ft_preV fs_isnw hK hN hX hW hC.1 rfl) rfl rfl hl.1 rfl (lv_room (Nat.le_of_ble_eq_true rfl)) dS_edge_69 ⟨Nat.le_of_ble_eq_true rfl, Nat.le_of_ble_eq_true rfl⟩) hW htab hlocks
      by_cases hk3 : wh = 3
      · subst hk3
        refine lv_tableIn (off := 50) (tgt := 73) hx hb dS_edge_23 (by decide) (by decide) rfl (by decide) ?_
        refine lv_aload_n hx hb dS_edge_73 rfl (lv_at hl 2 rfl) ?_
        refine lv_lload hx hb dS_edge_74 (lv_at hl 0 rfl) ?_
        exact ft_leave (ft_runV (As := [.long r_5]) (rest := []) ⟨hx, hb, hml, hown, hts⟩ (x_S_oddsExponent l hfl D ct A M b cn kp pn pr lc lr fr od cl ck cc cr r_5 hC ⟨hB0, hB1, hB2, hB3, hB4, hB5⟩ h15c) ⟨callB_of 1 hts (fs_gin co_S_oddsExponent) rfl rfl rfl (hT _ ini_S) (hT _ ml_S_122) (by decide +kernel) ⟨Nat.le_of_ble_eq_true rfl, Nat.le_of_ble_eq_true rfl⟩, hT _ im_S_oddsExponent, hT _ se_S_oddsExponent⟩ (ft_preV fs_isnw hK hN hX hW hC.1 rfl) rfl rfl hl.1 rfl (lv_room (Nat.le_of_ble_eq_true rfl)) dS_edge_76 ⟨Nat.le_of_ble_eq_true rfl, Nat.le_of_ble_eq_true rfl⟩) hW htab hlocks
      refine lv_tableOut (tgt := 80) hx hb dS_edge_23 (fs_swo (n := 3) (by decide) (fs_le3 hk0 hk1 hk2 hk3)) (by decide) ?_
      exact absurd hw (fun z => z.elim hk2 hk3)
    · exact absurd c_4 (fs_nIm1 (by omega))
theorem cw_L_edge : Cond.codeWith yL_edge cL_edge 5 (some .int) [(0, 9, 12, 13)] ∈ fs_tb := fs_ti 292 (by decide +kernel) (by decide +kernel)
def wL_edge : List Cond := Cond.codeWith yL_edge cL_edge 5 (some .int) [(0, 9, 12, 13)] :: fs_tb
set_option maxHeartbeats 4000000 in
set_option maxRecDepth 100000 in
theorem c_L_edge (l : Launch) (hfl : l.flags = pinnedFlags ++ [noTraceFlag]) (D : va_G) (ct : Nat → ClassId) (A : Nat → Prop) (M : fm_M) (b : Nat) (cn : Nat → Nat) (kp pn : Nat → fs_Q) (pr : fs_Q) (lc : Nat → Int32) (lr : Nat → Int64) (fr : Nat → fs_Q) (od : Nat → Int32) (cl : Nat → Int64) (ck : Nat → Int32) (cc : Nat → Int32) (cr : Nat → Int64) (o : Nat) (f : Nat → Int64) (lk wh : Int32) (hC : fs_CW ct M b cn kp pn pr lc lr fr od cl ck cc cr) (hB : fs_Bd cn) (ho : M o = some (.inl (ct 1, 1, .inr (.inl f)))) : Met l yL_edge wL_edge ({ frames := 9, cells := 1, slots := 6, locals := 162 }) (va_Pc [.ref b, .int lk, .int wh, .ref o] (ft_SS D ct A M)) (va_Qi (fun (r : Int32) (M1 : fm_M) => (r = 0 ∧ ∃ v : Int64, fs_ER (cn 3) ck od lk wh 0 v ∧ M1 = va_up M o (some (.inl (ct 1, 1, .inr (.inl (vp_updL f 0 v)))))) ∨ (r = 1 ∧ M1 = M ∧ ∃ v : Int64, fs_ER (cn 3) ck od lk wh 1 v)) (fm_B D fs_cl5 A) A) 1 6 A := by
  refine va_MetW (hh := [(0, 9, 12, 13)]) (cc := cL_edge) (maxL := 5) (ret := (some .int)) (by decide) rfl ?_
  intro p e s m args below meth c s₁ B hml hv
  obtain ⟨rfl, ⟨hP0, hA0, hA1, hK, hN⟩, hX⟩ := hv
  have hx := B.exec
  have hb := B.bytes
  have hr := B.returns
  have hts := atoms_spec (ws := wL_edge) B.pre
  have hT : ∀ w ∈ fs_tb, w.before _ s = true := fun w h => hts w (List.mem_cons_of_mem _ h)
  have hown : s.vm.findClass "FrameSamplesLaw" = some m.cls := findClass_of_methodNamed B.named
  have hlocks := B.notSynchronized
  have hW : fm_W D fs_cl5 A M s.heap s.heap [] := ⟨hP0, hA0, va_S.rf, hA1⟩
  have hl := lv_entry ([.ref b, .int lk, .int wh, .ref o]) (n := 5) (Nat.le_of_ble_eq_true rfl)
  rw [lg_entry_eq]
  generalize (lg_sl ([.ref b, .int lk, .int wh, .ref o]) ++ List.replicate (5 - (lg_sl ([.ref b, .int lk, .int wh, .ref o])).length) Slot.unset).toArray = ls at hl ⊢
  have hl : lv_has ls 5 [(0, .ref b), (1, .int lk), (2, .int wh), (3, .ref o)] := hl
  refine ft_tab1 (y := yL_edge) B.named (hts _ List.mem_cons_self) (fun en htab t1 t2 t3 t4 => ?_)
  refine lv_aload_n hx hb dL_edge_0 rfl (lv_at hl 3 rfl) ?_
  refine lv_iconst (v := 0) hx hb dL_edge_1 (by decide) ?_
  refine lv_aload_n hx hb dL_edge_2 rfl (lv_at hl 0 rfl) ?_
  refine lv_iload_n hx hb dL_edge_3 rfl (lv_at hl 1 rfl) ?_
  refine lv_iload_n hx hb dL_edge_4 rfl (lv_at hl 2 rfl) ?_
  by_cases hq : ∃ g, g < cn 3 ∧ fs_isb ck g = true ∧ nI (fs_ce ck g) = lk ∧ (wh = 2 ∨ wh = 3) ∧ ¬ fs_pc 64 (fs_uN (fs_mem ck (ck g) (cn 3))) ≤ 15
  · obtain ⟨g, g1, g2, g3, g4, g5⟩ := hq
    refine ft_catch (own := "FrameSamplesLaw") (ft_runV (As := [.int lk, .int wh]) (rest := [.int 0, .ref o]) ⟨hx, hb, hml, hown, hts⟩ (x_S_edge l hfl D ct A M b cn kp pn pr lc lr fr od cl ck cc cr lk wh hC hB g g1 g2 g3 g4 g5) ⟨callB_of 2 hts (fs_gin co_S_edge) rfl rfl rfl (hT _ ini_S) (hT _ ml_L_7) (by decide +kernel) ⟨Nat.le_of_ble_eq_true rfl, Nat.le_of_ble_eq_true rfl⟩, hT _ im_S_edge, hT _ se_S_edge⟩ (ft_preV fs_isnw hK hN hX hW hC.1 rfl) rfl rfl hl.1 rfl (lv_room (Nat.le_of_ble_eq_true rfl)) dL_edge_5 ⟨Nat.le_of_ble_eq_true rfl, Nat.le_of_ble_eq_true rfl⟩) hW (en := en) hown htab (by simp [covers, t1, t2]) (by rw [t4]; decide) (by rw [t4]; exact hT _ kl_L_13) (fun x H locs hW => ?_)
    rw [t3]
    refine lv_astore (lv' := [(4, .ref x), (0, .ref b), (1, .int lk), (2, .int wh), (3, .ref o)]) hx hb dL_edge_12 hl (by decide) rfl (fun ls hl => ?_)
    refine lv_iconst (v := 1) hx hb dL_edge_14 (by decide) ?_
    exact fm_iret hx hb hr hlocks hW (Or.inr ⟨rfl, rfl, 0, Or.inr ⟨g, g1, g2, g3, Or.inr (Or.inr (Or.inr (Or.inl ⟨g4, g5, rfl⟩)))⟩⟩) dL_edge_15
  · refine fm_calll (va_runV (As := [.int lk, .int wh]) (rest := [.int 0, .ref o]) ⟨hx, hb, hml, hown, hts⟩ (c_S_edge l D ct A M b cn kp pn pr lc lr fr od cl ck cc cr lk wh hC hB (fun hw g g1 g2 g3 => Decidable.byContradiction fun hn => hq ⟨g, g1, g2, g3, hw, hn⟩)) ⟨callB_of 2 hts (fs_gin co_S_edge) rfl rfl rfl (hT _ ini_S) (hT _ ml_L_7) (by decide +kernel) ⟨Nat.le_of_ble_eq_true rfl, Nat.le_of_ble_eq_true rfl⟩, hT _ im_S_edge, hT _ se_S_edge⟩ (fn_preV fs_isnw hK hN hW hC.1 rfl) rfl rfl hl.1 rfl (lv_room (Nat.le_of_ble_eq_true rfl)) dL_edge_5 ⟨Nat.le_of_ble_eq_true rfl, Nat.le_of_ble_eq_true rfl⟩) hW (fun r_1 M_2 H locs hp_3 hW => ?_)
    have hW : fm_W D fs_cl5 A M s.heap H locs := by rw [← hp_3.1]; exact hW
    refine fm_last (i := 0) hx hb hK hW 1 ho rfl (vp_in_nI (n := 0) (N := 1) (by decide) (by decide)) dL_edge_8 (fun H locs hW => ?_)
    refine lv_goto (tgt := 16) hx hb dL_edge_9 (by decide) ?_
    refine lv_iconst (v := 0) hx hb dL_edge_16 (by decide) ?_
    refine W.widen (k := 1) (n := 6) (Nat.le_of_ble_eq_true rfl) (Nat.le_of_ble_eq_true rfl) ?_
    exact fm_iret hx hb hr hlocks hW (Or.inl ⟨rfl, r_1, hp_3.2, rfl⟩) dL_edge_17
