-- FrameSamples: startOver, begin, gate
def fs_Bd (cn : Nat → Nat) : Prop := 1 ≤ cn 0 ∧ cn 0 ≤ 10 ∧ cn 1 ≤ 300 ∧ cn 2 ≤ 60 ∧ cn 3 ≤ 40 ∧ cn 4 ≤ 16
def fs_c0 (n : Nat) : Nat → Nat := fun k => if k = 0 then n else 0
theorem fs_CW_re {ct : Nat → ClassId} {M M2 : fm_M} {b : Nat} {cn : Nat → Nat} {kp pn : Nat → fs_Q} {pr : fs_Q} {lc : Nat → Int32} {lr : Nat → Int64} {fr : Nat → fs_Q} {od : Nat → Int32} {cl : Nat → Int64} {ck : Nat → Int32} {cc : Nat → Int32} {cr : Nat → Int64} {cn2 : Nat → Nat} {kp2 pn2 : Nat → fs_Q} {pr2 : fs_Q} (C : fs_CW ct M b cn kp pn pr lc lr fr od cl ck cc cr) (T : fs_TB ct M2 b kp2 pn2 pr2 (nI (cn2 0))) (h : fs_Tf b M M2) : fs_CW ct (va_up M2 b (some (fs_SE b cn2))) b cn2 kp2 pn2 pr2 lc lr fr od cl ck cc cr := by
  obtain ⟨t1, t2, t3, t4, t5, t6, t7, t8, t9⟩ := C
  exact ⟨fm_us, fs_TB_frame T (fun a h1 h2 => fm_un (by omega)), (fm_un (by omega)).trans ((h _ (by omega)).trans t3), (fm_un (by omega)).trans ((h _ (by omega)).trans t4), (fm_un (by omega)).trans ((h _ (by omega)).trans t5), fun j hj => (fm_un (by omega)).trans ((h _ (by omega)).trans (t6 j hj)), fun j hj => (fm_un (by omega)).trans ((h _ (by omega)).trans (t7 j hj)), (fm_un (by omega)).trans ((h _ (by omega)).trans t8), (fm_un (by omega)).trans ((h _ (by omega)).trans t9)⟩
theorem fs_n10 {x : Int32} (h1 : ¬ x < 1) (h2 : x ≤ 10) : ∃ N : Nat, 1 ≤ N ∧ N ≤ 10 ∧ x = nI N := by
  have h0 : ¬ x < 0 := fun z => h1 (by
    rw [Int32.lt_iff_toInt_lt] at z ⊢
    have : (0 : Int32).toInt = 0 := rfl
    have : (1 : Int32).toInt = 1 := rfl
    omega)
  obtain ⟨j, hj, rfl⟩ := nI_of2 (M := 10) (n := 10) rfl h0 h2
  refine ⟨j, ?_, hj, rfl⟩
  rcases Nat.lt_or_ge j 1 with q | q
  · exact absurd (nI_lt (b := 1) q (by decide)) h1
  · exact q
section FNR
variable {p : Program} {l : Launch} {e : Env} {R : Room} {s : State} {m : MethodId} {args : Array Value} {below : List Frame} {meth : Method} {c : Code} {H : Heap} {locs : List Loc} {cells slots : Nat} {Q : State → Prop}
variable {cc : ByteArray} {pc : Nat} {ls : Array Slot} {rest : List Value} {D : va_G} {cl : List vw_C} {A : Nat → Prop} {a : Nat} {tys : List (ClassId × FieldType)} {M : fm_M} {H0 : Heap}
theorem fn_iald (hexec : p.tables.exec = Jvm.exec) (hb : c.code = cc) (hK : va_K D cl tys s) (hW : fm_W D cl A M H0 H locs) (t0 : Nat) {cA : ClassId} {n : Nat} {f : Nat → Int32} (ha : M a = some (.inl (cA, n, .inl f))) (ht : tys[t0]? = some (cA, .int)) {i : Nat} (hi : i < n) (hn : n < 2 ^ 31) (hdg : decode cc pc = .ok (.iaload, 1))
    (kk : W p l e R s m args below meth c H locs cells slots Q (F0 m (pc + 1) ls (.int (f i) :: rest))) : W p l e R s m args below meth c H locs cells slots Q (F0 m pc ls (.int (nI i) :: .ref a :: rest)) :=
  fm_iald hexec hb hK hW t0 ha ht (vp_in_nI hi hn) hdg (by rw [nI_clamp (by omega)]; exact kk)
theorem fn_lald (hexec : p.tables.exec = Jvm.exec) (hb : c.code = cc) (hK : va_K D cl tys s) (hW : fm_W D cl A M H0 H locs) (t0 : Nat) {cA : ClassId} {n : Nat} {f : Nat → Int64} (ha : M a = some (.inl (cA, n, .inr (.inl f)))) (ht : tys[t0]? = some (cA, .long)) {i : Nat} (hi : i < n) (hn : n < 2 ^ 31) (hdg : decode cc pc = .ok (.laload, 1))
    (kk : W p l e R s m args below meth c H locs cells slots Q (F0 m (pc + 1) ls (.long (f i) :: rest))) : W p l e R s m args below meth c H locs cells slots Q (F0 m pc ls (.int (nI i) :: .ref a :: rest)) :=
  fm_lald hexec hb hK hW t0 ha ht (vp_in_nI hi hn) hdg (by rw [nI_clamp (by omega)]; exact kk)
theorem fn_zald (hexec : p.tables.exec = Jvm.exec) (hb : c.code = cc) (hK : va_K D cl tys s) (hW : fm_W D cl A M H0 H locs) (t0 : Nat) {cA : ClassId} {n : Nat} {f : Nat → Int32} (ha : M a = some (.inl (cA, n, .inl f))) (ht : tys[t0]? = some (cA, .boolean)) {i : Nat} (hi : i < n) (hn : n < 2 ^ 31) (hdg : decode cc pc = .ok (.baload, 1))
    (kk : W p l e R s m args below meth c H locs cells slots Q (F0 m (pc + 1) ls (.int (f i) :: rest))) : W p l e R s m args below meth c H locs cells slots Q (F0 m pc ls (.int (nI i) :: .ref a :: rest)) :=
  fm_zald hexec hb hK hW t0 ha ht (vp_in_nI hi hn) hdg (by rw [nI_clamp (by omega)]; exact kk)
theorem fn_iast (hexec : p.tables.exec = Jvm.exec) (hb : c.code = cc) (hK : va_K D cl tys s) (hW : fm_W D cl A M H0 H locs) (t0 : Nat) {cA : ClassId} {n : Nat} {f : Nat → Int32} (ha : M a = some (.inl (cA, n, .inl f))) (ht : tys[t0]? = some (cA, .int)) {i : Nat} (hi : i < n) (hn : n < 2 ^ 31) {x : Int32} (hdg : decode cc pc = .ok (.iastore, 1))
    (kk : ∀ (H1 : Heap) (locs1 : List Loc), fm_W D cl A (va_up M a (some (.inl (cA, n, .inl (upd f i x))))) H0 H1 locs1 → W p l e R s m args below meth c H1 locs1 cells slots Q (F0 m (pc + 1) ls rest)) : W p l e R s m args below meth c H locs cells slots Q (F0 m pc ls (.int x :: .int (nI i) :: .ref a :: rest)) :=
  fm_iast hexec hb hK hW t0 ha ht (vp_in_nI hi hn) hdg (by rw [nI_clamp (by omega)]; exact kk)
theorem fn_last (hexec : p.tables.exec = Jvm.exec) (hb : c.code = cc) (hK : va_K D cl tys s) (hW : fm_W D cl A M H0 H locs) (t0 : Nat) {cA : ClassId} {n : Nat} {f : Nat → Int64} (ha : M a = some (.inl (cA, n, .inr (.inl f)))) (ht : tys[t0]? = some (cA, .long)) {i : Nat} (hi : i < n) (hn : n < 2 ^ 31) {x : Int64} (hdg : decode cc pc = .ok (.lastore, 1))
    (kk : ∀ (H1 : Heap) (locs1 : List Loc), fm_W D cl A (va_up M a (some (.inl (cA, n, .inr (.inl (vp_updL f i x)))))) H0 H1 locs1 → W p l e R s m args below meth c H1 locs1 cells slots Q (F0 m (pc + 1) ls rest)) : W p l e R s m args below meth c H locs cells slots Q (F0 m pc ls (.long x :: .int (nI i) :: .ref a :: rest)) :=
  fm_last hexec hb hK hW t0 ha ht (vp_in_nI hi hn) hdg (by rw [nI_clamp (by omega)]; exact kk)
end FNR
set_option maxHeartbeats 4000000 in
set_option maxRecDepth 100000 in
theorem c_S_startOver (l : Launch) (D : va_G) (ct : Nat → ClassId) (A : Nat → Prop) (M : fm_M) (b : Nat) (cn : Nat → Nat) (kp pn : Nat → fs_Q) (pr : fs_Q) (lc : Nat → Int32) (lr : Nat → Int64) (fr : Nat → fs_Q) (od : Nat → Int32) (cl : Nat → Int64) (ck : Nat → Int32) (cc : Nat → Int32) (cr : Nat → Int64) (N : Nat) (hC : fs_CW ct M b cn kp pn pr lc lr fr od cl ck cc cr) (hN2 : N ≤ 10) : Met l yS_startOver wS_startOver ({ frames := 2, cells := 0, slots := 0, locals := 44 }) (va_Pc [.ref b, .int (nI N)] (fm_St D fs_cl5 (fs_tys ct) fs_nw A M)) (va_Qv (fun (M1 : fm_M) => ∃ kp2 pn2 : Nat → fs_Q, fs_CW ct M1 b (fs_c0 N) kp2 pn2 pr lc lr fr od cl ck cc cr ∧ fs_Cf b M M1 ∧ (∀ i, i < N → kp2 i = ((0, 1 <<< (nI i &&& 31), 0, 0) : fs_Q)) ∧ ∀ i, i < N → pn2 i = ((1 <<< (nI i &&& 31), 0, 0, 0) : fs_Q)) (fm_B D fs_cl5 A) A) 0 0 A := by
  refine Met.ofW (cc := cS_startOver) (maxL := 2) (ret := none) (by decide) rfl ?_
  intro p e s m args below meth c s₁ B hml hv
  obtain ⟨rfl, hP0, hA0, hA1, hK, hN⟩ := hv
  have hx := B.exec
  have hb := B.bytes
  have hr := B.returns
  have hts := atoms_spec (ws := wS_startOver) B.pre
  have hT : ∀ w ∈ fs_tb, w.before _ s = true := fun w h => hts w (List.mem_cons_of_mem _ h)
  have hown : s.vm.findClass "FrameSamples" = some m.cls := findClass_of_methodNamed B.named
  have hlocks := B.notSynchronized
  have hW : fm_W D fs_cl5 A M s.heap s.heap [] := ⟨hP0, hA0, va_S.rf, hA1⟩
  have hl := lv_entry ([.ref b, .int (nI N)]) (n := 2) (Nat.le_of_ble_eq_true rfl)
  rw [lg_entry_eq]
  generalize (lg_sl ([.ref b, .int (nI N)]) ++ List.replicate (2 - (lg_sl ([.ref b, .int (nI N)])).length) Slot.unset).toArray = ls at hl ⊢
  have hl : lv_has ls 2 [(0, .ref b), (1, .int (nI N))] := hl
  refine lv_aload_n hx hb dS_startOver_0 rfl (lv_at hl 0 rfl) ?_
  refine fm_get (ci := 3) (v := .ref (b + 1)) (C := RS) (T := TS) (N := 11) hx hb hT inS hown hK hW hC.1 rfl 0 (by decide) (hT _ fl_S_10) (fun _ h9 => h9) rfl dS_startOver_1 ?_
  refine lv_iload_n hx hb dS_startOver_4 rfl (lv_at hl 1 rfl) ?_
  refine fm_callv (va_runV (As := [.int (nI N)]) (rest := []) ⟨hx, hb, hml, hown, hts⟩ (c_T_start l D ct A M b N kp pn pr (nI (cn 0)) hC.2.1 hN2) ⟨callB_of 1 hts (fs_gin co_T_start) rfl rfl rfl (hT _ ini_T) (hT _ ml_S_136) (by decide +kernel) ⟨Nat.le_of_ble_eq_true rfl, Nat.le_of_ble_eq_true rfl⟩, hT _ im_T_start, hT _ se_T_start⟩ (fn_preV fs_isnw hK hN hW hC.2.1.1 rfl) rfl rfl hl.1 rfl (lv_room (Nat.le_of_ble_eq_true rfl)) dS_startOver_5 ⟨Nat.le_of_ble_eq_true rfl, Nat.le_of_ble_eq_true rfl⟩) hW (fun M_2 H locs hp_3 hW => ?_)
  obtain ⟨kp2, pn2, t1, t2, t3, t4⟩ := hp_3
  have hb0 : M_2 b = some (fs_SE b cn) := (t2 b (by omega)).trans hC.1
  refine lv_aload_n hx hb dS_startOver_8 rfl (lv_at hl 0 rfl) ?_
  refine lv_iload_n hx hb dS_startOver_9 rfl (lv_at hl 1 rfl) ?_
  refine fm_put (ci := 3) (v := .int (nI N)) (ty := .int) (C := RS) (T := TS) (N := 11) hx hb hT inS tyS tkS nmS hown hK hW hb0 rfl 6 (by decide) (hT _ fl_S_129) (fun _ h9 => h9) rfl (by decide +kernel) rfl rfl (Nat.le_of_ble_eq_true rfl) dS_startOver_10 (fun H locs hW => ?_)
  obtain ⟨M_4, eM_4⟩ : ∃ z : fm_M, z = va_up M_2 b (some (.inr (3, [.ref (b + 1), .ref (b + 25), .ref (b + 26), .ref (b + 27), .ref (b + 108), .ref (b + 109), .int (nI N), .int (nI (cn 1)), .int (nI (cn 2)), .int (nI (cn 3)), .int (nI (cn 4))]))) := ⟨_, rfl⟩
  have hW : fm_W D fs_cl5 A M_4 s.heap H locs := by rw [eM_4]; exact hW
  have f_5 : M_4 b = some (.inr (3, [.ref (b + 1), .ref (b + 25), .ref (b + 26), .ref (b + 27), .ref (b + 108), .ref (b + 109), .int (nI N), .int (nI (cn 1)), .int (nI (cn 2)), .int (nI (cn 3)), .int (nI (cn 4))])) := by rw [eM_4]; exact fm_us
  refine lv_aload_n hx hb dS_startOver_13 rfl (lv_at hl 0 rfl) ?_
  refine lv_iconst (v := 0) hx hb dS_startOver_14 (by decide) ?_
  refine fm_put (ci := 3) (v := .int 0) (ty := .int) (C := RS) (T := TS) (N := 11) hx hb hT inS tyS tkS nmS hown hK hW f_5 rfl 7 (by decide) (hT _ fl_S_45) (fun _ h9 => h9) rfl (by decide +kernel) rfl rfl (Nat.le_of_ble_eq_true rfl) dS_startOver_15 (fun H locs hW => ?_)
  obtain ⟨M_6, eM_6⟩ : ∃ z : fm_M, z = va_up M_4 b (some (.inr (3, [.ref (b + 1), .ref (b + 25), .ref (b + 26), .ref (b + 27), .ref (b + 108), .ref (b + 109), .int (nI N), .int 0, .int (nI (cn 2)), .int (nI (cn 3)), .int (nI (cn 4))]))) := ⟨_, rfl⟩
  have hW : fm_W D fs_cl5 A M_6 s.heap H locs := by rw [eM_6]; exact hW
  have f_7 : M_6 b = some (.inr (3, [.ref (b + 1), .ref (b + 25), .ref (b + 26), .ref (b + 27), .ref (b + 108), .ref (b + 109), .int (nI N), .int 0, .int (nI (cn 2)), .int (nI (cn 3)), .int (nI (cn 4))])) := by rw [eM_6]; exact fm_us
  refine lv_aload_n hx hb dS_startOver_18 rfl (lv_at hl 0 rfl) ?_
  refine lv_iconst (v := 0) hx hb dS_startOver_19 (by decide) ?_
  refine fm_put (ci := 3) (v := .int 0) (ty := .int) (C := RS) (T := TS) (N := 11) hx hb hT inS tyS tkS nmS hown hK hW f_7 rfl 8 (by decide) (hT _ fl_S_66) (fun _ h9 => h9) rfl (by decide +kernel) rfl rfl (Nat.le_of_ble_eq_true rfl) dS_startOver_20 (fun H locs hW => ?_)
  obtain ⟨M_8, eM_8⟩ : ∃ z : fm_M, z = va_up M_6 b (some (.inr (3, [.ref (b + 1), .ref (b + 25), .ref (b + 26), .ref (b + 27), .ref (b + 108), .ref (b + 109), .int (nI N), .int 0, .int 0, .int (nI (cn 3)), .int (nI (cn 4))]))) := ⟨_, rfl⟩
  have hW : fm_W D fs_cl5 A M_8 s.heap H locs := by rw [eM_8]; exact hW
  have f_9 : M_8 b = some (.inr (3, [.ref (b + 1), .ref (b + 25), .ref (b + 26), .ref (b + 27), .ref (b + 108), .ref (b + 109), .int (nI N), .int 0, .int 0, .int (nI (cn 3)), .int (nI (cn 4))])) := by rw [eM_8]; exact fm_us
  refine lv_aload_n hx hb dS_startOver_23 rfl (lv_at hl 0 rfl) ?_
  refine lv_iconst (v := 0) hx hb dS_startOver_24 (by decide) ?_
  refine fm_put (ci := 3) (v := .int 0) (ty := .int) (C := RS) (T := TS) (N := 11) hx hb hT inS tyS tkS nmS hown hK hW f_9 rfl 9 (by decide) (hT _ fl_S_56) (fun _ h9 => h9) rfl (by decide +kernel) rfl rfl (Nat.le_of_ble_eq_true rfl) dS_startOver_25 (fun H locs hW => ?_)
  obtain ⟨M_10, eM_10⟩ : ∃ z : fm_M, z = va_up M_8 b (some (.inr (3, [.ref (b + 1), .ref (b + 25), .ref (b + 26), .ref (b + 27), .ref (b + 108), .ref (b + 109), .int (nI N), .int 0, .int 0, .int 0, .int (nI (cn 4))]))) := ⟨_, rfl⟩
  have hW : fm_W D fs_cl5 A M_10 s.heap H locs := by rw [eM_10]; exact hW
  have f_11 : M_10 b = some (.inr (3, [.ref (b + 1), .ref (b + 25), .ref (b + 26), .ref (b + 27), .ref (b + 108), .ref (b + 109), .int (nI N), .int 0, .int 0, .int 0, .int (nI (cn 4))])) := by rw [eM_10]; exact fm_us
  refine lv_aload_n hx hb dS_startOver_28 rfl (lv_at hl 0 rfl) ?_
  refine lv_iconst (v := 0) hx hb dS_startOver_29 (by decide) ?_
  refine fm_put (ci := 3) (v := .int 0) (ty := .int) (C := RS) (T := TS) (N := 11) hx hb hT inS tyS tkS nmS hown hK hW f_11 rfl 10 (by decide) (hT _ fl_S_91) (fun _ h9 => h9) rfl (by decide +kernel) rfl rfl (Nat.le_of_ble_eq_true rfl) dS_startOver_30 (fun H locs hW => ?_)
  obtain ⟨M_12, eM_12⟩ : ∃ z : fm_M, z = va_up M_10 b (some (.inr (3, [.ref (b + 1), .ref (b + 25), .ref (b + 26), .ref (b + 27), .ref (b + 108), .ref (b + 109), .int (nI N), .int 0, .int 0, .int 0, .int 0]))) := ⟨_, rfl⟩
  have hW : fm_W D fs_cl5 A M_12 s.heap H locs := by rw [eM_12]; exact hW
  have f_13 : M_12 b = some (.inr (3, [.ref (b + 1), .ref (b + 25), .ref (b + 26), .ref (b + 27), .ref (b + 108), .ref (b + 109), .int (nI N), .int 0, .int 0, .int 0, .int 0])) := by rw [eM_12]; exact fm_us
  have zM_12 : M_12 = va_up M_2 b (some (fs_SE b (fs_c0 N))) := by
    rw [eM_12, eM_10, eM_8, eM_6, eM_4, fm_uu, fm_uu, fm_uu, fm_uu]
    rfl
  refine fm_vret hx hb hr hlocks hW ⟨kp2, pn2, by rw [zM_12]; exact fs_CW_re hC t1 t2, ?_, t3, t4⟩ dS_startOver_33
  rw [zM_12]
  exact fs_Cf_u (fs_Cf_t fs_Cf_r t2) (by omega) _
set_option maxHeartbeats 4000000 in
set_option maxRecDepth 100000 in
theorem c_S_begin (l : Launch) (D : va_G) (ct : Nat → ClassId) (A : Nat → Prop) (M : fm_M) (b : Nat) (cn : Nat → Nat) (kp pn : Nat → fs_Q) (pr : fs_Q) (lc : Nat → Int32) (lr : Nat → Int64) (fr : Nat → fs_Q) (od : Nat → Int32) (cl : Nat → Int64) (ck : Nat → Int32) (cc : Nat → Int32) (cr : Nat → Int64) (n : Int32) (hC : fs_CW ct M b cn kp pn pr lc lr fr od cl ck cc cr) (hB : fs_Bd cn) : Met l yS_begin wS_begin ({ frames := 3, cells := 0, slots := 0, locals := 65 }) (va_Pc [.ref b, .int n] (fm_St D fs_cl5 (fs_tys ct) fs_nw A M)) (va_Qi (fun (r : Int32) (M1 : fm_M) => (r = 0 ∧ M1 = M ∧ (n < 1 ∨ ¬ n ≤ 10)) ∨ (r = 1 ∧ ∃ N : Nat, 1 ≤ N ∧ N ≤ 10 ∧ n = nI N ∧ ∃ kp2 pn2 : Nat → fs_Q, fs_CW ct M1 b (fs_c0 N) kp2 pn2 pr lc lr fr od cl ck cc cr ∧ fs_Cf b M M1 ∧ (∀ i, i < N → kp2 i = ((0, 1 <<< (nI i &&& 31), 0, 0) : fs_Q)) ∧ ∀ i, i < N → pn2 i = ((1 <<< (nI i &&& 31), 0, 0, 0) : fs_Q))) (fm_B D fs_cl5 A) A) 0 0 A := by
  refine Met.ofW (cc := cS_begin) (maxL := 2) (ret := (some .boolean)) (by decide) rfl ?_
  intro p e s m args below meth c s₁ B hml hv
  obtain ⟨rfl, hP0, hA0, hA1, hK, hN⟩ := hv
  have hx := B.exec
  have hb := B.bytes
  have hr := B.returns
  have hts := atoms_spec (ws := wS_begin) B.pre
  have hT : ∀ w ∈ fs_tb, w.before _ s = true := fun w h => hts w (List.mem_cons_of_mem _ h)
  have hown : s.vm.findClass "FrameSamples" = some m.cls := findClass_of_methodNamed B.named
  have hlocks := B.notSynchronized
  have hW : fm_W D fs_cl5 A M s.heap s.heap [] := ⟨hP0, hA0, va_S.rf, hA1⟩
  have hl := lv_entry ([.ref b, .int n]) (n := 2) (Nat.le_of_ble_eq_true rfl)
  rw [lg_entry_eq]
  generalize (lg_sl ([.ref b, .int n]) ++ List.replicate (2 - (lg_sl ([.ref b, .int n])).length) Slot.unset).toArray = ls at hl ⊢
  have hl : lv_has ls 2 [(0, .ref b), (1, .int n)] := hl
  obtain ⟨hB0, hB1, hB2, hB3, hB4, hB5⟩ := hB
  have hCf : fs_Cf b M M := fs_Cf_r
  refine lv_iload_n hx hb dS_begin_0 rfl (lv_at hl 1 rfl) ?_
  refine lv_iconst (v := 1) hx hb dS_begin_1 (by decide) ?_
  refine lv_icmp_lt (tgt := 11) hx hb dS_begin_2 (by decide) (fun c_1 => ?_) (fun c_1 => ?_)
  · refine lv_iconst (v := 0) hx hb dS_begin_11 (by decide) ?_
    exact fm_zret hx hb hr rfl hlocks hW (Or.inl ⟨rfl, rfl, Or.inl c_1⟩) dS_begin_12
  · refine lv_iload_n hx hb dS_begin_5 rfl (lv_at hl 1 rfl) ?_
    refine lv_bipush (v := 10) hx hb dS_begin_6 (by decide) ?_
    refine lv_icmp_le (tgt := 13) hx hb dS_begin_8 (by decide) (fun c_2 => ?_) (fun c_2 => ?_)
    · obtain ⟨N, a1, a2, rfl⟩ := fs_n10 c_1 c_2
      refine lv_aload_n hx hb dS_begin_13 rfl (lv_at hl 0 rfl) ?_
      refine lv_iload_n hx hb dS_begin_14 rfl (lv_at hl 1 rfl) ?_
      refine fm_callv (va_runV (As := [.int (nI N)]) (rest := []) ⟨hx, hb, hml, hown, hts⟩ (c_S_startOver l D ct A M b cn kp pn pr lc lr fr od cl ck cc cr N hC a2) ⟨callB_of 1 hts (fs_gin co_S_startOver) rfl rfl rfl (hT _ ini_S) (hT _ ml_S_37) (by decide +kernel) ⟨Nat.le_of_ble_eq_true rfl, Nat.le_of_ble_eq_true rfl⟩, hT _ im_S_startOver, hT _ se_S_startOver⟩ (fn_preV fs_isnw hK hN hW hC.1 rfl) rfl rfl hl.1 rfl (lv_room (Nat.le_of_ble_eq_true rfl)) dS_begin_15 ⟨Nat.le_of_ble_eq_true rfl, Nat.le_of_ble_eq_true rfl⟩) hW (fun M_4 H locs hp_5 hW => ?_)
      refine lv_iconst (v := 1) hx hb dS_begin_18 (by decide) ?_
      exact fm_zret hx hb hr rfl hlocks hW (Or.inr ⟨rfl, N, a1, a2, rfl, hp_5⟩) dS_begin_19
    · refine lv_iconst (v := 0) hx hb dS_begin_11 (by decide) ?_
      exact fm_zret hx hb hr rfl hlocks hW (Or.inl ⟨rfl, rfl, Or.inr c_2⟩) dS_begin_12
