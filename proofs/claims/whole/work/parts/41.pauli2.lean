-- the rest of the class Pauli
theorem fm_same {M : fm_M} {a : Nat} {e : va_E} (h : M a = some e) : va_up M a (some e) = M := by
  funext j
  unfold va_up
  split
  · rename_i q; rw [q, h]
  · rfl
theorem fs_swo {k : Int32} {n : Nat} (hn : n < 2 ^ 31) (h : ∀ j, j ≤ n → k ≠ nI j) : k.toInt < 0 ∨ (n : Int) < k.toInt := by
  by_cases h0 : k < 0
  · left
    rw [Int32.lt_iff_toInt_lt] at h0
    exact h0
  · right
    obtain ⟨j, hj, rfl⟩ := nI_of h0
    rw [nI_toInt hj]
    have : ¬ j ≤ n := fun q => h j q rfl
    omega
theorem fs_le1 {k : Int32} (h0 : k ≠ 0) (h1 : k ≠ 1) : ∀ j, j ≤ 1 → k ≠ nI j := by
  intro j hj
  rcases (show j = 0 ∨ j = 1 by omega) with rfl | rfl <;> assumption
theorem fs_le2 {k : Int32} (h0 : k ≠ 0) (h1 : k ≠ 1) (h2 : k ≠ 2) : ∀ j, j ≤ 2 → k ≠ nI j := by
  intro j hj
  rcases (show j = 0 ∨ j = 1 ∨ j = 2 by omega) with rfl | rfl | rfl <;> assumption
theorem fs_le3 {k : Int32} (h0 : k ≠ 0) (h1 : k ≠ 1) (h2 : k ≠ 2) (h3 : k ≠ 3) : ∀ j, j ≤ 3 → k ≠ nI j := by
  intro j hj
  rcases (show j = 0 ∨ j = 1 ∨ j = 2 ∨ j = 3 by omega) with rfl | rfl | rfl | rfl <;> assumption
theorem fs_le5 {k : Int32} (h0 : k ≠ 0) (h1 : k ≠ 1) (h2 : k ≠ 2) (h3 : k ≠ 3) (h4 : k ≠ 4) (h5 : k ≠ 5) : ∀ j, j ≤ 5 → k ≠ nI j := by
  intro j hj
  rcases (show j = 0 ∨ j = 1 ∨ j = 2 ∨ j = 3 ∨ j = 4 ∨ j = 5 by omega) with rfl | rfl | rfl | rfl | rfl | rfl <;> assumption
theorem fs_le6 {k : Int32} (h0 : k ≠ 0) (h1 : k ≠ 1) (h2 : k ≠ 2) (h3 : k ≠ 3) (h4 : k ≠ 4) (h5 : k ≠ 5) (h6 : k ≠ 6) : ∀ j, j ≤ 6 → k ≠ nI j := by
  intro j hj
  rcases (show j = 0 ∨ j = 1 ∨ j = 2 ∨ j = 3 ∨ j = 4 ∨ j = 5 ∨ j = 6 by omega) with rfl | rfl | rfl | rfl | rfl | rfl | rfl <;> assumption
theorem fs_le8 {k : Int32} (h0 : k ≠ 0) (h1 : k ≠ 1) (h2 : k ≠ 2) (h3 : k ≠ 3) (h4 : k ≠ 4) (h5 : k ≠ 5) (h6 : k ≠ 6) (h7 : k ≠ 7) (h8 : k ≠ 8) : ∀ j, j ≤ 8 → k ≠ nI j := by
  intro j hj
  rcases (show j = 0 ∨ j = 1 ∨ j = 2 ∨ j = 3 ∨ j = 4 ∨ j = 5 ∨ j = 6 ∨ j = 7 ∨ j = 8 by omega) with rfl | rfl | rfl | rfl | rfl | rfl | rfl | rfl | rfl <;> assumption
theorem fs_le10 {k : Int32} (h0 : k ≠ 0) (h1 : k ≠ 1) (h2 : k ≠ 2) (h3 : k ≠ 3) (h4 : k ≠ 4) (h5 : k ≠ 5) (h6 : k ≠ 6) (h7 : k ≠ 7) (h8 : k ≠ 8) (h9 : k ≠ 9) (h10 : k ≠ 10) : ∀ j, j ≤ 10 → k ≠ nI j := by
  intro j hj
  rcases (show j = 0 ∨ j = 1 ∨ j = 2 ∨ j = 3 ∨ j = 4 ∨ j = 5 ∨ j = 6 ∨ j = 7 ∨ j = 8 ∨ j = 9 ∨ j = 10 by omega) with rfl | rfl | rfl | rfl | rfl | rfl | rfl | rfl | rfl | rfl | rfl <;> assumption
set_option maxHeartbeats 4000000 in
set_option maxRecDepth 100000 in
theorem c_P_init (l : Launch) (D : va_G) (ct : Nat → ClassId) (A : Nat → Prop) (M : fm_M) (h0 : Nat) (q : fs_Q) (hM : M h0 = some (fs_PE q)) : Met l yP_init wP_init ({ frames := 1, cells := 0, slots := 0, locals := 20 }) (va_Pc [.ref h0] (fm_St D fs_cl5 (fs_tys ct) fs_nw A M)) (va_Qv (fun (M1 : fm_M) => M1 = M) (fm_B D fs_cl5 A) A) 0 0 A := by
  refine Met.ofW (cc := cP_init) (maxL := 1) (ret := none) (by decide) rfl ?_
  intro p e s m args below meth c s₁ B hml hv
  obtain ⟨rfl, hP0, hA0, hA1, hK, hN⟩ := hv
  have hx := B.exec
  have hb := B.bytes
  have hr := B.returns
  have hts := atoms_spec (ws := wP_init) B.pre
  have hT : ∀ w ∈ fs_tb, w.before _ s = true := fun w h => hts w (List.mem_cons_of_mem _ h)
  have hown : s.vm.findClass "FrameSamples$Pauli" = some m.cls := findClass_of_methodNamed B.named
  have hlocks := B.notSynchronized
  have hin : meth.name = "<init>" := (name_of_methodNamed B.named B.method).1
  have hW : fm_W D fs_cl5 A M s.heap s.heap [] := ⟨hP0, hA0, va_S.rf, hA1⟩
  have hl := lv_entry ([.ref h0]) (n := 1) (Nat.le_of_ble_eq_true rfl)
  rw [lg_entry_eq]
  generalize (lg_sl ([.ref h0]) ++ List.replicate (1 - (lg_sl ([.ref h0])).length) Slot.unset).toArray = ls at hl ⊢
  have hl : lv_has ls 1 [(0, .ref h0)] := hl
  refine lv_aload_n hx hb dP_init_0 rfl (lv_at hl 0 rfl) ?_
  refine W.objInit hx hb hown (hT _ ml_P_3) (hT _ im_O) (hT _ co_O) rfl (by rw [hml]; exact hl.1) rfl dP_init_1 (Nat.le_of_ble_eq_true rfl) (Nat.le_of_ble_eq_true rfl) ?_
  refine W.eq (g2 := F0 m 4 ls []) rfl ?_
  exact fm_vret hx hb hr hlocks hW rfl dP_init_4
set_option maxHeartbeats 4000000 in
set_option maxRecDepth 100000 in
theorem c_P_swapBits (l : Launch) (D : va_G) (ct : Nat → ClassId) (A : Nat → Prop) (M : fm_M) (x a b : Int32) : Met l yP_swapBits wP_swapBits ({ frames := 0, cells := 0, slots := 0, locals := 0 }) (va_Pc [.int x, .int a, .int b] (fm_St D fs_cl5 (fs_tys ct) fs_nw A M)) (va_Qi (fun (r : Int32) (M1 : fm_M) => r = fs_sw x a b ∧ M1 = M) (fm_B D fs_cl5 A) A) 0 0 A := by
  refine Met.ofW (cc := cP_swapBits) (maxL := 4) (ret := (some .int)) (by decide) rfl ?_
  intro p e s m args below meth c s₁ B hml hv
  obtain ⟨rfl, hP0, hA0, hA1, hK, hN⟩ := hv
  have hx := B.exec
  have hb := B.bytes
  have hr := B.returns
  have hts := atoms_spec (ws := wP_swapBits) B.pre
  have hT : ∀ w ∈ fs_tb, w.before _ s = true := fun w h => hts w (List.mem_cons_of_mem _ h)
  have hown : s.vm.findClass "FrameSamples$Pauli" = some m.cls := findClass_of_methodNamed B.named
  have hlocks := B.notSynchronized
  have hW : fm_W D fs_cl5 A M s.heap s.heap [] := ⟨hP0, hA0, va_S.rf, hA1⟩
  have hl := lv_entry ([.int x, .int a, .int b]) (n := 4) (Nat.le_of_ble_eq_true rfl)
  rw [lg_entry_eq]
  generalize (lg_sl ([.int x, .int a, .int b]) ++ List.replicate (4 - (lg_sl ([.int x, .int a, .int b])).length) Slot.unset).toArray = ls at hl ⊢
  have hl : lv_has ls 4 [(0, .int x), (1, .int a), (2, .int b)] := hl
  refine lv_iload_n hx hb dP_swapBits_0 rfl (lv_at hl 0 rfl) ?_
  refine lv_iload_n hx hb dP_swapBits_1 rfl (lv_at hl 1 rfl) ?_
  refine lv_iushr (v := fs_ush x a) hx hb dP_swapBits_2 rfl ?_
  refine lv_iload_n hx hb dP_swapBits_3 rfl (lv_at hl 0 rfl) ?_
  refine lv_iload_n hx hb dP_swapBits_4 rfl (lv_at hl 2 rfl) ?_
  refine lv_iushr (v := fs_ush x b) hx hb dP_swapBits_5 rfl ?_
  refine lv_ixor hx hb dP_swapBits_6 ?_
  refine lv_iconst (v := 1) hx hb dP_swapBits_7 (by decide) ?_
  refine lv_iand hx hb dP_swapBits_8 ?_
  refine lv_topi (fun x_1 ex_1 => ?_)
  refine lv_istore_n (lv' := [(3, .int x_1), (0, .int x), (1, .int a), (2, .int b)]) hx hb dP_swapBits_9 rfl hl (by decide) rfl (fun ls hl => ?_)
  refine lv_iload_n hx hb dP_swapBits_10 rfl (lv_at hl 1 rfl) ?_
  refine lv_iload_n hx hb dP_swapBits_11 rfl (lv_at hl 0 rfl) ?_
  refine lv_iload_n hx hb dP_swapBits_12 rfl (lv_at hl 2 rfl) ?_
  refine lv_ishl hx hb dP_swapBits_13 ?_
  refine lv_iload_n hx hb dP_swapBits_14 rfl (lv_at hl 0 rfl) ?_
  refine lv_iload_n hx hb dP_swapBits_15 rfl (lv_at hl 3 rfl) ?_
  refine lv_ishl hx hb dP_swapBits_16 ?_
  refine lv_ior hx hb dP_swapBits_17 ?_
  refine lv_ixor hx hb dP_swapBits_18 ?_
  exact fm_iret hx hb hr hlocks hW ⟨by subst ex_1; rfl, rfl⟩ dP_swapBits_19
set_option maxHeartbeats 4000000 in
set_option maxRecDepth 100000 in
theorem c_P_copyFrom (l : Launch) (D : va_G) (ct : Nat → ClassId) (A : Nat → Prop) (M : fm_M) (h0 : Nat) (q : fs_Q) (h1 : Nat) (q2 : fs_Q) (hM : M h0 = some (fs_PE q))(hM2 : M h1 = some (fs_PE q2)) (hne : h1 ≠ h0) : Met l yP_copyFrom wP_copyFrom ({ frames := 0, cells := 0, slots := 0, locals := 0 }) (va_Pc [.ref h0, .ref h1] (fm_St D fs_cl5 (fs_tys ct) fs_nw A M)) (va_Qv (fun (M1 : fm_M) => M1 = va_up M h0 (some (fs_PE q2))) (fm_B D fs_cl5 A) A) 0 0 A := by
  refine Met.ofW (cc := cP_copyFrom) (maxL := 2) (ret := none) (by decide) rfl ?_
  intro p e s m args below meth c s₁ B hml hv
  obtain ⟨rfl, hP0, hA0, hA1, hK, hN⟩ := hv
  have hx := B.exec
  have hb := B.bytes
  have hr := B.returns
  have hts := atoms_spec (ws := wP_copyFrom) B.pre
  have hT : ∀ w ∈ fs_tb, w.before _ s = true := fun w h => hts w (List.mem_cons_of_mem _ h)
  have hown : s.vm.findClass "FrameSamples$Pauli" = some m.cls := findClass_of_methodNamed B.named
  have hlocks := B.notSynchronized
  have hW : fm_W D fs_cl5 A M s.heap s.heap [] := ⟨hP0, hA0, va_S.rf, hA1⟩
  have hl := lv_entry ([.ref h0, .ref h1]) (n := 2) (Nat.le_of_ble_eq_true rfl)
  rw [lg_entry_eq]
  generalize (lg_sl ([.ref h0, .ref h1]) ++ List.replicate (2 - (lg_sl ([.ref h0, .ref h1])).length) Slot.unset).toArray = ls at hl ⊢
  have hl : lv_has ls 2 [(0, .ref h0), (1, .ref h1)] := hl
  refine lv_aload_n hx hb dP_copyFrom_0 rfl (lv_at hl 0 rfl) ?_
  refine lv_aload_n hx hb dP_copyFrom_1 rfl (lv_at hl 1 rfl) ?_
  refine fm_get (ci := 0) (v := .int q2.1) (C := RP) (T := TP) (N := 4) hx hb hT inP hown hK hW hM2 rfl 0 (by decide) (hT _ fl_P_9) (fun _ h9 => h9) rfl dP_copyFrom_2 ?_
  refine lv_topi (fun x_1 ex_1 => ?_)
  refine fm_put (ci := 0) (v := .int x_1) (ty := .int) (C := RP) (T := TP) (N := 4) hx hb hT inP tyP tkP nmP hown hK hW hM rfl 0 (by decide) (hT _ fl_P_9) (fun _ h9 => h9) rfl (by decide +kernel) rfl rfl (Nat.le_of_ble_eq_true rfl) dP_copyFrom_5 (fun H locs hW => ?_)
  obtain ⟨M_2, eM_2⟩ : ∃ z : fm_M, z = va_up M h0 (some (.inr (0, [.int x_1, .int q.2.1, .int q.2.2.1, .long q.2.2.2]))) := ⟨_, rfl⟩
  have hW : fm_W D fs_cl5 A M_2 s.heap H locs := by rw [eM_2]; exact hW
  have f_3 : M_2 h0 = some (.inr (0, [.int x_1, .int q.2.1, .int q.2.2.1, .long q.2.2.2])) := by rw [eM_2]; exact fm_us
  have f_4 := (show M_2 h1 = M h1 by rw [eM_2]; exact fm_un (by omega)).trans hM2
  refine lv_aload_n hx hb dP_copyFrom_8 rfl (lv_at hl 0 rfl) ?_
  refine lv_aload_n hx hb dP_copyFrom_9 rfl (lv_at hl 1 rfl) ?_
  refine fm_get (ci := 0) (v := .int q2.2.1) (C := RP) (T := TP) (N := 4) hx hb hT inP hown hK hW f_4 rfl 1 (by decide) (hT _ fl_P_15) (fun _ h9 => h9) rfl dP_copyFrom_10 ?_
  refine lv_topi (fun x_5 ex_5 => ?_)
  refine fm_put (ci := 0) (v := .int x_5) (ty := .int) (C := RP) (T := TP) (N := 4) hx hb hT inP tyP tkP nmP hown hK hW f_3 rfl 1 (by decide) (hT _ fl_P_15) (fun _ h9 => h9) rfl (by decide +kernel) rfl rfl (Nat.le_of_ble_eq_true rfl) dP_copyFrom_13 (fun H locs hW => ?_)
  obtain ⟨M_6, eM_6⟩ : ∃ z : fm_M, z = va_up M_2 h0 (some (.inr (0, [.int x_1, .int x_5, .int q.2.2.1, .long q.2.2.2]))) := ⟨_, rfl⟩
  have hW : fm_W D fs_cl5 A M_6 s.heap H locs := by rw [eM_6]; exact hW
  have f_7 : M_6 h0 = some (.inr (0, [.int x_1, .int x_5, .int q.2.2.1, .long q.2.2.2])) := by rw [eM_6]; exact fm_us
  have f_8 := (show M_6 h1 = M_2 h1 by rw [eM_6]; exact fm_un (by omega)).trans f_4
  refine lv_aload_n hx hb dP_copyFrom_16 rfl (lv_at hl 0 rfl) ?_
  refine lv_aload_n hx hb dP_copyFrom_17 rfl (lv_at hl 1 rfl) ?_
  refine fm_get (ci := 0) (v := .int q2.2.2.1) (C := RP) (T := TP) (N := 4) hx hb hT inP hown hK hW f_8 rfl 2 (by decide) (hT _ fl_P_18) (fun _ h9 => h9) rfl dP_copyFrom_18 ?_
  refine lv_topi (fun x_9 ex_9 => ?_)
  refine fm_put (ci := 0) (v := .int x_9) (ty := .int) (C := RP) (T := TP) (N := 4) hx hb hT inP tyP tkP nmP hown hK hW f_7 rfl 2 (by decide) (hT _ fl_P_18) (fun _ h9 => h9) rfl (by decide +kernel) rfl rfl (Nat.le_of_ble_eq_true rfl) dP_copyFrom_21 (fun H locs hW => ?_)
  obtain ⟨M_10, eM_10⟩ : ∃ z : fm_M, z = va_up M_6 h0 (some (.inr (0, [.int x_1, .int x_5, .int x_9, .long q.2.2.2]))) := ⟨_, rfl⟩
  have hW : fm_W D fs_cl5 A M_10 s.heap H locs := by rw [eM_10]; exact hW
  have f_11 : M_10 h0 = some (.inr (0, [.int x_1, .int x_5, .int x_9, .long q.2.2.2])) := by rw [eM_10]; exact fm_us
  have f_12 := (show M_10 h1 = M_6 h1 by rw [eM_10]; exact fm_un (by omega)).trans f_8
  refine lv_aload_n hx hb dP_copyFrom_24 rfl (lv_at hl 0 rfl) ?_
  refine lv_aload_n hx hb dP_copyFrom_25 rfl (lv_at hl 1 rfl) ?_
  refine fm_get (ci := 0) (v := .long q2.2.2.2) (C := RP) (T := TP) (N := 4) hx hb hT inP hown hK hW f_12 rfl 3 (by decide) (hT _ fl_P_21) (fun _ h9 => h9) rfl dP_copyFrom_26 ?_
  refine lv_topl (fun x_13 ex_13 => ?_)
  refine fm_put (ci := 0) (v := .long x_13) (ty := .long) (C := RP) (T := TP) (N := 4) hx hb hT inP tyP tkP nmP hown hK hW f_11 rfl 3 (by decide) (hT _ fl_P_21) (fun _ h9 => h9) rfl (by decide +kernel) rfl rfl (Nat.le_of_ble_eq_true rfl) dP_copyFrom_29 (fun H locs hW => ?_)
  obtain ⟨M_14, eM_14⟩ : ∃ z : fm_M, z = va_up M_10 h0 (some (.inr (0, [.int x_1, .int x_5, .int x_9, .long x_13]))) := ⟨_, rfl⟩
  have hW : fm_W D fs_cl5 A M_14 s.heap H locs := by rw [eM_14]; exact hW
  have f_15 : M_14 h0 = some (.inr (0, [.int x_1, .int x_5, .int x_9, .long x_13])) := by rw [eM_14]; exact fm_us
  have f_16 := (show M_14 h1 = M_10 h1 by rw [eM_14]; exact fm_un (by omega)).trans f_12
  exact fm_vret hx hb hr hlocks hW (by rw [eM_14, eM_10, eM_6, eM_2, fm_uu, fm_uu, fm_uu]; subst ex_13; subst ex_9; subst ex_5; subst ex_1; rfl) dP_copyFrom_32
set_option maxHeartbeats 4000000 in
set_option maxRecDepth 100000 in
theorem c_P_multiplyBy (l : Launch) (D : va_G) (ct : Nat → ClassId) (A : Nat → Prop) (M : fm_M) (h0 : Nat) (q : fs_Q) (h1 : Nat) (q2 : fs_Q) (hM : M h0 = some (fs_PE q))(hM2 : M h1 = some (fs_PE q2)) (hne : h1 ≠ h0) : Met l yP_multiplyBy wP_multiplyBy ({ frames := 1, cells := 0, slots := 0, locals := 20 }) (va_Pc [.ref h0, .ref h1] (fm_St D fs_cl5 (fs_tys ct) fs_nw A M)) (va_Qv (fun (M1 : fm_M) => M1 = va_up M h0 (some (fs_PE (fs_mb q q2)))) (fm_B D fs_cl5 A) A) 0 0 A := by
  refine Met.ofW (cc := cP_multiplyBy) (maxL := 8) (ret := none) (by decide) rfl ?_
  intro p e s m args below meth c s₁ B hml hv
  obtain ⟨rfl, hP0, hA0, hA1, hK, hN⟩ := hv
  have hx := B.exec
  have hb := B.bytes
  have hr := B.returns
  have hts := atoms_spec (ws := wP_multiplyBy) B.pre
  have hT : ∀ w ∈ fs_tb, w.before _ s = true := fun w h => hts w (List.mem_cons_of_mem _ h)
  have hown : s.vm.findClass "FrameSamples$Pauli" = some m.cls := findClass_of_methodNamed B.named
  have hlocks := B.notSynchronized
  have hW : fm_W D fs_cl5 A M s.heap s.heap [] := ⟨hP0, hA0, va_S.rf, hA1⟩
  have hl := lv_entry ([.ref h0, .ref h1]) (n := 8) (Nat.le_of_ble_eq_true rfl)
  rw [lg_entry_eq]
  generalize (lg_sl ([.ref h0, .ref h1]) ++ List.replicate (8 - (lg_sl ([.ref h0, .ref h1])).length) Slot.unset).toArray = ls at hl ⊢
  have hl : lv_has ls 8 [(0, .ref h0), (1, .ref h1)] := hl
  refine lv_aload_n hx hb dP_multiplyBy_0 rfl (lv_at hl 1 rfl) ?_
  refine fm_get (ci := 0) (v := .int q2.1) (C := RP) (T := TP) (N := 4) hx hb hT inP hown hK hW hM2 rfl 0 (by decide) (hT _ fl_P_9) (fun _ h9 => h9) rfl dP_multiplyBy_1 ?_
  refine lv_aload_n hx hb dP_multiplyBy_4 rfl (lv_at hl 1 rfl) ?_
  refine fm_get (ci := 0) (v := .int q2.2.1) (C := RP) (T := TP) (N := 4) hx hb hT inP hown hK hW hM2 rfl 1 (by decide) (hT _ fl_P_15) (fun _ h9 => h9) rfl dP_multiplyBy_5 ?_
  refine lv_iand hx hb dP_multiplyBy_8 ?_
  refine lv_topi (fun x_1 ex_1 => ?_)
  refine lv_istore_n (lv' := [(2, .int x_1), (0, .ref h0), (1, .ref h1)]) hx hb dP_multiplyBy_9 rfl hl (by decide) rfl (fun ls hl => ?_)
  refine lv_aload_n hx hb dP_multiplyBy_10 rfl (lv_at hl 2 rfl) ?_
  refine fm_get (ci := 0) (v := .int q2.1) (C := RP) (T := TP) (N := 4) hx hb hT inP hown hK hW hM2 rfl 0 (by decide) (hT _ fl_P_9) (fun _ h9 => h9) rfl dP_multiplyBy_11 ?_
  refine lv_aload_n hx hb dP_multiplyBy_14 rfl (lv_at hl 2 rfl) ?_
  refine fm_get (ci := 0) (v := .int q2.2.1) (C := RP) (T := TP) (N := 4) hx hb hT inP hown hK hW hM2 rfl 1 (by decide) (hT _ fl_P_15) (fun _ h9 => h9) rfl dP_multiplyBy_15 ?_
  refine lv_iconst (v := -1) hx hb dP_multiplyBy_18 (by decide) ?_
  refine lv_ixor hx hb dP_multiplyBy_19 ?_
  refine lv_iand hx hb dP_multiplyBy_20 ?_
  refine lv_topi (fun x_2 ex_2 => ?_)
  refine lv_istore_n (lv' := [(3, .int x_2), (2, .int x_1), (0, .ref h0), (1, .ref h1)]) hx hb dP_multiplyBy_21 rfl hl (by decide) rfl (fun ls hl => ?_)
  refine lv_aload_n hx hb dP_multiplyBy_22 rfl (lv_at hl 3 rfl) ?_
  refine fm_get (ci := 0) (v := .int q2.2.1) (C := RP) (T := TP) (N := 4) hx hb hT inP hown hK hW hM2 rfl 1 (by decide) (hT _ fl_P_15) (fun _ h9 => h9) rfl dP_multiplyBy_23 ?_
  refine lv_aload_n hx hb dP_multiplyBy_26 rfl (lv_at hl 3 rfl) ?_
  refine fm_get (ci := 0) (v := .int q2.1) (C := RP) (T := TP) (N := 4) hx hb hT inP hown hK hW hM2 rfl 0 (by decide) (hT _ fl_P_9) (fun _ h9 => h9) rfl dP_multiplyBy_27 ?_
  refine lv_iconst (v := -1) hx hb dP_multiplyBy_30 (by decide) ?_
  refine lv_ixor hx hb dP_multiplyBy_31 ?_
  refine lv_iand hx hb dP_multiplyBy_32 ?_
  refine lv_topi (fun x_3 ex_3 => ?_)
  refine lv_istore (lv' := [(4, .int x_3), (3, .int x_2), (2, .int x_1), (0, .ref h0), (1, .ref h1)]) hx hb dP_multiplyBy_33 hl (by decide) rfl (fun ls hl => ?_)
  refine lv_iload_n hx hb dP_multiplyBy_35 rfl (lv_at hl 2 rfl) ?_
  refine lv_aload_n hx hb dP_multiplyBy_36 rfl (lv_at hl 3 rfl) ?_
  refine fm_get (ci := 0) (v := .int q.2.1) (C := RP) (T := TP) (N := 4) hx hb hT inP hown hK hW hM rfl 1 (by decide) (hT _ fl_P_15) (fun _ h9 => h9) rfl dP_multiplyBy_37 ?_
  refine lv_iand hx hb dP_multiplyBy_40 ?_
  refine lv_aload_n hx hb dP_multiplyBy_41 rfl (lv_at hl 3 rfl) ?_
  refine fm_get (ci := 0) (v := .int q.1) (C := RP) (T := TP) (N := 4) hx hb hT inP hown hK hW hM rfl 0 (by decide) (hT _ fl_P_9) (fun _ h9 => h9) rfl dP_multiplyBy_42 ?_
  refine lv_iconst (v := -1) hx hb dP_multiplyBy_45 (by decide) ?_
  refine lv_ixor hx hb dP_multiplyBy_46 ?_
  refine lv_iand hx hb dP_multiplyBy_47 ?_
  refine lv_iload_n hx hb dP_multiplyBy_48 rfl (lv_at hl 1 rfl) ?_
  refine lv_aload_n hx hb dP_multiplyBy_49 rfl (lv_at hl 3 rfl) ?_
  refine fm_get (ci := 0) (v := .int q.1) (C := RP) (T := TP) (N := 4) hx hb hT inP hown hK hW hM rfl 0 (by decide) (hT _ fl_P_9) (fun _ h9 => h9) rfl dP_multiplyBy_50 ?_
  refine lv_iand hx hb dP_multiplyBy_53 ?_
  refine lv_aload_n hx hb dP_multiplyBy_54 rfl (lv_at hl 3 rfl) ?_
  refine fm_get (ci := 0) (v := .int q.2.1) (C := RP) (T := TP) (N := 4) hx hb hT inP hown hK hW hM rfl 1 (by decide) (hT _ fl_P_15) (fun _ h9 => h9) rfl dP_multiplyBy_55 ?_
  refine lv_iand hx hb dP_multiplyBy_58 ?_
  refine lv_ior hx hb dP_multiplyBy_59 ?_
  refine lv_iload hx hb dP_multiplyBy_60 (lv_at hl 0 rfl) ?_
  refine lv_aload_n hx hb dP_multiplyBy_62 rfl (lv_at hl 3 rfl) ?_
  refine fm_get (ci := 0) (v := .int q.1) (C := RP) (T := TP) (N := 4) hx hb hT inP hown hK hW hM rfl 0 (by decide) (hT _ fl_P_9) (fun _ h9 => h9) rfl dP_multiplyBy_63 ?_
  refine lv_iand hx hb dP_multiplyBy_66 ?_
  refine lv_aload_n hx hb dP_multiplyBy_67 rfl (lv_at hl 3 rfl) ?_
  refine fm_get (ci := 0) (v := .int q.2.1) (C := RP) (T := TP) (N := 4) hx hb hT inP hown hK hW hM rfl 1 (by decide) (hT _ fl_P_15) (fun _ h9 => h9) rfl dP_multiplyBy_68 ?_
  refine lv_iconst (v := -1) hx hb dP_multiplyBy_71 (by decide) ?_
  refine lv_ixor hx hb dP_multiplyBy_72 ?_
  refine lv_iand hx hb dP_multiplyBy_73 ?_
  refine lv_ior hx hb dP_multiplyBy_74 ?_
  refine lv_topi (fun x_4 ex_4 => ?_)
  refine lv_istore (lv' := [(5, .int x_4), (4, .int x_3), (3, .int x_2), (2, .int x_1), (0, .ref h0), (1, .ref h1)]) hx hb dP_multiplyBy_75 hl (by decide) rfl (fun ls hl => ?_)
  refine lv_iload_n hx hb dP_multiplyBy_77 rfl (lv_at hl 3 rfl) ?_
  refine lv_aload_n hx hb dP_multiplyBy_78 rfl (lv_at hl 4 rfl) ?_
  refine fm_get (ci := 0) (v := .int q.1) (C := RP) (T := TP) (N := 4) hx hb hT inP hown hK hW hM rfl 0 (by decide) (hT _ fl_P_9) (fun _ h9 => h9) rfl dP_multiplyBy_79 ?_
  refine lv_iand hx hb dP_multiplyBy_82 ?_
  refine lv_aload_n hx hb dP_multiplyBy_83 rfl (lv_at hl 4 rfl) ?_
  refine fm_get (ci := 0) (v := .int q.2.1) (C := RP) (T := TP) (N := 4) hx hb hT inP hown hK hW hM rfl 1 (by decide) (hT _ fl_P_15) (fun _ h9 => h9) rfl dP_multiplyBy_84 ?_
  refine lv_iconst (v := -1) hx hb dP_multiplyBy_87 (by decide) ?_
  refine lv_ixor hx hb dP_multiplyBy_88 ?_
  refine lv_iand hx hb dP_multiplyBy_89 ?_
  refine lv_iload_n hx hb dP_multiplyBy_90 rfl (lv_at hl 2 rfl) ?_
  refine lv_aload_n hx hb dP_multiplyBy_91 rfl (lv_at hl 4 rfl) ?_
  refine fm_get (ci := 0) (v := .int q.2.1) (C := RP) (T := TP) (N := 4) hx hb hT inP hown hK hW hM rfl 1 (by decide) (hT _ fl_P_15) (fun _ h9 => h9) rfl dP_multiplyBy_92 ?_
  refine lv_iand hx hb dP_multiplyBy_95 ?_
  refine lv_aload_n hx hb dP_multiplyBy_96 rfl (lv_at hl 4 rfl) ?_
  refine fm_get (ci := 0) (v := .int q.1) (C := RP) (T := TP) (N := 4) hx hb hT inP hown hK hW hM rfl 0 (by decide) (hT _ fl_P_9) (fun _ h9 => h9) rfl dP_multiplyBy_97 ?_
  refine lv_iconst (v := -1) hx hb dP_multiplyBy_100 (by decide) ?_
  refine lv_ixor hx hb dP_multiplyBy_101 ?_
  refine lv_iand hx hb dP_multiplyBy_102 ?_
  refine lv_ior hx hb dP_multiplyBy_103 ?_
  refine lv_iload hx hb dP_multiplyBy_104 (lv_at hl 1 rfl) ?_
  refine lv_aload_n hx hb dP_multiplyBy_106 rfl (lv_at hl 4 rfl) ?_
  refine fm_get (ci := 0) (v := .int q.1) (C := RP) (T := TP) (N := 4) hx hb hT inP hown hK hW hM rfl 0 (by decide) (hT _ fl_P_9) (fun _ h9 => h9) rfl dP_multiplyBy_107 ?_
  refine lv_iand hx hb dP_multiplyBy_110 ?_
  refine lv_aload_n hx hb dP_multiplyBy_111 rfl (lv_at hl 4 rfl) ?_
  refine fm_get (ci := 0) (v := .int q.2.1) (C := RP) (T := TP) (N := 4) hx hb hT inP hown hK hW hM rfl 1 (by decide) (hT _ fl_P_15) (fun _ h9 => h9) rfl dP_multiplyBy_112 ?_
  refine lv_iand hx hb dP_multiplyBy_115 ?_
  refine lv_ior hx hb dP_multiplyBy_116 ?_
  refine lv_topi (fun x_5 ex_5 => ?_)
  refine lv_istore (lv' := [(6, .int x_5), (5, .int x_4), (4, .int x_3), (3, .int x_2), (2, .int x_1), (0, .ref h0), (1, .ref h1)]) hx hb dP_multiplyBy_117 hl (by decide) rfl (fun ls hl => ?_)
  refine lv_iload hx hb dP_multiplyBy_119 (lv_at hl 1 rfl) ?_
  refine fm_calli (va_runS (As := [.int x_4]) (rest := []) ⟨hx, hb, hml, hown, hts⟩ (c_JI_bitCount l D ct A M x_4) ⟨callB_of 1 hts (fs_gin co_JI_bitCount) rfl rfl rfl (hT _ ini_JI) (hT _ ml_P_47) (by decide +kernel) ⟨Nat.le_of_ble_eq_true rfl, Nat.le_of_ble_eq_true rfl⟩, hT _ st_JI_bitCount⟩ (fn_pre fs_isnw hK hN hW) rfl rfl hl.1 rfl (lv_room (Nat.le_of_ble_eq_true rfl)) dP_multiplyBy_121 ⟨Nat.le_of_ble_eq_true rfl, Nat.le_of_ble_eq_true rfl⟩) hW (fun r_6 M_7 H locs hp_8 hW => ?_)
  have hW : fm_W D fs_cl5 A M s.heap H locs := by rw [← hp_8.2]; exact hW
  have er_6 := hp_8.1
  refine lv_iload hx hb dP_multiplyBy_124 (lv_at hl 0 rfl) ?_
  refine fm_calli (va_runS (As := [.int x_5]) (rest := [.int r_6]) ⟨hx, hb, hml, hown, hts⟩ (c_JI_bitCount l D ct A M x_5) ⟨callB_of 1 hts (fs_gin co_JI_bitCount) rfl rfl rfl (hT _ ini_JI) (hT _ ml_P_47) (by decide +kernel) ⟨Nat.le_of_ble_eq_true rfl, Nat.le_of_ble_eq_true rfl⟩, hT _ st_JI_bitCount⟩ (fn_pre fs_isnw hK hN hW) rfl rfl hl.1 rfl (lv_room (Nat.le_of_ble_eq_true rfl)) dP_multiplyBy_126 ⟨Nat.le_of_ble_eq_true rfl, Nat.le_of_ble_eq_true rfl⟩) hW (fun r_9 M_10 H locs hp_11 hW => ?_)
  have hW : fm_W D fs_cl5 A M s.heap H locs := by rw [← hp_11.2]; exact hW
  have er_9 := hp_11.1
  refine lv_isub hx hb dP_multiplyBy_129 ?_
  refine lv_topi (fun x_12 ex_12 => ?_)
  refine lv_istore (lv' := [(7, .int x_12), (6, .int x_5), (5, .int x_4), (4, .int x_3), (3, .int x_2), (2, .int x_1), (0, .ref h0), (1, .ref h1)]) hx hb dP_multiplyBy_130 hl (by decide) rfl (fun ls hl => ?_)
  refine lv_aload_n hx hb dP_multiplyBy_132 rfl (lv_at hl 6 rfl) ?_
  refine lv_dup hx hb dP_multiplyBy_133 rfl ?_
  refine fm_get (ci := 0) (v := .int q.2.2.1) (C := RP) (T := TP) (N := 4) hx hb hT inP hown hK hW hM rfl 2 (by decide) (hT _ fl_P_18) (fun _ h9 => h9) rfl dP_multiplyBy_134 ?_
  refine lv_aload_n hx hb dP_multiplyBy_137 rfl (lv_at hl 7 rfl) ?_
  refine fm_get (ci := 0) (v := .int q2.2.2.1) (C := RP) (T := TP) (N := 4) hx hb hT inP hown hK hW hM2 rfl 2 (by decide) (hT _ fl_P_18) (fun _ h9 => h9) rfl dP_multiplyBy_138 ?_
  refine lv_iload hx hb dP_multiplyBy_141 (lv_at hl 0 rfl) ?_
  refine lv_iconst (v := 1) hx hb dP_multiplyBy_143 (by decide) ?_
  refine lv_ishr hx hb dP_multiplyBy_144 ?_
  refine lv_iconst (v := 1) hx hb dP_multiplyBy_145 (by decide) ?_
  refine lv_iand hx hb dP_multiplyBy_146 ?_
  refine lv_ixor hx hb dP_multiplyBy_147 ?_
  refine lv_ixor hx hb dP_multiplyBy_148 ?_
  refine lv_topi (fun x_13 ex_13 => ?_)
  refine fm_put (ci := 0) (v := .int x_13) (ty := .int) (C := RP) (T := TP) (N := 4) hx hb hT inP tyP tkP nmP hown hK hW hM rfl 2 (by decide) (hT _ fl_P_18) (fun _ h9 => h9) rfl (by decide +kernel) rfl rfl (Nat.le_of_ble_eq_true rfl) dP_multiplyBy_149 (fun H locs hW => ?_)
  obtain ⟨M_14, eM_14⟩ : ∃ z : fm_M, z = va_up M h0 (some (.inr (0, [.int q.1, .int q.2.1, .int x_13, .long q.2.2.2]))) := ⟨_, rfl⟩
  have hW : fm_W D fs_cl5 A M_14 s.heap H locs := by rw [eM_14]; exact hW
  have f_15 : M_14 h0 = some (.inr (0, [.int q.1, .int q.2.1, .int x_13, .long q.2.2.2])) := by rw [eM_14]; exact fm_us
  have f_16 := (show M_14 h1 = M h1 by rw [eM_14]; exact fm_un (by omega)).trans hM2
  refine lv_aload_n hx hb dP_multiplyBy_152 rfl (lv_at hl 6 rfl) ?_
  refine lv_dup hx hb dP_multiplyBy_153 rfl ?_
  refine fm_get (ci := 0) (v := .long q.2.2.2) (C := RP) (T := TP) (N := 4) hx hb hT inP hown hK hW f_15 rfl 3 (by decide) (hT _ fl_P_21) (fun _ h9 => h9) rfl dP_multiplyBy_154 ?_
  refine lv_aload_n hx hb dP_multiplyBy_157 rfl (lv_at hl 7 rfl) ?_
  refine fm_get (ci := 0) (v := .long q2.2.2.2) (C := RP) (T := TP) (N := 4) hx hb hT inP hown hK hW f_16 rfl 3 (by decide) (hT _ fl_P_21) (fun _ h9 => h9) rfl dP_multiplyBy_158 ?_
  refine lv_lxor hx hb dP_multiplyBy_161 ?_
  refine lv_topl (fun x_17 ex_17 => ?_)
  refine fm_put (ci := 0) (v := .long x_17) (ty := .long) (C := RP) (T := TP) (N := 4) hx hb hT inP tyP tkP nmP hown hK hW f_15 rfl 3 (by decide) (hT _ fl_P_21) (fun _ h9 => h9) rfl (by decide +kernel) rfl rfl (Nat.le_of_ble_eq_true rfl) dP_multiplyBy_162 (fun H locs hW => ?_)
  obtain ⟨M_18, eM_18⟩ : ∃ z : fm_M, z = va_up M_14 h0 (some (.inr (0, [.int q.1, .int q.2.1, .int x_13, .long x_17]))) := ⟨_, rfl⟩
  have hW : fm_W D fs_cl5 A M_18 s.heap H locs := by rw [eM_18]; exact hW
  have f_19 : M_18 h0 = some (.inr (0, [.int q.1, .int q.2.1, .int x_13, .long x_17])) := by rw [eM_18]; exact fm_us
  have f_20 := (show M_18 h1 = M_14 h1 by rw [eM_18]; exact fm_un (by omega)).trans f_16
  refine lv_aload_n hx hb dP_multiplyBy_165 rfl (lv_at hl 6 rfl) ?_
  refine lv_dup hx hb dP_multiplyBy_166 rfl ?_
  refine fm_get (ci := 0) (v := .int q.1) (C := RP) (T := TP) (N := 4) hx hb hT inP hown hK hW f_19 rfl 0 (by decide) (hT _ fl_P_9) (fun _ h9 => h9) rfl dP_multiplyBy_167 ?_
  refine lv_aload_n hx hb dP_multiplyBy_170 rfl (lv_at hl 7 rfl) ?_
  refine fm_get (ci := 0) (v := .int q2.1) (C := RP) (T := TP) (N := 4) hx hb hT inP hown hK hW f_20 rfl 0 (by decide) (hT _ fl_P_9) (fun _ h9 => h9) rfl dP_multiplyBy_171 ?_
  refine lv_ixor hx hb dP_multiplyBy_174 ?_
  refine lv_topi (fun x_21 ex_21 => ?_)
  refine fm_put (ci := 0) (v := .int x_21) (ty := .int) (C := RP) (T := TP) (N := 4) hx hb hT inP tyP tkP nmP hown hK hW f_19 rfl 0 (by decide) (hT _ fl_P_9) (fun _ h9 => h9) rfl (by decide +kernel) rfl rfl (Nat.le_of_ble_eq_true rfl) dP_multiplyBy_175 (fun H locs hW => ?_)
  obtain ⟨M_22, eM_22⟩ : ∃ z : fm_M, z = va_up M_18 h0 (some (.inr (0, [.int x_21, .int q.2.1, .int x_13, .long x_17]))) := ⟨_, rfl⟩
  have hW : fm_W D fs_cl5 A M_22 s.heap H locs := by rw [eM_22]; exact hW
  have f_23 : M_22 h0 = some (.inr (0, [.int x_21, .int q.2.1, .int x_13, .long x_17])) := by rw [eM_22]; exact fm_us
  have f_24 := (show M_22 h1 = M_18 h1 by rw [eM_22]; exact fm_un (by omega)).trans f_20
  refine lv_aload_n hx hb dP_multiplyBy_178 rfl (lv_at hl 6 rfl) ?_
  refine lv_dup hx hb dP_multiplyBy_179 rfl ?_
  refine fm_get (ci := 0) (v := .int q.2.1) (C := RP) (T := TP) (N := 4) hx hb hT inP hown hK hW f_23 rfl 1 (by decide) (hT _ fl_P_15) (fun _ h9 => h9) rfl dP_multiplyBy_180 ?_
  refine lv_aload_n hx hb dP_multiplyBy_183 rfl (lv_at hl 7 rfl) ?_
  refine fm_get (ci := 0) (v := .int q2.2.1) (C := RP) (T := TP) (N := 4) hx hb hT inP hown hK hW f_24 rfl 1 (by decide) (hT _ fl_P_15) (fun _ h9 => h9) rfl dP_multiplyBy_184 ?_
  refine lv_ixor hx hb dP_multiplyBy_187 ?_
  refine lv_topi (fun x_25 ex_25 => ?_)
  refine fm_put (ci := 0) (v := .int x_25) (ty := .int) (C := RP) (T := TP) (N := 4) hx hb hT inP tyP tkP nmP hown hK hW f_23 rfl 1 (by decide) (hT _ fl_P_15) (fun _ h9 => h9) rfl (by decide +kernel) rfl rfl (Nat.le_of_ble_eq_true rfl) dP_multiplyBy_188 (fun H locs hW => ?_)
  obtain ⟨M_26, eM_26⟩ : ∃ z : fm_M, z = va_up M_22 h0 (some (.inr (0, [.int x_21, .int x_25, .int x_13, .long x_17]))) := ⟨_, rfl⟩
  have hW : fm_W D fs_cl5 A M_26 s.heap H locs := by rw [eM_26]; exact hW
  have f_27 : M_26 h0 = some (.inr (0, [.int x_21, .int x_25, .int x_13, .long x_17])) := by rw [eM_26]; exact fm_us
  have f_28 := (show M_26 h1 = M_22 h1 by rw [eM_26]; exact fm_un (by omega)).trans f_24
  exact fm_vret hx hb hr hlocks hW (by rw [eM_26, eM_22, eM_18, eM_14, fm_uu, fm_uu, fm_uu]; subst ex_25; subst ex_21; subst ex_17; subst ex_13; subst ex_12; subst er_9; subst er_6; subst ex_5; subst ex_4; subst ex_3; subst ex_2; subst ex_1; rfl) dP_multiplyBy_191
set_option maxHeartbeats 4000000 in
set_option maxRecDepth 100000 in
theorem c_P_pass (l : Launch) (D : va_G) (ct : Nat → ClassId) (A : Nat → Prop) (M : fm_M) (h0 : Nat) (q : fs_Q) (k a b : Int32)(hM : M h0 = some (fs_PE q)) : Met l yP_pass wP_pass ({ frames := 2, cells := 0, slots := 0, locals := 43 }) (va_Pc [.ref h0, .int k, .int a, .int b] (fm_St D fs_cl5 (fs_tys ct) fs_nw A M)) (va_Qv (fun (M1 : fm_M) => M1 = va_up M h0 (some (fs_PE (fs_ps q k a b)))) (fm_B D fs_cl5 A) A) 0 0 A := by
  refine Met.ofW (cc := cP_pass) (maxL := 4) (ret := none) (by decide) rfl ?_
  intro p e s m args below meth c s₁ B hml hv
  obtain ⟨rfl, hP0, hA0, hA1, hK, hN⟩ := hv
  have hx := B.exec
  have hb := B.bytes
  have hr := B.returns
  have hts := atoms_spec (ws := wP_pass) B.pre
  have hT : ∀ w ∈ fs_tb, w.before _ s = true := fun w h => hts w (List.mem_cons_of_mem _ h)
  have hown : s.vm.findClass "FrameSamples$Pauli" = some m.cls := findClass_of_methodNamed B.named
  have hlocks := B.notSynchronized
  have hW : fm_W D fs_cl5 A M s.heap s.heap [] := ⟨hP0, hA0, va_S.rf, hA1⟩
  have hl := lv_entry ([.ref h0, .int k, .int a, .int b]) (n := 4) (Nat.le_of_ble_eq_true rfl)
  rw [lg_entry_eq]
  generalize (lg_sl ([.ref h0, .int k, .int a, .int b]) ++ List.replicate (4 - (lg_sl ([.ref h0, .int k, .int a, .int b])).length) Slot.unset).toArray = ls at hl ⊢
  have hl : lv_has ls 4 [(0, .ref h0), (1, .int k), (2, .int a), (3, .int b)] := hl
  refine lv_iload_n hx hb dP_pass_0 rfl (lv_at hl 1 rfl) ?_
  by_cases hk0 : k = 0
  · subst hk0
    refine lv_tableIn (off := 43) (tgt := 44) hx hb dP_pass_1 (by decide) (by decide) rfl (by decide) ?_
    refine lv_aload_n hx hb dP_pass_44 rfl (lv_at hl 0 rfl) ?_
    refine lv_iload_n hx hb dP_pass_45 rfl (lv_at hl 2 rfl) ?_
    refine fm_callv (va_runV (As := [.int a]) (rest := []) ⟨hx, hb, hml, hown, hts⟩ (c_P_passH l D ct A M h0 (q.1, q.2.1, q.2.2.1, q.2.2.2) a hM) ⟨callB_of 1 hts (fs_gin co_P_passH) rfl rfl rfl (hT _ ini_P) (hT _ ml_P_25) (by decide +kernel) ⟨Nat.le_of_ble_eq_true rfl, Nat.le_of_ble_eq_true rfl⟩, hT _ im_P_passH, hT _ se_P_passH⟩ (fn_preV fs_isnw hK hN hW hM rfl) rfl rfl hl.1 rfl (lv_room (Nat.le_of_ble_eq_true rfl)) dP_pass_46 ⟨Nat.le_of_ble_eq_true rfl, Nat.le_of_ble_eq_true rfl⟩) hW (fun M_2 H locs hp_3 hW => ?_)
    have f_4 := (congrFun hp_3 h0).trans fm_us
    refine lv_goto (tgt := 151) hx hb dP_pass_49 (by decide) ?_
    exact fm_vret hx hb hr hlocks hW (by rw [hp_3]; rfl) dP_pass_151
  by_cases hk1 : k = 1
  · subst hk1
    refine lv_tableIn (off := 51) (tgt := 52) hx hb dP_pass_1 (by decide) (by decide) rfl (by decide) ?_
    refine lv_aload_n hx hb dP_pass_52 rfl (lv_at hl 0 rfl) ?_
    refine lv_iload_n hx hb dP_pass_53 rfl (lv_at hl 2 rfl) ?_
    refine fm_callv (va_runV (As := [.int a]) (rest := []) ⟨hx, hb, hml, hown, hts⟩ (c_P_passS l D ct A M h0 (q.1, q.2.1, q.2.2.1, q.2.2.2) a hM) ⟨callB_of 1 hts (fs_gin co_P_passS) rfl rfl rfl (hT _ ini_P) (hT _ ml_P_29) (by decide +kernel) ⟨Nat.le_of_ble_eq_true rfl, Nat.le_of_ble_eq_true rfl⟩, hT _ im_P_passS, hT _ se_P_passS⟩ (fn_preV fs_isnw hK hN hW hM rfl) rfl rfl hl.1 rfl (lv_room (Nat.le_of_ble_eq_true rfl)) dP_pass_54 ⟨Nat.le_of_ble_eq_true rfl, Nat.le_of_ble_eq_true rfl⟩) hW (fun M_6 H locs hp_7 hW => ?_)
    have f_8 := (congrFun hp_7 h0).trans fm_us
    refine lv_goto (tgt := 151) hx hb dP_pass_57 (by decide) ?_
    exact fm_vret hx hb hr hlocks hW (by rw [hp_7]; rfl) dP_pass_151
  by_cases hk2 : k = 2
  · subst hk2
    refine lv_tableIn (off := 59) (tgt := 60) hx hb dP_pass_1 (by decide) (by decide) rfl (by decide) ?_
    refine lv_aload_n hx hb dP_pass_60 rfl (lv_at hl 0 rfl) ?_
    refine lv_iload_n hx hb dP_pass_61 rfl (lv_at hl 2 rfl) ?_
    refine lv_iload_n hx hb dP_pass_62 rfl (lv_at hl 3 rfl) ?_
    refine fm_callv (va_runV (As := [.int a, .int b]) (rest := []) ⟨hx, hb, hml, hown, hts⟩ (c_P_passControlledX l D ct A M h0 (q.1, q.2.1, q.2.2.1, q.2.2.2) a b hM) ⟨callB_of 2 hts (fs_gin co_P_passControlledX) rfl rfl rfl (hT _ ini_P) (hT _ ml_P_32) (by decide +kernel) ⟨Nat.le_of_ble_eq_true rfl, Nat.le_of_ble_eq_true rfl⟩, hT _ im_P_passControlledX, hT _ se_P_passControlledX⟩ (fn_preV fs_isnw hK hN hW hM rfl) rfl rfl hl.1 rfl (lv_room (Nat.le_of_ble_eq_true rfl)) dP_pass_63 ⟨Nat.le_of_ble_eq_true rfl, Nat.le_of_ble_eq_true rfl⟩) hW (fun M_10 H locs hp_11 hW => ?_)
    have f_12 := (congrFun hp_11 h0).trans fm_us
    refine lv_goto (tgt := 151) hx hb dP_pass_66 (by decide) ?_
    exact fm_vret hx hb hr hlocks hW (by rw [hp_11]; rfl) dP_pass_151
  by_cases hk3 : k = 3
  · subst hk3
    refine lv_tableIn (off := 68) (tgt := 69) hx hb dP_pass_1 (by decide) (by decide) rfl (by decide) ?_
    refine lv_aload_n hx hb dP_pass_69 rfl (lv_at hl 0 rfl) ?_
    refine lv_iload_n hx hb dP_pass_70 rfl (lv_at hl 3 rfl) ?_
    refine fm_callv (va_runV (As := [.int b]) (rest := []) ⟨hx, hb, hml, hown, hts⟩ (c_P_passH l D ct A M h0 (q.1, q.2.1, q.2.2.1, q.2.2.2) b hM) ⟨callB_of 1 hts (fs_gin co_P_passH) rfl rfl rfl (hT _ ini_P) (hT _ ml_P_25) (by decide +kernel) ⟨Nat.le_of_ble_eq_true rfl, Nat.le_of_ble_eq_true rfl⟩, hT _ im_P_passH, hT _ se_P_passH⟩ (fn_preV fs_isnw hK hN hW hM rfl) rfl rfl hl.1 rfl (lv_room (Nat.le_of_ble_eq_true rfl)) dP_pass_71 ⟨Nat.le_of_ble_eq_true rfl, Nat.le_of_ble_eq_true rfl⟩) hW (fun M_14 H locs hp_15 hW => ?_)
    have f_16 := (congrFun hp_15 h0).trans fm_us
    refine lv_aload_n hx hb dP_pass_74 rfl (lv_at hl 0 rfl) ?_
    refine lv_iload_n hx hb dP_pass_75 rfl (lv_at hl 2 rfl) ?_
    refine lv_iload_n hx hb dP_pass_76 rfl (lv_at hl 3 rfl) ?_
    refine fm_callv (va_runV (As := [.int a, .int b]) (rest := []) ⟨hx, hb, hml, hown, hts⟩ (c_P_passControlledX l D ct A M_14 h0 (fs_pH (q.1, q.2.1, q.2.2.1, q.2.2.2) b) a b f_16) ⟨callB_of 2 hts (fs_gin co_P_passControlledX) rfl rfl rfl (hT _ ini_P) (hT _ ml_P_32) (by decide +kernel) ⟨Nat.le_of_ble_eq_true rfl, Nat.le_of_ble_eq_true rfl⟩, hT _ im_P_passControlledX, hT _ se_P_passControlledX⟩ (fn_preV fs_isnw hK hN hW f_16 rfl) rfl rfl hl.1 rfl (lv_room (Nat.le_of_ble_eq_true rfl)) dP_pass_77 ⟨Nat.le_of_ble_eq_true rfl, Nat.le_of_ble_eq_true rfl⟩) hW (fun M_18 H locs hp_19 hW => ?_)
    have f_20 := (congrFun hp_19 h0).trans fm_us
    refine lv_aload_n hx hb dP_pass_80 rfl (lv_at hl 0 rfl) ?_
    refine lv_iload_n hx hb dP_pass_81 rfl (lv_at hl 3 rfl) ?_
    refine fm_callv (va_runV (As := [.int b]) (rest := []) ⟨hx, hb, hml, hown, hts⟩ (c_P_passH l D ct A M_18 h0 (fs_pC (fs_pH (q.1, q.2.1, q.2.2.1, q.2.2.2) b) a b) b f_20) ⟨callB_of 1 hts (fs_gin co_P_passH) rfl rfl rfl (hT _ ini_P) (hT _ ml_P_25) (by decide +kernel) ⟨Nat.le_of_ble_eq_true rfl, Nat.le_of_ble_eq_true rfl⟩, hT _ im_P_passH, hT _ se_P_passH⟩ (fn_preV fs_isnw hK hN hW f_20 rfl) rfl rfl hl.1 rfl (lv_room (Nat.le_of_ble_eq_true rfl)) dP_pass_82 ⟨Nat.le_of_ble_eq_true rfl, Nat.le_of_ble_eq_true rfl⟩) hW (fun M_22 H locs hp_23 hW => ?_)
    have f_24 := (congrFun hp_23 h0).trans fm_us
    refine lv_goto (tgt := 151) hx hb dP_pass_85 (by decide) ?_
    exact fm_vret hx hb hr hlocks hW (by rw [hp_23, hp_19, hp_15, fm_uu, fm_uu]; rfl) dP_pass_151
  by_cases hk4 : k = 4
  · subst hk4
    refine lv_tableIn (off := 87) (tgt := 88) hx hb dP_pass_1 (by decide) (by decide) rfl (by decide) ?_
    refine lv_aload_n hx hb dP_pass_88 rfl (lv_at hl 0 rfl) ?_
    refine lv_aload_n hx hb dP_pass_89 rfl (lv_at hl 0 rfl) ?_
    refine fm_get (ci := 0) (v := .int q.1) (C := RP) (T := TP) (N := 4) hx hb hT inP hown hK hW hM rfl 0 (by decide) (hT _ fl_P_9) (fun _ h9 => h9) rfl dP_pass_90 ?_
    refine lv_iload_n hx hb dP_pass_93 rfl (lv_at hl 2 rfl) ?_
    refine lv_iload_n hx hb dP_pass_94 rfl (lv_at hl 3 rfl) ?_
    refine fm_calli (va_runS (As := [.int q.1, .int a, .int b]) (rest := [.ref h0]) ⟨hx, hb, hml, hown, hts⟩ (c_P_swapBits l D ct A M q.1 a b) ⟨callB_of 3 hts (fs_gin co_P_swapBits) rfl rfl rfl (hT _ ini_P) (hT _ ml_P_36) (by decide +kernel) ⟨Nat.le_of_ble_eq_true rfl, Nat.le_of_ble_eq_true rfl⟩, hT _ st_P_swapBits⟩ (fn_pre fs_isnw hK hN hW) rfl rfl hl.1 rfl (lv_room (Nat.le_of_ble_eq_true rfl)) dP_pass_95 ⟨Nat.le_of_ble_eq_true rfl, Nat.le_of_ble_eq_true rfl⟩) hW (fun r_25 M_26 H locs hp_27 hW => ?_)
    have hW : fm_W D fs_cl5 A M s.heap H locs := by rw [← hp_27.2]; exact hW
    have er_25 := hp_27.1
    refine fm_put (ci := 0) (v := .int r_25) (ty := .int) (C := RP) (T := TP) (N := 4) hx hb hT inP tyP tkP nmP hown hK hW hM rfl 0 (by decide) (hT _ fl_P_9) (fun _ h9 => h9) rfl (by decide +kernel) rfl rfl (Nat.le_of_ble_eq_true rfl) dP_pass_98 (fun H locs hW => ?_)
    obtain ⟨M_28, eM_28⟩ : ∃ z : fm_M, z = va_up M h0 (some (.inr (0, [.int r_25, .int q.2.1, .int q.2.2.1, .long q.2.2.2]))) := ⟨_, rfl⟩
    have hW : fm_W D fs_cl5 A M_28 s.heap H locs := by rw [eM_28]; exact hW
    have f_29 : M_28 h0 = some (.inr (0, [.int r_25, .int q.2.1, .int q.2.2.1, .long q.2.2.2])) := by rw [eM_28]; exact fm_us
    refine lv_aload_n hx hb dP_pass_101 rfl (lv_at hl 0 rfl) ?_
    refine lv_aload_n hx hb dP_pass_102 rfl (lv_at hl 0 rfl) ?_
    refine fm_get (ci := 0) (v := .int q.2.1) (C := RP) (T := TP) (N := 4) hx hb hT inP hown hK hW f_29 rfl 1 (by decide) (hT _ fl_P_15) (fun _ h9 => h9) rfl dP_pass_103 ?_
    refine lv_iload_n hx hb dP_pass_106 rfl (lv_at hl 2 rfl) ?_
    refine lv_iload_n hx hb dP_pass_107 rfl (lv_at hl 3 rfl) ?_
    refine fm_calli (va_runS (As := [.int q.2.1, .int a, .int b]) (rest := [.ref h0]) ⟨hx, hb, hml, hown, hts⟩ (c_P_swapBits l D ct A M_28 q.2.1 a b) ⟨callB_of 3 hts (fs_gin co_P_swapBits) rfl rfl rfl (hT _ ini_P) (hT _ ml_P_36) (by decide +kernel) ⟨Nat.le_of_ble_eq_true rfl, Nat.le_of_ble_eq_true rfl⟩, hT _ st_P_swapBits⟩ (fn_pre fs_isnw hK hN hW) rfl rfl hl.1 rfl (lv_room (Nat.le_of_ble_eq_true rfl)) dP_pass_108 ⟨Nat.le_of_ble_eq_true rfl, Nat.le_of_ble_eq_true rfl⟩) hW (fun r_30 M_31 H locs hp_32 hW => ?_)
    have hW : fm_W D fs_cl5 A M_28 s.heap H locs := by rw [← hp_32.2]; exact hW
    have er_30 := hp_32.1
    refine fm_put (ci := 0) (v := .int r_30) (ty := .int) (C := RP) (T := TP) (N := 4) hx hb hT inP tyP tkP nmP hown hK hW f_29 rfl 1 (by decide) (hT _ fl_P_15) (fun _ h9 => h9) rfl (by decide +kernel) rfl rfl (Nat.le_of_ble_eq_true rfl) dP_pass_111 (fun H locs hW => ?_)
    obtain ⟨M_33, eM_33⟩ : ∃ z : fm_M, z = va_up M_28 h0 (some (.inr (0, [.int r_25, .int r_30, .int q.2.2.1, .long q.2.2.2]))) := ⟨_, rfl⟩
    have hW : fm_W D fs_cl5 A M_33 s.heap H locs := by rw [eM_33]; exact hW
    have f_34 : M_33 h0 = some (.inr (0, [.int r_25, .int r_30, .int q.2.2.1, .long q.2.2.2])) := by rw [eM_33]; exact fm_us
    refine lv_goto (tgt := 151) hx hb dP_pass_114 (by decide) ?_
    exact fm_vret hx hb hr hlocks hW (by rw [eM_33, eM_28, fm_uu]; subst er_30; subst er_25; rfl) dP_pass_151
  by_cases hk5 : k = 5
  · subst hk5
    refine lv_tableIn (off := 116) (tgt := 117) hx hb dP_pass_1 (by decide) (by decide) rfl (by decide) ?_
    refine lv_aload_n hx hb dP_pass_117 rfl (lv_at hl 0 rfl) ?_
    refine lv_dup hx hb dP_pass_118 rfl ?_
    refine fm_get (ci := 0) (v := .int q.2.2.1) (C := RP) (T := TP) (N := 4) hx hb hT inP hown hK hW hM rfl 2 (by decide) (hT _ fl_P_18) (fun _ h9 => h9) rfl dP_pass_119 ?_
    refine lv_aload_n hx hb dP_pass_122 rfl (lv_at hl 0 rfl) ?_
    refine lv_iload_n hx hb dP_pass_123 rfl (lv_at hl 2 rfl) ?_
    refine fm_calli (va_runV (As := [.int a]) (rest := [.int q.2.2.1, .ref h0]) ⟨hx, hb, hml, hown, hts⟩ (c_P_zOn l D ct A M h0 (q.1, q.2.1, q.2.2.1, q.2.2.2) a hM) ⟨callB_of 1 hts (fs_gin co_P_zOn) rfl rfl rfl (hT _ ini_P) (hT _ ml_P_40) (by decide +kernel) ⟨Nat.le_of_ble_eq_true rfl, Nat.le_of_ble_eq_true rfl⟩, hT _ im_P_zOn, hT _ se_P_zOn⟩ (fn_preV fs_isnw hK hN hW hM rfl) rfl rfl hl.1 rfl (lv_room (Nat.le_of_ble_eq_true rfl)) dP_pass_124 ⟨Nat.le_of_ble_eq_true rfl, Nat.le_of_ble_eq_true rfl⟩) hW (fun r_35 M_36 H locs hp_37 hW => ?_)
    have hW : fm_W D fs_cl5 A M s.heap H locs := by rw [← hp_37.2]; exact hW
    have er_35 := hp_37.1
    refine lv_ixor hx hb dP_pass_127 ?_
    refine lv_topi (fun x_38 ex_38 => ?_)
    refine fm_put (ci := 0) (v := .int x_38) (ty := .int) (C := RP) (T := TP) (N := 4) hx hb hT inP tyP tkP nmP hown hK hW hM rfl 2 (by decide) (hT _ fl_P_18) (fun _ h9 => h9) rfl (by decide +kernel) rfl rfl (Nat.le_of_ble_eq_true rfl) dP_pass_128 (fun H locs hW => ?_)
    obtain ⟨M_39, eM_39⟩ : ∃ z : fm_M, z = va_up M h0 (some (.inr (0, [.int q.1, .int q.2.1, .int x_38, .long q.2.2.2]))) := ⟨_, rfl⟩
    have hW : fm_W D fs_cl5 A M_39 s.heap H locs := by rw [eM_39]; exact hW
    have f_40 : M_39 h0 = some (.inr (0, [.int q.1, .int q.2.1, .int x_38, .long q.2.2.2])) := by rw [eM_39]; exact fm_us
    refine lv_goto (tgt := 151) hx hb dP_pass_131 (by decide) ?_
    exact fm_vret hx hb hr hlocks hW (by rw [eM_39]; subst ex_38; subst er_35; rfl) dP_pass_151
  by_cases hk6 : k = 6
  · subst hk6
    refine lv_tableIn (off := 133) (tgt := 134) hx hb dP_pass_1 (by decide) (by decide) rfl (by decide) ?_
    refine lv_aload_n hx hb dP_pass_134 rfl (lv_at hl 0 rfl) ?_
    refine lv_dup hx hb dP_pass_135 rfl ?_
    refine fm_get (ci := 0) (v := .int q.2.2.1) (C := RP) (T := TP) (N := 4) hx hb hT inP hown hK hW hM rfl 2 (by decide) (hT _ fl_P_18) (fun _ h9 => h9) rfl dP_pass_136 ?_
    refine lv_aload_n hx hb dP_pass_139 rfl (lv_at hl 0 rfl) ?_
    refine lv_iload_n hx hb dP_pass_140 rfl (lv_at hl 2 rfl) ?_
    refine fm_calli (va_runV (As := [.int a]) (rest := [.int q.2.2.1, .ref h0]) ⟨hx, hb, hml, hown, hts⟩ (c_P_xOn l D ct A M h0 (q.1, q.2.1, q.2.2.1, q.2.2.2) a hM) ⟨callB_of 1 hts (fs_gin co_P_xOn) rfl rfl rfl (hT _ ini_P) (hT _ ml_P_44) (by decide +kernel) ⟨Nat.le_of_ble_eq_true rfl, Nat.le_of_ble_eq_true rfl⟩, hT _ im_P_xOn, hT _ se_P_xOn⟩ (fn_preV fs_isnw hK hN hW hM rfl) rfl rfl hl.1 rfl (lv_room (Nat.le_of_ble_eq_true rfl)) dP_pass_141 ⟨Nat.le_of_ble_eq_true rfl, Nat.le_of_ble_eq_true rfl⟩) hW (fun r_41 M_42 H locs hp_43 hW => ?_)
    have hW : fm_W D fs_cl5 A M s.heap H locs := by rw [← hp_43.2]; exact hW
    have er_41 := hp_43.1
    refine lv_ixor hx hb dP_pass_144 ?_
    refine lv_topi (fun x_44 ex_44 => ?_)
    refine fm_put (ci := 0) (v := .int x_44) (ty := .int) (C := RP) (T := TP) (N := 4) hx hb hT inP tyP tkP nmP hown hK hW hM rfl 2 (by decide) (hT _ fl_P_18) (fun _ h9 => h9) rfl (by decide +kernel) rfl rfl (Nat.le_of_ble_eq_true rfl) dP_pass_145 (fun H locs hW => ?_)
    obtain ⟨M_45, eM_45⟩ : ∃ z : fm_M, z = va_up M h0 (some (.inr (0, [.int q.1, .int q.2.1, .int x_44, .long q.2.2.2]))) := ⟨_, rfl⟩
    have hW : fm_W D fs_cl5 A M_45 s.heap H locs := by rw [eM_45]; exact hW
    have f_46 : M_45 h0 = some (.inr (0, [.int q.1, .int q.2.1, .int x_44, .long q.2.2.2])) := by rw [eM_45]; exact fm_us
    refine lv_goto (tgt := 151) hx hb dP_pass_148 (by decide) ?_
    exact fm_vret hx hb hr hlocks hW (by rw [eM_45]; subst ex_44; subst er_41; rfl) dP_pass_151
  refine lv_tableOut (tgt := 151) hx hb dP_pass_1 (fs_swo (n := 6) (by decide) (fs_le6 hk0 hk1 hk2 hk3 hk4 hk5 hk6)) (by decide) ?_
  exact fm_vret hx hb hr hlocks hW (by rw [show fs_ps q k a b = q by unfold fs_ps; rw [if_neg hk0, if_neg hk1, if_neg hk2, if_neg hk3, if_neg hk4, if_neg hk5, if_neg hk6]]; exact (fm_same hM).symm) dP_pass_151
