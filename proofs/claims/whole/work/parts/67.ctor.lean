-- constructors
theorem fm_loopc {p : Program} {l : Launch} {e : Env} {R : Room} {s : State} {m : MethodId} {args : Array Value} {below : List Frame} {meth : Method} {c : Code} {Q : State → Prop} {D : va_G} {cl : List vw_C} {A : Nat → Prop} {H0 : Heap} {head maxL : Nat} (cf sf : Nat → Nat) (N : Nat) (I : Nat → fm_M → Prop) (lvf : Nat → List (Nat × Value))
    (step : ∀ (i cells slots : Nat) (M : fm_M) (H : Heap) (locs : List Loc) (ls : Array Slot), i < N → cells = cf i → slots = sf i → I i M → fm_W D cl A M H0 H locs → lv_has ls maxL (lvf i) →
      (∀ (cells' slots' : Nat) (M' : fm_M) (H' : Heap) (locs' : List Loc) (ls' : Array Slot), cells' = cf (i + 1) → slots' = sf (i + 1) → I (i + 1) M' → fm_W D cl A M' H0 H' locs' → lv_has ls' maxL (lvf (i + 1)) → W p l e R s m args below meth c H' locs' cells' slots' Q (F0 m head ls' [])) → W p l e R s m args below meth c H locs cells slots Q (F0 m head ls []))
    (ex : ∀ (M : fm_M) (H : Heap) (locs : List Loc) (ls : Array Slot), I N M → fm_W D cl A M H0 H locs → lv_has ls maxL (lvf N) → W p l e R s m args below meth c H locs (cf N) (sf N) Q (F0 m head ls [])) :
    ∀ (k i : Nat), i + k = N → ∀ (cells slots : Nat) (M : fm_M) (H : Heap) (locs : List Loc) (ls : Array Slot), cells = cf i → slots = sf i → I i M → fm_W D cl A M H0 H locs → lv_has ls maxL (lvf i) → W p l e R s m args below meth c H locs cells slots Q (F0 m head ls []) := by
  intro k
  induction k with
  | zero =>
    intro i hi cells slots M H locs ls h1 h2 h3 h4 h5
    have : i = N := by omega
    subst this
    subst h1
    subst h2
    exact ex M H locs ls h3 h4 h5
  | succ k ih =>
    intro i hi cells slots M H locs ls h1 h2 h3 h4 h5
    exact step i cells slots M H locs ls (by omega) h1 h2 h3 h4 h5 (fun c' s' M' H' locs' ls' g1 g2 g3 g4 g5 => ih (i + 1) (by omega) c' s' M' H' locs' ls' g1 g2 g3 g4 g5)
abbrev fs_q0 : fs_Q := (0, 0, 0, 0)
theorem fs_setr {i c0 : Nat} (hi : i < 2 ^ 31) : va_up (fun j => if j < i then some (c0 + 2 * j) else none) (nI i : Int32).toNatClampNeg (some (c0 + 2 * i)) = (fun j => if j < i + 1 then some (c0 + 2 * j) else none) := by
  funext j
  rw [nI_clamp hi]
  unfold va_up
  by_cases q : j = i
  · rw [if_pos q, if_pos (by omega), q]
  · rw [if_neg q]
    by_cases q2 : j < i
    · rw [if_pos q2, if_pos (by omega)]
    · rw [if_neg q2, if_neg (by omega)]
set_option maxHeartbeats 4000000 in
set_option maxRecDepth 100000 in
theorem c_T_init (l : Launch) (D : va_G) (ct : Nat → ClassId) (A : Nat → Prop) (M : fm_M) (b : Nat) (hM : M (b + 1) = some (.inr (1, [.null, .null, .null, .int 0]))) : Met l yT_init wT_init ({ frames := 2, cells := 23, slots := 104, locals := 40 }) (va_Pc [.ref (b + 1)] (fm_StZ (b + 2) D fs_cl5 (fs_tys ct) fs_nw A M)) (va_Qv (fun (M1 : fm_M) => fs_TB ct M1 b (fun _ => fs_q0) (fun _ => fs_q0) fs_q0 0 ∧ fs_Tf b M M1) (fm_B D fs_cl5 A) A) 23 104 A := by
  refine Met.ofW (cc := cT_init) (maxL := 2) (ret := none) (by decide) rfl ?_
  intro p e s m args below meth c s₁ B hml hv
  obtain ⟨rfl, ⟨hP0, hA0, hA1, hK, hN⟩, hZ⟩ := hv
  have hx := B.exec
  have hb := B.bytes
  have hr := B.returns
  have hts := atoms_spec (ws := wT_init) B.pre
  have hT : ∀ w ∈ fs_tb, w.before _ s = true := fun w h => hts w (List.mem_cons_of_mem _ h)
  have hown : s.vm.findClass "FrameSamples$Tableau" = some m.cls := findClass_of_methodNamed B.named
  have hlocks := B.notSynchronized
  have hin : meth.name = "<init>" := (name_of_methodNamed B.named B.method).1
  have hW : fm_W D fs_cl5 A M s.heap s.heap [] := ⟨hP0, hA0, va_S.rf, hA1⟩
  have hl := lv_entry ([.ref (b + 1)]) (n := 2) (Nat.le_of_ble_eq_true rfl)
  rw [lg_entry_eq]
  generalize (lg_sl ([.ref (b + 1)]) ++ List.replicate (2 - (lg_sl ([.ref (b + 1)])).length) Slot.unset).toArray = ls at hl ⊢
  have hl : lv_has ls 2 [(0, .ref (b + 1))] := hl
  have hFr := (fs_Tf_r : fs_Tf b M M)
  refine lv_aload_n hx hb dT_init_0 rfl (lv_at hl 0 rfl) ?_
  refine W.objInit hx hb hown (hT _ ml_T_3) (hT _ im_O) (hT _ co_O) rfl (by rw [hml]; exact hl.1) rfl dT_init_1 (Nat.le_of_ble_eq_true rfl) (Nat.le_of_ble_eq_true rfl) ?_
  refine W.eq (g2 := F0 m 4 ls []) rfl ?_
  refine lv_aload_n hx hb dT_init_4 rfl (lv_at hl 0 rfl) ?_
  refine lv_bipush (v := 10) hx hb dT_init_5 (by decide) ?_
  have hlo : b + 2 ≤ H.size := by have h9 := hW.2.2.1.1; omega
  refine fm_newq (C := "FrameSamples$Pauli") (z := b + 2) (N' := 10) hx hb hown (hT _ kl_T_9) (hN _ (List.mem_of_getElem? (i := 0) rfl)) hK hW (by omega) hlo 3 rfl (by decide) (by decide) (by decide) (Nat.le_of_ble_eq_true rfl) (Nat.le_of_ble_eq_true rfl) dT_init_7 (fun H hW => ?_)
  obtain ⟨M_1, eM_1⟩ : ∃ z : fm_M, z = va_up M (b + 2) (some (fs_ra (ct 3) 10 (fun _ => none))) := ⟨_, rfl⟩
  have hW : fm_W D fs_cl5 A M_1 s.heap H locs := by rw [eM_1]; exact hW
  have f_2 := (show M_1 (b + 1) = M (b + 1) by rw [eM_1]; exact fm_un (by omega)).trans hM
  have f_3 : M_1 (b + 2) = some (fs_ra (ct 3) 10 (fun _ => none)) := by rw [eM_1]; exact fm_us
  have hFr : fs_Tf b M M_1 := by rw [eM_1]; exact fs_Tf_u hFr (by omega) _
  refine fm_putF (ci := 1) (v := .ref (b + 2)) (ty := tyT 0) (C := RT) (T := TT) (N := 4) hx hb hT inT tyT tkT nmT hown hK hW f_2 rfl 0 (by decide) (hT _ fl_T_11) (fun _ h9 => h9) rfl hin rfl (tkT 0 (by decide)) rfl rfl (Nat.le_of_ble_eq_true rfl) dT_init_10 (fun H locs hW => ?_)
  obtain ⟨M_4, eM_4⟩ : ∃ z : fm_M, z = va_up M_1 (b + 1) (some (.inr (1, [.ref (b + 2), .null, .null, .int 0]))) := ⟨_, rfl⟩
  have hW : fm_W D fs_cl5 A M_4 s.heap H locs := by rw [eM_4]; exact hW
  have f_5 : M_4 (b + 1) = some (.inr (1, [.ref (b + 2), .null, .null, .int 0])) := by rw [eM_4]; exact fm_us
  have f_6 := (show M_4 (b + 2) = M_1 (b + 2) by rw [eM_4]; exact fm_un (by omega)).trans f_3
  have hFr : fs_Tf b M M_4 := by rw [eM_4]; exact fs_Tf_u hFr (by omega) _
  refine lv_aload_n hx hb dT_init_13 rfl (lv_at hl 0 rfl) ?_
  refine lv_bipush (v := 10) hx hb dT_init_14 (by decide) ?_
  have hlo : b + 3 ≤ H.size := by have h9 := fm_lt hW f_6; omega
  refine fm_newq (C := "FrameSamples$Pauli") (z := b + 3) (N' := 10) hx hb hown (hT _ kl_T_9) (hN _ (List.mem_of_getElem? (i := 0) rfl)) hK hW (by omega) hlo 3 rfl (by decide) (by decide) (by decide) (Nat.le_of_ble_eq_true rfl) (Nat.le_of_ble_eq_true rfl) dT_init_16 (fun H hW => ?_)
  obtain ⟨M_7, eM_7⟩ : ∃ z : fm_M, z = va_up M_4 (b + 3) (some (fs_ra (ct 3) 10 (fun _ => none))) := ⟨_, rfl⟩
  have hW : fm_W D fs_cl5 A M_7 s.heap H locs := by rw [eM_7]; exact hW
  have f_8 := (show M_7 (b + 1) = M_4 (b + 1) by rw [eM_7]; exact fm_un (by omega)).trans f_5
  have f_9 := (show M_7 (b + 2) = M_4 (b + 2) by rw [eM_7]; exact fm_un (by omega)).trans f_6
  have f_10 : M_7 (b + 3) = some (fs_ra (ct 3) 10 (fun _ => none)) := by rw [eM_7]; exact fm_us
  have hFr : fs_Tf b M M_7 := by rw [eM_7]; exact fs_Tf_u hFr (by omega) _
  refine fm_putF (ci := 1) (v := .ref (b + 3)) (ty := tyT 1) (C := RT) (T := TT) (N := 4) hx hb hT inT tyT tkT nmT hown hK hW f_8 rfl 1 (by decide) (hT _ fl_T_17) (fun _ h9 => h9) rfl hin rfl (tkT 1 (by decide)) rfl rfl (Nat.le_of_ble_eq_true rfl) dT_init_19 (fun H locs hW => ?_)
  obtain ⟨M_11, eM_11⟩ : ∃ z : fm_M, z = va_up M_7 (b + 1) (some (.inr (1, [.ref (b + 2), .ref (b + 3), .null, .int 0]))) := ⟨_, rfl⟩
  have hW : fm_W D fs_cl5 A M_11 s.heap H locs := by rw [eM_11]; exact hW
  have f_12 : M_11 (b + 1) = some (.inr (1, [.ref (b + 2), .ref (b + 3), .null, .int 0])) := by rw [eM_11]; exact fm_us
  have f_13 := (show M_11 (b + 2) = M_7 (b + 2) by rw [eM_11]; exact fm_un (by omega)).trans f_9
  have f_14 := (show M_11 (b + 3) = M_7 (b + 3) by rw [eM_11]; exact fm_un (by omega)).trans f_10
  have hFr : fs_Tf b M M_11 := by rw [eM_11]; exact fs_Tf_u hFr (by omega) _
  refine lv_iconst (v := 0) hx hb dT_init_22 (by decide) ?_
  refine lv_istore_n (lv' := [(1, .int 0), (0, .ref (b + 1))]) hx hb dT_init_23 rfl hl (by decide) rfl (fun ls hl => ?_)
  refine fm_loopc (head := 24) (maxL := 2) (fun i => 2 + 2 * i) (fun i => 20 + 8 * i) 10 (fun i M1 => M1 (b + 1) = some (.inr (1, [.ref (b + 2), .ref (b + 3), .null, .int 0])) ∧ M1 (b + 2) = some (fs_ra (ct 3) 10 (fun j => if j < i then some (b + 4 + 2 * j) else none)) ∧ M1 (b + 3) = some (fs_ra (ct 3) 10 (fun j => if j < i then some (b + 5 + 2 * j) else none)) ∧ (∀ j, j < i → M1 (b + 4 + 2 * j) = some (fs_PE fs_q0)) ∧ (∀ j, j < i → M1 (b + 5 + 2 * j) = some (fs_PE fs_q0)) ∧ fs_Tf b M M1) (fun i => [(1, .int (nI i)), (0, .ref (b + 1))]) ?_ ?_ 10 0 (Nat.zero_add _) _ _ M_11 _ _ ls rfl rfl ⟨f_12, by rw [show (fun j => if j < 0 then some (b + 4 + 2 * j) else none) = (fun _ => none) from funext fun j => if_neg (Nat.not_lt_zero j)]; exact f_13, by rw [show (fun j => if j < 0 then some (b + 5 + 2 * j) else none) = (fun _ => none) from funext fun j => if_neg (Nat.not_lt_zero j)]; exact f_14, fun j hj => absurd hj (Nat.not_lt_zero j), fun j hj => absurd hj (Nat.not_lt_zero j), hFr⟩ hW (lv_sub hl [0, 1] rfl)
  · intro i cells slots M_15 H locs ls hi hcf hsf hI hW hl back
    have hcf : cells = 2 + 2 * i := hcf
    have hsf : slots = 20 + 8 * i := hsf
    have hl : lv_has ls 2 [(1, .int (nI i)), (0, .ref (b + 1))] := hl
    obtain ⟨h1, h2, h3, h4, h5, hFr⟩ := hI
    have h2 : M_15 (b + 2) = some (fs_ra (ct 3) 10 (fun j => if j < i then some (b + 4 + 2 * j) else none)) := h2
    have h3 : M_15 (b + 3) = some (fs_ra (ct 3) 10 (fun j => if j < i then some (b + 5 + 2 * j) else none)) := h3
    have hlast : b + 3 + 2 * i < H.size := by
      cases i with
      | zero => exact fm_lt hW h3
      | succ k => have h9 := fm_lt hW (h5 k (by omega)); omega
    refine lv_iload_n hx hb dT_init_24 rfl (lv_at hl 0 rfl) ?_
    refine lv_bipush (v := 10) hx hb dT_init_25 (by decide) ?_
    refine lv_icmp_ge (tgt := 62) hx hb dT_init_27 (by decide) (fun c_16 => ?_) (fun c_16 => ?_)
    · exact absurd c_16 (nI_ge hi (by decide))
    · refine lv_aload_n hx hb dT_init_30 rfl (lv_at hl 1 rfl) ?_
      refine fm_get (ci := 1) (v := .ref (b + 2)) (C := RT) (T := TT) (N := 4) hx hb hT inT hown hK hW h1 rfl 0 (by decide) (hT _ fl_T_11) (fun _ h9 => h9) rfl dT_init_31 ?_
      refine lv_iload_n hx hb dT_init_34 rfl (lv_at hl 0 rfl) ?_
      have hlo : b + 4 + 2 * i ≤ H.size := by omega
      refine fm_newc (ci := 0) (C := RP) (T := TP) (N := 4) (z := b + 4 + 2 * i) (fs := [.int 0, .int 0, .int 0, .long 0]) hx hb hT inP tyP tkP hown (hT _ kl_T_9) (hT _ ist_P) (hT _ ini_P) hK hW (by omega) hlo rfl (fun j hj => match j, hj with | 0, _ => rfl | 1, _ => rfl | 2, _ => rfl | 3, _ => rfl | k + 4, h9 => absurd h9 (by omega)) (by show cells + 1 ≤ 23; omega) (by show slots + 4 ≤ 104; omega) dT_init_35 (fun H hW => ?_)
      obtain ⟨M_17, eM_17⟩ : ∃ z : fm_M, z = va_up M_15 (b + 4 + 2 * i) (some (.inr (0, [.int 0, .int 0, .int 0, .long 0]))) := ⟨_, rfl⟩
      have hW : fm_W D fs_cl5 A M_17 s.heap H locs := by rw [eM_17]; exact hW
      have f_18 := (show M_17 (b + 1) = M_15 (b + 1) by rw [eM_17]; exact fm_un (by omega)).trans h1
      have f_19 := (show M_17 (b + 2) = M_15 (b + 2) by rw [eM_17]; exact fm_un (by omega)).trans h2
      have f_20 := (show M_17 (b + 3) = M_15 (b + 3) by rw [eM_17]; exact fm_un (by omega)).trans h3
      have f_21 : M_17 (b + 4 + 2 * i) = some (.inr (0, [.int 0, .int 0, .int 0, .long 0])) := by rw [eM_17]; exact fm_us
      have hFr : fs_Tf b M M_17 := by rw [eM_17]; exact fs_Tf_u hFr (by omega) _
      have g_22 : ∀ j, j < i → M_17 (b + 4 + 2 * j) = some (fs_PE fs_q0) := fun j hj => (show M_17 (b + 4 + 2 * j) = M_15 (b + 4 + 2 * j) by rw [eM_17]; exact fm_un (by omega)).trans (h4 j hj)
      have g_23 : ∀ j, j < i → M_17 (b + 5 + 2 * j) = some (fs_PE fs_q0) := fun j hj => (show M_17 (b + 5 + 2 * j) = M_15 (b + 5 + 2 * j) by rw [eM_17]; exact fm_un (by omega)).trans (h5 j hj)
      refine lv_dup hx hb dT_init_38 rfl ?_
      refine fm_callv (va_runIN (As := []) (rest := [.ref (b + 4 + 2 * i), .int (nI i), .ref (b + 2)]) ⟨hx, hb, hml, hown, hts⟩ (c_P_init l D ct A M_17 (b + 4 + 2 * i) fs_q0 f_21) ⟨va_cnB 0 hts (fs_gin co_P_init) rfl rfl rfl (hN _ (List.mem_of_getElem? (i := 1) rfl)) (hT _ ini_P) (by decide +kernel) ⟨Nat.le_of_ble_eq_true rfl, Nat.le_of_ble_eq_true rfl⟩, rfl, hT _ im_P_init⟩ (fn_pre fs_isnw hK hN hW) rfl rfl hl.1 rfl (lv_room (Nat.le_of_ble_eq_true rfl)) dT_init_39 ⟨(by show cells + 1 + 0 ≤ 23; omega), (by show slots + 4 + 0 ≤ 104; omega)⟩) hW (fun M_24 H locs hp_25 hW => ?_)
      have hW : fm_W D fs_cl5 A M_17 s.heap H locs := by rw [← hp_25]; exact hW
      refine fm_astq (n := 10) (f := fun j => if j < i then some (b + 4 + 2 * j) else none) hx hb hK hW 3 0 f_19 rfl f_21 rfl (vp_in_nI (by omega) (by decide)) dT_init_42 (fun H locs hW => ?_)
      rw [show va_up (fun j => if j < i then some (b + 4 + 2 * j) else none) (nI i : Int32).toNatClampNeg (some (b + 4 + 2 * i)) = fun j => if j < (i + 1) then some (b + 4 + 2 * j) else none from fs_setr (by omega)] at hW
      obtain ⟨M_26, eM_26⟩ : ∃ z : fm_M, z = va_up M_17 (b + 2) (some (fs_ra (ct 3) 10 (fun j => if j < (i + 1) then some (b + 4 + 2 * j) else none))) := ⟨_, rfl⟩
      have hW : fm_W D fs_cl5 A M_26 s.heap H locs := by rw [eM_26]; exact hW
      have f_27 := (show M_26 (b + 1) = M_17 (b + 1) by rw [eM_26]; exact fm_un (by omega)).trans f_18
      have f_28 : M_26 (b + 2) = some (fs_ra (ct 3) 10 (fun j => if j < (i + 1) then some (b + 4 + 2 * j) else none)) := by rw [eM_26]; exact fm_us
      have f_29 := (show M_26 (b + 3) = M_17 (b + 3) by rw [eM_26]; exact fm_un (by omega)).trans f_20
      have f_30 := (show M_26 (b + 4 + 2 * i) = M_17 (b + 4 + 2 * i) by rw [eM_26]; exact fm_un (by omega)).trans f_21
      have hFr : fs_Tf b M M_26 := by rw [eM_26]; exact fs_Tf_u hFr (by omega) _
      have g_31 : ∀ j, j < i → M_26 (b + 4 + 2 * j) = some (fs_PE fs_q0) := fun j hj => (show M_26 (b + 4 + 2 * j) = M_17 (b + 4 + 2 * j) by rw [eM_26]; exact fm_un (by omega)).trans (g_22 j hj)
      have g_32 : ∀ j, j < i → M_26 (b + 5 + 2 * j) = some (fs_PE fs_q0) := fun j hj => (show M_26 (b + 5 + 2 * j) = M_17 (b + 5 + 2 * j) by rw [eM_26]; exact fm_un (by omega)).trans (g_23 j hj)
      refine lv_aload_n hx hb dT_init_43 rfl (lv_at hl 1 rfl) ?_
      refine fm_get (ci := 1) (v := .ref (b + 3)) (C := RT) (T := TT) (N := 4) hx hb hT inT hown hK hW f_27 rfl 1 (by decide) (hT _ fl_T_17) (fun _ h9 => h9) rfl dT_init_44 ?_
      refine lv_iload_n hx hb dT_init_47 rfl (lv_at hl 0 rfl) ?_
      have hlo : b + 5 + 2 * i ≤ H.size := by have h9 := fm_lt hW f_30; omega
      refine fm_newc (ci := 0) (C := RP) (T := TP) (N := 4) (z := b + 5 + 2 * i) (fs := [.int 0, .int 0, .int 0, .long 0]) hx hb hT inP tyP tkP hown (hT _ kl_T_9) (hT _ ist_P) (hT _ ini_P) hK hW (by omega) hlo rfl (fun j hj => match j, hj with | 0, _ => rfl | 1, _ => rfl | 2, _ => rfl | 3, _ => rfl | k + 4, h9 => absurd h9 (by omega)) (by show cells + 1 + 0 + 1 ≤ 23; omega) (by show slots + 4 + 0 + 4 ≤ 104; omega) dT_init_48 (fun H hW => ?_)
      obtain ⟨M_33, eM_33⟩ : ∃ z : fm_M, z = va_up M_26 (b + 5 + 2 * i) (some (.inr (0, [.int 0, .int 0, .int 0, .long 0]))) := ⟨_, rfl⟩
      have hW : fm_W D fs_cl5 A M_33 s.heap H locs := by rw [eM_33]; exact hW
      have f_34 := (show M_33 (b + 1) = M_26 (b + 1) by rw [eM_33]; exact fm_un (by omega)).trans f_27
      have f_35 := (show M_33 (b + 2) = M_26 (b + 2) by rw [eM_33]; exact fm_un (by omega)).trans f_28
      have f_36 := (show M_33 (b + 3) = M_26 (b + 3) by rw [eM_33]; exact fm_un (by omega)).trans f_29
      have f_37 := (show M_33 (b + 4 + 2 * i) = M_26 (b + 4 + 2 * i) by rw [eM_33]; exact fm_un (by omega)).trans f_30
      have f_38 : M_33 (b + 5 + 2 * i) = some (.inr (0, [.int 0, .int 0, .int 0, .long 0])) := by rw [eM_33]; exact fm_us
      have hFr : fs_Tf b M M_33 := by rw [eM_33]; exact fs_Tf_u hFr (by omega) _
      have g_39 : ∀ j, j < i → M_33 (b + 4 + 2 * j) = some (fs_PE fs_q0) := fun j hj => (show M_33 (b + 4 + 2 * j) = M_26 (b + 4 + 2 * j) by rw [eM_33]; exact fm_un (by omega)).trans (g_31 j hj)
      have g_40 : ∀ j, j < i → M_33 (b + 5 + 2 * j) = some (fs_PE fs_q0) := fun j hj => (show M_33 (b + 5 + 2 * j) = M_26 (b + 5 + 2 * j) by rw [eM_33]; exact fm_un (by omega)).trans (g_32 j hj)
      refine lv_dup hx hb dT_init_51 rfl ?_
      refine fm_callv (va_runIN (As := []) (rest := [.ref (b + 5 + 2 * i), .int (nI i), .ref (b + 3)]) ⟨hx, hb, hml, hown, hts⟩ (c_P_init l D ct A M_33 (b + 5 + 2 * i) fs_q0 f_38) ⟨va_cnB 0 hts (fs_gin co_P_init) rfl rfl rfl (hN _ (List.mem_of_getElem? (i := 1) rfl)) (hT _ ini_P) (by decide +kernel) ⟨Nat.le_of_ble_eq_true rfl, Nat.le_of_ble_eq_true rfl⟩, rfl, hT _ im_P_init⟩ (fn_pre fs_isnw hK hN hW) rfl rfl hl.1 rfl (lv_room (Nat.le_of_ble_eq_true rfl)) dT_init_52 ⟨(by show cells + 1 + 0 + 1 + 0 ≤ 23; omega), (by show slots + 4 + 0 + 4 + 0 ≤ 104; omega)⟩) hW (fun M_41 H locs hp_42 hW => ?_)
      have hW : fm_W D fs_cl5 A M_33 s.heap H locs := by rw [← hp_42]; exact hW
      refine fm_astq (n := 10) (f := fun j => if j < i then some (b + 5 + 2 * j) else none) hx hb hK hW 3 0 f_36 rfl f_38 rfl (vp_in_nI (by omega) (by decide)) dT_init_55 (fun H locs hW => ?_)
      rw [show va_up (fun j => if j < i then some (b + 5 + 2 * j) else none) (nI i : Int32).toNatClampNeg (some (b + 5 + 2 * i)) = fun j => if j < (i + 1) then some (b + 5 + 2 * j) else none from fs_setr (by omega)] at hW
      obtain ⟨M_43, eM_43⟩ : ∃ z : fm_M, z = va_up M_33 (b + 3) (some (fs_ra (ct 3) 10 (fun j => if j < (i + 1) then some (b + 5 + 2 * j) else none))) := ⟨_, rfl⟩
      have hW : fm_W D fs_cl5 A M_43 s.heap H locs := by rw [eM_43]; exact hW
      have f_44 := (show M_43 (b + 1) = M_33 (b + 1) by rw [eM_43]; exact fm_un (by omega)).trans f_34
      have f_45 := (show M_43 (b + 2) = M_33 (b + 2) by rw [eM_43]; exact fm_un (by omega)).trans f_35
      have f_46 : M_43 (b + 3) = some (fs_ra (ct 3) 10 (fun j => if j < (i + 1) then some (b + 5 + 2 * j) else none)) := by rw [eM_43]; exact fm_us
      have f_47 := (show M_43 (b + 4 + 2 * i) = M_33 (b + 4 + 2 * i) by rw [eM_43]; exact fm_un (by omega)).trans f_37
      have f_48 := (show M_43 (b + 5 + 2 * i) = M_33 (b + 5 + 2 * i) by rw [eM_43]; exact fm_un (by omega)).trans f_38
      have hFr : fs_Tf b M M_43 := by rw [eM_43]; exact fs_Tf_u hFr (by omega) _
      have g_49 : ∀ j, j < i → M_43 (b + 4 + 2 * j) = some (fs_PE fs_q0) := fun j hj => (show M_43 (b + 4 + 2 * j) = M_33 (b + 4 + 2 * j) by rw [eM_43]; exact fm_un (by omega)).trans (g_39 j hj)
      have g_50 : ∀ j, j < i → M_43 (b + 5 + 2 * j) = some (fs_PE fs_q0) := fun j hj => (show M_43 (b + 5 + 2 * j) = M_33 (b + 5 + 2 * j) by rw [eM_43]; exact fm_un (by omega)).trans (g_40 j hj)
      have k4 : ∀ j, j < i + 1 → M_43 (b + 4 + 2 * j) = some (fs_PE fs_q0) := fun j hj => by
        by_cases q : j = i
        · subst q; exact f_47
        · exact g_49 j (by omega)
      have k5 : ∀ j, j < i + 1 → M_43 (b + 5 + 2 * j) = some (fs_PE fs_q0) := fun j hj => by
        by_cases q : j = i
        · subst q; exact f_48
        · exact g_50 j (by omega)
      refine lv_iinc (v := nI (i + 1)) (lv' := [(1, .int (nI (i + 1))), (0, .ref (b + 1))]) hx hb dT_init_56 hl (k := 0) rfl (nI_1 i) (by decide) rfl (fun ls hl => ?_)
      refine lv_goto (tgt := 24) hx hb dT_init_59 (by decide) ?_
      exact back _ _ _ _ _ ls (by show cells + 1 + 0 + 1 + 0 = 2 + 2 * (i + 1); omega) (by show slots + 4 + 0 + 4 + 0 = 20 + 8 * (i + 1); omega) ⟨f_44, f_45, f_46, k4, k5, hFr⟩ hW (lv_sub hl [0, 1] rfl)
  · intro M_51 H locs ls hI hW hl
    have hl : lv_has ls 2 [(1, .int (nI 10)), (0, .ref (b + 1))] := hl
    obtain ⟨h1, h2, h3, h4, h5, hFr⟩ := hI
    have h2 : M_51 (b + 2) = some (fs_ra (ct 3) 10 (fun j => if j < 10 then some (b + 4 + 2 * j) else none)) := h2
    have h3 : M_51 (b + 3) = some (fs_ra (ct 3) 10 (fun j => if j < 10 then some (b + 5 + 2 * j) else none)) := h3
    refine lv_iload_n hx hb dT_init_24 rfl (lv_at hl 0 rfl) ?_
    refine lv_bipush (v := 10) hx hb dT_init_25 (by decide) ?_
    refine lv_icmp_ge (tgt := 62) hx hb dT_init_27 (by decide) (fun c_52 => ?_) (fun c_52 => ?_)
    · refine lv_aload_n hx hb dT_init_62 rfl (lv_at hl 1 rfl) ?_
      have hlo : b + 24 ≤ H.size := by have h9 := fm_lt hW (h5 9 (by omega)); omega
      refine fm_newc (ci := 0) (C := RP) (T := TP) (N := 4) (z := b + 24) (fs := [.int 0, .int 0, .int 0, .long 0]) hx hb hT inP tyP tkP hown (hT _ kl_T_9) (hT _ ist_P) (hT _ ini_P) hK hW (by omega) hlo rfl (fun j hj => match j, hj with | 0, _ => rfl | 1, _ => rfl | 2, _ => rfl | 3, _ => rfl | k + 4, h9 => absurd h9 (by omega)) (Nat.le_of_ble_eq_true rfl) (Nat.le_of_ble_eq_true rfl) dT_init_63 (fun H hW => ?_)
      obtain ⟨M_53, eM_53⟩ : ∃ z : fm_M, z = va_up M_51 (b + 24) (some (.inr (0, [.int 0, .int 0, .int 0, .long 0]))) := ⟨_, rfl⟩
      have hW : fm_W D fs_cl5 A M_53 s.heap H locs := by rw [eM_53]; exact hW
      have f_54 := (show M_53 (b + 1) = M_51 (b + 1) by rw [eM_53]; exact fm_un (by omega)).trans h1
      have f_55 := (show M_53 (b + 2) = M_51 (b + 2) by rw [eM_53]; exact fm_un (by omega)).trans h2
      have f_56 := (show M_53 (b + 3) = M_51 (b + 3) by rw [eM_53]; exact fm_un (by omega)).trans h3
      have f_57 : M_53 (b + 24) = some (.inr (0, [.int 0, .int 0, .int 0, .long 0])) := by rw [eM_53]; exact fm_us
      have hFr : fs_Tf b M M_53 := by rw [eM_53]; exact fs_Tf_u hFr (by omega) _
      have g_58 : ∀ j, j < 10 → M_53 (b + 4 + 2 * j) = some (fs_PE fs_q0) := fun j hj => (show M_53 (b + 4 + 2 * j) = M_51 (b + 4 + 2 * j) by rw [eM_53]; exact fm_un (by omega)).trans (h4 j hj)
      have g_59 : ∀ j, j < 10 → M_53 (b + 5 + 2 * j) = some (fs_PE fs_q0) := fun j hj => (show M_53 (b + 5 + 2 * j) = M_51 (b + 5 + 2 * j) by rw [eM_53]; exact fm_un (by omega)).trans (h5 j hj)
      refine lv_dup hx hb dT_init_66 rfl ?_
      refine fm_callv (va_runIN (As := []) (rest := [.ref (b + 24), .ref (b + 1)]) ⟨hx, hb, hml, hown, hts⟩ (c_P_init l D ct A M_53 (b + 24) fs_q0 f_57) ⟨va_cnB 0 hts (fs_gin co_P_init) rfl rfl rfl (hN _ (List.mem_of_getElem? (i := 1) rfl)) (hT _ ini_P) (by decide +kernel) ⟨Nat.le_of_ble_eq_true rfl, Nat.le_of_ble_eq_true rfl⟩, rfl, hT _ im_P_init⟩ (fn_pre fs_isnw hK hN hW) rfl rfl hl.1 rfl (lv_room (Nat.le_of_ble_eq_true rfl)) dT_init_67 ⟨(Nat.le_of_ble_eq_true rfl), (Nat.le_of_ble_eq_true rfl)⟩) hW (fun M_60 H locs hp_61 hW => ?_)
      have hW : fm_W D fs_cl5 A M_53 s.heap H locs := by rw [← hp_61]; exact hW
      refine fm_putF (ci := 1) (v := .ref (b + 24)) (ty := tyT 2) (C := RT) (T := TT) (N := 4) hx hb hT inT tyT tkT nmT hown hK hW f_54 rfl 2 (by decide) (hT _ fl_T_21) (fun _ h9 => h9) rfl hin rfl (tkT 2 (by decide)) rfl rfl (Nat.le_of_ble_eq_true rfl) dT_init_70 (fun H locs hW => ?_)
      obtain ⟨M_62, eM_62⟩ : ∃ z : fm_M, z = va_up M_53 (b + 1) (some (.inr (1, [.ref (b + 2), .ref (b + 3), .ref (b + 24), .int 0]))) := ⟨_, rfl⟩
      have hW : fm_W D fs_cl5 A M_62 s.heap H locs := by rw [eM_62]; exact hW
      have f_63 : M_62 (b + 1) = some (.inr (1, [.ref (b + 2), .ref (b + 3), .ref (b + 24), .int 0])) := by rw [eM_62]; exact fm_us
      have f_64 := (show M_62 (b + 2) = M_53 (b + 2) by rw [eM_62]; exact fm_un (by omega)).trans f_55
      have f_65 := (show M_62 (b + 3) = M_53 (b + 3) by rw [eM_62]; exact fm_un (by omega)).trans f_56
      have f_66 := (show M_62 (b + 24) = M_53 (b + 24) by rw [eM_62]; exact fm_un (by omega)).trans f_57
      have hFr : fs_Tf b M M_62 := by rw [eM_62]; exact fs_Tf_u hFr (by omega) _
      have g_67 : ∀ j, j < 10 → M_62 (b + 4 + 2 * j) = some (fs_PE fs_q0) := fun j hj => (show M_62 (b + 4 + 2 * j) = M_53 (b + 4 + 2 * j) by rw [eM_62]; exact fm_un (by omega)).trans (g_58 j hj)
      have g_68 : ∀ j, j < 10 → M_62 (b + 5 + 2 * j) = some (fs_PE fs_q0) := fun j hj => (show M_62 (b + 5 + 2 * j) = M_53 (b + 5 + 2 * j) by rw [eM_62]; exact fm_un (by omega)).trans (g_59 j hj)
      exact fm_vret hx hb hr hlocks hW ⟨⟨f_63, f_64, f_65, g_67, g_68, f_66⟩, hFr⟩ dT_init_73
    · exact absurd (nI_le (Nat.le_refl 10) (by decide)) c_52
def fs_Ff (b : Nat) (M M' : fm_M) : Prop := ∀ a, ¬ (b ≤ a ∧ a < b + 2) → M' a = M a
theorem fs_Ff_r {b : Nat} {M : fm_M} : fs_Ff b M M := fun _ _ => rfl
theorem fs_Ff_u {b : Nat} {M M' : fm_M} (h : fs_Ff b M M') {a : Nat} (ha : b ≤ a ∧ a < b + 2) (e : Option va_E) : fs_Ff b M (va_up M' a e) := fun x hx => by
  rw [fm_un (by intro z; exact hx (by rw [z]; exact ha))]
  exact h x hx
set_option maxHeartbeats 4000000 in
set_option maxRecDepth 100000 in
theorem c_F_init (l : Launch) (D : va_G) (ct : Nat → ClassId) (A : Nat → Prop) (M : fm_M) (b : Nat) (hM : M b = some (.inr (2, [.null, .int 0, .long 0, .int 0]))) : Met l yF_init wF_init ({ frames := 2, cells := 1, slots := 4, locals := 40 }) (va_Pc [.ref b] (fm_StZ (b + 1) D fs_cl5 (fs_tys ct) fs_nw A M)) (va_Qv (fun (M1 : fm_M) => M1 b = some (fs_FE (b + 1) 0 0 0) ∧ M1 (b + 1) = some (fs_PE fs_q0) ∧ fs_Ff b M M1) (fm_B D fs_cl5 A) A) 1 4 A := by
  refine Met.ofW (cc := cF_init) (maxL := 1) (ret := none) (by decide) rfl ?_
  intro p e s m args below meth c s₁ B hml hv
  obtain ⟨rfl, ⟨hP0, hA0, hA1, hK, hN⟩, hZ⟩ := hv
  have hx := B.exec
  have hb := B.bytes
  have hr := B.returns
  have hts := atoms_spec (ws := wF_init) B.pre
  have hT : ∀ w ∈ fs_tb, w.before _ s = true := fun w h => hts w (List.mem_cons_of_mem _ h)
  have hown : s.vm.findClass "FrameSamples$Fault" = some m.cls := findClass_of_methodNamed B.named
  have hlocks := B.notSynchronized
  have hin : meth.name = "<init>" := (name_of_methodNamed B.named B.method).1
  have hW : fm_W D fs_cl5 A M s.heap s.heap [] := ⟨hP0, hA0, va_S.rf, hA1⟩
  have hl := lv_entry ([.ref b]) (n := 1) (Nat.le_of_ble_eq_true rfl)
  rw [lg_entry_eq]
  generalize (lg_sl ([.ref b]) ++ List.replicate (1 - (lg_sl ([.ref b])).length) Slot.unset).toArray = ls at hl ⊢
  have hl : lv_has ls 1 [(0, .ref b)] := hl
  have hFr := (fs_Ff_r : fs_Ff b M M)
  refine lv_aload_n hx hb dF_init_0 rfl (lv_at hl 0 rfl) ?_
  refine W.objInit hx hb hown (hT _ ml_F_3) (hT _ im_O) (hT _ co_O) rfl (by rw [hml]; exact hl.1) rfl dF_init_1 (Nat.le_of_ble_eq_true rfl) (Nat.le_of_ble_eq_true rfl) ?_
  refine W.eq (g2 := F0 m 4 ls []) rfl ?_
  refine lv_aload_n hx hb dF_init_4 rfl (lv_at hl 0 rfl) ?_
  have hlo : b + 1 ≤ H.size := by have h9 := hW.2.2.1.1; omega
  refine fm_newc (ci := 0) (C := RP) (T := TP) (N := 4) (z := b + 1) (fs := [.int 0, .int 0, .int 0, .long 0]) hx hb hT inP tyP tkP hown (hT _ kl_F_9) (hT _ ist_P) (hT _ ini_P) hK hW (by omega) hlo rfl (fun j hj => match j, hj with | 0, _ => rfl | 1, _ => rfl | 2, _ => rfl | 3, _ => rfl | k + 4, h9 => absurd h9 (by omega)) (Nat.le_of_ble_eq_true rfl) (Nat.le_of_ble_eq_true rfl) dF_init_5 (fun H hW => ?_)
  obtain ⟨M_1, eM_1⟩ : ∃ z : fm_M, z = va_up M (b + 1) (some (.inr (0, [.int 0, .int 0, .int 0, .long 0]))) := ⟨_, rfl⟩
  have hW : fm_W D fs_cl5 A M_1 s.heap H locs := by rw [eM_1]; exact hW
  have f_2 := (show M_1 b = M b by rw [eM_1]; exact fm_un (by omega)).trans hM
  have f_3 : M_1 (b + 1) = some (.inr (0, [.int 0, .int 0, .int 0, .long 0])) := by rw [eM_1]; exact fm_us
  have hFr : fs_Ff b M M_1 := by rw [eM_1]; exact fs_Ff_u hFr (by omega) _
  refine lv_dup hx hb dF_init_8 rfl ?_
  refine fm_callv (va_runIN (As := []) (rest := [.ref (b + 1), .ref b]) ⟨hx, hb, hml, hown, hts⟩ (c_P_init l D ct A M_1 (b + 1) fs_q0 f_3) ⟨va_cnB 0 hts (fs_gin co_P_init) rfl rfl rfl (hN _ (List.mem_of_getElem? (i := 9) rfl)) (hT _ ini_P) (by decide +kernel) ⟨Nat.le_of_ble_eq_true rfl, Nat.le_of_ble_eq_true rfl⟩, rfl, hT _ im_P_init⟩ (fn_pre fs_isnw hK hN hW) rfl rfl hl.1 rfl (lv_room (Nat.le_of_ble_eq_true rfl)) dF_init_9 ⟨(Nat.le_of_ble_eq_true rfl), (Nat.le_of_ble_eq_true rfl)⟩) hW (fun M_4 H locs hp_5 hW => ?_)
  have hW : fm_W D fs_cl5 A M_1 s.heap H locs := by rw [← hp_5]; exact hW
  refine fm_putF (ci := 2) (v := .ref (b + 1)) (ty := tyF 0) (C := RF) (T := TF) (N := 4) hx hb hT inF tyF tkF nmF hown hK hW f_2 rfl 0 (by decide) (hT _ fl_F_12) (fun _ h9 => h9) rfl hin rfl (tkF 0 (by decide)) rfl rfl (Nat.le_of_ble_eq_true rfl) dF_init_12 (fun H locs hW => ?_)
  obtain ⟨M_6, eM_6⟩ : ∃ z : fm_M, z = va_up M_1 b (some (.inr (2, [.ref (b + 1), .int 0, .long 0, .int 0]))) := ⟨_, rfl⟩
  have hW : fm_W D fs_cl5 A M_6 s.heap H locs := by rw [eM_6]; exact hW
  have f_7 : M_6 b = some (.inr (2, [.ref (b + 1), .int 0, .long 0, .int 0])) := by rw [eM_6]; exact fm_us
  have f_8 := (show M_6 (b + 1) = M_1 (b + 1) by rw [eM_6]; exact fm_un (by omega)).trans f_3
  have hFr : fs_Ff b M M_6 := by rw [eM_6]; exact fs_Ff_u hFr (by omega) _
  exact fm_vret hx hb hr hlocks hW ⟨f_7, f_8, hFr⟩ dF_init_15
