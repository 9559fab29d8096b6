-- constructors
theorem fm_loopc {p : Program} {l : Launch} {e : Env} {R : Room} {s : State} {m : MethodId} {args : Array Value} {below : List Frame} {meth : Method} {c : Code} {Q : State → Prop} {D : va_G} {cl : List vw_C} {A : Nat → Prop} {H0 : Heap} {head maxL : Nat} (cf sf : Nat → Nat) (N : Nat) (I : Nat → fm_M → Prop) (lvf : Nat → List (Nat × Value))
    (step : ∀ (i cells slots : Nat) (M : fm_M) (H : Heap) (locs : List Loc) (ls : Array Slot), i < N → cells = cf i → slots = sf i → I i M → fm_W D cl A M H0 H locs → lv_has ls maxL (lvf i) →
      (∀ (cells' slots' : Nat) (M' : fm_M) (H' : Heap) (locs' : List Loc) (ls' : Array Slot), cells' = cf (i + 1) → slots' = sf (i + 1) → I (i + 1) M' → fm_W D cl A M' H0 H' locs' → lv_has ls' maxL (lvf (i + 1)) → W p l e R s m args below meth c H' locs' cells' slots' Q (F0 m head ls' [])) → W p l e R s m args below meth c H locs cells slots Q (F0 m head ls []))
    (ex : ∀ (M : fm_M) (H : Heap) (locs : List Loc) (ls : Array Slot), I N M → fm_W D cl A M H0 H locs → lv_has ls maxL (lvf N) → W p l e R s m args below meth c H locs (cf N) (sf N) Q (F0 m head ls [])) :
    ∀ (k i : Nat), i + k = N → ∀ (cells slots : Nat) (M : fm_M) (H : Heap) (locs : List Loc) (ls : Array Slot), cells = cf i → slots = sf i → I i M → fm_W D cl A M H0 H locs → lv_has ls maxL (lvf i) → W p l e R s m args below meth c H locs cells slots Q (F0 m head ls []) := by
  intro k
  induction k with
  | zero =>
    intro i hi cells slots M H locs ls h1 h2 h3 h4 h5
    have : i = N := by omega
    subst this
    subst h1
    subst h2
    exact ex M H locs ls h3 h4 h5
  | succ k ih =>
    intro i hi cells slots M H locs ls h1 h2 h3 h4 h5
    exact step i cells slots M H locs ls (by omega) h1 h2 h3 h4 h5 (fun c' s' M' H' locs' ls' g1 g2 g3 g4 g5 => ih (i + 1) (by omega) c' s' M' H' locs' ls' g1 g2 g3 g4 g5)
abbrev fs_q0 : fs_Q := (0, 0, 0, 0)
theorem fm_gen {p : Program} {l : Launch} {e : Env} {R : Room} {s : State} {m : MethodId} {args : Array Value} {below : List Frame} {meth : Method} {c : Code} {Q : State → Prop} {D : va_G} {cl : List vw_C} {A : Nat → Prop} {M : fm_M} {H0 H : Heap} {locs : List Loc} {cells slots : Nat} {g : JFrame} (hW : fm_W D cl A M H0 H locs) (kk : ∀ (H : Heap) (locs : List Loc), fm_W D cl A M H0 H locs → W p l e R s m args below meth c H locs cells slots Q g) : W p l e R s m args below meth c H locs cells slots Q g := kk H locs hW
theorem fs_setr {i c0 : Nat} (hi : i < 2 ^ 31) : va_up (fun j => if j < i then some (c0 + 2 * j) else none) (nI i : Int32).toNatClampNeg (some (c0 + 2 * i)) = (fun j => if j < i + 1 then some (c0 + 2 * j) else none) := by
  funext j
  rw [nI_clamp hi]
  unfold va_up
  by_cases q : j = i
  · rw [if_pos q, if_pos (by omega), q]
  · rw [if_neg q]
    show (if j < i then some (c0 + 2 * j) else none) = _
    by_cases q2 : j < i
    · rw [if_pos q2, if_pos (by omega)]
    · rw [if_neg q2, if_neg (by omega)]
set_option maxHeartbeats 4000000 in
set_option maxRecDepth 100000 in
theorem c_T_init (l : Launch) (D : va_G) (ct : Nat → ClassId) (A : Nat → Prop) (M : fm_M) (b : Nat) (hM : M (b + 1) = some (.inr (1, [.null, .null, .null, .int 0]))) : Met l yT_init wT_init ({ frames := 2, cells := 23, slots := 104, locals := 40 }) (va_Pc [.ref (b + 1)] (fm_StZ (b + 2) D fs_cl5 (fs_tys ct) fs_nw A M)) (va_Qv (fun (M1 : fm_M) => fs_TB ct M1 b (fun _ => fs_q0) (fun _ => fs_q0) fs_q0 0 ∧ fs_Tf b M M1) (fm_B D fs_cl5 A) A) 23 104 A := by
  refine Met.ofW (cc := cT_init) (maxL := 2) (ret := none) (by decide) rfl ?_
  intro p e s m args below meth c s₁ B hml hv
  obtain ⟨rfl, ⟨hP0, hA0, hA1, hK, hN⟩, hZ⟩ := hv
  have hx := B.exec
  have hb := B.bytes
  have hr := B.returns
  have hts := atoms_spec (ws := wT_init) B.pre
  have hT : ∀ w ∈ fs_tb, w.before _ s = true := fun w h => hts w (List.mem_cons_of_mem _ h)
  have hown : s.vm.findClass "FrameSamples$Tableau" = some m.cls := findClass_of_methodNamed B.named
  have hlocks := B.notSynchronized
  have hin : meth.name = "<init>" := (name_of_methodNamed B.named B.method).1
  have hW : fm_W D fs_cl5 A M s.heap s.heap [] := ⟨hP0, hA0, va_S.rf, hA1⟩
  have hl := lv_entry ([.ref (b + 1)]) (n := 2) (Nat.le_of_ble_eq_true rfl)
  rw [lg_entry_eq]
  generalize (lg_sl ([.ref (b + 1)]) ++ List.replicate (2 - (lg_sl ([.ref (b + 1)])).length) Slot.unset).toArray = ls at hl ⊢
  have hl : lv_has ls 2 [(0, .ref (b + 1))] := hl
  refine fm_gen hW (fun H locs hW => ?_)
  have hFr := (fs_Tf_r : fs_Tf b M M)
  refine lv_aload_n hx hb dT_init_0 rfl (lv_at hl 0 rfl) ?_
  refine W.objInit hx hb hown (hT _ ml_T_3) (hT _ im_O) (hT _ co_O) rfl (by rw [hml]; exact hl.1) rfl dT_init_1 (Nat.le_of_ble_eq_true rfl) (Nat.le_of_ble_eq_true rfl) ?_
  refine W.eq (g2 := F0 m 4 ls []) rfl ?_
  refine lv_aload_n hx hb dT_init_4 rfl (lv_at hl 0 rfl) ?_
  refine lv_bipush (v := 10) hx hb dT_init_5 (by decide) ?_
  have hlo : b + 2 ≤ H.size := by have h9 := hW.2.2.1.1; omega
  refine fm_newq (C := "FrameSamples$Pauli") (z := b + 2) (N' := 10) hx hb hown (hT _ kl_T_9) (hN _ (List.mem_of_getElem? (i := 0) rfl)) hK hW (by omega) hlo 3 rfl (by decide) (by decide) (by decide) (Nat.le_of_ble_eq_true rfl) (Nat.le_of_ble_eq_true rfl) dT_init_7 (fun H hW => ?_)
  obtain ⟨M_1, eM_1⟩ : ∃ z : fm_M, z = va_up M (b + 2) (some (fs_ra (ct 3) 10 (fun _ => none))) := ⟨_, rfl⟩
  have hW : fm_W D fs_cl5 A M_1 s.heap H locs := by rw [eM_1]; exact hW
  have f_2 := (show M_1 (b + 1) = M (b + 1) by rw [eM_1]; exact fm_un (by omega)).trans hM
  have f_3 : M_1 (b + 2) = some (fs_ra (ct 3) 10 (fun _ => none)) := by rw [eM_1]; exact fm_us
  have hFr : fs_Tf b M M_1 := by rw [eM_1]; exact fs_Tf_u hFr (by omega) _
  refine fm_putF (ci := 1) (v := .ref (b + 2)) (ty := tyT 0) (C := RT) (T := TT) (N := 4) hx hb hT inT tyT tkT nmT hown hK hW f_2 rfl 0 (by decide) (hT _ fl_T_11) (fun _ h9 => h9) rfl hin rfl (tkT 0 (by decide)) rfl rfl (Nat.le_of_ble_eq_true rfl) dT_init_10 (fun H locs hW => ?_)
  obtain ⟨M_4, eM_4⟩ : ∃ z : fm_M, z = va_up M_1 (b + 1) (some (.inr (1, [.ref (b + 2), .null, .null, .int 0]))) := ⟨_, rfl⟩
  have hW : fm_W D fs_cl5 A M_4 s.heap H locs := by rw [eM_4]; exact hW
  have f_5 : M_4 (b + 1) = some (.inr (1, [.ref (b + 2), .null, .null, .int 0])) := by rw [eM_4]; exact fm_us
  have f_6 := (show M_4 (b + 2) = M_1 (b + 2) by rw [eM_4]; exact fm_un (by omega)).trans f_3
  have hFr : fs_Tf b M M_4 := by rw [eM_4]; exact fs_Tf_u hFr (by omega) _
  refine lv_aload_n hx hb dT_init_13 rfl (lv_at hl 0 rfl) ?_
  refine lv_bipush (v := 10) hx hb dT_init_14 (by decide) ?_
  have hlo : b + 3 ≤ H.size := by have h9 := fm_lt hW f_6; omega
  refine fm_newq (C := "FrameSamples$Pauli") (z := b + 3) (N' := 10) hx hb hown (hT _ kl_T_9) (hN _ (List.mem_of_getElem? (i := 0) rfl)) hK hW (by omega) hlo 3 rfl (by decide) (by decide) (by decide) (Nat.le_of_ble_eq_true rfl) (Nat.le_of_ble_eq_true rfl) dT_init_16 (fun H hW => ?_)
  obtain ⟨M_7, eM_7⟩ : ∃ z : fm_M, z = va_up M_4 (b + 3) (some (fs_ra (ct 3) 10 (fun _ => none))) := ⟨_, rfl⟩
  have hW : fm_W D fs_cl5 A M_7 s.heap H locs := by rw [eM_7]; exact hW
  have f_8 := (show M_7 (b + 1) = M_4 (b + 1) by rw [eM_7]; exact fm_un (by omega)).trans f_5
  have f_9 := (show M_7 (b + 2) = M_4 (b + 2) by rw [eM_7]; exact fm_un (by omega)).trans f_6
  have f_10 : M_7 (b + 3) = some (fs_ra (ct 3) 10 (fun _ => none)) := by rw [eM_7]; exact fm_us
  have hFr : fs_Tf b M M_7 := by rw [eM_7]; exact fs_Tf_u hFr (by omega) _
  refine fm_putF (ci := 1) (v := .ref (b + 3)) (ty := tyT 1) (C := RT) (T := TT) (N := 4) hx hb hT inT tyT tkT nmT hown hK hW f_8 rfl 1 (by decide) (hT _ fl_T_17) (fun _ h9 => h9) rfl hin rfl (tkT 1 (by decide)) rfl rfl (Nat.le_of_ble_eq_true rfl) dT_init_19 (fun H locs hW => ?_)
  obtain ⟨M_11, eM_11⟩ : ∃ z : fm_M, z = va_up M_7 (b + 1) (some (.inr (1, [.ref (b + 2), .ref (b + 3), .null, .int 0]))) := ⟨_, rfl⟩
  have hW : fm_W D fs_cl5 A M_11 s.heap H locs := by rw [eM_11]; exact hW
  have f_12 : M_11 (b + 1) = some (.inr (1, [.ref (b + 2), .ref (b + 3), .null, .int 0])) := by rw [eM_11]; exact fm_us
  have f_13 := (show M_11 (b + 2) = M_7 (b + 2) by rw [eM_11]; exact fm_un (by omega)).trans f_9
  have f_14 := (show M_11 (b + 3) = M_7 (b + 3) by rw [eM_11]; exact fm_un (by omega)).trans f_10
  have hFr : fs_Tf b M M_11 := by rw [eM_11]; exact fs_Tf_u hFr (by omega) _
  refine lv_iconst (v := 0) hx hb dT_init_22 (by decide) ?_
  refine lv_istore_n (lv' := [(1, .int 0), (0, .ref (b + 1))]) hx hb dT_init_23 rfl hl (by decide) rfl (fun ls hl => ?_)
  refine fm_loopc (head := 24) (maxL := 2) (fun i => 2 + 2 * i) (fun i => 20 + 8 * i) 10 (fun i M1 => M1 (b + 1) = some (.inr (1, [.ref (b + 2), .ref (b + 3), .null, .int 0])) ∧ M1 (b + 2) = some (fs_ra (ct 3) 10 (fun j => if j < i then some (b + 4 + 2 * j) else none)) ∧ M1 (b + 3) = some (fs_ra (ct 3) 10 (fun j => if j < i then some (b + 5 + 2 * j) else none)) ∧ (∀ j, j < i → M1 (b + 4 + 2 * j) = some (fs_PE fs_q0)) ∧ (∀ j, j < i → M1 (b + 5 + 2 * j) = some (fs_PE fs_q0)) ∧ fs_Tf b M M1) (fun i => [(1, .int (nI i)), (0, .ref (b + 1))]) ?_ ?_ 10 0 (Nat.zero_add _) _ _ M_11 _ _ ls rfl rfl ⟨f_12, by rw [show (fun j => if j < 0 then some (b + 4 + 2 * j) else none) = (fun _ => none) from funext fun j => if_neg (Nat.not_lt_zero j)]; exact f_13, by rw [show (fun j => if j < 0 then some (b + 5 + 2 * j) else none) = (fun _ => none) from funext fun j => if_neg (Nat.not_lt_zero j)]; exact f_14, fun j hj => absurd hj (Nat.not_lt_zero j), fun j hj => absurd hj (Nat.not_lt_zero j), hFr⟩ hW (lv_sub hl [0, 1] rfl)
  · intro i cells slots M_15 H locs ls hi hcf hsf hI hW hl back
    have hcf : cells = 2 + 2 * i := hcf
    have hsf : slots = 20 + 8 * i := hsf
    have hl : lv_has ls 2 [(1, .int (nI i)), (0, .ref (b + 1))] := hl
    obtain ⟨h1, h2, h3, h4, h5, hFr⟩ := hI
    have h2 : M_15 (b + 2) = some (fs_ra (ct 3) 10 (fun j => if j < i then some (b + 4 + 2 * j) else none)) := h2
    have h3 : M_15 (b + 3) = some (fs_ra (ct 3) 10 (fun j => if j < i then some (b + 5 + 2 * j) else none)) := h3
    have hlast : b + 3 + 2 * i < H.size := by
      cases i with
      | zero => exact fm_lt hW h3
      | succ k => have h9 := fm_lt hW (h5 k (by omega)); omega
    refine lv_iload_n hx hb dT_init_24 rfl (lv_at hl 0 rfl) ?_
    refine lv_bipush (v := 10) hx hb dT_init_25 (by decide) ?_
    refine lv_icmp_ge (tgt := 62) hx hb dT_init_27 (by decide) (fun c_16 => ?_) (fun c_16 => ?_)
    · exact absurd c_16 (nI_ge hi (by decide))
    · refine lv_aload_n hx hb dT_init_30 rfl (lv_at hl 1 rfl) ?_
      refine fm_get (ci := 1) (v := .ref (b + 2)) (C := RT) (T := TT) (N := 4) hx hb hT inT hown hK hW h1 rfl 0 (by decide) (hT _ fl_T_11) (fun _ h9 => h9) rfl dT_init_31 ?_
      refine lv_iload_n hx hb dT_init_34 rfl (lv_at hl 0 rfl) ?_
      have hlo : b + 4 + 2 * i ≤ H.size := by omega
      refine fm_newc (ci := 0) (C := RP) (T := TP) (N := 4) (z := b + 4 + 2 * i) (fs := [.int 0, .int 0, .int 0, .long 0]) hx hb hT inP tyP tkP hown (hT _ kl_T_9) (hT _ ist_P) (hT _ ini_P) hK hW (by omega) hlo rfl (fun j hj => match j, hj with | 0, _ => rfl | 1, _ => rfl | 2, _ => rfl | 3, _ => rfl | k + 4, h9 => absurd h9 (by omega)) (by show cells + 1 ≤ 23; omega) (by show slots + 4 ≤ 104; omega) dT_init_35 (fun H hW => ?_)
      obtain ⟨M_17, eM_17⟩ : ∃ z : fm_M, z = va_up M_15 (b + 4 + 2 * i) (some (.inr (0, [.int 0, .int 0, .int 0, .long 0]))) := ⟨_, rfl⟩
      have hW : fm_W D fs_cl5 A M_17 s.heap H locs := by rw [eM_17]; exact hW
      have f_18 := (show M_17 (b + 1) = M_15 (b + 1) by rw [eM_17]; exact fm_un (by omega)).trans h1
      have f_19 := (show M_17 (b + 2) = M_15 (b + 2) by rw [eM_17]; exact fm_un (by omega)).trans h2
      have f_20 := (show M_17 (b + 3) = M_15 (b + 3) by rw [eM_17]; exact fm_un (by omega)).trans h3
      have f_21 : M_17 (b + 4 + 2 * i) = some (.inr (0, [.int 0, .int 0, .int 0, .long 0])) := by rw [eM_17]; exact fm_us
      have hFr : fs_Tf b M M_17 := by rw [eM_17]; exact fs_Tf_u hFr (by omega) _
      have g_22 : ∀ j, j < i → M_17 (b + 4 + 2 * j) = some (fs_PE fs_q0) := fun j hj => (show M_17 (b + 4 + 2 * j) = M_15 (b + 4 + 2 * j) by rw [eM_17]; exact fm_un (by omega)).trans (h4 j hj)
      have g_23 : ∀ j, j < i → M_17 (b + 5 + 2 * j) = some (fs_PE fs_q0) := fun j hj => (show M_17 (b + 5 + 2 * j) = M_15 (b + 5 + 2 * j) by rw [eM_17]; exact fm_un (by omega)).trans (h5 j hj)
      refine lv_dup hx hb dT_init_38 rfl ?_
      refine fm_callv (va_runIN (As := []) (rest := [.ref (b + 4 + 2 * i), .int (nI i), .ref (b + 2)]) ⟨hx, hb, hml, hown, hts⟩ (c_P_init l D ct A M_17 (b + 4 + 2 * i) fs_q0 f_21) ⟨va_cnB 0 hts (fs_gin co_P_init) rfl rfl rfl (hN _ (List.mem_of_getElem? (i := 1) rfl)) (hT _ ini_P) (by decide +kernel) ⟨Nat.le_of_ble_eq_true rfl, Nat.le_of_ble_eq_true rfl⟩, rfl, hT _ im_P_init⟩ (fn_pre fs_isnw hK hN hW) rfl rfl hl.1 rfl (lv_room (Nat.le_of_ble_eq_true rfl)) dT_init_39 ⟨(by show cells + 1 + 0 ≤ 23; omega), (by show slots + 4 + 0 ≤ 104; omega)⟩) hW (fun M_24 H locs hp_25 hW => ?_)
      have hW : fm_W D fs_cl5 A M_17 s.heap H locs := by rw [← hp_25]; exact hW
      refine fm_astq (n := 10) (f := fun j => if j < i then some (b + 4 + 2 * j) else none) hx hb hK hW 3 0 f_19 rfl f_21 rfl (vp_in_nI (by omega) (by decide)) dT_init_42 (fun H locs hW => ?_)
      rw [show va_up (fun j => if j < i then some (b + 4 + 2 * j) else none) (nI i : Int32).toNatClampNeg (some (b + 4 + 2 * i)) = fun j => if j < (i + 1) then some (b + 4 + 2 * j) else none from fs_setr (by omega)] at hW
      obtain ⟨M_26, eM_26⟩ : ∃ z : fm_M, z = va_up M_17 (b + 2) (some (fs_ra (ct 3) 10 (fun j => if j < (i + 1) then some (b + 4 + 2 * j) else none))) := ⟨_, rfl⟩
      have hW : fm_W D fs_cl5 A M_26 s.heap H locs := by rw [eM_26]; exact hW
      have f_27 := (show M_26 (b + 1) = M_17 (b + 1) by rw [eM_26]; exact fm_un (by omega)).trans f_18
      have f_28 : M_26 (b + 2) = some (fs_ra (ct 3) 10 (fun j => if j < (i + 1) then some (b + 4 + 2 * j) else none)) := by rw [eM_26]; exact fm_us
      have f_29 := (show M_26 (b + 3) = M_17 (b + 3) by rw [eM_26]; exact fm_un (by omega)).trans f_20
      have f_30 := (show M_26 (b + 4 + 2 * i) = M_17 (b + 4 + 2 * i) by rw [eM_26]; exact fm_un (by omega)).trans f_21
      have hFr : fs_Tf b M M_26 := by rw [eM_26]; exact fs_Tf_u hFr (by omega) _
      have g_31 : ∀ j, j < i → M_26 (b + 4 + 2 * j) = some (fs_PE fs_q0) := fun j hj => (show M_26 (b + 4 + 2 * j) = M_17 (b + 4 + 2 * j) by rw [eM_26]; exact fm_un (by omega)).trans (g_22 j hj)
      have g_32 : ∀ j, j < i → M_26 (b + 5 + 2 * j) = some (fs_PE fs_q0) := fun j hj => (show M_26 (b + 5 + 2 * j) = M_17 (b + 5 + 2 * j) by rw [eM_26]; exact fm_un (by omega)).trans (g_23 j hj)
      refine lv_aload_n hx hb dT_init_43 rfl (lv_at hl 1 rfl) ?_
      refine fm_get (ci := 1) (v := .ref (b + 3)) (C := RT) (T := TT) (N := 4) hx hb hT inT hown hK hW f_27 rfl 1 (by decide) (hT _ fl_T_17) (fun _ h9 => h9) rfl dT_init_44 ?_
      refine lv_iload_n hx hb dT_init_47 rfl (lv_at hl 0 rfl) ?_
      have hlo : b + 5 + 2 * i ≤ H.size := by have h9 := fm_lt hW f_30; omega
      refine fm_newc (ci := 0) (C := RP) (T := TP) (N := 4) (z := b + 5 + 2 * i) (fs := [.int 0, .int 0, .int 0, .long 0]) hx hb hT inP tyP tkP hown (hT _ kl_T_9) (hT _ ist_P) (hT _ ini_P) hK hW (by omega) hlo rfl (fun j hj => match j, hj with | 0, _ => rfl | 1, _ => rfl | 2, _ => rfl | 3, _ => rfl | k + 4, h9 => absurd h9 (by omega)) (by show cells + 1 + 0 + 1 ≤ 23; omega) (by show slots + 4 + 0 + 4 ≤ 104; omega) dT_init_48 (fun H hW => ?_)
      obtain ⟨M_33, eM_33⟩ : ∃ z : fm_M, z = va_up M_26 (b + 5 + 2 * i) (some (.inr (0, [.int 0, .int 0, .int 0, .long 0]))) := ⟨_, rfl⟩
      have hW : fm_W D fs_cl5 A M_33 s.heap H locs := by rw [eM_33]; exact hW
      have f_34 := (show M_33 (b + 1) = M_26 (b + 1) by rw [eM_33]; exact fm_un (by omega)).trans f_27
      have f_35 := (show M_33 (b + 2) = M_26 (b + 2) by rw [eM_33]; exact fm_un (by omega)).trans f_28
      have f_36 := (show M_33 (b + 3) = M_26 (b + 3) by rw [eM_33]; exact fm_un (by omega)).trans f_29
      have f_37 := (show M_33 (b + 4 + 2 * i) = M_26 (b + 4 + 2 * i) by rw [eM_33]; exact fm_un (by omega)).trans f_30
      have f_38 : M_33 (b + 5 + 2 * i) = some (.inr (0, [.int 0, .int 0, .int 0, .long 0])) := by rw [eM_33]; exact fm_us
      have hFr : fs_Tf b M M_33 := by rw [eM_33]; exact fs_Tf_u hFr (by omega) _
      have g_39 : ∀ j, j < i → M_33 (b + 4 + 2 * j) = some (fs_PE fs_q0) := fun j hj => (show M_33 (b + 4 + 2 * j) = M_26 (b + 4 + 2 * j) by rw [eM_33]; exact fm_un (by omega)).trans (g_31 j hj)
      have g_40 : ∀ j, j < i → M_33 (b + 5 + 2 * j) = some (fs_PE fs_q0) := fun j hj => (show M_33 (b + 5 + 2 * j) = M_26 (b + 5 + 2 * j) by rw [eM_33]; exact fm_un (by omega)).trans (g_32 j hj)
      refine lv_dup hx hb dT_init_51 rfl ?_
      refine fm_callv (va_runIN (As := []) (rest := [.ref (b + 5 + 2 * i), .int (nI i), .ref (b + 3)]) ⟨hx, hb, hml, hown, hts⟩ (c_P_init l D ct A M_33 (b + 5 + 2 * i) fs_q0 f_38) ⟨va_cnB 0 hts (fs_gin co_P_init) rfl rfl rfl (hN _ (List.mem_of_getElem? (i := 1) rfl)) (hT _ ini_P) (by decide +kernel) ⟨Nat.le_of_ble_eq_true rfl, Nat.le_of_ble_eq_true rfl⟩, rfl, hT _ im_P_init⟩ (fn_pre fs_isnw hK hN hW) rfl rfl hl.1 rfl (lv_room (Nat.le_of_ble_eq_true rfl)) dT_init_52 ⟨(by show cells + 1 + 0 + 1 + 0 ≤ 23; omega), (by show slots + 4 + 0 + 4 + 0 ≤ 104; omega)⟩) hW (fun M_41 H locs hp_42 hW => ?_)
      have hW : fm_W D fs_cl5 A M_33 s.heap H locs := by rw [← hp_42]; exact hW
      refine fm_astq (n := 10) (f := fun j => if j < i then some (b + 5 + 2 * j) else none) hx hb hK hW 3 0 f_36 rfl f_38 rfl (vp_in_nI (by omega) (by decide)) dT_init_55 (fun H locs hW => ?_)
      rw [show va_up (fun j => if j < i then some (b + 5 + 2 * j) else none) (nI i : Int32).toNatClampNeg (some (b + 5 + 2 * i)) = fun j => if j < (i + 1) then some (b + 5 + 2 * j) else none from fs_setr (by omega)] at hW
      obtain ⟨M_43, eM_43⟩ : ∃ z : fm_M, z = va_up M_33 (b + 3) (some (fs_ra (ct 3) 10 (fun j => if j < (i + 1) then some (b + 5 + 2 * j) else none))) := ⟨_, rfl⟩
      have hW : fm_W D fs_cl5 A M_43 s.heap H locs := by rw [eM_43]; exact hW
      have f_44 := (show M_43 (b + 1) = M_33 (b + 1) by rw [eM_43]; exact fm_un (by omega)).trans f_34
      have f_45 := (show M_43 (b + 2) = M_33 (b + 2) by rw [eM_43]; exact fm_un (by omega)).trans f_35
      have f_46 : M_43 (b + 3) = some (fs_ra (ct 3) 10 (fun j => if j < (i + 1) then some (b + 5 + 2 * j) else none)) := by rw [eM_43]; exact fm_us
      have f_47 := (show M_43 (b + 4 + 2 * i) = M_33 (b + 4 + 2 * i) by rw [eM_43]; exact fm_un (by omega)).trans f_37
      have f_48 := (show M_43 (b + 5 + 2 * i) = M_33 (b + 5 + 2 * i) by rw [eM_43]; exact fm_un (by omega)).trans f_38
      have hFr : fs_Tf b M M_43 := by rw [eM_43]; exact fs_Tf_u hFr (by omega) _
      have g_49 : ∀ j, j < i → M_43 (b + 4 + 2 * j) = some (fs_PE fs_q0) := fun j hj => (show M_43 (b + 4 + 2 * j) = M_33 (b + 4 + 2 * j) by rw [eM_43]; exact fm_un (by omega)).trans (g_39 j hj)
      have g_50 : ∀ j, j < i → M_43 (b + 5 + 2 * j) = some (fs_PE fs_q0) := fun j hj => (show M_43 (b + 5 + 2 * j) = M_33 (b + 5 + 2 * j) by rw [eM_43]; exact fm_un (by omega)).trans (g_40 j hj)
      have k4 : ∀ j, j < i + 1 → M_43 (b + 4 + 2 * j) = some (fs_PE fs_q0) := fun j hj => by
        by_cases q : j = i
        · subst q; exact f_47
        · exact g_49 j (by omega)
      have k5 : ∀ j, j < i + 1 → M_43 (b + 5 + 2 * j) = some (fs_PE fs_q0) := fun j hj => by
        by_cases q : j = i
        · subst q; exact f_48
        · exact g_50 j (by omega)
      refine lv_iinc (v := nI (i + 1)) (lv' := [(1, .int (nI (i + 1))), (0, .ref (b + 1))]) hx hb dT_init_56 hl (k := 0) rfl (nI_1 i) (by decide) rfl (fun ls hl => ?_)
      refine lv_goto (tgt := 24) hx hb dT_init_59 (by decide) ?_
      exact back _ _ _ _ _ ls (by show cells + 1 + 0 + 1 + 0 = 2 + 2 * (i + 1); omega) (by show slots + 4 + 0 + 4 + 0 = 20 + 8 * (i + 1); omega) ⟨f_44, f_45, f_46, k4, k5, hFr⟩ hW (lv_sub hl [0, 1] rfl)
  · intro M_51 H locs ls hI hW hl
    have hl : lv_has ls 2 [(1, .int (nI 10)), (0, .ref (b + 1))] := hl
    obtain ⟨h1, h2, h3, h4, h5, hFr⟩ := hI
    have h2 : M_51 (b + 2) = some (fs_ra (ct 3) 10 (fun j => if j < 10 then some (b + 4 + 2 * j) else none)) := h2
    have h3 : M_51 (b + 3) = some (fs_ra (ct 3) 10 (fun j => if j < 10 then some (b + 5 + 2 * j) else none)) := h3
    refine lv_iload_n hx hb dT_init_24 rfl (lv_at hl 0 rfl) ?_
    refine lv_bipush (v := 10) hx hb dT_init_25 (by decide) ?_
    refine lv_icmp_ge (tgt := 62) hx hb dT_init_27 (by decide) (fun c_52 => ?_) (fun c_52 => ?_)
    · refine lv_aload_n hx hb dT_init_62 rfl (lv_at hl 1 rfl) ?_
      have hlo : b + 24 ≤ H.size := by have h9 := fm_lt hW (h5 9 (by omega)); omega
      refine fm_newc (ci := 0) (C := RP) (T := TP) (N := 4) (z := b + 24) (fs := [.int 0, .int 0, .int 0, .long 0]) hx hb hT inP tyP tkP hown (hT _ kl_T_9) (hT _ ist_P) (hT _ ini_P) hK hW (by omega) hlo rfl (fun j hj => match j, hj with | 0, _ => rfl | 1, _ => rfl | 2, _ => rfl | 3, _ => rfl | k + 4, h9 => absurd h9 (by omega)) (Nat.le_of_ble_eq_true rfl) (Nat.le_of_ble_eq_true rfl) dT_init_63 (fun H hW => ?_)
      obtain ⟨M_53, eM_53⟩ : ∃ z : fm_M, z = va_up M_51 (b + 24) (some (.inr (0, [.int 0, .int 0, .int 0, .long 0]))) := ⟨_, rfl⟩
      have hW : fm_W D fs_cl5 A M_53 s.heap H locs := by rw [eM_53]; exact hW
      have f_54 := (show M_53 (b + 1) = M_51 (b + 1) by rw [eM_53]; exact fm_un (by omega)).trans h1
      have f_55 := (show M_53 (b + 2) = M_51 (b + 2) by rw [eM_53]; exact fm_un (by omega)).trans h2
      have f_56 := (show M_53 (b + 3) = M_51 (b + 3) by rw [eM_53]; exact fm_un (by omega)).trans h3
      have f_57 : M_53 (b + 24) = some (.inr (0, [.int 0, .int 0, .int 0, .long 0])) := by rw [eM_53]; exact fm_us
      have hFr : fs_Tf b M M_53 := by rw [eM_53]; exact fs_Tf_u hFr (by omega) _
      have g_58 : ∀ j, j < 10 → M_53 (b + 4 + 2 * j) = some (fs_PE fs_q0) := fun j hj => (show M_53 (b + 4 + 2 * j) = M_51 (b + 4 + 2 * j) by rw [eM_53]; exact fm_un (by omega)).trans (h4 j hj)
      have g_59 : ∀ j, j < 10 → M_53 (b + 5 + 2 * j) = some (fs_PE fs_q0) := fun j hj => (show M_53 (b + 5 + 2 * j) = M_51 (b + 5 + 2 * j) by rw [eM_53]; exact fm_un (by omega)).trans (h5 j hj)
      refine lv_dup hx hb dT_init_66 rfl ?_
      refine fm_callv (va_runIN (As := []) (rest := [.ref (b + 24), .ref (b + 1)]) ⟨hx, hb, hml, hown, hts⟩ (c_P_init l D ct A M_53 (b + 24) fs_q0 f_57) ⟨va_cnB 0 hts (fs_gin co_P_init) rfl rfl rfl (hN _ (List.mem_of_getElem? (i := 1) rfl)) (hT _ ini_P) (by decide +kernel) ⟨Nat.le_of_ble_eq_true rfl, Nat.le_of_ble_eq_true rfl⟩, rfl, hT _ im_P_init⟩ (fn_pre fs_isnw hK hN hW) rfl rfl hl.1 rfl (lv_room (Nat.le_of_ble_eq_true rfl)) dT_init_67 ⟨(Nat.le_of_ble_eq_true rfl), (Nat.le_of_ble_eq_true rfl)⟩) hW (fun M_60 H locs hp_61 hW => ?_)
      have hW : fm_W D fs_cl5 A M_53 s.heap H locs := by rw [← hp_61]; exact hW
      refine fm_putF (ci := 1) (v := .ref (b + 24)) (ty := tyT 2) (C := RT) (T := TT) (N := 4) hx hb hT inT tyT tkT nmT hown hK hW f_54 rfl 2 (by decide) (hT _ fl_T_21) (fun _ h9 => h9) rfl hin rfl (tkT 2 (by decide)) rfl rfl (Nat.le_of_ble_eq_true rfl) dT_init_70 (fun H locs hW => ?_)
      obtain ⟨M_62, eM_62⟩ : ∃ z : fm_M, z = va_up M_53 (b + 1) (some (.inr (1, [.ref (b + 2), .ref (b + 3), .ref (b + 24), .int 0]))) := ⟨_, rfl⟩
      have hW : fm_W D fs_cl5 A M_62 s.heap H locs := by rw [eM_62]; exact hW
      have f_63 : M_62 (b + 1) = some (.inr (1, [.ref (b + 2), .ref (b + 3), .ref (b + 24), .int 0])) := by rw [eM_62]; exact fm_us
      have f_64 := (show M_62 (b + 2) = M_53 (b + 2) by rw [eM_62]; exact fm_un (by omega)).trans f_55
      have f_65 := (show M_62 (b + 3) = M_53 (b + 3) by rw [eM_62]; exact fm_un (by omega)).trans f_56
      have f_66 := (show M_62 (b + 24) = M_53 (b + 24) by rw [eM_62]; exact fm_un (by omega)).trans f_57
      have hFr : fs_Tf b M M_62 := by rw [eM_62]; exact fs_Tf_u hFr (by omega) _
      have g_67 : ∀ j, j < 10 → M_62 (b + 4 + 2 * j) = some (fs_PE fs_q0) := fun j hj => (show M_62 (b + 4 + 2 * j) = M_53 (b + 4 + 2 * j) by rw [eM_62]; exact fm_un (by omega)).trans (g_58 j hj)
      have g_68 : ∀ j, j < 10 → M_62 (b + 5 + 2 * j) = some (fs_PE fs_q0) := fun j hj => (show M_62 (b + 5 + 2 * j) = M_53 (b + 5 + 2 * j) by rw [eM_62]; exact fm_un (by omega)).trans (g_59 j hj)
      exact fm_vret hx hb hr hlocks hW ⟨⟨f_63, f_64, f_65, g_67, g_68, f_66⟩, hFr⟩ dT_init_73
    · exact absurd (nI_le (Nat.le_refl 10) (by decide)) c_52
def fs_Ff (b : Nat) (M M' : fm_M) : Prop := ∀ a, ¬ (b ≤ a ∧ a < b + 2) → M' a = M a
theorem fs_Ff_r {b : Nat} {M : fm_M} : fs_Ff b M M := fun _ _ => rfl
theorem fs_Ff_u {b : Nat} {M M' : fm_M} (h : fs_Ff b M M') {a : Nat} (ha : b ≤ a ∧ a < b + 2) (e : Option va_E) : fs_Ff b M (va_up M' a e) := fun x hx => by
  rw [fm_un (by intro z; exact hx (by rw [z]; exact ha))]
  exact h x hx
set_option maxHeartbeats 4000000 in
set_option maxRecDepth 100000 in
theorem c_F_init (l : Launch) (D : va_G) (ct : Nat → ClassId) (A : Nat → Prop) (M : fm_M) (b : Nat) (hM : M b = some (.inr (2, [.null, .int 0, .long 0, .int 0]))) : Met l yF_init wF_init ({ frames := 2, cells := 1, slots := 4, locals := 40 }) (va_Pc [.ref b] (fm_StZ (b + 1) D fs_cl5 (fs_tys ct) fs_nw A M)) (va_Qv (fun (M1 : fm_M) => M1 b = some (fs_FE (b + 1) 0 0 0) ∧ M1 (b + 1) = some (fs_PE fs_q0) ∧ fs_Ff b M M1) (fm_B D fs_cl5 A) A) 1 4 A := by
  refine Met.ofW (cc := cF_init) (maxL := 1) (ret := none) (by decide) rfl ?_
  intro p e s m args below meth c s₁ B hml hv
  obtain ⟨rfl, ⟨hP0, hA0, hA1, hK, hN⟩, hZ⟩ := hv
  have hx := B.exec
  have hb := B.bytes
  have hr := B.returns
  have hts := atoms_spec (ws := wF_init) B.pre
  have hT : ∀ w ∈ fs_tb, w.before _ s = true := fun w h => hts w (List.mem_cons_of_mem _ h)
  have hown : s.vm.findClass "FrameSamples$Fault" = some m.cls := findClass_of_methodNamed B.named
  have hlocks := B.notSynchronized
  have hin : meth.name = "<init>" := (name_of_methodNamed B.named B.method).1
  have hW : fm_W D fs_cl5 A M s.heap s.heap [] := ⟨hP0, hA0, va_S.rf, hA1⟩
  have hl := lv_entry ([.ref b]) (n := 1) (Nat.le_of_ble_eq_true rfl)
  rw [lg_entry_eq]
  generalize (lg_sl ([.ref b]) ++ List.replicate (1 - (lg_sl ([.ref b])).length) Slot.unset).toArray = ls at hl ⊢
  have hl : lv_has ls 1 [(0, .ref b)] := hl
  refine fm_gen hW (fun H locs hW => ?_)
  have hFr := (fs_Ff_r : fs_Ff b M M)
  refine lv_aload_n hx hb dF_init_0 rfl (lv_at hl 0 rfl) ?_
  refine W.objInit hx hb hown (hT _ ml_F_3) (hT _ im_O) (hT _ co_O) rfl (by rw [hml]; exact hl.1) rfl dF_init_1 (Nat.le_of_ble_eq_true rfl) (Nat.le_of_ble_eq_true rfl) ?_
  refine W.eq (g2 := F0 m 4 ls []) rfl ?_
  refine lv_aload_n hx hb dF_init_4 rfl (lv_at hl 0 rfl) ?_
  have hlo : b + 1 ≤ H.size := by have h9 := hW.2.2.1.1; omega
  refine fm_newc (ci := 0) (C := RP) (T := TP) (N := 4) (z := b + 1) (fs := [.int 0, .int 0, .int 0, .long 0]) hx hb hT inP tyP tkP hown (hT _ kl_F_9) (hT _ ist_P) (hT _ ini_P) hK hW (by omega) hlo rfl (fun j hj => match j, hj with | 0, _ => rfl | 1, _ => rfl | 2, _ => rfl | 3, _ => rfl | k + 4, h9 => absurd h9 (by omega)) (Nat.le_of_ble_eq_true rfl) (Nat.le_of_ble_eq_true rfl) dF_init_5 (fun H hW => ?_)
  obtain ⟨M_1, eM_1⟩ : ∃ z : fm_M, z = va_up M (b + 1) (some (.inr (0, [.int 0, .int 0, .int 0, .long 0]))) := ⟨_, rfl⟩
  have hW : fm_W D fs_cl5 A M_1 s.heap H locs := by rw [eM_1]; exact hW
  have f_2 := (show M_1 b = M b by rw [eM_1]; exact fm_un (by omega)).trans hM
  have f_3 : M_1 (b + 1) = some (.inr (0, [.int 0, .int 0, .int 0, .long 0])) := by rw [eM_1]; exact fm_us
  have hFr : fs_Ff b M M_1 := by rw [eM_1]; exact fs_Ff_u hFr (by omega) _
  refine lv_dup hx hb dF_init_8 rfl ?_
  refine fm_callv (va_runIN (As := []) (rest := [.ref (b + 1), .ref b]) ⟨hx, hb, hml, hown, hts⟩ (c_P_init l D ct A M_1 (b + 1) fs_q0 f_3) ⟨va_cnB 0 hts (fs_gin co_P_init) rfl rfl rfl (hN _ (List.mem_of_getElem? (i := 9) rfl)) (hT _ ini_P) (by decide +kernel) ⟨Nat.le_of_ble_eq_true rfl, Nat.le_of_ble_eq_true rfl⟩, rfl, hT _ im_P_init⟩ (fn_pre fs_isnw hK hN hW) rfl rfl hl.1 rfl (lv_room (Nat.le_of_ble_eq_true rfl)) dF_init_9 ⟨(Nat.le_of_ble_eq_true rfl), (Nat.le_of_ble_eq_true rfl)⟩) hW (fun M_4 H locs hp_5 hW => ?_)
  have hW : fm_W D fs_cl5 A M_1 s.heap H locs := by rw [← hp_5]; exact hW
  refine fm_putF (ci := 2) (v := .ref (b + 1)) (ty := tyF 0) (C := RF) (T := TF) (N := 4) hx hb hT inF tyF tkF nmF hown hK hW f_2 rfl 0 (by decide) (hT _ fl_F_12) (fun _ h9 => h9) rfl hin rfl (tkF 0 (by decide)) rfl rfl (Nat.le_of_ble_eq_true rfl) dF_init_12 (fun H locs hW => ?_)
  obtain ⟨M_6, eM_6⟩ : ∃ z : fm_M, z = va_up M_1 b (some (.inr (2, [.ref (b + 1), .int 0, .long 0, .int 0]))) := ⟨_, rfl⟩
  have hW : fm_W D fs_cl5 A M_6 s.heap H locs := by rw [eM_6]; exact hW
  have f_7 : M_6 b = some (.inr (2, [.ref (b + 1), .int 0, .long 0, .int 0])) := by rw [eM_6]; exact fm_us
  have f_8 := (show M_6 (b + 1) = M_1 (b + 1) by rw [eM_6]; exact fm_un (by omega)).trans f_3
  have hFr : fs_Ff b M M_6 := by rw [eM_6]; exact fs_Ff_u hFr (by omega) _
  exact fm_vret hx hb hr hlocks hW ⟨f_7, f_8, hFr⟩ dF_init_15
set_option maxHeartbeats 4000000 in
set_option maxRecDepth 100000 in
theorem c_S_init (l : Launch) (D : va_G) (ct : Nat → ClassId) (A : Nat → Prop) (M : fm_M) (b : Nat) (hM : M b = some (.inr (3, [.null, .null, .null, .null, .null, .null, .int 0, .int 0, .int 0, .int 0, .int 0]))) : Met l yS_init wS_init ({ frames := 3, cells := 109, slots := 620, locals := 65 }) (va_Pc [.ref b] (fm_StZ (b + 1) D fs_cl5 (fs_tys ct) fs_nw A M)) (va_Qv (fun (M1 : fm_M) => ∃ kp pn : Nat → fs_Q, fs_CW ct M1 b (fs_c0 1) kp pn fs_q0 (fun _ => 0) (fun _ => 0) (fun _ => fs_q0) (fun _ => 0) (fun _ => 0) (fun _ => 0) (fun _ => 0) (fun _ => 0) ∧ fs_Cf b M M1 ∧ (∀ i, i < 1 → kp i = ((0, 1 <<< (nI i &&& 31), 0, 0) : fs_Q)) ∧ ∀ i, i < 1 → pn i = ((1 <<< (nI i &&& 31), 0, 0, 0) : fs_Q)) (fm_B D fs_cl5 A) A) 109 620 A := by
  refine Met.ofW (cc := cS_init) (maxL := 2) (ret := none) (by decide) rfl ?_
  intro p e s m args below meth c s₁ B hml hv
  obtain ⟨rfl, ⟨hP0, hA0, hA1, hK, hN⟩, hZ⟩ := hv
  have hx := B.exec
  have hb := B.bytes
  have hr := B.returns
  have hts := atoms_spec (ws := wS_init) B.pre
  have hT : ∀ w ∈ fs_tb, w.before _ s = true := fun w h => hts w (List.mem_cons_of_mem _ h)
  have hown : s.vm.findClass "FrameSamples" = some m.cls := findClass_of_methodNamed B.named
  have hlocks := B.notSynchronized
  have hin : meth.name = "<init>" := (name_of_methodNamed B.named B.method).1
  have hW : fm_W D fs_cl5 A M s.heap s.heap [] := ⟨hP0, hA0, va_S.rf, hA1⟩
  have hl := lv_entry ([.ref b]) (n := 2) (Nat.le_of_ble_eq_true rfl)
  rw [lg_entry_eq]
  generalize (lg_sl ([.ref b]) ++ List.replicate (2 - (lg_sl ([.ref b])).length) Slot.unset).toArray = ls at hl ⊢
  have hl : lv_has ls 2 [(0, .ref b)] := hl
  refine fm_gen hW (fun H locs hW => ?_)
  have hFr := (fs_Cf_r : fs_Cf b M M)
  refine lv_aload_n hx hb dS_init_0 rfl (lv_at hl 0 rfl) ?_
  refine W.objInit hx hb hown (hT _ ml_S_1) (hT _ im_O) (hT _ co_O) rfl (by rw [hml]; exact hl.1) rfl dS_init_1 (Nat.le_of_ble_eq_true rfl) (Nat.le_of_ble_eq_true rfl) ?_
  refine W.eq (g2 := F0 m 4 ls []) rfl ?_
  refine lv_aload_n hx hb dS_init_4 rfl (lv_at hl 0 rfl) ?_
  have hlo : b + 1 ≤ H.size := by have h9 := hW.2.2.1.1; omega
  refine fm_newc (ci := 1) (C := RT) (T := TT) (N := 4) (z := b + 1) (fs := [.null, .null, .null, .int 0]) hx hb hT inT tyT tkT hown (hT _ kl_S_7) (hT _ ist_T) (hT _ ini_T) hK hW (by omega) hlo rfl (fun j hj => match j, hj with | 0, _ => rfl | 1, _ => rfl | 2, _ => rfl | 3, _ => rfl | k + 4, h9 => absurd h9 (by omega)) (Nat.le_of_ble_eq_true rfl) (Nat.le_of_ble_eq_true rfl) dS_init_5 (fun H hW => ?_)
  obtain ⟨M_1, eM_1⟩ : ∃ z : fm_M, z = va_up M (b + 1) (some (.inr (1, [.null, .null, .null, .int 0]))) := ⟨_, rfl⟩
  have hW : fm_W D fs_cl5 A M_1 s.heap H locs := by rw [eM_1]; exact hW
  have f_2 := (show M_1 b = M b by rw [eM_1]; exact fm_un (by omega)).trans hM
  have f_3 : M_1 (b + 1) = some (.inr (1, [.null, .null, .null, .int 0])) := by rw [eM_1]; exact fm_us
  have hFr : fs_Cf b M M_1 := by rw [eM_1]; exact fs_Cf_u hFr (by omega) _
  refine lv_dup hx hb dS_init_8 rfl ?_
  refine fm_sz (z := b + 2) (by omega) (by have h9 := fm_lt hW f_3; omega) (fun hsz => ?_)
  refine fm_callv (va_runI (As := []) (rest := [.ref (b + 1), .ref b]) ⟨hx, hb, hml, hown, hts⟩ (c_T_init l D ct A M_1 b f_3) ⟨callB_of 0 hts (fs_gin co_T_init) rfl rfl rfl (hT _ ini_T) (hT _ ml_S_9) (by decide +kernel) ⟨Nat.le_of_ble_eq_true rfl, Nat.le_of_ble_eq_true rfl⟩, rfl, hT _ im_T_init⟩ (fm_preZ fs_isnw hK hN hW hsz) rfl rfl hl.1 rfl (lv_room (Nat.le_of_ble_eq_true rfl)) dS_init_9 ⟨(Nat.le_of_ble_eq_true rfl), (Nat.le_of_ble_eq_true rfl)⟩) hW (fun M_4 H locs hp_5 hW => ?_)
  obtain ⟨hTB, hTf⟩ := hp_5
  have f_6 := (hTf b (by omega)).trans f_2
  have hFr := fs_Cf_t hFr hTf
  refine fm_putF (ci := 3) (v := .ref (b + 1)) (ty := tyS 0) (C := RS) (T := TS) (N := 11) hx hb hT inS tyS tkS nmS hown hK hW f_6 rfl 0 (by decide) (hT _ fl_S_10) (fun _ h9 => h9) rfl hin rfl (tkS 0 (by decide)) rfl rfl (Nat.le_of_ble_eq_true rfl) dS_init_12 (fun H locs hW => ?_)
  obtain ⟨M_7, eM_7⟩ : ∃ z : fm_M, z = va_up M_4 b (some (.inr (3, [.ref (b + 1), .null, .null, .null, .null, .null, .int 0, .int 0, .int 0, .int 0, .int 0]))) := ⟨_, rfl⟩
  have hW : fm_W D fs_cl5 A M_7 s.heap H locs := by rw [eM_7]; exact hW
  have f_8 : M_7 b = some (.inr (3, [.ref (b + 1), .null, .null, .null, .null, .null, .int 0, .int 0, .int 0, .int 0, .int 0])) := by rw [eM_7]; exact fm_us
  have hFr : fs_Cf b M M_7 := by rw [eM_7]; exact fs_Cf_u hFr (by omega) _
  have hTB : fs_TB ct M_7 b (fun _ => fs_q0) (fun _ => fs_q0) fs_q0 0 := fs_TB_frame hTB (fun a h1 h2 => by rw [eM_7]; exact fm_un (by omega))
  refine lv_aload_n hx hb dS_init_15 rfl (lv_at hl 0 rfl) ?_
  refine lv_bipush (v := 60) hx hb dS_init_16 (by decide) ?_
  have hlo : b + 25 ≤ H.size := by have h9 := fm_lt hW (hTB.2.2.2.2.2); omega
  refine fm_newa (atype := .int) (ty := .int) (z := b + 25) (N' := 60) (a0 := (60, .inl (fun _ => 0))) hx hb (hT _ ac_int) rfl hK hW (by omega) hlo 0 rfl (fun cA => rfl) (by decide) (by decide) (by decide) (Nat.le_of_ble_eq_true rfl) (Nat.le_of_ble_eq_true rfl) dS_init_18 (fun H hW => ?_)
  obtain ⟨M_9, eM_9⟩ : ∃ z : fm_M, z = va_up M_7 (b + 25) (some (.inl (ct 0, 60, .inl (fun _ => 0)))) := ⟨_, rfl⟩
  have hW : fm_W D fs_cl5 A M_9 s.heap H locs := by rw [eM_9]; exact hW
  have f_10 := (show M_9 b = M_7 b by rw [eM_9]; exact fm_un (by omega)).trans f_8
  have f_11 : M_9 (b + 25) = some (.inl (ct 0, 60, .inl (fun _ => 0))) := by rw [eM_9]; exact fm_us
  have hFr : fs_Cf b M M_9 := by rw [eM_9]; exact fs_Cf_u hFr (by omega) _
  have hTB : fs_TB ct M_9 b (fun _ => fs_q0) (fun _ => fs_q0) fs_q0 0 := fs_TB_frame hTB (fun a h1 h2 => by rw [eM_9]; exact fm_un (by omega))
  refine fm_putF (ci := 3) (v := .ref (b + 25)) (ty := tyS 1) (C := RS) (T := TS) (N := 11) hx hb hT inS tyS tkS nmS hown hK hW f_10 rfl 1 (by decide) (hT _ fl_S_16) (fun _ h9 => h9) rfl hin rfl (tkS 1 (by decide)) rfl rfl (Nat.le_of_ble_eq_true rfl) dS_init_20 (fun H locs hW => ?_)
  obtain ⟨M_12, eM_12⟩ : ∃ z : fm_M, z = va_up M_9 b (some (.inr (3, [.ref (b + 1), .ref (b + 25), .null, .null, .null, .null, .int 0, .int 0, .int 0, .int 0, .int 0]))) := ⟨_, rfl⟩
  have hW : fm_W D fs_cl5 A M_12 s.heap H locs := by rw [eM_12]; exact hW
  have f_13 : M_12 b = some (.inr (3, [.ref (b + 1), .ref (b + 25), .null, .null, .null, .null, .int 0, .int 0, .int 0, .int 0, .int 0])) := by rw [eM_12]; exact fm_us
  have f_14 := (show M_12 (b + 25) = M_9 (b + 25) by rw [eM_12]; exact fm_un (by omega)).trans f_11
  have hFr : fs_Cf b M M_12 := by rw [eM_12]; exact fs_Cf_u hFr (by omega) _
  have hTB : fs_TB ct M_12 b (fun _ => fs_q0) (fun _ => fs_q0) fs_q0 0 := fs_TB_frame hTB (fun a h1 h2 => by rw [eM_12]; exact fm_un (by omega))
  refine lv_aload_n hx hb dS_init_23 rfl (lv_at hl 0 rfl) ?_
  refine lv_bipush (v := 60) hx hb dS_init_24 (by decide) ?_
  have hlo : b + 26 ≤ H.size := by have h9 := fm_lt hW f_14; omega
  refine fm_newa (atype := .long) (ty := .long) (z := b + 26) (N' := 60) (a0 := (60, .inr (.inl (fun _ => 0)))) hx hb (hT _ ac_long) rfl hK hW (by omega) hlo 1 rfl (fun cA => rfl) (by decide) (by decide) (by decide) (Nat.le_of_ble_eq_true rfl) (Nat.le_of_ble_eq_true rfl) dS_init_26 (fun H hW => ?_)
  obtain ⟨M_15, eM_15⟩ : ∃ z : fm_M, z = va_up M_12 (b + 26) (some (.inl (ct 1, 60, .inr (.inl (fun _ => 0))))) := ⟨_, rfl⟩
  have hW : fm_W D fs_cl5 A M_15 s.heap H locs := by rw [eM_15]; exact hW
  have f_16 := (show M_15 b = M_12 b by rw [eM_15]; exact fm_un (by omega)).trans f_13
  have f_17 := (show M_15 (b + 25) = M_12 (b + 25) by rw [eM_15]; exact fm_un (by omega)).trans f_14
  have f_18 : M_15 (b + 26) = some (.inl (ct 1, 60, .inr (.inl (fun _ => 0)))) := by rw [eM_15]; exact fm_us
  have hFr : fs_Cf b M M_15 := by rw [eM_15]; exact fs_Cf_u hFr (by omega) _
  have hTB : fs_TB ct M_15 b (fun _ => fs_q0) (fun _ => fs_q0) fs_q0 0 := fs_TB_frame hTB (fun a h1 h2 => by rw [eM_15]; exact fm_un (by omega))
  refine fm_putF (ci := 3) (v := .ref (b + 26)) (ty := tyS 2) (C := RS) (T := TS) (N := 11) hx hb hT inS tyS tkS nmS hown hK hW f_16 rfl 2 (by decide) (hT _ fl_S_20) (fun _ h9 => h9) rfl hin rfl (tkS 2 (by decide)) rfl rfl (Nat.le_of_ble_eq_true rfl) dS_init_28 (fun H locs hW => ?_)
  obtain ⟨M_19, eM_19⟩ : ∃ z : fm_M, z = va_up M_15 b (some (.inr (3, [.ref (b + 1), .ref (b + 25), .ref (b + 26), .null, .null, .null, .int 0, .int 0, .int 0, .int 0, .int 0]))) := ⟨_, rfl⟩
  have hW : fm_W D fs_cl5 A M_19 s.heap H locs := by rw [eM_19]; exact hW
  have f_20 : M_19 b = some (.inr (3, [.ref (b + 1), .ref (b + 25), .ref (b + 26), .null, .null, .null, .int 0, .int 0, .int 0, .int 0, .int 0])) := by rw [eM_19]; exact fm_us
  have f_21 := (show M_19 (b + 25) = M_15 (b + 25) by rw [eM_19]; exact fm_un (by omega)).trans f_17
  have f_22 := (show M_19 (b + 26) = M_15 (b + 26) by rw [eM_19]; exact fm_un (by omega)).trans f_18
  have hFr : fs_Cf b M M_19 := by rw [eM_19]; exact fs_Cf_u hFr (by omega) _
  have hTB : fs_TB ct M_19 b (fun _ => fs_q0) (fun _ => fs_q0) fs_q0 0 := fs_TB_frame hTB (fun a h1 h2 => by rw [eM_19]; exact fm_un (by omega))
  refine lv_aload_n hx hb dS_init_31 rfl (lv_at hl 0 rfl) ?_
  refine lv_bipush (v := 40) hx hb dS_init_32 (by decide) ?_
  have hlo : b + 27 ≤ H.size := by have h9 := fm_lt hW f_22; omega
  refine fm_newq (C := "FrameSamples$Fault") (z := b + 27) (N' := 40) hx hb hown (hT _ kl_S_24) (hN _ (List.mem_of_getElem? (i := 8) rfl)) hK hW (by omega) hlo 4 rfl (by decide) (by decide) (by decide) (Nat.le_of_ble_eq_true rfl) (Nat.le_of_ble_eq_true rfl) dS_init_34 (fun H hW => ?_)
  obtain ⟨M_23, eM_23⟩ : ∃ z : fm_M, z = va_up M_19 (b + 27) (some (fs_ra (ct 4) 40 (fun _ => none))) := ⟨_, rfl⟩
  have hW : fm_W D fs_cl5 A M_23 s.heap H locs := by rw [eM_23]; exact hW
  have f_24 := (show M_23 b = M_19 b by rw [eM_23]; exact fm_un (by omega)).trans f_20
  have f_25 := (show M_23 (b + 25) = M_19 (b + 25) by rw [eM_23]; exact fm_un (by omega)).trans f_21
  have f_26 := (show M_23 (b + 26) = M_19 (b + 26) by rw [eM_23]; exact fm_un (by omega)).trans f_22
  have f_27 : M_23 (b + 27) = some (fs_ra (ct 4) 40 (fun _ => none)) := by rw [eM_23]; exact fm_us
  have hFr : fs_Cf b M M_23 := by rw [eM_23]; exact fs_Cf_u hFr (by omega) _
  have hTB : fs_TB ct M_23 b (fun _ => fs_q0) (fun _ => fs_q0) fs_q0 0 := fs_TB_frame hTB (fun a h1 h2 => by rw [eM_23]; exact fm_un (by omega))
  refine fm_putF (ci := 3) (v := .ref (b + 27)) (ty := tyS 3) (C := RS) (T := TS) (N := 11) hx hb hT inS tyS tkS nmS hown hK hW f_24 rfl 3 (by decide) (hT _ fl_S_26) (fun _ h9 => h9) rfl hin rfl (tkS 3 (by decide)) rfl rfl (Nat.le_of_ble_eq_true rfl) dS_init_37 (fun H locs hW => ?_)
  obtain ⟨M_28, eM_28⟩ : ∃ z : fm_M, z = va_up M_23 b (some (.inr (3, [.ref (b + 1), .ref (b + 25), .ref (b + 26), .ref (b + 27), .null, .null, .int 0, .int 0, .int 0, .int 0, .int 0]))) := ⟨_, rfl⟩
  have hW : fm_W D fs_cl5 A M_28 s.heap H locs := by rw [eM_28]; exact hW
  have f_29 : M_28 b = some (.inr (3, [.ref (b + 1), .ref (b + 25), .ref (b + 26), .ref (b + 27), .null, .null, .int 0, .int 0, .int 0, .int 0, .int 0])) := by rw [eM_28]; exact fm_us
  have f_30 := (show M_28 (b + 25) = M_23 (b + 25) by rw [eM_28]; exact fm_un (by omega)).trans f_25
  have f_31 := (show M_28 (b + 26) = M_23 (b + 26) by rw [eM_28]; exact fm_un (by omega)).trans f_26
  have f_32 := (show M_28 (b + 27) = M_23 (b + 27) by rw [eM_28]; exact fm_un (by omega)).trans f_27
  have hFr : fs_Cf b M M_28 := by rw [eM_28]; exact fs_Cf_u hFr (by omega) _
  have hTB : fs_TB ct M_28 b (fun _ => fs_q0) (fun _ => fs_q0) fs_q0 0 := fs_TB_frame hTB (fun a h1 h2 => by rw [eM_28]; exact fm_un (by omega))
  refine lv_iconst (v := 0) hx hb dS_init_40 (by decide) ?_
  refine lv_istore_n (lv' := [(1, .int 0), (0, .ref b)]) hx hb dS_init_41 rfl hl (by decide) rfl (fun ls hl => ?_)
  refine fm_loopc (head := 42) (maxL := 2) (fun i => 27 + 2 * i) (fun i => 268 + 8 * i) 40 (fun i M1 => M1 b = some (.inr (3, [.ref (b + 1), .ref (b + 25), .ref (b + 26), .ref (b + 27), .null, .null, .int 0, .int 0, .int 0, .int 0, .int 0])) ∧ fs_TB ct M1 b (fun _ => fs_q0) (fun _ => fs_q0) fs_q0 0 ∧ M1 (b + 25) = some (.inl (ct 0, 60, .inl (fun _ => 0))) ∧ M1 (b + 26) = some (.inl (ct 1, 60, .inr (.inl (fun _ => 0)))) ∧ M1 (b + 27) = some (fs_ra (ct 4) 40 (fun j => if j < i then some (b + 28 + 2 * j) else none)) ∧ (∀ j, j < i → M1 (b + 28 + 2 * j) = some (fs_FE (b + 29 + 2 * j) 0 0 0)) ∧ (∀ j, j < i → M1 (b + 29 + 2 * j) = some (fs_PE fs_q0)) ∧ fs_Cf b M M1) (fun i => [(1, .int (nI i)), (0, .ref b)]) ?_ ?_ 40 0 (Nat.zero_add _) _ _ M_28 _ _ ls rfl rfl ⟨f_29, hTB, f_30, f_31, by rw [show (fun j => if j < 0 then some (b + 28 + 2 * j) else none) = (fun _ => none) from funext fun j => if_neg (Nat.not_lt_zero j)]; exact f_32, fun j hj => absurd hj (Nat.not_lt_zero j), fun j hj => absurd hj (Nat.not_lt_zero j), hFr⟩ hW (lv_sub hl [0, 1] rfl)
  · intro i cells slots M_33 H locs ls hi hcf hsf hI hW hl back
    have hcf : cells = 27 + 2 * i := hcf
    have hsf : slots = 268 + 8 * i := hsf
    have hl : lv_has ls 2 [(1, .int (nI i)), (0, .ref b)] := hl
    obtain ⟨h1, hTB, h2, h3, h4, h5, h6, hFr⟩ := hI
    have h4 : M_33 (b + 27) = some (fs_ra (ct 4) 40 (fun j => if j < i then some (b + 28 + 2 * j) else none)) := h4
    have hlast : b + 27 + 2 * i < H.size := by
      cases i with
      | zero => exact fm_lt hW h4
      | succ k => have h9 := fm_lt hW (h6 k (by omega)); omega
    refine lv_iload_n hx hb dS_init_42 rfl (lv_at hl 0 rfl) ?_
    refine lv_bipush (v := 40) hx hb dS_init_43 (by decide) ?_
    refine lv_icmp_ge (tgt := 67) hx hb dS_init_45 (by decide) (fun c_34 => ?_) (fun c_34 => ?_)
    · exact absurd c_34 (nI_ge hi (by decide))
    · refine lv_aload_n hx hb dS_init_48 rfl (lv_at hl 1 rfl) ?_
      refine fm_get (ci := 3) (v := .ref (b + 27)) (C := RS) (T := TS) (N := 11) hx hb hT inS hown hK hW h1 rfl 3 (by decide) (hT _ fl_S_26) (fun _ h9 => h9) rfl dS_init_49 ?_
      refine lv_iload_n hx hb dS_init_52 rfl (lv_at hl 0 rfl) ?_
      have hlo : b + 28 + 2 * i ≤ H.size := by omega
      refine fm_newc (ci := 2) (C := RF) (T := TF) (N := 4) (z := b + 28 + 2 * i) (fs := [.null, .int 0, .long 0, .int 0]) hx hb hT inF tyF tkF hown (hT _ kl_S_24) (hT _ ist_F) (hT _ ini_F) hK hW (by omega) hlo rfl (fun j hj => match j, hj with | 0, _ => rfl | 1, _ => rfl | 2, _ => rfl | 3, _ => rfl | k + 4, h9 => absurd h9 (by omega)) (by show cells + 1 ≤ 109; omega) (by show slots + 4 ≤ 620; omega) dS_init_53 (fun H hW => ?_)
      obtain ⟨M_35, eM_35⟩ : ∃ z : fm_M, z = va_up M_33 (b + 28 + 2 * i) (some (.inr (2, [.null, .int 0, .long 0, .int 0]))) := ⟨_, rfl⟩
      have hW : fm_W D fs_cl5 A M_35 s.heap H locs := by rw [eM_35]; exact hW
      have f_36 := (show M_35 b = M_33 b by rw [eM_35]; exact fm_un (by omega)).trans h1
      have f_37 := (show M_35 (b + 25) = M_33 (b + 25) by rw [eM_35]; exact fm_un (by omega)).trans h2
      have f_38 := (show M_35 (b + 26) = M_33 (b + 26) by rw [eM_35]; exact fm_un (by omega)).trans h3
      have f_39 := (show M_35 (b + 27) = M_33 (b + 27) by rw [eM_35]; exact fm_un (by omega)).trans h4
      have f_40 : M_35 (b + 28 + 2 * i) = some (.inr (2, [.null, .int 0, .long 0, .int 0])) := by rw [eM_35]; exact fm_us
      have hFr : fs_Cf b M M_35 := by rw [eM_35]; exact fs_Cf_u hFr (by omega) _
      have hTB : fs_TB ct M_35 b (fun _ => fs_q0) (fun _ => fs_q0) fs_q0 0 := fs_TB_frame hTB (fun a h1 h2 => by rw [eM_35]; exact fm_un (by omega))
      have g_41 : ∀ j, j < i → M_35 (b + 28 + 2 * j) = some (fs_FE (b + 29 + 2 * j) 0 0 0) := fun j hj => (show M_35 (b + 28 + 2 * j) = M_33 (b + 28 + 2 * j) by rw [eM_35]; exact fm_un (by omega)).trans (h5 j hj)
      have g_42 : ∀ j, j < i → M_35 (b + 29 + 2 * j) = some (fs_PE fs_q0) := fun j hj => (show M_35 (b + 29 + 2 * j) = M_33 (b + 29 + 2 * j) by rw [eM_35]; exact fm_un (by omega)).trans (h6 j hj)
      refine lv_dup hx hb dS_init_56 rfl ?_
      refine fm_sz (z := b + 28 + 2 * i + 1) (by omega) (by have h9 := fm_lt hW f_40; omega) (fun hsz => ?_)
      refine fm_callv (va_runI (As := []) (rest := [.ref (b + 28 + 2 * i), .int (nI i), .ref (b + 27)]) ⟨hx, hb, hml, hown, hts⟩ (c_F_init l D ct A M_35 (b + 28 + 2 * i) f_40) ⟨callB_of 0 hts (fs_gin co_F_init) rfl rfl rfl (hT _ ini_F) (hT _ ml_S_30) (by decide +kernel) ⟨Nat.le_of_ble_eq_true rfl, Nat.le_of_ble_eq_true rfl⟩, rfl, hT _ im_F_init⟩ (fm_preZ fs_isnw hK hN hW hsz) rfl rfl hl.1 rfl (lv_room (Nat.le_of_ble_eq_true rfl)) dS_init_57 ⟨(by show cells + 1 + 1 ≤ 109; omega), (by show slots + 4 + 4 ≤ 620; omega)⟩) hW (fun M_43 H locs hp_44 hW => ?_)
      obtain ⟨n1, n2, n3⟩ := hp_44
      rw [show b + 28 + 2 * i + 1 = b + 29 + 2 * i by omega] at n1 n2
      have f_45 := (n3 (b) (by omega)).trans f_36
      have f_46 := (n3 (b + 25) (by omega)).trans f_37
      have f_47 := (n3 (b + 26) (by omega)).trans f_38
      have f_48 := (n3 (b + 27) (by omega)).trans f_39
      have g_49 : ∀ j, j < i → M_43 (b + 28 + 2 * j) = some (fs_FE (b + 29 + 2 * j) 0 0 0) := fun j hj => (n3 (b + 28 + 2 * j) (by omega)).trans (g_41 j hj)
      have g_50 : ∀ j, j < i → M_43 (b + 29 + 2 * j) = some (fs_PE fs_q0) := fun j hj => (n3 (b + 29 + 2 * j) (by omega)).trans (g_42 j hj)
      have hTB := fs_TB_frame hTB (fun a h1 h2 => n3 a (by omega))
      have hFr : fs_Cf b M M_43 := fun a ha => (n3 a (by omega)).trans (hFr a ha)
      refine fm_astq (n := 40) (f := fun j => if j < i then some (b + 28 + 2 * j) else none) hx hb hK hW 4 2 f_48 rfl n1 rfl (vp_in_nI (by omega) (by decide)) dS_init_60 (fun H locs hW => ?_)
      rw [show va_up (fun j => if j < i then some (b + 28 + 2 * j) else none) (nI i : Int32).toNatClampNeg (some (b + 28 + 2 * i)) = fun j => if j < (i + 1) then some (b + 28 + 2 * j) else none from fs_setr (by omega)] at hW
      obtain ⟨M_51, eM_51⟩ : ∃ z : fm_M, z = va_up M_43 (b + 27) (some (fs_ra (ct 4) 40 (fun j => if j < (i + 1) then some (b + 28 + 2 * j) else none))) := ⟨_, rfl⟩
      have hW : fm_W D fs_cl5 A M_51 s.heap H locs := by rw [eM_51]; exact hW
      have f_52 := (show M_51 b = M_43 b by rw [eM_51]; exact fm_un (by omega)).trans f_45
      have f_53 := (show M_51 (b + 25) = M_43 (b + 25) by rw [eM_51]; exact fm_un (by omega)).trans f_46
      have f_54 := (show M_51 (b + 26) = M_43 (b + 26) by rw [eM_51]; exact fm_un (by omega)).trans f_47
      have f_55 : M_51 (b + 27) = some (fs_ra (ct 4) 40 (fun j => if j < (i + 1) then some (b + 28 + 2 * j) else none)) := by rw [eM_51]; exact fm_us
      have f_56 := (show M_51 (b + 28 + 2 * i) = M_43 (b + 28 + 2 * i) by rw [eM_51]; exact fm_un (by omega)).trans n1
      have f_57 := (show M_51 (b + 29 + 2 * i) = M_43 (b + 29 + 2 * i) by rw [eM_51]; exact fm_un (by omega)).trans n2
      have hFr : fs_Cf b M M_51 := by rw [eM_51]; exact fs_Cf_u hFr (by omega) _
      have hTB : fs_TB ct M_51 b (fun _ => fs_q0) (fun _ => fs_q0) fs_q0 0 := fs_TB_frame hTB (fun a h1 h2 => by rw [eM_51]; exact fm_un (by omega))
      have g_58 : ∀ j, j < i → M_51 (b + 28 + 2 * j) = some (fs_FE (b + 29 + 2 * j) 0 0 0) := fun j hj => (show M_51 (b + 28 + 2 * j) = M_43 (b + 28 + 2 * j) by rw [eM_51]; exact fm_un (by omega)).trans (g_49 j hj)
      have g_59 : ∀ j, j < i → M_51 (b + 29 + 2 * j) = some (fs_PE fs_q0) := fun j hj => (show M_51 (b + 29 + 2 * j) = M_43 (b + 29 + 2 * j) by rw [eM_51]; exact fm_un (by omega)).trans (g_50 j hj)
      have k4 : ∀ j, j < i + 1 → M_51 (b + 28 + 2 * j) = some (fs_FE (b + 29 + 2 * j) 0 0 0) := fun j hj => by
        by_cases q : j = i
        · subst q; exact f_56
        · exact g_58 j (by omega)
      have k5 : ∀ j, j < i + 1 → M_51 (b + 29 + 2 * j) = some (fs_PE fs_q0) := fun j hj => by
        by_cases q : j = i
        · subst q; exact f_57
        · exact g_59 j (by omega)
      refine lv_iinc (v := nI (i + 1)) (lv' := [(1, .int (nI (i + 1))), (0, .ref b)]) hx hb dS_init_61 hl (k := 0) rfl (nI_1 i) (by decide) rfl (fun ls hl => ?_)
      refine lv_goto (tgt := 42) hx hb dS_init_64 (by decide) ?_
      exact back _ _ _ _ _ ls (by show cells + 1 + 1 = 27 + 2 * (i + 1); omega) (by show slots + 4 + 4 = 268 + 8 * (i + 1); omega) ⟨f_52, hTB, f_53, f_54, f_55, k4, k5, hFr⟩ hW (lv_sub hl [0, 1] rfl)
  · intro M_60 H locs ls hI hW hl
    have hl : lv_has ls 2 [(1, .int (nI 40)), (0, .ref b)] := hl
    obtain ⟨h1, hTB, h2, h3, h4, h5, h6, hFr⟩ := hI
    have h4 : M_60 (b + 27) = some (fs_ra (ct 4) 40 (fun j => if j < 40 then some (b + 28 + 2 * j) else none)) := h4
    refine lv_iload_n hx hb dS_init_42 rfl (lv_at hl 0 rfl) ?_
    refine lv_bipush (v := 40) hx hb dS_init_43 (by decide) ?_
    refine lv_icmp_ge (tgt := 67) hx hb dS_init_45 (by decide) (fun c_61 => ?_) (fun c_61 => ?_)
    · refine lv_aload_n hx hb dS_init_67 rfl (lv_at hl 1 rfl) ?_
      refine lv_bipush (v := 16) hx hb dS_init_68 (by decide) ?_
      have hlo : b + 108 ≤ H.size := by have h9 := fm_lt hW (h6 39 (by omega)); omega
      refine fm_newa (atype := .int) (ty := .int) (z := b + 108) (N' := 16) (a0 := (16, .inl (fun _ => 0))) hx hb (hT _ ac_int) rfl hK hW (by omega) hlo 0 rfl (fun cA => rfl) (by decide) (by decide) (by decide) (Nat.le_of_ble_eq_true rfl) (Nat.le_of_ble_eq_true rfl) dS_init_70 (fun H hW => ?_)
      obtain ⟨M_62, eM_62⟩ : ∃ z : fm_M, z = va_up M_60 (b + 108) (some (.inl (ct 0, 16, .inl (fun _ => 0)))) := ⟨_, rfl⟩
      have hW : fm_W D fs_cl5 A M_62 s.heap H locs := by rw [eM_62]; exact hW
      have f_63 := (show M_62 b = M_60 b by rw [eM_62]; exact fm_un (by omega)).trans h1
      have f_64 := (show M_62 (b + 25) = M_60 (b + 25) by rw [eM_62]; exact fm_un (by omega)).trans h2
      have f_65 := (show M_62 (b + 26) = M_60 (b + 26) by rw [eM_62]; exact fm_un (by omega)).trans h3
      have f_66 := (show M_62 (b + 27) = M_60 (b + 27) by rw [eM_62]; exact fm_un (by omega)).trans h4
      have f_67 : M_62 (b + 108) = some (.inl (ct 0, 16, .inl (fun _ => 0))) := by rw [eM_62]; exact fm_us
      have hFr : fs_Cf b M M_62 := by rw [eM_62]; exact fs_Cf_u hFr (by omega) _
      have hTB : fs_TB ct M_62 b (fun _ => fs_q0) (fun _ => fs_q0) fs_q0 0 := fs_TB_frame hTB (fun a h1 h2 => by rw [eM_62]; exact fm_un (by omega))
      have g_68 : ∀ j, j < 40 → M_62 (b + 28 + 2 * j) = some (fs_FE (b + 29 + 2 * j) 0 0 0) := fun j hj => (show M_62 (b + 28 + 2 * j) = M_60 (b + 28 + 2 * j) by rw [eM_62]; exact fm_un (by omega)).trans (h5 j hj)
      have g_69 : ∀ j, j < 40 → M_62 (b + 29 + 2 * j) = some (fs_PE fs_q0) := fun j hj => (show M_62 (b + 29 + 2 * j) = M_60 (b + 29 + 2 * j) by rw [eM_62]; exact fm_un (by omega)).trans (h6 j hj)
      refine fm_putF (ci := 3) (v := .ref (b + 108)) (ty := tyS 4) (C := RS) (T := TS) (N := 11) hx hb hT inS tyS tkS nmS hown hK hW f_63 rfl 4 (by decide) (hT _ fl_S_31) (fun _ h9 => h9) rfl hin rfl (tkS 4 (by decide)) rfl rfl (Nat.le_of_ble_eq_true rfl) dS_init_72 (fun H locs hW => ?_)
      obtain ⟨M_70, eM_70⟩ : ∃ z : fm_M, z = va_up M_62 b (some (.inr (3, [.ref (b + 1), .ref (b + 25), .ref (b + 26), .ref (b + 27), .ref (b + 108), .null, .int 0, .int 0, .int 0, .int 0, .int 0]))) := ⟨_, rfl⟩
      have hW : fm_W D fs_cl5 A M_70 s.heap H locs := by rw [eM_70]; exact hW
      have f_71 : M_70 b = some (.inr (3, [.ref (b + 1), .ref (b + 25), .ref (b + 26), .ref (b + 27), .ref (b + 108), .null, .int 0, .int 0, .int 0, .int 0, .int 0])) := by rw [eM_70]; exact fm_us
      have f_72 := (show M_70 (b + 25) = M_62 (b + 25) by rw [eM_70]; exact fm_un (by omega)).trans f_64
      have f_73 := (show M_70 (b + 26) = M_62 (b + 26) by rw [eM_70]; exact fm_un (by omega)).trans f_65
      have f_74 := (show M_70 (b + 27) = M_62 (b + 27) by rw [eM_70]; exact fm_un (by omega)).trans f_66
      have f_75 := (show M_70 (b + 108) = M_62 (b + 108) by rw [eM_70]; exact fm_un (by omega)).trans f_67
      have hFr : fs_Cf b M M_70 := by rw [eM_70]; exact fs_Cf_u hFr (by omega) _
      have hTB : fs_TB ct M_70 b (fun _ => fs_q0) (fun _ => fs_q0) fs_q0 0 := fs_TB_frame hTB (fun a h1 h2 => by rw [eM_70]; exact fm_un (by omega))
      have g_76 : ∀ j, j < 40 → M_70 (b + 28 + 2 * j) = some (fs_FE (b + 29 + 2 * j) 0 0 0) := fun j hj => (show M_70 (b + 28 + 2 * j) = M_62 (b + 28 + 2 * j) by rw [eM_70]; exact fm_un (by omega)).trans (g_68 j hj)
      have g_77 : ∀ j, j < 40 → M_70 (b + 29 + 2 * j) = some (fs_PE fs_q0) := fun j hj => (show M_70 (b + 29 + 2 * j) = M_62 (b + 29 + 2 * j) by rw [eM_70]; exact fm_un (by omega)).trans (g_69 j hj)
      refine lv_aload_n hx hb dS_init_75 rfl (lv_at hl 1 rfl) ?_
      refine lv_bipush (v := 16) hx hb dS_init_76 (by decide) ?_
      have hlo : b + 109 ≤ H.size := by have h9 := fm_lt hW f_75; omega
      refine fm_newa (atype := .long) (ty := .long) (z := b + 109) (N' := 16) (a0 := (16, .inr (.inl (fun _ => 0)))) hx hb (hT _ ac_long) rfl hK hW (by omega) hlo 1 rfl (fun cA => rfl) (by decide) (by decide) (by decide) (Nat.le_of_ble_eq_true rfl) (Nat.le_of_ble_eq_true rfl) dS_init_78 (fun H hW => ?_)
      obtain ⟨M_78, eM_78⟩ : ∃ z : fm_M, z = va_up M_70 (b + 109) (some (.inl (ct 1, 16, .inr (.inl (fun _ => 0))))) := ⟨_, rfl⟩
      have hW : fm_W D fs_cl5 A M_78 s.heap H locs := by rw [eM_78]; exact hW
      have f_79 := (show M_78 b = M_70 b by rw [eM_78]; exact fm_un (by omega)).trans f_71
      have f_80 := (show M_78 (b + 25) = M_70 (b + 25) by rw [eM_78]; exact fm_un (by omega)).trans f_72
      have f_81 := (show M_78 (b + 26) = M_70 (b + 26) by rw [eM_78]; exact fm_un (by omega)).trans f_73
      have f_82 := (show M_78 (b + 27) = M_70 (b + 27) by rw [eM_78]; exact fm_un (by omega)).trans f_74
      have f_83 := (show M_78 (b + 108) = M_70 (b + 108) by rw [eM_78]; exact fm_un (by omega)).trans f_75
      have f_84 : M_78 (b + 109) = some (.inl (ct 1, 16, .inr (.inl (fun _ => 0)))) := by rw [eM_78]; exact fm_us
      have hFr : fs_Cf b M M_78 := by rw [eM_78]; exact fs_Cf_u hFr (by omega) _
      have hTB : fs_TB ct M_78 b (fun _ => fs_q0) (fun _ => fs_q0) fs_q0 0 := fs_TB_frame hTB (fun a h1 h2 => by rw [eM_78]; exact fm_un (by omega))
      have g_85 : ∀ j, j < 40 → M_78 (b + 28 + 2 * j) = some (fs_FE (b + 29 + 2 * j) 0 0 0) := fun j hj => (show M_78 (b + 28 + 2 * j) = M_70 (b + 28 + 2 * j) by rw [eM_78]; exact fm_un (by omega)).trans (g_76 j hj)
      have g_86 : ∀ j, j < 40 → M_78 (b + 29 + 2 * j) = some (fs_PE fs_q0) := fun j hj => (show M_78 (b + 29 + 2 * j) = M_70 (b + 29 + 2 * j) by rw [eM_78]; exact fm_un (by omega)).trans (g_77 j hj)
      refine fm_putF (ci := 3) (v := .ref (b + 109)) (ty := tyS 5) (C := RS) (T := TS) (N := 11) hx hb hT inS tyS tkS nmS hown hK hW f_79 rfl 5 (by decide) (hT _ fl_S_34) (fun _ h9 => h9) rfl hin rfl (tkS 5 (by decide)) rfl rfl (Nat.le_of_ble_eq_true rfl) dS_init_80 (fun H locs hW => ?_)
      obtain ⟨M_87, eM_87⟩ : ∃ z : fm_M, z = va_up M_78 b (some (.inr (3, [.ref (b + 1), .ref (b + 25), .ref (b + 26), .ref (b + 27), .ref (b + 108), .ref (b + 109), .int 0, .int 0, .int 0, .int 0, .int 0]))) := ⟨_, rfl⟩
      have hW : fm_W D fs_cl5 A M_87 s.heap H locs := by rw [eM_87]; exact hW
      have f_88 : M_87 b = some (.inr (3, [.ref (b + 1), .ref (b + 25), .ref (b + 26), .ref (b + 27), .ref (b + 108), .ref (b + 109), .int 0, .int 0, .int 0, .int 0, .int 0])) := by rw [eM_87]; exact fm_us
      have f_89 := (show M_87 (b + 25) = M_78 (b + 25) by rw [eM_87]; exact fm_un (by omega)).trans f_80
      have f_90 := (show M_87 (b + 26) = M_78 (b + 26) by rw [eM_87]; exact fm_un (by omega)).trans f_81
      have f_91 := (show M_87 (b + 27) = M_78 (b + 27) by rw [eM_87]; exact fm_un (by omega)).trans f_82
      have f_92 := (show M_87 (b + 108) = M_78 (b + 108) by rw [eM_87]; exact fm_un (by omega)).trans f_83
      have f_93 := (show M_87 (b + 109) = M_78 (b + 109) by rw [eM_87]; exact fm_un (by omega)).trans f_84
      have hFr : fs_Cf b M M_87 := by rw [eM_87]; exact fs_Cf_u hFr (by omega) _
      have hTB : fs_TB ct M_87 b (fun _ => fs_q0) (fun _ => fs_q0) fs_q0 0 := fs_TB_frame hTB (fun a h1 h2 => by rw [eM_87]; exact fm_un (by omega))
      have g_94 : ∀ j, j < 40 → M_87 (b + 28 + 2 * j) = some (fs_FE (b + 29 + 2 * j) 0 0 0) := fun j hj => (show M_87 (b + 28 + 2 * j) = M_78 (b + 28 + 2 * j) by rw [eM_87]; exact fm_un (by omega)).trans (g_85 j hj)
      have g_95 : ∀ j, j < 40 → M_87 (b + 29 + 2 * j) = some (fs_PE fs_q0) := fun j hj => (show M_87 (b + 29 + 2 * j) = M_78 (b + 29 + 2 * j) by rw [eM_87]; exact fm_un (by omega)).trans (g_86 j hj)
      refine lv_aload_n hx hb dS_init_83 rfl (lv_at hl 1 rfl) ?_
      refine lv_iconst (v := 1) hx hb dS_init_84 (by decide) ?_
      have hC : fs_CW ct M_87 b (fs_c0 0) (fun _ => fs_q0) (fun _ => fs_q0) fs_q0 (fun _ => 0) (fun _ => 0) (fun _ => fs_q0) (fun _ => 0) (fun _ => 0) (fun _ => 0) (fun _ => 0) (fun _ => 0) := ⟨f_88, hTB, f_89, f_90, f_91, g_94, g_95, f_92, f_93⟩
      refine fm_callv (va_runV (As := [.int 1]) (rest := []) ⟨hx, hb, hml, hown, hts⟩ (c_S_startOver l D ct A M_87 b (fs_c0 0) _ _ _ _ _ _ _ _ _ _ _ 1 hC (by decide)) ⟨callB_of 1 hts (fs_gin co_S_startOver) rfl rfl rfl (hT _ ini_S) (hT _ ml_S_37) (by decide +kernel) ⟨Nat.le_of_ble_eq_true rfl, Nat.le_of_ble_eq_true rfl⟩, hT _ im_S_startOver, hT _ se_S_startOver⟩ (fn_preV fs_isnw hK hN hW f_88 rfl) rfl rfl hl.1 rfl (lv_room (Nat.le_of_ble_eq_true rfl)) dS_init_85 ⟨Nat.le_of_ble_eq_true rfl, Nat.le_of_ble_eq_true rfl⟩) hW (fun M_97 H locs hp_98 hW => ?_)
      obtain ⟨kp2, pn2, hC2, hF2, e1, e2⟩ := hp_98
      exact fm_vret hx hb hr hlocks hW ⟨kp2, pn2, hC2, fun a ha => (hF2 a ha).trans (hFr a ha), e1, e2⟩ dS_init_88
    · exact absurd (nI_le (Nat.le_refl 40) (by decide)) c_61
set_option maxHeartbeats 4000000 in
set_option maxRecDepth 100000 in
theorem c_M_init (l : Launch) (D : va_G) (ct : Nat → ClassId) (A : Nat → Prop) (M : fm_M) (b : Nat) (hM : M b = some (.inr (4, [.int 0, .int 0, .int 0, .int 0, .int 0, .int 0, .null, .null, .null, .null, .null, .null, .null, .null, .null, .null, .null, .null, .null, .null, .int 0, .int 0, .int 0, .long 0, .int 0, .int 0, .long 0, .int 0, .null, .null]))) : Met l yM_init wM_init ({ frames := 1, cells := 16, slots := 1286, locals := 21 }) (va_Pc [.ref b] (fm_StZ (b + 1) D fs_cl5 (fs_tys ct) fs_nw A M)) (va_Qv (fun (M1 : fm_M) => fs_MW ct M1 b (fs_c0 1) (fun _ => 0) (fun _ => 0) (fun _ _ => 0) (fun _ _ => 0) ∧ fs_Mf b M M1) (fm_B D fs_cl5 A) A) 16 1286 A := by
  refine Met.ofW (cc := cM_init) (maxL := 1) (ret := none) (by decide) rfl ?_
  intro p e s m args below meth c s₁ B hml hv
  obtain ⟨rfl, ⟨hP0, hA0, hA1, hK, hN⟩, hZ⟩ := hv
  have hx := B.exec
  have hb := B.bytes
  have hr := B.returns
  have hts := atoms_spec (ws := wM_init) B.pre
  have hT : ∀ w ∈ fs_tb, w.before _ s = true := fun w h => hts w (List.mem_cons_of_mem _ h)
  have hown : s.vm.findClass "FrameSamplesModel" = some m.cls := findClass_of_methodNamed B.named
  have hlocks := B.notSynchronized
  have hin : meth.name = "<init>" := (name_of_methodNamed B.named B.method).1
  have hW : fm_W D fs_cl5 A M s.heap s.heap [] := ⟨hP0, hA0, va_S.rf, hA1⟩
  have hl := lv_entry ([.ref b]) (n := 1) (Nat.le_of_ble_eq_true rfl)
  rw [lg_entry_eq]
  generalize (lg_sl ([.ref b]) ++ List.replicate (1 - (lg_sl ([.ref b])).length) Slot.unset).toArray = ls at hl ⊢
  have hl : lv_has ls 1 [(0, .ref b)] := hl
  refine fm_gen hW (fun H locs hW => ?_)
  have hFr := (fs_Mf_r : fs_Mf b M M)
  refine lv_aload_n hx hb dM_init_0 rfl (lv_at hl 0 rfl) ?_
  refine W.objInit hx hb hown (hT _ ml_M_1) (hT _ im_O) (hT _ co_O) rfl (by rw [hml]; exact hl.1) rfl dM_init_1 (Nat.le_of_ble_eq_true rfl) (Nat.le_of_ble_eq_true rfl) ?_
  refine W.eq (g2 := F0 m 4 ls []) rfl ?_
  refine lv_aload_n hx hb dM_init_4 rfl (lv_at hl 0 rfl) ?_
  refine lv_sipush (v := 300) hx hb dM_init_5 (by decide) ?_
  have hlo : b + 1 ≤ H.size := by have h9 := hW.2.2.1.1; omega
  refine fm_newa (atype := .int) (ty := .int) (z := b + 1) (N' := 300) (a0 := (300, .inl (fun _ => 0))) hx hb (hT _ ac_int) rfl hK hW (by omega) hlo 0 rfl (fun cA => rfl) (by decide) (by decide) (by decide) (Nat.le_of_ble_eq_true rfl) (Nat.le_of_ble_eq_true rfl) dM_init_8 (fun H hW => ?_)
  obtain ⟨M_1, eM_1⟩ : ∃ z : fm_M, z = va_up M (b + 1) (some (.inl (ct 0, 300, .inl (fun _ => 0)))) := ⟨_, rfl⟩
  have hW : fm_W D fs_cl5 A M_1 s.heap H locs := by rw [eM_1]; exact hW
  have f_2 := (show M_1 b = M b by rw [eM_1]; exact fm_un (by omega)).trans hM
  have f_3 : M_1 (b + 1) = some (.inl (ct 0, 300, .inl (fun _ => 0))) := by rw [eM_1]; exact fm_us
  have hFr : fs_Mf b M M_1 := by rw [eM_1]; exact fs_Mf_u hFr (by omega) _
  refine fm_putF (ci := 4) (v := .ref (b + 1)) (ty := tyM 6) (C := RM) (T := TM) (N := 30) hx hb hT inM tyM tkM nmM hown hK hW f_2 rfl 6 (by decide) (hT _ fl_M_7) (fun _ h9 => h9) rfl hin rfl (tkM 6 (by decide)) rfl rfl (Nat.le_of_ble_eq_true rfl) dM_init_10 (fun H locs hW => ?_)
  obtain ⟨M_4, eM_4⟩ : ∃ z : fm_M, z = va_up M_1 b (some (.inr (4, [.int 0, .int 0, .int 0, .int 0, .int 0, .int 0, .ref (b + 1), .null, .null, .null, .null, .null, .null, .null, .null, .null, .null, .null, .null, .null, .int 0, .int 0, .int 0, .long 0, .int 0, .int 0, .long 0, .int 0, .null, .null]))) := ⟨_, rfl⟩
  have hW : fm_W D fs_cl5 A M_4 s.heap H locs := by rw [eM_4]; exact hW
  have f_5 : M_4 b = some (.inr (4, [.int 0, .int 0, .int 0, .int 0, .int 0, .int 0, .ref (b + 1), .null, .null, .null, .null, .null, .null, .null, .null, .null, .null, .null, .null, .null, .int 0, .int 0, .int 0, .long 0, .int 0, .int 0, .long 0, .int 0, .null, .null])) := by rw [eM_4]; exact fm_us
  have f_6 := (show M_4 (b + 1) = M_1 (b + 1) by rw [eM_4]; exact fm_un (by omega)).trans f_3
  have hFr : fs_Mf b M M_4 := by rw [eM_4]; exact fs_Mf_u hFr (by omega) _
  refine lv_aload_n hx hb dM_init_13 rfl (lv_at hl 0 rfl) ?_
  refine lv_sipush (v := 300) hx hb dM_init_14 (by decide) ?_
  have hlo : b + 2 ≤ H.size := by have h9 := fm_lt hW f_6; omega
  refine fm_newa (atype := .int) (ty := .int) (z := b + 2) (N' := 300) (a0 := (300, .inl (fun _ => 0))) hx hb (hT _ ac_int) rfl hK hW (by omega) hlo 0 rfl (fun cA => rfl) (by decide) (by decide) (by decide) (Nat.le_of_ble_eq_true rfl) (Nat.le_of_ble_eq_true rfl) dM_init_17 (fun H hW => ?_)
  obtain ⟨M_7, eM_7⟩ : ∃ z : fm_M, z = va_up M_4 (b + 2) (some (.inl (ct 0, 300, .inl (fun _ => 0)))) := ⟨_, rfl⟩
  have hW : fm_W D fs_cl5 A M_7 s.heap H locs := by rw [eM_7]; exact hW
  have f_8 := (show M_7 b = M_4 b by rw [eM_7]; exact fm_un (by omega)).trans f_5
  have f_9 := (show M_7 (b + 1) = M_4 (b + 1) by rw [eM_7]; exact fm_un (by omega)).trans f_6
  have f_10 : M_7 (b + 2) = some (.inl (ct 0, 300, .inl (fun _ => 0))) := by rw [eM_7]; exact fm_us
  have hFr : fs_Mf b M M_7 := by rw [eM_7]; exact fs_Mf_u hFr (by omega) _
  refine fm_putF (ci := 4) (v := .ref (b + 2)) (ty := tyM 7) (C := RM) (T := TM) (N := 30) hx hb hT inM tyM tkM nmM hown hK hW f_8 rfl 7 (by decide) (hT _ fl_M_13) (fun _ h9 => h9) rfl hin rfl (tkM 7 (by decide)) rfl rfl (Nat.le_of_ble_eq_true rfl) dM_init_19 (fun H locs hW => ?_)
  obtain ⟨M_11, eM_11⟩ : ∃ z : fm_M, z = va_up M_7 b (some (.inr (4, [.int 0, .int 0, .int 0, .int 0, .int 0, .int 0, .ref (b + 1), .ref (b + 2), .null, .null, .null, .null, .null, .null, .null, .null, .null, .null, .null, .null, .int 0, .int 0, .int 0, .long 0, .int 0, .int 0, .long 0, .int 0, .null, .null]))) := ⟨_, rfl⟩
  have hW : fm_W D fs_cl5 A M_11 s.heap H locs := by rw [eM_11]; exact hW
  have f_12 : M_11 b = some (.inr (4, [.int 0, .int 0, .int 0, .int 0, .int 0, .int 0, .ref (b + 1), .ref (b + 2), .null, .null, .null, .null, .null, .null, .null, .null, .null, .null, .null, .null, .int 0, .int 0, .int 0, .long 0, .int 0, .int 0, .long 0, .int 0, .null, .null])) := by rw [eM_11]; exact fm_us
  have f_13 := (show M_11 (b + 1) = M_7 (b + 1) by rw [eM_11]; exact fm_un (by omega)).trans f_9
  have f_14 := (show M_11 (b + 2) = M_7 (b + 2) by rw [eM_11]; exact fm_un (by omega)).trans f_10
  have hFr : fs_Mf b M M_11 := by rw [eM_11]; exact fs_Mf_u hFr (by omega) _
  refine lv_aload_n hx hb dM_init_22 rfl (lv_at hl 0 rfl) ?_
  refine lv_sipush (v := 300) hx hb dM_init_23 (by decide) ?_
  have hlo : b + 3 ≤ H.size := by have h9 := fm_lt hW f_14; omega
  refine fm_newa (atype := .int) (ty := .int) (z := b + 3) (N' := 300) (a0 := (300, .inl (fun _ => 0))) hx hb (hT _ ac_int) rfl hK hW (by omega) hlo 0 rfl (fun cA => rfl) (by decide) (by decide) (by decide) (Nat.le_of_ble_eq_true rfl) (Nat.le_of_ble_eq_true rfl) dM_init_26 (fun H hW => ?_)
  obtain ⟨M_15, eM_15⟩ : ∃ z : fm_M, z = va_up M_11 (b + 3) (some (.inl (ct 0, 300, .inl (fun _ => 0)))) := ⟨_, rfl⟩
  have hW : fm_W D fs_cl5 A M_15 s.heap H locs := by rw [eM_15]; exact hW
  have f_16 := (show M_15 b = M_11 b by rw [eM_15]; exact fm_un (by omega)).trans f_12
  have f_17 := (show M_15 (b + 1) = M_11 (b + 1) by rw [eM_15]; exact fm_un (by omega)).trans f_13
  have f_18 := (show M_15 (b + 2) = M_11 (b + 2) by rw [eM_15]; exact fm_un (by omega)).trans f_14
  have f_19 : M_15 (b + 3) = some (.inl (ct 0, 300, .inl (fun _ => 0))) := by rw [eM_15]; exact fm_us
  have hFr : fs_Mf b M M_15 := by rw [eM_15]; exact fs_Mf_u hFr (by omega) _
  refine fm_putF (ci := 4) (v := .ref (b + 3)) (ty := tyM 8) (C := RM) (T := TM) (N := 30) hx hb hT inM tyM tkM nmM hown hK hW f_16 rfl 8 (by decide) (hT _ fl_M_16) (fun _ h9 => h9) rfl hin rfl (tkM 8 (by decide)) rfl rfl (Nat.le_of_ble_eq_true rfl) dM_init_28 (fun H locs hW => ?_)
  obtain ⟨M_20, eM_20⟩ : ∃ z : fm_M, z = va_up M_15 b (some (.inr (4, [.int 0, .int 0, .int 0, .int 0, .int 0, .int 0, .ref (b + 1), .ref (b + 2), .ref (b + 3), .null, .null, .null, .null, .null, .null, .null, .null, .null, .null, .null, .int 0, .int 0, .int 0, .long 0, .int 0, .int 0, .long 0, .int 0, .null, .null]))) := ⟨_, rfl⟩
  have hW : fm_W D fs_cl5 A M_20 s.heap H locs := by rw [eM_20]; exact hW
  have f_21 : M_20 b = some (.inr (4, [.int 0, .int 0, .int 0, .int 0, .int 0, .int 0, .ref (b + 1), .ref (b + 2), .ref (b + 3), .null, .null, .null, .null, .null, .null, .null, .null, .null, .null, .null, .int 0, .int 0, .int 0, .long 0, .int 0, .int 0, .long 0, .int 0, .null, .null])) := by rw [eM_20]; exact fm_us
  have f_22 := (show M_20 (b + 1) = M_15 (b + 1) by rw [eM_20]; exact fm_un (by omega)).trans f_17
  have f_23 := (show M_20 (b + 2) = M_15 (b + 2) by rw [eM_20]; exact fm_un (by omega)).trans f_18
  have f_24 := (show M_20 (b + 3) = M_15 (b + 3) by rw [eM_20]; exact fm_un (by omega)).trans f_19
  have hFr : fs_Mf b M M_20 := by rw [eM_20]; exact fs_Mf_u hFr (by omega) _
  refine lv_aload_n hx hb dM_init_31 rfl (lv_at hl 0 rfl) ?_
  refine lv_bipush (v := 40) hx hb dM_init_32 (by decide) ?_
  have hlo : b + 4 ≤ H.size := by have h9 := fm_lt hW f_24; omega
  refine fm_newa (atype := .int) (ty := .int) (z := b + 4) (N' := 40) (a0 := (40, .inl (fun _ => 0))) hx hb (hT _ ac_int) rfl hK hW (by omega) hlo 0 rfl (fun cA => rfl) (by decide) (by decide) (by decide) (Nat.le_of_ble_eq_true rfl) (Nat.le_of_ble_eq_true rfl) dM_init_34 (fun H hW => ?_)
  obtain ⟨M_25, eM_25⟩ : ∃ z : fm_M, z = va_up M_20 (b + 4) (some (.inl (ct 0, 40, .inl (fun _ => 0)))) := ⟨_, rfl⟩
  have hW : fm_W D fs_cl5 A M_25 s.heap H locs := by rw [eM_25]; exact hW
  have f_26 := (show M_25 b = M_20 b by rw [eM_25]; exact fm_un (by omega)).trans f_21
  have f_27 := (show M_25 (b + 1) = M_20 (b + 1) by rw [eM_25]; exact fm_un (by omega)).trans f_22
  have f_28 := (show M_25 (b + 2) = M_20 (b + 2) by rw [eM_25]; exact fm_un (by omega)).trans f_23
  have f_29 := (show M_25 (b + 3) = M_20 (b + 3) by rw [eM_25]; exact fm_un (by omega)).trans f_24
  have f_30 : M_25 (b + 4) = some (.inl (ct 0, 40, .inl (fun _ => 0))) := by rw [eM_25]; exact fm_us
  have hFr : fs_Mf b M M_25 := by rw [eM_25]; exact fs_Mf_u hFr (by omega) _
  refine fm_putF (ci := 4) (v := .ref (b + 4)) (ty := tyM 9) (C := RM) (T := TM) (N := 30) hx hb hT inM tyM tkM nmM hown hK hW f_26 rfl 9 (by decide) (hT _ fl_M_19) (fun _ h9 => h9) rfl hin rfl (tkM 9 (by decide)) rfl rfl (Nat.le_of_ble_eq_true rfl) dM_init_36 (fun H locs hW => ?_)
  obtain ⟨M_31, eM_31⟩ : ∃ z : fm_M, z = va_up M_25 b (some (.inr (4, [.int 0, .int 0, .int 0, .int 0, .int 0, .int 0, .ref (b + 1), .ref (b + 2), .ref (b + 3), .ref (b + 4), .null, .null, .null, .null, .null, .null, .null, .null, .null, .null, .int 0, .int 0, .int 0, .long 0, .int 0, .int 0, .long 0, .int 0, .null, .null]))) := ⟨_, rfl⟩
  have hW : fm_W D fs_cl5 A M_31 s.heap H locs := by rw [eM_31]; exact hW
  have f_32 : M_31 b = some (.inr (4, [.int 0, .int 0, .int 0, .int 0, .int 0, .int 0, .ref (b + 1), .ref (b + 2), .ref (b + 3), .ref (b + 4), .null, .null, .null, .null, .null, .null, .null, .null, .null, .null, .int 0, .int 0, .int 0, .long 0, .int 0, .int 0, .long 0, .int 0, .null, .null])) := by rw [eM_31]; exact fm_us
  have f_33 := (show M_31 (b + 1) = M_25 (b + 1) by rw [eM_31]; exact fm_un (by omega)).trans f_27
  have f_34 := (show M_31 (b + 2) = M_25 (b + 2) by rw [eM_31]; exact fm_un (by omega)).trans f_28
  have f_35 := (show M_31 (b + 3) = M_25 (b + 3) by rw [eM_31]; exact fm_un (by omega)).trans f_29
  have f_36 := (show M_31 (b + 4) = M_25 (b + 4) by rw [eM_31]; exact fm_un (by omega)).trans f_30
  have hFr : fs_Mf b M M_31 := by rw [eM_31]; exact fs_Mf_u hFr (by omega) _
  refine lv_aload_n hx hb dM_init_39 rfl (lv_at hl 0 rfl) ?_
  refine lv_bipush (v := 40) hx hb dM_init_40 (by decide) ?_
  have hlo : b + 5 ≤ H.size := by have h9 := fm_lt hW f_36; omega
  refine fm_newa (atype := .int) (ty := .int) (z := b + 5) (N' := 40) (a0 := (40, .inl (fun _ => 0))) hx hb (hT _ ac_int) rfl hK hW (by omega) hlo 0 rfl (fun cA => rfl) (by decide) (by decide) (by decide) (Nat.le_of_ble_eq_true rfl) (Nat.le_of_ble_eq_true rfl) dM_init_42 (fun H hW => ?_)
  obtain ⟨M_37, eM_37⟩ : ∃ z : fm_M, z = va_up M_31 (b + 5) (some (.inl (ct 0, 40, .inl (fun _ => 0)))) := ⟨_, rfl⟩
  have hW : fm_W D fs_cl5 A M_37 s.heap H locs := by rw [eM_37]; exact hW
  have f_38 := (show M_37 b = M_31 b by rw [eM_37]; exact fm_un (by omega)).trans f_32
  have f_39 := (show M_37 (b + 1) = M_31 (b + 1) by rw [eM_37]; exact fm_un (by omega)).trans f_33
  have f_40 := (show M_37 (b + 2) = M_31 (b + 2) by rw [eM_37]; exact fm_un (by omega)).trans f_34
  have f_41 := (show M_37 (b + 3) = M_31 (b + 3) by rw [eM_37]; exact fm_un (by omega)).trans f_35
  have f_42 := (show M_37 (b + 4) = M_31 (b + 4) by rw [eM_37]; exact fm_un (by omega)).trans f_36
  have f_43 : M_37 (b + 5) = some (.inl (ct 0, 40, .inl (fun _ => 0))) := by rw [eM_37]; exact fm_us
  have hFr : fs_Mf b M M_37 := by rw [eM_37]; exact fs_Mf_u hFr (by omega) _
  refine fm_putF (ci := 4) (v := .ref (b + 5)) (ty := tyM 10) (C := RM) (T := TM) (N := 30) hx hb hT inM tyM tkM nmM hown hK hW f_38 rfl 10 (by decide) (hT _ fl_M_22) (fun _ h9 => h9) rfl hin rfl (tkM 10 (by decide)) rfl rfl (Nat.le_of_ble_eq_true rfl) dM_init_44 (fun H locs hW => ?_)
  obtain ⟨M_44, eM_44⟩ : ∃ z : fm_M, z = va_up M_37 b (some (.inr (4, [.int 0, .int 0, .int 0, .int 0, .int 0, .int 0, .ref (b + 1), .ref (b + 2), .ref (b + 3), .ref (b + 4), .ref (b + 5), .null, .null, .null, .null, .null, .null, .null, .null, .null, .int 0, .int 0, .int 0, .long 0, .int 0, .int 0, .long 0, .int 0, .null, .null]))) := ⟨_, rfl⟩
  have hW : fm_W D fs_cl5 A M_44 s.heap H locs := by rw [eM_44]; exact hW
  have f_45 : M_44 b = some (.inr (4, [.int 0, .int 0, .int 0, .int 0, .int 0, .int 0, .ref (b + 1), .ref (b + 2), .ref (b + 3), .ref (b + 4), .ref (b + 5), .null, .null, .null, .null, .null, .null, .null, .null, .null, .int 0, .int 0, .int 0, .long 0, .int 0, .int 0, .long 0, .int 0, .null, .null])) := by rw [eM_44]; exact fm_us
  have f_46 := (show M_44 (b + 1) = M_37 (b + 1) by rw [eM_44]; exact fm_un (by omega)).trans f_39
  have f_47 := (show M_44 (b + 2) = M_37 (b + 2) by rw [eM_44]; exact fm_un (by omega)).trans f_40
  have f_48 := (show M_44 (b + 3) = M_37 (b + 3) by rw [eM_44]; exact fm_un (by omega)).trans f_41
  have f_49 := (show M_44 (b + 4) = M_37 (b + 4) by rw [eM_44]; exact fm_un (by omega)).trans f_42
  have f_50 := (show M_44 (b + 5) = M_37 (b + 5) by rw [eM_44]; exact fm_un (by omega)).trans f_43
  have hFr : fs_Mf b M M_44 := by rw [eM_44]; exact fs_Mf_u hFr (by omega) _
  refine lv_aload_n hx hb dM_init_47 rfl (lv_at hl 0 rfl) ?_
  refine lv_bipush (v := 40) hx hb dM_init_48 (by decide) ?_
  have hlo : b + 6 ≤ H.size := by have h9 := fm_lt hW f_50; omega
  refine fm_newa (atype := .int) (ty := .int) (z := b + 6) (N' := 40) (a0 := (40, .inl (fun _ => 0))) hx hb (hT _ ac_int) rfl hK hW (by omega) hlo 0 rfl (fun cA => rfl) (by decide) (by decide) (by decide) (Nat.le_of_ble_eq_true rfl) (Nat.le_of_ble_eq_true rfl) dM_init_50 (fun H hW => ?_)
  obtain ⟨M_51, eM_51⟩ : ∃ z : fm_M, z = va_up M_44 (b + 6) (some (.inl (ct 0, 40, .inl (fun _ => 0)))) := ⟨_, rfl⟩
  have hW : fm_W D fs_cl5 A M_51 s.heap H locs := by rw [eM_51]; exact hW
  have f_52 := (show M_51 b = M_44 b by rw [eM_51]; exact fm_un (by omega)).trans f_45
  have f_53 := (show M_51 (b + 1) = M_44 (b + 1) by rw [eM_51]; exact fm_un (by omega)).trans f_46
  have f_54 := (show M_51 (b + 2) = M_44 (b + 2) by rw [eM_51]; exact fm_un (by omega)).trans f_47
  have f_55 := (show M_51 (b + 3) = M_44 (b + 3) by rw [eM_51]; exact fm_un (by omega)).trans f_48
  have f_56 := (show M_51 (b + 4) = M_44 (b + 4) by rw [eM_51]; exact fm_un (by omega)).trans f_49
  have f_57 := (show M_51 (b + 5) = M_44 (b + 5) by rw [eM_51]; exact fm_un (by omega)).trans f_50
  have f_58 : M_51 (b + 6) = some (.inl (ct 0, 40, .inl (fun _ => 0))) := by rw [eM_51]; exact fm_us
  have hFr : fs_Mf b M M_51 := by rw [eM_51]; exact fs_Mf_u hFr (by omega) _
  refine fm_putF (ci := 4) (v := .ref (b + 6)) (ty := tyM 11) (C := RM) (T := TM) (N := 30) hx hb hT inM tyM tkM nmM hown hK hW f_52 rfl 11 (by decide) (hT _ fl_M_25) (fun _ h9 => h9) rfl hin rfl (tkM 11 (by decide)) rfl rfl (Nat.le_of_ble_eq_true rfl) dM_init_52 (fun H locs hW => ?_)
  obtain ⟨M_59, eM_59⟩ : ∃ z : fm_M, z = va_up M_51 b (some (.inr (4, [.int 0, .int 0, .int 0, .int 0, .int 0, .int 0, .ref (b + 1), .ref (b + 2), .ref (b + 3), .ref (b + 4), .ref (b + 5), .ref (b + 6), .null, .null, .null, .null, .null, .null, .null, .null, .int 0, .int 0, .int 0, .long 0, .int 0, .int 0, .long 0, .int 0, .null, .null]))) := ⟨_, rfl⟩
  have hW : fm_W D fs_cl5 A M_59 s.heap H locs := by rw [eM_59]; exact hW
  have f_60 : M_59 b = some (.inr (4, [.int 0, .int 0, .int 0, .int 0, .int 0, .int 0, .ref (b + 1), .ref (b + 2), .ref (b + 3), .ref (b + 4), .ref (b + 5), .ref (b + 6), .null, .null, .null, .null, .null, .null, .null, .null, .int 0, .int 0, .int 0, .long 0, .int 0, .int 0, .long 0, .int 0, .null, .null])) := by rw [eM_59]; exact fm_us
  have f_61 := (show M_59 (b + 1) = M_51 (b + 1) by rw [eM_59]; exact fm_un (by omega)).trans f_53
  have f_62 := (show M_59 (b + 2) = M_51 (b + 2) by rw [eM_59]; exact fm_un (by omega)).trans f_54
  have f_63 := (show M_59 (b + 3) = M_51 (b + 3) by rw [eM_59]; exact fm_un (by omega)).trans f_55
  have f_64 := (show M_59 (b + 4) = M_51 (b + 4) by rw [eM_59]; exact fm_un (by omega)).trans f_56
  have f_65 := (show M_59 (b + 5) = M_51 (b + 5) by rw [eM_59]; exact fm_un (by omega)).trans f_57
  have f_66 := (show M_59 (b + 6) = M_51 (b + 6) by rw [eM_59]; exact fm_un (by omega)).trans f_58
  have hFr : fs_Mf b M M_59 := by rw [eM_59]; exact fs_Mf_u hFr (by omega) _
  refine lv_aload_n hx hb dM_init_55 rfl (lv_at hl 0 rfl) ?_
  refine lv_bipush (v := 16) hx hb dM_init_56 (by decide) ?_
  have hlo : b + 7 ≤ H.size := by have h9 := fm_lt hW f_66; omega
  refine fm_newa (atype := .long) (ty := .long) (z := b + 7) (N' := 16) (a0 := (16, .inr (.inl (fun _ => 0)))) hx hb (hT _ ac_long) rfl hK hW (by omega) hlo 1 rfl (fun cA => rfl) (by decide) (by decide) (by decide) (Nat.le_of_ble_eq_true rfl) (Nat.le_of_ble_eq_true rfl) dM_init_58 (fun H hW => ?_)
  obtain ⟨M_67, eM_67⟩ : ∃ z : fm_M, z = va_up M_59 (b + 7) (some (.inl (ct 1, 16, .inr (.inl (fun _ => 0))))) := ⟨_, rfl⟩
  have hW : fm_W D fs_cl5 A M_67 s.heap H locs := by rw [eM_67]; exact hW
  have f_68 := (show M_67 b = M_59 b by rw [eM_67]; exact fm_un (by omega)).trans f_60
  have f_69 := (show M_67 (b + 1) = M_59 (b + 1) by rw [eM_67]; exact fm_un (by omega)).trans f_61
  have f_70 := (show M_67 (b + 2) = M_59 (b + 2) by rw [eM_67]; exact fm_un (by omega)).trans f_62
  have f_71 := (show M_67 (b + 3) = M_59 (b + 3) by rw [eM_67]; exact fm_un (by omega)).trans f_63
  have f_72 := (show M_67 (b + 4) = M_59 (b + 4) by rw [eM_67]; exact fm_un (by omega)).trans f_64
  have f_73 := (show M_67 (b + 5) = M_59 (b + 5) by rw [eM_67]; exact fm_un (by omega)).trans f_65
  have f_74 := (show M_67 (b + 6) = M_59 (b + 6) by rw [eM_67]; exact fm_un (by omega)).trans f_66
  have f_75 : M_67 (b + 7) = some (.inl (ct 1, 16, .inr (.inl (fun _ => 0)))) := by rw [eM_67]; exact fm_us
  have hFr : fs_Mf b M M_67 := by rw [eM_67]; exact fs_Mf_u hFr (by omega) _
  refine fm_putF (ci := 4) (v := .ref (b + 7)) (ty := tyM 12) (C := RM) (T := TM) (N := 30) hx hb hT inM tyM tkM nmM hown hK hW f_68 rfl 12 (by decide) (hT _ fl_M_28) (fun _ h9 => h9) rfl hin rfl (tkM 12 (by decide)) rfl rfl (Nat.le_of_ble_eq_true rfl) dM_init_60 (fun H locs hW => ?_)
  obtain ⟨M_76, eM_76⟩ : ∃ z : fm_M, z = va_up M_67 b (some (.inr (4, [.int 0, .int 0, .int 0, .int 0, .int 0, .int 0, .ref (b + 1), .ref (b + 2), .ref (b + 3), .ref (b + 4), .ref (b + 5), .ref (b + 6), .ref (b + 7), .null, .null, .null, .null, .null, .null, .null, .int 0, .int 0, .int 0, .long 0, .int 0, .int 0, .long 0, .int 0, .null, .null]))) := ⟨_, rfl⟩
  have hW : fm_W D fs_cl5 A M_76 s.heap H locs := by rw [eM_76]; exact hW
  have f_77 : M_76 b = some (.inr (4, [.int 0, .int 0, .int 0, .int 0, .int 0, .int 0, .ref (b + 1), .ref (b + 2), .ref (b + 3), .ref (b + 4), .ref (b + 5), .ref (b + 6), .ref (b + 7), .null, .null, .null, .null, .null, .null, .null, .int 0, .int 0, .int 0, .long 0, .int 0, .int 0, .long 0, .int 0, .null, .null])) := by rw [eM_76]; exact fm_us
  have f_78 := (show M_76 (b + 1) = M_67 (b + 1) by rw [eM_76]; exact fm_un (by omega)).trans f_69
  have f_79 := (show M_76 (b + 2) = M_67 (b + 2) by rw [eM_76]; exact fm_un (by omega)).trans f_70
  have f_80 := (show M_76 (b + 3) = M_67 (b + 3) by rw [eM_76]; exact fm_un (by omega)).trans f_71
  have f_81 := (show M_76 (b + 4) = M_67 (b + 4) by rw [eM_76]; exact fm_un (by omega)).trans f_72
  have f_82 := (show M_76 (b + 5) = M_67 (b + 5) by rw [eM_76]; exact fm_un (by omega)).trans f_73
  have f_83 := (show M_76 (b + 6) = M_67 (b + 6) by rw [eM_76]; exact fm_un (by omega)).trans f_74
  have f_84 := (show M_76 (b + 7) = M_67 (b + 7) by rw [eM_76]; exact fm_un (by omega)).trans f_75
  have hFr : fs_Mf b M M_76 := by rw [eM_76]; exact fs_Mf_u hFr (by omega) _
  refine lv_aload_n hx hb dM_init_63 rfl (lv_at hl 0 rfl) ?_
  refine lv_bipush (v := 10) hx hb dM_init_64 (by decide) ?_
  have hlo : b + 8 ≤ H.size := by have h9 := fm_lt hW f_84; omega
  refine fm_newa (atype := .int) (ty := .int) (z := b + 8) (N' := 10) (a0 := (10, .inl (fun _ => 0))) hx hb (hT _ ac_int) rfl hK hW (by omega) hlo 0 rfl (fun cA => rfl) (by decide) (by decide) (by decide) (Nat.le_of_ble_eq_true rfl) (Nat.le_of_ble_eq_true rfl) dM_init_66 (fun H hW => ?_)
  obtain ⟨M_85, eM_85⟩ : ∃ z : fm_M, z = va_up M_76 (b + 8) (some (.inl (ct 0, 10, .inl (fun _ => 0)))) := ⟨_, rfl⟩
  have hW : fm_W D fs_cl5 A M_85 s.heap H locs := by rw [eM_85]; exact hW
  have f_86 := (show M_85 b = M_76 b by rw [eM_85]; exact fm_un (by omega)).trans f_77
  have f_87 := (show M_85 (b + 1) = M_76 (b + 1) by rw [eM_85]; exact fm_un (by omega)).trans f_78
  have f_88 := (show M_85 (b + 2) = M_76 (b + 2) by rw [eM_85]; exact fm_un (by omega)).trans f_79
  have f_89 := (show M_85 (b + 3) = M_76 (b + 3) by rw [eM_85]; exact fm_un (by omega)).trans f_80
  have f_90 := (show M_85 (b + 4) = M_76 (b + 4) by rw [eM_85]; exact fm_un (by omega)).trans f_81
  have f_91 := (show M_85 (b + 5) = M_76 (b + 5) by rw [eM_85]; exact fm_un (by omega)).trans f_82
  have f_92 := (show M_85 (b + 6) = M_76 (b + 6) by rw [eM_85]; exact fm_un (by omega)).trans f_83
  have f_93 := (show M_85 (b + 7) = M_76 (b + 7) by rw [eM_85]; exact fm_un (by omega)).trans f_84
  have f_94 : M_85 (b + 8) = some (.inl (ct 0, 10, .inl (fun _ => 0))) := by rw [eM_85]; exact fm_us
  have hFr : fs_Mf b M M_85 := by rw [eM_85]; exact fs_Mf_u hFr (by omega) _
  refine fm_putF (ci := 4) (v := .ref (b + 8)) (ty := tyM 13) (C := RM) (T := TM) (N := 30) hx hb hT inM tyM tkM nmM hown hK hW f_86 rfl 13 (by decide) (hT _ fl_M_32) (fun _ h9 => h9) rfl hin rfl (tkM 13 (by decide)) rfl rfl (Nat.le_of_ble_eq_true rfl) dM_init_68 (fun H locs hW => ?_)
  obtain ⟨M_95, eM_95⟩ : ∃ z : fm_M, z = va_up M_85 b (some (.inr (4, [.int 0, .int 0, .int 0, .int 0, .int 0, .int 0, .ref (b + 1), .ref (b + 2), .ref (b + 3), .ref (b + 4), .ref (b + 5), .ref (b + 6), .ref (b + 7), .ref (b + 8), .null, .null, .null, .null, .null, .null, .int 0, .int 0, .int 0, .long 0, .int 0, .int 0, .long 0, .int 0, .null, .null]))) := ⟨_, rfl⟩
  have hW : fm_W D fs_cl5 A M_95 s.heap H locs := by rw [eM_95]; exact hW
  have f_96 : M_95 b = some (.inr (4, [.int 0, .int 0, .int 0, .int 0, .int 0, .int 0, .ref (b + 1), .ref (b + 2), .ref (b + 3), .ref (b + 4), .ref (b + 5), .ref (b + 6), .ref (b + 7), .ref (b + 8), .null, .null, .null, .null, .null, .null, .int 0, .int 0, .int 0, .long 0, .int 0, .int 0, .long 0, .int 0, .null, .null])) := by rw [eM_95]; exact fm_us
  have f_97 := (show M_95 (b + 1) = M_85 (b + 1) by rw [eM_95]; exact fm_un (by omega)).trans f_87
  have f_98 := (show M_95 (b + 2) = M_85 (b + 2) by rw [eM_95]; exact fm_un (by omega)).trans f_88
  have f_99 := (show M_95 (b + 3) = M_85 (b + 3) by rw [eM_95]; exact fm_un (by omega)).trans f_89
  have f_100 := (show M_95 (b + 4) = M_85 (b + 4) by rw [eM_95]; exact fm_un (by omega)).trans f_90
  have f_101 := (show M_95 (b + 5) = M_85 (b + 5) by rw [eM_95]; exact fm_un (by omega)).trans f_91
  have f_102 := (show M_95 (b + 6) = M_85 (b + 6) by rw [eM_95]; exact fm_un (by omega)).trans f_92
  have f_103 := (show M_95 (b + 7) = M_85 (b + 7) by rw [eM_95]; exact fm_un (by omega)).trans f_93
  have f_104 := (show M_95 (b + 8) = M_85 (b + 8) by rw [eM_95]; exact fm_un (by omega)).trans f_94
  have hFr : fs_Mf b M M_95 := by rw [eM_95]; exact fs_Mf_u hFr (by omega) _
  refine lv_aload_n hx hb dM_init_71 rfl (lv_at hl 0 rfl) ?_
  refine lv_bipush (v := 10) hx hb dM_init_72 (by decide) ?_
  have hlo : b + 9 ≤ H.size := by have h9 := fm_lt hW f_104; omega
  refine fm_newa (atype := .int) (ty := .int) (z := b + 9) (N' := 10) (a0 := (10, .inl (fun _ => 0))) hx hb (hT _ ac_int) rfl hK hW (by omega) hlo 0 rfl (fun cA => rfl) (by decide) (by decide) (by decide) (Nat.le_of_ble_eq_true rfl) (Nat.le_of_ble_eq_true rfl) dM_init_74 (fun H hW => ?_)
  obtain ⟨M_105, eM_105⟩ : ∃ z : fm_M, z = va_up M_95 (b + 9) (some (.inl (ct 0, 10, .inl (fun _ => 0)))) := ⟨_, rfl⟩
  have hW : fm_W D fs_cl5 A M_105 s.heap H locs := by rw [eM_105]; exact hW
  have f_106 := (show M_105 b = M_95 b by rw [eM_105]; exact fm_un (by omega)).trans f_96
  have f_107 := (show M_105 (b + 1) = M_95 (b + 1) by rw [eM_105]; exact fm_un (by omega)).trans f_97
  have f_108 := (show M_105 (b + 2) = M_95 (b + 2) by rw [eM_105]; exact fm_un (by omega)).trans f_98
  have f_109 := (show M_105 (b + 3) = M_95 (b + 3) by rw [eM_105]; exact fm_un (by omega)).trans f_99
  have f_110 := (show M_105 (b + 4) = M_95 (b + 4) by rw [eM_105]; exact fm_un (by omega)).trans f_100
  have f_111 := (show M_105 (b + 5) = M_95 (b + 5) by rw [eM_105]; exact fm_un (by omega)).trans f_101
  have f_112 := (show M_105 (b + 6) = M_95 (b + 6) by rw [eM_105]; exact fm_un (by omega)).trans f_102
  have f_113 := (show M_105 (b + 7) = M_95 (b + 7) by rw [eM_105]; exact fm_un (by omega)).trans f_103
  have f_114 := (show M_105 (b + 8) = M_95 (b + 8) by rw [eM_105]; exact fm_un (by omega)).trans f_104
  have f_115 : M_105 (b + 9) = some (.inl (ct 0, 10, .inl (fun _ => 0))) := by rw [eM_105]; exact fm_us
  have hFr : fs_Mf b M M_105 := by rw [eM_105]; exact fs_Mf_u hFr (by omega) _
  refine fm_putF (ci := 4) (v := .ref (b + 9)) (ty := tyM 14) (C := RM) (T := TM) (N := 30) hx hb hT inM tyM tkM nmM hown hK hW f_106 rfl 14 (by decide) (hT _ fl_M_35) (fun _ h9 => h9) rfl hin rfl (tkM 14 (by decide)) rfl rfl (Nat.le_of_ble_eq_true rfl) dM_init_76 (fun H locs hW => ?_)
  obtain ⟨M_116, eM_116⟩ : ∃ z : fm_M, z = va_up M_105 b (some (.inr (4, [.int 0, .int 0, .int 0, .int 0, .int 0, .int 0, .ref (b + 1), .ref (b + 2), .ref (b + 3), .ref (b + 4), .ref (b + 5), .ref (b + 6), .ref (b + 7), .ref (b + 8), .ref (b + 9), .null, .null, .null, .null, .null, .int 0, .int 0, .int 0, .long 0, .int 0, .int 0, .long 0, .int 0, .null, .null]))) := ⟨_, rfl⟩
  have hW : fm_W D fs_cl5 A M_116 s.heap H locs := by rw [eM_116]; exact hW
  have f_117 : M_116 b = some (.inr (4, [.int 0, .int 0, .int 0, .int 0, .int 0, .int 0, .ref (b + 1), .ref (b + 2), .ref (b + 3), .ref (b + 4), .ref (b + 5), .ref (b + 6), .ref (b + 7), .ref (b + 8), .ref (b + 9), .null, .null, .null, .null, .null, .int 0, .int 0, .int 0, .long 0, .int 0, .int 0, .long 0, .int 0, .null, .null])) := by rw [eM_116]; exact fm_us
  have f_118 := (show M_116 (b + 1) = M_105 (b + 1) by rw [eM_116]; exact fm_un (by omega)).trans f_107
  have f_119 := (show M_116 (b + 2) = M_105 (b + 2) by rw [eM_116]; exact fm_un (by omega)).trans f_108
  have f_120 := (show M_116 (b + 3) = M_105 (b + 3) by rw [eM_116]; exact fm_un (by omega)).trans f_109
  have f_121 := (show M_116 (b + 4) = M_105 (b + 4) by rw [eM_116]; exact fm_un (by omega)).trans f_110
  have f_122 := (show M_116 (b + 5) = M_105 (b + 5) by rw [eM_116]; exact fm_un (by omega)).trans f_111
  have f_123 := (show M_116 (b + 6) = M_105 (b + 6) by rw [eM_116]; exact fm_un (by omega)).trans f_112
  have f_124 := (show M_116 (b + 7) = M_105 (b + 7) by rw [eM_116]; exact fm_un (by omega)).trans f_113
  have f_125 := (show M_116 (b + 8) = M_105 (b + 8) by rw [eM_116]; exact fm_un (by omega)).trans f_114
  have f_126 := (show M_116 (b + 9) = M_105 (b + 9) by rw [eM_116]; exact fm_un (by omega)).trans f_115
  have hFr : fs_Mf b M M_116 := by rw [eM_116]; exact fs_Mf_u hFr (by omega) _
  refine lv_aload_n hx hb dM_init_79 rfl (lv_at hl 0 rfl) ?_
  refine lv_bipush (v := 10) hx hb dM_init_80 (by decide) ?_
  have hlo : b + 10 ≤ H.size := by have h9 := fm_lt hW f_126; omega
  refine fm_newa (atype := .int) (ty := .int) (z := b + 10) (N' := 10) (a0 := (10, .inl (fun _ => 0))) hx hb (hT _ ac_int) rfl hK hW (by omega) hlo 0 rfl (fun cA => rfl) (by decide) (by decide) (by decide) (Nat.le_of_ble_eq_true rfl) (Nat.le_of_ble_eq_true rfl) dM_init_82 (fun H hW => ?_)
  obtain ⟨M_127, eM_127⟩ : ∃ z : fm_M, z = va_up M_116 (b + 10) (some (.inl (ct 0, 10, .inl (fun _ => 0)))) := ⟨_, rfl⟩
  have hW : fm_W D fs_cl5 A M_127 s.heap H locs := by rw [eM_127]; exact hW
  have f_128 := (show M_127 b = M_116 b by rw [eM_127]; exact fm_un (by omega)).trans f_117
  have f_129 := (show M_127 (b + 1) = M_116 (b + 1) by rw [eM_127]; exact fm_un (by omega)).trans f_118
  have f_130 := (show M_127 (b + 2) = M_116 (b + 2) by rw [eM_127]; exact fm_un (by omega)).trans f_119
  have f_131 := (show M_127 (b + 3) = M_116 (b + 3) by rw [eM_127]; exact fm_un (by omega)).trans f_120
  have f_132 := (show M_127 (b + 4) = M_116 (b + 4) by rw [eM_127]; exact fm_un (by omega)).trans f_121
  have f_133 := (show M_127 (b + 5) = M_116 (b + 5) by rw [eM_127]; exact fm_un (by omega)).trans f_122
  have f_134 := (show M_127 (b + 6) = M_116 (b + 6) by rw [eM_127]; exact fm_un (by omega)).trans f_123
  have f_135 := (show M_127 (b + 7) = M_116 (b + 7) by rw [eM_127]; exact fm_un (by omega)).trans f_124
  have f_136 := (show M_127 (b + 8) = M_116 (b + 8) by rw [eM_127]; exact fm_un (by omega)).trans f_125
  have f_137 := (show M_127 (b + 9) = M_116 (b + 9) by rw [eM_127]; exact fm_un (by omega)).trans f_126
  have f_138 : M_127 (b + 10) = some (.inl (ct 0, 10, .inl (fun _ => 0))) := by rw [eM_127]; exact fm_us
  have hFr : fs_Mf b M M_127 := by rw [eM_127]; exact fs_Mf_u hFr (by omega) _
  refine fm_putF (ci := 4) (v := .ref (b + 10)) (ty := tyM 15) (C := RM) (T := TM) (N := 30) hx hb hT inM tyM tkM nmM hown hK hW f_128 rfl 15 (by decide) (hT _ fl_M_38) (fun _ h9 => h9) rfl hin rfl (tkM 15 (by decide)) rfl rfl (Nat.le_of_ble_eq_true rfl) dM_init_84 (fun H locs hW => ?_)
  obtain ⟨M_139, eM_139⟩ : ∃ z : fm_M, z = va_up M_127 b (some (.inr (4, [.int 0, .int 0, .int 0, .int 0, .int 0, .int 0, .ref (b + 1), .ref (b + 2), .ref (b + 3), .ref (b + 4), .ref (b + 5), .ref (b + 6), .ref (b + 7), .ref (b + 8), .ref (b + 9), .ref (b + 10), .null, .null, .null, .null, .int 0, .int 0, .int 0, .long 0, .int 0, .int 0, .long 0, .int 0, .null, .null]))) := ⟨_, rfl⟩
  have hW : fm_W D fs_cl5 A M_139 s.heap H locs := by rw [eM_139]; exact hW
  have f_140 : M_139 b = some (.inr (4, [.int 0, .int 0, .int 0, .int 0, .int 0, .int 0, .ref (b + 1), .ref (b + 2), .ref (b + 3), .ref (b + 4), .ref (b + 5), .ref (b + 6), .ref (b + 7), .ref (b + 8), .ref (b + 9), .ref (b + 10), .null, .null, .null, .null, .int 0, .int 0, .int 0, .long 0, .int 0, .int 0, .long 0, .int 0, .null, .null])) := by rw [eM_139]; exact fm_us
  have f_141 := (show M_139 (b + 1) = M_127 (b + 1) by rw [eM_139]; exact fm_un (by omega)).trans f_129
  have f_142 := (show M_139 (b + 2) = M_127 (b + 2) by rw [eM_139]; exact fm_un (by omega)).trans f_130
  have f_143 := (show M_139 (b + 3) = M_127 (b + 3) by rw [eM_139]; exact fm_un (by omega)).trans f_131
  have f_144 := (show M_139 (b + 4) = M_127 (b + 4) by rw [eM_139]; exact fm_un (by omega)).trans f_132
  have f_145 := (show M_139 (b + 5) = M_127 (b + 5) by rw [eM_139]; exact fm_un (by omega)).trans f_133
  have f_146 := (show M_139 (b + 6) = M_127 (b + 6) by rw [eM_139]; exact fm_un (by omega)).trans f_134
  have f_147 := (show M_139 (b + 7) = M_127 (b + 7) by rw [eM_139]; exact fm_un (by omega)).trans f_135
  have f_148 := (show M_139 (b + 8) = M_127 (b + 8) by rw [eM_139]; exact fm_un (by omega)).trans f_136
  have f_149 := (show M_139 (b + 9) = M_127 (b + 9) by rw [eM_139]; exact fm_un (by omega)).trans f_137
  have f_150 := (show M_139 (b + 10) = M_127 (b + 10) by rw [eM_139]; exact fm_un (by omega)).trans f_138
  have hFr : fs_Mf b M M_139 := by rw [eM_139]; exact fs_Mf_u hFr (by omega) _
  refine lv_aload_n hx hb dM_init_87 rfl (lv_at hl 0 rfl) ?_
  refine lv_bipush (v := 10) hx hb dM_init_88 (by decide) ?_
  have hlo : b + 11 ≤ H.size := by have h9 := fm_lt hW f_150; omega
  refine fm_newa (atype := .long) (ty := .long) (z := b + 11) (N' := 10) (a0 := (10, .inr (.inl (fun _ => 0)))) hx hb (hT _ ac_long) rfl hK hW (by omega) hlo 1 rfl (fun cA => rfl) (by decide) (by decide) (by decide) (Nat.le_of_ble_eq_true rfl) (Nat.le_of_ble_eq_true rfl) dM_init_90 (fun H hW => ?_)
  obtain ⟨M_151, eM_151⟩ : ∃ z : fm_M, z = va_up M_139 (b + 11) (some (.inl (ct 1, 10, .inr (.inl (fun _ => 0))))) := ⟨_, rfl⟩
  have hW : fm_W D fs_cl5 A M_151 s.heap H locs := by rw [eM_151]; exact hW
  have f_152 := (show M_151 b = M_139 b by rw [eM_151]; exact fm_un (by omega)).trans f_140
  have f_153 := (show M_151 (b + 1) = M_139 (b + 1) by rw [eM_151]; exact fm_un (by omega)).trans f_141
  have f_154 := (show M_151 (b + 2) = M_139 (b + 2) by rw [eM_151]; exact fm_un (by omega)).trans f_142
  have f_155 := (show M_151 (b + 3) = M_139 (b + 3) by rw [eM_151]; exact fm_un (by omega)).trans f_143
  have f_156 := (show M_151 (b + 4) = M_139 (b + 4) by rw [eM_151]; exact fm_un (by omega)).trans f_144
  have f_157 := (show M_151 (b + 5) = M_139 (b + 5) by rw [eM_151]; exact fm_un (by omega)).trans f_145
  have f_158 := (show M_151 (b + 6) = M_139 (b + 6) by rw [eM_151]; exact fm_un (by omega)).trans f_146
  have f_159 := (show M_151 (b + 7) = M_139 (b + 7) by rw [eM_151]; exact fm_un (by omega)).trans f_147
  have f_160 := (show M_151 (b + 8) = M_139 (b + 8) by rw [eM_151]; exact fm_un (by omega)).trans f_148
  have f_161 := (show M_151 (b + 9) = M_139 (b + 9) by rw [eM_151]; exact fm_un (by omega)).trans f_149
  have f_162 := (show M_151 (b + 10) = M_139 (b + 10) by rw [eM_151]; exact fm_un (by omega)).trans f_150
  have f_163 : M_151 (b + 11) = some (.inl (ct 1, 10, .inr (.inl (fun _ => 0)))) := by rw [eM_151]; exact fm_us
  have hFr : fs_Mf b M M_151 := by rw [eM_151]; exact fs_Mf_u hFr (by omega) _
  refine fm_putF (ci := 4) (v := .ref (b + 11)) (ty := tyM 16) (C := RM) (T := TM) (N := 30) hx hb hT inM tyM tkM nmM hown hK hW f_152 rfl 16 (by decide) (hT _ fl_M_41) (fun _ h9 => h9) rfl hin rfl (tkM 16 (by decide)) rfl rfl (Nat.le_of_ble_eq_true rfl) dM_init_92 (fun H locs hW => ?_)
  obtain ⟨M_164, eM_164⟩ : ∃ z : fm_M, z = va_up M_151 b (some (.inr (4, [.int 0, .int 0, .int 0, .int 0, .int 0, .int 0, .ref (b + 1), .ref (b + 2), .ref (b + 3), .ref (b + 4), .ref (b + 5), .ref (b + 6), .ref (b + 7), .ref (b + 8), .ref (b + 9), .ref (b + 10), .ref (b + 11), .null, .null, .null, .int 0, .int 0, .int 0, .long 0, .int 0, .int 0, .long 0, .int 0, .null, .null]))) := ⟨_, rfl⟩
  have hW : fm_W D fs_cl5 A M_164 s.heap H locs := by rw [eM_164]; exact hW
  have f_165 : M_164 b = some (.inr (4, [.int 0, .int 0, .int 0, .int 0, .int 0, .int 0, .ref (b + 1), .ref (b + 2), .ref (b + 3), .ref (b + 4), .ref (b + 5), .ref (b + 6), .ref (b + 7), .ref (b + 8), .ref (b + 9), .ref (b + 10), .ref (b + 11), .null, .null, .null, .int 0, .int 0, .int 0, .long 0, .int 0, .int 0, .long 0, .int 0, .null, .null])) := by rw [eM_164]; exact fm_us
  have f_166 := (show M_164 (b + 1) = M_151 (b + 1) by rw [eM_164]; exact fm_un (by omega)).trans f_153
  have f_167 := (show M_164 (b + 2) = M_151 (b + 2) by rw [eM_164]; exact fm_un (by omega)).trans f_154
  have f_168 := (show M_164 (b + 3) = M_151 (b + 3) by rw [eM_164]; exact fm_un (by omega)).trans f_155
  have f_169 := (show M_164 (b + 4) = M_151 (b + 4) by rw [eM_164]; exact fm_un (by omega)).trans f_156
  have f_170 := (show M_164 (b + 5) = M_151 (b + 5) by rw [eM_164]; exact fm_un (by omega)).trans f_157
  have f_171 := (show M_164 (b + 6) = M_151 (b + 6) by rw [eM_164]; exact fm_un (by omega)).trans f_158
  have f_172 := (show M_164 (b + 7) = M_151 (b + 7) by rw [eM_164]; exact fm_un (by omega)).trans f_159
  have f_173 := (show M_164 (b + 8) = M_151 (b + 8) by rw [eM_164]; exact fm_un (by omega)).trans f_160
  have f_174 := (show M_164 (b + 9) = M_151 (b + 9) by rw [eM_164]; exact fm_un (by omega)).trans f_161
  have f_175 := (show M_164 (b + 10) = M_151 (b + 10) by rw [eM_164]; exact fm_un (by omega)).trans f_162
  have f_176 := (show M_164 (b + 11) = M_151 (b + 11) by rw [eM_164]; exact fm_un (by omega)).trans f_163
  have hFr : fs_Mf b M M_164 := by rw [eM_164]; exact fs_Mf_u hFr (by omega) _
  refine lv_aload_n hx hb dM_init_95 rfl (lv_at hl 0 rfl) ?_
  refine lv_bipush (v := 60) hx hb dM_init_96 (by decide) ?_
  have hlo : b + 12 ≤ H.size := by have h9 := fm_lt hW f_176; omega
  refine fm_newa (atype := .int) (ty := .int) (z := b + 12) (N' := 60) (a0 := (60, .inl (fun _ => 0))) hx hb (hT _ ac_int) rfl hK hW (by omega) hlo 0 rfl (fun cA => rfl) (by decide) (by decide) (by decide) (Nat.le_of_ble_eq_true rfl) (Nat.le_of_ble_eq_true rfl) dM_init_98 (fun H hW => ?_)
  obtain ⟨M_177, eM_177⟩ : ∃ z : fm_M, z = va_up M_164 (b + 12) (some (.inl (ct 0, 60, .inl (fun _ => 0)))) := ⟨_, rfl⟩
  have hW : fm_W D fs_cl5 A M_177 s.heap H locs := by rw [eM_177]; exact hW
  have f_178 := (show M_177 b = M_164 b by rw [eM_177]; exact fm_un (by omega)).trans f_165
  have f_179 := (show M_177 (b + 1) = M_164 (b + 1) by rw [eM_177]; exact fm_un (by omega)).trans f_166
  have f_180 := (show M_177 (b + 2) = M_164 (b + 2) by rw [eM_177]; exact fm_un (by omega)).trans f_167
  have f_181 := (show M_177 (b + 3) = M_164 (b + 3) by rw [eM_177]; exact fm_un (by omega)).trans f_168
  have f_182 := (show M_177 (b + 4) = M_164 (b + 4) by rw [eM_177]; exact fm_un (by omega)).trans f_169
  have f_183 := (show M_177 (b + 5) = M_164 (b + 5) by rw [eM_177]; exact fm_un (by omega)).trans f_170
  have f_184 := (show M_177 (b + 6) = M_164 (b + 6) by rw [eM_177]; exact fm_un (by omega)).trans f_171
  have f_185 := (show M_177 (b + 7) = M_164 (b + 7) by rw [eM_177]; exact fm_un (by omega)).trans f_172
  have f_186 := (show M_177 (b + 8) = M_164 (b + 8) by rw [eM_177]; exact fm_un (by omega)).trans f_173
  have f_187 := (show M_177 (b + 9) = M_164 (b + 9) by rw [eM_177]; exact fm_un (by omega)).trans f_174
  have f_188 := (show M_177 (b + 10) = M_164 (b + 10) by rw [eM_177]; exact fm_un (by omega)).trans f_175
  have f_189 := (show M_177 (b + 11) = M_164 (b + 11) by rw [eM_177]; exact fm_un (by omega)).trans f_176
  have f_190 : M_177 (b + 12) = some (.inl (ct 0, 60, .inl (fun _ => 0))) := by rw [eM_177]; exact fm_us
  have hFr : fs_Mf b M M_177 := by rw [eM_177]; exact fs_Mf_u hFr (by omega) _
  refine fm_putF (ci := 4) (v := .ref (b + 12)) (ty := tyM 17) (C := RM) (T := TM) (N := 30) hx hb hT inM tyM tkM nmM hown hK hW f_178 rfl 17 (by decide) (hT _ fl_M_44) (fun _ h9 => h9) rfl hin rfl (tkM 17 (by decide)) rfl rfl (Nat.le_of_ble_eq_true rfl) dM_init_100 (fun H locs hW => ?_)
  obtain ⟨M_191, eM_191⟩ : ∃ z : fm_M, z = va_up M_177 b (some (.inr (4, [.int 0, .int 0, .int 0, .int 0, .int 0, .int 0, .ref (b + 1), .ref (b + 2), .ref (b + 3), .ref (b + 4), .ref (b + 5), .ref (b + 6), .ref (b + 7), .ref (b + 8), .ref (b + 9), .ref (b + 10), .ref (b + 11), .ref (b + 12), .null, .null, .int 0, .int 0, .int 0, .long 0, .int 0, .int 0, .long 0, .int 0, .null, .null]))) := ⟨_, rfl⟩
  have hW : fm_W D fs_cl5 A M_191 s.heap H locs := by rw [eM_191]; exact hW
  have f_192 : M_191 b = some (.inr (4, [.int 0, .int 0, .int 0, .int 0, .int 0, .int 0, .ref (b + 1), .ref (b + 2), .ref (b + 3), .ref (b + 4), .ref (b + 5), .ref (b + 6), .ref (b + 7), .ref (b + 8), .ref (b + 9), .ref (b + 10), .ref (b + 11), .ref (b + 12), .null, .null, .int 0, .int 0, .int 0, .long 0, .int 0, .int 0, .long 0, .int 0, .null, .null])) := by rw [eM_191]; exact fm_us
  have f_193 := (show M_191 (b + 1) = M_177 (b + 1) by rw [eM_191]; exact fm_un (by omega)).trans f_179
  have f_194 := (show M_191 (b + 2) = M_177 (b + 2) by rw [eM_191]; exact fm_un (by omega)).trans f_180
  have f_195 := (show M_191 (b + 3) = M_177 (b + 3) by rw [eM_191]; exact fm_un (by omega)).trans f_181
  have f_196 := (show M_191 (b + 4) = M_177 (b + 4) by rw [eM_191]; exact fm_un (by omega)).trans f_182
  have f_197 := (show M_191 (b + 5) = M_177 (b + 5) by rw [eM_191]; exact fm_un (by omega)).trans f_183
  have f_198 := (show M_191 (b + 6) = M_177 (b + 6) by rw [eM_191]; exact fm_un (by omega)).trans f_184
  have f_199 := (show M_191 (b + 7) = M_177 (b + 7) by rw [eM_191]; exact fm_un (by omega)).trans f_185
  have f_200 := (show M_191 (b + 8) = M_177 (b + 8) by rw [eM_191]; exact fm_un (by omega)).trans f_186
  have f_201 := (show M_191 (b + 9) = M_177 (b + 9) by rw [eM_191]; exact fm_un (by omega)).trans f_187
  have f_202 := (show M_191 (b + 10) = M_177 (b + 10) by rw [eM_191]; exact fm_un (by omega)).trans f_188
  have f_203 := (show M_191 (b + 11) = M_177 (b + 11) by rw [eM_191]; exact fm_un (by omega)).trans f_189
  have f_204 := (show M_191 (b + 12) = M_177 (b + 12) by rw [eM_191]; exact fm_un (by omega)).trans f_190
  have hFr : fs_Mf b M M_191 := by rw [eM_191]; exact fs_Mf_u hFr (by omega) _
  refine lv_aload_n hx hb dM_init_103 rfl (lv_at hl 0 rfl) ?_
  refine lv_bipush (v := 60) hx hb dM_init_104 (by decide) ?_
  have hlo : b + 13 ≤ H.size := by have h9 := fm_lt hW f_204; omega
  refine fm_newa (atype := .long) (ty := .long) (z := b + 13) (N' := 60) (a0 := (60, .inr (.inl (fun _ => 0)))) hx hb (hT _ ac_long) rfl hK hW (by omega) hlo 1 rfl (fun cA => rfl) (by decide) (by decide) (by decide) (Nat.le_of_ble_eq_true rfl) (Nat.le_of_ble_eq_true rfl) dM_init_106 (fun H hW => ?_)
  obtain ⟨M_205, eM_205⟩ : ∃ z : fm_M, z = va_up M_191 (b + 13) (some (.inl (ct 1, 60, .inr (.inl (fun _ => 0))))) := ⟨_, rfl⟩
  have hW : fm_W D fs_cl5 A M_205 s.heap H locs := by rw [eM_205]; exact hW
  have f_206 := (show M_205 b = M_191 b by rw [eM_205]; exact fm_un (by omega)).trans f_192
  have f_207 := (show M_205 (b + 1) = M_191 (b + 1) by rw [eM_205]; exact fm_un (by omega)).trans f_193
  have f_208 := (show M_205 (b + 2) = M_191 (b + 2) by rw [eM_205]; exact fm_un (by omega)).trans f_194
  have f_209 := (show M_205 (b + 3) = M_191 (b + 3) by rw [eM_205]; exact fm_un (by omega)).trans f_195
  have f_210 := (show M_205 (b + 4) = M_191 (b + 4) by rw [eM_205]; exact fm_un (by omega)).trans f_196
  have f_211 := (show M_205 (b + 5) = M_191 (b + 5) by rw [eM_205]; exact fm_un (by omega)).trans f_197
  have f_212 := (show M_205 (b + 6) = M_191 (b + 6) by rw [eM_205]; exact fm_un (by omega)).trans f_198
  have f_213 := (show M_205 (b + 7) = M_191 (b + 7) by rw [eM_205]; exact fm_un (by omega)).trans f_199
  have f_214 := (show M_205 (b + 8) = M_191 (b + 8) by rw [eM_205]; exact fm_un (by omega)).trans f_200
  have f_215 := (show M_205 (b + 9) = M_191 (b + 9) by rw [eM_205]; exact fm_un (by omega)).trans f_201
  have f_216 := (show M_205 (b + 10) = M_191 (b + 10) by rw [eM_205]; exact fm_un (by omega)).trans f_202
  have f_217 := (show M_205 (b + 11) = M_191 (b + 11) by rw [eM_205]; exact fm_un (by omega)).trans f_203
  have f_218 := (show M_205 (b + 12) = M_191 (b + 12) by rw [eM_205]; exact fm_un (by omega)).trans f_204
  have f_219 : M_205 (b + 13) = some (.inl (ct 1, 60, .inr (.inl (fun _ => 0)))) := by rw [eM_205]; exact fm_us
  have hFr : fs_Mf b M M_205 := by rw [eM_205]; exact fs_Mf_u hFr (by omega) _
  refine fm_putF (ci := 4) (v := .ref (b + 13)) (ty := tyM 18) (C := RM) (T := TM) (N := 30) hx hb hT inM tyM tkM nmM hown hK hW f_206 rfl 18 (by decide) (hT _ fl_M_47) (fun _ h9 => h9) rfl hin rfl (tkM 18 (by decide)) rfl rfl (Nat.le_of_ble_eq_true rfl) dM_init_108 (fun H locs hW => ?_)
  obtain ⟨M_220, eM_220⟩ : ∃ z : fm_M, z = va_up M_205 b (some (.inr (4, [.int 0, .int 0, .int 0, .int 0, .int 0, .int 0, .ref (b + 1), .ref (b + 2), .ref (b + 3), .ref (b + 4), .ref (b + 5), .ref (b + 6), .ref (b + 7), .ref (b + 8), .ref (b + 9), .ref (b + 10), .ref (b + 11), .ref (b + 12), .ref (b + 13), .null, .int 0, .int 0, .int 0, .long 0, .int 0, .int 0, .long 0, .int 0, .null, .null]))) := ⟨_, rfl⟩
  have hW : fm_W D fs_cl5 A M_220 s.heap H locs := by rw [eM_220]; exact hW
  have f_221 : M_220 b = some (.inr (4, [.int 0, .int 0, .int 0, .int 0, .int 0, .int 0, .ref (b + 1), .ref (b + 2), .ref (b + 3), .ref (b + 4), .ref (b + 5), .ref (b + 6), .ref (b + 7), .ref (b + 8), .ref (b + 9), .ref (b + 10), .ref (b + 11), .ref (b + 12), .ref (b + 13), .null, .int 0, .int 0, .int 0, .long 0, .int 0, .int 0, .long 0, .int 0, .null, .null])) := by rw [eM_220]; exact fm_us
  have f_222 := (show M_220 (b + 1) = M_205 (b + 1) by rw [eM_220]; exact fm_un (by omega)).trans f_207
  have f_223 := (show M_220 (b + 2) = M_205 (b + 2) by rw [eM_220]; exact fm_un (by omega)).trans f_208
  have f_224 := (show M_220 (b + 3) = M_205 (b + 3) by rw [eM_220]; exact fm_un (by omega)).trans f_209
  have f_225 := (show M_220 (b + 4) = M_205 (b + 4) by rw [eM_220]; exact fm_un (by omega)).trans f_210
  have f_226 := (show M_220 (b + 5) = M_205 (b + 5) by rw [eM_220]; exact fm_un (by omega)).trans f_211
  have f_227 := (show M_220 (b + 6) = M_205 (b + 6) by rw [eM_220]; exact fm_un (by omega)).trans f_212
  have f_228 := (show M_220 (b + 7) = M_205 (b + 7) by rw [eM_220]; exact fm_un (by omega)).trans f_213
  have f_229 := (show M_220 (b + 8) = M_205 (b + 8) by rw [eM_220]; exact fm_un (by omega)).trans f_214
  have f_230 := (show M_220 (b + 9) = M_205 (b + 9) by rw [eM_220]; exact fm_un (by omega)).trans f_215
  have f_231 := (show M_220 (b + 10) = M_205 (b + 10) by rw [eM_220]; exact fm_un (by omega)).trans f_216
  have f_232 := (show M_220 (b + 11) = M_205 (b + 11) by rw [eM_220]; exact fm_un (by omega)).trans f_217
  have f_233 := (show M_220 (b + 12) = M_205 (b + 12) by rw [eM_220]; exact fm_un (by omega)).trans f_218
  have f_234 := (show M_220 (b + 13) = M_205 (b + 13) by rw [eM_220]; exact fm_un (by omega)).trans f_219
  have hFr : fs_Mf b M M_220 := by rw [eM_220]; exact fs_Mf_u hFr (by omega) _
  refine lv_aload_n hx hb dM_init_111 rfl (lv_at hl 0 rfl) ?_
  refine lv_bipush (v := 10) hx hb dM_init_112 (by decide) ?_
  have hlo : b + 14 ≤ H.size := by have h9 := fm_lt hW f_234; omega
  refine fm_newa (atype := .boolean) (ty := .boolean) (z := b + 14) (N' := 10) (a0 := (10, .inl (fun _ => 0))) hx hb (hT _ ac_boolean) rfl hK hW (by omega) hlo 2 rfl (fun cA => rfl) (by decide) (by decide) (by decide) (Nat.le_of_ble_eq_true rfl) (Nat.le_of_ble_eq_true rfl) dM_init_114 (fun H hW => ?_)
  obtain ⟨M_235, eM_235⟩ : ∃ z : fm_M, z = va_up M_220 (b + 14) (some (.inl (ct 2, 10, .inl (fun _ => 0)))) := ⟨_, rfl⟩
  have hW : fm_W D fs_cl5 A M_235 s.heap H locs := by rw [eM_235]; exact hW
  have f_236 := (show M_235 b = M_220 b by rw [eM_235]; exact fm_un (by omega)).trans f_221
  have f_237 := (show M_235 (b + 1) = M_220 (b + 1) by rw [eM_235]; exact fm_un (by omega)).trans f_222
  have f_238 := (show M_235 (b + 2) = M_220 (b + 2) by rw [eM_235]; exact fm_un (by omega)).trans f_223
  have f_239 := (show M_235 (b + 3) = M_220 (b + 3) by rw [eM_235]; exact fm_un (by omega)).trans f_224
  have f_240 := (show M_235 (b + 4) = M_220 (b + 4) by rw [eM_235]; exact fm_un (by omega)).trans f_225
  have f_241 := (show M_235 (b + 5) = M_220 (b + 5) by rw [eM_235]; exact fm_un (by omega)).trans f_226
  have f_242 := (show M_235 (b + 6) = M_220 (b + 6) by rw [eM_235]; exact fm_un (by omega)).trans f_227
  have f_243 := (show M_235 (b + 7) = M_220 (b + 7) by rw [eM_235]; exact fm_un (by omega)).trans f_228
  have f_244 := (show M_235 (b + 8) = M_220 (b + 8) by rw [eM_235]; exact fm_un (by omega)).trans f_229
  have f_245 := (show M_235 (b + 9) = M_220 (b + 9) by rw [eM_235]; exact fm_un (by omega)).trans f_230
  have f_246 := (show M_235 (b + 10) = M_220 (b + 10) by rw [eM_235]; exact fm_un (by omega)).trans f_231
  have f_247 := (show M_235 (b + 11) = M_220 (b + 11) by rw [eM_235]; exact fm_un (by omega)).trans f_232
  have f_248 := (show M_235 (b + 12) = M_220 (b + 12) by rw [eM_235]; exact fm_un (by omega)).trans f_233
  have f_249 := (show M_235 (b + 13) = M_220 (b + 13) by rw [eM_235]; exact fm_un (by omega)).trans f_234
  have f_250 : M_235 (b + 14) = some (.inl (ct 2, 10, .inl (fun _ => 0))) := by rw [eM_235]; exact fm_us
  have hFr : fs_Mf b M M_235 := by rw [eM_235]; exact fs_Mf_u hFr (by omega) _
  refine fm_putF (ci := 4) (v := .ref (b + 14)) (ty := tyM 19) (C := RM) (T := TM) (N := 30) hx hb hT inM tyM tkM nmM hown hK hW f_236 rfl 19 (by decide) (hT _ fl_M_50) (fun _ h9 => h9) rfl hin rfl (tkM 19 (by decide)) rfl rfl (Nat.le_of_ble_eq_true rfl) dM_init_116 (fun H locs hW => ?_)
  obtain ⟨M_251, eM_251⟩ : ∃ z : fm_M, z = va_up M_235 b (some (.inr (4, [.int 0, .int 0, .int 0, .int 0, .int 0, .int 0, .ref (b + 1), .ref (b + 2), .ref (b + 3), .ref (b + 4), .ref (b + 5), .ref (b + 6), .ref (b + 7), .ref (b + 8), .ref (b + 9), .ref (b + 10), .ref (b + 11), .ref (b + 12), .ref (b + 13), .ref (b + 14), .int 0, .int 0, .int 0, .long 0, .int 0, .int 0, .long 0, .int 0, .null, .null]))) := ⟨_, rfl⟩
  have hW : fm_W D fs_cl5 A M_251 s.heap H locs := by rw [eM_251]; exact hW
  have f_252 : M_251 b = some (.inr (4, [.int 0, .int 0, .int 0, .int 0, .int 0, .int 0, .ref (b + 1), .ref (b + 2), .ref (b + 3), .ref (b + 4), .ref (b + 5), .ref (b + 6), .ref (b + 7), .ref (b + 8), .ref (b + 9), .ref (b + 10), .ref (b + 11), .ref (b + 12), .ref (b + 13), .ref (b + 14), .int 0, .int 0, .int 0, .long 0, .int 0, .int 0, .long 0, .int 0, .null, .null])) := by rw [eM_251]; exact fm_us
  have f_253 := (show M_251 (b + 1) = M_235 (b + 1) by rw [eM_251]; exact fm_un (by omega)).trans f_237
  have f_254 := (show M_251 (b + 2) = M_235 (b + 2) by rw [eM_251]; exact fm_un (by omega)).trans f_238
  have f_255 := (show M_251 (b + 3) = M_235 (b + 3) by rw [eM_251]; exact fm_un (by omega)).trans f_239
  have f_256 := (show M_251 (b + 4) = M_235 (b + 4) by rw [eM_251]; exact fm_un (by omega)).trans f_240
  have f_257 := (show M_251 (b + 5) = M_235 (b + 5) by rw [eM_251]; exact fm_un (by omega)).trans f_241
  have f_258 := (show M_251 (b + 6) = M_235 (b + 6) by rw [eM_251]; exact fm_un (by omega)).trans f_242
  have f_259 := (show M_251 (b + 7) = M_235 (b + 7) by rw [eM_251]; exact fm_un (by omega)).trans f_243
  have f_260 := (show M_251 (b + 8) = M_235 (b + 8) by rw [eM_251]; exact fm_un (by omega)).trans f_244
  have f_261 := (show M_251 (b + 9) = M_235 (b + 9) by rw [eM_251]; exact fm_un (by omega)).trans f_245
  have f_262 := (show M_251 (b + 10) = M_235 (b + 10) by rw [eM_251]; exact fm_un (by omega)).trans f_246
  have f_263 := (show M_251 (b + 11) = M_235 (b + 11) by rw [eM_251]; exact fm_un (by omega)).trans f_247
  have f_264 := (show M_251 (b + 12) = M_235 (b + 12) by rw [eM_251]; exact fm_un (by omega)).trans f_248
  have f_265 := (show M_251 (b + 13) = M_235 (b + 13) by rw [eM_251]; exact fm_un (by omega)).trans f_249
  have f_266 := (show M_251 (b + 14) = M_235 (b + 14) by rw [eM_251]; exact fm_un (by omega)).trans f_250
  have hFr : fs_Mf b M M_251 := by rw [eM_251]; exact fs_Mf_u hFr (by omega) _
  refine lv_aload_n hx hb dM_init_119 rfl (lv_at hl 0 rfl) ?_
  refine lv_bipush (v := 40) hx hb dM_init_120 (by decide) ?_
  have hlo : b + 15 ≤ H.size := by have h9 := fm_lt hW f_266; omega
  refine fm_newa (atype := .int) (ty := .int) (z := b + 15) (N' := 40) (a0 := (40, .inl (fun _ => 0))) hx hb (hT _ ac_int) rfl hK hW (by omega) hlo 0 rfl (fun cA => rfl) (by decide) (by decide) (by decide) (Nat.le_of_ble_eq_true rfl) (Nat.le_of_ble_eq_true rfl) dM_init_122 (fun H hW => ?_)
  obtain ⟨M_267, eM_267⟩ : ∃ z : fm_M, z = va_up M_251 (b + 15) (some (.inl (ct 0, 40, .inl (fun _ => 0)))) := ⟨_, rfl⟩
  have hW : fm_W D fs_cl5 A M_267 s.heap H locs := by rw [eM_267]; exact hW
  have f_268 := (show M_267 b = M_251 b by rw [eM_267]; exact fm_un (by omega)).trans f_252
  have f_269 := (show M_267 (b + 1) = M_251 (b + 1) by rw [eM_267]; exact fm_un (by omega)).trans f_253
  have f_270 := (show M_267 (b + 2) = M_251 (b + 2) by rw [eM_267]; exact fm_un (by omega)).trans f_254
  have f_271 := (show M_267 (b + 3) = M_251 (b + 3) by rw [eM_267]; exact fm_un (by omega)).trans f_255
  have f_272 := (show M_267 (b + 4) = M_251 (b + 4) by rw [eM_267]; exact fm_un (by omega)).trans f_256
  have f_273 := (show M_267 (b + 5) = M_251 (b + 5) by rw [eM_267]; exact fm_un (by omega)).trans f_257
  have f_274 := (show M_267 (b + 6) = M_251 (b + 6) by rw [eM_267]; exact fm_un (by omega)).trans f_258
  have f_275 := (show M_267 (b + 7) = M_251 (b + 7) by rw [eM_267]; exact fm_un (by omega)).trans f_259
  have f_276 := (show M_267 (b + 8) = M_251 (b + 8) by rw [eM_267]; exact fm_un (by omega)).trans f_260
  have f_277 := (show M_267 (b + 9) = M_251 (b + 9) by rw [eM_267]; exact fm_un (by omega)).trans f_261
  have f_278 := (show M_267 (b + 10) = M_251 (b + 10) by rw [eM_267]; exact fm_un (by omega)).trans f_262
  have f_279 := (show M_267 (b + 11) = M_251 (b + 11) by rw [eM_267]; exact fm_un (by omega)).trans f_263
  have f_280 := (show M_267 (b + 12) = M_251 (b + 12) by rw [eM_267]; exact fm_un (by omega)).trans f_264
  have f_281 := (show M_267 (b + 13) = M_251 (b + 13) by rw [eM_267]; exact fm_un (by omega)).trans f_265
  have f_282 := (show M_267 (b + 14) = M_251 (b + 14) by rw [eM_267]; exact fm_un (by omega)).trans f_266
  have f_283 : M_267 (b + 15) = some (.inl (ct 0, 40, .inl (fun _ => 0))) := by rw [eM_267]; exact fm_us
  have hFr : fs_Mf b M M_267 := by rw [eM_267]; exact fs_Mf_u hFr (by omega) _
  refine fm_putF (ci := 4) (v := .ref (b + 15)) (ty := tyM 28) (C := RM) (T := TM) (N := 30) hx hb hT inM tyM tkM nmM hown hK hW f_268 rfl 28 (by decide) (hT _ fl_M_54) (fun _ h9 => h9) rfl hin rfl (tkM 28 (by decide)) rfl rfl (Nat.le_of_ble_eq_true rfl) dM_init_124 (fun H locs hW => ?_)
  obtain ⟨M_284, eM_284⟩ : ∃ z : fm_M, z = va_up M_267 b (some (.inr (4, [.int 0, .int 0, .int 0, .int 0, .int 0, .int 0, .ref (b + 1), .ref (b + 2), .ref (b + 3), .ref (b + 4), .ref (b + 5), .ref (b + 6), .ref (b + 7), .ref (b + 8), .ref (b + 9), .ref (b + 10), .ref (b + 11), .ref (b + 12), .ref (b + 13), .ref (b + 14), .int 0, .int 0, .int 0, .long 0, .int 0, .int 0, .long 0, .int 0, .ref (b + 15), .null]))) := ⟨_, rfl⟩
  have hW : fm_W D fs_cl5 A M_284 s.heap H locs := by rw [eM_284]; exact hW
  have f_285 : M_284 b = some (.inr (4, [.int 0, .int 0, .int 0, .int 0, .int 0, .int 0, .ref (b + 1), .ref (b + 2), .ref (b + 3), .ref (b + 4), .ref (b + 5), .ref (b + 6), .ref (b + 7), .ref (b + 8), .ref (b + 9), .ref (b + 10), .ref (b + 11), .ref (b + 12), .ref (b + 13), .ref (b + 14), .int 0, .int 0, .int 0, .long 0, .int 0, .int 0, .long 0, .int 0, .ref (b + 15), .null])) := by rw [eM_284]; exact fm_us
  have f_286 := (show M_284 (b + 1) = M_267 (b + 1) by rw [eM_284]; exact fm_un (by omega)).trans f_269
  have f_287 := (show M_284 (b + 2) = M_267 (b + 2) by rw [eM_284]; exact fm_un (by omega)).trans f_270
  have f_288 := (show M_284 (b + 3) = M_267 (b + 3) by rw [eM_284]; exact fm_un (by omega)).trans f_271
  have f_289 := (show M_284 (b + 4) = M_267 (b + 4) by rw [eM_284]; exact fm_un (by omega)).trans f_272
  have f_290 := (show M_284 (b + 5) = M_267 (b + 5) by rw [eM_284]; exact fm_un (by omega)).trans f_273
  have f_291 := (show M_284 (b + 6) = M_267 (b + 6) by rw [eM_284]; exact fm_un (by omega)).trans f_274
  have f_292 := (show M_284 (b + 7) = M_267 (b + 7) by rw [eM_284]; exact fm_un (by omega)).trans f_275
  have f_293 := (show M_284 (b + 8) = M_267 (b + 8) by rw [eM_284]; exact fm_un (by omega)).trans f_276
  have f_294 := (show M_284 (b + 9) = M_267 (b + 9) by rw [eM_284]; exact fm_un (by omega)).trans f_277
  have f_295 := (show M_284 (b + 10) = M_267 (b + 10) by rw [eM_284]; exact fm_un (by omega)).trans f_278
  have f_296 := (show M_284 (b + 11) = M_267 (b + 11) by rw [eM_284]; exact fm_un (by omega)).trans f_279
  have f_297 := (show M_284 (b + 12) = M_267 (b + 12) by rw [eM_284]; exact fm_un (by omega)).trans f_280
  have f_298 := (show M_284 (b + 13) = M_267 (b + 13) by rw [eM_284]; exact fm_un (by omega)).trans f_281
  have f_299 := (show M_284 (b + 14) = M_267 (b + 14) by rw [eM_284]; exact fm_un (by omega)).trans f_282
  have f_300 := (show M_284 (b + 15) = M_267 (b + 15) by rw [eM_284]; exact fm_un (by omega)).trans f_283
  have hFr : fs_Mf b M M_284 := by rw [eM_284]; exact fs_Mf_u hFr (by omega) _
  refine lv_aload_n hx hb dM_init_127 rfl (lv_at hl 0 rfl) ?_
  refine lv_bipush (v := 40) hx hb dM_init_128 (by decide) ?_
  have hlo : b + 16 ≤ H.size := by have h9 := fm_lt hW f_300; omega
  refine fm_newa (atype := .long) (ty := .long) (z := b + 16) (N' := 40) (a0 := (40, .inr (.inl (fun _ => 0)))) hx hb (hT _ ac_long) rfl hK hW (by omega) hlo 1 rfl (fun cA => rfl) (by decide) (by decide) (by decide) (Nat.le_of_ble_eq_true rfl) (Nat.le_of_ble_eq_true rfl) dM_init_130 (fun H hW => ?_)
  obtain ⟨M_301, eM_301⟩ : ∃ z : fm_M, z = va_up M_284 (b + 16) (some (.inl (ct 1, 40, .inr (.inl (fun _ => 0))))) := ⟨_, rfl⟩
  have hW : fm_W D fs_cl5 A M_301 s.heap H locs := by rw [eM_301]; exact hW
  have f_302 := (show M_301 b = M_284 b by rw [eM_301]; exact fm_un (by omega)).trans f_285
  have f_303 := (show M_301 (b + 1) = M_284 (b + 1) by rw [eM_301]; exact fm_un (by omega)).trans f_286
  have f_304 := (show M_301 (b + 2) = M_284 (b + 2) by rw [eM_301]; exact fm_un (by omega)).trans f_287
  have f_305 := (show M_301 (b + 3) = M_284 (b + 3) by rw [eM_301]; exact fm_un (by omega)).trans f_288
  have f_306 := (show M_301 (b + 4) = M_284 (b + 4) by rw [eM_301]; exact fm_un (by omega)).trans f_289
  have f_307 := (show M_301 (b + 5) = M_284 (b + 5) by rw [eM_301]; exact fm_un (by omega)).trans f_290
  have f_308 := (show M_301 (b + 6) = M_284 (b + 6) by rw [eM_301]; exact fm_un (by omega)).trans f_291
  have f_309 := (show M_301 (b + 7) = M_284 (b + 7) by rw [eM_301]; exact fm_un (by omega)).trans f_292
  have f_310 := (show M_301 (b + 8) = M_284 (b + 8) by rw [eM_301]; exact fm_un (by omega)).trans f_293
  have f_311 := (show M_301 (b + 9) = M_284 (b + 9) by rw [eM_301]; exact fm_un (by omega)).trans f_294
  have f_312 := (show M_301 (b + 10) = M_284 (b + 10) by rw [eM_301]; exact fm_un (by omega)).trans f_295
  have f_313 := (show M_301 (b + 11) = M_284 (b + 11) by rw [eM_301]; exact fm_un (by omega)).trans f_296
  have f_314 := (show M_301 (b + 12) = M_284 (b + 12) by rw [eM_301]; exact fm_un (by omega)).trans f_297
  have f_315 := (show M_301 (b + 13) = M_284 (b + 13) by rw [eM_301]; exact fm_un (by omega)).trans f_298
  have f_316 := (show M_301 (b + 14) = M_284 (b + 14) by rw [eM_301]; exact fm_un (by omega)).trans f_299
  have f_317 := (show M_301 (b + 15) = M_284 (b + 15) by rw [eM_301]; exact fm_un (by omega)).trans f_300
  have f_318 : M_301 (b + 16) = some (.inl (ct 1, 40, .inr (.inl (fun _ => 0)))) := by rw [eM_301]; exact fm_us
  have hFr : fs_Mf b M M_301 := by rw [eM_301]; exact fs_Mf_u hFr (by omega) _
  refine fm_putF (ci := 4) (v := .ref (b + 16)) (ty := tyM 29) (C := RM) (T := TM) (N := 30) hx hb hT inM tyM tkM nmM hown hK hW f_302 rfl 29 (by decide) (hT _ fl_M_57) (fun _ h9 => h9) rfl hin rfl (tkM 29 (by decide)) rfl rfl (Nat.le_of_ble_eq_true rfl) dM_init_132 (fun H locs hW => ?_)
  obtain ⟨M_319, eM_319⟩ : ∃ z : fm_M, z = va_up M_301 b (some (.inr (4, [.int 0, .int 0, .int 0, .int 0, .int 0, .int 0, .ref (b + 1), .ref (b + 2), .ref (b + 3), .ref (b + 4), .ref (b + 5), .ref (b + 6), .ref (b + 7), .ref (b + 8), .ref (b + 9), .ref (b + 10), .ref (b + 11), .ref (b + 12), .ref (b + 13), .ref (b + 14), .int 0, .int 0, .int 0, .long 0, .int 0, .int 0, .long 0, .int 0, .ref (b + 15), .ref (b + 16)]))) := ⟨_, rfl⟩
  have hW : fm_W D fs_cl5 A M_319 s.heap H locs := by rw [eM_319]; exact hW
  have f_320 : M_319 b = some (.inr (4, [.int 0, .int 0, .int 0, .int 0, .int 0, .int 0, .ref (b + 1), .ref (b + 2), .ref (b + 3), .ref (b + 4), .ref (b + 5), .ref (b + 6), .ref (b + 7), .ref (b + 8), .ref (b + 9), .ref (b + 10), .ref (b + 11), .ref (b + 12), .ref (b + 13), .ref (b + 14), .int 0, .int 0, .int 0, .long 0, .int 0, .int 0, .long 0, .int 0, .ref (b + 15), .ref (b + 16)])) := by rw [eM_319]; exact fm_us
  have f_321 := (show M_319 (b + 1) = M_301 (b + 1) by rw [eM_319]; exact fm_un (by omega)).trans f_303
  have f_322 := (show M_319 (b + 2) = M_301 (b + 2) by rw [eM_319]; exact fm_un (by omega)).trans f_304
  have f_323 := (show M_319 (b + 3) = M_301 (b + 3) by rw [eM_319]; exact fm_un (by omega)).trans f_305
  have f_324 := (show M_319 (b + 4) = M_301 (b + 4) by rw [eM_319]; exact fm_un (by omega)).trans f_306
  have f_325 := (show M_319 (b + 5) = M_301 (b + 5) by rw [eM_319]; exact fm_un (by omega)).trans f_307
  have f_326 := (show M_319 (b + 6) = M_301 (b + 6) by rw [eM_319]; exact fm_un (by omega)).trans f_308
  have f_327 := (show M_319 (b + 7) = M_301 (b + 7) by rw [eM_319]; exact fm_un (by omega)).trans f_309
  have f_328 := (show M_319 (b + 8) = M_301 (b + 8) by rw [eM_319]; exact fm_un (by omega)).trans f_310
  have f_329 := (show M_319 (b + 9) = M_301 (b + 9) by rw [eM_319]; exact fm_un (by omega)).trans f_311
  have f_330 := (show M_319 (b + 10) = M_301 (b + 10) by rw [eM_319]; exact fm_un (by omega)).trans f_312
  have f_331 := (show M_319 (b + 11) = M_301 (b + 11) by rw [eM_319]; exact fm_un (by omega)).trans f_313
  have f_332 := (show M_319 (b + 12) = M_301 (b + 12) by rw [eM_319]; exact fm_un (by omega)).trans f_314
  have f_333 := (show M_319 (b + 13) = M_301 (b + 13) by rw [eM_319]; exact fm_un (by omega)).trans f_315
  have f_334 := (show M_319 (b + 14) = M_301 (b + 14) by rw [eM_319]; exact fm_un (by omega)).trans f_316
  have f_335 := (show M_319 (b + 15) = M_301 (b + 15) by rw [eM_319]; exact fm_un (by omega)).trans f_317
  have f_336 := (show M_319 (b + 16) = M_301 (b + 16) by rw [eM_319]; exact fm_un (by omega)).trans f_318
  have hFr : fs_Mf b M M_319 := by rw [eM_319]; exact fs_Mf_u hFr (by omega) _
  refine lv_aload_n hx hb dM_init_135 rfl (lv_at hl 0 rfl) ?_
  refine lv_iconst (v := 1) hx hb dM_init_136 (by decide) ?_
  have hC : fs_MW ct M_319 b (fs_c0 0) (fun _ => 0) (fun _ => 0) (fun _ _ => 0) (fun _ _ => 0) := by
    refine ⟨f_320, fun k hk => ?_, fun k hk => ?_, f_334⟩
    · obtain ⟨k1, k2, k3⟩ := fs_kt0 (k := k) (by omega)
      rcases (show k = 1 ∨ k = 2 ∨ k = 3 ∨ k = 4 ∨ k = 5 ∨ k = 6 ∨ k = 7 ∨ k = 8 ∨ k = 9 ∨ k = 10 ∨ k = 11 ∨ k = 12 ∨ k = 13 ∨ k = 14 ∨ k = 15 ∨ k = 16 by omega) with rfl | rfl | rfl | rfl | rfl | rfl | rfl | rfl | rfl | rfl | rfl | rfl | rfl | rfl | rfl | rfl
      · exact f_321
      · exact f_322
      · exact f_323
      · exact f_324
      · exact f_325
      · exact f_326
      · exact absurd hk (by decide)
      · exact f_328
      · exact f_329
      · exact f_330
      · exact absurd hk (by decide)
      · exact f_332
      · exact absurd hk (by decide)
      · exact absurd hk (by decide)
      · exact f_335
      · exact absurd hk (by decide)
    · obtain ⟨k1, k2, k3⟩ := fs_kt0 (k := k) (by omega)
      rcases (show k = 1 ∨ k = 2 ∨ k = 3 ∨ k = 4 ∨ k = 5 ∨ k = 6 ∨ k = 7 ∨ k = 8 ∨ k = 9 ∨ k = 10 ∨ k = 11 ∨ k = 12 ∨ k = 13 ∨ k = 14 ∨ k = 15 ∨ k = 16 by omega) with rfl | rfl | rfl | rfl | rfl | rfl | rfl | rfl | rfl | rfl | rfl | rfl | rfl | rfl | rfl | rfl
      · exact absurd hk (by decide)
      · exact absurd hk (by decide)
      · exact absurd hk (by decide)
      · exact absurd hk (by decide)
      · exact absurd hk (by decide)
      · exact absurd hk (by decide)
      · exact f_327
      · exact absurd hk (by decide)
      · exact absurd hk (by decide)
      · exact absurd hk (by decide)
      · exact f_331
      · exact absurd hk (by decide)
      · exact f_333
      · exact absurd hk (by decide)
      · exact absurd hk (by decide)
      · exact f_336
  refine fm_callv (va_runV (As := [.int 1]) (rest := []) ⟨hx, hb, hml, hown, hts⟩ (c_M_start l D ct A M_319 b (fs_c0 0) _ _ _ _ 1 hC) ⟨callB_of 1 hts (fs_gin co_M_start) rfl rfl rfl (hT _ ini_M) (hT _ ml_M_60) (by decide +kernel) ⟨Nat.le_of_ble_eq_true rfl, Nat.le_of_ble_eq_true rfl⟩, hT _ im_M_start, hT _ se_M_start⟩ (fn_preV fs_isnw hK hN hW f_320 rfl) rfl rfl hl.1 rfl (lv_room (Nat.le_of_ble_eq_true rfl)) dM_init_137 ⟨Nat.le_of_ble_eq_true rfl, Nat.le_of_ble_eq_true rfl⟩) hW (fun M_338 H locs hp_339 hW => ?_)
  exact fm_vret hx hb hr hlocks hW ⟨hp_339.1, fs_Mf_t hFr hp_339.2⟩ dM_init_140
