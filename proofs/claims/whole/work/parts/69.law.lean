-- the law: its roads, one call each
theorem st_L_edge : Cond.static yL_edge ∈ fs_tb := fs_ti 291 (by decide +kernel) (by decide +kernel)
theorem fs_gin0 {b : Cond} (hb : b ∈ fs_tb) : GoodIn fs_tb (b :: fs_tb) := by
  intro w hw
  rcases List.mem_cons.mp hw with rfl | h
  · exact ⟨hb, fs_tb_g hb⟩
  · exact ⟨h, fs_tb_g h⟩
theorem fl_sc {p : Program} {l : Launch} {e : Env} {R : Room} {s : State} {m : MethodId} {args : Array Value} {below : List Frame} {meth : Method} {c : Code} {H : Heap} {locs : List Loc} {cells slots : Nat} {Q : State → Prop} {cc : ByteArray} {pc : Nat} {ls : Array Slot} {rest : List Value} {A : Nat → Prop} {H0 : Heap} (hexec : p.tables.exec = Jvm.exec) (hb : c.code = cc) {b L : Nat} {xs : Nat → Int32} (hX : va_X b L xs s H0) (hbl : b < H0.size) (hbA : ¬ A b) (hS : va_S A H0 H locs) {i k : Nat} {j : Int32} (hj : j = nI (5 * i + k)) (hk : 5 * i + k < L) (hL : L ≤ 2560) (hdg : decode cc pc = .ok (.iaload, 1))
    (kk : W p l e R s m args below meth c H locs cells slots Q (F0 m (pc + 1) ls (.int (xs (5 * i + k)) :: rest))) : W p l e R s m args below meth c H locs cells slots Q (F0 m pc ls (.int j :: .ref b :: rest)) := by
  subst hj
  refine va_sld hexec hb hX hbl hbA hS (vp_in_nI hk (by omega)) hdg ?_
  rw [nI_clamp (by omega)]
  exact kk
/-- what holds all through the law -/
def fl_C (p : Program) (l : Launch) (s : State) (m : MethodId) (c : Code) (b0 L : Nat) (xs : Nat → Int32) (D : va_G) (ct : Nat → ClassId) (A : Nat → Prop) : Prop :=
  p.tables.exec = Jvm.exec ∧ c.code = cL_law ∧ c.maxLocals = 8 ∧ s.vm.findClass "FrameSamplesLaw" = some m.cls ∧ (∀ w ∈ fs_tb, w.before #[Value.ref b0] s = true) ∧ (∀ w ∈ fs_nw, va_Nw w s) ∧ va_K D fs_cl5 (fs_tys ct) s ∧ ft_XS A s s.heap ∧ va_X b0 L xs s s.heap ∧ b0 < s.heap.size ∧ ¬ A b0 ∧ L ≤ 2560 ∧ l.flags = pinnedFlags ++ [noTraceFlag]
/-- the world of the law's loop -/
def fl_I (ct : Nat → ClassId) (b : Nat) (M : fm_M) : Prop := ∃ (cn : Nat → Nat) (kp pn : Nat → fs_Q) (pr : fs_Q) (lc : Nat → Int32) (lr : Nat → Int64) (fr : Nat → fs_Q) (od : Nat → Int32) (cl : Nat → Int64) (ck : Nat → Int32) (cc : Nat → Int32) (cr : Nat → Int64) (si : Nat → Int32) (sl : Nat → Int64) (ia : Nat → Nat → Int32) (la : Nat → Nat → Int64) (f : Nat → Int64), fs_CW ct M b cn kp pn pr lc lr fr od cl ck cc cr ∧ fs_MW ct M (b + 110) cn si sl ia la ∧ M (b + 127) = some (.inl (ct 1, 1, .inr (.inl f))) ∧ fs_J cn kp pn lc lr fr od cl ck cc cr ia la
set_option maxHeartbeats 4000000 in
set_option maxRecDepth 100000 in
theorem fl_0 {p : Program} {l : Launch} {e : Env} {s : State} {m : MethodId} {below : List Frame} {meth : Method} {c : Code} {b0 L : Nat} {xs : Nat → Int32} {D : va_G} {ct : Nat → ClassId} {A : Nat → Prop} {b i cells slots : Nat} {M : fm_M} {H : Heap} {locs : List Loc} {ls : Array Slot} {Q : State → Prop} (C0 : fl_C p l s m c b0 L xs D ct A) (hi : 5 * i + 5 ≤ L) (hc1 : cells + 1 ≤ 601024) (hs1 : slots + 6 ≤ 7293034) (hI : fl_I ct b M) (hW : fm_W D fs_cl5 A M s.heap H locs) (hl : lv_has ls 8 [(4, .int (nI (5 * i))), (0, .ref b0), (1, .ref b), (2, .ref (b + 110)), (3, .ref (b + 127))])
    (back : ∀ (cells' slots' : Nat) (M' : fm_M) (H' : Heap) (locs' : List Loc) (ls' : Array Slot), cells' ≤ cells + 1 → slots' ≤ slots + 6 → fl_I ct b M' → fm_W D fs_cl5 A M' s.heap H' locs' → lv_has ls' 8 [(4, .int (nI (5 * i))), (0, .ref b0), (1, .ref b), (2, .ref (b + 110)), (3, .ref (b + 127))] → W p l e room_1 s m #[Value.ref b0] below meth c H' locs' cells' slots' Q (F0 m 637 ls' [])) : W p l e room_1 s m #[Value.ref b0] below meth c H locs cells slots Q (F0 m 96 ls []) := by
  obtain ⟨hx, hb, hml, hown, hT, hN, hK, hX, hXs, hbl, hbA, hL, hfl⟩ := C0
  obtain ⟨cn, kp, pn, pr, lc, lr, fr, od, cl, ck, cc, cr, si, sl, ia, la, f, hC, hM, ho, hJ⟩ := hI
  have hB := fs_J_B hJ
  refine lv_aload_n hx hb dL_law_96 rfl (lv_at hl 2 rfl) ?_
  refine lv_aload_n hx hb dL_law_97 rfl (lv_at hl 1 rfl) ?_
  refine lv_iload hx hb dL_law_98 (lv_at hl 0 rfl) ?_
  refine lv_iconst (v := 1) hx hb dL_law_100 (by decide) ?_
  refine lv_iadd hx hb dL_law_101 ?_
  refine fl_sc (k := 1) hx hb hXs hbl hbA hW.2.2.1 (nI_add (5 * i) 1) (by omega) hL dL_law_102 ?_
  refine fm_calli (va_runV (As := [.int (xs (5 * i + 1))]) (rest := []) ⟨hx, hb, hml, hown, hT⟩ (c_S_begin l D ct A M b cn kp pn pr lc lr fr od cl ck cc cr (xs (5 * i + 1)) hC hB) ⟨callB_of 1 hT (fs_gin0 co_S_begin) rfl rfl rfl (hT _ ini_S) (hT _ ml_L_19) (by decide +kernel) ⟨Nat.le_of_ble_eq_true rfl, Nat.le_of_ble_eq_true rfl⟩, hT _ im_S_begin, hT _ se_S_begin⟩ (fn_preV fs_isnw hK hN hW hC.1 rfl) rfl rfl hl.1 rfl (lv_room (Nat.le_of_ble_eq_true rfl)) dL_law_103 ⟨by show cells + 0 ≤ 601024; omega, by show slots + 0 ≤ 7293034; omega⟩) hW (fun r_1 M_2 H locs hp_3 hW => ?_)
  rcases hp_3 with ⟨er, eM, hno⟩ | ⟨er, N, n1, n2, en, kp2, pn2, hC2, hCf, k1, k2⟩
  · have hW : fm_W D fs_cl5 A M s.heap H locs := by rw [← eM]; exact hW
    refine lv_aload_n hx hb dL_law_106 rfl (lv_at hl 3 rfl) ?_
    refine lv_aload_n hx hb dL_law_107 rfl (lv_at hl 1 rfl) ?_
    refine lv_iload hx hb dL_law_108 (lv_at hl 0 rfl) ?_
    refine lv_iconst (v := 1) hx hb dL_law_110 (by decide) ?_
    refine lv_iadd hx hb dL_law_111 ?_
    refine fl_sc (k := 1) hx hb hXs hbl hbA hW.2.2.1 (nI_add (5 * i) 1) (by omega) hL dL_law_112 ?_
    refine fm_calli (va_runV (As := [.int (xs (5 * i + 1))]) (rest := [.int r_1]) ⟨hx, hb, hml, hown, hT⟩ (c_M_begin l D ct A M (b + 110) cn si sl ia la (xs (5 * i + 1)) hM) ⟨callB_of 1 hT (fs_gin0 co_M_begin) rfl rfl rfl (hT _ ini_M) (hT _ ml_L_23) (by decide +kernel) ⟨Nat.le_of_ble_eq_true rfl, Nat.le_of_ble_eq_true rfl⟩, hT _ im_M_begin, hT _ se_M_begin⟩ (fn_preV fs_isnw hK hN hW hM.1 rfl) rfl rfl hl.1 rfl (lv_room (Nat.le_of_ble_eq_true rfl)) dL_law_113 ⟨by show cells + 0 ≤ 601024; omega, by show slots + 0 ≤ 7293034; omega⟩) hW (fun r_4 M_5 H locs hp_6 hW => ?_)
    rcases hp_6 with ⟨er2, -, hM, hMf⟩ | ⟨er2, N, n1, n2, en, -⟩
    · have hC := fs_CW_frame (M2 := M_5) hC (fun a h1 h2 => hMf a (by omega))
      have ho : M_5 (b + 127) = some (.inl (ct 1, 1, .inr (.inl f))) := (hMf (b + 127) (by omega)).trans ho
      refine lv_icmp_eq (tgt := 637) hx hb dL_law_116 (by decide) (fun c_7 => ?_) (fun c_7 => ?_)
      · exact back _ _ _ _ _ ls (by omega) (by omega) ⟨_, _, _, _, _, _, _, _, _, _, _, _, _, _, _, _, _, hC, hM, ho, hJ⟩ hW (lv_sub hl [0, 1, 2, 3, 4] rfl)
      · exact absurd (er.trans er2.symm) c_7
    · exfalso
      rw [en] at hno
      rcases hno with z | z
      · exact absurd z (nI_nlt (a := N) (b := 1) n1 (by omega))
      · exact z (nI_le (b := 10) n2 (by decide))
  · have hM : fs_MW ct M_2 (b + 110) cn si sl ia la := fs_MW_frame hM (fun a h1 h2 => hCf a (by omega))
    have ho : M_2 (b + 127) = some (.inl (ct 1, 1, .inr (.inl f))) := (hCf (b + 127) (by omega)).trans ho
    have hC := hC2
    refine lv_aload_n hx hb dL_law_106 rfl (lv_at hl 3 rfl) ?_
    refine lv_aload_n hx hb dL_law_107 rfl (lv_at hl 1 rfl) ?_
    refine lv_iload hx hb dL_law_108 (lv_at hl 0 rfl) ?_
    refine lv_iconst (v := 1) hx hb dL_law_110 (by decide) ?_
    refine lv_iadd hx hb dL_law_111 ?_
    refine fl_sc (k := 1) hx hb hXs hbl hbA hW.2.2.1 (nI_add (5 * i) 1) (by omega) hL dL_law_112 ?_
    refine fm_calli (va_runV (As := [.int (xs (5 * i + 1))]) (rest := [.int r_1]) ⟨hx, hb, hml, hown, hT⟩ (c_M_begin l D ct A M_2 (b + 110) cn si sl ia la (xs (5 * i + 1)) hM) ⟨callB_of 1 hT (fs_gin0 co_M_begin) rfl rfl rfl (hT _ ini_M) (hT _ ml_L_23) (by decide +kernel) ⟨Nat.le_of_ble_eq_true rfl, Nat.le_of_ble_eq_true rfl⟩, hT _ im_M_begin, hT _ se_M_begin⟩ (fn_preV fs_isnw hK hN hW hM.1 rfl) rfl rfl hl.1 rfl (lv_room (Nat.le_of_ble_eq_true rfl)) dL_law_113 ⟨by show cells + 0 ≤ 601024; omega, by show slots + 0 ≤ 7293034; omega⟩) hW (fun r_8 M_9 H locs hp_10 hW => ?_)
    rcases hp_10 with ⟨er2, hno, -⟩ | ⟨er2, N2, m1, m2, en2, hM, hMf⟩
    · exfalso
      rw [en] at hno
      rcases hno with z | z
      · exact absurd z (nI_nlt (a := N) (b := 1) n1 (by omega))
      · exact z (nI_le (b := 10) n2 (by decide))
    · obtain rfl : N2 = N := (nI_eq (by omega) (by omega)).mp (en2.symm.trans en)
      have hC := fs_CW_frame (M2 := M_9) hC (fun a h1 h2 => hMf a (by omega))
      have ho : M_9 (b + 127) = some (.inl (ct 1, 1, .inr (.inl f))) := (hMf (b + 127) (by omega)).trans ho
      refine lv_icmp_eq (tgt := 637) hx hb dL_law_116 (by decide) (fun c_11 => ?_) (fun c_11 => ?_)
      · exact back _ _ _ _ _ ls (by omega) (by omega) ⟨_, _, _, _, _, _, _, _, _, _, _, _, _, _, _, _, _, hC, hM, ho, (fs_J_0 n1 n2 k1 k2)⟩ hW (lv_sub hl [0, 1, 2, 3, 4] rfl)
      · exact absurd (er.trans er2.symm) c_11
set_option maxHeartbeats 4000000 in
set_option maxRecDepth 100000 in
theorem fl_1 {p : Program} {l : Launch} {e : Env} {s : State} {m : MethodId} {below : List Frame} {meth : Method} {c : Code} {b0 L : Nat} {xs : Nat → Int32} {D : va_G} {ct : Nat → ClassId} {A : Nat → Prop} {b i cells slots : Nat} {M : fm_M} {H : Heap} {locs : List Loc} {ls : Array Slot} {Q : State → Prop} (C0 : fl_C p l s m c b0 L xs D ct A) (hi : 5 * i + 5 ≤ L) (hc1 : cells + 1 ≤ 601024) (hs1 : slots + 6 ≤ 7293034) (hI : fl_I ct b M) (hW : fm_W D fs_cl5 A M s.heap H locs) (hl : lv_has ls 8 [(4, .int (nI (5 * i))), (0, .ref b0), (1, .ref b), (2, .ref (b + 110)), (3, .ref (b + 127))])
    (back : ∀ (cells' slots' : Nat) (M' : fm_M) (H' : Heap) (locs' : List Loc) (ls' : Array Slot), cells' ≤ cells + 1 → slots' ≤ slots + 6 → fl_I ct b M' → fm_W D fs_cl5 A M' s.heap H' locs' → lv_has ls' 8 [(4, .int (nI (5 * i))), (0, .ref b0), (1, .ref b), (2, .ref (b + 110)), (3, .ref (b + 127))] → W p l e room_1 s m #[Value.ref b0] below meth c H' locs' cells' slots' Q (F0 m 637 ls' [])) : W p l e room_1 s m #[Value.ref b0] below meth c H locs cells slots Q (F0 m 121 ls []) := by
  obtain ⟨hx, hb, hml, hown, hT, hN, hK, hX, hXs, hbl, hbA, hL, hfl⟩ := C0
  obtain ⟨cn, kp, pn, pr, lc, lr, fr, od, cl, ck, cc, cr, si, sl, ia, la, f, hC, hM, ho, hJ⟩ := hI
  have hB := fs_J_B hJ
  refine lv_aload_n hx hb dL_law_121 rfl (lv_at hl 2 rfl) ?_
  refine lv_aload_n hx hb dL_law_122 rfl (lv_at hl 1 rfl) ?_
  refine lv_iload hx hb dL_law_123 (lv_at hl 0 rfl) ?_
  refine lv_iconst (v := 1) hx hb dL_law_125 (by decide) ?_
  refine lv_iadd hx hb dL_law_126 ?_
  refine fl_sc (k := 1) hx hb hXs hbl hbA hW.2.2.1 (nI_add (5 * i) 1) (by omega) hL dL_law_127 ?_
  refine lv_aload_n hx hb dL_law_128 rfl (lv_at hl 1 rfl) ?_
  refine lv_iload hx hb dL_law_129 (lv_at hl 0 rfl) ?_
  refine lv_iconst (v := 2) hx hb dL_law_131 (by decide) ?_
  refine lv_iadd hx hb dL_law_132 ?_
  refine fl_sc (k := 2) hx hb hXs hbl hbA hW.2.2.1 (nI_add (5 * i) 2) (by omega) hL dL_law_133 ?_
  refine lv_aload_n hx hb dL_law_134 rfl (lv_at hl 1 rfl) ?_
  refine lv_iload hx hb dL_law_135 (lv_at hl 0 rfl) ?_
  refine lv_iconst (v := 3) hx hb dL_law_137 (by decide) ?_
  refine lv_iadd hx hb dL_law_138 ?_
  refine fl_sc (k := 3) hx hb hXs hbl hbA hW.2.2.1 (nI_add (5 * i) 3) (by omega) hL dL_law_139 ?_
  refine fm_calli (va_runV (As := [.int (xs (5 * i + 1)), .int (xs (5 * i + 2)), .int (xs (5 * i + 3))]) (rest := []) ⟨hx, hb, hml, hown, hT⟩ (c_S_gate l D ct A M b cn kp pn pr lc lr fr od cl ck cc cr (xs (5 * i + 1)) (xs (5 * i + 2)) (xs (5 * i + 3)) hC hB) ⟨callB_of 3 hT (fs_gin0 co_S_gate) rfl rfl rfl (hT _ ini_S) (hT _ ml_L_24) (by decide +kernel) ⟨Nat.le_of_ble_eq_true rfl, Nat.le_of_ble_eq_true rfl⟩, hT _ im_S_gate, hT _ se_S_gate⟩ (fn_preV fs_isnw hK hN hW hC.1 rfl) rfl rfl hl.1 rfl (lv_room (Nat.le_of_ble_eq_true rfl)) dL_law_140 ⟨by show cells + 0 ≤ 601024; omega, by show slots + 0 ≤ 7293034; omega⟩) hW (fun r_1 M_2 H locs hp_3 hW => ?_)
  rcases hp_3 with ⟨er, eM, hno⟩ | ⟨er, hyes, kp2, pn2, fr2, hC2, hCf, k1, k2, k3⟩
  · have hW : fm_W D fs_cl5 A M s.heap H locs := by rw [← eM]; exact hW
    refine lv_aload_n hx hb dL_law_143 rfl (lv_at hl 3 rfl) ?_
    refine lv_aload_n hx hb dL_law_144 rfl (lv_at hl 1 rfl) ?_
    refine lv_iload hx hb dL_law_145 (lv_at hl 0 rfl) ?_
    refine lv_iconst (v := 1) hx hb dL_law_147 (by decide) ?_
    refine lv_iadd hx hb dL_law_148 ?_
    refine fl_sc (k := 1) hx hb hXs hbl hbA hW.2.2.1 (nI_add (5 * i) 1) (by omega) hL dL_law_149 ?_
    refine lv_aload_n hx hb dL_law_150 rfl (lv_at hl 1 rfl) ?_
    refine lv_iload hx hb dL_law_151 (lv_at hl 0 rfl) ?_
    refine lv_iconst (v := 2) hx hb dL_law_153 (by decide) ?_
    refine lv_iadd hx hb dL_law_154 ?_
    refine fl_sc (k := 2) hx hb hXs hbl hbA hW.2.2.1 (nI_add (5 * i) 2) (by omega) hL dL_law_155 ?_
    refine lv_aload_n hx hb dL_law_156 rfl (lv_at hl 1 rfl) ?_
    refine lv_iload hx hb dL_law_157 (lv_at hl 0 rfl) ?_
    refine lv_iconst (v := 3) hx hb dL_law_159 (by decide) ?_
    refine lv_iadd hx hb dL_law_160 ?_
    refine fl_sc (k := 3) hx hb hXs hbl hbA hW.2.2.1 (nI_add (5 * i) 3) (by omega) hL dL_law_161 ?_
    refine fm_calli (va_runV (As := [.int (xs (5 * i + 1)), .int (xs (5 * i + 2)), .int (xs (5 * i + 3))]) (rest := [.int r_1]) ⟨hx, hb, hml, hown, hT⟩ (c_M_gate l D ct A M (b + 110) cn si sl ia la (xs (5 * i + 1)) (xs (5 * i + 2)) (xs (5 * i + 3)) hM hB) ⟨callB_of 3 hT (fs_gin0 co_M_gate) rfl rfl rfl (hT _ ini_M) (hT _ ml_L_28) (by decide +kernel) ⟨Nat.le_of_ble_eq_true rfl, Nat.le_of_ble_eq_true rfl⟩, hT _ im_M_gate, hT _ se_M_gate⟩ (fn_preV fs_isnw hK hN hW hM.1 rfl) rfl rfl hl.1 rfl (lv_room (Nat.le_of_ble_eq_true rfl)) dL_law_162 ⟨by show cells + 0 ≤ 601024; omega, by show slots + 0 ≤ 7293034; omega⟩) hW (fun r_4 M_5 H locs hp_6 hW => ?_)
    rcases hp_6 with ⟨er2, hno2, hM, hMf⟩ | ⟨er2, hyes2, hM, hMf⟩
    · have hC := fs_CW_frame (M2 := M_5) hC (fun a h1 h2 => hMf a (by omega))
      have ho : M_5 (b + 127) = some (.inl (ct 1, 1, .inr (.inl f))) := (hMf (b + 127) (by omega)).trans ho
      refine lv_icmp_eq (tgt := 637) hx hb dL_law_165 (by decide) (fun c_7 => ?_) (fun c_7 => ?_)
      · exact back _ _ _ _ _ ls (by omega) (by omega) ⟨_, _, _, _, _, _, _, _, _, _, _, _, _, _, _, _, _, hC, hM, ho, hJ⟩ hW (lv_sub hl [0, 1, 2, 3, 4] rfl)
      · exact absurd (er.trans er2.symm) c_7
    · exact absurd hyes2 hno
  · have hM : fs_MW ct M_2 (b + 110) cn si sl ia la := fs_MW_frame hM (fun a h1 h2 => hCf a (by omega))
    have ho : M_2 (b + 127) = some (.inl (ct 1, 1, .inr (.inl f))) := (hCf (b + 127) (by omega)).trans ho
    have hC := hC2
    refine lv_aload_n hx hb dL_law_143 rfl (lv_at hl 3 rfl) ?_
    refine lv_aload_n hx hb dL_law_144 rfl (lv_at hl 1 rfl) ?_
    refine lv_iload hx hb dL_law_145 (lv_at hl 0 rfl) ?_
    refine lv_iconst (v := 1) hx hb dL_law_147 (by decide) ?_
    refine lv_iadd hx hb dL_law_148 ?_
    refine fl_sc (k := 1) hx hb hXs hbl hbA hW.2.2.1 (nI_add (5 * i) 1) (by omega) hL dL_law_149 ?_
    refine lv_aload_n hx hb dL_law_150 rfl (lv_at hl 1 rfl) ?_
    refine lv_iload hx hb dL_law_151 (lv_at hl 0 rfl) ?_
    refine lv_iconst (v := 2) hx hb dL_law_153 (by decide) ?_
    refine lv_iadd hx hb dL_law_154 ?_
    refine fl_sc (k := 2) hx hb hXs hbl hbA hW.2.2.1 (nI_add (5 * i) 2) (by omega) hL dL_law_155 ?_
    refine lv_aload_n hx hb dL_law_156 rfl (lv_at hl 1 rfl) ?_
    refine lv_iload hx hb dL_law_157 (lv_at hl 0 rfl) ?_
    refine lv_iconst (v := 3) hx hb dL_law_159 (by decide) ?_
    refine lv_iadd hx hb dL_law_160 ?_
    refine fl_sc (k := 3) hx hb hXs hbl hbA hW.2.2.1 (nI_add (5 * i) 3) (by omega) hL dL_law_161 ?_
    refine fm_calli (va_runV (As := [.int (xs (5 * i + 1)), .int (xs (5 * i + 2)), .int (xs (5 * i + 3))]) (rest := [.int r_1]) ⟨hx, hb, hml, hown, hT⟩ (c_M_gate l D ct A M_2 (b + 110) cn si sl ia la (xs (5 * i + 1)) (xs (5 * i + 2)) (xs (5 * i + 3)) hM hB) ⟨callB_of 3 hT (fs_gin0 co_M_gate) rfl rfl rfl (hT _ ini_M) (hT _ ml_L_28) (by decide +kernel) ⟨Nat.le_of_ble_eq_true rfl, Nat.le_of_ble_eq_true rfl⟩, hT _ im_M_gate, hT _ se_M_gate⟩ (fn_preV fs_isnw hK hN hW hM.1 rfl) rfl rfl hl.1 rfl (lv_room (Nat.le_of_ble_eq_true rfl)) dL_law_162 ⟨by show cells + 0 ≤ 601024; omega, by show slots + 0 ≤ 7293034; omega⟩) hW (fun r_8 M_9 H locs hp_10 hW => ?_)
    rcases hp_10 with ⟨er2, hno2, hM, hMf⟩ | ⟨er2, hyes2, hM, hMf⟩
    · exact absurd hyes hno2
    · have hC := fs_CW_frame (M2 := M_9) hC (fun a h1 h2 => hMf a (by omega))
      have ho : M_9 (b + 127) = some (.inl (ct 1, 1, .inr (.inl f))) := (hMf (b + 127) (by omega)).trans ho
      refine lv_icmp_eq (tgt := 637) hx hb dL_law_165 (by decide) (fun c_11 => ?_) (fun c_11 => ?_)
      · exact back _ _ _ _ _ ls (by omega) (by omega) ⟨_, _, _, _, _, _, _, _, _, _, _, _, _, _, _, _, _, hC, hM, ho, (fs_J_gate hJ hyes k1 k2 k3)⟩ hW (lv_sub hl [0, 1, 2, 3, 4] rfl)
      · exact absurd (er.trans er2.symm) c_11
set_option maxHeartbeats 4000000 in
set_option maxRecDepth 100000 in
theorem fl_2 {p : Program} {l : Launch} {e : Env} {s : State} {m : MethodId} {below : List Frame} {meth : Method} {c : Code} {b0 L : Nat} {xs : Nat → Int32} {D : va_G} {ct : Nat → ClassId} {A : Nat → Prop} {b i cells slots : Nat} {M : fm_M} {H : Heap} {locs : List Loc} {ls : Array Slot} {Q : State → Prop} (C0 : fl_C p l s m c b0 L xs D ct A) (hi : 5 * i + 5 ≤ L) (hc1 : cells + 1 ≤ 601024) (hs1 : slots + 6 ≤ 7293034) (hI : fl_I ct b M) (hW : fm_W D fs_cl5 A M s.heap H locs) (hl : lv_has ls 8 [(4, .int (nI (5 * i))), (0, .ref b0), (1, .ref b), (2, .ref (b + 110)), (3, .ref (b + 127))])
    (back : ∀ (cells' slots' : Nat) (M' : fm_M) (H' : Heap) (locs' : List Loc) (ls' : Array Slot), cells' ≤ cells + 1 → slots' ≤ slots + 6 → fl_I ct b M' → fm_W D fs_cl5 A M' s.heap H' locs' → lv_has ls' 8 [(4, .int (nI (5 * i))), (0, .ref b0), (1, .ref b), (2, .ref (b + 110)), (3, .ref (b + 127))] → W p l e room_1 s m #[Value.ref b0] below meth c H' locs' cells' slots' Q (F0 m 637 ls' [])) : W p l e room_1 s m #[Value.ref b0] below meth c H locs cells slots Q (F0 m 170 ls []) := by
  obtain ⟨hx, hb, hml, hown, hT, hN, hK, hX, hXs, hbl, hbA, hL, hfl⟩ := C0
  obtain ⟨cn, kp, pn, pr, lc, lr, fr, od, cl, ck, cc, cr, si, sl, ia, la, f, hC, hM, ho, hJ⟩ := hI
  have hB := fs_J_B hJ
  refine lv_aload_n hx hb dL_law_170 rfl (lv_at hl 2 rfl) ?_
  refine lv_aload_n hx hb dL_law_171 rfl (lv_at hl 1 rfl) ?_
  refine lv_iload hx hb dL_law_172 (lv_at hl 0 rfl) ?_
  refine lv_iconst (v := 1) hx hb dL_law_174 (by decide) ?_
  refine lv_iadd hx hb dL_law_175 ?_
  refine fl_sc (k := 1) hx hb hXs hbl hbA hW.2.2.1 (nI_add (5 * i) 1) (by omega) hL dL_law_176 ?_
  refine lv_aload_n hx hb dL_law_177 rfl (lv_at hl 1 rfl) ?_
  refine lv_iload hx hb dL_law_178 (lv_at hl 0 rfl) ?_
  refine lv_iconst (v := 2) hx hb dL_law_180 (by decide) ?_
  refine lv_iadd hx hb dL_law_181 ?_
  refine fl_sc (k := 2) hx hb hXs hbl hbA hW.2.2.1 (nI_add (5 * i) 2) (by omega) hL dL_law_182 ?_
  refine lv_if_eq (tgt := 190) hx hb dL_law_183 (by decide) (fun c_1 => ?_) (fun c_1 => ?_)
  · refine lv_iconst (v := 0) hx hb dL_law_190 (by decide) ?_
    refine fm_calli (va_runV (As := [.int (xs (5 * i + 1)), .int 0]) (rest := []) ⟨hx, hb, hml, hown, hT⟩ (c_S_look l D ct A M b cn kp pn pr lc lr fr od cl ck cc cr (xs (5 * i + 1)) 0 hC hB) ⟨callB_of 2 hT (fs_gin0 co_S_look) rfl rfl rfl (hT _ ini_S) (hT _ ml_L_29) (by decide +kernel) ⟨Nat.le_of_ble_eq_true rfl, Nat.le_of_ble_eq_true rfl⟩, hT _ im_S_look, hT _ se_S_look⟩ (fn_preV fs_isnw hK hN hW hC.1 rfl) rfl rfl hl.1 rfl (lv_room (Nat.le_of_ble_eq_true rfl)) dL_law_191 ⟨by show cells + 0 ≤ 601024; omega, by show slots + 0 ≤ 7293034; omega⟩) hW (fun r_2 M_3 H locs hp_4 hW => ?_)
    rcases hp_4 with ⟨er, eM, hno⟩ | ⟨er, hyes, α, ea, hα, kp1, kp2, pn2, fr2, pr2, cl2, cv, hv, hC2, hCf, k1, k2, k3, k4⟩
    · have hW : fm_W D fs_cl5 A M s.heap H locs := by rw [← eM]; exact hW
      refine lv_aload_n hx hb dL_law_194 rfl (lv_at hl 3 rfl) ?_
      refine lv_aload_n hx hb dL_law_195 rfl (lv_at hl 1 rfl) ?_
      refine lv_iload hx hb dL_law_196 (lv_at hl 0 rfl) ?_
      refine lv_iconst (v := 1) hx hb dL_law_198 (by decide) ?_
      refine lv_iadd hx hb dL_law_199 ?_
      refine fl_sc (k := 1) hx hb hXs hbl hbA hW.2.2.1 (nI_add (5 * i) 1) (by omega) hL dL_law_200 ?_
      refine lv_aload_n hx hb dL_law_201 rfl (lv_at hl 1 rfl) ?_
      refine lv_iload hx hb dL_law_202 (lv_at hl 0 rfl) ?_
      refine lv_iconst (v := 2) hx hb dL_law_204 (by decide) ?_
      refine lv_iadd hx hb dL_law_205 ?_
      refine fl_sc (k := 2) hx hb hXs hbl hbA hW.2.2.1 (nI_add (5 * i) 2) (by omega) hL dL_law_206 ?_
      refine lv_if_eq (tgt := 214) hx hb dL_law_207 (by decide) (fun c_5 => ?_) (fun c_5 => ?_)
      rotate_left
      · exact absurd c_1 c_5
      refine lv_iconst (v := 0) hx hb dL_law_214 (by decide) ?_
      refine fm_calli (va_runV (As := [.int (xs (5 * i + 1)), .int 0]) (rest := [.int r_2]) ⟨hx, hb, hml, hown, hT⟩ (c_M_look l D ct A M (b + 110) cn si sl ia la (xs (5 * i + 1)) 0 hM hB) ⟨callB_of 2 hT (fs_gin0 co_M_look) rfl rfl rfl (hT _ ini_M) (hT _ ml_L_33) (by decide +kernel) ⟨Nat.le_of_ble_eq_true rfl, Nat.le_of_ble_eq_true rfl⟩, hT _ im_M_look, hT _ se_M_look⟩ (fn_preV fs_isnw hK hN hW hM.1 rfl) rfl rfl hl.1 rfl (lv_room (Nat.le_of_ble_eq_true rfl)) dL_law_215 ⟨by show cells + 0 ≤ 601024; omega, by show slots + 0 ≤ 7293034; omega⟩) hW (fun r_6 M_7 H locs hp_8 hW => ?_)
      rcases hp_8 with ⟨er2, hno2, hM, hMf⟩ | ⟨er2, hyes2, hM, hMf⟩
      · have hC := fs_CW_frame (M2 := M_7) hC (fun a h1 h2 => hMf a (by omega))
        have ho : M_7 (b + 127) = some (.inl (ct 1, 1, .inr (.inl f))) := (hMf (b + 127) (by omega)).trans ho
        refine lv_icmp_eq (tgt := 637) hx hb dL_law_218 (by decide) (fun c_9 => ?_) (fun c_9 => ?_)
        · exact back _ _ _ _ _ ls (by omega) (by omega) ⟨_, _, _, _, _, _, _, _, _, _, _, _, _, _, _, _, _, hC, hM, ho, hJ⟩ hW (lv_sub hl [0, 1, 2, 3, 4] rfl)
        · exact absurd (er.trans er2.symm) c_9
      · exact absurd hyes2 hno
    · rw [fs_vuc (by decide)] at hC2
      have hyes3 : fs_lk cn (nI α) := by rw [← ea]; exact hyes
      have hM : fs_MW ct M_3 (b + 110) cn si sl ia la := fs_MW_frame hM (fun a h1 h2 => hCf a (by omega))
      have ho : M_3 (b + 127) = some (.inl (ct 1, 1, .inr (.inl f))) := (hCf (b + 127) (by omega)).trans ho
      have hC := hC2
      refine lv_aload_n hx hb dL_law_194 rfl (lv_at hl 3 rfl) ?_
      refine lv_aload_n hx hb dL_law_195 rfl (lv_at hl 1 rfl) ?_
      refine lv_iload hx hb dL_law_196 (lv_at hl 0 rfl) ?_
      refine lv_iconst (v := 1) hx hb dL_law_198 (by decide) ?_
      refine lv_iadd hx hb dL_law_199 ?_
      refine fl_sc (k := 1) hx hb hXs hbl hbA hW.2.2.1 (nI_add (5 * i) 1) (by omega) hL dL_law_200 ?_
      refine lv_aload_n hx hb dL_law_201 rfl (lv_at hl 1 rfl) ?_
      refine lv_iload hx hb dL_law_202 (lv_at hl 0 rfl) ?_
      refine lv_iconst (v := 2) hx hb dL_law_204 (by decide) ?_
      refine lv_iadd hx hb dL_law_205 ?_
      refine fl_sc (k := 2) hx hb hXs hbl hbA hW.2.2.1 (nI_add (5 * i) 2) (by omega) hL dL_law_206 ?_
      refine lv_if_eq (tgt := 214) hx hb dL_law_207 (by decide) (fun c_10 => ?_) (fun c_10 => ?_)
      rotate_left
      · exact absurd c_1 c_10
      refine lv_iconst (v := 0) hx hb dL_law_214 (by decide) ?_
      refine fm_calli (va_runV (As := [.int (xs (5 * i + 1)), .int 0]) (rest := [.int r_2]) ⟨hx, hb, hml, hown, hT⟩ (c_M_look l D ct A M_3 (b + 110) cn si sl ia la (xs (5 * i + 1)) 0 hM hB) ⟨callB_of 2 hT (fs_gin0 co_M_look) rfl rfl rfl (hT _ ini_M) (hT _ ml_L_33) (by decide +kernel) ⟨Nat.le_of_ble_eq_true rfl, Nat.le_of_ble_eq_true rfl⟩, hT _ im_M_look, hT _ se_M_look⟩ (fn_preV fs_isnw hK hN hW hM.1 rfl) rfl rfl hl.1 rfl (lv_room (Nat.le_of_ble_eq_true rfl)) dL_law_215 ⟨by show cells + 0 ≤ 601024; omega, by show slots + 0 ≤ 7293034; omega⟩) hW (fun r_11 M_12 H locs hp_13 hW => ?_)
      rcases hp_13 with ⟨er2, hno2, hM, hMf⟩ | ⟨er2, hyes2, hM, hMf⟩
      · exact absurd hyes hno2
      · have hC := fs_CW_frame (M2 := M_12) hC (fun a h1 h2 => hMf a (by omega))
        have ho : M_12 (b + 127) = some (.inl (ct 1, 1, .inr (.inl f))) := (hMf (b + 127) (by omega)).trans ho
        refine lv_icmp_eq (tgt := 637) hx hb dL_law_218 (by decide) (fun c_14 => ?_) (fun c_14 => ?_)
        · exact back _ _ _ _ _ ls (by omega) (by omega) ⟨_, _, _, _, _, _, _, _, _, _, _, _, _, _, _, _, _, hC, hM, ho, (by rw [ea]; exact fs_J_look hJ hyes3 hα k1 k2 k3 k4)⟩ hW (lv_sub hl [0, 1, 2, 3, 4] rfl)
        · exact absurd (er.trans er2.symm) c_14
  · refine lv_iconst (v := 1) hx hb dL_law_186 (by decide) ?_
    refine lv_goto (tgt := 191) hx hb dL_law_187 (by decide) ?_
    refine fm_calli (va_runV (As := [.int (xs (5 * i + 1)), .int 1]) (rest := []) ⟨hx, hb, hml, hown, hT⟩ (c_S_look l D ct A M b cn kp pn pr lc lr fr od cl ck cc cr (xs (5 * i + 1)) 1 hC hB) ⟨callB_of 2 hT (fs_gin0 co_S_look) rfl rfl rfl (hT _ ini_S) (hT _ ml_L_29) (by decide +kernel) ⟨Nat.le_of_ble_eq_true rfl, Nat.le_of_ble_eq_true rfl⟩, hT _ im_S_look, hT _ se_S_look⟩ (fn_preV fs_isnw hK hN hW hC.1 rfl) rfl rfl hl.1 rfl (lv_room (Nat.le_of_ble_eq_true rfl)) dL_law_191 ⟨by show cells + 0 ≤ 601024; omega, by show slots + 0 ≤ 7293034; omega⟩) hW (fun r_15 M_16 H locs hp_17 hW => ?_)
    rcases hp_17 with ⟨er, eM, hno⟩ | ⟨er, hyes, α, ea, hα, kp1, kp2, pn2, fr2, pr2, cl2, cv, hv, hC2, hCf, k1, k2, k3, k4⟩
    · have hW : fm_W D fs_cl5 A M s.heap H locs := by rw [← eM]; exact hW
      refine lv_aload_n hx hb dL_law_194 rfl (lv_at hl 3 rfl) ?_
      refine lv_aload_n hx hb dL_law_195 rfl (lv_at hl 1 rfl) ?_
      refine lv_iload hx hb dL_law_196 (lv_at hl 0 rfl) ?_
      refine lv_iconst (v := 1) hx hb dL_law_198 (by decide) ?_
      refine lv_iadd hx hb dL_law_199 ?_
      refine fl_sc (k := 1) hx hb hXs hbl hbA hW.2.2.1 (nI_add (5 * i) 1) (by omega) hL dL_law_200 ?_
      refine lv_aload_n hx hb dL_law_201 rfl (lv_at hl 1 rfl) ?_
      refine lv_iload hx hb dL_law_202 (lv_at hl 0 rfl) ?_
      refine lv_iconst (v := 2) hx hb dL_law_204 (by decide) ?_
      refine lv_iadd hx hb dL_law_205 ?_
      refine fl_sc (k := 2) hx hb hXs hbl hbA hW.2.2.1 (nI_add (5 * i) 2) (by omega) hL dL_law_206 ?_
      refine lv_if_eq (tgt := 214) hx hb dL_law_207 (by decide) (fun c_18 => ?_) (fun c_18 => ?_)
      · exact absurd c_18 c_1
      refine lv_iconst (v := 1) hx hb dL_law_210 (by decide) ?_
      refine lv_goto (tgt := 215) hx hb dL_law_211 (by decide) ?_
      refine fm_calli (va_runV (As := [.int (xs (5 * i + 1)), .int 1]) (rest := [.int r_15]) ⟨hx, hb, hml, hown, hT⟩ (c_M_look l D ct A M (b + 110) cn si sl ia la (xs (5 * i + 1)) 1 hM hB) ⟨callB_of 2 hT (fs_gin0 co_M_look) rfl rfl rfl (hT _ ini_M) (hT _ ml_L_33) (by decide +kernel) ⟨Nat.le_of_ble_eq_true rfl, Nat.le_of_ble_eq_true rfl⟩, hT _ im_M_look, hT _ se_M_look⟩ (fn_preV fs_isnw hK hN hW hM.1 rfl) rfl rfl hl.1 rfl (lv_room (Nat.le_of_ble_eq_true rfl)) dL_law_215 ⟨by show cells + 0 ≤ 601024; omega, by show slots + 0 ≤ 7293034; omega⟩) hW (fun r_19 M_20 H locs hp_21 hW => ?_)
      rcases hp_21 with ⟨er2, hno2, hM, hMf⟩ | ⟨er2, hyes2, hM, hMf⟩
      · have hC := fs_CW_frame (M2 := M_20) hC (fun a h1 h2 => hMf a (by omega))
        have ho : M_20 (b + 127) = some (.inl (ct 1, 1, .inr (.inl f))) := (hMf (b + 127) (by omega)).trans ho
        refine lv_icmp_eq (tgt := 637) hx hb dL_law_218 (by decide) (fun c_22 => ?_) (fun c_22 => ?_)
        · exact back _ _ _ _ _ ls (by omega) (by omega) ⟨_, _, _, _, _, _, _, _, _, _, _, _, _, _, _, _, _, hC, hM, ho, hJ⟩ hW (lv_sub hl [0, 1, 2, 3, 4] rfl)
        · exact absurd (er.trans er2.symm) c_22
      · exact absurd hyes2 hno
    · rw [fs_vuc (by decide)] at hC2
      have hyes3 : fs_lk cn (nI α) := by rw [← ea]; exact hyes
      have hM : fs_MW ct M_16 (b + 110) cn si sl ia la := fs_MW_frame hM (fun a h1 h2 => hCf a (by omega))
      have ho : M_16 (b + 127) = some (.inl (ct 1, 1, .inr (.inl f))) := (hCf (b + 127) (by omega)).trans ho
      have hC := hC2
      refine lv_aload_n hx hb dL_law_194 rfl (lv_at hl 3 rfl) ?_
      refine lv_aload_n hx hb dL_law_195 rfl (lv_at hl 1 rfl) ?_
      refine lv_iload hx hb dL_law_196 (lv_at hl 0 rfl) ?_
      refine lv_iconst (v := 1) hx hb dL_law_198 (by decide) ?_
      refine lv_iadd hx hb dL_law_199 ?_
      refine fl_sc (k := 1) hx hb hXs hbl hbA hW.2.2.1 (nI_add (5 * i) 1) (by omega) hL dL_law_200 ?_
      refine lv_aload_n hx hb dL_law_201 rfl (lv_at hl 1 rfl) ?_
      refine lv_iload hx hb dL_law_202 (lv_at hl 0 rfl) ?_
      refine lv_iconst (v := 2) hx hb dL_law_204 (by decide) ?_
      refine lv_iadd hx hb dL_law_205 ?_
      refine fl_sc (k := 2) hx hb hXs hbl hbA hW.2.2.1 (nI_add (5 * i) 2) (by omega) hL dL_law_206 ?_
      refine lv_if_eq (tgt := 214) hx hb dL_law_207 (by decide) (fun c_23 => ?_) (fun c_23 => ?_)
      · exact absurd c_23 c_1
      refine lv_iconst (v := 1) hx hb dL_law_210 (by decide) ?_
      refine lv_goto (tgt := 215) hx hb dL_law_211 (by decide) ?_
      refine fm_calli (va_runV (As := [.int (xs (5 * i + 1)), .int 1]) (rest := [.int r_15]) ⟨hx, hb, hml, hown, hT⟩ (c_M_look l D ct A M_16 (b + 110) cn si sl ia la (xs (5 * i + 1)) 1 hM hB) ⟨callB_of 2 hT (fs_gin0 co_M_look) rfl rfl rfl (hT _ ini_M) (hT _ ml_L_33) (by decide +kernel) ⟨Nat.le_of_ble_eq_true rfl, Nat.le_of_ble_eq_true rfl⟩, hT _ im_M_look, hT _ se_M_look⟩ (fn_preV fs_isnw hK hN hW hM.1 rfl) rfl rfl hl.1 rfl (lv_room (Nat.le_of_ble_eq_true rfl)) dL_law_215 ⟨by show cells + 0 ≤ 601024; omega, by show slots + 0 ≤ 7293034; omega⟩) hW (fun r_24 M_25 H locs hp_26 hW => ?_)
      rcases hp_26 with ⟨er2, hno2, hM, hMf⟩ | ⟨er2, hyes2, hM, hMf⟩
      · exact absurd hyes hno2
      · have hC := fs_CW_frame (M2 := M_25) hC (fun a h1 h2 => hMf a (by omega))
        have ho : M_25 (b + 127) = some (.inl (ct 1, 1, .inr (.inl f))) := (hMf (b + 127) (by omega)).trans ho
        refine lv_icmp_eq (tgt := 637) hx hb dL_law_218 (by decide) (fun c_27 => ?_) (fun c_27 => ?_)
        · exact back _ _ _ _ _ ls (by omega) (by omega) ⟨_, _, _, _, _, _, _, _, _, _, _, _, _, _, _, _, _, hC, hM, ho, (by rw [ea]; exact fs_J_look hJ hyes3 hα k1 k2 k3 k4)⟩ hW (lv_sub hl [0, 1, 2, 3, 4] rfl)
        · exact absurd (er.trans er2.symm) c_27
set_option maxHeartbeats 4000000 in
set_option maxRecDepth 100000 in
theorem fl_3 {p : Program} {l : Launch} {e : Env} {s : State} {m : MethodId} {below : List Frame} {meth : Method} {c : Code} {b0 L : Nat} {xs : Nat → Int32} {D : va_G} {ct : Nat → ClassId} {A : Nat → Prop} {b i cells slots : Nat} {M : fm_M} {H : Heap} {locs : List Loc} {ls : Array Slot} {Q : State → Prop} (C0 : fl_C p l s m c b0 L xs D ct A) (hi : 5 * i + 5 ≤ L) (hc1 : cells + 1 ≤ 601024) (hs1 : slots + 6 ≤ 7293034) (hI : fl_I ct b M) (hW : fm_W D fs_cl5 A M s.heap H locs) (hl : lv_has ls 8 [(4, .int (nI (5 * i))), (0, .ref b0), (1, .ref b), (2, .ref (b + 110)), (3, .ref (b + 127))])
    (back : ∀ (cells' slots' : Nat) (M' : fm_M) (H' : Heap) (locs' : List Loc) (ls' : Array Slot), cells' ≤ cells + 1 → slots' ≤ slots + 6 → fl_I ct b M' → fm_W D fs_cl5 A M' s.heap H' locs' → lv_has ls' 8 [(4, .int (nI (5 * i))), (0, .ref b0), (1, .ref b), (2, .ref (b + 110)), (3, .ref (b + 127))] → W p l e room_1 s m #[Value.ref b0] below meth c H' locs' cells' slots' Q (F0 m 637 ls' [])) : W p l e room_1 s m #[Value.ref b0] below meth c H locs cells slots Q (F0 m 223 ls []) := by
  obtain ⟨hx, hb, hml, hown, hT, hN, hK, hX, hXs, hbl, hbA, hL, hfl⟩ := C0
  obtain ⟨cn, kp, pn, pr, lc, lr, fr, od, cl, ck, cc, cr, si, sl, ia, la, f, hC, hM, ho, hJ⟩ := hI
  have hB := fs_J_B hJ
  refine lv_aload_n hx hb dL_law_223 rfl (lv_at hl 2 rfl) ?_
  refine lv_aload_n hx hb dL_law_224 rfl (lv_at hl 1 rfl) ?_
  refine lv_iload hx hb dL_law_225 (lv_at hl 0 rfl) ?_
  refine lv_iconst (v := 1) hx hb dL_law_227 (by decide) ?_
  refine lv_iadd hx hb dL_law_228 ?_
  refine fl_sc (k := 1) hx hb hXs hbl hbA hW.2.2.1 (nI_add (5 * i) 1) (by omega) hL dL_law_229 ?_
  refine lv_aload_n hx hb dL_law_230 rfl (lv_at hl 1 rfl) ?_
  refine lv_iload hx hb dL_law_231 (lv_at hl 0 rfl) ?_
  refine lv_iconst (v := 2) hx hb dL_law_233 (by decide) ?_
  refine lv_iadd hx hb dL_law_234 ?_
  refine fl_sc (k := 2) hx hb hXs hbl hbA hW.2.2.1 (nI_add (5 * i) 2) (by omega) hL dL_law_235 ?_
  refine lv_aload_n hx hb dL_law_236 rfl (lv_at hl 1 rfl) ?_
  refine lv_iload hx hb dL_law_237 (lv_at hl 0 rfl) ?_
  refine lv_iconst (v := 3) hx hb dL_law_239 (by decide) ?_
  refine lv_iadd hx hb dL_law_240 ?_
  refine fl_sc (k := 3) hx hb hXs hbl hbA hW.2.2.1 (nI_add (5 * i) 3) (by omega) hL dL_law_241 ?_
  refine fm_calli (va_runV (As := [.int (xs (5 * i + 1)), .int (xs (5 * i + 2)), .int (xs (5 * i + 3))]) (rest := []) ⟨hx, hb, hml, hown, hT⟩ (c_S_fault l D ct A M b cn kp pn pr lc lr fr od cl ck cc cr (xs (5 * i + 1)) (xs (5 * i + 2)) (xs (5 * i + 3)) hC hB) ⟨callB_of 3 hT (fs_gin0 co_S_fault) rfl rfl rfl (hT _ ini_S) (hT _ ml_L_34) (by decide +kernel) ⟨Nat.le_of_ble_eq_true rfl, Nat.le_of_ble_eq_true rfl⟩, hT _ im_S_fault, hT _ se_S_fault⟩ (fn_preV fs_isnw hK hN hW hC.1 rfl) rfl rfl hl.1 rfl (lv_room (Nat.le_of_ble_eq_true rfl)) dL_law_242 ⟨by show cells + 0 ≤ 601024; omega, by show slots + 0 ≤ 7293034; omega⟩) hW (fun r_1 M_2 H locs hp_3 hW => ?_)
  rcases hp_3 with ⟨er, eM, hno⟩ | ⟨er, hyes, hC2, hCf⟩
  · have hW : fm_W D fs_cl5 A M s.heap H locs := by rw [← eM]; exact hW
    refine lv_aload_n hx hb dL_law_245 rfl (lv_at hl 3 rfl) ?_
    refine lv_aload_n hx hb dL_law_246 rfl (lv_at hl 1 rfl) ?_
    refine lv_iload hx hb dL_law_247 (lv_at hl 0 rfl) ?_
    refine lv_iconst (v := 1) hx hb dL_law_249 (by decide) ?_
    refine lv_iadd hx hb dL_law_250 ?_
    refine fl_sc (k := 1) hx hb hXs hbl hbA hW.2.2.1 (nI_add (5 * i) 1) (by omega) hL dL_law_251 ?_
    refine lv_aload_n hx hb dL_law_252 rfl (lv_at hl 1 rfl) ?_
    refine lv_iload hx hb dL_law_253 (lv_at hl 0 rfl) ?_
    refine lv_iconst (v := 2) hx hb dL_law_255 (by decide) ?_
    refine lv_iadd hx hb dL_law_256 ?_
    refine fl_sc (k := 2) hx hb hXs hbl hbA hW.2.2.1 (nI_add (5 * i) 2) (by omega) hL dL_law_257 ?_
    refine lv_aload_n hx hb dL_law_258 rfl (lv_at hl 1 rfl) ?_
    refine lv_iload hx hb dL_law_259 (lv_at hl 0 rfl) ?_
    refine lv_iconst (v := 3) hx hb dL_law_261 (by decide) ?_
    refine lv_iadd hx hb dL_law_262 ?_
    refine fl_sc (k := 3) hx hb hXs hbl hbA hW.2.2.1 (nI_add (5 * i) 3) (by omega) hL dL_law_263 ?_
    refine fm_calli (va_runV (As := [.int (xs (5 * i + 1)), .int (xs (5 * i + 2)), .int (xs (5 * i + 3))]) (rest := [.int r_1]) ⟨hx, hb, hml, hown, hT⟩ (c_M_fault l D ct A M (b + 110) cn si sl ia la (xs (5 * i + 1)) (xs (5 * i + 2)) (xs (5 * i + 3)) hM hB) ⟨callB_of 3 hT (fs_gin0 co_M_fault) rfl rfl rfl (hT _ ini_M) (hT _ ml_L_38) (by decide +kernel) ⟨Nat.le_of_ble_eq_true rfl, Nat.le_of_ble_eq_true rfl⟩, hT _ im_M_fault, hT _ se_M_fault⟩ (fn_preV fs_isnw hK hN hW hM.1 rfl) rfl rfl hl.1 rfl (lv_room (Nat.le_of_ble_eq_true rfl)) dL_law_264 ⟨by show cells + 0 ≤ 601024; omega, by show slots + 0 ≤ 7293034; omega⟩) hW (fun r_4 M_5 H locs hp_6 hW => ?_)
    rcases hp_6 with ⟨er2, hno2, hM, hMf⟩ | ⟨er2, hyes2, hM, hMf⟩
    · have hC := fs_CW_frame (M2 := M_5) hC (fun a h1 h2 => hMf a (by omega))
      have ho : M_5 (b + 127) = some (.inl (ct 1, 1, .inr (.inl f))) := (hMf (b + 127) (by omega)).trans ho
      refine lv_icmp_eq (tgt := 637) hx hb dL_law_267 (by decide) (fun c_7 => ?_) (fun c_7 => ?_)
      · exact back _ _ _ _ _ ls (by omega) (by omega) ⟨_, _, _, _, _, _, _, _, _, _, _, _, _, _, _, _, _, hC, hM, ho, hJ⟩ hW (lv_sub hl [0, 1, 2, 3, 4] rfl)
      · exact absurd (er.trans er2.symm) c_7
    · exact absurd hyes2 hno
  · rw [fs_vuc (by decide)] at hC2
    have hM : fs_MW ct M_2 (b + 110) cn si sl ia la := fs_MW_frame hM (fun a h1 h2 => hCf a (by omega))
    have ho : M_2 (b + 127) = some (.inl (ct 1, 1, .inr (.inl f))) := (hCf (b + 127) (by omega)).trans ho
    have hC := hC2
    refine lv_aload_n hx hb dL_law_245 rfl (lv_at hl 3 rfl) ?_
    refine lv_aload_n hx hb dL_law_246 rfl (lv_at hl 1 rfl) ?_
    refine lv_iload hx hb dL_law_247 (lv_at hl 0 rfl) ?_
    refine lv_iconst (v := 1) hx hb dL_law_249 (by decide) ?_
    refine lv_iadd hx hb dL_law_250 ?_
    refine fl_sc (k := 1) hx hb hXs hbl hbA hW.2.2.1 (nI_add (5 * i) 1) (by omega) hL dL_law_251 ?_
    refine lv_aload_n hx hb dL_law_252 rfl (lv_at hl 1 rfl) ?_
    refine lv_iload hx hb dL_law_253 (lv_at hl 0 rfl) ?_
    refine lv_iconst (v := 2) hx hb dL_law_255 (by decide) ?_
    refine lv_iadd hx hb dL_law_256 ?_
    refine fl_sc (k := 2) hx hb hXs hbl hbA hW.2.2.1 (nI_add (5 * i) 2) (by omega) hL dL_law_257 ?_
    refine lv_aload_n hx hb dL_law_258 rfl (lv_at hl 1 rfl) ?_
    refine lv_iload hx hb dL_law_259 (lv_at hl 0 rfl) ?_
    refine lv_iconst (v := 3) hx hb dL_law_261 (by decide) ?_
    refine lv_iadd hx hb dL_law_262 ?_
    refine fl_sc (k := 3) hx hb hXs hbl hbA hW.2.2.1 (nI_add (5 * i) 3) (by omega) hL dL_law_263 ?_
    refine fm_calli (va_runV (As := [.int (xs (5 * i + 1)), .int (xs (5 * i + 2)), .int (xs (5 * i + 3))]) (rest := [.int r_1]) ⟨hx, hb, hml, hown, hT⟩ (c_M_fault l D ct A M_2 (b + 110) cn si sl ia la (xs (5 * i + 1)) (xs (5 * i + 2)) (xs (5 * i + 3)) hM hB) ⟨callB_of 3 hT (fs_gin0 co_M_fault) rfl rfl rfl (hT _ ini_M) (hT _ ml_L_38) (by decide +kernel) ⟨Nat.le_of_ble_eq_true rfl, Nat.le_of_ble_eq_true rfl⟩, hT _ im_M_fault, hT _ se_M_fault⟩ (fn_preV fs_isnw hK hN hW hM.1 rfl) rfl rfl hl.1 rfl (lv_room (Nat.le_of_ble_eq_true rfl)) dL_law_264 ⟨by show cells + 0 ≤ 601024; omega, by show slots + 0 ≤ 7293034; omega⟩) hW (fun r_8 M_9 H locs hp_10 hW => ?_)
    rcases hp_10 with ⟨er2, hno2, hM, hMf⟩ | ⟨er2, hyes2, hM, hMf⟩
    · exact absurd hyes hno2
    · have hC := fs_CW_frame (M2 := M_9) hC (fun a h1 h2 => hMf a (by omega))
      have ho : M_9 (b + 127) = some (.inl (ct 1, 1, .inr (.inl f))) := (hMf (b + 127) (by omega)).trans ho
      refine lv_icmp_eq (tgt := 637) hx hb dL_law_267 (by decide) (fun c_11 => ?_) (fun c_11 => ?_)
      · exact back _ _ _ _ _ ls (by omega) (by omega) ⟨_, _, _, _, _, _, _, _, _, _, _, _, _, _, _, _, _, hC, hM, ho, (fs_J_fault hJ hyes)⟩ hW (lv_sub hl [0, 1, 2, 3, 4] rfl)
      · exact absurd (er.trans er2.symm) c_11
set_option maxHeartbeats 4000000 in
set_option maxRecDepth 100000 in
theorem fl_4 {p : Program} {l : Launch} {e : Env} {s : State} {m : MethodId} {below : List Frame} {meth : Method} {c : Code} {b0 L : Nat} {xs : Nat → Int32} {D : va_G} {ct : Nat → ClassId} {A : Nat → Prop} {b i cells slots : Nat} {M : fm_M} {H : Heap} {locs : List Loc} {ls : Array Slot} {Q : State → Prop} (C0 : fl_C p l s m c b0 L xs D ct A) (hi : 5 * i + 5 ≤ L) (hc1 : cells + 1 ≤ 601024) (hs1 : slots + 6 ≤ 7293034) (hI : fl_I ct b M) (hW : fm_W D fs_cl5 A M s.heap H locs) (hl : lv_has ls 8 [(4, .int (nI (5 * i))), (0, .ref b0), (1, .ref b), (2, .ref (b + 110)), (3, .ref (b + 127))])
    (back : ∀ (cells' slots' : Nat) (M' : fm_M) (H' : Heap) (locs' : List Loc) (ls' : Array Slot), cells' ≤ cells + 1 → slots' ≤ slots + 6 → fl_I ct b M' → fm_W D fs_cl5 A M' s.heap H' locs' → lv_has ls' 8 [(4, .int (nI (5 * i))), (0, .ref b0), (1, .ref b), (2, .ref (b + 110)), (3, .ref (b + 127))] → W p l e room_1 s m #[Value.ref b0] below meth c H' locs' cells' slots' Q (F0 m 637 ls' [])) : W p l e room_1 s m #[Value.ref b0] below meth c H locs cells slots Q (F0 m 272 ls []) := by
  obtain ⟨hx, hb, hml, hown, hT, hN, hK, hX, hXs, hbl, hbA, hL, hfl⟩ := C0
  obtain ⟨cn, kp, pn, pr, lc, lr, fr, od, cl, ck, cc, cr, si, sl, ia, la, f, hC, hM, ho, hJ⟩ := hI
  have hB := fs_J_B hJ
  refine lv_aload_n hx hb dL_law_272 rfl (lv_at hl 2 rfl) ?_
  refine lv_aload_n hx hb dL_law_273 rfl (lv_at hl 1 rfl) ?_
  refine lv_iload hx hb dL_law_274 (lv_at hl 0 rfl) ?_
  refine lv_iconst (v := 1) hx hb dL_law_276 (by decide) ?_
  refine lv_iadd hx hb dL_law_277 ?_
  refine fl_sc (k := 1) hx hb hXs hbl hbA hW.2.2.1 (nI_add (5 * i) 1) (by omega) hL dL_law_278 ?_
  refine lv_i2l (v := (xs (5 * i + 1)).toInt64) hx hb dL_law_279 rfl ?_
  refine lv_bipush (v := 32) hx hb dL_law_280 (by decide) ?_
  refine lv_lshl (v := ((xs (5 * i + 1)).toInt64) <<< ((32 : Int32).toInt64 &&& 63)) hx hb dL_law_282 rfl ?_
  refine lv_aload_n hx hb dL_law_283 rfl (lv_at hl 1 rfl) ?_
  refine lv_iload hx hb dL_law_284 (lv_at hl 0 rfl) ?_
  refine lv_iconst (v := 2) hx hb dL_law_286 (by decide) ?_
  refine lv_iadd hx hb dL_law_287 ?_
  refine fl_sc (k := 2) hx hb hXs hbl hbA hW.2.2.1 (nI_add (5 * i) 2) (by omega) hL dL_law_288 ?_
  refine lv_i2l (v := (xs (5 * i + 2)).toInt64) hx hb dL_law_289 rfl ?_
  refine lv_ldc2 hx hb hown (hT _ cn_L_39) dL_law_290 ?_
  refine lv_land hx hb dL_law_293 ?_
  refine lv_lor hx hb dL_law_294 ?_
  obtain ⟨st, est⟩ : ∃ z : Int64, z = (((xs (5 * i + 1)).toInt64) <<< ((32 : Int32).toInt64 &&& 63)) ||| (((xs (5 * i + 2)).toInt64) &&& 4294967295) := ⟨_, rfl⟩
  rw [← est]
  refine fm_calli (va_runV (As := [.long st]) (rest := []) ⟨hx, hb, hml, hown, hT⟩ (c_S_check l D ct A M b cn kp pn pr lc lr fr od cl ck cc cr st hC hB) ⟨callB_of 1 hT (fs_gin0 co_S_check) rfl rfl rfl (hT _ ini_S) (hT _ ml_L_41) (by decide +kernel) ⟨Nat.le_of_ble_eq_true rfl, Nat.le_of_ble_eq_true rfl⟩, hT _ im_S_check, hT _ se_S_check⟩ (fn_preV fs_isnw hK hN hW hC.1 rfl) rfl rfl hl.1 rfl (lv_room (Nat.le_of_ble_eq_true rfl)) dL_law_295 ⟨by show cells + 0 ≤ 601024; omega, by show slots + 0 ≤ 7293034; omega⟩) hW (fun r_1 M_2 H locs hp_3 hW => ?_)
  rcases hp_3 with ⟨er, eM, hno⟩ | ⟨er, hyes, ck2, hC2, hCf, k1⟩
  · have hW : fm_W D fs_cl5 A M s.heap H locs := by rw [← eM]; exact hW
    refine lv_aload_n hx hb dL_law_298 rfl (lv_at hl 3 rfl) ?_
    refine lv_aload_n hx hb dL_law_299 rfl (lv_at hl 1 rfl) ?_
    refine lv_iload hx hb dL_law_300 (lv_at hl 0 rfl) ?_
    refine lv_iconst (v := 1) hx hb dL_law_302 (by decide) ?_
    refine lv_iadd hx hb dL_law_303 ?_
    refine fl_sc (k := 1) hx hb hXs hbl hbA hW.2.2.1 (nI_add (5 * i) 1) (by omega) hL dL_law_304 ?_
    refine lv_i2l (v := (xs (5 * i + 1)).toInt64) hx hb dL_law_305 rfl ?_
    refine lv_bipush (v := 32) hx hb dL_law_306 (by decide) ?_
    refine lv_lshl (v := ((xs (5 * i + 1)).toInt64) <<< ((32 : Int32).toInt64 &&& 63)) hx hb dL_law_308 rfl ?_
    refine lv_aload_n hx hb dL_law_309 rfl (lv_at hl 1 rfl) ?_
    refine lv_iload hx hb dL_law_310 (lv_at hl 0 rfl) ?_
    refine lv_iconst (v := 2) hx hb dL_law_312 (by decide) ?_
    refine lv_iadd hx hb dL_law_313 ?_
    refine fl_sc (k := 2) hx hb hXs hbl hbA hW.2.2.1 (nI_add (5 * i) 2) (by omega) hL dL_law_314 ?_
    refine lv_i2l (v := (xs (5 * i + 2)).toInt64) hx hb dL_law_315 rfl ?_
    refine lv_ldc2 hx hb hown (hT _ cn_L_39) dL_law_316 ?_
    refine lv_land hx hb dL_law_319 ?_
    refine lv_lor hx hb dL_law_320 ?_
    rw [← est]
    refine fm_calli (va_runV (As := [.long st]) (rest := [.int r_1]) ⟨hx, hb, hml, hown, hT⟩ (c_M_check l D ct A M (b + 110) cn si sl ia la st hM hB) ⟨callB_of 1 hT (fs_gin0 co_M_check) rfl rfl rfl (hT _ ini_M) (hT _ ml_L_45) (by decide +kernel) ⟨Nat.le_of_ble_eq_true rfl, Nat.le_of_ble_eq_true rfl⟩, hT _ im_M_check, hT _ se_M_check⟩ (fn_preV fs_isnw hK hN hW hM.1 rfl) rfl rfl hl.1 rfl (lv_room (Nat.le_of_ble_eq_true rfl)) dL_law_321 ⟨by show cells + 0 ≤ 601024; omega, by show slots + 0 ≤ 7293034; omega⟩) hW (fun r_4 M_5 H locs hp_6 hW => ?_)
    rcases hp_6 with ⟨er2, hno2, hM, hMf⟩ | ⟨er2, hyes2, hM, hMf⟩
    · have hC := fs_CW_frame (M2 := M_5) hC (fun a h1 h2 => hMf a (by omega))
      have ho : M_5 (b + 127) = some (.inl (ct 1, 1, .inr (.inl f))) := (hMf (b + 127) (by omega)).trans ho
      refine lv_icmp_eq (tgt := 637) hx hb dL_law_324 (by decide) (fun c_7 => ?_) (fun c_7 => ?_)
      · exact back _ _ _ _ _ ls (by omega) (by omega) ⟨_, _, _, _, _, _, _, _, _, _, _, _, _, _, _, _, _, hC, hM, ho, hJ⟩ hW (lv_sub hl [0, 1, 2, 3, 4] rfl)
      · exact absurd (er.trans er2.symm) c_7
    · exact absurd ((fs_ckk_iff hB).mp hyes2) hno
  · have hM : fs_MW ct M_2 (b + 110) cn si sl ia la := fs_MW_frame hM (fun a h1 h2 => hCf a (by omega))
    have ho : M_2 (b + 127) = some (.inl (ct 1, 1, .inr (.inl f))) := (hCf (b + 127) (by omega)).trans ho
    have hC := hC2
    refine lv_aload_n hx hb dL_law_298 rfl (lv_at hl 3 rfl) ?_
    refine lv_aload_n hx hb dL_law_299 rfl (lv_at hl 1 rfl) ?_
    refine lv_iload hx hb dL_law_300 (lv_at hl 0 rfl) ?_
    refine lv_iconst (v := 1) hx hb dL_law_302 (by decide) ?_
    refine lv_iadd hx hb dL_law_303 ?_
    refine fl_sc (k := 1) hx hb hXs hbl hbA hW.2.2.1 (nI_add (5 * i) 1) (by omega) hL dL_law_304 ?_
    refine lv_i2l (v := (xs (5 * i + 1)).toInt64) hx hb dL_law_305 rfl ?_
    refine lv_bipush (v := 32) hx hb dL_law_306 (by decide) ?_
    refine lv_lshl (v := ((xs (5 * i + 1)).toInt64) <<< ((32 : Int32).toInt64 &&& 63)) hx hb dL_law_308 rfl ?_
    refine lv_aload_n hx hb dL_law_309 rfl (lv_at hl 1 rfl) ?_
    refine lv_iload hx hb dL_law_310 (lv_at hl 0 rfl) ?_
    refine lv_iconst (v := 2) hx hb dL_law_312 (by decide) ?_
    refine lv_iadd hx hb dL_law_313 ?_
    refine fl_sc (k := 2) hx hb hXs hbl hbA hW.2.2.1 (nI_add (5 * i) 2) (by omega) hL dL_law_314 ?_
    refine lv_i2l (v := (xs (5 * i + 2)).toInt64) hx hb dL_law_315 rfl ?_
    refine lv_ldc2 hx hb hown (hT _ cn_L_39) dL_law_316 ?_
    refine lv_land hx hb dL_law_319 ?_
    refine lv_lor hx hb dL_law_320 ?_
    rw [← est]
    refine fm_calli (va_runV (As := [.long st]) (rest := [.int r_1]) ⟨hx, hb, hml, hown, hT⟩ (c_M_check l D ct A M_2 (b + 110) cn si sl ia la st hM hB) ⟨callB_of 1 hT (fs_gin0 co_M_check) rfl rfl rfl (hT _ ini_M) (hT _ ml_L_45) (by decide +kernel) ⟨Nat.le_of_ble_eq_true rfl, Nat.le_of_ble_eq_true rfl⟩, hT _ im_M_check, hT _ se_M_check⟩ (fn_preV fs_isnw hK hN hW hM.1 rfl) rfl rfl hl.1 rfl (lv_room (Nat.le_of_ble_eq_true rfl)) dL_law_321 ⟨by show cells + 0 ≤ 601024; omega, by show slots + 0 ≤ 7293034; omega⟩) hW (fun r_8 M_9 H locs hp_10 hW => ?_)
    rcases hp_10 with ⟨er2, hno2, hM, hMf⟩ | ⟨er2, hyes2, hM, hMf⟩
    · exact absurd ((fs_ckk_iff hB).mpr hyes) hno2
    · have hC := fs_CW_frame (M2 := M_9) hC (fun a h1 h2 => hMf a (by omega))
      have ho : M_9 (b + 127) = some (.inl (ct 1, 1, .inr (.inl f))) := (hMf (b + 127) (by omega)).trans ho
      refine lv_icmp_eq (tgt := 637) hx hb dL_law_324 (by decide) (fun c_11 => ?_) (fun c_11 => ?_)
      · exact back _ _ _ _ _ ls (by omega) (by omega) ⟨_, _, _, _, _, _, _, _, _, _, _, _, _, _, _, _, _, hC, hM, ho, (fs_J_check hJ hyes k1)⟩ hW (lv_sub hl [0, 1, 2, 3, 4] rfl)
      · exact absurd (er.trans er2.symm) c_11
set_option maxHeartbeats 4000000 in
set_option maxRecDepth 100000 in
theorem fl_5 {p : Program} {l : Launch} {e : Env} {s : State} {m : MethodId} {below : List Frame} {meth : Method} {c : Code} {b0 L : Nat} {xs : Nat → Int32} {D : va_G} {ct : Nat → ClassId} {A : Nat → Prop} {b i cells slots : Nat} {M : fm_M} {H : Heap} {locs : List Loc} {ls : Array Slot} {Q : State → Prop} (C0 : fl_C p l s m c b0 L xs D ct A) (hi : 5 * i + 5 ≤ L) (hc1 : cells + 1 ≤ 601024) (hs1 : slots + 6 ≤ 7293034) (hI : fl_I ct b M) (hW : fm_W D fs_cl5 A M s.heap H locs) (hl : lv_has ls 8 [(4, .int (nI (5 * i))), (0, .ref b0), (1, .ref b), (2, .ref (b + 110)), (3, .ref (b + 127))])
    (back : ∀ (cells' slots' : Nat) (M' : fm_M) (H' : Heap) (locs' : List Loc) (ls' : Array Slot), cells' ≤ cells + 1 → slots' ≤ slots + 6 → fl_I ct b M' → fm_W D fs_cl5 A M' s.heap H' locs' → lv_has ls' 8 [(4, .int (nI (5 * i))), (0, .ref b0), (1, .ref b), (2, .ref (b + 110)), (3, .ref (b + 127))] → W p l e room_1 s m #[Value.ref b0] below meth c H' locs' cells' slots' Q (F0 m 637 ls' [])) : W p l e room_1 s m #[Value.ref b0] below meth c H locs cells slots Q (F0 m 329 ls []) := by
  obtain ⟨hx, hb, hml, hown, hT, hN, hK, hX, hXs, hbl, hbA, hL, hfl⟩ := C0
  obtain ⟨cn, kp, pn, pr, lc, lr, fr, od, cl, ck, cc, cr, si, sl, ia, la, f, hC, hM, ho, hJ⟩ := hI
  have hB := fs_J_B hJ
  refine lv_aload_n hx hb dL_law_329 rfl (lv_at hl 2 rfl) ?_
  refine lv_aload_n hx hb dL_law_330 rfl (lv_at hl 1 rfl) ?_
  refine lv_iload hx hb dL_law_331 (lv_at hl 0 rfl) ?_
  refine lv_iconst (v := 1) hx hb dL_law_333 (by decide) ?_
  refine lv_iadd hx hb dL_law_334 ?_
  refine fl_sc (k := 1) hx hb hXs hbl hbA hW.2.2.1 (nI_add (5 * i) 1) (by omega) hL dL_law_335 ?_
  refine lv_aload_n hx hb dL_law_336 rfl (lv_at hl 1 rfl) ?_
  refine lv_iload hx hb dL_law_337 (lv_at hl 0 rfl) ?_
  refine lv_iconst (v := 2) hx hb dL_law_339 (by decide) ?_
  refine lv_iadd hx hb dL_law_340 ?_
  refine fl_sc (k := 2) hx hb hXs hbl hbA hW.2.2.1 (nI_add (5 * i) 2) (by omega) hL dL_law_341 ?_
  refine fm_calll (va_runV (As := [.int (xs (5 * i + 1)), .int (xs (5 * i + 2))]) (rest := []) ⟨hx, hb, hml, hown, hT⟩ (c_S_outcome l D ct A M b cn kp pn pr lc lr fr od cl ck cc cr (xs (5 * i + 1)) (xs (5 * i + 2)) hC hB) ⟨callB_of 2 hT (fs_gin0 co_S_outcome) rfl rfl rfl (hT _ ini_S) (hT _ ml_L_46) (by decide +kernel) ⟨Nat.le_of_ble_eq_true rfl, Nat.le_of_ble_eq_true rfl⟩, hT _ im_S_outcome, hT _ se_S_outcome⟩ (fn_preV fs_isnw hK hN hW hC.1 rfl) rfl rfl hl.1 rfl (lv_room (Nat.le_of_ble_eq_true rfl)) dL_law_342 ⟨by show cells + 0 ≤ 601024; omega, by show slots + 0 ≤ 7293034; omega⟩) hW (fun r_1 M_2 H locs hp_3 hW => ?_)
  have hW : fm_W D fs_cl5 A M s.heap H locs := by rw [← hp_3.1]; exact hW
  refine lv_aload_n hx hb dL_law_345 rfl (lv_at hl 3 rfl) ?_
  refine lv_aload_n hx hb dL_law_346 rfl (lv_at hl 1 rfl) ?_
  refine lv_iload hx hb dL_law_347 (lv_at hl 0 rfl) ?_
  refine lv_iconst (v := 1) hx hb dL_law_349 (by decide) ?_
  refine lv_iadd hx hb dL_law_350 ?_
  refine fl_sc (k := 1) hx hb hXs hbl hbA hW.2.2.1 (nI_add (5 * i) 1) (by omega) hL dL_law_351 ?_
  refine lv_aload_n hx hb dL_law_352 rfl (lv_at hl 1 rfl) ?_
  refine lv_iload hx hb dL_law_353 (lv_at hl 0 rfl) ?_
  refine lv_iconst (v := 2) hx hb dL_law_355 (by decide) ?_
  refine lv_iadd hx hb dL_law_356 ?_
  refine fl_sc (k := 2) hx hb hXs hbl hbA hW.2.2.1 (nI_add (5 * i) 2) (by omega) hL dL_law_357 ?_
  refine fm_calll (va_runV (As := [.int (xs (5 * i + 1)), .int (xs (5 * i + 2))]) (rest := [.long r_1]) ⟨hx, hb, hml, hown, hT⟩ (c_M_outcome l D ct A M (b + 110) cn si sl ia la kp pn lc lr (xs (5 * i + 1)) (xs (5 * i + 2)) hM hB hJ.1 (fs_J_RP hJ)) ⟨callB_of 2 hT (fs_gin0 co_M_outcome) rfl rfl rfl (hT _ ini_M) (hT _ ml_L_49) (by decide +kernel) ⟨Nat.le_of_ble_eq_true rfl, Nat.le_of_ble_eq_true rfl⟩, hT _ im_M_outcome, hT _ se_M_outcome⟩ (fn_preV fs_isnw hK hN hW hM.1 rfl) rfl rfl hl.1 rfl (lv_room (Nat.le_of_ble_eq_true rfl)) dL_law_358 ⟨by show cells + 0 ≤ 601024; omega, by show slots + 0 ≤ 7293034; omega⟩) hW (fun r_4 M_5 H locs hp_6 hW => ?_)
  obtain ⟨er2, si2, sl2, ia2, la2, hM, hMf, hpo⟩ := hp_6
  have hC := fs_CW_frame (M2 := M_5) hC (fun a h1 h2 => hMf a (by omega))
  have ho : M_5 (b + 127) = some (.inl (ct 1, 1, .inr (.inl f))) := (hMf (b + 127) (by omega)).trans ho
  refine W.lcmp hx hb dL_law_361 ?_
  refine lv_if_eq (tgt := 637) hx hb dL_law_362 (by decide) (fun c_7 => ?_) (fun c_7 => ?_)
  · exact back _ _ _ _ _ ls (by omega) (by omega) ⟨_, _, _, _, _, _, _, _, _, _, _, _, _, _, _, _, _, hC, hM, ho, (fs_J_po hJ hpo.1 hpo.2.1)⟩ hW (lv_sub hl [0, 1, 2, 3, 4] rfl)
  · exact absurd ((lg_cmp_eq _ _).mpr (hp_3.2.trans er2.symm)) c_7
set_option maxHeartbeats 4000000 in
set_option maxRecDepth 100000 in
theorem fl_6 {p : Program} {l : Launch} {e : Env} {s : State} {m : MethodId} {below : List Frame} {meth : Method} {c : Code} {b0 L : Nat} {xs : Nat → Int32} {D : va_G} {ct : Nat → ClassId} {A : Nat → Prop} {b i cells slots : Nat} {M : fm_M} {H : Heap} {locs : List Loc} {ls : Array Slot} {Q : State → Prop} (C0 : fl_C p l s m c b0 L xs D ct A) (hi : 5 * i + 5 ≤ L) (hc1 : cells + 1 ≤ 601024) (hs1 : slots + 6 ≤ 7293034) (hI : fl_I ct b M) (hW : fm_W D fs_cl5 A M s.heap H locs) (hl : lv_has ls 8 [(4, .int (nI (5 * i))), (0, .ref b0), (1, .ref b), (2, .ref (b + 110)), (3, .ref (b + 127))])
    (back : ∀ (cells' slots' : Nat) (M' : fm_M) (H' : Heap) (locs' : List Loc) (ls' : Array Slot), cells' ≤ cells + 1 → slots' ≤ slots + 6 → fl_I ct b M' → fm_W D fs_cl5 A M' s.heap H' locs' → lv_has ls' 8 [(4, .int (nI (5 * i))), (0, .ref b0), (1, .ref b), (2, .ref (b + 110)), (3, .ref (b + 127))] → W p l e room_1 s m #[Value.ref b0] below meth c H' locs' cells' slots' Q (F0 m 637 ls' [])) : W p l e room_1 s m #[Value.ref b0] below meth c H locs cells slots Q (F0 m 367 ls []) := by
  obtain ⟨hx, hb, hml, hown, hT, hN, hK, hX, hXs, hbl, hbA, hL, hfl⟩ := C0
  obtain ⟨cn, kp, pn, pr, lc, lr, fr, od, cl, ck, cc, cr, si, sl, ia, la, f, hC, hM, ho, hJ⟩ := hI
  have hB := fs_J_B hJ
  refine lv_aload_n hx hb dL_law_367 rfl (lv_at hl 2 rfl) ?_
  refine lv_aload_n hx hb dL_law_368 rfl (lv_at hl 1 rfl) ?_
  refine lv_iload hx hb dL_law_369 (lv_at hl 0 rfl) ?_
  refine lv_iconst (v := 1) hx hb dL_law_371 (by decide) ?_
  refine lv_iadd hx hb dL_law_372 ?_
  refine fl_sc (k := 1) hx hb hXs hbl hbA hW.2.2.1 (nI_add (5 * i) 1) (by omega) hL dL_law_373 ?_
  refine lv_aload_n hx hb dL_law_374 rfl (lv_at hl 1 rfl) ?_
  refine lv_iload hx hb dL_law_375 (lv_at hl 0 rfl) ?_
  refine lv_iconst (v := 2) hx hb dL_law_377 (by decide) ?_
  refine lv_iadd hx hb dL_law_378 ?_
  refine fl_sc (k := 2) hx hb hXs hbl hbA hW.2.2.1 (nI_add (5 * i) 2) (by omega) hL dL_law_379 ?_
  refine fm_calll (va_runV (As := [.int (xs (5 * i + 1)), .int (xs (5 * i + 2))]) (rest := []) ⟨hx, hb, hml, hown, hT⟩ (c_S_told l D ct A M b cn kp pn pr lc lr fr od cl ck cc cr (xs (5 * i + 1)) (xs (5 * i + 2)) hC hB) ⟨callB_of 2 hT (fs_gin0 co_S_told) rfl rfl rfl (hT _ ini_S) (hT _ ml_L_50) (by decide +kernel) ⟨Nat.le_of_ble_eq_true rfl, Nat.le_of_ble_eq_true rfl⟩, hT _ im_S_told, hT _ se_S_told⟩ (fn_preV fs_isnw hK hN hW hC.1 rfl) rfl rfl hl.1 rfl (lv_room (Nat.le_of_ble_eq_true rfl)) dL_law_380 ⟨by show cells + 0 ≤ 601024; omega, by show slots + 0 ≤ 7293034; omega⟩) hW (fun r_1 M_2 H locs hp_3 hW => ?_)
  have hW : fm_W D fs_cl5 A M s.heap H locs := by rw [← hp_3.1]; exact hW
  refine lv_aload_n hx hb dL_law_383 rfl (lv_at hl 3 rfl) ?_
  refine lv_aload_n hx hb dL_law_384 rfl (lv_at hl 1 rfl) ?_
  refine lv_iload hx hb dL_law_385 (lv_at hl 0 rfl) ?_
  refine lv_iconst (v := 1) hx hb dL_law_387 (by decide) ?_
  refine lv_iadd hx hb dL_law_388 ?_
  refine fl_sc (k := 1) hx hb hXs hbl hbA hW.2.2.1 (nI_add (5 * i) 1) (by omega) hL dL_law_389 ?_
  refine lv_aload_n hx hb dL_law_390 rfl (lv_at hl 1 rfl) ?_
  refine lv_iload hx hb dL_law_391 (lv_at hl 0 rfl) ?_
  refine lv_iconst (v := 2) hx hb dL_law_393 (by decide) ?_
  refine lv_iadd hx hb dL_law_394 ?_
  refine fl_sc (k := 2) hx hb hXs hbl hbA hW.2.2.1 (nI_add (5 * i) 2) (by omega) hL dL_law_395 ?_
  refine fm_calll (va_runV (As := [.int (xs (5 * i + 1)), .int (xs (5 * i + 2))]) (rest := [.long r_1]) ⟨hx, hb, hml, hown, hT⟩ (c_M_told l D ct A M (b + 110) cn si sl ia la kp pn lc lr cc cr (xs (5 * i + 1)) (xs (5 * i + 2)) hM hB hJ.1 (fs_J_RP hJ) (fs_J_c hJ)) ⟨callB_of 2 hT (fs_gin0 co_M_told) rfl rfl rfl (hT _ ini_M) (hT _ ml_L_53) (by decide +kernel) ⟨Nat.le_of_ble_eq_true rfl, Nat.le_of_ble_eq_true rfl⟩, hT _ im_M_told, hT _ se_M_told⟩ (fn_preV fs_isnw hK hN hW hM.1 rfl) rfl rfl hl.1 rfl (lv_room (Nat.le_of_ble_eq_true rfl)) dL_law_396 ⟨by show cells + 0 ≤ 601024; omega, by show slots + 0 ≤ 7293034; omega⟩) hW (fun r_4 M_5 H locs hp_6 hW => ?_)
  obtain ⟨er2, si2, sl2, ia2, la2, hM, hMf, hpo⟩ := hp_6
  have hC := fs_CW_frame (M2 := M_5) hC (fun a h1 h2 => hMf a (by omega))
  have ho : M_5 (b + 127) = some (.inl (ct 1, 1, .inr (.inl f))) := (hMf (b + 127) (by omega)).trans ho
  refine W.lcmp hx hb dL_law_399 ?_
  refine lv_if_eq (tgt := 637) hx hb dL_law_400 (by decide) (fun c_7 => ?_) (fun c_7 => ?_)
  · exact back _ _ _ _ _ ls (by omega) (by omega) ⟨_, _, _, _, _, _, _, _, _, _, _, _, _, _, _, _, _, hC, hM, ho, (fs_J_po hJ hpo.1 hpo.2.1)⟩ hW (lv_sub hl [0, 1, 2, 3, 4] rfl)
  · exact absurd ((lg_cmp_eq _ _).mpr (hp_3.2.trans er2.symm)) c_7
set_option maxHeartbeats 4000000 in
set_option maxRecDepth 100000 in
theorem fl_7 {p : Program} {l : Launch} {e : Env} {s : State} {m : MethodId} {below : List Frame} {meth : Method} {c : Code} {b0 L : Nat} {xs : Nat → Int32} {D : va_G} {ct : Nat → ClassId} {A : Nat → Prop} {b i cells slots : Nat} {M : fm_M} {H : Heap} {locs : List Loc} {ls : Array Slot} {Q : State → Prop} (C0 : fl_C p l s m c b0 L xs D ct A) (hi : 5 * i + 5 ≤ L) (hc1 : cells + 1 ≤ 601024) (hs1 : slots + 6 ≤ 7293034) (hI : fl_I ct b M) (hW : fm_W D fs_cl5 A M s.heap H locs) (hl : lv_has ls 8 [(4, .int (nI (5 * i))), (0, .ref b0), (1, .ref b), (2, .ref (b + 110)), (3, .ref (b + 127))])
    (back : ∀ (cells' slots' : Nat) (M' : fm_M) (H' : Heap) (locs' : List Loc) (ls' : Array Slot), cells' ≤ cells + 1 → slots' ≤ slots + 6 → fl_I ct b M' → fm_W D fs_cl5 A M' s.heap H' locs' → lv_has ls' 8 [(4, .int (nI (5 * i))), (0, .ref b0), (1, .ref b), (2, .ref (b + 110)), (3, .ref (b + 127))] → W p l e room_1 s m #[Value.ref b0] below meth c H' locs' cells' slots' Q (F0 m 637 ls' [])) : W p l e room_1 s m #[Value.ref b0] below meth c H locs cells slots Q (F0 m 405 ls []) := by
  obtain ⟨hx, hb, hml, hown, hT, hN, hK, hX, hXs, hbl, hbA, hL, hfl⟩ := C0
  obtain ⟨cn, kp, pn, pr, lc, lr, fr, od, cl, ck, cc, cr, si, sl, ia, la, f, hC, hM, ho, hJ⟩ := hI
  have hB := fs_J_B hJ
  refine lv_aload_n hx hb dL_law_405 rfl (lv_at hl 2 rfl) ?_
  refine lv_aload_n hx hb dL_law_406 rfl (lv_at hl 1 rfl) ?_
  refine lv_iload hx hb dL_law_407 (lv_at hl 0 rfl) ?_
  refine lv_iconst (v := 1) hx hb dL_law_409 (by decide) ?_
  refine lv_iadd hx hb dL_law_410 ?_
  refine fl_sc (k := 1) hx hb hXs hbl hbA hW.2.2.1 (nI_add (5 * i) 1) (by omega) hL dL_law_411 ?_
  refine lv_aload_n hx hb dL_law_412 rfl (lv_at hl 1 rfl) ?_
  refine lv_iload hx hb dL_law_413 (lv_at hl 0 rfl) ?_
  refine lv_iconst (v := 2) hx hb dL_law_415 (by decide) ?_
  refine lv_iadd hx hb dL_law_416 ?_
  refine fl_sc (k := 2) hx hb hXs hbl hbA hW.2.2.1 (nI_add (5 * i) 2) (by omega) hL dL_law_417 ?_
  refine fm_calll (va_runV (As := [.int (xs (5 * i + 1)), .int (xs (5 * i + 2))]) (rest := []) ⟨hx, hb, hml, hown, hT⟩ (c_S_changes l D ct A M b cn kp pn pr lc lr fr od cl ck cc cr (xs (5 * i + 1)) (xs (5 * i + 2)) hC hB) ⟨callB_of 2 hT (fs_gin0 co_S_changes) rfl rfl rfl (hT _ ini_S) (hT _ ml_L_54) (by decide +kernel) ⟨Nat.le_of_ble_eq_true rfl, Nat.le_of_ble_eq_true rfl⟩, hT _ im_S_changes, hT _ se_S_changes⟩ (fn_preV fs_isnw hK hN hW hC.1 rfl) rfl rfl hl.1 rfl (lv_room (Nat.le_of_ble_eq_true rfl)) dL_law_418 ⟨by show cells + 0 ≤ 601024; omega, by show slots + 0 ≤ 7293034; omega⟩) hW (fun r_1 M_2 H locs hp_3 hW => ?_)
  have hW : fm_W D fs_cl5 A M s.heap H locs := by rw [← hp_3.1]; exact hW
  refine lv_aload_n hx hb dL_law_421 rfl (lv_at hl 3 rfl) ?_
  refine lv_aload_n hx hb dL_law_422 rfl (lv_at hl 1 rfl) ?_
  refine lv_iload hx hb dL_law_423 (lv_at hl 0 rfl) ?_
  refine lv_iconst (v := 1) hx hb dL_law_425 (by decide) ?_
  refine lv_iadd hx hb dL_law_426 ?_
  refine fl_sc (k := 1) hx hb hXs hbl hbA hW.2.2.1 (nI_add (5 * i) 1) (by omega) hL dL_law_427 ?_
  refine lv_aload_n hx hb dL_law_428 rfl (lv_at hl 1 rfl) ?_
  refine lv_iload hx hb dL_law_429 (lv_at hl 0 rfl) ?_
  refine lv_iconst (v := 2) hx hb dL_law_431 (by decide) ?_
  refine lv_iadd hx hb dL_law_432 ?_
  refine fl_sc (k := 2) hx hb hXs hbl hbA hW.2.2.1 (nI_add (5 * i) 2) (by omega) hL dL_law_433 ?_
  refine fm_calll (va_runV (As := [.int (xs (5 * i + 1)), .int (xs (5 * i + 2))]) (rest := [.long r_1]) ⟨hx, hb, hml, hown, hT⟩ (c_M_changes l D ct A M (b + 110) cn si sl ia la cl ck (xs (5 * i + 1)) (xs (5 * i + 2)) hM hB (fs_J_F hJ)) ⟨callB_of 2 hT (fs_gin0 co_M_changes) rfl rfl rfl (hT _ ini_M) (hT _ ml_L_57) (by decide +kernel) ⟨Nat.le_of_ble_eq_true rfl, Nat.le_of_ble_eq_true rfl⟩, hT _ im_M_changes, hT _ se_M_changes⟩ (fn_preV fs_isnw hK hN hW hM.1 rfl) rfl rfl hl.1 rfl (lv_room (Nat.le_of_ble_eq_true rfl)) dL_law_434 ⟨by show cells + 0 ≤ 601024; omega, by show slots + 0 ≤ 7293034; omega⟩) hW (fun r_4 M_5 H locs hp_6 hW => ?_)
  obtain ⟨er2, si2, sl2, ia2, la2, hM, hMf, hpo⟩ := hp_6
  have hC := fs_CW_frame (M2 := M_5) hC (fun a h1 h2 => hMf a (by omega))
  have ho : M_5 (b + 127) = some (.inl (ct 1, 1, .inr (.inl f))) := (hMf (b + 127) (by omega)).trans ho
  refine W.lcmp hx hb dL_law_437 ?_
  refine lv_if_eq (tgt := 637) hx hb dL_law_438 (by decide) (fun c_7 => ?_) (fun c_7 => ?_)
  · exact back _ _ _ _ _ ls (by omega) (by omega) ⟨_, _, _, _, _, _, _, _, _, _, _, _, _, _, _, _, _, hC, hM, ho, (fs_J_po hJ hpo.1 hpo.2.1)⟩ hW (lv_sub hl [0, 1, 2, 3, 4] rfl)
  · exact absurd ((lg_cmp_eq _ _).mpr (hp_3.2.trans er2.symm)) c_7
set_option maxHeartbeats 4000000 in
set_option maxRecDepth 100000 in
theorem fl_9 {p : Program} {l : Launch} {e : Env} {s : State} {m : MethodId} {below : List Frame} {meth : Method} {c : Code} {b0 L : Nat} {xs : Nat → Int32} {D : va_G} {ct : Nat → ClassId} {A : Nat → Prop} {b i cells slots : Nat} {M : fm_M} {H : Heap} {locs : List Loc} {ls : Array Slot} {Q : State → Prop} (C0 : fl_C p l s m c b0 L xs D ct A) (hi : 5 * i + 5 ≤ L) (hc1 : cells + 1 ≤ 601024) (hs1 : slots + 6 ≤ 7293034) (hI : fl_I ct b M) (hW : fm_W D fs_cl5 A M s.heap H locs) (hl : lv_has ls 8 [(4, .int (nI (5 * i))), (0, .ref b0), (1, .ref b), (2, .ref (b + 110)), (3, .ref (b + 127))])
    (back : ∀ (cells' slots' : Nat) (M' : fm_M) (H' : Heap) (locs' : List Loc) (ls' : Array Slot), cells' ≤ cells + 1 → slots' ≤ slots + 6 → fl_I ct b M' → fm_W D fs_cl5 A M' s.heap H' locs' → lv_has ls' 8 [(4, .int (nI (5 * i))), (0, .ref b0), (1, .ref b), (2, .ref (b + 110)), (3, .ref (b + 127))] → W p l e room_1 s m #[Value.ref b0] below meth c H' locs' cells' slots' Q (F0 m 637 ls' [])) : W p l e room_1 s m #[Value.ref b0] below meth c H locs cells slots Q (F0 m 510 ls []) := by
  obtain ⟨hx, hb, hml, hown, hT, hN, hK, hX, hXs, hbl, hbA, hL, hfl⟩ := C0
  obtain ⟨cn, kp, pn, pr, lc, lr, fr, od, cl, ck, cc, cr, si, sl, ia, la, f, hC, hM, ho, hJ⟩ := hI
  have hB := fs_J_B hJ
  refine lv_aload_n hx hb dL_law_510 rfl (lv_at hl 2 rfl) ?_
  refine lv_aload_n hx hb dL_law_511 rfl (lv_at hl 1 rfl) ?_
  refine lv_iload hx hb dL_law_512 (lv_at hl 0 rfl) ?_
  refine lv_iconst (v := 1) hx hb dL_law_514 (by decide) ?_
  refine lv_iadd hx hb dL_law_515 ?_
  refine fl_sc (k := 1) hx hb hXs hbl hbA hW.2.2.1 (nI_add (5 * i) 1) (by omega) hL dL_law_516 ?_
  refine lv_i2l (v := (xs (5 * i + 1)).toInt64) hx hb dL_law_517 rfl ?_
  refine lv_bipush (v := 32) hx hb dL_law_518 (by decide) ?_
  refine lv_lshl (v := ((xs (5 * i + 1)).toInt64) <<< ((32 : Int32).toInt64 &&& 63)) hx hb dL_law_520 rfl ?_
  refine lv_aload_n hx hb dL_law_521 rfl (lv_at hl 1 rfl) ?_
  refine lv_iload hx hb dL_law_522 (lv_at hl 0 rfl) ?_
  refine lv_iconst (v := 2) hx hb dL_law_524 (by decide) ?_
  refine lv_iadd hx hb dL_law_525 ?_
  refine fl_sc (k := 2) hx hb hXs hbl hbA hW.2.2.1 (nI_add (5 * i) 2) (by omega) hL dL_law_526 ?_
  refine lv_i2l (v := (xs (5 * i + 2)).toInt64) hx hb dL_law_527 rfl ?_
  refine lv_ldc2 hx hb hown (hT _ cn_L_39) dL_law_528 ?_
  refine lv_land hx hb dL_law_531 ?_
  refine lv_lor hx hb dL_law_532 ?_
  refine lv_aload_n hx hb dL_law_533 rfl (lv_at hl 1 rfl) ?_
  refine lv_iload hx hb dL_law_534 (lv_at hl 0 rfl) ?_
  refine lv_iconst (v := 3) hx hb dL_law_536 (by decide) ?_
  refine lv_iadd hx hb dL_law_537 ?_
  refine fl_sc (k := 3) hx hb hXs hbl hbA hW.2.2.1 (nI_add (5 * i) 3) (by omega) hL dL_law_538 ?_
  refine lv_i2l (v := (xs (5 * i + 3)).toInt64) hx hb dL_law_539 rfl ?_
  refine lv_bipush (v := 32) hx hb dL_law_540 (by decide) ?_
  refine lv_lshl (v := ((xs (5 * i + 3)).toInt64) <<< ((32 : Int32).toInt64 &&& 63)) hx hb dL_law_542 rfl ?_
  refine lv_aload_n hx hb dL_law_543 rfl (lv_at hl 1 rfl) ?_
  refine lv_iload hx hb dL_law_544 (lv_at hl 0 rfl) ?_
  refine lv_iconst (v := 4) hx hb dL_law_546 (by decide) ?_
  refine lv_iadd hx hb dL_law_547 ?_
  refine fl_sc (k := 4) hx hb hXs hbl hbA hW.2.2.1 (nI_add (5 * i) 4) (by omega) hL dL_law_548 ?_
  refine lv_i2l (v := (xs (5 * i + 4)).toInt64) hx hb dL_law_549 rfl ?_
  refine lv_ldc2 hx hb hown (hT _ cn_L_39) dL_law_550 ?_
  refine lv_land hx hb dL_law_553 ?_
  refine lv_lor hx hb dL_law_554 ?_
  obtain ⟨z1, ez1⟩ : ∃ z : Int64, z = (((xs (5 * i + 1)).toInt64) <<< ((32 : Int32).toInt64 &&& 63)) ||| (((xs (5 * i + 2)).toInt64) &&& 4294967295) := ⟨_, rfl⟩
  rw [← ez1]
  obtain ⟨z0, ez0⟩ : ∃ z : Int64, z = (((xs (5 * i + 3)).toInt64) <<< ((32 : Int32).toInt64 &&& 63)) ||| (((xs (5 * i + 4)).toInt64) &&& 4294967295) := ⟨_, rfl⟩
  rw [← ez0]
  refine fm_calll (va_runV (As := [.long z1, .long z0]) (rest := []) ⟨hx, hb, hml, hown, hT⟩ (c_S_run l D ct A M b cn kp pn pr lc lr fr od cl ck cc cr z1 z0 hC hB) ⟨callB_of 2 hT (fs_gin0 co_S_run) rfl rfl rfl (hT _ ini_S) (hT _ ml_L_68) (by decide +kernel) ⟨Nat.le_of_ble_eq_true rfl, Nat.le_of_ble_eq_true rfl⟩, hT _ im_S_run, hT _ se_S_run⟩ (fn_preV fs_isnw hK hN hW hC.1 rfl) rfl rfl hl.1 rfl (lv_room (Nat.le_of_ble_eq_true rfl)) dL_law_555 ⟨by show cells + 0 ≤ 601024; omega, by show slots + 0 ≤ 7293034; omega⟩) hW (fun r_1 M_2 H locs hp_3 hW => ?_)
  have hW : fm_W D fs_cl5 A M s.heap H locs := by rw [← hp_3.1]; exact hW
  refine lv_aload_n hx hb dL_law_558 rfl (lv_at hl 3 rfl) ?_
  refine lv_aload_n hx hb dL_law_559 rfl (lv_at hl 1 rfl) ?_
  refine lv_iload hx hb dL_law_560 (lv_at hl 0 rfl) ?_
  refine lv_iconst (v := 1) hx hb dL_law_562 (by decide) ?_
  refine lv_iadd hx hb dL_law_563 ?_
  refine fl_sc (k := 1) hx hb hXs hbl hbA hW.2.2.1 (nI_add (5 * i) 1) (by omega) hL dL_law_564 ?_
  refine lv_i2l (v := (xs (5 * i + 1)).toInt64) hx hb dL_law_565 rfl ?_
  refine lv_bipush (v := 32) hx hb dL_law_566 (by decide) ?_
  refine lv_lshl (v := ((xs (5 * i + 1)).toInt64) <<< ((32 : Int32).toInt64 &&& 63)) hx hb dL_law_568 rfl ?_
  refine lv_aload_n hx hb dL_law_569 rfl (lv_at hl 1 rfl) ?_
  refine lv_iload hx hb dL_law_570 (lv_at hl 0 rfl) ?_
  refine lv_iconst (v := 2) hx hb dL_law_572 (by decide) ?_
  refine lv_iadd hx hb dL_law_573 ?_
  refine fl_sc (k := 2) hx hb hXs hbl hbA hW.2.2.1 (nI_add (5 * i) 2) (by omega) hL dL_law_574 ?_
  refine lv_i2l (v := (xs (5 * i + 2)).toInt64) hx hb dL_law_575 rfl ?_
  refine lv_ldc2 hx hb hown (hT _ cn_L_39) dL_law_576 ?_
  refine lv_land hx hb dL_law_579 ?_
  refine lv_lor hx hb dL_law_580 ?_
  refine lv_aload_n hx hb dL_law_581 rfl (lv_at hl 1 rfl) ?_
  refine lv_iload hx hb dL_law_582 (lv_at hl 0 rfl) ?_
  refine lv_iconst (v := 3) hx hb dL_law_584 (by decide) ?_
  refine lv_iadd hx hb dL_law_585 ?_
  refine fl_sc (k := 3) hx hb hXs hbl hbA hW.2.2.1 (nI_add (5 * i) 3) (by omega) hL dL_law_586 ?_
  refine lv_i2l (v := (xs (5 * i + 3)).toInt64) hx hb dL_law_587 rfl ?_
  refine lv_bipush (v := 32) hx hb dL_law_588 (by decide) ?_
  refine lv_lshl (v := ((xs (5 * i + 3)).toInt64) <<< ((32 : Int32).toInt64 &&& 63)) hx hb dL_law_590 rfl ?_
  refine lv_aload_n hx hb dL_law_591 rfl (lv_at hl 1 rfl) ?_
  refine lv_iload hx hb dL_law_592 (lv_at hl 0 rfl) ?_
  refine lv_iconst (v := 4) hx hb dL_law_594 (by decide) ?_
  refine lv_iadd hx hb dL_law_595 ?_
  refine fl_sc (k := 4) hx hb hXs hbl hbA hW.2.2.1 (nI_add (5 * i) 4) (by omega) hL dL_law_596 ?_
  refine lv_i2l (v := (xs (5 * i + 4)).toInt64) hx hb dL_law_597 rfl ?_
  refine lv_ldc2 hx hb hown (hT _ cn_L_39) dL_law_598 ?_
  refine lv_land hx hb dL_law_601 ?_
  refine lv_lor hx hb dL_law_602 ?_
  rw [← ez1]
  rw [← ez0]
  refine fm_calll (va_runV (As := [.long z1, .long z0]) (rest := [.long r_1]) ⟨hx, hb, hml, hown, hT⟩ (c_M_run l D ct A M (b + 110) cn si sl ia la kp pn lc lr cl ck z1 z0 hM hB hJ.1 (fs_J_RP hJ) (fs_J_F hJ)) ⟨callB_of 2 hT (fs_gin0 co_M_run) rfl rfl rfl (hT _ ini_M) (hT _ ml_L_72) (by decide +kernel) ⟨Nat.le_of_ble_eq_true rfl, Nat.le_of_ble_eq_true rfl⟩, hT _ im_M_run, hT _ se_M_run⟩ (fn_preV fs_isnw hK hN hW hM.1 rfl) rfl rfl hl.1 rfl (lv_room (Nat.le_of_ble_eq_true rfl)) dL_law_603 ⟨by show cells + 0 ≤ 601024; omega, by show slots + 0 ≤ 7293034; omega⟩) hW (fun r_4 M_5 H locs hp_6 hW => ?_)
  obtain ⟨er2, si2, sl2, ia2, la2, hM, hMf, hpo⟩ := hp_6
  have hC := fs_CW_frame (M2 := M_5) hC (fun a h1 h2 => hMf a (by omega))
  have ho : M_5 (b + 127) = some (.inl (ct 1, 1, .inr (.inl f))) := (hMf (b + 127) (by omega)).trans ho
  refine W.lcmp hx hb dL_law_606 ?_
  refine lv_if_eq (tgt := 637) hx hb dL_law_607 (by decide) (fun c_7 => ?_) (fun c_7 => ?_)
  · exact back _ _ _ _ _ ls (by omega) (by omega) ⟨_, _, _, _, _, _, _, _, _, _, _, _, _, _, _, _, _, hC, hM, ho, (fs_J_po hJ hpo.1 hpo.2.1)⟩ hW (lv_sub hl [0, 1, 2, 3, 4] rfl)
  · exact absurd ((lg_cmp_eq _ _).mpr (hp_3.2.trans er2.symm)) c_7
set_option maxHeartbeats 4000000 in
set_option maxRecDepth 100000 in
theorem fl_10 {p : Program} {l : Launch} {e : Env} {s : State} {m : MethodId} {below : List Frame} {meth : Method} {c : Code} {b0 L : Nat} {xs : Nat → Int32} {D : va_G} {ct : Nat → ClassId} {A : Nat → Prop} {b i cells slots : Nat} {M : fm_M} {H : Heap} {locs : List Loc} {ls : Array Slot} {Q : State → Prop} (C0 : fl_C p l s m c b0 L xs D ct A) (hi : 5 * i + 5 ≤ L) (hc1 : cells + 1 ≤ 601024) (hs1 : slots + 6 ≤ 7293034) (hI : fl_I ct b M) (hW : fm_W D fs_cl5 A M s.heap H locs) (hl : lv_has ls 8 [(4, .int (nI (5 * i))), (0, .ref b0), (1, .ref b), (2, .ref (b + 110)), (3, .ref (b + 127))])
    (back : ∀ (cells' slots' : Nat) (M' : fm_M) (H' : Heap) (locs' : List Loc) (ls' : Array Slot), cells' ≤ cells + 1 → slots' ≤ slots + 6 → fl_I ct b M' → fm_W D fs_cl5 A M' s.heap H' locs' → lv_has ls' 8 [(4, .int (nI (5 * i))), (0, .ref b0), (1, .ref b), (2, .ref (b + 110)), (3, .ref (b + 127))] → W p l e room_1 s m #[Value.ref b0] below meth c H' locs' cells' slots' Q (F0 m 637 ls' [])) : W p l e room_1 s m #[Value.ref b0] below meth c H locs cells slots Q (F0 m 612 ls []) := by
  obtain ⟨hx, hb, hml, hown, hT, hN, hK, hX, hXs, hbl, hbA, hL, hfl⟩ := C0
  obtain ⟨cn, kp, pn, pr, lc, lr, fr, od, cl, ck, cc, cr, si, sl, ia, la, f, hC, hM, ho, hJ⟩ := hI
  have hB := fs_J_B hJ
  refine lv_aload_n hx hb dL_law_612 rfl (lv_at hl 2 rfl) ?_
  refine lv_aload_n hx hb dL_law_613 rfl (lv_at hl 1 rfl) ?_
  refine lv_iload hx hb dL_law_614 (lv_at hl 0 rfl) ?_
  refine lv_iconst (v := 1) hx hb dL_law_616 (by decide) ?_
  refine lv_iadd hx hb dL_law_617 ?_
  refine fl_sc (k := 1) hx hb hXs hbl hbA hW.2.2.1 (nI_add (5 * i) 1) (by omega) hL dL_law_618 ?_
  refine fm_calli (va_runV (As := [.int (xs (5 * i + 1))]) (rest := []) ⟨hx, hb, hml, hown, hT⟩ (c_S_total l D ct A M b cn kp pn pr lc lr fr od cl ck cc cr (xs (5 * i + 1)) hC hB) ⟨callB_of 1 hT (fs_gin0 co_S_total) rfl rfl rfl (hT _ ini_S) (hT _ ml_L_73) (by decide +kernel) ⟨Nat.le_of_ble_eq_true rfl, Nat.le_of_ble_eq_true rfl⟩, hT _ im_S_total, hT _ se_S_total⟩ (fn_preV fs_isnw hK hN hW hC.1 rfl) rfl rfl hl.1 rfl (lv_room (Nat.le_of_ble_eq_true rfl)) dL_law_619 ⟨by show cells + 0 ≤ 601024; omega, by show slots + 0 ≤ 7293034; omega⟩) hW (fun r_1 M_2 H locs hp_3 hW => ?_)
  have hW : fm_W D fs_cl5 A M s.heap H locs := by rw [← hp_3.2]; exact hW
  refine lv_aload_n hx hb dL_law_622 rfl (lv_at hl 3 rfl) ?_
  refine lv_aload_n hx hb dL_law_623 rfl (lv_at hl 1 rfl) ?_
  refine lv_iload hx hb dL_law_624 (lv_at hl 0 rfl) ?_
  refine lv_iconst (v := 1) hx hb dL_law_626 (by decide) ?_
  refine lv_iadd hx hb dL_law_627 ?_
  refine fl_sc (k := 1) hx hb hXs hbl hbA hW.2.2.1 (nI_add (5 * i) 1) (by omega) hL dL_law_628 ?_
  refine fm_calli (va_runV (As := [.int (xs (5 * i + 1))]) (rest := [.int r_1]) ⟨hx, hb, hml, hown, hT⟩ (c_M_total l D ct A M (b + 110) cn si sl ia la cl ck (xs (5 * i + 1)) hM hB (fs_J_F hJ)) ⟨callB_of 1 hT (fs_gin0 co_M_total) rfl rfl rfl (hT _ ini_M) (hT _ ml_L_77) (by decide +kernel) ⟨Nat.le_of_ble_eq_true rfl, Nat.le_of_ble_eq_true rfl⟩, hT _ im_M_total, hT _ se_M_total⟩ (fn_preV fs_isnw hK hN hW hM.1 rfl) rfl rfl hl.1 rfl (lv_room (Nat.le_of_ble_eq_true rfl)) dL_law_629 ⟨by show cells + 0 ≤ 601024; omega, by show slots + 0 ≤ 7293034; omega⟩) hW (fun r_4 M_5 H locs hp_6 hW => ?_)
  obtain ⟨er2, si2, sl2, ia2, la2, hM, hMf, hpo⟩ := hp_6
  have hC := fs_CW_frame (M2 := M_5) hC (fun a h1 h2 => hMf a (by omega))
  have ho : M_5 (b + 127) = some (.inl (ct 1, 1, .inr (.inl f))) := (hMf (b + 127) (by omega)).trans ho
  refine lv_icmp_eq (tgt := 637) hx hb dL_law_632 (by decide) (fun c_7 => ?_) (fun c_7 => ?_)
  · exact back _ _ _ _ _ ls (by omega) (by omega) ⟨_, _, _, _, _, _, _, _, _, _, _, _, _, _, _, _, _, hC, hM, ho, (fs_J_po hJ hpo.1 hpo.2.1)⟩ hW (lv_sub hl [0, 1, 2, 3, 4] rfl)
  · exact absurd (hp_3.1.trans er2.symm) c_7
set_option maxHeartbeats 4000000 in
set_option maxRecDepth 100000 in
theorem fl_8 {p : Program} {l : Launch} {e : Env} {s : State} {m : MethodId} {below : List Frame} {meth : Method} {c : Code} {b0 L : Nat} {xs : Nat → Int32} {D : va_G} {ct : Nat → ClassId} {A : Nat → Prop} {b i cells slots : Nat} {M : fm_M} {H : Heap} {locs : List Loc} {ls : Array Slot} {Q : State → Prop} (C0 : fl_C p l s m c b0 L xs D ct A) (hi : 5 * i + 5 ≤ L) (hc1 : cells + 1 ≤ 601024) (hs1 : slots + 6 ≤ 7293034) (hI : fl_I ct b M) (hW : fm_W D fs_cl5 A M s.heap H locs) (hl : lv_has ls 8 [(4, .int (nI (5 * i))), (0, .ref b0), (1, .ref b), (2, .ref (b + 110)), (3, .ref (b + 127))])
    (back : ∀ (cells' slots' : Nat) (M' : fm_M) (H' : Heap) (locs' : List Loc) (ls' : Array Slot), cells' ≤ cells + 1 → slots' ≤ slots + 6 → fl_I ct b M' → fm_W D fs_cl5 A M' s.heap H' locs' → lv_has ls' 8 [(4, .int (nI (5 * i))), (0, .ref b0), (1, .ref b), (2, .ref (b + 110)), (3, .ref (b + 127))] → W p l e room_1 s m #[Value.ref b0] below meth c H' locs' cells' slots' Q (F0 m 637 ls' [])) : W p l e room_1 s m #[Value.ref b0] below meth c H locs cells slots Q (F0 m 443 ls []) := by
  obtain ⟨hx, hb, hml, hown, hT, hN, hK, hX, hXs, hbl, hbA, hL, hfl⟩ := C0
  obtain ⟨cn, kp, pn, pr, lc, lr, fr, od, cl, ck, cc, cr, si, sl, ia, la, f, hC, hM, ho, hJ⟩ := hI
  have hB := fs_J_B hJ
  refine lv_aload_n hx hb dL_law_443 rfl (lv_at hl 2 rfl) ?_
  refine lv_aload_n hx hb dL_law_444 rfl (lv_at hl 1 rfl) ?_
  refine lv_iload hx hb dL_law_445 (lv_at hl 0 rfl) ?_
  refine lv_iconst (v := 1) hx hb dL_law_447 (by decide) ?_
  refine lv_iadd hx hb dL_law_448 ?_
  refine fl_sc (k := 1) hx hb hXs hbl hbA hW.2.2.1 (nI_add (5 * i) 1) (by omega) hL dL_law_449 ?_
  refine lv_aload_n hx hb dL_law_450 rfl (lv_at hl 1 rfl) ?_
  refine lv_iload hx hb dL_law_451 (lv_at hl 0 rfl) ?_
  refine lv_iconst (v := 2) hx hb dL_law_453 (by decide) ?_
  refine lv_iadd hx hb dL_law_454 ?_
  refine fl_sc (k := 2) hx hb hXs hbl hbA hW.2.2.1 (nI_add (5 * i) 2) (by omega) hL dL_law_455 ?_
  refine lv_aload_n hx hb dL_law_456 rfl (lv_at hl 4 rfl) ?_
  refine fm_calli (ft_runSW (n := 4) (As := [.ref b, .int (xs (5 * i + 1)), .int (xs (5 * i + 2)), .ref (b + 127)]) (rest := []) ⟨hx, hb, hml, hown, hT⟩ (c_L_edge l hfl D ct A M b cn kp pn pr lc lr fr od cl ck cc cr (b + 127) f (xs (5 * i + 1)) (xs (5 * i + 2)) hC hB ho) (fs_gin0 cw_L_edge) rfl rfl rfl (hT _ ini_L) (hT _ ml_L_58) (hT _ st_L_edge) (by decide +kernel) ⟨Nat.le_of_ble_eq_true rfl, Nat.le_of_ble_eq_true rfl⟩ (ft_pre fs_isnw hK hN hX hW) rfl rfl hl.1 rfl (lv_room (Nat.le_of_ble_eq_true rfl)) dL_law_457 ⟨by show cells + 1 ≤ 601024; omega, by show slots + 6 ≤ 7293034; omega⟩) hW (fun r_1 M_2 H locs hp_3 hW => ?_)
  have hR : ∃ (f2 : Nat → Int64) (v : Int64), fs_ER (cn 3) ck od (xs (5 * i + 1)) (xs (5 * i + 2)) r_1 v ∧ (r_1 = 0 → f2 0 = v) ∧ fs_CW ct M_2 b cn kp pn pr lc lr fr od cl ck cc cr ∧ fs_MW ct M_2 (b + 110) cn si sl ia la ∧ M_2 (b + 127) = some (.inl (ct 1, 1, .inr (.inl f2))) := by
    rcases hp_3 with ⟨er, v, hE, eM⟩ | ⟨er, eM, v, hE⟩
    · refine ⟨vp_updL f 0 v, v, by rw [er]; exact hE, fun _ => if_pos rfl, ?_, ?_, ?_⟩
      · exact fs_CW_frame hC (fun a h1 h2 => by rw [eM]; exact fm_un (by omega))
      · exact fs_MW_frame hM (fun a h1 h2 => by rw [eM]; exact fm_un (by omega))
      · rw [eM]; exact fm_us
    · refine ⟨f, v, by rw [er]; exact hE, fun z => absurd (er.symm.trans z) (by decide), ?_, ?_, ?_⟩
      · rw [eM]; exact hC
      · rw [eM]; exact hM
      · rw [eM]; exact ho
  clear hp_3 hC hM ho
  obtain ⟨f2, v, hE, hv0, hC, hM, ho⟩ := hR
  refine lv_istore (lv' := [(5, .int r_1), (4, .int (nI (5 * i))), (0, .ref b0), (1, .ref b), (2, .ref (b + 110)), (3, .ref (b + 127))]) hx hb dL_law_460 hl (by decide) rfl (fun ls hl => ?_)
  refine lv_aload_n hx hb dL_law_462 rfl (lv_at hl 4 rfl) ?_
  refine lv_aload_n hx hb dL_law_463 rfl (lv_at hl 2 rfl) ?_
  refine lv_iload hx hb dL_law_464 (lv_at hl 1 rfl) ?_
  refine lv_iconst (v := 1) hx hb dL_law_466 (by decide) ?_
  refine lv_iadd hx hb dL_law_467 ?_
  refine fl_sc (k := 1) hx hb hXs hbl hbA hW.2.2.1 (nI_add (5 * i) 1) (by omega) hL dL_law_468 ?_
  refine lv_aload_n hx hb dL_law_469 rfl (lv_at hl 2 rfl) ?_
  refine lv_iload hx hb dL_law_470 (lv_at hl 1 rfl) ?_
  refine lv_iconst (v := 2) hx hb dL_law_472 (by decide) ?_
  refine lv_iadd hx hb dL_law_473 ?_
  refine fl_sc (k := 2) hx hb hXs hbl hbA hW.2.2.1 (nI_add (5 * i) 2) (by omega) hL dL_law_474 ?_
  refine fm_calll (va_runV (As := [.int (xs (5 * i + 1)), .int (xs (5 * i + 2))]) (rest := []) ⟨hx, hb, hml, hown, hT⟩ (c_M_edge l D ct A M_2 (b + 110) cn si sl ia la cl ck od (xs (5 * i + 1)) (xs (5 * i + 2)) hM hB (fs_J_F hJ) (fs_J_O hJ)) ⟨callB_of 2 hT (fs_gin0 co_M_edge) rfl rfl rfl (hT _ ini_M) (hT _ ml_L_63) (by decide +kernel) ⟨Nat.le_of_ble_eq_true rfl, Nat.le_of_ble_eq_true rfl⟩, hT _ im_M_edge, hT _ se_M_edge⟩ (fn_preV fs_isnw hK hN hW hM.1 rfl) rfl rfl hl.1 rfl (lv_room (Nat.le_of_ble_eq_true rfl)) dL_law_475 ⟨by show cells + 1 + 0 ≤ 601024; omega, by show slots + 6 + 0 ≤ 7293034; omega⟩) hW (fun r_4 M_5 H locs hp_6 hW => ?_)
  obtain ⟨si2, sl2, ia2, la2, hM, hMf, hp1, hp3, hE2⟩ := hp_6
  have hC := fs_CW_frame (M2 := M_5) hC (fun a h1 h2 => hMf a (by omega))
  have ho : M_5 (b + 127) = some (.inl (ct 1, 1, .inr (.inl f2))) := (hMf (b + 127) (by omega)).trans ho
  have hJ := fs_J_po hJ hp1 hp3
  obtain ⟨q1, q2⟩ := fs_ER_eq hB.2.2.2.2.1 hE hE2
  refine lv_lstore (lv' := [(6, .long r_4), (5, .int r_1), (4, .int (nI (5 * i))), (0, .ref b0), (1, .ref b), (2, .ref (b + 110)), (3, .ref (b + 127))]) hx hb dL_law_478 hl (by decide) rfl (fun ls hl => ?_)
  refine lv_aload_n hx hb dL_law_480 rfl (lv_at hl 5 rfl) ?_
  refine fm_calli (va_runV (As := []) (rest := []) ⟨hx, hb, hml, hown, hT⟩ (c_M_thrown l D ct A M_5 (b + 110) cn si2 sl2 ia2 la2 hM) ⟨callB_of 0 hT (fs_gin0 co_M_thrown) rfl rfl rfl (hT _ ini_M) (hT _ ml_L_64) (by decide +kernel) ⟨Nat.le_of_ble_eq_true rfl, Nat.le_of_ble_eq_true rfl⟩, hT _ im_M_thrown, hT _ se_M_thrown⟩ (fn_preV fs_isnw hK hN hW hM.1 rfl) rfl rfl hl.1 rfl (lv_room (Nat.le_of_ble_eq_true rfl)) dL_law_481 ⟨by show cells + 1 + 0 ≤ 601024; omega, by show slots + 6 + 0 ≤ 7293034; omega⟩) hW (fun r_7 M_8 H locs hp_9 hW => ?_)
  have hW : fm_W D fs_cl5 A M_5 s.heap H locs := by rw [← hp_9.2]; exact hW
  refine lv_iload hx hb dL_law_484 (lv_at hl 1 rfl) ?_
  refine lv_icmp_eq (tgt := 491) hx hb dL_law_486 (by decide) (fun c_10 => ?_) (fun c_10 => ?_)
  · refine lv_iload hx hb dL_law_491 (lv_at hl 1 rfl) ?_
    refine lv_if_ne (tgt := 507) hx hb dL_law_493 (by decide) (fun c_11 => ?_) (fun c_11 => ?_)
    · refine lv_goto (tgt := 637) hx hb dL_law_507 (by decide) ?_
      exact back _ _ _ _ _ ls (by omega) (by omega) ⟨_, _, _, _, _, _, _, _, _, _, _, _, _, _, _, _, _, hC, hM, ho, hJ⟩ hW (lv_sub hl [2, 3, 4, 5, 6] rfl)
    · refine lv_aload_n hx hb dL_law_496 rfl (lv_at hl 6 rfl) ?_
      refine lv_iconst (v := 0) hx hb dL_law_497 (by decide) ?_
      have hz : r_1 = 0 := c_11
      refine fm_lald (i := 0) hx hb hK hW 1 ho rfl (vp_in_nI (n := 0) (N := 1) (by decide) (by decide)) dL_law_498 ?_
      refine W.eq (g2 := F0 m 499 ls [.long (f2 0)]) rfl ?_
      refine lv_lload hx hb dL_law_499 (lv_at hl 0 rfl) ?_
      refine W.lcmp hx hb dL_law_501 ?_
      refine lv_if_eq (tgt := 507) hx hb dL_law_502 (by decide) (fun c_12 => ?_) (fun c_12 => ?_)
      · refine lv_goto (tgt := 637) hx hb dL_law_507 (by decide) ?_
        exact back _ _ _ _ _ ls (by omega) (by omega) ⟨_, _, _, _, _, _, _, _, _, _, _, _, _, _, _, _, _, hC, hM, ho, hJ⟩ hW (lv_sub hl [2, 3, 4, 5, 6] rfl)
      · exact absurd ((lg_cmp_eq _ _).mpr ((hv0 hz).trans (q2 hz))) c_12
  · exact absurd (hp_9.1.trans q1.symm) c_10
