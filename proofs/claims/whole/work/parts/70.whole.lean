-- the law: its loop, its start, its end (the skeleton of kit/laws, given for pasting)
/-! THE CLAIM OUT OF ONE WALK OF THE LAW'S BODY. Your part is whole_start (and what it stands on); all else here is the same for every law, but numbers. -/
def R_law : String := "FrameSamplesLaw"
def lw_P (b : Addr) (xs : List Int32) (args : Array Value) (s : State) : Prop := args = #[.ref b] ∧ s.IntsAt b xs ∧ xs.length ≤ 2560 ∧ (Jvm.Cond.and given_1 narrow_1).before args s = true
def lw_Q (_ : Array Value) (s : State) (o : Outcome) (t : State) : Prop := o = .returned (some (.int 1)) ∧ Framed s o t [] 601024 7293034
def lw_Z (below : List Frame) (a : Array Value) (s : State) : State → Prop := fun t => ∃ o, t.status = .running ∧ Ended t below o ∧ lw_Q a s o t
/-- the law's own end, with 1 on the stack, nothing written that was there before, its room as the claim has it -/
theorem lw_ret {p : Program} {l : Launch} {e : Env} {s : State} {m : MethodId} {below : List Frame} {meth : Method} {c : Code} {b : Nat} (hx : p.tables.exec = Jvm.exec) (hb : c.code = code) (hr : meth.sig.returnType = ret) (hlocks : meth.locks = false) {pc : Nat} {H : Heap} {ls : Array Slot} (hdg : decode code pc = .ok (.ireturn, 1)) : W p l e room_1 s m #[Value.ref b] below meth c H [] 601024 7293034 (lw_Z below #[Value.ref b] s) (F0 m pc ls [.int 1]) := by
  intro T hT X
  obtain ⟨fs, hret, hrun, hended, hW, hframe⟩ := X.leave (v := some (.int 1)) (hlocks := hlocks) (fun h => by rw [hr] at h; cases h)
  have hmeth' : T.vm.method? m = some meth := X.method'
  refine ⟨T.setFrames fs, ?_, .returned (some (.int 1)), hrun, hended, rfl, ⟨_, rfl⟩, hW, hframe⟩
  jvm_step X.here [X.here.top, hx, hb, hdg, hmeth', hr, ret, narrow_b1]
  (try refine ⟨rfl, ?_⟩); (try refine ⟨rfl, ?_⟩)
  first | (intro acts; rw [hret _ acts rfl rfl rfl]) | rw [hret _ _ rfl rfl rfl]
  exact Steps.refl _
/-- what holds at the law's entry: the machine, the code, the tables' words (any of lw_tbl by 'hts w (by decide +kernel)'), the script of L ints xs at the cell b, what the Statement gives of the start (any of its parts by flat_of_before) -/
def lw_At (p : Program) (s : State) (m : MethodId) (meth : Method) (c : Code) (b L : Nat) (xs : Nat → Int32) : Prop :=
  p.tables.exec = Jvm.exec ∧ c.code = code ∧ meth.sig.returnType = ret ∧ c.maxLocals = 8 ∧ s.vm.findClass R_law = some m.cls ∧ (∀ w ∈ lw_tbl, w.before #[Value.ref b] s = true) ∧ va_X b L xs s s.heap ∧ b < s.heap.size ∧ meth.locks = false ∧ (Jvm.Cond.and given_1 narrow_1).before #[Value.ref b] s = true
theorem fs_nwt : ∀ w ∈ fs_nw, w ∈ tables_1 ∧ (w.onTables = true ∨ w = .arrayOver (.object "FrameSamples$Pauli") ∨ w = .arrayOver (.object "FrameSamples$Fault")) := by decide +kernel
theorem ft_dst : ∀ d ∈ ft_ds, Cond.declares d ∈ tables_1 := by decide +kernel
theorem fs_Kof {args : Array Value} {s : State} (hT : ∀ w ∈ fs_tb, w.before args s = true) (hN : ∀ w ∈ fs_nw, va_Nw w s) : ∃ (D : va_G) (ct : Nat → ClassId), va_K D fs_cl5 (fs_tys ct) s := by
  obtain ⟨cP, iP, gP⟩ := u_known (C := RP) (T := TP) (N := 4) hT inP (hT _ ist_P)
  obtain ⟨cT, iT, gT⟩ := u_known (C := RT) (T := TT) (N := 4) hT inT (hT _ ist_T)
  obtain ⟨cF, iF, gF⟩ := u_known (C := RF) (T := TF) (N := 4) hT inF (hT _ ist_F)
  obtain ⟨cS, iS, gS⟩ := u_known (C := RS) (T := TS) (N := 11) hT inS (hT _ ist_S)
  obtain ⟨cM, iM, gM⟩ := u_known (C := RM) (T := TM) (N := 30) hT inM (hT _ ist_M)
  obtain ⟨a_int, k_int, p_int, x1_int, x2_int, x3_int⟩ := Cond.arrayClass_spec (hT _ ac_int)
  obtain ⟨a_long, k_long, p_long, x1_long, x2_long, x3_long⟩ := Cond.arrayClass_spec (hT _ ac_long)
  obtain ⟨a_boolean, k_boolean, p_boolean, x1_boolean, x2_boolean, x3_boolean⟩ := Cond.arrayClass_spec (hT _ ac_boolean)
  obtain ⟨p_P, a_P, k_P, y1_P, -, y3_P, y4_P, y5_P⟩ := Cond.arrayOver_spec (hN (.arrayOver (.object "FrameSamples$Pauli")) (List.mem_of_getElem? (i := 0) rfl))
  obtain ⟨p_F, a_F, k_F, y1_F, -, y3_F, y4_F, y5_F⟩ := Cond.arrayOver_spec (hN (.arrayOver (.object "FrameSamples$Fault")) (List.mem_of_getElem? (i := 8) rfl))
  refine ⟨(fun c => match c with | 0 => cP | 1 => cT | 2 => cF | 3 => cS | _ => cM, fun c => match c with | 0 => iP | 1 => iT | 2 => iF | 3 => iS | _ => iM), (fun c => match c with | 0 => a_int | 1 => a_long | 2 => a_boolean | 3 => a_P | _ => a_F), fun c q hq => ?_, fun k q hk => ?_⟩
  · rcases c with _ | _ | _ | _ | _ | c
    · cases Option.some.inj hq; exact gP
    · cases Option.some.inj hq; exact gT
    · cases Option.some.inj hq; exact gF
    · cases Option.some.inj hq; exact gS
    · cases Option.some.inj hq; exact gM
    · cases hq
  · rcases k with _ | _ | _ | _ | _ | k
    · cases Option.some.inj hk; exact ⟨fun n z => ⟨fun k h => (by cases h), k_int, x2_int, p_int, x3_int⟩, x1_int⟩
    · cases Option.some.inj hk; exact ⟨fun n z => ⟨fun k h => (by cases h), k_long, x2_long, p_long, x3_long⟩, x1_long⟩
    · cases Option.some.inj hk; exact ⟨fun n z => ⟨fun k h => (by cases h), k_boolean, x2_boolean, p_boolean, x3_boolean⟩, x1_boolean⟩
    · cases Option.some.inj hk; exact ⟨fun n z => ⟨fun k h => (by cases h), k_P, y3_P, p_P, y4_P⟩, k_P, p_P, y3_P, y4_P, y1_P, y5_P⟩
    · cases Option.some.inj hk; exact ⟨fun n z => ⟨fun k h => (by cases h), k_F, y3_F, p_F, y4_F⟩, k_F, p_F, y3_F, y4_F, y1_F, y5_F⟩
    · cases hk
theorem fl_cmp {L i : Nat} (hL : L ≤ 2560) (hi : i ≤ 512) : (Int32.ofNat L - 5 < nI (5 * i)) ↔ L < 5 * i + 5 := by
  have h5 : (Int32.ofNat L - 5).toInt = (L : Int) - 5 := by
    rw [Int32.toInt_sub, show (Int32.ofNat L).toInt = (L : Int) from nI_toInt (by omega), show (5 : Int32).toInt = 5 from rfl, Int.bmod_def]
    omega
  rw [Int32.lt_iff_toInt_lt, h5, nI_toInt (by omega)]
  omega
def fl_T (_ : Nat) (_ _ : fm_M) : Prop := True
theorem fl_Tr {b : Nat} {M : fm_M} : fl_T b M M := trivial
theorem fl_Tu {b : Nat} {M M2 : fm_M} (_ : fl_T b M M2) {a : Nat} (_ : a = a) (e : Option va_E) : fl_T b M (va_up M2 a e) := trivial
set_option maxHeartbeats 4000000 in
set_option maxRecDepth 100000 in
theorem fl_loop {p : Program} {l : Launch} {e : Env} {s : State} {m : MethodId} {below : List Frame} {meth : Method} {c : Code} {b0 L : Nat} {xs : Nat → Int32} {D : va_G} {ct : Nat → ClassId} {A : Nat → Prop} {b : Nat} {M : fm_M} {H : Heap} {locs : List Loc} {ls : Array Slot} (C0 : fl_C p l s m c b0 L xs D ct A) (hr : meth.sig.returnType = ret) (hlocks : meth.locks = false) (hA : ∀ q, A q → s.heap.size ≤ q) (hI : fl_I ct b M) (hW : fm_W D fs_cl5 A M s.heap H locs) (hl : lv_has ls 8 [(4, .int (nI (5 * 0))), (0, .ref b0), (1, .ref b), (2, .ref (b + 110)), (3, .ref (b + 127))]) : W p l e room_1 s m #[Value.ref b0] below meth c H locs 128 1948 (lw_Z below #[Value.ref b0] s) (F0 m 23 ls []) := by
  have C1 := C0
  obtain ⟨hx, hb, hml, hown, hT, hN, hK, hX, hXs, hbl, hbA, hL, hfl⟩ := C1
  refine fm_loopc (D := D) (cl := fs_cl5) (A := A) (H0 := s.heap) (head := 23) (maxL := 8) (fun i => 128 + i) (fun i => 1948 + 6 * i) (L / 5) (fun i M1 => fl_I ct b M1) (fun i => [(4, .int (nI (5 * i))), (0, .ref b0), (1, .ref b), (2, .ref (b + 110)), (3, .ref (b + 127))]) ?_ ?_ (L / 5) 0 (Nat.zero_add _) _ _ M _ _ ls rfl rfl hI hW hl
  · intro i cells slots M H locs ls hi hcf hsf hI hW hl back
    have hcf : cells = 128 + i := hcf
    have hsf : slots = 1948 + 6 * i := hsf
    have hl : lv_has ls 8 [(4, .int (nI (5 * i))), (0, .ref b0), (1, .ref b), (2, .ref (b + 110)), (3, .ref (b + 127))] := hl
    have h5 : 5 * i + 5 ≤ L := by omega
    have hfin : ∀ (cells' slots' : Nat) (M' : fm_M) (H' : Heap) (locs' : List Loc) (ls' : Array Slot), cells' ≤ cells + 1 → slots' ≤ slots + 6 → fl_I ct b M' → fm_W D fs_cl5 A M' s.heap H' locs' → lv_has ls' 8 [(4, .int (nI (5 * i))), (0, .ref b0), (1, .ref b), (2, .ref (b + 110)), (3, .ref (b + 127))] → W p l e room_1 s m #[Value.ref b0] below meth c H' locs' cells' slots' (lw_Z below #[Value.ref b0] s) (F0 m 637 ls' []) := by
      intro cells' slots' M' H' locs' ls g1 g2 g3 g4 hl
      refine lv_iinc (v := nI (5 * (i + 1))) (lv' := [(4, .int (nI (5 * (i + 1)))), (0, .ref b0), (1, .ref b), (2, .ref (b + 110)), (3, .ref (b + 127))]) hx hb dL_law_637 hl (k := 0) rfl (by rw [show 5 * (i + 1) = 5 * i + 5 by omega]; exact nI_add (5 * i) 5) (by decide) rfl (fun ls hl => ?_)
      refine lv_goto (tgt := 23) hx hb dL_law_640 (by decide) ?_
      refine W.widen (k := cells + 1) (n := slots + 6) g1 g2 ?_
      exact back _ _ _ _ _ ls (by show cells + 1 = 128 + (i + 1); omega) (by show slots + 6 = 1948 + 6 * (i + 1); omega) g3 g4 hl
    refine lv_iload hx hb dL_law_23 (lv_at hl 0 rfl) ?_
    refine lv_aload_n hx hb dL_law_25 rfl (lv_at hl 1 rfl) ?_
    refine va_slen hx hb hXs hbl hbA hW.2.2.1 dL_law_26 ?_
    refine lv_iconst (v := 5) hx hb dL_law_27 (by decide) ?_
    refine lv_isub hx hb dL_law_28 ?_
    refine lv_icmp_gt (tgt := 643) hx hb dL_law_29 (by decide) (fun c_1 => ?_) (fun c_1 => ?_)
    · exact absurd ((fl_cmp hL (by omega)).mp c_1) (by omega)
    · refine lv_aload_n hx hb dL_law_32 rfl (lv_at hl 1 rfl) ?_
      refine lv_iload hx hb dL_law_33 (lv_at hl 0 rfl) ?_
      refine fl_sc (k := 0) hx hb hXs hbl hbA hW.2.2.1 rfl (by omega) hL dL_law_35 ?_
      refine lv_bipush (v := 15) hx hb dL_law_36 (by decide) ?_
      refine lv_iand hx hb dL_law_38 ?_
      refine lv_topi (fun x_2 ex_2 => ?_)
      by_cases hk0 : x_2 = 0
      · subst hk0
        refine lv_tableIn (off := 57) (tgt := 96) hx hb dL_law_39 (by decide) (by decide) rfl (by decide) ?_
        exact fl_0 C0 h5 (by omega) (by omega) hI hW hl hfin
      by_cases hk1 : x_2 = 1
      · subst hk1
        refine lv_tableIn (off := 82) (tgt := 121) hx hb dL_law_39 (by decide) (by decide) rfl (by decide) ?_
        exact fl_1 C0 h5 (by omega) (by omega) hI hW hl hfin
      by_cases hk2 : x_2 = 2
      · subst hk2
        refine lv_tableIn (off := 131) (tgt := 170) hx hb dL_law_39 (by decide) (by decide) rfl (by decide) ?_
        exact fl_2 C0 h5 (by omega) (by omega) hI hW hl hfin
      by_cases hk3 : x_2 = 3
      · subst hk3
        refine lv_tableIn (off := 184) (tgt := 223) hx hb dL_law_39 (by decide) (by decide) rfl (by decide) ?_
        exact fl_3 C0 h5 (by omega) (by omega) hI hW hl hfin
      by_cases hk4 : x_2 = 4
      · subst hk4
        refine lv_tableIn (off := 233) (tgt := 272) hx hb dL_law_39 (by decide) (by decide) rfl (by decide) ?_
        exact fl_4 C0 h5 (by omega) (by omega) hI hW hl hfin
      by_cases hk5 : x_2 = 5
      · subst hk5
        refine lv_tableIn (off := 290) (tgt := 329) hx hb dL_law_39 (by decide) (by decide) rfl (by decide) ?_
        exact fl_5 C0 h5 (by omega) (by omega) hI hW hl hfin
      by_cases hk6 : x_2 = 6
      · subst hk6
        refine lv_tableIn (off := 328) (tgt := 367) hx hb dL_law_39 (by decide) (by decide) rfl (by decide) ?_
        exact fl_6 C0 h5 (by omega) (by omega) hI hW hl hfin
      by_cases hk7 : x_2 = 7
      · subst hk7
        refine lv_tableIn (off := 366) (tgt := 405) hx hb dL_law_39 (by decide) (by decide) rfl (by decide) ?_
        exact fl_7 C0 h5 (by omega) (by omega) hI hW hl hfin
      by_cases hk8 : x_2 = 8
      · subst hk8
        refine lv_tableIn (off := 404) (tgt := 443) hx hb dL_law_39 (by decide) (by decide) rfl (by decide) ?_
        exact fl_8 C0 h5 (by omega) (by omega) hI hW hl hfin
      by_cases hk9 : x_2 = 9
      · subst hk9
        refine lv_tableIn (off := 471) (tgt := 510) hx hb dL_law_39 (by decide) (by decide) rfl (by decide) ?_
        exact fl_9 C0 h5 (by omega) (by omega) hI hW hl hfin
      by_cases hk10 : x_2 = 10
      · subst hk10
        refine lv_tableIn (off := 573) (tgt := 612) hx hb dL_law_39 (by decide) (by decide) rfl (by decide) ?_
        exact fl_10 C0 h5 (by omega) (by omega) hI hW hl hfin
      refine lv_tableOut (tgt := 637) hx hb dL_law_39 (fs_swo (n := 10) (by decide) (fs_le10 hk0 hk1 hk2 hk3 hk4 hk5 hk6 hk7 hk8 hk9 hk10)) (by decide) ?_
      exact hfin _ _ _ _ _ ls (by omega) (by omega) hI hW hl
  · intro M H locs ls hI hW hl
    have hl : lv_has ls 8 [(4, .int (nI (5 * (L / 5)))), (0, .ref b0), (1, .ref b), (2, .ref (b + 110)), (3, .ref (b + 127))] := hl
    refine lv_iload hx hb dL_law_23 (lv_at hl 0 rfl) ?_
    refine lv_aload_n hx hb dL_law_25 rfl (lv_at hl 1 rfl) ?_
    refine va_slen hx hb hXs hbl hbA hW.2.2.1 dL_law_26 ?_
    refine lv_iconst (v := 5) hx hb dL_law_27 (by decide) ?_
    refine lv_isub hx hb dL_law_28 ?_
    refine lv_icmp_gt (tgt := 643) hx hb dL_law_29 (by decide) (fun c_3 => ?_) (fun c_3 => ?_)
    · refine va_forget (fun q hq => hA _ (hW.2.2.1.2.2 q hq)) ?_
      refine W.widen (k := 601024) (n := 7293034) (by show 128 + L / 5 ≤ 601024; omega) (by show 1948 + 6 * (L / 5) ≤ 7293034; omega) ?_
      refine lv_iconst (v := 1) hx hb dL_law_643 (by decide) ?_
      exact lw_ret hx hb hr hlocks dL_law_644
    · exact absurd ((fl_cmp hL (by omega)).mpr (by omega)) c_3
set_option maxHeartbeats 4000000 in
set_option maxRecDepth 100000 in
theorem whole_start {p : Program} {e : Env} {s : State} {m : MethodId} {below : List Frame} {meth : Method} {c : Code} (l : Launch) (hfl : l.flags = flags0) {b0 L : Nat} {xs : Nat → Int32} (hL : L ≤ 2560) (C0 : lw_At p s m meth c b0 L xs) : W p l e room_1 s m #[Value.ref b0] below meth c s.heap [] 0 0 (lw_Z below #[Value.ref b0] s) (entryFrame m ([Value.ref b0] : List Value).toArray 8) := by
  obtain ⟨hx, hb, hr, hml, hown, hts0, hXs, hbl, hlocks, hgv⟩ := C0
  have hown : s.vm.findClass "FrameSamplesLaw" = some m.cls := hown
  have hT : ∀ w ∈ fs_tb, w.before #[Value.ref b0] s = true := fun w h => hts0 w (fs_tb_l h)
  have htt : ∀ w ∈ tables_1, w.before #[Value.ref b0] s = true := fun w h => hts0 w (List.mem_append_right _ h)
  have hN : ∀ w ∈ fs_nw, va_Nw w s := by
    intro w h
    have h1 := htt w (fs_nwt w h).1
    rcases (fs_nwt w h).2 with h2 | h2 | h2
    · exact va_Nw.of h2 h1
    · rw [h2] at h1 ⊢; exact h1
    · rw [h2] at h1 ⊢; exact h1
  obtain ⟨D, ct, hK⟩ := fs_Kof hT hN
  obtain ⟨A, hAe⟩ : ∃ A : Nat → Prop, A = fun q => s.heap.size ≤ q := ⟨_, rfl⟩
  have hA : ∀ q, A q → s.heap.size ≤ q := by rw [hAe]; exact fun _ h => h
  have hA2 : ∀ q, s.heap.size ≤ q → A q := by rw [hAe]; exact fun _ h => h
  have hA3 : ∀ a : Nat, a < s.heap.size → ¬ A a := fun a h1 h2 => by have := hA a h2; omega
  have hs := flat_of_before _ hgv
  obtain ⟨qa, -, -, -, ha, -⟩ := Cond.exactly_spec (hs (Cond.exactly (.string "FrameSamples" 148) "java/lang/String") (by decide +kernel))
  have hX : ft_XS A s s.heap := ⟨⟨va_Zqof (htt _ (List.mem_of_getElem? (i := 341) (by decide +kernel))) (htt _ (List.mem_of_getElem? (i := 9) (by decide +kernel))) (hs _ (by decide +kernel)) hA3, va_Zqof (htt _ (List.mem_of_getElem? (i := 343) (by decide +kernel))) (htt _ (List.mem_of_getElem? (i := 9) (by decide +kernel))) (hs _ (by decide +kernel)) hA3, ft_L.of (htt _ (List.mem_of_getElem? (i := 341) (by decide +kernel))) hA3, ft_L.of (htt _ (List.mem_of_getElem? (i := 343) (by decide +kernel))) hA3⟩, fun d hd => va_Nw.of rfl (htt _ (ft_dst d hd)), va_Nw.of rfl (htt _ (List.mem_of_getElem? (i := 316) (by decide +kernel))), qa, vk_R.of (htt _ (List.mem_of_getElem? (i := 353) (by decide +kernel))) ha⟩
  have hbA : ¬ A b0 := hA3 b0 hbl
  have hW : fm_W D fs_cl5 A (fun _ => none) s.heap s.heap [] := ⟨fun a e h => absurd h (by intro z; cases z), fun a e h => absurd h (by intro z; cases z), va_S.rf, hA2⟩
  have hl := lv_entry ([.ref b0]) (n := 8) (Nat.le_of_ble_eq_true rfl)
  rw [lg_entry_eq]
  generalize (lg_sl ([.ref b0]) ++ List.replicate (8 - (lg_sl ([.ref b0])).length) Slot.unset).toArray = ls at hl ⊢
  have hl : lv_has ls 8 [(0, .ref b0)] := hl
  obtain ⟨b, hZ⟩ : ∃ b, s.heap.size = b := ⟨_, rfl⟩
  refine fm_gen hW (fun H locs hW => ?_)
  obtain ⟨M, hMe⟩ : ∃ M : fm_M, M = fun _ => none := ⟨_, rfl⟩
  rw [← hMe] at hW
  have hFr : fl_T b M M := fl_Tr
  have hlo : b ≤ H.size := by have h9 := hW.2.2.1.1; omega
  refine fm_newc (ci := 3) (C := RS) (T := TS) (N := 11) (z := b) (fs := [.null, .null, .null, .null, .null, .null, .int 0, .int 0, .int 0, .int 0, .int 0]) hx hb hT inS tyS tkS hown (hT _ kl_L_8) (hT _ ist_S) (hT _ ini_S) hK hW (by omega) hlo rfl (fun j hj => match j, hj with | 0, _ => rfl | 1, _ => rfl | 2, _ => rfl | 3, _ => rfl | 4, _ => rfl | 5, _ => rfl | 6, _ => rfl | 7, _ => rfl | 8, _ => rfl | 9, _ => rfl | 10, _ => rfl | k + 11, h9 => absurd h9 (by omega)) (Nat.le_of_ble_eq_true rfl) (Nat.le_of_ble_eq_true rfl) dL_law_0 (fun H hW => ?_)
  obtain ⟨M_1, eM_1⟩ : ∃ z : fm_M, z = va_up M b (some (.inr (3, [.null, .null, .null, .null, .null, .null, .int 0, .int 0, .int 0, .int 0, .int 0]))) := ⟨_, rfl⟩
  have hW : fm_W D fs_cl5 A M_1 s.heap H locs := by rw [eM_1]; exact hW
  have f_2 : M_1 b = some (.inr (3, [.null, .null, .null, .null, .null, .null, .int 0, .int 0, .int 0, .int 0, .int 0])) := by rw [eM_1]; exact fm_us
  have hFr : fl_T b M M_1 := by rw [eM_1]; exact fl_Tu hFr (by omega) _
  refine lv_dup hx hb dL_law_3 rfl ?_
  refine fm_sz (z := b + 1) (by omega) (by have h9 := fm_lt hW f_2; omega) (fun hsz => ?_)
  refine fm_callv (va_runI (As := []) (rest := [.ref b]) ⟨hx, hb, hml, hown, hT⟩ (c_S_init l D ct A M_1 b f_2) ⟨callB_of 0 hT (fs_gin0 co_S_init) rfl rfl rfl (hT _ ini_S) (hT _ ml_L_15) (by decide +kernel) ⟨Nat.le_of_ble_eq_true rfl, Nat.le_of_ble_eq_true rfl⟩, rfl, hT _ im_S_init⟩ (fm_preZ fs_isnw hK hN hW hsz) rfl rfl hl.1 rfl (lv_room (Nat.le_of_ble_eq_true rfl)) dL_law_4 ⟨(Nat.le_of_ble_eq_true rfl), (Nat.le_of_ble_eq_true rfl)⟩) hW (fun M_3 H locs hp_4 hW => ?_)
  obtain ⟨kp, pn, hC, -, hk1, hk2⟩ := hp_4
  have hFr : fl_T b M M_3 := trivial
  refine lv_astore_n (lv' := [(1, .ref b), (0, .ref b0)]) hx hb dL_law_7 rfl hl (by decide) rfl (fun ls hl => ?_)
  have hlo : b + 110 ≤ H.size := by have h9 := fm_lt hW (hC.2.2.2.2.2.2.2.2); omega
  refine fm_newc (ci := 4) (C := RM) (T := TM) (N := 30) (z := b + 110) (fs := [.int 0, .int 0, .int 0, .int 0, .int 0, .int 0, .null, .null, .null, .null, .null, .null, .null, .null, .null, .null, .null, .null, .null, .null, .int 0, .int 0, .int 0, .long 0, .int 0, .int 0, .long 0, .int 0, .null, .null]) hx hb hT inM tyM tkM hown (hT _ kl_L_16) (hT _ ist_M) (hT _ ini_M) hK hW (by omega) hlo rfl (fun j hj => match j, hj with | 0, _ => rfl | 1, _ => rfl | 2, _ => rfl | 3, _ => rfl | 4, _ => rfl | 5, _ => rfl | 6, _ => rfl | 7, _ => rfl | 8, _ => rfl | 9, _ => rfl | 10, _ => rfl | 11, _ => rfl | 12, _ => rfl | 13, _ => rfl | 14, _ => rfl | 15, _ => rfl | 16, _ => rfl | 17, _ => rfl | 18, _ => rfl | 19, _ => rfl | 20, _ => rfl | 21, _ => rfl | 22, _ => rfl | 23, _ => rfl | 24, _ => rfl | 25, _ => rfl | 26, _ => rfl | 27, _ => rfl | 28, _ => rfl | 29, _ => rfl | k + 30, h9 => absurd h9 (by omega)) (Nat.le_of_ble_eq_true rfl) (Nat.le_of_ble_eq_true rfl) dL_law_8 (fun H hW => ?_)
  obtain ⟨M_5, eM_5⟩ : ∃ z : fm_M, z = va_up M_3 (b + 110) (some (.inr (4, [.int 0, .int 0, .int 0, .int 0, .int 0, .int 0, .null, .null, .null, .null, .null, .null, .null, .null, .null, .null, .null, .null, .null, .null, .int 0, .int 0, .int 0, .long 0, .int 0, .int 0, .long 0, .int 0, .null, .null]))) := ⟨_, rfl⟩
  have hW : fm_W D fs_cl5 A M_5 s.heap H locs := by rw [eM_5]; exact hW
  have f_6 : M_5 (b + 110) = some (.inr (4, [.int 0, .int 0, .int 0, .int 0, .int 0, .int 0, .null, .null, .null, .null, .null, .null, .null, .null, .null, .null, .null, .null, .null, .null, .int 0, .int 0, .int 0, .long 0, .int 0, .int 0, .long 0, .int 0, .null, .null])) := by rw [eM_5]; exact fm_us
  have hFr : fl_T b M M_5 := by rw [eM_5]; exact fl_Tu hFr (by omega) _
  have hC : fs_CW ct M_5 b (fs_c0 1) kp pn fs_q0 (fun _ => 0) (fun _ => 0) (fun _ => fs_q0) (fun _ => 0) (fun _ => 0) (fun _ => 0) (fun _ => 0) (fun _ => 0) := fs_CW_frame hC (fun a h1 h2 => by rw [eM_5]; exact fm_un (by omega))
  refine lv_dup hx hb dL_law_11 rfl ?_
  refine fm_sz (z := b + 110 + 1) (by omega) (by have h9 := fm_lt hW f_6; omega) (fun hsz => ?_)
  refine fm_callv (va_runI (As := []) (rest := [.ref (b + 110)]) ⟨hx, hb, hml, hown, hT⟩ (c_M_init l D ct A M_5 (b + 110) f_6) ⟨callB_of 0 hT (fs_gin0 co_M_init) rfl rfl rfl (hT _ ini_M) (hT _ ml_L_18) (by decide +kernel) ⟨Nat.le_of_ble_eq_true rfl, Nat.le_of_ble_eq_true rfl⟩, rfl, hT _ im_M_init⟩ (fm_preZ fs_isnw hK hN hW hsz) rfl rfl hl.1 rfl (lv_room (Nat.le_of_ble_eq_true rfl)) dL_law_12 ⟨(Nat.le_of_ble_eq_true rfl), (Nat.le_of_ble_eq_true rfl)⟩) hW (fun M_7 H locs hp_8 hW => ?_)
  obtain ⟨hM, hMf⟩ := hp_8
  have hC : fs_CW ct M_7 b (fs_c0 1) kp pn fs_q0 (fun _ => 0) (fun _ => 0) (fun _ => fs_q0) (fun _ => 0) (fun _ => 0) (fun _ => 0) (fun _ => 0) (fun _ => 0) := fs_CW_frame hC (fun a h1 h2 => hMf a (by omega))
  have hFr : fl_T b M M_7 := trivial
  refine lv_astore_n (lv' := [(2, .ref (b + 110)), (1, .ref b), (0, .ref b0)]) hx hb dL_law_15 rfl hl (by decide) rfl (fun ls hl => ?_)
  refine lv_iconst (v := 1) hx hb dL_law_16 (by decide) ?_
  have hlo : b + 127 ≤ H.size := by have h9 := fm_lt hW (hM.2.2.1 16 rfl); omega
  refine fm_newa (atype := .long) (ty := .long) (z := b + 127) (N' := 1) (a0 := (1, .inr (.inl (fun _ => 0)))) hx hb (hT _ ac_long) rfl hK hW (by omega) hlo 1 rfl (fun cA => rfl) (by decide) (by decide) (by decide) (Nat.le_of_ble_eq_true rfl) (Nat.le_of_ble_eq_true rfl) dL_law_17 (fun H hW => ?_)
  obtain ⟨M_9, eM_9⟩ : ∃ z : fm_M, z = va_up M_7 (b + 127) (some (.inl (ct 1, 1, .inr (.inl (fun _ => 0))))) := ⟨_, rfl⟩
  have hW : fm_W D fs_cl5 A M_9 s.heap H locs := by rw [eM_9]; exact hW
  have f_10 : M_9 (b + 127) = some (.inl (ct 1, 1, .inr (.inl (fun _ => 0)))) := by rw [eM_9]; exact fm_us
  have hFr : fl_T b M M_9 := by rw [eM_9]; exact fl_Tu hFr (by omega) _
  have hC : fs_CW ct M_9 b (fs_c0 1) kp pn fs_q0 (fun _ => 0) (fun _ => 0) (fun _ => fs_q0) (fun _ => 0) (fun _ => 0) (fun _ => 0) (fun _ => 0) (fun _ => 0) := fs_CW_frame hC (fun a h1 h2 => by rw [eM_9]; exact fm_un (by omega))
  have hM : fs_MW ct M_9 (b + 110) (fs_c0 1) (fun _ => 0) (fun _ => 0) (fun _ _ => 0) (fun _ _ => 0) := fs_MW_frame hM (fun a h1 h2 => by rw [eM_9]; exact fm_un (by omega))
  refine lv_astore_n (lv' := [(3, .ref (b + 127)), (2, .ref (b + 110)), (1, .ref b), (0, .ref b0)]) hx hb dL_law_19 rfl hl (by decide) rfl (fun ls hl => ?_)
  refine lv_iconst (v := 0) hx hb dL_law_20 (by decide) ?_
  refine lv_istore (lv' := [(4, .int 0), (3, .ref (b + 127)), (2, .ref (b + 110)), (1, .ref b), (0, .ref b0)]) hx hb dL_law_21 hl (by decide) rfl (fun ls hl => ?_)
  refine fl_loop (b := b) ⟨hx, hb, hml, hown, hT, hN, hK, hX, hXs, hbl, hbA, hL, hfl⟩ hr hlocks hA ⟨_, _, _, _, _, _, _, _, _, _, _, _, _, _, _, _, _, hC, hM, f_10, fs_J_0 (by decide) (by decide) hk1 hk2⟩ hW (lv_sub hl [0, 4, 3, 2, 1] rfl)
set_option maxHeartbeats 4000000 in
theorem lw_walk (l : Launch) (hfl : l.flags = flags0) (b : Addr) (xs : List Int32) : MetFree l x (headSpec (Jvm.Cond.code x code maxLocals ret :: tables_1) room_1) (lw_P b xs) (fun _ _ _ _ _ => True) lw_Q := by
  refine MetFree.of_bodyS (code := code) (maxLocals := maxLocals) (ret := ret) (by decide) ?_ ?_
  · intro args s m h hn
    obtain ⟨meth, c, h1, h2, h3, h4, h5, h6, -, -⟩ := Cond.code_spec hn (atoms_spec (ws := Jvm.Cond.code x code maxLocals ret :: tables_1) h _ List.mem_cons_self)
    exact ⟨meth, c, h1, h2, h3, h4, h5, h6⟩
  · intro p e s m args below meth c s₁ B hml0 hP _
    obtain ⟨rfl, hx, hbd, hgv⟩ := hP
    obtain ⟨scr, harrAt, hlist, hof, hsmall⟩ := hx
    obtain ⟨hcb, hkn, -, -⟩ := State.arrayAt?_spec harrAt
    have hown : s.vm.findClass R_law = some m.cls := findClass_of_methodNamed B.named
    have hts0 : ∀ c ∈ (Jvm.Cond.code x code maxLocals ret :: tables_1), c.before #[Value.ref b] s = true := atoms_spec (ws := Jvm.Cond.code x code maxLocals ret :: tables_1) B.pre
    have hts : ∀ w ∈ lw_tbl, w.before #[Value.ref b] s = true := k2_hts_sels lw_privs (fun w hw => hts0 w (List.mem_cons_of_mem _ hw)) lw_privs_ok
    have hml : c.maxLocals = 8 := B.maxLocals_eq (hts0 _ List.mem_cons_self)
    have X₀ : Stand p l e room_1 s m #[Value.ref b] below meth c s₁ [] 0 0 := Stand.of_body B
    have hh0 : s₁.heap = s.heap := by rw [B.state]; rfl
    have hsz : scr.slots.size = xs.length := by rw [← Array.length_toList, hlist, List.length_map]
    have hval : ∀ j : Nat, j < xs.length → scr.slots[j]? = some (.int (xs.getD j 0)) := fun j hj => by
      rw [← Array.getElem?_toList, hlist]
      simp [hj]
    have hbl : b < s.heap.size := (Array.getElem?_eq_some_iff.mp hcb).1
    have hX : va_X b xs.length (fun j => xs.getD j 0) s s.heap := ⟨scr, hcb, hof, hkn, hsz, hval⟩
    have K : W p l e room_1 s m #[Value.ref b] below meth c s₁.heap [] 0 0 (lw_Z below #[Value.ref b] s) (entryFrame m ([Value.ref b] : List Value).toArray 8) := by
      rw [hh0]
      exact whole_start l hfl hbd ⟨B.exec, B.bytes, B.returns, hml, hown, hts, hX, hbl, B.notSynchronized, hgv⟩
    obtain ⟨t, a1, o, b1, b2, b3⟩ := K s₁ rfl X₀
    exact ⟨t, o, a1, b1, b2, b3⟩
theorem lw_pre_spec {args : Array Value} {s : State} (h : (Jvm.Cond.and given_1 narrow_1).before args s = true) (hr : rest_1_c.before args s = true) : ∃ (b : Addr) (xs : List Int32), lw_P b xs args s := by
  have hs := flat_of_before _ h
  have hq := flat_of_before _ hr
  have hc : (Cond.count 1).before args s = true := hs _ (by decide +kernel)
  have harr : (Cond.arrayOf (.arg 0) .int).before args s = true := hs _ (by decide +kernel)
  have hle : (Cond.le (.length (.arg 0)) (.int 2560)).before args s = true := hs _ (by decide +kernel)
  have hlen : (Cond.isInt (.length (.arg 0))).before args s = true := hq _ (by decide +kernel)
  have hall : (Cond.all (.arg 0) (.isInt (.elem (.arg 0) (.index 0)))).before args s = true := hq _ (by decide +kernel)
  obtain ⟨b, xs, hb, hx⟩ := State.ints_of_pre rfl harr hlen hall
  have hsm : xs.length < 2 ^ 31 := hx.choose_spec.2.2.2
  have hev : (Term.length (.arg 0)).eval args s none [] s = some (.int xs.length.toInt32) := hx.length_eval hb
  have hv := Cond.le_ints hev (show (Term.int 2560).eval args s none [] s = some (.int 2560) from rfl)
  have hd : xs.length.toInt32 ≤ 2560 := by
    simpa [Cond.before, Cond.holds, hv] using hle
  have hN : xs.length ≤ 2560 := (Int32.ofNat_le_ofNat hsm (by decide)).mp (show Int32.ofNat xs.length ≤ Int32.ofNat 2560 from hd)
  exact ⟨b, xs, Cond.one_arg hc (show args[0]? = some (.ref b) from hb), hx, hN, h⟩
theorem lw_comes (l : Launch) (hfl : l.flags = flags0) : Comes l x (Jvm.Cond.code x code maxLocals ret :: tables_1) room_1 (fun tb e args s => Calls_1 tb e args s ∧ rest_1 tb e args s ∧ Pre_1 tb e args s)
    (fun _ _ args s o t => lw_Q args s o t) := by
  intro p e ha hc hk s m args below hf hfit hheap happ hpre
  obtain ⟨b, xs, hP⟩ := lw_pre_spec hpre.2.2 hpre.2.1
  obtain ⟨k, o, h1, h2, h3, hQ⟩ := lw_walk l hfl b xs p e ha hc hk s m args below hf ((Spec.applies_iff_loose hf).mp happ).1 hP trivial
  exact ⟨k, o, h1, h2, h3, hQ⟩
theorem lw_frame {s t : State} {o : Outcome} {args : Array Value} (h : Framed s o t [] 601024 7293034) :
    Framed s o t (fieldLocs frame_1_writes args s ++ arrayLocs frame_1_arrays args s ++ staticLocs frame_1_statics s) 601024 7293034 := h
theorem lw_limb (L : Cond) (hL : ∀ (args : Array Value) (s t : State), L.after args s (.returned (some (.int 1))) t = true) :
    ArmFor flags0 classFile x code maxLocals ret World_1 tables_1 room_1 Calls_1 rest_1 Pre_1
      (fun tb e a s o t => postC L tb e a s o t ∧ Framed s o t (fieldLocs frame_1_writes a s ++ arrayLocs frame_1_arrays a s ++ staticLocs frame_1_statics s) 601024 7293034) := by
  intro l hfl _ _ p e ha hc hk s m args below hf hfit hheap happ hpre
  obtain ⟨k, o, h1, h2, h3, rfl, hF⟩ := lw_comes l hfl p e ha hc hk s m args below hf hfit hheap happ hpre
  exact ⟨k, _, h1, h2, h3, hL args s _, lw_frame hF⟩
theorem i_vc : Claimed_1_1 ∧ Claimed_1_2 := ⟨lw_limb limb_1_1 (fun args s t => by simp [limb_1_1, Cond.after, Cond.holds, Cond.value]), lw_limb limb_1_2 (fun args s t => Cond.after_iff.mpr (by
  first | (rw [show limb_1_2 = Cond.eq .result (.int 1) from rfl, Cond.eq_ints (x := 1) (y := 1) rfl rfl]; simp; done) | (simp [limb_1_2, Cond.value, Term.eval]; done)))⟩
