-- the reference: odds, edge
theorem fs_wh23 {x : Int32} (h0 : ¬ x < 0) (h3 : x ≤ 3) (h : ¬ x = 0) (h1 : ¬ x = 1) : x = 2 ∨ x = 3 := by
  obtain ⟨j, hj, rfl⟩ := nI_of2 (M := 3) (n := 3) rfl h0 h3
  rcases (show j = 0 ∨ j = 1 ∨ j = 2 ∨ j = 3 by omega) with rfl | rfl | rfl | rfl
  · exact absurd rfl h
  · exact absurd rfl h1
  · exact Or.inl rfl
  · exact Or.inr rfl
theorem fs_cnt_s {i : Nat} (hi : i < 64) (x : Int64) : nI (fs_pc i (fs_uN x)) + ((x >>> ((nI i).toInt64 &&& 63)) &&& 1).toInt32 = nI (fs_pc (i + 1) (fs_uN x)) := by
  rw [fs_onSL hi, fs_bL_32, fs_pc_1]
  have hb : bl x i = decide (fs_uN x / 2 ^ i % 2 = 1) := Nat.testBit_eq_decide_div_mod_eq
  rw [hb]
  rcases (show fs_uN x / 2 ^ i % 2 = 0 ∨ fs_uN x / 2 ^ i % 2 = 1 by omega) with h | h
  · rw [h]; exact nI_add _ 0
  · rw [h]; exact nI_add _ 1
theorem fs_ae_congr {f g : Nat → Int32} {mb : Int64} : ∀ {F : Nat}, (∀ j, j < F → f j = g j) → fs_ae f mb F = fs_ae g mb F
  | 0, _ => rfl
  | F + 1, h => by
    show (if bl mb F = true then _ else _) = (if bl mb F = true then _ else _)
    rw [fs_ae_congr (F := F) (fun j hj => h j (by omega)), h F (by omega)]
theorem fs_ldiv2 {w : Nat} (h : w < 2 ^ 62) : lN w / 2 = lN (w / 2) := by
  apply Int64.toInt_inj.mp
  rw [Int64.toInt_div, show lN w = Int64.ofNat w from rfl, show lN (w / 2) = Int64.ofNat (w / 2) from rfl, Int64.toInt_ofNat_of_lt (by omega), Int64.toInt_ofNat_of_lt (by omega), show (2 : Int64).toInt = 2 from rfl, Int.tdiv_eq_ediv_of_nonneg (by omega)]
  rw [Int.bmod_eq_of_le (by omega) (by omega)]
  omega
theorem fs_lrem2 {w : Nat} (h : w < 2 ^ 62) : lN w - lN w / 2 * 2 = lN (w % 2) := by
  rw [fs_ldiv2 h, show (2 : Int64) = lN 2 from rfl, lN_mul, lN_sub (by omega)]
  congr 1; omega
theorem fs_hv_e {p w : Nat} (h : w % 2 = 0) : fs_hv (p + 1) w = fs_hv p (w / 2) := if_pos h
set_option maxHeartbeats 4000000 in
set_option maxRecDepth 100000 in
theorem c_M_odds (l : Launch) (D : va_G) (ct : Nat → ClassId) (A : Nat → Prop) (M : fm_M) (b : Nat) (cn : Nat → Nat) (si : Nat → Int32) (sl : Nat → Int64) (ia : Nat → Nat → Int32) (la : Nat → Nat → Int64) (ε n U : Nat) (rs : Int32) (hM : fs_MW ct M b cn si sl ia la) (hB : fs_Bd cn) (hε : ε < 40) (hn : n ≤ 15) (hU : U < 2 ^ 62) (h1 : (fs_ae (ia 6) (la 16 ε) (cn 3)).1 - (fs_ae (ia 6) (la 16 ε) (cn 3)).2.1 = lN U) (h2 : (fs_ae (ia 6) (la 16 ε) (cn 3)).2.2 = nI (1 + 3 * n)) : Met l yM_odds wM_odds ({ frames := 0, cells := 0, slots := 0, locals := 0 }) (va_Pc [.ref b, .int (nI ε), .int rs] (fm_St D fs_cl5 (fs_tys ct) fs_nw A M)) (va_Ql (fun (r : Int64) (M1 : fm_M) => r = (if rs = 0 then lN (fs_hw n U).1 else lN (fs_hw n U).2) ∧ M1 = M) (fm_B D fs_cl5 A) A) 0 0 A := by
  refine Met.ofW (cc := cM_odds) (maxL := 10) (ret := (some .long)) (by decide) rfl ?_
  intro p e s m args below meth c s₁ B hml hv
  obtain ⟨rfl, hP0, hA0, hA1, hK, hN⟩ := hv
  have hx := B.exec
  have hb := B.bytes
  have hr := B.returns
  have hts := atoms_spec (ws := wM_odds) B.pre
  have hT : ∀ w ∈ fs_tb, w.before _ s = true := fun w h => hts w (List.mem_cons_of_mem _ h)
  have hown : s.vm.findClass "FrameSamplesModel" = some m.cls := findClass_of_methodNamed B.named
  have hlocks := B.notSynchronized
  have hW : fm_W D fs_cl5 A M s.heap s.heap [] := ⟨hP0, hA0, va_S.rf, hA1⟩
  have hl := lv_entry ([.ref b, .int (nI ε), .int rs]) (n := 10) (Nat.le_of_ble_eq_true rfl)
  rw [lg_entry_eq]
  generalize (lg_sl ([.ref b, .int (nI ε), .int rs]) ++ List.replicate (10 - (lg_sl ([.ref b, .int (nI ε), .int rs])).length) Slot.unset).toArray = ls at hl ⊢
  have hl : lv_has ls 10 [(0, .ref b), (1, .int (nI ε)), (2, .int rs)] := hl
  obtain ⟨hB0, hB1, hB2, hB3, hB4, hB5⟩ := hB
  have hMf : fs_Mf b M M := fs_Mf_r
  refine lv_lconst (v := 1) hx hb dM_odds_0 (by decide) ?_
  refine lv_lstore_n (lv' := [(3, .long 1), (0, .ref b), (1, .int (nI ε)), (2, .int rs)]) hx hb dM_odds_1 rfl hl (by decide) rfl (fun ls hl => ?_)
  refine lv_lconst (v := 1) hx hb dM_odds_2 (by decide) ?_
  refine lv_lstore (lv' := [(5, .long 1), (3, .long 1), (0, .ref b), (1, .int (nI ε)), (2, .int rs)]) hx hb dM_odds_3 hl (by decide) rfl (fun ls hl => ?_)
  refine lv_iconst (v := 1) hx hb dM_odds_5 (by decide) ?_
  refine lv_istore (lv' := [(7, .int 1), (5, .long 1), (3, .long 1), (0, .ref b), (1, .int (nI ε)), (2, .int rs)]) hx hb dM_odds_6 hl (by decide) rfl (fun ls hl => ?_)
  refine lv_iconst (v := 0) hx hb dM_odds_8 (by decide) ?_
  refine lv_istore (lv' := [(8, .int 0), (7, .int 1), (5, .long 1), (3, .long 1), (0, .ref b), (1, .int (nI ε)), (2, .int rs)]) hx hb dM_odds_9 hl (by decide) rfl (fun ls hl => ?_)
  refine fm_loop (head := 11) (maxL := 10) (cn 3) (fun i (u : Int64 × Int64 × Int32) M1 => M1 = M ∧ u = fs_ae (ia 6) (la 16 ε) i) (fun i (u : Int64 × Int64 × Int32) => [(8, .int (nI i)), (0, .ref b), (1, .int (nI ε)), (2, .int rs), (3, .long u.1), (5, .long u.2.1), (7, .int u.2.2)]) ?_ ?_ (cn 3) 0 (Nat.zero_add _) (1, 1, 1) M _ _ ls ⟨rfl, rfl⟩ hW (lv_sub hl [0, 4, 5, 6, 3, 2, 1] rfl)
  · intro i u M_1 H locs ls hi hI hW hl back
    have hl : lv_has ls 10 [(8, .int (nI i)), (0, .ref b), (1, .int (nI ε)), (2, .int rs), (3, .long u.1), (5, .long u.2.1), (7, .int u.2.2)] := hl
    obtain ⟨u1, u2, u3⟩ := u
    have hW : fm_W D fs_cl5 A M s.heap H locs := by rw [← hI.1]; exact hW
    have hV : (u1, u2, u3) = fs_ae (ia 6) (la 16 ε) i := hI.2
    have hl : lv_has ls 10 [(8, .int (nI i)), (0, .ref b), (1, .int (nI ε)), (2, .int rs), (3, .long u1), (5, .long u2), (7, .int u3)] := hl
    refine lv_iload hx hb dM_odds_11 (lv_at hl 0 rfl) ?_
    refine lv_aload_n hx hb dM_odds_13 rfl (lv_at hl 1 rfl) ?_
    refine fm_get (ci := 4) (v := .int (nI (cn 3))) (C := RM) (T := TM) (N := 30) hx hb hT inM hown hK hW hM.1 rfl 4 (by decide) (hT _ fl_M_77) (fun _ h9 => h9) rfl dM_odds_14 ?_
    refine lv_icmp_ge (tgt := 71) hx hb dM_odds_17 (by decide) (fun c_2 => ?_) (fun c_2 => ?_)
    · exact absurd c_2 (nI_ge hi (by omega))
    · refine lv_aload_n hx hb dM_odds_20 rfl (lv_at hl 1 rfl) ?_
      refine fm_get (ci := 4) (v := .ref (b + 16)) (C := RM) (T := TM) (N := 30) hx hb hT inM hown hK hW hM.1 rfl 29 (by decide) (hT _ fl_M_57) (fun _ h9 => h9) rfl dM_odds_21 ?_
      refine lv_iload_n hx hb dM_odds_24 rfl (lv_at hl 2 rfl) ?_
      refine fn_lald (n := 40) (f := la 16) hx hb hK hW 1 (hM.2.2.1 16 rfl) rfl (show ε < 40 by omega) (by decide) dM_odds_25 ?_
      refine lv_iload hx hb dM_odds_26 (lv_at hl 0 rfl) ?_
      refine lv_lshr (v := ((la 16) ε) >>> ((nI i).toInt64 &&& 63)) hx hb dM_odds_28 rfl ?_
      refine lv_lconst (v := 1) hx hb dM_odds_29 (by decide) ?_
      refine lv_land hx hb dM_odds_30 ?_
      refine lv_lconst (v := 0) hx hb dM_odds_31 (by decide) ?_
      refine W.lcmp hx hb dM_odds_32 ?_
      refine lv_if_ne (tgt := 39) hx hb dM_odds_33 (by decide) (fun c_3 => ?_) (fun c_3 => ?_)
      · have hbit : bl (la 16 ε) i = true := fs_ndf _ (fun z => c_3 ((lg_cmp_eq _ _).mpr (by rw [fs_onSL (by omega), z]; rfl)))
        refine lv_lload_n hx hb dM_odds_39 rfl (lv_at hl 4 rfl) ?_
        refine lv_ldc2 hx hb hown (hT _ cn_M_176) dM_odds_40 ?_
        refine lv_lmul hx hb dM_odds_43 ?_
        refine lv_topl (fun x_4 ex_4 => ?_)
        refine lv_lstore_n (lv' := [(3, .long x_4), (8, .int (nI i)), (0, .ref b), (1, .int (nI ε)), (2, .int rs), (5, .long u2), (7, .int u3)]) hx hb dM_odds_44 rfl hl (by decide) rfl (fun ls hl => ?_)
        refine lv_lload hx hb dM_odds_45 (lv_at hl 5 rfl) ?_
        refine lv_ldc2 hx hb hown (hT _ cn_M_176) dM_odds_47 ?_
        refine lv_aload_n hx hb dM_odds_50 rfl (lv_at hl 2 rfl) ?_
        refine fm_get (ci := 4) (v := .ref (b + 6)) (C := RM) (T := TM) (N := 30) hx hb hT inM hown hK hW hM.1 rfl 11 (by decide) (hT _ fl_M_25) (fun _ h9 => h9) rfl dM_odds_51 ?_
        refine lv_iload hx hb dM_odds_54 (lv_at hl 1 rfl) ?_
        refine fn_iald (n := 40) (f := ia 6) hx hb hK hW 0 (hM.2.1 6 rfl) rfl (show i < 40 by omega) (by decide) dM_odds_56 ?_
        refine lv_i2l (v := ((ia 6) i).toInt64) hx hb dM_odds_57 rfl ?_
        refine lv_lsub hx hb dM_odds_58 ?_
        refine lv_lmul hx hb dM_odds_59 ?_
        refine lv_topl (fun x_5 ex_5 => ?_)
        refine lv_lstore (lv' := [(5, .long x_5), (3, .long x_4), (8, .int (nI i)), (0, .ref b), (1, .int (nI ε)), (2, .int rs), (7, .int u3)]) hx hb dM_odds_60 hl (by decide) rfl (fun ls hl => ?_)
        obtain ⟨x_6, ex_6⟩ : ∃ y : Int32, y = u3 + 3 := ⟨_, rfl⟩
        refine lv_iinc (v := x_6) (lv' := [(7, .int x_6), (5, .long x_5), (3, .long x_4), (8, .int (nI i)), (0, .ref b), (1, .int (nI ε)), (2, .int rs)]) hx hb dM_odds_62 hl (k := 6) rfl (by rw [ex_6]; rfl) (by decide) rfl (fun ls hl => ?_)
        have hV2 : (x_4, x_5, x_6) = fs_ae (ia 6) (la 16 ε) (i + 1) := by
          rw [show fs_ae (ia 6) (la 16 ε) (i + 1) = _ from if_pos hbit, ← hV]
          subst ex_6
          subst ex_5
          subst ex_4
          rfl
        refine lv_iinc (v := nI (i + 1)) (lv' := [(8, .int (nI (i + 1))), (7, .int x_6), (5, .long x_5), (3, .long x_4), (0, .ref b), (1, .int (nI ε)), (2, .int rs)]) hx hb dM_odds_65 hl (k := 3) rfl (nI_1 i) (by decide) rfl (fun ls hl => ?_)
        refine lv_goto (tgt := 11) hx hb dM_odds_68 (by decide) ?_
        exact back (x_4, x_5, x_6) _ _ _ ls ⟨rfl, hV2⟩ hW (lv_sub hl [0, 4, 5, 6, 3, 2, 1] rfl)
      · have hbit : bl (la 16 ε) i = false := (fs_bL_eq0 _).mp ((fs_onSL (by omega) _).symm.trans ((lg_cmp_eq _ _).mp c_3))
        refine lv_goto (tgt := 65) hx hb dM_odds_36 (by decide) ?_
        refine lv_iinc (v := nI (i + 1)) (lv' := [(8, .int (nI (i + 1))), (0, .ref b), (1, .int (nI ε)), (2, .int rs), (3, .long u1), (5, .long u2), (7, .int u3)]) hx hb dM_odds_65 hl (k := 0) rfl (nI_1 i) (by decide) rfl (fun ls hl => ?_)
        refine lv_goto (tgt := 11) hx hb dM_odds_68 (by decide) ?_
        exact back (u1, u2, u3) _ _ _ ls ⟨rfl, hV.trans (if_neg (by rw [hbit]; decide)).symm⟩ hW (lv_sub hl [0, 1, 2, 3, 4, 5, 6] rfl)
  · intro u M_7 H locs ls hI hW hl
    have hl : lv_has ls 10 [(8, .int (nI (cn 3))), (0, .ref b), (1, .int (nI ε)), (2, .int rs), (3, .long u.1), (5, .long u.2.1), (7, .int u.2.2)] := hl
    obtain ⟨u1, u2, u3⟩ := u
    have hW : fm_W D fs_cl5 A M s.heap H locs := by rw [← hI.1]; exact hW
    have hV : (u1, u2, u3) = fs_ae (ia 6) (la 16 ε) (cn 3) := hI.2
    have hl : lv_has ls 10 [(8, .int (nI (cn 3))), (0, .ref b), (1, .int (nI ε)), (2, .int rs), (3, .long u1), (5, .long u2), (7, .int u3)] := hl
    refine lv_iload hx hb dM_odds_11 (lv_at hl 0 rfl) ?_
    refine lv_aload_n hx hb dM_odds_13 rfl (lv_at hl 1 rfl) ?_
    refine fm_get (ci := 4) (v := .int (nI (cn 3))) (C := RM) (T := TM) (N := 30) hx hb hT inM hown hK hW hM.1 rfl 4 (by decide) (hT _ fl_M_77) (fun _ h9 => h9) rfl dM_odds_14 ?_
    refine lv_icmp_ge (tgt := 71) hx hb dM_odds_17 (by decide) (fun c_8 => ?_) (fun c_8 => ?_)
    · rw [← hV] at h1 h2
      have h1 : u1 - u2 = lN U := h1
      have h2 : u3 = nI (1 + 3 * n) := h2
      subst h2
      refine lv_lload_n hx hb dM_odds_71 rfl (lv_at hl 4 rfl) ?_
      refine lv_lload hx hb dM_odds_72 (lv_at hl 5 rfl) ?_
      refine lv_lsub hx hb dM_odds_74 ?_
      rw [show u1 - u2 = lN U from h1]
      refine lv_lstore (lv' := [(8, .long (lN U)), (0, .ref b), (1, .int (nI ε)), (2, .int rs), (3, .long u1), (5, .long u2), (7, .int (nI (1 + 3 * n)))]) hx hb dM_odds_75 hl (by decide) rfl (fun ls hl => ?_)
      refine lv_lload hx hb dM_odds_77 (lv_at hl 0 rfl) ?_
      refine lv_lconst (v := 0) hx hb dM_odds_79 (by decide) ?_
      refine W.lcmp hx hb dM_odds_80 ?_
      refine lv_if_ne (tgt := 87) hx hb dM_odds_81 (by decide) (fun c_9 => ?_) (fun c_9 => ?_)
      · have hz : ¬ U = 0 := fun z => c_9 ((lg_cmp_eq _ _).mpr (by rw [z]; rfl))
        have hhw : fs_hw n U = fs_hv (1 + 3 * n) U := if_neg hz
        refine fm_loop (head := 87) (maxL := 10) (1 + 3 * n) (fun i (uh : Nat) M1 => M1 = M ∧ fs_hv (1 + 3 * n) U = fs_hv ((1 + 3 * n) - i) uh ∧ uh < 2 ^ 62) (fun i (uh : Nat) => [(7, .int (nI ((1 + 3 * n) - i))), (8, .long (lN uh)), (2, .int rs)]) ?_ ?_ (1 + 3 * n) 0 (Nat.zero_add _) U M _ _ ls ⟨rfl, rfl, hU⟩ hW (lv_sub hl [6, 0, 3] rfl)
        · intro i uh M_10 H locs ls hih hIh hW hl backh
          have hl : lv_has ls 10 [(7, .int (nI ((1 + 3 * n) - i))), (8, .long (lN uh)), (2, .int rs)] := hl
          obtain ⟨hMe, hh, hlt⟩ := hIh
          have hW : fm_W D fs_cl5 A M s.heap H locs := by rw [← hMe]; exact hW
          have hh : fs_hv (1 + 3 * n) U = fs_hv ((1 + 3 * n) - i) uh := hh
          obtain ⟨p0, hp0⟩ : ∃ p0, (1 + 3 * n) - i = p0 + 1 := ⟨(1 + 3 * n) - i - 1, by omega⟩
          rw [hp0] at hh hl
          refine lv_iload hx hb dM_odds_87 (lv_at hl 0 rfl) ?_
          refine lv_if_le (tgt := 117) hx hb dM_odds_89 (by decide) (fun c_11 => ?_) (fun c_11 => ?_)
          · exact absurd c_11 (nI_nle (by omega) (by omega))
          · refine lv_lload hx hb dM_odds_92 (lv_at hl 1 rfl) ?_
            refine lv_ldc2 hx hb hown (hT _ cn_M_178) dM_odds_94 ?_
            refine lv_lrem hx hb dM_odds_97 (by decide) ?_
            rw [fs_lrem2 hlt]
            refine lv_lconst (v := 0) hx hb dM_odds_98 (by decide) ?_
            refine W.lcmp hx hb dM_odds_99 ?_
            refine lv_if_ne (tgt := 117) hx hb dM_odds_100 (by decide) (fun c_12 => ?_) (fun c_12 => ?_)
            · have hodd : uh % 2 = 1 := by rcases (show uh % 2 = 0 ∨ uh % 2 = 1 by omega) with z | z; exact absurd ((lg_cmp_eq _ _).mpr (by rw [z]; rfl)) c_12; exact z
              refine lv_iload_n hx hb dM_odds_117 rfl (lv_at hl 2 rfl) ?_
              refine lv_if_eq (tgt := 127) hx hb dM_odds_118 (by decide) (fun c_13 => ?_) (fun c_13 => ?_)
              · refine lv_lload hx hb dM_odds_127 (lv_at hl 1 rfl) ?_
                exact fm_lret hx hb hr hlocks hW ⟨by rw [if_pos c_13, hhw, hh, fs_hv_odd _ hodd], rfl⟩ dM_odds_129
              · refine lv_iload hx hb dM_odds_121 (lv_at hl 0 rfl) ?_
                refine lv_i2l (v := (nI (p0 + 1)).toInt64) hx hb dM_odds_123 rfl ?_
                refine lv_goto (tgt := 129) hx hb dM_odds_124 (by decide) ?_
                exact fm_lret hx hb hr hlocks hW ⟨by rw [if_neg c_13, hhw, hh, fs_hv_odd _ hodd]; first | exact nI_l (by omega) | rfl | decide, rfl⟩ dM_odds_129
            · have hev : uh % 2 = 0 := by have z := congrArg fs_uN ((lg_cmp_eq _ _).mp c_12); rw [fs_uN_lN (by omega)] at z; exact z
              refine lv_lload hx hb dM_odds_103 (lv_at hl 1 rfl) ?_
              refine lv_ldc2 hx hb hown (hT _ cn_M_178) dM_odds_105 ?_
              refine lv_ldiv hx hb dM_odds_108 (by decide) ?_
              rw [fs_ldiv2 hlt]
              refine lv_lstore (lv' := [(8, .long (lN (uh / 2))), (7, .int (nI (p0 + 1))), (2, .int rs)]) hx hb dM_odds_109 hl (by decide) rfl (fun ls hl => ?_)
              refine lv_iinc (v := nI p0) (lv' := [(7, .int (nI p0)), (8, .long (lN (uh / 2))), (2, .int rs)]) hx hb dM_odds_111 hl (k := 1) rfl (pk_m1 p0) (by decide) rfl (fun ls hl => ?_)
              refine lv_goto (tgt := 87) hx hb dM_odds_114 (by decide) ?_
              have hp1 : (1 + 3 * n) - (i + 1) = p0 := by omega
              exact backh (uh / 2) _ _ _ ls ⟨rfl, by rw [hh, fs_hv_e hev, hp1], by omega⟩ hW (by rw [hp1]; exact lv_sub hl [0, 1, 2] rfl)
        · intro uh M_14 H locs ls hIh hW hl
          have hl : lv_has ls 10 [(7, .int (nI ((1 + 3 * n) - (1 + 3 * n)))), (8, .long (lN uh)), (2, .int rs)] := hl
          obtain ⟨hMe, hh, hlt⟩ := hIh
          have hW : fm_W D fs_cl5 A M s.heap H locs := by rw [← hMe]; exact hW
          have hh : fs_hv (1 + 3 * n) U = fs_hv ((1 + 3 * n) - (1 + 3 * n)) uh := hh
          rw [Nat.sub_self] at hh hl
          refine lv_iload hx hb dM_odds_87 (lv_at hl 0 rfl) ?_
          refine lv_if_le (tgt := 117) hx hb dM_odds_89 (by decide) (fun c_15 => ?_) (fun c_15 => ?_)
          · refine lv_iload_n hx hb dM_odds_117 rfl (lv_at hl 2 rfl) ?_
            refine lv_if_eq (tgt := 127) hx hb dM_odds_118 (by decide) (fun c_16 => ?_) (fun c_16 => ?_)
            · refine lv_lload hx hb dM_odds_127 (lv_at hl 1 rfl) ?_
              exact fm_lret hx hb hr hlocks hW ⟨by rw [if_pos c_16, hhw, hh, show fs_hv 0 uh = (uh, 0) from rfl], rfl⟩ dM_odds_129
            · refine lv_iload hx hb dM_odds_121 (lv_at hl 0 rfl) ?_
              refine lv_i2l (v := (nI 0).toInt64) hx hb dM_odds_123 rfl ?_
              refine lv_goto (tgt := 129) hx hb dM_odds_124 (by decide) ?_
              exact fm_lret hx hb hr hlocks hW ⟨by rw [if_neg c_16, hhw, hh, show fs_hv 0 uh = (uh, 0) from rfl]; first | exact nI_l (by omega) | rfl | decide, rfl⟩ dM_odds_129
          · exact absurd (by decide) c_15
      · refine lv_iconst (v := 0) hx hb dM_odds_84 (by decide) ?_
        refine lv_istore (lv' := [(7, .int 0), (8, .long (lN U)), (0, .ref b), (1, .int (nI ε)), (2, .int rs), (3, .long u1), (5, .long u2)]) hx hb dM_odds_85 hl (by decide) rfl (fun ls hl => ?_)
        refine lv_iload hx hb dM_odds_87 (lv_at hl 0 rfl) ?_
        have hz : U = 0 := by have z := congrArg fs_uN ((lg_cmp_eq _ _).mp c_9); rw [fs_uN_lN (by omega)] at z; exact z
        refine lv_if_le (tgt := 117) hx hb dM_odds_89 (by decide) (fun c_17 => ?_) (fun c_17 => ?_)
        · refine lv_iload_n hx hb dM_odds_117 rfl (lv_at hl 4 rfl) ?_
          refine lv_if_eq (tgt := 127) hx hb dM_odds_118 (by decide) (fun c_18 => ?_) (fun c_18 => ?_)
          · refine lv_lload hx hb dM_odds_127 (lv_at hl 1 rfl) ?_
            exact fm_lret hx hb hr hlocks hW ⟨by rw [if_pos c_18, show fs_hw n U = (U, 0) from by rw [hz]; rfl], rfl⟩ dM_odds_129
          · refine lv_iload hx hb dM_odds_121 (lv_at hl 0 rfl) ?_
            refine lv_i2l (v := (0 : Int32).toInt64) hx hb dM_odds_123 rfl ?_
            refine lv_goto (tgt := 129) hx hb dM_odds_124 (by decide) ?_
            exact fm_lret hx hb hr hlocks hW ⟨by rw [if_neg c_18, show fs_hw n U = (U, 0) from by rw [hz]; rfl]; first | exact nI_l (by omega) | rfl | decide, rfl⟩ dM_odds_129
        · exact absurd (by decide) c_17
    · exact absurd (nI_le (Nat.le_refl (cn 3)) (by omega)) c_8
set_option maxHeartbeats 4000000 in
set_option maxRecDepth 100000 in
theorem c_M_edge (l : Launch) (D : va_G) (ct : Nat → ClassId) (A : Nat → Prop) (M : fm_M) (b : Nat) (cn : Nat → Nat) (si : Nat → Int32) (sl : Nat → Int64) (ia : Nat → Nat → Int32) (la : Nat → Nat → Int64) (cl : Nat → Int64) (ck : Nat → Int32) (od : Nat → Int32) (lk wh : Int32) (hM : fs_MW ct M b cn si sl ia la) (hB : fs_Bd cn) (hF : ∀ f, f < cn 3 → fs_fq cn ia f (cl f) ∧ ck f = fs_ck (la 7) (cl f) (cn 4)) (hO : ∀ f, f < cn 3 → od f = ia 6 f ∧ ∃ k : Nat, k ≤ 16 ∧ ia 6 f = nI k) : Met l yM_edge wM_edge ({ frames := 4, cells := 0, slots := 0, locals := 92 }) (va_Pc [.ref b, .int lk, .int wh] (fm_St D fs_cl5 (fs_tys ct) fs_nw A M)) (va_Ql (fun (r : Int64) (M1 : fm_M) => ∃ (si2 : Nat → Int32) (sl2 : Nat → Int64) (ia2 : Nat → Nat → Int32) (la2 : Nat → Nat → Int64), fs_MW ct M1 b cn si2 sl2 ia2 la2 ∧ fs_Mf b M M1 ∧ (∀ k, k ≤ 6 → ia2 k = ia k) ∧ la2 7 = la 7 ∧ fs_ER (cn 3) ck od lk wh (si2 0) r) (fm_B D fs_cl5 A) A) 0 0 A := by
  refine Met.ofW (cc := cM_edge) (maxL := 5) (ret := (some .long)) (by decide) rfl ?_
  intro p e s m args below meth c s₁ B hml hv
  obtain ⟨rfl, hP0, hA0, hA1, hK, hN⟩ := hv
  have hx := B.exec
  have hb := B.bytes
  have hr := B.returns
  have hts := atoms_spec (ws := wM_edge) B.pre
  have hT : ∀ w ∈ fs_tb, w.before _ s = true := fun w h => hts w (List.mem_cons_of_mem _ h)
  have hown : s.vm.findClass "FrameSamplesModel" = some m.cls := findClass_of_methodNamed B.named
  have hlocks := B.notSynchronized
  have hW : fm_W D fs_cl5 A M s.heap s.heap [] := ⟨hP0, hA0, va_S.rf, hA1⟩
  have hl := lv_entry ([.ref b, .int lk, .int wh]) (n := 5) (Nat.le_of_ble_eq_true rfl)
  rw [lg_entry_eq]
  generalize (lg_sl ([.ref b, .int lk, .int wh]) ++ List.replicate (5 - (lg_sl ([.ref b, .int lk, .int wh])).length) Slot.unset).toArray = ls at hl ⊢
  have hl : lv_has ls 5 [(0, .ref b), (1, .int lk), (2, .int wh)] := hl
  obtain ⟨hB0, hB1, hB2, hB3, hB4, hB5⟩ := hB
  have hMf : fs_Mf b M M := fs_Mf_r
  refine lv_aload_n hx hb dM_edge_0 rfl (lv_at hl 0 rfl) ?_
  refine lv_iconst (v := 0) hx hb dM_edge_1 (by decide) ?_
  refine fm_put (ci := 4) (v := .int 0) (ty := .int) (C := RM) (T := TM) (N := 30) hx hb hT inM tyM tkM nmM hown hK hW hM.1 rfl 0 (by decide) (hT _ fl_M_64) (fun _ h9 => h9) rfl (by decide +kernel) rfl rfl (Nat.le_of_ble_eq_true rfl) dM_edge_2 (fun H locs hW => ?_)
  obtain ⟨M_1, eM_1⟩ : ∃ z : fm_M, z = va_up M b (some (.inr (4, [.int 0, .int (nI (cn 0)), .int (nI (cn 1)), .int (nI (cn 2)), .int (nI (cn 3)), .int (nI (cn 4)), .ref (b + 1), .ref (b + 2), .ref (b + 3), .ref (b + 4), .ref (b + 5), .ref (b + 6), .ref (b + 7), .ref (b + 8), .ref (b + 9), .ref (b + 10), .ref (b + 11), .ref (b + 12), .ref (b + 13), .ref (b + 14), .int (si 20), .int (si 21), .int (si 22), .long (sl 23), .int (si 24), .int (si 25), .long (sl 26), .int (si 27), .ref (b + 15), .ref (b + 16)]))) := ⟨_, rfl⟩
  have hW : fm_W D fs_cl5 A M_1 s.heap H locs := by rw [eM_1]; exact hW
  have f_2 : M_1 b = some (.inr (4, [.int 0, .int (nI (cn 0)), .int (nI (cn 1)), .int (nI (cn 2)), .int (nI (cn 3)), .int (nI (cn 4)), .ref (b + 1), .ref (b + 2), .ref (b + 3), .ref (b + 4), .ref (b + 5), .ref (b + 6), .ref (b + 7), .ref (b + 8), .ref (b + 9), .ref (b + 10), .ref (b + 11), .ref (b + 12), .ref (b + 13), .ref (b + 14), .int (si 20), .int (si 21), .int (si 22), .long (sl 23), .int (si 24), .int (si 25), .long (sl 26), .int (si 27), .ref (b + 15), .ref (b + 16)])) := by rw [eM_1]; exact fm_us
  have hM : fs_MW ct M_1 b cn (va_up si 0 0) sl ia la := by rw [eM_1]; exact fs_MW_o hM cn (va_up si 0 0) sl
  have hMf : fs_Mf b M M_1 := by rw [eM_1]; exact fs_Mf_u hMf (by omega) _
  refine lv_aload_n hx hb dM_edge_5 rfl (lv_at hl 0 rfl) ?_
  refine fm_callv (va_runV (As := []) (rest := []) ⟨hx, hb, hml, hown, hts⟩ (c_M_findEdges l D ct A M_1 b cn (va_up si 0 0) sl ia la cl ck hM ⟨hB0, hB1, hB2, hB3, hB4, hB5⟩ hF) ⟨callB_of 0 hts (fs_gin co_M_findEdges) rfl rfl rfl (hT _ ini_M) (hT _ ml_M_180) (by decide +kernel) ⟨Nat.le_of_ble_eq_true rfl, Nat.le_of_ble_eq_true rfl⟩, hT _ im_M_findEdges, hT _ se_M_findEdges⟩ (fn_preV fs_isnw hK hN hW hM.1 rfl) rfl rfl hl.1 rfl (lv_room (Nat.le_of_ble_eq_true rfl)) dM_edge_6 ⟨Nat.le_of_ble_eq_true rfl, Nat.le_of_ble_eq_true rfl⟩) hW (fun M_4 H locs hp_5 hW => ?_)
  obtain ⟨si3, sl3, ia3, la3, hM, hMf3, hpo, h27, hE⟩ := hp_5
  have hMf := fs_Mf_t hMf hMf3
  have h00 : si3 0 = 0 := hpo.2.2
  have hce := fs_ce_le ck (cn 3)
  refine lv_iload_n hx hb dM_edge_9 rfl (lv_at hl 1 rfl) ?_
  refine lv_if_lt (tgt := 30) hx hb dM_edge_10 (by decide) (fun c_6 => ?_) (fun c_6 => ?_)
  · refine lv_ldc2 hx hb hown (hT _ cn_M_145) dM_edge_30 ?_
    exact fm_lret hx hb hr hlocks hW ⟨_, _, _, _, hM, hMf, hpo.1, hpo.2.1, Or.inl ⟨fun g g1 g2 z => absurd c_6 (by rw [← z]; exact nI_pos (by have := fs_ce_le ck g; omega)), h00, rfl⟩⟩ dM_edge_33
  · refine lv_iload_n hx hb dM_edge_13 rfl (lv_at hl 1 rfl) ?_
    refine lv_aload_n hx hb dM_edge_14 rfl (lv_at hl 0 rfl) ?_
    refine fm_get (ci := 4) (v := .int (si3 27)) (C := RM) (T := TM) (N := 30) hx hb hT inM hown hK hW hM.1 rfl 27 (by decide) (hT _ fl_M_173) (fun _ h9 => h9) rfl dM_edge_15 ?_
    rw [show si3 27 = nI (fs_ce ck (cn 3)) from h27]
    refine lv_icmp_ge (tgt := 30) hx hb dM_edge_18 (by decide) (fun c_7 => ?_) (fun c_7 => ?_)
    · refine lv_ldc2 hx hb hown (hT _ cn_M_145) dM_edge_30 ?_
      exact fm_lret hx hb hr hlocks hW ⟨_, _, _, _, hM, hMf, hpo.1, hpo.2.1, Or.inl ⟨fun g g1 g2 z => absurd c_7 (by rw [← z]; exact nI_ge (fs_ce_lt g2 g1) (by omega)), h00, rfl⟩⟩ dM_edge_33
    · obtain ⟨e0, he0, rfl⟩ := fs_ixl (by omega) c_6 (Int32.not_le.mp c_7)
      obtain ⟨g, g1, g2, g3⟩ := fs_ce_ex he0
      obtain ⟨q15, q16⟩ := hE g g1 g2
      rw [g3] at q15 q16
      have g3n : nI (fs_ce ck g) = nI e0 := by rw [g3]
      refine lv_iload_n hx hb dM_edge_21 rfl (lv_at hl 2 rfl) ?_
      refine lv_if_lt (tgt := 30) hx hb dM_edge_22 (by decide) (fun c_8 => ?_) (fun c_8 => ?_)
      · refine lv_ldc2 hx hb hown (hT _ cn_M_145) dM_edge_30 ?_
        exact fm_lret hx hb hr hlocks hW ⟨_, _, _, _, hM, hMf, hpo.1, hpo.2.1, Or.inr ⟨g, g1, g2, g3n, Or.inr (Or.inr (Or.inr (Or.inr ⟨by rintro rfl; exact absurd c_8 (by decide), by rintro rfl; exact absurd c_8 (by decide), by rintro rfl; exact absurd c_8 (by decide), by rintro rfl; exact absurd c_8 (by decide), h00, rfl⟩)))⟩⟩ dM_edge_33
      · refine lv_iload_n hx hb dM_edge_25 rfl (lv_at hl 2 rfl) ?_
        refine lv_iconst (v := 3) hx hb dM_edge_26 (by decide) ?_
        refine lv_icmp_le (tgt := 34) hx hb dM_edge_27 (by decide) (fun c_9 => ?_) (fun c_9 => ?_)
        · refine lv_iload_n hx hb dM_edge_34 rfl (lv_at hl 2 rfl) ?_
          refine lv_if_ne (tgt := 46) hx hb dM_edge_35 (by decide) (fun c_10 => ?_) (fun c_10 => ?_)
          · refine lv_iload_n hx hb dM_edge_46 rfl (lv_at hl 2 rfl) ?_
            refine lv_iconst (v := 1) hx hb dM_edge_47 (by decide) ?_
            refine lv_icmp_ne (tgt := 58) hx hb dM_edge_48 (by decide) (fun c_11 => ?_) (fun c_11 => ?_)
            · have hw23 : wh = 2 ∨ wh = 3 := fs_wh23 c_8 c_9 c_10 c_11
              refine lv_iconst (v := 0) hx hb dM_edge_58 (by decide) ?_
              refine lv_istore_n (lv' := [(3, .int 0), (0, .ref b), (1, .int (nI e0)), (2, .int wh)]) hx hb dM_edge_59 rfl hl (by decide) rfl (fun ls hl => ?_)
              refine lv_iconst (v := 0) hx hb dM_edge_60 (by decide) ?_
              refine lv_istore (lv' := [(4, .int 0), (3, .int 0), (0, .ref b), (1, .int (nI e0)), (2, .int wh)]) hx hb dM_edge_61 hl (by decide) rfl (fun ls hl => ?_)
              refine fm_loop (head := 63) (maxL := 5) (cn 3) (fun i (u : Int32) M1 => M1 = M_4 ∧ u = nI (fs_pc i (fs_uN (la3 16 e0)))) (fun i (u : Int32) => [(4, .int (nI i)), (0, .ref b), (1, .int (nI e0)), (2, .int wh), (3, .int u)]) ?_ ?_ (cn 3) 0 (Nat.zero_add _) 0 M_4 _ _ ls ⟨rfl, rfl⟩ hW (lv_sub hl [0, 2, 3, 4, 1] rfl)
              · intro i u M_12 H locs ls hi hI hW hl back
                have hl : lv_has ls 5 [(4, .int (nI i)), (0, .ref b), (1, .int (nI e0)), (2, .int wh), (3, .int u)] := hl
                have hW : fm_W D fs_cl5 A M_4 s.heap H locs := by rw [← hI.1]; exact hW
                refine lv_iload hx hb dM_edge_63 (lv_at hl 0 rfl) ?_
                refine lv_aload_n hx hb dM_edge_65 rfl (lv_at hl 1 rfl) ?_
                refine fm_get (ci := 4) (v := .int (nI (cn 3))) (C := RM) (T := TM) (N := 30) hx hb hT inM hown hK hW hM.1 rfl 4 (by decide) (hT _ fl_M_77) (fun _ h9 => h9) rfl dM_edge_66 ?_
                refine lv_icmp_ge (tgt := 93) hx hb dM_edge_69 (by decide) (fun c_13 => ?_) (fun c_13 => ?_)
                · exact absurd c_13 (nI_ge hi (by omega))
                · refine lv_iload_n hx hb dM_edge_72 rfl (lv_at hl 4 rfl) ?_
                  refine lv_aload_n hx hb dM_edge_73 rfl (lv_at hl 1 rfl) ?_
                  refine fm_get (ci := 4) (v := .ref (b + 16)) (C := RM) (T := TM) (N := 30) hx hb hT inM hown hK hW hM.1 rfl 29 (by decide) (hT _ fl_M_57) (fun _ h9 => h9) rfl dM_edge_74 ?_
                  refine lv_iload_n hx hb dM_edge_77 rfl (lv_at hl 2 rfl) ?_
                  refine fn_lald (n := 40) (f := la3 16) hx hb hK hW 1 (hM.2.2.1 16 rfl) rfl (show e0 < 40 by omega) (by decide) dM_edge_78 ?_
                  refine lv_iload hx hb dM_edge_79 (lv_at hl 0 rfl) ?_
                  refine lv_lshr (v := ((la3 16) e0) >>> ((nI i).toInt64 &&& 63)) hx hb dM_edge_81 rfl ?_
                  refine lv_lconst (v := 1) hx hb dM_edge_82 (by decide) ?_
                  refine lv_land hx hb dM_edge_83 ?_
                  refine lv_l2i (v := ((((la3 16) e0) >>> ((nI i).toInt64 &&& 63)) &&& 1).toInt32) hx hb dM_edge_84 rfl ?_
                  refine lv_iadd hx hb dM_edge_85 ?_
                  refine lv_topi (fun x_14 ex_14 => ?_)
                  refine lv_istore_n (lv' := [(3, .int x_14), (4, .int (nI i)), (0, .ref b), (1, .int (nI e0)), (2, .int wh)]) hx hb dM_edge_86 rfl hl (by decide) rfl (fun ls hl => ?_)
                  refine lv_iinc (v := nI (i + 1)) (lv' := [(4, .int (nI (i + 1))), (3, .int x_14), (0, .ref b), (1, .int (nI e0)), (2, .int wh)]) hx hb dM_edge_87 hl (k := 1) rfl (nI_1 i) (by decide) rfl (fun ls hl => ?_)
                  refine lv_goto (tgt := 63) hx hb dM_edge_90 (by decide) ?_
                  exact back x_14 _ _ _ ls ⟨rfl, by rw [ex_14, hI.2]; exact fs_cnt_s (by omega) _⟩ hW (lv_sub hl [0, 2, 3, 4, 1] rfl)
              · intro u M_15 H locs ls hI hW hl
                have hl : lv_has ls 5 [(4, .int (nI (cn 3))), (0, .ref b), (1, .int (nI e0)), (2, .int wh), (3, .int u)] := hl
                have hW : fm_W D fs_cl5 A M_4 s.heap H locs := by rw [← hI.1]; exact hW
                refine lv_iload hx hb dM_edge_63 (lv_at hl 0 rfl) ?_
                refine lv_aload_n hx hb dM_edge_65 rfl (lv_at hl 1 rfl) ?_
                refine fm_get (ci := 4) (v := .int (nI (cn 3))) (C := RM) (T := TM) (N := 30) hx hb hT inM hown hK hW hM.1 rfl 4 (by decide) (hT _ fl_M_77) (fun _ h9 => h9) rfl dM_edge_66 ?_
                refine lv_icmp_ge (tgt := 93) hx hb dM_edge_69 (by decide) (fun c_16 => ?_) (fun c_16 => ?_)
                · have hpc : fs_pc 64 (fs_uN (la3 16 e0)) = fs_pc (cn 3) (fs_uN (la3 16 e0)) := by rw [q16]; exact fs_pc_F (by omega) (fs_mem_lt (by omega))
                  have hu : u = nI (fs_pc 64 (fs_uN (la3 16 e0))) := by rw [hpc]; exact hI.2
                  have hple := fs_pc_le 64 (fs_uN (la3 16 e0))
                  refine lv_iload_n hx hb dM_edge_93 rfl (lv_at hl 4 rfl) ?_
                  refine lv_bipush (v := 15) hx hb dM_edge_94 (by decide) ?_
                  refine lv_icmp_le (tgt := 106) hx hb dM_edge_96 (by decide) (fun c_17 => ?_) (fun c_17 => ?_)
                  · have h15 : fs_pc 64 (fs_uN (la3 16 e0)) ≤ 15 := by rw [hu] at c_17; exact (nI_leI (b := 15) (by omega) (by decide)).mp c_17
                    rw [q16] at h15
                    obtain ⟨n, U, v1, v2, v3, v4, v5⟩ := fs_vR (od := od) (v := ck) (F := cn 3) (g := g) (by omega) g1 (fun j hj => by rw [(hO j hj).1]; exact (hO j hj).2) h15
                    have hae : fs_ae (ia3 6) (la3 16 e0) (cn 3) = fs_ae od (fs_mem ck (ck g) (cn 3)) (cn 3) := by rw [q16, hpo.1 6 (by decide)]; exact fs_ae_congr (fun j hj => (hO j hj).1.symm)
                    rw [← hae] at v3 v4
                    refine lv_aload_n hx hb dM_edge_106 rfl (lv_at hl 1 rfl) ?_
                    refine lv_iload_n hx hb dM_edge_107 rfl (lv_at hl 2 rfl) ?_
                    refine lv_iload_n hx hb dM_edge_108 rfl (lv_at hl 3 rfl) ?_
                    refine lv_iconst (v := 3) hx hb dM_edge_109 (by decide) ?_
                    refine lv_icmp_ne (tgt := 117) hx hb dM_edge_110 (by decide) (fun c_18 => ?_) (fun c_18 => ?_)
                    · refine lv_iconst (v := 0) hx hb dM_edge_117 (by decide) ?_
                      refine fm_calll (va_runV (As := [.int (nI e0), .int 0]) (rest := []) ⟨hx, hb, hml, hown, hts⟩ (c_M_odds l D ct A M_4 b cn si3 sl3 ia3 la3 e0 n U 0 hM ⟨hB0, hB1, hB2, hB3, hB4, hB5⟩ (by omega) v1 v2 v3 v4) ⟨callB_of 2 hts (fs_gin co_M_odds) rfl rfl rfl (hT _ ini_M) (hT _ ml_M_183) (by decide +kernel) ⟨Nat.le_of_ble_eq_true rfl, Nat.le_of_ble_eq_true rfl⟩, hT _ im_M_odds, hT _ se_M_odds⟩ (fn_preV fs_isnw hK hN hW hM.1 rfl) rfl rfl hl.1 rfl (lv_room (Nat.le_of_ble_eq_true rfl)) dM_edge_118 ⟨Nat.le_of_ble_eq_true rfl, Nat.le_of_ble_eq_true rfl⟩) hW (fun r_19 M_20 H locs hp_21 hW => ?_)
                      have hW : fm_W D fs_cl5 A M_4 s.heap H locs := by rw [← hp_21.2]; exact hW
                      have hw2 : wh = 2 := hw23.resolve_right c_18
                      have hv : r_19 = fs_vC od (fs_mem ck (ck g) (cn 3)) (cn 3) wh := by rw [hp_21.1, v5, if_pos rfl, if_pos hw2]
                      exact fm_lret hx hb hr hlocks hW ⟨_, _, _, _, hM, hMf, hpo.1, hpo.2.1, Or.inr ⟨g, g1, g2, g3n, Or.inr (Or.inr (Or.inl ⟨hw23, h15, h00, hv⟩))⟩⟩ dM_edge_121
                    · refine lv_iconst (v := 1) hx hb dM_edge_113 (by decide) ?_
                      refine lv_goto (tgt := 118) hx hb dM_edge_114 (by decide) ?_
                      refine fm_calll (va_runV (As := [.int (nI e0), .int 1]) (rest := []) ⟨hx, hb, hml, hown, hts⟩ (c_M_odds l D ct A M_4 b cn si3 sl3 ia3 la3 e0 n U 1 hM ⟨hB0, hB1, hB2, hB3, hB4, hB5⟩ (by omega) v1 v2 v3 v4) ⟨callB_of 2 hts (fs_gin co_M_odds) rfl rfl rfl (hT _ ini_M) (hT _ ml_M_183) (by decide +kernel) ⟨Nat.le_of_ble_eq_true rfl, Nat.le_of_ble_eq_true rfl⟩, hT _ im_M_odds, hT _ se_M_odds⟩ (fn_preV fs_isnw hK hN hW hM.1 rfl) rfl rfl hl.1 rfl (lv_room (Nat.le_of_ble_eq_true rfl)) dM_edge_118 ⟨Nat.le_of_ble_eq_true rfl, Nat.le_of_ble_eq_true rfl⟩) hW (fun r_22 M_23 H locs hp_24 hW => ?_)
                      have hW : fm_W D fs_cl5 A M_4 s.heap H locs := by rw [← hp_24.2]; exact hW
                      have hv : r_22 = fs_vC od (fs_mem ck (ck g) (cn 3)) (cn 3) wh := by rw [hp_24.1, v5, if_neg (by decide), if_neg (by rw [c_18]; decide)]
                      exact fm_lret hx hb hr hlocks hW ⟨_, _, _, _, hM, hMf, hpo.1, hpo.2.1, Or.inr ⟨g, g1, g2, g3n, Or.inr (Or.inr (Or.inl ⟨hw23, h15, h00, hv⟩))⟩⟩ dM_edge_121
                  · have h15 : ¬ fs_pc 64 (fs_uN (fs_mem ck (ck g) (cn 3))) ≤ 15 := by rw [← q16]; intro z; exact c_17 (by rw [hu]; exact nI_le (b := 15) z (by decide))
                    refine lv_aload_n hx hb dM_edge_99 rfl (lv_at hl 1 rfl) ?_
                    refine lv_iconst (v := 1) hx hb dM_edge_100 (by decide) ?_
                    refine fm_put (ci := 4) (v := .int 1) (ty := .int) (C := RM) (T := TM) (N := 30) hx hb hT inM tyM tkM nmM hown hK hW hM.1 rfl 0 (by decide) (hT _ fl_M_64) (fun _ h9 => h9) rfl (by decide +kernel) rfl rfl (Nat.le_of_ble_eq_true rfl) dM_edge_101 (fun H locs hW => ?_)
                    obtain ⟨M_25, eM_25⟩ : ∃ z : fm_M, z = va_up M_4 b (some (.inr (4, [.int 1, .int (nI (cn 0)), .int (nI (cn 1)), .int (nI (cn 2)), .int (nI (cn 3)), .int (nI (cn 4)), .ref (b + 1), .ref (b + 2), .ref (b + 3), .ref (b + 4), .ref (b + 5), .ref (b + 6), .ref (b + 7), .ref (b + 8), .ref (b + 9), .ref (b + 10), .ref (b + 11), .ref (b + 12), .ref (b + 13), .ref (b + 14), .int (si3 20), .int (si3 21), .int (si3 22), .long (sl3 23), .int (si3 24), .int (si3 25), .long (sl3 26), .int (si3 27), .ref (b + 15), .ref (b + 16)]))) := ⟨_, rfl⟩
                    have hW : fm_W D fs_cl5 A M_25 s.heap H locs := by rw [eM_25]; exact hW
                    have f_26 : M_25 b = some (.inr (4, [.int 1, .int (nI (cn 0)), .int (nI (cn 1)), .int (nI (cn 2)), .int (nI (cn 3)), .int (nI (cn 4)), .ref (b + 1), .ref (b + 2), .ref (b + 3), .ref (b + 4), .ref (b + 5), .ref (b + 6), .ref (b + 7), .ref (b + 8), .ref (b + 9), .ref (b + 10), .ref (b + 11), .ref (b + 12), .ref (b + 13), .ref (b + 14), .int (si3 20), .int (si3 21), .int (si3 22), .long (sl3 23), .int (si3 24), .int (si3 25), .long (sl3 26), .int (si3 27), .ref (b + 15), .ref (b + 16)])) := by rw [eM_25]; exact fm_us
                    have hM : fs_MW ct M_25 b cn (va_up si3 0 1) sl3 ia3 la3 := by rw [eM_25]; exact fs_MW_o hM cn (va_up si3 0 1) sl3
                    have hMf : fs_Mf b M M_25 := by rw [eM_25]; exact fs_Mf_u hMf (by omega) _
                    refine lv_lconst (v := 0) hx hb dM_edge_104 (by decide) ?_
                    exact fm_lret hx hb hr hlocks hW ⟨_, _, _, _, hM, hMf, hpo.1, hpo.2.1, Or.inr ⟨g, g1, g2, g3n, Or.inr (Or.inr (Or.inr (Or.inl ⟨hw23, h15, rfl⟩)))⟩⟩ dM_edge_105
                · exact absurd (nI_le (Nat.le_refl (cn 3)) (by omega)) c_16
            · refine lv_aload_n hx hb dM_edge_51 rfl (lv_at hl 0 rfl) ?_
              refine fm_get (ci := 4) (v := .ref (b + 16)) (C := RM) (T := TM) (N := 30) hx hb hT inM hown hK hW hM.1 rfl 29 (by decide) (hT _ fl_M_57) (fun _ h9 => h9) rfl dM_edge_52 ?_
              refine lv_iload_n hx hb dM_edge_55 rfl (lv_at hl 1 rfl) ?_
              refine fn_lald (n := 40) (f := la3 16) hx hb hK hW 1 (hM.2.2.1 16 rfl) rfl (show e0 < 40 by omega) (by decide) dM_edge_56 ?_
              exact fm_lret hx hb hr hlocks hW ⟨_, _, _, _, hM, hMf, hpo.1, hpo.2.1, Or.inr ⟨g, g1, g2, g3n, Or.inr (Or.inl ⟨c_11, h00, q16⟩)⟩⟩ dM_edge_57
          · refine lv_aload_n hx hb dM_edge_38 rfl (lv_at hl 0 rfl) ?_
            refine fm_get (ci := 4) (v := .ref (b + 15)) (C := RM) (T := TM) (N := 30) hx hb hT inM hown hK hW hM.1 rfl 28 (by decide) (hT _ fl_M_54) (fun _ h9 => h9) rfl dM_edge_39 ?_
            refine lv_iload_n hx hb dM_edge_42 rfl (lv_at hl 1 rfl) ?_
            refine fn_iald (n := 40) (f := ia3 15) hx hb hK hW 0 (hM.2.1 15 rfl) rfl (show e0 < 40 by omega) (by decide) dM_edge_43 ?_
            refine lv_i2l (v := ((ia3 15) e0).toInt64) hx hb dM_edge_44 rfl ?_
            exact fm_lret hx hb hr hlocks hW ⟨_, _, _, _, hM, hMf, hpo.1, hpo.2.1, Or.inr ⟨g, g1, g2, g3n, Or.inl ⟨c_10, h00, by rw [q15]⟩⟩⟩ dM_edge_45
        · refine lv_ldc2 hx hb hown (hT _ cn_M_145) dM_edge_30 ?_
          exact fm_lret hx hb hr hlocks hW ⟨_, _, _, _, hM, hMf, hpo.1, hpo.2.1, Or.inr ⟨g, g1, g2, g3n, Or.inr (Or.inr (Or.inr (Or.inr ⟨by rintro rfl; exact c_9 (by decide), by rintro rfl; exact c_9 (by decide), by rintro rfl; exact c_9 (by decide), by rintro rfl; exact c_9 (by decide), h00, rfl⟩)))⟩⟩ dM_edge_33
