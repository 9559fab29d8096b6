-- the reference: rows
theorem fs_ndf : ∀ a : Bool, ¬ a = false → a = true := by decide
def fs_rw (ia : Nat → Nat → Int32) (la : Nat → Nat → Int64) (i : Nat) : fs_Q := (ia 8 i, ia 9 i, ia 10 i, la 11 i)
/-- nothing but rows -/
def fs_ro (ia : Nat → Nat → Int32) (la : Nat → Nat → Int64) (ia2 : Nat → Nat → Int32) (la2 : Nat → Nat → Int64) : Prop := (∀ k, k ≠ 8 → k ≠ 9 → k ≠ 10 → ia2 k = ia k) ∧ ∀ k, k ≠ 11 → la2 k = la k
def fs_rs (ia : Nat → Nat → Int32) (la : Nat → Nat → Int64) (ia2 : Nat → Nat → Int32) (la2 : Nat → Nat → Int64) (t : Nat) (q : fs_Q) : Prop := fs_ro ia la ia2 la2 ∧ ∀ i, fs_rw ia2 la2 i = if i = t then q else fs_rw ia la i
theorem fs_ro_r {ia : Nat → Nat → Int32} {la : Nat → Nat → Int64} : fs_ro ia la ia la := ⟨fun _ _ _ _ => rfl, fun _ _ => rfl⟩
theorem fs_ro_t {ia ia1 ia2 : Nat → Nat → Int32} {la la1 la2 : Nat → Nat → Int64} (h : fs_ro ia la ia1 la1) (g : fs_ro ia1 la1 ia2 la2) : fs_ro ia la ia2 la2 := ⟨fun k a b c => (g.1 k a b c).trans (h.1 k a b c), fun k a => (g.2 k a).trans (h.2 k a)⟩
theorem fs_Up_r {α : Type} {i : Nat} {f g h h2 : Nat → α} {v : α} (H : fs_Up i f g h) (e : ∀ j, h2 j = if j = i then v else h j) (hv : v = g i) : fs_Up (i + 1) f g h2 := by
  refine ⟨fun j hj => ?_, fun j hj => ?_⟩
  · rw [e j]
    by_cases q : j = i
    · rw [if_pos q, hv, q]
    · rw [if_neg q]; exact H.1 j (by omega)
  · rw [e j, if_neg (by omega)]
    exact H.2 j (by omega)
theorem fs_gd_6 {q : fs_Q} {k a b : Int32} (h0 : ¬ k = 0) (h1 : ¬ k = 1) (h2 : ¬ k = 2) (h3 : ¬ k = 3) (h4 : ¬ k = 4) (h5 : ¬ k = 5) : fs_gd q k a b = (q.1, q.2.1, q.2.2.1 ^^^ fs_bi q.1 a, q.2.2.2) := by
  unfold fs_gd
  simp only [if_neg h0, if_neg h1, if_neg h2, if_neg h3, if_neg h4, if_neg h5]
def fs_md (si : Nat → Int32) (sl : Nat → Int64) : fs_Q := (si 20, si 21, si 22, sl 23)
set_option maxHeartbeats 4000000 in
set_option maxRecDepth 100000 in
theorem c_M_multiply (l : Launch) (D : va_G) (ct : Nat → ClassId) (A : Nat → Prop) (M : fm_M) (b : Nat) (cn : Nat → Nat) (si : Nat → Int32) (sl : Nat → Int64) (ia : Nat → Nat → Int32) (la : Nat → Nat → Int64) (τ ρ : Nat) (hM : fs_MW ct M b cn si sl ia la) (hB : fs_Bd cn) (hτ : τ < cn 0) (hρ : ρ < cn 0) : Met l yM_multiply wM_multiply ({ frames := 2, cells := 0, slots := 0, locals := 49 }) (va_Pc [.ref b, .int (nI τ), .int (nI ρ)] (fm_St D fs_cl5 (fs_tys ct) fs_nw A M)) (va_Qv (fun (M1 : fm_M) => ∃ (ia2 : Nat → Nat → Int32) (la2 : Nat → Nat → Int64), fs_MW ct M1 b cn si sl ia2 la2 ∧ fs_Mf b M M1 ∧ fs_rs ia la ia2 la2 τ (fs_ml (cn 0) (fs_rw ia la τ) (fs_rw ia la ρ))) (fm_B D fs_cl5 A) A) 0 0 A := by
  refine Met.ofW (cc := cM_multiply) (maxL := 3) (ret := none) (by decide) rfl ?_
  intro p e s m args below meth c s₁ B hml hv
  obtain ⟨rfl, hP0, hA0, hA1, hK, hN⟩ := hv
  have hx := B.exec
  have hb := B.bytes
  have hr := B.returns
  have hts := atoms_spec (ws := wM_multiply) B.pre
  have hT : ∀ w ∈ fs_tb, w.before _ s = true := fun w h => hts w (List.mem_cons_of_mem _ h)
  have hown : s.vm.findClass "FrameSamplesModel" = some m.cls := findClass_of_methodNamed B.named
  have hlocks := B.notSynchronized
  have hW : fm_W D fs_cl5 A M s.heap s.heap [] := ⟨hP0, hA0, va_S.rf, hA1⟩
  have hl := lv_entry ([.ref b, .int (nI τ), .int (nI ρ)]) (n := 3) (Nat.le_of_ble_eq_true rfl)
  rw [lg_entry_eq]
  generalize (lg_sl ([.ref b, .int (nI τ), .int (nI ρ)]) ++ List.replicate (3 - (lg_sl ([.ref b, .int (nI τ), .int (nI ρ)])).length) Slot.unset).toArray = ls at hl ⊢
  have hl : lv_has ls 3 [(0, .ref b), (1, .int (nI τ)), (2, .int (nI ρ))] := hl
  obtain ⟨hB0, hB1, hB2, hB3, hB4, hB5⟩ := hB
  have hMf : fs_Mf b M M := fs_Mf_r
  refine lv_aload_n hx hb dM_multiply_0 rfl (lv_at hl 0 rfl) ?_
  refine fm_get (ci := 4) (v := .ref (b + 10)) (C := RM) (T := TM) (N := 30) hx hb hT inM hown hK hW hM.1 rfl 15 (by decide) (hT _ fl_M_38) (fun _ h9 => h9) rfl dM_multiply_1 ?_
  refine lv_iload_n hx hb dM_multiply_4 rfl (lv_at hl 1 rfl) ?_
  refine lv_dup2_11 hx hb dM_multiply_5 rfl rfl ?_
  refine fn_iald (n := 10) (f := ia 10) hx hb hK hW 0 (hM.2.1 10 rfl) rfl (show τ < 10 by omega) (by decide) dM_multiply_6 ?_
  refine lv_aload_n hx hb dM_multiply_7 rfl (lv_at hl 0 rfl) ?_
  refine fm_get (ci := 4) (v := .ref (b + 10)) (C := RM) (T := TM) (N := 30) hx hb hT inM hown hK hW hM.1 rfl 15 (by decide) (hT _ fl_M_38) (fun _ h9 => h9) rfl dM_multiply_8 ?_
  refine lv_iload_n hx hb dM_multiply_11 rfl (lv_at hl 2 rfl) ?_
  refine fn_iald (n := 10) (f := ia 10) hx hb hK hW 0 (hM.2.1 10 rfl) rfl (show ρ < 10 by omega) (by decide) dM_multiply_12 ?_
  refine lv_aload_n hx hb dM_multiply_13 rfl (lv_at hl 0 rfl) ?_
  refine lv_aload_n hx hb dM_multiply_14 rfl (lv_at hl 0 rfl) ?_
  refine fm_get (ci := 4) (v := .ref (b + 8)) (C := RM) (T := TM) (N := 30) hx hb hT inM hown hK hW hM.1 rfl 13 (by decide) (hT _ fl_M_32) (fun _ h9 => h9) rfl dM_multiply_15 ?_
  refine lv_iload_n hx hb dM_multiply_18 rfl (lv_at hl 2 rfl) ?_
  refine fn_iald (n := 10) (f := ia 8) hx hb hK hW 0 (hM.2.1 8 rfl) rfl (show ρ < 10 by omega) (by decide) dM_multiply_19 ?_
  refine lv_aload_n hx hb dM_multiply_20 rfl (lv_at hl 0 rfl) ?_
  refine fm_get (ci := 4) (v := .ref (b + 9)) (C := RM) (T := TM) (N := 30) hx hb hT inM hown hK hW hM.1 rfl 14 (by decide) (hT _ fl_M_35) (fun _ h9 => h9) rfl dM_multiply_21 ?_
  refine lv_iload_n hx hb dM_multiply_24 rfl (lv_at hl 2 rfl) ?_
  refine fn_iald (n := 10) (f := ia 9) hx hb hK hW 0 (hM.2.1 9 rfl) rfl (show ρ < 10 by omega) (by decide) dM_multiply_25 ?_
  refine lv_aload_n hx hb dM_multiply_26 rfl (lv_at hl 0 rfl) ?_
  refine fm_get (ci := 4) (v := .ref (b + 8)) (C := RM) (T := TM) (N := 30) hx hb hT inM hown hK hW hM.1 rfl 13 (by decide) (hT _ fl_M_32) (fun _ h9 => h9) rfl dM_multiply_27 ?_
  refine lv_iload_n hx hb dM_multiply_30 rfl (lv_at hl 1 rfl) ?_
  refine fn_iald (n := 10) (f := ia 8) hx hb hK hW 0 (hM.2.1 8 rfl) rfl (show τ < 10 by omega) (by decide) dM_multiply_31 ?_
  refine lv_aload_n hx hb dM_multiply_32 rfl (lv_at hl 0 rfl) ?_
  refine fm_get (ci := 4) (v := .ref (b + 9)) (C := RM) (T := TM) (N := 30) hx hb hT inM hown hK hW hM.1 rfl 14 (by decide) (hT _ fl_M_35) (fun _ h9 => h9) rfl dM_multiply_33 ?_
  refine lv_iload_n hx hb dM_multiply_36 rfl (lv_at hl 1 rfl) ?_
  refine fn_iald (n := 10) (f := ia 9) hx hb hK hW 0 (hM.2.1 9 rfl) rfl (show τ < 10 by omega) (by decide) dM_multiply_37 ?_
  refine fm_calli (va_runV (As := [.int ((ia 8) ρ), .int ((ia 9) ρ), .int ((ia 8) τ), .int ((ia 9) τ)]) (rest := [.int ((ia 10) ρ), .int ((ia 10) τ), .int (nI τ), .ref (b + 10)]) ⟨hx, hb, hml, hown, hts⟩ (c_M_powers l D ct A M b cn si sl ia la ((ia 8) ρ) ((ia 9) ρ) ((ia 8) τ) ((ia 9) τ) hM ⟨hB0, hB1, hB2, hB3, hB4, hB5⟩) ⟨callB_of 4 hts (fs_gin co_M_powers) rfl rfl rfl (hT _ ini_M) (hT _ ml_M_103) (by decide +kernel) ⟨Nat.le_of_ble_eq_true rfl, Nat.le_of_ble_eq_true rfl⟩, hT _ im_M_powers, hT _ se_M_powers⟩ (fn_preV fs_isnw hK hN hW hM.1 rfl) rfl rfl hl.1 rfl (lv_room (Nat.le_of_ble_eq_true rfl)) dM_multiply_38 ⟨Nat.le_of_ble_eq_true rfl, Nat.le_of_ble_eq_true rfl⟩) hW (fun r_1 M_2 H locs hp_3 hW => ?_)
  have hW : fm_W D fs_cl5 A M s.heap H locs := by rw [← hp_3.2]; exact hW
  have er_1 := hp_3.1
  refine lv_iconst (v := 1) hx hb dM_multiply_41 (by decide) ?_
  refine lv_ishr hx hb dM_multiply_42 ?_
  refine lv_ixor hx hb dM_multiply_43 ?_
  refine lv_ixor hx hb dM_multiply_44 ?_
  refine lv_topi (fun x_4 ex_4 => ?_)
  refine fn_iast (n := 10) (f := ia 10) hx hb hK hW 0 (hM.2.1 10 rfl) rfl (show τ < 10 by omega) (by decide) dM_multiply_45 (fun H locs hW => ?_)
  obtain ⟨M_5, eM_5⟩ : ∃ z : fm_M, z = va_up M (b + 10) (some (.inl (ct 0, 10, .inl (upd (ia 10) τ x_4)))) := ⟨_, rfl⟩
  have hW : fm_W D fs_cl5 A M_5 s.heap H locs := by rw [eM_5]; exact hW
  have hM : fs_MW ct M_5 b cn si sl (va_up ia 10 (upd (ia 10) τ x_4)) la := by rw [eM_5]; exact fs_MW_i hM 10 rfl _
  have hMf : fs_Mf b M M_5 := by rw [eM_5]; exact fs_Mf_u hMf (by omega) _
  refine lv_aload_n hx hb dM_multiply_46 rfl (lv_at hl 0 rfl) ?_
  refine fm_get (ci := 4) (v := .ref (b + 11)) (C := RM) (T := TM) (N := 30) hx hb hT inM hown hK hW hM.1 rfl 16 (by decide) (hT _ fl_M_41) (fun _ h9 => h9) rfl dM_multiply_47 ?_
  refine lv_iload_n hx hb dM_multiply_50 rfl (lv_at hl 1 rfl) ?_
  refine lv_dup2_11 hx hb dM_multiply_51 rfl rfl ?_
  refine fn_lald (n := 10) (f := la 11) hx hb hK hW 1 (hM.2.2.1 11 rfl) rfl (show τ < 10 by omega) (by decide) dM_multiply_52 ?_
  refine lv_aload_n hx hb dM_multiply_53 rfl (lv_at hl 0 rfl) ?_
  refine fm_get (ci := 4) (v := .ref (b + 11)) (C := RM) (T := TM) (N := 30) hx hb hT inM hown hK hW hM.1 rfl 16 (by decide) (hT _ fl_M_41) (fun _ h9 => h9) rfl dM_multiply_54 ?_
  refine lv_iload_n hx hb dM_multiply_57 rfl (lv_at hl 2 rfl) ?_
  refine fn_lald (n := 10) (f := la 11) hx hb hK hW 1 (hM.2.2.1 11 rfl) rfl (show ρ < 10 by omega) (by decide) dM_multiply_58 ?_
  refine lv_lxor hx hb dM_multiply_59 ?_
  refine lv_topl (fun x_6 ex_6 => ?_)
  refine fn_last (n := 10) (f := la 11) hx hb hK hW 1 (hM.2.2.1 11 rfl) rfl (show τ < 10 by omega) (by decide) dM_multiply_60 (fun H locs hW => ?_)
  obtain ⟨M_7, eM_7⟩ : ∃ z : fm_M, z = va_up M_5 (b + 11) (some (.inl (ct 1, 10, .inr (.inl (vp_updL (la 11) τ x_6))))) := ⟨_, rfl⟩
  have hW : fm_W D fs_cl5 A M_7 s.heap H locs := by rw [eM_7]; exact hW
  have hM : fs_MW ct M_7 b cn si sl (va_up ia 10 (upd (ia 10) τ x_4)) (va_up la 11 (vp_updL (la 11) τ x_6)) := by rw [eM_7]; exact fs_MW_l hM 11 rfl _
  have hMf : fs_Mf b M M_7 := by rw [eM_7]; exact fs_Mf_u hMf (by omega) _
  refine lv_aload_n hx hb dM_multiply_61 rfl (lv_at hl 0 rfl) ?_
  refine fm_get (ci := 4) (v := .ref (b + 8)) (C := RM) (T := TM) (N := 30) hx hb hT inM hown hK hW hM.1 rfl 13 (by decide) (hT _ fl_M_32) (fun _ h9 => h9) rfl dM_multiply_62 ?_
  refine lv_iload_n hx hb dM_multiply_65 rfl (lv_at hl 1 rfl) ?_
  refine lv_dup2_11 hx hb dM_multiply_66 rfl rfl ?_
  refine fn_iald (n := 10) (f := ia 8) hx hb hK hW 0 (hM.2.1 8 rfl) rfl (show τ < 10 by omega) (by decide) dM_multiply_67 ?_
  refine lv_aload_n hx hb dM_multiply_68 rfl (lv_at hl 0 rfl) ?_
  refine fm_get (ci := 4) (v := .ref (b + 8)) (C := RM) (T := TM) (N := 30) hx hb hT inM hown hK hW hM.1 rfl 13 (by decide) (hT _ fl_M_32) (fun _ h9 => h9) rfl dM_multiply_69 ?_
  refine lv_iload_n hx hb dM_multiply_72 rfl (lv_at hl 2 rfl) ?_
  refine fn_iald (n := 10) (f := ia 8) hx hb hK hW 0 (hM.2.1 8 rfl) rfl (show ρ < 10 by omega) (by decide) dM_multiply_73 ?_
  refine lv_ixor hx hb dM_multiply_74 ?_
  refine lv_topi (fun x_8 ex_8 => ?_)
  refine fn_iast (n := 10) (f := ia 8) hx hb hK hW 0 (hM.2.1 8 rfl) rfl (show τ < 10 by omega) (by decide) dM_multiply_75 (fun H locs hW => ?_)
  obtain ⟨M_9, eM_9⟩ : ∃ z : fm_M, z = va_up M_7 (b + 8) (some (.inl (ct 0, 10, .inl (upd (ia 8) τ x_8)))) := ⟨_, rfl⟩
  have hW : fm_W D fs_cl5 A M_9 s.heap H locs := by rw [eM_9]; exact hW
  have hM : fs_MW ct M_9 b cn si sl (va_up (va_up ia 10 (upd (ia 10) τ x_4)) 8 (upd (ia 8) τ x_8)) (va_up la 11 (vp_updL (la 11) τ x_6)) := by rw [eM_9]; exact fs_MW_i hM 8 rfl _
  have hMf : fs_Mf b M M_9 := by rw [eM_9]; exact fs_Mf_u hMf (by omega) _
  refine lv_aload_n hx hb dM_multiply_76 rfl (lv_at hl 0 rfl) ?_
  refine fm_get (ci := 4) (v := .ref (b + 9)) (C := RM) (T := TM) (N := 30) hx hb hT inM hown hK hW hM.1 rfl 14 (by decide) (hT _ fl_M_35) (fun _ h9 => h9) rfl dM_multiply_77 ?_
  refine lv_iload_n hx hb dM_multiply_80 rfl (lv_at hl 1 rfl) ?_
  refine lv_dup2_11 hx hb dM_multiply_81 rfl rfl ?_
  refine fn_iald (n := 10) (f := ia 9) hx hb hK hW 0 (hM.2.1 9 rfl) rfl (show τ < 10 by omega) (by decide) dM_multiply_82 ?_
  refine lv_aload_n hx hb dM_multiply_83 rfl (lv_at hl 0 rfl) ?_
  refine fm_get (ci := 4) (v := .ref (b + 9)) (C := RM) (T := TM) (N := 30) hx hb hT inM hown hK hW hM.1 rfl 14 (by decide) (hT _ fl_M_35) (fun _ h9 => h9) rfl dM_multiply_84 ?_
  refine lv_iload_n hx hb dM_multiply_87 rfl (lv_at hl 2 rfl) ?_
  refine fn_iald (n := 10) (f := ia 9) hx hb hK hW 0 (hM.2.1 9 rfl) rfl (show ρ < 10 by omega) (by decide) dM_multiply_88 ?_
  refine lv_ixor hx hb dM_multiply_89 ?_
  refine lv_topi (fun x_10 ex_10 => ?_)
  refine fn_iast (n := 10) (f := ia 9) hx hb hK hW 0 (hM.2.1 9 rfl) rfl (show τ < 10 by omega) (by decide) dM_multiply_90 (fun H locs hW => ?_)
  obtain ⟨M_11, eM_11⟩ : ∃ z : fm_M, z = va_up M_9 (b + 9) (some (.inl (ct 0, 10, .inl (upd (ia 9) τ x_10)))) := ⟨_, rfl⟩
  have hW : fm_W D fs_cl5 A M_11 s.heap H locs := by rw [eM_11]; exact hW
  have hM : fs_MW ct M_11 b cn si sl (va_up (va_up (va_up ia 10 (upd (ia 10) τ x_4)) 8 (upd (ia 8) τ x_8)) 9 (upd (ia 9) τ x_10)) (va_up la 11 (vp_updL (la 11) τ x_6)) := by rw [eM_11]; exact fs_MW_i hM 9 rfl _
  have hMf : fs_Mf b M M_11 := by rw [eM_11]; exact fs_Mf_u hMf (by omega) _
  have hR : fs_rs ia la (va_up (va_up (va_up ia 10 (upd (ia 10) τ x_4)) 8 (upd (ia 8) τ x_8)) 9 (upd (ia 9) τ x_10)) (va_up la 11 (vp_updL (la 11) τ x_6)) τ (fs_ml (cn 0) (fs_rw ia la τ) (fs_rw ia la ρ)) := by
    refine ⟨⟨fun k h8 h9 h10 => ?_, fun k h11 => ?_⟩, fun z9 => ?_⟩
    · simp only [fu_n h8, fu_n h9, fu_n h10]
    · simp only [fu_n h11]
    · show ((upd (ia 8) τ x_8) z9, (upd (ia 9) τ x_10) z9, (upd (ia 10) τ x_4) z9, (vp_updL (la 11) τ x_6) z9) = _
      by_cases q : z9 = τ
      · subst q; rw [if_pos rfl]; simp only [pk_us, pk_uLs]
        subst ex_10
        subst ex_8
        subst ex_6
        subst ex_4
        subst er_1
        rfl
      · rw [if_neg q]; try simp only [pk_un q, pk_uLn q]
        rfl
  exact fm_vret hx hb hr hlocks hW ⟨_, _, hM, hMf, hR⟩ dM_multiply_91
set_option maxHeartbeats 4000000 in
set_option maxRecDepth 100000 in
theorem c_M_takeRow (l : Launch) (D : va_G) (ct : Nat → ClassId) (A : Nat → Prop) (M : fm_M) (b : Nat) (cn : Nat → Nat) (si : Nat → Int32) (sl : Nat → Int64) (ia : Nat → Nat → Int32) (la : Nat → Nat → Int64) (ρ : Nat) (hM : fs_MW ct M b cn si sl ia la) (hB : fs_Bd cn) (hρ : ρ < cn 0) : Met l yM_takeRow wM_takeRow ({ frames := 2, cells := 0, slots := 0, locals := 49 }) (va_Pc [.ref b, .int (nI ρ)] (fm_St D fs_cl5 (fs_tys ct) fs_nw A M)) (va_Qv (fun (M1 : fm_M) => ∃ (si2 : Nat → Int32) (sl2 : Nat → Int64), fs_MW ct M1 b cn si2 sl2 ia la ∧ fs_Mf b M M1 ∧ si2 0 = si 0 ∧ fs_md si2 sl2 = fs_ml (cn 0) (fs_md si sl) (fs_rw ia la ρ)) (fm_B D fs_cl5 A) A) 0 0 A := by
  refine Met.ofW (cc := cM_takeRow) (maxL := 2) (ret := none) (by decide) rfl ?_
  intro p e s m args below meth c s₁ B hml hv
  obtain ⟨rfl, hP0, hA0, hA1, hK, hN⟩ := hv
  have hx := B.exec
  have hb := B.bytes
  have hr := B.returns
  have hts := atoms_spec (ws := wM_takeRow) B.pre
  have hT : ∀ w ∈ fs_tb, w.before _ s = true := fun w h => hts w (List.mem_cons_of_mem _ h)
  have hown : s.vm.findClass "FrameSamplesModel" = some m.cls := findClass_of_methodNamed B.named
  have hlocks := B.notSynchronized
  have hW : fm_W D fs_cl5 A M s.heap s.heap [] := ⟨hP0, hA0, va_S.rf, hA1⟩
  have hl := lv_entry ([.ref b, .int (nI ρ)]) (n := 2) (Nat.le_of_ble_eq_true rfl)
  rw [lg_entry_eq]
  generalize (lg_sl ([.ref b, .int (nI ρ)]) ++ List.replicate (2 - (lg_sl ([.ref b, .int (nI ρ)])).length) Slot.unset).toArray = ls at hl ⊢
  have hl : lv_has ls 2 [(0, .ref b), (1, .int (nI ρ))] := hl
  obtain ⟨hB0, hB1, hB2, hB3, hB4, hB5⟩ := hB
  have hMf : fs_Mf b M M := fs_Mf_r
  refine lv_aload_n hx hb dM_takeRow_0 rfl (lv_at hl 0 rfl) ?_
  refine lv_dup hx hb dM_takeRow_1 rfl ?_
  refine fm_get (ci := 4) (v := .int (si 22)) (C := RM) (T := TM) (N := 30) hx hb hT inM hown hK hW hM.1 rfl 22 (by decide) (hT _ fl_M_116) (fun _ h9 => h9) rfl dM_takeRow_2 ?_
  refine lv_aload_n hx hb dM_takeRow_5 rfl (lv_at hl 0 rfl) ?_
  refine fm_get (ci := 4) (v := .ref (b + 10)) (C := RM) (T := TM) (N := 30) hx hb hT inM hown hK hW hM.1 rfl 15 (by decide) (hT _ fl_M_38) (fun _ h9 => h9) rfl dM_takeRow_6 ?_
  refine lv_iload_n hx hb dM_takeRow_9 rfl (lv_at hl 1 rfl) ?_
  refine fn_iald (n := 10) (f := ia 10) hx hb hK hW 0 (hM.2.1 10 rfl) rfl (show ρ < 10 by omega) (by decide) dM_takeRow_10 ?_
  refine lv_aload_n hx hb dM_takeRow_11 rfl (lv_at hl 0 rfl) ?_
  refine lv_aload_n hx hb dM_takeRow_12 rfl (lv_at hl 0 rfl) ?_
  refine fm_get (ci := 4) (v := .ref (b + 8)) (C := RM) (T := TM) (N := 30) hx hb hT inM hown hK hW hM.1 rfl 13 (by decide) (hT _ fl_M_32) (fun _ h9 => h9) rfl dM_takeRow_13 ?_
  refine lv_iload_n hx hb dM_takeRow_16 rfl (lv_at hl 1 rfl) ?_
  refine fn_iald (n := 10) (f := ia 8) hx hb hK hW 0 (hM.2.1 8 rfl) rfl (show ρ < 10 by omega) (by decide) dM_takeRow_17 ?_
  refine lv_aload_n hx hb dM_takeRow_18 rfl (lv_at hl 0 rfl) ?_
  refine fm_get (ci := 4) (v := .ref (b + 9)) (C := RM) (T := TM) (N := 30) hx hb hT inM hown hK hW hM.1 rfl 14 (by decide) (hT _ fl_M_35) (fun _ h9 => h9) rfl dM_takeRow_19 ?_
  refine lv_iload_n hx hb dM_takeRow_22 rfl (lv_at hl 1 rfl) ?_
  refine fn_iald (n := 10) (f := ia 9) hx hb hK hW 0 (hM.2.1 9 rfl) rfl (show ρ < 10 by omega) (by decide) dM_takeRow_23 ?_
  refine lv_aload_n hx hb dM_takeRow_24 rfl (lv_at hl 0 rfl) ?_
  refine fm_get (ci := 4) (v := .int (si 20)) (C := RM) (T := TM) (N := 30) hx hb hT inM hown hK hW hM.1 rfl 20 (by decide) (hT _ fl_M_119) (fun _ h9 => h9) rfl dM_takeRow_25 ?_
  refine lv_aload_n hx hb dM_takeRow_28 rfl (lv_at hl 0 rfl) ?_
  refine fm_get (ci := 4) (v := .int (si 21)) (C := RM) (T := TM) (N := 30) hx hb hT inM hown hK hW hM.1 rfl 21 (by decide) (hT _ fl_M_122) (fun _ h9 => h9) rfl dM_takeRow_29 ?_
  refine fm_calli (va_runV (As := [.int ((ia 8) ρ), .int ((ia 9) ρ), .int (si 20), .int (si 21)]) (rest := [.int ((ia 10) ρ), .int (si 22), .ref b]) ⟨hx, hb, hml, hown, hts⟩ (c_M_powers l D ct A M b cn si sl ia la ((ia 8) ρ) ((ia 9) ρ) (si 20) (si 21) hM ⟨hB0, hB1, hB2, hB3, hB4, hB5⟩) ⟨callB_of 4 hts (fs_gin co_M_powers) rfl rfl rfl (hT _ ini_M) (hT _ ml_M_103) (by decide +kernel) ⟨Nat.le_of_ble_eq_true rfl, Nat.le_of_ble_eq_true rfl⟩, hT _ im_M_powers, hT _ se_M_powers⟩ (fn_preV fs_isnw hK hN hW hM.1 rfl) rfl rfl hl.1 rfl (lv_room (Nat.le_of_ble_eq_true rfl)) dM_takeRow_32 ⟨Nat.le_of_ble_eq_true rfl, Nat.le_of_ble_eq_true rfl⟩) hW (fun r_1 M_2 H locs hp_3 hW => ?_)
  have hW : fm_W D fs_cl5 A M s.heap H locs := by rw [← hp_3.2]; exact hW
  have er_1 := hp_3.1
  refine lv_iconst (v := 1) hx hb dM_takeRow_35 (by decide) ?_
  refine lv_ishr hx hb dM_takeRow_36 ?_
  refine lv_ixor hx hb dM_takeRow_37 ?_
  refine lv_ixor hx hb dM_takeRow_38 ?_
  refine lv_topi (fun x_4 ex_4 => ?_)
  refine fm_put (ci := 4) (v := .int x_4) (ty := .int) (C := RM) (T := TM) (N := 30) hx hb hT inM tyM tkM nmM hown hK hW hM.1 rfl 22 (by decide) (hT _ fl_M_116) (fun _ h9 => h9) rfl (by decide +kernel) rfl rfl (Nat.le_of_ble_eq_true rfl) dM_takeRow_39 (fun H locs hW => ?_)
  obtain ⟨M_5, eM_5⟩ : ∃ z : fm_M, z = va_up M b (some (.inr (4, [.int (si 0), .int (nI (cn 0)), .int (nI (cn 1)), .int (nI (cn 2)), .int (nI (cn 3)), .int (nI (cn 4)), .ref (b + 1), .ref (b + 2), .ref (b + 3), .ref (b + 4), .ref (b + 5), .ref (b + 6), .ref (b + 7), .ref (b + 8), .ref (b + 9), .ref (b + 10), .ref (b + 11), .ref (b + 12), .ref (b + 13), .ref (b + 14), .int (si 20), .int (si 21), .int x_4, .long (sl 23), .int (si 24), .int (si 25), .long (sl 26), .int (si 27), .ref (b + 15), .ref (b + 16)]))) := ⟨_, rfl⟩
  have hW : fm_W D fs_cl5 A M_5 s.heap H locs := by rw [eM_5]; exact hW
  have f_6 : M_5 b = some (.inr (4, [.int (si 0), .int (nI (cn 0)), .int (nI (cn 1)), .int (nI (cn 2)), .int (nI (cn 3)), .int (nI (cn 4)), .ref (b + 1), .ref (b + 2), .ref (b + 3), .ref (b + 4), .ref (b + 5), .ref (b + 6), .ref (b + 7), .ref (b + 8), .ref (b + 9), .ref (b + 10), .ref (b + 11), .ref (b + 12), .ref (b + 13), .ref (b + 14), .int (si 20), .int (si 21), .int x_4, .long (sl 23), .int (si 24), .int (si 25), .long (sl 26), .int (si 27), .ref (b + 15), .ref (b + 16)])) := by rw [eM_5]; exact fm_us
  have hM : fs_MW ct M_5 b cn (va_up si 22 x_4) sl ia la := by rw [eM_5]; exact fs_MW_o hM cn (va_up si 22 x_4) sl
  have hMf : fs_Mf b M M_5 := by rw [eM_5]; exact fs_Mf_u hMf (by omega) _
  refine lv_aload_n hx hb dM_takeRow_42 rfl (lv_at hl 0 rfl) ?_
  refine lv_dup hx hb dM_takeRow_43 rfl ?_
  refine fm_get (ci := 4) (v := .long (sl 23)) (C := RM) (T := TM) (N := 30) hx hb hT inM hown hK hW f_6 rfl 23 (by decide) (hT _ fl_M_125) (fun _ h9 => h9) rfl dM_takeRow_44 ?_
  refine lv_aload_n hx hb dM_takeRow_47 rfl (lv_at hl 0 rfl) ?_
  refine fm_get (ci := 4) (v := .ref (b + 11)) (C := RM) (T := TM) (N := 30) hx hb hT inM hown hK hW f_6 rfl 16 (by decide) (hT _ fl_M_41) (fun _ h9 => h9) rfl dM_takeRow_48 ?_
  refine lv_iload_n hx hb dM_takeRow_51 rfl (lv_at hl 1 rfl) ?_
  refine fn_lald (n := 10) (f := la 11) hx hb hK hW 1 (hM.2.2.1 11 rfl) rfl (show ρ < 10 by omega) (by decide) dM_takeRow_52 ?_
  refine lv_lxor hx hb dM_takeRow_53 ?_
  refine lv_topl (fun x_7 ex_7 => ?_)
  refine fm_put (ci := 4) (v := .long x_7) (ty := .long) (C := RM) (T := TM) (N := 30) hx hb hT inM tyM tkM nmM hown hK hW f_6 rfl 23 (by decide) (hT _ fl_M_125) (fun _ h9 => h9) rfl (by decide +kernel) rfl rfl (Nat.le_of_ble_eq_true rfl) dM_takeRow_54 (fun H locs hW => ?_)
  obtain ⟨M_8, eM_8⟩ : ∃ z : fm_M, z = va_up M_5 b (some (.inr (4, [.int (si 0), .int (nI (cn 0)), .int (nI (cn 1)), .int (nI (cn 2)), .int (nI (cn 3)), .int (nI (cn 4)), .ref (b + 1), .ref (b + 2), .ref (b + 3), .ref (b + 4), .ref (b + 5), .ref (b + 6), .ref (b + 7), .ref (b + 8), .ref (b + 9), .ref (b + 10), .ref (b + 11), .ref (b + 12), .ref (b + 13), .ref (b + 14), .int (si 20), .int (si 21), .int x_4, .long x_7, .int (si 24), .int (si 25), .long (sl 26), .int (si 27), .ref (b + 15), .ref (b + 16)]))) := ⟨_, rfl⟩
  have hW : fm_W D fs_cl5 A M_8 s.heap H locs := by rw [eM_8]; exact hW
  have f_9 : M_8 b = some (.inr (4, [.int (si 0), .int (nI (cn 0)), .int (nI (cn 1)), .int (nI (cn 2)), .int (nI (cn 3)), .int (nI (cn 4)), .ref (b + 1), .ref (b + 2), .ref (b + 3), .ref (b + 4), .ref (b + 5), .ref (b + 6), .ref (b + 7), .ref (b + 8), .ref (b + 9), .ref (b + 10), .ref (b + 11), .ref (b + 12), .ref (b + 13), .ref (b + 14), .int (si 20), .int (si 21), .int x_4, .long x_7, .int (si 24), .int (si 25), .long (sl 26), .int (si 27), .ref (b + 15), .ref (b + 16)])) := by rw [eM_8]; exact fm_us
  have hM : fs_MW ct M_8 b cn (va_up si 22 x_4) (va_up sl 23 x_7) ia la := by rw [eM_8]; exact fs_MW_o hM cn (va_up si 22 x_4) (va_up sl 23 x_7)
  have hMf : fs_Mf b M M_8 := by rw [eM_8]; exact fs_Mf_u hMf (by omega) _
  refine lv_aload_n hx hb dM_takeRow_57 rfl (lv_at hl 0 rfl) ?_
  refine lv_dup hx hb dM_takeRow_58 rfl ?_
  refine fm_get (ci := 4) (v := .int (si 20)) (C := RM) (T := TM) (N := 30) hx hb hT inM hown hK hW f_9 rfl 20 (by decide) (hT _ fl_M_119) (fun _ h9 => h9) rfl dM_takeRow_59 ?_
  refine lv_aload_n hx hb dM_takeRow_62 rfl (lv_at hl 0 rfl) ?_
  refine fm_get (ci := 4) (v := .ref (b + 8)) (C := RM) (T := TM) (N := 30) hx hb hT inM hown hK hW f_9 rfl 13 (by decide) (hT _ fl_M_32) (fun _ h9 => h9) rfl dM_takeRow_63 ?_
  refine lv_iload_n hx hb dM_takeRow_66 rfl (lv_at hl 1 rfl) ?_
  refine fn_iald (n := 10) (f := ia 8) hx hb hK hW 0 (hM.2.1 8 rfl) rfl (show ρ < 10 by omega) (by decide) dM_takeRow_67 ?_
  refine lv_ixor hx hb dM_takeRow_68 ?_
  refine lv_topi (fun x_10 ex_10 => ?_)
  refine fm_put (ci := 4) (v := .int x_10) (ty := .int) (C := RM) (T := TM) (N := 30) hx hb hT inM tyM tkM nmM hown hK hW f_9 rfl 20 (by decide) (hT _ fl_M_119) (fun _ h9 => h9) rfl (by decide +kernel) rfl rfl (Nat.le_of_ble_eq_true rfl) dM_takeRow_69 (fun H locs hW => ?_)
  obtain ⟨M_11, eM_11⟩ : ∃ z : fm_M, z = va_up M_8 b (some (.inr (4, [.int (si 0), .int (nI (cn 0)), .int (nI (cn 1)), .int (nI (cn 2)), .int (nI (cn 3)), .int (nI (cn 4)), .ref (b + 1), .ref (b + 2), .ref (b + 3), .ref (b + 4), .ref (b + 5), .ref (b + 6), .ref (b + 7), .ref (b + 8), .ref (b + 9), .ref (b + 10), .ref (b + 11), .ref (b + 12), .ref (b + 13), .ref (b + 14), .int x_10, .int (si 21), .int x_4, .long x_7, .int (si 24), .int (si 25), .long (sl 26), .int (si 27), .ref (b + 15), .ref (b + 16)]))) := ⟨_, rfl⟩
  have hW : fm_W D fs_cl5 A M_11 s.heap H locs := by rw [eM_11]; exact hW
  have f_12 : M_11 b = some (.inr (4, [.int (si 0), .int (nI (cn 0)), .int (nI (cn 1)), .int (nI (cn 2)), .int (nI (cn 3)), .int (nI (cn 4)), .ref (b + 1), .ref (b + 2), .ref (b + 3), .ref (b + 4), .ref (b + 5), .ref (b + 6), .ref (b + 7), .ref (b + 8), .ref (b + 9), .ref (b + 10), .ref (b + 11), .ref (b + 12), .ref (b + 13), .ref (b + 14), .int x_10, .int (si 21), .int x_4, .long x_7, .int (si 24), .int (si 25), .long (sl 26), .int (si 27), .ref (b + 15), .ref (b + 16)])) := by rw [eM_11]; exact fm_us
  have hM : fs_MW ct M_11 b cn (va_up (va_up si 22 x_4) 20 x_10) (va_up sl 23 x_7) ia la := by rw [eM_11]; exact fs_MW_o hM cn (va_up (va_up si 22 x_4) 20 x_10) (va_up sl 23 x_7)
  have hMf : fs_Mf b M M_11 := by rw [eM_11]; exact fs_Mf_u hMf (by omega) _
  refine lv_aload_n hx hb dM_takeRow_72 rfl (lv_at hl 0 rfl) ?_
  refine lv_dup hx hb dM_takeRow_73 rfl ?_
  refine fm_get (ci := 4) (v := .int (si 21)) (C := RM) (T := TM) (N := 30) hx hb hT inM hown hK hW f_12 rfl 21 (by decide) (hT _ fl_M_122) (fun _ h9 => h9) rfl dM_takeRow_74 ?_
  refine lv_aload_n hx hb dM_takeRow_77 rfl (lv_at hl 0 rfl) ?_
  refine fm_get (ci := 4) (v := .ref (b + 9)) (C := RM) (T := TM) (N := 30) hx hb hT inM hown hK hW f_12 rfl 14 (by decide) (hT _ fl_M_35) (fun _ h9 => h9) rfl dM_takeRow_78 ?_
  refine lv_iload_n hx hb dM_takeRow_81 rfl (lv_at hl 1 rfl) ?_
  refine fn_iald (n := 10) (f := ia 9) hx hb hK hW 0 (hM.2.1 9 rfl) rfl (show ρ < 10 by omega) (by decide) dM_takeRow_82 ?_
  refine lv_ixor hx hb dM_takeRow_83 ?_
  refine lv_topi (fun x_13 ex_13 => ?_)
  refine fm_put (ci := 4) (v := .int x_13) (ty := .int) (C := RM) (T := TM) (N := 30) hx hb hT inM tyM tkM nmM hown hK hW f_12 rfl 21 (by decide) (hT _ fl_M_122) (fun _ h9 => h9) rfl (by decide +kernel) rfl rfl (Nat.le_of_ble_eq_true rfl) dM_takeRow_84 (fun H locs hW => ?_)
  obtain ⟨M_14, eM_14⟩ : ∃ z : fm_M, z = va_up M_11 b (some (.inr (4, [.int (si 0), .int (nI (cn 0)), .int (nI (cn 1)), .int (nI (cn 2)), .int (nI (cn 3)), .int (nI (cn 4)), .ref (b + 1), .ref (b + 2), .ref (b + 3), .ref (b + 4), .ref (b + 5), .ref (b + 6), .ref (b + 7), .ref (b + 8), .ref (b + 9), .ref (b + 10), .ref (b + 11), .ref (b + 12), .ref (b + 13), .ref (b + 14), .int x_10, .int x_13, .int x_4, .long x_7, .int (si 24), .int (si 25), .long (sl 26), .int (si 27), .ref (b + 15), .ref (b + 16)]))) := ⟨_, rfl⟩
  have hW : fm_W D fs_cl5 A M_14 s.heap H locs := by rw [eM_14]; exact hW
  have f_15 : M_14 b = some (.inr (4, [.int (si 0), .int (nI (cn 0)), .int (nI (cn 1)), .int (nI (cn 2)), .int (nI (cn 3)), .int (nI (cn 4)), .ref (b + 1), .ref (b + 2), .ref (b + 3), .ref (b + 4), .ref (b + 5), .ref (b + 6), .ref (b + 7), .ref (b + 8), .ref (b + 9), .ref (b + 10), .ref (b + 11), .ref (b + 12), .ref (b + 13), .ref (b + 14), .int x_10, .int x_13, .int x_4, .long x_7, .int (si 24), .int (si 25), .long (sl 26), .int (si 27), .ref (b + 15), .ref (b + 16)])) := by rw [eM_14]; exact fm_us
  have hM : fs_MW ct M_14 b cn (va_up (va_up (va_up si 22 x_4) 20 x_10) 21 x_13) (va_up sl 23 x_7) ia la := by rw [eM_14]; exact fs_MW_o hM cn (va_up (va_up (va_up si 22 x_4) 20 x_10) 21 x_13) (va_up sl 23 x_7)
  have hMf : fs_Mf b M M_14 := by rw [eM_14]; exact fs_Mf_u hMf (by omega) _
  have hR : fs_md (va_up (va_up (va_up si 22 x_4) 20 x_10) 21 x_13) (va_up sl 23 x_7) = fs_ml (cn 0) (fs_md si sl) (fs_rw ia la ρ) := by
    show (x_10, x_13, x_4, x_7) = _
    subst ex_13
    subst ex_10
    subst ex_7
    subst ex_4
    subst er_1
    rfl
  exact fm_vret hx hb hr hlocks hW ⟨_, _, hM, hMf, rfl, hR⟩ dM_takeRow_87
set_option maxHeartbeats 4000000 in
set_option maxRecDepth 100000 in
theorem c_M_swapBits (l : Launch) (D : va_G) (ct : Nat → ClassId) (A : Nat → Prop) (M : fm_M) (b : Nat) (cn : Nat → Nat) (si : Nat → Int32) (sl : Nat → Int64) (ia : Nat → Nat → Int32) (la : Nat → Nat → Int64) (ρ : Nat) (x y : Int32) (hM : fs_MW ct M b cn si sl ia la) (hB : fs_Bd cn) (hρ : ρ < cn 0) : Met l yM_swapBits wM_swapBits ({ frames := 1, cells := 0, slots := 0, locals := 21 }) (va_Pc [.ref b, .int (nI ρ), .int x, .int y] (fm_St D fs_cl5 (fs_tys ct) fs_nw A M)) (va_Qv (fun (M1 : fm_M) => ∃ (ia2 : Nat → Nat → Int32) (la2 : Nat → Nat → Int64), fs_MW ct M1 b cn si sl ia2 la2 ∧ fs_Mf b M M1 ∧ fs_rs ia la ia2 la2 ρ (((fs_rw ia la ρ).1 ^^^ (((fs_bi (fs_rw ia la ρ).1 x ^^^ fs_bi (fs_rw ia la ρ).1 y) <<< (x &&& 31)) ||| ((fs_bi (fs_rw ia la ρ).1 x ^^^ fs_bi (fs_rw ia la ρ).1 y) <<< (y &&& 31))), (fs_rw ia la ρ).2.1 ^^^ (((fs_bi (fs_rw ia la ρ).2.1 x ^^^ fs_bi (fs_rw ia la ρ).2.1 y) <<< (x &&& 31)) ||| ((fs_bi (fs_rw ia la ρ).2.1 x ^^^ fs_bi (fs_rw ia la ρ).2.1 y) <<< (y &&& 31))), (fs_rw ia la ρ).2.2.1, (fs_rw ia la ρ).2.2.2))) (fm_B D fs_cl5 A) A) 0 0 A := by
  refine Met.ofW (cc := cM_swapBits) (maxL := 6) (ret := none) (by decide) rfl ?_
  intro p e s m args below meth c s₁ B hml hv
  obtain ⟨rfl, hP0, hA0, hA1, hK, hN⟩ := hv
  have hx := B.exec
  have hb := B.bytes
  have hr := B.returns
  have hts := atoms_spec (ws := wM_swapBits) B.pre
  have hT : ∀ w ∈ fs_tb, w.before _ s = true := fun w h => hts w (List.mem_cons_of_mem _ h)
  have hown : s.vm.findClass "FrameSamplesModel" = some m.cls := findClass_of_methodNamed B.named
  have hlocks := B.notSynchronized
  have hW : fm_W D fs_cl5 A M s.heap s.heap [] := ⟨hP0, hA0, va_S.rf, hA1⟩
  have hl := lv_entry ([.ref b, .int (nI ρ), .int x, .int y]) (n := 6) (Nat.le_of_ble_eq_true rfl)
  rw [lg_entry_eq]
  generalize (lg_sl ([.ref b, .int (nI ρ), .int x, .int y]) ++ List.replicate (6 - (lg_sl ([.ref b, .int (nI ρ), .int x, .int y])).length) Slot.unset).toArray = ls at hl ⊢
  have hl : lv_has ls 6 [(0, .ref b), (1, .int (nI ρ)), (2, .int x), (3, .int y)] := hl
  obtain ⟨hB0, hB1, hB2, hB3, hB4, hB5⟩ := hB
  have hMf : fs_Mf b M M := fs_Mf_r
  refine lv_aload_n hx hb dM_swapBits_0 rfl (lv_at hl 0 rfl) ?_
  refine fm_get (ci := 4) (v := .ref (b + 8)) (C := RM) (T := TM) (N := 30) hx hb hT inM hown hK hW hM.1 rfl 13 (by decide) (hT _ fl_M_32) (fun _ h9 => h9) rfl dM_swapBits_1 ?_
  refine lv_iload_n hx hb dM_swapBits_4 rfl (lv_at hl 1 rfl) ?_
  refine fn_iald (n := 10) (f := ia 8) hx hb hK hW 0 (hM.2.1 8 rfl) rfl (show ρ < 10 by omega) (by decide) dM_swapBits_5 ?_
  refine lv_iload_n hx hb dM_swapBits_6 rfl (lv_at hl 2 rfl) ?_
  refine fm_calli (va_runS (As := [.int ((ia 8) ρ), .int x]) (rest := []) ⟨hx, hb, hml, hown, hts⟩ (c_M_bit l D ct A M ((ia 8) ρ) x) ⟨callB_of 2 hts (fs_gin co_M_bit) rfl rfl rfl (hT _ ini_M) (hT _ ml_M_95) (by decide +kernel) ⟨Nat.le_of_ble_eq_true rfl, Nat.le_of_ble_eq_true rfl⟩, hT _ st_M_bit⟩ (fn_pre fs_isnw hK hN hW) rfl rfl hl.1 rfl (lv_room (Nat.le_of_ble_eq_true rfl)) dM_swapBits_7 ⟨Nat.le_of_ble_eq_true rfl, Nat.le_of_ble_eq_true rfl⟩) hW (fun r_1 M_2 H locs hp_3 hW => ?_)
  have hW : fm_W D fs_cl5 A M s.heap H locs := by rw [← hp_3.2]; exact hW
  have er_1 := hp_3.1
  refine lv_aload_n hx hb dM_swapBits_10 rfl (lv_at hl 0 rfl) ?_
  refine fm_get (ci := 4) (v := .ref (b + 8)) (C := RM) (T := TM) (N := 30) hx hb hT inM hown hK hW hM.1 rfl 13 (by decide) (hT _ fl_M_32) (fun _ h9 => h9) rfl dM_swapBits_11 ?_
  refine lv_iload_n hx hb dM_swapBits_14 rfl (lv_at hl 1 rfl) ?_
  refine fn_iald (n := 10) (f := ia 8) hx hb hK hW 0 (hM.2.1 8 rfl) rfl (show ρ < 10 by omega) (by decide) dM_swapBits_15 ?_
  refine lv_iload_n hx hb dM_swapBits_16 rfl (lv_at hl 3 rfl) ?_
  refine fm_calli (va_runS (As := [.int ((ia 8) ρ), .int y]) (rest := [.int r_1]) ⟨hx, hb, hml, hown, hts⟩ (c_M_bit l D ct A M ((ia 8) ρ) y) ⟨callB_of 2 hts (fs_gin co_M_bit) rfl rfl rfl (hT _ ini_M) (hT _ ml_M_95) (by decide +kernel) ⟨Nat.le_of_ble_eq_true rfl, Nat.le_of_ble_eq_true rfl⟩, hT _ st_M_bit⟩ (fn_pre fs_isnw hK hN hW) rfl rfl hl.1 rfl (lv_room (Nat.le_of_ble_eq_true rfl)) dM_swapBits_17 ⟨Nat.le_of_ble_eq_true rfl, Nat.le_of_ble_eq_true rfl⟩) hW (fun r_4 M_5 H locs hp_6 hW => ?_)
  have hW : fm_W D fs_cl5 A M s.heap H locs := by rw [← hp_6.2]; exact hW
  have er_4 := hp_6.1
  refine lv_ixor hx hb dM_swapBits_20 ?_
  refine lv_topi (fun x_7 ex_7 => ?_)
  refine lv_istore (lv' := [(4, .int x_7), (0, .ref b), (1, .int (nI ρ)), (2, .int x), (3, .int y)]) hx hb dM_swapBits_21 hl (by decide) rfl (fun ls hl => ?_)
  refine lv_aload_n hx hb dM_swapBits_23 rfl (lv_at hl 1 rfl) ?_
  refine fm_get (ci := 4) (v := .ref (b + 9)) (C := RM) (T := TM) (N := 30) hx hb hT inM hown hK hW hM.1 rfl 14 (by decide) (hT _ fl_M_35) (fun _ h9 => h9) rfl dM_swapBits_24 ?_
  refine lv_iload_n hx hb dM_swapBits_27 rfl (lv_at hl 2 rfl) ?_
  refine fn_iald (n := 10) (f := ia 9) hx hb hK hW 0 (hM.2.1 9 rfl) rfl (show ρ < 10 by omega) (by decide) dM_swapBits_28 ?_
  refine lv_iload_n hx hb dM_swapBits_29 rfl (lv_at hl 3 rfl) ?_
  refine fm_calli (va_runS (As := [.int ((ia 9) ρ), .int x]) (rest := []) ⟨hx, hb, hml, hown, hts⟩ (c_M_bit l D ct A M ((ia 9) ρ) x) ⟨callB_of 2 hts (fs_gin co_M_bit) rfl rfl rfl (hT _ ini_M) (hT _ ml_M_95) (by decide +kernel) ⟨Nat.le_of_ble_eq_true rfl, Nat.le_of_ble_eq_true rfl⟩, hT _ st_M_bit⟩ (fn_pre fs_isnw hK hN hW) rfl rfl hl.1 rfl (lv_room (Nat.le_of_ble_eq_true rfl)) dM_swapBits_30 ⟨Nat.le_of_ble_eq_true rfl, Nat.le_of_ble_eq_true rfl⟩) hW (fun r_8 M_9 H locs hp_10 hW => ?_)
  have hW : fm_W D fs_cl5 A M s.heap H locs := by rw [← hp_10.2]; exact hW
  have er_8 := hp_10.1
  refine lv_aload_n hx hb dM_swapBits_33 rfl (lv_at hl 1 rfl) ?_
  refine fm_get (ci := 4) (v := .ref (b + 9)) (C := RM) (T := TM) (N := 30) hx hb hT inM hown hK hW hM.1 rfl 14 (by decide) (hT _ fl_M_35) (fun _ h9 => h9) rfl dM_swapBits_34 ?_
  refine lv_iload_n hx hb dM_swapBits_37 rfl (lv_at hl 2 rfl) ?_
  refine fn_iald (n := 10) (f := ia 9) hx hb hK hW 0 (hM.2.1 9 rfl) rfl (show ρ < 10 by omega) (by decide) dM_swapBits_38 ?_
  refine lv_iload_n hx hb dM_swapBits_39 rfl (lv_at hl 4 rfl) ?_
  refine fm_calli (va_runS (As := [.int ((ia 9) ρ), .int y]) (rest := [.int r_8]) ⟨hx, hb, hml, hown, hts⟩ (c_M_bit l D ct A M ((ia 9) ρ) y) ⟨callB_of 2 hts (fs_gin co_M_bit) rfl rfl rfl (hT _ ini_M) (hT _ ml_M_95) (by decide +kernel) ⟨Nat.le_of_ble_eq_true rfl, Nat.le_of_ble_eq_true rfl⟩, hT _ st_M_bit⟩ (fn_pre fs_isnw hK hN hW) rfl rfl hl.1 rfl (lv_room (Nat.le_of_ble_eq_true rfl)) dM_swapBits_40 ⟨Nat.le_of_ble_eq_true rfl, Nat.le_of_ble_eq_true rfl⟩) hW (fun r_11 M_12 H locs hp_13 hW => ?_)
  have hW : fm_W D fs_cl5 A M s.heap H locs := by rw [← hp_13.2]; exact hW
  have er_11 := hp_13.1
  refine lv_ixor hx hb dM_swapBits_43 ?_
  refine lv_topi (fun x_14 ex_14 => ?_)
  refine lv_istore (lv' := [(5, .int x_14), (4, .int x_7), (0, .ref b), (1, .int (nI ρ)), (2, .int x), (3, .int y)]) hx hb dM_swapBits_44 hl (by decide) rfl (fun ls hl => ?_)
  refine lv_aload_n hx hb dM_swapBits_46 rfl (lv_at hl 2 rfl) ?_
  refine fm_get (ci := 4) (v := .ref (b + 8)) (C := RM) (T := TM) (N := 30) hx hb hT inM hown hK hW hM.1 rfl 13 (by decide) (hT _ fl_M_32) (fun _ h9 => h9) rfl dM_swapBits_47 ?_
  refine lv_iload_n hx hb dM_swapBits_50 rfl (lv_at hl 3 rfl) ?_
  refine lv_dup2_11 hx hb dM_swapBits_51 rfl rfl ?_
  refine fn_iald (n := 10) (f := ia 8) hx hb hK hW 0 (hM.2.1 8 rfl) rfl (show ρ < 10 by omega) (by decide) dM_swapBits_52 ?_
  refine lv_iload hx hb dM_swapBits_53 (lv_at hl 1 rfl) ?_
  refine lv_iload_n hx hb dM_swapBits_55 rfl (lv_at hl 4 rfl) ?_
  refine lv_ishl hx hb dM_swapBits_56 ?_
  refine lv_iload hx hb dM_swapBits_57 (lv_at hl 1 rfl) ?_
  refine lv_iload_n hx hb dM_swapBits_59 rfl (lv_at hl 5 rfl) ?_
  refine lv_ishl hx hb dM_swapBits_60 ?_
  refine lv_ior hx hb dM_swapBits_61 ?_
  refine lv_ixor hx hb dM_swapBits_62 ?_
  refine lv_topi (fun x_15 ex_15 => ?_)
  refine fn_iast (n := 10) (f := ia 8) hx hb hK hW 0 (hM.2.1 8 rfl) rfl (show ρ < 10 by omega) (by decide) dM_swapBits_63 (fun H locs hW => ?_)
  obtain ⟨M_16, eM_16⟩ : ∃ z : fm_M, z = va_up M (b + 8) (some (.inl (ct 0, 10, .inl (upd (ia 8) ρ x_15)))) := ⟨_, rfl⟩
  have hW : fm_W D fs_cl5 A M_16 s.heap H locs := by rw [eM_16]; exact hW
  have hM : fs_MW ct M_16 b cn si sl (va_up ia 8 (upd (ia 8) ρ x_15)) la := by rw [eM_16]; exact fs_MW_i hM 8 rfl _
  have hMf : fs_Mf b M M_16 := by rw [eM_16]; exact fs_Mf_u hMf (by omega) _
  refine lv_aload_n hx hb dM_swapBits_64 rfl (lv_at hl 2 rfl) ?_
  refine fm_get (ci := 4) (v := .ref (b + 9)) (C := RM) (T := TM) (N := 30) hx hb hT inM hown hK hW hM.1 rfl 14 (by decide) (hT _ fl_M_35) (fun _ h9 => h9) rfl dM_swapBits_65 ?_
  refine lv_iload_n hx hb dM_swapBits_68 rfl (lv_at hl 3 rfl) ?_
  refine lv_dup2_11 hx hb dM_swapBits_69 rfl rfl ?_
  refine fn_iald (n := 10) (f := ia 9) hx hb hK hW 0 (hM.2.1 9 rfl) rfl (show ρ < 10 by omega) (by decide) dM_swapBits_70 ?_
  refine lv_iload hx hb dM_swapBits_71 (lv_at hl 0 rfl) ?_
  refine lv_iload_n hx hb dM_swapBits_73 rfl (lv_at hl 4 rfl) ?_
  refine lv_ishl hx hb dM_swapBits_74 ?_
  refine lv_iload hx hb dM_swapBits_75 (lv_at hl 0 rfl) ?_
  refine lv_iload_n hx hb dM_swapBits_77 rfl (lv_at hl 5 rfl) ?_
  refine lv_ishl hx hb dM_swapBits_78 ?_
  refine lv_ior hx hb dM_swapBits_79 ?_
  refine lv_ixor hx hb dM_swapBits_80 ?_
  refine lv_topi (fun x_17 ex_17 => ?_)
  refine fn_iast (n := 10) (f := ia 9) hx hb hK hW 0 (hM.2.1 9 rfl) rfl (show ρ < 10 by omega) (by decide) dM_swapBits_81 (fun H locs hW => ?_)
  obtain ⟨M_18, eM_18⟩ : ∃ z : fm_M, z = va_up M_16 (b + 9) (some (.inl (ct 0, 10, .inl (upd (ia 9) ρ x_17)))) := ⟨_, rfl⟩
  have hW : fm_W D fs_cl5 A M_18 s.heap H locs := by rw [eM_18]; exact hW
  have hM : fs_MW ct M_18 b cn si sl (va_up (va_up ia 8 (upd (ia 8) ρ x_15)) 9 (upd (ia 9) ρ x_17)) la := by rw [eM_18]; exact fs_MW_i hM 9 rfl _
  have hMf : fs_Mf b M M_18 := by rw [eM_18]; exact fs_Mf_u hMf (by omega) _
  have hR : fs_rs ia la (va_up (va_up ia 8 (upd (ia 8) ρ x_15)) 9 (upd (ia 9) ρ x_17)) la ρ (((fs_rw ia la ρ).1 ^^^ (((fs_bi (fs_rw ia la ρ).1 x ^^^ fs_bi (fs_rw ia la ρ).1 y) <<< (x &&& 31)) ||| ((fs_bi (fs_rw ia la ρ).1 x ^^^ fs_bi (fs_rw ia la ρ).1 y) <<< (y &&& 31))), (fs_rw ia la ρ).2.1 ^^^ (((fs_bi (fs_rw ia la ρ).2.1 x ^^^ fs_bi (fs_rw ia la ρ).2.1 y) <<< (x &&& 31)) ||| ((fs_bi (fs_rw ia la ρ).2.1 x ^^^ fs_bi (fs_rw ia la ρ).2.1 y) <<< (y &&& 31))), (fs_rw ia la ρ).2.2.1, (fs_rw ia la ρ).2.2.2)) := by
    refine ⟨⟨fun k h8 h9 h10 => ?_, fun k h11 => ?_⟩, fun z9 => ?_⟩
    · simp only [fu_n h8, fu_n h9, fu_n h10]
    · simp only [fu_n h11]
    · show ((upd (ia 8) ρ x_15) z9, (upd (ia 9) ρ x_17) z9, (ia 10) z9, (la 11) z9) = _
      by_cases q : z9 = ρ
      · subst q; rw [if_pos rfl]; simp only [pk_us, pk_uLs]
        subst ex_17
        subst ex_15
        subst ex_14
        subst er_11
        subst er_8
        subst ex_7
        subst er_4
        subst er_1
        rfl
      · rw [if_neg q]; try simp only [pk_un q, pk_uLn q]
        rfl
  exact fm_vret hx hb hr hlocks hW ⟨_, _, hM, hMf, hR⟩ dM_swapBits_82
set_option maxHeartbeats 4000000 in
set_option maxRecDepth 100000 in
theorem c_M_gateRow (l : Launch) (D : va_G) (ct : Nat → ClassId) (A : Nat → Prop) (M : fm_M) (b : Nat) (cn : Nat → Nat) (si : Nat → Int32) (sl : Nat → Int64) (ia : Nat → Nat → Int32) (la : Nat → Nat → Int64) (ρ ω : Nat) (hM : fs_MW ct M b cn si sl ia la) (hB : fs_Bd cn) (hρ : ρ < cn 0) (hω : ω < 300) : Met l yM_gateRow wM_gateRow ({ frames := 2, cells := 0, slots := 0, locals := 46 }) (va_Pc [.ref b, .int (nI ρ), .int (nI ω)] (fm_St D fs_cl5 (fs_tys ct) fs_nw A M)) (va_Qv (fun (M1 : fm_M) => ∃ (ia2 : Nat → Nat → Int32) (la2 : Nat → Nat → Int64), fs_MW ct M1 b cn si sl ia2 la2 ∧ fs_Mf b M M1 ∧ fs_rs ia la ia2 la2 ρ (fs_gd (fs_rw ia la ρ) (ia 1 ω) (ia 2 ω) (ia 3 ω))) (fm_B D fs_cl5 A) A) 0 0 A := by
  refine Met.ofW (cc := cM_gateRow) (maxL := 7) (ret := none) (by decide) rfl ?_
  intro p e s m args below meth c s₁ B hml hv
  obtain ⟨rfl, hP0, hA0, hA1, hK, hN⟩ := hv
  have hx := B.exec
  have hb := B.bytes
  have hr := B.returns
  have hts := atoms_spec (ws := wM_gateRow) B.pre
  have hT : ∀ w ∈ fs_tb, w.before _ s = true := fun w h => hts w (List.mem_cons_of_mem _ h)
  have hown : s.vm.findClass "FrameSamplesModel" = some m.cls := findClass_of_methodNamed B.named
  have hlocks := B.notSynchronized
  have hW : fm_W D fs_cl5 A M s.heap s.heap [] := ⟨hP0, hA0, va_S.rf, hA1⟩
  have hl := lv_entry ([.ref b, .int (nI ρ), .int (nI ω)]) (n := 7) (Nat.le_of_ble_eq_true rfl)
  rw [lg_entry_eq]
  generalize (lg_sl ([.ref b, .int (nI ρ), .int (nI ω)]) ++ List.replicate (7 - (lg_sl ([.ref b, .int (nI ρ), .int (nI ω)])).length) Slot.unset).toArray = ls at hl ⊢
  have hl : lv_has ls 7 [(0, .ref b), (1, .int (nI ρ)), (2, .int (nI ω))] := hl
  obtain ⟨hB0, hB1, hB2, hB3, hB4, hB5⟩ := hB
  have hMf : fs_Mf b M M := fs_Mf_r
  refine lv_aload_n hx hb dM_gateRow_0 rfl (lv_at hl 0 rfl) ?_
  refine fm_get (ci := 4) (v := .ref (b + 2)) (C := RM) (T := TM) (N := 30) hx hb hT inM hown hK hW hM.1 rfl 7 (by decide) (hT _ fl_M_13) (fun _ h9 => h9) rfl dM_gateRow_1 ?_
  refine lv_iload_n hx hb dM_gateRow_4 rfl (lv_at hl 2 rfl) ?_
  refine fn_iald (n := 300) (f := ia 2) hx hb hK hW 0 (hM.2.1 2 rfl) rfl (show ω < 300 by omega) (by decide) dM_gateRow_5 ?_
  refine lv_topi (fun x_1 ex_1 => ?_)
  refine lv_istore_n (lv' := [(3, .int x_1), (0, .ref b), (1, .int (nI ρ)), (2, .int (nI ω))]) hx hb dM_gateRow_6 rfl hl (by decide) rfl (fun ls hl => ?_)
  refine lv_aload_n hx hb dM_gateRow_7 rfl (lv_at hl 1 rfl) ?_
  refine fm_get (ci := 4) (v := .ref (b + 3)) (C := RM) (T := TM) (N := 30) hx hb hT inM hown hK hW hM.1 rfl 8 (by decide) (hT _ fl_M_16) (fun _ h9 => h9) rfl dM_gateRow_8 ?_
  refine lv_iload_n hx hb dM_gateRow_11 rfl (lv_at hl 3 rfl) ?_
  refine fn_iald (n := 300) (f := ia 3) hx hb hK hW 0 (hM.2.1 3 rfl) rfl (show ω < 300 by omega) (by decide) dM_gateRow_12 ?_
  refine lv_topi (fun x_2 ex_2 => ?_)
  refine lv_istore (lv' := [(4, .int x_2), (3, .int x_1), (0, .ref b), (1, .int (nI ρ)), (2, .int (nI ω))]) hx hb dM_gateRow_13 hl (by decide) rfl (fun ls hl => ?_)
  refine lv_aload_n hx hb dM_gateRow_15 rfl (lv_at hl 2 rfl) ?_
  refine fm_get (ci := 4) (v := .ref (b + 8)) (C := RM) (T := TM) (N := 30) hx hb hT inM hown hK hW hM.1 rfl 13 (by decide) (hT _ fl_M_32) (fun _ h9 => h9) rfl dM_gateRow_16 ?_
  refine lv_iload_n hx hb dM_gateRow_19 rfl (lv_at hl 3 rfl) ?_
  refine fn_iald (n := 10) (f := ia 8) hx hb hK hW 0 (hM.2.1 8 rfl) rfl (show ρ < 10 by omega) (by decide) dM_gateRow_20 ?_
  refine lv_iload_n hx hb dM_gateRow_21 rfl (lv_at hl 1 rfl) ?_
  refine fm_calli (va_runS (As := [.int ((ia 8) ρ), .int x_1]) (rest := []) ⟨hx, hb, hml, hown, hts⟩ (c_M_bit l D ct A M ((ia 8) ρ) x_1) ⟨callB_of 2 hts (fs_gin co_M_bit) rfl rfl rfl (hT _ ini_M) (hT _ ml_M_95) (by decide +kernel) ⟨Nat.le_of_ble_eq_true rfl, Nat.le_of_ble_eq_true rfl⟩, hT _ st_M_bit⟩ (fn_pre fs_isnw hK hN hW) rfl rfl hl.1 rfl (lv_room (Nat.le_of_ble_eq_true rfl)) dM_gateRow_22 ⟨Nat.le_of_ble_eq_true rfl, Nat.le_of_ble_eq_true rfl⟩) hW (fun r_3 M_4 H locs hp_5 hW => ?_)
  have hW : fm_W D fs_cl5 A M s.heap H locs := by rw [← hp_5.2]; exact hW
  have er_3 := hp_5.1
  refine lv_istore (lv' := [(5, .int r_3), (4, .int x_2), (3, .int x_1), (0, .ref b), (1, .int (nI ρ)), (2, .int (nI ω))]) hx hb dM_gateRow_25 hl (by decide) rfl (fun ls hl => ?_)
  refine lv_aload_n hx hb dM_gateRow_27 rfl (lv_at hl 3 rfl) ?_
  refine fm_get (ci := 4) (v := .ref (b + 9)) (C := RM) (T := TM) (N := 30) hx hb hT inM hown hK hW hM.1 rfl 14 (by decide) (hT _ fl_M_35) (fun _ h9 => h9) rfl dM_gateRow_28 ?_
  refine lv_iload_n hx hb dM_gateRow_31 rfl (lv_at hl 4 rfl) ?_
  refine fn_iald (n := 10) (f := ia 9) hx hb hK hW 0 (hM.2.1 9 rfl) rfl (show ρ < 10 by omega) (by decide) dM_gateRow_32 ?_
  refine lv_iload_n hx hb dM_gateRow_33 rfl (lv_at hl 2 rfl) ?_
  refine fm_calli (va_runS (As := [.int ((ia 9) ρ), .int x_1]) (rest := []) ⟨hx, hb, hml, hown, hts⟩ (c_M_bit l D ct A M ((ia 9) ρ) x_1) ⟨callB_of 2 hts (fs_gin co_M_bit) rfl rfl rfl (hT _ ini_M) (hT _ ml_M_95) (by decide +kernel) ⟨Nat.le_of_ble_eq_true rfl, Nat.le_of_ble_eq_true rfl⟩, hT _ st_M_bit⟩ (fn_pre fs_isnw hK hN hW) rfl rfl hl.1 rfl (lv_room (Nat.le_of_ble_eq_true rfl)) dM_gateRow_34 ⟨Nat.le_of_ble_eq_true rfl, Nat.le_of_ble_eq_true rfl⟩) hW (fun r_6 M_7 H locs hp_8 hW => ?_)
  have hW : fm_W D fs_cl5 A M s.heap H locs := by rw [← hp_8.2]; exact hW
  have er_6 := hp_8.1
  refine lv_istore (lv' := [(6, .int r_6), (5, .int r_3), (4, .int x_2), (3, .int x_1), (0, .ref b), (1, .int (nI ρ)), (2, .int (nI ω))]) hx hb dM_gateRow_37 hl (by decide) rfl (fun ls hl => ?_)
  refine lv_aload_n hx hb dM_gateRow_39 rfl (lv_at hl 4 rfl) ?_
  refine fm_get (ci := 4) (v := .ref (b + 1)) (C := RM) (T := TM) (N := 30) hx hb hT inM hown hK hW hM.1 rfl 6 (by decide) (hT _ fl_M_7) (fun _ h9 => h9) rfl dM_gateRow_40 ?_
  refine lv_iload_n hx hb dM_gateRow_43 rfl (lv_at hl 6 rfl) ?_
  refine fn_iald (n := 300) (f := ia 1) hx hb hK hW 0 (hM.2.1 1 rfl) rfl (show ω < 300 by omega) (by decide) dM_gateRow_44 ?_
  refine lv_topi (fun x_9 ex_9 => ?_)
  by_cases hk0 : x_9 = 0
  · subst hk0
    refine lv_tableIn (off := 39) (tgt := 84) hx hb dM_gateRow_45 (by decide) (by decide) rfl (by decide) ?_
    refine lv_aload_n hx hb dM_gateRow_84 rfl (lv_at hl 4 rfl) ?_
    refine fm_get (ci := 4) (v := .ref (b + 10)) (C := RM) (T := TM) (N := 30) hx hb hT inM hown hK hW hM.1 rfl 15 (by decide) (hT _ fl_M_38) (fun _ h9 => h9) rfl dM_gateRow_85 ?_
    refine lv_iload_n hx hb dM_gateRow_88 rfl (lv_at hl 5 rfl) ?_
    refine lv_dup2_11 hx hb dM_gateRow_89 rfl rfl ?_
    refine fn_iald (n := 10) (f := ia 10) hx hb hK hW 0 (hM.2.1 10 rfl) rfl (show ρ < 10 by omega) (by decide) dM_gateRow_90 ?_
    refine lv_iload hx hb dM_gateRow_91 (lv_at hl 1 rfl) ?_
    refine lv_iload hx hb dM_gateRow_93 (lv_at hl 0 rfl) ?_
    refine lv_iand hx hb dM_gateRow_95 ?_
    refine lv_ixor hx hb dM_gateRow_96 ?_
    refine lv_topi (fun x_10 ex_10 => ?_)
    refine fn_iast (n := 10) (f := ia 10) hx hb hK hW 0 (hM.2.1 10 rfl) rfl (show ρ < 10 by omega) (by decide) dM_gateRow_97 (fun H locs hW => ?_)
    obtain ⟨M_11, eM_11⟩ : ∃ z : fm_M, z = va_up M (b + 10) (some (.inl (ct 0, 10, .inl (upd (ia 10) ρ x_10)))) := ⟨_, rfl⟩
    have hW : fm_W D fs_cl5 A M_11 s.heap H locs := by rw [eM_11]; exact hW
    have hM : fs_MW ct M_11 b cn si sl (va_up ia 10 (upd (ia 10) ρ x_10)) la := by rw [eM_11]; exact fs_MW_i hM 10 rfl _
    have hMf : fs_Mf b M M_11 := by rw [eM_11]; exact fs_Mf_u hMf (by omega) _
    refine lv_aload_n hx hb dM_gateRow_98 rfl (lv_at hl 4 rfl) ?_
    refine fm_get (ci := 4) (v := .ref (b + 8)) (C := RM) (T := TM) (N := 30) hx hb hT inM hown hK hW hM.1 rfl 13 (by decide) (hT _ fl_M_32) (fun _ h9 => h9) rfl dM_gateRow_99 ?_
    refine lv_iload_n hx hb dM_gateRow_102 rfl (lv_at hl 5 rfl) ?_
    refine lv_dup2_11 hx hb dM_gateRow_103 rfl rfl ?_
    refine fn_iald (n := 10) (f := ia 8) hx hb hK hW 0 (hM.2.1 8 rfl) rfl (show ρ < 10 by omega) (by decide) dM_gateRow_104 ?_
    refine lv_iload hx hb dM_gateRow_105 (lv_at hl 1 rfl) ?_
    refine lv_iload hx hb dM_gateRow_107 (lv_at hl 0 rfl) ?_
    refine lv_ixor hx hb dM_gateRow_109 ?_
    refine lv_iload_n hx hb dM_gateRow_110 rfl (lv_at hl 3 rfl) ?_
    refine lv_ishl hx hb dM_gateRow_111 ?_
    refine lv_ixor hx hb dM_gateRow_112 ?_
    refine lv_topi (fun x_12 ex_12 => ?_)
    refine fn_iast (n := 10) (f := ia 8) hx hb hK hW 0 (hM.2.1 8 rfl) rfl (show ρ < 10 by omega) (by decide) dM_gateRow_113 (fun H locs hW => ?_)
    obtain ⟨M_13, eM_13⟩ : ∃ z : fm_M, z = va_up M_11 (b + 8) (some (.inl (ct 0, 10, .inl (upd (ia 8) ρ x_12)))) := ⟨_, rfl⟩
    have hW : fm_W D fs_cl5 A M_13 s.heap H locs := by rw [eM_13]; exact hW
    have hM : fs_MW ct M_13 b cn si sl (va_up (va_up ia 10 (upd (ia 10) ρ x_10)) 8 (upd (ia 8) ρ x_12)) la := by rw [eM_13]; exact fs_MW_i hM 8 rfl _
    have hMf : fs_Mf b M M_13 := by rw [eM_13]; exact fs_Mf_u hMf (by omega) _
    refine lv_aload_n hx hb dM_gateRow_114 rfl (lv_at hl 4 rfl) ?_
    refine fm_get (ci := 4) (v := .ref (b + 9)) (C := RM) (T := TM) (N := 30) hx hb hT inM hown hK hW hM.1 rfl 14 (by decide) (hT _ fl_M_35) (fun _ h9 => h9) rfl dM_gateRow_115 ?_
    refine lv_iload_n hx hb dM_gateRow_118 rfl (lv_at hl 5 rfl) ?_
    refine lv_dup2_11 hx hb dM_gateRow_119 rfl rfl ?_
    refine fn_iald (n := 10) (f := ia 9) hx hb hK hW 0 (hM.2.1 9 rfl) rfl (show ρ < 10 by omega) (by decide) dM_gateRow_120 ?_
    refine lv_iload hx hb dM_gateRow_121 (lv_at hl 1 rfl) ?_
    refine lv_iload hx hb dM_gateRow_123 (lv_at hl 0 rfl) ?_
    refine lv_ixor hx hb dM_gateRow_125 ?_
    refine lv_iload_n hx hb dM_gateRow_126 rfl (lv_at hl 3 rfl) ?_
    refine lv_ishl hx hb dM_gateRow_127 ?_
    refine lv_ixor hx hb dM_gateRow_128 ?_
    refine lv_topi (fun x_14 ex_14 => ?_)
    refine fn_iast (n := 10) (f := ia 9) hx hb hK hW 0 (hM.2.1 9 rfl) rfl (show ρ < 10 by omega) (by decide) dM_gateRow_129 (fun H locs hW => ?_)
    obtain ⟨M_15, eM_15⟩ : ∃ z : fm_M, z = va_up M_13 (b + 9) (some (.inl (ct 0, 10, .inl (upd (ia 9) ρ x_14)))) := ⟨_, rfl⟩
    have hW : fm_W D fs_cl5 A M_15 s.heap H locs := by rw [eM_15]; exact hW
    have hM : fs_MW ct M_15 b cn si sl (va_up (va_up (va_up ia 10 (upd (ia 10) ρ x_10)) 8 (upd (ia 8) ρ x_12)) 9 (upd (ia 9) ρ x_14)) la := by rw [eM_15]; exact fs_MW_i hM 9 rfl _
    have hMf : fs_Mf b M M_15 := by rw [eM_15]; exact fs_Mf_u hMf (by omega) _
    refine lv_goto (tgt := 347) hx hb dM_gateRow_130 (by decide) ?_
    have hR : fs_rs ia la (va_up (va_up (va_up ia 10 (upd (ia 10) ρ x_10)) 8 (upd (ia 8) ρ x_12)) 9 (upd (ia 9) ρ x_14)) la ρ (fs_gd (fs_rw ia la ρ) (ia 1 ω) (ia 2 ω) (ia 3 ω)) := by
      refine ⟨⟨fun k h8 h9 h10 => ?_, fun k h11 => ?_⟩, fun z9 => ?_⟩
      · simp only [fu_n h8, fu_n h9, fu_n h10]
      · simp only [fu_n h11]
      · show ((upd (ia 8) ρ x_12) z9, (upd (ia 9) ρ x_14) z9, (upd (ia 10) ρ x_10) z9, (la 11) z9) = _
        by_cases q : z9 = ρ
        · subst q; rw [if_pos rfl]; simp only [pk_us, pk_uLs]
          subst ex_14
          subst ex_12
          subst ex_10
          subst er_6
          subst er_3
          subst ex_2
          subst ex_1
          rw [← ex_9]
          rfl
        · rw [if_neg q]; try simp only [pk_un q, pk_uLn q]
          rfl
    exact fm_vret hx hb hr hlocks hW ⟨_, _, hM, hMf, hR⟩ dM_gateRow_347
  by_cases hk1 : x_9 = 1
  · subst hk1
    refine lv_tableIn (off := 88) (tgt := 133) hx hb dM_gateRow_45 (by decide) (by decide) rfl (by decide) ?_
    refine lv_aload_n hx hb dM_gateRow_133 rfl (lv_at hl 4 rfl) ?_
    refine fm_get (ci := 4) (v := .ref (b + 10)) (C := RM) (T := TM) (N := 30) hx hb hT inM hown hK hW hM.1 rfl 15 (by decide) (hT _ fl_M_38) (fun _ h9 => h9) rfl dM_gateRow_134 ?_
    refine lv_iload_n hx hb dM_gateRow_137 rfl (lv_at hl 5 rfl) ?_
    refine lv_dup2_11 hx hb dM_gateRow_138 rfl rfl ?_
    refine fn_iald (n := 10) (f := ia 10) hx hb hK hW 0 (hM.2.1 10 rfl) rfl (show ρ < 10 by omega) (by decide) dM_gateRow_139 ?_
    refine lv_iload hx hb dM_gateRow_140 (lv_at hl 1 rfl) ?_
    refine lv_iload hx hb dM_gateRow_142 (lv_at hl 0 rfl) ?_
    refine lv_iand hx hb dM_gateRow_144 ?_
    refine lv_ixor hx hb dM_gateRow_145 ?_
    refine lv_topi (fun x_16 ex_16 => ?_)
    refine fn_iast (n := 10) (f := ia 10) hx hb hK hW 0 (hM.2.1 10 rfl) rfl (show ρ < 10 by omega) (by decide) dM_gateRow_146 (fun H locs hW => ?_)
    obtain ⟨M_17, eM_17⟩ : ∃ z : fm_M, z = va_up M (b + 10) (some (.inl (ct 0, 10, .inl (upd (ia 10) ρ x_16)))) := ⟨_, rfl⟩
    have hW : fm_W D fs_cl5 A M_17 s.heap H locs := by rw [eM_17]; exact hW
    have hM : fs_MW ct M_17 b cn si sl (va_up ia 10 (upd (ia 10) ρ x_16)) la := by rw [eM_17]; exact fs_MW_i hM 10 rfl _
    have hMf : fs_Mf b M M_17 := by rw [eM_17]; exact fs_Mf_u hMf (by omega) _
    refine lv_aload_n hx hb dM_gateRow_147 rfl (lv_at hl 4 rfl) ?_
    refine fm_get (ci := 4) (v := .ref (b + 9)) (C := RM) (T := TM) (N := 30) hx hb hT inM hown hK hW hM.1 rfl 14 (by decide) (hT _ fl_M_35) (fun _ h9 => h9) rfl dM_gateRow_148 ?_
    refine lv_iload_n hx hb dM_gateRow_151 rfl (lv_at hl 5 rfl) ?_
    refine lv_dup2_11 hx hb dM_gateRow_152 rfl rfl ?_
    refine fn_iald (n := 10) (f := ia 9) hx hb hK hW 0 (hM.2.1 9 rfl) rfl (show ρ < 10 by omega) (by decide) dM_gateRow_153 ?_
    refine lv_iload hx hb dM_gateRow_154 (lv_at hl 1 rfl) ?_
    refine lv_iload_n hx hb dM_gateRow_156 rfl (lv_at hl 3 rfl) ?_
    refine lv_ishl hx hb dM_gateRow_157 ?_
    refine lv_ixor hx hb dM_gateRow_158 ?_
    refine lv_topi (fun x_18 ex_18 => ?_)
    refine fn_iast (n := 10) (f := ia 9) hx hb hK hW 0 (hM.2.1 9 rfl) rfl (show ρ < 10 by omega) (by decide) dM_gateRow_159 (fun H locs hW => ?_)
    obtain ⟨M_19, eM_19⟩ : ∃ z : fm_M, z = va_up M_17 (b + 9) (some (.inl (ct 0, 10, .inl (upd (ia 9) ρ x_18)))) := ⟨_, rfl⟩
    have hW : fm_W D fs_cl5 A M_19 s.heap H locs := by rw [eM_19]; exact hW
    have hM : fs_MW ct M_19 b cn si sl (va_up (va_up ia 10 (upd (ia 10) ρ x_16)) 9 (upd (ia 9) ρ x_18)) la := by rw [eM_19]; exact fs_MW_i hM 9 rfl _
    have hMf : fs_Mf b M M_19 := by rw [eM_19]; exact fs_Mf_u hMf (by omega) _
    refine lv_goto (tgt := 347) hx hb dM_gateRow_160 (by decide) ?_
    have hR : fs_rs ia la (va_up (va_up ia 10 (upd (ia 10) ρ x_16)) 9 (upd (ia 9) ρ x_18)) la ρ (fs_gd (fs_rw ia la ρ) (ia 1 ω) (ia 2 ω) (ia 3 ω)) := by
      refine ⟨⟨fun k h8 h9 h10 => ?_, fun k h11 => ?_⟩, fun z9 => ?_⟩
      · simp only [fu_n h8, fu_n h9, fu_n h10]
      · simp only [fu_n h11]
      · show ((ia 8) z9, (upd (ia 9) ρ x_18) z9, (upd (ia 10) ρ x_16) z9, (la 11) z9) = _
        by_cases q : z9 = ρ
        · subst q; rw [if_pos rfl]; simp only [pk_us, pk_uLs]
          subst ex_18
          subst ex_16
          subst er_6
          subst er_3
          subst ex_2
          subst ex_1
          rw [← ex_9]
          rfl
        · rw [if_neg q]; try simp only [pk_un q, pk_uLn q]
          rfl
    exact fm_vret hx hb hr hlocks hW ⟨_, _, hM, hMf, hR⟩ dM_gateRow_347
  by_cases hk2 : x_9 = 2
  · subst hk2
    refine lv_tableIn (off := 118) (tgt := 163) hx hb dM_gateRow_45 (by decide) (by decide) rfl (by decide) ?_
    refine lv_aload_n hx hb dM_gateRow_163 rfl (lv_at hl 4 rfl) ?_
    refine fm_get (ci := 4) (v := .ref (b + 10)) (C := RM) (T := TM) (N := 30) hx hb hT inM hown hK hW hM.1 rfl 15 (by decide) (hT _ fl_M_38) (fun _ h9 => h9) rfl dM_gateRow_164 ?_
    refine lv_iload_n hx hb dM_gateRow_167 rfl (lv_at hl 5 rfl) ?_
    refine lv_dup2_11 hx hb dM_gateRow_168 rfl rfl ?_
    refine fn_iald (n := 10) (f := ia 10) hx hb hK hW 0 (hM.2.1 10 rfl) rfl (show ρ < 10 by omega) (by decide) dM_gateRow_169 ?_
    refine lv_iload hx hb dM_gateRow_170 (lv_at hl 1 rfl) ?_
    refine lv_aload_n hx hb dM_gateRow_172 rfl (lv_at hl 4 rfl) ?_
    refine fm_get (ci := 4) (v := .ref (b + 9)) (C := RM) (T := TM) (N := 30) hx hb hT inM hown hK hW hM.1 rfl 14 (by decide) (hT _ fl_M_35) (fun _ h9 => h9) rfl dM_gateRow_173 ?_
    refine lv_iload_n hx hb dM_gateRow_176 rfl (lv_at hl 5 rfl) ?_
    refine fn_iald (n := 10) (f := ia 9) hx hb hK hW 0 (hM.2.1 9 rfl) rfl (show ρ < 10 by omega) (by decide) dM_gateRow_177 ?_
    refine lv_iload hx hb dM_gateRow_178 (lv_at hl 2 rfl) ?_
    refine fm_calli (va_runS (As := [.int ((ia 9) ρ), .int x_2]) (rest := [.int r_3, .int ((ia 10) ρ), .int (nI ρ), .ref (b + 10)]) ⟨hx, hb, hml, hown, hts⟩ (c_M_bit l D ct A M ((ia 9) ρ) x_2) ⟨callB_of 2 hts (fs_gin co_M_bit) rfl rfl rfl (hT _ ini_M) (hT _ ml_M_95) (by decide +kernel) ⟨Nat.le_of_ble_eq_true rfl, Nat.le_of_ble_eq_true rfl⟩, hT _ st_M_bit⟩ (fn_pre fs_isnw hK hN hW) rfl rfl hl.1 rfl (lv_room (Nat.le_of_ble_eq_true rfl)) dM_gateRow_180 ⟨Nat.le_of_ble_eq_true rfl, Nat.le_of_ble_eq_true rfl⟩) hW (fun r_20 M_21 H locs hp_22 hW => ?_)
    have hW : fm_W D fs_cl5 A M s.heap H locs := by rw [← hp_22.2]; exact hW
    have er_20 := hp_22.1
    refine lv_iand hx hb dM_gateRow_183 ?_
    refine lv_aload_n hx hb dM_gateRow_184 rfl (lv_at hl 4 rfl) ?_
    refine fm_get (ci := 4) (v := .ref (b + 8)) (C := RM) (T := TM) (N := 30) hx hb hT inM hown hK hW hM.1 rfl 13 (by decide) (hT _ fl_M_32) (fun _ h9 => h9) rfl dM_gateRow_185 ?_
    refine lv_iload_n hx hb dM_gateRow_188 rfl (lv_at hl 5 rfl) ?_
    refine fn_iald (n := 10) (f := ia 8) hx hb hK hW 0 (hM.2.1 8 rfl) rfl (show ρ < 10 by omega) (by decide) dM_gateRow_189 ?_
    refine lv_iload hx hb dM_gateRow_190 (lv_at hl 2 rfl) ?_
    refine fm_calli (va_runS (As := [.int ((ia 8) ρ), .int x_2]) (rest := [.int (r_3 &&& r_20), .int ((ia 10) ρ), .int (nI ρ), .ref (b + 10)]) ⟨hx, hb, hml, hown, hts⟩ (c_M_bit l D ct A M ((ia 8) ρ) x_2) ⟨callB_of 2 hts (fs_gin co_M_bit) rfl rfl rfl (hT _ ini_M) (hT _ ml_M_95) (by decide +kernel) ⟨Nat.le_of_ble_eq_true rfl, Nat.le_of_ble_eq_true rfl⟩, hT _ st_M_bit⟩ (fn_pre fs_isnw hK hN hW) rfl rfl hl.1 rfl (lv_room (Nat.le_of_ble_eq_true rfl)) dM_gateRow_192 ⟨Nat.le_of_ble_eq_true rfl, Nat.le_of_ble_eq_true rfl⟩) hW (fun r_23 M_24 H locs hp_25 hW => ?_)
    have hW : fm_W D fs_cl5 A M s.heap H locs := by rw [← hp_25.2]; exact hW
    have er_23 := hp_25.1
    refine lv_iload hx hb dM_gateRow_195 (lv_at hl 0 rfl) ?_
    refine lv_ixor hx hb dM_gateRow_197 ?_
    refine lv_iconst (v := 1) hx hb dM_gateRow_198 (by decide) ?_
    refine lv_ixor hx hb dM_gateRow_199 ?_
    refine lv_iand hx hb dM_gateRow_200 ?_
    refine lv_ixor hx hb dM_gateRow_201 ?_
    refine lv_topi (fun x_26 ex_26 => ?_)
    refine fn_iast (n := 10) (f := ia 10) hx hb hK hW 0 (hM.2.1 10 rfl) rfl (show ρ < 10 by omega) (by decide) dM_gateRow_202 (fun H locs hW => ?_)
    obtain ⟨M_27, eM_27⟩ : ∃ z : fm_M, z = va_up M (b + 10) (some (.inl (ct 0, 10, .inl (upd (ia 10) ρ x_26)))) := ⟨_, rfl⟩
    have hW : fm_W D fs_cl5 A M_27 s.heap H locs := by rw [eM_27]; exact hW
    have hM : fs_MW ct M_27 b cn si sl (va_up ia 10 (upd (ia 10) ρ x_26)) la := by rw [eM_27]; exact fs_MW_i hM 10 rfl _
    have hMf : fs_Mf b M M_27 := by rw [eM_27]; exact fs_Mf_u hMf (by omega) _
    refine lv_aload_n hx hb dM_gateRow_203 rfl (lv_at hl 4 rfl) ?_
    refine fm_get (ci := 4) (v := .ref (b + 8)) (C := RM) (T := TM) (N := 30) hx hb hT inM hown hK hW hM.1 rfl 13 (by decide) (hT _ fl_M_32) (fun _ h9 => h9) rfl dM_gateRow_204 ?_
    refine lv_iload_n hx hb dM_gateRow_207 rfl (lv_at hl 5 rfl) ?_
    refine lv_dup2_11 hx hb dM_gateRow_208 rfl rfl ?_
    refine fn_iald (n := 10) (f := ia 8) hx hb hK hW 0 (hM.2.1 8 rfl) rfl (show ρ < 10 by omega) (by decide) dM_gateRow_209 ?_
    refine lv_iload hx hb dM_gateRow_210 (lv_at hl 1 rfl) ?_
    refine lv_iload hx hb dM_gateRow_212 (lv_at hl 2 rfl) ?_
    refine lv_ishl hx hb dM_gateRow_214 ?_
    refine lv_ixor hx hb dM_gateRow_215 ?_
    refine lv_topi (fun x_28 ex_28 => ?_)
    refine fn_iast (n := 10) (f := ia 8) hx hb hK hW 0 (hM.2.1 8 rfl) rfl (show ρ < 10 by omega) (by decide) dM_gateRow_216 (fun H locs hW => ?_)
    obtain ⟨M_29, eM_29⟩ : ∃ z : fm_M, z = va_up M_27 (b + 8) (some (.inl (ct 0, 10, .inl (upd (ia 8) ρ x_28)))) := ⟨_, rfl⟩
    have hW : fm_W D fs_cl5 A M_29 s.heap H locs := by rw [eM_29]; exact hW
    have hM : fs_MW ct M_29 b cn si sl (va_up (va_up ia 10 (upd (ia 10) ρ x_26)) 8 (upd (ia 8) ρ x_28)) la := by rw [eM_29]; exact fs_MW_i hM 8 rfl _
    have hMf : fs_Mf b M M_29 := by rw [eM_29]; exact fs_Mf_u hMf (by omega) _
    refine lv_aload_n hx hb dM_gateRow_217 rfl (lv_at hl 4 rfl) ?_
    refine fm_get (ci := 4) (v := .ref (b + 9)) (C := RM) (T := TM) (N := 30) hx hb hT inM hown hK hW hM.1 rfl 14 (by decide) (hT _ fl_M_35) (fun _ h9 => h9) rfl dM_gateRow_218 ?_
    refine lv_iload_n hx hb dM_gateRow_221 rfl (lv_at hl 5 rfl) ?_
    refine lv_dup2_11 hx hb dM_gateRow_222 rfl rfl ?_
    refine fn_iald (n := 10) (f := ia 9) hx hb hK hW 0 (hM.2.1 9 rfl) rfl (show ρ < 10 by omega) (by decide) dM_gateRow_223 ?_
    refine lv_aload_n hx hb dM_gateRow_224 rfl (lv_at hl 4 rfl) ?_
    refine fm_get (ci := 4) (v := .ref (b + 9)) (C := RM) (T := TM) (N := 30) hx hb hT inM hown hK hW hM.1 rfl 14 (by decide) (hT _ fl_M_35) (fun _ h9 => h9) rfl dM_gateRow_225 ?_
    refine lv_iload_n hx hb dM_gateRow_228 rfl (lv_at hl 5 rfl) ?_
    refine fn_iald (n := 10) (f := ia 9) hx hb hK hW 0 (hM.2.1 9 rfl) rfl (show ρ < 10 by omega) (by decide) dM_gateRow_229 ?_
    refine lv_iload hx hb dM_gateRow_230 (lv_at hl 2 rfl) ?_
    refine fm_calli (va_runS (As := [.int ((ia 9) ρ), .int x_2]) (rest := [.int ((ia 9) ρ), .int (nI ρ), .ref (b + 9)]) ⟨hx, hb, hml, hown, hts⟩ (c_M_bit l D ct A M_29 ((ia 9) ρ) x_2) ⟨callB_of 2 hts (fs_gin co_M_bit) rfl rfl rfl (hT _ ini_M) (hT _ ml_M_95) (by decide +kernel) ⟨Nat.le_of_ble_eq_true rfl, Nat.le_of_ble_eq_true rfl⟩, hT _ st_M_bit⟩ (fn_pre fs_isnw hK hN hW) rfl rfl hl.1 rfl (lv_room (Nat.le_of_ble_eq_true rfl)) dM_gateRow_232 ⟨Nat.le_of_ble_eq_true rfl, Nat.le_of_ble_eq_true rfl⟩) hW (fun r_30 M_31 H locs hp_32 hW => ?_)
    have hW : fm_W D fs_cl5 A M_29 s.heap H locs := by rw [← hp_32.2]; exact hW
    have er_30 := hp_32.1
    refine lv_iload_n hx hb dM_gateRow_235 rfl (lv_at hl 3 rfl) ?_
    refine lv_ishl hx hb dM_gateRow_236 ?_
    refine lv_ixor hx hb dM_gateRow_237 ?_
    refine lv_topi (fun x_33 ex_33 => ?_)
    refine fn_iast (n := 10) (f := ia 9) hx hb hK hW 0 (hM.2.1 9 rfl) rfl (show ρ < 10 by omega) (by decide) dM_gateRow_238 (fun H locs hW => ?_)
    obtain ⟨M_34, eM_34⟩ : ∃ z : fm_M, z = va_up M_29 (b + 9) (some (.inl (ct 0, 10, .inl (upd (ia 9) ρ x_33)))) := ⟨_, rfl⟩
    have hW : fm_W D fs_cl5 A M_34 s.heap H locs := by rw [eM_34]; exact hW
    have hM : fs_MW ct M_34 b cn si sl (va_up (va_up (va_up ia 10 (upd (ia 10) ρ x_26)) 8 (upd (ia 8) ρ x_28)) 9 (upd (ia 9) ρ x_33)) la := by rw [eM_34]; exact fs_MW_i hM 9 rfl _
    have hMf : fs_Mf b M M_34 := by rw [eM_34]; exact fs_Mf_u hMf (by omega) _
    refine lv_goto (tgt := 347) hx hb dM_gateRow_239 (by decide) ?_
    have hR : fs_rs ia la (va_up (va_up (va_up ia 10 (upd (ia 10) ρ x_26)) 8 (upd (ia 8) ρ x_28)) 9 (upd (ia 9) ρ x_33)) la ρ (fs_gd (fs_rw ia la ρ) (ia 1 ω) (ia 2 ω) (ia 3 ω)) := by
      refine ⟨⟨fun k h8 h9 h10 => ?_, fun k h11 => ?_⟩, fun z9 => ?_⟩
      · simp only [fu_n h8, fu_n h9, fu_n h10]
      · simp only [fu_n h11]
      · show ((upd (ia 8) ρ x_28) z9, (upd (ia 9) ρ x_33) z9, (upd (ia 10) ρ x_26) z9, (la 11) z9) = _
        by_cases q : z9 = ρ
        · subst q; rw [if_pos rfl]; simp only [pk_us, pk_uLs]
          subst ex_33
          subst er_30
          subst ex_28
          subst ex_26
          subst er_23
          subst er_20
          subst er_6
          subst er_3
          subst ex_2
          subst ex_1
          rw [← ex_9]
          rfl
        · rw [if_neg q]; try simp only [pk_un q, pk_uLn q]
          rfl
    exact fm_vret hx hb hr hlocks hW ⟨_, _, hM, hMf, hR⟩ dM_gateRow_347
  by_cases hk3 : x_9 = 3
  · subst hk3
    refine lv_tableIn (off := 197) (tgt := 242) hx hb dM_gateRow_45 (by decide) (by decide) rfl (by decide) ?_
    refine lv_aload_n hx hb dM_gateRow_242 rfl (lv_at hl 4 rfl) ?_
    refine fm_get (ci := 4) (v := .ref (b + 10)) (C := RM) (T := TM) (N := 30) hx hb hT inM hown hK hW hM.1 rfl 15 (by decide) (hT _ fl_M_38) (fun _ h9 => h9) rfl dM_gateRow_243 ?_
    refine lv_iload_n hx hb dM_gateRow_246 rfl (lv_at hl 5 rfl) ?_
    refine lv_dup2_11 hx hb dM_gateRow_247 rfl rfl ?_
    refine fn_iald (n := 10) (f := ia 10) hx hb hK hW 0 (hM.2.1 10 rfl) rfl (show ρ < 10 by omega) (by decide) dM_gateRow_248 ?_
    refine lv_iload hx hb dM_gateRow_249 (lv_at hl 1 rfl) ?_
    refine lv_aload_n hx hb dM_gateRow_251 rfl (lv_at hl 4 rfl) ?_
    refine fm_get (ci := 4) (v := .ref (b + 8)) (C := RM) (T := TM) (N := 30) hx hb hT inM hown hK hW hM.1 rfl 13 (by decide) (hT _ fl_M_32) (fun _ h9 => h9) rfl dM_gateRow_252 ?_
    refine lv_iload_n hx hb dM_gateRow_255 rfl (lv_at hl 5 rfl) ?_
    refine fn_iald (n := 10) (f := ia 8) hx hb hK hW 0 (hM.2.1 8 rfl) rfl (show ρ < 10 by omega) (by decide) dM_gateRow_256 ?_
    refine lv_iload hx hb dM_gateRow_257 (lv_at hl 2 rfl) ?_
    refine fm_calli (va_runS (As := [.int ((ia 8) ρ), .int x_2]) (rest := [.int r_3, .int ((ia 10) ρ), .int (nI ρ), .ref (b + 10)]) ⟨hx, hb, hml, hown, hts⟩ (c_M_bit l D ct A M ((ia 8) ρ) x_2) ⟨callB_of 2 hts (fs_gin co_M_bit) rfl rfl rfl (hT _ ini_M) (hT _ ml_M_95) (by decide +kernel) ⟨Nat.le_of_ble_eq_true rfl, Nat.le_of_ble_eq_true rfl⟩, hT _ st_M_bit⟩ (fn_pre fs_isnw hK hN hW) rfl rfl hl.1 rfl (lv_room (Nat.le_of_ble_eq_true rfl)) dM_gateRow_259 ⟨Nat.le_of_ble_eq_true rfl, Nat.le_of_ble_eq_true rfl⟩) hW (fun r_35 M_36 H locs hp_37 hW => ?_)
    have hW : fm_W D fs_cl5 A M s.heap H locs := by rw [← hp_37.2]; exact hW
    have er_35 := hp_37.1
    refine lv_iand hx hb dM_gateRow_262 ?_
    refine lv_iload hx hb dM_gateRow_263 (lv_at hl 0 rfl) ?_
    refine lv_aload_n hx hb dM_gateRow_265 rfl (lv_at hl 4 rfl) ?_
    refine fm_get (ci := 4) (v := .ref (b + 9)) (C := RM) (T := TM) (N := 30) hx hb hT inM hown hK hW hM.1 rfl 14 (by decide) (hT _ fl_M_35) (fun _ h9 => h9) rfl dM_gateRow_266 ?_
    refine lv_iload_n hx hb dM_gateRow_269 rfl (lv_at hl 5 rfl) ?_
    refine fn_iald (n := 10) (f := ia 9) hx hb hK hW 0 (hM.2.1 9 rfl) rfl (show ρ < 10 by omega) (by decide) dM_gateRow_270 ?_
    refine lv_iload hx hb dM_gateRow_271 (lv_at hl 2 rfl) ?_
    refine fm_calli (va_runS (As := [.int ((ia 9) ρ), .int x_2]) (rest := [.int r_6, .int (r_3 &&& r_35), .int ((ia 10) ρ), .int (nI ρ), .ref (b + 10)]) ⟨hx, hb, hml, hown, hts⟩ (c_M_bit l D ct A M ((ia 9) ρ) x_2) ⟨callB_of 2 hts (fs_gin co_M_bit) rfl rfl rfl (hT _ ini_M) (hT _ ml_M_95) (by decide +kernel) ⟨Nat.le_of_ble_eq_true rfl, Nat.le_of_ble_eq_true rfl⟩, hT _ st_M_bit⟩ (fn_pre fs_isnw hK hN hW) rfl rfl hl.1 rfl (lv_room (Nat.le_of_ble_eq_true rfl)) dM_gateRow_273 ⟨Nat.le_of_ble_eq_true rfl, Nat.le_of_ble_eq_true rfl⟩) hW (fun r_38 M_39 H locs hp_40 hW => ?_)
    have hW : fm_W D fs_cl5 A M s.heap H locs := by rw [← hp_40.2]; exact hW
    have er_38 := hp_40.1
    refine lv_ixor hx hb dM_gateRow_276 ?_
    refine lv_iand hx hb dM_gateRow_277 ?_
    refine lv_ixor hx hb dM_gateRow_278 ?_
    refine lv_topi (fun x_41 ex_41 => ?_)
    refine fn_iast (n := 10) (f := ia 10) hx hb hK hW 0 (hM.2.1 10 rfl) rfl (show ρ < 10 by omega) (by decide) dM_gateRow_279 (fun H locs hW => ?_)
    obtain ⟨M_42, eM_42⟩ : ∃ z : fm_M, z = va_up M (b + 10) (some (.inl (ct 0, 10, .inl (upd (ia 10) ρ x_41)))) := ⟨_, rfl⟩
    have hW : fm_W D fs_cl5 A M_42 s.heap H locs := by rw [eM_42]; exact hW
    have hM : fs_MW ct M_42 b cn si sl (va_up ia 10 (upd (ia 10) ρ x_41)) la := by rw [eM_42]; exact fs_MW_i hM 10 rfl _
    have hMf : fs_Mf b M M_42 := by rw [eM_42]; exact fs_Mf_u hMf (by omega) _
    refine lv_aload_n hx hb dM_gateRow_280 rfl (lv_at hl 4 rfl) ?_
    refine fm_get (ci := 4) (v := .ref (b + 9)) (C := RM) (T := TM) (N := 30) hx hb hT inM hown hK hW hM.1 rfl 14 (by decide) (hT _ fl_M_35) (fun _ h9 => h9) rfl dM_gateRow_281 ?_
    refine lv_iload_n hx hb dM_gateRow_284 rfl (lv_at hl 5 rfl) ?_
    refine lv_dup2_11 hx hb dM_gateRow_285 rfl rfl ?_
    refine fn_iald (n := 10) (f := ia 9) hx hb hK hW 0 (hM.2.1 9 rfl) rfl (show ρ < 10 by omega) (by decide) dM_gateRow_286 ?_
    refine lv_aload_n hx hb dM_gateRow_287 rfl (lv_at hl 4 rfl) ?_
    refine fm_get (ci := 4) (v := .ref (b + 8)) (C := RM) (T := TM) (N := 30) hx hb hT inM hown hK hW hM.1 rfl 13 (by decide) (hT _ fl_M_32) (fun _ h9 => h9) rfl dM_gateRow_288 ?_
    refine lv_iload_n hx hb dM_gateRow_291 rfl (lv_at hl 5 rfl) ?_
    refine fn_iald (n := 10) (f := ia 8) hx hb hK hW 0 (hM.2.1 8 rfl) rfl (show ρ < 10 by omega) (by decide) dM_gateRow_292 ?_
    refine lv_iload hx hb dM_gateRow_293 (lv_at hl 2 rfl) ?_
    refine fm_calli (va_runS (As := [.int ((ia 8) ρ), .int x_2]) (rest := [.int ((ia 9) ρ), .int (nI ρ), .ref (b + 9)]) ⟨hx, hb, hml, hown, hts⟩ (c_M_bit l D ct A M_42 ((ia 8) ρ) x_2) ⟨callB_of 2 hts (fs_gin co_M_bit) rfl rfl rfl (hT _ ini_M) (hT _ ml_M_95) (by decide +kernel) ⟨Nat.le_of_ble_eq_true rfl, Nat.le_of_ble_eq_true rfl⟩, hT _ st_M_bit⟩ (fn_pre fs_isnw hK hN hW) rfl rfl hl.1 rfl (lv_room (Nat.le_of_ble_eq_true rfl)) dM_gateRow_295 ⟨Nat.le_of_ble_eq_true rfl, Nat.le_of_ble_eq_true rfl⟩) hW (fun r_43 M_44 H locs hp_45 hW => ?_)
    have hW : fm_W D fs_cl5 A M_42 s.heap H locs := by rw [← hp_45.2]; exact hW
    have er_43 := hp_45.1
    refine lv_iload_n hx hb dM_gateRow_298 rfl (lv_at hl 3 rfl) ?_
    refine lv_ishl hx hb dM_gateRow_299 ?_
    refine lv_iload hx hb dM_gateRow_300 (lv_at hl 1 rfl) ?_
    refine lv_iload hx hb dM_gateRow_302 (lv_at hl 2 rfl) ?_
    refine lv_ishl hx hb dM_gateRow_304 ?_
    refine lv_ior hx hb dM_gateRow_305 ?_
    refine lv_ixor hx hb dM_gateRow_306 ?_
    refine lv_topi (fun x_46 ex_46 => ?_)
    refine fn_iast (n := 10) (f := ia 9) hx hb hK hW 0 (hM.2.1 9 rfl) rfl (show ρ < 10 by omega) (by decide) dM_gateRow_307 (fun H locs hW => ?_)
    obtain ⟨M_47, eM_47⟩ : ∃ z : fm_M, z = va_up M_42 (b + 9) (some (.inl (ct 0, 10, .inl (upd (ia 9) ρ x_46)))) := ⟨_, rfl⟩
    have hW : fm_W D fs_cl5 A M_47 s.heap H locs := by rw [eM_47]; exact hW
    have hM : fs_MW ct M_47 b cn si sl (va_up (va_up ia 10 (upd (ia 10) ρ x_41)) 9 (upd (ia 9) ρ x_46)) la := by rw [eM_47]; exact fs_MW_i hM 9 rfl _
    have hMf : fs_Mf b M M_47 := by rw [eM_47]; exact fs_Mf_u hMf (by omega) _
    refine lv_goto (tgt := 347) hx hb dM_gateRow_308 (by decide) ?_
    have hR : fs_rs ia la (va_up (va_up ia 10 (upd (ia 10) ρ x_41)) 9 (upd (ia 9) ρ x_46)) la ρ (fs_gd (fs_rw ia la ρ) (ia 1 ω) (ia 2 ω) (ia 3 ω)) := by
      refine ⟨⟨fun k h8 h9 h10 => ?_, fun k h11 => ?_⟩, fun z9 => ?_⟩
      · simp only [fu_n h8, fu_n h9, fu_n h10]
      · simp only [fu_n h11]
      · show ((ia 8) z9, (upd (ia 9) ρ x_46) z9, (upd (ia 10) ρ x_41) z9, (la 11) z9) = _
        by_cases q : z9 = ρ
        · subst q; rw [if_pos rfl]; simp only [pk_us, pk_uLs]
          subst ex_46
          subst er_43
          subst ex_41
          subst er_38
          subst er_35
          subst er_6
          subst er_3
          subst ex_2
          subst ex_1
          rw [← ex_9]
          rfl
        · rw [if_neg q]; try simp only [pk_un q, pk_uLn q]
          rfl
    exact fm_vret hx hb hr hlocks hW ⟨_, _, hM, hMf, hR⟩ dM_gateRow_347
  by_cases hk4 : x_9 = 4
  · subst hk4
    refine lv_tableIn (off := 266) (tgt := 311) hx hb dM_gateRow_45 (by decide) (by decide) rfl (by decide) ?_
    refine lv_aload_n hx hb dM_gateRow_311 rfl (lv_at hl 4 rfl) ?_
    refine lv_iload_n hx hb dM_gateRow_312 rfl (lv_at hl 5 rfl) ?_
    refine lv_iload_n hx hb dM_gateRow_313 rfl (lv_at hl 3 rfl) ?_
    refine lv_iload hx hb dM_gateRow_314 (lv_at hl 2 rfl) ?_
    refine fm_callv (va_runV (As := [.int (nI ρ), .int x_1, .int x_2]) (rest := []) ⟨hx, hb, hml, hown, hts⟩ (c_M_swapBits l D ct A M b cn si sl ia la ρ x_1 x_2 hM ⟨hB0, hB1, hB2, hB3, hB4, hB5⟩ hρ) ⟨callB_of 3 hts (fs_gin co_M_swapBits) rfl rfl rfl (hT _ ini_M) (hT _ ml_M_106) (by decide +kernel) ⟨Nat.le_of_ble_eq_true rfl, Nat.le_of_ble_eq_true rfl⟩, hT _ im_M_swapBits, hT _ se_M_swapBits⟩ (fn_preV fs_isnw hK hN hW hM.1 rfl) rfl rfl hl.1 rfl (lv_room (Nat.le_of_ble_eq_true rfl)) dM_gateRow_316 ⟨Nat.le_of_ble_eq_true rfl, Nat.le_of_ble_eq_true rfl⟩) hW (fun M_49 H locs hp_50 hW => ?_)
    obtain ⟨ia_51, la_52, hM, hMf2, hR⟩ := hp_50
    have hMf := fs_Mf_t hMf hMf2
    refine lv_goto (tgt := 347) hx hb dM_gateRow_319 (by decide) ?_
    subst ex_1
    subst ex_2
    rw [show ((fs_rw ia la ρ).1 ^^^ (((fs_bi (fs_rw ia la ρ).1 (ia 2 ω) ^^^ fs_bi (fs_rw ia la ρ).1 (ia 3 ω)) <<< (ia 2 ω &&& 31)) ||| ((fs_bi (fs_rw ia la ρ).1 (ia 2 ω) ^^^ fs_bi (fs_rw ia la ρ).1 (ia 3 ω)) <<< (ia 3 ω &&& 31))), (fs_rw ia la ρ).2.1 ^^^ (((fs_bi (fs_rw ia la ρ).2.1 (ia 2 ω) ^^^ fs_bi (fs_rw ia la ρ).2.1 (ia 3 ω)) <<< (ia 2 ω &&& 31)) ||| ((fs_bi (fs_rw ia la ρ).2.1 (ia 2 ω) ^^^ fs_bi (fs_rw ia la ρ).2.1 (ia 3 ω)) <<< (ia 3 ω &&& 31))), (fs_rw ia la ρ).2.2.1, (fs_rw ia la ρ).2.2.2) = fs_gd (fs_rw ia la ρ) (ia 1 ω) (ia 2 ω) (ia 3 ω) from by unfold fs_gd; rw [← ex_9]; rfl] at hR
    exact fm_vret hx hb hr hlocks hW ⟨_, _, hM, hMf, hR⟩ dM_gateRow_347
  by_cases hk5 : x_9 = 5
  · subst hk5
    refine lv_tableIn (off := 277) (tgt := 322) hx hb dM_gateRow_45 (by decide) (by decide) rfl (by decide) ?_
    refine lv_aload_n hx hb dM_gateRow_322 rfl (lv_at hl 4 rfl) ?_
    refine fm_get (ci := 4) (v := .ref (b + 10)) (C := RM) (T := TM) (N := 30) hx hb hT inM hown hK hW hM.1 rfl 15 (by decide) (hT _ fl_M_38) (fun _ h9 => h9) rfl dM_gateRow_323 ?_
    refine lv_iload_n hx hb dM_gateRow_326 rfl (lv_at hl 5 rfl) ?_
    refine lv_dup2_11 hx hb dM_gateRow_327 rfl rfl ?_
    refine fn_iald (n := 10) (f := ia 10) hx hb hK hW 0 (hM.2.1 10 rfl) rfl (show ρ < 10 by omega) (by decide) dM_gateRow_328 ?_
    refine lv_iload hx hb dM_gateRow_329 (lv_at hl 0 rfl) ?_
    refine lv_ixor hx hb dM_gateRow_331 ?_
    refine lv_topi (fun x_53 ex_53 => ?_)
    refine fn_iast (n := 10) (f := ia 10) hx hb hK hW 0 (hM.2.1 10 rfl) rfl (show ρ < 10 by omega) (by decide) dM_gateRow_332 (fun H locs hW => ?_)
    obtain ⟨M_54, eM_54⟩ : ∃ z : fm_M, z = va_up M (b + 10) (some (.inl (ct 0, 10, .inl (upd (ia 10) ρ x_53)))) := ⟨_, rfl⟩
    have hW : fm_W D fs_cl5 A M_54 s.heap H locs := by rw [eM_54]; exact hW
    have hM : fs_MW ct M_54 b cn si sl (va_up ia 10 (upd (ia 10) ρ x_53)) la := by rw [eM_54]; exact fs_MW_i hM 10 rfl _
    have hMf : fs_Mf b M M_54 := by rw [eM_54]; exact fs_Mf_u hMf (by omega) _
    refine lv_goto (tgt := 347) hx hb dM_gateRow_333 (by decide) ?_
    have hR : fs_rs ia la (va_up ia 10 (upd (ia 10) ρ x_53)) la ρ (fs_gd (fs_rw ia la ρ) (ia 1 ω) (ia 2 ω) (ia 3 ω)) := by
      refine ⟨⟨fun k h8 h9 h10 => ?_, fun k h11 => ?_⟩, fun z9 => ?_⟩
      · simp only [fu_n h8, fu_n h9, fu_n h10]
      · simp only [fu_n h11]
      · show ((ia 8) z9, (ia 9) z9, (upd (ia 10) ρ x_53) z9, (la 11) z9) = _
        by_cases q : z9 = ρ
        · subst q; rw [if_pos rfl]; simp only [pk_us, pk_uLs]
          subst ex_53
          subst er_6
          subst er_3
          subst ex_2
          subst ex_1
          rw [← ex_9]
          rfl
        · rw [if_neg q]; try simp only [pk_un q, pk_uLn q]
          rfl
    exact fm_vret hx hb hr hlocks hW ⟨_, _, hM, hMf, hR⟩ dM_gateRow_347
  refine lv_tableOut (tgt := 336) hx hb dM_gateRow_45 (fs_swo (n := 5) (by decide) (fs_le5 hk0 hk1 hk2 hk3 hk4 hk5)) (by decide) ?_
  refine lv_aload_n hx hb dM_gateRow_336 rfl (lv_at hl 4 rfl) ?_
  refine fm_get (ci := 4) (v := .ref (b + 10)) (C := RM) (T := TM) (N := 30) hx hb hT inM hown hK hW hM.1 rfl 15 (by decide) (hT _ fl_M_38) (fun _ h9 => h9) rfl dM_gateRow_337 ?_
  refine lv_iload_n hx hb dM_gateRow_340 rfl (lv_at hl 5 rfl) ?_
  refine lv_dup2_11 hx hb dM_gateRow_341 rfl rfl ?_
  refine fn_iald (n := 10) (f := ia 10) hx hb hK hW 0 (hM.2.1 10 rfl) rfl (show ρ < 10 by omega) (by decide) dM_gateRow_342 ?_
  refine lv_iload hx hb dM_gateRow_343 (lv_at hl 1 rfl) ?_
  refine lv_ixor hx hb dM_gateRow_345 ?_
  refine lv_topi (fun x_55 ex_55 => ?_)
  refine fn_iast (n := 10) (f := ia 10) hx hb hK hW 0 (hM.2.1 10 rfl) rfl (show ρ < 10 by omega) (by decide) dM_gateRow_346 (fun H locs hW => ?_)
  obtain ⟨M_56, eM_56⟩ : ∃ z : fm_M, z = va_up M (b + 10) (some (.inl (ct 0, 10, .inl (upd (ia 10) ρ x_55)))) := ⟨_, rfl⟩
  have hW : fm_W D fs_cl5 A M_56 s.heap H locs := by rw [eM_56]; exact hW
  have hM : fs_MW ct M_56 b cn si sl (va_up ia 10 (upd (ia 10) ρ x_55)) la := by rw [eM_56]; exact fs_MW_i hM 10 rfl _
  have hMf : fs_Mf b M M_56 := by rw [eM_56]; exact fs_Mf_u hMf (by omega) _
  have hR : fs_rs ia la (va_up ia 10 (upd (ia 10) ρ x_55)) la ρ (fs_gd (fs_rw ia la ρ) (ia 1 ω) (ia 2 ω) (ia 3 ω)) := by
    refine ⟨⟨fun k h8 h9 h10 => ?_, fun k h11 => ?_⟩, fun z9 => ?_⟩
    · simp only [fu_n h8, fu_n h9, fu_n h10]
    · simp only [fu_n h11]
    · show ((ia 8) z9, (ia 9) z9, (upd (ia 10) ρ x_55) z9, (la 11) z9) = _
      by_cases q : z9 = ρ
      · subst q; rw [if_pos rfl]; simp only [pk_us, pk_uLs]
        subst ex_55
        subst er_6
        subst er_3
        subst ex_2
        subst ex_1
        rw [← ex_9, fs_gd_6 hk0 hk1 hk2 hk3 hk4 hk5]
        rfl
      · rw [if_neg q]; try simp only [pk_un q, pk_uLn q]
        rfl
  exact fm_vret hx hb hr hlocks hW ⟨_, _, hM, hMf, hR⟩ dM_gateRow_347
set_option maxHeartbeats 4000000 in
set_option maxRecDepth 100000 in
theorem c_M_clearWire (l : Launch) (D : va_G) (ct : Nat → ClassId) (A : Nat → Prop) (M : fm_M) (b : Nat) (cn : Nat → Nat) (si : Nat → Int32) (sl : Nat → Int64) (ia : Nat → Nat → Int32) (la : Nat → Nat → Int64) (ν α : Nat) (hM : fs_MW ct M b cn si sl ia la) (hB : fs_Bd cn) (hν : ν < 60) (hα : α < 32) : Met l yM_clearWire wM_clearWire ({ frames := 1, cells := 0, slots := 0, locals := 21 }) (va_Pc [.ref b, .int (nI ν), .int (nI α)] (fm_St D fs_cl5 (fs_tys ct) fs_nw A M)) (va_Qv (fun (M1 : fm_M) => ∃ (ia2 : Nat → Nat → Int32) (la2 : Nat → Nat → Int64), fs_MW ct M1 b cn si sl ia2 la2 ∧ fs_Mf b M M1 ∧ fs_ro ia la ia2 la2 ∧ ∀ i, i < cn 0 → fs_rw ia2 la2 i = if bt (fs_rw ia la i).2.1 α = true then fs_fl (fs_rw ia la i) (ia 12 ν) (la 13 ν) else fs_rw ia la i) (fm_B D fs_cl5 A) A) 0 0 A := by
  refine Met.ofW (cc := cM_clearWire) (maxL := 4) (ret := none) (by decide) rfl ?_
  intro p e s m args below meth c s₁ B hml hv
  obtain ⟨rfl, hP0, hA0, hA1, hK, hN⟩ := hv
  have hx := B.exec
  have hb := B.bytes
  have hr := B.returns
  have hts := atoms_spec (ws := wM_clearWire) B.pre
  have hT : ∀ w ∈ fs_tb, w.before _ s = true := fun w h => hts w (List.mem_cons_of_mem _ h)
  have hown : s.vm.findClass "FrameSamplesModel" = some m.cls := findClass_of_methodNamed B.named
  have hlocks := B.notSynchronized
  have hW : fm_W D fs_cl5 A M s.heap s.heap [] := ⟨hP0, hA0, va_S.rf, hA1⟩
  have hl := lv_entry ([.ref b, .int (nI ν), .int (nI α)]) (n := 4) (Nat.le_of_ble_eq_true rfl)
  rw [lg_entry_eq]
  generalize (lg_sl ([.ref b, .int (nI ν), .int (nI α)]) ++ List.replicate (4 - (lg_sl ([.ref b, .int (nI ν), .int (nI α)])).length) Slot.unset).toArray = ls at hl ⊢
  have hl : lv_has ls 4 [(0, .ref b), (1, .int (nI ν)), (2, .int (nI α))] := hl
  obtain ⟨hB0, hB1, hB2, hB3, hB4, hB5⟩ := hB
  have hMf : fs_Mf b M M := fs_Mf_r
  refine lv_iconst (v := 0) hx hb dM_clearWire_0 (by decide) ?_
  refine lv_istore_n (lv' := [(3, .int 0), (0, .ref b), (1, .int (nI ν)), (2, .int (nI α))]) hx hb dM_clearWire_1 rfl hl (by decide) rfl (fun ls hl => ?_)
  refine fm_loop (head := 2) (maxL := 4) (cn 0) (fun i (u : (Nat → Nat → Int32) × (Nat → Nat → Int64)) M1 => fs_MW ct M1 b cn si sl u.1 u.2 ∧ fs_Mf b M M1 ∧ fs_ro ia la u.1 u.2 ∧ fs_Up i (fs_rw ia la) (fun j => if bt (fs_rw ia la j).2.1 α = true then fs_fl (fs_rw ia la j) (ia 12 ν) (la 13 ν) else fs_rw ia la j) (fs_rw u.1 u.2)) (fun i (u : (Nat → Nat → Int32) × (Nat → Nat → Int64)) => [(3, .int (nI i)), (0, .ref b), (1, .int (nI ν)), (2, .int (nI α))]) ?_ ?_ (cn 0) 0 (Nat.zero_add _) (ia, la) M _ _ ls ⟨hM, hMf, fs_ro_r, fs_Up_0 _ _⟩ hW (lv_sub hl [0, 1, 2, 3] rfl)
  · intro i u M_1 H locs ls hi hI hW hl back
    have hl : lv_has ls 4 [(3, .int (nI i)), (0, .ref b), (1, .int (nI ν)), (2, .int (nI α))] := hl
    obtain ⟨ia1, la1⟩ := u
    obtain ⟨hM, hMf, hro, hU⟩ := hI
    have hM : fs_MW ct M_1 b cn si sl ia1 la1 := hM
    have hU : fs_Up i (fs_rw ia la) (fun j => if bt (fs_rw ia la j).2.1 α = true then fs_fl (fs_rw ia la j) (ia 12 ν) (la 13 ν) else fs_rw ia la j) (fs_rw ia1 la1) := hU
    have hui : fs_rw ia1 la1 i = fs_rw ia la i := hU.2 i (Nat.le_refl i)
    refine lv_iload_n hx hb dM_clearWire_2 rfl (lv_at hl 0 rfl) ?_
    refine lv_aload_n hx hb dM_clearWire_3 rfl (lv_at hl 1 rfl) ?_
    refine fm_get (ci := 4) (v := .int (nI (cn 0))) (C := RM) (T := TM) (N := 30) hx hb hT inM hown hK hW hM.1 rfl 1 (by decide) (hT _ fl_M_68) (fun _ h9 => h9) rfl dM_clearWire_4 ?_
    refine lv_icmp_ge (tgt := 62) hx hb dM_clearWire_7 (by decide) (fun c_2 => ?_) (fun c_2 => ?_)
    · exact absurd c_2 (nI_ge hi (by omega))
    · refine lv_aload_n hx hb dM_clearWire_10 rfl (lv_at hl 1 rfl) ?_
      refine fm_get (ci := 4) (v := .ref (b + 9)) (C := RM) (T := TM) (N := 30) hx hb hT inM hown hK hW hM.1 rfl 14 (by decide) (hT _ fl_M_35) (fun _ h9 => h9) rfl dM_clearWire_11 ?_
      refine lv_iload_n hx hb dM_clearWire_14 rfl (lv_at hl 0 rfl) ?_
      refine fn_iald (n := 10) (f := ia1 9) hx hb hK hW 0 (hM.2.1 9 rfl) rfl (show i < 10 by omega) (by decide) dM_clearWire_15 ?_
      refine lv_iload_n hx hb dM_clearWire_16 rfl (lv_at hl 3 rfl) ?_
      refine fm_calli (va_runS (As := [.int ((ia1 9) i), .int (nI α)]) (rest := []) ⟨hx, hb, hml, hown, hts⟩ (c_M_bit l D ct A M_1 ((ia1 9) i) (nI α)) ⟨callB_of 2 hts (fs_gin co_M_bit) rfl rfl rfl (hT _ ini_M) (hT _ ml_M_95) (by decide +kernel) ⟨Nat.le_of_ble_eq_true rfl, Nat.le_of_ble_eq_true rfl⟩, hT _ st_M_bit⟩ (fn_pre fs_isnw hK hN hW) rfl rfl hl.1 rfl (lv_room (Nat.le_of_ble_eq_true rfl)) dM_clearWire_17 ⟨Nat.le_of_ble_eq_true rfl, Nat.le_of_ble_eq_true rfl⟩) hW (fun r_3 M_4 H locs hp_5 hW => ?_)
      have hW : fm_W D fs_cl5 A M_1 s.heap H locs := by rw [← hp_5.2]; exact hW
      have er_3 := hp_5.1
      have er_3 : r_3 = fs_b (bt (fs_rw ia1 la1 i).2.1 α) := by rw [er_3]; exact fs_bi_b hα _
      refine lv_if_ne (tgt := 26) hx hb dM_clearWire_20 (by decide) (fun c_6 => ?_) (fun c_6 => ?_)
      · have ht : bt (fs_rw ia la i).2.1 α = true := by rw [← hui]; exact fs_ndf _ (fun z => c_6 (by rw [er_3, z]; rfl))
        refine lv_aload_n hx hb dM_clearWire_26 rfl (lv_at hl 1 rfl) ?_
        refine fm_get (ci := 4) (v := .ref (b + 10)) (C := RM) (T := TM) (N := 30) hx hb hT inM hown hK hW hM.1 rfl 15 (by decide) (hT _ fl_M_38) (fun _ h9 => h9) rfl dM_clearWire_27 ?_
        refine lv_iload_n hx hb dM_clearWire_30 rfl (lv_at hl 0 rfl) ?_
        refine lv_dup2_11 hx hb dM_clearWire_31 rfl rfl ?_
        refine fn_iald (n := 10) (f := ia1 10) hx hb hK hW 0 (hM.2.1 10 rfl) rfl (show i < 10 by omega) (by decide) dM_clearWire_32 ?_
        refine lv_aload_n hx hb dM_clearWire_33 rfl (lv_at hl 1 rfl) ?_
        refine fm_get (ci := 4) (v := .ref (b + 12)) (C := RM) (T := TM) (N := 30) hx hb hT inM hown hK hW hM.1 rfl 17 (by decide) (hT _ fl_M_44) (fun _ h9 => h9) rfl dM_clearWire_34 ?_
        refine lv_iload_n hx hb dM_clearWire_37 rfl (lv_at hl 2 rfl) ?_
        refine fn_iald (n := 60) (f := ia1 12) hx hb hK hW 0 (hM.2.1 12 rfl) rfl (show ν < 60 by omega) (by decide) dM_clearWire_38 ?_
        refine lv_ixor hx hb dM_clearWire_39 ?_
        refine lv_topi (fun x_7 ex_7 => ?_)
        refine fn_iast (n := 10) (f := ia1 10) hx hb hK hW 0 (hM.2.1 10 rfl) rfl (show i < 10 by omega) (by decide) dM_clearWire_40 (fun H locs hW => ?_)
        obtain ⟨M_8, eM_8⟩ : ∃ z : fm_M, z = va_up M_1 (b + 10) (some (.inl (ct 0, 10, .inl (upd (ia1 10) i x_7)))) := ⟨_, rfl⟩
        have hW : fm_W D fs_cl5 A M_8 s.heap H locs := by rw [eM_8]; exact hW
        have hM : fs_MW ct M_8 b cn si sl (va_up ia1 10 (upd (ia1 10) i x_7)) la1 := by rw [eM_8]; exact fs_MW_i hM 10 rfl _
        have hMf : fs_Mf b M M_8 := by rw [eM_8]; exact fs_Mf_u hMf (by omega) _
        refine lv_aload_n hx hb dM_clearWire_41 rfl (lv_at hl 1 rfl) ?_
        refine fm_get (ci := 4) (v := .ref (b + 11)) (C := RM) (T := TM) (N := 30) hx hb hT inM hown hK hW hM.1 rfl 16 (by decide) (hT _ fl_M_41) (fun _ h9 => h9) rfl dM_clearWire_42 ?_
        refine lv_iload_n hx hb dM_clearWire_45 rfl (lv_at hl 0 rfl) ?_
        refine lv_dup2_11 hx hb dM_clearWire_46 rfl rfl ?_
        refine fn_lald (n := 10) (f := la1 11) hx hb hK hW 1 (hM.2.2.1 11 rfl) rfl (show i < 10 by omega) (by decide) dM_clearWire_47 ?_
        refine lv_aload_n hx hb dM_clearWire_48 rfl (lv_at hl 1 rfl) ?_
        refine fm_get (ci := 4) (v := .ref (b + 13)) (C := RM) (T := TM) (N := 30) hx hb hT inM hown hK hW hM.1 rfl 18 (by decide) (hT _ fl_M_47) (fun _ h9 => h9) rfl dM_clearWire_49 ?_
        refine lv_iload_n hx hb dM_clearWire_52 rfl (lv_at hl 2 rfl) ?_
        refine fn_lald (n := 60) (f := la1 13) hx hb hK hW 1 (hM.2.2.1 13 rfl) rfl (show ν < 60 by omega) (by decide) dM_clearWire_53 ?_
        refine lv_lxor hx hb dM_clearWire_54 ?_
        refine lv_topl (fun x_9 ex_9 => ?_)
        refine fn_last (n := 10) (f := la1 11) hx hb hK hW 1 (hM.2.2.1 11 rfl) rfl (show i < 10 by omega) (by decide) dM_clearWire_55 (fun H locs hW => ?_)
        obtain ⟨M_10, eM_10⟩ : ∃ z : fm_M, z = va_up M_8 (b + 11) (some (.inl (ct 1, 10, .inr (.inl (vp_updL (la1 11) i x_9))))) := ⟨_, rfl⟩
        have hW : fm_W D fs_cl5 A M_10 s.heap H locs := by rw [eM_10]; exact hW
        have hM : fs_MW ct M_10 b cn si sl (va_up ia1 10 (upd (ia1 10) i x_7)) (va_up la1 11 (vp_updL (la1 11) i x_9)) := by rw [eM_10]; exact fs_MW_l hM 11 rfl _
        have hMf : fs_Mf b M M_10 := by rw [eM_10]; exact fs_Mf_u hMf (by omega) _
        have hR : fs_rs ia1 la1 (va_up ia1 10 (upd (ia1 10) i x_7)) (va_up la1 11 (vp_updL (la1 11) i x_9)) i (fs_fl (fs_rw ia1 la1 i) (ia 12 ν) (la 13 ν)) := by
          refine ⟨⟨fun k h8 h9 h10 => ?_, fun k h11 => ?_⟩, fun z9 => ?_⟩
          · simp only [fu_n h8, fu_n h9, fu_n h10]
          · simp only [fu_n h11]
          · show ((ia1 8) z9, (ia1 9) z9, (upd (ia1 10) i x_7) z9, (vp_updL (la1 11) i x_9) z9) = _
            by_cases q : z9 = i
            · subst q; rw [if_pos rfl]; simp only [pk_us, pk_uLs]
              subst ex_9
              subst ex_7
              rw [← hro.1 12 (by decide) (by decide) (by decide), ← hro.2 13 (by decide)]
              rfl
            · rw [if_neg q]; try simp only [pk_un q, pk_uLn q]
              rfl
        refine lv_iinc (v := nI (i + 1)) (lv' := [(3, .int (nI (i + 1))), (0, .ref b), (1, .int (nI ν)), (2, .int (nI α))]) hx hb dM_clearWire_56 hl (k := 0) rfl (nI_1 i) (by decide) rfl (fun ls hl => ?_)
        refine lv_goto (tgt := 2) hx hb dM_clearWire_59 (by decide) ?_
        exact back (_, _) _ _ _ ls ⟨hM, hMf, fs_ro_t hro hR.1, fs_Up_r hU hR.2 (by rw [hui]; exact (if_pos ht).symm)⟩ hW (lv_sub hl [0, 1, 2, 3] rfl)
      · have hf : bt (fs_rw ia la i).2.1 α = false := by rw [← hui]; exact (fs_b_eq0 _).mp (by rw [← er_3]; exact c_6)
        refine lv_goto (tgt := 56) hx hb dM_clearWire_23 (by decide) ?_
        refine lv_iinc (v := nI (i + 1)) (lv' := [(3, .int (nI (i + 1))), (0, .ref b), (1, .int (nI ν)), (2, .int (nI α))]) hx hb dM_clearWire_56 hl (k := 0) rfl (nI_1 i) (by decide) rfl (fun ls hl => ?_)
        refine lv_goto (tgt := 2) hx hb dM_clearWire_59 (by decide) ?_
        exact back (_, _) _ _ _ ls ⟨hM, hMf, hro, fs_Up_k hU (by rw [hui]; exact (if_neg (by rw [hf]; decide)).symm)⟩ hW (lv_sub hl [0, 1, 2, 3] rfl)
  · intro u M_11 H locs ls hI hW hl
    have hl : lv_has ls 4 [(3, .int (nI (cn 0))), (0, .ref b), (1, .int (nI ν)), (2, .int (nI α))] := hl
    obtain ⟨ia1, la1⟩ := u
    obtain ⟨hM, hMf, hro, hU⟩ := hI
    have hM : fs_MW ct M_11 b cn si sl ia1 la1 := hM
    refine lv_iload_n hx hb dM_clearWire_2 rfl (lv_at hl 0 rfl) ?_
    refine lv_aload_n hx hb dM_clearWire_3 rfl (lv_at hl 1 rfl) ?_
    refine fm_get (ci := 4) (v := .int (nI (cn 0))) (C := RM) (T := TM) (N := 30) hx hb hT inM hown hK hW hM.1 rfl 1 (by decide) (hT _ fl_M_68) (fun _ h9 => h9) rfl dM_clearWire_4 ?_
    refine lv_icmp_ge (tgt := 62) hx hb dM_clearWire_7 (by decide) (fun c_12 => ?_) (fun c_12 => ?_)
    · exact fm_vret hx hb hr hlocks hW ⟨ia1, la1, hM, hMf, hro, fun i hi => hU.1 i hi⟩ dM_clearWire_62
    · exact absurd (nI_le (Nat.le_refl (cn 0)) (by omega)) c_12
