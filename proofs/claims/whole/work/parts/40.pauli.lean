-- the cells of the class; the words of nest mates
abbrev fs_tys (ct : Nat → ClassId) : List (ClassId × FieldType) := [(ct 0, .int), (ct 1, .long), (ct 2, .boolean), (ct 3, .object "FrameSamples$Pauli"), (ct 4, .object "FrameSamples$Fault")]
def fs_PE (q : fs_Q) : va_E := .inr (0, [.int q.1, .int q.2.1, .int q.2.2.1, .long q.2.2.2])
theorem fs_isnw : ∀ w ∈ fs_nw, fn_isN w := by
  intro w hw
  simp only [fs_nw, List.mem_cons, List.not_mem_nil, or_false] at hw
  rcases hw with rfl | rfl | rfl | rfl | rfl | rfl | rfl | rfl | rfl | rfl | rfl | rfl | rfl | rfl | rfl
  · exact Or.inr (Or.inr ⟨_, rfl⟩)
  · exact Or.inr (Or.inl ⟨_, _, _, _, rfl⟩)
  · exact Or.inl ⟨_, _, _, _, _, _, rfl⟩
  · exact Or.inl ⟨_, _, _, _, _, _, rfl⟩
  · exact Or.inl ⟨_, _, _, _, _, _, rfl⟩
  · exact Or.inl ⟨_, _, _, _, _, _, rfl⟩
  · exact Or.inl ⟨_, _, _, _, _, _, rfl⟩
  · exact Or.inl ⟨_, _, _, _, _, _, rfl⟩
  · exact Or.inr (Or.inr ⟨_, rfl⟩)
  · exact Or.inr (Or.inl ⟨_, _, _, _, rfl⟩)
  · exact Or.inl ⟨_, _, _, _, _, _, rfl⟩
  · exact Or.inl ⟨_, _, _, _, _, _, rfl⟩
  · exact Or.inl ⟨_, _, _, _, _, _, rfl⟩
  · exact Or.inl ⟨_, _, _, _, _, _, rfl⟩
  · exact Or.inr (Or.inl ⟨_, _, _, _, rfl⟩)
set_option maxHeartbeats 4000000 in
set_option maxRecDepth 100000 in
theorem c_JI_bitCount (l : Launch) (D : va_G) (ct : Nat → ClassId) (A : Nat → Prop) (M : fm_M) (i : Int32) : Met l yJI_bitCount wJI_bitCount ({ frames := 0, cells := 0, slots := 0, locals := 0 }) (va_Pc [.int i] (fm_St D fs_cl5 (fs_tys ct) fs_nw A M)) (va_Qi (fun (r : Int32) (M1 : fm_M) => r = fs_bc i ∧ M1 = M) (fm_B D fs_cl5 A) A) 0 0 A := by
  refine Met.ofW (cc := cJI_bitCount) (maxL := 1) (ret := (some .int)) (by decide) rfl ?_
  intro p e s m args below meth c s₁ B hml hv
  obtain ⟨rfl, hP0, hA0, hA1, hK, hN⟩ := hv
  have hx := B.exec
  have hb := B.bytes
  have hr := B.returns
  have hts := atoms_spec (ws := wJI_bitCount) B.pre
  have hT : ∀ w ∈ fs_tb, w.before _ s = true := fun w h => hts w (List.mem_cons_of_mem _ h)
  have hown : s.vm.findClass "java/lang/Integer" = some m.cls := findClass_of_methodNamed B.named
  have hlocks := B.notSynchronized
  have hW : fm_W D fs_cl5 A M s.heap s.heap [] := ⟨hP0, hA0, va_S.rf, hA1⟩
  have hl := lv_entry ([.int i]) (n := 1) (Nat.le_of_ble_eq_true rfl)
  rw [lg_entry_eq]
  generalize (lg_sl ([.int i]) ++ List.replicate (1 - (lg_sl ([.int i])).length) Slot.unset).toArray = ls at hl ⊢
  have hl : lv_has ls 1 [(0, .int i)] := hl
  refine lv_iload_n hx hb dJI_bitCount_0 rfl (lv_at hl 0 rfl) ?_
  refine lv_iload_n hx hb dJI_bitCount_1 rfl (lv_at hl 0 rfl) ?_
  refine lv_iconst (v := 1) hx hb dJI_bitCount_2 (by decide) ?_
  refine lv_iushr (v := fs_ush i 1) hx hb dJI_bitCount_3 rfl ?_
  refine lv_ldcw hx hb hown (hT _ cn_JI_265) dJI_bitCount_4 ?_
  refine lv_iand hx hb dJI_bitCount_7 ?_
  refine lv_isub hx hb dJI_bitCount_8 ?_
  refine lv_topi (fun x_1 ex_1 => ?_)
  refine lv_istore_n (lv' := [(0, .int x_1)]) hx hb dJI_bitCount_9 rfl hl (by decide) rfl (fun ls hl => ?_)
  refine lv_iload_n hx hb dJI_bitCount_10 rfl (lv_at hl 0 rfl) ?_
  refine lv_ldcw hx hb hown (hT _ cn_JI_266) dJI_bitCount_11 ?_
  refine lv_iand hx hb dJI_bitCount_14 ?_
  refine lv_iload_n hx hb dJI_bitCount_15 rfl (lv_at hl 0 rfl) ?_
  refine lv_iconst (v := 2) hx hb dJI_bitCount_16 (by decide) ?_
  refine lv_iushr (v := fs_ush x_1 2) hx hb dJI_bitCount_17 rfl ?_
  refine lv_ldcw hx hb hown (hT _ cn_JI_266) dJI_bitCount_18 ?_
  refine lv_iand hx hb dJI_bitCount_21 ?_
  refine lv_iadd hx hb dJI_bitCount_22 ?_
  refine lv_topi (fun x_2 ex_2 => ?_)
  refine lv_istore_n (lv' := [(0, .int x_2)]) hx hb dJI_bitCount_23 rfl hl (by decide) rfl (fun ls hl => ?_)
  refine lv_iload_n hx hb dJI_bitCount_24 rfl (lv_at hl 0 rfl) ?_
  refine lv_iload_n hx hb dJI_bitCount_25 rfl (lv_at hl 0 rfl) ?_
  refine lv_iconst (v := 4) hx hb dJI_bitCount_26 (by decide) ?_
  refine lv_iushr (v := fs_ush x_2 4) hx hb dJI_bitCount_27 rfl ?_
  refine lv_iadd hx hb dJI_bitCount_28 ?_
  refine lv_ldcw hx hb hown (hT _ cn_JI_267) dJI_bitCount_29 ?_
  refine lv_iand hx hb dJI_bitCount_32 ?_
  refine lv_topi (fun x_3 ex_3 => ?_)
  refine lv_istore_n (lv' := [(0, .int x_3)]) hx hb dJI_bitCount_33 rfl hl (by decide) rfl (fun ls hl => ?_)
  refine lv_iload_n hx hb dJI_bitCount_34 rfl (lv_at hl 0 rfl) ?_
  refine lv_iload_n hx hb dJI_bitCount_35 rfl (lv_at hl 0 rfl) ?_
  refine lv_bipush (v := 8) hx hb dJI_bitCount_36 (by decide) ?_
  refine lv_iushr (v := fs_ush x_3 8) hx hb dJI_bitCount_38 rfl ?_
  refine lv_iadd hx hb dJI_bitCount_39 ?_
  refine lv_topi (fun x_4 ex_4 => ?_)
  refine lv_istore_n (lv' := [(0, .int x_4)]) hx hb dJI_bitCount_40 rfl hl (by decide) rfl (fun ls hl => ?_)
  refine lv_iload_n hx hb dJI_bitCount_41 rfl (lv_at hl 0 rfl) ?_
  refine lv_iload_n hx hb dJI_bitCount_42 rfl (lv_at hl 0 rfl) ?_
  refine lv_bipush (v := 16) hx hb dJI_bitCount_43 (by decide) ?_
  refine lv_iushr (v := fs_ush x_4 16) hx hb dJI_bitCount_45 rfl ?_
  refine lv_iadd hx hb dJI_bitCount_46 ?_
  refine lv_topi (fun x_5 ex_5 => ?_)
  refine lv_istore_n (lv' := [(0, .int x_5)]) hx hb dJI_bitCount_47 rfl hl (by decide) rfl (fun ls hl => ?_)
  refine lv_iload_n hx hb dJI_bitCount_48 rfl (lv_at hl 0 rfl) ?_
  refine lv_bipush (v := 63) hx hb dJI_bitCount_49 (by decide) ?_
  refine lv_iand hx hb dJI_bitCount_51 ?_
  exact fm_iret hx hb hr hlocks hW ⟨by subst ex_5; subst ex_4; subst ex_3; subst ex_2; subst ex_1; rfl, rfl⟩ dJI_bitCount_52
set_option maxHeartbeats 4000000 in
set_option maxRecDepth 100000 in
theorem c_JL_bitCount (l : Launch) (D : va_G) (ct : Nat → ClassId) (A : Nat → Prop) (M : fm_M) (i : Int64) : Met l yJL_bitCount wJL_bitCount ({ frames := 0, cells := 0, slots := 0, locals := 0 }) (va_Pc [.long i] (fm_St D fs_cl5 (fs_tys ct) fs_nw A M)) (va_Qi (fun (r : Int32) (M1 : fm_M) => r = fs_bcl i ∧ M1 = M) (fm_B D fs_cl5 A) A) 0 0 A := by
  refine Met.ofW (cc := cJL_bitCount) (maxL := 2) (ret := (some .int)) (by decide) rfl ?_
  intro p e s m args below meth c s₁ B hml hv
  obtain ⟨rfl, hP0, hA0, hA1, hK, hN⟩ := hv
  have hx := B.exec
  have hb := B.bytes
  have hr := B.returns
  have hts := atoms_spec (ws := wJL_bitCount) B.pre
  have hT : ∀ w ∈ fs_tb, w.before _ s = true := fun w h => hts w (List.mem_cons_of_mem _ h)
  have hown : s.vm.findClass "java/lang/Long" = some m.cls := findClass_of_methodNamed B.named
  have hlocks := B.notSynchronized
  have hW : fm_W D fs_cl5 A M s.heap s.heap [] := ⟨hP0, hA0, va_S.rf, hA1⟩
  have hl := lv_entry ([.long i]) (n := 2) (Nat.le_of_ble_eq_true rfl)
  rw [lg_entry_eq]
  generalize (lg_sl ([.long i]) ++ List.replicate (2 - (lg_sl ([.long i])).length) Slot.unset).toArray = ls at hl ⊢
  have hl : lv_has ls 2 [(0, .long i)] := hl
  refine lv_lload_n hx hb dJL_bitCount_0 rfl (lv_at hl 0 rfl) ?_
  refine lv_lload_n hx hb dJL_bitCount_1 rfl (lv_at hl 0 rfl) ?_
  refine lv_iconst (v := 1) hx hb dJL_bitCount_2 (by decide) ?_
  refine lv_lushr (v := fs_ushl i 1) hx hb dJL_bitCount_3 rfl ?_
  refine lv_ldc2 hx hb hown (hT _ cn_JL_314) dJL_bitCount_4 ?_
  refine lv_land hx hb dJL_bitCount_7 ?_
  refine lv_lsub hx hb dJL_bitCount_8 ?_
  refine lv_topl (fun x_1 ex_1 => ?_)
  refine lv_lstore_n (lv' := [(0, .long x_1)]) hx hb dJL_bitCount_9 rfl hl (by decide) rfl (fun ls hl => ?_)
  refine lv_lload_n hx hb dJL_bitCount_10 rfl (lv_at hl 0 rfl) ?_
  refine lv_ldc2 hx hb hown (hT _ cn_JL_316) dJL_bitCount_11 ?_
  refine lv_land hx hb dJL_bitCount_14 ?_
  refine lv_lload_n hx hb dJL_bitCount_15 rfl (lv_at hl 0 rfl) ?_
  refine lv_iconst (v := 2) hx hb dJL_bitCount_16 (by decide) ?_
  refine lv_lushr (v := fs_ushl x_1 2) hx hb dJL_bitCount_17 rfl ?_
  refine lv_ldc2 hx hb hown (hT _ cn_JL_316) dJL_bitCount_18 ?_
  refine lv_land hx hb dJL_bitCount_21 ?_
  refine lv_ladd hx hb dJL_bitCount_22 ?_
  refine lv_topl (fun x_2 ex_2 => ?_)
  refine lv_lstore_n (lv' := [(0, .long x_2)]) hx hb dJL_bitCount_23 rfl hl (by decide) rfl (fun ls hl => ?_)
  refine lv_lload_n hx hb dJL_bitCount_24 rfl (lv_at hl 0 rfl) ?_
  refine lv_lload_n hx hb dJL_bitCount_25 rfl (lv_at hl 0 rfl) ?_
  refine lv_iconst (v := 4) hx hb dJL_bitCount_26 (by decide) ?_
  refine lv_lushr (v := fs_ushl x_2 4) hx hb dJL_bitCount_27 rfl ?_
  refine lv_ladd hx hb dJL_bitCount_28 ?_
  refine lv_ldc2 hx hb hown (hT _ cn_JL_318) dJL_bitCount_29 ?_
  refine lv_land hx hb dJL_bitCount_32 ?_
  refine lv_topl (fun x_3 ex_3 => ?_)
  refine lv_lstore_n (lv' := [(0, .long x_3)]) hx hb dJL_bitCount_33 rfl hl (by decide) rfl (fun ls hl => ?_)
  refine lv_lload_n hx hb dJL_bitCount_34 rfl (lv_at hl 0 rfl) ?_
  refine lv_lload_n hx hb dJL_bitCount_35 rfl (lv_at hl 0 rfl) ?_
  refine lv_bipush (v := 8) hx hb dJL_bitCount_36 (by decide) ?_
  refine lv_lushr (v := fs_ushl x_3 8) hx hb dJL_bitCount_38 rfl ?_
  refine lv_ladd hx hb dJL_bitCount_39 ?_
  refine lv_topl (fun x_4 ex_4 => ?_)
  refine lv_lstore_n (lv' := [(0, .long x_4)]) hx hb dJL_bitCount_40 rfl hl (by decide) rfl (fun ls hl => ?_)
  refine lv_lload_n hx hb dJL_bitCount_41 rfl (lv_at hl 0 rfl) ?_
  refine lv_lload_n hx hb dJL_bitCount_42 rfl (lv_at hl 0 rfl) ?_
  refine lv_bipush (v := 16) hx hb dJL_bitCount_43 (by decide) ?_
  refine lv_lushr (v := fs_ushl x_4 16) hx hb dJL_bitCount_45 rfl ?_
  refine lv_ladd hx hb dJL_bitCount_46 ?_
  refine lv_topl (fun x_5 ex_5 => ?_)
  refine lv_lstore_n (lv' := [(0, .long x_5)]) hx hb dJL_bitCount_47 rfl hl (by decide) rfl (fun ls hl => ?_)
  refine lv_lload_n hx hb dJL_bitCount_48 rfl (lv_at hl 0 rfl) ?_
  refine lv_lload_n hx hb dJL_bitCount_49 rfl (lv_at hl 0 rfl) ?_
  refine lv_bipush (v := 32) hx hb dJL_bitCount_50 (by decide) ?_
  refine lv_lushr (v := fs_ushl x_5 32) hx hb dJL_bitCount_52 rfl ?_
  refine lv_ladd hx hb dJL_bitCount_53 ?_
  refine lv_topl (fun x_6 ex_6 => ?_)
  refine lv_lstore_n (lv' := [(0, .long x_6)]) hx hb dJL_bitCount_54 rfl hl (by decide) rfl (fun ls hl => ?_)
  refine lv_lload_n hx hb dJL_bitCount_55 rfl (lv_at hl 0 rfl) ?_
  refine lv_l2i (v := x_6.toInt32) hx hb dJL_bitCount_56 rfl ?_
  refine lv_bipush (v := 127) hx hb dJL_bitCount_57 (by decide) ?_
  refine lv_iand hx hb dJL_bitCount_59 ?_
  exact fm_iret hx hb hr hlocks hW ⟨by subst ex_6; subst ex_5; subst ex_4; subst ex_3; subst ex_2; subst ex_1; rfl, rfl⟩ dJL_bitCount_60
set_option maxHeartbeats 4000000 in
set_option maxRecDepth 100000 in
theorem c_P_xOn (l : Launch) (D : va_G) (ct : Nat → ClassId) (A : Nat → Prop) (M : fm_M) (h0 : Nat) (q : fs_Q) (a : Int32)(hM : M h0 = some (fs_PE q)) : Met l yP_xOn wP_xOn ({ frames := 0, cells := 0, slots := 0, locals := 0 }) (va_Pc [.ref h0, .int a] (fm_St D fs_cl5 (fs_tys ct) fs_nw A M)) (va_Qi (fun (r : Int32) (M1 : fm_M) => r = fs_xOn q a ∧ M1 = M) (fm_B D fs_cl5 A) A) 0 0 A := by
  refine Met.ofW (cc := cP_xOn) (maxL := 2) (ret := (some .int)) (by decide) rfl ?_
  intro p e s m args below meth c s₁ B hml hv
  obtain ⟨rfl, hP0, hA0, hA1, hK, hN⟩ := hv
  have hx := B.exec
  have hb := B.bytes
  have hr := B.returns
  have hts := atoms_spec (ws := wP_xOn) B.pre
  have hT : ∀ w ∈ fs_tb, w.before _ s = true := fun w h => hts w (List.mem_cons_of_mem _ h)
  have hown : s.vm.findClass "FrameSamples$Pauli" = some m.cls := findClass_of_methodNamed B.named
  have hlocks := B.notSynchronized
  have hW : fm_W D fs_cl5 A M s.heap s.heap [] := ⟨hP0, hA0, va_S.rf, hA1⟩
  have hl := lv_entry ([.ref h0, .int a]) (n := 2) (Nat.le_of_ble_eq_true rfl)
  rw [lg_entry_eq]
  generalize (lg_sl ([.ref h0, .int a]) ++ List.replicate (2 - (lg_sl ([.ref h0, .int a])).length) Slot.unset).toArray = ls at hl ⊢
  have hl : lv_has ls 2 [(0, .ref h0), (1, .int a)] := hl
  refine lv_aload_n hx hb dP_xOn_0 rfl (lv_at hl 0 rfl) ?_
  refine fm_get (ci := 0) (v := .int q.1) (C := RP) (T := TP) (N := 4) hx hb hT inP hown hK hW hM rfl 0 (by decide) (hT _ fl_P_9) (fun _ h9 => h9) rfl dP_xOn_1 ?_
  refine lv_iload_n hx hb dP_xOn_4 rfl (lv_at hl 1 rfl) ?_
  refine lv_iushr (v := fs_ush q.1 a) hx hb dP_xOn_5 rfl ?_
  refine lv_iconst (v := 1) hx hb dP_xOn_6 (by decide) ?_
  refine lv_iand hx hb dP_xOn_7 ?_
  exact fm_iret hx hb hr hlocks hW ⟨rfl, rfl⟩ dP_xOn_8
set_option maxHeartbeats 4000000 in
set_option maxRecDepth 100000 in
theorem c_P_zOn (l : Launch) (D : va_G) (ct : Nat → ClassId) (A : Nat → Prop) (M : fm_M) (h0 : Nat) (q : fs_Q) (a : Int32)(hM : M h0 = some (fs_PE q)) : Met l yP_zOn wP_zOn ({ frames := 0, cells := 0, slots := 0, locals := 0 }) (va_Pc [.ref h0, .int a] (fm_St D fs_cl5 (fs_tys ct) fs_nw A M)) (va_Qi (fun (r : Int32) (M1 : fm_M) => r = fs_zOn q a ∧ M1 = M) (fm_B D fs_cl5 A) A) 0 0 A := by
  refine Met.ofW (cc := cP_zOn) (maxL := 2) (ret := (some .int)) (by decide) rfl ?_
  intro p e s m args below meth c s₁ B hml hv
  obtain ⟨rfl, hP0, hA0, hA1, hK, hN⟩ := hv
  have hx := B.exec
  have hb := B.bytes
  have hr := B.returns
  have hts := atoms_spec (ws := wP_zOn) B.pre
  have hT : ∀ w ∈ fs_tb, w.before _ s = true := fun w h => hts w (List.mem_cons_of_mem _ h)
  have hown : s.vm.findClass "FrameSamples$Pauli" = some m.cls := findClass_of_methodNamed B.named
  have hlocks := B.notSynchronized
  have hW : fm_W D fs_cl5 A M s.heap s.heap [] := ⟨hP0, hA0, va_S.rf, hA1⟩
  have hl := lv_entry ([.ref h0, .int a]) (n := 2) (Nat.le_of_ble_eq_true rfl)
  rw [lg_entry_eq]
  generalize (lg_sl ([.ref h0, .int a]) ++ List.replicate (2 - (lg_sl ([.ref h0, .int a])).length) Slot.unset).toArray = ls at hl ⊢
  have hl : lv_has ls 2 [(0, .ref h0), (1, .int a)] := hl
  refine lv_aload_n hx hb dP_zOn_0 rfl (lv_at hl 0 rfl) ?_
  refine fm_get (ci := 0) (v := .int q.2.1) (C := RP) (T := TP) (N := 4) hx hb hT inP hown hK hW hM rfl 1 (by decide) (hT _ fl_P_15) (fun _ h9 => h9) rfl dP_zOn_1 ?_
  refine lv_iload_n hx hb dP_zOn_4 rfl (lv_at hl 1 rfl) ?_
  refine lv_iushr (v := fs_ush q.2.1 a) hx hb dP_zOn_5 rfl ?_
  refine lv_iconst (v := 1) hx hb dP_zOn_6 (by decide) ?_
  refine lv_iand hx hb dP_zOn_7 ?_
  exact fm_iret hx hb hr hlocks hW ⟨rfl, rfl⟩ dP_zOn_8
set_option maxHeartbeats 4000000 in
set_option maxRecDepth 100000 in
theorem c_P_passH (l : Launch) (D : va_G) (ct : Nat → ClassId) (A : Nat → Prop) (M : fm_M) (h0 : Nat) (q : fs_Q) (a : Int32)(hM : M h0 = some (fs_PE q)) : Met l yP_passH wP_passH ({ frames := 1, cells := 0, slots := 0, locals := 21 }) (va_Pc [.ref h0, .int a] (fm_St D fs_cl5 (fs_tys ct) fs_nw A M)) (va_Qv (fun (M1 : fm_M) => M1 = va_up M h0 (some (fs_PE (fs_pH q a)))) (fm_B D fs_cl5 A) A) 0 0 A := by
  refine Met.ofW (cc := cP_passH) (maxL := 3) (ret := none) (by decide) rfl ?_
  intro p e s m args below meth c s₁ B hml hv
  obtain ⟨rfl, hP0, hA0, hA1, hK, hN⟩ := hv
  have hx := B.exec
  have hb := B.bytes
  have hr := B.returns
  have hts := atoms_spec (ws := wP_passH) B.pre
  have hT : ∀ w ∈ fs_tb, w.before _ s = true := fun w h => hts w (List.mem_cons_of_mem _ h)
  have hown : s.vm.findClass "FrameSamples$Pauli" = some m.cls := findClass_of_methodNamed B.named
  have hlocks := B.notSynchronized
  have hW : fm_W D fs_cl5 A M s.heap s.heap [] := ⟨hP0, hA0, va_S.rf, hA1⟩
  have hl := lv_entry ([.ref h0, .int a]) (n := 3) (Nat.le_of_ble_eq_true rfl)
  rw [lg_entry_eq]
  generalize (lg_sl ([.ref h0, .int a]) ++ List.replicate (3 - (lg_sl ([.ref h0, .int a])).length) Slot.unset).toArray = ls at hl ⊢
  have hl : lv_has ls 3 [(0, .ref h0), (1, .int a)] := hl
  refine lv_aload_n hx hb dP_passH_0 rfl (lv_at hl 0 rfl) ?_
  refine lv_dup hx hb dP_passH_1 rfl ?_
  refine fm_get (ci := 0) (v := .int q.2.2.1) (C := RP) (T := TP) (N := 4) hx hb hT inP hown hK hW hM rfl 2 (by decide) (hT _ fl_P_18) (fun _ h9 => h9) rfl dP_passH_2 ?_
  refine lv_aload_n hx hb dP_passH_5 rfl (lv_at hl 0 rfl) ?_
  refine lv_iload_n hx hb dP_passH_6 rfl (lv_at hl 1 rfl) ?_
  refine fm_calli (va_runV (As := [.int a]) (rest := [.int q.2.2.1, .ref h0]) ⟨hx, hb, hml, hown, hts⟩ (c_P_xOn l D ct A M h0 (q.1, q.2.1, q.2.2.1, q.2.2.2) a hM) ⟨callB_of 1 hts (fs_gin co_P_xOn) rfl rfl rfl (hT _ ini_P) (hT _ ml_P_44) (by decide +kernel) ⟨Nat.le_of_ble_eq_true rfl, Nat.le_of_ble_eq_true rfl⟩, hT _ im_P_xOn, hT _ se_P_xOn⟩ (fn_preV fs_isnw hK hN hW hM rfl) rfl rfl hl.1 rfl (lv_room (Nat.le_of_ble_eq_true rfl)) dP_passH_7 ⟨Nat.le_of_ble_eq_true rfl, Nat.le_of_ble_eq_true rfl⟩) hW (fun r_1 M_2 H locs hp_3 hW => ?_)
  have hW : fm_W D fs_cl5 A M s.heap H locs := by rw [← hp_3.2]; exact hW
  have er_1 := hp_3.1
  refine lv_aload_n hx hb dP_passH_10 rfl (lv_at hl 0 rfl) ?_
  refine lv_iload_n hx hb dP_passH_11 rfl (lv_at hl 1 rfl) ?_
  refine fm_calli (va_runV (As := [.int a]) (rest := [.int r_1, .int q.2.2.1, .ref h0]) ⟨hx, hb, hml, hown, hts⟩ (c_P_zOn l D ct A M h0 (q.1, q.2.1, q.2.2.1, q.2.2.2) a hM) ⟨callB_of 1 hts (fs_gin co_P_zOn) rfl rfl rfl (hT _ ini_P) (hT _ ml_P_40) (by decide +kernel) ⟨Nat.le_of_ble_eq_true rfl, Nat.le_of_ble_eq_true rfl⟩, hT _ im_P_zOn, hT _ se_P_zOn⟩ (fn_preV fs_isnw hK hN hW hM rfl) rfl rfl hl.1 rfl (lv_room (Nat.le_of_ble_eq_true rfl)) dP_passH_12 ⟨Nat.le_of_ble_eq_true rfl, Nat.le_of_ble_eq_true rfl⟩) hW (fun r_4 M_5 H locs hp_6 hW => ?_)
  have hW : fm_W D fs_cl5 A M s.heap H locs := by rw [← hp_6.2]; exact hW
  have er_4 := hp_6.1
  refine lv_iand hx hb dP_passH_15 ?_
  refine lv_ixor hx hb dP_passH_16 ?_
  refine lv_topi (fun x_7 ex_7 => ?_)
  refine fm_put (ci := 0) (v := .int x_7) (ty := .int) (C := RP) (T := TP) (N := 4) hx hb hT inP tyP tkP nmP hown hK hW hM rfl 2 (by decide) (hT _ fl_P_18) (fun _ h9 => h9) rfl (by decide +kernel) rfl rfl (Nat.le_of_ble_eq_true rfl) dP_passH_17 (fun H locs hW => ?_)
  obtain ⟨M_8, eM_8⟩ : ∃ z : fm_M, z = va_up M h0 (some (.inr (0, [.int q.1, .int q.2.1, .int x_7, .long q.2.2.2]))) := ⟨_, rfl⟩
  have hW : fm_W D fs_cl5 A M_8 s.heap H locs := by rw [eM_8]; exact hW
  have f_9 : M_8 h0 = some (.inr (0, [.int q.1, .int q.2.1, .int x_7, .long q.2.2.2])) := by rw [eM_8]; exact fm_us
  refine lv_aload_n hx hb dP_passH_20 rfl (lv_at hl 0 rfl) ?_
  refine lv_iload_n hx hb dP_passH_21 rfl (lv_at hl 1 rfl) ?_
  refine fm_calli (va_runV (As := [.int a]) (rest := []) ⟨hx, hb, hml, hown, hts⟩ (c_P_xOn l D ct A M_8 h0 (q.1, q.2.1, x_7, q.2.2.2) a f_9) ⟨callB_of 1 hts (fs_gin co_P_xOn) rfl rfl rfl (hT _ ini_P) (hT _ ml_P_44) (by decide +kernel) ⟨Nat.le_of_ble_eq_true rfl, Nat.le_of_ble_eq_true rfl⟩, hT _ im_P_xOn, hT _ se_P_xOn⟩ (fn_preV fs_isnw hK hN hW f_9 rfl) rfl rfl hl.1 rfl (lv_room (Nat.le_of_ble_eq_true rfl)) dP_passH_22 ⟨Nat.le_of_ble_eq_true rfl, Nat.le_of_ble_eq_true rfl⟩) hW (fun r_10 M_11 H locs hp_12 hW => ?_)
  have hW : fm_W D fs_cl5 A M_8 s.heap H locs := by rw [← hp_12.2]; exact hW
  have er_10 := hp_12.1
  refine lv_aload_n hx hb dP_passH_25 rfl (lv_at hl 0 rfl) ?_
  refine lv_iload_n hx hb dP_passH_26 rfl (lv_at hl 1 rfl) ?_
  refine fm_calli (va_runV (As := [.int a]) (rest := [.int r_10]) ⟨hx, hb, hml, hown, hts⟩ (c_P_zOn l D ct A M_8 h0 (q.1, q.2.1, x_7, q.2.2.2) a f_9) ⟨callB_of 1 hts (fs_gin co_P_zOn) rfl rfl rfl (hT _ ini_P) (hT _ ml_P_40) (by decide +kernel) ⟨Nat.le_of_ble_eq_true rfl, Nat.le_of_ble_eq_true rfl⟩, hT _ im_P_zOn, hT _ se_P_zOn⟩ (fn_preV fs_isnw hK hN hW f_9 rfl) rfl rfl hl.1 rfl (lv_room (Nat.le_of_ble_eq_true rfl)) dP_passH_27 ⟨Nat.le_of_ble_eq_true rfl, Nat.le_of_ble_eq_true rfl⟩) hW (fun r_13 M_14 H locs hp_15 hW => ?_)
  have hW : fm_W D fs_cl5 A M_8 s.heap H locs := by rw [← hp_15.2]; exact hW
  have er_13 := hp_15.1
  refine lv_ixor hx hb dP_passH_30 ?_
  refine lv_iload_n hx hb dP_passH_31 rfl (lv_at hl 1 rfl) ?_
  refine lv_ishl hx hb dP_passH_32 ?_
  refine lv_topi (fun x_16 ex_16 => ?_)
  refine lv_istore_n (lv' := [(2, .int x_16), (0, .ref h0), (1, .int a)]) hx hb dP_passH_33 rfl hl (by decide) rfl (fun ls hl => ?_)
  refine lv_aload_n hx hb dP_passH_34 rfl (lv_at hl 1 rfl) ?_
  refine lv_dup hx hb dP_passH_35 rfl ?_
  refine fm_get (ci := 0) (v := .int q.1) (C := RP) (T := TP) (N := 4) hx hb hT inP hown hK hW f_9 rfl 0 (by decide) (hT _ fl_P_9) (fun _ h9 => h9) rfl dP_passH_36 ?_
  refine lv_iload_n hx hb dP_passH_39 rfl (lv_at hl 0 rfl) ?_
  refine lv_ixor hx hb dP_passH_40 ?_
  refine lv_topi (fun x_17 ex_17 => ?_)
  refine fm_put (ci := 0) (v := .int x_17) (ty := .int) (C := RP) (T := TP) (N := 4) hx hb hT inP tyP tkP nmP hown hK hW f_9 rfl 0 (by decide) (hT _ fl_P_9) (fun _ h9 => h9) rfl (by decide +kernel) rfl rfl (Nat.le_of_ble_eq_true rfl) dP_passH_41 (fun H locs hW => ?_)
  obtain ⟨M_18, eM_18⟩ : ∃ z : fm_M, z = va_up M_8 h0 (some (.inr (0, [.int x_17, .int q.2.1, .int x_7, .long q.2.2.2]))) := ⟨_, rfl⟩
  have hW : fm_W D fs_cl5 A M_18 s.heap H locs := by rw [eM_18]; exact hW
  have f_19 : M_18 h0 = some (.inr (0, [.int x_17, .int q.2.1, .int x_7, .long q.2.2.2])) := by rw [eM_18]; exact fm_us
  refine lv_aload_n hx hb dP_passH_44 rfl (lv_at hl 1 rfl) ?_
  refine lv_dup hx hb dP_passH_45 rfl ?_
  refine fm_get (ci := 0) (v := .int q.2.1) (C := RP) (T := TP) (N := 4) hx hb hT inP hown hK hW f_19 rfl 1 (by decide) (hT _ fl_P_15) (fun _ h9 => h9) rfl dP_passH_46 ?_
  refine lv_iload_n hx hb dP_passH_49 rfl (lv_at hl 0 rfl) ?_
  refine lv_ixor hx hb dP_passH_50 ?_
  refine lv_topi (fun x_20 ex_20 => ?_)
  refine fm_put (ci := 0) (v := .int x_20) (ty := .int) (C := RP) (T := TP) (N := 4) hx hb hT inP tyP tkP nmP hown hK hW f_19 rfl 1 (by decide) (hT _ fl_P_15) (fun _ h9 => h9) rfl (by decide +kernel) rfl rfl (Nat.le_of_ble_eq_true rfl) dP_passH_51 (fun H locs hW => ?_)
  obtain ⟨M_21, eM_21⟩ : ∃ z : fm_M, z = va_up M_18 h0 (some (.inr (0, [.int x_17, .int x_20, .int x_7, .long q.2.2.2]))) := ⟨_, rfl⟩
  have hW : fm_W D fs_cl5 A M_21 s.heap H locs := by rw [eM_21]; exact hW
  have f_22 : M_21 h0 = some (.inr (0, [.int x_17, .int x_20, .int x_7, .long q.2.2.2])) := by rw [eM_21]; exact fm_us
  exact fm_vret hx hb hr hlocks hW (by rw [eM_21, eM_18, eM_8, fm_uu, fm_uu]; subst ex_20; subst ex_17; subst ex_16; subst er_13; subst er_10; subst ex_7; subst er_4; subst er_1; rfl) dP_passH_54
set_option maxHeartbeats 4000000 in
set_option maxRecDepth 100000 in
theorem c_P_passS (l : Launch) (D : va_G) (ct : Nat → ClassId) (A : Nat → Prop) (M : fm_M) (h0 : Nat) (q : fs_Q) (a : Int32)(hM : M h0 = some (fs_PE q)) : Met l yP_passS wP_passS ({ frames := 1, cells := 0, slots := 0, locals := 21 }) (va_Pc [.ref h0, .int a] (fm_St D fs_cl5 (fs_tys ct) fs_nw A M)) (va_Qv (fun (M1 : fm_M) => M1 = va_up M h0 (some (fs_PE (fs_pS q a)))) (fm_B D fs_cl5 A) A) 0 0 A := by
  refine Met.ofW (cc := cP_passS) (maxL := 2) (ret := none) (by decide) rfl ?_
  intro p e s m args below meth c s₁ B hml hv
  obtain ⟨rfl, hP0, hA0, hA1, hK, hN⟩ := hv
  have hx := B.exec
  have hb := B.bytes
  have hr := B.returns
  have hts := atoms_spec (ws := wP_passS) B.pre
  have hT : ∀ w ∈ fs_tb, w.before _ s = true := fun w h => hts w (List.mem_cons_of_mem _ h)
  have hown : s.vm.findClass "FrameSamples$Pauli" = some m.cls := findClass_of_methodNamed B.named
  have hlocks := B.notSynchronized
  have hW : fm_W D fs_cl5 A M s.heap s.heap [] := ⟨hP0, hA0, va_S.rf, hA1⟩
  have hl := lv_entry ([.ref h0, .int a]) (n := 2) (Nat.le_of_ble_eq_true rfl)
  rw [lg_entry_eq]
  generalize (lg_sl ([.ref h0, .int a]) ++ List.replicate (2 - (lg_sl ([.ref h0, .int a])).length) Slot.unset).toArray = ls at hl ⊢
  have hl : lv_has ls 2 [(0, .ref h0), (1, .int a)] := hl
  refine lv_aload_n hx hb dP_passS_0 rfl (lv_at hl 0 rfl) ?_
  refine lv_dup hx hb dP_passS_1 rfl ?_
  refine fm_get (ci := 0) (v := .int q.2.2.1) (C := RP) (T := TP) (N := 4) hx hb hT inP hown hK hW hM rfl 2 (by decide) (hT _ fl_P_18) (fun _ h9 => h9) rfl dP_passS_2 ?_
  refine lv_aload_n hx hb dP_passS_5 rfl (lv_at hl 0 rfl) ?_
  refine lv_iload_n hx hb dP_passS_6 rfl (lv_at hl 1 rfl) ?_
  refine fm_calli (va_runV (As := [.int a]) (rest := [.int q.2.2.1, .ref h0]) ⟨hx, hb, hml, hown, hts⟩ (c_P_xOn l D ct A M h0 (q.1, q.2.1, q.2.2.1, q.2.2.2) a hM) ⟨callB_of 1 hts (fs_gin co_P_xOn) rfl rfl rfl (hT _ ini_P) (hT _ ml_P_44) (by decide +kernel) ⟨Nat.le_of_ble_eq_true rfl, Nat.le_of_ble_eq_true rfl⟩, hT _ im_P_xOn, hT _ se_P_xOn⟩ (fn_preV fs_isnw hK hN hW hM rfl) rfl rfl hl.1 rfl (lv_room (Nat.le_of_ble_eq_true rfl)) dP_passS_7 ⟨Nat.le_of_ble_eq_true rfl, Nat.le_of_ble_eq_true rfl⟩) hW (fun r_1 M_2 H locs hp_3 hW => ?_)
  have hW : fm_W D fs_cl5 A M s.heap H locs := by rw [← hp_3.2]; exact hW
  have er_1 := hp_3.1
  refine lv_aload_n hx hb dP_passS_10 rfl (lv_at hl 0 rfl) ?_
  refine lv_iload_n hx hb dP_passS_11 rfl (lv_at hl 1 rfl) ?_
  refine fm_calli (va_runV (As := [.int a]) (rest := [.int r_1, .int q.2.2.1, .ref h0]) ⟨hx, hb, hml, hown, hts⟩ (c_P_zOn l D ct A M h0 (q.1, q.2.1, q.2.2.1, q.2.2.2) a hM) ⟨callB_of 1 hts (fs_gin co_P_zOn) rfl rfl rfl (hT _ ini_P) (hT _ ml_P_40) (by decide +kernel) ⟨Nat.le_of_ble_eq_true rfl, Nat.le_of_ble_eq_true rfl⟩, hT _ im_P_zOn, hT _ se_P_zOn⟩ (fn_preV fs_isnw hK hN hW hM rfl) rfl rfl hl.1 rfl (lv_room (Nat.le_of_ble_eq_true rfl)) dP_passS_12 ⟨Nat.le_of_ble_eq_true rfl, Nat.le_of_ble_eq_true rfl⟩) hW (fun r_4 M_5 H locs hp_6 hW => ?_)
  have hW : fm_W D fs_cl5 A M s.heap H locs := by rw [← hp_6.2]; exact hW
  have er_4 := hp_6.1
  refine lv_iand hx hb dP_passS_15 ?_
  refine lv_ixor hx hb dP_passS_16 ?_
  refine lv_topi (fun x_7 ex_7 => ?_)
  refine fm_put (ci := 0) (v := .int x_7) (ty := .int) (C := RP) (T := TP) (N := 4) hx hb hT inP tyP tkP nmP hown hK hW hM rfl 2 (by decide) (hT _ fl_P_18) (fun _ h9 => h9) rfl (by decide +kernel) rfl rfl (Nat.le_of_ble_eq_true rfl) dP_passS_17 (fun H locs hW => ?_)
  obtain ⟨M_8, eM_8⟩ : ∃ z : fm_M, z = va_up M h0 (some (.inr (0, [.int q.1, .int q.2.1, .int x_7, .long q.2.2.2]))) := ⟨_, rfl⟩
  have hW : fm_W D fs_cl5 A M_8 s.heap H locs := by rw [eM_8]; exact hW
  have f_9 : M_8 h0 = some (.inr (0, [.int q.1, .int q.2.1, .int x_7, .long q.2.2.2])) := by rw [eM_8]; exact fm_us
  refine lv_aload_n hx hb dP_passS_20 rfl (lv_at hl 0 rfl) ?_
  refine lv_dup hx hb dP_passS_21 rfl ?_
  refine fm_get (ci := 0) (v := .int q.2.1) (C := RP) (T := TP) (N := 4) hx hb hT inP hown hK hW f_9 rfl 1 (by decide) (hT _ fl_P_15) (fun _ h9 => h9) rfl dP_passS_22 ?_
  refine lv_aload_n hx hb dP_passS_25 rfl (lv_at hl 0 rfl) ?_
  refine lv_iload_n hx hb dP_passS_26 rfl (lv_at hl 1 rfl) ?_
  refine fm_calli (va_runV (As := [.int a]) (rest := [.int q.2.1, .ref h0]) ⟨hx, hb, hml, hown, hts⟩ (c_P_xOn l D ct A M_8 h0 (q.1, q.2.1, x_7, q.2.2.2) a f_9) ⟨callB_of 1 hts (fs_gin co_P_xOn) rfl rfl rfl (hT _ ini_P) (hT _ ml_P_44) (by decide +kernel) ⟨Nat.le_of_ble_eq_true rfl, Nat.le_of_ble_eq_true rfl⟩, hT _ im_P_xOn, hT _ se_P_xOn⟩ (fn_preV fs_isnw hK hN hW f_9 rfl) rfl rfl hl.1 rfl (lv_room (Nat.le_of_ble_eq_true rfl)) dP_passS_27 ⟨Nat.le_of_ble_eq_true rfl, Nat.le_of_ble_eq_true rfl⟩) hW (fun r_10 M_11 H locs hp_12 hW => ?_)
  have hW : fm_W D fs_cl5 A M_8 s.heap H locs := by rw [← hp_12.2]; exact hW
  have er_10 := hp_12.1
  refine lv_iload_n hx hb dP_passS_30 rfl (lv_at hl 1 rfl) ?_
  refine lv_ishl hx hb dP_passS_31 ?_
  refine lv_ixor hx hb dP_passS_32 ?_
  refine lv_topi (fun x_13 ex_13 => ?_)
  refine fm_put (ci := 0) (v := .int x_13) (ty := .int) (C := RP) (T := TP) (N := 4) hx hb hT inP tyP tkP nmP hown hK hW f_9 rfl 1 (by decide) (hT _ fl_P_15) (fun _ h9 => h9) rfl (by decide +kernel) rfl rfl (Nat.le_of_ble_eq_true rfl) dP_passS_33 (fun H locs hW => ?_)
  obtain ⟨M_14, eM_14⟩ : ∃ z : fm_M, z = va_up M_8 h0 (some (.inr (0, [.int q.1, .int x_13, .int x_7, .long q.2.2.2]))) := ⟨_, rfl⟩
  have hW : fm_W D fs_cl5 A M_14 s.heap H locs := by rw [eM_14]; exact hW
  have f_15 : M_14 h0 = some (.inr (0, [.int q.1, .int x_13, .int x_7, .long q.2.2.2])) := by rw [eM_14]; exact fm_us
  exact fm_vret hx hb hr hlocks hW (by rw [eM_14, eM_8, fm_uu]; subst ex_13; subst er_10; subst ex_7; subst er_4; subst er_1; rfl) dP_passS_36
set_option maxHeartbeats 4000000 in
set_option maxRecDepth 100000 in
theorem c_P_passControlledX (l : Launch) (D : va_G) (ct : Nat → ClassId) (A : Nat → Prop) (M : fm_M) (h0 : Nat) (q : fs_Q) (a : Int32) (b : Int32)(hM : M h0 = some (fs_PE q)) : Met l yP_passControlledX wP_passControlledX ({ frames := 1, cells := 0, slots := 0, locals := 21 }) (va_Pc [.ref h0, .int a, .int b] (fm_St D fs_cl5 (fs_tys ct) fs_nw A M)) (va_Qv (fun (M1 : fm_M) => M1 = va_up M h0 (some (fs_PE (fs_pC q a b)))) (fm_B D fs_cl5 A) A) 0 0 A := by
  refine Met.ofW (cc := cP_passControlledX) (maxL := 3) (ret := none) (by decide) rfl ?_
  intro p e s m args below meth c s₁ B hml hv
  obtain ⟨rfl, hP0, hA0, hA1, hK, hN⟩ := hv
  have hx := B.exec
  have hb := B.bytes
  have hr := B.returns
  have hts := atoms_spec (ws := wP_passControlledX) B.pre
  have hT : ∀ w ∈ fs_tb, w.before _ s = true := fun w h => hts w (List.mem_cons_of_mem _ h)
  have hown : s.vm.findClass "FrameSamples$Pauli" = some m.cls := findClass_of_methodNamed B.named
  have hlocks := B.notSynchronized
  have hW : fm_W D fs_cl5 A M s.heap s.heap [] := ⟨hP0, hA0, va_S.rf, hA1⟩
  have hl := lv_entry ([.ref h0, .int a, .int b]) (n := 3) (Nat.le_of_ble_eq_true rfl)
  rw [lg_entry_eq]
  generalize (lg_sl ([.ref h0, .int a, .int b]) ++ List.replicate (3 - (lg_sl ([.ref h0, .int a, .int b])).length) Slot.unset).toArray = ls at hl ⊢
  have hl : lv_has ls 3 [(0, .ref h0), (1, .int a), (2, .int b)] := hl
  refine lv_aload_n hx hb dP_passControlledX_0 rfl (lv_at hl 0 rfl) ?_
  refine lv_dup hx hb dP_passControlledX_1 rfl ?_
  refine fm_get (ci := 0) (v := .int q.2.2.1) (C := RP) (T := TP) (N := 4) hx hb hT inP hown hK hW hM rfl 2 (by decide) (hT _ fl_P_18) (fun _ h9 => h9) rfl dP_passControlledX_2 ?_
  refine lv_aload_n hx hb dP_passControlledX_5 rfl (lv_at hl 0 rfl) ?_
  refine lv_iload_n hx hb dP_passControlledX_6 rfl (lv_at hl 1 rfl) ?_
  refine fm_calli (va_runV (As := [.int a]) (rest := [.int q.2.2.1, .ref h0]) ⟨hx, hb, hml, hown, hts⟩ (c_P_xOn l D ct A M h0 (q.1, q.2.1, q.2.2.1, q.2.2.2) a hM) ⟨callB_of 1 hts (fs_gin co_P_xOn) rfl rfl rfl (hT _ ini_P) (hT _ ml_P_44) (by decide +kernel) ⟨Nat.le_of_ble_eq_true rfl, Nat.le_of_ble_eq_true rfl⟩, hT _ im_P_xOn, hT _ se_P_xOn⟩ (fn_preV fs_isnw hK hN hW hM rfl) rfl rfl hl.1 rfl (lv_room (Nat.le_of_ble_eq_true rfl)) dP_passControlledX_7 ⟨Nat.le_of_ble_eq_true rfl, Nat.le_of_ble_eq_true rfl⟩) hW (fun r_1 M_2 H locs hp_3 hW => ?_)
  have hW : fm_W D fs_cl5 A M s.heap H locs := by rw [← hp_3.2]; exact hW
  have er_1 := hp_3.1
  refine lv_aload_n hx hb dP_passControlledX_10 rfl (lv_at hl 0 rfl) ?_
  refine lv_iload_n hx hb dP_passControlledX_11 rfl (lv_at hl 2 rfl) ?_
  refine fm_calli (va_runV (As := [.int b]) (rest := [.int r_1, .int q.2.2.1, .ref h0]) ⟨hx, hb, hml, hown, hts⟩ (c_P_zOn l D ct A M h0 (q.1, q.2.1, q.2.2.1, q.2.2.2) b hM) ⟨callB_of 1 hts (fs_gin co_P_zOn) rfl rfl rfl (hT _ ini_P) (hT _ ml_P_40) (by decide +kernel) ⟨Nat.le_of_ble_eq_true rfl, Nat.le_of_ble_eq_true rfl⟩, hT _ im_P_zOn, hT _ se_P_zOn⟩ (fn_preV fs_isnw hK hN hW hM rfl) rfl rfl hl.1 rfl (lv_room (Nat.le_of_ble_eq_true rfl)) dP_passControlledX_12 ⟨Nat.le_of_ble_eq_true rfl, Nat.le_of_ble_eq_true rfl⟩) hW (fun r_4 M_5 H locs hp_6 hW => ?_)
  have hW : fm_W D fs_cl5 A M s.heap H locs := by rw [← hp_6.2]; exact hW
  have er_4 := hp_6.1
  refine lv_iand hx hb dP_passControlledX_15 ?_
  refine lv_aload_n hx hb dP_passControlledX_16 rfl (lv_at hl 0 rfl) ?_
  refine lv_iload_n hx hb dP_passControlledX_17 rfl (lv_at hl 2 rfl) ?_
  refine fm_calli (va_runV (As := [.int b]) (rest := [.int (r_1 &&& r_4), .int q.2.2.1, .ref h0]) ⟨hx, hb, hml, hown, hts⟩ (c_P_xOn l D ct A M h0 (q.1, q.2.1, q.2.2.1, q.2.2.2) b hM) ⟨callB_of 1 hts (fs_gin co_P_xOn) rfl rfl rfl (hT _ ini_P) (hT _ ml_P_44) (by decide +kernel) ⟨Nat.le_of_ble_eq_true rfl, Nat.le_of_ble_eq_true rfl⟩, hT _ im_P_xOn, hT _ se_P_xOn⟩ (fn_preV fs_isnw hK hN hW hM rfl) rfl rfl hl.1 rfl (lv_room (Nat.le_of_ble_eq_true rfl)) dP_passControlledX_18 ⟨Nat.le_of_ble_eq_true rfl, Nat.le_of_ble_eq_true rfl⟩) hW (fun r_7 M_8 H locs hp_9 hW => ?_)
  have hW : fm_W D fs_cl5 A M s.heap H locs := by rw [← hp_9.2]; exact hW
  have er_7 := hp_9.1
  refine lv_aload_n hx hb dP_passControlledX_21 rfl (lv_at hl 0 rfl) ?_
  refine lv_iload_n hx hb dP_passControlledX_22 rfl (lv_at hl 1 rfl) ?_
  refine fm_calli (va_runV (As := [.int a]) (rest := [.int r_7, .int (r_1 &&& r_4), .int q.2.2.1, .ref h0]) ⟨hx, hb, hml, hown, hts⟩ (c_P_zOn l D ct A M h0 (q.1, q.2.1, q.2.2.1, q.2.2.2) a hM) ⟨callB_of 1 hts (fs_gin co_P_zOn) rfl rfl rfl (hT _ ini_P) (hT _ ml_P_40) (by decide +kernel) ⟨Nat.le_of_ble_eq_true rfl, Nat.le_of_ble_eq_true rfl⟩, hT _ im_P_zOn, hT _ se_P_zOn⟩ (fn_preV fs_isnw hK hN hW hM rfl) rfl rfl hl.1 rfl (lv_room (Nat.le_of_ble_eq_true rfl)) dP_passControlledX_23 ⟨Nat.le_of_ble_eq_true rfl, Nat.le_of_ble_eq_true rfl⟩) hW (fun r_10 M_11 H locs hp_12 hW => ?_)
  have hW : fm_W D fs_cl5 A M s.heap H locs := by rw [← hp_12.2]; exact hW
  have er_10 := hp_12.1
  refine lv_ixor hx hb dP_passControlledX_26 ?_
  refine lv_iconst (v := 1) hx hb dP_passControlledX_27 (by decide) ?_
  refine lv_ixor hx hb dP_passControlledX_28 ?_
  refine lv_iand hx hb dP_passControlledX_29 ?_
  refine lv_ixor hx hb dP_passControlledX_30 ?_
  refine lv_topi (fun x_13 ex_13 => ?_)
  refine fm_put (ci := 0) (v := .int x_13) (ty := .int) (C := RP) (T := TP) (N := 4) hx hb hT inP tyP tkP nmP hown hK hW hM rfl 2 (by decide) (hT _ fl_P_18) (fun _ h9 => h9) rfl (by decide +kernel) rfl rfl (Nat.le_of_ble_eq_true rfl) dP_passControlledX_31 (fun H locs hW => ?_)
  obtain ⟨M_14, eM_14⟩ : ∃ z : fm_M, z = va_up M h0 (some (.inr (0, [.int q.1, .int q.2.1, .int x_13, .long q.2.2.2]))) := ⟨_, rfl⟩
  have hW : fm_W D fs_cl5 A M_14 s.heap H locs := by rw [eM_14]; exact hW
  have f_15 : M_14 h0 = some (.inr (0, [.int q.1, .int q.2.1, .int x_13, .long q.2.2.2])) := by rw [eM_14]; exact fm_us
  refine lv_aload_n hx hb dP_passControlledX_34 rfl (lv_at hl 0 rfl) ?_
  refine lv_dup hx hb dP_passControlledX_35 rfl ?_
  refine fm_get (ci := 0) (v := .int q.1) (C := RP) (T := TP) (N := 4) hx hb hT inP hown hK hW f_15 rfl 0 (by decide) (hT _ fl_P_9) (fun _ h9 => h9) rfl dP_passControlledX_36 ?_
  refine lv_aload_n hx hb dP_passControlledX_39 rfl (lv_at hl 0 rfl) ?_
  refine lv_iload_n hx hb dP_passControlledX_40 rfl (lv_at hl 1 rfl) ?_
  refine fm_calli (va_runV (As := [.int a]) (rest := [.int q.1, .ref h0]) ⟨hx, hb, hml, hown, hts⟩ (c_P_xOn l D ct A M_14 h0 (q.1, q.2.1, x_13, q.2.2.2) a f_15) ⟨callB_of 1 hts (fs_gin co_P_xOn) rfl rfl rfl (hT _ ini_P) (hT _ ml_P_44) (by decide +kernel) ⟨Nat.le_of_ble_eq_true rfl, Nat.le_of_ble_eq_true rfl⟩, hT _ im_P_xOn, hT _ se_P_xOn⟩ (fn_preV fs_isnw hK hN hW f_15 rfl) rfl rfl hl.1 rfl (lv_room (Nat.le_of_ble_eq_true rfl)) dP_passControlledX_41 ⟨Nat.le_of_ble_eq_true rfl, Nat.le_of_ble_eq_true rfl⟩) hW (fun r_16 M_17 H locs hp_18 hW => ?_)
  have hW : fm_W D fs_cl5 A M_14 s.heap H locs := by rw [← hp_18.2]; exact hW
  have er_16 := hp_18.1
  refine lv_iload_n hx hb dP_passControlledX_44 rfl (lv_at hl 2 rfl) ?_
  refine lv_ishl hx hb dP_passControlledX_45 ?_
  refine lv_ixor hx hb dP_passControlledX_46 ?_
  refine lv_topi (fun x_19 ex_19 => ?_)
  refine fm_put (ci := 0) (v := .int x_19) (ty := .int) (C := RP) (T := TP) (N := 4) hx hb hT inP tyP tkP nmP hown hK hW f_15 rfl 0 (by decide) (hT _ fl_P_9) (fun _ h9 => h9) rfl (by decide +kernel) rfl rfl (Nat.le_of_ble_eq_true rfl) dP_passControlledX_47 (fun H locs hW => ?_)
  obtain ⟨M_20, eM_20⟩ : ∃ z : fm_M, z = va_up M_14 h0 (some (.inr (0, [.int x_19, .int q.2.1, .int x_13, .long q.2.2.2]))) := ⟨_, rfl⟩
  have hW : fm_W D fs_cl5 A M_20 s.heap H locs := by rw [eM_20]; exact hW
  have f_21 : M_20 h0 = some (.inr (0, [.int x_19, .int q.2.1, .int x_13, .long q.2.2.2])) := by rw [eM_20]; exact fm_us
  refine lv_aload_n hx hb dP_passControlledX_50 rfl (lv_at hl 0 rfl) ?_
  refine lv_dup hx hb dP_passControlledX_51 rfl ?_
  refine fm_get (ci := 0) (v := .int q.2.1) (C := RP) (T := TP) (N := 4) hx hb hT inP hown hK hW f_21 rfl 1 (by decide) (hT _ fl_P_15) (fun _ h9 => h9) rfl dP_passControlledX_52 ?_
  refine lv_aload_n hx hb dP_passControlledX_55 rfl (lv_at hl 0 rfl) ?_
  refine lv_iload_n hx hb dP_passControlledX_56 rfl (lv_at hl 2 rfl) ?_
  refine fm_calli (va_runV (As := [.int b]) (rest := [.int q.2.1, .ref h0]) ⟨hx, hb, hml, hown, hts⟩ (c_P_zOn l D ct A M_20 h0 (x_19, q.2.1, x_13, q.2.2.2) b f_21) ⟨callB_of 1 hts (fs_gin co_P_zOn) rfl rfl rfl (hT _ ini_P) (hT _ ml_P_40) (by decide +kernel) ⟨Nat.le_of_ble_eq_true rfl, Nat.le_of_ble_eq_true rfl⟩, hT _ im_P_zOn, hT _ se_P_zOn⟩ (fn_preV fs_isnw hK hN hW f_21 rfl) rfl rfl hl.1 rfl (lv_room (Nat.le_of_ble_eq_true rfl)) dP_passControlledX_57 ⟨Nat.le_of_ble_eq_true rfl, Nat.le_of_ble_eq_true rfl⟩) hW (fun r_22 M_23 H locs hp_24 hW => ?_)
  have hW : fm_W D fs_cl5 A M_20 s.heap H locs := by rw [← hp_24.2]; exact hW
  have er_22 := hp_24.1
  refine lv_iload_n hx hb dP_passControlledX_60 rfl (lv_at hl 1 rfl) ?_
  refine lv_ishl hx hb dP_passControlledX_61 ?_
  refine lv_ixor hx hb dP_passControlledX_62 ?_
  refine lv_topi (fun x_25 ex_25 => ?_)
  refine fm_put (ci := 0) (v := .int x_25) (ty := .int) (C := RP) (T := TP) (N := 4) hx hb hT inP tyP tkP nmP hown hK hW f_21 rfl 1 (by decide) (hT _ fl_P_15) (fun _ h9 => h9) rfl (by decide +kernel) rfl rfl (Nat.le_of_ble_eq_true rfl) dP_passControlledX_63 (fun H locs hW => ?_)
  obtain ⟨M_26, eM_26⟩ : ∃ z : fm_M, z = va_up M_20 h0 (some (.inr (0, [.int x_19, .int x_25, .int x_13, .long q.2.2.2]))) := ⟨_, rfl⟩
  have hW : fm_W D fs_cl5 A M_26 s.heap H locs := by rw [eM_26]; exact hW
  have f_27 : M_26 h0 = some (.inr (0, [.int x_19, .int x_25, .int x_13, .long q.2.2.2])) := by rw [eM_26]; exact fm_us
  exact fm_vret hx hb hr hlocks hW (by rw [eM_26, eM_20, eM_14, fm_uu, fm_uu]; subst ex_25; subst er_22; subst ex_19; subst er_16; subst ex_13; subst er_10; subst er_7; subst er_4; subst er_1; rfl) dP_passControlledX_66
set_option maxHeartbeats 4000000 in
set_option maxRecDepth 100000 in
theorem c_P_become (l : Launch) (D : va_G) (ct : Nat → ClassId) (A : Nat → Prop) (M : fm_M) (h0 : Nat) (q : fs_Q) (nx nz : Int32)(hM : M h0 = some (fs_PE q)) : Met l yP_become wP_become ({ frames := 0, cells := 0, slots := 0, locals := 0 }) (va_Pc [.ref h0, .int nx, .int nz] (fm_St D fs_cl5 (fs_tys ct) fs_nw A M)) (va_Qv (fun (M1 : fm_M) => M1 = va_up M h0 (some (fs_PE (nx, nz, 0, 0)))) (fm_B D fs_cl5 A) A) 0 0 A := by
  refine Met.ofW (cc := cP_become) (maxL := 3) (ret := none) (by decide) rfl ?_
  intro p e s m args below meth c s₁ B hml hv
  obtain ⟨rfl, hP0, hA0, hA1, hK, hN⟩ := hv
  have hx := B.exec
  have hb := B.bytes
  have hr := B.returns
  have hts := atoms_spec (ws := wP_become) B.pre
  have hT : ∀ w ∈ fs_tb, w.before _ s = true := fun w h => hts w (List.mem_cons_of_mem _ h)
  have hown : s.vm.findClass "FrameSamples$Pauli" = some m.cls := findClass_of_methodNamed B.named
  have hlocks := B.notSynchronized
  have hW : fm_W D fs_cl5 A M s.heap s.heap [] := ⟨hP0, hA0, va_S.rf, hA1⟩
  have hl := lv_entry ([.ref h0, .int nx, .int nz]) (n := 3) (Nat.le_of_ble_eq_true rfl)
  rw [lg_entry_eq]
  generalize (lg_sl ([.ref h0, .int nx, .int nz]) ++ List.replicate (3 - (lg_sl ([.ref h0, .int nx, .int nz])).length) Slot.unset).toArray = ls at hl ⊢
  have hl : lv_has ls 3 [(0, .ref h0), (1, .int nx), (2, .int nz)] := hl
  refine lv_aload_n hx hb dP_become_0 rfl (lv_at hl 0 rfl) ?_
  refine lv_iload_n hx hb dP_become_1 rfl (lv_at hl 1 rfl) ?_
  refine fm_put (ci := 0) (v := .int nx) (ty := .int) (C := RP) (T := TP) (N := 4) hx hb hT inP tyP tkP nmP hown hK hW hM rfl 0 (by decide) (hT _ fl_P_9) (fun _ h9 => h9) rfl (by decide +kernel) rfl rfl (Nat.le_of_ble_eq_true rfl) dP_become_2 (fun H locs hW => ?_)
  obtain ⟨M_1, eM_1⟩ : ∃ z : fm_M, z = va_up M h0 (some (.inr (0, [.int nx, .int q.2.1, .int q.2.2.1, .long q.2.2.2]))) := ⟨_, rfl⟩
  have hW : fm_W D fs_cl5 A M_1 s.heap H locs := by rw [eM_1]; exact hW
  have f_2 : M_1 h0 = some (.inr (0, [.int nx, .int q.2.1, .int q.2.2.1, .long q.2.2.2])) := by rw [eM_1]; exact fm_us
  refine lv_aload_n hx hb dP_become_5 rfl (lv_at hl 0 rfl) ?_
  refine lv_iload_n hx hb dP_become_6 rfl (lv_at hl 2 rfl) ?_
  refine fm_put (ci := 0) (v := .int nz) (ty := .int) (C := RP) (T := TP) (N := 4) hx hb hT inP tyP tkP nmP hown hK hW f_2 rfl 1 (by decide) (hT _ fl_P_15) (fun _ h9 => h9) rfl (by decide +kernel) rfl rfl (Nat.le_of_ble_eq_true rfl) dP_become_7 (fun H locs hW => ?_)
  obtain ⟨M_3, eM_3⟩ : ∃ z : fm_M, z = va_up M_1 h0 (some (.inr (0, [.int nx, .int nz, .int q.2.2.1, .long q.2.2.2]))) := ⟨_, rfl⟩
  have hW : fm_W D fs_cl5 A M_3 s.heap H locs := by rw [eM_3]; exact hW
  have f_4 : M_3 h0 = some (.inr (0, [.int nx, .int nz, .int q.2.2.1, .long q.2.2.2])) := by rw [eM_3]; exact fm_us
  refine lv_aload_n hx hb dP_become_10 rfl (lv_at hl 0 rfl) ?_
  refine lv_iconst (v := 0) hx hb dP_become_11 (by decide) ?_
  refine fm_put (ci := 0) (v := .int 0) (ty := .int) (C := RP) (T := TP) (N := 4) hx hb hT inP tyP tkP nmP hown hK hW f_4 rfl 2 (by decide) (hT _ fl_P_18) (fun _ h9 => h9) rfl (by decide +kernel) rfl rfl (Nat.le_of_ble_eq_true rfl) dP_become_12 (fun H locs hW => ?_)
  obtain ⟨M_5, eM_5⟩ : ∃ z : fm_M, z = va_up M_3 h0 (some (.inr (0, [.int nx, .int nz, .int 0, .long q.2.2.2]))) := ⟨_, rfl⟩
  have hW : fm_W D fs_cl5 A M_5 s.heap H locs := by rw [eM_5]; exact hW
  have f_6 : M_5 h0 = some (.inr (0, [.int nx, .int nz, .int 0, .long q.2.2.2])) := by rw [eM_5]; exact fm_us
  refine lv_aload_n hx hb dP_become_15 rfl (lv_at hl 0 rfl) ?_
  refine lv_lconst (v := 0) hx hb dP_become_16 (by decide) ?_
  refine fm_put (ci := 0) (v := .long 0) (ty := .long) (C := RP) (T := TP) (N := 4) hx hb hT inP tyP tkP nmP hown hK hW f_6 rfl 3 (by decide) (hT _ fl_P_21) (fun _ h9 => h9) rfl (by decide +kernel) rfl rfl (Nat.le_of_ble_eq_true rfl) dP_become_17 (fun H locs hW => ?_)
  obtain ⟨M_7, eM_7⟩ : ∃ z : fm_M, z = va_up M_5 h0 (some (.inr (0, [.int nx, .int nz, .int 0, .long 0]))) := ⟨_, rfl⟩
  have hW : fm_W D fs_cl5 A M_7 s.heap H locs := by rw [eM_7]; exact hW
  have f_8 : M_7 h0 = some (.inr (0, [.int nx, .int nz, .int 0, .long 0])) := by rw [eM_7]; exact fm_us
  exact fm_vret hx hb hr hlocks hW (by rw [eM_7, eM_5, eM_3, eM_1, fm_uu, fm_uu, fm_uu]; rfl) dP_become_20
