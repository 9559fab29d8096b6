-- trailing zeros, odds: the class and the reference
theorem fs_nIm1 {g : Nat} (h : g < 2 ^ 31) : ¬ nI g = -1 := fun z => by
  have h1 := congrArg Int32.toInt z
  rw [nI_toInt h] at h1
  have : (-1 : Int32).toInt = -1 := rfl
  omega
set_option maxHeartbeats 4000000 in
set_option maxRecDepth 100000 in
theorem c_JI_numberOfTrailingZeros (l : Launch) (D : va_G) (ct : Nat → ClassId) (A : Nat → Prop) (M : fm_M) (x : Int32) : Met l yJI_numberOfTrailingZeros wJI_numberOfTrailingZeros ({ frames := 0, cells := 0, slots := 0, locals := 0 }) (va_Pc [.int x] (fm_St D fs_cl5 (fs_tys ct) fs_nw A M)) (va_Qi (fun (r : Int32) (M1 : fm_M) => r = fs_nzb (fs_mk0 x) ∧ M1 = M) (fm_B D fs_cl5 A) A) 0 0 A := by
  refine Met.ofW (cc := cJI_numberOfTrailingZeros) (maxL := 2) (ret := (some .int)) (by decide) rfl ?_
  intro p e s m args below meth c s₁ B hml hv
  obtain ⟨rfl, hP0, hA0, hA1, hK, hN⟩ := hv
  have hx := B.exec
  have hb := B.bytes
  have hr := B.returns
  have hts := atoms_spec (ws := wJI_numberOfTrailingZeros) B.pre
  have hT : ∀ w ∈ fs_tb, w.before _ s = true := fun w h => hts w (List.mem_cons_of_mem _ h)
  have hown : s.vm.findClass "java/lang/Integer" = some m.cls := findClass_of_methodNamed B.named
  have hlocks := B.notSynchronized
  have hW : fm_W D fs_cl5 A M s.heap s.heap [] := ⟨hP0, hA0, va_S.rf, hA1⟩
  have hl := lv_entry ([.int x]) (n := 2) (Nat.le_of_ble_eq_true rfl)
  rw [lg_entry_eq]
  generalize (lg_sl ([.int x]) ++ List.replicate (2 - (lg_sl ([.int x])).length) Slot.unset).toArray = ls at hl ⊢
  have hl : lv_has ls 2 [(0, .int x)] := hl
  refine lv_iload_n hx hb dJI_numberOfTrailingZeros_0 rfl (lv_at hl 0 rfl) ?_
  refine lv_iconst (v := -1) hx hb dJI_numberOfTrailingZeros_1 (by decide) ?_
  refine lv_ixor hx hb dJI_numberOfTrailingZeros_2 ?_
  refine lv_iload_n hx hb dJI_numberOfTrailingZeros_3 rfl (lv_at hl 0 rfl) ?_
  refine lv_iconst (v := 1) hx hb dJI_numberOfTrailingZeros_4 (by decide) ?_
  refine lv_isub hx hb dJI_numberOfTrailingZeros_5 ?_
  refine lv_iand hx hb dJI_numberOfTrailingZeros_6 ?_
  refine lv_topi (fun x_1 ex_1 => ?_)
  refine lv_istore_n (lv' := [(0, .int x_1)]) hx hb dJI_numberOfTrailingZeros_7 rfl hl (by decide) rfl (fun ls hl => ?_)
  refine lv_iload_n hx hb dJI_numberOfTrailingZeros_8 rfl (lv_at hl 0 rfl) ?_
  have hy : x_1 = fs_mk0 x := ex_1
  refine lv_if_gt (tgt := 17) hx hb dJI_numberOfTrailingZeros_9 (by decide) (fun c_2 => ?_) (fun c_2 => ?_)
  · refine lv_iconst (v := 1) hx hb dJI_numberOfTrailingZeros_17 (by decide) ?_
    refine lv_istore_n (lv' := [(1, .int 1), (0, .int x_1)]) hx hb dJI_numberOfTrailingZeros_18 rfl hl (by decide) rfl (fun ls hl => ?_)
    refine lv_iload_n hx hb dJI_numberOfTrailingZeros_19 rfl (lv_at hl 1 rfl) ?_
    refine lv_ldcw hx hb hown (hT _ cn_JI_264) dJI_numberOfTrailingZeros_20 ?_
    refine lv_icmp_le (tgt := 34) hx hb dJI_numberOfTrailingZeros_23 (by decide) (fun c_3 => ?_) (fun c_3 => ?_)
    · have h1 : fs_n1 (1, x_1) = (1, x_1) := if_pos c_3
      refine lv_iload_n hx hb dJI_numberOfTrailingZeros_34 rfl (lv_at hl 1 rfl) ?_
      refine lv_sipush (v := 256) hx hb dJI_numberOfTrailingZeros_35 (by decide) ?_
      refine lv_icmp_le (tgt := 49) hx hb dJI_numberOfTrailingZeros_38 (by decide) (fun c_4 => ?_) (fun c_4 => ?_)
      · have h2 : fs_n2 (1, x_1) = (1, x_1) := if_pos c_4
        refine lv_iload_n hx hb dJI_numberOfTrailingZeros_49 rfl (lv_at hl 1 rfl) ?_
        refine lv_bipush (v := 16) hx hb dJI_numberOfTrailingZeros_50 (by decide) ?_
        refine lv_icmp_le (tgt := 62) hx hb dJI_numberOfTrailingZeros_52 (by decide) (fun c_5 => ?_) (fun c_5 => ?_)
        · have h3 : fs_n3 (1, x_1) = (1, x_1) := if_pos c_5
          refine lv_iload_n hx hb dJI_numberOfTrailingZeros_62 rfl (lv_at hl 1 rfl) ?_
          refine lv_iconst (v := 4) hx hb dJI_numberOfTrailingZeros_63 (by decide) ?_
          refine lv_icmp_le (tgt := 74) hx hb dJI_numberOfTrailingZeros_64 (by decide) (fun c_6 => ?_) (fun c_6 => ?_)
          · have h4 : fs_n4 (1, x_1) = (1, x_1) := if_pos c_6
            refine lv_iload_n hx hb dJI_numberOfTrailingZeros_74 rfl (lv_at hl 0 rfl) ?_
            refine lv_iload_n hx hb dJI_numberOfTrailingZeros_75 rfl (lv_at hl 1 rfl) ?_
            refine lv_iconst (v := 1) hx hb dJI_numberOfTrailingZeros_76 (by decide) ?_
            refine lv_iushr (v := fs_ush x_1 1) hx hb dJI_numberOfTrailingZeros_77 rfl ?_
            refine lv_iadd hx hb dJI_numberOfTrailingZeros_78 ?_
            exact fm_iret hx hb hr hlocks hW ⟨by unfold fs_nzb; rw [← hy, if_pos c_2, h1, h2, h3, h4]; rfl, rfl⟩ dJI_numberOfTrailingZeros_79
          · obtain ⟨x_7, ex_7⟩ : ∃ y : Int32, y = 1 + 2 := ⟨_, rfl⟩
            refine lv_iinc (v := x_7) (lv' := [(1, .int x_7), (0, .int x_1)]) hx hb dJI_numberOfTrailingZeros_67 hl (k := 0) rfl (by rw [ex_7]; rfl) (by decide) rfl (fun ls hl => ?_)
            refine lv_iload_n hx hb dJI_numberOfTrailingZeros_70 rfl (lv_at hl 1 rfl) ?_
            refine lv_iconst (v := 2) hx hb dJI_numberOfTrailingZeros_71 (by decide) ?_
            refine lv_iushr (v := fs_ush x_1 2) hx hb dJI_numberOfTrailingZeros_72 rfl ?_
            refine lv_topi (fun x_8 ex_8 => ?_)
            refine lv_istore_n (lv' := [(0, .int x_8), (1, .int x_7)]) hx hb dJI_numberOfTrailingZeros_73 rfl hl (by decide) rfl (fun ls hl => ?_)
            have h4 : fs_n4 (1, x_1) = (x_7, x_8) := by rw [ex_7, ex_8]; exact if_neg c_6
            refine lv_iload_n hx hb dJI_numberOfTrailingZeros_74 rfl (lv_at hl 1 rfl) ?_
            refine lv_iload_n hx hb dJI_numberOfTrailingZeros_75 rfl (lv_at hl 0 rfl) ?_
            refine lv_iconst (v := 1) hx hb dJI_numberOfTrailingZeros_76 (by decide) ?_
            refine lv_iushr (v := fs_ush x_8 1) hx hb dJI_numberOfTrailingZeros_77 rfl ?_
            refine lv_iadd hx hb dJI_numberOfTrailingZeros_78 ?_
            exact fm_iret hx hb hr hlocks hW ⟨by unfold fs_nzb; rw [← hy, if_pos c_2, h1, h2, h3, h4]; rfl, rfl⟩ dJI_numberOfTrailingZeros_79
        · obtain ⟨x_9, ex_9⟩ : ∃ y : Int32, y = 1 + 4 := ⟨_, rfl⟩
          refine lv_iinc (v := x_9) (lv' := [(1, .int x_9), (0, .int x_1)]) hx hb dJI_numberOfTrailingZeros_55 hl (k := 0) rfl (by rw [ex_9]; rfl) (by decide) rfl (fun ls hl => ?_)
          refine lv_iload_n hx hb dJI_numberOfTrailingZeros_58 rfl (lv_at hl 1 rfl) ?_
          refine lv_iconst (v := 4) hx hb dJI_numberOfTrailingZeros_59 (by decide) ?_
          refine lv_iushr (v := fs_ush x_1 4) hx hb dJI_numberOfTrailingZeros_60 rfl ?_
          refine lv_topi (fun x_10 ex_10 => ?_)
          refine lv_istore_n (lv' := [(0, .int x_10), (1, .int x_9)]) hx hb dJI_numberOfTrailingZeros_61 rfl hl (by decide) rfl (fun ls hl => ?_)
          have h3 : fs_n3 (1, x_1) = (x_9, x_10) := by rw [ex_9, ex_10]; exact if_neg c_5
          refine lv_iload_n hx hb dJI_numberOfTrailingZeros_62 rfl (lv_at hl 0 rfl) ?_
          refine lv_iconst (v := 4) hx hb dJI_numberOfTrailingZeros_63 (by decide) ?_
          refine lv_icmp_le (tgt := 74) hx hb dJI_numberOfTrailingZeros_64 (by decide) (fun c_11 => ?_) (fun c_11 => ?_)
          · have h4 : fs_n4 (x_9, x_10) = (x_9, x_10) := if_pos c_11
            refine lv_iload_n hx hb dJI_numberOfTrailingZeros_74 rfl (lv_at hl 1 rfl) ?_
            refine lv_iload_n hx hb dJI_numberOfTrailingZeros_75 rfl (lv_at hl 0 rfl) ?_
            refine lv_iconst (v := 1) hx hb dJI_numberOfTrailingZeros_76 (by decide) ?_
            refine lv_iushr (v := fs_ush x_10 1) hx hb dJI_numberOfTrailingZeros_77 rfl ?_
            refine lv_iadd hx hb dJI_numberOfTrailingZeros_78 ?_
            exact fm_iret hx hb hr hlocks hW ⟨by unfold fs_nzb; rw [← hy, if_pos c_2, h1, h2, h3, h4]; rfl, rfl⟩ dJI_numberOfTrailingZeros_79
          · obtain ⟨x_12, ex_12⟩ : ∃ y : Int32, y = x_9 + 2 := ⟨_, rfl⟩
            refine lv_iinc (v := x_12) (lv' := [(1, .int x_12), (0, .int x_10)]) hx hb dJI_numberOfTrailingZeros_67 hl (k := 1) rfl (by rw [ex_12]; rfl) (by decide) rfl (fun ls hl => ?_)
            refine lv_iload_n hx hb dJI_numberOfTrailingZeros_70 rfl (lv_at hl 1 rfl) ?_
            refine lv_iconst (v := 2) hx hb dJI_numberOfTrailingZeros_71 (by decide) ?_
            refine lv_iushr (v := fs_ush x_10 2) hx hb dJI_numberOfTrailingZeros_72 rfl ?_
            refine lv_topi (fun x_13 ex_13 => ?_)
            refine lv_istore_n (lv' := [(0, .int x_13), (1, .int x_12)]) hx hb dJI_numberOfTrailingZeros_73 rfl hl (by decide) rfl (fun ls hl => ?_)
            have h4 : fs_n4 (x_9, x_10) = (x_12, x_13) := by rw [ex_12, ex_13]; exact if_neg c_11
            refine lv_iload_n hx hb dJI_numberOfTrailingZeros_74 rfl (lv_at hl 1 rfl) ?_
            refine lv_iload_n hx hb dJI_numberOfTrailingZeros_75 rfl (lv_at hl 0 rfl) ?_
            refine lv_iconst (v := 1) hx hb dJI_numberOfTrailingZeros_76 (by decide) ?_
            refine lv_iushr (v := fs_ush x_13 1) hx hb dJI_numberOfTrailingZeros_77 rfl ?_
            refine lv_iadd hx hb dJI_numberOfTrailingZeros_78 ?_
            exact fm_iret hx hb hr hlocks hW ⟨by unfold fs_nzb; rw [← hy, if_pos c_2, h1, h2, h3, h4]; rfl, rfl⟩ dJI_numberOfTrailingZeros_79
      · obtain ⟨x_14, ex_14⟩ : ∃ y : Int32, y = 1 + 8 := ⟨_, rfl⟩
        refine lv_iinc (v := x_14) (lv' := [(1, .int x_14), (0, .int x_1)]) hx hb dJI_numberOfTrailingZeros_41 hl (k := 0) rfl (by rw [ex_14]; rfl) (by decide) rfl (fun ls hl => ?_)
        refine lv_iload_n hx hb dJI_numberOfTrailingZeros_44 rfl (lv_at hl 1 rfl) ?_
        refine lv_bipush (v := 8) hx hb dJI_numberOfTrailingZeros_45 (by decide) ?_
        refine lv_iushr (v := fs_ush x_1 8) hx hb dJI_numberOfTrailingZeros_47 rfl ?_
        refine lv_topi (fun x_15 ex_15 => ?_)
        refine lv_istore_n (lv' := [(0, .int x_15), (1, .int x_14)]) hx hb dJI_numberOfTrailingZeros_48 rfl hl (by decide) rfl (fun ls hl => ?_)
        have h2 : fs_n2 (1, x_1) = (x_14, x_15) := by rw [ex_14, ex_15]; exact if_neg c_4
        refine lv_iload_n hx hb dJI_numberOfTrailingZeros_49 rfl (lv_at hl 0 rfl) ?_
        refine lv_bipush (v := 16) hx hb dJI_numberOfTrailingZeros_50 (by decide) ?_
        refine lv_icmp_le (tgt := 62) hx hb dJI_numberOfTrailingZeros_52 (by decide) (fun c_16 => ?_) (fun c_16 => ?_)
        · have h3 : fs_n3 (x_14, x_15) = (x_14, x_15) := if_pos c_16
          refine lv_iload_n hx hb dJI_numberOfTrailingZeros_62 rfl (lv_at hl 0 rfl) ?_
          refine lv_iconst (v := 4) hx hb dJI_numberOfTrailingZeros_63 (by decide) ?_
          refine lv_icmp_le (tgt := 74) hx hb dJI_numberOfTrailingZeros_64 (by decide) (fun c_17 => ?_) (fun c_17 => ?_)
          · have h4 : fs_n4 (x_14, x_15) = (x_14, x_15) := if_pos c_17
            refine lv_iload_n hx hb dJI_numberOfTrailingZeros_74 rfl (lv_at hl 1 rfl) ?_
            refine lv_iload_n hx hb dJI_numberOfTrailingZeros_75 rfl (lv_at hl 0 rfl) ?_
            refine lv_iconst (v := 1) hx hb dJI_numberOfTrailingZeros_76 (by decide) ?_
            refine lv_iushr (v := fs_ush x_15 1) hx hb dJI_numberOfTrailingZeros_77 rfl ?_
            refine lv_iadd hx hb dJI_numberOfTrailingZeros_78 ?_
            exact fm_iret hx hb hr hlocks hW ⟨by unfold fs_nzb; rw [← hy, if_pos c_2, h1, h2, h3, h4]; rfl, rfl⟩ dJI_numberOfTrailingZeros_79
          · obtain ⟨x_18, ex_18⟩ : ∃ y : Int32, y = x_14 + 2 := ⟨_, rfl⟩
            refine lv_iinc (v := x_18) (lv' := [(1, .int x_18), (0, .int x_15)]) hx hb dJI_numberOfTrailingZeros_67 hl (k := 1) rfl (by rw [ex_18]; rfl) (by decide) rfl (fun ls hl => ?_)
            refine lv_iload_n hx hb dJI_numberOfTrailingZeros_70 rfl (lv_at hl 1 rfl) ?_
            refine lv_iconst (v := 2) hx hb dJI_numberOfTrailingZeros_71 (by decide) ?_
            refine lv_iushr (v := fs_ush x_15 2) hx hb dJI_numberOfTrailingZeros_72 rfl ?_
            refine lv_topi (fun x_19 ex_19 => ?_)
            refine lv_istore_n (lv' := [(0, .int x_19), (1, .int x_18)]) hx hb dJI_numberOfTrailingZeros_73 rfl hl (by decide) rfl (fun ls hl => ?_)
            have h4 : fs_n4 (x_14, x_15) = (x_18, x_19) := by rw [ex_18, ex_19]; exact if_neg c_17
            refine lv_iload_n hx hb dJI_numberOfTrailingZeros_74 rfl (lv_at hl 1 rfl) ?_
            refine lv_iload_n hx hb dJI_numberOfTrailingZeros_75 rfl (lv_at hl 0 rfl) ?_
            refine lv_iconst (v := 1) hx hb dJI_numberOfTrailingZeros_76 (by decide) ?_
            refine lv_iushr (v := fs_ush x_19 1) hx hb dJI_numberOfTrailingZeros_77 rfl ?_
            refine lv_iadd hx hb dJI_numberOfTrailingZeros_78 ?_
            exact fm_iret hx hb hr hlocks hW ⟨by unfold fs_nzb; rw [← hy, if_pos c_2, h1, h2, h3, h4]; rfl, rfl⟩ dJI_numberOfTrailingZeros_79
        · obtain ⟨x_20, ex_20⟩ : ∃ y : Int32, y = x_14 + 4 := ⟨_, rfl⟩
          refine lv_iinc (v := x_20) (lv' := [(1, .int x_20), (0, .int x_15)]) hx hb dJI_numberOfTrailingZeros_55 hl (k := 1) rfl (by rw [ex_20]; rfl) (by decide) rfl (fun ls hl => ?_)
          refine lv_iload_n hx hb dJI_numberOfTrailingZeros_58 rfl (lv_at hl 1 rfl) ?_
          refine lv_iconst (v := 4) hx hb dJI_numberOfTrailingZeros_59 (by decide) ?_
          refine lv_iushr (v := fs_ush x_15 4) hx hb dJI_numberOfTrailingZeros_60 rfl ?_
          refine lv_topi (fun x_21 ex_21 => ?_)
          refine lv_istore_n (lv' := [(0, .int x_21), (1, .int x_20)]) hx hb dJI_numberOfTrailingZeros_61 rfl hl (by decide) rfl (fun ls hl => ?_)
          have h3 : fs_n3 (x_14, x_15) = (x_20, x_21) := by rw [ex_20, ex_21]; exact if_neg c_16
          refine lv_iload_n hx hb dJI_numberOfTrailingZeros_62 rfl (lv_at hl 0 rfl) ?_
          refine lv_iconst (v := 4) hx hb dJI_numberOfTrailingZeros_63 (by decide) ?_
          refine lv_icmp_le (tgt := 74) hx hb dJI_numberOfTrailingZeros_64 (by decide) (fun c_22 => ?_) (fun c_22 => ?_)
          · have h4 : fs_n4 (x_20, x_21) = (x_20, x_21) := if_pos c_22
            refine lv_iload_n hx hb dJI_numberOfTrailingZeros_74 rfl (lv_at hl 1 rfl) ?_
            refine lv_iload_n hx hb dJI_numberOfTrailingZeros_75 rfl (lv_at hl 0 rfl) ?_
            refine lv_iconst (v := 1) hx hb dJI_numberOfTrailingZeros_76 (by decide) ?_
            refine lv_iushr (v := fs_ush x_21 1) hx hb dJI_numberOfTrailingZeros_77 rfl ?_
            refine lv_iadd hx hb dJI_numberOfTrailingZeros_78 ?_
            exact fm_iret hx hb hr hlocks hW ⟨by unfold fs_nzb; rw [← hy, if_pos c_2, h1, h2, h3, h4]; rfl, rfl⟩ dJI_numberOfTrailingZeros_79
          · obtain ⟨x_23, ex_23⟩ : ∃ y : Int32, y = x_20 + 2 := ⟨_, rfl⟩
            refine lv_iinc (v := x_23) (lv' := [(1, .int x_23), (0, .int x_21)]) hx hb dJI_numberOfTrailingZeros_67 hl (k := 1) rfl (by rw [ex_23]; rfl) (by decide) rfl (fun ls hl => ?_)
            refine lv_iload_n hx hb dJI_numberOfTrailingZeros_70 rfl (lv_at hl 1 rfl) ?_
            refine lv_iconst (v := 2) hx hb dJI_numberOfTrailingZeros_71 (by decide) ?_
            refine lv_iushr (v := fs_ush x_21 2) hx hb dJI_numberOfTrailingZeros_72 rfl ?_
            refine lv_topi (fun x_24 ex_24 => ?_)
            refine lv_istore_n (lv' := [(0, .int x_24), (1, .int x_23)]) hx hb dJI_numberOfTrailingZeros_73 rfl hl (by decide) rfl (fun ls hl => ?_)
            have h4 : fs_n4 (x_20, x_21) = (x_23, x_24) := by rw [ex_23, ex_24]; exact if_neg c_22
            refine lv_iload_n hx hb dJI_numberOfTrailingZeros_74 rfl (lv_at hl 1 rfl) ?_
            refine lv_iload_n hx hb dJI_numberOfTrailingZeros_75 rfl (lv_at hl 0 rfl) ?_
            refine lv_iconst (v := 1) hx hb dJI_numberOfTrailingZeros_76 (by decide) ?_
            refine lv_iushr (v := fs_ush x_24 1) hx hb dJI_numberOfTrailingZeros_77 rfl ?_
            refine lv_iadd hx hb dJI_numberOfTrailingZeros_78 ?_
            exact fm_iret hx hb hr hlocks hW ⟨by unfold fs_nzb; rw [← hy, if_pos c_2, h1, h2, h3, h4]; rfl, rfl⟩ dJI_numberOfTrailingZeros_79
    · obtain ⟨x_25, ex_25⟩ : ∃ y : Int32, y = 1 + 16 := ⟨_, rfl⟩
      refine lv_iinc (v := x_25) (lv' := [(1, .int x_25), (0, .int x_1)]) hx hb dJI_numberOfTrailingZeros_26 hl (k := 0) rfl (by rw [ex_25]; rfl) (by decide) rfl (fun ls hl => ?_)
      refine lv_iload_n hx hb dJI_numberOfTrailingZeros_29 rfl (lv_at hl 1 rfl) ?_
      refine lv_bipush (v := 16) hx hb dJI_numberOfTrailingZeros_30 (by decide) ?_
      refine lv_iushr (v := fs_ush x_1 16) hx hb dJI_numberOfTrailingZeros_32 rfl ?_
      refine lv_topi (fun x_26 ex_26 => ?_)
      refine lv_istore_n (lv' := [(0, .int x_26), (1, .int x_25)]) hx hb dJI_numberOfTrailingZeros_33 rfl hl (by decide) rfl (fun ls hl => ?_)
      have h1 : fs_n1 (1, x_1) = (x_25, x_26) := by rw [ex_25, ex_26]; exact if_neg c_3
      refine lv_iload_n hx hb dJI_numberOfTrailingZeros_34 rfl (lv_at hl 0 rfl) ?_
      refine lv_sipush (v := 256) hx hb dJI_numberOfTrailingZeros_35 (by decide) ?_
      refine lv_icmp_le (tgt := 49) hx hb dJI_numberOfTrailingZeros_38 (by decide) (fun c_27 => ?_) (fun c_27 => ?_)
      · have h2 : fs_n2 (x_25, x_26) = (x_25, x_26) := if_pos c_27
        refine lv_iload_n hx hb dJI_numberOfTrailingZeros_49 rfl (lv_at hl 0 rfl) ?_
        refine lv_bipush (v := 16) hx hb dJI_numberOfTrailingZeros_50 (by decide) ?_
        refine lv_icmp_le (tgt := 62) hx hb dJI_numberOfTrailingZeros_52 (by decide) (fun c_28 => ?_) (fun c_28 => ?_)
        · have h3 : fs_n3 (x_25, x_26) = (x_25, x_26) := if_pos c_28
          refine lv_iload_n hx hb dJI_numberOfTrailingZeros_62 rfl (lv_at hl 0 rfl) ?_
          refine lv_iconst (v := 4) hx hb dJI_numberOfTrailingZeros_63 (by decide) ?_
          refine lv_icmp_le (tgt := 74) hx hb dJI_numberOfTrailingZeros_64 (by decide) (fun c_29 => ?_) (fun c_29 => ?_)
          · have h4 : fs_n4 (x_25, x_26) = (x_25, x_26) := if_pos c_29
            refine lv_iload_n hx hb dJI_numberOfTrailingZeros_74 rfl (lv_at hl 1 rfl) ?_
            refine lv_iload_n hx hb dJI_numberOfTrailingZeros_75 rfl (lv_at hl 0 rfl) ?_
            refine lv_iconst (v := 1) hx hb dJI_numberOfTrailingZeros_76 (by decide) ?_
            refine lv_iushr (v := fs_ush x_26 1) hx hb dJI_numberOfTrailingZeros_77 rfl ?_
            refine lv_iadd hx hb dJI_numberOfTrailingZeros_78 ?_
            exact fm_iret hx hb hr hlocks hW ⟨by unfold fs_nzb; rw [← hy, if_pos c_2, h1, h2, h3, h4]; rfl, rfl⟩ dJI_numberOfTrailingZeros_79
          · obtain ⟨x_30, ex_30⟩ : ∃ y : Int32, y = x_25 + 2 := ⟨_, rfl⟩
            refine lv_iinc (v := x_30) (lv' := [(1, .int x_30), (0, .int x_26)]) hx hb dJI_numberOfTrailingZeros_67 hl (k := 1) rfl (by rw [ex_30]; rfl) (by decide) rfl (fun ls hl => ?_)
            refine lv_iload_n hx hb dJI_numberOfTrailingZeros_70 rfl (lv_at hl 1 rfl) ?_
            refine lv_iconst (v := 2) hx hb dJI_numberOfTrailingZeros_71 (by decide) ?_
            refine lv_iushr (v := fs_ush x_26 2) hx hb dJI_numberOfTrailingZeros_72 rfl ?_
            refine lv_topi (fun x_31 ex_31 => ?_)
            refine lv_istore_n (lv' := [(0, .int x_31), (1, .int x_30)]) hx hb dJI_numberOfTrailingZeros_73 rfl hl (by decide) rfl (fun ls hl => ?_)
            have h4 : fs_n4 (x_25, x_26) = (x_30, x_31) := by rw [ex_30, ex_31]; exact if_neg c_29
            refine lv_iload_n hx hb dJI_numberOfTrailingZeros_74 rfl (lv_at hl 1 rfl) ?_
            refine lv_iload_n hx hb dJI_numberOfTrailingZeros_75 rfl (lv_at hl 0 rfl) ?_
            refine lv_iconst (v := 1) hx hb dJI_numberOfTrailingZeros_76 (by decide) ?_
            refine lv_iushr (v := fs_ush x_31 1) hx hb dJI_numberOfTrailingZeros_77 rfl ?_
            refine lv_iadd hx hb dJI_numberOfTrailingZeros_78 ?_
            exact fm_iret hx hb hr hlocks hW ⟨by unfold fs_nzb; rw [← hy, if_pos c_2, h1, h2, h3, h4]; rfl, rfl⟩ dJI_numberOfTrailingZeros_79
        · obtain ⟨x_32, ex_32⟩ : ∃ y : Int32, y = x_25 + 4 := ⟨_, rfl⟩
          refine lv_iinc (v := x_32) (lv' := [(1, .int x_32), (0, .int x_26)]) hx hb dJI_numberOfTrailingZeros_55 hl (k := 1) rfl (by rw [ex_32]; rfl) (by decide) rfl (fun ls hl => ?_)
          refine lv_iload_n hx hb dJI_numberOfTrailingZeros_58 rfl (lv_at hl 1 rfl) ?_
          refine lv_iconst (v := 4) hx hb dJI_numberOfTrailingZeros_59 (by decide) ?_
          refine lv_iushr (v := fs_ush x_26 4) hx hb dJI_numberOfTrailingZeros_60 rfl ?_
          refine lv_topi (fun x_33 ex_33 => ?_)
          refine lv_istore_n (lv' := [(0, .int x_33), (1, .int x_32)]) hx hb dJI_numberOfTrailingZeros_61 rfl hl (by decide) rfl (fun ls hl => ?_)
          have h3 : fs_n3 (x_25, x_26) = (x_32, x_33) := by rw [ex_32, ex_33]; exact if_neg c_28
          refine lv_iload_n hx hb dJI_numberOfTrailingZeros_62 rfl (lv_at hl 0 rfl) ?_
          refine lv_iconst (v := 4) hx hb dJI_numberOfTrailingZeros_63 (by decide) ?_
          refine lv_icmp_le (tgt := 74) hx hb dJI_numberOfTrailingZeros_64 (by decide) (fun c_34 => ?_) (fun c_34 => ?_)
          · have h4 : fs_n4 (x_32, x_33) = (x_32, x_33) := if_pos c_34
            refine lv_iload_n hx hb dJI_numberOfTrailingZeros_74 rfl (lv_at hl 1 rfl) ?_
            refine lv_iload_n hx hb dJI_numberOfTrailingZeros_75 rfl (lv_at hl 0 rfl) ?_
            refine lv_iconst (v := 1) hx hb dJI_numberOfTrailingZeros_76 (by decide) ?_
            refine lv_iushr (v := fs_ush x_33 1) hx hb dJI_numberOfTrailingZeros_77 rfl ?_
            refine lv_iadd hx hb dJI_numberOfTrailingZeros_78 ?_
            exact fm_iret hx hb hr hlocks hW ⟨by unfold fs_nzb; rw [← hy, if_pos c_2, h1, h2, h3, h4]; rfl, rfl⟩ dJI_numberOfTrailingZeros_79
          · obtain ⟨x_35, ex_35⟩ : ∃ y : Int32, y = x_32 + 2 := ⟨_, rfl⟩
            refine lv_iinc (v := x_35) (lv' := [(1, .int x_35), (0, .int x_33)]) hx hb dJI_numberOfTrailingZeros_67 hl (k := 1) rfl (by rw [ex_35]; rfl) (by decide) rfl (fun ls hl => ?_)
            refine lv_iload_n hx hb dJI_numberOfTrailingZeros_70 rfl (lv_at hl 1 rfl) ?_
            refine lv_iconst (v := 2) hx hb dJI_numberOfTrailingZeros_71 (by decide) ?_
            refine lv_iushr (v := fs_ush x_33 2) hx hb dJI_numberOfTrailingZeros_72 rfl ?_
            refine lv_topi (fun x_36 ex_36 => ?_)
            refine lv_istore_n (lv' := [(0, .int x_36), (1, .int x_35)]) hx hb dJI_numberOfTrailingZeros_73 rfl hl (by decide) rfl (fun ls hl => ?_)
            have h4 : fs_n4 (x_32, x_33) = (x_35, x_36) := by rw [ex_35, ex_36]; exact if_neg c_34
            refine lv_iload_n hx hb dJI_numberOfTrailingZeros_74 rfl (lv_at hl 1 rfl) ?_
            refine lv_iload_n hx hb dJI_numberOfTrailingZeros_75 rfl (lv_at hl 0 rfl) ?_
            refine lv_iconst (v := 1) hx hb dJI_numberOfTrailingZeros_76 (by decide) ?_
            refine lv_iushr (v := fs_ush x_36 1) hx hb dJI_numberOfTrailingZeros_77 rfl ?_
            refine lv_iadd hx hb dJI_numberOfTrailingZeros_78 ?_
            exact fm_iret hx hb hr hlocks hW ⟨by unfold fs_nzb; rw [← hy, if_pos c_2, h1, h2, h3, h4]; rfl, rfl⟩ dJI_numberOfTrailingZeros_79
      · obtain ⟨x_37, ex_37⟩ : ∃ y : Int32, y = x_25 + 8 := ⟨_, rfl⟩
        refine lv_iinc (v := x_37) (lv' := [(1, .int x_37), (0, .int x_26)]) hx hb dJI_numberOfTrailingZeros_41 hl (k := 1) rfl (by rw [ex_37]; rfl) (by decide) rfl (fun ls hl => ?_)
        refine lv_iload_n hx hb dJI_numberOfTrailingZeros_44 rfl (lv_at hl 1 rfl) ?_
        refine lv_bipush (v := 8) hx hb dJI_numberOfTrailingZeros_45 (by decide) ?_
        refine lv_iushr (v := fs_ush x_26 8) hx hb dJI_numberOfTrailingZeros_47 rfl ?_
        refine lv_topi (fun x_38 ex_38 => ?_)
        refine lv_istore_n (lv' := [(0, .int x_38), (1, .int x_37)]) hx hb dJI_numberOfTrailingZeros_48 rfl hl (by decide) rfl (fun ls hl => ?_)
        have h2 : fs_n2 (x_25, x_26) = (x_37, x_38) := by rw [ex_37, ex_38]; exact if_neg c_27
        refine lv_iload_n hx hb dJI_numberOfTrailingZeros_49 rfl (lv_at hl 0 rfl) ?_
        refine lv_bipush (v := 16) hx hb dJI_numberOfTrailingZeros_50 (by decide) ?_
        refine lv_icmp_le (tgt := 62) hx hb dJI_numberOfTrailingZeros_52 (by decide) (fun c_39 => ?_) (fun c_39 => ?_)
        · have h3 : fs_n3 (x_37, x_38) = (x_37, x_38) := if_pos c_39
          refine lv_iload_n hx hb dJI_numberOfTrailingZeros_62 rfl (lv_at hl 0 rfl) ?_
          refine lv_iconst (v := 4) hx hb dJI_numberOfTrailingZeros_63 (by decide) ?_
          refine lv_icmp_le (tgt := 74) hx hb dJI_numberOfTrailingZeros_64 (by decide) (fun c_40 => ?_) (fun c_40 => ?_)
          · have h4 : fs_n4 (x_37, x_38) = (x_37, x_38) := if_pos c_40
            refine lv_iload_n hx hb dJI_numberOfTrailingZeros_74 rfl (lv_at hl 1 rfl) ?_
            refine lv_iload_n hx hb dJI_numberOfTrailingZeros_75 rfl (lv_at hl 0 rfl) ?_
            refine lv_iconst (v := 1) hx hb dJI_numberOfTrailingZeros_76 (by decide) ?_
            refine lv_iushr (v := fs_ush x_38 1) hx hb dJI_numberOfTrailingZeros_77 rfl ?_
            refine lv_iadd hx hb dJI_numberOfTrailingZeros_78 ?_
            exact fm_iret hx hb hr hlocks hW ⟨by unfold fs_nzb; rw [← hy, if_pos c_2, h1, h2, h3, h4]; rfl, rfl⟩ dJI_numberOfTrailingZeros_79
          · obtain ⟨x_41, ex_41⟩ : ∃ y : Int32, y = x_37 + 2 := ⟨_, rfl⟩
            refine lv_iinc (v := x_41) (lv' := [(1, .int x_41), (0, .int x_38)]) hx hb dJI_numberOfTrailingZeros_67 hl (k := 1) rfl (by rw [ex_41]; rfl) (by decide) rfl (fun ls hl => ?_)
            refine lv_iload_n hx hb dJI_numberOfTrailingZeros_70 rfl (lv_at hl 1 rfl) ?_
            refine lv_iconst (v := 2) hx hb dJI_numberOfTrailingZeros_71 (by decide) ?_
            refine lv_iushr (v := fs_ush x_38 2) hx hb dJI_numberOfTrailingZeros_72 rfl ?_
            refine lv_topi (fun x_42 ex_42 => ?_)
            refine lv_istore_n (lv' := [(0, .int x_42), (1, .int x_41)]) hx hb dJI_numberOfTrailingZeros_73 rfl hl (by decide) rfl (fun ls hl => ?_)
            have h4 : fs_n4 (x_37, x_38) = (x_41, x_42) := by rw [ex_41, ex_42]; exact if_neg c_40
            refine lv_iload_n hx hb dJI_numberOfTrailingZeros_74 rfl (lv_at hl 1 rfl) ?_
            refine lv_iload_n hx hb dJI_numberOfTrailingZeros_75 rfl (lv_at hl 0 rfl) ?_
            refine lv_iconst (v := 1) hx hb dJI_numberOfTrailingZeros_76 (by decide) ?_
            refine lv_iushr (v := fs_ush x_42 1) hx hb dJI_numberOfTrailingZeros_77 rfl ?_
            refine lv_iadd hx hb dJI_numberOfTrailingZeros_78 ?_
            exact fm_iret hx hb hr hlocks hW ⟨by unfold fs_nzb; rw [← hy, if_pos c_2, h1, h2, h3, h4]; rfl, rfl⟩ dJI_numberOfTrailingZeros_79
        · obtain ⟨x_43, ex_43⟩ : ∃ y : Int32, y = x_37 + 4 := ⟨_, rfl⟩
          refine lv_iinc (v := x_43) (lv' := [(1, .int x_43), (0, .int x_38)]) hx hb dJI_numberOfTrailingZeros_55 hl (k := 1) rfl (by rw [ex_43]; rfl) (by decide) rfl (fun ls hl => ?_)
          refine lv_iload_n hx hb dJI_numberOfTrailingZeros_58 rfl (lv_at hl 1 rfl) ?_
          refine lv_iconst (v := 4) hx hb dJI_numberOfTrailingZeros_59 (by decide) ?_
          refine lv_iushr (v := fs_ush x_38 4) hx hb dJI_numberOfTrailingZeros_60 rfl ?_
          refine lv_topi (fun x_44 ex_44 => ?_)
          refine lv_istore_n (lv' := [(0, .int x_44), (1, .int x_43)]) hx hb dJI_numberOfTrailingZeros_61 rfl hl (by decide) rfl (fun ls hl => ?_)
          have h3 : fs_n3 (x_37, x_38) = (x_43, x_44) := by rw [ex_43, ex_44]; exact if_neg c_39
          refine lv_iload_n hx hb dJI_numberOfTrailingZeros_62 rfl (lv_at hl 0 rfl) ?_
          refine lv_iconst (v := 4) hx hb dJI_numberOfTrailingZeros_63 (by decide) ?_
          refine lv_icmp_le (tgt := 74) hx hb dJI_numberOfTrailingZeros_64 (by decide) (fun c_45 => ?_) (fun c_45 => ?_)
          · have h4 : fs_n4 (x_43, x_44) = (x_43, x_44) := if_pos c_45
            refine lv_iload_n hx hb dJI_numberOfTrailingZeros_74 rfl (lv_at hl 1 rfl) ?_
            refine lv_iload_n hx hb dJI_numberOfTrailingZeros_75 rfl (lv_at hl 0 rfl) ?_
            refine lv_iconst (v := 1) hx hb dJI_numberOfTrailingZeros_76 (by decide) ?_
            refine lv_iushr (v := fs_ush x_44 1) hx hb dJI_numberOfTrailingZeros_77 rfl ?_
            refine lv_iadd hx hb dJI_numberOfTrailingZeros_78 ?_
            exact fm_iret hx hb hr hlocks hW ⟨by unfold fs_nzb; rw [← hy, if_pos c_2, h1, h2, h3, h4]; rfl, rfl⟩ dJI_numberOfTrailingZeros_79
          · obtain ⟨x_46, ex_46⟩ : ∃ y : Int32, y = x_43 + 2 := ⟨_, rfl⟩
            refine lv_iinc (v := x_46) (lv' := [(1, .int x_46), (0, .int x_44)]) hx hb dJI_numberOfTrailingZeros_67 hl (k := 1) rfl (by rw [ex_46]; rfl) (by decide) rfl (fun ls hl => ?_)
            refine lv_iload_n hx hb dJI_numberOfTrailingZeros_70 rfl (lv_at hl 1 rfl) ?_
            refine lv_iconst (v := 2) hx hb dJI_numberOfTrailingZeros_71 (by decide) ?_
            refine lv_iushr (v := fs_ush x_44 2) hx hb dJI_numberOfTrailingZeros_72 rfl ?_
            refine lv_topi (fun x_47 ex_47 => ?_)
            refine lv_istore_n (lv' := [(0, .int x_47), (1, .int x_46)]) hx hb dJI_numberOfTrailingZeros_73 rfl hl (by decide) rfl (fun ls hl => ?_)
            have h4 : fs_n4 (x_43, x_44) = (x_46, x_47) := by rw [ex_46, ex_47]; exact if_neg c_45
            refine lv_iload_n hx hb dJI_numberOfTrailingZeros_74 rfl (lv_at hl 1 rfl) ?_
            refine lv_iload_n hx hb dJI_numberOfTrailingZeros_75 rfl (lv_at hl 0 rfl) ?_
            refine lv_iconst (v := 1) hx hb dJI_numberOfTrailingZeros_76 (by decide) ?_
            refine lv_iushr (v := fs_ush x_47 1) hx hb dJI_numberOfTrailingZeros_77 rfl ?_
            refine lv_iadd hx hb dJI_numberOfTrailingZeros_78 ?_
            exact fm_iret hx hb hr hlocks hW ⟨by unfold fs_nzb; rw [← hy, if_pos c_2, h1, h2, h3, h4]; rfl, rfl⟩ dJI_numberOfTrailingZeros_79
  · refine lv_iload_n hx hb dJI_numberOfTrailingZeros_12 rfl (lv_at hl 0 rfl) ?_
    refine lv_bipush (v := 32) hx hb dJI_numberOfTrailingZeros_13 (by decide) ?_
    refine lv_iand hx hb dJI_numberOfTrailingZeros_15 ?_
    exact fm_iret hx hb hr hlocks hW ⟨by unfold fs_nzb; rw [← hy, if_neg c_2], rfl⟩ dJI_numberOfTrailingZeros_16
set_option maxHeartbeats 4000000 in
set_option maxRecDepth 100000 in
theorem c_JL_numberOfTrailingZeros (l : Launch) (D : va_G) (ct : Nat → ClassId) (A : Nat → Prop) (M : fm_M) (x : Int64) : Met l yJL_numberOfTrailingZeros wJL_numberOfTrailingZeros ({ frames := 1, cells := 0, slots := 0, locals := 21 }) (va_Pc [.long x] (fm_St D fs_cl5 (fs_tys ct) fs_nw A M)) (va_Qi (fun (r : Int32) (M1 : fm_M) => r = fs_nzl x ∧ M1 = M) (fm_B D fs_cl5 A) A) 0 0 A := by
  refine Met.ofW (cc := cJL_numberOfTrailingZeros) (maxL := 3) (ret := (some .int)) (by decide) rfl ?_
  intro p e s m args below meth c s₁ B hml hv
  obtain ⟨rfl, hP0, hA0, hA1, hK, hN⟩ := hv
  have hx := B.exec
  have hb := B.bytes
  have hr := B.returns
  have hts := atoms_spec (ws := wJL_numberOfTrailingZeros) B.pre
  have hT : ∀ w ∈ fs_tb, w.before _ s = true := fun w h => hts w (List.mem_cons_of_mem _ h)
  have hown : s.vm.findClass "java/lang/Long" = some m.cls := findClass_of_methodNamed B.named
  have hlocks := B.notSynchronized
  have hW : fm_W D fs_cl5 A M s.heap s.heap [] := ⟨hP0, hA0, va_S.rf, hA1⟩
  have hl := lv_entry ([.long x]) (n := 3) (Nat.le_of_ble_eq_true rfl)
  rw [lg_entry_eq]
  generalize (lg_sl ([.long x]) ++ List.replicate (3 - (lg_sl ([.long x])).length) Slot.unset).toArray = ls at hl ⊢
  have hl : lv_has ls 3 [(0, .long x)] := hl
  refine lv_lload_n hx hb dJL_numberOfTrailingZeros_0 rfl (lv_at hl 0 rfl) ?_
  refine lv_l2i (v := x.toInt32) hx hb dJL_numberOfTrailingZeros_1 rfl ?_
  refine lv_topi (fun x_1 ex_1 => ?_)
  refine lv_istore_n (lv' := [(2, .int x_1), (0, .long x)]) hx hb dJL_numberOfTrailingZeros_2 rfl hl (by decide) rfl (fun ls hl => ?_)
  refine lv_iload_n hx hb dJL_numberOfTrailingZeros_3 rfl (lv_at hl 0 rfl) ?_
  refine lv_if_ne (tgt := 21) hx hb dJL_numberOfTrailingZeros_4 (by decide) (fun c_2 => ?_) (fun c_2 => ?_)
  · refine lv_iload_n hx hb dJL_numberOfTrailingZeros_21 rfl (lv_at hl 0 rfl) ?_
    refine fm_calli (va_runS (As := [.int x_1]) (rest := []) ⟨hx, hb, hml, hown, hts⟩ (c_JI_numberOfTrailingZeros l D ct A M x_1) ⟨callB_of 1 hts (fs_gin co_JI_numberOfTrailingZeros) rfl rfl rfl (hT _ ini_JI) (hT _ ml_JL_311) (by decide +kernel) ⟨Nat.le_of_ble_eq_true rfl, Nat.le_of_ble_eq_true rfl⟩, hT _ st_JI_numberOfTrailingZeros⟩ (fn_pre fs_isnw hK hN hW) rfl rfl hl.1 rfl (lv_room (Nat.le_of_ble_eq_true rfl)) dJL_numberOfTrailingZeros_22 ⟨Nat.le_of_ble_eq_true rfl, Nat.le_of_ble_eq_true rfl⟩) hW (fun r_3 M_4 H locs hp_5 hW => ?_)
    have hW : fm_W D fs_cl5 A M s.heap H locs := by rw [← hp_5.2]; exact hW
    exact fm_iret hx hb hr hlocks hW ⟨by unfold fs_nzl; rw [← ex_1, if_neg c_2]; exact hp_5.1, rfl⟩ dJL_numberOfTrailingZeros_25
  · refine lv_bipush (v := 32) hx hb dJL_numberOfTrailingZeros_7 (by decide) ?_
    refine lv_lload_n hx hb dJL_numberOfTrailingZeros_9 rfl (lv_at hl 1 rfl) ?_
    refine lv_bipush (v := 32) hx hb dJL_numberOfTrailingZeros_10 (by decide) ?_
    refine lv_lushr (v := fs_ushl x 32) hx hb dJL_numberOfTrailingZeros_12 rfl ?_
    refine lv_l2i (v := (fs_ushl x 32).toInt32) hx hb dJL_numberOfTrailingZeros_13 rfl ?_
    refine fm_calli (va_runS (As := [.int ((fs_ushl x 32).toInt32)]) (rest := [.int 32]) ⟨hx, hb, hml, hown, hts⟩ (c_JI_numberOfTrailingZeros l D ct A M ((fs_ushl x 32).toInt32)) ⟨callB_of 1 hts (fs_gin co_JI_numberOfTrailingZeros) rfl rfl rfl (hT _ ini_JI) (hT _ ml_JL_311) (by decide +kernel) ⟨Nat.le_of_ble_eq_true rfl, Nat.le_of_ble_eq_true rfl⟩, hT _ st_JI_numberOfTrailingZeros⟩ (fn_pre fs_isnw hK hN hW) rfl rfl hl.1 rfl (lv_room (Nat.le_of_ble_eq_true rfl)) dJL_numberOfTrailingZeros_14 ⟨Nat.le_of_ble_eq_true rfl, Nat.le_of_ble_eq_true rfl⟩) hW (fun r_6 M_7 H locs hp_8 hW => ?_)
    have hW : fm_W D fs_cl5 A M s.heap H locs := by rw [← hp_8.2]; exact hW
    refine lv_iadd hx hb dJL_numberOfTrailingZeros_17 ?_
    refine lv_goto (tgt := 25) hx hb dJL_numberOfTrailingZeros_18 (by decide) ?_
    exact fm_iret hx hb hr hlocks hW ⟨by unfold fs_nzl; rw [← ex_1, if_pos c_2, hp_8.1], rfl⟩ dJL_numberOfTrailingZeros_25
set_option maxHeartbeats 4000000 in
set_option maxRecDepth 100000 in
theorem c_S_sharedTwos (l : Launch) (D : va_G) (ct : Nat → ClassId) (A : Nat → Prop) (M : fm_M) (o mb : Int64) : Met l yS_sharedTwos wS_sharedTwos ({ frames := 2, cells := 0, slots := 0, locals := 43 }) (va_Pc [.long o, .long mb] (fm_St D fs_cl5 (fs_tys ct) fs_nw A M)) (va_Qi (fun (r : Int32) (M1 : fm_M) => r = fs_sh o mb ∧ M1 = M) (fm_B D fs_cl5 A) A) 0 0 A := by
  refine Met.ofW (cc := cS_sharedTwos) (maxL := 4) (ret := (some .int)) (by decide) rfl ?_
  intro p e s m args below meth c s₁ B hml hv
  obtain ⟨rfl, hP0, hA0, hA1, hK, hN⟩ := hv
  have hx := B.exec
  have hb := B.bytes
  have hr := B.returns
  have hts := atoms_spec (ws := wS_sharedTwos) B.pre
  have hT : ∀ w ∈ fs_tb, w.before _ s = true := fun w h => hts w (List.mem_cons_of_mem _ h)
  have hown : s.vm.findClass "FrameSamples" = some m.cls := findClass_of_methodNamed B.named
  have hlocks := B.notSynchronized
  have hW : fm_W D fs_cl5 A M s.heap s.heap [] := ⟨hP0, hA0, va_S.rf, hA1⟩
  have hl := lv_entry ([.long o, .long mb]) (n := 4) (Nat.le_of_ble_eq_true rfl)
  rw [lg_entry_eq]
  generalize (lg_sl ([.long o, .long mb]) ++ List.replicate (4 - (lg_sl ([.long o, .long mb])).length) Slot.unset).toArray = ls at hl ⊢
  have hl : lv_has ls 4 [(0, .long o), (2, .long mb)] := hl
  refine lv_lload_n hx hb dS_sharedTwos_0 rfl (lv_at hl 0 rfl) ?_
  refine fm_calli (va_runS (As := [.long o]) (rest := []) ⟨hx, hb, hml, hown, hts⟩ (c_JL_numberOfTrailingZeros l D ct A M o) ⟨callB_of 1 hts (fs_gin co_JL_numberOfTrailingZeros) rfl rfl rfl (hT _ ini_JL) (hT _ ml_S_165) (by decide +kernel) ⟨Nat.le_of_ble_eq_true rfl, Nat.le_of_ble_eq_true rfl⟩, hT _ st_JL_numberOfTrailingZeros⟩ (fn_pre fs_isnw hK hN hW) rfl rfl hl.1 rfl (lv_room (Nat.le_of_ble_eq_true rfl)) dS_sharedTwos_1 ⟨Nat.le_of_ble_eq_true rfl, Nat.le_of_ble_eq_true rfl⟩) hW (fun r_1 M_2 H locs hp_3 hW => ?_)
  have hW : fm_W D fs_cl5 A M s.heap H locs := by rw [← hp_3.2]; exact hW
  have er_1 := hp_3.1
  refine lv_iconst (v := 4) hx hb dS_sharedTwos_4 (by decide) ?_
  refine lv_lload_n hx hb dS_sharedTwos_5 rfl (lv_at hl 1 rfl) ?_
  refine fm_calli (va_runS (As := [.long mb]) (rest := [.int 4, .int r_1]) ⟨hx, hb, hml, hown, hts⟩ (c_JL_bitCount l D ct A M mb) ⟨callB_of 1 hts (fs_gin co_JL_bitCount) rfl rfl rfl (hT _ ini_JL) (hT _ ml_S_138) (by decide +kernel) ⟨Nat.le_of_ble_eq_true rfl, Nat.le_of_ble_eq_true rfl⟩, hT _ st_JL_bitCount⟩ (fn_pre fs_isnw hK hN hW) rfl rfl hl.1 rfl (lv_room (Nat.le_of_ble_eq_true rfl)) dS_sharedTwos_6 ⟨Nat.le_of_ble_eq_true rfl, Nat.le_of_ble_eq_true rfl⟩) hW (fun r_4 M_5 H locs hp_6 hW => ?_)
  have hW : fm_W D fs_cl5 A M s.heap H locs := by rw [← hp_6.2]; exact hW
  have er_4 := hp_6.1
  refine lv_imul hx hb dS_sharedTwos_9 ?_
  refine va_mmin hx hb (by rw [hml]; exact hl.1.symm) hown (hT _ ml_S_168) (hT _ st_JM_min) (hT _ ini_JM) (hT _ co_JM_min) (Nat.le_of_ble_eq_true rfl) (Nat.le_of_ble_eq_true rfl) (Nat.le_refl _) (Nat.le_refl _) dS_sharedTwos_10 ?_
  exact fm_iret hx hb hr hlocks hW ⟨by rw [er_1, er_4]; rfl, rfl⟩ dS_sharedTwos_13
set_option maxHeartbeats 4000000 in
set_option maxRecDepth 100000 in
theorem c_S_oddCases (l : Launch) (D : va_G) (ct : Nat → ClassId) (A : Nat → Prop) (M : fm_M) (b : Nat) (cn : Nat → Nat) (kp pn : Nat → fs_Q) (pr : fs_Q) (lc : Nat → Int32) (lr : Nat → Int64) (fr : Nat → fs_Q) (od : Nat → Int32) (cl : Nat → Int64) (ck : Nat → Int32) (cc : Nat → Int32) (cr : Nat → Int64) (mb : Int64) (hC : fs_CW ct M b cn kp pn pr lc lr fr od cl ck cc cr) (hB : fs_Bd cn) (h15 : fs_bcl mb ≤ 15) : Met l yS_oddCases wS_oddCases ({ frames := 1, cells := 0, slots := 0, locals := 22 }) (va_Pc [.ref b, .long mb] (fm_St D fs_cl5 (fs_tys ct) fs_nw A M)) (va_Ql (fun (r : Int64) (M1 : fm_M) => r = (fs_oe od mb (cn 3)).1 ∧ M1 = M) (fm_B D fs_cl5 A) A) 0 0 A := by
  refine Met.ofW (cc := cS_oddCases) (maxL := 12) (ret := (some .long)) (by decide) rfl ?_
  intro p e s m args below meth c s₁ B hml hv
  obtain ⟨rfl, hP0, hA0, hA1, hK, hN⟩ := hv
  have hx := B.exec
  have hb := B.bytes
  have hr := B.returns
  have hts := atoms_spec (ws := wS_oddCases) B.pre
  have hT : ∀ w ∈ fs_tb, w.before _ s = true := fun w h => hts w (List.mem_cons_of_mem _ h)
  have hown : s.vm.findClass "FrameSamples" = some m.cls := findClass_of_methodNamed B.named
  have hlocks := B.notSynchronized
  have hW : fm_W D fs_cl5 A M s.heap s.heap [] := ⟨hP0, hA0, va_S.rf, hA1⟩
  have hl := lv_entry ([.ref b, .long mb]) (n := 12) (Nat.le_of_ble_eq_true rfl)
  rw [lg_entry_eq]
  generalize (lg_sl ([.ref b, .long mb]) ++ List.replicate (12 - (lg_sl ([.ref b, .long mb])).length) Slot.unset).toArray = ls at hl ⊢
  have hl : lv_has ls 12 [(0, .ref b), (1, .long mb)] := hl
  obtain ⟨hB0, hB1, hB2, hB3, hB4, hB5⟩ := hB
  have hCf : fs_Cf b M M := fs_Cf_r
  refine lv_lload_n hx hb dS_oddCases_0 rfl (lv_at hl 1 rfl) ?_
  refine fm_calli (va_runS (As := [.long mb]) (rest := []) ⟨hx, hb, hml, hown, hts⟩ (c_JL_bitCount l D ct A M mb) ⟨callB_of 1 hts (fs_gin co_JL_bitCount) rfl rfl rfl (hT _ ini_JL) (hT _ ml_S_138) (by decide +kernel) ⟨Nat.le_of_ble_eq_true rfl, Nat.le_of_ble_eq_true rfl⟩, hT _ st_JL_bitCount⟩ (fn_pre fs_isnw hK hN hW) rfl rfl hl.1 rfl (lv_room (Nat.le_of_ble_eq_true rfl)) dS_oddCases_1 ⟨Nat.le_of_ble_eq_true rfl, Nat.le_of_ble_eq_true rfl⟩) hW (fun r_1 M_2 H locs hp_3 hW => ?_)
  have hW : fm_W D fs_cl5 A M s.heap H locs := by rw [← hp_3.2]; exact hW
  have er_1 := hp_3.1
  refine lv_bipush (v := 15) hx hb dS_oddCases_4 (by decide) ?_
  refine lv_icmp_le (tgt := 19) hx hb dS_oddCases_6 (by decide) (fun c_4 => ?_) (fun c_4 => ?_)
  · refine lv_lconst (v := 0) hx hb dS_oddCases_19 (by decide) ?_
    refine lv_lstore_n (lv' := [(3, .long 0), (0, .ref b), (1, .long mb)]) hx hb dS_oddCases_20 rfl hl (by decide) rfl (fun ls hl => ?_)
    refine lv_lconst (v := 1) hx hb dS_oddCases_21 (by decide) ?_
    refine lv_lstore (lv' := [(5, .long 1), (3, .long 0), (0, .ref b), (1, .long mb)]) hx hb dS_oddCases_22 hl (by decide) rfl (fun ls hl => ?_)
    refine lv_iconst (v := 0) hx hb dS_oddCases_24 (by decide) ?_
    refine lv_istore (lv' := [(7, .int 0), (5, .long 1), (3, .long 0), (0, .ref b), (1, .long mb)]) hx hb dS_oddCases_25 hl (by decide) rfl (fun ls hl => ?_)
    refine fm_loop (head := 27) (maxL := 12) (cn 3) (fun i (u : Int64 × Int64) M1 => M1 = M ∧ u = fs_oe od mb i) (fun i (u : Int64 × Int64) => [(7, .int (nI i)), (0, .ref b), (1, .long mb), (3, .long u.1), (5, .long u.2)]) ?_ ?_ (cn 3) 0 (Nat.zero_add _) (0, 1) M _ _ ls ⟨rfl, rfl⟩ hW (lv_sub hl [0, 3, 4, 2, 1] rfl)
    · intro i u M_5 H locs ls hi hI hW hl back
      have hl : lv_has ls 12 [(7, .int (nI i)), (0, .ref b), (1, .long mb), (3, .long u.1), (5, .long u.2)] := hl
      obtain ⟨u1, u2⟩ := u
      have hW : fm_W D fs_cl5 A M s.heap H locs := by rw [← hI.1]; exact hW
      have hU : (u1, u2) = fs_oe od mb i := hI.2
      have hl : lv_has ls 12 [(7, .int (nI i)), (0, .ref b), (1, .long mb), (3, .long u1), (5, .long u2)] := hl
      refine lv_iload hx hb dS_oddCases_27 (lv_at hl 0 rfl) ?_
      refine lv_aload_n hx hb dS_oddCases_29 rfl (lv_at hl 1 rfl) ?_
      refine fm_get (ci := 3) (v := .int (nI (cn 3))) (C := RS) (T := TS) (N := 11) hx hb hT inS hown hK hW hC.1 rfl 9 (by decide) (hT _ fl_S_56) (fun _ h9 => h9) rfl dS_oddCases_30 ?_
      refine lv_icmp_ge (tgt := 99) hx hb dS_oddCases_33 (by decide) (fun c_6 => ?_) (fun c_6 => ?_)
      · exact absurd c_6 (nI_ge hi (by omega))
      · refine lv_lload_n hx hb dS_oddCases_36 rfl (lv_at hl 2 rfl) ?_
        refine lv_iload hx hb dS_oddCases_37 (lv_at hl 0 rfl) ?_
        refine fm_calli (va_runS (As := [.long mb, .int (nI i)]) (rest := []) ⟨hx, hb, hml, hown, hts⟩ (c_S_has l D ct A M mb i (by omega)) ⟨callB_of 2 hts (fs_gin co_S_has) rfl rfl rfl (hT _ ini_S) (hT _ ml_S_94) (by decide +kernel) ⟨Nat.le_of_ble_eq_true rfl, Nat.le_of_ble_eq_true rfl⟩, hT _ st_S_has⟩ (fn_pre fs_isnw hK hN hW) rfl rfl hl.1 rfl (lv_room (Nat.le_of_ble_eq_true rfl)) dS_oddCases_39 ⟨Nat.le_of_ble_eq_true rfl, Nat.le_of_ble_eq_true rfl⟩) hW (fun r_7 M_8 H locs hp_9 hW => ?_)
        have hW : fm_W D fs_cl5 A M s.heap H locs := by rw [← hp_9.2]; exact hW
        have er_7 := hp_9.1
        refine lv_if_eq (tgt := 93) hx hb dS_oddCases_42 (by decide) (fun c_10 => ?_) (fun c_10 => ?_)
        · have hf : bl mb i = false := (fs_b_eq0 _).mp (er_7.symm.trans c_10)
          refine lv_iinc (v := nI (i + 1)) (lv' := [(7, .int (nI (i + 1))), (0, .ref b), (1, .long mb), (3, .long u1), (5, .long u2)]) hx hb dS_oddCases_93 hl (k := 0) rfl (nI_1 i) (by decide) rfl (fun ls hl => ?_)
          refine lv_goto (tgt := 27) hx hb dS_oddCases_96 (by decide) ?_
          exact back (u1, u2) _ _ _ ls ⟨rfl, hU.trans (if_neg (by rw [hf]; decide)).symm⟩ hW (lv_sub hl [0, 1, 2, 3, 4] rfl)
        · have ht : bl mb i = true := fs_ndf _ (fun z => c_10 (by rw [er_7, z]; rfl))
          refine lv_aload_n hx hb dS_oddCases_45 rfl (lv_at hl 1 rfl) ?_
          refine fm_get (ci := 3) (v := .ref (b + 27)) (C := RS) (T := TS) (N := 11) hx hb hT inS hown hK hW hC.1 rfl 3 (by decide) (hT _ fl_S_26) (fun _ h9 => h9) rfl dS_oddCases_46 ?_
          refine lv_iload hx hb dS_oddCases_49 (lv_at hl 0 rfl) ?_
          refine fm_aald hx hb hK hW 4 hC.2.2.2.2.1 rfl (vp_in_nI (N := 40) (by omega) (by decide)) (fs_rf_at (by omega)) dS_oddCases_51 ?_
          refine fm_getN (ci := 2) (v := .int (od i)) (C := RF) (T := TF) (N := 4) hx hb hT inF hown hK hW (hC.2.2.2.2.2.1 i (by omega)) rfl 1 (by decide) (hN _ (List.mem_of_getElem? (i := 11) rfl)) (fun _ h9 => h9) rfl dS_oddCases_52 ?_
          refine lv_i2l (v := (od i).toInt64) hx hb dS_oddCases_55 rfl ?_
          refine lv_topl (fun x_11 ex_11 => ?_)
          refine lv_lstore (lv' := [(8, .long x_11), (7, .int (nI i)), (0, .ref b), (1, .long mb), (3, .long u1), (5, .long u2)]) hx hb dS_oddCases_56 hl (by decide) rfl (fun ls hl => ?_)
          refine lv_lload_n hx hb dS_oddCases_58 rfl (lv_at hl 4 rfl) ?_
          refine lv_ldc2 hx hb hown (hT _ cn_S_156) dS_oddCases_59 ?_
          refine lv_lload hx hb dS_oddCases_62 (lv_at hl 0 rfl) ?_
          refine lv_lsub hx hb dS_oddCases_64 ?_
          refine lv_lmul hx hb dS_oddCases_65 ?_
          refine lv_lload hx hb dS_oddCases_66 (lv_at hl 5 rfl) ?_
          refine lv_lload hx hb dS_oddCases_68 (lv_at hl 0 rfl) ?_
          refine lv_lmul hx hb dS_oddCases_70 ?_
          refine lv_ladd hx hb dS_oddCases_71 ?_
          refine lv_topl (fun x_12 ex_12 => ?_)
          refine lv_lstore (lv' := [(10, .long x_12), (8, .long x_11), (7, .int (nI i)), (0, .ref b), (1, .long mb), (3, .long u1), (5, .long u2)]) hx hb dS_oddCases_72 hl (by decide) rfl (fun ls hl => ?_)
          refine lv_lload hx hb dS_oddCases_74 (lv_at hl 6 rfl) ?_
          refine lv_ldc2 hx hb hown (hT _ cn_S_156) dS_oddCases_76 ?_
          refine lv_lload hx hb dS_oddCases_79 (lv_at hl 1 rfl) ?_
          refine lv_lsub hx hb dS_oddCases_81 ?_
          refine lv_lmul hx hb dS_oddCases_82 ?_
          refine lv_lload_n hx hb dS_oddCases_83 rfl (lv_at hl 5 rfl) ?_
          refine lv_lload hx hb dS_oddCases_84 (lv_at hl 1 rfl) ?_
          refine lv_lmul hx hb dS_oddCases_86 ?_
          refine lv_ladd hx hb dS_oddCases_87 ?_
          refine lv_topl (fun x_13 ex_13 => ?_)
          refine lv_lstore (lv' := [(5, .long x_13), (10, .long x_12), (8, .long x_11), (7, .int (nI i)), (0, .ref b), (1, .long mb), (3, .long u1)]) hx hb dS_oddCases_88 hl (by decide) rfl (fun ls hl => ?_)
          refine lv_lload hx hb dS_oddCases_90 (lv_at hl 1 rfl) ?_
          refine lv_lstore_n (lv' := [(3, .long x_12), (5, .long x_13), (10, .long x_12), (8, .long x_11), (7, .int (nI i)), (0, .ref b), (1, .long mb)]) hx hb dS_oddCases_92 rfl hl (by decide) rfl (fun ls hl => ?_)
          have hU2 : (x_12, x_13) = fs_oe od mb (i + 1) := by
            rw [show fs_oe od mb (i + 1) = _ from if_pos ht, ← hU]
            subst ex_13
            subst ex_12
            subst ex_11
            rfl
          refine lv_iinc (v := nI (i + 1)) (lv' := [(7, .int (nI (i + 1))), (3, .long x_12), (5, .long x_13), (10, .long x_12), (8, .long x_11), (0, .ref b), (1, .long mb)]) hx hb dS_oddCases_93 hl (k := 4) rfl (nI_1 i) (by decide) rfl (fun ls hl => ?_)
          refine lv_goto (tgt := 27) hx hb dS_oddCases_96 (by decide) ?_
          exact back (x_12, x_13) _ _ _ ls ⟨rfl, hU2⟩ hW (lv_sub hl [0, 5, 6, 1, 2] rfl)
    · intro u M_14 H locs ls hI hW hl
      have hl : lv_has ls 12 [(7, .int (nI (cn 3))), (0, .ref b), (1, .long mb), (3, .long u.1), (5, .long u.2)] := hl
      obtain ⟨u1, u2⟩ := u
      have hW : fm_W D fs_cl5 A M s.heap H locs := by rw [← hI.1]; exact hW
      have hU : (u1, u2) = fs_oe od mb (cn 3) := hI.2
      have hl : lv_has ls 12 [(7, .int (nI (cn 3))), (0, .ref b), (1, .long mb), (3, .long u1), (5, .long u2)] := hl
      refine lv_iload hx hb dS_oddCases_27 (lv_at hl 0 rfl) ?_
      refine lv_aload_n hx hb dS_oddCases_29 rfl (lv_at hl 1 rfl) ?_
      refine fm_get (ci := 3) (v := .int (nI (cn 3))) (C := RS) (T := TS) (N := 11) hx hb hT inS hown hK hW hC.1 rfl 9 (by decide) (hT _ fl_S_56) (fun _ h9 => h9) rfl dS_oddCases_30 ?_
      refine lv_icmp_ge (tgt := 99) hx hb dS_oddCases_33 (by decide) (fun c_15 => ?_) (fun c_15 => ?_)
      · refine lv_lload_n hx hb dS_oddCases_99 rfl (lv_at hl 3 rfl) ?_
        exact fm_lret hx hb hr hlocks hW ⟨congrArg Prod.fst hU, rfl⟩ dS_oddCases_100
      · exact absurd (nI_le (Nat.le_refl (cn 3)) (by omega)) c_15
  · exact absurd (er_1 ▸ h15) c_4
set_option maxHeartbeats 4000000 in
set_option maxRecDepth 100000 in
theorem c_S_oddsNumerator (l : Launch) (D : va_G) (ct : Nat → ClassId) (A : Nat → Prop) (M : fm_M) (b : Nat) (cn : Nat → Nat) (kp pn : Nat → fs_Q) (pr : fs_Q) (lc : Nat → Int32) (lr : Nat → Int64) (fr : Nat → fs_Q) (od : Nat → Int32) (cl : Nat → Int64) (ck : Nat → Int32) (cc : Nat → Int32) (cr : Nat → Int64) (mb : Int64) (hC : fs_CW ct M b cn kp pn pr lc lr fr od cl ck cc cr) (hB : fs_Bd cn) (h15 : fs_bcl mb ≤ 15) : Met l yS_oddsNumerator wS_oddsNumerator ({ frames := 3, cells := 0, slots := 0, locals := 66 }) (va_Pc [.ref b, .long mb] (fm_St D fs_cl5 (fs_tys ct) fs_nw A M)) (va_Ql (fun (r : Int64) (M1 : fm_M) => r = fs_ushl (fs_oe od mb (cn 3)).1 (fs_sh (fs_oe od mb (cn 3)).1 mb) ∧ M1 = M) (fm_B D fs_cl5 A) A) 0 0 A := by
  refine Met.ofW (cc := cS_oddsNumerator) (maxL := 5) (ret := (some .long)) (by decide) rfl ?_
  intro p e s m args below meth c s₁ B hml hv
  obtain ⟨rfl, hP0, hA0, hA1, hK, hN⟩ := hv
  have hx := B.exec
  have hb := B.bytes
  have hr := B.returns
  have hts := atoms_spec (ws := wS_oddsNumerator) B.pre
  have hT : ∀ w ∈ fs_tb, w.before _ s = true := fun w h => hts w (List.mem_cons_of_mem _ h)
  have hown : s.vm.findClass "FrameSamples" = some m.cls := findClass_of_methodNamed B.named
  have hlocks := B.notSynchronized
  have hW : fm_W D fs_cl5 A M s.heap s.heap [] := ⟨hP0, hA0, va_S.rf, hA1⟩
  have hl := lv_entry ([.ref b, .long mb]) (n := 5) (Nat.le_of_ble_eq_true rfl)
  rw [lg_entry_eq]
  generalize (lg_sl ([.ref b, .long mb]) ++ List.replicate (5 - (lg_sl ([.ref b, .long mb])).length) Slot.unset).toArray = ls at hl ⊢
  have hl : lv_has ls 5 [(0, .ref b), (1, .long mb)] := hl
  obtain ⟨hB0, hB1, hB2, hB3, hB4, hB5⟩ := hB
  have hCf : fs_Cf b M M := fs_Cf_r
  refine lv_aload_n hx hb dS_oddsNumerator_0 rfl (lv_at hl 0 rfl) ?_
  refine lv_lload_n hx hb dS_oddsNumerator_1 rfl (lv_at hl 1 rfl) ?_
  refine fm_calll (va_runV (As := [.long mb]) (rest := []) ⟨hx, hb, hml, hown, hts⟩ (c_S_oddCases l D ct A M b cn kp pn pr lc lr fr od cl ck cc cr mb hC ⟨hB0, hB1, hB2, hB3, hB4, hB5⟩ h15) ⟨callB_of 1 hts (fs_gin co_S_oddCases) rfl rfl rfl (hT _ ini_S) (hT _ ml_S_158) (by decide +kernel) ⟨Nat.le_of_ble_eq_true rfl, Nat.le_of_ble_eq_true rfl⟩, hT _ im_S_oddCases, hT _ se_S_oddCases⟩ (fn_preV fs_isnw hK hN hW hC.1 rfl) rfl rfl hl.1 rfl (lv_room (Nat.le_of_ble_eq_true rfl)) dS_oddsNumerator_2 ⟨Nat.le_of_ble_eq_true rfl, Nat.le_of_ble_eq_true rfl⟩) hW (fun r_1 M_2 H locs hp_3 hW => ?_)
  have hW : fm_W D fs_cl5 A M s.heap H locs := by rw [← hp_3.2]; exact hW
  have er_1 := hp_3.1
  refine lv_lstore_n (lv' := [(3, .long r_1), (0, .ref b), (1, .long mb)]) hx hb dS_oddsNumerator_5 rfl hl (by decide) rfl (fun ls hl => ?_)
  refine lv_lload_n hx hb dS_oddsNumerator_6 rfl (lv_at hl 0 rfl) ?_
  refine lv_lload_n hx hb dS_oddsNumerator_7 rfl (lv_at hl 0 rfl) ?_
  refine lv_lload_n hx hb dS_oddsNumerator_8 rfl (lv_at hl 2 rfl) ?_
  refine fm_calli (va_runS (As := [.long r_1, .long mb]) (rest := [.long r_1]) ⟨hx, hb, hml, hown, hts⟩ (c_S_sharedTwos l D ct A M r_1 mb) ⟨callB_of 2 hts (fs_gin co_S_sharedTwos) rfl rfl rfl (hT _ ini_S) (hT _ ml_S_161) (by decide +kernel) ⟨Nat.le_of_ble_eq_true rfl, Nat.le_of_ble_eq_true rfl⟩, hT _ st_S_sharedTwos⟩ (fn_pre fs_isnw hK hN hW) rfl rfl hl.1 rfl (lv_room (Nat.le_of_ble_eq_true rfl)) dS_oddsNumerator_9 ⟨Nat.le_of_ble_eq_true rfl, Nat.le_of_ble_eq_true rfl⟩) hW (fun r_4 M_5 H locs hp_6 hW => ?_)
  have hW : fm_W D fs_cl5 A M s.heap H locs := by rw [← hp_6.2]; exact hW
  have er_4 := hp_6.1
  refine lv_lushr (v := fs_ushl r_1 r_4) hx hb dS_oddsNumerator_12 rfl ?_
  exact fm_lret hx hb hr hlocks hW ⟨by subst er_4; subst er_1; rfl, rfl⟩ dS_oddsNumerator_13
set_option maxHeartbeats 4000000 in
set_option maxRecDepth 100000 in
theorem c_S_oddsExponent (l : Launch) (D : va_G) (ct : Nat → ClassId) (A : Nat → Prop) (M : fm_M) (b : Nat) (cn : Nat → Nat) (kp pn : Nat → fs_Q) (pr : fs_Q) (lc : Nat → Int32) (lr : Nat → Int64) (fr : Nat → fs_Q) (od : Nat → Int32) (cl : Nat → Int64) (ck : Nat → Int32) (cc : Nat → Int32) (cr : Nat → Int64) (mb : Int64) (hC : fs_CW ct M b cn kp pn pr lc lr fr od cl ck cc cr) (hB : fs_Bd cn) (h15 : fs_bcl mb ≤ 15) : Met l yS_oddsExponent wS_oddsExponent ({ frames := 3, cells := 0, slots := 0, locals := 66 }) (va_Pc [.ref b, .long mb] (fm_St D fs_cl5 (fs_tys ct) fs_nw A M)) (va_Ql (fun (r : Int64) (M1 : fm_M) => r = (4 * fs_bcl mb - fs_sh (fs_oe od mb (cn 3)).1 mb).toInt64 ∧ M1 = M) (fm_B D fs_cl5 A) A) 0 0 A := by
  refine Met.ofW (cc := cS_oddsExponent) (maxL := 5) (ret := (some .long)) (by decide) rfl ?_
  intro p e s m args below meth c s₁ B hml hv
  obtain ⟨rfl, hP0, hA0, hA1, hK, hN⟩ := hv
  have hx := B.exec
  have hb := B.bytes
  have hr := B.returns
  have hts := atoms_spec (ws := wS_oddsExponent) B.pre
  have hT : ∀ w ∈ fs_tb, w.before _ s = true := fun w h => hts w (List.mem_cons_of_mem _ h)
  have hown : s.vm.findClass "FrameSamples" = some m.cls := findClass_of_methodNamed B.named
  have hlocks := B.notSynchronized
  have hW : fm_W D fs_cl5 A M s.heap s.heap [] := ⟨hP0, hA0, va_S.rf, hA1⟩
  have hl := lv_entry ([.ref b, .long mb]) (n := 5) (Nat.le_of_ble_eq_true rfl)
  rw [lg_entry_eq]
  generalize (lg_sl ([.ref b, .long mb]) ++ List.replicate (5 - (lg_sl ([.ref b, .long mb])).length) Slot.unset).toArray = ls at hl ⊢
  have hl : lv_has ls 5 [(0, .ref b), (1, .long mb)] := hl
  obtain ⟨hB0, hB1, hB2, hB3, hB4, hB5⟩ := hB
  have hCf : fs_Cf b M M := fs_Cf_r
  refine lv_aload_n hx hb dS_oddsExponent_0 rfl (lv_at hl 0 rfl) ?_
  refine lv_lload_n hx hb dS_oddsExponent_1 rfl (lv_at hl 1 rfl) ?_
  refine fm_calll (va_runV (As := [.long mb]) (rest := []) ⟨hx, hb, hml, hown, hts⟩ (c_S_oddCases l D ct A M b cn kp pn pr lc lr fr od cl ck cc cr mb hC ⟨hB0, hB1, hB2, hB3, hB4, hB5⟩ h15) ⟨callB_of 1 hts (fs_gin co_S_oddCases) rfl rfl rfl (hT _ ini_S) (hT _ ml_S_158) (by decide +kernel) ⟨Nat.le_of_ble_eq_true rfl, Nat.le_of_ble_eq_true rfl⟩, hT _ im_S_oddCases, hT _ se_S_oddCases⟩ (fn_preV fs_isnw hK hN hW hC.1 rfl) rfl rfl hl.1 rfl (lv_room (Nat.le_of_ble_eq_true rfl)) dS_oddsExponent_2 ⟨Nat.le_of_ble_eq_true rfl, Nat.le_of_ble_eq_true rfl⟩) hW (fun r_1 M_2 H locs hp_3 hW => ?_)
  have hW : fm_W D fs_cl5 A M s.heap H locs := by rw [← hp_3.2]; exact hW
  have er_1 := hp_3.1
  refine lv_lstore_n (lv' := [(3, .long r_1), (0, .ref b), (1, .long mb)]) hx hb dS_oddsExponent_5 rfl hl (by decide) rfl (fun ls hl => ?_)
  refine lv_iconst (v := 4) hx hb dS_oddsExponent_6 (by decide) ?_
  refine lv_lload_n hx hb dS_oddsExponent_7 rfl (lv_at hl 2 rfl) ?_
  refine fm_calli (va_runS (As := [.long mb]) (rest := [.int 4]) ⟨hx, hb, hml, hown, hts⟩ (c_JL_bitCount l D ct A M mb) ⟨callB_of 1 hts (fs_gin co_JL_bitCount) rfl rfl rfl (hT _ ini_JL) (hT _ ml_S_138) (by decide +kernel) ⟨Nat.le_of_ble_eq_true rfl, Nat.le_of_ble_eq_true rfl⟩, hT _ st_JL_bitCount⟩ (fn_pre fs_isnw hK hN hW) rfl rfl hl.1 rfl (lv_room (Nat.le_of_ble_eq_true rfl)) dS_oddsExponent_8 ⟨Nat.le_of_ble_eq_true rfl, Nat.le_of_ble_eq_true rfl⟩) hW (fun r_4 M_5 H locs hp_6 hW => ?_)
  have hW : fm_W D fs_cl5 A M s.heap H locs := by rw [← hp_6.2]; exact hW
  have er_4 := hp_6.1
  refine lv_imul hx hb dS_oddsExponent_11 ?_
  refine lv_lload_n hx hb dS_oddsExponent_12 rfl (lv_at hl 0 rfl) ?_
  refine lv_lload_n hx hb dS_oddsExponent_13 rfl (lv_at hl 2 rfl) ?_
  refine fm_calli (va_runS (As := [.long r_1, .long mb]) (rest := [.int (4 * r_4)]) ⟨hx, hb, hml, hown, hts⟩ (c_S_sharedTwos l D ct A M r_1 mb) ⟨callB_of 2 hts (fs_gin co_S_sharedTwos) rfl rfl rfl (hT _ ini_S) (hT _ ml_S_161) (by decide +kernel) ⟨Nat.le_of_ble_eq_true rfl, Nat.le_of_ble_eq_true rfl⟩, hT _ st_S_sharedTwos⟩ (fn_pre fs_isnw hK hN hW) rfl rfl hl.1 rfl (lv_room (Nat.le_of_ble_eq_true rfl)) dS_oddsExponent_14 ⟨Nat.le_of_ble_eq_true rfl, Nat.le_of_ble_eq_true rfl⟩) hW (fun r_7 M_8 H locs hp_9 hW => ?_)
  have hW : fm_W D fs_cl5 A M s.heap H locs := by rw [← hp_9.2]; exact hW
  have er_7 := hp_9.1
  refine lv_isub hx hb dS_oddsExponent_17 ?_
  refine lv_i2l (v := ((4 * r_4) - r_7).toInt64) hx hb dS_oddsExponent_18 rfl ?_
  exact fm_lret hx hb hr hlocks hW ⟨by subst er_7; subst er_4; subst er_1; rfl, rfl⟩ dS_oddsExponent_19
set_option maxHeartbeats 4000000 in
set_option maxRecDepth 100000 in
theorem c_S_edge (l : Launch) (D : va_G) (ct : Nat → ClassId) (A : Nat → Prop) (M : fm_M) (b : Nat) (cn : Nat → Nat) (kp pn : Nat → fs_Q) (pr : fs_Q) (lc : Nat → Int32) (lr : Nat → Int64) (fr : Nat → fs_Q) (od : Nat → Int32) (cl : Nat → Int64) (ck : Nat → Int32) (cc : Nat → Int32) (cr : Nat → Int64) (lk wh : Int32) (hC : fs_CW ct M b cn kp pn pr lc lr fr od cl ck cc cr) (hB : fs_Bd cn) (h15 : (wh = 2 ∨ wh = 3) → ∀ g, g < cn 3 → fs_isb ck g = true → nI (fs_ce ck g) = lk → fs_pc 64 (fs_uN (fs_mem ck (ck g) (cn 3))) ≤ 15) : Met l yS_edge wS_edge ({ frames := 4, cells := 0, slots := 0, locals := 90 }) (va_Pc [.ref b, .int lk, .int wh] (fm_St D fs_cl5 (fs_tys ct) fs_nw A M)) (va_Ql (fun (r : Int64) (M1 : fm_M) => M1 = M ∧ fs_ER (cn 3) ck od lk wh 0 r) (fm_B D fs_cl5 A) A) 0 0 A := by
  refine Met.ofW (cc := cS_edge) (maxL := 6) (ret := (some .long)) (by decide) rfl ?_
  intro p e s m args below meth c s₁ B hml hv
  obtain ⟨rfl, hP0, hA0, hA1, hK, hN⟩ := hv
  have hx := B.exec
  have hb := B.bytes
  have hr := B.returns
  have hts := atoms_spec (ws := wS_edge) B.pre
  have hT : ∀ w ∈ fs_tb, w.before _ s = true := fun w h => hts w (List.mem_cons_of_mem _ h)
  have hown : s.vm.findClass "FrameSamples" = some m.cls := findClass_of_methodNamed B.named
  have hlocks := B.notSynchronized
  have hW : fm_W D fs_cl5 A M s.heap s.heap [] := ⟨hP0, hA0, va_S.rf, hA1⟩
  have hl := lv_entry ([.ref b, .int lk, .int wh]) (n := 6) (Nat.le_of_ble_eq_true rfl)
  rw [lg_entry_eq]
  generalize (lg_sl ([.ref b, .int lk, .int wh]) ++ List.replicate (6 - (lg_sl ([.ref b, .int lk, .int wh])).length) Slot.unset).toArray = ls at hl ⊢
  have hl : lv_has ls 6 [(0, .ref b), (1, .int lk), (2, .int wh)] := hl
  obtain ⟨hB0, hB1, hB2, hB3, hB4, hB5⟩ := hB
  have hCf : fs_Cf b M M := fs_Cf_r
  refine lv_aload_n hx hb dS_edge_0 rfl (lv_at hl 0 rfl) ?_
  refine lv_iload_n hx hb dS_edge_1 rfl (lv_at hl 1 rfl) ?_
  refine fm_calli (va_runV (As := [.int lk]) (rest := []) ⟨hx, hb, hml, hown, hts⟩ (c_S_firstFaultOfEdge l D ct A M b cn kp pn pr lc lr fr od cl ck cc cr lk hC ⟨hB0, hB1, hB2, hB3, hB4, hB5⟩) ⟨callB_of 1 hts (fs_gin co_S_firstFaultOfEdge) rfl rfl rfl (hT _ ini_S) (hT _ ml_S_110) (by decide +kernel) ⟨Nat.le_of_ble_eq_true rfl, Nat.le_of_ble_eq_true rfl⟩, hT _ im_S_firstFaultOfEdge, hT _ se_S_firstFaultOfEdge⟩ (fn_preV fs_isnw hK hN hW hC.1 rfl) rfl rfl hl.1 rfl (lv_room (Nat.le_of_ble_eq_true rfl)) dS_edge_2 ⟨Nat.le_of_ble_eq_true rfl, Nat.le_of_ble_eq_true rfl⟩) hW (fun r_1 M_2 H locs hp_3 hW => ?_)
  have hW : fm_W D fs_cl5 A M s.heap H locs := by rw [← hp_3.2]; exact hW
  rcases hp_3.1 with ⟨er, hno⟩ | ⟨g, g1, g2, g3, er⟩
  · subst er
    refine lv_istore_n (lv' := [(3, .int (-1)), (0, .ref b), (1, .int lk), (2, .int wh)]) hx hb dS_edge_5 rfl hl (by decide) rfl (fun ls hl => ?_)
    refine lv_iload_n hx hb dS_edge_6 rfl (lv_at hl 0 rfl) ?_
    refine lv_iconst (v := -1) hx hb dS_edge_7 (by decide) ?_
    refine lv_icmp_ne (tgt := 15) hx hb dS_edge_8 (by decide) (fun c_4 => ?_) (fun c_4 => ?_)
    · exact absurd rfl c_4
    · refine lv_ldc2 hx hb hown (hT _ cn_S_102) dS_edge_11 ?_
      exact fm_lret hx hb hr hlocks hW ⟨rfl, Or.inl ⟨hno, rfl, rfl⟩⟩ dS_edge_14
  · subst er
    refine lv_istore_n (lv' := [(3, .int (nI g)), (0, .ref b), (1, .int lk), (2, .int wh)]) hx hb dS_edge_5 rfl hl (by decide) rfl (fun ls hl => ?_)
    refine lv_iload_n hx hb dS_edge_6 rfl (lv_at hl 0 rfl) ?_
    refine lv_iconst (v := -1) hx hb dS_edge_7 (by decide) ?_
    refine lv_icmp_ne (tgt := 15) hx hb dS_edge_8 (by decide) (fun c_5 => ?_) (fun c_5 => ?_)
    · refine lv_aload_n hx hb dS_edge_15 rfl (lv_at hl 1 rfl) ?_
      refine lv_iload_n hx hb dS_edge_16 rfl (lv_at hl 0 rfl) ?_
      refine fm_calll (va_runV (As := [.int (nI g)]) (rest := []) ⟨hx, hb, hml, hown, hts⟩ (c_S_faultsLike l D ct A M b cn kp pn pr lc lr fr od cl ck cc cr g hC ⟨hB0, hB1, hB2, hB3, hB4, hB5⟩ g1) ⟨callB_of 1 hts (fs_gin co_S_faultsLike) rfl rfl rfl (hT _ ini_S) (hT _ ml_S_114) (by decide +kernel) ⟨Nat.le_of_ble_eq_true rfl, Nat.le_of_ble_eq_true rfl⟩, hT _ im_S_faultsLike, hT _ se_S_faultsLike⟩ (fn_preV fs_isnw hK hN hW hC.1 rfl) rfl rfl hl.1 rfl (lv_room (Nat.le_of_ble_eq_true rfl)) dS_edge_17 ⟨Nat.le_of_ble_eq_true rfl, Nat.le_of_ble_eq_true rfl⟩) hW (fun r_6 M_7 H locs hp_8 hW => ?_)
      have hW : fm_W D fs_cl5 A M s.heap H locs := by rw [← hp_8.2]; exact hW
      have er_6 := hp_8.1
      refine lv_lstore (lv' := [(4, .long r_6), (3, .int (nI g)), (0, .ref b), (1, .int lk), (2, .int wh)]) hx hb dS_edge_20 hl (by decide) rfl (fun ls hl => ?_)
      refine lv_iload_n hx hb dS_edge_22 rfl (lv_at hl 4 rfl) ?_
      by_cases hk0 : wh = 0
      · subst hk0
        refine lv_tableIn (off := 29) (tgt := 52) hx hb dS_edge_23 (by decide) (by decide) rfl (by decide) ?_
        refine lv_aload_n hx hb dS_edge_52 rfl (lv_at hl 2 rfl) ?_
        refine fm_get (ci := 3) (v := .ref (b + 27)) (C := RS) (T := TS) (N := 11) hx hb hT inS hown hK hW hC.1 rfl 3 (by decide) (hT _ fl_S_26) (fun _ h9 => h9) rfl dS_edge_53 ?_
        refine lv_iload_n hx hb dS_edge_56 rfl (lv_at hl 1 rfl) ?_
        refine fm_aald hx hb hK hW 4 hC.2.2.2.2.1 rfl (vp_in_nI (N := 40) (by omega) (by decide)) (fs_rf_at (by omega)) dS_edge_57 ?_
        refine fm_getN (ci := 2) (v := .int (ck g)) (C := RF) (T := TF) (N := 4) hx hb hT inF hown hK hW (hC.2.2.2.2.2.1 g (by omega)) rfl 3 (by decide) (hN _ (List.mem_of_getElem? (i := 13) rfl)) (fun _ h9 => h9) rfl dS_edge_58 ?_
        refine lv_i2l (v := (ck g).toInt64) hx hb dS_edge_61 rfl ?_
        exact fm_lret hx hb hr hlocks hW ⟨rfl, Or.inr ⟨g, g1, g2, g3, Or.inl ⟨rfl, rfl, rfl⟩⟩⟩ dS_edge_62
      by_cases hk1 : wh = 1
      · subst hk1
        refine lv_tableIn (off := 40) (tgt := 63) hx hb dS_edge_23 (by decide) (by decide) rfl (by decide) ?_
        refine lv_lload hx hb dS_edge_63 (lv_at hl 0 rfl) ?_
        exact fm_lret hx hb hr hlocks hW ⟨rfl, Or.inr ⟨g, g1, g2, g3, Or.inr (Or.inl ⟨rfl, rfl, er_6⟩)⟩⟩ dS_edge_65
      by_cases hk2 : wh = 2
      · subst hk2
        refine lv_tableIn (off := 43) (tgt := 66) hx hb dS_edge_23 (by decide) (by decide) rfl (by decide) ?_
        refine lv_aload_n hx hb dS_edge_66 rfl (lv_at hl 2 rfl) ?_
        refine lv_lload hx hb dS_edge_67 (lv_at hl 0 rfl) ?_
        have h15b := h15 (by decide) g g1 g2 g3
        rw [← er_6] at h15b
        have h15c : fs_bcl r_6 ≤ 15 := by rw [fs_bcl_pc]; exact nI_le (b := 15) h15b (by decide)
        refine fm_calll (va_runV (As := [.long r_6]) (rest := []) ⟨hx, hb, hml, hown, hts⟩ (c_S_oddsNumerator l D ct A M b cn kp pn pr lc lr fr od cl ck cc cr r_6 hC ⟨hB0, hB1, hB2, hB3, hB4, hB5⟩ h15c) ⟨callB_of 1 hts (fs_gin co_S_oddsNumerator) rfl rfl rfl (hT _ ini_S) (hT _ ml_S_118) (by decide +kernel) ⟨Nat.le_of_ble_eq_true rfl, Nat.le_of_ble_eq_true rfl⟩, hT _ im_S_oddsNumerator, hT _ se_S_oddsNumerator⟩ (fn_preV fs_isnw hK hN hW hC.1 rfl) rfl rfl hl.1 rfl (lv_room (Nat.le_of_ble_eq_true rfl)) dS_edge_69 ⟨Nat.le_of_ble_eq_true rfl, Nat.le_of_ble_eq_true rfl⟩) hW (fun r_9 M_10 H locs hp_11 hW => ?_)
        have hW : fm_W D fs_cl5 A M s.heap H locs := by rw [← hp_11.2]; exact hW
        have hv : r_9 = fs_vC od (fs_mem ck (ck g) (cn 3)) (cn 3) 2 := by rw [hp_11.1, er_6]; rfl
        rw [er_6] at h15b
        exact fm_lret hx hb hr hlocks hW ⟨rfl, Or.inr ⟨g, g1, g2, g3, Or.inr (Or.inr (Or.inl ⟨by decide, h15b, rfl, hv⟩))⟩⟩ dS_edge_72
      by_cases hk3 : wh = 3
      · subst hk3
        refine lv_tableIn (off := 50) (tgt := 73) hx hb dS_edge_23 (by decide) (by decide) rfl (by decide) ?_
        refine lv_aload_n hx hb dS_edge_73 rfl (lv_at hl 2 rfl) ?_
        refine lv_lload hx hb dS_edge_74 (lv_at hl 0 rfl) ?_
        have h15b := h15 (by decide) g g1 g2 g3
        rw [← er_6] at h15b
        have h15c : fs_bcl r_6 ≤ 15 := by rw [fs_bcl_pc]; exact nI_le (b := 15) h15b (by decide)
        refine fm_calll (va_runV (As := [.long r_6]) (rest := []) ⟨hx, hb, hml, hown, hts⟩ (c_S_oddsExponent l D ct A M b cn kp pn pr lc lr fr od cl ck cc cr r_6 hC ⟨hB0, hB1, hB2, hB3, hB4, hB5⟩ h15c) ⟨callB_of 1 hts (fs_gin co_S_oddsExponent) rfl rfl rfl (hT _ ini_S) (hT _ ml_S_122) (by decide +kernel) ⟨Nat.le_of_ble_eq_true rfl, Nat.le_of_ble_eq_true rfl⟩, hT _ im_S_oddsExponent, hT _ se_S_oddsExponent⟩ (fn_preV fs_isnw hK hN hW hC.1 rfl) rfl rfl hl.1 rfl (lv_room (Nat.le_of_ble_eq_true rfl)) dS_edge_76 ⟨Nat.le_of_ble_eq_true rfl, Nat.le_of_ble_eq_true rfl⟩) hW (fun r_12 M_13 H locs hp_14 hW => ?_)
        have hW : fm_W D fs_cl5 A M s.heap H locs := by rw [← hp_14.2]; exact hW
        have hv : r_12 = fs_vC od (fs_mem ck (ck g) (cn 3)) (cn 3) 3 := by rw [hp_14.1, er_6]; rfl
        rw [er_6] at h15b
        exact fm_lret hx hb hr hlocks hW ⟨rfl, Or.inr ⟨g, g1, g2, g3, Or.inr (Or.inr (Or.inl ⟨by decide, h15b, rfl, hv⟩))⟩⟩ dS_edge_79
      refine lv_tableOut (tgt := 80) hx hb dS_edge_23 (fs_swo (n := 3) (by decide) (fs_le3 hk0 hk1 hk2 hk3)) (by decide) ?_
      refine lv_ldc2 hx hb hown (hT _ cn_S_102) dS_edge_80 ?_
      exact fm_lret hx hb hr hlocks hW ⟨rfl, Or.inr ⟨g, g1, g2, g3, Or.inr (Or.inr (Or.inr (Or.inr ⟨hk0, hk1, hk2, hk3, rfl, rfl⟩)))⟩⟩ dS_edge_83
    · exact absurd c_5 (fs_nIm1 (by omega))
