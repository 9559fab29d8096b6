-- the reference: looks, and all acts played
section FNZ
variable {p : Program} {l : Launch} {e : Env} {R : Room} {s : State} {m : MethodId} {args : Array Value} {below : List Frame} {meth : Method} {c : Code} {H : Heap} {locs : List Loc} {cells slots : Nat} {Q : State → Prop}
variable {cc : ByteArray} {pc : Nat} {ls : Array Slot} {rest : List Value} {D : va_G} {cl : List vw_C} {A : Nat → Prop} {a : Nat} {tys : List (ClassId × FieldType)} {M : fm_M} {H0 : Heap}
theorem fn_zast (hexec : p.tables.exec = Jvm.exec) (hb : c.code = cc) (hK : va_K D cl tys s) (hW : fm_W D cl A M H0 H locs) (t0 : Nat) {cA : ClassId} {n : Nat} {f : Nat → Int32} (ha : M a = some (.inl (cA, n, .inl f))) (ht : tys[t0]? = some (cA, .boolean)) {i : Nat} (hi : i < n) (hn : n < 2 ^ 31) {x : Int32} (hx : vp_nar .boolean x = x) (hdg : decode cc pc = .ok (.bastore, 1))
    (kk : ∀ (H1 : Heap) (locs1 : List Loc), fm_W D cl A (va_up M a (some (.inl (cA, n, .inl (upd f i x))))) H0 H1 locs1 → W p l e R s m args below meth c H1 locs1 cells slots Q (F0 m (pc + 1) ls rest)) : W p l e R s m args below meth c H locs cells slots Q (F0 m pc ls (.int x :: .int (nI i) :: .ref a :: rest)) :=
  fm_zast hexec hb hK hW t0 ha ht (vp_in_nI hi hn) hdg (by rw [nI_clamp (by omega), hx]; exact kk)
end FNZ
def fs_usd (ia : Nat → Nat → Int32) (i : Nat) : Bool := !decide (ia 14 i = 0)
def fs_so (ia : Nat → Nat → Int32) (la : Nat → Nat → Int64) (ia2 : Nat → Nat → Int32) (la2 : Nat → Nat → Int64) : Prop := (∀ k, k ≠ 8 → k ≠ 9 → k ≠ 10 → k ≠ 14 → ia2 k = ia k) ∧ ∀ k, k ≠ 11 → la2 k = la k
def fs_po (si : Nat → Int32) (ia : Nat → Nat → Int32) (la : Nat → Nat → Int64) (si2 : Nat → Int32) (ia2 : Nat → Nat → Int32) (la2 : Nat → Nat → Int64) : Prop := (∀ k, k ≤ 6 → ia2 k = ia k) ∧ la2 7 = la 7 ∧ si2 0 = si 0
theorem fs_po_r {si : Nat → Int32} {ia : Nat → Nat → Int32} {la : Nat → Nat → Int64} : fs_po si ia la si ia la := ⟨fun _ _ => rfl, rfl, rfl⟩
theorem fs_po_t {si si1 si2 : Nat → Int32} {ia ia1 ia2 : Nat → Nat → Int32} {la la1 la2 : Nat → Nat → Int64} (h : fs_po si ia la si1 ia1 la1) (g : fs_po si1 ia1 la1 si2 ia2 la2) : fs_po si ia la si2 ia2 la2 := ⟨fun k a => (g.1 k a).trans (h.1 k a), g.2.1.trans h.2.1, g.2.2.trans h.2.2⟩
theorem fs_po_ro {si : Nat → Int32} {ia ia2 : Nat → Nat → Int32} {la la2 : Nat → Nat → Int64} (h : fs_ro ia la ia2 la2) : fs_po si ia la si ia2 la2 := ⟨fun k hk => h.1 k (by omega) (by omega) (by omega), h.2 7 (by decide), rfl⟩
theorem fs_usd_0 {ia : Nat → Nat → Int32} {i : Nat} (h : ia 14 i = 0) : fs_usd ia i = false := by unfold fs_usd; rw [decide_eq_true h]; rfl
theorem fs_usd_1 {ia : Nat → Nat → Int32} {i : Nat} (h : ¬ ia 14 i = 0) : fs_usd ia i = true := by unfold fs_usd; rw [decide_eq_false h]; rfl
theorem fs_usd_up {ia ia2 : Nat → Nat → Int32} {q i : Nat} (h : ia2 14 = upd (ia 14) q 1) : fs_usd ia2 i = fs_up (fs_usd ia) q true i := by
  unfold fs_usd fs_up
  rw [h]
  by_cases z : i = q
  · rw [if_pos z, z, pk_us]; decide
  · rw [if_neg z, pk_un z]
theorem fs_ls {P : Nat → Prop} {i : Nat} (h : ∀ q, q < i → P q) (hi : P i) : ∀ q, q < i + 1 → P q := fun q hq => by
  by_cases z : q = i
  · rw [z]; exact hi
  · exact h q (by omega)
theorem fs_up_f {us : Nat → Bool} {q i : Nat} (h : fs_up us q true i = false) : us i = false ∧ i ≠ q := by
  unfold fs_up at h
  by_cases z : i = q
  · rw [if_pos z] at h; cases h
  · rw [if_neg z] at h; exact ⟨h, z⟩
theorem fs_up_t {us : Nat → Bool} {q i : Nat} (h : fs_up us q true i = true) : ¬ (us i = false ∧ i ≠ q) := by
  rintro ⟨h1, h2⟩
  unfold fs_up at h
  rw [if_neg h2, h1] at h
  cases h
set_option maxHeartbeats 4000000 in
set_option maxRecDepth 100000 in
theorem c_M_solve (l : Launch) (D : va_G) (ct : Nat → ClassId) (A : Nat → Prop) (M : fm_M) (b : Nat) (cn : Nat → Nat) (si : Nat → Int32) (sl : Nat → Int64) (ia : Nat → Nat → Int32) (la : Nat → Nat → Int64) (ν α : Nat) (hM : fs_MW ct M b cn si sl ia la) (hB : fs_Bd cn) (hν : ν < 60) (hα : α < 32) : Met l yM_solve wM_solve ({ frames := 3, cells := 0, slots := 0, locals := 71 }) (va_Pc [.ref b, .int (nI ν), .int (nI α)] (fm_St D fs_cl5 (fs_tys ct) fs_nw A M)) (va_Qv (fun (M1 : fm_M) => ∃ (si2 : Nat → Int32) (sl2 : Nat → Int64) (ia2 : Nat → Nat → Int32) (la2 : Nat → Nat → Int64), fs_MW ct M1 b cn si2 sl2 ia2 la2 ∧ fs_Mf b M M1 ∧ fs_po si ia la si2 ia2 la2 ∧ ∃ (us : Nat → Bool) (md : fs_Q), fs_kE (cn 0) α (fs_rw ia la) 20 us (fs_rw ia2 la2) md ∧ ia2 12 = upd (ia 12) ν md.2.2.1 ∧ la2 13 = vp_updL (la 13) ν md.2.2.2) (fm_B D fs_cl5 A) A) 0 0 A := by
  refine Met.ofW (cc := cM_solve) (maxL := 6) (ret := none) (by decide) rfl ?_
  intro p e s m args below meth c s₁ B hml hv
  obtain ⟨rfl, hP0, hA0, hA1, hK, hN⟩ := hv
  have hx := B.exec
  have hb := B.bytes
  have hr := B.returns
  have hts := atoms_spec (ws := wM_solve) B.pre
  have hT : ∀ w ∈ fs_tb, w.before _ s = true := fun w h => hts w (List.mem_cons_of_mem _ h)
  have hown : s.vm.findClass "FrameSamplesModel" = some m.cls := findClass_of_methodNamed B.named
  have hlocks := B.notSynchronized
  have hW : fm_W D fs_cl5 A M s.heap s.heap [] := ⟨hP0, hA0, va_S.rf, hA1⟩
  have hl := lv_entry ([.ref b, .int (nI ν), .int (nI α)]) (n := 6) (Nat.le_of_ble_eq_true rfl)
  rw [lg_entry_eq]
  generalize (lg_sl ([.ref b, .int (nI ν), .int (nI α)]) ++ List.replicate (6 - (lg_sl ([.ref b, .int (nI ν), .int (nI α)])).length) Slot.unset).toArray = ls at hl ⊢
  have hl : lv_has ls 6 [(0, .ref b), (1, .int (nI ν)), (2, .int (nI α))] := hl
  obtain ⟨hB0, hB1, hB2, hB3, hB4, hB5⟩ := hB
  have hMf : fs_Mf b M M := fs_Mf_r
  refine lv_iconst (v := 0) hx hb dM_solve_0 (by decide) ?_
  refine lv_istore_n (lv' := [(3, .int 0), (0, .ref b), (1, .int (nI ν)), (2, .int (nI α))]) hx hb dM_solve_1 rfl hl (by decide) rfl (fun ls hl => ?_)
  refine fm_loop (head := 2) (maxL := 6) (cn 0) (fun i (u : Nat → Nat → Int32) M1 => fs_MW ct M1 b cn si sl u la ∧ fs_Mf b M M1 ∧ (∀ k, k ≠ 14 → u k = ia k) ∧ ∀ j, j < i → u 14 j = 0) (fun i (u : Nat → Nat → Int32) => [(3, .int (nI i)), (0, .ref b), (1, .int (nI ν)), (2, .int (nI α))]) ?_ ?_ (cn 0) 0 (Nat.zero_add _) ia M _ _ ls ⟨hM, hMf, fun _ _ => rfl, fun j hj => absurd hj (Nat.not_lt_zero j)⟩ hW (lv_sub hl [0, 1, 2, 3] rfl)
  · intro i u M_1 H locs ls hi hI hW hl back
    have hl : lv_has ls 6 [(3, .int (nI i)), (0, .ref b), (1, .int (nI ν)), (2, .int (nI α))] := hl
    obtain ⟨hM, hMf, hk, hz⟩ := hI
    refine lv_iload_n hx hb dM_solve_2 rfl (lv_at hl 0 rfl) ?_
    refine lv_aload_n hx hb dM_solve_3 rfl (lv_at hl 1 rfl) ?_
    refine fm_get (ci := 4) (v := .int (nI (cn 0))) (C := RM) (T := TM) (N := 30) hx hb hT inM hown hK hW hM.1 rfl 1 (by decide) (hT _ fl_M_68) (fun _ h9 => h9) rfl dM_solve_4 ?_
    refine lv_icmp_ge (tgt := 23) hx hb dM_solve_7 (by decide) (fun c_2 => ?_) (fun c_2 => ?_)
    · exact absurd c_2 (nI_ge hi (by omega))
    · refine lv_aload_n hx hb dM_solve_10 rfl (lv_at hl 1 rfl) ?_
      refine fm_get (ci := 4) (v := .ref (b + 14)) (C := RM) (T := TM) (N := 30) hx hb hT inM hown hK hW hM.1 rfl 19 (by decide) (hT _ fl_M_50) (fun _ h9 => h9) rfl dM_solve_11 ?_
      refine lv_iload_n hx hb dM_solve_14 rfl (lv_at hl 0 rfl) ?_
      refine lv_iconst (v := 0) hx hb dM_solve_15 (by decide) ?_
      refine fn_zast (n := 10) (f := u 14) (x := 0) hx hb hK hW 2 (hM.2.2.2) rfl (show i < 10 by omega) (by decide) rfl dM_solve_16 (fun H locs hW => ?_)
      obtain ⟨M_3, eM_3⟩ : ∃ z : fm_M, z = va_up M_1 (b + 14) (some (.inl (ct 2, 10, .inl (upd (u 14) i 0)))) := ⟨_, rfl⟩
      have hW : fm_W D fs_cl5 A M_3 s.heap H locs := by rw [eM_3]; exact hW
      have hM : fs_MW ct M_3 b cn si sl (va_up u 14 (upd (u 14) i 0)) la := by rw [eM_3]; exact fs_MW_z hM _
      have hMf : fs_Mf b M M_3 := by rw [eM_3]; exact fs_Mf_u hMf (by omega) _
      refine lv_iinc (v := nI (i + 1)) (lv' := [(3, .int (nI (i + 1))), (0, .ref b), (1, .int (nI ν)), (2, .int (nI α))]) hx hb dM_solve_17 hl (k := 0) rfl (nI_1 i) (by decide) rfl (fun ls hl => ?_)
      refine lv_goto (tgt := 2) hx hb dM_solve_20 (by decide) ?_
      exact back _ _ _ _ ls ⟨hM, hMf, fun k h => (fu_n h).trans (hk k h), by rw [fu_s]; exact fs_ls (fun j hj => (pk_un (Nat.ne_of_lt hj)).trans (hz j hj)) pk_us⟩ hW (lv_sub hl [0, 1, 2, 3] rfl)
  · intro u M_4 H locs ls hI hW hl
    have hl : lv_has ls 6 [(3, .int (nI (cn 0))), (0, .ref b), (1, .int (nI ν)), (2, .int (nI α))] := hl
    obtain ⟨hM, hMf, hk, hz⟩ := hI
    have hz : ∀ j, j < cn 0 → u 14 j = 0 := hz
    refine lv_iload_n hx hb dM_solve_2 rfl (lv_at hl 0 rfl) ?_
    refine lv_aload_n hx hb dM_solve_3 rfl (lv_at hl 1 rfl) ?_
    refine fm_get (ci := 4) (v := .int (nI (cn 0))) (C := RM) (T := TM) (N := 30) hx hb hT inM hown hK hW hM.1 rfl 1 (by decide) (hT _ fl_M_68) (fun _ h9 => h9) rfl dM_solve_4 ?_
    refine lv_icmp_ge (tgt := 23) hx hb dM_solve_7 (by decide) (fun c_5 => ?_) (fun c_5 => ?_)
    · refine lv_aload_n hx hb dM_solve_23 rfl (lv_at hl 1 rfl) ?_
      refine lv_iconst (v := 0) hx hb dM_solve_24 (by decide) ?_
      refine fm_put (ci := 4) (v := .int 0) (ty := .int) (C := RM) (T := TM) (N := 30) hx hb hT inM tyM tkM nmM hown hK hW hM.1 rfl 20 (by decide) (hT _ fl_M_119) (fun _ h9 => h9) rfl (by decide +kernel) rfl rfl (Nat.le_of_ble_eq_true rfl) dM_solve_25 (fun H locs hW => ?_)
      obtain ⟨M_6, eM_6⟩ : ∃ z : fm_M, z = va_up M_4 b (some (.inr (4, [.int (si 0), .int (nI (cn 0)), .int (nI (cn 1)), .int (nI (cn 2)), .int (nI (cn 3)), .int (nI (cn 4)), .ref (b + 1), .ref (b + 2), .ref (b + 3), .ref (b + 4), .ref (b + 5), .ref (b + 6), .ref (b + 7), .ref (b + 8), .ref (b + 9), .ref (b + 10), .ref (b + 11), .ref (b + 12), .ref (b + 13), .ref (b + 14), .int 0, .int (si 21), .int (si 22), .long (sl 23), .int (si 24), .int (si 25), .long (sl 26), .int (si 27), .ref (b + 15), .ref (b + 16)]))) := ⟨_, rfl⟩
      have hW : fm_W D fs_cl5 A M_6 s.heap H locs := by rw [eM_6]; exact hW
      have f_7 : M_6 b = some (.inr (4, [.int (si 0), .int (nI (cn 0)), .int (nI (cn 1)), .int (nI (cn 2)), .int (nI (cn 3)), .int (nI (cn 4)), .ref (b + 1), .ref (b + 2), .ref (b + 3), .ref (b + 4), .ref (b + 5), .ref (b + 6), .ref (b + 7), .ref (b + 8), .ref (b + 9), .ref (b + 10), .ref (b + 11), .ref (b + 12), .ref (b + 13), .ref (b + 14), .int 0, .int (si 21), .int (si 22), .long (sl 23), .int (si 24), .int (si 25), .long (sl 26), .int (si 27), .ref (b + 15), .ref (b + 16)])) := by rw [eM_6]; exact fm_us
      have hM : fs_MW ct M_6 b cn (va_up si 20 0) sl u la := by rw [eM_6]; exact fs_MW_o hM cn (va_up si 20 0) sl
      have hMf : fs_Mf b M M_6 := by rw [eM_6]; exact fs_Mf_u hMf (by omega) _
      refine lv_aload_n hx hb dM_solve_28 rfl (lv_at hl 1 rfl) ?_
      refine lv_iconst (v := 0) hx hb dM_solve_29 (by decide) ?_
      refine fm_put (ci := 4) (v := .int 0) (ty := .int) (C := RM) (T := TM) (N := 30) hx hb hT inM tyM tkM nmM hown hK hW f_7 rfl 21 (by decide) (hT _ fl_M_122) (fun _ h9 => h9) rfl (by decide +kernel) rfl rfl (Nat.le_of_ble_eq_true rfl) dM_solve_30 (fun H locs hW => ?_)
      obtain ⟨M_8, eM_8⟩ : ∃ z : fm_M, z = va_up M_6 b (some (.inr (4, [.int (si 0), .int (nI (cn 0)), .int (nI (cn 1)), .int (nI (cn 2)), .int (nI (cn 3)), .int (nI (cn 4)), .ref (b + 1), .ref (b + 2), .ref (b + 3), .ref (b + 4), .ref (b + 5), .ref (b + 6), .ref (b + 7), .ref (b + 8), .ref (b + 9), .ref (b + 10), .ref (b + 11), .ref (b + 12), .ref (b + 13), .ref (b + 14), .int 0, .int 0, .int (si 22), .long (sl 23), .int (si 24), .int (si 25), .long (sl 26), .int (si 27), .ref (b + 15), .ref (b + 16)]))) := ⟨_, rfl⟩
      have hW : fm_W D fs_cl5 A M_8 s.heap H locs := by rw [eM_8]; exact hW
      have f_9 : M_8 b = some (.inr (4, [.int (si 0), .int (nI (cn 0)), .int (nI (cn 1)), .int (nI (cn 2)), .int (nI (cn 3)), .int (nI (cn 4)), .ref (b + 1), .ref (b + 2), .ref (b + 3), .ref (b + 4), .ref (b + 5), .ref (b + 6), .ref (b + 7), .ref (b + 8), .ref (b + 9), .ref (b + 10), .ref (b + 11), .ref (b + 12), .ref (b + 13), .ref (b + 14), .int 0, .int 0, .int (si 22), .long (sl 23), .int (si 24), .int (si 25), .long (sl 26), .int (si 27), .ref (b + 15), .ref (b + 16)])) := by rw [eM_8]; exact fm_us
      have hM : fs_MW ct M_8 b cn (va_up (va_up si 20 0) 21 0) sl u la := by rw [eM_8]; exact fs_MW_o hM cn (va_up (va_up si 20 0) 21 0) sl
      have hMf : fs_Mf b M M_8 := by rw [eM_8]; exact fs_Mf_u hMf (by omega) _
      refine lv_aload_n hx hb dM_solve_33 rfl (lv_at hl 1 rfl) ?_
      refine lv_iconst (v := 0) hx hb dM_solve_34 (by decide) ?_
      refine fm_put (ci := 4) (v := .int 0) (ty := .int) (C := RM) (T := TM) (N := 30) hx hb hT inM tyM tkM nmM hown hK hW f_9 rfl 22 (by decide) (hT _ fl_M_116) (fun _ h9 => h9) rfl (by decide +kernel) rfl rfl (Nat.le_of_ble_eq_true rfl) dM_solve_35 (fun H locs hW => ?_)
      obtain ⟨M_10, eM_10⟩ : ∃ z : fm_M, z = va_up M_8 b (some (.inr (4, [.int (si 0), .int (nI (cn 0)), .int (nI (cn 1)), .int (nI (cn 2)), .int (nI (cn 3)), .int (nI (cn 4)), .ref (b + 1), .ref (b + 2), .ref (b + 3), .ref (b + 4), .ref (b + 5), .ref (b + 6), .ref (b + 7), .ref (b + 8), .ref (b + 9), .ref (b + 10), .ref (b + 11), .ref (b + 12), .ref (b + 13), .ref (b + 14), .int 0, .int 0, .int 0, .long (sl 23), .int (si 24), .int (si 25), .long (sl 26), .int (si 27), .ref (b + 15), .ref (b + 16)]))) := ⟨_, rfl⟩
      have hW : fm_W D fs_cl5 A M_10 s.heap H locs := by rw [eM_10]; exact hW
      have f_11 : M_10 b = some (.inr (4, [.int (si 0), .int (nI (cn 0)), .int (nI (cn 1)), .int (nI (cn 2)), .int (nI (cn 3)), .int (nI (cn 4)), .ref (b + 1), .ref (b + 2), .ref (b + 3), .ref (b + 4), .ref (b + 5), .ref (b + 6), .ref (b + 7), .ref (b + 8), .ref (b + 9), .ref (b + 10), .ref (b + 11), .ref (b + 12), .ref (b + 13), .ref (b + 14), .int 0, .int 0, .int 0, .long (sl 23), .int (si 24), .int (si 25), .long (sl 26), .int (si 27), .ref (b + 15), .ref (b + 16)])) := by rw [eM_10]; exact fm_us
      have hM : fs_MW ct M_10 b cn (va_up (va_up (va_up si 20 0) 21 0) 22 0) sl u la := by rw [eM_10]; exact fs_MW_o hM cn (va_up (va_up (va_up si 20 0) 21 0) 22 0) sl
      have hMf : fs_Mf b M M_10 := by rw [eM_10]; exact fs_Mf_u hMf (by omega) _
      refine lv_aload_n hx hb dM_solve_38 rfl (lv_at hl 1 rfl) ?_
      refine lv_lconst (v := 0) hx hb dM_solve_39 (by decide) ?_
      refine fm_put (ci := 4) (v := .long 0) (ty := .long) (C := RM) (T := TM) (N := 30) hx hb hT inM tyM tkM nmM hown hK hW f_11 rfl 23 (by decide) (hT _ fl_M_125) (fun _ h9 => h9) rfl (by decide +kernel) rfl rfl (Nat.le_of_ble_eq_true rfl) dM_solve_40 (fun H locs hW => ?_)
      obtain ⟨M_12, eM_12⟩ : ∃ z : fm_M, z = va_up M_10 b (some (.inr (4, [.int (si 0), .int (nI (cn 0)), .int (nI (cn 1)), .int (nI (cn 2)), .int (nI (cn 3)), .int (nI (cn 4)), .ref (b + 1), .ref (b + 2), .ref (b + 3), .ref (b + 4), .ref (b + 5), .ref (b + 6), .ref (b + 7), .ref (b + 8), .ref (b + 9), .ref (b + 10), .ref (b + 11), .ref (b + 12), .ref (b + 13), .ref (b + 14), .int 0, .int 0, .int 0, .long 0, .int (si 24), .int (si 25), .long (sl 26), .int (si 27), .ref (b + 15), .ref (b + 16)]))) := ⟨_, rfl⟩
      have hW : fm_W D fs_cl5 A M_12 s.heap H locs := by rw [eM_12]; exact hW
      have f_13 : M_12 b = some (.inr (4, [.int (si 0), .int (nI (cn 0)), .int (nI (cn 1)), .int (nI (cn 2)), .int (nI (cn 3)), .int (nI (cn 4)), .ref (b + 1), .ref (b + 2), .ref (b + 3), .ref (b + 4), .ref (b + 5), .ref (b + 6), .ref (b + 7), .ref (b + 8), .ref (b + 9), .ref (b + 10), .ref (b + 11), .ref (b + 12), .ref (b + 13), .ref (b + 14), .int 0, .int 0, .int 0, .long 0, .int (si 24), .int (si 25), .long (sl 26), .int (si 27), .ref (b + 15), .ref (b + 16)])) := by rw [eM_12]; exact fm_us
      have hM : fs_MW ct M_12 b cn (va_up (va_up (va_up si 20 0) 21 0) 22 0) (va_up sl 23 0) u la := by rw [eM_12]; exact fs_MW_o hM cn (va_up (va_up (va_up si 20 0) 21 0) 22 0) (va_up sl 23 0)
      have hMf : fs_Mf b M M_12 := by rw [eM_12]; exact fs_Mf_u hMf (by omega) _
      refine lv_iconst (v := 0) hx hb dM_solve_43 (by decide) ?_
      refine lv_istore_n (lv' := [(3, .int 0), (0, .ref b), (1, .int (nI ν)), (2, .int (nI α))]) hx hb dM_solve_44 rfl hl (by decide) rfl (fun ls hl => ?_)
      have hE0 : fs_kE (cn 0) α (fs_rw ia la) 0 (fs_usd u) (fs_rw u la) (fs_md (va_up (va_up (va_up si 20 0) 21 0) 22 0) (va_up sl 23 0)) := ⟨fun i hi => fs_usd_0 (hz i hi), fun i _ => by unfold fs_rw; rw [hk 8 (by decide), hk 9 (by decide), hk 10 (by decide)], rfl⟩
      refine fm_loop (head := 45) (maxL := 6) 20 (fun γ (uc : (Nat → Int32) × (Nat → Int64) × (Nat → Nat → Int32) × (Nat → Nat → Int64)) M1 => fs_MW ct M1 b cn uc.1 uc.2.1 uc.2.2.1 uc.2.2.2 ∧ fs_Mf b M M1 ∧ uc.1 0 = si 0 ∧ fs_so ia la uc.2.2.1 uc.2.2.2 ∧ fs_kE (cn 0) α (fs_rw ia la) γ (fs_usd uc.2.2.1) (fs_rw uc.2.2.1 uc.2.2.2) (fs_md uc.1 uc.2.1)) (fun γ (uc : (Nat → Int32) × (Nat → Int64) × (Nat → Nat → Int32) × (Nat → Nat → Int64)) => [(3, .int (nI γ)), (0, .ref b), (1, .int (nI ν)), (2, .int (nI α))]) ?_ ?_ 20 0 (Nat.zero_add _) (_, _, _, _) M_12 _ _ ls ⟨hM, hMf, rfl, ⟨fun k _ _ _ h => hk k h, fun _ _ => rfl⟩, hE0⟩ hW (lv_sub hl [0, 1, 2, 3] rfl)
      · intro γ uc M_14 H locs ls hic hIc hW hl backc
        have hl : lv_has ls 6 [(3, .int (nI γ)), (0, .ref b), (1, .int (nI ν)), (2, .int (nI α))] := hl
        obtain ⟨si1, sl1, ia1, la1⟩ := uc
        obtain ⟨hM, hMf, h00, hso, hE⟩ := hIc
        have hM : fs_MW ct M_14 b cn si1 sl1 ia1 la1 := hM
        have h00 : si1 0 = si 0 := h00
        have hso : fs_so ia la ia1 la1 := hso
        have hE : fs_kE (cn 0) α (fs_rw ia la) γ (fs_usd ia1) (fs_rw ia1 la1) (fs_md si1 sl1) := hE
        refine lv_iload_n hx hb dM_solve_45 rfl (lv_at hl 0 rfl) ?_
        refine lv_bipush (v := 20) hx hb dM_solve_46 (by decide) ?_
        refine lv_icmp_ge (tgt := 210) hx hb dM_solve_48 (by decide) (fun c_15 => ?_) (fun c_15 => ?_)
        · exact absurd c_15 (nI_ge (b := 20) hic (by decide))
        · refine lv_iconst (v := 0) hx hb dM_solve_51 (by decide) ?_
          refine lv_istore (lv' := [(4, .int 0), (3, .int (nI γ)), (0, .ref b), (1, .int (nI ν)), (2, .int (nI α))]) hx hb dM_solve_52 hl (by decide) rfl (fun ls hl => ?_)
          refine fm_loop (head := 54) (maxL := 6) (cn 0) (fun π (up : Unit) M1 => M1 = M_14 ∧ ∀ q, q < π → fs_usd ia1 q = false → fs_co (fs_rw ia1 la1 q).1 (fs_rw ia1 la1 q).2.1 γ = false) (fun π (up : Unit) => [(4, .int (nI π)), (3, .int (nI γ)), (0, .ref b), (1, .int (nI ν)), (2, .int (nI α))]) ?_ ?_ (cn 0) 0 (Nat.zero_add _) () M_14 _ _ ls ⟨rfl, fun q hq => absurd hq (Nat.not_lt_zero q)⟩ hW (lv_sub hl [0, 1, 2, 3, 4] rfl)
          · intro π up M_16 H locs ls hip hIp hW hl backp
            have hl : lv_has ls 6 [(4, .int (nI π)), (3, .int (nI γ)), (0, .ref b), (1, .int (nI ν)), (2, .int (nI α))] := hl
            have hW : fm_W D fs_cl5 A M_14 s.heap H locs := by rw [← hIp.1]; exact hW
            have hs := hIp.2
            have hs : ∀ q, q < π → fs_usd ia1 q = false → fs_co (fs_rw ia1 la1 q).1 (fs_rw ia1 la1 q).2.1 γ = false := hs
            have hM : fs_MW ct M_14 b cn si1 sl1 ia1 la1 := hM
            refine lv_iload hx hb dM_solve_54 (lv_at hl 0 rfl) ?_
            refine lv_aload_n hx hb dM_solve_56 rfl (lv_at hl 2 rfl) ?_
            refine fm_get (ci := 4) (v := .int (nI (cn 0))) (C := RM) (T := TM) (N := 30) hx hb hT inM hown hK hW hM.1 rfl 1 (by decide) (hT _ fl_M_68) (fun _ h9 => h9) rfl dM_solve_57 ?_
            refine lv_icmp_ge (tgt := 100) hx hb dM_solve_60 (by decide) (fun c_17 => ?_) (fun c_17 => ?_)
            · exact absurd c_17 (nI_ge hip (by omega))
            · refine lv_aload_n hx hb dM_solve_63 rfl (lv_at hl 2 rfl) ?_
              refine fm_get (ci := 4) (v := .ref (b + 14)) (C := RM) (T := TM) (N := 30) hx hb hT inM hown hK hW hM.1 rfl 19 (by decide) (hT _ fl_M_50) (fun _ h9 => h9) rfl dM_solve_64 ?_
              refine lv_iload hx hb dM_solve_67 (lv_at hl 0 rfl) ?_
              refine fn_zald (n := 10) (f := ia1 14) hx hb hK hW 2 (hM.2.2.2) rfl (show π < 10 by omega) (by decide) dM_solve_69 ?_
              refine lv_if_ne (tgt := 94) hx hb dM_solve_70 (by decide) (fun c_18 => ?_) (fun c_18 => ?_)
              · refine lv_iinc (v := nI (π + 1)) (lv' := [(4, .int (nI (π + 1))), (3, .int (nI γ)), (0, .ref b), (1, .int (nI ν)), (2, .int (nI α))]) hx hb dM_solve_94 hl (k := 0) rfl (nI_1 π) (by decide) rfl (fun ls hl => ?_)
                refine lv_goto (tgt := 54) hx hb dM_solve_97 (by decide) ?_
                exact backp () _ _ _ ls ⟨rfl, fs_ls hs (fun hu => absurd ((fs_usd_1 c_18).symm.trans hu) (by decide))⟩ hW (lv_sub hl [0, 1, 2, 3, 4] rfl)
              · have hfree : fs_usd ia1 π = false := fs_usd_0 c_18
                refine lv_aload_n hx hb dM_solve_73 rfl (lv_at hl 2 rfl) ?_
                refine fm_get (ci := 4) (v := .ref (b + 8)) (C := RM) (T := TM) (N := 30) hx hb hT inM hown hK hW hM.1 rfl 13 (by decide) (hT _ fl_M_32) (fun _ h9 => h9) rfl dM_solve_74 ?_
                refine lv_iload hx hb dM_solve_77 (lv_at hl 0 rfl) ?_
                refine fn_iald (n := 10) (f := ia1 8) hx hb hK hW 0 (hM.2.1 8 rfl) rfl (show π < 10 by omega) (by decide) dM_solve_79 ?_
                refine lv_aload_n hx hb dM_solve_80 rfl (lv_at hl 2 rfl) ?_
                refine fm_get (ci := 4) (v := .ref (b + 9)) (C := RM) (T := TM) (N := 30) hx hb hT inM hown hK hW hM.1 rfl 14 (by decide) (hT _ fl_M_35) (fun _ h9 => h9) rfl dM_solve_81 ?_
                refine lv_iload hx hb dM_solve_84 (lv_at hl 0 rfl) ?_
                refine fn_iald (n := 10) (f := ia1 9) hx hb hK hW 0 (hM.2.1 9 rfl) rfl (show π < 10 by omega) (by decide) dM_solve_86 ?_
                refine lv_iload_n hx hb dM_solve_87 rfl (lv_at hl 1 rfl) ?_
                refine fm_calli (va_runS (As := [.int ((ia1 8) π), .int ((ia1 9) π), .int (nI γ)]) (rest := []) ⟨hx, hb, hml, hown, hts⟩ (c_M_column l D ct A M_14 ((ia1 8) π) ((ia1 9) π) γ hic) ⟨callB_of 3 hts (fs_gin co_M_column) rfl rfl rfl (hT _ ini_M) (hT _ ml_M_129) (by decide +kernel) ⟨Nat.le_of_ble_eq_true rfl, Nat.le_of_ble_eq_true rfl⟩, hT _ st_M_column⟩ (fn_pre fs_isnw hK hN hW) rfl rfl hl.1 rfl (lv_room (Nat.le_of_ble_eq_true rfl)) dM_solve_88 ⟨Nat.le_of_ble_eq_true rfl, Nat.le_of_ble_eq_true rfl⟩) hW (fun r_19 M_20 H locs hp_21 hW => ?_)
                have hW : fm_W D fs_cl5 A M_14 s.heap H locs := by rw [← hp_21.2]; exact hW
                have er_19 := hp_21.1
                refine lv_if_ne (tgt := 100) hx hb dM_solve_91 (by decide) (fun c_22 => ?_) (fun c_22 => ?_)
                · have hco : fs_co (fs_rw ia1 la1 π).1 (fs_rw ia1 la1 π).2.1 γ = true := fs_ndf _ (fun z => c_22 (by rw [er_19]; exact (fs_b_eq0 _).mpr z))
                  refine lv_iload hx hb dM_solve_100 (lv_at hl 0 rfl) ?_
                  refine lv_aload_n hx hb dM_solve_102 rfl (lv_at hl 2 rfl) ?_
                  refine fm_get (ci := 4) (v := .int (nI (cn 0))) (C := RM) (T := TM) (N := 30) hx hb hT inM hown hK hW hM.1 rfl 1 (by decide) (hT _ fl_M_68) (fun _ h9 => h9) rfl dM_solve_103 ?_
                  refine lv_icmp_ne (tgt := 112) hx hb dM_solve_106 (by decide) (fun c_23 => ?_) (fun c_23 => ?_)
                  · refine lv_aload_n hx hb dM_solve_112 rfl (lv_at hl 2 rfl) ?_
                    refine fm_get (ci := 4) (v := .ref (b + 14)) (C := RM) (T := TM) (N := 30) hx hb hT inM hown hK hW hM.1 rfl 19 (by decide) (hT _ fl_M_50) (fun _ h9 => h9) rfl dM_solve_113 ?_
                    refine lv_iload hx hb dM_solve_116 (lv_at hl 0 rfl) ?_
                    refine lv_iconst (v := 1) hx hb dM_solve_118 (by decide) ?_
                    refine fn_zast (n := 10) (f := ia1 14) (x := 1) hx hb hK hW 2 (hM.2.2.2) rfl (show π < 10 by omega) (by decide) rfl dM_solve_119 (fun H locs hW => ?_)
                    obtain ⟨M_24, eM_24⟩ : ∃ z : fm_M, z = va_up M_14 (b + 14) (some (.inl (ct 2, 10, .inl (upd (ia1 14) π 1)))) := ⟨_, rfl⟩
                    have hW : fm_W D fs_cl5 A M_24 s.heap H locs := by rw [eM_24]; exact hW
                    have hM : fs_MW ct M_24 b cn si1 sl1 (va_up ia1 14 (upd (ia1 14) π 1)) la1 := by rw [eM_24]; exact fs_MW_z hM _
                    have hMf : fs_Mf b M M_24 := by rw [eM_24]; exact fs_Mf_u hMf (by omega) _
                    refine lv_iconst (v := 0) hx hb dM_solve_120 (by decide) ?_
                    refine lv_istore (lv' := [(5, .int 0), (4, .int (nI π)), (3, .int (nI γ)), (0, .ref b), (1, .int (nI ν)), (2, .int (nI α))]) hx hb dM_solve_121 hl (by decide) rfl (fun ls hl => ?_)
                    refine fm_loop (head := 123) (maxL := 6) (cn 0) (fun ρ (ur : (Nat → Nat → Int32) × (Nat → Nat → Int64)) M1 => fs_MW ct M1 b cn si1 sl1 ur.1 ur.2 ∧ fs_Mf b M M1 ∧ fs_ro (va_up ia1 14 (upd (ia1 14) π 1)) la1 ur.1 ur.2 ∧ fs_Up ρ (fs_rw ia1 la1) (fun j => if fs_usd ia1 j = false ∧ j ≠ π ∧ fs_co (fs_rw ia1 la1 j).1 (fs_rw ia1 la1 j).2.1 γ = true then fs_ml (cn 0) (fs_rw ia1 la1 j) (fs_rw ia1 la1 π) else fs_rw ia1 la1 j) (fs_rw ur.1 ur.2)) (fun ρ (ur : (Nat → Nat → Int32) × (Nat → Nat → Int64)) => [(5, .int (nI ρ)), (4, .int (nI π)), (3, .int (nI γ)), (0, .ref b), (1, .int (nI ν)), (2, .int (nI α))]) ?_ ?_ (cn 0) 0 (Nat.zero_add _) (_, _) M_24 _ _ ls ⟨hM, hMf, fs_ro_r, fs_Up_0 _ _⟩ hW (lv_sub hl [0, 1, 2, 3, 4, 5] rfl)
                    · intro ρ ur M_25 H locs ls hir hIr hW hl backr
                      have hl : lv_has ls 6 [(5, .int (nI ρ)), (4, .int (nI π)), (3, .int (nI γ)), (0, .ref b), (1, .int (nI ν)), (2, .int (nI α))] := hl
                      obtain ⟨ia2, la2⟩ := ur
                      obtain ⟨hM, hMf, hro, hU⟩ := hIr
                      have hM : fs_MW ct M_25 b cn si1 sl1 ia2 la2 := hM
                      have hro : fs_ro (va_up ia1 14 (upd (ia1 14) π 1)) la1 ia2 la2 := hro
                      have hU : fs_Up ρ (fs_rw ia1 la1) (fun j => if fs_usd ia1 j = false ∧ j ≠ π ∧ fs_co (fs_rw ia1 la1 j).1 (fs_rw ia1 la1 j).2.1 γ = true then fs_ml (cn 0) (fs_rw ia1 la1 j) (fs_rw ia1 la1 π) else fs_rw ia1 la1 j) (fs_rw ia2 la2) := hU
                      have hus : ∀ j, fs_usd ia2 j = fs_up (fs_usd ia1) π true j := fun j => fs_usd_up (hro.1 14 (by decide) (by decide) (by decide))
                      have hpi : fs_rw ia2 la2 π = fs_rw ia1 la1 π := by
                        rcases Nat.lt_or_ge π ρ with z | z
                        · exact (hU.1 π z).trans (if_neg (fun g => g.2.1 rfl))
                        · exact hU.2 π z
                      have hui : fs_rw ia2 la2 ρ = fs_rw ia1 la1 ρ := hU.2 ρ (Nat.le_refl ρ)
                      refine lv_iload hx hb dM_solve_123 (lv_at hl 0 rfl) ?_
                      refine lv_aload_n hx hb dM_solve_125 rfl (lv_at hl 3 rfl) ?_
                      refine fm_get (ci := 4) (v := .int (nI (cn 0))) (C := RM) (T := TM) (N := 30) hx hb hT inM hown hK hW hM.1 rfl 1 (by decide) (hT _ fl_M_68) (fun _ h9 => h9) rfl dM_solve_126 ?_
                      refine lv_icmp_ge (tgt := 178) hx hb dM_solve_129 (by decide) (fun c_26 => ?_) (fun c_26 => ?_)
                      · exact absurd c_26 (nI_ge hir (by omega))
                      · refine lv_aload_n hx hb dM_solve_132 rfl (lv_at hl 3 rfl) ?_
                        refine fm_get (ci := 4) (v := .ref (b + 14)) (C := RM) (T := TM) (N := 30) hx hb hT inM hown hK hW hM.1 rfl 19 (by decide) (hT _ fl_M_50) (fun _ h9 => h9) rfl dM_solve_133 ?_
                        refine lv_iload hx hb dM_solve_136 (lv_at hl 0 rfl) ?_
                        refine fn_zald (n := 10) (f := ia2 14) hx hb hK hW 2 (hM.2.2.2) rfl (show ρ < 10 by omega) (by decide) dM_solve_138 ?_
                        refine lv_if_ne (tgt := 172) hx hb dM_solve_139 (by decide) (fun c_27 => ?_) (fun c_27 => ?_)
                        · have hno := fs_up_t ((hus ρ).symm.trans (fs_usd_1 c_27))
                          refine lv_iinc (v := nI (ρ + 1)) (lv' := [(5, .int (nI (ρ + 1))), (4, .int (nI π)), (3, .int (nI γ)), (0, .ref b), (1, .int (nI ν)), (2, .int (nI α))]) hx hb dM_solve_172 hl (k := 0) rfl (nI_1 ρ) (by decide) rfl (fun ls hl => ?_)
                          refine lv_goto (tgt := 123) hx hb dM_solve_175 (by decide) ?_
                          exact backr (_, _) _ _ _ ls ⟨hM, hMf, hro, fs_Up_k hU (by rw [hui]; exact (if_neg (fun g => hno ⟨g.1, g.2.1⟩)).symm)⟩ hW (lv_sub hl [0, 1, 2, 3, 4, 5] rfl)
                        · have hyes := fs_up_f ((hus ρ).symm.trans (fs_usd_0 c_27))
                          refine lv_aload_n hx hb dM_solve_142 rfl (lv_at hl 3 rfl) ?_
                          refine fm_get (ci := 4) (v := .ref (b + 8)) (C := RM) (T := TM) (N := 30) hx hb hT inM hown hK hW hM.1 rfl 13 (by decide) (hT _ fl_M_32) (fun _ h9 => h9) rfl dM_solve_143 ?_
                          refine lv_iload hx hb dM_solve_146 (lv_at hl 0 rfl) ?_
                          refine fn_iald (n := 10) (f := ia2 8) hx hb hK hW 0 (hM.2.1 8 rfl) rfl (show ρ < 10 by omega) (by decide) dM_solve_148 ?_
                          refine lv_aload_n hx hb dM_solve_149 rfl (lv_at hl 3 rfl) ?_
                          refine fm_get (ci := 4) (v := .ref (b + 9)) (C := RM) (T := TM) (N := 30) hx hb hT inM hown hK hW hM.1 rfl 14 (by decide) (hT _ fl_M_35) (fun _ h9 => h9) rfl dM_solve_150 ?_
                          refine lv_iload hx hb dM_solve_153 (lv_at hl 0 rfl) ?_
                          refine fn_iald (n := 10) (f := ia2 9) hx hb hK hW 0 (hM.2.1 9 rfl) rfl (show ρ < 10 by omega) (by decide) dM_solve_155 ?_
                          refine lv_iload_n hx hb dM_solve_156 rfl (lv_at hl 2 rfl) ?_
                          refine fm_calli (va_runS (As := [.int ((ia2 8) ρ), .int ((ia2 9) ρ), .int (nI γ)]) (rest := []) ⟨hx, hb, hml, hown, hts⟩ (c_M_column l D ct A M_25 ((ia2 8) ρ) ((ia2 9) ρ) γ hic) ⟨callB_of 3 hts (fs_gin co_M_column) rfl rfl rfl (hT _ ini_M) (hT _ ml_M_129) (by decide +kernel) ⟨Nat.le_of_ble_eq_true rfl, Nat.le_of_ble_eq_true rfl⟩, hT _ st_M_column⟩ (fn_pre fs_isnw hK hN hW) rfl rfl hl.1 rfl (lv_room (Nat.le_of_ble_eq_true rfl)) dM_solve_157 ⟨Nat.le_of_ble_eq_true rfl, Nat.le_of_ble_eq_true rfl⟩) hW (fun r_28 M_29 H locs hp_30 hW => ?_)
                          have hW : fm_W D fs_cl5 A M_25 s.heap H locs := by rw [← hp_30.2]; exact hW
                          have er_28 := hp_30.1
                          refine lv_iconst (v := 1) hx hb dM_solve_160 (by decide) ?_
                          have er_28 : r_28 = fs_b (fs_co (fs_rw ia2 la2 ρ).1 (fs_rw ia2 la2 ρ).2.1 γ) := er_28
                          rw [hui] at er_28
                          refine lv_icmp_ne (tgt := 172) hx hb dM_solve_161 (by decide) (fun c_31 => ?_) (fun c_31 => ?_)
                          · refine lv_iinc (v := nI (ρ + 1)) (lv' := [(5, .int (nI (ρ + 1))), (4, .int (nI π)), (3, .int (nI γ)), (0, .ref b), (1, .int (nI ν)), (2, .int (nI α))]) hx hb dM_solve_172 hl (k := 0) rfl (nI_1 ρ) (by decide) rfl (fun ls hl => ?_)
                            refine lv_goto (tgt := 123) hx hb dM_solve_175 (by decide) ?_
                            exact backr (_, _) _ _ _ ls ⟨hM, hMf, hro, fs_Up_k hU (by rw [hui]; exact (if_neg (fun g => c_31 (by rw [er_28]; exact (fs_b_eq1 _).mpr g.2.2))).symm)⟩ hW (lv_sub hl [0, 1, 2, 3, 4, 5] rfl)
                          · have hc1 := (fs_b_eq1 _).mp (er_28.symm.trans c_31)
                            refine lv_aload_n hx hb dM_solve_164 rfl (lv_at hl 3 rfl) ?_
                            refine lv_iload hx hb dM_solve_165 (lv_at hl 0 rfl) ?_
                            refine lv_iload hx hb dM_solve_167 (lv_at hl 1 rfl) ?_
                            refine fm_callv (va_runV (As := [.int (nI ρ), .int (nI π)]) (rest := []) ⟨hx, hb, hml, hown, hts⟩ (c_M_multiply l D ct A M_25 b cn si1 sl1 ia2 la2 ρ π hM ⟨hB0, hB1, hB2, hB3, hB4, hB5⟩ hir hip) ⟨callB_of 2 hts (fs_gin co_M_multiply) rfl rfl rfl (hT _ ini_M) (hT _ ml_M_113) (by decide +kernel) ⟨Nat.le_of_ble_eq_true rfl, Nat.le_of_ble_eq_true rfl⟩, hT _ im_M_multiply, hT _ se_M_multiply⟩ (fn_preV fs_isnw hK hN hW hM.1 rfl) rfl rfl hl.1 rfl (lv_room (Nat.le_of_ble_eq_true rfl)) dM_solve_169 ⟨Nat.le_of_ble_eq_true rfl, Nat.le_of_ble_eq_true rfl⟩) hW (fun M_33 H locs hp_34 hW => ?_)
                            obtain ⟨ia_35, la_36, hM, hMf2, hR⟩ := hp_34
                            have hMf := fs_Mf_t hMf hMf2
                            refine lv_iinc (v := nI (ρ + 1)) (lv' := [(5, .int (nI (ρ + 1))), (4, .int (nI π)), (3, .int (nI γ)), (0, .ref b), (1, .int (nI ν)), (2, .int (nI α))]) hx hb dM_solve_172 hl (k := 0) rfl (nI_1 ρ) (by decide) rfl (fun ls hl => ?_)
                            refine lv_goto (tgt := 123) hx hb dM_solve_175 (by decide) ?_
                            exact backr (_, _) _ _ _ ls ⟨hM, hMf, fs_ro_t hro hR.1, fs_Up_r hU hR.2 (by rw [hui, hpi]; exact (if_pos ⟨hyes.1, hyes.2, hc1⟩).symm)⟩ hW (lv_sub hl [0, 1, 2, 3, 4, 5] rfl)
                    · intro ur M_37 H locs ls hIr hW hl
                      have hl : lv_has ls 6 [(5, .int (nI (cn 0))), (4, .int (nI π)), (3, .int (nI γ)), (0, .ref b), (1, .int (nI ν)), (2, .int (nI α))] := hl
                      obtain ⟨ia2, la2⟩ := ur
                      obtain ⟨hM, hMf, hro, hU⟩ := hIr
                      have hM : fs_MW ct M_37 b cn si1 sl1 ia2 la2 := hM
                      have hro : fs_ro (va_up ia1 14 (upd (ia1 14) π 1)) la1 ia2 la2 := hro
                      have hU : fs_Up (cn 0) (fs_rw ia1 la1) (fun j => if fs_usd ia1 j = false ∧ j ≠ π ∧ fs_co (fs_rw ia1 la1 j).1 (fs_rw ia1 la1 j).2.1 γ = true then fs_ml (cn 0) (fs_rw ia1 la1 j) (fs_rw ia1 la1 π) else fs_rw ia1 la1 j) (fs_rw ia2 la2) := hU
                      have hus : ∀ j, fs_usd ia2 j = fs_up (fs_usd ia1) π true j := fun j => fs_usd_up (hro.1 14 (by decide) (by decide) (by decide))
                      have hpi : fs_rw ia2 la2 π = fs_rw ia1 la1 π := by
                        rcases Nat.lt_or_ge π (cn 0) with z | z
                        · exact (hU.1 π z).trans (if_neg (fun g => g.2.1 rfl))
                        · exact hU.2 π z
                      refine lv_iload hx hb dM_solve_123 (lv_at hl 0 rfl) ?_
                      refine lv_aload_n hx hb dM_solve_125 rfl (lv_at hl 3 rfl) ?_
                      refine fm_get (ci := 4) (v := .int (nI (cn 0))) (C := RM) (T := TM) (N := 30) hx hb hT inM hown hK hW hM.1 rfl 1 (by decide) (hT _ fl_M_68) (fun _ h9 => h9) rfl dM_solve_126 ?_
                      refine lv_icmp_ge (tgt := 178) hx hb dM_solve_129 (by decide) (fun c_38 => ?_) (fun c_38 => ?_)
                      · refine lv_aload_n hx hb dM_solve_178 rfl (lv_at hl 3 rfl) ?_
                        refine fm_get (ci := 4) (v := .int (si1 20)) (C := RM) (T := TM) (N := 30) hx hb hT inM hown hK hW hM.1 rfl 20 (by decide) (hT _ fl_M_119) (fun _ h9 => h9) rfl dM_solve_179 ?_
                        refine lv_aload_n hx hb dM_solve_182 rfl (lv_at hl 3 rfl) ?_
                        refine fm_get (ci := 4) (v := .int (si1 21)) (C := RM) (T := TM) (N := 30) hx hb hT inM hown hK hW hM.1 rfl 21 (by decide) (hT _ fl_M_122) (fun _ h9 => h9) rfl dM_solve_183 ?_
                        refine lv_iconst (v := 1) hx hb dM_solve_186 (by decide) ?_
                        refine lv_iload_n hx hb dM_solve_187 rfl (lv_at hl 5 rfl) ?_
                        refine lv_ishl hx hb dM_solve_188 ?_
                        refine lv_ixor hx hb dM_solve_189 ?_
                        refine lv_iload_n hx hb dM_solve_190 rfl (lv_at hl 2 rfl) ?_
                        refine fm_calli (va_runS (As := [.int (si1 20), .int ((si1 21) ^^^ (1 <<< ((nI α) &&& 31))), .int (nI γ)]) (rest := []) ⟨hx, hb, hml, hown, hts⟩ (c_M_column l D ct A M_37 (si1 20) ((si1 21) ^^^ (1 <<< ((nI α) &&& 31))) γ hic) ⟨callB_of 3 hts (fs_gin co_M_column) rfl rfl rfl (hT _ ini_M) (hT _ ml_M_129) (by decide +kernel) ⟨Nat.le_of_ble_eq_true rfl, Nat.le_of_ble_eq_true rfl⟩, hT _ st_M_column⟩ (fn_pre fs_isnw hK hN hW) rfl rfl hl.1 rfl (lv_room (Nat.le_of_ble_eq_true rfl)) dM_solve_191 ⟨Nat.le_of_ble_eq_true rfl, Nat.le_of_ble_eq_true rfl⟩) hW (fun r_39 M_40 H locs hp_41 hW => ?_)
                        have hW : fm_W D fs_cl5 A M_37 s.heap H locs := by rw [← hp_41.2]; exact hW
                        have er_39 := hp_41.1
                        refine lv_iconst (v := 1) hx hb dM_solve_194 (by decide) ?_
                        refine lv_icmp_ne (tgt := 204) hx hb dM_solve_195 (by decide) (fun c_42 => ?_) (fun c_42 => ?_)
                        · refine lv_iinc (v := nI (γ + 1)) (lv' := [(3, .int (nI (γ + 1))), (5, .int (nI (cn 0))), (4, .int (nI π)), (0, .ref b), (1, .int (nI ν)), (2, .int (nI α))]) hx hb dM_solve_204 hl (k := 2) rfl (nI_1 γ) (by decide) rfl (fun ls hl => ?_)
                          refine lv_goto (tgt := 45) hx hb dM_solve_207 (by decide) ?_
                          exact backc (_, _, _, _) _ _ _ ls ⟨hM, hMf, h00, ⟨fun k z8 z9 z10 z14 => ((hro.1 k z8 z9 z10).trans (fu_n z14)).trans (hso.1 k z8 z9 z10 z14), fun k z => (hro.2 k z).trans (hso.2 k z)⟩, ⟨fs_usd ia1, fs_rw ia1 la1, fs_md si1 sl1, hE, Or.inr ⟨π, hip, hfree, hco, fun i hi => hU.1 i hi, fun i _ => hus i, (if_neg (fun g => c_42 (by rw [er_39]; exact (fs_b_eq1 _).mpr g))).symm⟩⟩⟩ hW (lv_sub hl [0, 3, 4, 5] rfl)
                        · refine lv_aload_n hx hb dM_solve_198 rfl (lv_at hl 3 rfl) ?_
                          refine lv_iload hx hb dM_solve_199 (lv_at hl 1 rfl) ?_
                          refine fm_callv (va_runV (As := [.int (nI π)]) (rest := []) ⟨hx, hb, hml, hown, hts⟩ (c_M_takeRow l D ct A M_37 b cn si1 sl1 ia2 la2 π hM ⟨hB0, hB1, hB2, hB3, hB4, hB5⟩ hip) ⟨callB_of 1 hts (fs_gin co_M_takeRow) rfl rfl rfl (hT _ ini_M) (hT _ ml_M_133) (by decide +kernel) ⟨Nat.le_of_ble_eq_true rfl, Nat.le_of_ble_eq_true rfl⟩, hT _ im_M_takeRow, hT _ se_M_takeRow⟩ (fn_preV fs_isnw hK hN hW hM.1 rfl) rfl rfl hl.1 rfl (lv_room (Nat.le_of_ble_eq_true rfl)) dM_solve_201 ⟨Nat.le_of_ble_eq_true rfl, Nat.le_of_ble_eq_true rfl⟩) hW (fun M_44 H locs hp_45 hW => ?_)
                          obtain ⟨si3, sl3, hM, hMf2, h03, hmd⟩ := hp_45
                          have hMf := fs_Mf_t hMf hMf2
                          refine lv_iinc (v := nI (γ + 1)) (lv' := [(3, .int (nI (γ + 1))), (5, .int (nI (cn 0))), (4, .int (nI π)), (0, .ref b), (1, .int (nI ν)), (2, .int (nI α))]) hx hb dM_solve_204 hl (k := 2) rfl (nI_1 γ) (by decide) rfl (fun ls hl => ?_)
                          refine lv_goto (tgt := 45) hx hb dM_solve_207 (by decide) ?_
                          exact backc (_, _, _, _) _ _ _ ls ⟨hM, hMf, h03.trans h00, ⟨fun k z8 z9 z10 z14 => ((hro.1 k z8 z9 z10).trans (fu_n z14)).trans (hso.1 k z8 z9 z10 z14), fun k z => (hro.2 k z).trans (hso.2 k z)⟩, ⟨fs_usd ia1, fs_rw ia1 la1, fs_md si1 sl1, hE, Or.inr ⟨π, hip, hfree, hco, fun i hi => hU.1 i hi, fun i _ => hus i, by rw [hpi] at hmd; exact hmd.trans (if_pos ((fs_b_eq1 _).mp (er_39.symm.trans c_42))).symm⟩⟩⟩ hW (lv_sub hl [0, 3, 4, 5] rfl)
                      · exact absurd (nI_le (Nat.le_refl (cn 0)) (by omega)) c_38
                  · exact absurd ((nI_eq (by omega) (by omega)).mp c_23) (Nat.ne_of_lt hip)
                · refine lv_iinc (v := nI (π + 1)) (lv' := [(4, .int (nI (π + 1))), (3, .int (nI γ)), (0, .ref b), (1, .int (nI ν)), (2, .int (nI α))]) hx hb dM_solve_94 hl (k := 0) rfl (nI_1 π) (by decide) rfl (fun ls hl => ?_)
                  refine lv_goto (tgt := 54) hx hb dM_solve_97 (by decide) ?_
                  exact backp () _ _ _ ls ⟨rfl, fs_ls hs (fun _ => (fs_b_eq0 _).mp (er_19.symm.trans c_22))⟩ hW (lv_sub hl [0, 1, 2, 3, 4] rfl)
          · intro up M_46 H locs ls hIp hW hl
            have hl : lv_has ls 6 [(4, .int (nI (cn 0))), (3, .int (nI γ)), (0, .ref b), (1, .int (nI ν)), (2, .int (nI α))] := hl
            have hW : fm_W D fs_cl5 A M_14 s.heap H locs := by rw [← hIp.1]; exact hW
            have hs := hIp.2
            have hs : ∀ q, q < (cn 0) → fs_usd ia1 q = false → fs_co (fs_rw ia1 la1 q).1 (fs_rw ia1 la1 q).2.1 γ = false := hs
            have hM : fs_MW ct M_14 b cn si1 sl1 ia1 la1 := hM
            refine lv_iload hx hb dM_solve_54 (lv_at hl 0 rfl) ?_
            refine lv_aload_n hx hb dM_solve_56 rfl (lv_at hl 2 rfl) ?_
            refine fm_get (ci := 4) (v := .int (nI (cn 0))) (C := RM) (T := TM) (N := 30) hx hb hT inM hown hK hW hM.1 rfl 1 (by decide) (hT _ fl_M_68) (fun _ h9 => h9) rfl dM_solve_57 ?_
            refine lv_icmp_ge (tgt := 100) hx hb dM_solve_60 (by decide) (fun c_47 => ?_) (fun c_47 => ?_)
            · refine lv_iload hx hb dM_solve_100 (lv_at hl 0 rfl) ?_
              refine lv_aload_n hx hb dM_solve_102 rfl (lv_at hl 2 rfl) ?_
              refine fm_get (ci := 4) (v := .int (nI (cn 0))) (C := RM) (T := TM) (N := 30) hx hb hT inM hown hK hW hM.1 rfl 1 (by decide) (hT _ fl_M_68) (fun _ h9 => h9) rfl dM_solve_103 ?_
              refine lv_icmp_ne (tgt := 112) hx hb dM_solve_106 (by decide) (fun c_48 => ?_) (fun c_48 => ?_)
              · exact absurd rfl c_48
              · refine lv_goto (tgt := 204) hx hb dM_solve_109 (by decide) ?_
                refine lv_iinc (v := nI (γ + 1)) (lv' := [(3, .int (nI (γ + 1))), (4, .int (nI (cn 0))), (0, .ref b), (1, .int (nI ν)), (2, .int (nI α))]) hx hb dM_solve_204 hl (k := 1) rfl (nI_1 γ) (by decide) rfl (fun ls hl => ?_)
                refine lv_goto (tgt := 45) hx hb dM_solve_207 (by decide) ?_
                exact backc (_, _, _, _) _ _ _ ls ⟨hM, hMf, h00, hso, ⟨fs_usd ia1, fs_rw ia1 la1, fs_md si1 sl1, hE, Or.inl ⟨hs, fun _ _ => rfl, fun _ _ => rfl, rfl⟩⟩⟩ hW (lv_sub hl [0, 2, 3, 4] rfl)
            · exact absurd (nI_le (Nat.le_refl (cn 0)) (by omega)) c_47
      · intro uc M_49 H locs ls hIc hW hl
        have hl : lv_has ls 6 [(3, .int (nI 20)), (0, .ref b), (1, .int (nI ν)), (2, .int (nI α))] := hl
        obtain ⟨si1, sl1, ia1, la1⟩ := uc
        obtain ⟨hM, hMf, h00, hso, hE⟩ := hIc
        have hM : fs_MW ct M_49 b cn si1 sl1 ia1 la1 := hM
        have h00 : si1 0 = si 0 := h00
        have hso : fs_so ia la ia1 la1 := hso
        have hE : fs_kE (cn 0) α (fs_rw ia la) 20 (fs_usd ia1) (fs_rw ia1 la1) (fs_md si1 sl1) := hE
        refine lv_iload_n hx hb dM_solve_45 rfl (lv_at hl 0 rfl) ?_
        refine lv_bipush (v := 20) hx hb dM_solve_46 (by decide) ?_
        refine lv_icmp_ge (tgt := 210) hx hb dM_solve_48 (by decide) (fun c_50 => ?_) (fun c_50 => ?_)
        · refine lv_aload_n hx hb dM_solve_210 rfl (lv_at hl 1 rfl) ?_
          refine fm_get (ci := 4) (v := .ref (b + 12)) (C := RM) (T := TM) (N := 30) hx hb hT inM hown hK hW hM.1 rfl 17 (by decide) (hT _ fl_M_44) (fun _ h9 => h9) rfl dM_solve_211 ?_
          refine lv_iload_n hx hb dM_solve_214 rfl (lv_at hl 2 rfl) ?_
          refine lv_aload_n hx hb dM_solve_215 rfl (lv_at hl 1 rfl) ?_
          refine fm_get (ci := 4) (v := .int (si1 22)) (C := RM) (T := TM) (N := 30) hx hb hT inM hown hK hW hM.1 rfl 22 (by decide) (hT _ fl_M_116) (fun _ h9 => h9) rfl dM_solve_216 ?_
          refine lv_topi (fun x_51 ex_51 => ?_)
          refine fn_iast (n := 60) (f := ia1 12) hx hb hK hW 0 (hM.2.1 12 rfl) rfl (show ν < 60 by omega) (by decide) dM_solve_219 (fun H locs hW => ?_)
          obtain ⟨M_52, eM_52⟩ : ∃ z : fm_M, z = va_up M_49 (b + 12) (some (.inl (ct 0, 60, .inl (upd (ia1 12) ν x_51)))) := ⟨_, rfl⟩
          have hW : fm_W D fs_cl5 A M_52 s.heap H locs := by rw [eM_52]; exact hW
          have hM : fs_MW ct M_52 b cn si1 sl1 (va_up ia1 12 (upd (ia1 12) ν x_51)) la1 := by rw [eM_52]; exact fs_MW_i hM 12 rfl _
          have hMf : fs_Mf b M M_52 := by rw [eM_52]; exact fs_Mf_u hMf (by omega) _
          refine lv_aload_n hx hb dM_solve_220 rfl (lv_at hl 1 rfl) ?_
          refine fm_get (ci := 4) (v := .ref (b + 13)) (C := RM) (T := TM) (N := 30) hx hb hT inM hown hK hW hM.1 rfl 18 (by decide) (hT _ fl_M_47) (fun _ h9 => h9) rfl dM_solve_221 ?_
          refine lv_iload_n hx hb dM_solve_224 rfl (lv_at hl 2 rfl) ?_
          refine lv_aload_n hx hb dM_solve_225 rfl (lv_at hl 1 rfl) ?_
          refine fm_get (ci := 4) (v := .long (sl1 23)) (C := RM) (T := TM) (N := 30) hx hb hT inM hown hK hW hM.1 rfl 23 (by decide) (hT _ fl_M_125) (fun _ h9 => h9) rfl dM_solve_226 ?_
          refine lv_topl (fun x_53 ex_53 => ?_)
          refine fn_last (n := 60) (f := la1 13) hx hb hK hW 1 (hM.2.2.1 13 rfl) rfl (show ν < 60 by omega) (by decide) dM_solve_229 (fun H locs hW => ?_)
          obtain ⟨M_54, eM_54⟩ : ∃ z : fm_M, z = va_up M_52 (b + 13) (some (.inl (ct 1, 60, .inr (.inl (vp_updL (la1 13) ν x_53))))) := ⟨_, rfl⟩
          have hW : fm_W D fs_cl5 A M_54 s.heap H locs := by rw [eM_54]; exact hW
          have hM : fs_MW ct M_54 b cn si1 sl1 (va_up ia1 12 (upd (ia1 12) ν x_51)) (va_up la1 13 (vp_updL (la1 13) ν x_53)) := by rw [eM_54]; exact fs_MW_l hM 13 rfl _
          have hMf : fs_Mf b M M_54 := by rw [eM_54]; exact fs_Mf_u hMf (by omega) _
          exact fm_vret hx hb hr hlocks hW ⟨_, _, _, _, hM, hMf, ⟨fun k hk => (fu_n (by omega)).trans (hso.1 k (by omega) (by omega) (by omega) (by omega)), (fu_n (by decide)).trans (hso.2 7 (by decide)), h00⟩, _, _, hE, by rw [fu_s, ← hso.1 12 (by decide) (by decide) (by decide) (by decide), ex_51]; rfl, by rw [fu_s, ← hso.2 13 (by decide), ex_53]; rfl⟩ dM_solve_230
        · exact absurd (show (20 : Int32) ≤ nI 20 by decide) c_50
    · exact absurd (nI_le (Nat.le_refl (cn 0)) (by omega)) c_5
