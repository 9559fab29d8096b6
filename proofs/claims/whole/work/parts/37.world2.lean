-- words of nest mates and of arrays over a class, kept over a call
def fn_isN (w : Cond) : Prop := (∃ (a : String) (i : Nat) (b n d h : String), w = .fieldLinkNest a i b n d h) ∨ (∃ (a : String) (i : Nat) (x : MethodName) (h : String), w = .methodLinkNest a i x h) ∨ ∃ C : String, w = .arrayOver (.object C)
theorem fn_nw {nw : List Cond} (hn : ∀ w ∈ nw, fn_isN w) {s U : State} (hW : s.WarmedH U.vm) (h : ∀ w ∈ nw, va_Nw w s) : ∀ w ∈ nw, va_Nw w U := by
  intro w hw
  have h1 := h w hw
  rcases hn w hw with ⟨a, i, b, n, d, q, rfl⟩ | ⟨a, i, x, q, rfl⟩ | ⟨C, rfl⟩
  · exact va_Nw.warmF hW h1
  · exact va_Nw.warmM hW h1
  · exact va_AO.moved hW.alike h1
theorem fn_blind {D : va_G} {cl : List vw_C} {tys : List (ClassId × FieldType)} {nw : List Cond} (hn : ∀ w ∈ nw, fn_isN w) {A : Nat → Prop} {M : fm_M} {av : List Value} : FrameBlind (va_Pc av (fm_St D cl tys nw A M)) := by
  intro a U g mk q
  obtain ⟨q0, q1, q2, q3, q4, q5⟩ := q
  refine ⟨q0, q1, q2, q3, va_K.moved (u := U) (U := U.calling g mk a) (Vm.Alike.refl U.vm) q4, fun w hw => ?_⟩
  have h1 := q5 w hw
  rcases hn w hw with ⟨a, i, b, n, d, q, rfl⟩ | ⟨a, i, x, q, rfl⟩ | ⟨C, rfl⟩
  · exact va_Nw.same rfl rfl h1
  · exact va_Nw.same rfl rfl h1
  · exact va_AO.moved (u := U) (U := U.calling g mk a) (Vm.Alike.refl U.vm) h1
theorem fn_pre {D : va_G} {cl : List vw_C} {tys : List (ClassId × FieldType)} {nw : List Cond} (hn : ∀ w ∈ nw, fn_isN w) {A : Nat → Prop} {M : fm_M} {av : List Value} {s : State} {H : Heap} {locs : List Loc} {H0 : Heap} (hK : va_K D cl tys s) (hN : ∀ w ∈ nw, va_Nw w s) (hW : fm_W D cl A M H0 H locs) : PreS s H (va_Pc av (fm_St D cl tys nw A M)) av :=
  ⟨fn_blind hn, fun U hU hw => ⟨rfl, by rw [hU]; exact hW.1, hW.2.1, fun q hq => hW.2.2.2 q (Nat.le_trans hW.2.2.1.1 (by rw [← hU]; exact hq)), va_K.moved hw.alike hK, fn_nw hn hw hN⟩⟩
theorem fn_preV {D : va_G} {cl : List vw_C} {tys : List (ClassId × FieldType)} {nw : List Cond} (hn : ∀ w ∈ nw, fn_isN w) {A : Nat → Prop} {M : fm_M} {s : State} {H : Heap} {locs : List Loc} {H0 : Heap} {b ci : Nat} {fs As : List Value} {q : vw_C} (hK : va_K D cl tys s) (hN : ∀ w ∈ nw, va_Nw w s) (hW : fm_W D cl A M H0 H locs) (he : M b = some (.inr (ci, fs))) (hc : cl[ci]? = some q) : PreV s H q.1 b (va_Pc (.ref b :: As) (fm_St D cl tys nw A M)) As :=
  ⟨fn_blind hn, va_recv hK (fm_one hW.1 he) hc (q0 := 0) rfl, (fn_pre hn hK hN hW).2⟩
