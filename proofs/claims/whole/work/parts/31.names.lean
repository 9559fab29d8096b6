-- PART A of kit/laws/SKELETON.whole, as given for pasting
-- ===== PART A: goes FIRST, ahead of the names: the tables' words, and 'selects' of the private methods out of them =====
/-- a private method of a class that the tables say can be made, by its rows of tables_1 -/
def lw_okq (q : MethodName × Nat) : Prop := (q.1.cls ≠ "java/lang/invoke/MethodHandle" ∧ q.1.cls ≠ "java/lang/invoke/VarHandle") ∧ Cond.instantiable q.1.cls q.2 ∈ tables_1 ∧ Cond.privateMethod q.1 ∈ tables_1 ∧ Cond.instanceMethod q.1 ∈ tables_1
theorem lw_p0 : lw_okq (⟨"FrameSamples", "startOver", "(I)V"⟩, 11) := ⟨⟨by decide +kernel, by decide +kernel⟩, List.mem_of_getElem? (i := 14) (by decide +kernel), List.mem_of_getElem? (i := 95) (by decide +kernel), List.mem_of_getElem? (i := 96) (by decide +kernel)⟩
theorem lw_p1 : lw_okq (⟨"FrameSamples", "isWire", "(I)Z"⟩, 11) := ⟨⟨by decide +kernel, by decide +kernel⟩, List.mem_of_getElem? (i := 14) (by decide +kernel), List.mem_of_getElem? (i := 152) (by decide +kernel), List.mem_of_getElem? (i := 153) (by decide +kernel)⟩
theorem lw_p2 : lw_okq (⟨"FrameSamples$Pauli", "passH", "(I)V"⟩, 4) := ⟨⟨by decide +kernel, by decide +kernel⟩, List.mem_of_getElem? (i := 29) (by decide +kernel), List.mem_of_getElem? (i := 167) (by decide +kernel), List.mem_of_getElem? (i := 168) (by decide +kernel)⟩
theorem lw_p3 : lw_okq (⟨"FrameSamples$Pauli", "passS", "(I)V"⟩, 4) := ⟨⟨by decide +kernel, by decide +kernel⟩, List.mem_of_getElem? (i := 29) (by decide +kernel), List.mem_of_getElem? (i := 179) (by decide +kernel), List.mem_of_getElem? (i := 180) (by decide +kernel)⟩
theorem lw_p4 : lw_okq (⟨"FrameSamples$Pauli", "passControlledX", "(II)V"⟩, 4) := ⟨⟨by decide +kernel, by decide +kernel⟩, List.mem_of_getElem? (i := 29) (by decide +kernel), List.mem_of_getElem? (i := 183) (by decide +kernel), List.mem_of_getElem? (i := 184) (by decide +kernel)⟩
theorem lw_p5 : lw_okq (⟨"FrameSamples$Tableau", "collapse", "(III)LFrameSamples$Pauli;"⟩, 4) := ⟨⟨by decide +kernel, by decide +kernel⟩, List.mem_of_getElem? (i := 22) (by decide +kernel), List.mem_of_getElem? (i := 200) (by decide +kernel), List.mem_of_getElem? (i := 201) (by decide +kernel)⟩
theorem lw_p6 : lw_okq (⟨"FrameSamples$Tableau", "zFromKeepers", "(I)LFrameSamples$Pauli;"⟩, 4) := ⟨⟨by decide +kernel, by decide +kernel⟩, List.mem_of_getElem? (i := 22) (by decide +kernel), List.mem_of_getElem? (i := 218) (by decide +kernel), List.mem_of_getElem? (i := 219) (by decide +kernel)⟩
theorem lw_p7 : lw_okq (⟨"FrameSamples", "countEdges", "()I"⟩, 11) := ⟨⟨by decide +kernel, by decide +kernel⟩, List.mem_of_getElem? (i := 14) (by decide +kernel), List.mem_of_getElem? (i := 283) (by decide +kernel), List.mem_of_getElem? (i := 284) (by decide +kernel)⟩
theorem lw_p8 : lw_okq (⟨"FrameSamples", "isFirstOfEdge", "(I)Z"⟩, 11) := ⟨⟨by decide +kernel, by decide +kernel⟩, List.mem_of_getElem? (i := 14) (by decide +kernel), List.mem_of_getElem? (i := 287) (by decide +kernel), List.mem_of_getElem? (i := 288) (by decide +kernel)⟩
theorem lw_p9 : lw_okq (⟨"FrameSamples", "firstFaultOfEdge", "(I)I"⟩, 11) := ⟨⟨by decide +kernel, by decide +kernel⟩, List.mem_of_getElem? (i := 14) (by decide +kernel), List.mem_of_getElem? (i := 299) (by decide +kernel), List.mem_of_getElem? (i := 300) (by decide +kernel)⟩
theorem lw_p10 : lw_okq (⟨"FrameSamples", "faultsLike", "(I)J"⟩, 11) := ⟨⟨by decide +kernel, by decide +kernel⟩, List.mem_of_getElem? (i := 14) (by decide +kernel), List.mem_of_getElem? (i := 303) (by decide +kernel), List.mem_of_getElem? (i := 304) (by decide +kernel)⟩
theorem lw_p11 : lw_okq (⟨"FrameSamples", "oddsNumerator", "(J)J"⟩, 11) := ⟨⟨by decide +kernel, by decide +kernel⟩, List.mem_of_getElem? (i := 14) (by decide +kernel), List.mem_of_getElem? (i := 307) (by decide +kernel), List.mem_of_getElem? (i := 308) (by decide +kernel)⟩
theorem lw_p12 : lw_okq (⟨"FrameSamples", "oddCases", "(J)J"⟩, 11) := ⟨⟨by decide +kernel, by decide +kernel⟩, List.mem_of_getElem? (i := 14) (by decide +kernel), List.mem_of_getElem? (i := 311) (by decide +kernel), List.mem_of_getElem? (i := 312) (by decide +kernel)⟩
theorem lw_p13 : lw_okq (⟨"java/lang/Throwable", "fillInStackTrace", "(I)Ljava/lang/Throwable;"⟩, 6) := ⟨⟨by decide +kernel, by decide +kernel⟩, List.mem_of_getElem? (i := 351) (by decide +kernel), List.mem_of_getElem? (i := 349) (by decide +kernel), List.mem_of_getElem? (i := 350) (by decide +kernel)⟩
theorem lw_p14 : lw_okq (⟨"FrameSamples", "oddsExponent", "(J)J"⟩, 11) := ⟨⟨by decide +kernel, by decide +kernel⟩, List.mem_of_getElem? (i := 14) (by decide +kernel), List.mem_of_getElem? (i := 393) (by decide +kernel), List.mem_of_getElem? (i := 394) (by decide +kernel)⟩
theorem lw_p15 : lw_okq (⟨"FrameSamplesModel", "start", "(I)V"⟩, 30) := ⟨⟨by decide +kernel, by decide +kernel⟩, List.mem_of_getElem? (i := 397) (by decide +kernel), List.mem_of_getElem? (i := 403) (by decide +kernel), List.mem_of_getElem? (i := 404) (by decide +kernel)⟩
def lw_privs_1 : List (MethodName × Nat) := [(⟨"FrameSamples", "startOver", "(I)V"⟩, 11), (⟨"FrameSamples", "isWire", "(I)Z"⟩, 11), (⟨"FrameSamples$Pauli", "passH", "(I)V"⟩, 4), (⟨"FrameSamples$Pauli", "passS", "(I)V"⟩, 4), (⟨"FrameSamples$Pauli", "passControlledX", "(II)V"⟩, 4), (⟨"FrameSamples$Tableau", "collapse", "(III)LFrameSamples$Pauli;"⟩, 4), (⟨"FrameSamples$Tableau", "zFromKeepers", "(I)LFrameSamples$Pauli;"⟩, 4), (⟨"FrameSamples", "countEdges", "()I"⟩, 11), (⟨"FrameSamples", "isFirstOfEdge", "(I)Z"⟩, 11), (⟨"FrameSamples", "firstFaultOfEdge", "(I)I"⟩, 11), (⟨"FrameSamples", "faultsLike", "(I)J"⟩, 11), (⟨"FrameSamples", "oddsNumerator", "(J)J"⟩, 11), (⟨"FrameSamples", "oddCases", "(J)J"⟩, 11), (⟨"java/lang/Throwable", "fillInStackTrace", "(I)Ljava/lang/Throwable;"⟩, 6), (⟨"FrameSamples", "oddsExponent", "(J)J"⟩, 11), (⟨"FrameSamplesModel", "start", "(I)V"⟩, 30)]
theorem lw_r1 : ∀ q ∈ lw_privs_1, lw_okq q := List.forall_mem_cons.mpr ⟨lw_p0, List.forall_mem_cons.mpr ⟨lw_p1, List.forall_mem_cons.mpr ⟨lw_p2, List.forall_mem_cons.mpr ⟨lw_p3, List.forall_mem_cons.mpr ⟨lw_p4, List.forall_mem_cons.mpr ⟨lw_p5, List.forall_mem_cons.mpr ⟨lw_p6, List.forall_mem_cons.mpr ⟨lw_p7, List.forall_mem_cons.mpr ⟨lw_p8, List.forall_mem_cons.mpr ⟨lw_p9, List.forall_mem_cons.mpr ⟨lw_p10, List.forall_mem_cons.mpr ⟨lw_p11, List.forall_mem_cons.mpr ⟨lw_p12, List.forall_mem_cons.mpr ⟨lw_p13, List.forall_mem_cons.mpr ⟨lw_p14, List.forall_mem_cons.mpr ⟨lw_p15, fun _ h => absurd h List.not_mem_nil⟩⟩⟩⟩⟩⟩⟩⟩⟩⟩⟩⟩⟩⟩⟩⟩
theorem lw_p16 : lw_okq (⟨"FrameSamplesModel", "isWire", "(I)Z"⟩, 30) := ⟨⟨by decide +kernel, by decide +kernel⟩, List.mem_of_getElem? (i := 397) (by decide +kernel), List.mem_of_getElem? (i := 511) (by decide +kernel), List.mem_of_getElem? (i := 512) (by decide +kernel)⟩
theorem lw_p17 : lw_okq (⟨"FrameSamplesModel", "act", "(III)V"⟩, 30) := ⟨⟨by decide +kernel, by decide +kernel⟩, List.mem_of_getElem? (i := 397) (by decide +kernel), List.mem_of_getElem? (i := 515) (by decide +kernel), List.mem_of_getElem? (i := 516) (by decide +kernel)⟩
theorem lw_p18 : lw_okq (⟨"FrameSamplesModel", "playAll", "()V"⟩, 30) := ⟨⟨by decide +kernel, by decide +kernel⟩, List.mem_of_getElem? (i := 397) (by decide +kernel), List.mem_of_getElem? (i := 539) (by decide +kernel), List.mem_of_getElem? (i := 540) (by decide +kernel)⟩
theorem lw_p19 : lw_okq (⟨"FrameSamplesModel", "lookAt", "(II)V"⟩, 30) := ⟨⟨by decide +kernel, by decide +kernel⟩, List.mem_of_getElem? (i := 397) (by decide +kernel), List.mem_of_getElem? (i := 543) (by decide +kernel), List.mem_of_getElem? (i := 544) (by decide +kernel)⟩
theorem lw_p20 : lw_okq (⟨"FrameSamplesModel", "solve", "(II)V"⟩, 30) := ⟨⟨by decide +kernel, by decide +kernel⟩, List.mem_of_getElem? (i := 397) (by decide +kernel), List.mem_of_getElem? (i := 550) (by decide +kernel), List.mem_of_getElem? (i := 551) (by decide +kernel)⟩
theorem lw_p21 : lw_okq (⟨"FrameSamplesModel", "multiply", "(II)V"⟩, 30) := ⟨⟨by decide +kernel, by decide +kernel⟩, List.mem_of_getElem? (i := 397) (by decide +kernel), List.mem_of_getElem? (i := 557) (by decide +kernel), List.mem_of_getElem? (i := 558) (by decide +kernel)⟩
theorem lw_p22 : lw_okq (⟨"FrameSamplesModel", "powers", "(IIII)I"⟩, 30) := ⟨⟨by decide +kernel, by decide +kernel⟩, List.mem_of_getElem? (i := 397) (by decide +kernel), List.mem_of_getElem? (i := 561) (by decide +kernel), List.mem_of_getElem? (i := 562) (by decide +kernel)⟩
theorem lw_p23 : lw_okq (⟨"FrameSamplesModel", "takeRow", "(I)V"⟩, 30) := ⟨⟨by decide +kernel, by decide +kernel⟩, List.mem_of_getElem? (i := 397) (by decide +kernel), List.mem_of_getElem? (i := 568) (by decide +kernel), List.mem_of_getElem? (i := 569) (by decide +kernel)⟩
theorem lw_p24 : lw_okq (⟨"FrameSamplesModel", "clearWire", "(II)V"⟩, 30) := ⟨⟨by decide +kernel, by decide +kernel⟩, List.mem_of_getElem? (i := 397) (by decide +kernel), List.mem_of_getElem? (i := 572) (by decide +kernel), List.mem_of_getElem? (i := 573) (by decide +kernel)⟩
theorem lw_p25 : lw_okq (⟨"FrameSamplesModel", "gateRow", "(II)V"⟩, 30) := ⟨⟨by decide +kernel, by decide +kernel⟩, List.mem_of_getElem? (i := 397) (by decide +kernel), List.mem_of_getElem? (i := 576) (by decide +kernel), List.mem_of_getElem? (i := 577) (by decide +kernel)⟩
theorem lw_p26 : lw_okq (⟨"FrameSamplesModel", "swapBits", "(III)V"⟩, 30) := ⟨⟨by decide +kernel, by decide +kernel⟩, List.mem_of_getElem? (i := 397) (by decide +kernel), List.mem_of_getElem? (i := 580) (by decide +kernel), List.mem_of_getElem? (i := 581) (by decide +kernel)⟩
theorem lw_p27 : lw_okq (⟨"FrameSamplesModel", "changedBy", "(I)J"⟩, 30) := ⟨⟨by decide +kernel, by decide +kernel⟩, List.mem_of_getElem? (i := 397) (by decide +kernel), List.mem_of_getElem? (i := 592) (by decide +kernel), List.mem_of_getElem? (i := 593) (by decide +kernel)⟩
theorem lw_p28 : lw_okq (⟨"FrameSamplesModel", "goThrough", "(I)V"⟩, 30) := ⟨⟨by decide +kernel, by decide +kernel⟩, List.mem_of_getElem? (i := 397) (by decide +kernel), List.mem_of_getElem? (i := 596) (by decide +kernel), List.mem_of_getElem? (i := 597) (by decide +kernel)⟩
theorem lw_p29 : lw_okq (⟨"FrameSamplesModel", "checksOf", "(J)I"⟩, 30) := ⟨⟨by decide +kernel, by decide +kernel⟩, List.mem_of_getElem? (i := 397) (by decide +kernel), List.mem_of_getElem? (i := 600) (by decide +kernel), List.mem_of_getElem? (i := 601) (by decide +kernel)⟩
theorem lw_p30 : lw_okq (⟨"FrameSamplesModel", "findEdges", "()V"⟩, 30) := ⟨⟨by decide +kernel, by decide +kernel⟩, List.mem_of_getElem? (i := 397) (by decide +kernel), List.mem_of_getElem? (i := 611) (by decide +kernel), List.mem_of_getElem? (i := 612) (by decide +kernel)⟩
theorem lw_p31 : lw_okq (⟨"FrameSamplesModel", "odds", "(IZ)J"⟩, 30) := ⟨⟨by decide +kernel, by decide +kernel⟩, List.mem_of_getElem? (i := 397) (by decide +kernel), List.mem_of_getElem? (i := 615) (by decide +kernel), List.mem_of_getElem? (i := 616) (by decide +kernel)⟩
def lw_privs_2 : List (MethodName × Nat) := [(⟨"FrameSamplesModel", "isWire", "(I)Z"⟩, 30), (⟨"FrameSamplesModel", "act", "(III)V"⟩, 30), (⟨"FrameSamplesModel", "playAll", "()V"⟩, 30), (⟨"FrameSamplesModel", "lookAt", "(II)V"⟩, 30), (⟨"FrameSamplesModel", "solve", "(II)V"⟩, 30), (⟨"FrameSamplesModel", "multiply", "(II)V"⟩, 30), (⟨"FrameSamplesModel", "powers", "(IIII)I"⟩, 30), (⟨"FrameSamplesModel", "takeRow", "(I)V"⟩, 30), (⟨"FrameSamplesModel", "clearWire", "(II)V"⟩, 30), (⟨"FrameSamplesModel", "gateRow", "(II)V"⟩, 30), (⟨"FrameSamplesModel", "swapBits", "(III)V"⟩, 30), (⟨"FrameSamplesModel", "changedBy", "(I)J"⟩, 30), (⟨"FrameSamplesModel", "goThrough", "(I)V"⟩, 30), (⟨"FrameSamplesModel", "checksOf", "(J)I"⟩, 30), (⟨"FrameSamplesModel", "findEdges", "()V"⟩, 30), (⟨"FrameSamplesModel", "odds", "(IZ)J"⟩, 30)]
theorem lw_r2 : ∀ q ∈ lw_privs_2, lw_okq q := List.forall_mem_cons.mpr ⟨lw_p16, List.forall_mem_cons.mpr ⟨lw_p17, List.forall_mem_cons.mpr ⟨lw_p18, List.forall_mem_cons.mpr ⟨lw_p19, List.forall_mem_cons.mpr ⟨lw_p20, List.forall_mem_cons.mpr ⟨lw_p21, List.forall_mem_cons.mpr ⟨lw_p22, List.forall_mem_cons.mpr ⟨lw_p23, List.forall_mem_cons.mpr ⟨lw_p24, List.forall_mem_cons.mpr ⟨lw_p25, List.forall_mem_cons.mpr ⟨lw_p26, List.forall_mem_cons.mpr ⟨lw_p27, List.forall_mem_cons.mpr ⟨lw_p28, List.forall_mem_cons.mpr ⟨lw_p29, List.forall_mem_cons.mpr ⟨lw_p30, List.forall_mem_cons.mpr ⟨lw_p31, fun _ h => absurd h List.not_mem_nil⟩⟩⟩⟩⟩⟩⟩⟩⟩⟩⟩⟩⟩⟩⟩⟩
def lw_privs : List (MethodName × Nat) := lw_privs_1 ++ (lw_privs_2)
def lw_tbl : List Cond := k2_sels lw_privs ++ tables_1
theorem lw_privs_ok : ∀ q ∈ lw_privs, lw_okq q := by
  show ∀ q ∈ lw_privs_1 ++ (lw_privs_2), lw_okq q
  exact List.forall_mem_append.mpr ⟨lw_r1, lw_r2⟩
-- the words that every method takes: the good ones of the tables
def fs_tb : List Cond := lw_tbl.filter goodWord
theorem fs_tb_l {w : Cond} (h : w ∈ fs_tb) : w ∈ lw_tbl := (List.mem_filter.mp h).1
theorem fs_tb_g {w : Cond} (h : w ∈ fs_tb) : (w.onTables && w.keeps) = true ∨ ∃ ty, w = .arrayClass ty := good_of_word (List.mem_filter.mp h).2
theorem fs_ti {w : Cond} (i : Nat) (h : tables_1[i]? = some w) (g : goodWord w = true) : w ∈ fs_tb := List.mem_filter.mpr ⟨List.mem_append_right _ (List.mem_of_getElem? h), g⟩
theorem fs_si {w : Cond} (i : Nat) (h : (k2_sels lw_privs)[i]? = some w) (g : goodWord w = true) : w ∈ fs_tb := List.mem_filter.mpr ⟨List.mem_append_left _ (List.mem_of_getElem? h), g⟩
theorem fs_gin {a b : Cond} (hb : b ∈ fs_tb) : GoodIn (a :: fs_tb) (b :: fs_tb) := by
  intro w hw
  rcases List.mem_cons.mp hw with rfl | h
  · exact ⟨List.mem_cons_of_mem _ hb, fs_tb_g hb⟩
  · exact ⟨List.mem_cons_of_mem _ h, fs_tb_g h⟩
theorem fs_gV {a b : Cond} {own C : String} {idx : Nat} {y : MethodName} (h1 : Cond.methodLink own idx y ∈ fs_tb) (h2 : Cond.instanceMethod y ∈ fs_tb) (h3 : Cond.selects C y y ∈ fs_tb) (h4 : Cond.initialized C ∈ fs_tb) (hb : b ∈ fs_tb) : GoodIn (a :: fs_tb) (wsV own idx C y (b :: fs_tb)) := by
  intro w hw
  have one : ∀ {v : Cond}, v ∈ fs_tb → v ∈ a :: fs_tb ∧ ((v.onTables && v.keeps) = true ∨ ∃ ty, v = .arrayClass ty) := fun h => ⟨List.mem_cons_of_mem _ h, fs_tb_g h⟩
  rcases List.mem_append.mp hw with h | h
  · rcases List.mem_cons.mp h with rfl | h
    · exact one h1
    · rcases List.mem_cons.mp h with rfl | h
      · exact one h2
      · rcases List.mem_cons.mp h with rfl | h
        · exact one h3
        · rw [List.mem_singleton.mp h]; exact one h4
  · exact fs_gin hb w h
theorem fs_gS {a b : Cond} {own : String} {idx : Nat} {y : MethodName} (h1 : Cond.methodLink own idx y ∈ fs_tb) (h2 : Cond.static y ∈ fs_tb) (h3 : Cond.initialized own ∈ fs_tb) (hb : b ∈ fs_tb) : GoodIn (a :: fs_tb) (wsS own idx y (b :: fs_tb)) := by
  intro w hw
  have one : ∀ {v : Cond}, v ∈ fs_tb → v ∈ a :: fs_tb ∧ ((v.onTables && v.keeps) = true ∨ ∃ ty, v = .arrayClass ty) := fun h => ⟨List.mem_cons_of_mem _ h, fs_tb_g h⟩
  rcases List.mem_append.mp hw with h | h
  · rcases List.mem_cons.mp h with rfl | h
    · exact one h1
    · rcases List.mem_cons.mp h with rfl | h
      · exact one h2
      · rw [List.mem_singleton.mp h]; exact one h3
  · exact fs_gin hb w h
def RP : String := "FrameSamples$Pauli"
def TP : u_T := fun k => match k with
  | 0 => ("FrameSamples$Pauli", "xs", "I", false)
  | 1 => ("FrameSamples$Pauli", "zs", "I", false)
  | 2 => ("FrameSamples$Pauli", "constant", "I", false)
  | _ => ("FrameSamples$Pauli", "randoms", "J", false)
def tyP : Nat → FieldType := fun k => match k with
  | 0 => .int
  | 1 => .int
  | 2 => .int
  | _ => .long
theorem nmP : ∀ a, a < 4 → ∀ b, b < 4 → a ≠ b → (TP a).2.1 ≠ (TP b).2.1 := by decide +kernel
theorem tkP : ∀ k, k < 4 → parseFieldDescriptor (TP k).2.2.1 = some (tyP k) := by decide +kernel
theorem inP : ∀ w ∈ u_ws RP TP 4, w ∈ fs_tb := by
  intro w hw
  obtain ⟨k, hk, rfl⟩ := List.mem_map.mp hw
  have hk := List.mem_range.mp hk
  rcases (show k = 0 ∨ k = 1 ∨ k = 2 ∨ k = 3 by omega) with rfl | rfl | rfl | rfl
  · exact fs_ti 44 (by decide +kernel) (by decide +kernel)
  · exact fs_ti 46 (by decide +kernel) (by decide +kernel)
  · exact fs_ti 48 (by decide +kernel) (by decide +kernel)
  · exact fs_ti 50 (by decide +kernel) (by decide +kernel)
def RT : String := "FrameSamples$Tableau"
def TT : u_T := fun k => match k with
  | 0 => ("FrameSamples$Tableau", "keepers", "[LFrameSamples$Pauli;", true)
  | 1 => ("FrameSamples$Tableau", "partners", "[LFrameSamples$Pauli;", true)
  | 2 => ("FrameSamples$Tableau", "product", "LFrameSamples$Pauli;", true)
  | _ => ("FrameSamples$Tableau", "wires", "I", false)
def tyT : Nat → FieldType := fun k => match k with
  | 0 => .array (.object "FrameSamples$Pauli")
  | 1 => .array (.object "FrameSamples$Pauli")
  | 2 => .object "FrameSamples$Pauli"
  | _ => .int
theorem nmT : ∀ a, a < 4 → ∀ b, b < 4 → a ≠ b → (TT a).2.1 ≠ (TT b).2.1 := by decide +kernel
theorem tkT : ∀ k, k < 4 → parseFieldDescriptor (TT k).2.2.1 = some (tyT k) := by decide +kernel
theorem inT : ∀ w ∈ u_ws RT TT 4, w ∈ fs_tb := by
  intro w hw
  obtain ⟨k, hk, rfl⟩ := List.mem_map.mp hw
  have hk := List.mem_range.mp hk
  rcases (show k = 0 ∨ k = 1 ∨ k = 2 ∨ k = 3 by omega) with rfl | rfl | rfl | rfl
  · exact fs_ti 57 (by decide +kernel) (by decide +kernel)
  · exact fs_ti 59 (by decide +kernel) (by decide +kernel)
  · exact fs_ti 61 (by decide +kernel) (by decide +kernel)
  · exact fs_ti 63 (by decide +kernel) (by decide +kernel)
def RF : String := "FrameSamples$Fault"
def TF : u_T := fun k => match k with
  | 0 => ("FrameSamples$Fault", "frame", "LFrameSamples$Pauli;", true)
  | 1 => ("FrameSamples$Fault", "odds", "I", false)
  | 2 => ("FrameSamples$Fault", "changedLooks", "J", false)
  | _ => ("FrameSamples$Fault", "changedChecks", "I", false)
def tyF : Nat → FieldType := fun k => match k with
  | 0 => .object "FrameSamples$Pauli"
  | 1 => .int
  | 2 => .long
  | _ => .int
theorem nmF : ∀ a, a < 4 → ∀ b, b < 4 → a ≠ b → (TF a).2.1 ≠ (TF b).2.1 := by decide +kernel
theorem tkF : ∀ k, k < 4 → parseFieldDescriptor (TF k).2.2.1 = some (tyF k) := by decide +kernel
theorem inF : ∀ w ∈ u_ws RF TF 4, w ∈ fs_tb := by
  intro w hw
  obtain ⟨k, hk, rfl⟩ := List.mem_map.mp hw
  have hk := List.mem_range.mp hk
  rcases (show k = 0 ∨ k = 1 ∨ k = 2 ∨ k = 3 by omega) with rfl | rfl | rfl | rfl
  · exact fs_ti 83 (by decide +kernel) (by decide +kernel)
  · exact fs_ti 85 (by decide +kernel) (by decide +kernel)
  · exact fs_ti 87 (by decide +kernel) (by decide +kernel)
  · exact fs_ti 89 (by decide +kernel) (by decide +kernel)
def RS : String := "FrameSamples"
def TS : u_T := fun k => match k with
  | 0 => ("FrameSamples", "tableau", "LFrameSamples$Tableau;", true)
  | 1 => ("FrameSamples", "lookConstants", "[I", true)
  | 2 => ("FrameSamples", "lookRandoms", "[J", true)
  | 3 => ("FrameSamples", "faultRows", "[LFrameSamples$Fault;", true)
  | 4 => ("FrameSamples", "checkConstants", "[I", true)
  | 5 => ("FrameSamples", "checkRandoms", "[J", true)
  | 6 => ("FrameSamples", "wireCount", "I", false)
  | 7 => ("FrameSamples", "actCount", "I", false)
  | 8 => ("FrameSamples", "lookCount", "I", false)
  | 9 => ("FrameSamples", "faultCount", "I", false)
  | _ => ("FrameSamples", "checkCount", "I", false)
def tyS : Nat → FieldType := fun k => match k with
  | 0 => .object "FrameSamples$Tableau"
  | 1 => .array (.int)
  | 2 => .array (.long)
  | 3 => .array (.object "FrameSamples$Fault")
  | 4 => .array (.int)
  | 5 => .array (.long)
  | 6 => .int
  | 7 => .int
  | 8 => .int
  | 9 => .int
  | _ => .int
theorem nmS : ∀ a, a < 11 → ∀ b, b < 11 → a ≠ b → (TS a).2.1 ≠ (TS b).2.1 := by decide +kernel
theorem tkS : ∀ k, k < 11 → parseFieldDescriptor (TS k).2.2.1 = some (tyS k) := by decide +kernel
theorem inS : ∀ w ∈ u_ws RS TS 11, w ∈ fs_tb := by
  intro w hw
  obtain ⟨k, hk, rfl⟩ := List.mem_map.mp hw
  have hk := List.mem_range.mp hk
  rcases (show k = 0 ∨ k = 1 ∨ k = 2 ∨ k = 3 ∨ k = 4 ∨ k = 5 ∨ k = 6 ∨ k = 7 ∨ k = 8 ∨ k = 9 ∨ k = 10 by omega) with rfl | rfl | rfl | rfl | rfl | rfl | rfl | rfl | rfl | rfl | rfl
  · exact fs_ti 120 (by decide +kernel) (by decide +kernel)
  · exact fs_ti 122 (by decide +kernel) (by decide +kernel)
  · exact fs_ti 124 (by decide +kernel) (by decide +kernel)
  · exact fs_ti 126 (by decide +kernel) (by decide +kernel)
  · exact fs_ti 128 (by decide +kernel) (by decide +kernel)
  · exact fs_ti 130 (by decide +kernel) (by decide +kernel)
  · exact fs_ti 132 (by decide +kernel) (by decide +kernel)
  · exact fs_ti 134 (by decide +kernel) (by decide +kernel)
  · exact fs_ti 136 (by decide +kernel) (by decide +kernel)
  · exact fs_ti 138 (by decide +kernel) (by decide +kernel)
  · exact fs_ti 140 (by decide +kernel) (by decide +kernel)
def RM : String := "FrameSamplesModel"
def TM : u_T := fun k => match k with
  | 0 => ("FrameSamplesModel", "thrown", "I", false)
  | 1 => ("FrameSamplesModel", "wires", "I", false)
  | 2 => ("FrameSamplesModel", "acts", "I", false)
  | 3 => ("FrameSamplesModel", "looks", "I", false)
  | 4 => ("FrameSamplesModel", "faults", "I", false)
  | 5 => ("FrameSamplesModel", "checks", "I", false)
  | 6 => ("FrameSamplesModel", "kind", "[I", true)
  | 7 => ("FrameSamplesModel", "one", "[I", true)
  | 8 => ("FrameSamplesModel", "other", "[I", true)
  | 9 => ("FrameSamplesModel", "faultAt", "[I", true)
  | 10 => ("FrameSamplesModel", "faultWhat", "[I", true)
  | 11 => ("FrameSamplesModel", "faultOdds", "[I", true)
  | 12 => ("FrameSamplesModel", "checkSet", "[J", true)
  | 13 => ("FrameSamplesModel", "xs", "[I", true)
  | 14 => ("FrameSamplesModel", "zs", "[I", true)
  | 15 => ("FrameSamplesModel", "sign", "[I", true)
  | 16 => ("FrameSamplesModel", "hangs", "[J", true)
  | 17 => ("FrameSamplesModel", "lookSign", "[I", true)
  | 18 => ("FrameSamplesModel", "lookHangs", "[J", true)
  | 19 => ("FrameSamplesModel", "isUsed", "[Z", true)
  | 20 => ("FrameSamplesModel", "madeX", "I", false)
  | 21 => ("FrameSamplesModel", "madeZ", "I", false)
  | 22 => ("FrameSamplesModel", "madeSign", "I", false)
  | 23 => ("FrameSamplesModel", "madeHangs", "J", false)
  | 24 => ("FrameSamplesModel", "goX", "I", false)
  | 25 => ("FrameSamplesModel", "goZ", "I", false)
  | 26 => ("FrameSamplesModel", "changed", "J", false)
  | 27 => ("FrameSamplesModel", "edges", "I", false)
  | 28 => ("FrameSamplesModel", "edgeChecks", "[I", true)
  | _ => ("FrameSamplesModel", "edgeFaults", "[J", true)
def tyM : Nat → FieldType := fun k => match k with
  | 0 => .int
  | 1 => .int
  | 2 => .int
  | 3 => .int
  | 4 => .int
  | 5 => .int
  | 6 => .array (.int)
  | 7 => .array (.int)
  | 8 => .array (.int)
  | 9 => .array (.int)
  | 10 => .array (.int)
  | 11 => .array (.int)
  | 12 => .array (.long)
  | 13 => .array (.int)
  | 14 => .array (.int)
  | 15 => .array (.int)
  | 16 => .array (.long)
  | 17 => .array (.int)
  | 18 => .array (.long)
  | 19 => .array (.boolean)
  | 20 => .int
  | 21 => .int
  | 22 => .int
  | 23 => .long
  | 24 => .int
  | 25 => .int
  | 26 => .long
  | 27 => .int
  | 28 => .array (.int)
  | _ => .array (.long)
theorem nmM : ∀ a, a < 30 → ∀ b, b < 30 → a ≠ b → (TM a).2.1 ≠ (TM b).2.1 := by decide +kernel
theorem tkM : ∀ k, k < 30 → parseFieldDescriptor (TM k).2.2.1 = some (tyM k) := by decide +kernel
theorem inM : ∀ w ∈ u_ws RM TM 30, w ∈ fs_tb := by
  intro w hw
  obtain ⟨k, hk, rfl⟩ := List.mem_map.mp hw
  have hk := List.mem_range.mp hk
  rcases (show k = 0 ∨ k = 1 ∨ k = 2 ∨ k = 3 ∨ k = 4 ∨ k = 5 ∨ k = 6 ∨ k = 7 ∨ k = 8 ∨ k = 9 ∨ k = 10 ∨ k = 11 ∨ k = 12 ∨ k = 13 ∨ k = 14 ∨ k = 15 ∨ k = 16 ∨ k = 17 ∨ k = 18 ∨ k = 19 ∨ k = 20 ∨ k = 21 ∨ k = 22 ∨ k = 23 ∨ k = 24 ∨ k = 25 ∨ k = 26 ∨ k = 27 ∨ k = 28 ∨ k = 29 by omega) with rfl | rfl | rfl | rfl | rfl | rfl | rfl | rfl | rfl | rfl | rfl | rfl | rfl | rfl | rfl | rfl | rfl | rfl | rfl | rfl | rfl | rfl | rfl | rfl | rfl | rfl | rfl | rfl | rfl | rfl
  · exact fs_ti 436 (by decide +kernel) (by decide +kernel)
  · exact fs_ti 438 (by decide +kernel) (by decide +kernel)
  · exact fs_ti 440 (by decide +kernel) (by decide +kernel)
  · exact fs_ti 442 (by decide +kernel) (by decide +kernel)
  · exact fs_ti 444 (by decide +kernel) (by decide +kernel)
  · exact fs_ti 446 (by decide +kernel) (by decide +kernel)
  · exact fs_ti 448 (by decide +kernel) (by decide +kernel)
  · exact fs_ti 450 (by decide +kernel) (by decide +kernel)
  · exact fs_ti 452 (by decide +kernel) (by decide +kernel)
  · exact fs_ti 454 (by decide +kernel) (by decide +kernel)
  · exact fs_ti 456 (by decide +kernel) (by decide +kernel)
  · exact fs_ti 458 (by decide +kernel) (by decide +kernel)
  · exact fs_ti 460 (by decide +kernel) (by decide +kernel)
  · exact fs_ti 462 (by decide +kernel) (by decide +kernel)
  · exact fs_ti 464 (by decide +kernel) (by decide +kernel)
  · exact fs_ti 466 (by decide +kernel) (by decide +kernel)
  · exact fs_ti 468 (by decide +kernel) (by decide +kernel)
  · exact fs_ti 470 (by decide +kernel) (by decide +kernel)
  · exact fs_ti 472 (by decide +kernel) (by decide +kernel)
  · exact fs_ti 474 (by decide +kernel) (by decide +kernel)
  · exact fs_ti 476 (by decide +kernel) (by decide +kernel)
  · exact fs_ti 478 (by decide +kernel) (by decide +kernel)
  · exact fs_ti 480 (by decide +kernel) (by decide +kernel)
  · exact fs_ti 482 (by decide +kernel) (by decide +kernel)
  · exact fs_ti 484 (by decide +kernel) (by decide +kernel)
  · exact fs_ti 486 (by decide +kernel) (by decide +kernel)
  · exact fs_ti 488 (by decide +kernel) (by decide +kernel)
  · exact fs_ti 490 (by decide +kernel) (by decide +kernel)
  · exact fs_ti 492 (by decide +kernel) (by decide +kernel)
  · exact fs_ti 494 (by decide +kernel) (by decide +kernel)
abbrev fs_cl5 : List vw_C := [(RP, TP, 4), (RT, TT, 4), (RF, TF, 4), (RS, TS, 11), (RM, TM, 30)]
def RL : String := "FrameSamplesLaw"
theorem ini_P : Cond.initialized "FrameSamples$Pauli" ∈ fs_tb := fs_ti 3 (by decide +kernel) (by decide +kernel)
theorem ini_T : Cond.initialized "FrameSamples$Tableau" ∈ fs_tb := fs_ti 2 (by decide +kernel) (by decide +kernel)
theorem ini_F : Cond.initialized "FrameSamples$Fault" ∈ fs_tb := fs_ti 4 (by decide +kernel) (by decide +kernel)
theorem ini_S : Cond.initialized "FrameSamples" ∈ fs_tb := fs_ti 1 (by decide +kernel) (by decide +kernel)
theorem ini_M : Cond.initialized "FrameSamplesModel" ∈ fs_tb := fs_ti 6 (by decide +kernel) (by decide +kernel)
theorem ini_L : Cond.initialized "FrameSamplesLaw" ∈ fs_tb := fs_ti 0 (by decide +kernel) (by decide +kernel)
theorem ini_JI : Cond.initialized "java/lang/Integer" ∈ fs_tb := fs_ti 7 (by decide +kernel) (by decide +kernel)
theorem ini_JL : Cond.initialized "java/lang/Long" ∈ fs_tb := fs_ti 8 (by decide +kernel) (by decide +kernel)
theorem ini_JM : Cond.initialized "java/lang/Math" ∈ fs_tb := fs_ti 5 (by decide +kernel) (by decide +kernel)
theorem ist_P : Cond.instantiable "FrameSamples$Pauli" 4 ∈ fs_tb := fs_ti 29 (by decide +kernel) (by decide +kernel)
theorem ist_T : Cond.instantiable "FrameSamples$Tableau" 4 ∈ fs_tb := fs_ti 22 (by decide +kernel) (by decide +kernel)
theorem ist_F : Cond.instantiable "FrameSamples$Fault" 4 ∈ fs_tb := fs_ti 68 (by decide +kernel) (by decide +kernel)
theorem ist_S : Cond.instantiable "FrameSamples" 11 ∈ fs_tb := fs_ti 14 (by decide +kernel) (by decide +kernel)
theorem ist_M : Cond.instantiable "FrameSamplesModel" 30 ∈ fs_tb := fs_ti 397 (by decide +kernel) (by decide +kernel)
def fs_nw : List Cond := [.arrayOver (.object "FrameSamples$Pauli"), .methodLinkNest "FrameSamples$Tableau" 20 ⟨"FrameSamples$Pauli", "<init>", "()V"⟩ "FrameSamples", .fieldLinkNest "FrameSamples$Fault" 40 "FrameSamples$Pauli" "xs" "I" "FrameSamples", .fieldLinkNest "FrameSamples$Fault" 37 "FrameSamples$Pauli" "zs" "I" "FrameSamples", .fieldLinkNest "FrameSamples" 73 "FrameSamples$Pauli" "constant" "I" "FrameSamples", .fieldLinkNest "FrameSamples$Tableau" 69 "FrameSamples$Pauli" "constant" "I" "FrameSamples", .fieldLinkNest "FrameSamples" 76 "FrameSamples$Pauli" "randoms" "J" "FrameSamples", .fieldLinkNest "FrameSamples$Tableau" 62 "FrameSamples$Pauli" "randoms" "J" "FrameSamples", .arrayOver (.object "FrameSamples$Fault"), .methodLinkNest "FrameSamples$Fault" 11 ⟨"FrameSamples$Pauli", "<init>", "()V"⟩ "FrameSamples", .fieldLinkNest "FrameSamples" 59 "FrameSamples$Fault" "frame" "LFrameSamples$Pauli;" "FrameSamples", .fieldLinkNest "FrameSamples" 153 "FrameSamples$Fault" "odds" "I" "FrameSamples", .fieldLinkNest "FrameSamples" 104 "FrameSamples$Fault" "changedLooks" "J" "FrameSamples", .fieldLinkNest "FrameSamples" 107 "FrameSamples$Fault" "changedChecks" "I" "FrameSamples", .methodLinkNest "FrameSamples$Fault" 43 ⟨"FrameSamples", "parity", "(J)I"⟩ "FrameSamples"]
