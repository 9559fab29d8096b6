-- calls that throw: what such a method leaves; the caller is left, or catches
/-- the world that a throw leaves: the cell of what was thrown -/
def ft_B (C : String) (D : va_G) (cl : List vw_C) (A : Nat → Prop) (M : fm_M) (st : State) (x : Nat) (t : State) : Prop :=
  (∃ ce : Cell, t.heap[x]? = some ce ∧ ce.vm = .none ∧ t.vm.findClass C = some ce.cls) ∧ fm_B D cl A M t ∧ va_F A st t
def ft_Q (below : List Frame) (B : State → Nat → State → Prop) (s : State) (mc ms : Nat) (free : Addr → Prop) : State → Prop := fun t =>
  ∃ x : Addr, t.status = .running ∧ Ended t below (.threw x) ∧ B s x t ∧ s.WarmedH t.vm ∧ ∃ L, s.sameButNew ({ t with vm := s.vm } : State) L mc ms ∧ ∀ q ∈ L, free q.base
def ft_Met (l : Launch) (y : MethodName) (ws : List Cond) (rm : Room) (Pc : Array Value → State → Prop) (B : State → Nat → State → Prop) (mc ms : Nat) (free : Addr → Prop) : Prop :=
  MetFree l y (headSpec ws rm) Pc (fun _ _ _ _ _ => True) (fun _ st o t => ∃ x : Addr, o = .threw x ∧ B st x t ∧ st.WarmedH t.vm ∧ ∃ L, st.sameButNew ({ t with vm := st.vm } : State) L mc ms ∧ ∀ q ∈ L, free q.base)
theorem ft_ofW {l : Launch} {y : MethodName} {ws ws' : List Cond} {rm : Room} {Pc : Array Value → State → Prop} {B : State → Nat → State → Prop} {mc ms : Nat} {free : Addr → Prop} {cc : ByteArray} {maxL : Nat} {ret : Option FieldType}
    (hy : plainName y.cls = true) (hw : ws = Cond.code y cc maxL ret :: ws')
    (body : ∀ p e s m args below meth c s₁, BodyLoose p l y (headSpec ws rm) cc maxL ret e s m args below meth c s₁ → c.maxLocals = maxL → Pc args s →
      W p l e (headSpec ws rm).room s m args below meth c s.heap [] 0 0 (ft_Q below B s mc ms free) (entryFrame m args maxL)) : ft_Met l y ws rm Pc B mc ms free := by
  refine MetFree.of_bodyS (code := cc) (maxLocals := maxL) (ret := ret) hy ?_ ?_
  · intro args s m h hn
    obtain ⟨meth, c, h1, h2, h3, h4, h5, h6, -, -⟩ := Cond.code_spec hn (atoms_spec (ws := ws) h _ (by rw [hw]; exact List.mem_cons_self))
    exact ⟨meth, c, h1, h2, h3, h4, h5, h6⟩
  · intro p e s m args below meth c s₁ B hml hP _
    have hh0 : s₁.heap = s.heap := by rw [B.state]; rfl
    obtain ⟨t, a1, x, b1, b2, b3, b4, b5⟩ := body p e s m args below meth c s₁ B hml hP s₁ hh0 (Stand.of_body B)
    exact ⟨t, .threw x, a1, b1, b2, x, rfl, b3, b4, b5⟩
section FTR
variable {p : Program} {l : Launch} {e : Env} {R : Room} {s : State} {m : MethodId} {args : Array Value} {below : List Frame} {meth : Method} {c : Code} {H : Heap} {locs : List Loc} {cells slots : Nat} {Q : State → Prop}
variable {y : MethodName} {bytes cc : ByteArray} {maxL nL mc ms n index : Nat} {ret : Option FieldType} {ws : List Cond} {rm : Room} {Pc : Array Value → State → Prop} {B : State → Nat → State → Prop} {free : Addr → Prop} {Ts : List Cond} {own C : String} {b : Addr} {As rest : List Value} {g : JFrame}
/-- the throwing call, from its instruction's own step on -/
theorem ft_back {U : State} (X : Stand p l e R s m args below meth c U locs cells slots) (cb : CallB R s args own index y bytes maxL ret ws rm mc ms n) (hM : ft_Met l y ws rm Pc B mc ms free) (hbl : FrameBlind Pc)
    {ig : Instr} {len : Nat} {mk : MethodId} {a : Array Value} (hg : g.method = m) (hsize : g.locals.size = c.maxLocals) (hdg : decode c.code g.pc = .ok (ig, len)) (hW : 2 * g.monitorRoom + (g.stack.map fun v => v.category).sum ≤ 8) (hn : U.methodNamed? y = some mk) (hf : cells + mc ≤ R.cells ∧ slots + ms ≤ R.slots) (hp : Pc a U) :
    ∃ (x : Addr) (st₀ t T' : State) (L : List Loc), st₀.heap = U.heap ∧ Stand p l e R s m args below meth c T' (locs ++ L) (cells + mc) (slots + ms) ∧ (∀ q ∈ L, free q.base) ∧ T'.heap = t.heap ∧ T'.vm = t.vm ∧ B st₀ x t ∧
      Steps p.tables e below (doInvoke e (U.setTop g) [] mk a).1 ((T'.setTop g).pushFrame (.throwing x)) := by
  obtain ⟨hrc, hrs, hfr0, hlo, hws, hcw, -, hini, -⟩ := cb
  have h1 : (headSpec ws rm).pre.before a U = true := atoms_intro fun w hw => hws w hw _ _ X.warmed
  have h2 : (Cond.code y bytes maxL ret).before a U = true := hws _ hcw _ _ X.warmed
  have h3 : (Cond.initialized y.cls).before a U = true := word_at X.warmed (Or.inl (by first | rfl | simp [Cond.onTables, Cond.keeps, Cond.steady])) hini
  obtain ⟨methY, cY, hmY, hcY, -, hlY, -, -, -, -⟩ := Cond.code_spec hn h2
  obtain ⟨kY, hkY, -⟩ := className_of_methodNamed hn
  have hinitY : kY.init = .initialized := Cond.initialized_spec (findClass_of_methodNamed hn) hkY h3
  have h : At U g.method c below := by rw [hg]; exact X.here
  have happ : (headSpec ws rm).appliesLoose y e.platform (U.calling g mk a) = true :=
    Spec.appliesLoose_calling (g := g) h hdg hn hkY hinitY
      (X.room_calling (g := g) (R' := (headSpec ws rm).room) hsize hmY hcY hfr0 (by rw [hlY]; show _ + (maxL + 11) + rm.locals ≤ _; omega) (by show cells + rm.cells ≤ _; rw [hrc]; exact hf.1) (by show slots + rm.slots ≤ _; rw [hrs]; exact hf.2)) h1
  obtain ⟨mid, hmid⟩ := h.above
  have hfr : (U.setTop g).frames = (.java g :: mid) ++ below := by rw [State.frames_setTop' g h.top, hmid]; rfl
  obtain ⟨o, s₂, hsteps, -, hend, hq⟩ := Steps.callFree hM p X.admits X.cas X.clock (acts := []) hfr happ (hbl _ _ _ _ hp) trivial
  have hq' : ∃ x : Addr, o = .threw x ∧ B (U.calling g mk a) x s₂ ∧ (U.calling g mk a).WarmedH s₂.vm ∧ ∃ L, (U.calling g mk a).sameButNew ({ s₂ with vm := (U.calling g mk a).vm } : State) L mc ms ∧ ∀ q ∈ L, free q.base := hq
  obtain ⟨x, rfl, hB, hW₂, L, ⟨e2, q2, q3, q4, q5, q6⟩, hL⟩ := hq'
  have e3 : s₂ = ({ (U.calling g mk a).setFrames s₂.frames with heap := s₂.heap, slotsUsed := s₂.slotsUsed } : State).setVm s₂.vm := by
    have : s₂ = ({ s₂ with vm := (U.calling g mk a).vm } : State).setVm s₂.vm := rfl
    rw [e2] at this
    exact this
  have hend' : s₂.frames = .throwing x :: (U.setTop g).frames := hend
  rw [State.frames_setTop' g h.top] at hend'
  have hW' : U.WarmedH s₂.vm := hW₂
  obtain ⟨g₀, hg0⟩ := Option.isSome_iff_exists.mp h.top
  obtain ⟨r, hr⟩ := State.topJava?_eq_some.mp hg0
  have hs₂ : s₂ = ((({ U with heap := s₂.heap, slotsUsed := s₂.slotsUsed } : State).setVm s₂.vm).setTop g).pushFrame (.throwing x) := by
    have hr' : (({ U with heap := s₂.heap, slotsUsed := s₂.slotsUsed } : State).setVm s₂.vm).frames = .java g₀ :: r := hr
    refine e3.trans ?_
    rw [hend', State.calling_eq h.top, State.setFrames_setFrames, State.pushFrame, State.frames_setTop' g (by rw [State.topJava?_eq_some.mpr ⟨r, hr'⟩]; rfl), State.setTop_of_frames _ hr', State.setFrames_setFrames]
    rfl
  have hsame : U.sameButNew ({ U with heap := s₂.heap, slotsUsed := s₂.slotsUsed } : State) L mc ms := by
    refine ⟨?_, q2, q3, q4, q5, q6⟩
    obtain ⟨t, ht, -⟩ := State.frames_cons hr
    show ({ U with heap := s₂.heap, slotsUsed := s₂.slotsUsed } : State) = { U.setFrames U.frames with heap := s₂.heap, slotsUsed := s₂.slotsUsed }
    rw [State.setFrames_self ht]
  subst hg
  refine ⟨x, U.calling g mk a, s₂, (({ U with heap := s₂.heap, slotsUsed := s₂.slotsUsed } : State).setVm s₂.vm), L, rfl,
    ⟨X.admits, X.cas, X.clock, X.frames, X.room, X.hears, X.method, X.code, (X.here.setHeapUsed s₂.heap s₂.slotsUsed).setVm hW'.alike, X.tail, State.WarmedH.trans X.warmed hW', X.limits, X.bytes, X.same.trans (hsame.setVm s.vm)⟩, hL, rfl, rfl, hB, ?_⟩
  rw [← hs₂]
  exact hsteps
/-- a call that throws -/
def ft_Run (p : Program) (l : Launch) (e : Env) (R : Room) (s : State) (m : MethodId) (args : Array Value) (below : List Frame) (meth : Method) (c : Code) (H : Heap) (locs : List Loc) (cells slots mc ms : Nat) (g : JFrame) (rest : List Value) (B : State → Nat → State → Prop) (free : Addr → Prop) : Prop :=
  ∀ T : State, T.heap = H → Stand p l e R s m args below meth c T locs cells slots → ∃ (x : Addr) (st₀ t T' : State) (L : List Loc), st₀.heap = H ∧ Stand p l e R s m args below meth c T' (locs ++ L) (cells + mc) (slots + ms) ∧ (∀ q ∈ L, free q.base) ∧ T'.heap = t.heap ∧ T'.vm = t.vm ∧ B st₀ x t ∧
    ∀ target, Steps p.tables e below ((T'.setTop { g with stack := rest }).pushFrame (.throwing x)) target → Steps p.tables e below (T.setTop g) target
theorem ft_runS (S : CallFix p m c cc nL s args Ts own) (hM : ft_Met l y ws rm Pc B mc ms free) (cw : CallB R s args own index y bytes maxL ret ws rm mc ms n ∧ (Cond.static y).before args s = true) (hp : PreS s H Pc As)
    (hg : g.method = m) (hn : As.length = n) (hsize : g.locals.size = nL) (hstack : g.stack = As.reverse ++ rest) (hW : 2 * g.monitorRoom + (rest.map fun v => v.category).sum ≤ 8) (hdg : decode cc g.pc = .ok (.invokestatic index, 3)) (hf : cells + mc ≤ R.cells ∧ slots + ms ≤ R.slots) :
    ft_Run p l e R s m args below meth c H locs cells slots mc ms g rest B free := by
  have cb := cw.1
  obtain ⟨⟨-, -, -, -, -, -, hcode, hinit, hy, hlen, hlink⟩, hstat⟩ := cw
  obtain ⟨hexec, hb, hml, hown, -⟩ := S
  intro T hT X
  obtain ⟨mk, hnamed⟩ := Cond.code_named hcode
  obtain ⟨methM, cM, hmethM, -, -, -, -, -, -, hsigM⟩ := Cond.code_spec hnamed hcode
  have hstatic : methM.isStatic = true := Cond.static_spec hnamed hmethM hstat
  obtain ⟨kP, hkP, -⟩ := className_of_methodNamed hnamed
  have hinitP : kP.init = .initialized := Cond.initialized_spec (findClass_of_methodNamed hnamed) hkP hinit
  obtain ⟨vm₁, X₁, hstep₁⟩ := X.invokestatic hexec hown hlink hnamed hmethM hstatic hkP hinitP hy (g := g) hg (argsL := As) (rest := rest) (hn.trans (hlen _ hsigM)) hstack (by rw [hb]; exact hdg)
  obtain ⟨x, st₀, t, T', L, h0, X', hL, e1, e2, hB, st⟩ := ft_back X₁ cb hM hp.1 (g := { g with stack := rest }) (mk := mk) (a := As.toArray) hg (hsize.trans hml.symm) (by rw [hb]; exact hdg) hW (X₁.named hnamed) hf (hp.2 (T.setVm vm₁) hT X₁.warmed)
  exact ⟨x, st₀, t, T', L, h0.trans hT, X', hL, e1, e2, hB, fun target h => hstep₁ _ fun acts => by rw [doInvoke_state]; exact st.trans h⟩
theorem ft_runV (S : CallFix p m c cc nL s args Ts own) (hM : ft_Met l y ws rm Pc B mc ms free) (cw : CallW R s args own C index y bytes maxL ret ws rm mc ms n) (hp : PreV s H C b Pc As)
    (hg : g.method = m) (hn : As.length = n) (hsize : g.locals.size = nL) (hstack : g.stack = As.reverse ++ .ref b :: rest) (hW : 2 * g.monitorRoom + (rest.map fun v => v.category).sum ≤ 8) (hdg : decode cc g.pc = .ok (.invokevirtual index, 3)) (hf : cells + mc ≤ R.cells ∧ slots + ms ≤ R.slots) :
    ft_Run p l e R s m args below meth c H locs cells slots mc ms g rest B free := by
  have cb := cw.1
  obtain ⟨⟨-, -, -, -, -, -, hcode, hinit, hy, hlen, hlink⟩, hinst, hsel⟩ := cw
  obtain ⟨hexec, hb, hml, hown, -⟩ := S
  obtain ⟨hbl, ⟨cellB, hcB, hoB, hclB⟩, hPc⟩ := hp
  intro T hT X
  obtain ⟨mk, methM, hnamed, hmethM, hstM, habM⟩ := Cond.instanceMethod_spec hinst
  obtain ⟨methM', cM, hmethM', -, -, -, -, -, -, hsigM⟩ := Cond.code_spec hnamed hcode
  cases hmethM.symm.trans hmethM'
  obtain ⟨c2, r2, m2, q1, q2, q3, q4, kP, hkP, hkPi⟩ := Cond.selects_spec hsel
  cases hclB.symm.trans q1
  cases (State.methodFound?_of_named hnamed hy).symm.trans q2
  cases hnamed.symm.trans q3
  have hselP : selectMethod e.platform s.vm cellB.cls mk = .method mk := by rw [Launch.admits_selectMethod X.admits]; exact q4
  obtain ⟨vm₁, X₁, hstep₁⟩ := X.invokevirtual hexec hown hlink hnamed hmethM hstM hkP hkPi hy (a := b) (cell := cellB) (by rw [hT]; exact hcB)
    (fun z h => by rw [h] at hoB; cases hoB) hselP hmethM habM hkP hkPi (g := g) hg (argsL := As) (rest := rest) (hn.trans (hlen _ hsigM)) hstack (by rw [hb]; exact hdg)
  obtain ⟨x, st₀, t, T', L, h0, X', hL, e1, e2, hB, st⟩ := ft_back X₁ cb hM hbl (g := { g with stack := rest }) (mk := mk) (a := (Value.ref b :: As).toArray) hg (hsize.trans hml.symm) (by rw [hb]; exact hdg) hW (X₁.named hnamed) hf (hPc (T.setVm vm₁) hT X₁.warmed)
  exact ⟨x, st₀, t, T', L, h0.trans hT, X', hL, e1, e2, hB, fun target h => hstep₁ _ fun acts => by rw [doInvoke_state]; exact st.trans h⟩
/-- left by a throw -/
theorem ft_leave {st0 : List Value} {pc : Nat} {ls : Array Slot} {D : va_G} {cl : List vw_C} {A : Nat → Prop} {M : fm_M} {E : String} (hr : ft_Run p l e R s m args below meth c H locs cells slots mc ms (F0 m pc ls st0) rest (ft_B E D cl A M) A) (hW : fm_W D cl A M s.heap H locs) (htab : c.exceptionTable.toList = []) (hlocks : meth.locks = false) :
    W p l e R s m args below meth c H locs cells slots (ft_Q below (ft_B E D cl A M) s (cells + mc) (slots + ms) A) (F0 m pc ls st0) := by
  intro T hT X
  obtain ⟨x, st₀, t, T', L, h0, X', hL, e1, e2, ⟨⟨ce, c1, c2, c3⟩, hB, hF⟩, st⟩ := hr T hT X
  obtain ⟨g1, g2, g3, g4, g5⟩ := X'.leaveThrown x (g := F0 m pc ls rest) rfl rfl rfl (by rw [htab]; intro z hz; cases hz) hlocks
  refine ⟨_, st _ g1, x, g2, g3, ⟨⟨ce, ?_, c2, ?_⟩, ⟨?_, hB.2⟩, ?_⟩, g4, _, g5, ?_⟩
  · show T'.heap[x]? = some ce
    rw [e1]; exact c1
  · show T'.vm.findClass E = some ce.cls
    rw [e2]; exact c3
  · show fm_P D cl M T'.heap
    rw [e1]; exact hB.1
  · show s.heap.size ≤ T'.heap.size ∧ ∀ q : Nat, q < s.heap.size → ¬ A q → T'.heap[q]? = s.heap[q]?
    rw [e1]
    rw [va_F, h0] at hF
    exact ⟨Nat.le_trans hW.2.2.1.1 hF.1, fun q h1 h2 => (hF.2 q (Nat.lt_of_lt_of_le h1 hW.2.2.1.1) h2).trans (hW.2.2.1.2.1 q h1 h2)⟩
  · intro q hq
    rcases List.mem_append.mp hq with h | h
    · exact hW.2.2.1.2.2 q h
    · exact hL q h
/-- one step: into a handler whose class is linked -/
theorem ft_caught {T : State} (X : Stand p l e R s m args below meth c T locs cells slots) {x : Addr} {en : ExceptionTableEntry} {E : String} (hown : s.vm.findClass own = some m.cls) (htab : c.exceptionTable.toList = [en]) (hg : g.method = m) (hx : covers en g.pc = true) (h0 : en.catchType ≠ 0) (hlink : (Cond.classLink own en.catchType E).before args s = true) {ce : Cell} (hcell : T.heap[x]? = some ce) (hv : ce.vm = .none) (hcl : s.vm.findClass E = some ce.cls) :
    ∃ vm', Stand p l e R s m args below meth c (T.setVm vm') locs cells slots ∧ ∀ target, Steps p.tables e below ((T.setVm vm').setTop { g with pc := en.handlerPc, stack := [.ref x] }) target → Steps p.tables e below ((T.setTop g).pushFrame (.throwing x)) target := by
  have hpl : e.platform.magicAccessors = ({} : Platform).magicAccessors := by rw [X.admits.platform]
  obtain ⟨c5, hc5, hl5⟩ := Cond.classLink_spec hown hlink e.platform hpl
  obtain rfl : c5 = ce.cls := Option.some.inj (hc5.symm.trans hcl)
  subst hg
  obtain ⟨hg₁, hwarm₁, -⟩ := State.classEntry (e := e) X.warmed hl5
  have hal : s.vm.Alike (T.vm.noted g.method.cls en.catchType (.cls ce.cls)) := hwarm₁.alike
  have hsz : (T.vm.noted g.method.cls en.catchType (.cls ce.cls)).classes.size ≤ T.vm.classes.size := by no_record
  generalize T.vm.noted g.method.cls en.catchType (.cls ce.cls) = vm₁ at hg₁ hwarm₁ hal hsz
  obtain ⟨k0, hk0, -⟩ := Vm.findClass_spec hcl
  obtain ⟨k1, hk1, -⟩ := hal.2.2 _ _ hk0
  have hfit : vm₁.assignable ce.cls ce.cls = true := by
    show vm₁.assignableAux (255 + 1) ce.cls ce.cls = true
    rw [Vm.assignableAux]
    simp
  have hobj : ∀ k, ce.vm ≠ .statics k := fun k h => by rw [hv] at h; cases h
  have hfind : ∀ (Q : Handler → Pre) (E : CtlPost) (d : Bool) (acts : List Action), wp (findHandler g x) Q E e d acts ((T.setTop g).pushFrame (.throwing x)) ↔ Q (.found en.handlerPc) d acts (((T.setTop g).pushFrame (.throwing x)).setVm vm₁) := by
    intro Q E d acts
    have hm : ((T.setTop g).pushFrame (.throwing x)).vm.method? g.method = some meth := by rw [Stand.throwing_vm]; exact X.method'
    have hce : ((T.setTop g).pushFrame (.throwing x)).heap[x]? = some ce := by rw [Stand.throwing_heap]; exact hcell
    have hg₂ : (resolveClass g.method.cls en.catchType).Gives e.toSetting ((T.setTop g).pushFrame (.throwing x)).vm (.ok ce.cls) vm₁ := by rw [Stand.throwing_vm]; exact hg₁
    obtain ⟨ha, ht⟩ := hg₂.op (op := VmOp.resolveClass g.method.cls en.catchType) rfl
    have hla := VmOp.lands_eq (s := (T.setTop g).pushFrame (.throwing x)) ht (by rw [Stand.throwing_vm]; exact hsz)
    simp only [covers] at hx
    rw [W.findHandler_eq hm X.code, htab]
    simp [findHandler.go, hx, h0, ha, hla, hce, hobj, hk1, hfit, VmOp.dirties, VmOp.acts]
  refine ⟨vm₁, X.noted hwarm₁, fun target hrest => ?_⟩
  have h : At T g.method c below := X.here
  obtain ⟨hgo, hw⟩ := h.throwing x
  refine Steps.head hgo hw ?_
  have hstep : (stepThrowing e ((T.setTop g).pushFrame (.throwing x)) x (.java g :: T.frames.tail)).Is ((((T.setTop g).pushFrame (.throwing x)).setVm vm₁).setFrames (.java { g with pc := en.handlerPc, stack := [.ref x] } :: T.frames.tail)) [] := by
    simp only [stepThrowing, searchFrame, vmDo]
    generalize hr : Sem.go _ e false [] _ = res
    obtain ⟨as, rfl, ha⟩ := Sem.eq_ok_of hr (a := Handler.found en.handlerPc) (s' := ((T.setTop g).pushFrame (.throwing x)).setVm vm₁) (acts' := []) (by simp [hfind _ _ _ _])
    exact ⟨rfl, ha⟩
  rw [stepThread_throwing (frames_entered h.top _), hstep.1]
  obtain ⟨g₀, hg⟩ := Option.isSome_iff_exists.mp h.top
  obtain ⟨r, hr⟩ := State.topJava?_eq_some.mp hg
  have hr' : (T.setVm vm₁).frames = .java g₀ :: r := hr
  rw [State.setTop_of_frames _ hr'] at hrest
  have hz : ∀ (u : State) (F G : List Frame), ((u.setFrames F).setVm vm₁).setFrames G = (u.setVm vm₁).setFrames G := fun u F G => by
    have h1 : (u.setFrames F).setVm vm₁ = (u.setVm vm₁).setFrames F := rfl
    rw [h1, State.setFrames_setFrames]
  rw [hr, List.tail_cons, State.pushFrame, hz, State.setTop_of_frames _ hr, hz]
  exact hrest
/-- caught -/
theorem ft_catch {st0 : List Value} {pc : Nat} {ls : Array Slot} {D : va_G} {cl : List vw_C} {A : Nat → Prop} {M : fm_M} {E : String} (hr : ft_Run p l e R s m args below meth c H locs cells slots mc ms (F0 m pc ls st0) rest (ft_B E D cl A M) A) (hW : fm_W D cl A M s.heap H locs) {en : ExceptionTableEntry} (hown : s.vm.findClass own = some m.cls) (htab : c.exceptionTable.toList = [en]) (hx : covers en pc = true) (h0 : en.catchType ≠ 0) (hlink : (Cond.classLink own en.catchType E).before args s = true)
    (kk : ∀ (x : Nat) (H1 : Heap) (locs1 : List Loc), fm_W D cl A M s.heap H1 locs1 → W p l e R s m args below meth c H1 locs1 (cells + mc) (slots + ms) Q (F0 m en.handlerPc ls [.ref x])) : W p l e R s m args below meth c H locs cells slots Q (F0 m pc ls st0) := by
  intro T hT X
  obtain ⟨x, st₀, t, T', L, h0', X', hL, e1, e2, ⟨⟨ce, c1, c2, c3⟩, hB, hF⟩, st⟩ := hr T hT X
  have hal : s.vm.Alike t.vm := by rw [← e2]; exact X'.warmed.alike
  have hcl : s.vm.findClass E = some ce.cls := by
    first
      | (rw [hal.findClass] at c3; exact c3)
      | (rw [← hal.findClass]; exact c3)
  obtain ⟨vm', X2, st2⟩ := ft_caught X' (g := F0 m pc ls rest) (x := x) (en := en) hown htab rfl hx h0 hlink (by rw [e1]; exact c1) c2 hcl
  rw [va_F, h0'] at hF
  obtain ⟨t2, a1, b1⟩ := kk x T'.heap (locs ++ L) ⟨by rw [e1]; exact hB.1, hB.2, ⟨Nat.le_trans hW.2.2.1.1 (by rw [e1]; exact hF.1), fun q h1 h2 => by rw [e1]; exact (hF.2 q (Nat.lt_of_lt_of_le h1 hW.2.2.1.1) h2).trans (hW.2.2.1.2.1 q h1 h2), fun q hq => by
    rcases List.mem_append.mp hq with h | h
    · exact hW.2.2.1.2.2 q h
    · exact hL q h⟩, hW.2.2.2⟩ (T'.setVm vm') rfl X2
  exact ⟨t2, st _ (st2 _ a1), b1⟩
end FTR
-- a new exception, thrown
/-- a static field that is laid, off A -/
def ft_L (C n d : String) (A : Nat → Prop) (U : State) (H : Heap) : Prop := ∃ (c : ClassId) (k : Class) (i : Nat) (f : Field) (a : Nat) (cell : Cell), U.vm.findClass C = some c ∧ U.fieldFound? C n d = some (c, k, i, f) ∧ f.isStatic = true ∧ k.statics = some a ∧ H[a]? = some cell ∧ cell.vm.isStatics = true ∧ cell.cls = c ∧ f.slot < cell.slots.size ∧ k.staticTypes[f.slot]? = some f.type ∧ ¬ A a
theorem ft_L.of {C n d : String} {A : Nat → Prop} {s : State} {args : Array Value} (h : (Cond.laysStatic C n d).before args s = true) (hA : ∀ a : Nat, a < s.heap.size → ¬ A a) : ft_L C n d A s s.heap := by
  obtain ⟨c, k, i, f, a, cell, h1, h2, h3, h4, h5, h6, h7, h8, h9⟩ := Cond.laysStatic_spec h
  exact ⟨c, k, i, f, a, cell, h1, h2, h3, h4, h5, h6, h7, h8, h9, hA a (Array.getElem?_eq_some_iff.mp h5).1⟩
theorem ft_L.moved {C n d : String} {A : Nat → Prop} {u U : State} {H : Heap} (hvm : u.vm.Alike U.vm) (h : ft_L C n d A u H) : ft_L C n d A U H := by
  obtain ⟨c, k, i, f, a, cell, h1, h2, h3, h4, h5, h6, h7, h8, h9, h10⟩ := h
  obtain ⟨k', hi', he⟩ := State.fieldFound?_setVm hvm h2
  refine ⟨c, k', i, f, a, cell, ?_, hi', h3, by rw [he]; exact h4, h5, h6, h7, h8, by rw [he]; exact h9, h10⟩
  first
    | (rw [← hvm.findClass]; exact h1)
    | (rw [hvm.findClass]; exact h1)
theorem ft_L.kept {C n d : String} {A : Nat → Prop} {U : State} {H H1 : Heap} (h : ft_L C n d A U H) (hq : ∀ a : Nat, a < H.size → ¬ A a → H1[a]? = H[a]?) : ft_L C n d A U H1 := by
  obtain ⟨c, k, i, f, a, cell, h1, h2, h3, h4, h5, h6, h7, h8, h9, h10⟩ := h
  exact ⟨c, k, i, f, a, cell, h1, h2, h3, h4, by rw [hq a (Array.getElem?_eq_some_iff.mp h5).1 h10]; exact h5, h6, h7, h8, h9, h10⟩
theorem ft_L.word {C n d : String} {A : Nat → Prop} {s : State} {args : Array Value} (h : ft_L C n d A s s.heap) : (Cond.laysStatic C n d).before args s = true := by
  obtain ⟨c, k, i, f, a, cell, h1, h2, h3, h4, h5, h6, h7, h8, h9, -⟩ := h
  simp [Cond.before, Cond.holds, Cond.value, h1, h2, h3, h4, h5, h6, h7, h8, h9]
abbrev ft_AE : String := "java/lang/ArithmeticException"
abbrev ft_ds : List MethodName := [Bundle.initS "java/lang/RuntimeException", Bundle.initS "java/lang/Exception", Bundle.initS Bundle.tN]
/-- what a throw needs of the start, beside the words that are good everywhere -/
def ft_X (own tx : String) (il : Nat) (A : Nat → Prop) (U : State) (H : Heap) : Prop :=
  (va_Zq Bundle.tN "UNASSIGNED_STACK" Bundle.steD A U H ∧ va_Zq Bundle.tN "SUPPRESSED_SENTINEL" Bundle.listD A U H ∧ ft_L Bundle.tN "UNASSIGNED_STACK" Bundle.steD A U H ∧ ft_L Bundle.tN "SUPPRESSED_SENTINEL" Bundle.listD A U H) ∧ (∀ d ∈ ft_ds, va_Nw (.declares d) U) ∧ va_Nw (.castable ft_AE ft_AE) U ∧ ∃ q : Nat, vk_R own il tx q U
theorem ft_X.to {own tx : String} {il : Nat} {A : Nat → Prop} {s U : State} {H H1 : Heap} (h : ft_X own tx il A s H) (hw : s.WarmedH U.vm) (hq : ∀ a : Nat, a < H.size → ¬ A a → H1[a]? = H[a]?) : ft_X own tx il A U H1 := by
  obtain ⟨⟨h1, h2, h3, h4⟩, h5, h6, q, h7⟩ := h
  exact ⟨⟨(h1.moved hw.alike).kept hq, (h2.moved hw.alike).kept hq, (h3.moved hw.alike).kept hq, (h4.moved hw.alike).kept hq⟩, fun d hd => va_Nw.warmD hw (h5 d hd), va_Nw.warmC hw h6, q, h7.warm hw⟩
theorem ft_isRef {C n d : String} {A : Nat → Prop} {s : State} {args : Array Value} (h : va_Zq C n d A s s.heap) : (Cond.isRef (.static C n d)).before args s = true := by
  rcases h with ⟨cf, kf, fi, f, a, cell, h1, h2, h3, h4, h5, h6, h7, -⟩ | ⟨t, cf, kf, fi, f, a, cell, h1, h2, h3, h4, h5, h6, h7, -⟩ <;>
  simp [Cond.before, Cond.holds, Cond.value, Term.eval, State.fieldNamed?, h1, h2, h4, h5, h6, h7]
def ft_St (own tx : String) (il : Nat) (D : va_G) (cl : List vw_C) (tys : List (ClassId × FieldType)) (nw : List Cond) (A : Nat → Prop) (M : fm_M) (U : State) : Prop := fm_St D cl tys nw A M U ∧ ft_X own tx il A U U.heap
theorem ft_pre {own tx : String} {il : Nat} {D : va_G} {cl : List vw_C} {tys : List (ClassId × FieldType)} {nw : List Cond} (hn : ∀ w ∈ nw, fn_isN w) {A : Nat → Prop} {M : fm_M} {av : List Value} {s : State} {H : Heap} {locs : List Loc} (hK : va_K D cl tys s) (hN : ∀ w ∈ nw, va_Nw w s) (hX : ft_X own tx il A s s.heap) (hW : fm_W D cl A M s.heap H locs) : PreS s H (va_Pc av (ft_St own tx il D cl tys nw A M)) av :=
  ⟨fun a U g mk q => by
    obtain ⟨q0, q1, q2⟩ := q
    obtain ⟨q0, q1⟩ := fn_blind hn a U g mk ⟨q0, q1⟩
    obtain ⟨⟨z1, z2, z4, z5⟩, z6, z7, w, z3⟩ := q2
    exact ⟨q0, q1, ⟨va_Zq.moved (u := U) (U := U.calling g mk a) (Vm.Alike.refl U.vm) z1, va_Zq.moved (u := U) (U := U.calling g mk a) (Vm.Alike.refl U.vm) z2, ft_L.moved (u := U) (U := U.calling g mk a) (Vm.Alike.refl U.vm) z4, ft_L.moved (u := U) (U := U.calling g mk a) (Vm.Alike.refl U.vm) z5⟩, fun d hd => va_Nw.same rfl rfl (z6 d hd), va_Nw.same rfl rfl z7, w, vk_R.same rfl z3⟩, fun U hU hw => by
    obtain ⟨q0, q1⟩ := (fn_pre (av := av) hn hK hN hW).2 U hU hw
    exact ⟨q0, q1, hX.to hw (fun a h1 h2 => by rw [hU]; exact hW.2.2.1.2.1 a h1 h2)⟩⟩
theorem ft_preV {own tx : String} {il : Nat} {D : va_G} {cl : List vw_C} {tys : List (ClassId × FieldType)} {nw : List Cond} (hn : ∀ w ∈ nw, fn_isN w) {A : Nat → Prop} {M : fm_M} {s : State} {H : Heap} {locs : List Loc} {b ci : Nat} {fs As : List Value} {q : vw_C} (hK : va_K D cl tys s) (hN : ∀ w ∈ nw, va_Nw w s) (hX : ft_X own tx il A s s.heap) (hW : fm_W D cl A M s.heap H locs) (he : M b = some (.inr (ci, fs))) (hc : cl[ci]? = some q) : PreV s H q.1 b (va_Pc (.ref b :: As) (ft_St own tx il D cl tys nw A M)) As :=
  ⟨(ft_pre hn hK hN hX hW).1, va_recv hK (fm_one hW.1 he) hc (q0 := 0) rfl, (ft_pre hn hK hN hX hW).2⟩
theorem ft_throw {p : Program} {l : Launch} {e : Env} {R : Room} {s : State} {m : MethodId} {args : Array Value} {below : List Frame} {meth : Method} {c : Code} {H : Heap} {cells slots : Nat} {cc : ByteArray} {pc : Nat} {ls : Array Slot} {D : va_G} {cl : List vw_C} {A : Nat → Prop} {M : fm_M}
    (hexec : p.tables.exec = Jvm.exec) (hb : c.code = cc) (htr : e.platform.stackTraces = false) {own E tx : String} {names : List String} {ix il ic q : Nat} (hown : s.vm.findClass own = some m.cls) (hE : Bundle.fit E = true) (hnames : ∀ n ∈ names, Bundle.fit n = true)
    (h : ∀ a ∈ Bundle.ownAtoms own ic E names, a.before args s = true) (hcl : (Cond.classLink own ix E).before args s = true) (hini : (Cond.initialized E).before args s = true) (hZ : vk_R own il tx q s) (hsz : ls.size = c.maxLocals) (htab : c.exceptionTable.toList = []) (hlocks : meth.locks = false)
    (d1 : decode cc pc = .ok (.new ix, 3)) (d2 : decode cc (pc + 3) = .ok (.dup, 1)) (d3 : decode cc (pc + 4) = .ok (.ldc il, 2)) (d4 : decode cc (pc + 6) = .ok (.invokespecial ic, 3)) (d5 : decode cc (pc + 9) = .ok (.athrow, 1))
    (hc : cells + 1 ≤ R.cells) (hs : slots + 6 ≤ R.slots) (hfr : names.length + 3 < R.frames) (hlo : 1 + (13 * (names.length + 1) + 42) ≤ R.locals) (hP : fm_P D cl M s.heap) (hA0 : ∀ (a : Nat) (e : va_E), M a = some e → A a) :
    W p l e R s m args below meth c H [] cells slots (ft_Q below (ft_B E D cl A M) s (cells + 1) (slots + 6) A) (F0 m pc ls []) := by
  obtain ⟨cC, kC0, hfc, hkC0, -⟩ := Cond.instantiable_spec (h (.instantiable E 6) (by simp [Bundle.ownAtoms]))
  intro T0 hT0 X0
  have hle : s.heap.size ≤ H.size := by rw [← hT0]; exact X0.same.2.1
  revert T0
  show W p l e R s m args below meth c H [] cells slots (ft_Q below (ft_B E D cl A M) s (cells + 1) (slots + 6) A) (F0 m pc ls [])
  refine W.newcK (n := 6) hexec hb hown hcl (h (.instantiable E 6) (by simp [Bundle.ownAtoms])) hini rfl d1 hc hs hfc rfl fun H1 kC hkC e1 z1 o1 => ?_
  refine lv_dup hexec hb d2 rfl ?_
  refine va_ldcS hexec hb hown hZ d3 ?_
  intro T hT X
  obtain ⟨U, g1, g2, g3, g4, g5, ce, g6, g7⟩ := X.ctorThrowS hexec htr hown hE hnames h (fun x hx => by cases hx) hfc hkC (a := H.size) (by rw [hT]; exact e1) hle (msg := .ref q) rfl (g := F0 m (pc + 6) ls [.ref q, .ref H.size, .ref H.size]) rfl hsz rfl rfl (rest := []) rfl (by rw [hb]; exact d4) (by rw [hb]; exact d5) (by rw [htab]; intro z hz; cases hz) hfr hlo hlocks
  have hk : ∀ a : Nat, a < s.heap.size → U.heap[a]? = s.heap[a]? := fun a ha => by
    obtain ⟨cell, hcell⟩ : ∃ cell, s.heap[a]? = some cell := ⟨_, Array.getElem?_eq_getElem ha⟩
    obtain ⟨c', k1, k2, k3, k4⟩ := g5.2.2.2.2.2 a cell hcell
    have k5 : c'.slots = cell.slots := by
      apply Array.ext_getElem?
      intro i
      exact k4 i (by simp)
    have k6 : U.heap[a]? = some c' := k1
    rw [k6, hcell, k2, k5]
  refine ⟨U, g1, H.size, g2, g3, ⟨⟨ce, g6, g7.vm, ?_⟩, ⟨fun a e he => (hP a e he).kept (hk a (hP a e he).lt), hA0⟩, g5.2.1, fun a h1 _ => hk a h1⟩, g4, [], g5, fun q hq => by cases hq⟩
  have hcl' := g7.cls
  first
    | (rw [← g4.alike.findClass]; exact hcl')
    | (rw [g4.alike.findClass]; exact hcl')
-- a static call of a method with a table of handlers
section FTW
variable {p : Program} {l : Launch} {e : Env} {R : Room} {s : State} {m : MethodId} {args : Array Value} {below : List Frame} {meth : Method} {c : Code} {H : Heap} {locs : List Loc} {cells slots : Nat} {Q : State → Prop}
variable {y : MethodName} {bytes cc : ByteArray} {maxL nL mc ms n index : Nat} {ret : Option FieldType} {hh : List (Nat × Nat × Nat × Nat)} {ws ws' : List Cond} {rm : Room} {Pc : Array Value → State → Prop} {Qc : Array Value → State → Outcome → State → Prop} {free : Addr → Prop} {Ts : List Cond} {own : String} {As rest : List Value} {g : JFrame}
theorem ft_runSW (S : CallFix p m c cc nL s args Ts own) (hM : Met l y ws rm Pc Qc mc ms free) (hG : GoodIn Ts ws) (hw : ws = Cond.codeWith y bytes maxL ret hh :: ws') (hrc : rm.cells = mc) (hrs : rm.slots = ms) (hini : (Cond.initialized y.cls).before args s = true) (hl : (Cond.methodLink own index y).before args s = true) (hstat : (Cond.static y).before args s = true)
    (hd : y.cls ≠ "java/lang/invoke/MethodHandle" ∧ y.cls ≠ "java/lang/invoke/VarHandle" ∧ (parseMethodDescriptor y.desc).map (fun d => d.parameters.length) = some n) (hR : rm.frames + 1 ≤ R.frames ∧ 8 + (maxL + 11) + rm.locals ≤ R.locals) (hp : PreS s H Pc As)
    (hg : g.method = m) (hn : As.length = n) (hsize : g.locals.size = nL) (hstack : g.stack = As.reverse ++ rest) (hW : 2 * g.monitorRoom + (rest.map fun v => v.category).sum ≤ 8) (hdg : decode cc g.pc = .ok (.invokestatic index, 3)) (hf : cells + mc ≤ R.cells ∧ slots + ms ≤ R.slots) :
    va_Run p l e R s m args below meth c H locs cells slots mc ms g rest (Qc As.toArray) (free) := by
  obtain ⟨hexec, hb, hml, hown, ht⟩ := S
  have hc : Cond.codeWith y bytes maxL ret hh ∈ ws := by rw [hw]; exact List.mem_cons_self
  have hK : Back l R p e below s args y 3 8 (PreOf R mc ms Pc) (PostOf Qc mc ms free) := va_backW hM hp.1 hrc hrs hR.1 hR.2 (pay_in ht hG) hc (fun a' U hW => word_at hW (Or.inl (by first | rfl | simp [Cond.onTables, Cond.keeps, Cond.steady])) hini)
  obtain ⟨mk, methM, cM, hnamed, hmethM, -, -, -, -, -, -, hsigM⟩ := Cond.codeWith_spec (ht _ (hG _ hc).1)
  have hstatic : methM.isStatic = true := Cond.static_spec hnamed hmethM hstat
  obtain ⟨kP, hkP, -⟩ := className_of_methodNamed hnamed
  have hinitP : kP.init = .initialized := Cond.initialized_spec (findClass_of_methodNamed hnamed) hkP hini
  have hlen : As.length = methM.sig.parameters.length := by
    have h2 := hd.2.2
    rw [hsigM] at h2
    exact hn.trans (Option.some.inj h2).symm
  intro T hT X
  obtain ⟨vm₁, X₁, hstep₁⟩ := X.invokestatic hexec hown hl hnamed hmethM hstatic hkP hinitP ⟨hd.1, hd.2.1⟩ (g := g) hg (argsL := As) (rest := rest) hlen hstack (by rw [hb]; exact hdg)
  obtain ⟨v, ⟨U', l2, c2, s2⟩, X', ⟨g', mk', t, L, e1, e2, hq, h1, hL, h2, h3⟩, hsteps⟩ := hK m meth c ⟨T.setVm vm₁, locs, cells, slots⟩ { g with stack := rest } (.invokestatic index) mk As.toArray X₁ hg (hsize.trans hml.symm) (by rw [hb]; exact hdg) hW (X₁.named hnamed) ⟨hf.1, hf.2, hp.2 (T.setVm vm₁) hT X₁.warmed⟩
  dsimp only [Pt.U, Pt.locs, Pt.cells, Pt.slots] at X' e1 e2 h1 h2 h3 hsteps
  subst h1; subst h2; subst h3
  exact ⟨v, (T.setVm vm₁).calling g' mk' As.toArray, t, U', L, hT, X', hL, e1, e2, hq, fun target h => hstep₁ _ fun acts => by rw [doInvoke_state]; exact hsteps.trans h⟩
end FTW
