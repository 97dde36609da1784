/-! Exceptions: a row of the table whose class isn't resolved yet; methods that return or throw; their callers. -/
theorem pq_go {Q : Handler → Pre} {E : CtlPost} {e : Env} {d : Bool} {acts : List Action} {s : State} {f : JFrame} {a : Addr} {x : ExceptionTableEntry} {t : List ExceptionTableEntry} {cT : ClassId} {cell : Cell} (hx : covers x f.pc = true) (h0 : x.catchType ≠ 0)
    (hl : s.vm.ClassLinks e.platform f.method.cls x.catchType cT) (hcell : s.heap[a]? = some cell) (hobj : ∀ k, cell.vm ≠ .statics k) (hk : ∃ k, s.vm.classes[cell.cls]? = some k) (hc : ∃ k, s.vm.classes[cT]? = some k) (b : Bool) (hfit : s.vm.assignable cell.cls cT = b) :
    wp (findHandler.go f a (x :: t)) Q E e d acts s ↔ if b = true then Q (.found x.handlerPc) d acts (s.setVm (s.vm.noted f.method.cls x.catchType (.cls cT))) else wp (findHandler.go f a t) Q E e d acts (s.setVm (s.vm.noted f.method.cls x.catchType (.cls cT))) := by
  simp only [covers] at hx
  obtain ⟨ha, ht⟩ := (resolveClass_links e.toSetting hl).op (op := VmOp.resolveClass f.method.cls x.catchType) rfl
  have hal : s.vm.Alike (s.vm.noted f.method.cls x.catchType (.cls cT)) := (Vm.Alike.refl s.vm).noted _ _ _
  obtain ⟨k1, hk1⟩ := hk
  obtain ⟨k2, hk2⟩ := hc
  obtain ⟨k1', hk1', -⟩ := hal.2.2 _ _ hk1
  obtain ⟨k2', hk2', -⟩ := hal.2.2 _ _ hk2
  have hfit' : (s.vm.noted f.method.cls x.catchType (.cls cT)).assignable cell.cls cT = b := by rw [hal.assignable]; exact hfit
  cases b <;> simp [findHandler.go, hx, h0, ha, ht, hcell, hobj, hk1', hk2', hfit', VmOp.dirties, VmOp.acts]
def pq_To (e : Env) (s : State) (f : JFrame) (a : Addr) (pc : Nat) (vm' : Vm) : Prop :=
  ∀ (Q : Handler → Pre) (E : CtlPost) (d : Bool) (acts : List Action), wp (findHandler f a) Q E e d acts s ↔ Q (.found pc) d acts (s.setVm vm')
theorem pq_found {e : Env} {s : State} {a : Addr} {f : JFrame} {r : List Frame} {pc : Nat} {vm' : Vm} (h : pq_To e s f a pc vm') :
    (stepThrowing e s a (.java f :: r)).Is ((s.setVm vm').setFrames (.java { f with pc := pc, stack := [.ref a] } :: r)) [] := by
  simp only [stepThrowing, searchFrame, vmDo]
  generalize hr : Sem.go _ e false [] s = res
  obtain ⟨as, rfl, ha⟩ := Sem.eq_ok_of hr (a := Handler.found pc) (s' := s.setVm vm') (acts' := []) (by simp [h _ _ _ _])
  exact ⟨rfl, ha⟩
theorem pq_caughtSteps {tb : Tables} {e : Env} {s target : State} {g : JFrame} {c : Code} {below : List Frame} {a : Addr} (h : At s g.method c below) {pc : Nat} {vm' : Vm}
    (hf : pq_To e ((s.setTop g).pushFrame (.throwing a)) g a pc vm') (hrest : Steps tb e below ((s.setVm vm').setTop { g with pc := pc, stack := [.ref a] }) target) :
    Steps tb e below ((s.setTop g).pushFrame (.throwing a)) target := by
  obtain ⟨hgo, hw⟩ := h.throwing a
  refine Steps.head hgo hw ?_
  rw [stepThread_throwing (frames_entered h.top _), (pq_found (s := (s.setTop g).pushFrame (.throwing a)) hf).1]
  obtain ⟨g₀, hg⟩ := Option.isSome_iff_exists.mp h.top
  obtain ⟨r, hr⟩ := State.topJava?_eq_some.mp hg
  have hr' : (s.setVm vm').frames = .java g₀ :: r := hr
  rw [State.setTop_of_frames _ hr'] at hrest
  have key : ∀ (u : State) (F G : List Frame), ((u.setFrames F).setVm vm').setFrames G = (u.setVm vm').setFrames G := fun u F G => by
    rw [show (u.setFrames F).setVm vm' = (u.setVm vm').setFrames F from rfl, State.setFrames_setFrames]
  rw [hr, List.tail_cons, State.pushFrame, key, State.setTop_of_frames _ hr, key]
  exact hrest
section PQX
variable {p : Program} {l : Launch} {e : Env} {R : Room} {s : State} {m : MethodId} {args : Array Value} {below : List Frame} {meth : Method} {c : Code} {T : State} {H : Heap} {locs : List Loc} {cells slots : Nat} {Q : State → Prop}
/-- thrown over the frame g: the first row of the table takes it -/
theorem pq_caught1 (X : Stand p l e R s m args below meth c T locs cells slots) (q : Addr) {g : JFrame} (hg : g.method = m) {own nm : String} (hown : s.vm.findClass own = some m.cls)
    (x : ExceptionTableEntry) (t : List ExceptionTableEntry) (htab : c.exceptionTable.toList = x :: t) (hx : covers x g.pc = true) (h0 : x.catchType ≠ 0)
    (hlink : (Cond.classLink own x.catchType nm).before args s = true) {cT : ClassId} {cell : Cell} (hcT : s.vm.findClass nm = some cT) (hcell : T.heap[q]? = some cell) (hobj : cell.vm = .none) (hfit : s.vm.assignable cell.cls cT = true) :
    ∃ vm', Stand p l e R s m args below meth c (T.setVm vm') locs cells slots ∧
      ∀ target, Steps p.tables e below ((T.setVm vm').setTop { g with pc := x.handlerPc, stack := [.ref q] }) target → Steps p.tables e below ((T.setTop g).pushFrame (.throwing q)) target := by
  have hpl : e.platform.magicAccessors = ({} : Platform).magicAccessors := by rw [X.admits.platform]
  obtain ⟨c', hc', hcl⟩ := Cond.classLink_spec hown hlink e.platform hpl
  cases hcT.symm.trans hc'
  obtain ⟨dk, _, _, kt, hd, _, _, _, _, hkt, _, hopen⟩ := hcl.here
  have hcl0 := X.warmed.classLinks hcl
  have hW' : s.WarmedH (T.vm.noted m.cls x.catchType (.cls cT)) := X.warmed.noted hd hopen (State.rightAt_cls hcl)
  have hal := X.warmed.alike
  obtain ⟨kt', hkt', -⟩ := hal.2.2 _ _ hkt
  have hfit' : T.vm.assignable cell.cls cT = true := by rw [hal.assignable]; exact hfit
  refine ⟨_, X.noted hW', fun target hrest => ?_⟩
  subst hg
  refine pq_caughtSteps X.here (vm' := T.vm.noted g.method.cls x.catchType (.cls cT)) (pc := x.handlerPc) ?_ hrest
  intro Q E d acts
  rw [Jvm.W.findHandler_eq (s := (T.setTop g).pushFrame (.throwing q)) (meth := meth) (code := c) X.method' X.code, htab,
    pq_go (s := (T.setTop g).pushFrame (.throwing q)) (cT := cT) (cell := cell) hx h0 hcl0 hcell (VmData.ne_statics_of (by rw [hobj]; rfl)) (Vm.classAt_of_assignable hfit' ⟨kt', hkt'⟩) ⟨kt', hkt'⟩ true hfit', if_pos rfl]
  rfl
/-- the first row doesn't take it, the second does -/
theorem pq_caught2 (X : Stand p l e R s m args below meth c T locs cells slots) (q : Addr) {g : JFrame} (hg : g.method = m) {own nm1 nm2 : String} (hown : s.vm.findClass own = some m.cls)
    (x y : ExceptionTableEntry) (t : List ExceptionTableEntry) (htab : c.exceptionTable.toList = x :: y :: t) (hx : covers x g.pc = true) (hy : covers y g.pc = true) (h0 : x.catchType ≠ 0) (h1 : y.catchType ≠ 0)
    (hlink1 : (Cond.classLink own x.catchType nm1).before args s = true) (hlink2 : (Cond.classLink own y.catchType nm2).before args s = true) {c1 c2 : ClassId} {cell : Cell} (hc1 : s.vm.findClass nm1 = some c1) (hc2 : s.vm.findClass nm2 = some c2)
    (hcell : T.heap[q]? = some cell) (hobj : cell.vm = .none) (hno : s.vm.assignable cell.cls c1 = false) (hfit : s.vm.assignable cell.cls c2 = true) :
    ∃ vm', Stand p l e R s m args below meth c (T.setVm vm') locs cells slots ∧
      ∀ target, Steps p.tables e below ((T.setVm vm').setTop { g with pc := y.handlerPc, stack := [.ref q] }) target → Steps p.tables e below ((T.setTop g).pushFrame (.throwing q)) target := by
  have hpl : e.platform.magicAccessors = ({} : Platform).magicAccessors := by rw [X.admits.platform]
  obtain ⟨c1', hc1', hcl1⟩ := Cond.classLink_spec hown hlink1 e.platform hpl
  cases hc1.symm.trans hc1'
  obtain ⟨c2', hc2', hcl2⟩ := Cond.classLink_spec hown hlink2 e.platform hpl
  cases hc2.symm.trans hc2'
  obtain ⟨dk1, _, _, kt1, hd1, _, _, _, _, hkt1, _, hopen1⟩ := hcl1.here
  obtain ⟨dk2, _, _, kt2, hd2, _, _, _, _, hkt2, _, hopen2⟩ := hcl2.here
  have hW1 : s.WarmedH (T.vm.noted m.cls x.catchType (.cls c1)) := X.warmed.noted hd1 hopen1 (State.rightAt_cls hcl1)
  have hW2 : s.WarmedH ((T.vm.noted m.cls x.catchType (.cls c1)).noted m.cls y.catchType (.cls c2)) := hW1.noted hd2 hopen2 (State.rightAt_cls hcl2)
  have hcl10 := X.warmed.classLinks hcl1
  have hcl20 := hW1.classLinks hcl2
  have hal := X.warmed.alike
  have hal1 := hW1.alike
  obtain ⟨kt1', hkt1', -⟩ := hal.2.2 _ _ hkt1
  obtain ⟨kt2', hkt2', -⟩ := hal1.2.2 _ _ hkt2
  have hf1 : T.vm.assignable cell.cls c1 = false := by rw [hal.assignable]; exact hno
  have hf2 : (T.vm.noted m.cls x.catchType (.cls c1)).assignable cell.cls c2 = true := by rw [hal1.assignable]; exact hfit
  have hkc : ∃ k, s.vm.classes[cell.cls]? = some k := Vm.classAt_of_assignable hfit ⟨kt2, hkt2⟩
  obtain ⟨kc, hkc⟩ := hkc
  obtain ⟨kc0, hkc0, -⟩ := hal.2.2 _ _ hkc
  obtain ⟨kc1, hkc1, -⟩ := hal1.2.2 _ _ hkc
  refine ⟨_, X.noted hW2, fun target hrest => ?_⟩
  subst hg
  refine pq_caughtSteps X.here (vm' := (T.vm.noted g.method.cls x.catchType (.cls c1)).noted g.method.cls y.catchType (.cls c2)) (pc := y.handlerPc) ?_ hrest
  intro Q E d acts
  rw [Jvm.W.findHandler_eq (s := (T.setTop g).pushFrame (.throwing q)) (meth := meth) (code := c) X.method' X.code, htab,
    pq_go (s := (T.setTop g).pushFrame (.throwing q)) (cT := c1) (cell := cell) hx h0 hcl10 hcell (VmData.ne_statics_of (by rw [hobj]; rfl)) ⟨kc0, hkc0⟩ ⟨kt1', hkt1'⟩ false hf1, if_neg (by decide), throwing_vm,
    pq_go (s := ((T.setTop g).pushFrame (.throwing q)).setVm (T.vm.noted g.method.cls x.catchType (.cls c1))) (cT := c2) (cell := cell) hy h1 hcl20 hcell (VmData.ne_statics_of (by rw [hobj]; rfl)) ⟨kc1, hkc1⟩ ⟨kt2', hkt2'⟩ true hf2, if_pos rfl]
  rfl
/-- a call of a method that may return or throw -/
theorem pq_raw (X : Stand p l e R s m args below meth c T locs cells slots) (hexec : p.tables.exec = Jvm.exec) {own C : String} {index : Nat} {y : MethodName} {bytes : ByteArray} {maxL : Nat} {ret : Option FieldType}
    {ws : List Cond} {rm : Room} {Pc : Array Value → State → Prop} {Qx : Array Value → State → Outcome → State → Prop}
    (hM : MetFree l y (headSpec ws rm) Pc (fun _ _ _ _ _ => True) Qx) (hbl : FrameBlind Pc) (hfr : rm.frames + 1 ≤ R.frames) (hlo : 8 + (maxL + 11) + rm.locals ≤ R.locals) (hce : cells + rm.cells ≤ R.cells) (hsl : slots + rm.slots ≤ R.slots)
    (hws : ∀ w ∈ ws, ∀ (a' : Array Value) (U : State), s.WarmedH U.vm → w.before a' U = true) (hcw : Cond.code y bytes maxL ret ∈ ws) (hini : ∀ (a' : Array Value) (U : State), s.WarmedH U.vm → (Cond.initialized y.cls).before a' U = true)
    (hown : s.vm.findClass own = some m.cls) (hlink : (Cond.methodLink own index y).before args s = true) (hinst : (Cond.instanceMethod y).before args s = true) (hsel : (Cond.selects C y y).before args s = true)
    (hcode : (Cond.code y bytes maxL ret).before args s = true) (hy : y.cls ≠ "java/lang/invoke/MethodHandle" ∧ y.cls ≠ "java/lang/invoke/VarHandle")
    {b : Addr} {cellB : Cell} (hcell : T.heap[b]? = some cellB) (hobj : cellB.vm.isStatics = false) (hcls : s.vm.findClass C = some cellB.cls)
    {g : JFrame} (hg : g.method = m) (hsize : g.locals.size = c.maxLocals) {argsL rest : List Value} (hlen : ∀ sig, parseMethodDescriptor y.desc = some sig → argsL.length = sig.parameters.length)
    (hstack : g.stack = argsL.reverse ++ .ref b :: rest) (hW : 2 * g.monitorRoom + (rest.map fun v => v.category).sum ≤ 8) (hdg : decode c.code g.pc = .ok (.invokevirtual index, 3))
    (hPc : ∀ vm₁, s.WarmedH vm₁ → Pc (Value.ref b :: argsL).toArray (T.setVm vm₁)) :
    ∃ (vm₁ : Vm) (mk : MethodId) (o : Outcome) (t : State), s.WarmedH vm₁ ∧ Stand p l e R s m args below meth c (T.setVm vm₁) locs cells slots ∧ Steps p.tables e below (T.setTop g) t ∧
      Ended t (.java { g with stack := rest } :: below) o ∧ Qx (Value.ref b :: argsL).toArray ((T.setVm vm₁).calling { g with stack := rest } mk (Value.ref b :: argsL).toArray) o t := by
  obtain ⟨mk, methM, hnamed, hmethM, hstM, habM⟩ := Cond.instanceMethod_spec hinst
  obtain ⟨methM', cM, hmethM', -, -, -, -, -, -, hsigM⟩ := Cond.code_spec hnamed hcode
  cases hmethM.symm.trans hmethM'
  obtain ⟨c2, r2, m2, q1, q2, q3, q4, kP, hkP, hkPi⟩ := Cond.selects_spec hsel
  cases hcls.symm.trans q1
  cases (State.methodFound?_of_named hnamed hy).symm.trans q2
  cases hnamed.symm.trans q3
  have hselP : selectMethod e.platform s.vm cellB.cls mk = .method mk := by rw [Launch.admits_selectMethod X.admits]; exact q4
  obtain ⟨vm₁, X₁, hstep₁⟩ := X.invokevirtual hexec hown hlink hnamed hmethM hstM hkP hkPi hy (a := b) (cell := cellB) hcell
    (fun z h => by rw [h] at hobj; cases hobj) hselP hmethM habM hkP hkPi (g := g) hg (argsL := argsL) (rest := rest) (hlen _ hsigM) hstack hdg
  have hW1 := X₁.warmed
  have hn1 := X₁.named hnamed
  have h2 := hws _ hcw (Value.ref b :: argsL).toArray (T.setVm vm₁) hW1
  have h3 := hini (Value.ref b :: argsL).toArray (T.setVm vm₁) hW1
  obtain ⟨methY, cY, hmY, hcY, -, hlY, -, -, -, -⟩ := Cond.code_spec hn1 h2
  obtain ⟨kY, hkY, -⟩ := className_of_methodNamed hn1
  have hinitY : kY.init = .initialized := Cond.initialized_spec (findClass_of_methodNamed hn1) hkY h3
  have h : At (T.setVm vm₁) ({ g with stack := rest } : JFrame).method c below := by
    show At (T.setVm vm₁) g.method c below
    rw [hg]; exact X₁.here
  have hpre : (headSpec ws rm).pre.before (Value.ref b :: argsL).toArray (T.setVm vm₁) = true := atoms_intro fun w hw => hws w hw _ _ hW1
  have happ : (headSpec ws rm).appliesLoose y e.platform ((T.setVm vm₁).calling { g with stack := rest } mk (Value.ref b :: argsL).toArray) = true :=
    Spec.appliesLoose_calling (g := { g with stack := rest }) h hdg hn1 hkY hinitY
      (X₁.room_calling (g := { g with stack := rest }) (R' := (headSpec ws rm).room) hsize hmY hcY hfr (by rw [hlY]; show _ + _ + _ + rm.locals ≤ _; have := hW; simp only [JFrame.monitorRoom] at this ⊢; omega) hce hsl) hpre
  obtain ⟨mid, hmid⟩ := h.above
  have hfrs : ((T.setVm vm₁).setTop { g with stack := rest }).frames = (.java { g with stack := rest } :: mid) ++ below := by rw [State.frames_setTop' _ h.top, hmid]; rfl
  obtain ⟨o, t, hsteps, -, hend, hq⟩ := Steps.callFree hM p X₁.admits X₁.cas X₁.clock (acts := []) hfrs happ (hbl _ _ _ _ (hPc vm₁ hW1)) trivial
  rw [State.frames_setTop' _ h.top, X₁.tail] at hend
  exact ⟨vm₁, mk, o, t, hW1, X₁, hstep₁ _ fun acts => by rw [doInvoke_state]; exact hsteps, hend, hq⟩
end PQX
/-- what a body that may throw owes at its end -/
def pq_MX (below : List Frame) (Qx : Array Value → State → Outcome → State → Prop) (a : Array Value) (s : State) : State → Prop := fun t =>
  ∃ o, t.status = .running ∧ Ended t below o ∧ Qx a s o t
/-- ex = none: it returns fr, and the world is wout; ex = some E: it throws an E, and the world is wx -/
def pq_QX (D : va_G) (win : va_W) (sz : Nat) (ex : Option String) (fr : Int32) (wout wx : va_W) (mc ms : Nat) : Array Value → State → Outcome → State → Prop := fun a st o t =>
  (ex = none ∧ va_Qi (fun (r : Int32) (_ : Unit) => r = fr) (pq_B D win sz (fun _ => wout)) (va_A win sz) a st o t ∧ ∃ L, FrameEnd st o t L mc ms ∧ ∀ q ∈ L, va_A win sz q.base) ∨
  (∃ (E : String) (q : Addr) (ce : Cell) (L : List Loc), ex = some E ∧ o = .threw q ∧ t.heap[q]? = some ce ∧ ce.vm = .none ∧ st.vm.findClass E = some ce.cls ∧ va_P D vwCl wx t.heap ∧ va_D (va_A win sz) wx ∧ va_F (va_A win sz) st t ∧
    st.WarmedH t.vm ∧ st.sameButNew ({ t with vm := st.vm } : State) L mc ms ∧ ∀ z ∈ L, va_A win sz z.base)
theorem pq_ofX {l : Launch} {y : MethodName} {ws ws' : List Cond} {rm : Room} {Pc : Array Value → State → Prop} {Qx : Array Value → State → Outcome → State → Prop} {cc : ByteArray} {maxL : Nat} {ret : Option FieldType}
    (hy : plainName y.cls = true) (hw : ws = Cond.code y cc maxL ret :: ws')
    (body : ∀ p e s m args below meth c s₁, BodyLoose p l y (headSpec ws rm) cc maxL ret e s m args below meth c s₁ → c.maxLocals = maxL → c.exceptionTable.toList = [] → Pc args s →
      W p l e (headSpec ws rm).room s m args below meth c s.heap [] 0 0 (pq_MX below Qx args s) (entryFrame m args maxL)) : MetFree l y (headSpec ws rm) Pc (fun _ _ _ _ _ => True) Qx := by
  refine MetFree.of_bodyS (code := cc) (maxLocals := maxL) (ret := ret) hy ?_ ?_
  · intro args s m h hn
    obtain ⟨meth, c, h1, h2, h3, h4, h5, h6, -, -⟩ := Cond.code_spec hn (atoms_spec (ws := ws) h _ (by rw [hw]; exact List.mem_cons_self))
    exact ⟨meth, c, h1, h2, h3, h4, h5, h6⟩
  · intro p e s m args below meth c s₁ B hml hP _
    have hh0 : s₁.heap = s.heap := by rw [B.state]; rfl
    have hc0 : c.exceptionTable.isEmpty = true := B.noHandlers (atoms_spec (ws := ws) B.pre _ (by rw [hw]; exact List.mem_cons_self))
    have hc1 : c.exceptionTable.toList = [] := by
      have := Array.isEmpty_iff.mp hc0
      rw [this]
    obtain ⟨t, a1, o, b1, b2, b3⟩ := body p e s m args below meth c s₁ B hml hc1 hP s₁ hh0 (Stand.of_body B)
    exact ⟨t, o, a1, b1, b2, b3⟩
section PQR
variable {p : Program} {l : Launch} {e : Env} {R : Room} {s : State} {m : MethodId} {args : Array Value} {below : List Frame} {meth : Method} {c : Code} {T : State} {locs : List Loc} {cells slots : Nat}
/-- the walk seen from where it stands: as if the method had been called in this heap -/
theorem pq_here (X : Stand p l e R s m args below meth c T locs cells slots) {k n : Nat} (hc : cells + k ≤ R.cells) (hs : slots + n ≤ R.slots) :
    ∃ s' : State, s'.heap = T.heap ∧ s'.vm = s.vm ∧ Stand p l e { frames := R.frames, locals := R.locals, cells := k, slots := n } s' m args below meth c T [] 0 0 ∧
      ∀ (U : State) (a b : Nat), s'.sameButNew ({ U with vm := s.vm } : State) [] a b → s.sameButNew ({ U with vm := s.vm } : State) locs (cells + a) (slots + b) := by
  have htop : (T.setVm s.vm).topJava?.isSome := X.here.top
  have hcur := State.cur_lt_of_top htop
  have hF : ((T.setVm s.vm).setFrames (.invoking m args :: below)).frames = .invoking m args :: below := State.frames_setFrames _ hcur
  obtain ⟨g0, hg0⟩ := X.frames_eq
  obtain ⟨th, hth, -⟩ := State.frames_cons (show (T.setVm s.vm).frames = .java g0 :: below from hg0)
  refine ⟨(T.setVm s.vm).setFrames (.invoking m args :: below), rfl, rfl, ⟨X.admits, X.cas, X.clock, hF, ?_, X.hears, X.method, X.code, X.here, X.tail, X.warmed, ?_, ?_, ?_⟩, ?_⟩
  · have h := X.room
    have hU : ((T.setVm s.vm).setFrames (.invoking m args :: below)).localsInUse = s.localsInUse := by
      rw [State.localsInUse_invoking hF (meth := meth) (c := c) X.method X.code, State.localsInUse_invoking X.frames X.method X.code]
    have h7 := X.heapSize
    have h8 := X.used
    have hl : e.platform.stackLimits (T.setVm s.vm).me = e.platform.stackLimits s.me := X.limits
    have hb : (T.setVm s.vm).me.stackBytes = s.me.stackBytes := X.bytes
    simp only [State.hasRoom, Bool.and_eq_true, decide_eq_true_eq, X.frames, List.length_cons] at h
    simp only [State.hasRoom, Bool.and_eq_true, decide_eq_true_eq, hF, hU, List.length_cons, State.stackLimits_setFrames, State.stackBytes_setFrames, hl, hb]
    exact ⟨⟨⟨h.1.1.1, show T.heap.size + k ≤ e.platform.maxCells by omega⟩, show T.slotsUsed + n ≤ e.platform.maxSlots by omega⟩, X.book⟩
  · rw [State.stackLimits_setFrames]; rfl
  · rw [State.stackBytes_setFrames]; rfl
  · have hz : (T.heap.toList.drop T.heap.size).map (·.slots.size) = [] := by rw [List.drop_eq_nil_of_le (Nat.le_of_eq Array.length_toList)]; rfl
    refine ⟨?_, Nat.le_refl _, Nat.le_refl _, ?_, ?_, fun a c9 h9 => ⟨c9, h9, rfl, rfl, fun _ _ => rfl⟩⟩
    · show T.setVm s.vm = { ((T.setVm s.vm).setFrames (.invoking m args :: below)).setFrames (T.setVm s.vm).frames with heap := T.heap, slotsUsed := T.slotsUsed }
      rw [State.setFrames_setFrames, State.setFrames_self hth]
      rfl
    · show T.slotsUsed = T.slotsUsed + ((T.heap.toList.drop T.heap.size).map (·.slots.size)).sum
      rw [hz]; rfl
    · show ((T.heap.toList.drop T.heap.size).map (·.slots.size)).sum ≤ 0
      rw [hz]; exact Nat.le_refl _
  · intro U a b h
    obtain ⟨h1, h2⟩ := h
    rw [State.setFrames_setFrames] at h1
    have h3 : (T.setVm s.vm).sameButNew ({ U with vm := s.vm } : State) [] a b := ⟨h1, h2⟩
    have h4 := X.same.trans h3
    rwa [List.append_nil] at h4
/-- nothing old was written: what was there is there -/
theorem pq_kept {s U : State} {vm' : Vm} {k n : Nat} (h : s.sameButNew ({ U with vm := vm' } : State) [] k n) : s.heap.size ≤ U.heap.size ∧ ∀ q : Nat, q < s.heap.size → U.heap[q]? = s.heap[q]? := by
  obtain ⟨-, h2, -, -, -, h6⟩ := h
  refine ⟨h2, fun q hq => ?_⟩
  obtain ⟨c9, e1, e2, -, e4⟩ := h6 q _ (Array.getElem?_eq_getElem hq)
  have hs : c9.slots = (s.heap[q]).slots := Array.ext_getElem? fun i => e4 i (by simp)
  rw [hs] at e2
  have e3 : c9 = s.heap[q] := e2
  rw [Array.getElem?_eq_getElem hq]
  exact e1.trans (congrArg some e3)
end PQR
section PQY
variable {p : Program} {l : Launch} {e : Env} {R : Room} {s : State} {m : MethodId} {args : Array Value} {below : List Frame} {meth : Method} {c : Code} {H : Heap} {locs : List Loc} {cells slots : Nat} {Q : State → Prop}
/-- a return of a method that may throw -/
theorem pq_retX {D : va_G} {win : va_W} {sz : Nat} {ex : Option String} {fr : Int32} {wout wx : va_W} {mc ms : Nat} {g : JFrame} (hex : ex = none)
    (k : W p l e R s m args below meth c H locs cells slots (MQ below (va_Qi (fun (r : Int32) (_ : Unit) => r = fr) (pq_B D win sz (fun _ => wout)) (va_A win sz)) args s mc ms (va_A win sz)) g) :
    W p l e R s m args below meth c H locs cells slots (pq_MX below (pq_QX D win sz ex fr wout wx mc ms) args s) g := by
  intro T hT X
  obtain ⟨t, a1, o, b1, b2, b3, b4⟩ := k T hT X
  exact ⟨t, a1, o, b1, b2, Or.inl ⟨hex, b3, b4⟩⟩
/-- 'throw new E("text")': new; dup; ldc; invokespecial; athrow -/
theorem pq_throw {D : va_G} {win : va_W} {ex : Option String} {fr : Int32} {wout wx : va_W} {mc ms : Nat} {cc : ByteArray} {pc : Nat} {ls : Array Slot} {own cls text : String} {names : List String} {ik is ic sa : Nat}
    (hexec : p.tables.exec = Jvm.exec) (hb : c.code = cc) (hl : l.stackTraces = false) (hcls : Bundle.fit cls = true) (hnames : ∀ n ∈ names, Bundle.fit n = true)
    (hmv : ∀ s' : State, s'.heap = H → s'.vm = s.vm → (Cond.classLink own ik cls).before args s' = true ∧ (Cond.initialized cls).before args s' = true ∧ (∀ w ∈ Bundle.ownAtoms own ic cls names, w.before args s' = true) ∧ vk_R own is text sa s' ∧ s'.vm.findClass own = some m.cls)
    (hP : va_P D vwCl wx H) (hD : va_D (va_A win s.heap.size) wx) (hS : va_S (va_A win s.heap.size) s.heap H locs) (hsize : ls.size = c.maxLocals) (htab : c.exceptionTable.toList = [])
    (d0 : decode cc pc = .ok (.new ik, 3)) (d3 : decode cc (pc + 3) = .ok (.dup, 1)) (d4 : decode cc (pc + 4) = .ok (.ldc is, 2)) (d6 : decode cc (pc + 6) = .ok (.invokespecial ic, 3)) (d9 : decode cc (pc + 9) = .ok (.athrow, 1))
    (hRframes : names.length + 3 < R.frames) (hRlocals : 13 * (names.length + 1) + 43 ≤ R.locals) (hRcells : cells + 1 ≤ R.cells) (hRslots : slots + 6 ≤ R.slots) (hlocks : meth.locks = false)
    (hc : cells + 1 ≤ mc) (hs : slots + 6 ≤ ms) (hex : ex = some cls) :
    W p l e R s m args below meth c H locs cells slots (pq_MX below (pq_QX D win s.heap.size ex fr wout wx mc ms) args s) (F0 m pc ls []) := by
  intro T hT X
  have htr : e.platform.stackTraces = false := (show e.platform.stackTraces = l.stackTraces by rw [X.admits.platform]).trans hl
  obtain ⟨s', hhp, hvm, Y, hall⟩ := pq_here X hRcells hRslots
  have hW0 : s.WarmedH s'.vm := by rw [hvm]; exact State.WarmedH.refl s
  obtain ⟨hk', hini', hat', hstr', hown'⟩ := hmv s' (by rw [hhp, hT]) hvm
  have hins : (Cond.instantiable cls 6).before args s' = true := hat' _ (by simp [Bundle.ownAtoms])
  obtain ⟨vm₁, cX, kX, hfX, hkX, -, -, X₁, st1⟩ := Y.newCold hexec (own := own) (C := cls) (index := ik) (n := 6) hown' hk' hins hini'
    (g := F0 m pc ls []) rfl (by rw [hb]; exact d0) (Nat.le_refl _) (Nat.le_refl _)
  generalize hT1 : (T.setVm vm₁).pushCell { cls := cX, slots := kX.instanceTypes.map defaultValue, vm := .none } = T1 at X₁ st1
  have hcat : (Value.ref T.heap.size).category = 1 := rfl
  have hcellA : T1.heap[T.heap.size]? = some (freshCell cX kX) := by rw [← hT1]; exact State.heap_pushCell_size _ _
  have d3' : decode c.code (pc + 3) = .ok (.dup, 1) := by rw [hb]; exact d3
  have d4' : decode c.code (pc + 4) = .ok (.ldc is, 2) := by rw [hb]; exact d4
  obtain ⟨U, hsteps, hrun, hend, hW, hsame, ce, hce, hO⟩ := X₁.ctorThrowS hexec htr (own := own) (cls := cls) (names := names) (ic := ic) hown' hcls hnames hat' (fun x hx => nomatch hx) hfX hkX hcellA (by rw [hhp]; exact Nat.le_refl _) (msg := .ref sa) rfl
    (g := { method := m, pc := pc + 6, locals := ls, stack := .ref sa :: .ref T.heap.size :: .ref T.heap.size :: [], locked := none }) rfl hsize rfl rfl (rest := []) rfl
    (by rw [hb]; exact d6) (by rw [hb]; exact d9) (fun x hx => by rw [htab] at hx; cases hx) hRframes (by simp only [List.map_cons, List.map_nil, List.sum_cons, List.sum_nil, hcat]; omega) hlocks
  rw [hvm] at hsame
  obtain ⟨f1, f2⟩ := pq_kept hsame
  rw [hhp, hT] at f1 f2
  have hcl : s.vm.findClass cls = some ce.cls := by
    have h9 := hO.cls
    rw [hvm] at h9
    exact h9
  have hkeep : va_P D vwCl wx U.heap := hP.kept (fun k q hk => f2 q.1 (by
    have h1 := hP k q hk
    unfold va_at at h1
    split at h1
    · exact (Array.getElem?_eq_some_iff.mp h1).1
    · obtain ⟨r, -, cl9, h2, -⟩ := h1
      exact (Array.getElem?_eq_some_iff.mp h2).1))
  refine ⟨U, ?_, .threw T.heap.size, hrun, hend, Or.inr ⟨cls, T.heap.size, ce, locs, hex, rfl, hce, hO.vm, hcl, hkeep, hD, ⟨Nat.le_trans hS.1 f1, fun q h1 h2 => ?_⟩, State.WarmedH.trans hW0 hW, (hall U _ _ hsame).mono (by omega) (by omega), hS.2.2⟩⟩
  · refine st1 _ ?_
    show Steps p.tables e below (T1.setTop { method := m, pc := pc + 3, locals := ls, stack := .ref T.heap.size :: [], locked := none }) _
    jvm_step X₁.here [X₁.here.top, hexec, d3', Value.category]
    exact X₁.ldcString hexec (own := own) (text := text) (index := is) (a := sa) hown' hstr'.1 hstr'.2
      (g := { method := m, pc := pc + 4, locals := ls, stack := .ref T.heap.size :: .ref T.heap.size :: [], locked := none }) rfl d4' _ hsteps
  · rw [f2 q (Nat.lt_of_lt_of_le h1 hS.1)]
    exact hS.2.1 q h1 h2
end PQY
