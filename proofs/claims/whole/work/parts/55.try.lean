/-! A call under a try: it returns, or it is caught by a row of the caller's own table. -/
def pq_WX (p : Program) (l : Launch) (e : Env) (R : Room) (s : State) (m : MethodId) (args : Array Value) (below : List Frame) (meth : Method) (c : Code) (H : Heap) (locs : List Loc) (cells slots : Nat) (Q : State → Prop) (g : JFrame) (q : Addr) : Prop :=
  ∀ T : State, T.heap = H → Stand p l e R s m args below meth c T locs cells slots → ∃ t, Steps p.tables e below ((T.setTop g).pushFrame (.throwing q)) t ∧ Q t
theorem pq_PX_blind {D : va_G} {cI cS : ClassId} {av : List Value} {win : va_W} {sz : Nat} : FrameBlind (pq_PX D cI cS av win sz) := by
  intro a U g mk q
  obtain ⟨q0, q1, q2, q3, q4, q5⟩ := q
  exact ⟨q0, q1, q2, q3, pq_E_call q4, pq_T_mv (s := U) (U := U.calling g mk a) (State.WarmedH.refl U) (fun _ _ h _ => h) q5⟩
section PQT
variable {p : Program} {l : Launch} {e : Env} {R : Room} {s : State} {m : MethodId} {args : Array Value} {below : List Frame} {meth : Method} {c : Code} {H : Heap} {locs : List Loc} {cells slots : Nat} {Q : State → Prop}
theorem pq_tryX {D : va_G} {cI cS : ClassId} {own C : String} {index maxL nL ci n : Nat} {y : MethodName} {bytes cc : ByteArray} {rm : Room} {ws wc wr w1 : va_W} {A : Nat → Prop} {ex : Option String} {fr : Int32} {pc : Nat} {ls : Array Slot} {st0 As rest : List Value} {b : Addr} {T0 : u_T} {N0 : Nat} {fs : List Value}
    (hx : p.tables.exec = Jvm.exec) (hb : c.code = cc) (hml : c.maxLocals = nL) (hown : s.vm.findClass own = some m.cls) (hw : ∀ w ∈ pq_ws, w.before args s = true)
    (hM : MetFree l y (headSpec (Cond.code y bytes maxL (some .int) :: pq_ws) rm) (pq_PX D cI cS (.ref b :: As) wc H.size) (fun _ _ _ _ _ => True) (pq_QX D wc H.size ex fr w1 w1 1 6))
    (h1 : Cond.methodLink own index y ∈ pq_ws) (h2 : Cond.instanceMethod y ∈ pq_ws) (h3 : Cond.selects C y y ∈ pq_ws) (h4 : Cond.initialized y.cls ∈ pq_ws) (h5 : Cond.code y bytes maxL (some .int) ∈ pq_ws)
    (hd : y.cls ≠ "java/lang/invoke/MethodHandle" ∧ y.cls ≠ "java/lang/invoke/VarHandle" ∧ (parseMethodDescriptor y.desc).map (fun d => d.parameters.length) = some n) (hn9 : As.length = n)
    (hrc : rm.cells = 1) (hrs : rm.slots = 6) (hfr : rm.frames + 1 ≤ R.frames) (hlo : 8 + (maxL + 11) + rm.locals ≤ R.locals) (hce : cells + 1 ≤ R.cells) (hsl : slots + 6 ≤ R.slots)
    (hE : pq_E D cI cS s) (hT9 : pq_T s) (hst : pq_kst s H) (hP : va_P D vwCl ws H) (hD : va_D A ws) (hS : va_S A s.heap H locs) (hA : ∀ q, s.heap.size ≤ q → A q)
    (isC isR : List Nat) (hC : isC.map (fun i => ws[i]?) = wc.map some) (hR : isR.map (fun i => ws[i]?) = wr.map some) (hnd : va_nd isC = true) (hn : va_nd isR = true) (hdis : ∀ i ∈ isR, i ∉ isC)
    (hc : vwCl[ci]? = some (C, T0, N0)) (q0 : Nat) (he : wc[q0]? = some (b, .inr (ci, fs)))
    (hsize : ls.size = nL) (hstack : st0 = As.reverse ++ .ref b :: rest) (hW : (rest.map fun v => v.category).sum ≤ 8) (hdg : decode cc pc = .ok (.invokevirtual index, 3))
    (k0 : ex = none → ∀ (H1 : Heap) (locs1 : List Loc), va_P D vwCl (wr ++ w1) H1 → va_D A (wr ++ w1) → va_S A s.heap H1 locs1 → W p l e R s m args below meth c H1 locs1 (cells + 1) (slots + 6) Q (F0 m (pc + 3) ls (.int fr :: rest)))
    (kx : ∀ (E : String) (q : Addr) (ce : Cell) (H1 : Heap) (locs1 : List Loc), ex = some E → H1[q]? = some ce → ce.vm = .none → s.vm.findClass E = some ce.cls → va_P D vwCl (wr ++ w1) H1 → va_D A (wr ++ w1) → va_S A s.heap H1 locs1 →
      pq_WX p l e R s m args below meth c H1 locs1 (cells + 1) (slots + 6) Q (F0 m pc ls rest) q) :
    W p l e R s m args below meth c H locs cells slots Q (F0 m pc ls st0) := by
  intro T hT X
  have hPc : va_P D vwCl wc H := hP.sub isC (by
    have h9 : isC.filterMap (fun i => ws[i]?) = (isC.map (fun i => ws[i]?)).filterMap id := by rw [List.filterMap_map]; rfl
    rw [h9, hC]
    simp)
  have hDc : va_D A wc := hD.sub isC hnd hC
  have hFc := va_free (wc := wc) hD hS hA isC hC
  obtain ⟨cellB, hcB, hoB, hclB⟩ := va_recv hE.1 hPc hc he
  obtain ⟨vm₁, mk, o, t, hW1, X1, hst1, hend, hq⟩ := pq_raw X hx (C := C) (bytes := bytes) (maxL := maxL) (ret := some .int) hM pq_PX_blind hfr hlo (by rw [hrc]; exact hce) (by rw [hrs]; exact hsl)
    (pay_in hw (pq_good h5)) List.mem_cons_self (fun a' U hWU => word_at hWU (good_of_word (List.mem_filter.mp h4).2) (hw _ h4)) hown (hw _ h1) (hw _ h2) (hw _ h3) (hw _ h5) ⟨hd.1, hd.2.1⟩ (b := b) (cellB := cellB) (by rw [hT]; exact hcB) hoB hclB
    (g := F0 m pc ls st0) rfl (hsize.trans hml.symm) (argsL := As) (rest := rest) (fun sig h => by
      have h9 := hd.2.2
      rw [h] at h9
      exact hn9.trans (Option.some.inj h9).symm) hstack (by simpa [JFrame.monitorRoom] using hW) (by rw [hb]; exact hdg)
    (fun vm₁ hWv => ⟨rfl, by show T.heap.size = _; rw [hT], by show va_P D vwCl wc T.heap; rw [hT]; exact hPc, hDc.weaken (fun _ _ _ _ => trivial), pq_E_warm (U := T.setVm vm₁) hWv hE, pq_T_mv (U := T.setVm vm₁) hWv (by show pq_kst s T.heap; rw [hT]; exact hst) hT9⟩)
  have hjoin : ∀ (tH : Heap) (L : List Loc), va_P D vwCl w1 tH → va_D (va_A wc H.size) w1 → H.size ≤ tH.size → (∀ q : Nat, q < H.size → ¬ va_A wc H.size q → tH[q]? = H[q]?) → (∀ q ∈ L, va_A wc H.size q.base) →
      va_P D vwCl (wr ++ w1) tH ∧ va_D A (wr ++ w1) ∧ va_S A s.heap tH (locs ++ L) := by
    intro tH L hP1 hD1 hz hk hL
    obtain ⟨hP2, hD2⟩ := va_join hP hD isC isR hC hR hn hdis hk hFc hP1 hD1
    refine ⟨hP2, hD2, Nat.le_trans hS.1 hz, fun q hq hnA => ?_, fun z hz9 => ?_⟩
    · rw [hk q (Nat.lt_of_lt_of_le hq hS.1) (fun h9 => hnA (hFc q h9))]
      exact hS.2.1 q hq hnA
    · rcases List.mem_append.mp hz9 with h9 | h9
      · exact hS.2.2 z h9
      · exact hFc _ (hL z h9)
  have hHst : ((T.setVm vm₁).calling { F0 m pc ls st0 with stack := rest } mk (Value.ref b :: As).toArray).heap = H := hT
  rcases hq with ⟨hex, ⟨⟨r, u, ho, hr, hB⟩, hF⟩, L, hfe, hL⟩ | ⟨E, q, ce, L, hex, ho, hcell, hcv, hcl, hPx, hDx, hFx, hWt, hsm, hL⟩
  · obtain ⟨-, hWt, hsm⟩ := hfe
    subst ho
    obtain ⟨T', X', -, -, ht⟩ := X1.outOf (g := { F0 m pc ls st0 with stack := rest }) rfl (ig := .invokevirtual index) (len := 3) (by rw [hb]; exact hdg) hend hWt hsm
    have htH : T'.heap = t.heap := by rw [ht]; rfl
    have hF1 : H.size ≤ t.heap.size ∧ ∀ q : Nat, q < H.size → ¬ va_A wc H.size q → t.heap[q]? = H[q]? := by
      have h9 := hF
      unfold va_F at h9
      rw [hHst] at h9
      exact h9
    obtain ⟨j1, j2, j3⟩ := hjoin t.heap L hB.1 hB.2 hF1.1 hF1.2 hL
    have hr : r = fr := hr
    subst hr
    obtain ⟨t2, a1, b1⟩ := k0 hex t.heap (locs ++ L) j1 j2 j3 T' htH X'
    refine ⟨t2, hst1.trans ?_, b1⟩
    rw [ht]
    exact a1
  · subst ho
    obtain ⟨T', X', -, -, ht⟩ := X1.outOfThrown (g := { F0 m pc ls st0 with stack := rest }) rfl hend hWt hsm
    have htH : T'.heap = t.heap := by rw [ht]; rfl
    have hF1 : H.size ≤ t.heap.size ∧ ∀ q : Nat, q < H.size → ¬ va_A wc H.size q → t.heap[q]? = H[q]? := by
      have h9 := hFx
      unfold va_F at h9
      rw [hHst] at h9
      exact h9
    obtain ⟨j1, j2, j3⟩ := hjoin t.heap L hPx hDx hF1.1 hF1.2 hL
    have hcl' : s.vm.findClass E = some ce.cls := by
      have h9 : vm₁.findClass E = some ce.cls := hcl
      rw [hW1.alike.findClass] at h9
      exact h9
    obtain ⟨t2, a1, b1⟩ := kx E q ce t.heap (locs ++ L) hex hcell hcv hcl' j1 j2 j3 T' htH X'
    refine ⟨t2, hst1.trans ?_, b1⟩
    rw [ht]
    exact a1
theorem pq_catch1 {own nm E : String} {ce : Cell} {q : Addr} {pc : Nat} {ls : Array Slot} {rest : List Value} (hown : s.vm.findClass own = some m.cls) (x : ExceptionTableEntry) (t : List ExceptionTableEntry) (htab : c.exceptionTable.toList = x :: t) (hx : covers x pc = true) (h0 : x.catchType ≠ 0)
    (hlink : (Cond.classLink own x.catchType nm).before args s = true) (hcast : (Cond.castable E nm).before args s = true) (hcell : H[q]? = some ce) (hv : ce.vm = .none) (hcl : s.vm.findClass E = some ce.cls)
    (k : W p l e R s m args below meth c H locs cells slots Q (F0 m x.handlerPc ls [.ref q])) : pq_WX p l e R s m args below meth c H locs cells slots Q (F0 m pc ls rest) q := by
  intro T hT X
  obtain ⟨c3, c4, hc3, hc4, hasg⟩ := Cond.castable_spec hcast
  cases Option.some.inj (hc3.symm.trans hcl)
  obtain ⟨vm', X', st⟩ := pq_caught1 X q (g := F0 m pc ls rest) rfl hown x t htab hx h0 hlink hc4 (by rw [hT]; exact hcell) hv hasg
  obtain ⟨t2, a1, b1⟩ := k (T.setVm vm') hT X'
  exact ⟨t2, st _ a1, b1⟩
theorem pq_catch2 {own nm1 nm2 E : String} {ce : Cell} {q : Addr} {pc : Nat} {ls : Array Slot} {rest : List Value} (hown : s.vm.findClass own = some m.cls) (x y : ExceptionTableEntry) (t : List ExceptionTableEntry) (htab : c.exceptionTable.toList = x :: y :: t) (hx : covers x pc = true) (hy : covers y pc = true) (h0 : x.catchType ≠ 0) (h1 : y.catchType ≠ 0)
    (hlink1 : (Cond.classLink own x.catchType nm1).before args s = true) (hlink2 : (Cond.classLink own y.catchType nm2).before args s = true) (hno : va_Nc E nm1 s) (hcast : (Cond.castable E nm2).before args s = true) (hcell : H[q]? = some ce) (hv : ce.vm = .none) (hcl : s.vm.findClass E = some ce.cls)
    (k : W p l e R s m args below meth c H locs cells slots Q (F0 m y.handlerPc ls [.ref q])) : pq_WX p l e R s m args below meth c H locs cells slots Q (F0 m pc ls rest) q := by
  intro T hT X
  obtain ⟨c3, c4, hc3, hc4, hasg⟩ := Cond.castable_spec hcast
  cases Option.some.inj (hc3.symm.trans hcl)
  obtain ⟨c5, c6, hc5, hc6, hnas⟩ := hno
  cases Option.some.inj (hc5.symm.trans hcl)
  obtain ⟨vm', X', st⟩ := pq_caught2 X q (g := F0 m pc ls rest) rfl hown x y t htab hx hy h0 h1 hlink1 hlink2 hc6 hc4 (by rw [hT]; exact hcell) hv hnas hasg
  obtain ⟨t2, a1, b1⟩ := k (T.setVm vm') hT X'
  exact ⟨t2, st _ a1, b1⟩
/-- a static call of a method with a table of its own -/
theorem pq_runSW {y : MethodName} {bytes cc : ByteArray} {maxL nL mc ms n index : Nat} {ret : Option FieldType} {hh : List (Nat × Nat × Nat × Nat)} {ws : List Cond} {rm : Room} {Pc : Array Value → State → Prop} {Qc : Array Value → State → Outcome → State → Prop} {free : Addr → Prop} {Ts : List Cond} {own : String} {As rest : List Value} {g : JFrame}
    (S : CallFix p m c cc nL s args Ts own) (hM : Met l y ws rm Pc Qc mc ms free) (hrc : rm.cells = mc) (hrs : rm.slots = ms) (hfr : rm.frames + 1 ≤ R.frames) (hlo : 8 + (maxL + 11) + rm.locals ≤ R.locals)
    (hws : ∀ w ∈ ws, ∀ (a' : Array Value) (U : State), s.WarmedH U.vm → w.before a' U = true) (hcw : Cond.codeWith y bytes maxL ret hh ∈ ws) (hcode : (Cond.codeWith y bytes maxL ret hh).before args s = true) (hini : ∀ (a' : Array Value) (U : State), s.WarmedH U.vm → (Cond.initialized y.cls).before a' U = true) (hinit : (Cond.initialized y.cls).before args s = true)
    (hlink : (Cond.methodLink own index y).before args s = true) (hstat : (Cond.static y).before args s = true) (hd : y.cls ≠ "java/lang/invoke/MethodHandle" ∧ y.cls ≠ "java/lang/invoke/VarHandle" ∧ (parseMethodDescriptor y.desc).map (fun d => d.parameters.length) = some n) (hp : PreS s H Pc As)
    (hg : g.method = m) (hn : As.length = n) (hsize : g.locals.size = nL) (hstack : g.stack = As.reverse ++ rest) (hW : 2 * g.monitorRoom + (rest.map fun v => v.category).sum ≤ 8) (hdg : decode cc g.pc = .ok (.invokestatic index, 3)) (hf : cells + mc ≤ R.cells ∧ slots + ms ≤ R.slots) :
    va_Run p l e R s m args below meth c H locs cells slots mc ms g rest (Qc As.toArray) free := by
  have hK : Back l R p e below s args y 3 8 (PreOf R mc ms Pc) (PostOf Qc mc ms free) := va_backW hM hp.1 hrc hrs hfr hlo hws hcw hini
  obtain ⟨hx, hb, hml, ho, -⟩ := S
  intro T hT X
  obtain ⟨mk, methM, cM, hnamed, hmethM, -, -, -, -, -, -, hsigM⟩ := Cond.codeWith_spec hcode
  have hstatic : methM.isStatic = true := Cond.static_spec hnamed hmethM hstat
  obtain ⟨kP, hkP, -⟩ := className_of_methodNamed hnamed
  have hinitP : kP.init = .initialized := Cond.initialized_spec (findClass_of_methodNamed hnamed) hkP hinit
  have hlen : As.length = methM.sig.parameters.length := by
    have h9 := hd.2.2
    rw [hsigM] at h9
    exact hn.trans (Option.some.inj h9).symm
  obtain ⟨vm₁, X₁, hstep₁⟩ := X.invokestatic hx ho hlink hnamed hmethM hstatic hkP hinitP ⟨hd.1, hd.2.1⟩ (g := g) hg (argsL := As) (rest := rest) hlen hstack (by rw [hb]; exact hdg)
  obtain ⟨v, ⟨U', l2, c2, s2⟩, X', ⟨g', mk', t, L, e1, e2, hq, h1, hL, h2, h3⟩, hsteps⟩ := hK m meth c ⟨T.setVm vm₁, locs, cells, slots⟩ { g with stack := rest } (.invokestatic index) mk As.toArray X₁ hg (hsize.trans hml.symm) (by rw [hb]; exact hdg) hW (X₁.named hnamed) ⟨hf.1, hf.2, hp.2 (T.setVm vm₁) hT X₁.warmed⟩
  dsimp only [Pt.U, Pt.locs, Pt.cells, Pt.slots] at X' e1 e2 h1 h2 h3 hsteps
  subst h1; subst h2; subst h3
  exact ⟨v, (T.setVm vm₁).calling g' mk' As.toArray, t, U', L, hT, X', hL, e1, e2, hq, fun target h => hstep₁ _ fun acts => by rw [doInvoke_state]; exact hsteps.trans h⟩
end PQT
theorem pq_tab1 {l : List ExceptionTableEntry} {a b c d : Nat} (h : l.map (fun h => (h.startPc, h.endPc, h.handlerPc, h.catchType)) = [(a, b, c, d)]) : l = [⟨a, b, c, d⟩] := by
  match l, h with
  | [⟨x1, x2, x3, x4⟩], h =>
    simp only [List.map_cons, List.map_nil, List.cons.injEq, Prod.mk.injEq, and_true] at h
    obtain ⟨rfl, rfl, rfl, rfl⟩ := h
    rfl
theorem pq_tab2 {l : List ExceptionTableEntry} {a b c d a' b' c' d' : Nat} (h : l.map (fun h => (h.startPc, h.endPc, h.handlerPc, h.catchType)) = [(a, b, c, d), (a', b', c', d')]) : l = [⟨a, b, c, d⟩, ⟨a', b', c', d'⟩] := by
  match l, h with
  | [⟨x1, x2, x3, x4⟩, ⟨y1, y2, y3, y4⟩], h =>
    simp only [List.map_cons, List.map_nil, List.cons.injEq, Prod.mk.injEq, and_true] at h
    obtain ⟨⟨rfl, rfl, rfl, rfl⟩, rfl, rfl, rfl, rfl⟩ := h
    rfl
theorem pq_tabB {p : Program} {l : Launch} {x : MethodName} {S : Spec} {code : ByteArray} {maxLocals : Nat} {ret : Option FieldType} {e : Env} {s : State} {m : MethodId} {args : Array Value} {below : List Frame} {meth : Method} {c : Code} {s₁ : State} {hh : List (Nat × Nat × Nat × Nat)}
    (B : BodyLoose p l x S code maxLocals ret e s m args below meth c s₁) (h : (Cond.codeWith x code maxLocals ret hh).before args s = true) : c.exceptionTable.toList.map (fun h => (h.startPc, h.endPc, h.handlerPc, h.catchType)) = hh := by
  obtain ⟨m', meth', c', hn', hm', hc', -, -, he', -⟩ := Cond.codeWith_spec h
  cases B.named.symm.trans hn'
  cases B.method.symm.trans hm'
  cases (Stand.of_body B).code.symm.trans hc'
  exact he'
