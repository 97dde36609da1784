/-! The words that a throw wants, and how they come along. -/
def pq_nm : List String := ["java/lang/RuntimeException", "java/lang/Exception"]
def pq_xw : List Cond := Bundle.ownAtoms RPo 55 "java/lang/IllegalArgumentException" pq_nm ++ (Bundle.ownAtoms RPo 66 "java/lang/IllegalStateException" pq_nm ++ (Bundle.ownAtoms RPo 91 "java/lang/ArithmeticException" pq_nm ++
  [.classLink RPo 51 "java/lang/IllegalArgumentException", .initialized "java/lang/IllegalArgumentException", .classLink RPo 62 "java/lang/IllegalStateException", .initialized "java/lang/IllegalStateException", .classLink RPo 87 "java/lang/ArithmeticException", .initialized "java/lang/ArithmeticException"]))
def pq_St : List (Nat × String) := [(53, "no such line"), (64, "no more lines"), (71, "the label has a line"), (89, "a line is refused"), (108, "fuel is 1 .. 5000"), (113, "no such register")]
def pq_T (U : State) : Prop := (∀ w ∈ pq_xw, w.before #[] U = true) ∧ ∀ q ∈ pq_St, ∃ sa : Nat, vk_R RPo q.1 q.2 sa U
def pq_mk (w : Cond) : Bool := goodWord w || match w with
  | .declares _ => true
  | .castable _ _ => true
  | .laysStatic _ _ _ => true
  | .isRef (.static C n d) => decide (Cond.laysStatic C n d ∈ pq_xw)
  | _ => false
theorem pq_xw_ok : ∀ w ∈ pq_xw, pq_mk w = true := by decide +kernel
def pq_kst (s : State) (H : Heap) : Prop := ∀ (q : Nat) (cell : Cell), s.heap[q]? = some cell → cell.vm.isStatics = true → H[q]? = some cell
theorem pq_lsm {O f d : String} {s U : State} {a a' : Array Value} (hW : s.WarmedH U.vm) (hst : pq_kst s U.heap) (h : (Cond.laysStatic O f d).before a s = true) : (Cond.laysStatic O f d).before a' U = true := by
  have h1 := Cond.laysStatic_setVm hW.alike h
  obtain ⟨c, k, i, fd, q, cell, hc, hi, hs1, ha, hcell, hs, hcls, hlt, hty⟩ := Cond.laysStatic_spec h1
  exact Cond.laysStatic_of (s := U) hc hi hs1 ha (hst _ _ hcell hs) hs hcls hlt hty
theorem pq_irm {O f d : String} {s U : State} {a a' : Array Value} (hW : s.WarmedH U.vm) (hst : pq_kst s U.heap) (hl : (Cond.laysStatic O f d).before a s = true) (h : (Cond.isRef (.static O f d)).before a s = true) : (Cond.isRef (.static O f d)).before a' U = true := by
  have h1 := Cond.laysStatic_setVm hW.alike hl
  obtain ⟨c, k, i, fd, q, cell, hc, hi, hs1, ha, hcell, hs, hcls, hlt, hty⟩ := Cond.laysStatic_spec h1
  have h2 : (Cond.isRef (.static O f d)).before a (s.setVm U.vm) = true := Cond.holds_shifted (State.Shifted.of_warmed hW) _ [] rfl h
  obtain ⟨u, hu⟩ := Cond.staticRefV hi hs1 ha hcell hs h2
  have hi' : U.fieldFound? O f d = some (c, k, i, fd) := hi
  have hcU := hst _ _ hcell hs
  obtain ⟨v, hv⟩ := u
  cases v <;> simp_all [Cond.before, Cond.holds, Cond.value, Term.eval, State.fieldNamed?, Value.isRef]
theorem pq_T_at {s U : State} (hW : s.WarmedH U.vm) (hst : pq_kst s U.heap) (h : pq_T s) {w : Cond} (hw : w ∈ pq_xw) (a' : Array Value) : w.before a' U = true := by
  have hk := pq_xw_ok w hw
  have h0 := h.1 w hw
  unfold pq_mk at hk
  rw [Bool.or_eq_true] at hk
  rcases hk with hk | hk
  · exact word_at hW (good_of_word hk) h0
  · split at hk
    · exact va_Nw.use rfl (va_Nw.warmD hW (va_Nw.of rfl h0))
    · exact va_Nw.use rfl (va_Nw.warmC hW (va_Nw.of rfl h0))
    · exact pq_lsm hW hst h0
    · exact pq_irm hW hst (h.1 _ (of_decide_eq_true hk)) h0
    · cases hk
theorem pq_T_mv {s U : State} (hW : s.WarmedH U.vm) (hst : pq_kst s U.heap) (h : pq_T s) : pq_T U :=
  ⟨fun w hw => pq_T_at hW hst h hw #[], fun q hq => by
    obtain ⟨sa, h1⟩ := h.2 q hq
    exact ⟨sa, vk_R.warm hW h1⟩⟩
theorem pq_stat {D : va_G} {win : va_W} {s : State} {H : Heap} {locs : List Loc} (hP0 : va_P D vwCl win s.heap) (hS : va_S (va_A win s.heap.size) s.heap H locs) : pq_kst s H := by
  intro q cell hc hs
  have hlt : q < s.heap.size := (Array.getElem?_eq_some_iff.mp hc).1
  rw [hS.2.1 q hlt ?_]
  · exact hc
  · rintro (⟨k, e9, hk⟩ | h9)
    · have h1 := hP0 k (q, e9) hk
      cases e9 with
      | inl a =>
        have h2 : s.heap[q]? = some (vp_cell a.1 a.2) := h1
        rw [hc] at h2
        cases Option.some.inj h2
        revert hs
        unfold vp_cell
        split <;> intro hs <;> cases hs
      | inr o =>
        obtain ⟨r, -, cl9, h2, -, h3, -⟩ := h1
        rw [hc] at h2
        cases Option.some.inj h2
        rw [h3] at hs
        cases hs
    · omega
/-- what pq_throw asks, out of what is carried along -/
theorem pq_hmv {D : va_G} {win : va_W} {s : State} {m : MethodId} {H : Heap} {locs : List Loc} {args : Array Value} {cls text : String} {ik is ic sa : Nat} (hT : pq_T s) (hP0 : va_P D vwCl win s.heap) (hS : va_S (va_A win s.heap.size) s.heap H locs) (hown : s.vm.findClass RPo = some m.cls)
    (h1 : Cond.classLink RPo ik cls ∈ pq_xw) (h2 : Cond.initialized cls ∈ pq_xw) (h3 : ∀ w ∈ Bundle.ownAtoms RPo ic cls pq_nm, w ∈ pq_xw) (h4 : vk_R RPo is text sa s) :
    ∀ s' : State, s'.heap = H → s'.vm = s.vm → (Cond.classLink RPo ik cls).before args s' = true ∧ (Cond.initialized cls).before args s' = true ∧ (∀ w ∈ Bundle.ownAtoms RPo ic cls pq_nm, w.before args s' = true) ∧ vk_R RPo is text sa s' ∧ s'.vm.findClass RPo = some m.cls := by
  intro s' hh hv
  have hW : s.WarmedH s'.vm := by rw [hv]; exact State.WarmedH.refl s
  have hst : pq_kst s s'.heap := by rw [hh]; exact pq_stat hP0 hS
  exact ⟨pq_T_at hW hst hT h1 _, pq_T_at hW hst hT h2 _, fun w hw => pq_T_at hW hst hT (h3 w hw) _, vk_R.warm hW h4, by rw [hv]; exact hown⟩
theorem pq_o1 : ∀ w ∈ Bundle.ownAtoms RPo 55 "java/lang/IllegalArgumentException" pq_nm, w ∈ pq_xw := fun w h => List.mem_append_left _ h
theorem pq_o2 : ∀ w ∈ Bundle.ownAtoms RPo 66 "java/lang/IllegalStateException" pq_nm, w ∈ pq_xw := fun w h => List.mem_append_right _ (List.mem_append_left _ h)
theorem pq_o3 : ∀ w ∈ Bundle.ownAtoms RPo 91 "java/lang/ArithmeticException" pq_nm, w ∈ pq_xw := fun w h => List.mem_append_right _ (List.mem_append_right _ (List.mem_append_left _ h))
theorem pq_l1 : Cond.classLink RPo 51 "java/lang/IllegalArgumentException" ∈ pq_xw := by decide +kernel
theorem pq_l2 : Cond.classLink RPo 62 "java/lang/IllegalStateException" ∈ pq_xw := by decide +kernel
theorem pq_l3 : Cond.classLink RPo 87 "java/lang/ArithmeticException" ∈ pq_xw := by decide +kernel
theorem pq_i1 : Cond.initialized "java/lang/IllegalArgumentException" ∈ pq_xw := by decide +kernel
theorem pq_i2 : Cond.initialized "java/lang/IllegalStateException" ∈ pq_xw := by decide +kernel
theorem pq_i3 : Cond.initialized "java/lang/ArithmeticException" ∈ pq_xw := by decide +kernel
theorem pq_f1 : Bundle.fit "java/lang/IllegalArgumentException" = true := by decide +kernel
theorem pq_f2 : Bundle.fit "java/lang/IllegalStateException" = true := by decide +kernel
theorem pq_f3 : Bundle.fit "java/lang/ArithmeticException" = true := by decide +kernel
theorem pq_fn : ∀ n ∈ pq_nm, Bundle.fit n = true := by decide +kernel
def pq_PX (D : va_G) (cI cS : ClassId) (av : List Value) (win : va_W) (sz : Nat) : Array Value → State → Prop := va_Pc av (fun U => U.heap.size = sz ∧ va_P D vwCl win U.heap ∧ va_D (fun _ => True) win ∧ pq_E D cI cS U ∧ pq_T U)
/-- the contract of a method that returns or throws -/
def pq_X (l : Launch) (y : MethodName) (ws : List Cond) (rm : Room) (D : va_G) (cI cS : ClassId) (av : List Value) (win : va_W) (ex : Option String) (fr : Int32) (wout : va_W) : Prop :=
  ∀ sz : Nat, MetFree l y (headSpec ws rm) (pq_PX D cI cS av win sz) (fun _ _ _ _ _ => True) (pq_QX D win sz ex fr wout wout 1 6)
