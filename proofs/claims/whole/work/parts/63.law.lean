def R_law : String := "PoolAssemblerLaw"
def lw_P (b : Addr) (xs : List Int32) (args : Array Value) (s : State) : Prop := args = #[.ref b] ∧ s.IntsAt b xs ∧ xs.length ≤ 2560 ∧ (Jvm.Cond.and given_1 narrow_1).before args s = true
def lw_Q (_ : Array Value) (s : State) (o : Outcome) (t : State) : Prop := o = .returned (some (.int 1)) ∧ Framed s o t [] 1061 31603
def lw_Z (below : List Frame) (a : Array Value) (s : State) : State → Prop := fun t => ∃ o, t.status = .running ∧ Ended t below o ∧ lw_Q a s o t
/-- the law's own end, with 1 on the stack, nothing written that was there before, its room as the claim has it -/
theorem lw_ret {p : Program} {l : Launch} {e : Env} {s : State} {m : MethodId} {below : List Frame} {meth : Method} {c : Code} {b : Nat} (hx : p.tables.exec = Jvm.exec) (hb : c.code = code) (hr : meth.sig.returnType = ret) (hlocks : meth.locks = false) {pc : Nat} {H : Heap} {ls : Array Slot} (hdg : decode code pc = .ok (.ireturn, 1)) : W p l e room_1 s m #[Value.ref b] below meth c H [] 1061 31603 (lw_Z below #[Value.ref b] s) (F0 m pc ls [.int 1]) := by
  intro T hT X
  obtain ⟨fs, hret, hrun, hended, hW, hframe⟩ := X.leave (v := some (.int 1)) (hlocks := hlocks) (fun h => by rw [hr] at h; cases h)
  have hmeth' : T.vm.method? m = some meth := X.method'
  refine ⟨T.setFrames fs, ?_, .returned (some (.int 1)), hrun, hended, rfl, ⟨_, rfl⟩, hW, hframe⟩
  jvm_step X.here [X.here.top, hx, hb, hdg, hmeth', hr, ret, narrow_b1]
  (try refine ⟨rfl, ?_⟩); (try refine ⟨rfl, ?_⟩)
  first | (intro acts; rw [hret _ acts rfl rfl rfl]) | rw [hret _ _ rfl rfl rfl]
  exact Steps.refl _
/-- what holds at the law's entry: the machine, the code, the tables' words (any of lw_tbl by 'hts w (by decide +kernel)'), the script of L ints xs at the cell b, what the Statement gives of the start (any of its parts by flat_of_before) -/
def lw_At (p : Program) (s : State) (m : MethodId) (meth : Method) (c : Code) (b L : Nat) (xs : Nat → Int32) : Prop :=
  p.tables.exec = Jvm.exec ∧ c.code = code ∧ meth.sig.returnType = ret ∧ c.maxLocals = 7 ∧ s.vm.findClass R_law = some m.cls ∧ (∀ w ∈ lw_tbl, w.before #[Value.ref b] s = true) ∧ va_X b L xs s s.heap ∧ b < s.heap.size ∧ meth.locks = false ∧ (Jvm.Cond.and given_1 narrow_1).before #[Value.ref b] s = true

theorem wd_484 : Cond.instantiable RPo 5 ∈ pq_ws := pq_memT 16 (by decide +kernel) (by decide +kernel)
theorem wd_485 : Cond.instantiable RMo 27 ∈ pq_ws := pq_memT 534 (by decide +kernel) (by decide +kernel)
theorem wd_486 : Cond.arrayClass .long ∈ pq_ws := pq_memT 772 (by decide +kernel) (by decide +kernel)
theorem wd_487 : Cond.classLink RLw 8 RPo ∈ pq_ws := pq_memT 15 (by decide +kernel) (by decide +kernel)
theorem wd_488 : Cond.methodLink RLw 30 yPo_init ∈ pq_ws := pq_memT 17 (by decide +kernel) (by decide +kernel)
theorem wd_489 : Cond.code yPo_init cPo_init 1 none ∈ pq_ws := pq_memT 19 (by decide +kernel) (by decide +kernel)
theorem wd_490 : Cond.instanceMethod yPo_init ∈ pq_ws := pq_memT 18 (by decide +kernel) (by decide +kernel)
theorem wd_491 : Cond.classLink RLw 31 RMo ∈ pq_ws := pq_memT 533 (by decide +kernel) (by decide +kernel)
theorem wd_492 : Cond.methodLink RLw 33 yMo_init ∈ pq_ws := pq_memT 535 (by decide +kernel) (by decide +kernel)
theorem wd_493 : Cond.code yMo_init cMo_init 1 none ∈ pq_ws := pq_memT 537 (by decide +kernel) (by decide +kernel)
theorem wd_494 : Cond.instanceMethod yMo_init ∈ pq_ws := pq_memT 536 (by decide +kernel) (by decide +kernel)
theorem pq_exit5 {k L : Nat} (hL : L ≤ 2560) (h1 : 5 * k ≤ L) (h : ¬ nI L - 5 < nI (5 * k)) : 5 * k + 5 ≤ L := by
  by_cases h5 : 5 ≤ L
  · have e : nI L - 5 = nI (L - 5) := by
      have e1 : nI (L - 5) + nI 5 = nI L := by rw [nI_add]; congr 1; omega
      rw [← e1]; exact Int32.add_sub_cancel _ _
    rw [e, nI_ltI (by omega) (by omega)] at h
    omega
  · exfalso
    apply h
    have e : k = 0 := by omega
    subst e
    rcases (show L = 0 ∨ L = 1 ∨ L = 2 ∨ L = 3 ∨ L = 4 by omega) with rfl | rfl | rfl | rfl | rfl <;> decide
set_option maxHeartbeats 4000000 in
set_option maxRecDepth 100000 in
theorem pq_loop {p : Program} {l : Launch} {e : Env} {s : State} {m : MethodId} {below : List Frame} {meth : Method} {c : Code} {Q : State → Prop} {b L : Nat} {xs : Nat → Int32} {D : va_G} {cI cS cL : ClassId} {J : XS → MS → Prop} (C : pq_LC p l s m c b L xs D cI cS cL) (hJ : pq_Law J) (u v : Nat → Nat) (hL : L ≤ 2560)
    (kk : ∀ (ls : Array Slot) (H : Heap) (locs : List Loc) (k : Nat), k ≤ 512 → va_S (fun q => s.heap.size ≤ q) s.heap H locs → W p l e room_1 s m #[Value.ref b] below meth c H locs (31 + k) (23375 + 6 * k) Q (F0 m 461 ls [])) :
    ∀ (n k : Nat) (x : XS) (y : MS) (fo : Nat → Int64) (ls : Array Slot) (H : Heap) (locs : List Loc), L - 5 * k < n → 5 * k ≤ L → J x y → lv_has ls 7 [(0, .ref b), (1, .ref (u 0)), (2, .ref (v 17)), (3, .ref (u 30)), (4, .int (nI (5 * k)))] → va_P D vwCl (wG u v cI cS cL x y fo) H → va_D (fun q => s.heap.size ≤ q) (wG u v cI cS cL x y fo) → va_S (fun q => s.heap.size ≤ q) s.heap H locs → W p l e room_1 s m #[Value.ref b] below meth c H locs (31 + k) (23375 + 6 * k) Q (F0 m 23 ls []) := by
  intro n
  induction n with
  | zero =>
    intro k x y fo ls H locs hm
    exact absurd hm (Nat.not_lt_zero _)
  | succ n ih =>
    intro k x y fo ls H locs hm h5 hj hl hP hD hS
    have C0 := C
    obtain ⟨hx, hb, hml, hown, hw, hE2, hX, hbl, hl9⟩ := C
    have hbA : ¬ (fun q => s.heap.size ≤ q) b := fun h => by have h : s.heap.size ≤ b := h; omega
    refine lv_iload hx hb dLw_law_23 (lv_at hl 4 rfl) ?_
    refine lv_aload_n hx hb dLw_law_25 rfl (lv_at hl 0 rfl) ?_
    refine va_slen hx hb hX hbl hbA hS dLw_law_26 ?_
    refine lv_iconst (v := 5) hx hb dLw_law_27 (by first | rfl | decide) ?_
    refine lv_isub hx hb dLw_law_28 ?_
    refine lv_icmp_gt (tgt := 461) hx hb dLw_law_29 (by decide) (fun h1 => ?_) (fun h1 => ?_)
    · exact kk ls H locs k (by omega) hS
    have hk := pq_exit5 hL h5 h1
    have k455 : ∀ (ls : Array Slot) (H : Heap) (locs : List Loc) (x : XS) (y : MS) (fo : Nat → Int64), J x y → lv_has ls 7 [(0, .ref b), (1, .ref (u 0)), (2, .ref (v 17)), (3, .ref (u 30)), (4, .int (nI (5 * k)))] → va_P D vwCl (wG u v cI cS cL x y fo) H → va_D (fun q => s.heap.size ≤ q) (wG u v cI cS cL x y fo) → va_S (fun q => s.heap.size ≤ q) s.heap H locs → W p l e room_1 s m #[Value.ref b] below meth c H locs (31 + (k + 1)) (23375 + 6 * (k + 1)) Q (F0 m 455 ls []) := by
      intro ls H locs x y fo hj hl hP hD hS
      refine lv_iinc (k := 4) (v := nI (5 * k) + 5) (lv' := [(4, .int (nI (5 * k) + 5)), (0, .ref b), (1, .ref (u 0)), (2, .ref (v 17)), (3, .ref (u 30))]) hx hb dLw_law_455 hl rfl (by first | rfl | decide) (by decide) rfl (fun ls hl => ?_)
      refine lv_goto (tgt := 23) hx hb dLw_law_458 (by decide) ?_
      rw [show nI (5 * k) + 5 = nI (5 * (k + 1)) from nI_add (5 * k) 5] at hl
      exact ih (k + 1) x y fo ls H locs (by omega) (by omega) hj (lv_sub hl [1, 2, 3, 4, 0] rfl) hP hD hS
    refine lv_aload_n hx hb dLw_law_32 rfl (lv_at hl 0 rfl) ?_
    refine lv_iload hx hb dLw_law_33 (lv_at hl 4 rfl) ?_
    refine va_sld hx hb hX hbl hbA hS (i := nI (5 * k)) (vp_in_nI (by omega) (by omega)) dLw_law_35 ?_
    refine lv_bipush (v := 15) hx hb dLw_law_36 (by first | rfl | decide) ?_
    refine lv_iand hx hb dLw_law_38 ?_
    generalize (xs (nI (5 * k)).toNatClampNeg &&& (15 : Int32)) = z
    by_cases h100 : z = 0
    · refine lv_tableIn (off := 57) (tgt := 96) hx hb dLw_law_39 (by rw [h100]; decide) (by rw [h100]; decide) (by rw [h100]; rfl) (by decide) ?_
      exact pq_case0 C0 hJ u v x y fo k hk hL hj hl hP hD hS k455
    by_cases h101 : z = 1
    · refine lv_tableIn (off := 149) (tgt := 188) hx hb dLw_law_39 (by rw [h101]; decide) (by rw [h101]; decide) (by rw [h101]; rfl) (by decide) ?_
      exact pq_case1 C0 hJ u v x y fo k hk hL hj hl hP hD hS k455
    by_cases h102 : z = 2
    · refine lv_tableIn (off := 160) (tgt := 199) hx hb dLw_law_39 (by rw [h102]; decide) (by rw [h102]; decide) (by rw [h102]; rfl) (by decide) ?_
      exact pq_case2 C0 hJ u v x y fo k hk hL hj hl hP hD hS k455
    by_cases h103 : z = 3
    · refine lv_tableIn (off := 204) (tgt := 243) hx hb dLw_law_39 (by rw [h103]; decide) (by rw [h103]; decide) (by rw [h103]; rfl) (by decide) ?_
      exact pq_case3 C0 hJ u v x y fo k hk hL hj hl hP hD hS k455
    by_cases h104 : z = 4
    · refine lv_tableIn (off := 217) (tgt := 256) hx hb dLw_law_39 (by rw [h104]; decide) (by rw [h104]; decide) (by rw [h104]; rfl) (by decide) ?_
      exact pq_case4 C0 hJ u v x y fo k hk hL hj hl hP hD hS k455
    by_cases h105 : z = 5
    · refine lv_tableIn (off := 242) (tgt := 281) hx hb dLw_law_39 (by rw [h105]; decide) (by rw [h105]; decide) (by rw [h105]; rfl) (by decide) ?_
      exact pq_case5 C0 hJ u v x y fo k hk hL hj hl hP hD hS k455
    by_cases h106 : z = 6
    · refine lv_tableIn (off := 255) (tgt := 294) hx hb dLw_law_39 (by rw [h106]; decide) (by rw [h106]; decide) (by rw [h106]; rfl) (by decide) ?_
      exact pq_case6 C0 hJ u v x y fo k hk hL hj hl hP hD hS k455
    by_cases h107 : z = 7
    · refine lv_tableIn (off := 268) (tgt := 307) hx hb dLw_law_39 (by rw [h107]; decide) (by rw [h107]; decide) (by rw [h107]; rfl) (by decide) ?_
      exact pq_case7 C0 hJ u v x y fo k hk hL hj hl hP hD hS k455
    by_cases h108 : z = 8
    · refine lv_tableIn (off := 324) (tgt := 363) hx hb dLw_law_39 (by rw [h108]; decide) (by rw [h108]; decide) (by rw [h108]; rfl) (by decide) ?_
      exact pq_case8 C0 hJ u v x y fo k hk hL hj hl hP hD hS k455
    by_cases h109 : z = 9
    · refine lv_tableIn (off := 335) (tgt := 374) hx hb dLw_law_39 (by rw [h109]; decide) (by rw [h109]; decide) (by rw [h109]; rfl) (by decide) ?_
      exact pq_case9 C0 hJ u v x y fo k hk hL hj hl hP hD hS k455
    by_cases h110 : z = 10
    · refine lv_tableIn (off := 391) (tgt := 430) hx hb dLw_law_39 (by rw [h110]; decide) (by rw [h110]; decide) (by rw [h110]; rfl) (by decide) ?_
      exact pq_case10 C0 hJ u v x y fo k hk hL hj hl hP hD hS k455
    have t0 := pq_ne (x := z) (k := 0) (y := 0) (by first | rfl | decide) h100
    have t1 := pq_ne (x := z) (k := 1) (y := 1) (by first | rfl | decide) h101
    have t2 := pq_ne (x := z) (k := 2) (y := 2) (by first | rfl | decide) h102
    have t3 := pq_ne (x := z) (k := 3) (y := 3) (by first | rfl | decide) h103
    have t4 := pq_ne (x := z) (k := 4) (y := 4) (by first | rfl | decide) h104
    have t5 := pq_ne (x := z) (k := 5) (y := 5) (by first | rfl | decide) h105
    have t6 := pq_ne (x := z) (k := 6) (y := 6) (by first | rfl | decide) h106
    have t7 := pq_ne (x := z) (k := 7) (y := 7) (by first | rfl | decide) h107
    have t8 := pq_ne (x := z) (k := 8) (y := 8) (by first | rfl | decide) h108
    have t9 := pq_ne (x := z) (k := 9) (y := 9) (by first | rfl | decide) h109
    have t10 := pq_ne (x := z) (k := 10) (y := 10) (by first | rfl | decide) h110
    refine lv_tableOut (tgt := 455) hx hb dLw_law_39 (by omega) (by decide) ?_
    refine W.widen (k := 31 + (k + 1)) (n := 23375 + 6 * (k + 1)) (by omega) (by omega) ?_
    exact k455 ls H locs x y fo hj hl hP hD hS
theorem pq_arrOf {ty : FieldType} {a : Array Value} {s : State} (h : (Cond.arrayClass ty).before a s = true) : ∃ cA : ClassId, ArrOfT s cA ty ∧ s.vm.findClass ("[" ++ ty.toString) = some cA := by
  obtain ⟨cA, kA, comp, h1, h2, h3⟩ := Cond.arrayClass_spec h
  exact ⟨cA, fun n z => ⟨fun k h => (by cases h), kA, h2, comp, h3⟩, h1⟩
theorem pq_xw_in : ∀ w ∈ pq_xw, w ∈ tables_1 ∨ w ∈ flatC (Jvm.Cond.and given_1 narrow_1) := by decide +kernel
theorem pq_St_in : ∀ q ∈ pq_St, Cond.stringRef RPo q.1 q.2 ∈ tables_1 ∧ Cond.exactly (.string RPo q.1) "java/lang/String" ∈ flatC (Jvm.Cond.and given_1 narrow_1) := by decide +kernel
theorem pq_N_in : Cond.not (.castable "java/lang/IllegalStateException" "java/lang/IllegalArgumentException") ∈ flatC (Jvm.Cond.and given_1 narrow_1) := by decide +kernel
theorem pq_T_of {s : State} {a : Array Value} (h : ∀ w ∈ pq_xw, w.before a s = true) : ∀ w ∈ pq_xw, w.before #[] s = true := by
  intro w hw
  have hk := pq_xw_ok w hw
  have h0 := h w hw
  have hW := State.WarmedH.refl s
  have hst : pq_kst s s.heap := fun _ _ h _ => h
  unfold pq_mk at hk
  rw [Bool.or_eq_true] at hk
  rcases hk with hk | hk
  · exact word_at hW (good_of_word hk) h0
  · split at hk
    · exact va_Nw.use rfl (va_Nw.warmD hW (va_Nw.of rfl h0))
    · exact va_Nw.use rfl (va_Nw.warmC hW (va_Nw.of rfl h0))
    · exact pq_lsm hW hst h0
    · exact pq_irm hW hst (h _ (of_decide_eq_true hk)) h0
    · cases hk
theorem pq_strTerm {s : State} {b : Array Value} {own : String} {k : Nat} {q : Addr} (h : (Term.string own k).eval b s none [] s = some (.ref q)) : (Term.string own k).eval #[] s none [] s = some (.ref q) := h
theorem pq_tables {s : State} {b : Nat} (hts : ∀ w ∈ lw_tbl, w.before #[Value.ref b] s = true) (hgv : (Jvm.Cond.and given_1 narrow_1).before #[Value.ref b] s = true) : ∃ (D : va_G) (cI cS cL : ClassId), pq_E2 D cI cS cL s := by
  have hfl := flat_of_before _ hgv
  have htb : ∀ w ∈ tables_1, w.before #[Value.ref b] s = true := fun w h => hts w (List.mem_append_right _ h)
  have hw : ∀ w ∈ pq_ws, w.before #[Value.ref b] s = true := fun w h => hts w (List.mem_filter.mp h).1
  obtain ⟨cIm, iIm, kIm⟩ := u_known hw pinIm (hw _ wd_383)
  obtain ⟨cLa, iLa, kLa⟩ := u_known hw pinLa (hw _ wd_387)
  obtain ⟨cPr, iPr, kPr⟩ := u_known hw pinPr (hw _ wd_391)
  obtain ⟨cSo, iSo, kSo⟩ := u_known hw pinSo (hw _ wd_379)
  obtain ⟨cPo, iPo, kPo⟩ := u_known hw pinPo (hw _ wd_484)
  obtain ⟨cMo, iMo, kMo⟩ := u_known hw pinMo (hw _ wd_485)
  obtain ⟨cI, acI, fcI⟩ := pq_arrOf (hw _ wd_371)
  obtain ⟨cS, acS, fcS⟩ := pq_arrOf (hw _ wd_374)
  obtain ⟨cL, acL, fcL⟩ := pq_arrOf (hw _ wd_486)
  have hcl : ∀ (c : Nat) (q : vw_C), vwCl[c]? = some q → u_Kn s q.1 q.2.1 q.2.2 (([cIm, cLa, cPr, cSo, cPo, cMo] : List ClassId).getD c cIm) (([iIm, iLa, iPr, iSo, iPo, iMo] : List (Nat → Nat)).getD c iIm) := by
    intro c q hq
    have hc : c < 6 := (List.getElem?_eq_some_iff.mp hq).1
    rcases (show c = 0 ∨ c = 1 ∨ c = 2 ∨ c = 3 ∨ c = 4 ∨ c = 5 by omega) with rfl | rfl | rfl | rfl | rfl | rfl
    · cases Option.some.inj hq; exact kIm
    · cases Option.some.inj hq; exact kLa
    · cases Option.some.inj hq; exact kPr
    · cases Option.some.inj hq; exact kSo
    · cases Option.some.inj hq; exact kPo
    · cases Option.some.inj hq; exact kMo
  have ar2 : ∀ (k : Nat) (q : ClassId × FieldType), ([(cI, .int), (cS, .short)] : List (ClassId × FieldType))[k]? = some q → ArrOfT s q.1 q.2 ∧ va_RA s q.1 q.2 := by
    intro k q hq
    have hc : k < 2 := (List.getElem?_eq_some_iff.mp hq).1
    rcases (show k = 0 ∨ k = 1 by omega) with rfl | rfl
    · cases Option.some.inj hq; exact ⟨acI, fcI⟩
    · cases Option.some.inj hq; exact ⟨acS, fcS⟩
  have ar1 : ∀ (k : Nat) (q : ClassId × FieldType), ([(cL, .long)] : List (ClassId × FieldType))[k]? = some q → ArrOfT s q.1 q.2 ∧ va_RA s q.1 q.2 := by
    intro k q hq
    have hc : k < 1 := (List.getElem?_eq_some_iff.mp hq).1
    obtain rfl : k = 0 := by omega
    cases Option.some.inj hq
    exact ⟨acL, fcL⟩
  refine ⟨(fun c => ([cIm, cLa, cPr, cSo, cPo, cMo] : List ClassId).getD c cIm, fun c => ([iIm, iLa, iPr, iSo, iPo, iMo] : List (Nat → Nat)).getD c iIm), cI, cS, cL, ⟨⟨hcl, ar2⟩, ?_⟩, ⟨hcl, ar1⟩, ⟨?_, ?_⟩, va_Nc.of (hfl _ pq_N_in)⟩
  · intro w hwm
    have h1 := List.mem_filter.mp hwm
    have h2 := htb w h1.1
    have h3 := h1.2
    cases w <;> first | exact va_Nw.of rfl h2 | cases h3
  · refine pq_T_of (a := #[Value.ref b]) fun w hwm => ?_
    rcases pq_xw_in w hwm with h | h
    · exact htb w h
    · exact hfl w h
  · intro q hq
    obtain ⟨h1, h2⟩ := pq_St_in q hq
    obtain ⟨sa, -, -, -, h3, -⟩ := Cond.exactly_spec (hfl _ h2)
    exact ⟨sa, vk_R.of (htb _ h1) h3⟩
set_option maxHeartbeats 4000000 in
set_option maxRecDepth 100000 in
theorem pq_begin {p : Program} {e : Env} {s : State} {m : MethodId} {below : List Frame} {meth : Method} {c : Code} {l : Launch} {b L : Nat} {xs : Nat → Int32} {J : XS → MS → Prop} (hJ : pq_Law J) (hl9 : l.stackTraces = false) (hL : L ≤ 2560) (C0 : lw_At p s m meth c b L xs) : W p l e room_1 s m #[Value.ref b] below meth c s.heap [] 0 0 (lw_Z below #[Value.ref b] s) (entryFrame m ([Value.ref b] : List Value).toArray 7) := by
  obtain ⟨hx, hb, hr, hml, hown, hts, hX, hbl, hlocks, hgv⟩ := C0
  obtain ⟨D, cI, cS, cL, hE2⟩ := pq_tables hts hgv
  have hE := hE2.1
  have hw : ∀ w ∈ pq_ws, w.before #[Value.ref b] s = true := fun w h => hts w (List.mem_filter.mp h).1
  have hown : s.vm.findClass RLw = some m.cls := hown
  have hb : c.code = cLw_law := hb
  have C : pq_LC p l s m c b L xs D cI cS cL := ⟨hx, hb, hml, hown, hw, hE2, hX, hbl, hl9⟩
  have hA : ∀ q : Nat, s.heap.size ≤ q → (fun q => s.heap.size ≤ q) q := fun q h => h
  have hP : va_P D vwCl [] s.heap := fun k q h => by simp at h
  have hD : va_D (fun q => s.heap.size ≤ q) ([] : va_W) := ⟨fun i j p q h => by simp at h, fun k q h => by simp at h⟩
  have hS : va_S (fun q => s.heap.size ≤ q) s.heap s.heap [] := va_S.rf
  have hl := lv_entry ([.ref b] : List Value) (n := 7) (Nat.le_of_ble_eq_true rfl)
  rw [lg_entry_eq]
  generalize (lg_sl ([.ref b] : List Value) ++ List.replicate (7 - (lg_sl ([.ref b] : List Value)).length) Slot.unset).toArray = ls at hl ⊢
  have hl : lv_has ls 7 [(0, .ref b)] := hl
  refine va_new (ci := 4) (fs := [.null, .null, .null, .null, .int 0]) (C := RPo) (T := TPo) (N := 5) hx hb hw pinPo tyPo tyPo_ok hown (hw _ wd_487) (hw _ wd_484) (hw _ wd_352) hE.1 hP hD hS hA rfl (fun j hj => by rcases (show j = 0 ∨ j = 1 ∨ j = 2 ∨ j = 3 ∨ j = 4 by omega) with rfl | rfl | rfl | rfl | rfl <;> rfl) (Nat.le_of_ble_eq_true rfl) (Nat.le_of_ble_eq_true rfl) dLw_law_0 (fun q0 H hP hD hS => ?_)
  have hP : va_P D vwCl [(q0, .inr (4, [.null, .null, .null, .null, .int 0]))] H := hP
  have hD : va_D _ [(q0, .inr (4, [.null, .null, .null, .null, .int 0]))] := hD
  refine lv_dup hx hb dLw_law_3 rfl ?_
  refine pq_callc (wc := [(q0, .inr (4, [.null, .null, .null, .null, .int 0]))]) (wr := []) hP hD hS hA [0] [] rfl rfl (by decide) (by decide) (va_runI (own := RLw) (As := []) (rest := [.ref q0]) ⟨hx, hb, hml, hown, hw⟩ (k_Po_init l D cI cS q0 H.size) ⟨pq_cwB 0 hw wd_488 wd_352 wd_489 rfl rfl (by decide +kernel) ⟨Nat.le_of_ble_eq_true rfl, Nat.le_of_ble_eq_true rfl⟩, rfl, hw _ wd_490⟩ (pq_preS hE (hP.sub [0] rfl) (hD.sub [0] (by decide) rfl)) rfl rfl hl.1 rfl (lv_room (Nat.le_of_ble_eq_true rfl)) dLw_law_4 ⟨Nat.le_of_ble_eq_true rfl, Nat.le_of_ble_eq_true rfl⟩) (fun u0 hu0 H locs hP hD hS => ?_)
  obtain ⟨hP, hD⟩ : va_P D vwCl (XS.init.w u0 cI cS) H ∧ va_D (fun q => s.heap.size ≤ q) (XS.init.w u0 cI cS) := ⟨hP, hD⟩
  refine lv_astore_n (lv' := [(1, .ref q0), (0, .ref b)]) hx hb dLw_law_7 rfl hl (by decide) rfl (fun ls hl => ?_)
  refine va_new (ci := 5) (fs := [.int 0, .int 0, .null, .null, .null, .null, .null, .null, .null, .null, .int 0, .int 0, .int 0, .int 0, .int 0, .null, .int 0, .int 0, .null, .null, .null, .int 0, .int 0, .int 0, .int 0, .int 0, .int 0]) (C := RMo) (T := TMo) (N := 27) hx hb hw pinMo tyMo tyMo_ok hown (hw _ wd_491) (hw _ wd_485) (hw _ wd_186) hE.1 hP hD hS hA rfl (fun j hj => by rcases (show j = 0 ∨ j = 1 ∨ j = 2 ∨ j = 3 ∨ j = 4 ∨ j = 5 ∨ j = 6 ∨ j = 7 ∨ j = 8 ∨ j = 9 ∨ j = 10 ∨ j = 11 ∨ j = 12 ∨ j = 13 ∨ j = 14 ∨ j = 15 ∨ j = 16 ∨ j = 17 ∨ j = 18 ∨ j = 19 ∨ j = 20 ∨ j = 21 ∨ j = 22 ∨ j = 23 ∨ j = 24 ∨ j = 25 ∨ j = 26 by omega) with rfl | rfl | rfl | rfl | rfl | rfl | rfl | rfl | rfl | rfl | rfl | rfl | rfl | rfl | rfl | rfl | rfl | rfl | rfl | rfl | rfl | rfl | rfl | rfl | rfl | rfl | rfl <;> rfl) (Nat.le_of_ble_eq_true rfl) (Nat.le_of_ble_eq_true rfl) dLw_law_8 (fun q1 H hP hD hS => ?_)
  refine lv_dup hx hb dLw_law_11 rfl ?_
  refine pq_callc (wc := [(q1, .inr (5, [.int 0, .int 0, .null, .null, .null, .null, .null, .null, .null, .null, .int 0, .int 0, .int 0, .int 0, .int 0, .null, .int 0, .int 0, .null, .null, .null, .int 0, .int 0, .int 0, .int 0, .int 0, .int 0]))]) (wr := XS.init.w u0 cI cS) hP hD hS hA [17] [0, 1, 2, 3, 4, 5, 6, 7, 8, 9, 10, 11, 12, 13, 14, 15, 16] rfl rfl (by decide) (by decide) (va_runI (own := RLw) (As := []) (rest := [.ref q1]) ⟨hx, hb, hml, hown, hw⟩ (k_Mo_init l D cI cS q1 H.size) ⟨pq_cwB 0 hw wd_492 wd_186 wd_493 rfl rfl (by decide +kernel) ⟨Nat.le_of_ble_eq_true rfl, Nat.le_of_ble_eq_true rfl⟩, rfl, hw _ wd_494⟩ (pq_preS hE (hP.sub [17] rfl) (hD.sub [17] (by decide) rfl)) rfl rfl hl.1 rfl (lv_room (Nat.le_of_ble_eq_true rfl)) dLw_law_12 ⟨Nat.le_of_ble_eq_true rfl, Nat.le_of_ble_eq_true rfl⟩) (fun v hv H locs hP hD hS => ?_)
  obtain ⟨hP, hD⟩ : va_P D vwCl (XS.init.w u0 cI cS ++ MS.init.w v cI cS) H ∧ va_D (fun q => s.heap.size ≤ q) (XS.init.w u0 cI cS ++ MS.init.w v cI cS) := ⟨hP, hD⟩
  refine lv_astore_n (lv' := [(2, .ref q1), (1, .ref q0), (0, .ref b)]) hx hb dLw_law_15 rfl hl (by decide) rfl (fun ls hl => ?_)
  refine lv_iconst (v := 1) hx hb dLw_law_16 (by first | rfl | decide) ?_
  refine va_newa (atype := .long) (ty := .long) (N' := 1) (n := 1) (a0 := (1, .inr (.inl (fun _ => 0)))) hx hb (hw _ wd_486) rfl hE.1 hP hD hS hA (fun cA => rfl) (by decide) (by decide) (by decide) (Nat.le_of_ble_eq_true rfl) (Nat.le_of_ble_eq_true rfl) dLw_law_17 (fun q3 cA H hK hP hD hS => ?_)
  have h3 : cL = cA := Option.some.inj ((va_nm_long (hE2.2.1.2 0 (cL, .long) rfl).2).symm.trans (va_nm_long (hK.2 2 (cA, .long) rfl).2))
  subst h3
  refine lv_astore_n (lv' := [(3, .ref q3), (2, .ref q1), (1, .ref q0), (0, .ref b)]) hx hb dLw_law_19 rfl hl (by decide) rfl (fun ls hl => ?_)
  refine lv_iconst (v := 0) hx hb dLw_law_20 (by first | rfl | decide) ?_
  refine lv_istore (lv' := [(4, .int 0), (3, .ref q3), (2, .ref q1), (1, .ref q0), (0, .ref b)]) hx hb dLw_law_21 hl (by decide) rfl (fun ls hl => ?_)
  obtain ⟨u, hu1, hu2, hu3⟩ : ∃ u : Nat → Nat, XS.init.w u cI cS = XS.init.w u0 cI cS ∧ u 30 = q3 ∧ u 0 = u0 0 := ⟨fun k => if k = 30 then q3 else u0 k, rfl, rfl, rfl⟩
  have hu0 : u0 0 = q0 := hu0
  have hv : v 17 = q1 := hv
  rw [← hu1] at hP hD
  rw [← hu2] at hP hD hl
  rw [← hv, ← hu0, ← hu3] at hl
  have hP : va_P D vwCl (wG u v cI cS cL XS.init MS.init (fun _ => 0)) H := hP.sub [0, 1, 2, 3, 4, 5, 6, 7, 8, 9, 10, 11, 12, 13, 14, 15, 16, 30, 17, 18, 19, 20, 21, 22, 23, 24, 25, 26, 27, 28, 29] rfl
  have hD : va_D (fun q => s.heap.size ≤ q) (wG u v cI cS cL XS.init MS.init (fun _ => 0)) := hD.sub [0, 1, 2, 3, 4, 5, 6, 7, 8, 9, 10, 11, 12, 13, 14, 15, 16, 30, 17, 18, 19, 20, 21, 22, 23, 24, 25, 26, 27, 28, 29] (by decide) rfl
  refine pq_loop C hJ u v hL (fun ls H locs k hk hS => ?_) (L + 1) 0 XS.init MS.init (fun _ => 0) ls H locs (by omega) (by omega) hJ.init (lv_sub hl [4, 3, 2, 1, 0] rfl) hP hD hS
  refine lv_iconst (v := 1) hx hb dLw_law_461 (by first | rfl | decide) ?_
  refine va_forget hS.2.2 ?_
  refine W.widen (k := 1061) (n := 31603) (by omega) (by omega) ?_
  exact lw_ret hx hb hr hlocks dLw_law_462
