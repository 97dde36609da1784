/-! Contracts with exact ends; the links between nest mates are carried along. -/
def pq_nest (w : Cond) : Bool := match w with
  | .fieldLinkNest _ _ _ _ _ _ => true
  | .methodLinkNest _ _ _ _ => true
  | _ => false
def pq_N (ns : List Cond) (U : State) : Prop := ∀ w ∈ ns, va_Nw w U
theorem pq_N_warm {ns : List Cond} (hn : ns.all pq_nest = true) {s U : State} (hW : s.WarmedH U.vm) (h : pq_N ns s) : pq_N ns U := by
  intro w hw
  have h1 := List.all_eq_true.mp hn w hw
  have h2 := h w hw
  cases w <;> first | exact va_Nw.warmF hW h2 | exact va_Nw.warmM hW h2 | cases h1
theorem pq_N_same {ns : List Cond} (hn : ns.all pq_nest = true) {s U : State} (hv : s.vm = U.vm) (h : pq_N ns s) : pq_N ns U := by
  intro w hw
  have h1 := List.all_eq_true.mp hn w hw
  have h2 := h w hw
  cases w <;> first | exact va_Nw.same rfl hv h2 | cases h1
/-- the words that every method is given -/
def pq_ws : List Cond := lw_tbl.filter goodWord
theorem pq_mem {w : Cond} (h : w ∈ lw_tbl) (hg : goodWord w = true) : w ∈ pq_ws := List.mem_filter.mpr ⟨h, hg⟩
theorem pq_memT {w : Cond} (i : Nat) (h : tables_1[i]? = some w) (hg : goodWord w = true) : w ∈ pq_ws := pq_mem (List.mem_append_right _ (List.mem_of_getElem? h)) hg
theorem pq_good {w : Cond} (h : w ∈ pq_ws) : GoodIn pq_ws (w :: pq_ws) := by
  intro v hv
  have hv : v ∈ pq_ws := by
    rcases List.mem_cons.mp hv with rfl | hv
    · exact h
    · exact hv
  exact ⟨hv, good_of_word (List.mem_filter.mp hv).2⟩
theorem pq_cwB {R : Room} {s : State} {args : Array Value} {own : String} {index maxL : Nat} {y : MethodName} {bytes : ByteArray} {ret : Option FieldType} {rm : Room} {mc ms : Nat} (n : Nat) (hw : ∀ w ∈ pq_ws, w.before args s = true)
    (h1 : Cond.methodLink own index y ∈ pq_ws) (h2 : Cond.initialized y.cls ∈ pq_ws) (h3 : Cond.code y bytes maxL ret ∈ pq_ws) (hrc : rm.cells = mc) (hrs : rm.slots = ms)
    (hd : y.cls ≠ "java/lang/invoke/MethodHandle" ∧ y.cls ≠ "java/lang/invoke/VarHandle" ∧ (parseMethodDescriptor y.desc).map (fun d => d.parameters.length) = some n) (hR : rm.frames + 1 ≤ R.frames ∧ 8 + (maxL + 11) + rm.locals ≤ R.locals) :
    CallB R s args own index y bytes maxL ret (Cond.code y bytes maxL ret :: pq_ws) rm mc ms n := callB_of n hw (pq_good h3) rfl hrc hrs (hw _ h2) (hw _ h1) hd hR
theorem pq_cnB {R : Room} {s : State} {args : Array Value} {own host : String} {index maxL : Nat} {y : MethodName} {bytes : ByteArray} {ret : Option FieldType} {rm : Room} {mc ms : Nat} (n : Nat) (hw : ∀ w ∈ pq_ws, w.before args s = true)
    (h1 : va_Nw (.methodLinkNest own index y host) s) (h2 : Cond.initialized y.cls ∈ pq_ws) (h3 : Cond.code y bytes maxL ret ∈ pq_ws) (hrc : rm.cells = mc) (hrs : rm.slots = ms)
    (hd : y.cls ≠ "java/lang/invoke/MethodHandle" ∧ y.cls ≠ "java/lang/invoke/VarHandle" ∧ (parseMethodDescriptor y.desc).map (fun d => d.parameters.length) = some n) (hR : rm.frames + 1 ≤ R.frames ∧ 8 + (maxL + 11) + rm.locals ≤ R.locals) :
    va_CN R s args own index y host bytes maxL ret (Cond.code y bytes maxL ret :: pq_ws) rm mc ms n := va_cnB n hw (pq_good h3) rfl hrc hrs h1 (hw _ h2) hd hR
def pq_nws : List Cond := tables_1.filter pq_nest
theorem pq_nmem {w : Cond} (i : Nat) (h : tables_1[i]? = some w) (hg : pq_nest w = true) : w ∈ pq_nws := List.mem_filter.mpr ⟨List.mem_of_getElem? h, hg⟩
theorem pq_nws_ok : pq_nws.all pq_nest = true := List.all_eq_true.mpr fun w hw => (List.mem_filter.mp hw).2
def pq_E (D : va_G) (cI cS : ClassId) (U : State) : Prop := va_K D vwCl [(cI, .int), (cS, .short)] U ∧ pq_N pq_nws U
theorem pq_E_warm {D : va_G} {cI cS : ClassId} {s U : State} (hW : s.WarmedH U.vm) (h : pq_E D cI cS s) : pq_E D cI cS U := ⟨va_K.moved hW.alike h.1, pq_N_warm pq_nws_ok hW h.2⟩
theorem pq_E_call {D : va_G} {cI cS : ClassId} {U : State} {g : JFrame} {mk : MethodId} {a : Array Value} (h : pq_E D cI cS U) : pq_E D cI cS (U.calling g mk a) := ⟨va_K.moved (u := U) (U := U.calling g mk a) (Vm.Alike.refl U.vm) h.1, pq_N_same (s := U) (U := U.calling g mk a) pq_nws_ok rfl h.2⟩
/-- a contract's start: the arguments, the world, the tables -/
abbrev pq_P (D : va_G) (cI cS : ClassId) (av : List Value) (win : va_W) (sz : Nat) : Array Value → State → Prop := va_Pc av (fun U => U.heap.size = sz ∧ va_P D vwCl win U.heap ∧ va_D (fun _ => True) win ∧ pq_E D cI cS U)
/-- the world behind it -/
abbrev pq_B (D : va_G) (win : va_W) (sz : Nat) {S : Type} (wout : S → va_W) (u : S) (t : State) : Prop := va_P D vwCl (wout u) t.heap ∧ va_D (va_A win sz) (wout u)
def pq_I (l : Launch) (y : MethodName) (ws : List Cond) (rm : Room) (D : va_G) (cI cS : ClassId) (av : List Value) (win : va_W) (fr : Int32) (wout : va_W) : Prop :=
  ∀ sz : Nat, Met l y ws rm (pq_P D cI cS av win sz) (va_Qi (fun (r : Int32) (_ : Unit) => r = fr) (pq_B D win sz (fun _ => wout)) (va_A win sz)) 0 0 (va_A win sz)
def pq_V (l : Launch) (y : MethodName) (ws : List Cond) (rm : Room) (D : va_G) (cI cS : ClassId) (av : List Value) (win : va_W) (wout : va_W) : Prop :=
  ∀ sz : Nat, Met l y ws rm (pq_P D cI cS av win sz) (va_Qv (fun (_ : Unit) => True) (pq_B D win sz (fun _ => wout)) (va_A win sz)) 0 0 (va_A win sz)
def pq_G (l : Launch) (y : MethodName) (ws : List Cond) (rm : Room) (D : va_G) (cI cS : ClassId) (av : List Value) (win : va_W) (fr : Int64) (wout : va_W) : Prop :=
  ∀ sz : Nat, Met l y ws rm (pq_P D cI cS av win sz) (va_Ql (fun (r : Int64) (_ : Unit) => r = fr) (pq_B D win sz (fun _ => wout)) (va_A win sz)) 0 0 (va_A win sz)
/-- a constructor: cells come -/
def pq_J (l : Launch) (y : MethodName) (ws : List Cond) (rm : Room) (D : va_G) (cI cS : ClassId) (av : List Value) (win : va_W) {S : Type} (wout : S → va_W) (mc ms : Nat) : Prop :=
  ∀ sz : Nat, Met l y ws rm (pq_P D cI cS av win sz) (va_Qv (fun (_ : S) => True) (pq_B D win sz wout) (va_A win sz)) mc ms (va_A win sz)
theorem pq_blind {D : va_G} {cI cS : ClassId} {av : List Value} {win : va_W} {sz : Nat} : FrameBlind (pq_P D cI cS av win sz) := by
  intro a U g mk q
  obtain ⟨q0, q1, q2, q3, q4⟩ := q
  exact ⟨q0, q1, q2, q3, pq_E_call q4⟩
theorem pq_preS {D : va_G} {cI cS : ClassId} {s : State} {H : Heap} {A : Nat → Prop} {wc : va_W} {As : List Value} (hE : pq_E D cI cS s) (hP : va_P D vwCl wc H) (hD : va_D A wc) : PreS s H (pq_P D cI cS As wc H.size) As :=
  ⟨pq_blind, fun U hU hW => ⟨rfl, by rw [hU], by rw [hU]; exact hP, hD.weaken (fun _ _ _ _ => trivial), pq_E_warm hW hE⟩⟩
theorem pq_preV {D : va_G} {cI cS : ClassId} {s : State} {H : Heap} {A : Nat → Prop} {wc : va_W} {As : List Value} {b ci : Nat} {C : String} {T : u_T} {N : Nat} {fs : List Value} (hE : pq_E D cI cS s) (hP : va_P D vwCl wc H) (hD : va_D A wc) (hc : vwCl[ci]? = some (C, T, N)) (q0 : Nat) (he : wc[q0]? = some (b, .inr (ci, fs))) : PreV s H C b (pq_P D cI cS (.ref b :: As) wc H.size) As :=
  ⟨pq_blind, va_recv hE.1 hP hc he, fun U hU hW => ⟨rfl, by rw [hU], by rw [hU]; exact hP, hD.weaken (fun _ _ _ _ => trivial), pq_E_warm hW hE⟩⟩
section PQC
variable {p : Program} {l : Launch} {e : Env} {R : Room} {s : State} {m : MethodId} {args : Array Value} {below : List Frame} {meth : Method} {c : Code} {H : Heap} {locs : List Loc} {cells slots : Nat} {Q : State → Prop}
/-- behind a call: what came back, beside the rest, in the order that is asked for -/
theorem pq_calli {D : va_G} {ws wc wr w1 : va_W} {A : Nat → Prop} {H0 : Heap} {mc ms pc : Nat} {ls : Array Slot} {st0 rest : List Value} {fr : Int32} {a : Array Value}
    (hP : va_P D vwCl ws H) (hD : va_D A ws) (hS : va_S A H0 H locs) (hA : ∀ q, H0.size ≤ q → A q)
    (isC isR : List Nat) (hC : isC.map (fun i => ws[i]?) = wc.map some) (hR : isR.map (fun i => ws[i]?) = wr.map some) (hn : va_nd isR = true) (hdis : ∀ i ∈ isR, i ∉ isC)
    (hr : va_Run p l e R s m args below meth c H locs cells slots mc ms (F0 m pc ls st0) rest (va_Qi (fun (r : Int32) (_ : Unit) => r = fr) (pq_B D wc H.size (fun _ => w1)) (va_A wc H.size) a) (va_A wc H.size))
    (kk : ∀ (H1 : Heap) (locs1 : List Loc), va_P D vwCl (wr ++ w1) H1 → va_D A (wr ++ w1) → va_S A H0 H1 locs1 → W p l e R s m args below meth c H1 locs1 (cells + mc) (slots + ms) Q (F0 m (pc + 3) ls (.int fr :: rest))) :
    W p l e R s m args below meth c H locs cells slots Q (F0 m pc ls st0) := by
  have hFc := va_free (wc := wc) hD hS hA isC hC
  refine va_calli hr hS (fun q _ h => hFc q h) hFc (fun r u t H1 locs1 ht hvm hp hB hz hk hS1 => ?_)
  obtain ⟨hP1, hD1⟩ := hB
  rw [ht] at hP1
  obtain ⟨hP2, hD2⟩ := va_join hP hD isC isR hC hR hn hdis hk hFc hP1 hD1
  have hp : r = fr := hp
  subst hp
  exact kk H1 locs1 hP2 hD2 hS1
theorem pq_calll {D : va_G} {ws wc wr w1 : va_W} {A : Nat → Prop} {H0 : Heap} {mc ms pc : Nat} {ls : Array Slot} {st0 rest : List Value} {fr : Int64} {a : Array Value}
    (hP : va_P D vwCl ws H) (hD : va_D A ws) (hS : va_S A H0 H locs) (hA : ∀ q, H0.size ≤ q → A q)
    (isC isR : List Nat) (hC : isC.map (fun i => ws[i]?) = wc.map some) (hR : isR.map (fun i => ws[i]?) = wr.map some) (hn : va_nd isR = true) (hdis : ∀ i ∈ isR, i ∉ isC)
    (hr : va_Run p l e R s m args below meth c H locs cells slots mc ms (F0 m pc ls st0) rest (va_Ql (fun (r : Int64) (_ : Unit) => r = fr) (pq_B D wc H.size (fun _ => w1)) (va_A wc H.size) a) (va_A wc H.size))
    (kk : ∀ (H1 : Heap) (locs1 : List Loc), va_P D vwCl (wr ++ w1) H1 → va_D A (wr ++ w1) → va_S A H0 H1 locs1 → W p l e R s m args below meth c H1 locs1 (cells + mc) (slots + ms) Q (F0 m (pc + 3) ls (.long fr :: rest))) :
    W p l e R s m args below meth c H locs cells slots Q (F0 m pc ls st0) := by
  have hFc := va_free (wc := wc) hD hS hA isC hC
  refine va_calll hr hS (fun q _ h => hFc q h) hFc (fun r u t H1 locs1 ht hvm hp hB hz hk hS1 => ?_)
  obtain ⟨hP1, hD1⟩ := hB
  rw [ht] at hP1
  obtain ⟨hP2, hD2⟩ := va_join hP hD isC isR hC hR hn hdis hk hFc hP1 hD1
  have hp : r = fr := hp
  subst hp
  exact kk H1 locs1 hP2 hD2 hS1
theorem pq_callv {D : va_G} {ws wc wr : va_W} {S : Type} {w1 : S → va_W} {A : Nat → Prop} {H0 : Heap} {mc ms pc : Nat} {ls : Array Slot} {st0 rest : List Value} {a : Array Value}
    (hP : va_P D vwCl ws H) (hD : va_D A ws) (hS : va_S A H0 H locs) (hA : ∀ q, H0.size ≤ q → A q)
    (isC isR : List Nat) (hC : isC.map (fun i => ws[i]?) = wc.map some) (hR : isR.map (fun i => ws[i]?) = wr.map some) (hn : va_nd isR = true) (hdis : ∀ i ∈ isR, i ∉ isC)
    (hr : va_Run p l e R s m args below meth c H locs cells slots mc ms (F0 m pc ls st0) rest (va_Qv (fun (_ : S) => True) (pq_B D wc H.size w1) (va_A wc H.size) a) (va_A wc H.size))
    (kk : ∀ (u : S) (H1 : Heap) (locs1 : List Loc), va_P D vwCl (wr ++ w1 u) H1 → va_D A (wr ++ w1 u) → va_S A H0 H1 locs1 → W p l e R s m args below meth c H1 locs1 (cells + mc) (slots + ms) Q (F0 m (pc + 3) ls rest)) :
    W p l e R s m args below meth c H locs cells slots Q (F0 m pc ls st0) := by
  have hFc := va_free (wc := wc) hD hS hA isC hC
  refine va_callv hr hS (fun q _ h => hFc q h) hFc (fun u t H1 locs1 ht hvm hp hB hz hk hS1 => ?_)
  obtain ⟨hP1, hD1⟩ := hB
  rw [ht] at hP1
  obtain ⟨hP2, hD2⟩ := va_join hP hD isC isR hC hR hn hdis hk hFc hP1 hD1
  exact kk u H1 locs1 hP2 hD2 hS1
end PQC
theorem pq_b0 : narrow .boolean (.int 0) = .int 0 := rfl
theorem pq_b1 : narrow .boolean (.int 1) = .int 1 := rfl
theorem pq_bif {c : Prop} [Decidable c] {a b : Int32} (ha : narrow .boolean (.int a) = .int a) (hb : narrow .boolean (.int b) = .int b) : narrow .boolean (.int (if c then a else b)) = .int (if c then a else b) := by
  split
  · exact ha
  · exact hb
theorem pq_bif1 {T : Type} {c : Prop} [Decidable c] {a b : Int32 × T} (ha : narrow .boolean (.int a.1) = .int a.1) (hb : narrow .boolean (.int b.1) = .int b.1) : narrow .boolean (.int (if c then a else b).1) = .int (if c then a else b).1 := by
  split
  · exact ha
  · exact hb
/-- a row of shorts: what is kept of any numbers -/
def pq_sh (g : Nat → Int32) : Nat → Int32 := fun j => (g j).toInt16.toInt32
theorem pq_sh_upd (g : Nat → Int32) (k : Nat) (x : Int32) : upd (pq_sh g) k (vp_nar .short x) = pq_sh (upd g k x) := by
  funext j
  simp only [upd, pq_sh]
  split
  · rw [vp_nar_short]
  · rfl
theorem pq_ne {x : Int32} {k : Int} {y : Int32} (hy : y.toInt = k) (h : ¬ x = y) : x.toInt ≠ k := fun e => h (Int32.toInt_inj.mp (e.trans hy.symm))
theorem pq_inB {x y : Int32} {N : Nat} (h0 : ¬ x < 0) (h1 : ¬ y ≤ x) (hy : y.toInt ≤ N) : vp_in x N := by
  rw [Int32.lt_iff_toInt_lt] at h0
  rw [Int32.le_iff_toInt_le] at h1
  have h2 : (0 : Int32).toInt = 0 := rfl
  exact vp_in_iff.mpr (by omega)
theorem pq_inL {x y : Int32} {N : Nat} (h0 : ¬ x < 0) (h1 : x < y) (hy : y.toInt ≤ N) : vp_in x N := by
  rw [Int32.lt_iff_toInt_lt] at h0 h1
  have h2 : (0 : Int32).toInt = 0 := rfl
  exact vp_in_iff.mpr (by omega)
theorem pq_div4 {d : Int32} (h1 : ¬ d < 0) (h2 : d < 128) : vp_in (d / 4) 32 := by
  obtain ⟨j, hj, rfl⟩ := nI_of h1
  have h3 : nI j < nI 128 := h2
  rw [nI_ltI hj (by omega)] at h3
  show vp_in (nI j / nI 4) 32
  rw [pk_div hj (by omega) (by omega)]
  exact vp_in_nI (by omega) (by omega)
