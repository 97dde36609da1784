theorem wd_264 : Cond.fieldLink RMo 31 RMo "labelLine" "[I" ∈ pq_ws := pq_memT 548 (by decide +kernel) (by decide +kernel)
theorem wd_265 : Cond.fieldLink RMo 68 RMo "many" "I" ∈ pq_ws := pq_memT 540 (by decide +kernel) (by decide +kernel)
theorem wd_266 : Cond.code yMo_begin cMo_begin 2 none ∈ pq_ws := pq_memT 690 (by decide +kernel) (by decide +kernel)
theorem wd_267 : Cond.methodLink RMo 124 yMo_begin ∈ pq_ws := pq_memT 687 (by decide +kernel) (by decide +kernel)
theorem wd_268 : Cond.instanceMethod yMo_begin ∈ pq_ws := pq_memT 689 (by decide +kernel) (by decide +kernel)
theorem wd_269 : Cond.selects RMo yMo_begin yMo_begin ∈ pq_ws := pq_mem (by decide +kernel) (by decide +kernel)
theorem wd_270 : Cond.code yMo_fits cMo_fits 6 (some .boolean) ∈ pq_ws := pq_memT 631 (by decide +kernel) (by decide +kernel)
theorem wd_271 : Cond.methodLink RMo 64 yMo_fits ∈ pq_ws := pq_memT 629 (by decide +kernel) (by decide +kernel)
theorem wd_272 : Cond.static yMo_fits ∈ pq_ws := pq_memT 630 (by decide +kernel) (by decide +kernel)
theorem wd_273 : Cond.fieldLink RMo 7 RMo "kind" "[I" ∈ pq_ws := pq_memT 541 (by decide +kernel) (by decide +kernel)
theorem wd_274 : Cond.fieldLink RMo 13 RMo "la" "[I" ∈ pq_ws := pq_memT 542 (by decide +kernel) (by decide +kernel)
theorem wd_275 : Cond.fieldLink RMo 16 RMo "lb" "[I" ∈ pq_ws := pq_memT 543 (by decide +kernel) (by decide +kernel)
theorem wd_276 : Cond.fieldLink RMo 19 RMo "lc" "[I" ∈ pq_ws := pq_memT 544 (by decide +kernel) (by decide +kernel)
def LMo_clear_12 : Nat → (Nat) → (Nat → Int32) → Nat × (Nat → Int32)
  | 0, i, mL => (i, mL)
  | n + 1, i, mL => if 16 ≤ (nI i) then (i, mL) else LMo_clear_12 n (i + 1) (upd mL (nI i).toNatClampNeg (-1))
set_option maxHeartbeats 4000000 in
set_option maxRecDepth 100000 in
theorem qMo_clear_12 {p : Program} {l : Launch} {e : Env} {R : Room} {s : State} {m : MethodId} {args : Array Value} {below : List Frame} {meth : Method} {c : Code} {Q : State → Prop} {A : Nat → Prop} (D : va_G) (ad : Nat → Nat) (cI cS : ClassId) (hx : p.tables.exec = Jvm.exec) (hb : c.code = cMo_clear) (hml : c.maxLocals = 2) (hw : ∀ w ∈ pq_ws, w.before args s = true) (hown : s.vm.findClass RMo = some m.cls) (hE : pq_E D cI cS s) (hA : ∀ q : Nat, s.heap.size ≤ q → A q) : ∀ (n : Nat) (i : Nat) (mq : Int32) (mn : Int32) (me : Int32) (mo : Int32) (mt : Int32) (mx : Int32) (mp : Int32) (mz : Int32) (mu : Int32) (vn : Int32) (vz : Int32) (vc : Int32) (vv : Int32) (vp : Int32) (ve : Int32) (mK : Nat → Int32) (mA : Nat → Int32) (mB : Nat → Int32) (mC : Nat → Int32) (mf : Nat → Int32) (ml : Nat → Int32) (mc : Nat → Int32) (mL : Nat → Int32) (md : Nat → Int32) (mi : Nat → Int32) (mr : Nat → Int32) (mw : Nat → Int32) (ls : Array Slot) (H : Heap) (locs : List Loc), (i ≤ 16) → (16 - i) < n → lv_has ls 2 [(0, .ref (ad 17)), (1, .int (nI i))] → va_P D vwCl (wM ad cI cS mq mn me mo mt mx mp mz mu vn vz vc vv vp ve mK mA mB mC mf ml mc mL md mi mr mw) H → va_D A (wM ad cI cS mq mn me mo mt mx mp mz mu vn vz vc vv vp ve mK mA mB mC mf ml mc mL md mi mr mw) → va_S A s.heap H locs → (∀ (ls : Array Slot) (H : Heap) (locs : List Loc), lv_has ls 2 [(0, .ref (ad 17)), (1, .int (nI ((LMo_clear_12 n i mL).1)))] → va_P D vwCl (wM ad cI cS mq mn me mo mt mx mp mz mu vn vz vc vv vp ve mK mA mB mC mf ml mc ((LMo_clear_12 n i mL).2) md mi mr mw) H → va_D A (wM ad cI cS mq mn me mo mt mx mp mz mu vn vz vc vv vp ve mK mA mB mC mf ml mc ((LMo_clear_12 n i mL).2) md mi mr mw) → va_S A s.heap H locs → W p l e R s m args below meth c H locs 0 0 Q (F0 m 31 ls [])) → W p l e R s m args below meth c H locs 0 0 Q (F0 m 12 ls []) := by
  intro n
  induction n with
  | zero =>
    intro i mq mn me mo mt mx mp mz mu vn vz vc vv vp ve mK mA mB mC mf ml mc mL md mi mr mw ls H locs hi hm hl hP hD hS kk
    exact absurd hm (Nat.not_lt_zero _)
  | succ n ih =>
    intro i mq mn me mo mt mx mp mz mu vn vz vc vv vp ve mK mA mB mC mf ml mc mL md mi mr mw ls H locs hi hm hl hP hD hS kk
    refine lv_iload_n hx hb dMo_clear_12 rfl (lv_at hl 1 rfl) ?_
    refine lv_bipush (v := 16) hx hb dMo_clear_13 (by first | rfl | decide) ?_
    refine lv_icmp_ge (tgt := 31) hx hb dMo_clear_15 (by decide) (fun h1 => ?_) (fun h1 => ?_)
    · have e9 : LMo_clear_12 (n + 1) i mL = (i, mL) := by simp only [LMo_clear_12, if_pos h1]
      rw [e9] at kk
      exact kk ls H locs (lv_sub hl [0, 1] rfl) hP hD hS
    · refine lv_aload_n hx hb dMo_clear_18 rfl (lv_at hl 0 rfl) ?_
      refine va_get (D := D) (ci := 5) (v := .ref (ad 25)) (C := RMo) (T := TMo) (N := 27) hx hb hw pinMo hown hE.1 hP 0 rfl rfl 9 (by decide) (hw _ wd_264) (fun _ h9 => h9) rfl dMo_clear_19 ?_
      refine lv_iload_n hx hb dMo_clear_22 rfl (lv_at hl 1 rfl) ?_
      refine lv_iconst (v := (-1)) hx hb dMo_clear_23 (by first | rfl | decide) ?_
      refine va_iast hx hb hE.1 hP hD hS 8 0 rfl rfl (vp_in_nI (pq_lt (c := 16) (j := i) rfl (by omega) (by omega) (by assumption)) (by decide)) dMo_clear_24 (fun H locs hP hD hS => ?_)
      have hP : va_P D vwCl (wM ad cI cS mq mn me mo mt mx mp mz mu vn vz vc vv vp ve mK mA mB mC mf ml mc (upd mL (nI i).toNatClampNeg (-1)) md mi mr mw) H := hP
      have hD : va_D _ (wM ad cI cS mq mn me mo mt mx mp mz mu vn vz vc vv vp ve mK mA mB mC mf ml mc (upd mL (nI i).toNatClampNeg (-1)) md mi mr mw) := hD
      refine lv_iinc (k := 1) (v := (nI i) + 1) (lv' := [(1, .int ((nI i) + 1)), (0, .ref (ad 17))]) hx hb dMo_clear_25 hl rfl (by first | rfl | decide) (by decide) rfl (fun ls hl => ?_)
      refine lv_goto (tgt := 12) hx hb dMo_clear_28 (by decide) ?_
      have e9 : LMo_clear_12 (n + 1) i mL = LMo_clear_12 n (i + 1) (upd mL (nI i).toNatClampNeg (-1)) := by simp only [LMo_clear_12, if_neg h1]
      rw [e9] at kk
      rw [nI_1] at hl
      exact ih (i + 1) mq mn me mo mt mx mp mz mu vn vz vc vv vp ve mK mA mB mC mf ml mc (upd mL (nI i).toNatClampNeg (-1)) md mi mr mw ls H locs (by have := pq_lt (c := 16) (j := i) rfl (by omega) (by omega) (by assumption); omega) (by have := pq_lt (c := 16) (j := i) rfl (by omega) (by omega) (by assumption); omega) (lv_sub hl [1, 0] rfl) hP hD hS kk
def FMo_clear (mL : Nat → Int32) : Int32 × Int32 × (Nat → Int32) := (0, 0, (LMo_clear_12 17 0 mL).2)
set_option maxHeartbeats 4000000 in
set_option maxRecDepth 100000 in
theorem k_Mo_clear (l : Launch) (D : va_G) (ad : Nat → Nat) (cI cS : ClassId) (mq : Int32) (mn : Int32) (me : Int32) (mo : Int32) (mt : Int32) (mx : Int32) (mp : Int32) (mz : Int32) (mu : Int32) (vn : Int32) (vz : Int32) (vc : Int32) (vv : Int32) (vp : Int32) (ve : Int32) (mK : Nat → Int32) (mA : Nat → Int32) (mB : Nat → Int32) (mC : Nat → Int32) (mf : Nat → Int32) (ml : Nat → Int32) (mc : Nat → Int32) (mL : Nat → Int32) (md : Nat → Int32) (mi : Nat → Int32) (mr : Nat → Int32) (mw : Nat → Int32) : pq_V l yMo_clear (.code yMo_clear cMo_clear 2 none :: pq_ws) { frames := 0, cells := 0, slots := 0, locals := 0 } D cI cS [.ref (ad 17)] (wM ad cI cS mq mn me mo mt mx mp mz mu vn vz vc vv vp ve mK mA mB mC mf ml mc mL md mi mr mw) (wM ad cI cS ((FMo_clear mL).1) ((FMo_clear mL).2.1) me mo mt mx mp mz mu vn vz vc vv vp ve mK mA mB mC mf ml mc ((FMo_clear mL).2.2) md mi mr mw) := by
  intro sz
  refine Met.ofW (cc := cMo_clear) (maxL := 2) (ret := none) (by decide) rfl ?_
  intro p e s m args below meth c s₁ B hml hv
  obtain ⟨rfl, hsz, hP, hD0, hE⟩ := hv
  have hx := B.exec
  have hb := B.bytes
  have hr := B.returns
  have hts := atoms_spec (ws := (.code yMo_clear cMo_clear 2 none :: pq_ws : List Cond)) B.pre
  have hw : ∀ w ∈ pq_ws, w.before _ s = true := fun w h => hts w (List.mem_cons_of_mem _ h)
  have hown : s.vm.findClass RMo = some m.cls := findClass_of_methodNamed B.named
  have hlocks := B.notSynchronized
  subst hsz
  have hD := hD0.self (sz := s.heap.size)
  have hA : ∀ q : Nat, s.heap.size ≤ q → va_A (wM ad cI cS mq mn me mo mt mx mp mz mu vn vz vc vv vp ve mK mA mB mC mf ml mc mL md mi mr mw) s.heap.size q := fun q h => Or.inr h
  have hS : va_S (va_A (wM ad cI cS mq mn me mo mt mx mp mz mu vn vz vc vv vp ve mK mA mB mC mf ml mc mL md mi mr mw) s.heap.size) s.heap s.heap [] := va_S.rf
  have hl := lv_entry ([.ref (ad 17)] : List Value) (n := 2) (Nat.le_of_ble_eq_true rfl)
  rw [lg_entry_eq]
  generalize (lg_sl ([.ref (ad 17)] : List Value) ++ List.replicate (2 - (lg_sl ([.ref (ad 17)] : List Value)).length) Slot.unset).toArray = ls at hl ⊢
  have hl : lv_has ls 2 [(0, .ref (ad 17))] := hl
  refine lv_aload_n hx hb dMo_clear_0 rfl (lv_at hl 0 rfl) ?_
  refine lv_iconst (v := 0) hx hb dMo_clear_1 (by first | rfl | decide) ?_
  refine va_put (D := D) (ci := 5) (v := .int 0) (ty := .int) (C := RMo) (T := TMo) (N := 27) hx hb hw pinMo tyMo tyMo_ok nmMo hown hE.1 hP hD hS 0 rfl rfl 0 (by decide) (hw _ wd_184) (fun _ h9 => h9) rfl (by decide +kernel) rfl rfl (Nat.le_of_ble_eq_true rfl) dMo_clear_2 (fun H locs hP hD hS => ?_)
  have hP : va_P D vwCl (wM ad cI cS 0 mn me mo mt mx mp mz mu vn vz vc vv vp ve mK mA mB mC mf ml mc mL md mi mr mw) H := hP
  have hD : va_D _ (wM ad cI cS 0 mn me mo mt mx mp mz mu vn vz vc vv vp ve mK mA mB mC mf ml mc mL md mi mr mw) := hD
  refine lv_aload_n hx hb dMo_clear_5 rfl (lv_at hl 0 rfl) ?_
  refine lv_iconst (v := 0) hx hb dMo_clear_6 (by first | rfl | decide) ?_
  refine va_put (D := D) (ci := 5) (v := .int 0) (ty := .int) (C := RMo) (T := TMo) (N := 27) hx hb hw pinMo tyMo tyMo_ok nmMo hown hE.1 hP hD hS 0 rfl rfl 1 (by decide) (hw _ wd_265) (fun _ h9 => h9) rfl (by decide +kernel) rfl rfl (Nat.le_of_ble_eq_true rfl) dMo_clear_7 (fun H locs hP hD hS => ?_)
  have hP : va_P D vwCl (wM ad cI cS 0 0 me mo mt mx mp mz mu vn vz vc vv vp ve mK mA mB mC mf ml mc mL md mi mr mw) H := hP
  have hD : va_D _ (wM ad cI cS 0 0 me mo mt mx mp mz mu vn vz vc vv vp ve mK mA mB mC mf ml mc mL md mi mr mw) := hD
  refine lv_iconst (v := 0) hx hb dMo_clear_10 (by first | rfl | decide) ?_
  refine lv_istore_n (lv' := [(1, .int 0), (0, .ref (ad 17))]) hx hb dMo_clear_11 rfl hl (by decide) rfl (fun ls hl => ?_)
  refine qMo_clear_12 D ad cI cS hx hb hml hw hown hE hA 17 0 0 0 me mo mt mx mp mz mu vn vz vc vv vp ve mK mA mB mC mf ml mc mL md mi mr mw ls H locs (Nat.zero_le _) (by decide) (lv_sub hl [1, 0] rfl) hP hD hS (fun ls H locs hl hP hD hS => ?_)
  have hP : va_P D vwCl (wM ad cI cS 0 0 me mo mt mx mp mz mu vn vz vc vv vp ve mK mA mB mC mf ml mc ((LMo_clear_12 17 0 mL).2) md mi mr mw) H := hP
  have hD : va_D _ (wM ad cI cS 0 0 me mo mt mx mp mz mu vn vz vc vv vp ve mK mA mB mC mf ml mc ((LMo_clear_12 17 0 mL).2) md mi mr mw) := hD
  have e9 : FMo_clear mL = (0, 0, (LMo_clear_12 17 0 mL).2) := rfl
  exact W.vret hx hb hr (fun t ht hW => ⟨⟨(), rfl, trivial, by rw [e9, ht]; exact hP, by rw [e9]; exact hD⟩, hS.F ht⟩) hS.2.2 dMo_clear_31
def LMo_begin_2 : Nat → (Nat) → (Nat → Int32) → Nat × (Nat → Int32)
  | 0, i, mr => (i, mr)
  | n + 1, i, mr => if 8 ≤ (nI i) then (i, mr) else LMo_begin_2 n (i + 1) (upd mr (nI i).toNatClampNeg 0)
set_option maxHeartbeats 4000000 in
set_option maxRecDepth 100000 in
theorem qMo_begin_2 {p : Program} {l : Launch} {e : Env} {R : Room} {s : State} {m : MethodId} {args : Array Value} {below : List Frame} {meth : Method} {c : Code} {Q : State → Prop} {A : Nat → Prop} (D : va_G) (ad : Nat → Nat) (cI cS : ClassId) (hx : p.tables.exec = Jvm.exec) (hb : c.code = cMo_begin) (hml : c.maxLocals = 2) (hw : ∀ w ∈ pq_ws, w.before args s = true) (hown : s.vm.findClass RMo = some m.cls) (hE : pq_E D cI cS s) (hA : ∀ q : Nat, s.heap.size ≤ q → A q) : ∀ (n : Nat) (i : Nat) (mq : Int32) (mn : Int32) (me : Int32) (mo : Int32) (mt : Int32) (mx : Int32) (mp : Int32) (mz : Int32) (mu : Int32) (vn : Int32) (vz : Int32) (vc : Int32) (vv : Int32) (vp : Int32) (ve : Int32) (mK : Nat → Int32) (mA : Nat → Int32) (mB : Nat → Int32) (mC : Nat → Int32) (mf : Nat → Int32) (ml : Nat → Int32) (mc : Nat → Int32) (mL : Nat → Int32) (md : Nat → Int32) (mi : Nat → Int32) (mr : Nat → Int32) (mw : Nat → Int32) (ls : Array Slot) (H : Heap) (locs : List Loc), (i ≤ 8) → (8 - i) < n → lv_has ls 2 [(0, .ref (ad 17)), (1, .int (nI i))] → va_P D vwCl (wM ad cI cS mq mn me mo mt mx mp mz mu vn vz vc vv vp ve mK mA mB mC mf ml mc mL md mi mr mw) H → va_D A (wM ad cI cS mq mn me mo mt mx mp mz mu vn vz vc vv vp ve mK mA mB mC mf ml mc mL md mi mr mw) → va_S A s.heap H locs → (∀ (ls : Array Slot) (H : Heap) (locs : List Loc), lv_has ls 2 [(0, .ref (ad 17)), (1, .int (nI ((LMo_begin_2 n i mr).1)))] → va_P D vwCl (wM ad cI cS mq mn me mo mt mx mp mz mu vn vz vc vv vp ve mK mA mB mC mf ml mc mL md mi ((LMo_begin_2 n i mr).2) mw) H → va_D A (wM ad cI cS mq mn me mo mt mx mp mz mu vn vz vc vv vp ve mK mA mB mC mf ml mc mL md mi ((LMo_begin_2 n i mr).2) mw) → va_S A s.heap H locs → W p l e R s m args below meth c H locs 0 0 Q (F0 m 21 ls [])) → W p l e R s m args below meth c H locs 0 0 Q (F0 m 2 ls []) := by
  intro n
  induction n with
  | zero =>
    intro i mq mn me mo mt mx mp mz mu vn vz vc vv vp ve mK mA mB mC mf ml mc mL md mi mr mw ls H locs hi hm hl hP hD hS kk
    exact absurd hm (Nat.not_lt_zero _)
  | succ n ih =>
    intro i mq mn me mo mt mx mp mz mu vn vz vc vv vp ve mK mA mB mC mf ml mc mL md mi mr mw ls H locs hi hm hl hP hD hS kk
    refine lv_iload_n hx hb dMo_begin_2 rfl (lv_at hl 1 rfl) ?_
    refine lv_bipush (v := 8) hx hb dMo_begin_3 (by first | rfl | decide) ?_
    refine lv_icmp_ge (tgt := 21) hx hb dMo_begin_5 (by decide) (fun h1 => ?_) (fun h1 => ?_)
    · have e9 : LMo_begin_2 (n + 1) i mr = (i, mr) := by simp only [LMo_begin_2, if_pos h1]
      rw [e9] at kk
      exact kk ls H locs (lv_sub hl [0, 1] rfl) hP hD hS
    · refine lv_aload_n hx hb dMo_begin_8 rfl (lv_at hl 0 rfl) ?_
      refine va_get (D := D) (ci := 5) (v := .ref (ad 28)) (C := RMo) (T := TMo) (N := 27) hx hb hw pinMo hown hE.1 hP 0 rfl rfl 19 (by decide) (hw _ wd_213) (fun _ h9 => h9) rfl dMo_begin_9 ?_
      refine lv_iload_n hx hb dMo_begin_12 rfl (lv_at hl 1 rfl) ?_
      refine lv_iconst (v := 0) hx hb dMo_begin_13 (by first | rfl | decide) ?_
      refine va_iast hx hb hE.1 hP hD hS 11 0 rfl rfl (vp_in_nI (pq_lt (c := 8) (j := i) rfl (by omega) (by omega) (by assumption)) (by decide)) dMo_begin_14 (fun H locs hP hD hS => ?_)
      have hP : va_P D vwCl (wM ad cI cS mq mn me mo mt mx mp mz mu vn vz vc vv vp ve mK mA mB mC mf ml mc mL md mi (upd mr (nI i).toNatClampNeg 0) mw) H := hP
      have hD : va_D _ (wM ad cI cS mq mn me mo mt mx mp mz mu vn vz vc vv vp ve mK mA mB mC mf ml mc mL md mi (upd mr (nI i).toNatClampNeg 0) mw) := hD
      refine lv_iinc (k := 1) (v := (nI i) + 1) (lv' := [(1, .int ((nI i) + 1)), (0, .ref (ad 17))]) hx hb dMo_begin_15 hl rfl (by first | rfl | decide) (by decide) rfl (fun ls hl => ?_)
      refine lv_goto (tgt := 2) hx hb dMo_begin_18 (by decide) ?_
      have e9 : LMo_begin_2 (n + 1) i mr = LMo_begin_2 n (i + 1) (upd mr (nI i).toNatClampNeg 0) := by simp only [LMo_begin_2, if_neg h1]
      rw [e9] at kk
      rw [nI_1] at hl
      exact ih (i + 1) mq mn me mo mt mx mp mz mu vn vz vc vv vp ve mK mA mB mC mf ml mc mL md mi (upd mr (nI i).toNatClampNeg 0) mw ls H locs (by have := pq_lt (c := 8) (j := i) rfl (by omega) (by omega) (by assumption); omega) (by have := pq_lt (c := 8) (j := i) rfl (by omega) (by omega) (by assumption); omega) (lv_sub hl [1, 0] rfl) hP hD hS kk
def LMo_begin_23 : Nat → (Nat) → (Nat → Int32) → Nat × (Nat → Int32)
  | 0, i, mw => (i, mw)
  | n + 1, i, mw => if 32 ≤ (nI i) then (i, mw) else LMo_begin_23 n (i + 1) (upd mw (nI i).toNatClampNeg 0)
set_option maxHeartbeats 4000000 in
set_option maxRecDepth 100000 in
theorem qMo_begin_23 {p : Program} {l : Launch} {e : Env} {R : Room} {s : State} {m : MethodId} {args : Array Value} {below : List Frame} {meth : Method} {c : Code} {Q : State → Prop} {A : Nat → Prop} (D : va_G) (ad : Nat → Nat) (cI cS : ClassId) (hx : p.tables.exec = Jvm.exec) (hb : c.code = cMo_begin) (hml : c.maxLocals = 2) (hw : ∀ w ∈ pq_ws, w.before args s = true) (hown : s.vm.findClass RMo = some m.cls) (hE : pq_E D cI cS s) (hA : ∀ q : Nat, s.heap.size ≤ q → A q) : ∀ (n : Nat) (i : Nat) (mq : Int32) (mn : Int32) (me : Int32) (mo : Int32) (mt : Int32) (mx : Int32) (mp : Int32) (mz : Int32) (mu : Int32) (vn : Int32) (vz : Int32) (vc : Int32) (vv : Int32) (vp : Int32) (ve : Int32) (mK : Nat → Int32) (mA : Nat → Int32) (mB : Nat → Int32) (mC : Nat → Int32) (mf : Nat → Int32) (ml : Nat → Int32) (mc : Nat → Int32) (mL : Nat → Int32) (md : Nat → Int32) (mi : Nat → Int32) (mr : Nat → Int32) (mw : Nat → Int32) (ls : Array Slot) (H : Heap) (locs : List Loc), (i ≤ 32) → (32 - i) < n → lv_has ls 2 [(0, .ref (ad 17)), (1, .int (nI i))] → va_P D vwCl (wM ad cI cS mq mn me mo mt mx mp mz mu vn vz vc vv vp ve mK mA mB mC mf ml mc mL md mi mr mw) H → va_D A (wM ad cI cS mq mn me mo mt mx mp mz mu vn vz vc vv vp ve mK mA mB mC mf ml mc mL md mi mr mw) → va_S A s.heap H locs → (∀ (ls : Array Slot) (H : Heap) (locs : List Loc), lv_has ls 2 [(0, .ref (ad 17)), (1, .int (nI ((LMo_begin_23 n i mw).1)))] → va_P D vwCl (wM ad cI cS mq mn me mo mt mx mp mz mu vn vz vc vv vp ve mK mA mB mC mf ml mc mL md mi mr ((LMo_begin_23 n i mw).2)) H → va_D A (wM ad cI cS mq mn me mo mt mx mp mz mu vn vz vc vv vp ve mK mA mB mC mf ml mc mL md mi mr ((LMo_begin_23 n i mw).2)) → va_S A s.heap H locs → W p l e R s m args below meth c H locs 0 0 Q (F0 m 42 ls [])) → W p l e R s m args below meth c H locs 0 0 Q (F0 m 23 ls []) := by
  intro n
  induction n with
  | zero =>
    intro i mq mn me mo mt mx mp mz mu vn vz vc vv vp ve mK mA mB mC mf ml mc mL md mi mr mw ls H locs hi hm hl hP hD hS kk
    exact absurd hm (Nat.not_lt_zero _)
  | succ n ih =>
    intro i mq mn me mo mt mx mp mz mu vn vz vc vv vp ve mK mA mB mC mf ml mc mL md mi mr mw ls H locs hi hm hl hP hD hS kk
    refine lv_iload_n hx hb dMo_begin_23 rfl (lv_at hl 1 rfl) ?_
    refine lv_bipush (v := 32) hx hb dMo_begin_24 (by first | rfl | decide) ?_
    refine lv_icmp_ge (tgt := 42) hx hb dMo_begin_26 (by decide) (fun h1 => ?_) (fun h1 => ?_)
    · have e9 : LMo_begin_23 (n + 1) i mw = (i, mw) := by simp only [LMo_begin_23, if_pos h1]
      rw [e9] at kk
      exact kk ls H locs (lv_sub hl [0, 1] rfl) hP hD hS
    · refine lv_aload_n hx hb dMo_begin_29 rfl (lv_at hl 0 rfl) ?_
      refine va_get (D := D) (ci := 5) (v := .ref (ad 29)) (C := RMo) (T := TMo) (N := 27) hx hb hw pinMo hown hE.1 hP 0 rfl rfl 20 (by decide) (hw _ wd_222) (fun _ h9 => h9) rfl dMo_begin_30 ?_
      refine lv_iload_n hx hb dMo_begin_33 rfl (lv_at hl 1 rfl) ?_
      refine lv_iconst (v := 0) hx hb dMo_begin_34 (by first | rfl | decide) ?_
      refine va_iast hx hb hE.1 hP hD hS 12 0 rfl rfl (vp_in_nI (pq_lt (c := 32) (j := i) rfl (by omega) (by omega) (by assumption)) (by decide)) dMo_begin_35 (fun H locs hP hD hS => ?_)
      have hP : va_P D vwCl (wM ad cI cS mq mn me mo mt mx mp mz mu vn vz vc vv vp ve mK mA mB mC mf ml mc mL md mi mr (upd mw (nI i).toNatClampNeg 0)) H := hP
      have hD : va_D _ (wM ad cI cS mq mn me mo mt mx mp mz mu vn vz vc vv vp ve mK mA mB mC mf ml mc mL md mi mr (upd mw (nI i).toNatClampNeg 0)) := hD
      refine lv_iinc (k := 1) (v := (nI i) + 1) (lv' := [(1, .int ((nI i) + 1)), (0, .ref (ad 17))]) hx hb dMo_begin_36 hl rfl (by first | rfl | decide) (by decide) rfl (fun ls hl => ?_)
      refine lv_goto (tgt := 23) hx hb dMo_begin_39 (by decide) ?_
      have e9 : LMo_begin_23 (n + 1) i mw = LMo_begin_23 n (i + 1) (upd mw (nI i).toNatClampNeg 0) := by simp only [LMo_begin_23, if_neg h1]
      rw [e9] at kk
      rw [nI_1] at hl
      exact ih (i + 1) mq mn me mo mt mx mp mz mu vn vz vc vv vp ve mK mA mB mC mf ml mc mL md mi mr (upd mw (nI i).toNatClampNeg 0) ls H locs (by have := pq_lt (c := 32) (j := i) rfl (by omega) (by omega) (by assumption); omega) (by have := pq_lt (c := 32) (j := i) rfl (by omega) (by omega) (by assumption); omega) (lv_sub hl [1, 0] rfl) hP hD hS kk
def FMo_begin (mr : Nat → Int32) (mw : Nat → Int32) : (Nat → Int32) × (Nat → Int32) × Int32 × Int32 × Int32 × Int32 × Int32 × Int32 := ((LMo_begin_2 9 0 mr).2, (LMo_begin_23 33 0 mw).2, 0, 0, 0, 0, 0, 0)
set_option maxHeartbeats 4000000 in
set_option maxRecDepth 100000 in
theorem k_Mo_begin (l : Launch) (D : va_G) (ad : Nat → Nat) (cI cS : ClassId) (mq : Int32) (mn : Int32) (me : Int32) (mo : Int32) (mt : Int32) (mx : Int32) (mp : Int32) (mz : Int32) (mu : Int32) (vn : Int32) (vz : Int32) (vc : Int32) (vv : Int32) (vp : Int32) (ve : Int32) (mK : Nat → Int32) (mA : Nat → Int32) (mB : Nat → Int32) (mC : Nat → Int32) (mf : Nat → Int32) (ml : Nat → Int32) (mc : Nat → Int32) (mL : Nat → Int32) (md : Nat → Int32) (mi : Nat → Int32) (mr : Nat → Int32) (mw : Nat → Int32) : pq_V l yMo_begin (.code yMo_begin cMo_begin 2 none :: pq_ws) { frames := 0, cells := 0, slots := 0, locals := 0 } D cI cS [.ref (ad 17)] (wM ad cI cS mq mn me mo mt mx mp mz mu vn vz vc vv vp ve mK mA mB mC mf ml mc mL md mi mr mw) (wM ad cI cS mq mn me mo mt mx mp mz mu ((FMo_begin mr mw).2.2.1) ((FMo_begin mr mw).2.2.2.1) ((FMo_begin mr mw).2.2.2.2.1) ((FMo_begin mr mw).2.2.2.2.2.1) ((FMo_begin mr mw).2.2.2.2.2.2.1) ((FMo_begin mr mw).2.2.2.2.2.2.2) mK mA mB mC mf ml mc mL md mi ((FMo_begin mr mw).1) ((FMo_begin mr mw).2.1)) := by
  intro sz
  refine Met.ofW (cc := cMo_begin) (maxL := 2) (ret := none) (by decide) rfl ?_
  intro p e s m args below meth c s₁ B hml hv
  obtain ⟨rfl, hsz, hP, hD0, hE⟩ := hv
  have hx := B.exec
  have hb := B.bytes
  have hr := B.returns
  have hts := atoms_spec (ws := (.code yMo_begin cMo_begin 2 none :: pq_ws : List Cond)) B.pre
  have hw : ∀ w ∈ pq_ws, w.before _ s = true := fun w h => hts w (List.mem_cons_of_mem _ h)
  have hown : s.vm.findClass RMo = some m.cls := findClass_of_methodNamed B.named
  have hlocks := B.notSynchronized
  subst hsz
  have hD := hD0.self (sz := s.heap.size)
  have hA : ∀ q : Nat, s.heap.size ≤ q → va_A (wM ad cI cS mq mn me mo mt mx mp mz mu vn vz vc vv vp ve mK mA mB mC mf ml mc mL md mi mr mw) s.heap.size q := fun q h => Or.inr h
  have hS : va_S (va_A (wM ad cI cS mq mn me mo mt mx mp mz mu vn vz vc vv vp ve mK mA mB mC mf ml mc mL md mi mr mw) s.heap.size) s.heap s.heap [] := va_S.rf
  have hl := lv_entry ([.ref (ad 17)] : List Value) (n := 2) (Nat.le_of_ble_eq_true rfl)
  rw [lg_entry_eq]
  generalize (lg_sl ([.ref (ad 17)] : List Value) ++ List.replicate (2 - (lg_sl ([.ref (ad 17)] : List Value)).length) Slot.unset).toArray = ls at hl ⊢
  have hl : lv_has ls 2 [(0, .ref (ad 17))] := hl
  refine lv_iconst (v := 0) hx hb dMo_begin_0 (by first | rfl | decide) ?_
  refine lv_istore_n (lv' := [(1, .int 0), (0, .ref (ad 17))]) hx hb dMo_begin_1 rfl hl (by decide) rfl (fun ls hl => ?_)
  refine qMo_begin_2 D ad cI cS hx hb hml hw hown hE hA 9 0 mq mn me mo mt mx mp mz mu vn vz vc vv vp ve mK mA mB mC mf ml mc mL md mi mr mw ls s.heap [] (Nat.zero_le _) (by decide) (lv_sub hl [1, 0] rfl) hP hD hS (fun ls H locs hl hP hD hS => ?_)
  have hP : va_P D vwCl (wM ad cI cS mq mn me mo mt mx mp mz mu vn vz vc vv vp ve mK mA mB mC mf ml mc mL md mi ((LMo_begin_2 9 0 mr).2) mw) H := hP
  have hD : va_D _ (wM ad cI cS mq mn me mo mt mx mp mz mu vn vz vc vv vp ve mK mA mB mC mf ml mc mL md mi ((LMo_begin_2 9 0 mr).2) mw) := hD
  refine lv_iconst (v := 0) hx hb dMo_begin_21 (by first | rfl | decide) ?_
  refine lv_istore_n (lv' := [(1, .int 0), (0, .ref (ad 17))]) hx hb dMo_begin_22 rfl hl (by decide) rfl (fun ls hl => ?_)
  refine qMo_begin_23 D ad cI cS hx hb hml hw hown hE hA 33 0 mq mn me mo mt mx mp mz mu vn vz vc vv vp ve mK mA mB mC mf ml mc mL md mi ((LMo_begin_2 9 0 mr).2) mw ls H locs (Nat.zero_le _) (by decide) (lv_sub hl [1, 0] rfl) hP hD hS (fun ls H locs hl hP hD hS => ?_)
  have hP : va_P D vwCl (wM ad cI cS mq mn me mo mt mx mp mz mu vn vz vc vv vp ve mK mA mB mC mf ml mc mL md mi ((LMo_begin_2 9 0 mr).2) ((LMo_begin_23 33 0 mw).2)) H := hP
  have hD : va_D _ (wM ad cI cS mq mn me mo mt mx mp mz mu vn vz vc vv vp ve mK mA mB mC mf ml mc mL md mi ((LMo_begin_2 9 0 mr).2) ((LMo_begin_23 33 0 mw).2)) := hD
  refine lv_aload_n hx hb dMo_begin_42 rfl (lv_at hl 0 rfl) ?_
  refine lv_iconst (v := 0) hx hb dMo_begin_43 (by first | rfl | decide) ?_
  refine va_put (D := D) (ci := 5) (v := .int 0) (ty := .boolean) (C := RMo) (T := TMo) (N := 27) hx hb hw pinMo tyMo tyMo_ok nmMo hown hE.1 hP hD hS 0 rfl rfl 21 (by decide) (hw _ wd_201) (fun _ h9 => h9) rfl (by decide +kernel) rfl rfl (Nat.le_of_ble_eq_true rfl) dMo_begin_44 (fun H locs hP hD hS => ?_)
  have hP : va_P D vwCl (wM ad cI cS mq mn me mo mt mx mp mz mu 0 vz vc vv vp ve mK mA mB mC mf ml mc mL md mi ((LMo_begin_2 9 0 mr).2) ((LMo_begin_23 33 0 mw).2)) H := hP
  have hD : va_D _ (wM ad cI cS mq mn me mo mt mx mp mz mu 0 vz vc vv vp ve mK mA mB mC mf ml mc mL md mi ((LMo_begin_2 9 0 mr).2) ((LMo_begin_23 33 0 mw).2)) := hD
  refine lv_aload_n hx hb dMo_begin_47 rfl (lv_at hl 0 rfl) ?_
  refine lv_iconst (v := 0) hx hb dMo_begin_48 (by first | rfl | decide) ?_
  refine va_put (D := D) (ci := 5) (v := .int 0) (ty := .boolean) (C := RMo) (T := TMo) (N := 27) hx hb hw pinMo tyMo tyMo_ok nmMo hown hE.1 hP hD hS 0 rfl rfl 22 (by decide) (hw _ wd_202) (fun _ h9 => h9) rfl (by decide +kernel) rfl rfl (Nat.le_of_ble_eq_true rfl) dMo_begin_49 (fun H locs hP hD hS => ?_)
  have hP : va_P D vwCl (wM ad cI cS mq mn me mo mt mx mp mz mu 0 0 vc vv vp ve mK mA mB mC mf ml mc mL md mi ((LMo_begin_2 9 0 mr).2) ((LMo_begin_23 33 0 mw).2)) H := hP
  have hD : va_D _ (wM ad cI cS mq mn me mo mt mx mp mz mu 0 0 vc vv vp ve mK mA mB mC mf ml mc mL md mi ((LMo_begin_2 9 0 mr).2) ((LMo_begin_23 33 0 mw).2)) := hD
  refine lv_aload_n hx hb dMo_begin_52 rfl (lv_at hl 0 rfl) ?_
  refine lv_iconst (v := 0) hx hb dMo_begin_53 (by first | rfl | decide) ?_
  refine va_put (D := D) (ci := 5) (v := .int 0) (ty := .boolean) (C := RMo) (T := TMo) (N := 27) hx hb hw pinMo tyMo tyMo_ok nmMo hown hE.1 hP hD hS 0 rfl rfl 23 (by decide) (hw _ wd_206) (fun _ h9 => h9) rfl (by decide +kernel) rfl rfl (Nat.le_of_ble_eq_true rfl) dMo_begin_54 (fun H locs hP hD hS => ?_)
  have hP : va_P D vwCl (wM ad cI cS mq mn me mo mt mx mp mz mu 0 0 0 vv vp ve mK mA mB mC mf ml mc mL md mi ((LMo_begin_2 9 0 mr).2) ((LMo_begin_23 33 0 mw).2)) H := hP
  have hD : va_D _ (wM ad cI cS mq mn me mo mt mx mp mz mu 0 0 0 vv vp ve mK mA mB mC mf ml mc mL md mi ((LMo_begin_2 9 0 mr).2) ((LMo_begin_23 33 0 mw).2)) := hD
  refine lv_aload_n hx hb dMo_begin_57 rfl (lv_at hl 0 rfl) ?_
  refine lv_iconst (v := 0) hx hb dMo_begin_58 (by first | rfl | decide) ?_
  refine va_put (D := D) (ci := 5) (v := .int 0) (ty := .boolean) (C := RMo) (T := TMo) (N := 27) hx hb hw pinMo tyMo tyMo_ok nmMo hown hE.1 hP hD hS 0 rfl rfl 24 (by decide) (hw _ wd_207) (fun _ h9 => h9) rfl (by decide +kernel) rfl rfl (Nat.le_of_ble_eq_true rfl) dMo_begin_59 (fun H locs hP hD hS => ?_)
  have hP : va_P D vwCl (wM ad cI cS mq mn me mo mt mx mp mz mu 0 0 0 0 vp ve mK mA mB mC mf ml mc mL md mi ((LMo_begin_2 9 0 mr).2) ((LMo_begin_23 33 0 mw).2)) H := hP
  have hD : va_D _ (wM ad cI cS mq mn me mo mt mx mp mz mu 0 0 0 0 vp ve mK mA mB mC mf ml mc mL md mi ((LMo_begin_2 9 0 mr).2) ((LMo_begin_23 33 0 mw).2)) := hD
  refine lv_aload_n hx hb dMo_begin_62 rfl (lv_at hl 0 rfl) ?_
  refine lv_iconst (v := 0) hx hb dMo_begin_63 (by first | rfl | decide) ?_
  refine va_put (D := D) (ci := 5) (v := .int 0) (ty := .int) (C := RMo) (T := TMo) (N := 27) hx hb hw pinMo tyMo tyMo_ok nmMo hown hE.1 hP hD hS 0 rfl rfl 25 (by decide) (hw _ wd_212) (fun _ h9 => h9) rfl (by decide +kernel) rfl rfl (Nat.le_of_ble_eq_true rfl) dMo_begin_64 (fun H locs hP hD hS => ?_)
  have hP : va_P D vwCl (wM ad cI cS mq mn me mo mt mx mp mz mu 0 0 0 0 0 ve mK mA mB mC mf ml mc mL md mi ((LMo_begin_2 9 0 mr).2) ((LMo_begin_23 33 0 mw).2)) H := hP
  have hD : va_D _ (wM ad cI cS mq mn me mo mt mx mp mz mu 0 0 0 0 0 ve mK mA mB mC mf ml mc mL md mi ((LMo_begin_2 9 0 mr).2) ((LMo_begin_23 33 0 mw).2)) := hD
  refine lv_aload_n hx hb dMo_begin_67 rfl (lv_at hl 0 rfl) ?_
  refine lv_iconst (v := 0) hx hb dMo_begin_68 (by first | rfl | decide) ?_
  refine va_put (D := D) (ci := 5) (v := .int 0) (ty := .int) (C := RMo) (T := TMo) (N := 27) hx hb hw pinMo tyMo tyMo_ok nmMo hown hE.1 hP hD hS 0 rfl rfl 26 (by decide) (hw _ wd_228) (fun _ h9 => h9) rfl (by decide +kernel) rfl rfl (Nat.le_of_ble_eq_true rfl) dMo_begin_69 (fun H locs hP hD hS => ?_)
  have hP : va_P D vwCl (wM ad cI cS mq mn me mo mt mx mp mz mu 0 0 0 0 0 0 mK mA mB mC mf ml mc mL md mi ((LMo_begin_2 9 0 mr).2) ((LMo_begin_23 33 0 mw).2)) H := hP
  have hD : va_D _ (wM ad cI cS mq mn me mo mt mx mp mz mu 0 0 0 0 0 0 mK mA mB mC mf ml mc mL md mi ((LMo_begin_2 9 0 mr).2) ((LMo_begin_23 33 0 mw).2)) := hD
  have e9 : FMo_begin mr mw = ((LMo_begin_2 9 0 mr).2, (LMo_begin_23 33 0 mw).2, 0, 0, 0, 0, 0, 0) := rfl
  exact W.vret hx hb hr (fun t ht hW => ⟨⟨(), rfl, trivial, by rw [e9, ht]; exact hP, by rw [e9]; exact hD⟩, hS.F ht⟩) hS.2.2 dMo_begin_72
def FMo_restart (mr : Nat → Int32) (mw : Nat → Int32) : Int32 × (Nat → Int32) × (Nat → Int32) × Int32 × Int32 × Int32 × Int32 × Int32 × Int32 := (0, (FMo_begin mr mw).1, (FMo_begin mr mw).2.1, (FMo_begin mr mw).2.2.1, (FMo_begin mr mw).2.2.2.1, (FMo_begin mr mw).2.2.2.2.1, (FMo_begin mr mw).2.2.2.2.2.1, (FMo_begin mr mw).2.2.2.2.2.2.1, (FMo_begin mr mw).2.2.2.2.2.2.2)
set_option maxHeartbeats 4000000 in
set_option maxRecDepth 100000 in
theorem k_Mo_restart (l : Launch) (D : va_G) (ad : Nat → Nat) (cI cS : ClassId) (mq : Int32) (mn : Int32) (me : Int32) (mo : Int32) (mt : Int32) (mx : Int32) (mp : Int32) (mz : Int32) (mu : Int32) (vn : Int32) (vz : Int32) (vc : Int32) (vv : Int32) (vp : Int32) (ve : Int32) (mK : Nat → Int32) (mA : Nat → Int32) (mB : Nat → Int32) (mC : Nat → Int32) (mf : Nat → Int32) (ml : Nat → Int32) (mc : Nat → Int32) (mL : Nat → Int32) (md : Nat → Int32) (mi : Nat → Int32) (mr : Nat → Int32) (mw : Nat → Int32) : pq_V l yMo_restart (.code yMo_restart cMo_restart 1 none :: pq_ws) { frames := 1, cells := 0, slots := 0, locals := 21 } D cI cS [.ref (ad 17)] (wM ad cI cS mq mn me mo mt mx mp mz mu vn vz vc vv vp ve mK mA mB mC mf ml mc mL md mi mr mw) (wM ad cI cS ((FMo_restart mr mw).1) mn me mo mt mx mp mz mu ((FMo_restart mr mw).2.2.2.1) ((FMo_restart mr mw).2.2.2.2.1) ((FMo_restart mr mw).2.2.2.2.2.1) ((FMo_restart mr mw).2.2.2.2.2.2.1) ((FMo_restart mr mw).2.2.2.2.2.2.2.1) ((FMo_restart mr mw).2.2.2.2.2.2.2.2) mK mA mB mC mf ml mc mL md mi ((FMo_restart mr mw).2.1) ((FMo_restart mr mw).2.2.1)) := by
  intro sz
  refine Met.ofW (cc := cMo_restart) (maxL := 1) (ret := none) (by decide) rfl ?_
  intro p e s m args below meth c s₁ B hml hv
  obtain ⟨rfl, hsz, hP, hD0, hE⟩ := hv
  have hx := B.exec
  have hb := B.bytes
  have hr := B.returns
  have hts := atoms_spec (ws := (.code yMo_restart cMo_restart 1 none :: pq_ws : List Cond)) B.pre
  have hw : ∀ w ∈ pq_ws, w.before _ s = true := fun w h => hts w (List.mem_cons_of_mem _ h)
  have hown : s.vm.findClass RMo = some m.cls := findClass_of_methodNamed B.named
  have hlocks := B.notSynchronized
  subst hsz
  have hD := hD0.self (sz := s.heap.size)
  have hA : ∀ q : Nat, s.heap.size ≤ q → va_A (wM ad cI cS mq mn me mo mt mx mp mz mu vn vz vc vv vp ve mK mA mB mC mf ml mc mL md mi mr mw) s.heap.size q := fun q h => Or.inr h
  have hS : va_S (va_A (wM ad cI cS mq mn me mo mt mx mp mz mu vn vz vc vv vp ve mK mA mB mC mf ml mc mL md mi mr mw) s.heap.size) s.heap s.heap [] := va_S.rf
  have hl := lv_entry ([.ref (ad 17)] : List Value) (n := 1) (Nat.le_of_ble_eq_true rfl)
  rw [lg_entry_eq]
  generalize (lg_sl ([.ref (ad 17)] : List Value) ++ List.replicate (1 - (lg_sl ([.ref (ad 17)] : List Value)).length) Slot.unset).toArray = ls at hl ⊢
  have hl : lv_has ls 1 [(0, .ref (ad 17))] := hl
  refine lv_aload_n hx hb dMo_restart_0 rfl (lv_at hl 0 rfl) ?_
  refine lv_iconst (v := 0) hx hb dMo_restart_1 (by first | rfl | decide) ?_
  refine va_put (D := D) (ci := 5) (v := .int 0) (ty := .int) (C := RMo) (T := TMo) (N := 27) hx hb hw pinMo tyMo tyMo_ok nmMo hown hE.1 hP hD hS 0 rfl rfl 0 (by decide) (hw _ wd_184) (fun _ h9 => h9) rfl (by decide +kernel) rfl rfl (Nat.le_of_ble_eq_true rfl) dMo_restart_2 (fun H locs hP hD hS => ?_)
  have hP : va_P D vwCl (wM ad cI cS 0 mn me mo mt mx mp mz mu vn vz vc vv vp ve mK mA mB mC mf ml mc mL md mi mr mw) H := hP
  have hD : va_D _ (wM ad cI cS 0 mn me mo mt mx mp mz mu vn vz vc vv vp ve mK mA mB mC mf ml mc mL md mi mr mw) := hD
  refine lv_aload_n hx hb dMo_restart_5 rfl (lv_at hl 0 rfl) ?_
  obtain ⟨g1, hg1⟩ : ∃ g9, FMo_begin mr mw = g9 := ⟨_, rfl⟩
  have cg1 := k_Mo_begin l D ad cI cS 0 mn me mo mt mx mp mz mu vn vz vc vv vp ve mK mA mB mC mf ml mc mL md mi mr mw
  rw [hg1] at cg1
  refine pq_callv (wc := (wM ad cI cS 0 mn me mo mt mx mp mz mu vn vz vc vv vp ve mK mA mB mC mf ml mc mL md mi mr mw)) (wr := ([] : List Nat).filterMap (fun i => (wM ad cI cS 0 mn me mo mt mx mp mz mu vn vz vc vv vp ve mK mA mB mC mf ml mc mL md mi mr mw)[i]?)) hP hD hS hA [0, 1, 2, 3, 4, 5, 6, 7, 8, 9, 10, 11, 12] [] rfl rfl (by decide) (by decide) (va_runV (own := RMo) (C := RMo) (As := []) (rest := []) ⟨hx, hb, hml, hown, hw⟩ (cg1 H.size) ⟨pq_cwB 0 hw wd_267 wd_186 wd_266 rfl rfl (by decide +kernel) ⟨Nat.le_of_ble_eq_true rfl, Nat.le_of_ble_eq_true rfl⟩, hw _ wd_268, hw _ wd_269⟩ (pq_preV (ci := 5) (C := RMo) (T := TMo) (N := 27) hE (hP.sub [0, 1, 2, 3, 4, 5, 6, 7, 8, 9, 10, 11, 12] rfl) (hD.sub [0, 1, 2, 3, 4, 5, 6, 7, 8, 9, 10, 11, 12] (by decide) rfl) rfl 0 rfl) rfl rfl hl.1 rfl (lv_room (Nat.le_of_ble_eq_true rfl)) dMo_restart_6 ⟨Nat.zero_le _, Nat.zero_le _⟩) (fun _ H locs hP hD hS => ?_)
  have hP : va_P D vwCl (wM ad cI cS 0 mn me mo mt mx mp mz mu g1.2.2.1 g1.2.2.2.1 g1.2.2.2.2.1 g1.2.2.2.2.2.1 g1.2.2.2.2.2.2.1 g1.2.2.2.2.2.2.2 mK mA mB mC mf ml mc mL md mi g1.1 g1.2.1) H := hP.sub [0, 1, 2, 3, 4, 5, 6, 7, 8, 9, 10, 11, 12] rfl
  have hD : va_D _ (wM ad cI cS 0 mn me mo mt mx mp mz mu g1.2.2.1 g1.2.2.2.1 g1.2.2.2.2.1 g1.2.2.2.2.2.1 g1.2.2.2.2.2.2.1 g1.2.2.2.2.2.2.2 mK mA mB mC mf ml mc mL md mi g1.1 g1.2.1) := hD.sub [0, 1, 2, 3, 4, 5, 6, 7, 8, 9, 10, 11, 12] (by decide) rfl
  have e9 : FMo_restart mr mw = (0, g1.1, g1.2.1, g1.2.2.1, g1.2.2.2.1, g1.2.2.2.2.1, g1.2.2.2.2.2.1, g1.2.2.2.2.2.2.1, g1.2.2.2.2.2.2.2) := by simp only [FMo_restart, hg1]
  exact W.vret hx hb hr (fun t ht hW => ⟨⟨(), rfl, trivial, by rw [e9, ht]; exact hP, by rw [e9]; exact hD⟩, hS.F ht⟩) hS.2.2 dMo_restart_9
def FMo_half (xk : Int32) (mz : Int32) (mi : Nat → Int32) : Int32 × Int32 := if (FMo_outside xk 0 (mz - 1)) = 0 then ((mi xk.toNatClampNeg).toInt16.toInt32, 0) else (0, 0)
set_option maxHeartbeats 4000000 in
set_option maxRecDepth 100000 in
theorem k_Mo_half (l : Launch) (D : va_G) (ad : Nat → Nat) (cI cS : ClassId) (xk : Int32) (mq : Int32) (mn : Int32) (me : Int32) (mo : Int32) (mt : Int32) (mx : Int32) (mp : Int32) (mz : Int32) (mu : Int32) (vn : Int32) (vz : Int32) (vc : Int32) (vv : Int32) (vp : Int32) (ve : Int32) (mK : Nat → Int32) (mA : Nat → Int32) (mB : Nat → Int32) (mC : Nat → Int32) (mf : Nat → Int32) (ml : Nat → Int32) (mc : Nat → Int32) (mL : Nat → Int32) (md : Nat → Int32) (mi : Nat → Int32) (mr : Nat → Int32) (mw : Nat → Int32) (hmz0 : ¬ mz < 0) (hmz : mz.toInt ≤ 7200) : pq_I l yMo_half (.code yMo_half cMo_half 2 (some .short) :: pq_ws) { frames := 1, cells := 0, slots := 0, locals := 22 } D cI cS [.ref (ad 17), .int xk] (wM ad cI cS mq mn me mo mt mx mp mz mu vn vz vc vv vp ve mK mA mB mC mf ml mc mL md mi mr mw) ((FMo_half xk mz mi).1) (wM ad cI cS ((FMo_half xk mz mi).2) mn me mo mt mx mp mz mu vn vz vc vv vp ve mK mA mB mC mf ml mc mL md mi mr mw) := by
  intro sz
  refine Met.ofW (cc := cMo_half) (maxL := 2) (ret := (some .short)) (by decide) rfl ?_
  intro p e s m args below meth c s₁ B hml hv
  obtain ⟨rfl, hsz, hP, hD0, hE⟩ := hv
  have hx := B.exec
  have hb := B.bytes
  have hr := B.returns
  have hts := atoms_spec (ws := (.code yMo_half cMo_half 2 (some .short) :: pq_ws : List Cond)) B.pre
  have hw : ∀ w ∈ pq_ws, w.before _ s = true := fun w h => hts w (List.mem_cons_of_mem _ h)
  have hown : s.vm.findClass RMo = some m.cls := findClass_of_methodNamed B.named
  have hlocks := B.notSynchronized
  subst hsz
  have hD := hD0.self (sz := s.heap.size)
  have hA : ∀ q : Nat, s.heap.size ≤ q → va_A (wM ad cI cS mq mn me mo mt mx mp mz mu vn vz vc vv vp ve mK mA mB mC mf ml mc mL md mi mr mw) s.heap.size q := fun q h => Or.inr h
  have hS : va_S (va_A (wM ad cI cS mq mn me mo mt mx mp mz mu vn vz vc vv vp ve mK mA mB mC mf ml mc mL md mi mr mw) s.heap.size) s.heap s.heap [] := va_S.rf
  have hl := lv_entry ([.ref (ad 17), .int xk] : List Value) (n := 2) (Nat.le_of_ble_eq_true rfl)
  rw [lg_entry_eq]
  generalize (lg_sl ([.ref (ad 17), .int xk] : List Value) ++ List.replicate (2 - (lg_sl ([.ref (ad 17), .int xk] : List Value)).length) Slot.unset).toArray = ls at hl ⊢
  have hl : lv_has ls 2 [(0, .ref (ad 17)), (1, .int xk)] := hl
  refine lv_aload_n hx hb dMo_half_0 rfl (lv_at hl 0 rfl) ?_
  refine lv_iconst (v := 0) hx hb dMo_half_1 (by first | rfl | decide) ?_
  refine va_put (D := D) (ci := 5) (v := .int 0) (ty := .int) (C := RMo) (T := TMo) (N := 27) hx hb hw pinMo tyMo tyMo_ok nmMo hown hE.1 hP hD hS 0 rfl rfl 0 (by decide) (hw _ wd_184) (fun _ h9 => h9) rfl (by decide +kernel) rfl rfl (Nat.le_of_ble_eq_true rfl) dMo_half_2 (fun H locs hP hD hS => ?_)
  have hP : va_P D vwCl (wM ad cI cS 0 mn me mo mt mx mp mz mu vn vz vc vv vp ve mK mA mB mC mf ml mc mL md mi mr mw) H := hP
  have hD : va_D _ (wM ad cI cS 0 mn me mo mt mx mp mz mu vn vz vc vv vp ve mK mA mB mC mf ml mc mL md mi mr mw) := hD
  refine lv_iload_n hx hb dMo_half_5 rfl (lv_at hl 1 rfl) ?_
  refine lv_iconst (v := 0) hx hb dMo_half_6 (by first | rfl | decide) ?_
  refine lv_aload_n hx hb dMo_half_7 rfl (lv_at hl 0 rfl) ?_
  refine va_get (D := D) (ci := 5) (v := .int mz) (C := RMo) (T := TMo) (N := 27) hx hb hw pinMo hown hE.1 hP 0 rfl rfl 16 (by decide) (hw _ wd_199) (fun _ h9 => h9) rfl dMo_half_8 ?_
  refine lv_iconst (v := 1) hx hb dMo_half_11 (by first | rfl | decide) ?_
  refine lv_isub hx hb dMo_half_12 ?_
  refine pq_calli (fr := (FMo_outside xk 0 (mz - 1))) (wc := (wN ad cI cS)) (wr := ([0, 1, 2, 3, 4, 5, 6, 7, 8, 9, 10, 11, 12] : List Nat).filterMap (fun i => (wM ad cI cS 0 mn me mo mt mx mp mz mu vn vz vc vv vp ve mK mA mB mC mf ml mc mL md mi mr mw)[i]?)) hP hD hS hA [] [0, 1, 2, 3, 4, 5, 6, 7, 8, 9, 10, 11, 12] rfl rfl (by decide) (by decide) (va_runS (own := RMo) (As := [.int xk, .int 0, .int (mz - 1)]) (rest := []) ⟨hx, hb, hml, hown, hw⟩ (k_Mo_outside l D ad cI cS xk 0 (mz - 1) H.size) ⟨pq_cwB 3 hw wd_187 wd_186 wd_185 rfl rfl (by decide +kernel) ⟨Nat.le_of_ble_eq_true rfl, Nat.le_of_ble_eq_true rfl⟩, hw _ wd_188⟩ (pq_preS hE (hP.sub [] rfl) (hD.sub [] (by decide) rfl)) rfl rfl hl.1 rfl (lv_room (Nat.le_of_ble_eq_true rfl)) dMo_half_13 ⟨Nat.zero_le _, Nat.zero_le _⟩) (fun H locs hP hD hS => ?_)
  have hP : va_P D vwCl (wM ad cI cS 0 mn me mo mt mx mp mz mu vn vz vc vv vp ve mK mA mB mC mf ml mc mL md mi mr mw) H := hP.sub [0, 1, 2, 3, 4, 5, 6, 7, 8, 9, 10, 11, 12] rfl
  have hD : va_D _ (wM ad cI cS 0 mn me mo mt mx mp mz mu vn vz vc vv vp ve mK mA mB mC mf ml mc mL md mi mr mw) := hD.sub [0, 1, 2, 3, 4, 5, 6, 7, 8, 9, 10, 11, 12] (by decide) rfl
  refine lv_if_eq (tgt := 23) hx hb dMo_half_16 (by decide) (fun h1 => ?_) (fun h1 => ?_)
  · refine lv_aload_n hx hb dMo_half_23 rfl (lv_at hl 0 rfl) ?_
    refine va_get (D := D) (ci := 5) (v := .ref (ad 27)) (C := RMo) (T := TMo) (N := 27) hx hb hw pinMo hown hE.1 hP 0 rfl rfl 18 (by decide) (hw _ wd_226) (fun _ h9 => h9) rfl dMo_half_24 ?_
    refine lv_iload_n hx hb dMo_half_27 rfl (lv_at hl 1 rfl) ?_
    refine va_iald hx hb hE.1 hP 10 0 rfl rfl (pq_out_in hmz0 hmz (by assumption)) dMo_half_28 ?_
    refine lv_i2s hx hb dMo_half_29 rfl ?_
    have e9 : FMo_half xk mz mi = ((mi xk.toNatClampNeg).toInt16.toInt32, 0) := by simp only [FMo_half, if_pos h1]
    exact W.zret (v := (mi xk.toNatClampNeg).toInt16.toInt32) hx hb hr (by first | rfl | exact pk_ns _) (fun t ht hW => ⟨⟨(mi xk.toNatClampNeg).toInt16.toInt32, (), rfl, (by show _ = _; rw [e9]), by rw [e9, ht]; exact hP, by rw [e9]; exact hD⟩, hS.F ht⟩) hS.2.2 dMo_half_30
  · refine lv_iconst (v := 0) hx hb dMo_half_19 (by first | rfl | decide) ?_
    refine lv_goto (tgt := 30) hx hb dMo_half_20 (by decide) ?_
    have e9 : FMo_half xk mz mi = (0, 0) := by simp only [FMo_half, if_neg h1]
    exact W.zret (v := 0) hx hb hr rfl (fun t ht hW => ⟨⟨0, (), rfl, (by show _ = _; rw [e9]), by rw [e9, ht]; exact hP, by rw [e9]; exact hD⟩, hS.F ht⟩) hS.2.2 dMo_half_30
def FMo_register (xr : Int32) (vn : Int32) (vz : Int32) (vc : Int32) (vv : Int32) (vp : Int32) (mr : Nat → Int32) : Int32 × Int32 := if (FMo_outside xr 0 9) = 0 then if 8 ≤ xr then if xr = 8 then (vp, 0) else if vn = 0 then if vz = 0 then if vc = 0 then if vv = 0 then (((0 + 0) + 0) + 0, 0) else (((0 + 0) + 0) + 1, 0) else if vv = 0 then (((0 + 0) + 2) + 0, 0) else (((0 + 0) + 2) + 1, 0) else if vc = 0 then if vv = 0 then (((0 + 4) + 0) + 0, 0) else (((0 + 4) + 0) + 1, 0) else if vv = 0 then (((0 + 4) + 2) + 0, 0) else (((0 + 4) + 2) + 1, 0) else if vz = 0 then if vc = 0 then if vv = 0 then (((8 + 0) + 0) + 0, 0) else (((8 + 0) + 0) + 1, 0) else if vv = 0 then (((8 + 0) + 2) + 0, 0) else (((8 + 0) + 2) + 1, 0) else if vc = 0 then if vv = 0 then (((8 + 4) + 0) + 0, 0) else (((8 + 4) + 0) + 1, 0) else if vv = 0 then (((8 + 4) + 2) + 0, 0) else (((8 + 4) + 2) + 1, 0) else (mr xr.toNatClampNeg, 0) else (((FMo_refuse 1).1), (FMo_refuse 1).2)
set_option maxHeartbeats 4000000 in
set_option maxRecDepth 100000 in
theorem k_Mo_register (l : Launch) (D : va_G) (ad : Nat → Nat) (cI cS : ClassId) (xr : Int32) (mq : Int32) (mn : Int32) (me : Int32) (mo : Int32) (mt : Int32) (mx : Int32) (mp : Int32) (mz : Int32) (mu : Int32) (vn : Int32) (vz : Int32) (vc : Int32) (vv : Int32) (vp : Int32) (ve : Int32) (mK : Nat → Int32) (mA : Nat → Int32) (mB : Nat → Int32) (mC : Nat → Int32) (mf : Nat → Int32) (ml : Nat → Int32) (mc : Nat → Int32) (mL : Nat → Int32) (md : Nat → Int32) (mi : Nat → Int32) (mr : Nat → Int32) (mw : Nat → Int32) : pq_I l yMo_register (.code yMo_register cMo_register 2 (some .int) :: pq_ws) { frames := 1, cells := 0, slots := 0, locals := 22 } D cI cS [.ref (ad 17), .int xr] (wM ad cI cS mq mn me mo mt mx mp mz mu vn vz vc vv vp ve mK mA mB mC mf ml mc mL md mi mr mw) ((FMo_register xr vn vz vc vv vp mr).1) (wM ad cI cS ((FMo_register xr vn vz vc vv vp mr).2) mn me mo mt mx mp mz mu vn vz vc vv vp ve mK mA mB mC mf ml mc mL md mi mr mw) := by
  intro sz
  refine Met.ofW (cc := cMo_register) (maxL := 2) (ret := (some .int)) (by decide) rfl ?_
  intro p e s m args below meth c s₁ B hml hv
  obtain ⟨rfl, hsz, hP, hD0, hE⟩ := hv
  have hx := B.exec
  have hb := B.bytes
  have hr := B.returns
  have hts := atoms_spec (ws := (.code yMo_register cMo_register 2 (some .int) :: pq_ws : List Cond)) B.pre
  have hw : ∀ w ∈ pq_ws, w.before _ s = true := fun w h => hts w (List.mem_cons_of_mem _ h)
  have hown : s.vm.findClass RMo = some m.cls := findClass_of_methodNamed B.named
  have hlocks := B.notSynchronized
  subst hsz
  have hD := hD0.self (sz := s.heap.size)
  have hA : ∀ q : Nat, s.heap.size ≤ q → va_A (wM ad cI cS mq mn me mo mt mx mp mz mu vn vz vc vv vp ve mK mA mB mC mf ml mc mL md mi mr mw) s.heap.size q := fun q h => Or.inr h
  have hS : va_S (va_A (wM ad cI cS mq mn me mo mt mx mp mz mu vn vz vc vv vp ve mK mA mB mC mf ml mc mL md mi mr mw) s.heap.size) s.heap s.heap [] := va_S.rf
  have hl := lv_entry ([.ref (ad 17), .int xr] : List Value) (n := 2) (Nat.le_of_ble_eq_true rfl)
  rw [lg_entry_eq]
  generalize (lg_sl ([.ref (ad 17), .int xr] : List Value) ++ List.replicate (2 - (lg_sl ([.ref (ad 17), .int xr] : List Value)).length) Slot.unset).toArray = ls at hl ⊢
  have hl : lv_has ls 2 [(0, .ref (ad 17)), (1, .int xr)] := hl
  refine lv_iload_n hx hb dMo_register_0 rfl (lv_at hl 1 rfl) ?_
  refine lv_iconst (v := 0) hx hb dMo_register_1 (by first | rfl | decide) ?_
  refine lv_bipush (v := 9) hx hb dMo_register_2 (by first | rfl | decide) ?_
  refine pq_calli (fr := (FMo_outside xr 0 9)) (wc := (wN ad cI cS)) (wr := ([0, 1, 2, 3, 4, 5, 6, 7, 8, 9, 10, 11, 12] : List Nat).filterMap (fun i => (wM ad cI cS mq mn me mo mt mx mp mz mu vn vz vc vv vp ve mK mA mB mC mf ml mc mL md mi mr mw)[i]?)) hP hD hS hA [] [0, 1, 2, 3, 4, 5, 6, 7, 8, 9, 10, 11, 12] rfl rfl (by decide) (by decide) (va_runS (own := RMo) (As := [.int xr, .int 0, .int 9]) (rest := []) ⟨hx, hb, hml, hown, hw⟩ (k_Mo_outside l D ad cI cS xr 0 9 s.heap.size) ⟨pq_cwB 3 hw wd_187 wd_186 wd_185 rfl rfl (by decide +kernel) ⟨Nat.le_of_ble_eq_true rfl, Nat.le_of_ble_eq_true rfl⟩, hw _ wd_188⟩ (pq_preS hE (hP.sub [] rfl) (hD.sub [] (by decide) rfl)) rfl rfl hl.1 rfl (lv_room (Nat.le_of_ble_eq_true rfl)) dMo_register_4 ⟨Nat.zero_le _, Nat.zero_le _⟩) (fun H locs hP hD hS => ?_)
  have hP : va_P D vwCl (wM ad cI cS mq mn me mo mt mx mp mz mu vn vz vc vv vp ve mK mA mB mC mf ml mc mL md mi mr mw) H := hP.sub [0, 1, 2, 3, 4, 5, 6, 7, 8, 9, 10, 11, 12] rfl
  have hD : va_D _ (wM ad cI cS mq mn me mo mt mx mp mz mu vn vz vc vv vp ve mK mA mB mC mf ml mc mL md mi mr mw) := hD.sub [0, 1, 2, 3, 4, 5, 6, 7, 8, 9, 10, 11, 12] (by decide) rfl
  refine lv_if_eq (tgt := 16) hx hb dMo_register_7 (by decide) (fun h1 => ?_) (fun h1 => ?_)
  · refine lv_aload_n hx hb dMo_register_16 rfl (lv_at hl 0 rfl) ?_
    refine lv_iconst (v := 0) hx hb dMo_register_17 (by first | rfl | decide) ?_
    refine va_put (D := D) (ci := 5) (v := .int 0) (ty := .int) (C := RMo) (T := TMo) (N := 27) hx hb hw pinMo tyMo tyMo_ok nmMo hown hE.1 hP hD hS 0 rfl rfl 0 (by decide) (hw _ wd_184) (fun _ h9 => h9) rfl (by decide +kernel) rfl rfl (Nat.le_of_ble_eq_true rfl) dMo_register_18 (fun H locs hP hD hS => ?_)
    have hP : va_P D vwCl (wM ad cI cS 0 mn me mo mt mx mp mz mu vn vz vc vv vp ve mK mA mB mC mf ml mc mL md mi mr mw) H := hP
    have hD : va_D _ (wM ad cI cS 0 mn me mo mt mx mp mz mu vn vz vc vv vp ve mK mA mB mC mf ml mc mL md mi mr mw) := hD
    refine lv_iload_n hx hb dMo_register_21 rfl (lv_at hl 1 rfl) ?_
    refine lv_bipush (v := 8) hx hb dMo_register_22 (by first | rfl | decide) ?_
    refine lv_icmp_ge (tgt := 36) hx hb dMo_register_24 (by decide) (fun h2 => ?_) (fun h2 => ?_)
    · refine lv_iload_n hx hb dMo_register_36 rfl (lv_at hl 1 rfl) ?_
      refine lv_bipush (v := 8) hx hb dMo_register_37 (by first | rfl | decide) ?_
      refine lv_icmp_ne (tgt := 49) hx hb dMo_register_39 (by decide) (fun h3 => ?_) (fun h3 => ?_)
      · refine lv_aload_n hx hb dMo_register_49 rfl (lv_at hl 0 rfl) ?_
        refine va_get (D := D) (ci := 5) (v := .int vn) (C := RMo) (T := TMo) (N := 27) hx hb hw pinMo hown hE.1 hP 0 rfl rfl 21 (by decide) (hw _ wd_201) (fun _ h9 => h9) rfl dMo_register_50 ?_
        refine lv_if_eq (tgt := 61) hx hb dMo_register_53 (by decide) (fun h4 => ?_) (fun h4 => ?_)
        · refine lv_iconst (v := 0) hx hb dMo_register_61 (by first | rfl | decide) ?_
          refine lv_aload_n hx hb dMo_register_62 rfl (lv_at hl 0 rfl) ?_
          refine va_get (D := D) (ci := 5) (v := .int vz) (C := RMo) (T := TMo) (N := 27) hx hb hw pinMo hown hE.1 hP 0 rfl rfl 22 (by decide) (hw _ wd_202) (fun _ h9 => h9) rfl dMo_register_63 ?_
          refine lv_if_eq (tgt := 73) hx hb dMo_register_66 (by decide) (fun h5 => ?_) (fun h5 => ?_)
          · refine lv_iconst (v := 0) hx hb dMo_register_73 (by first | rfl | decide) ?_
            refine lv_iadd hx hb dMo_register_74 ?_
            refine lv_aload_n hx hb dMo_register_75 rfl (lv_at hl 0 rfl) ?_
            refine va_get (D := D) (ci := 5) (v := .int vc) (C := RMo) (T := TMo) (N := 27) hx hb hw pinMo hown hE.1 hP 0 rfl rfl 23 (by decide) (hw _ wd_206) (fun _ h9 => h9) rfl dMo_register_76 ?_
            refine lv_if_eq (tgt := 86) hx hb dMo_register_79 (by decide) (fun h6 => ?_) (fun h6 => ?_)
            · refine lv_iconst (v := 0) hx hb dMo_register_86 (by first | rfl | decide) ?_
              refine lv_iadd hx hb dMo_register_87 ?_
              refine lv_aload_n hx hb dMo_register_88 rfl (lv_at hl 0 rfl) ?_
              refine va_get (D := D) (ci := 5) (v := .int vv) (C := RMo) (T := TMo) (N := 27) hx hb hw pinMo hown hE.1 hP 0 rfl rfl 24 (by decide) (hw _ wd_207) (fun _ h9 => h9) rfl dMo_register_89 ?_
              refine lv_if_eq (tgt := 99) hx hb dMo_register_92 (by decide) (fun h7 => ?_) (fun h7 => ?_)
              · refine lv_iconst (v := 0) hx hb dMo_register_99 (by first | rfl | decide) ?_
                refine lv_iadd hx hb dMo_register_100 ?_
                have e9 : FMo_register xr vn vz vc vv vp mr = (((0 + 0) + 0) + 0, 0) := by simp only [FMo_register, if_pos h1, if_pos h2, if_neg h3, if_pos h4, if_pos h5, if_pos h6, if_pos h7]
                exact W.iret (v := ((0 + 0) + 0) + 0) hx hb hr (fun t ht hW => ⟨⟨((0 + 0) + 0) + 0, (), rfl, (by show _ = _; rw [e9]), by rw [e9, ht]; exact hP, by rw [e9]; exact hD⟩, hS.F ht⟩) hS.2.2 dMo_register_101
              · refine lv_iconst (v := 1) hx hb dMo_register_95 (by first | rfl | decide) ?_
                refine lv_goto (tgt := 100) hx hb dMo_register_96 (by decide) ?_
                refine lv_iadd hx hb dMo_register_100 ?_
                have e9 : FMo_register xr vn vz vc vv vp mr = (((0 + 0) + 0) + 1, 0) := by simp only [FMo_register, if_pos h1, if_pos h2, if_neg h3, if_pos h4, if_pos h5, if_pos h6, if_neg h7]
                exact W.iret (v := ((0 + 0) + 0) + 1) hx hb hr (fun t ht hW => ⟨⟨((0 + 0) + 0) + 1, (), rfl, (by show _ = _; rw [e9]), by rw [e9, ht]; exact hP, by rw [e9]; exact hD⟩, hS.F ht⟩) hS.2.2 dMo_register_101
            · refine lv_iconst (v := 2) hx hb dMo_register_82 (by first | rfl | decide) ?_
              refine lv_goto (tgt := 87) hx hb dMo_register_83 (by decide) ?_
              refine lv_iadd hx hb dMo_register_87 ?_
              refine lv_aload_n hx hb dMo_register_88 rfl (lv_at hl 0 rfl) ?_
              refine va_get (D := D) (ci := 5) (v := .int vv) (C := RMo) (T := TMo) (N := 27) hx hb hw pinMo hown hE.1 hP 0 rfl rfl 24 (by decide) (hw _ wd_207) (fun _ h9 => h9) rfl dMo_register_89 ?_
              refine lv_if_eq (tgt := 99) hx hb dMo_register_92 (by decide) (fun h8 => ?_) (fun h8 => ?_)
              · refine lv_iconst (v := 0) hx hb dMo_register_99 (by first | rfl | decide) ?_
                refine lv_iadd hx hb dMo_register_100 ?_
                have e9 : FMo_register xr vn vz vc vv vp mr = (((0 + 0) + 2) + 0, 0) := by simp only [FMo_register, if_pos h1, if_pos h2, if_neg h3, if_pos h4, if_pos h5, if_neg h6, if_pos h8]
                exact W.iret (v := ((0 + 0) + 2) + 0) hx hb hr (fun t ht hW => ⟨⟨((0 + 0) + 2) + 0, (), rfl, (by show _ = _; rw [e9]), by rw [e9, ht]; exact hP, by rw [e9]; exact hD⟩, hS.F ht⟩) hS.2.2 dMo_register_101
              · refine lv_iconst (v := 1) hx hb dMo_register_95 (by first | rfl | decide) ?_
                refine lv_goto (tgt := 100) hx hb dMo_register_96 (by decide) ?_
                refine lv_iadd hx hb dMo_register_100 ?_
                have e9 : FMo_register xr vn vz vc vv vp mr = (((0 + 0) + 2) + 1, 0) := by simp only [FMo_register, if_pos h1, if_pos h2, if_neg h3, if_pos h4, if_pos h5, if_neg h6, if_neg h8]
                exact W.iret (v := ((0 + 0) + 2) + 1) hx hb hr (fun t ht hW => ⟨⟨((0 + 0) + 2) + 1, (), rfl, (by show _ = _; rw [e9]), by rw [e9, ht]; exact hP, by rw [e9]; exact hD⟩, hS.F ht⟩) hS.2.2 dMo_register_101
          · refine lv_iconst (v := 4) hx hb dMo_register_69 (by first | rfl | decide) ?_
            refine lv_goto (tgt := 74) hx hb dMo_register_70 (by decide) ?_
            refine lv_iadd hx hb dMo_register_74 ?_
            refine lv_aload_n hx hb dMo_register_75 rfl (lv_at hl 0 rfl) ?_
            refine va_get (D := D) (ci := 5) (v := .int vc) (C := RMo) (T := TMo) (N := 27) hx hb hw pinMo hown hE.1 hP 0 rfl rfl 23 (by decide) (hw _ wd_206) (fun _ h9 => h9) rfl dMo_register_76 ?_
            refine lv_if_eq (tgt := 86) hx hb dMo_register_79 (by decide) (fun h9 => ?_) (fun h9 => ?_)
            · refine lv_iconst (v := 0) hx hb dMo_register_86 (by first | rfl | decide) ?_
              refine lv_iadd hx hb dMo_register_87 ?_
              refine lv_aload_n hx hb dMo_register_88 rfl (lv_at hl 0 rfl) ?_
              refine va_get (D := D) (ci := 5) (v := .int vv) (C := RMo) (T := TMo) (N := 27) hx hb hw pinMo hown hE.1 hP 0 rfl rfl 24 (by decide) (hw _ wd_207) (fun _ h9 => h9) rfl dMo_register_89 ?_
              refine lv_if_eq (tgt := 99) hx hb dMo_register_92 (by decide) (fun h10 => ?_) (fun h10 => ?_)
              · refine lv_iconst (v := 0) hx hb dMo_register_99 (by first | rfl | decide) ?_
                refine lv_iadd hx hb dMo_register_100 ?_
                have e9 : FMo_register xr vn vz vc vv vp mr = (((0 + 4) + 0) + 0, 0) := by simp only [FMo_register, if_pos h1, if_pos h2, if_neg h3, if_pos h4, if_neg h5, if_pos h9, if_pos h10]
                exact W.iret (v := ((0 + 4) + 0) + 0) hx hb hr (fun t ht hW => ⟨⟨((0 + 4) + 0) + 0, (), rfl, (by show _ = _; rw [e9]), by rw [e9, ht]; exact hP, by rw [e9]; exact hD⟩, hS.F ht⟩) hS.2.2 dMo_register_101
              · refine lv_iconst (v := 1) hx hb dMo_register_95 (by first | rfl | decide) ?_
                refine lv_goto (tgt := 100) hx hb dMo_register_96 (by decide) ?_
                refine lv_iadd hx hb dMo_register_100 ?_
                have e9 : FMo_register xr vn vz vc vv vp mr = (((0 + 4) + 0) + 1, 0) := by simp only [FMo_register, if_pos h1, if_pos h2, if_neg h3, if_pos h4, if_neg h5, if_pos h9, if_neg h10]
                exact W.iret (v := ((0 + 4) + 0) + 1) hx hb hr (fun t ht hW => ⟨⟨((0 + 4) + 0) + 1, (), rfl, (by show _ = _; rw [e9]), by rw [e9, ht]; exact hP, by rw [e9]; exact hD⟩, hS.F ht⟩) hS.2.2 dMo_register_101
            · refine lv_iconst (v := 2) hx hb dMo_register_82 (by first | rfl | decide) ?_
              refine lv_goto (tgt := 87) hx hb dMo_register_83 (by decide) ?_
              refine lv_iadd hx hb dMo_register_87 ?_
              refine lv_aload_n hx hb dMo_register_88 rfl (lv_at hl 0 rfl) ?_
              refine va_get (D := D) (ci := 5) (v := .int vv) (C := RMo) (T := TMo) (N := 27) hx hb hw pinMo hown hE.1 hP 0 rfl rfl 24 (by decide) (hw _ wd_207) (fun _ h9 => h9) rfl dMo_register_89 ?_
              refine lv_if_eq (tgt := 99) hx hb dMo_register_92 (by decide) (fun h11 => ?_) (fun h11 => ?_)
              · refine lv_iconst (v := 0) hx hb dMo_register_99 (by first | rfl | decide) ?_
                refine lv_iadd hx hb dMo_register_100 ?_
                have e9 : FMo_register xr vn vz vc vv vp mr = (((0 + 4) + 2) + 0, 0) := by simp only [FMo_register, if_pos h1, if_pos h2, if_neg h3, if_pos h4, if_neg h5, if_neg h9, if_pos h11]
                exact W.iret (v := ((0 + 4) + 2) + 0) hx hb hr (fun t ht hW => ⟨⟨((0 + 4) + 2) + 0, (), rfl, (by show _ = _; rw [e9]), by rw [e9, ht]; exact hP, by rw [e9]; exact hD⟩, hS.F ht⟩) hS.2.2 dMo_register_101
              · refine lv_iconst (v := 1) hx hb dMo_register_95 (by first | rfl | decide) ?_
                refine lv_goto (tgt := 100) hx hb dMo_register_96 (by decide) ?_
                refine lv_iadd hx hb dMo_register_100 ?_
                have e9 : FMo_register xr vn vz vc vv vp mr = (((0 + 4) + 2) + 1, 0) := by simp only [FMo_register, if_pos h1, if_pos h2, if_neg h3, if_pos h4, if_neg h5, if_neg h9, if_neg h11]
                exact W.iret (v := ((0 + 4) + 2) + 1) hx hb hr (fun t ht hW => ⟨⟨((0 + 4) + 2) + 1, (), rfl, (by show _ = _; rw [e9]), by rw [e9, ht]; exact hP, by rw [e9]; exact hD⟩, hS.F ht⟩) hS.2.2 dMo_register_101
        · refine lv_bipush (v := 8) hx hb dMo_register_56 (by first | rfl | decide) ?_
          refine lv_goto (tgt := 62) hx hb dMo_register_58 (by decide) ?_
          refine lv_aload_n hx hb dMo_register_62 rfl (lv_at hl 0 rfl) ?_
          refine va_get (D := D) (ci := 5) (v := .int vz) (C := RMo) (T := TMo) (N := 27) hx hb hw pinMo hown hE.1 hP 0 rfl rfl 22 (by decide) (hw _ wd_202) (fun _ h9 => h9) rfl dMo_register_63 ?_
          refine lv_if_eq (tgt := 73) hx hb dMo_register_66 (by decide) (fun h12 => ?_) (fun h12 => ?_)
          · refine lv_iconst (v := 0) hx hb dMo_register_73 (by first | rfl | decide) ?_
            refine lv_iadd hx hb dMo_register_74 ?_
            refine lv_aload_n hx hb dMo_register_75 rfl (lv_at hl 0 rfl) ?_
            refine va_get (D := D) (ci := 5) (v := .int vc) (C := RMo) (T := TMo) (N := 27) hx hb hw pinMo hown hE.1 hP 0 rfl rfl 23 (by decide) (hw _ wd_206) (fun _ h9 => h9) rfl dMo_register_76 ?_
            refine lv_if_eq (tgt := 86) hx hb dMo_register_79 (by decide) (fun h13 => ?_) (fun h13 => ?_)
            · refine lv_iconst (v := 0) hx hb dMo_register_86 (by first | rfl | decide) ?_
              refine lv_iadd hx hb dMo_register_87 ?_
              refine lv_aload_n hx hb dMo_register_88 rfl (lv_at hl 0 rfl) ?_
              refine va_get (D := D) (ci := 5) (v := .int vv) (C := RMo) (T := TMo) (N := 27) hx hb hw pinMo hown hE.1 hP 0 rfl rfl 24 (by decide) (hw _ wd_207) (fun _ h9 => h9) rfl dMo_register_89 ?_
              refine lv_if_eq (tgt := 99) hx hb dMo_register_92 (by decide) (fun h14 => ?_) (fun h14 => ?_)
              · refine lv_iconst (v := 0) hx hb dMo_register_99 (by first | rfl | decide) ?_
                refine lv_iadd hx hb dMo_register_100 ?_
                have e9 : FMo_register xr vn vz vc vv vp mr = (((8 + 0) + 0) + 0, 0) := by simp only [FMo_register, if_pos h1, if_pos h2, if_neg h3, if_neg h4, if_pos h12, if_pos h13, if_pos h14]
                exact W.iret (v := ((8 + 0) + 0) + 0) hx hb hr (fun t ht hW => ⟨⟨((8 + 0) + 0) + 0, (), rfl, (by show _ = _; rw [e9]), by rw [e9, ht]; exact hP, by rw [e9]; exact hD⟩, hS.F ht⟩) hS.2.2 dMo_register_101
              · refine lv_iconst (v := 1) hx hb dMo_register_95 (by first | rfl | decide) ?_
                refine lv_goto (tgt := 100) hx hb dMo_register_96 (by decide) ?_
                refine lv_iadd hx hb dMo_register_100 ?_
                have e9 : FMo_register xr vn vz vc vv vp mr = (((8 + 0) + 0) + 1, 0) := by simp only [FMo_register, if_pos h1, if_pos h2, if_neg h3, if_neg h4, if_pos h12, if_pos h13, if_neg h14]
                exact W.iret (v := ((8 + 0) + 0) + 1) hx hb hr (fun t ht hW => ⟨⟨((8 + 0) + 0) + 1, (), rfl, (by show _ = _; rw [e9]), by rw [e9, ht]; exact hP, by rw [e9]; exact hD⟩, hS.F ht⟩) hS.2.2 dMo_register_101
            · refine lv_iconst (v := 2) hx hb dMo_register_82 (by first | rfl | decide) ?_
              refine lv_goto (tgt := 87) hx hb dMo_register_83 (by decide) ?_
              refine lv_iadd hx hb dMo_register_87 ?_
              refine lv_aload_n hx hb dMo_register_88 rfl (lv_at hl 0 rfl) ?_
              refine va_get (D := D) (ci := 5) (v := .int vv) (C := RMo) (T := TMo) (N := 27) hx hb hw pinMo hown hE.1 hP 0 rfl rfl 24 (by decide) (hw _ wd_207) (fun _ h9 => h9) rfl dMo_register_89 ?_
              refine lv_if_eq (tgt := 99) hx hb dMo_register_92 (by decide) (fun h15 => ?_) (fun h15 => ?_)
              · refine lv_iconst (v := 0) hx hb dMo_register_99 (by first | rfl | decide) ?_
                refine lv_iadd hx hb dMo_register_100 ?_
                have e9 : FMo_register xr vn vz vc vv vp mr = (((8 + 0) + 2) + 0, 0) := by simp only [FMo_register, if_pos h1, if_pos h2, if_neg h3, if_neg h4, if_pos h12, if_neg h13, if_pos h15]
                exact W.iret (v := ((8 + 0) + 2) + 0) hx hb hr (fun t ht hW => ⟨⟨((8 + 0) + 2) + 0, (), rfl, (by show _ = _; rw [e9]), by rw [e9, ht]; exact hP, by rw [e9]; exact hD⟩, hS.F ht⟩) hS.2.2 dMo_register_101
              · refine lv_iconst (v := 1) hx hb dMo_register_95 (by first | rfl | decide) ?_
                refine lv_goto (tgt := 100) hx hb dMo_register_96 (by decide) ?_
                refine lv_iadd hx hb dMo_register_100 ?_
                have e9 : FMo_register xr vn vz vc vv vp mr = (((8 + 0) + 2) + 1, 0) := by simp only [FMo_register, if_pos h1, if_pos h2, if_neg h3, if_neg h4, if_pos h12, if_neg h13, if_neg h15]
                exact W.iret (v := ((8 + 0) + 2) + 1) hx hb hr (fun t ht hW => ⟨⟨((8 + 0) + 2) + 1, (), rfl, (by show _ = _; rw [e9]), by rw [e9, ht]; exact hP, by rw [e9]; exact hD⟩, hS.F ht⟩) hS.2.2 dMo_register_101
          · refine lv_iconst (v := 4) hx hb dMo_register_69 (by first | rfl | decide) ?_
            refine lv_goto (tgt := 74) hx hb dMo_register_70 (by decide) ?_
            refine lv_iadd hx hb dMo_register_74 ?_
            refine lv_aload_n hx hb dMo_register_75 rfl (lv_at hl 0 rfl) ?_
            refine va_get (D := D) (ci := 5) (v := .int vc) (C := RMo) (T := TMo) (N := 27) hx hb hw pinMo hown hE.1 hP 0 rfl rfl 23 (by decide) (hw _ wd_206) (fun _ h9 => h9) rfl dMo_register_76 ?_
            refine lv_if_eq (tgt := 86) hx hb dMo_register_79 (by decide) (fun h16 => ?_) (fun h16 => ?_)
            · refine lv_iconst (v := 0) hx hb dMo_register_86 (by first | rfl | decide) ?_
              refine lv_iadd hx hb dMo_register_87 ?_
              refine lv_aload_n hx hb dMo_register_88 rfl (lv_at hl 0 rfl) ?_
              refine va_get (D := D) (ci := 5) (v := .int vv) (C := RMo) (T := TMo) (N := 27) hx hb hw pinMo hown hE.1 hP 0 rfl rfl 24 (by decide) (hw _ wd_207) (fun _ h9 => h9) rfl dMo_register_89 ?_
              refine lv_if_eq (tgt := 99) hx hb dMo_register_92 (by decide) (fun h17 => ?_) (fun h17 => ?_)
              · refine lv_iconst (v := 0) hx hb dMo_register_99 (by first | rfl | decide) ?_
                refine lv_iadd hx hb dMo_register_100 ?_
                have e9 : FMo_register xr vn vz vc vv vp mr = (((8 + 4) + 0) + 0, 0) := by simp only [FMo_register, if_pos h1, if_pos h2, if_neg h3, if_neg h4, if_neg h12, if_pos h16, if_pos h17]
                exact W.iret (v := ((8 + 4) + 0) + 0) hx hb hr (fun t ht hW => ⟨⟨((8 + 4) + 0) + 0, (), rfl, (by show _ = _; rw [e9]), by rw [e9, ht]; exact hP, by rw [e9]; exact hD⟩, hS.F ht⟩) hS.2.2 dMo_register_101
              · refine lv_iconst (v := 1) hx hb dMo_register_95 (by first | rfl | decide) ?_
                refine lv_goto (tgt := 100) hx hb dMo_register_96 (by decide) ?_
                refine lv_iadd hx hb dMo_register_100 ?_
                have e9 : FMo_register xr vn vz vc vv vp mr = (((8 + 4) + 0) + 1, 0) := by simp only [FMo_register, if_pos h1, if_pos h2, if_neg h3, if_neg h4, if_neg h12, if_pos h16, if_neg h17]
                exact W.iret (v := ((8 + 4) + 0) + 1) hx hb hr (fun t ht hW => ⟨⟨((8 + 4) + 0) + 1, (), rfl, (by show _ = _; rw [e9]), by rw [e9, ht]; exact hP, by rw [e9]; exact hD⟩, hS.F ht⟩) hS.2.2 dMo_register_101
            · refine lv_iconst (v := 2) hx hb dMo_register_82 (by first | rfl | decide) ?_
              refine lv_goto (tgt := 87) hx hb dMo_register_83 (by decide) ?_
              refine lv_iadd hx hb dMo_register_87 ?_
              refine lv_aload_n hx hb dMo_register_88 rfl (lv_at hl 0 rfl) ?_
              refine va_get (D := D) (ci := 5) (v := .int vv) (C := RMo) (T := TMo) (N := 27) hx hb hw pinMo hown hE.1 hP 0 rfl rfl 24 (by decide) (hw _ wd_207) (fun _ h9 => h9) rfl dMo_register_89 ?_
              refine lv_if_eq (tgt := 99) hx hb dMo_register_92 (by decide) (fun h18 => ?_) (fun h18 => ?_)
              · refine lv_iconst (v := 0) hx hb dMo_register_99 (by first | rfl | decide) ?_
                refine lv_iadd hx hb dMo_register_100 ?_
                have e9 : FMo_register xr vn vz vc vv vp mr = (((8 + 4) + 2) + 0, 0) := by simp only [FMo_register, if_pos h1, if_pos h2, if_neg h3, if_neg h4, if_neg h12, if_neg h16, if_pos h18]
                exact W.iret (v := ((8 + 4) + 2) + 0) hx hb hr (fun t ht hW => ⟨⟨((8 + 4) + 2) + 0, (), rfl, (by show _ = _; rw [e9]), by rw [e9, ht]; exact hP, by rw [e9]; exact hD⟩, hS.F ht⟩) hS.2.2 dMo_register_101
              · refine lv_iconst (v := 1) hx hb dMo_register_95 (by first | rfl | decide) ?_
                refine lv_goto (tgt := 100) hx hb dMo_register_96 (by decide) ?_
                refine lv_iadd hx hb dMo_register_100 ?_
                have e9 : FMo_register xr vn vz vc vv vp mr = (((8 + 4) + 2) + 1, 0) := by simp only [FMo_register, if_pos h1, if_pos h2, if_neg h3, if_neg h4, if_neg h12, if_neg h16, if_neg h18]
                exact W.iret (v := ((8 + 4) + 2) + 1) hx hb hr (fun t ht hW => ⟨⟨((8 + 4) + 2) + 1, (), rfl, (by show _ = _; rw [e9]), by rw [e9, ht]; exact hP, by rw [e9]; exact hD⟩, hS.F ht⟩) hS.2.2 dMo_register_101
      · refine lv_aload_n hx hb dMo_register_42 rfl (lv_at hl 0 rfl) ?_
        refine va_get (D := D) (ci := 5) (v := .int vp) (C := RMo) (T := TMo) (N := 27) hx hb hw pinMo hown hE.1 hP 0 rfl rfl 25 (by decide) (hw _ wd_212) (fun _ h9 => h9) rfl dMo_register_43 ?_
        refine lv_goto (tgt := 101) hx hb dMo_register_46 (by decide) ?_
        have e9 : FMo_register xr vn vz vc vv vp mr = (vp, 0) := by simp only [FMo_register, if_pos h1, if_pos h2, if_pos h3]
        exact W.iret (v := vp) hx hb hr (fun t ht hW => ⟨⟨vp, (), rfl, (by show _ = _; rw [e9]), by rw [e9, ht]; exact hP, by rw [e9]; exact hD⟩, hS.F ht⟩) hS.2.2 dMo_register_101
    · refine lv_aload_n hx hb dMo_register_27 rfl (lv_at hl 0 rfl) ?_
      refine va_get (D := D) (ci := 5) (v := .ref (ad 28)) (C := RMo) (T := TMo) (N := 27) hx hb hw pinMo hown hE.1 hP 0 rfl rfl 19 (by decide) (hw _ wd_213) (fun _ h9 => h9) rfl dMo_register_28 ?_
      refine lv_iload_n hx hb dMo_register_31 rfl (lv_at hl 1 rfl) ?_
      refine va_iald hx hb hE.1 hP 11 0 rfl rfl (pq_out8 (by assumption) (by assumption)) dMo_register_32 ?_
      refine lv_goto (tgt := 101) hx hb dMo_register_33 (by decide) ?_
      have e9 : FMo_register xr vn vz vc vv vp mr = (mr xr.toNatClampNeg, 0) := by simp only [FMo_register, if_pos h1, if_neg h2]
      exact W.iret (v := mr xr.toNatClampNeg) hx hb hr (fun t ht hW => ⟨⟨mr xr.toNatClampNeg, (), rfl, (by show _ = _; rw [e9]), by rw [e9, ht]; exact hP, by rw [e9]; exact hD⟩, hS.F ht⟩) hS.2.2 dMo_register_101
  · refine lv_aload_n hx hb dMo_register_10 rfl (lv_at hl 0 rfl) ?_
    refine lv_iconst (v := 1) hx hb dMo_register_11 (by first | rfl | decide) ?_
    refine pq_calli (fr := ((FMo_refuse 1).1)) (wc := (wM ad cI cS mq mn me mo mt mx mp mz mu vn vz vc vv vp ve mK mA mB mC mf ml mc mL md mi mr mw)) (wr := ([] : List Nat).filterMap (fun i => (wM ad cI cS mq mn me mo mt mx mp mz mu vn vz vc vv vp ve mK mA mB mC mf ml mc mL md mi mr mw)[i]?)) hP hD hS hA [0, 1, 2, 3, 4, 5, 6, 7, 8, 9, 10, 11, 12] [] rfl rfl (by decide) (by decide) (va_runV (own := RMo) (C := RMo) (As := [.int 1]) (rest := []) ⟨hx, hb, hml, hown, hw⟩ (k_Mo_refuse l D ad cI cS 1 mq mn me mo mt mx mp mz mu vn vz vc vv vp ve mK mA mB mC mf ml mc mL md mi mr mw H.size) ⟨pq_cwB 1 hw wd_261 wd_186 wd_260 rfl rfl (by decide +kernel) ⟨Nat.le_of_ble_eq_true rfl, Nat.le_of_ble_eq_true rfl⟩, hw _ wd_262, hw _ wd_263⟩ (pq_preV (ci := 5) (C := RMo) (T := TMo) (N := 27) hE (hP.sub [0, 1, 2, 3, 4, 5, 6, 7, 8, 9, 10, 11, 12] rfl) (hD.sub [0, 1, 2, 3, 4, 5, 6, 7, 8, 9, 10, 11, 12] (by decide) rfl) rfl 0 rfl) rfl rfl hl.1 rfl (lv_room (Nat.le_of_ble_eq_true rfl)) dMo_register_12 ⟨Nat.zero_le _, Nat.zero_le _⟩) (fun H locs hP hD hS => ?_)
    have hP : va_P D vwCl (wM ad cI cS ((FMo_refuse 1).2) mn me mo mt mx mp mz mu vn vz vc vv vp ve mK mA mB mC mf ml mc mL md mi mr mw) H := hP.sub [0, 1, 2, 3, 4, 5, 6, 7, 8, 9, 10, 11, 12] rfl
    have hD : va_D _ (wM ad cI cS ((FMo_refuse 1).2) mn me mo mt mx mp mz mu vn vz vc vv vp ve mK mA mB mC mf ml mc mL md mi mr mw) := hD.sub [0, 1, 2, 3, 4, 5, 6, 7, 8, 9, 10, 11, 12] (by decide) rfl
    have e9 : FMo_register xr vn vz vc vv vp mr = (((FMo_refuse 1).1), (FMo_refuse 1).2) := by simp only [FMo_register, if_neg h1]
    exact W.iret (v := ((FMo_refuse 1).1)) hx hb hr (fun t ht hW => ⟨⟨((FMo_refuse 1).1), (), rfl, (by show _ = _; rw [e9]), by rw [e9, ht]; exact hP, by rw [e9]; exact hD⟩, hS.F ht⟩) hS.2.2 dMo_register_15
def FMo_data (xk : Int32) (mw : Nat → Int32) : Int32 × Int32 := if (FMo_outside xk 0 31) = 0 then (mw xk.toNatClampNeg, 0) else (0, 0)
set_option maxHeartbeats 4000000 in
set_option maxRecDepth 100000 in
theorem k_Mo_data (l : Launch) (D : va_G) (ad : Nat → Nat) (cI cS : ClassId) (xk : Int32) (mq : Int32) (mn : Int32) (me : Int32) (mo : Int32) (mt : Int32) (mx : Int32) (mp : Int32) (mz : Int32) (mu : Int32) (vn : Int32) (vz : Int32) (vc : Int32) (vv : Int32) (vp : Int32) (ve : Int32) (mK : Nat → Int32) (mA : Nat → Int32) (mB : Nat → Int32) (mC : Nat → Int32) (mf : Nat → Int32) (ml : Nat → Int32) (mc : Nat → Int32) (mL : Nat → Int32) (md : Nat → Int32) (mi : Nat → Int32) (mr : Nat → Int32) (mw : Nat → Int32) : pq_I l yMo_data (.code yMo_data cMo_data 2 (some .int) :: pq_ws) { frames := 1, cells := 0, slots := 0, locals := 22 } D cI cS [.ref (ad 17), .int xk] (wM ad cI cS mq mn me mo mt mx mp mz mu vn vz vc vv vp ve mK mA mB mC mf ml mc mL md mi mr mw) ((FMo_data xk mw).1) (wM ad cI cS ((FMo_data xk mw).2) mn me mo mt mx mp mz mu vn vz vc vv vp ve mK mA mB mC mf ml mc mL md mi mr mw) := by
  intro sz
  refine Met.ofW (cc := cMo_data) (maxL := 2) (ret := (some .int)) (by decide) rfl ?_
  intro p e s m args below meth c s₁ B hml hv
  obtain ⟨rfl, hsz, hP, hD0, hE⟩ := hv
  have hx := B.exec
  have hb := B.bytes
  have hr := B.returns
  have hts := atoms_spec (ws := (.code yMo_data cMo_data 2 (some .int) :: pq_ws : List Cond)) B.pre
  have hw : ∀ w ∈ pq_ws, w.before _ s = true := fun w h => hts w (List.mem_cons_of_mem _ h)
  have hown : s.vm.findClass RMo = some m.cls := findClass_of_methodNamed B.named
  have hlocks := B.notSynchronized
  subst hsz
  have hD := hD0.self (sz := s.heap.size)
  have hA : ∀ q : Nat, s.heap.size ≤ q → va_A (wM ad cI cS mq mn me mo mt mx mp mz mu vn vz vc vv vp ve mK mA mB mC mf ml mc mL md mi mr mw) s.heap.size q := fun q h => Or.inr h
  have hS : va_S (va_A (wM ad cI cS mq mn me mo mt mx mp mz mu vn vz vc vv vp ve mK mA mB mC mf ml mc mL md mi mr mw) s.heap.size) s.heap s.heap [] := va_S.rf
  have hl := lv_entry ([.ref (ad 17), .int xk] : List Value) (n := 2) (Nat.le_of_ble_eq_true rfl)
  rw [lg_entry_eq]
  generalize (lg_sl ([.ref (ad 17), .int xk] : List Value) ++ List.replicate (2 - (lg_sl ([.ref (ad 17), .int xk] : List Value)).length) Slot.unset).toArray = ls at hl ⊢
  have hl : lv_has ls 2 [(0, .ref (ad 17)), (1, .int xk)] := hl
  refine lv_aload_n hx hb dMo_data_0 rfl (lv_at hl 0 rfl) ?_
  refine lv_iconst (v := 0) hx hb dMo_data_1 (by first | rfl | decide) ?_
  refine va_put (D := D) (ci := 5) (v := .int 0) (ty := .int) (C := RMo) (T := TMo) (N := 27) hx hb hw pinMo tyMo tyMo_ok nmMo hown hE.1 hP hD hS 0 rfl rfl 0 (by decide) (hw _ wd_184) (fun _ h9 => h9) rfl (by decide +kernel) rfl rfl (Nat.le_of_ble_eq_true rfl) dMo_data_2 (fun H locs hP hD hS => ?_)
  have hP : va_P D vwCl (wM ad cI cS 0 mn me mo mt mx mp mz mu vn vz vc vv vp ve mK mA mB mC mf ml mc mL md mi mr mw) H := hP
  have hD : va_D _ (wM ad cI cS 0 mn me mo mt mx mp mz mu vn vz vc vv vp ve mK mA mB mC mf ml mc mL md mi mr mw) := hD
  refine lv_iload_n hx hb dMo_data_5 rfl (lv_at hl 1 rfl) ?_
  refine lv_iconst (v := 0) hx hb dMo_data_6 (by first | rfl | decide) ?_
  refine lv_bipush (v := 31) hx hb dMo_data_7 (by first | rfl | decide) ?_
  refine pq_calli (fr := (FMo_outside xk 0 31)) (wc := (wN ad cI cS)) (wr := ([0, 1, 2, 3, 4, 5, 6, 7, 8, 9, 10, 11, 12] : List Nat).filterMap (fun i => (wM ad cI cS 0 mn me mo mt mx mp mz mu vn vz vc vv vp ve mK mA mB mC mf ml mc mL md mi mr mw)[i]?)) hP hD hS hA [] [0, 1, 2, 3, 4, 5, 6, 7, 8, 9, 10, 11, 12] rfl rfl (by decide) (by decide) (va_runS (own := RMo) (As := [.int xk, .int 0, .int 31]) (rest := []) ⟨hx, hb, hml, hown, hw⟩ (k_Mo_outside l D ad cI cS xk 0 31 H.size) ⟨pq_cwB 3 hw wd_187 wd_186 wd_185 rfl rfl (by decide +kernel) ⟨Nat.le_of_ble_eq_true rfl, Nat.le_of_ble_eq_true rfl⟩, hw _ wd_188⟩ (pq_preS hE (hP.sub [] rfl) (hD.sub [] (by decide) rfl)) rfl rfl hl.1 rfl (lv_room (Nat.le_of_ble_eq_true rfl)) dMo_data_9 ⟨Nat.zero_le _, Nat.zero_le _⟩) (fun H locs hP hD hS => ?_)
  have hP : va_P D vwCl (wM ad cI cS 0 mn me mo mt mx mp mz mu vn vz vc vv vp ve mK mA mB mC mf ml mc mL md mi mr mw) H := hP.sub [0, 1, 2, 3, 4, 5, 6, 7, 8, 9, 10, 11, 12] rfl
  have hD : va_D _ (wM ad cI cS 0 mn me mo mt mx mp mz mu vn vz vc vv vp ve mK mA mB mC mf ml mc mL md mi mr mw) := hD.sub [0, 1, 2, 3, 4, 5, 6, 7, 8, 9, 10, 11, 12] (by decide) rfl
  refine lv_if_eq (tgt := 19) hx hb dMo_data_12 (by decide) (fun h1 => ?_) (fun h1 => ?_)
  · refine lv_aload_n hx hb dMo_data_19 rfl (lv_at hl 0 rfl) ?_
    refine va_get (D := D) (ci := 5) (v := .ref (ad 29)) (C := RMo) (T := TMo) (N := 27) hx hb hw pinMo hown hE.1 hP 0 rfl rfl 20 (by decide) (hw _ wd_222) (fun _ h9 => h9) rfl dMo_data_20 ?_
    refine lv_iload_n hx hb dMo_data_23 rfl (lv_at hl 1 rfl) ?_
    refine va_iald hx hb hE.1 hP 12 0 rfl rfl (pq_out31 (by assumption)) dMo_data_24 ?_
    have e9 : FMo_data xk mw = (mw xk.toNatClampNeg, 0) := by simp only [FMo_data, if_pos h1]
    exact W.iret (v := mw xk.toNatClampNeg) hx hb hr (fun t ht hW => ⟨⟨mw xk.toNatClampNeg, (), rfl, (by show _ = _; rw [e9]), by rw [e9, ht]; exact hP, by rw [e9]; exact hD⟩, hS.F ht⟩) hS.2.2 dMo_data_25
  · refine lv_iconst (v := 0) hx hb dMo_data_15 (by first | rfl | decide) ?_
    refine lv_goto (tgt := 25) hx hb dMo_data_16 (by decide) ?_
    have e9 : FMo_data xk mw = (0, 0) := by simp only [FMo_data, if_neg h1]
    exact W.iret (v := 0) hx hb hr (fun t ht hW => ⟨⟨0, (), rfl, (by show _ = _; rw [e9]), by rw [e9, ht]; exact hP, by rw [e9]; exact hD⟩, hS.F ht⟩) hS.2.2 dMo_data_25
def FMo_line (xk : Int32) (xa : Int32) (xb : Int32) (xc : Int32) (mn : Int32) (mK : Nat → Int32) (mA : Nat → Int32) (mB : Nat → Int32) (mC : Nat → Int32) (mL : Nat → Int32) : Int32 × Int32 × Int32 × (Nat → Int32) × (Nat → Int32) × (Nat → Int32) × (Nat → Int32) × (Nat → Int32) := if (FMo_fits xk xa xb xc) = 0 then (0, 1, mn, mK, mA, mB, mC, mL) else if mn = 160 then (0, 2, mn, mK, mA, mB, mC, mL) else if xk = 0 then if (mL xa.toNatClampNeg) = (-1) then ((mn + 1) - 1, 0, mn + 1, upd mK mn.toNatClampNeg xk, upd mA mn.toNatClampNeg xa, upd mB mn.toNatClampNeg xb, upd mC mn.toNatClampNeg xc, upd mL xa.toNatClampNeg mn) else (0, 2, mn, mK, mA, mB, mC, mL) else ((mn + 1) - 1, 0, mn + 1, upd mK mn.toNatClampNeg xk, upd mA mn.toNatClampNeg xa, upd mB mn.toNatClampNeg xb, upd mC mn.toNatClampNeg xc, mL)
set_option maxHeartbeats 4000000 in
set_option maxRecDepth 100000 in
theorem k_Mo_line (l : Launch) (D : va_G) (ad : Nat → Nat) (cI cS : ClassId) (xk : Int32) (xa : Int32) (xb : Int32) (xc : Int32) (mq : Int32) (mn : Int32) (me : Int32) (mo : Int32) (mt : Int32) (mx : Int32) (mp : Int32) (mz : Int32) (mu : Int32) (vn : Int32) (vz : Int32) (vc : Int32) (vv : Int32) (vp : Int32) (ve : Int32) (mK : Nat → Int32) (mA : Nat → Int32) (mB : Nat → Int32) (mC : Nat → Int32) (mf : Nat → Int32) (ml : Nat → Int32) (mc : Nat → Int32) (mL : Nat → Int32) (md : Nat → Int32) (mi : Nat → Int32) (mr : Nat → Int32) (mw : Nat → Int32) (hmn0 : ¬ mn < 0) (hmn1 : mn.toInt ≤ 160) : pq_I l yMo_line (.code yMo_line cMo_line 5 (some .int) :: pq_ws) { frames := 2, cells := 0, slots := 0, locals := 47 } D cI cS [.ref (ad 17), .int xk, .int xa, .int xb, .int xc] (wM ad cI cS mq mn me mo mt mx mp mz mu vn vz vc vv vp ve mK mA mB mC mf ml mc mL md mi mr mw) ((FMo_line xk xa xb xc mn mK mA mB mC mL).1) (wM ad cI cS ((FMo_line xk xa xb xc mn mK mA mB mC mL).2.1) ((FMo_line xk xa xb xc mn mK mA mB mC mL).2.2.1) me mo mt mx mp mz mu vn vz vc vv vp ve ((FMo_line xk xa xb xc mn mK mA mB mC mL).2.2.2.1) ((FMo_line xk xa xb xc mn mK mA mB mC mL).2.2.2.2.1) ((FMo_line xk xa xb xc mn mK mA mB mC mL).2.2.2.2.2.1) ((FMo_line xk xa xb xc mn mK mA mB mC mL).2.2.2.2.2.2.1) mf ml mc ((FMo_line xk xa xb xc mn mK mA mB mC mL).2.2.2.2.2.2.2) md mi mr mw) := by
  intro sz
  refine Met.ofW (cc := cMo_line) (maxL := 5) (ret := (some .int)) (by decide) rfl ?_
  intro p e s m args below meth c s₁ B hml hv
  obtain ⟨rfl, hsz, hP, hD0, hE⟩ := hv
  have hx := B.exec
  have hb := B.bytes
  have hr := B.returns
  have hts := atoms_spec (ws := (.code yMo_line cMo_line 5 (some .int) :: pq_ws : List Cond)) B.pre
  have hw : ∀ w ∈ pq_ws, w.before _ s = true := fun w h => hts w (List.mem_cons_of_mem _ h)
  have hown : s.vm.findClass RMo = some m.cls := findClass_of_methodNamed B.named
  have hlocks := B.notSynchronized
  subst hsz
  have hD := hD0.self (sz := s.heap.size)
  have hA : ∀ q : Nat, s.heap.size ≤ q → va_A (wM ad cI cS mq mn me mo mt mx mp mz mu vn vz vc vv vp ve mK mA mB mC mf ml mc mL md mi mr mw) s.heap.size q := fun q h => Or.inr h
  have hS : va_S (va_A (wM ad cI cS mq mn me mo mt mx mp mz mu vn vz vc vv vp ve mK mA mB mC mf ml mc mL md mi mr mw) s.heap.size) s.heap s.heap [] := va_S.rf
  have hl := lv_entry ([.ref (ad 17), .int xk, .int xa, .int xb, .int xc] : List Value) (n := 5) (Nat.le_of_ble_eq_true rfl)
  rw [lg_entry_eq]
  generalize (lg_sl ([.ref (ad 17), .int xk, .int xa, .int xb, .int xc] : List Value) ++ List.replicate (5 - (lg_sl ([.ref (ad 17), .int xk, .int xa, .int xb, .int xc] : List Value)).length) Slot.unset).toArray = ls at hl ⊢
  have hl : lv_has ls 5 [(0, .ref (ad 17)), (1, .int xk), (2, .int xa), (3, .int xb), (4, .int xc)] := hl
  refine lv_aload_n hx hb dMo_line_0 rfl (lv_at hl 0 rfl) ?_
  refine lv_iload_n hx hb dMo_line_1 rfl (lv_at hl 1 rfl) ?_
  refine lv_iload_n hx hb dMo_line_2 rfl (lv_at hl 2 rfl) ?_
  refine lv_iload_n hx hb dMo_line_3 rfl (lv_at hl 3 rfl) ?_
  refine lv_iload hx hb dMo_line_4 (lv_at hl 4 rfl) ?_
  refine pq_calli (fr := (FMo_fits xk xa xb xc)) (wc := (wN ad cI cS)) (wr := ([0, 1, 2, 3, 4, 5, 6, 7, 8, 9, 10, 11, 12] : List Nat).filterMap (fun i => (wM ad cI cS mq mn me mo mt mx mp mz mu vn vz vc vv vp ve mK mA mB mC mf ml mc mL md mi mr mw)[i]?)) hP hD hS hA [] [0, 1, 2, 3, 4, 5, 6, 7, 8, 9, 10, 11, 12] rfl rfl (by decide) (by decide) (va_runS (own := RMo) (As := [.int xk, .int xa, .int xb, .int xc]) (rest := [.ref (ad 17)]) ⟨hx, hb, hml, hown, hw⟩ (k_Mo_fits l D ad cI cS xk xa xb xc s.heap.size) ⟨pq_cwB 4 hw wd_271 wd_186 wd_270 rfl rfl (by decide +kernel) ⟨Nat.le_of_ble_eq_true rfl, Nat.le_of_ble_eq_true rfl⟩, hw _ wd_272⟩ (pq_preS hE (hP.sub [] rfl) (hD.sub [] (by decide) rfl)) rfl rfl hl.1 rfl (lv_room (Nat.le_of_ble_eq_true rfl)) dMo_line_6 ⟨Nat.zero_le _, Nat.zero_le _⟩) (fun H locs hP hD hS => ?_)
  have hP : va_P D vwCl (wM ad cI cS mq mn me mo mt mx mp mz mu vn vz vc vv vp ve mK mA mB mC mf ml mc mL md mi mr mw) H := hP.sub [0, 1, 2, 3, 4, 5, 6, 7, 8, 9, 10, 11, 12] rfl
  have hD : va_D _ (wM ad cI cS mq mn me mo mt mx mp mz mu vn vz vc vv vp ve mK mA mB mC mf ml mc mL md mi mr mw) := hD.sub [0, 1, 2, 3, 4, 5, 6, 7, 8, 9, 10, 11, 12] (by decide) rfl
  refine lv_if_ne (tgt := 16) hx hb dMo_line_9 (by decide) (fun h1 => ?_) (fun h1 => ?_)
  · refine lv_aload_n hx hb dMo_line_16 rfl (lv_at hl 0 rfl) ?_
    refine va_get (D := D) (ci := 5) (v := .int mn) (C := RMo) (T := TMo) (N := 27) hx hb hw pinMo hown hE.1 hP 0 rfl rfl 1 (by decide) (hw _ wd_265) (fun _ h9 => h9) rfl dMo_line_17 ?_
    refine lv_sipush (v := 160) hx hb dMo_line_20 (by first | rfl | decide) ?_
    refine lv_icmp_eq (tgt := 40) hx hb dMo_line_23 (by decide) (fun h2 => ?_) (fun h2 => ?_)
    · refine lv_iconst (v := 2) hx hb dMo_line_40 (by first | rfl | decide) ?_
      refine lv_goto (tgt := 45) hx hb dMo_line_41 (by decide) ?_
      refine va_put (D := D) (ci := 5) (v := .int 2) (ty := .int) (C := RMo) (T := TMo) (N := 27) hx hb hw pinMo tyMo tyMo_ok nmMo hown hE.1 hP hD hS 0 rfl rfl 0 (by decide) (hw _ wd_184) (fun _ h9 => h9) rfl (by decide +kernel) rfl rfl (Nat.le_of_ble_eq_true rfl) dMo_line_45 (fun H locs hP hD hS => ?_)
      have hP : va_P D vwCl (wM ad cI cS 2 mn me mo mt mx mp mz mu vn vz vc vv vp ve mK mA mB mC mf ml mc mL md mi mr mw) H := hP
      have hD : va_D _ (wM ad cI cS 2 mn me mo mt mx mp mz mu vn vz vc vv vp ve mK mA mB mC mf ml mc mL md mi mr mw) := hD
      refine lv_aload_n hx hb dMo_line_48 rfl (lv_at hl 0 rfl) ?_
      refine va_get (D := D) (ci := 5) (v := .int 2) (C := RMo) (T := TMo) (N := 27) hx hb hw pinMo hown hE.1 hP 0 rfl rfl 0 (by decide) (hw _ wd_184) (fun _ h9 => h9) rfl dMo_line_49 ?_
      refine lv_if_le (tgt := 57) hx hb dMo_line_52 (by decide) (fun h9 => absurd h9 (by decide)) (fun _ => ?_)
      refine lv_iconst (v := 0) hx hb dMo_line_55 (by first | rfl | decide) ?_
      have e9 : FMo_line xk xa xb xc mn mK mA mB mC mL = (0, 2, mn, mK, mA, mB, mC, mL) := by simp only [FMo_line, if_neg h1, if_pos h2]
      exact W.iret (v := 0) hx hb hr (fun t ht hW => ⟨⟨0, (), rfl, (by show _ = _; rw [e9]), by rw [e9, ht]; exact hP, by rw [e9]; exact hD⟩, hS.F ht⟩) hS.2.2 dMo_line_56
    · refine lv_iload_n hx hb dMo_line_26 rfl (lv_at hl 1 rfl) ?_
      refine lv_if_ne (tgt := 44) hx hb dMo_line_27 (by decide) (fun h3 => ?_) (fun h3 => ?_)
      · refine lv_iconst (v := 0) hx hb dMo_line_44 (by first | rfl | decide) ?_
        refine va_put (D := D) (ci := 5) (v := .int 0) (ty := .int) (C := RMo) (T := TMo) (N := 27) hx hb hw pinMo tyMo tyMo_ok nmMo hown hE.1 hP hD hS 0 rfl rfl 0 (by decide) (hw _ wd_184) (fun _ h9 => h9) rfl (by decide +kernel) rfl rfl (Nat.le_of_ble_eq_true rfl) dMo_line_45 (fun H locs hP hD hS => ?_)
        have hP : va_P D vwCl (wM ad cI cS 0 mn me mo mt mx mp mz mu vn vz vc vv vp ve mK mA mB mC mf ml mc mL md mi mr mw) H := hP
        have hD : va_D _ (wM ad cI cS 0 mn me mo mt mx mp mz mu vn vz vc vv vp ve mK mA mB mC mf ml mc mL md mi mr mw) := hD
        refine lv_aload_n hx hb dMo_line_48 rfl (lv_at hl 0 rfl) ?_
        refine va_get (D := D) (ci := 5) (v := .int 0) (C := RMo) (T := TMo) (N := 27) hx hb hw pinMo hown hE.1 hP 0 rfl rfl 0 (by decide) (hw _ wd_184) (fun _ h9 => h9) rfl dMo_line_49 ?_
        refine lv_if_le (tgt := 57) hx hb dMo_line_52 (by decide) (fun _ => ?_) (fun h9 => absurd h9 (by decide))
        refine lv_aload_n hx hb dMo_line_57 rfl (lv_at hl 0 rfl) ?_
        refine va_get (D := D) (ci := 5) (v := .ref (ad 18)) (C := RMo) (T := TMo) (N := 27) hx hb hw pinMo hown hE.1 hP 0 rfl rfl 2 (by decide) (hw _ wd_273) (fun _ h9 => h9) rfl dMo_line_58 ?_
        refine lv_aload_n hx hb dMo_line_61 rfl (lv_at hl 0 rfl) ?_
        refine va_get (D := D) (ci := 5) (v := .int mn) (C := RMo) (T := TMo) (N := 27) hx hb hw pinMo hown hE.1 hP 0 rfl rfl 1 (by decide) (hw _ wd_265) (fun _ h9 => h9) rfl dMo_line_62 ?_
        refine lv_iload_n hx hb dMo_line_65 rfl (lv_at hl 1 rfl) ?_
        refine va_iast hx hb hE.1 hP hD hS 1 0 rfl rfl (pq_room hmn0 hmn1 (by assumption)) dMo_line_66 (fun H locs hP hD hS => ?_)
        have hP : va_P D vwCl (wM ad cI cS 0 mn me mo mt mx mp mz mu vn vz vc vv vp ve (upd mK mn.toNatClampNeg xk) mA mB mC mf ml mc mL md mi mr mw) H := hP
        have hD : va_D _ (wM ad cI cS 0 mn me mo mt mx mp mz mu vn vz vc vv vp ve (upd mK mn.toNatClampNeg xk) mA mB mC mf ml mc mL md mi mr mw) := hD
        refine lv_aload_n hx hb dMo_line_67 rfl (lv_at hl 0 rfl) ?_
        refine va_get (D := D) (ci := 5) (v := .ref (ad 19)) (C := RMo) (T := TMo) (N := 27) hx hb hw pinMo hown hE.1 hP 0 rfl rfl 3 (by decide) (hw _ wd_274) (fun _ h9 => h9) rfl dMo_line_68 ?_
        refine lv_aload_n hx hb dMo_line_71 rfl (lv_at hl 0 rfl) ?_
        refine va_get (D := D) (ci := 5) (v := .int mn) (C := RMo) (T := TMo) (N := 27) hx hb hw pinMo hown hE.1 hP 0 rfl rfl 1 (by decide) (hw _ wd_265) (fun _ h9 => h9) rfl dMo_line_72 ?_
        refine lv_iload_n hx hb dMo_line_75 rfl (lv_at hl 2 rfl) ?_
        refine va_iast hx hb hE.1 hP hD hS 2 0 rfl rfl (pq_room hmn0 hmn1 (by assumption)) dMo_line_76 (fun H locs hP hD hS => ?_)
        have hP : va_P D vwCl (wM ad cI cS 0 mn me mo mt mx mp mz mu vn vz vc vv vp ve (upd mK mn.toNatClampNeg xk) (upd mA mn.toNatClampNeg xa) mB mC mf ml mc mL md mi mr mw) H := hP
        have hD : va_D _ (wM ad cI cS 0 mn me mo mt mx mp mz mu vn vz vc vv vp ve (upd mK mn.toNatClampNeg xk) (upd mA mn.toNatClampNeg xa) mB mC mf ml mc mL md mi mr mw) := hD
        refine lv_aload_n hx hb dMo_line_77 rfl (lv_at hl 0 rfl) ?_
        refine va_get (D := D) (ci := 5) (v := .ref (ad 20)) (C := RMo) (T := TMo) (N := 27) hx hb hw pinMo hown hE.1 hP 0 rfl rfl 4 (by decide) (hw _ wd_275) (fun _ h9 => h9) rfl dMo_line_78 ?_
        refine lv_aload_n hx hb dMo_line_81 rfl (lv_at hl 0 rfl) ?_
        refine va_get (D := D) (ci := 5) (v := .int mn) (C := RMo) (T := TMo) (N := 27) hx hb hw pinMo hown hE.1 hP 0 rfl rfl 1 (by decide) (hw _ wd_265) (fun _ h9 => h9) rfl dMo_line_82 ?_
        refine lv_iload_n hx hb dMo_line_85 rfl (lv_at hl 3 rfl) ?_
        refine va_iast hx hb hE.1 hP hD hS 3 0 rfl rfl (pq_room hmn0 hmn1 (by assumption)) dMo_line_86 (fun H locs hP hD hS => ?_)
        have hP : va_P D vwCl (wM ad cI cS 0 mn me mo mt mx mp mz mu vn vz vc vv vp ve (upd mK mn.toNatClampNeg xk) (upd mA mn.toNatClampNeg xa) (upd mB mn.toNatClampNeg xb) mC mf ml mc mL md mi mr mw) H := hP
        have hD : va_D _ (wM ad cI cS 0 mn me mo mt mx mp mz mu vn vz vc vv vp ve (upd mK mn.toNatClampNeg xk) (upd mA mn.toNatClampNeg xa) (upd mB mn.toNatClampNeg xb) mC mf ml mc mL md mi mr mw) := hD
        refine lv_aload_n hx hb dMo_line_87 rfl (lv_at hl 0 rfl) ?_
        refine va_get (D := D) (ci := 5) (v := .ref (ad 21)) (C := RMo) (T := TMo) (N := 27) hx hb hw pinMo hown hE.1 hP 0 rfl rfl 5 (by decide) (hw _ wd_276) (fun _ h9 => h9) rfl dMo_line_88 ?_
        refine lv_aload_n hx hb dMo_line_91 rfl (lv_at hl 0 rfl) ?_
        refine va_get (D := D) (ci := 5) (v := .int mn) (C := RMo) (T := TMo) (N := 27) hx hb hw pinMo hown hE.1 hP 0 rfl rfl 1 (by decide) (hw _ wd_265) (fun _ h9 => h9) rfl dMo_line_92 ?_
        refine lv_iload hx hb dMo_line_95 (lv_at hl 4 rfl) ?_
        refine va_iast hx hb hE.1 hP hD hS 4 0 rfl rfl (pq_room hmn0 hmn1 (by assumption)) dMo_line_97 (fun H locs hP hD hS => ?_)
        have hP : va_P D vwCl (wM ad cI cS 0 mn me mo mt mx mp mz mu vn vz vc vv vp ve (upd mK mn.toNatClampNeg xk) (upd mA mn.toNatClampNeg xa) (upd mB mn.toNatClampNeg xb) (upd mC mn.toNatClampNeg xc) mf ml mc mL md mi mr mw) H := hP
        have hD : va_D _ (wM ad cI cS 0 mn me mo mt mx mp mz mu vn vz vc vv vp ve (upd mK mn.toNatClampNeg xk) (upd mA mn.toNatClampNeg xa) (upd mB mn.toNatClampNeg xb) (upd mC mn.toNatClampNeg xc) mf ml mc mL md mi mr mw) := hD
        refine lv_iload_n hx hb dMo_line_98 rfl (lv_at hl 1 rfl) ?_
        refine lv_if_ne (tgt := 112) hx hb dMo_line_99 (by decide) (fun _ => ?_) (fun h9 => absurd h9 h3)
        refine lv_aload_n hx hb dMo_line_112 rfl (lv_at hl 0 rfl) ?_
        refine lv_dup hx hb dMo_line_113 rfl ?_
        refine va_get (D := D) (ci := 5) (v := .int mn) (C := RMo) (T := TMo) (N := 27) hx hb hw pinMo hown hE.1 hP 0 rfl rfl 1 (by decide) (hw _ wd_265) (fun _ h9 => h9) rfl dMo_line_114 ?_
        refine lv_iconst (v := 1) hx hb dMo_line_117 (by first | rfl | decide) ?_
        refine lv_iadd hx hb dMo_line_118 ?_
        refine va_put (D := D) (ci := 5) (v := .int (mn + 1)) (ty := .int) (C := RMo) (T := TMo) (N := 27) hx hb hw pinMo tyMo tyMo_ok nmMo hown hE.1 hP hD hS 0 rfl rfl 1 (by decide) (hw _ wd_265) (fun _ h9 => h9) rfl (by decide +kernel) rfl rfl (Nat.le_of_ble_eq_true rfl) dMo_line_119 (fun H locs hP hD hS => ?_)
        have hP : va_P D vwCl (wM ad cI cS 0 (mn + 1) me mo mt mx mp mz mu vn vz vc vv vp ve (upd mK mn.toNatClampNeg xk) (upd mA mn.toNatClampNeg xa) (upd mB mn.toNatClampNeg xb) (upd mC mn.toNatClampNeg xc) mf ml mc mL md mi mr mw) H := hP
        have hD : va_D _ (wM ad cI cS 0 (mn + 1) me mo mt mx mp mz mu vn vz vc vv vp ve (upd mK mn.toNatClampNeg xk) (upd mA mn.toNatClampNeg xa) (upd mB mn.toNatClampNeg xb) (upd mC mn.toNatClampNeg xc) mf ml mc mL md mi mr mw) := hD
        refine lv_aload_n hx hb dMo_line_122 rfl (lv_at hl 0 rfl) ?_
        refine va_get (D := D) (ci := 5) (v := .int (mn + 1)) (C := RMo) (T := TMo) (N := 27) hx hb hw pinMo hown hE.1 hP 0 rfl rfl 1 (by decide) (hw _ wd_265) (fun _ h9 => h9) rfl dMo_line_123 ?_
        refine lv_iconst (v := 1) hx hb dMo_line_126 (by first | rfl | decide) ?_
        refine lv_isub hx hb dMo_line_127 ?_
        have e9 : FMo_line xk xa xb xc mn mK mA mB mC mL = ((mn + 1) - 1, 0, mn + 1, upd mK mn.toNatClampNeg xk, upd mA mn.toNatClampNeg xa, upd mB mn.toNatClampNeg xb, upd mC mn.toNatClampNeg xc, mL) := by simp only [FMo_line, if_neg h1, if_neg h2, if_neg h3]
        exact W.iret (v := (mn + 1) - 1) hx hb hr (fun t ht hW => ⟨⟨(mn + 1) - 1, (), rfl, (by show _ = _; rw [e9]), by rw [e9, ht]; exact hP, by rw [e9]; exact hD⟩, hS.F ht⟩) hS.2.2 dMo_line_128
      · refine lv_aload_n hx hb dMo_line_30 rfl (lv_at hl 0 rfl) ?_
        refine va_get (D := D) (ci := 5) (v := .ref (ad 25)) (C := RMo) (T := TMo) (N := 27) hx hb hw pinMo hown hE.1 hP 0 rfl rfl 9 (by decide) (hw _ wd_264) (fun _ h9 => h9) rfl dMo_line_31 ?_
        refine lv_iload_n hx hb dMo_line_34 rfl (lv_at hl 2 rfl) ?_
        refine va_iald hx hb hE.1 hP 8 0 rfl rfl (pq_fit0 (by assumption) (by assumption)) dMo_line_35 ?_
        refine lv_iconst (v := (-1)) hx hb dMo_line_36 (by first | rfl | decide) ?_
        refine lv_icmp_eq (tgt := 44) hx hb dMo_line_37 (by decide) (fun h5 => ?_) (fun h5 => ?_)
        · refine lv_iconst (v := 0) hx hb dMo_line_44 (by first | rfl | decide) ?_
          refine va_put (D := D) (ci := 5) (v := .int 0) (ty := .int) (C := RMo) (T := TMo) (N := 27) hx hb hw pinMo tyMo tyMo_ok nmMo hown hE.1 hP hD hS 0 rfl rfl 0 (by decide) (hw _ wd_184) (fun _ h9 => h9) rfl (by decide +kernel) rfl rfl (Nat.le_of_ble_eq_true rfl) dMo_line_45 (fun H locs hP hD hS => ?_)
          have hP : va_P D vwCl (wM ad cI cS 0 mn me mo mt mx mp mz mu vn vz vc vv vp ve mK mA mB mC mf ml mc mL md mi mr mw) H := hP
          have hD : va_D _ (wM ad cI cS 0 mn me mo mt mx mp mz mu vn vz vc vv vp ve mK mA mB mC mf ml mc mL md mi mr mw) := hD
          refine lv_aload_n hx hb dMo_line_48 rfl (lv_at hl 0 rfl) ?_
          refine va_get (D := D) (ci := 5) (v := .int 0) (C := RMo) (T := TMo) (N := 27) hx hb hw pinMo hown hE.1 hP 0 rfl rfl 0 (by decide) (hw _ wd_184) (fun _ h9 => h9) rfl dMo_line_49 ?_
          refine lv_if_le (tgt := 57) hx hb dMo_line_52 (by decide) (fun _ => ?_) (fun h9 => absurd h9 (by decide))
          refine lv_aload_n hx hb dMo_line_57 rfl (lv_at hl 0 rfl) ?_
          refine va_get (D := D) (ci := 5) (v := .ref (ad 18)) (C := RMo) (T := TMo) (N := 27) hx hb hw pinMo hown hE.1 hP 0 rfl rfl 2 (by decide) (hw _ wd_273) (fun _ h9 => h9) rfl dMo_line_58 ?_
          refine lv_aload_n hx hb dMo_line_61 rfl (lv_at hl 0 rfl) ?_
          refine va_get (D := D) (ci := 5) (v := .int mn) (C := RMo) (T := TMo) (N := 27) hx hb hw pinMo hown hE.1 hP 0 rfl rfl 1 (by decide) (hw _ wd_265) (fun _ h9 => h9) rfl dMo_line_62 ?_
          refine lv_iload_n hx hb dMo_line_65 rfl (lv_at hl 1 rfl) ?_
          refine va_iast hx hb hE.1 hP hD hS 1 0 rfl rfl (pq_room hmn0 hmn1 (by assumption)) dMo_line_66 (fun H locs hP hD hS => ?_)
          have hP : va_P D vwCl (wM ad cI cS 0 mn me mo mt mx mp mz mu vn vz vc vv vp ve (upd mK mn.toNatClampNeg xk) mA mB mC mf ml mc mL md mi mr mw) H := hP
          have hD : va_D _ (wM ad cI cS 0 mn me mo mt mx mp mz mu vn vz vc vv vp ve (upd mK mn.toNatClampNeg xk) mA mB mC mf ml mc mL md mi mr mw) := hD
          refine lv_aload_n hx hb dMo_line_67 rfl (lv_at hl 0 rfl) ?_
          refine va_get (D := D) (ci := 5) (v := .ref (ad 19)) (C := RMo) (T := TMo) (N := 27) hx hb hw pinMo hown hE.1 hP 0 rfl rfl 3 (by decide) (hw _ wd_274) (fun _ h9 => h9) rfl dMo_line_68 ?_
          refine lv_aload_n hx hb dMo_line_71 rfl (lv_at hl 0 rfl) ?_
          refine va_get (D := D) (ci := 5) (v := .int mn) (C := RMo) (T := TMo) (N := 27) hx hb hw pinMo hown hE.1 hP 0 rfl rfl 1 (by decide) (hw _ wd_265) (fun _ h9 => h9) rfl dMo_line_72 ?_
          refine lv_iload_n hx hb dMo_line_75 rfl (lv_at hl 2 rfl) ?_
          refine va_iast hx hb hE.1 hP hD hS 2 0 rfl rfl (pq_room hmn0 hmn1 (by assumption)) dMo_line_76 (fun H locs hP hD hS => ?_)
          have hP : va_P D vwCl (wM ad cI cS 0 mn me mo mt mx mp mz mu vn vz vc vv vp ve (upd mK mn.toNatClampNeg xk) (upd mA mn.toNatClampNeg xa) mB mC mf ml mc mL md mi mr mw) H := hP
          have hD : va_D _ (wM ad cI cS 0 mn me mo mt mx mp mz mu vn vz vc vv vp ve (upd mK mn.toNatClampNeg xk) (upd mA mn.toNatClampNeg xa) mB mC mf ml mc mL md mi mr mw) := hD
          refine lv_aload_n hx hb dMo_line_77 rfl (lv_at hl 0 rfl) ?_
          refine va_get (D := D) (ci := 5) (v := .ref (ad 20)) (C := RMo) (T := TMo) (N := 27) hx hb hw pinMo hown hE.1 hP 0 rfl rfl 4 (by decide) (hw _ wd_275) (fun _ h9 => h9) rfl dMo_line_78 ?_
          refine lv_aload_n hx hb dMo_line_81 rfl (lv_at hl 0 rfl) ?_
          refine va_get (D := D) (ci := 5) (v := .int mn) (C := RMo) (T := TMo) (N := 27) hx hb hw pinMo hown hE.1 hP 0 rfl rfl 1 (by decide) (hw _ wd_265) (fun _ h9 => h9) rfl dMo_line_82 ?_
          refine lv_iload_n hx hb dMo_line_85 rfl (lv_at hl 3 rfl) ?_
          refine va_iast hx hb hE.1 hP hD hS 3 0 rfl rfl (pq_room hmn0 hmn1 (by assumption)) dMo_line_86 (fun H locs hP hD hS => ?_)
          have hP : va_P D vwCl (wM ad cI cS 0 mn me mo mt mx mp mz mu vn vz vc vv vp ve (upd mK mn.toNatClampNeg xk) (upd mA mn.toNatClampNeg xa) (upd mB mn.toNatClampNeg xb) mC mf ml mc mL md mi mr mw) H := hP
          have hD : va_D _ (wM ad cI cS 0 mn me mo mt mx mp mz mu vn vz vc vv vp ve (upd mK mn.toNatClampNeg xk) (upd mA mn.toNatClampNeg xa) (upd mB mn.toNatClampNeg xb) mC mf ml mc mL md mi mr mw) := hD
          refine lv_aload_n hx hb dMo_line_87 rfl (lv_at hl 0 rfl) ?_
          refine va_get (D := D) (ci := 5) (v := .ref (ad 21)) (C := RMo) (T := TMo) (N := 27) hx hb hw pinMo hown hE.1 hP 0 rfl rfl 5 (by decide) (hw _ wd_276) (fun _ h9 => h9) rfl dMo_line_88 ?_
          refine lv_aload_n hx hb dMo_line_91 rfl (lv_at hl 0 rfl) ?_
          refine va_get (D := D) (ci := 5) (v := .int mn) (C := RMo) (T := TMo) (N := 27) hx hb hw pinMo hown hE.1 hP 0 rfl rfl 1 (by decide) (hw _ wd_265) (fun _ h9 => h9) rfl dMo_line_92 ?_
          refine lv_iload hx hb dMo_line_95 (lv_at hl 4 rfl) ?_
          refine va_iast hx hb hE.1 hP hD hS 4 0 rfl rfl (pq_room hmn0 hmn1 (by assumption)) dMo_line_97 (fun H locs hP hD hS => ?_)
          have hP : va_P D vwCl (wM ad cI cS 0 mn me mo mt mx mp mz mu vn vz vc vv vp ve (upd mK mn.toNatClampNeg xk) (upd mA mn.toNatClampNeg xa) (upd mB mn.toNatClampNeg xb) (upd mC mn.toNatClampNeg xc) mf ml mc mL md mi mr mw) H := hP
          have hD : va_D _ (wM ad cI cS 0 mn me mo mt mx mp mz mu vn vz vc vv vp ve (upd mK mn.toNatClampNeg xk) (upd mA mn.toNatClampNeg xa) (upd mB mn.toNatClampNeg xb) (upd mC mn.toNatClampNeg xc) mf ml mc mL md mi mr mw) := hD
          refine lv_iload_n hx hb dMo_line_98 rfl (lv_at hl 1 rfl) ?_
          refine lv_if_ne (tgt := 112) hx hb dMo_line_99 (by decide) (fun h9 => absurd h3 h9) (fun _ => ?_)
          refine lv_aload_n hx hb dMo_line_102 rfl (lv_at hl 0 rfl) ?_
          refine va_get (D := D) (ci := 5) (v := .ref (ad 25)) (C := RMo) (T := TMo) (N := 27) hx hb hw pinMo hown hE.1 hP 0 rfl rfl 9 (by decide) (hw _ wd_264) (fun _ h9 => h9) rfl dMo_line_103 ?_
          refine lv_iload_n hx hb dMo_line_106 rfl (lv_at hl 2 rfl) ?_
          refine lv_aload_n hx hb dMo_line_107 rfl (lv_at hl 0 rfl) ?_
          refine va_get (D := D) (ci := 5) (v := .int mn) (C := RMo) (T := TMo) (N := 27) hx hb hw pinMo hown hE.1 hP 0 rfl rfl 1 (by decide) (hw _ wd_265) (fun _ h9 => h9) rfl dMo_line_108 ?_
          refine va_iast hx hb hE.1 hP hD hS 8 0 rfl rfl (pq_fit0 (by assumption) (by assumption)) dMo_line_111 (fun H locs hP hD hS => ?_)
          have hP : va_P D vwCl (wM ad cI cS 0 mn me mo mt mx mp mz mu vn vz vc vv vp ve (upd mK mn.toNatClampNeg xk) (upd mA mn.toNatClampNeg xa) (upd mB mn.toNatClampNeg xb) (upd mC mn.toNatClampNeg xc) mf ml mc (upd mL xa.toNatClampNeg mn) md mi mr mw) H := hP
          have hD : va_D _ (wM ad cI cS 0 mn me mo mt mx mp mz mu vn vz vc vv vp ve (upd mK mn.toNatClampNeg xk) (upd mA mn.toNatClampNeg xa) (upd mB mn.toNatClampNeg xb) (upd mC mn.toNatClampNeg xc) mf ml mc (upd mL xa.toNatClampNeg mn) md mi mr mw) := hD
          refine lv_aload_n hx hb dMo_line_112 rfl (lv_at hl 0 rfl) ?_
          refine lv_dup hx hb dMo_line_113 rfl ?_
          refine va_get (D := D) (ci := 5) (v := .int mn) (C := RMo) (T := TMo) (N := 27) hx hb hw pinMo hown hE.1 hP 0 rfl rfl 1 (by decide) (hw _ wd_265) (fun _ h9 => h9) rfl dMo_line_114 ?_
          refine lv_iconst (v := 1) hx hb dMo_line_117 (by first | rfl | decide) ?_
          refine lv_iadd hx hb dMo_line_118 ?_
          refine va_put (D := D) (ci := 5) (v := .int (mn + 1)) (ty := .int) (C := RMo) (T := TMo) (N := 27) hx hb hw pinMo tyMo tyMo_ok nmMo hown hE.1 hP hD hS 0 rfl rfl 1 (by decide) (hw _ wd_265) (fun _ h9 => h9) rfl (by decide +kernel) rfl rfl (Nat.le_of_ble_eq_true rfl) dMo_line_119 (fun H locs hP hD hS => ?_)
          have hP : va_P D vwCl (wM ad cI cS 0 (mn + 1) me mo mt mx mp mz mu vn vz vc vv vp ve (upd mK mn.toNatClampNeg xk) (upd mA mn.toNatClampNeg xa) (upd mB mn.toNatClampNeg xb) (upd mC mn.toNatClampNeg xc) mf ml mc (upd mL xa.toNatClampNeg mn) md mi mr mw) H := hP
          have hD : va_D _ (wM ad cI cS 0 (mn + 1) me mo mt mx mp mz mu vn vz vc vv vp ve (upd mK mn.toNatClampNeg xk) (upd mA mn.toNatClampNeg xa) (upd mB mn.toNatClampNeg xb) (upd mC mn.toNatClampNeg xc) mf ml mc (upd mL xa.toNatClampNeg mn) md mi mr mw) := hD
          refine lv_aload_n hx hb dMo_line_122 rfl (lv_at hl 0 rfl) ?_
          refine va_get (D := D) (ci := 5) (v := .int (mn + 1)) (C := RMo) (T := TMo) (N := 27) hx hb hw pinMo hown hE.1 hP 0 rfl rfl 1 (by decide) (hw _ wd_265) (fun _ h9 => h9) rfl dMo_line_123 ?_
          refine lv_iconst (v := 1) hx hb dMo_line_126 (by first | rfl | decide) ?_
          refine lv_isub hx hb dMo_line_127 ?_
          have e9 : FMo_line xk xa xb xc mn mK mA mB mC mL = ((mn + 1) - 1, 0, mn + 1, upd mK mn.toNatClampNeg xk, upd mA mn.toNatClampNeg xa, upd mB mn.toNatClampNeg xb, upd mC mn.toNatClampNeg xc, upd mL xa.toNatClampNeg mn) := by simp only [FMo_line, if_neg h1, if_neg h2, if_pos h3, if_pos h5]
          exact W.iret (v := (mn + 1) - 1) hx hb hr (fun t ht hW => ⟨⟨(mn + 1) - 1, (), rfl, (by show _ = _; rw [e9]), by rw [e9, ht]; exact hP, by rw [e9]; exact hD⟩, hS.F ht⟩) hS.2.2 dMo_line_128
        · refine lv_iconst (v := 2) hx hb dMo_line_40 (by first | rfl | decide) ?_
          refine lv_goto (tgt := 45) hx hb dMo_line_41 (by decide) ?_
          refine va_put (D := D) (ci := 5) (v := .int 2) (ty := .int) (C := RMo) (T := TMo) (N := 27) hx hb hw pinMo tyMo tyMo_ok nmMo hown hE.1 hP hD hS 0 rfl rfl 0 (by decide) (hw _ wd_184) (fun _ h9 => h9) rfl (by decide +kernel) rfl rfl (Nat.le_of_ble_eq_true rfl) dMo_line_45 (fun H locs hP hD hS => ?_)
          have hP : va_P D vwCl (wM ad cI cS 2 mn me mo mt mx mp mz mu vn vz vc vv vp ve mK mA mB mC mf ml mc mL md mi mr mw) H := hP
          have hD : va_D _ (wM ad cI cS 2 mn me mo mt mx mp mz mu vn vz vc vv vp ve mK mA mB mC mf ml mc mL md mi mr mw) := hD
          refine lv_aload_n hx hb dMo_line_48 rfl (lv_at hl 0 rfl) ?_
          refine va_get (D := D) (ci := 5) (v := .int 2) (C := RMo) (T := TMo) (N := 27) hx hb hw pinMo hown hE.1 hP 0 rfl rfl 0 (by decide) (hw _ wd_184) (fun _ h9 => h9) rfl dMo_line_49 ?_
          refine lv_if_le (tgt := 57) hx hb dMo_line_52 (by decide) (fun h9 => absurd h9 (by decide)) (fun _ => ?_)
          refine lv_iconst (v := 0) hx hb dMo_line_55 (by first | rfl | decide) ?_
          have e9 : FMo_line xk xa xb xc mn mK mA mB mC mL = (0, 2, mn, mK, mA, mB, mC, mL) := by simp only [FMo_line, if_neg h1, if_neg h2, if_pos h3, if_neg h5]
          exact W.iret (v := 0) hx hb hr (fun t ht hW => ⟨⟨0, (), rfl, (by show _ = _; rw [e9]), by rw [e9, ht]; exact hP, by rw [e9]; exact hD⟩, hS.F ht⟩) hS.2.2 dMo_line_56
  · refine lv_iconst (v := 1) hx hb dMo_line_12 (by first | rfl | decide) ?_
    refine lv_goto (tgt := 45) hx hb dMo_line_13 (by decide) ?_
    refine va_put (D := D) (ci := 5) (v := .int 1) (ty := .int) (C := RMo) (T := TMo) (N := 27) hx hb hw pinMo tyMo tyMo_ok nmMo hown hE.1 hP hD hS 0 rfl rfl 0 (by decide) (hw _ wd_184) (fun _ h9 => h9) rfl (by decide +kernel) rfl rfl (Nat.le_of_ble_eq_true rfl) dMo_line_45 (fun H locs hP hD hS => ?_)
    have hP : va_P D vwCl (wM ad cI cS 1 mn me mo mt mx mp mz mu vn vz vc vv vp ve mK mA mB mC mf ml mc mL md mi mr mw) H := hP
    have hD : va_D _ (wM ad cI cS 1 mn me mo mt mx mp mz mu vn vz vc vv vp ve mK mA mB mC mf ml mc mL md mi mr mw) := hD
    refine lv_aload_n hx hb dMo_line_48 rfl (lv_at hl 0 rfl) ?_
    refine va_get (D := D) (ci := 5) (v := .int 1) (C := RMo) (T := TMo) (N := 27) hx hb hw pinMo hown hE.1 hP 0 rfl rfl 0 (by decide) (hw _ wd_184) (fun _ h9 => h9) rfl dMo_line_49 ?_
    refine lv_if_le (tgt := 57) hx hb dMo_line_52 (by decide) (fun h9 => absurd h9 (by decide)) (fun _ => ?_)
    refine lv_iconst (v := 0) hx hb dMo_line_55 (by first | rfl | decide) ?_
    have e9 : FMo_line xk xa xb xc mn mK mA mB mC mL = (0, 1, mn, mK, mA, mB, mC, mL) := by simp only [FMo_line, if_pos h1]
    exact W.iret (v := 0) hx hb hr (fun t ht hW => ⟨⟨0, (), rfl, (by show _ = _; rw [e9]), by rw [e9, ht]; exact hP, by rw [e9]; exact hD⟩, hS.F ht⟩) hS.2.2 dMo_line_56
