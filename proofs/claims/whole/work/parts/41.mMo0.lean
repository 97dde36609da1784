/-- a method with an answer that says something of the numbers behind it -/
def pq_IP (l : Launch) (y : MethodName) (ws : List Cond) (rm : Room) (D : va_G) (cI cS : ClassId) (av : List Value) (win : va_W) (P : Prop) (fr : Int32) (wout : va_W) : Prop :=
  ∀ sz : Nat, Met l y ws rm (pq_P D cI cS av win sz) (va_Qi (fun (r : Int32) (_ : Unit) => r = fr ∧ P) (pq_B D win sz (fun _ => wout)) (va_A win sz)) 0 0 (va_A win sz)
section PQF
variable {p : Program} {l : Launch} {e : Env} {R : Room} {s : State} {m : MethodId} {args : Array Value} {below : List Frame} {meth : Method} {c : Code} {H : Heap} {locs : List Loc} {cells slots : Nat} {Q : State → Prop}
theorem pq_callip {D : va_G} {ws wc wr w1 : va_W} {P : Prop} {A : Nat → Prop} {H0 : Heap} {mc ms pc : Nat} {ls : Array Slot} {st0 rest : List Value} {fr : Int32} {a : Array Value}
    (hP : va_P D vwCl ws H) (hD : va_D A ws) (hS : va_S A H0 H locs) (hA : ∀ q, H0.size ≤ q → A q)
    (isC isR : List Nat) (hC : isC.map (fun i => ws[i]?) = wc.map some) (hR : isR.map (fun i => ws[i]?) = wr.map some) (hn : va_nd isR = true) (hdis : ∀ i ∈ isR, i ∉ isC)
    (hr : va_Run p l e R s m args below meth c H locs cells slots mc ms (F0 m pc ls st0) rest (va_Qi (fun (r : Int32) (_ : Unit) => r = fr ∧ P) (pq_B D wc H.size (fun _ => w1)) (va_A wc H.size) a) (va_A wc H.size))
    (kk : P → ∀ (H1 : Heap) (locs1 : List Loc), va_P D vwCl (wr ++ w1) H1 → va_D A (wr ++ w1) → va_S A H0 H1 locs1 → W p l e R s m args below meth c H1 locs1 (cells + mc) (slots + ms) Q (F0 m (pc + 3) ls (.int fr :: rest))) :
    W p l e R s m args below meth c H locs cells slots Q (F0 m pc ls st0) := by
  have hFc := va_free (wc := wc) hD hS hA isC hC
  refine va_calli hr hS (fun q _ h => hFc q h) hFc (fun r u t H1 locs1 ht hvm hp hB hz hk hS1 => ?_)
  obtain ⟨hP1, hD1⟩ := hB
  rw [ht] at hP1
  obtain ⟨hP2, hD2⟩ := va_join hP hD isC isR hC hR hn hdis hk hFc hP1 hD1
  obtain ⟨hp, hq⟩ : r = fr ∧ P := hp
  subst hp
  exact kk hq H1 locs1 hP2 hD2 hS1
end PQF

theorem wd_184 : Cond.fieldLink RMo 50 RMo "code" "I" ∈ pq_ws := pq_memT 539 (by decide +kernel) (by decide +kernel)
theorem wd_185 : Cond.code yMo_outside cMo_outside 3 (some .boolean) ∈ pq_ws := pq_memT 634 (by decide +kernel) (by decide +kernel)
theorem wd_186 : Cond.initialized RMo ∈ pq_ws := pq_memT 7 (by decide +kernel) (by decide +kernel)
theorem wd_187 : Cond.methodLink RMo 53 yMo_outside ∈ pq_ws := pq_memT 632 (by decide +kernel) (by decide +kernel)
theorem wd_188 : Cond.static yMo_outside ∈ pq_ws := pq_memT 633 (by decide +kernel) (by decide +kernel)
theorem wd_189 : Cond.code yMo_isCondition cMo_isCondition 1 (some .boolean) ∈ pq_ws := pq_memT 640 (by decide +kernel) (by decide +kernel)
theorem wd_190 : Cond.methodLink RMo 61 yMo_isCondition ∈ pq_ws := pq_memT 638 (by decide +kernel) (by decide +kernel)
theorem wd_191 : Cond.static yMo_isCondition ∈ pq_ws := pq_memT 639 (by decide +kernel) (by decide +kernel)
theorem wd_192 : Cond.code yMo_isDeed cMo_isDeed 1 (some .boolean) ∈ pq_ws := pq_memT 637 (by decide +kernel) (by decide +kernel)
theorem wd_193 : Cond.methodLink RMo 57 yMo_isDeed ∈ pq_ws := pq_memT 635 (by decide +kernel) (by decide +kernel)
theorem wd_194 : Cond.static yMo_isDeed ∈ pq_ws := pq_memT 636 (by decide +kernel) (by decide +kernel)
theorem wd_195 : Cond.constantLong RMo 145 4294967295 ∈ pq_ws := pq_memT 734 (by decide +kernel) (by decide +kernel)
theorem wd_196 : Cond.fieldLink RMo 38 RMo "draft" "[I" ∈ pq_ws := pq_memT 554 (by decide +kernel) (by decide +kernel)
theorem wd_197 : Cond.constant RMo 71 65535 ∈ pq_ws := pq_memT 664 (by decide +kernel) (by decide +kernel)
theorem wd_198 : Cond.fieldLink RMo 34 RMo "refused" "I" ∈ pq_ws := pq_memT 552 (by decide +kernel) (by decide +kernel)
theorem wd_199 : Cond.fieldLink RMo 118 RMo "size" "I" ∈ pq_ws := pq_memT 555 (by decide +kernel) (by decide +kernel)
theorem wd_200 : Cond.fieldLink RMo 121 RMo "pools" "I" ∈ pq_ws := pq_memT 556 (by decide +kernel) (by decide +kernel)
theorem wd_201 : Cond.fieldLink RMo 127 RMo "n" "Z" ∈ pq_ws := pq_memT 560 (by decide +kernel) (by decide +kernel)
theorem wd_202 : Cond.fieldLink RMo 131 RMo "z" "Z" ∈ pq_ws := pq_memT 561 (by decide +kernel) (by decide +kernel)
theorem wd_203 : Cond.code yMo_plain cMo_plain 1 (some .long) ∈ pq_ws := pq_memT 733 (by decide +kernel) (by decide +kernel)
theorem wd_204 : Cond.methodLink RMo 147 yMo_plain ∈ pq_ws := pq_memT 731 (by decide +kernel) (by decide +kernel)
theorem wd_205 : Cond.static yMo_plain ∈ pq_ws := pq_memT 732 (by decide +kernel) (by decide +kernel)
theorem wd_206 : Cond.fieldLink RMo 134 RMo "c" "Z" ∈ pq_ws := pq_memT 562 (by decide +kernel) (by decide +kernel)
theorem wd_207 : Cond.fieldLink RMo 137 RMo "v" "Z" ∈ pq_ws := pq_memT 563 (by decide +kernel) (by decide +kernel)
theorem wd_208 : Cond.code yMo_result cMo_result 2 (some .int) ∈ pq_ws := pq_memT 726 (by decide +kernel) (by decide +kernel)
theorem wd_209 : Cond.methodLink RMo 151 yMo_result ∈ pq_ws := pq_memT 723 (by decide +kernel) (by decide +kernel)
theorem wd_210 : Cond.instanceMethod yMo_result ∈ pq_ws := pq_memT 725 (by decide +kernel) (by decide +kernel)
theorem wd_211 : Cond.selects RMo yMo_result yMo_result ∈ pq_ws := pq_mem (by decide +kernel) (by decide +kernel)
theorem wd_212 : Cond.fieldLink RMo 140 RMo "place" "I" ∈ pq_ws := pq_memT 564 (by decide +kernel) (by decide +kernel)
def FMo_thrown (mq : Int32) : Int32 := mq
set_option maxHeartbeats 4000000 in
set_option maxRecDepth 100000 in
theorem k_Mo_thrown (l : Launch) (D : va_G) (ad : Nat → Nat) (cI cS : ClassId) (mq : Int32) (mn : Int32) (me : Int32) (mo : Int32) (mt : Int32) (mx : Int32) (mp : Int32) (mz : Int32) (mu : Int32) (vn : Int32) (vz : Int32) (vc : Int32) (vv : Int32) (vp : Int32) (ve : Int32) (mK : Nat → Int32) (mA : Nat → Int32) (mB : Nat → Int32) (mC : Nat → Int32) (mf : Nat → Int32) (ml : Nat → Int32) (mc : Nat → Int32) (mL : Nat → Int32) (md : Nat → Int32) (mi : Nat → Int32) (mr : Nat → Int32) (mw : Nat → Int32) : pq_I l yMo_thrown (.code yMo_thrown cMo_thrown 1 (some .int) :: pq_ws) { frames := 0, cells := 0, slots := 0, locals := 0 } D cI cS [.ref (ad 17)] (wM ad cI cS mq mn me mo mt mx mp mz mu vn vz vc vv vp ve mK mA mB mC mf ml mc mL md mi mr mw) (FMo_thrown mq) (wM ad cI cS mq mn me mo mt mx mp mz mu vn vz vc vv vp ve mK mA mB mC mf ml mc mL md mi mr mw) := by
  intro sz
  refine Met.ofW (cc := cMo_thrown) (maxL := 1) (ret := (some .int)) (by decide) rfl ?_
  intro p e s m args below meth c s₁ B hml hv
  obtain ⟨rfl, hsz, hP, hD0, hE⟩ := hv
  have hx := B.exec
  have hb := B.bytes
  have hr := B.returns
  have hts := atoms_spec (ws := (.code yMo_thrown cMo_thrown 1 (some .int) :: pq_ws : List Cond)) B.pre
  have hw : ∀ w ∈ pq_ws, w.before _ s = true := fun w h => hts w (List.mem_cons_of_mem _ h)
  have hown : s.vm.findClass RMo = some m.cls := findClass_of_methodNamed B.named
  have hlocks := B.notSynchronized
  subst hsz
  have hD := hD0.self (sz := s.heap.size)
  have hA : ∀ q : Nat, s.heap.size ≤ q → va_A (wM ad cI cS mq mn me mo mt mx mp mz mu vn vz vc vv vp ve mK mA mB mC mf ml mc mL md mi mr mw) s.heap.size q := fun q h => Or.inr h
  have hS : va_S (va_A (wM ad cI cS mq mn me mo mt mx mp mz mu vn vz vc vv vp ve mK mA mB mC mf ml mc mL md mi mr mw) s.heap.size) s.heap s.heap [] := va_S.rf
  have hl := lv_entry ([.ref (ad 17)] : List Value) (n := 1) (Nat.le_of_ble_eq_true rfl)
  rw [lg_entry_eq]
  generalize (lg_sl ([.ref (ad 17)] : List Value) ++ List.replicate (1 - (lg_sl ([.ref (ad 17)] : List Value)).length) Slot.unset).toArray = ls at hl ⊢
  have hl : lv_has ls 1 [(0, .ref (ad 17))] := hl
  refine lv_aload_n hx hb dMo_thrown_0 rfl (lv_at hl 0 rfl) ?_
  refine va_get (D := D) (ci := 5) (v := .int mq) (C := RMo) (T := TMo) (N := 27) hx hb hw pinMo hown hE.1 hP 0 rfl rfl 0 (by decide) (hw _ wd_184) (fun _ h9 => h9) rfl dMo_thrown_1 ?_
  have e9 : FMo_thrown mq = mq := rfl
  exact W.iret (v := mq) hx hb hr (fun t ht hW => ⟨⟨mq, (), rfl, (by show _ = _; rw [e9]), by rw [ht]; exact hP, hD⟩, hS.F ht⟩) hS.2.2 dMo_thrown_4
def FMo_refuse (xw : Int32) : Int32 × Int32 := (0, xw)
set_option maxHeartbeats 4000000 in
set_option maxRecDepth 100000 in
theorem k_Mo_refuse (l : Launch) (D : va_G) (ad : Nat → Nat) (cI cS : ClassId) (xw : Int32) (mq : Int32) (mn : Int32) (me : Int32) (mo : Int32) (mt : Int32) (mx : Int32) (mp : Int32) (mz : Int32) (mu : Int32) (vn : Int32) (vz : Int32) (vc : Int32) (vv : Int32) (vp : Int32) (ve : Int32) (mK : Nat → Int32) (mA : Nat → Int32) (mB : Nat → Int32) (mC : Nat → Int32) (mf : Nat → Int32) (ml : Nat → Int32) (mc : Nat → Int32) (mL : Nat → Int32) (md : Nat → Int32) (mi : Nat → Int32) (mr : Nat → Int32) (mw : Nat → Int32) : pq_I l yMo_refuse (.code yMo_refuse cMo_refuse 2 (some .int) :: pq_ws) { frames := 0, cells := 0, slots := 0, locals := 0 } D cI cS [.ref (ad 17), .int xw] (wM ad cI cS mq mn me mo mt mx mp mz mu vn vz vc vv vp ve mK mA mB mC mf ml mc mL md mi mr mw) ((FMo_refuse xw).1) (wM ad cI cS ((FMo_refuse xw).2) mn me mo mt mx mp mz mu vn vz vc vv vp ve mK mA mB mC mf ml mc mL md mi mr mw) := by
  intro sz
  refine Met.ofW (cc := cMo_refuse) (maxL := 2) (ret := (some .int)) (by decide) rfl ?_
  intro p e s m args below meth c s₁ B hml hv
  obtain ⟨rfl, hsz, hP, hD0, hE⟩ := hv
  have hx := B.exec
  have hb := B.bytes
  have hr := B.returns
  have hts := atoms_spec (ws := (.code yMo_refuse cMo_refuse 2 (some .int) :: pq_ws : List Cond)) B.pre
  have hw : ∀ w ∈ pq_ws, w.before _ s = true := fun w h => hts w (List.mem_cons_of_mem _ h)
  have hown : s.vm.findClass RMo = some m.cls := findClass_of_methodNamed B.named
  have hlocks := B.notSynchronized
  subst hsz
  have hD := hD0.self (sz := s.heap.size)
  have hA : ∀ q : Nat, s.heap.size ≤ q → va_A (wM ad cI cS mq mn me mo mt mx mp mz mu vn vz vc vv vp ve mK mA mB mC mf ml mc mL md mi mr mw) s.heap.size q := fun q h => Or.inr h
  have hS : va_S (va_A (wM ad cI cS mq mn me mo mt mx mp mz mu vn vz vc vv vp ve mK mA mB mC mf ml mc mL md mi mr mw) s.heap.size) s.heap s.heap [] := va_S.rf
  have hl := lv_entry ([.ref (ad 17), .int xw] : List Value) (n := 2) (Nat.le_of_ble_eq_true rfl)
  rw [lg_entry_eq]
  generalize (lg_sl ([.ref (ad 17), .int xw] : List Value) ++ List.replicate (2 - (lg_sl ([.ref (ad 17), .int xw] : List Value)).length) Slot.unset).toArray = ls at hl ⊢
  have hl : lv_has ls 2 [(0, .ref (ad 17)), (1, .int xw)] := hl
  refine lv_aload_n hx hb dMo_refuse_0 rfl (lv_at hl 0 rfl) ?_
  refine lv_iload_n hx hb dMo_refuse_1 rfl (lv_at hl 1 rfl) ?_
  refine va_put (D := D) (ci := 5) (v := .int xw) (ty := .int) (C := RMo) (T := TMo) (N := 27) hx hb hw pinMo tyMo tyMo_ok nmMo hown hE.1 hP hD hS 0 rfl rfl 0 (by decide) (hw _ wd_184) (fun _ h9 => h9) rfl (by decide +kernel) rfl rfl (Nat.le_of_ble_eq_true rfl) dMo_refuse_2 (fun H locs hP hD hS => ?_)
  have hP : va_P D vwCl (wM ad cI cS xw mn me mo mt mx mp mz mu vn vz vc vv vp ve mK mA mB mC mf ml mc mL md mi mr mw) H := hP
  have hD : va_D _ (wM ad cI cS xw mn me mo mt mx mp mz mu vn vz vc vv vp ve mK mA mB mC mf ml mc mL md mi mr mw) := hD
  refine lv_iconst (v := 0) hx hb dMo_refuse_5 (by first | rfl | decide) ?_
  have e9 : FMo_refuse xw = (0, xw) := rfl
  exact W.iret (v := 0) hx hb hr (fun t ht hW => ⟨⟨0, (), rfl, (by show _ = _; rw [e9]), by rw [e9, ht]; exact hP, by rw [e9]; exact hD⟩, hS.F ht⟩) hS.2.2 dMo_refuse_6
def FMo_outside (xv : Int32) (xl : Int32) (xh : Int32) : Int32 := if xv < xl then 1 else if xv ≤ xh then 0 else 1
set_option maxRecDepth 20000 in
theorem b_Mo_outside (xv : Int32) (xl : Int32) (xh : Int32) : narrow .boolean (.int (FMo_outside xv xl xh)) = .int (FMo_outside xv xl xh) := by
  unfold FMo_outside
  repeat' (first | apply pq_bif | exact pq_b0 | exact pq_b1)
set_option maxHeartbeats 4000000 in
set_option maxRecDepth 100000 in
theorem k_Mo_outside (l : Launch) (D : va_G) (ad : Nat → Nat) (cI cS : ClassId) (xv : Int32) (xl : Int32) (xh : Int32) : pq_I l yMo_outside (.code yMo_outside cMo_outside 3 (some .boolean) :: pq_ws) { frames := 0, cells := 0, slots := 0, locals := 0 } D cI cS [.int xv, .int xl, .int xh] (wN ad cI cS) (FMo_outside xv xl xh) (wN ad cI cS) := by
  intro sz
  refine Met.ofW (cc := cMo_outside) (maxL := 3) (ret := (some .boolean)) (by decide) rfl ?_
  intro p e s m args below meth c s₁ B hml hv
  obtain ⟨rfl, hsz, hP, hD0, hE⟩ := hv
  have hx := B.exec
  have hb := B.bytes
  have hr := B.returns
  have hts := atoms_spec (ws := (.code yMo_outside cMo_outside 3 (some .boolean) :: pq_ws : List Cond)) B.pre
  have hw : ∀ w ∈ pq_ws, w.before _ s = true := fun w h => hts w (List.mem_cons_of_mem _ h)
  have hown : s.vm.findClass RMo = some m.cls := findClass_of_methodNamed B.named
  have hlocks := B.notSynchronized
  subst hsz
  have hD := hD0.self (sz := s.heap.size)
  have hA : ∀ q : Nat, s.heap.size ≤ q → va_A (wN ad cI cS) s.heap.size q := fun q h => Or.inr h
  have hS : va_S (va_A (wN ad cI cS) s.heap.size) s.heap s.heap [] := va_S.rf
  have hl := lv_entry ([.int xv, .int xl, .int xh] : List Value) (n := 3) (Nat.le_of_ble_eq_true rfl)
  rw [lg_entry_eq]
  generalize (lg_sl ([.int xv, .int xl, .int xh] : List Value) ++ List.replicate (3 - (lg_sl ([.int xv, .int xl, .int xh] : List Value)).length) Slot.unset).toArray = ls at hl ⊢
  have hl : lv_has ls 3 [(0, .int xv), (1, .int xl), (2, .int xh)] := hl
  refine lv_iload_n hx hb dMo_outside_0 rfl (lv_at hl 0 rfl) ?_
  refine lv_iload_n hx hb dMo_outside_1 rfl (lv_at hl 1 rfl) ?_
  refine lv_icmp_lt (tgt := 10) hx hb dMo_outside_2 (by decide) (fun h1 => ?_) (fun h1 => ?_)
  · refine lv_iconst (v := 1) hx hb dMo_outside_10 (by first | rfl | decide) ?_
    refine lv_goto (tgt := 15) hx hb dMo_outside_11 (by decide) ?_
    have e9 : FMo_outside xv xl xh = 1 := by simp only [FMo_outside, if_pos h1]
    exact W.zret (v := 1) hx hb hr rfl (fun t ht hW => ⟨⟨1, (), rfl, (by show _ = _; rw [e9]), by rw [ht]; exact hP, hD⟩, hS.F ht⟩) hS.2.2 dMo_outside_15
  · refine lv_iload_n hx hb dMo_outside_5 rfl (lv_at hl 0 rfl) ?_
    refine lv_iload_n hx hb dMo_outside_6 rfl (lv_at hl 2 rfl) ?_
    refine lv_icmp_le (tgt := 14) hx hb dMo_outside_7 (by decide) (fun h2 => ?_) (fun h2 => ?_)
    · refine lv_iconst (v := 0) hx hb dMo_outside_14 (by first | rfl | decide) ?_
      have e9 : FMo_outside xv xl xh = 0 := by simp only [FMo_outside, if_neg h1, if_pos h2]
      exact W.zret (v := 0) hx hb hr rfl (fun t ht hW => ⟨⟨0, (), rfl, (by show _ = _; rw [e9]), by rw [ht]; exact hP, hD⟩, hS.F ht⟩) hS.2.2 dMo_outside_15
    · refine lv_iconst (v := 1) hx hb dMo_outside_10 (by first | rfl | decide) ?_
      refine lv_goto (tgt := 15) hx hb dMo_outside_11 (by decide) ?_
      have e9 : FMo_outside xv xl xh = 1 := by simp only [FMo_outside, if_neg h1, if_neg h2]
      exact W.zret (v := 1) hx hb hr rfl (fun t ht hW => ⟨⟨1, (), rfl, (by show _ = _; rw [e9]), by rw [ht]; exact hP, hD⟩, hS.F ht⟩) hS.2.2 dMo_outside_15
def FMo_isDeed (xd : Int32) : Int32 := if xd = 0 then 1 else if xd = 1 then 1 else if xd = 10 then 1 else if xd ≤ 11 then 0 else if 16 ≤ xd then 0 else 1
set_option maxRecDepth 20000 in
theorem b_Mo_isDeed (xd : Int32) : narrow .boolean (.int (FMo_isDeed xd)) = .int (FMo_isDeed xd) := by
  unfold FMo_isDeed
  repeat' (first | apply pq_bif | exact pq_b0 | exact pq_b1)
set_option maxHeartbeats 4000000 in
set_option maxRecDepth 100000 in
theorem k_Mo_isDeed (l : Launch) (D : va_G) (ad : Nat → Nat) (cI cS : ClassId) (xd : Int32) : pq_I l yMo_isDeed (.code yMo_isDeed cMo_isDeed 1 (some .boolean) :: pq_ws) { frames := 0, cells := 0, slots := 0, locals := 0 } D cI cS [.int xd] (wN ad cI cS) (FMo_isDeed xd) (wN ad cI cS) := by
  intro sz
  refine Met.ofW (cc := cMo_isDeed) (maxL := 1) (ret := (some .boolean)) (by decide) rfl ?_
  intro p e s m args below meth c s₁ B hml hv
  obtain ⟨rfl, hsz, hP, hD0, hE⟩ := hv
  have hx := B.exec
  have hb := B.bytes
  have hr := B.returns
  have hts := atoms_spec (ws := (.code yMo_isDeed cMo_isDeed 1 (some .boolean) :: pq_ws : List Cond)) B.pre
  have hw : ∀ w ∈ pq_ws, w.before _ s = true := fun w h => hts w (List.mem_cons_of_mem _ h)
  have hown : s.vm.findClass RMo = some m.cls := findClass_of_methodNamed B.named
  have hlocks := B.notSynchronized
  subst hsz
  have hD := hD0.self (sz := s.heap.size)
  have hA : ∀ q : Nat, s.heap.size ≤ q → va_A (wN ad cI cS) s.heap.size q := fun q h => Or.inr h
  have hS : va_S (va_A (wN ad cI cS) s.heap.size) s.heap s.heap [] := va_S.rf
  have hl := lv_entry ([.int xd] : List Value) (n := 1) (Nat.le_of_ble_eq_true rfl)
  rw [lg_entry_eq]
  generalize (lg_sl ([.int xd] : List Value) ++ List.replicate (1 - (lg_sl ([.int xd] : List Value)).length) Slot.unset).toArray = ls at hl ⊢
  have hl : lv_has ls 1 [(0, .int xd)] := hl
  refine lv_iload_n hx hb dMo_isDeed_0 rfl (lv_at hl 0 rfl) ?_
  refine lv_if_eq (tgt := 27) hx hb dMo_isDeed_1 (by decide) (fun h1 => ?_) (fun h1 => ?_)
  · refine lv_iconst (v := 1) hx hb dMo_isDeed_27 (by first | rfl | decide) ?_
    refine lv_goto (tgt := 32) hx hb dMo_isDeed_28 (by decide) ?_
    have e9 : FMo_isDeed xd = 1 := by simp only [FMo_isDeed, if_pos h1]
    exact W.zret (v := 1) hx hb hr rfl (fun t ht hW => ⟨⟨1, (), rfl, (by show _ = _; rw [e9]), by rw [ht]; exact hP, hD⟩, hS.F ht⟩) hS.2.2 dMo_isDeed_32
  · refine lv_iload_n hx hb dMo_isDeed_4 rfl (lv_at hl 0 rfl) ?_
    refine lv_iconst (v := 1) hx hb dMo_isDeed_5 (by first | rfl | decide) ?_
    refine lv_icmp_eq (tgt := 27) hx hb dMo_isDeed_6 (by decide) (fun h2 => ?_) (fun h2 => ?_)
    · refine lv_iconst (v := 1) hx hb dMo_isDeed_27 (by first | rfl | decide) ?_
      refine lv_goto (tgt := 32) hx hb dMo_isDeed_28 (by decide) ?_
      have e9 : FMo_isDeed xd = 1 := by simp only [FMo_isDeed, if_neg h1, if_pos h2]
      exact W.zret (v := 1) hx hb hr rfl (fun t ht hW => ⟨⟨1, (), rfl, (by show _ = _; rw [e9]), by rw [ht]; exact hP, hD⟩, hS.F ht⟩) hS.2.2 dMo_isDeed_32
    · refine lv_iload_n hx hb dMo_isDeed_9 rfl (lv_at hl 0 rfl) ?_
      refine lv_bipush (v := 10) hx hb dMo_isDeed_10 (by first | rfl | decide) ?_
      refine lv_icmp_eq (tgt := 27) hx hb dMo_isDeed_12 (by decide) (fun h3 => ?_) (fun h3 => ?_)
      · refine lv_iconst (v := 1) hx hb dMo_isDeed_27 (by first | rfl | decide) ?_
        refine lv_goto (tgt := 32) hx hb dMo_isDeed_28 (by decide) ?_
        have e9 : FMo_isDeed xd = 1 := by simp only [FMo_isDeed, if_neg h1, if_neg h2, if_pos h3]
        exact W.zret (v := 1) hx hb hr rfl (fun t ht hW => ⟨⟨1, (), rfl, (by show _ = _; rw [e9]), by rw [ht]; exact hP, hD⟩, hS.F ht⟩) hS.2.2 dMo_isDeed_32
      · refine lv_iload_n hx hb dMo_isDeed_15 rfl (lv_at hl 0 rfl) ?_
        refine lv_bipush (v := 11) hx hb dMo_isDeed_16 (by first | rfl | decide) ?_
        refine lv_icmp_le (tgt := 31) hx hb dMo_isDeed_18 (by decide) (fun h4 => ?_) (fun h4 => ?_)
        · refine lv_iconst (v := 0) hx hb dMo_isDeed_31 (by first | rfl | decide) ?_
          have e9 : FMo_isDeed xd = 0 := by simp only [FMo_isDeed, if_neg h1, if_neg h2, if_neg h3, if_pos h4]
          exact W.zret (v := 0) hx hb hr rfl (fun t ht hW => ⟨⟨0, (), rfl, (by show _ = _; rw [e9]), by rw [ht]; exact hP, hD⟩, hS.F ht⟩) hS.2.2 dMo_isDeed_32
        · refine lv_iload_n hx hb dMo_isDeed_21 rfl (lv_at hl 0 rfl) ?_
          refine lv_bipush (v := 16) hx hb dMo_isDeed_22 (by first | rfl | decide) ?_
          refine lv_icmp_ge (tgt := 31) hx hb dMo_isDeed_24 (by decide) (fun h5 => ?_) (fun h5 => ?_)
          · refine lv_iconst (v := 0) hx hb dMo_isDeed_31 (by first | rfl | decide) ?_
            have e9 : FMo_isDeed xd = 0 := by simp only [FMo_isDeed, if_neg h1, if_neg h2, if_neg h3, if_neg h4, if_pos h5]
            exact W.zret (v := 0) hx hb hr rfl (fun t ht hW => ⟨⟨0, (), rfl, (by show _ = _; rw [e9]), by rw [ht]; exact hP, hD⟩, hS.F ht⟩) hS.2.2 dMo_isDeed_32
          · refine lv_iconst (v := 1) hx hb dMo_isDeed_27 (by first | rfl | decide) ?_
            refine lv_goto (tgt := 32) hx hb dMo_isDeed_28 (by decide) ?_
            have e9 : FMo_isDeed xd = 1 := by simp only [FMo_isDeed, if_neg h1, if_neg h2, if_neg h3, if_neg h4, if_neg h5]
            exact W.zret (v := 1) hx hb hr rfl (fun t ht hW => ⟨⟨1, (), rfl, (by show _ = _; rw [e9]), by rw [ht]; exact hP, hD⟩, hS.F ht⟩) hS.2.2 dMo_isDeed_32
def FMo_isCondition (xq : Int32) : Int32 := if xq < 0 then if xq ≤ 9 then 0 else if 14 ≤ xq then 0 else 1 else if xq < 6 then 1 else if xq ≤ 9 then 0 else if 14 ≤ xq then 0 else 1
set_option maxRecDepth 20000 in
theorem b_Mo_isCondition (xq : Int32) : narrow .boolean (.int (FMo_isCondition xq)) = .int (FMo_isCondition xq) := by
  unfold FMo_isCondition
  repeat' (first | apply pq_bif | exact pq_b0 | exact pq_b1)
set_option maxHeartbeats 4000000 in
set_option maxRecDepth 100000 in
theorem k_Mo_isCondition (l : Launch) (D : va_G) (ad : Nat → Nat) (cI cS : ClassId) (xq : Int32) : pq_I l yMo_isCondition (.code yMo_isCondition cMo_isCondition 1 (some .boolean) :: pq_ws) { frames := 0, cells := 0, slots := 0, locals := 0 } D cI cS [.int xq] (wN ad cI cS) (FMo_isCondition xq) (wN ad cI cS) := by
  intro sz
  refine Met.ofW (cc := cMo_isCondition) (maxL := 1) (ret := (some .boolean)) (by decide) rfl ?_
  intro p e s m args below meth c s₁ B hml hv
  obtain ⟨rfl, hsz, hP, hD0, hE⟩ := hv
  have hx := B.exec
  have hb := B.bytes
  have hr := B.returns
  have hts := atoms_spec (ws := (.code yMo_isCondition cMo_isCondition 1 (some .boolean) :: pq_ws : List Cond)) B.pre
  have hw : ∀ w ∈ pq_ws, w.before _ s = true := fun w h => hts w (List.mem_cons_of_mem _ h)
  have hown : s.vm.findClass RMo = some m.cls := findClass_of_methodNamed B.named
  have hlocks := B.notSynchronized
  subst hsz
  have hD := hD0.self (sz := s.heap.size)
  have hA : ∀ q : Nat, s.heap.size ≤ q → va_A (wN ad cI cS) s.heap.size q := fun q h => Or.inr h
  have hS : va_S (va_A (wN ad cI cS) s.heap.size) s.heap s.heap [] := va_S.rf
  have hl := lv_entry ([.int xq] : List Value) (n := 1) (Nat.le_of_ble_eq_true rfl)
  rw [lg_entry_eq]
  generalize (lg_sl ([.int xq] : List Value) ++ List.replicate (1 - (lg_sl ([.int xq] : List Value)).length) Slot.unset).toArray = ls at hl ⊢
  have hl : lv_has ls 1 [(0, .int xq)] := hl
  refine lv_iload_n hx hb dMo_isCondition_0 rfl (lv_at hl 0 rfl) ?_
  refine lv_if_lt (tgt := 10) hx hb dMo_isCondition_1 (by decide) (fun h1 => ?_) (fun h1 => ?_)
  · refine lv_iload_n hx hb dMo_isCondition_10 rfl (lv_at hl 0 rfl) ?_
    refine lv_bipush (v := 9) hx hb dMo_isCondition_11 (by first | rfl | decide) ?_
    refine lv_icmp_le (tgt := 26) hx hb dMo_isCondition_13 (by decide) (fun h2 => ?_) (fun h2 => ?_)
    · refine lv_iconst (v := 0) hx hb dMo_isCondition_26 (by first | rfl | decide) ?_
      have e9 : FMo_isCondition xq = 0 := by simp only [FMo_isCondition, if_pos h1, if_pos h2]
      exact W.zret (v := 0) hx hb hr rfl (fun t ht hW => ⟨⟨0, (), rfl, (by show _ = _; rw [e9]), by rw [ht]; exact hP, hD⟩, hS.F ht⟩) hS.2.2 dMo_isCondition_27
    · refine lv_iload_n hx hb dMo_isCondition_16 rfl (lv_at hl 0 rfl) ?_
      refine lv_bipush (v := 14) hx hb dMo_isCondition_17 (by first | rfl | decide) ?_
      refine lv_icmp_ge (tgt := 26) hx hb dMo_isCondition_19 (by decide) (fun h3 => ?_) (fun h3 => ?_)
      · refine lv_iconst (v := 0) hx hb dMo_isCondition_26 (by first | rfl | decide) ?_
        have e9 : FMo_isCondition xq = 0 := by simp only [FMo_isCondition, if_pos h1, if_neg h2, if_pos h3]
        exact W.zret (v := 0) hx hb hr rfl (fun t ht hW => ⟨⟨0, (), rfl, (by show _ = _; rw [e9]), by rw [ht]; exact hP, hD⟩, hS.F ht⟩) hS.2.2 dMo_isCondition_27
      · refine lv_iconst (v := 1) hx hb dMo_isCondition_22 (by first | rfl | decide) ?_
        refine lv_goto (tgt := 27) hx hb dMo_isCondition_23 (by decide) ?_
        have e9 : FMo_isCondition xq = 1 := by simp only [FMo_isCondition, if_pos h1, if_neg h2, if_neg h3]
        exact W.zret (v := 1) hx hb hr rfl (fun t ht hW => ⟨⟨1, (), rfl, (by show _ = _; rw [e9]), by rw [ht]; exact hP, hD⟩, hS.F ht⟩) hS.2.2 dMo_isCondition_27
  · refine lv_iload_n hx hb dMo_isCondition_4 rfl (lv_at hl 0 rfl) ?_
    refine lv_bipush (v := 6) hx hb dMo_isCondition_5 (by first | rfl | decide) ?_
    refine lv_icmp_lt (tgt := 22) hx hb dMo_isCondition_7 (by decide) (fun h4 => ?_) (fun h4 => ?_)
    · refine lv_iconst (v := 1) hx hb dMo_isCondition_22 (by first | rfl | decide) ?_
      refine lv_goto (tgt := 27) hx hb dMo_isCondition_23 (by decide) ?_
      have e9 : FMo_isCondition xq = 1 := by simp only [FMo_isCondition, if_neg h1, if_pos h4]
      exact W.zret (v := 1) hx hb hr rfl (fun t ht hW => ⟨⟨1, (), rfl, (by show _ = _; rw [e9]), by rw [ht]; exact hP, hD⟩, hS.F ht⟩) hS.2.2 dMo_isCondition_27
    · refine lv_iload_n hx hb dMo_isCondition_10 rfl (lv_at hl 0 rfl) ?_
      refine lv_bipush (v := 9) hx hb dMo_isCondition_11 (by first | rfl | decide) ?_
      refine lv_icmp_le (tgt := 26) hx hb dMo_isCondition_13 (by decide) (fun h5 => ?_) (fun h5 => ?_)
      · refine lv_iconst (v := 0) hx hb dMo_isCondition_26 (by first | rfl | decide) ?_
        have e9 : FMo_isCondition xq = 0 := by simp only [FMo_isCondition, if_neg h1, if_neg h4, if_pos h5]
        exact W.zret (v := 0) hx hb hr rfl (fun t ht hW => ⟨⟨0, (), rfl, (by show _ = _; rw [e9]), by rw [ht]; exact hP, hD⟩, hS.F ht⟩) hS.2.2 dMo_isCondition_27
      · refine lv_iload_n hx hb dMo_isCondition_16 rfl (lv_at hl 0 rfl) ?_
        refine lv_bipush (v := 14) hx hb dMo_isCondition_17 (by first | rfl | decide) ?_
        refine lv_icmp_ge (tgt := 26) hx hb dMo_isCondition_19 (by decide) (fun h6 => ?_) (fun h6 => ?_)
        · refine lv_iconst (v := 0) hx hb dMo_isCondition_26 (by first | rfl | decide) ?_
          have e9 : FMo_isCondition xq = 0 := by simp only [FMo_isCondition, if_neg h1, if_neg h4, if_neg h5, if_pos h6]
          exact W.zret (v := 0) hx hb hr rfl (fun t ht hW => ⟨⟨0, (), rfl, (by show _ = _; rw [e9]), by rw [ht]; exact hP, hD⟩, hS.F ht⟩) hS.2.2 dMo_isCondition_27
        · refine lv_iconst (v := 1) hx hb dMo_isCondition_22 (by first | rfl | decide) ?_
          refine lv_goto (tgt := 27) hx hb dMo_isCondition_23 (by decide) ?_
          have e9 : FMo_isCondition xq = 1 := by simp only [FMo_isCondition, if_neg h1, if_neg h4, if_neg h5, if_neg h6]
          exact W.zret (v := 1) hx hb hr rfl (fun t ht hW => ⟨⟨1, (), rfl, (by show _ = _; rw [e9]), by rw [ht]; exact hP, hD⟩, hS.F ht⟩) hS.2.2 dMo_isCondition_27
def FMo_fits (xk : Int32) (xa : Int32) (xb : Int32) (xc : Int32) : Int32 := if (FMo_outside xa 0 7) = 0 then if (FMo_outside xb 0 7) = 0 then if xk = 0 then if (FMo_outside xa 0 15) = 0 then 1 else 0 else if xk = 11 then if (FMo_outside xa 0 15) = 0 then 1 else 0 else if xk < 1 then if xk = 5 then if (FMo_outside xc 0 7) = 0 then 1 else 0 else if xk = 6 then if (FMo_outside xc 0 7) = 0 then 1 else 0 else if xk = 7 then if (FMo_isDeed xc) = 0 then 0 else 1 else if xk = 8 then if (FMo_outside xc 0 31) = 0 then 1 else 0 else if xk = 9 then if (FMo_outside xc 0 31) = 0 then 1 else 0 else if xk = 10 then 1 else if xk = 12 then if (FMo_outside xa 0 15) = 0 then if (FMo_isCondition xc) = 0 then 0 else 1 else 0 else if xk = 13 then if (FMo_outside xa 1 40) = 0 then 1 else 0 else if xk = 14 then 1 else if xk = 15 then 1 else 0 else if 4 < xk then if xk = 5 then if (FMo_outside xc 0 7) = 0 then 1 else 0 else if xk = 6 then if (FMo_outside xc 0 7) = 0 then 1 else 0 else if xk = 7 then if (FMo_isDeed xc) = 0 then 0 else 1 else if xk = 8 then if (FMo_outside xc 0 31) = 0 then 1 else 0 else if xk = 9 then if (FMo_outside xc 0 31) = 0 then 1 else 0 else if xk = 10 then 1 else if xk = 12 then if (FMo_outside xa 0 15) = 0 then if (FMo_isCondition xc) = 0 then 0 else 1 else 0 else if xk = 13 then if (FMo_outside xa 1 40) = 0 then 1 else 0 else if xk = 14 then 1 else if xk = 15 then 1 else 0 else if (FMo_outside xb 0 255) = 0 then 1 else 0 else if xk = 0 then if (FMo_outside xa 0 15) = 0 then 1 else 0 else if xk = 11 then if (FMo_outside xa 0 15) = 0 then 1 else 0 else if xk < 1 then if xk = 5 then 0 else if xk = 6 then 0 else if xk = 7 then 0 else if xk = 8 then 0 else if xk = 9 then 0 else if xk = 10 then 1 else if xk = 12 then if (FMo_outside xa 0 15) = 0 then if (FMo_isCondition xc) = 0 then 0 else 1 else 0 else if xk = 13 then if (FMo_outside xa 1 40) = 0 then 1 else 0 else if xk = 14 then 1 else if xk = 15 then 1 else 0 else if 4 < xk then if xk = 5 then 0 else if xk = 6 then 0 else if xk = 7 then 0 else if xk = 8 then 0 else if xk = 9 then 0 else if xk = 10 then 1 else if xk = 12 then if (FMo_outside xa 0 15) = 0 then if (FMo_isCondition xc) = 0 then 0 else 1 else 0 else if xk = 13 then if (FMo_outside xa 1 40) = 0 then 1 else 0 else if xk = 14 then 1 else if xk = 15 then 1 else 0 else if (FMo_outside xb 0 255) = 0 then 1 else 0 else if (FMo_outside xb 0 7) = 0 then if xk = 0 then if (FMo_outside xa 0 15) = 0 then 1 else 0 else if xk = 11 then if (FMo_outside xa 0 15) = 0 then 1 else 0 else if xk < 1 then if xk = 5 then 0 else if xk = 6 then 0 else if xk = 7 then 0 else if xk = 8 then 0 else if xk = 9 then 0 else if xk = 10 then 0 else if xk = 12 then if (FMo_outside xa 0 15) = 0 then if (FMo_isCondition xc) = 0 then 0 else 1 else 0 else if xk = 13 then if (FMo_outside xa 1 40) = 0 then 1 else 0 else if xk = 14 then 1 else if xk = 15 then 1 else 0 else if 4 < xk then if xk = 5 then 0 else if xk = 6 then 0 else if xk = 7 then 0 else if xk = 8 then 0 else if xk = 9 then 0 else if xk = 10 then 0 else if xk = 12 then if (FMo_outside xa 0 15) = 0 then if (FMo_isCondition xc) = 0 then 0 else 1 else 0 else if xk = 13 then if (FMo_outside xa 1 40) = 0 then 1 else 0 else if xk = 14 then 1 else if xk = 15 then 1 else 0 else 0 else if xk = 0 then if (FMo_outside xa 0 15) = 0 then 1 else 0 else if xk = 11 then if (FMo_outside xa 0 15) = 0 then 1 else 0 else if xk < 1 then if xk = 5 then 0 else if xk = 6 then 0 else if xk = 7 then 0 else if xk = 8 then 0 else if xk = 9 then 0 else if xk = 10 then 0 else if xk = 12 then if (FMo_outside xa 0 15) = 0 then if (FMo_isCondition xc) = 0 then 0 else 1 else 0 else if xk = 13 then if (FMo_outside xa 1 40) = 0 then 1 else 0 else if xk = 14 then 1 else if xk = 15 then 1 else 0 else if 4 < xk then if xk = 5 then 0 else if xk = 6 then 0 else if xk = 7 then 0 else if xk = 8 then 0 else if xk = 9 then 0 else if xk = 10 then 0 else if xk = 12 then if (FMo_outside xa 0 15) = 0 then if (FMo_isCondition xc) = 0 then 0 else 1 else 0 else if xk = 13 then if (FMo_outside xa 1 40) = 0 then 1 else 0 else if xk = 14 then 1 else if xk = 15 then 1 else 0 else 0
set_option maxRecDepth 20000 in
theorem b_Mo_fits (xk : Int32) (xa : Int32) (xb : Int32) (xc : Int32) : narrow .boolean (.int (FMo_fits xk xa xb xc)) = .int (FMo_fits xk xa xb xc) := by
  unfold FMo_fits
  repeat' (first | apply pq_bif | exact pq_b0 | exact pq_b1 | apply b_Mo_isCondition | apply b_Mo_isDeed | apply b_Mo_outside)
set_option maxHeartbeats 4000000 in
set_option maxRecDepth 100000 in
theorem k_Mo_fits (l : Launch) (D : va_G) (ad : Nat → Nat) (cI cS : ClassId) (xk : Int32) (xa : Int32) (xb : Int32) (xc : Int32) : pq_I l yMo_fits (.code yMo_fits cMo_fits 6 (some .boolean) :: pq_ws) { frames := 1, cells := 0, slots := 0, locals := 22 } D cI cS [.int xk, .int xa, .int xb, .int xc] (wN ad cI cS) (FMo_fits xk xa xb xc) (wN ad cI cS) := by
  intro sz
  refine Met.ofW (cc := cMo_fits) (maxL := 6) (ret := (some .boolean)) (by decide) rfl ?_
  intro p e s m args below meth c s₁ B hml hv
  obtain ⟨rfl, hsz, hP, hD0, hE⟩ := hv
  have hx := B.exec
  have hb := B.bytes
  have hr := B.returns
  have hts := atoms_spec (ws := (.code yMo_fits cMo_fits 6 (some .boolean) :: pq_ws : List Cond)) B.pre
  have hw : ∀ w ∈ pq_ws, w.before _ s = true := fun w h => hts w (List.mem_cons_of_mem _ h)
  have hown : s.vm.findClass RMo = some m.cls := findClass_of_methodNamed B.named
  have hlocks := B.notSynchronized
  subst hsz
  have hD := hD0.self (sz := s.heap.size)
  have hA : ∀ q : Nat, s.heap.size ≤ q → va_A (wN ad cI cS) s.heap.size q := fun q h => Or.inr h
  have hS : va_S (va_A (wN ad cI cS) s.heap.size) s.heap s.heap [] := va_S.rf
  have hl := lv_entry ([.int xk, .int xa, .int xb, .int xc] : List Value) (n := 6) (Nat.le_of_ble_eq_true rfl)
  rw [lg_entry_eq]
  generalize (lg_sl ([.int xk, .int xa, .int xb, .int xc] : List Value) ++ List.replicate (6 - (lg_sl ([.int xk, .int xa, .int xb, .int xc] : List Value)).length) Slot.unset).toArray = ls at hl ⊢
  have hl : lv_has ls 6 [(0, .int xk), (1, .int xa), (2, .int xb), (3, .int xc)] := hl
  refine lv_iload_n hx hb dMo_fits_0 rfl (lv_at hl 1 rfl) ?_
  refine lv_iconst (v := 0) hx hb dMo_fits_1 (by first | rfl | decide) ?_
  refine lv_bipush (v := 7) hx hb dMo_fits_2 (by first | rfl | decide) ?_
  refine pq_calli (fr := (FMo_outside xa 0 7)) (wc := (wN ad cI cS)) (wr := ([] : List Nat).filterMap (fun i => (wN ad cI cS)[i]?)) hP hD hS hA [] [] rfl rfl (by decide) (by decide) (va_runS (own := RMo) (As := [.int xa, .int 0, .int 7]) (rest := []) ⟨hx, hb, hml, hown, hw⟩ (k_Mo_outside l D ad cI cS xa 0 7 s.heap.size) ⟨pq_cwB 3 hw wd_187 wd_186 wd_185 rfl rfl (by decide +kernel) ⟨Nat.le_of_ble_eq_true rfl, Nat.le_of_ble_eq_true rfl⟩, hw _ wd_188⟩ (pq_preS hE (hP.sub [] rfl) (hD.sub [] (by decide) rfl)) rfl rfl hl.1 rfl (lv_room (Nat.le_of_ble_eq_true rfl)) dMo_fits_4 ⟨Nat.zero_le _, Nat.zero_le _⟩) (fun H locs hP hD hS => ?_)
  have hP : va_P D vwCl (wN ad cI cS) H := hP.sub [] rfl
  have hD : va_D _ (wN ad cI cS) := hD.sub [] (by decide) rfl
  refine lv_if_ne (tgt := 14) hx hb dMo_fits_7 (by decide) (fun h1 => ?_) (fun h1 => ?_)
  · refine lv_iconst (v := 0) hx hb dMo_fits_14 (by first | rfl | decide) ?_
    refine lv_istore (lv' := [(4, .int 0), (0, .int xk), (1, .int xa), (2, .int xb), (3, .int xc)]) hx hb dMo_fits_15 hl (by decide) rfl (fun ls hl => ?_)
    refine lv_iload_n hx hb dMo_fits_17 rfl (lv_at hl 3 rfl) ?_
    refine lv_iconst (v := 0) hx hb dMo_fits_18 (by first | rfl | decide) ?_
    refine lv_bipush (v := 7) hx hb dMo_fits_19 (by first | rfl | decide) ?_
    refine pq_calli (fr := (FMo_outside xb 0 7)) (wc := (wN ad cI cS)) (wr := ([] : List Nat).filterMap (fun i => (wN ad cI cS)[i]?)) hP hD hS hA [] [] rfl rfl (by decide) (by decide) (va_runS (own := RMo) (As := [.int xb, .int 0, .int 7]) (rest := []) ⟨hx, hb, hml, hown, hw⟩ (k_Mo_outside l D ad cI cS xb 0 7 H.size) ⟨pq_cwB 3 hw wd_187 wd_186 wd_185 rfl rfl (by decide +kernel) ⟨Nat.le_of_ble_eq_true rfl, Nat.le_of_ble_eq_true rfl⟩, hw _ wd_188⟩ (pq_preS hE (hP.sub [] rfl) (hD.sub [] (by decide) rfl)) rfl rfl hl.1 rfl (lv_room (Nat.le_of_ble_eq_true rfl)) dMo_fits_21 ⟨Nat.zero_le _, Nat.zero_le _⟩) (fun H locs hP hD hS => ?_)
    have hP : va_P D vwCl (wN ad cI cS) H := hP.sub [] rfl
    have hD : va_D _ (wN ad cI cS) := hD.sub [] (by decide) rfl
    refine lv_if_ne (tgt := 31) hx hb dMo_fits_24 (by decide) (fun h2 => ?_) (fun h2 => ?_)
    · refine lv_iconst (v := 0) hx hb dMo_fits_31 (by first | rfl | decide) ?_
      refine lv_istore (lv' := [(5, .int 0), (4, .int 0), (0, .int xk), (1, .int xa), (2, .int xb), (3, .int xc)]) hx hb dMo_fits_32 hl (by decide) rfl (fun ls hl => ?_)
      refine lv_iload_n hx hb dMo_fits_34 rfl (lv_at hl 2 rfl) ?_
      refine lv_if_eq (tgt := 44) hx hb dMo_fits_35 (by decide) (fun h3 => ?_) (fun h3 => ?_)
      · refine lv_iload_n hx hb dMo_fits_44 rfl (lv_at hl 3 rfl) ?_
        refine lv_iconst (v := 0) hx hb dMo_fits_45 (by first | rfl | decide) ?_
        refine lv_bipush (v := 15) hx hb dMo_fits_46 (by first | rfl | decide) ?_
        refine pq_calli (fr := (FMo_outside xa 0 15)) (wc := (wN ad cI cS)) (wr := ([] : List Nat).filterMap (fun i => (wN ad cI cS)[i]?)) hP hD hS hA [] [] rfl rfl (by decide) (by decide) (va_runS (own := RMo) (As := [.int xa, .int 0, .int 15]) (rest := []) ⟨hx, hb, hml, hown, hw⟩ (k_Mo_outside l D ad cI cS xa 0 15 H.size) ⟨pq_cwB 3 hw wd_187 wd_186 wd_185 rfl rfl (by decide +kernel) ⟨Nat.le_of_ble_eq_true rfl, Nat.le_of_ble_eq_true rfl⟩, hw _ wd_188⟩ (pq_preS hE (hP.sub [] rfl) (hD.sub [] (by decide) rfl)) rfl rfl hl.1 rfl (lv_room (Nat.le_of_ble_eq_true rfl)) dMo_fits_48 ⟨Nat.zero_le _, Nat.zero_le _⟩) (fun H locs hP hD hS => ?_)
        have hP : va_P D vwCl (wN ad cI cS) H := hP.sub [] rfl
        have hD : va_D _ (wN ad cI cS) := hD.sub [] (by decide) rfl
        refine lv_if_ne (tgt := 58) hx hb dMo_fits_51 (by decide) (fun h4 => ?_) (fun h4 => ?_)
        · refine lv_iconst (v := 0) hx hb dMo_fits_58 (by first | rfl | decide) ?_
          have e9 : FMo_fits xk xa xb xc = 0 := by simp only [FMo_fits, if_neg h1, if_neg h2, if_pos h3, if_neg h4]
          exact W.zret (v := 0) hx hb hr rfl (fun t ht hW => ⟨⟨0, (), rfl, (by show _ = _; rw [e9]), by rw [ht]; exact hP, hD⟩, hS.F ht⟩) hS.2.2 dMo_fits_59
        · refine lv_iconst (v := 1) hx hb dMo_fits_54 (by first | rfl | decide) ?_
          refine lv_goto (tgt := 59) hx hb dMo_fits_55 (by decide) ?_
          have e9 : FMo_fits xk xa xb xc = 1 := by simp only [FMo_fits, if_neg h1, if_neg h2, if_pos h3, if_pos h4]
          exact W.zret (v := 1) hx hb hr rfl (fun t ht hW => ⟨⟨1, (), rfl, (by show _ = _; rw [e9]), by rw [ht]; exact hP, hD⟩, hS.F ht⟩) hS.2.2 dMo_fits_59
      · refine lv_iload_n hx hb dMo_fits_38 rfl (lv_at hl 2 rfl) ?_
        refine lv_bipush (v := 11) hx hb dMo_fits_39 (by first | rfl | decide) ?_
        refine lv_icmp_ne (tgt := 60) hx hb dMo_fits_41 (by decide) (fun h5 => ?_) (fun h5 => ?_)
        · refine lv_iload_n hx hb dMo_fits_60 rfl (lv_at hl 2 rfl) ?_
          refine lv_iconst (v := 1) hx hb dMo_fits_61 (by first | rfl | decide) ?_
          refine lv_icmp_lt (tgt := 92) hx hb dMo_fits_62 (by decide) (fun h6 => ?_) (fun h6 => ?_)
          · refine lv_iload_n hx hb dMo_fits_92 rfl (lv_at hl 2 rfl) ?_
            refine lv_iconst (v := 5) hx hb dMo_fits_93 (by first | rfl | decide) ?_
            refine lv_icmp_eq (tgt := 103) hx hb dMo_fits_94 (by decide) (fun h7 => ?_) (fun h7 => ?_)
            · refine lv_iload hx hb dMo_fits_103 (lv_at hl 1 rfl) ?_
              refine lv_if_eq (tgt := 127) hx hb dMo_fits_105 (by decide) (fun _ => ?_) (fun h9 => absurd h9 (by decide))
              refine lv_iconst (v := 0) hx hb dMo_fits_127 (by first | rfl | decide) ?_
              have e9 : FMo_fits xk xa xb xc = 0 := by simp only [FMo_fits, if_neg h1, if_neg h2, if_neg h3, if_neg h5, if_pos h6, if_pos h7]
              exact W.zret (v := 0) hx hb hr rfl (fun t ht hW => ⟨⟨0, (), rfl, (by show _ = _; rw [e9]), by rw [ht]; exact hP, hD⟩, hS.F ht⟩) hS.2.2 dMo_fits_128
            · refine lv_iload_n hx hb dMo_fits_97 rfl (lv_at hl 2 rfl) ?_
              refine lv_bipush (v := 6) hx hb dMo_fits_98 (by first | rfl | decide) ?_
              refine lv_icmp_ne (tgt := 129) hx hb dMo_fits_100 (by decide) (fun h8 => ?_) (fun h8 => ?_)
              · refine lv_iload_n hx hb dMo_fits_129 rfl (lv_at hl 2 rfl) ?_
                refine lv_bipush (v := 7) hx hb dMo_fits_130 (by first | rfl | decide) ?_
                refine lv_icmp_ne (tgt := 158) hx hb dMo_fits_132 (by decide) (fun h9 => ?_) (fun h9 => ?_)
                · refine lv_iload_n hx hb dMo_fits_158 rfl (lv_at hl 2 rfl) ?_
                  refine lv_bipush (v := 8) hx hb dMo_fits_159 (by first | rfl | decide) ?_
                  refine lv_icmp_eq (tgt := 170) hx hb dMo_fits_161 (by decide) (fun h10 => ?_) (fun h10 => ?_)
                  · refine lv_iload hx hb dMo_fits_170 (lv_at hl 1 rfl) ?_
                    refine lv_if_eq (tgt := 194) hx hb dMo_fits_172 (by decide) (fun _ => ?_) (fun h9 => absurd h9 (by decide))
                    refine lv_iconst (v := 0) hx hb dMo_fits_194 (by first | rfl | decide) ?_
                    have e9 : FMo_fits xk xa xb xc = 0 := by simp only [FMo_fits, if_neg h1, if_neg h2, if_neg h3, if_neg h5, if_pos h6, if_neg h7, if_neg h8, if_neg h9, if_pos h10]
                    exact W.zret (v := 0) hx hb hr rfl (fun t ht hW => ⟨⟨0, (), rfl, (by show _ = _; rw [e9]), by rw [ht]; exact hP, hD⟩, hS.F ht⟩) hS.2.2 dMo_fits_195
                  · refine lv_iload_n hx hb dMo_fits_164 rfl (lv_at hl 2 rfl) ?_
                    refine lv_bipush (v := 9) hx hb dMo_fits_165 (by first | rfl | decide) ?_
                    refine lv_icmp_ne (tgt := 196) hx hb dMo_fits_167 (by decide) (fun h11 => ?_) (fun h11 => ?_)
                    · refine lv_iload_n hx hb dMo_fits_196 rfl (lv_at hl 2 rfl) ?_
                      refine lv_bipush (v := 10) hx hb dMo_fits_197 (by first | rfl | decide) ?_
                      refine lv_icmp_ne (tgt := 205) hx hb dMo_fits_199 (by decide) (fun h12 => ?_) (fun h12 => ?_)
                      · refine lv_iload_n hx hb dMo_fits_205 rfl (lv_at hl 2 rfl) ?_
                        refine lv_bipush (v := 12) hx hb dMo_fits_206 (by first | rfl | decide) ?_
                        refine lv_icmp_ne (tgt := 234) hx hb dMo_fits_208 (by decide) (fun h13 => ?_) (fun h13 => ?_)
                        · refine lv_iload_n hx hb dMo_fits_234 rfl (lv_at hl 2 rfl) ?_
                          refine lv_bipush (v := 13) hx hb dMo_fits_235 (by first | rfl | decide) ?_
                          refine lv_icmp_ne (tgt := 256) hx hb dMo_fits_237 (by decide) (fun h14 => ?_) (fun h14 => ?_)
                          · refine lv_iload_n hx hb dMo_fits_256 rfl (lv_at hl 2 rfl) ?_
                            refine lv_bipush (v := 14) hx hb dMo_fits_257 (by first | rfl | decide) ?_
                            refine lv_icmp_eq (tgt := 268) hx hb dMo_fits_259 (by decide) (fun h15 => ?_) (fun h15 => ?_)
                            · refine lv_iconst (v := 1) hx hb dMo_fits_268 (by first | rfl | decide) ?_
                              refine lv_goto (tgt := 273) hx hb dMo_fits_269 (by decide) ?_
                              have e9 : FMo_fits xk xa xb xc = 1 := by simp only [FMo_fits, if_neg h1, if_neg h2, if_neg h3, if_neg h5, if_pos h6, if_neg h7, if_neg h8, if_neg h9, if_neg h10, if_neg h11, if_neg h12, if_neg h13, if_neg h14, if_pos h15]
                              exact W.zret (v := 1) hx hb hr rfl (fun t ht hW => ⟨⟨1, (), rfl, (by show _ = _; rw [e9]), by rw [ht]; exact hP, hD⟩, hS.F ht⟩) hS.2.2 dMo_fits_273
                            · refine lv_iload_n hx hb dMo_fits_262 rfl (lv_at hl 2 rfl) ?_
                              refine lv_bipush (v := 15) hx hb dMo_fits_263 (by first | rfl | decide) ?_
                              refine lv_icmp_ne (tgt := 272) hx hb dMo_fits_265 (by decide) (fun h16 => ?_) (fun h16 => ?_)
                              · refine lv_iconst (v := 0) hx hb dMo_fits_272 (by first | rfl | decide) ?_
                                have e9 : FMo_fits xk xa xb xc = 0 := by simp only [FMo_fits, if_neg h1, if_neg h2, if_neg h3, if_neg h5, if_pos h6, if_neg h7, if_neg h8, if_neg h9, if_neg h10, if_neg h11, if_neg h12, if_neg h13, if_neg h14, if_neg h15, if_neg h16]
                                exact W.zret (v := 0) hx hb hr rfl (fun t ht hW => ⟨⟨0, (), rfl, (by show _ = _; rw [e9]), by rw [ht]; exact hP, hD⟩, hS.F ht⟩) hS.2.2 dMo_fits_273
                              · refine lv_iconst (v := 1) hx hb dMo_fits_268 (by first | rfl | decide) ?_
                                refine lv_goto (tgt := 273) hx hb dMo_fits_269 (by decide) ?_
                                have e9 : FMo_fits xk xa xb xc = 1 := by simp only [FMo_fits, if_neg h1, if_neg h2, if_neg h3, if_neg h5, if_pos h6, if_neg h7, if_neg h8, if_neg h9, if_neg h10, if_neg h11, if_neg h12, if_neg h13, if_neg h14, if_neg h15, if_pos h16]
                                exact W.zret (v := 1) hx hb hr rfl (fun t ht hW => ⟨⟨1, (), rfl, (by show _ = _; rw [e9]), by rw [ht]; exact hP, hD⟩, hS.F ht⟩) hS.2.2 dMo_fits_273
                          · refine lv_iload_n hx hb dMo_fits_240 rfl (lv_at hl 3 rfl) ?_
                            refine lv_iconst (v := 1) hx hb dMo_fits_241 (by first | rfl | decide) ?_
                            refine lv_bipush (v := 40) hx hb dMo_fits_242 (by first | rfl | decide) ?_
                            refine pq_calli (fr := (FMo_outside xa 1 40)) (wc := (wN ad cI cS)) (wr := ([] : List Nat).filterMap (fun i => (wN ad cI cS)[i]?)) hP hD hS hA [] [] rfl rfl (by decide) (by decide) (va_runS (own := RMo) (As := [.int xa, .int 1, .int 40]) (rest := []) ⟨hx, hb, hml, hown, hw⟩ (k_Mo_outside l D ad cI cS xa 1 40 H.size) ⟨pq_cwB 3 hw wd_187 wd_186 wd_185 rfl rfl (by decide +kernel) ⟨Nat.le_of_ble_eq_true rfl, Nat.le_of_ble_eq_true rfl⟩, hw _ wd_188⟩ (pq_preS hE (hP.sub [] rfl) (hD.sub [] (by decide) rfl)) rfl rfl hl.1 rfl (lv_room (Nat.le_of_ble_eq_true rfl)) dMo_fits_244 ⟨Nat.zero_le _, Nat.zero_le _⟩) (fun H locs hP hD hS => ?_)
                            have hP : va_P D vwCl (wN ad cI cS) H := hP.sub [] rfl
                            have hD : va_D _ (wN ad cI cS) := hD.sub [] (by decide) rfl
                            refine lv_if_ne (tgt := 254) hx hb dMo_fits_247 (by decide) (fun h17 => ?_) (fun h17 => ?_)
                            · refine lv_iconst (v := 0) hx hb dMo_fits_254 (by first | rfl | decide) ?_
                              have e9 : FMo_fits xk xa xb xc = 0 := by simp only [FMo_fits, if_neg h1, if_neg h2, if_neg h3, if_neg h5, if_pos h6, if_neg h7, if_neg h8, if_neg h9, if_neg h10, if_neg h11, if_neg h12, if_neg h13, if_pos h14, if_neg h17]
                              exact W.zret (v := 0) hx hb hr rfl (fun t ht hW => ⟨⟨0, (), rfl, (by show _ = _; rw [e9]), by rw [ht]; exact hP, hD⟩, hS.F ht⟩) hS.2.2 dMo_fits_255
                            · refine lv_iconst (v := 1) hx hb dMo_fits_250 (by first | rfl | decide) ?_
                              refine lv_goto (tgt := 255) hx hb dMo_fits_251 (by decide) ?_
                              have e9 : FMo_fits xk xa xb xc = 1 := by simp only [FMo_fits, if_neg h1, if_neg h2, if_neg h3, if_neg h5, if_pos h6, if_neg h7, if_neg h8, if_neg h9, if_neg h10, if_neg h11, if_neg h12, if_neg h13, if_pos h14, if_pos h17]
                              exact W.zret (v := 1) hx hb hr rfl (fun t ht hW => ⟨⟨1, (), rfl, (by show _ = _; rw [e9]), by rw [ht]; exact hP, hD⟩, hS.F ht⟩) hS.2.2 dMo_fits_255
                        · refine lv_iload_n hx hb dMo_fits_211 rfl (lv_at hl 3 rfl) ?_
                          refine lv_iconst (v := 0) hx hb dMo_fits_212 (by first | rfl | decide) ?_
                          refine lv_bipush (v := 15) hx hb dMo_fits_213 (by first | rfl | decide) ?_
                          refine pq_calli (fr := (FMo_outside xa 0 15)) (wc := (wN ad cI cS)) (wr := ([] : List Nat).filterMap (fun i => (wN ad cI cS)[i]?)) hP hD hS hA [] [] rfl rfl (by decide) (by decide) (va_runS (own := RMo) (As := [.int xa, .int 0, .int 15]) (rest := []) ⟨hx, hb, hml, hown, hw⟩ (k_Mo_outside l D ad cI cS xa 0 15 H.size) ⟨pq_cwB 3 hw wd_187 wd_186 wd_185 rfl rfl (by decide +kernel) ⟨Nat.le_of_ble_eq_true rfl, Nat.le_of_ble_eq_true rfl⟩, hw _ wd_188⟩ (pq_preS hE (hP.sub [] rfl) (hD.sub [] (by decide) rfl)) rfl rfl hl.1 rfl (lv_room (Nat.le_of_ble_eq_true rfl)) dMo_fits_215 ⟨Nat.zero_le _, Nat.zero_le _⟩) (fun H locs hP hD hS => ?_)
                          have hP : va_P D vwCl (wN ad cI cS) H := hP.sub [] rfl
                          have hD : va_D _ (wN ad cI cS) := hD.sub [] (by decide) rfl
                          refine lv_if_ne (tgt := 232) hx hb dMo_fits_218 (by decide) (fun h18 => ?_) (fun h18 => ?_)
                          · refine lv_iconst (v := 0) hx hb dMo_fits_232 (by first | rfl | decide) ?_
                            have e9 : FMo_fits xk xa xb xc = 0 := by simp only [FMo_fits, if_neg h1, if_neg h2, if_neg h3, if_neg h5, if_pos h6, if_neg h7, if_neg h8, if_neg h9, if_neg h10, if_neg h11, if_neg h12, if_pos h13, if_neg h18]
                            exact W.zret (v := 0) hx hb hr rfl (fun t ht hW => ⟨⟨0, (), rfl, (by show _ = _; rw [e9]), by rw [ht]; exact hP, hD⟩, hS.F ht⟩) hS.2.2 dMo_fits_233
                          · refine lv_iload_n hx hb dMo_fits_221 rfl (lv_at hl 5 rfl) ?_
                            refine pq_calli (fr := (FMo_isCondition xc)) (wc := (wN ad cI cS)) (wr := ([] : List Nat).filterMap (fun i => (wN ad cI cS)[i]?)) hP hD hS hA [] [] rfl rfl (by decide) (by decide) (va_runS (own := RMo) (As := [.int xc]) (rest := []) ⟨hx, hb, hml, hown, hw⟩ (k_Mo_isCondition l D ad cI cS xc H.size) ⟨pq_cwB 1 hw wd_190 wd_186 wd_189 rfl rfl (by decide +kernel) ⟨Nat.le_of_ble_eq_true rfl, Nat.le_of_ble_eq_true rfl⟩, hw _ wd_191⟩ (pq_preS hE (hP.sub [] rfl) (hD.sub [] (by decide) rfl)) rfl rfl hl.1 rfl (lv_room (Nat.le_of_ble_eq_true rfl)) dMo_fits_222 ⟨Nat.zero_le _, Nat.zero_le _⟩) (fun H locs hP hD hS => ?_)
                            have hP : va_P D vwCl (wN ad cI cS) H := hP.sub [] rfl
                            have hD : va_D _ (wN ad cI cS) := hD.sub [] (by decide) rfl
                            refine lv_if_eq (tgt := 232) hx hb dMo_fits_225 (by decide) (fun h19 => ?_) (fun h19 => ?_)
                            · refine lv_iconst (v := 0) hx hb dMo_fits_232 (by first | rfl | decide) ?_
                              have e9 : FMo_fits xk xa xb xc = 0 := by simp only [FMo_fits, if_neg h1, if_neg h2, if_neg h3, if_neg h5, if_pos h6, if_neg h7, if_neg h8, if_neg h9, if_neg h10, if_neg h11, if_neg h12, if_pos h13, if_pos h18, if_pos h19]
                              exact W.zret (v := 0) hx hb hr rfl (fun t ht hW => ⟨⟨0, (), rfl, (by show _ = _; rw [e9]), by rw [ht]; exact hP, hD⟩, hS.F ht⟩) hS.2.2 dMo_fits_233
                            · refine lv_iconst (v := 1) hx hb dMo_fits_228 (by first | rfl | decide) ?_
                              refine lv_goto (tgt := 233) hx hb dMo_fits_229 (by decide) ?_
                              have e9 : FMo_fits xk xa xb xc = 1 := by simp only [FMo_fits, if_neg h1, if_neg h2, if_neg h3, if_neg h5, if_pos h6, if_neg h7, if_neg h8, if_neg h9, if_neg h10, if_neg h11, if_neg h12, if_pos h13, if_pos h18, if_neg h19]
                              exact W.zret (v := 1) hx hb hr rfl (fun t ht hW => ⟨⟨1, (), rfl, (by show _ = _; rw [e9]), by rw [ht]; exact hP, hD⟩, hS.F ht⟩) hS.2.2 dMo_fits_233
                      · refine lv_iload hx hb dMo_fits_202 (lv_at hl 1 rfl) ?_
                        have e9 : FMo_fits xk xa xb xc = 0 := by simp only [FMo_fits, if_neg h1, if_neg h2, if_neg h3, if_neg h5, if_pos h6, if_neg h7, if_neg h8, if_neg h9, if_neg h10, if_neg h11, if_pos h12]
                        exact W.zret (v := 0) hx hb hr rfl (fun t ht hW => ⟨⟨0, (), rfl, (by show _ = _; rw [e9]), by rw [ht]; exact hP, hD⟩, hS.F ht⟩) hS.2.2 dMo_fits_204
                    · refine lv_iload hx hb dMo_fits_170 (lv_at hl 1 rfl) ?_
                      refine lv_if_eq (tgt := 194) hx hb dMo_fits_172 (by decide) (fun _ => ?_) (fun h9 => absurd h9 (by decide))
                      refine lv_iconst (v := 0) hx hb dMo_fits_194 (by first | rfl | decide) ?_
                      have e9 : FMo_fits xk xa xb xc = 0 := by simp only [FMo_fits, if_neg h1, if_neg h2, if_neg h3, if_neg h5, if_pos h6, if_neg h7, if_neg h8, if_neg h9, if_neg h10, if_pos h11]
                      exact W.zret (v := 0) hx hb hr rfl (fun t ht hW => ⟨⟨0, (), rfl, (by show _ = _; rw [e9]), by rw [ht]; exact hP, hD⟩, hS.F ht⟩) hS.2.2 dMo_fits_195
                · refine lv_iload hx hb dMo_fits_135 (lv_at hl 1 rfl) ?_
                  refine lv_if_eq (tgt := 156) hx hb dMo_fits_137 (by decide) (fun _ => ?_) (fun h9 => absurd h9 (by decide))
                  refine lv_iconst (v := 0) hx hb dMo_fits_156 (by first | rfl | decide) ?_
                  have e9 : FMo_fits xk xa xb xc = 0 := by simp only [FMo_fits, if_neg h1, if_neg h2, if_neg h3, if_neg h5, if_pos h6, if_neg h7, if_neg h8, if_pos h9]
                  exact W.zret (v := 0) hx hb hr rfl (fun t ht hW => ⟨⟨0, (), rfl, (by show _ = _; rw [e9]), by rw [ht]; exact hP, hD⟩, hS.F ht⟩) hS.2.2 dMo_fits_157
              · refine lv_iload hx hb dMo_fits_103 (lv_at hl 1 rfl) ?_
                refine lv_if_eq (tgt := 127) hx hb dMo_fits_105 (by decide) (fun _ => ?_) (fun h9 => absurd h9 (by decide))
                refine lv_iconst (v := 0) hx hb dMo_fits_127 (by first | rfl | decide) ?_
                have e9 : FMo_fits xk xa xb xc = 0 := by simp only [FMo_fits, if_neg h1, if_neg h2, if_neg h3, if_neg h5, if_pos h6, if_neg h7, if_pos h8]
                exact W.zret (v := 0) hx hb hr rfl (fun t ht hW => ⟨⟨0, (), rfl, (by show _ = _; rw [e9]), by rw [ht]; exact hP, hD⟩, hS.F ht⟩) hS.2.2 dMo_fits_128
          · refine lv_iload_n hx hb dMo_fits_65 rfl (lv_at hl 2 rfl) ?_
            refine lv_iconst (v := 4) hx hb dMo_fits_66 (by first | rfl | decide) ?_
            refine lv_icmp_gt (tgt := 92) hx hb dMo_fits_67 (by decide) (fun h20 => ?_) (fun h20 => ?_)
            · refine lv_iload_n hx hb dMo_fits_92 rfl (lv_at hl 2 rfl) ?_
              refine lv_iconst (v := 5) hx hb dMo_fits_93 (by first | rfl | decide) ?_
              refine lv_icmp_eq (tgt := 103) hx hb dMo_fits_94 (by decide) (fun h21 => ?_) (fun h21 => ?_)
              · refine lv_iload hx hb dMo_fits_103 (lv_at hl 1 rfl) ?_
                refine lv_if_eq (tgt := 127) hx hb dMo_fits_105 (by decide) (fun _ => ?_) (fun h9 => absurd h9 (by decide))
                refine lv_iconst (v := 0) hx hb dMo_fits_127 (by first | rfl | decide) ?_
                have e9 : FMo_fits xk xa xb xc = 0 := by simp only [FMo_fits, if_neg h1, if_neg h2, if_neg h3, if_neg h5, if_neg h6, if_pos h20, if_pos h21]
                exact W.zret (v := 0) hx hb hr rfl (fun t ht hW => ⟨⟨0, (), rfl, (by show _ = _; rw [e9]), by rw [ht]; exact hP, hD⟩, hS.F ht⟩) hS.2.2 dMo_fits_128
              · refine lv_iload_n hx hb dMo_fits_97 rfl (lv_at hl 2 rfl) ?_
                refine lv_bipush (v := 6) hx hb dMo_fits_98 (by first | rfl | decide) ?_
                refine lv_icmp_ne (tgt := 129) hx hb dMo_fits_100 (by decide) (fun h22 => ?_) (fun h22 => ?_)
                · refine lv_iload_n hx hb dMo_fits_129 rfl (lv_at hl 2 rfl) ?_
                  refine lv_bipush (v := 7) hx hb dMo_fits_130 (by first | rfl | decide) ?_
                  refine lv_icmp_ne (tgt := 158) hx hb dMo_fits_132 (by decide) (fun h23 => ?_) (fun h23 => ?_)
                  · refine lv_iload_n hx hb dMo_fits_158 rfl (lv_at hl 2 rfl) ?_
                    refine lv_bipush (v := 8) hx hb dMo_fits_159 (by first | rfl | decide) ?_
                    refine lv_icmp_eq (tgt := 170) hx hb dMo_fits_161 (by decide) (fun h24 => ?_) (fun h24 => ?_)
                    · refine lv_iload hx hb dMo_fits_170 (lv_at hl 1 rfl) ?_
                      refine lv_if_eq (tgt := 194) hx hb dMo_fits_172 (by decide) (fun _ => ?_) (fun h9 => absurd h9 (by decide))
                      refine lv_iconst (v := 0) hx hb dMo_fits_194 (by first | rfl | decide) ?_
                      have e9 : FMo_fits xk xa xb xc = 0 := by simp only [FMo_fits, if_neg h1, if_neg h2, if_neg h3, if_neg h5, if_neg h6, if_pos h20, if_neg h21, if_neg h22, if_neg h23, if_pos h24]
                      exact W.zret (v := 0) hx hb hr rfl (fun t ht hW => ⟨⟨0, (), rfl, (by show _ = _; rw [e9]), by rw [ht]; exact hP, hD⟩, hS.F ht⟩) hS.2.2 dMo_fits_195
                    · refine lv_iload_n hx hb dMo_fits_164 rfl (lv_at hl 2 rfl) ?_
                      refine lv_bipush (v := 9) hx hb dMo_fits_165 (by first | rfl | decide) ?_
                      refine lv_icmp_ne (tgt := 196) hx hb dMo_fits_167 (by decide) (fun h25 => ?_) (fun h25 => ?_)
                      · refine lv_iload_n hx hb dMo_fits_196 rfl (lv_at hl 2 rfl) ?_
                        refine lv_bipush (v := 10) hx hb dMo_fits_197 (by first | rfl | decide) ?_
                        refine lv_icmp_ne (tgt := 205) hx hb dMo_fits_199 (by decide) (fun h26 => ?_) (fun h26 => ?_)
                        · refine lv_iload_n hx hb dMo_fits_205 rfl (lv_at hl 2 rfl) ?_
                          refine lv_bipush (v := 12) hx hb dMo_fits_206 (by first | rfl | decide) ?_
                          refine lv_icmp_ne (tgt := 234) hx hb dMo_fits_208 (by decide) (fun h27 => ?_) (fun h27 => ?_)
                          · refine lv_iload_n hx hb dMo_fits_234 rfl (lv_at hl 2 rfl) ?_
                            refine lv_bipush (v := 13) hx hb dMo_fits_235 (by first | rfl | decide) ?_
                            refine lv_icmp_ne (tgt := 256) hx hb dMo_fits_237 (by decide) (fun h28 => ?_) (fun h28 => ?_)
                            · refine lv_iload_n hx hb dMo_fits_256 rfl (lv_at hl 2 rfl) ?_
                              refine lv_bipush (v := 14) hx hb dMo_fits_257 (by first | rfl | decide) ?_
                              refine lv_icmp_eq (tgt := 268) hx hb dMo_fits_259 (by decide) (fun h29 => ?_) (fun h29 => ?_)
                              · refine lv_iconst (v := 1) hx hb dMo_fits_268 (by first | rfl | decide) ?_
                                refine lv_goto (tgt := 273) hx hb dMo_fits_269 (by decide) ?_
                                have e9 : FMo_fits xk xa xb xc = 1 := by simp only [FMo_fits, if_neg h1, if_neg h2, if_neg h3, if_neg h5, if_neg h6, if_pos h20, if_neg h21, if_neg h22, if_neg h23, if_neg h24, if_neg h25, if_neg h26, if_neg h27, if_neg h28, if_pos h29]
                                exact W.zret (v := 1) hx hb hr rfl (fun t ht hW => ⟨⟨1, (), rfl, (by show _ = _; rw [e9]), by rw [ht]; exact hP, hD⟩, hS.F ht⟩) hS.2.2 dMo_fits_273
                              · refine lv_iload_n hx hb dMo_fits_262 rfl (lv_at hl 2 rfl) ?_
                                refine lv_bipush (v := 15) hx hb dMo_fits_263 (by first | rfl | decide) ?_
                                refine lv_icmp_ne (tgt := 272) hx hb dMo_fits_265 (by decide) (fun h30 => ?_) (fun h30 => ?_)
                                · refine lv_iconst (v := 0) hx hb dMo_fits_272 (by first | rfl | decide) ?_
                                  have e9 : FMo_fits xk xa xb xc = 0 := by simp only [FMo_fits, if_neg h1, if_neg h2, if_neg h3, if_neg h5, if_neg h6, if_pos h20, if_neg h21, if_neg h22, if_neg h23, if_neg h24, if_neg h25, if_neg h26, if_neg h27, if_neg h28, if_neg h29, if_neg h30]
                                  exact W.zret (v := 0) hx hb hr rfl (fun t ht hW => ⟨⟨0, (), rfl, (by show _ = _; rw [e9]), by rw [ht]; exact hP, hD⟩, hS.F ht⟩) hS.2.2 dMo_fits_273
                                · refine lv_iconst (v := 1) hx hb dMo_fits_268 (by first | rfl | decide) ?_
                                  refine lv_goto (tgt := 273) hx hb dMo_fits_269 (by decide) ?_
                                  have e9 : FMo_fits xk xa xb xc = 1 := by simp only [FMo_fits, if_neg h1, if_neg h2, if_neg h3, if_neg h5, if_neg h6, if_pos h20, if_neg h21, if_neg h22, if_neg h23, if_neg h24, if_neg h25, if_neg h26, if_neg h27, if_neg h28, if_neg h29, if_pos h30]
                                  exact W.zret (v := 1) hx hb hr rfl (fun t ht hW => ⟨⟨1, (), rfl, (by show _ = _; rw [e9]), by rw [ht]; exact hP, hD⟩, hS.F ht⟩) hS.2.2 dMo_fits_273
                            · refine lv_iload_n hx hb dMo_fits_240 rfl (lv_at hl 3 rfl) ?_
                              refine lv_iconst (v := 1) hx hb dMo_fits_241 (by first | rfl | decide) ?_
                              refine lv_bipush (v := 40) hx hb dMo_fits_242 (by first | rfl | decide) ?_
                              refine pq_calli (fr := (FMo_outside xa 1 40)) (wc := (wN ad cI cS)) (wr := ([] : List Nat).filterMap (fun i => (wN ad cI cS)[i]?)) hP hD hS hA [] [] rfl rfl (by decide) (by decide) (va_runS (own := RMo) (As := [.int xa, .int 1, .int 40]) (rest := []) ⟨hx, hb, hml, hown, hw⟩ (k_Mo_outside l D ad cI cS xa 1 40 H.size) ⟨pq_cwB 3 hw wd_187 wd_186 wd_185 rfl rfl (by decide +kernel) ⟨Nat.le_of_ble_eq_true rfl, Nat.le_of_ble_eq_true rfl⟩, hw _ wd_188⟩ (pq_preS hE (hP.sub [] rfl) (hD.sub [] (by decide) rfl)) rfl rfl hl.1 rfl (lv_room (Nat.le_of_ble_eq_true rfl)) dMo_fits_244 ⟨Nat.zero_le _, Nat.zero_le _⟩) (fun H locs hP hD hS => ?_)
                              have hP : va_P D vwCl (wN ad cI cS) H := hP.sub [] rfl
                              have hD : va_D _ (wN ad cI cS) := hD.sub [] (by decide) rfl
                              refine lv_if_ne (tgt := 254) hx hb dMo_fits_247 (by decide) (fun h31 => ?_) (fun h31 => ?_)
                              · refine lv_iconst (v := 0) hx hb dMo_fits_254 (by first | rfl | decide) ?_
                                have e9 : FMo_fits xk xa xb xc = 0 := by simp only [FMo_fits, if_neg h1, if_neg h2, if_neg h3, if_neg h5, if_neg h6, if_pos h20, if_neg h21, if_neg h22, if_neg h23, if_neg h24, if_neg h25, if_neg h26, if_neg h27, if_pos h28, if_neg h31]
                                exact W.zret (v := 0) hx hb hr rfl (fun t ht hW => ⟨⟨0, (), rfl, (by show _ = _; rw [e9]), by rw [ht]; exact hP, hD⟩, hS.F ht⟩) hS.2.2 dMo_fits_255
                              · refine lv_iconst (v := 1) hx hb dMo_fits_250 (by first | rfl | decide) ?_
                                refine lv_goto (tgt := 255) hx hb dMo_fits_251 (by decide) ?_
                                have e9 : FMo_fits xk xa xb xc = 1 := by simp only [FMo_fits, if_neg h1, if_neg h2, if_neg h3, if_neg h5, if_neg h6, if_pos h20, if_neg h21, if_neg h22, if_neg h23, if_neg h24, if_neg h25, if_neg h26, if_neg h27, if_pos h28, if_pos h31]
                                exact W.zret (v := 1) hx hb hr rfl (fun t ht hW => ⟨⟨1, (), rfl, (by show _ = _; rw [e9]), by rw [ht]; exact hP, hD⟩, hS.F ht⟩) hS.2.2 dMo_fits_255
                          · refine lv_iload_n hx hb dMo_fits_211 rfl (lv_at hl 3 rfl) ?_
                            refine lv_iconst (v := 0) hx hb dMo_fits_212 (by first | rfl | decide) ?_
                            refine lv_bipush (v := 15) hx hb dMo_fits_213 (by first | rfl | decide) ?_
                            refine pq_calli (fr := (FMo_outside xa 0 15)) (wc := (wN ad cI cS)) (wr := ([] : List Nat).filterMap (fun i => (wN ad cI cS)[i]?)) hP hD hS hA [] [] rfl rfl (by decide) (by decide) (va_runS (own := RMo) (As := [.int xa, .int 0, .int 15]) (rest := []) ⟨hx, hb, hml, hown, hw⟩ (k_Mo_outside l D ad cI cS xa 0 15 H.size) ⟨pq_cwB 3 hw wd_187 wd_186 wd_185 rfl rfl (by decide +kernel) ⟨Nat.le_of_ble_eq_true rfl, Nat.le_of_ble_eq_true rfl⟩, hw _ wd_188⟩ (pq_preS hE (hP.sub [] rfl) (hD.sub [] (by decide) rfl)) rfl rfl hl.1 rfl (lv_room (Nat.le_of_ble_eq_true rfl)) dMo_fits_215 ⟨Nat.zero_le _, Nat.zero_le _⟩) (fun H locs hP hD hS => ?_)
                            have hP : va_P D vwCl (wN ad cI cS) H := hP.sub [] rfl
                            have hD : va_D _ (wN ad cI cS) := hD.sub [] (by decide) rfl
                            refine lv_if_ne (tgt := 232) hx hb dMo_fits_218 (by decide) (fun h32 => ?_) (fun h32 => ?_)
                            · refine lv_iconst (v := 0) hx hb dMo_fits_232 (by first | rfl | decide) ?_
                              have e9 : FMo_fits xk xa xb xc = 0 := by simp only [FMo_fits, if_neg h1, if_neg h2, if_neg h3, if_neg h5, if_neg h6, if_pos h20, if_neg h21, if_neg h22, if_neg h23, if_neg h24, if_neg h25, if_neg h26, if_pos h27, if_neg h32]
                              exact W.zret (v := 0) hx hb hr rfl (fun t ht hW => ⟨⟨0, (), rfl, (by show _ = _; rw [e9]), by rw [ht]; exact hP, hD⟩, hS.F ht⟩) hS.2.2 dMo_fits_233
                            · refine lv_iload_n hx hb dMo_fits_221 rfl (lv_at hl 5 rfl) ?_
                              refine pq_calli (fr := (FMo_isCondition xc)) (wc := (wN ad cI cS)) (wr := ([] : List Nat).filterMap (fun i => (wN ad cI cS)[i]?)) hP hD hS hA [] [] rfl rfl (by decide) (by decide) (va_runS (own := RMo) (As := [.int xc]) (rest := []) ⟨hx, hb, hml, hown, hw⟩ (k_Mo_isCondition l D ad cI cS xc H.size) ⟨pq_cwB 1 hw wd_190 wd_186 wd_189 rfl rfl (by decide +kernel) ⟨Nat.le_of_ble_eq_true rfl, Nat.le_of_ble_eq_true rfl⟩, hw _ wd_191⟩ (pq_preS hE (hP.sub [] rfl) (hD.sub [] (by decide) rfl)) rfl rfl hl.1 rfl (lv_room (Nat.le_of_ble_eq_true rfl)) dMo_fits_222 ⟨Nat.zero_le _, Nat.zero_le _⟩) (fun H locs hP hD hS => ?_)
                              have hP : va_P D vwCl (wN ad cI cS) H := hP.sub [] rfl
                              have hD : va_D _ (wN ad cI cS) := hD.sub [] (by decide) rfl
                              refine lv_if_eq (tgt := 232) hx hb dMo_fits_225 (by decide) (fun h33 => ?_) (fun h33 => ?_)
                              · refine lv_iconst (v := 0) hx hb dMo_fits_232 (by first | rfl | decide) ?_
                                have e9 : FMo_fits xk xa xb xc = 0 := by simp only [FMo_fits, if_neg h1, if_neg h2, if_neg h3, if_neg h5, if_neg h6, if_pos h20, if_neg h21, if_neg h22, if_neg h23, if_neg h24, if_neg h25, if_neg h26, if_pos h27, if_pos h32, if_pos h33]
                                exact W.zret (v := 0) hx hb hr rfl (fun t ht hW => ⟨⟨0, (), rfl, (by show _ = _; rw [e9]), by rw [ht]; exact hP, hD⟩, hS.F ht⟩) hS.2.2 dMo_fits_233
                              · refine lv_iconst (v := 1) hx hb dMo_fits_228 (by first | rfl | decide) ?_
                                refine lv_goto (tgt := 233) hx hb dMo_fits_229 (by decide) ?_
                                have e9 : FMo_fits xk xa xb xc = 1 := by simp only [FMo_fits, if_neg h1, if_neg h2, if_neg h3, if_neg h5, if_neg h6, if_pos h20, if_neg h21, if_neg h22, if_neg h23, if_neg h24, if_neg h25, if_neg h26, if_pos h27, if_pos h32, if_neg h33]
                                exact W.zret (v := 1) hx hb hr rfl (fun t ht hW => ⟨⟨1, (), rfl, (by show _ = _; rw [e9]), by rw [ht]; exact hP, hD⟩, hS.F ht⟩) hS.2.2 dMo_fits_233
                        · refine lv_iload hx hb dMo_fits_202 (lv_at hl 1 rfl) ?_
                          have e9 : FMo_fits xk xa xb xc = 0 := by simp only [FMo_fits, if_neg h1, if_neg h2, if_neg h3, if_neg h5, if_neg h6, if_pos h20, if_neg h21, if_neg h22, if_neg h23, if_neg h24, if_neg h25, if_pos h26]
                          exact W.zret (v := 0) hx hb hr rfl (fun t ht hW => ⟨⟨0, (), rfl, (by show _ = _; rw [e9]), by rw [ht]; exact hP, hD⟩, hS.F ht⟩) hS.2.2 dMo_fits_204
                      · refine lv_iload hx hb dMo_fits_170 (lv_at hl 1 rfl) ?_
                        refine lv_if_eq (tgt := 194) hx hb dMo_fits_172 (by decide) (fun _ => ?_) (fun h9 => absurd h9 (by decide))
                        refine lv_iconst (v := 0) hx hb dMo_fits_194 (by first | rfl | decide) ?_
                        have e9 : FMo_fits xk xa xb xc = 0 := by simp only [FMo_fits, if_neg h1, if_neg h2, if_neg h3, if_neg h5, if_neg h6, if_pos h20, if_neg h21, if_neg h22, if_neg h23, if_neg h24, if_pos h25]
                        exact W.zret (v := 0) hx hb hr rfl (fun t ht hW => ⟨⟨0, (), rfl, (by show _ = _; rw [e9]), by rw [ht]; exact hP, hD⟩, hS.F ht⟩) hS.2.2 dMo_fits_195
                  · refine lv_iload hx hb dMo_fits_135 (lv_at hl 1 rfl) ?_
                    refine lv_if_eq (tgt := 156) hx hb dMo_fits_137 (by decide) (fun _ => ?_) (fun h9 => absurd h9 (by decide))
                    refine lv_iconst (v := 0) hx hb dMo_fits_156 (by first | rfl | decide) ?_
                    have e9 : FMo_fits xk xa xb xc = 0 := by simp only [FMo_fits, if_neg h1, if_neg h2, if_neg h3, if_neg h5, if_neg h6, if_pos h20, if_neg h21, if_neg h22, if_pos h23]
                    exact W.zret (v := 0) hx hb hr rfl (fun t ht hW => ⟨⟨0, (), rfl, (by show _ = _; rw [e9]), by rw [ht]; exact hP, hD⟩, hS.F ht⟩) hS.2.2 dMo_fits_157
                · refine lv_iload hx hb dMo_fits_103 (lv_at hl 1 rfl) ?_
                  refine lv_if_eq (tgt := 127) hx hb dMo_fits_105 (by decide) (fun _ => ?_) (fun h9 => absurd h9 (by decide))
                  refine lv_iconst (v := 0) hx hb dMo_fits_127 (by first | rfl | decide) ?_
                  have e9 : FMo_fits xk xa xb xc = 0 := by simp only [FMo_fits, if_neg h1, if_neg h2, if_neg h3, if_neg h5, if_neg h6, if_pos h20, if_neg h21, if_pos h22]
                  exact W.zret (v := 0) hx hb hr rfl (fun t ht hW => ⟨⟨0, (), rfl, (by show _ = _; rw [e9]), by rw [ht]; exact hP, hD⟩, hS.F ht⟩) hS.2.2 dMo_fits_128
            · refine lv_iload hx hb dMo_fits_70 (lv_at hl 1 rfl) ?_
              refine lv_if_eq (tgt := 90) hx hb dMo_fits_72 (by decide) (fun _ => ?_) (fun h9 => absurd h9 (by decide))
              refine lv_iconst (v := 0) hx hb dMo_fits_90 (by first | rfl | decide) ?_
              have e9 : FMo_fits xk xa xb xc = 0 := by simp only [FMo_fits, if_neg h1, if_neg h2, if_neg h3, if_neg h5, if_neg h6, if_neg h20]
              exact W.zret (v := 0) hx hb hr rfl (fun t ht hW => ⟨⟨0, (), rfl, (by show _ = _; rw [e9]), by rw [ht]; exact hP, hD⟩, hS.F ht⟩) hS.2.2 dMo_fits_91
        · refine lv_iload_n hx hb dMo_fits_44 rfl (lv_at hl 3 rfl) ?_
          refine lv_iconst (v := 0) hx hb dMo_fits_45 (by first | rfl | decide) ?_
          refine lv_bipush (v := 15) hx hb dMo_fits_46 (by first | rfl | decide) ?_
          refine pq_calli (fr := (FMo_outside xa 0 15)) (wc := (wN ad cI cS)) (wr := ([] : List Nat).filterMap (fun i => (wN ad cI cS)[i]?)) hP hD hS hA [] [] rfl rfl (by decide) (by decide) (va_runS (own := RMo) (As := [.int xa, .int 0, .int 15]) (rest := []) ⟨hx, hb, hml, hown, hw⟩ (k_Mo_outside l D ad cI cS xa 0 15 H.size) ⟨pq_cwB 3 hw wd_187 wd_186 wd_185 rfl rfl (by decide +kernel) ⟨Nat.le_of_ble_eq_true rfl, Nat.le_of_ble_eq_true rfl⟩, hw _ wd_188⟩ (pq_preS hE (hP.sub [] rfl) (hD.sub [] (by decide) rfl)) rfl rfl hl.1 rfl (lv_room (Nat.le_of_ble_eq_true rfl)) dMo_fits_48 ⟨Nat.zero_le _, Nat.zero_le _⟩) (fun H locs hP hD hS => ?_)
          have hP : va_P D vwCl (wN ad cI cS) H := hP.sub [] rfl
          have hD : va_D _ (wN ad cI cS) := hD.sub [] (by decide) rfl
          refine lv_if_ne (tgt := 58) hx hb dMo_fits_51 (by decide) (fun h34 => ?_) (fun h34 => ?_)
          · refine lv_iconst (v := 0) hx hb dMo_fits_58 (by first | rfl | decide) ?_
            have e9 : FMo_fits xk xa xb xc = 0 := by simp only [FMo_fits, if_neg h1, if_neg h2, if_neg h3, if_pos h5, if_neg h34]
            exact W.zret (v := 0) hx hb hr rfl (fun t ht hW => ⟨⟨0, (), rfl, (by show _ = _; rw [e9]), by rw [ht]; exact hP, hD⟩, hS.F ht⟩) hS.2.2 dMo_fits_59
          · refine lv_iconst (v := 1) hx hb dMo_fits_54 (by first | rfl | decide) ?_
            refine lv_goto (tgt := 59) hx hb dMo_fits_55 (by decide) ?_
            have e9 : FMo_fits xk xa xb xc = 1 := by simp only [FMo_fits, if_neg h1, if_neg h2, if_neg h3, if_pos h5, if_pos h34]
            exact W.zret (v := 1) hx hb hr rfl (fun t ht hW => ⟨⟨1, (), rfl, (by show _ = _; rw [e9]), by rw [ht]; exact hP, hD⟩, hS.F ht⟩) hS.2.2 dMo_fits_59
    · refine lv_iconst (v := 1) hx hb dMo_fits_27 (by first | rfl | decide) ?_
      refine lv_goto (tgt := 32) hx hb dMo_fits_28 (by decide) ?_
      refine lv_istore (lv' := [(5, .int 1), (4, .int 0), (0, .int xk), (1, .int xa), (2, .int xb), (3, .int xc)]) hx hb dMo_fits_32 hl (by decide) rfl (fun ls hl => ?_)
      refine lv_iload_n hx hb dMo_fits_34 rfl (lv_at hl 2 rfl) ?_
      refine lv_if_eq (tgt := 44) hx hb dMo_fits_35 (by decide) (fun h35 => ?_) (fun h35 => ?_)
      · refine lv_iload_n hx hb dMo_fits_44 rfl (lv_at hl 3 rfl) ?_
        refine lv_iconst (v := 0) hx hb dMo_fits_45 (by first | rfl | decide) ?_
        refine lv_bipush (v := 15) hx hb dMo_fits_46 (by first | rfl | decide) ?_
        refine pq_calli (fr := (FMo_outside xa 0 15)) (wc := (wN ad cI cS)) (wr := ([] : List Nat).filterMap (fun i => (wN ad cI cS)[i]?)) hP hD hS hA [] [] rfl rfl (by decide) (by decide) (va_runS (own := RMo) (As := [.int xa, .int 0, .int 15]) (rest := []) ⟨hx, hb, hml, hown, hw⟩ (k_Mo_outside l D ad cI cS xa 0 15 H.size) ⟨pq_cwB 3 hw wd_187 wd_186 wd_185 rfl rfl (by decide +kernel) ⟨Nat.le_of_ble_eq_true rfl, Nat.le_of_ble_eq_true rfl⟩, hw _ wd_188⟩ (pq_preS hE (hP.sub [] rfl) (hD.sub [] (by decide) rfl)) rfl rfl hl.1 rfl (lv_room (Nat.le_of_ble_eq_true rfl)) dMo_fits_48 ⟨Nat.zero_le _, Nat.zero_le _⟩) (fun H locs hP hD hS => ?_)
        have hP : va_P D vwCl (wN ad cI cS) H := hP.sub [] rfl
        have hD : va_D _ (wN ad cI cS) := hD.sub [] (by decide) rfl
        refine lv_if_ne (tgt := 58) hx hb dMo_fits_51 (by decide) (fun h36 => ?_) (fun h36 => ?_)
        · refine lv_iconst (v := 0) hx hb dMo_fits_58 (by first | rfl | decide) ?_
          have e9 : FMo_fits xk xa xb xc = 0 := by simp only [FMo_fits, if_neg h1, if_pos h2, if_pos h35, if_neg h36]
          exact W.zret (v := 0) hx hb hr rfl (fun t ht hW => ⟨⟨0, (), rfl, (by show _ = _; rw [e9]), by rw [ht]; exact hP, hD⟩, hS.F ht⟩) hS.2.2 dMo_fits_59
        · refine lv_iconst (v := 1) hx hb dMo_fits_54 (by first | rfl | decide) ?_
          refine lv_goto (tgt := 59) hx hb dMo_fits_55 (by decide) ?_
          have e9 : FMo_fits xk xa xb xc = 1 := by simp only [FMo_fits, if_neg h1, if_pos h2, if_pos h35, if_pos h36]
          exact W.zret (v := 1) hx hb hr rfl (fun t ht hW => ⟨⟨1, (), rfl, (by show _ = _; rw [e9]), by rw [ht]; exact hP, hD⟩, hS.F ht⟩) hS.2.2 dMo_fits_59
      · refine lv_iload_n hx hb dMo_fits_38 rfl (lv_at hl 2 rfl) ?_
        refine lv_bipush (v := 11) hx hb dMo_fits_39 (by first | rfl | decide) ?_
        refine lv_icmp_ne (tgt := 60) hx hb dMo_fits_41 (by decide) (fun h37 => ?_) (fun h37 => ?_)
        · refine lv_iload_n hx hb dMo_fits_60 rfl (lv_at hl 2 rfl) ?_
          refine lv_iconst (v := 1) hx hb dMo_fits_61 (by first | rfl | decide) ?_
          refine lv_icmp_lt (tgt := 92) hx hb dMo_fits_62 (by decide) (fun h38 => ?_) (fun h38 => ?_)
          · refine lv_iload_n hx hb dMo_fits_92 rfl (lv_at hl 2 rfl) ?_
            refine lv_iconst (v := 5) hx hb dMo_fits_93 (by first | rfl | decide) ?_
            refine lv_icmp_eq (tgt := 103) hx hb dMo_fits_94 (by decide) (fun h39 => ?_) (fun h39 => ?_)
            · refine lv_iload hx hb dMo_fits_103 (lv_at hl 1 rfl) ?_
              refine lv_if_eq (tgt := 127) hx hb dMo_fits_105 (by decide) (fun _ => ?_) (fun h9 => absurd h9 (by decide))
              refine lv_iconst (v := 0) hx hb dMo_fits_127 (by first | rfl | decide) ?_
              have e9 : FMo_fits xk xa xb xc = 0 := by simp only [FMo_fits, if_neg h1, if_pos h2, if_neg h35, if_neg h37, if_pos h38, if_pos h39]
              exact W.zret (v := 0) hx hb hr rfl (fun t ht hW => ⟨⟨0, (), rfl, (by show _ = _; rw [e9]), by rw [ht]; exact hP, hD⟩, hS.F ht⟩) hS.2.2 dMo_fits_128
            · refine lv_iload_n hx hb dMo_fits_97 rfl (lv_at hl 2 rfl) ?_
              refine lv_bipush (v := 6) hx hb dMo_fits_98 (by first | rfl | decide) ?_
              refine lv_icmp_ne (tgt := 129) hx hb dMo_fits_100 (by decide) (fun h40 => ?_) (fun h40 => ?_)
              · refine lv_iload_n hx hb dMo_fits_129 rfl (lv_at hl 2 rfl) ?_
                refine lv_bipush (v := 7) hx hb dMo_fits_130 (by first | rfl | decide) ?_
                refine lv_icmp_ne (tgt := 158) hx hb dMo_fits_132 (by decide) (fun h41 => ?_) (fun h41 => ?_)
                · refine lv_iload_n hx hb dMo_fits_158 rfl (lv_at hl 2 rfl) ?_
                  refine lv_bipush (v := 8) hx hb dMo_fits_159 (by first | rfl | decide) ?_
                  refine lv_icmp_eq (tgt := 170) hx hb dMo_fits_161 (by decide) (fun h42 => ?_) (fun h42 => ?_)
                  · refine lv_iload hx hb dMo_fits_170 (lv_at hl 1 rfl) ?_
                    refine lv_if_eq (tgt := 194) hx hb dMo_fits_172 (by decide) (fun _ => ?_) (fun h9 => absurd h9 (by decide))
                    refine lv_iconst (v := 0) hx hb dMo_fits_194 (by first | rfl | decide) ?_
                    have e9 : FMo_fits xk xa xb xc = 0 := by simp only [FMo_fits, if_neg h1, if_pos h2, if_neg h35, if_neg h37, if_pos h38, if_neg h39, if_neg h40, if_neg h41, if_pos h42]
                    exact W.zret (v := 0) hx hb hr rfl (fun t ht hW => ⟨⟨0, (), rfl, (by show _ = _; rw [e9]), by rw [ht]; exact hP, hD⟩, hS.F ht⟩) hS.2.2 dMo_fits_195
                  · refine lv_iload_n hx hb dMo_fits_164 rfl (lv_at hl 2 rfl) ?_
                    refine lv_bipush (v := 9) hx hb dMo_fits_165 (by first | rfl | decide) ?_
                    refine lv_icmp_ne (tgt := 196) hx hb dMo_fits_167 (by decide) (fun h43 => ?_) (fun h43 => ?_)
                    · refine lv_iload_n hx hb dMo_fits_196 rfl (lv_at hl 2 rfl) ?_
                      refine lv_bipush (v := 10) hx hb dMo_fits_197 (by first | rfl | decide) ?_
                      refine lv_icmp_ne (tgt := 205) hx hb dMo_fits_199 (by decide) (fun h44 => ?_) (fun h44 => ?_)
                      · refine lv_iload_n hx hb dMo_fits_205 rfl (lv_at hl 2 rfl) ?_
                        refine lv_bipush (v := 12) hx hb dMo_fits_206 (by first | rfl | decide) ?_
                        refine lv_icmp_ne (tgt := 234) hx hb dMo_fits_208 (by decide) (fun h45 => ?_) (fun h45 => ?_)
                        · refine lv_iload_n hx hb dMo_fits_234 rfl (lv_at hl 2 rfl) ?_
                          refine lv_bipush (v := 13) hx hb dMo_fits_235 (by first | rfl | decide) ?_
                          refine lv_icmp_ne (tgt := 256) hx hb dMo_fits_237 (by decide) (fun h46 => ?_) (fun h46 => ?_)
                          · refine lv_iload_n hx hb dMo_fits_256 rfl (lv_at hl 2 rfl) ?_
                            refine lv_bipush (v := 14) hx hb dMo_fits_257 (by first | rfl | decide) ?_
                            refine lv_icmp_eq (tgt := 268) hx hb dMo_fits_259 (by decide) (fun h47 => ?_) (fun h47 => ?_)
                            · refine lv_iconst (v := 1) hx hb dMo_fits_268 (by first | rfl | decide) ?_
                              refine lv_goto (tgt := 273) hx hb dMo_fits_269 (by decide) ?_
                              have e9 : FMo_fits xk xa xb xc = 1 := by simp only [FMo_fits, if_neg h1, if_pos h2, if_neg h35, if_neg h37, if_pos h38, if_neg h39, if_neg h40, if_neg h41, if_neg h42, if_neg h43, if_neg h44, if_neg h45, if_neg h46, if_pos h47]
                              exact W.zret (v := 1) hx hb hr rfl (fun t ht hW => ⟨⟨1, (), rfl, (by show _ = _; rw [e9]), by rw [ht]; exact hP, hD⟩, hS.F ht⟩) hS.2.2 dMo_fits_273
                            · refine lv_iload_n hx hb dMo_fits_262 rfl (lv_at hl 2 rfl) ?_
                              refine lv_bipush (v := 15) hx hb dMo_fits_263 (by first | rfl | decide) ?_
                              refine lv_icmp_ne (tgt := 272) hx hb dMo_fits_265 (by decide) (fun h48 => ?_) (fun h48 => ?_)
                              · refine lv_iconst (v := 0) hx hb dMo_fits_272 (by first | rfl | decide) ?_
                                have e9 : FMo_fits xk xa xb xc = 0 := by simp only [FMo_fits, if_neg h1, if_pos h2, if_neg h35, if_neg h37, if_pos h38, if_neg h39, if_neg h40, if_neg h41, if_neg h42, if_neg h43, if_neg h44, if_neg h45, if_neg h46, if_neg h47, if_neg h48]
                                exact W.zret (v := 0) hx hb hr rfl (fun t ht hW => ⟨⟨0, (), rfl, (by show _ = _; rw [e9]), by rw [ht]; exact hP, hD⟩, hS.F ht⟩) hS.2.2 dMo_fits_273
                              · refine lv_iconst (v := 1) hx hb dMo_fits_268 (by first | rfl | decide) ?_
                                refine lv_goto (tgt := 273) hx hb dMo_fits_269 (by decide) ?_
                                have e9 : FMo_fits xk xa xb xc = 1 := by simp only [FMo_fits, if_neg h1, if_pos h2, if_neg h35, if_neg h37, if_pos h38, if_neg h39, if_neg h40, if_neg h41, if_neg h42, if_neg h43, if_neg h44, if_neg h45, if_neg h46, if_neg h47, if_pos h48]
                                exact W.zret (v := 1) hx hb hr rfl (fun t ht hW => ⟨⟨1, (), rfl, (by show _ = _; rw [e9]), by rw [ht]; exact hP, hD⟩, hS.F ht⟩) hS.2.2 dMo_fits_273
                          · refine lv_iload_n hx hb dMo_fits_240 rfl (lv_at hl 3 rfl) ?_
                            refine lv_iconst (v := 1) hx hb dMo_fits_241 (by first | rfl | decide) ?_
                            refine lv_bipush (v := 40) hx hb dMo_fits_242 (by first | rfl | decide) ?_
                            refine pq_calli (fr := (FMo_outside xa 1 40)) (wc := (wN ad cI cS)) (wr := ([] : List Nat).filterMap (fun i => (wN ad cI cS)[i]?)) hP hD hS hA [] [] rfl rfl (by decide) (by decide) (va_runS (own := RMo) (As := [.int xa, .int 1, .int 40]) (rest := []) ⟨hx, hb, hml, hown, hw⟩ (k_Mo_outside l D ad cI cS xa 1 40 H.size) ⟨pq_cwB 3 hw wd_187 wd_186 wd_185 rfl rfl (by decide +kernel) ⟨Nat.le_of_ble_eq_true rfl, Nat.le_of_ble_eq_true rfl⟩, hw _ wd_188⟩ (pq_preS hE (hP.sub [] rfl) (hD.sub [] (by decide) rfl)) rfl rfl hl.1 rfl (lv_room (Nat.le_of_ble_eq_true rfl)) dMo_fits_244 ⟨Nat.zero_le _, Nat.zero_le _⟩) (fun H locs hP hD hS => ?_)
                            have hP : va_P D vwCl (wN ad cI cS) H := hP.sub [] rfl
                            have hD : va_D _ (wN ad cI cS) := hD.sub [] (by decide) rfl
                            refine lv_if_ne (tgt := 254) hx hb dMo_fits_247 (by decide) (fun h49 => ?_) (fun h49 => ?_)
                            · refine lv_iconst (v := 0) hx hb dMo_fits_254 (by first | rfl | decide) ?_
                              have e9 : FMo_fits xk xa xb xc = 0 := by simp only [FMo_fits, if_neg h1, if_pos h2, if_neg h35, if_neg h37, if_pos h38, if_neg h39, if_neg h40, if_neg h41, if_neg h42, if_neg h43, if_neg h44, if_neg h45, if_pos h46, if_neg h49]
                              exact W.zret (v := 0) hx hb hr rfl (fun t ht hW => ⟨⟨0, (), rfl, (by show _ = _; rw [e9]), by rw [ht]; exact hP, hD⟩, hS.F ht⟩) hS.2.2 dMo_fits_255
                            · refine lv_iconst (v := 1) hx hb dMo_fits_250 (by first | rfl | decide) ?_
                              refine lv_goto (tgt := 255) hx hb dMo_fits_251 (by decide) ?_
                              have e9 : FMo_fits xk xa xb xc = 1 := by simp only [FMo_fits, if_neg h1, if_pos h2, if_neg h35, if_neg h37, if_pos h38, if_neg h39, if_neg h40, if_neg h41, if_neg h42, if_neg h43, if_neg h44, if_neg h45, if_pos h46, if_pos h49]
                              exact W.zret (v := 1) hx hb hr rfl (fun t ht hW => ⟨⟨1, (), rfl, (by show _ = _; rw [e9]), by rw [ht]; exact hP, hD⟩, hS.F ht⟩) hS.2.2 dMo_fits_255
                        · refine lv_iload_n hx hb dMo_fits_211 rfl (lv_at hl 3 rfl) ?_
                          refine lv_iconst (v := 0) hx hb dMo_fits_212 (by first | rfl | decide) ?_
                          refine lv_bipush (v := 15) hx hb dMo_fits_213 (by first | rfl | decide) ?_
                          refine pq_calli (fr := (FMo_outside xa 0 15)) (wc := (wN ad cI cS)) (wr := ([] : List Nat).filterMap (fun i => (wN ad cI cS)[i]?)) hP hD hS hA [] [] rfl rfl (by decide) (by decide) (va_runS (own := RMo) (As := [.int xa, .int 0, .int 15]) (rest := []) ⟨hx, hb, hml, hown, hw⟩ (k_Mo_outside l D ad cI cS xa 0 15 H.size) ⟨pq_cwB 3 hw wd_187 wd_186 wd_185 rfl rfl (by decide +kernel) ⟨Nat.le_of_ble_eq_true rfl, Nat.le_of_ble_eq_true rfl⟩, hw _ wd_188⟩ (pq_preS hE (hP.sub [] rfl) (hD.sub [] (by decide) rfl)) rfl rfl hl.1 rfl (lv_room (Nat.le_of_ble_eq_true rfl)) dMo_fits_215 ⟨Nat.zero_le _, Nat.zero_le _⟩) (fun H locs hP hD hS => ?_)
                          have hP : va_P D vwCl (wN ad cI cS) H := hP.sub [] rfl
                          have hD : va_D _ (wN ad cI cS) := hD.sub [] (by decide) rfl
                          refine lv_if_ne (tgt := 232) hx hb dMo_fits_218 (by decide) (fun h50 => ?_) (fun h50 => ?_)
                          · refine lv_iconst (v := 0) hx hb dMo_fits_232 (by first | rfl | decide) ?_
                            have e9 : FMo_fits xk xa xb xc = 0 := by simp only [FMo_fits, if_neg h1, if_pos h2, if_neg h35, if_neg h37, if_pos h38, if_neg h39, if_neg h40, if_neg h41, if_neg h42, if_neg h43, if_neg h44, if_pos h45, if_neg h50]
                            exact W.zret (v := 0) hx hb hr rfl (fun t ht hW => ⟨⟨0, (), rfl, (by show _ = _; rw [e9]), by rw [ht]; exact hP, hD⟩, hS.F ht⟩) hS.2.2 dMo_fits_233
                          · refine lv_iload_n hx hb dMo_fits_221 rfl (lv_at hl 5 rfl) ?_
                            refine pq_calli (fr := (FMo_isCondition xc)) (wc := (wN ad cI cS)) (wr := ([] : List Nat).filterMap (fun i => (wN ad cI cS)[i]?)) hP hD hS hA [] [] rfl rfl (by decide) (by decide) (va_runS (own := RMo) (As := [.int xc]) (rest := []) ⟨hx, hb, hml, hown, hw⟩ (k_Mo_isCondition l D ad cI cS xc H.size) ⟨pq_cwB 1 hw wd_190 wd_186 wd_189 rfl rfl (by decide +kernel) ⟨Nat.le_of_ble_eq_true rfl, Nat.le_of_ble_eq_true rfl⟩, hw _ wd_191⟩ (pq_preS hE (hP.sub [] rfl) (hD.sub [] (by decide) rfl)) rfl rfl hl.1 rfl (lv_room (Nat.le_of_ble_eq_true rfl)) dMo_fits_222 ⟨Nat.zero_le _, Nat.zero_le _⟩) (fun H locs hP hD hS => ?_)
                            have hP : va_P D vwCl (wN ad cI cS) H := hP.sub [] rfl
                            have hD : va_D _ (wN ad cI cS) := hD.sub [] (by decide) rfl
                            refine lv_if_eq (tgt := 232) hx hb dMo_fits_225 (by decide) (fun h51 => ?_) (fun h51 => ?_)
                            · refine lv_iconst (v := 0) hx hb dMo_fits_232 (by first | rfl | decide) ?_
                              have e9 : FMo_fits xk xa xb xc = 0 := by simp only [FMo_fits, if_neg h1, if_pos h2, if_neg h35, if_neg h37, if_pos h38, if_neg h39, if_neg h40, if_neg h41, if_neg h42, if_neg h43, if_neg h44, if_pos h45, if_pos h50, if_pos h51]
                              exact W.zret (v := 0) hx hb hr rfl (fun t ht hW => ⟨⟨0, (), rfl, (by show _ = _; rw [e9]), by rw [ht]; exact hP, hD⟩, hS.F ht⟩) hS.2.2 dMo_fits_233
                            · refine lv_iconst (v := 1) hx hb dMo_fits_228 (by first | rfl | decide) ?_
                              refine lv_goto (tgt := 233) hx hb dMo_fits_229 (by decide) ?_
                              have e9 : FMo_fits xk xa xb xc = 1 := by simp only [FMo_fits, if_neg h1, if_pos h2, if_neg h35, if_neg h37, if_pos h38, if_neg h39, if_neg h40, if_neg h41, if_neg h42, if_neg h43, if_neg h44, if_pos h45, if_pos h50, if_neg h51]
                              exact W.zret (v := 1) hx hb hr rfl (fun t ht hW => ⟨⟨1, (), rfl, (by show _ = _; rw [e9]), by rw [ht]; exact hP, hD⟩, hS.F ht⟩) hS.2.2 dMo_fits_233
                      · refine lv_iload hx hb dMo_fits_202 (lv_at hl 1 rfl) ?_
                        have e9 : FMo_fits xk xa xb xc = 0 := by simp only [FMo_fits, if_neg h1, if_pos h2, if_neg h35, if_neg h37, if_pos h38, if_neg h39, if_neg h40, if_neg h41, if_neg h42, if_neg h43, if_pos h44]
                        exact W.zret (v := 0) hx hb hr rfl (fun t ht hW => ⟨⟨0, (), rfl, (by show _ = _; rw [e9]), by rw [ht]; exact hP, hD⟩, hS.F ht⟩) hS.2.2 dMo_fits_204
                    · refine lv_iload hx hb dMo_fits_170 (lv_at hl 1 rfl) ?_
                      refine lv_if_eq (tgt := 194) hx hb dMo_fits_172 (by decide) (fun _ => ?_) (fun h9 => absurd h9 (by decide))
                      refine lv_iconst (v := 0) hx hb dMo_fits_194 (by first | rfl | decide) ?_
                      have e9 : FMo_fits xk xa xb xc = 0 := by simp only [FMo_fits, if_neg h1, if_pos h2, if_neg h35, if_neg h37, if_pos h38, if_neg h39, if_neg h40, if_neg h41, if_neg h42, if_pos h43]
                      exact W.zret (v := 0) hx hb hr rfl (fun t ht hW => ⟨⟨0, (), rfl, (by show _ = _; rw [e9]), by rw [ht]; exact hP, hD⟩, hS.F ht⟩) hS.2.2 dMo_fits_195
                · refine lv_iload hx hb dMo_fits_135 (lv_at hl 1 rfl) ?_
                  refine lv_if_eq (tgt := 156) hx hb dMo_fits_137 (by decide) (fun _ => ?_) (fun h9 => absurd h9 (by decide))
                  refine lv_iconst (v := 0) hx hb dMo_fits_156 (by first | rfl | decide) ?_
                  have e9 : FMo_fits xk xa xb xc = 0 := by simp only [FMo_fits, if_neg h1, if_pos h2, if_neg h35, if_neg h37, if_pos h38, if_neg h39, if_neg h40, if_pos h41]
                  exact W.zret (v := 0) hx hb hr rfl (fun t ht hW => ⟨⟨0, (), rfl, (by show _ = _; rw [e9]), by rw [ht]; exact hP, hD⟩, hS.F ht⟩) hS.2.2 dMo_fits_157
              · refine lv_iload hx hb dMo_fits_103 (lv_at hl 1 rfl) ?_
                refine lv_if_eq (tgt := 127) hx hb dMo_fits_105 (by decide) (fun _ => ?_) (fun h9 => absurd h9 (by decide))
                refine lv_iconst (v := 0) hx hb dMo_fits_127 (by first | rfl | decide) ?_
                have e9 : FMo_fits xk xa xb xc = 0 := by simp only [FMo_fits, if_neg h1, if_pos h2, if_neg h35, if_neg h37, if_pos h38, if_neg h39, if_pos h40]
                exact W.zret (v := 0) hx hb hr rfl (fun t ht hW => ⟨⟨0, (), rfl, (by show _ = _; rw [e9]), by rw [ht]; exact hP, hD⟩, hS.F ht⟩) hS.2.2 dMo_fits_128
          · refine lv_iload_n hx hb dMo_fits_65 rfl (lv_at hl 2 rfl) ?_
            refine lv_iconst (v := 4) hx hb dMo_fits_66 (by first | rfl | decide) ?_
            refine lv_icmp_gt (tgt := 92) hx hb dMo_fits_67 (by decide) (fun h52 => ?_) (fun h52 => ?_)
            · refine lv_iload_n hx hb dMo_fits_92 rfl (lv_at hl 2 rfl) ?_
              refine lv_iconst (v := 5) hx hb dMo_fits_93 (by first | rfl | decide) ?_
              refine lv_icmp_eq (tgt := 103) hx hb dMo_fits_94 (by decide) (fun h53 => ?_) (fun h53 => ?_)
              · refine lv_iload hx hb dMo_fits_103 (lv_at hl 1 rfl) ?_
                refine lv_if_eq (tgt := 127) hx hb dMo_fits_105 (by decide) (fun _ => ?_) (fun h9 => absurd h9 (by decide))
                refine lv_iconst (v := 0) hx hb dMo_fits_127 (by first | rfl | decide) ?_
                have e9 : FMo_fits xk xa xb xc = 0 := by simp only [FMo_fits, if_neg h1, if_pos h2, if_neg h35, if_neg h37, if_neg h38, if_pos h52, if_pos h53]
                exact W.zret (v := 0) hx hb hr rfl (fun t ht hW => ⟨⟨0, (), rfl, (by show _ = _; rw [e9]), by rw [ht]; exact hP, hD⟩, hS.F ht⟩) hS.2.2 dMo_fits_128
              · refine lv_iload_n hx hb dMo_fits_97 rfl (lv_at hl 2 rfl) ?_
                refine lv_bipush (v := 6) hx hb dMo_fits_98 (by first | rfl | decide) ?_
                refine lv_icmp_ne (tgt := 129) hx hb dMo_fits_100 (by decide) (fun h54 => ?_) (fun h54 => ?_)
                · refine lv_iload_n hx hb dMo_fits_129 rfl (lv_at hl 2 rfl) ?_
                  refine lv_bipush (v := 7) hx hb dMo_fits_130 (by first | rfl | decide) ?_
                  refine lv_icmp_ne (tgt := 158) hx hb dMo_fits_132 (by decide) (fun h55 => ?_) (fun h55 => ?_)
                  · refine lv_iload_n hx hb dMo_fits_158 rfl (lv_at hl 2 rfl) ?_
                    refine lv_bipush (v := 8) hx hb dMo_fits_159 (by first | rfl | decide) ?_
                    refine lv_icmp_eq (tgt := 170) hx hb dMo_fits_161 (by decide) (fun h56 => ?_) (fun h56 => ?_)
                    · refine lv_iload hx hb dMo_fits_170 (lv_at hl 1 rfl) ?_
                      refine lv_if_eq (tgt := 194) hx hb dMo_fits_172 (by decide) (fun _ => ?_) (fun h9 => absurd h9 (by decide))
                      refine lv_iconst (v := 0) hx hb dMo_fits_194 (by first | rfl | decide) ?_
                      have e9 : FMo_fits xk xa xb xc = 0 := by simp only [FMo_fits, if_neg h1, if_pos h2, if_neg h35, if_neg h37, if_neg h38, if_pos h52, if_neg h53, if_neg h54, if_neg h55, if_pos h56]
                      exact W.zret (v := 0) hx hb hr rfl (fun t ht hW => ⟨⟨0, (), rfl, (by show _ = _; rw [e9]), by rw [ht]; exact hP, hD⟩, hS.F ht⟩) hS.2.2 dMo_fits_195
                    · refine lv_iload_n hx hb dMo_fits_164 rfl (lv_at hl 2 rfl) ?_
                      refine lv_bipush (v := 9) hx hb dMo_fits_165 (by first | rfl | decide) ?_
                      refine lv_icmp_ne (tgt := 196) hx hb dMo_fits_167 (by decide) (fun h57 => ?_) (fun h57 => ?_)
                      · refine lv_iload_n hx hb dMo_fits_196 rfl (lv_at hl 2 rfl) ?_
                        refine lv_bipush (v := 10) hx hb dMo_fits_197 (by first | rfl | decide) ?_
                        refine lv_icmp_ne (tgt := 205) hx hb dMo_fits_199 (by decide) (fun h58 => ?_) (fun h58 => ?_)
                        · refine lv_iload_n hx hb dMo_fits_205 rfl (lv_at hl 2 rfl) ?_
                          refine lv_bipush (v := 12) hx hb dMo_fits_206 (by first | rfl | decide) ?_
                          refine lv_icmp_ne (tgt := 234) hx hb dMo_fits_208 (by decide) (fun h59 => ?_) (fun h59 => ?_)
                          · refine lv_iload_n hx hb dMo_fits_234 rfl (lv_at hl 2 rfl) ?_
                            refine lv_bipush (v := 13) hx hb dMo_fits_235 (by first | rfl | decide) ?_
                            refine lv_icmp_ne (tgt := 256) hx hb dMo_fits_237 (by decide) (fun h60 => ?_) (fun h60 => ?_)
                            · refine lv_iload_n hx hb dMo_fits_256 rfl (lv_at hl 2 rfl) ?_
                              refine lv_bipush (v := 14) hx hb dMo_fits_257 (by first | rfl | decide) ?_
                              refine lv_icmp_eq (tgt := 268) hx hb dMo_fits_259 (by decide) (fun h61 => ?_) (fun h61 => ?_)
                              · refine lv_iconst (v := 1) hx hb dMo_fits_268 (by first | rfl | decide) ?_
                                refine lv_goto (tgt := 273) hx hb dMo_fits_269 (by decide) ?_
                                have e9 : FMo_fits xk xa xb xc = 1 := by simp only [FMo_fits, if_neg h1, if_pos h2, if_neg h35, if_neg h37, if_neg h38, if_pos h52, if_neg h53, if_neg h54, if_neg h55, if_neg h56, if_neg h57, if_neg h58, if_neg h59, if_neg h60, if_pos h61]
                                exact W.zret (v := 1) hx hb hr rfl (fun t ht hW => ⟨⟨1, (), rfl, (by show _ = _; rw [e9]), by rw [ht]; exact hP, hD⟩, hS.F ht⟩) hS.2.2 dMo_fits_273
                              · refine lv_iload_n hx hb dMo_fits_262 rfl (lv_at hl 2 rfl) ?_
                                refine lv_bipush (v := 15) hx hb dMo_fits_263 (by first | rfl | decide) ?_
                                refine lv_icmp_ne (tgt := 272) hx hb dMo_fits_265 (by decide) (fun h62 => ?_) (fun h62 => ?_)
                                · refine lv_iconst (v := 0) hx hb dMo_fits_272 (by first | rfl | decide) ?_
                                  have e9 : FMo_fits xk xa xb xc = 0 := by simp only [FMo_fits, if_neg h1, if_pos h2, if_neg h35, if_neg h37, if_neg h38, if_pos h52, if_neg h53, if_neg h54, if_neg h55, if_neg h56, if_neg h57, if_neg h58, if_neg h59, if_neg h60, if_neg h61, if_neg h62]
                                  exact W.zret (v := 0) hx hb hr rfl (fun t ht hW => ⟨⟨0, (), rfl, (by show _ = _; rw [e9]), by rw [ht]; exact hP, hD⟩, hS.F ht⟩) hS.2.2 dMo_fits_273
                                · refine lv_iconst (v := 1) hx hb dMo_fits_268 (by first | rfl | decide) ?_
                                  refine lv_goto (tgt := 273) hx hb dMo_fits_269 (by decide) ?_
                                  have e9 : FMo_fits xk xa xb xc = 1 := by simp only [FMo_fits, if_neg h1, if_pos h2, if_neg h35, if_neg h37, if_neg h38, if_pos h52, if_neg h53, if_neg h54, if_neg h55, if_neg h56, if_neg h57, if_neg h58, if_neg h59, if_neg h60, if_neg h61, if_pos h62]
                                  exact W.zret (v := 1) hx hb hr rfl (fun t ht hW => ⟨⟨1, (), rfl, (by show _ = _; rw [e9]), by rw [ht]; exact hP, hD⟩, hS.F ht⟩) hS.2.2 dMo_fits_273
                            · refine lv_iload_n hx hb dMo_fits_240 rfl (lv_at hl 3 rfl) ?_
                              refine lv_iconst (v := 1) hx hb dMo_fits_241 (by first | rfl | decide) ?_
                              refine lv_bipush (v := 40) hx hb dMo_fits_242 (by first | rfl | decide) ?_
                              refine pq_calli (fr := (FMo_outside xa 1 40)) (wc := (wN ad cI cS)) (wr := ([] : List Nat).filterMap (fun i => (wN ad cI cS)[i]?)) hP hD hS hA [] [] rfl rfl (by decide) (by decide) (va_runS (own := RMo) (As := [.int xa, .int 1, .int 40]) (rest := []) ⟨hx, hb, hml, hown, hw⟩ (k_Mo_outside l D ad cI cS xa 1 40 H.size) ⟨pq_cwB 3 hw wd_187 wd_186 wd_185 rfl rfl (by decide +kernel) ⟨Nat.le_of_ble_eq_true rfl, Nat.le_of_ble_eq_true rfl⟩, hw _ wd_188⟩ (pq_preS hE (hP.sub [] rfl) (hD.sub [] (by decide) rfl)) rfl rfl hl.1 rfl (lv_room (Nat.le_of_ble_eq_true rfl)) dMo_fits_244 ⟨Nat.zero_le _, Nat.zero_le _⟩) (fun H locs hP hD hS => ?_)
                              have hP : va_P D vwCl (wN ad cI cS) H := hP.sub [] rfl
                              have hD : va_D _ (wN ad cI cS) := hD.sub [] (by decide) rfl
                              refine lv_if_ne (tgt := 254) hx hb dMo_fits_247 (by decide) (fun h63 => ?_) (fun h63 => ?_)
                              · refine lv_iconst (v := 0) hx hb dMo_fits_254 (by first | rfl | decide) ?_
                                have e9 : FMo_fits xk xa xb xc = 0 := by simp only [FMo_fits, if_neg h1, if_pos h2, if_neg h35, if_neg h37, if_neg h38, if_pos h52, if_neg h53, if_neg h54, if_neg h55, if_neg h56, if_neg h57, if_neg h58, if_neg h59, if_pos h60, if_neg h63]
                                exact W.zret (v := 0) hx hb hr rfl (fun t ht hW => ⟨⟨0, (), rfl, (by show _ = _; rw [e9]), by rw [ht]; exact hP, hD⟩, hS.F ht⟩) hS.2.2 dMo_fits_255
                              · refine lv_iconst (v := 1) hx hb dMo_fits_250 (by first | rfl | decide) ?_
                                refine lv_goto (tgt := 255) hx hb dMo_fits_251 (by decide) ?_
                                have e9 : FMo_fits xk xa xb xc = 1 := by simp only [FMo_fits, if_neg h1, if_pos h2, if_neg h35, if_neg h37, if_neg h38, if_pos h52, if_neg h53, if_neg h54, if_neg h55, if_neg h56, if_neg h57, if_neg h58, if_neg h59, if_pos h60, if_pos h63]
                                exact W.zret (v := 1) hx hb hr rfl (fun t ht hW => ⟨⟨1, (), rfl, (by show _ = _; rw [e9]), by rw [ht]; exact hP, hD⟩, hS.F ht⟩) hS.2.2 dMo_fits_255
                          · refine lv_iload_n hx hb dMo_fits_211 rfl (lv_at hl 3 rfl) ?_
                            refine lv_iconst (v := 0) hx hb dMo_fits_212 (by first | rfl | decide) ?_
                            refine lv_bipush (v := 15) hx hb dMo_fits_213 (by first | rfl | decide) ?_
                            refine pq_calli (fr := (FMo_outside xa 0 15)) (wc := (wN ad cI cS)) (wr := ([] : List Nat).filterMap (fun i => (wN ad cI cS)[i]?)) hP hD hS hA [] [] rfl rfl (by decide) (by decide) (va_runS (own := RMo) (As := [.int xa, .int 0, .int 15]) (rest := []) ⟨hx, hb, hml, hown, hw⟩ (k_Mo_outside l D ad cI cS xa 0 15 H.size) ⟨pq_cwB 3 hw wd_187 wd_186 wd_185 rfl rfl (by decide +kernel) ⟨Nat.le_of_ble_eq_true rfl, Nat.le_of_ble_eq_true rfl⟩, hw _ wd_188⟩ (pq_preS hE (hP.sub [] rfl) (hD.sub [] (by decide) rfl)) rfl rfl hl.1 rfl (lv_room (Nat.le_of_ble_eq_true rfl)) dMo_fits_215 ⟨Nat.zero_le _, Nat.zero_le _⟩) (fun H locs hP hD hS => ?_)
                            have hP : va_P D vwCl (wN ad cI cS) H := hP.sub [] rfl
                            have hD : va_D _ (wN ad cI cS) := hD.sub [] (by decide) rfl
                            refine lv_if_ne (tgt := 232) hx hb dMo_fits_218 (by decide) (fun h64 => ?_) (fun h64 => ?_)
                            · refine lv_iconst (v := 0) hx hb dMo_fits_232 (by first | rfl | decide) ?_
                              have e9 : FMo_fits xk xa xb xc = 0 := by simp only [FMo_fits, if_neg h1, if_pos h2, if_neg h35, if_neg h37, if_neg h38, if_pos h52, if_neg h53, if_neg h54, if_neg h55, if_neg h56, if_neg h57, if_neg h58, if_pos h59, if_neg h64]
                              exact W.zret (v := 0) hx hb hr rfl (fun t ht hW => ⟨⟨0, (), rfl, (by show _ = _; rw [e9]), by rw [ht]; exact hP, hD⟩, hS.F ht⟩) hS.2.2 dMo_fits_233
                            · refine lv_iload_n hx hb dMo_fits_221 rfl (lv_at hl 5 rfl) ?_
                              refine pq_calli (fr := (FMo_isCondition xc)) (wc := (wN ad cI cS)) (wr := ([] : List Nat).filterMap (fun i => (wN ad cI cS)[i]?)) hP hD hS hA [] [] rfl rfl (by decide) (by decide) (va_runS (own := RMo) (As := [.int xc]) (rest := []) ⟨hx, hb, hml, hown, hw⟩ (k_Mo_isCondition l D ad cI cS xc H.size) ⟨pq_cwB 1 hw wd_190 wd_186 wd_189 rfl rfl (by decide +kernel) ⟨Nat.le_of_ble_eq_true rfl, Nat.le_of_ble_eq_true rfl⟩, hw _ wd_191⟩ (pq_preS hE (hP.sub [] rfl) (hD.sub [] (by decide) rfl)) rfl rfl hl.1 rfl (lv_room (Nat.le_of_ble_eq_true rfl)) dMo_fits_222 ⟨Nat.zero_le _, Nat.zero_le _⟩) (fun H locs hP hD hS => ?_)
                              have hP : va_P D vwCl (wN ad cI cS) H := hP.sub [] rfl
                              have hD : va_D _ (wN ad cI cS) := hD.sub [] (by decide) rfl
                              refine lv_if_eq (tgt := 232) hx hb dMo_fits_225 (by decide) (fun h65 => ?_) (fun h65 => ?_)
                              · refine lv_iconst (v := 0) hx hb dMo_fits_232 (by first | rfl | decide) ?_
                                have e9 : FMo_fits xk xa xb xc = 0 := by simp only [FMo_fits, if_neg h1, if_pos h2, if_neg h35, if_neg h37, if_neg h38, if_pos h52, if_neg h53, if_neg h54, if_neg h55, if_neg h56, if_neg h57, if_neg h58, if_pos h59, if_pos h64, if_pos h65]
                                exact W.zret (v := 0) hx hb hr rfl (fun t ht hW => ⟨⟨0, (), rfl, (by show _ = _; rw [e9]), by rw [ht]; exact hP, hD⟩, hS.F ht⟩) hS.2.2 dMo_fits_233
                              · refine lv_iconst (v := 1) hx hb dMo_fits_228 (by first | rfl | decide) ?_
                                refine lv_goto (tgt := 233) hx hb dMo_fits_229 (by decide) ?_
                                have e9 : FMo_fits xk xa xb xc = 1 := by simp only [FMo_fits, if_neg h1, if_pos h2, if_neg h35, if_neg h37, if_neg h38, if_pos h52, if_neg h53, if_neg h54, if_neg h55, if_neg h56, if_neg h57, if_neg h58, if_pos h59, if_pos h64, if_neg h65]
                                exact W.zret (v := 1) hx hb hr rfl (fun t ht hW => ⟨⟨1, (), rfl, (by show _ = _; rw [e9]), by rw [ht]; exact hP, hD⟩, hS.F ht⟩) hS.2.2 dMo_fits_233
                        · refine lv_iload hx hb dMo_fits_202 (lv_at hl 1 rfl) ?_
                          have e9 : FMo_fits xk xa xb xc = 0 := by simp only [FMo_fits, if_neg h1, if_pos h2, if_neg h35, if_neg h37, if_neg h38, if_pos h52, if_neg h53, if_neg h54, if_neg h55, if_neg h56, if_neg h57, if_pos h58]
                          exact W.zret (v := 0) hx hb hr rfl (fun t ht hW => ⟨⟨0, (), rfl, (by show _ = _; rw [e9]), by rw [ht]; exact hP, hD⟩, hS.F ht⟩) hS.2.2 dMo_fits_204
                      · refine lv_iload hx hb dMo_fits_170 (lv_at hl 1 rfl) ?_
                        refine lv_if_eq (tgt := 194) hx hb dMo_fits_172 (by decide) (fun _ => ?_) (fun h9 => absurd h9 (by decide))
                        refine lv_iconst (v := 0) hx hb dMo_fits_194 (by first | rfl | decide) ?_
                        have e9 : FMo_fits xk xa xb xc = 0 := by simp only [FMo_fits, if_neg h1, if_pos h2, if_neg h35, if_neg h37, if_neg h38, if_pos h52, if_neg h53, if_neg h54, if_neg h55, if_neg h56, if_pos h57]
                        exact W.zret (v := 0) hx hb hr rfl (fun t ht hW => ⟨⟨0, (), rfl, (by show _ = _; rw [e9]), by rw [ht]; exact hP, hD⟩, hS.F ht⟩) hS.2.2 dMo_fits_195
                  · refine lv_iload hx hb dMo_fits_135 (lv_at hl 1 rfl) ?_
                    refine lv_if_eq (tgt := 156) hx hb dMo_fits_137 (by decide) (fun _ => ?_) (fun h9 => absurd h9 (by decide))
                    refine lv_iconst (v := 0) hx hb dMo_fits_156 (by first | rfl | decide) ?_
                    have e9 : FMo_fits xk xa xb xc = 0 := by simp only [FMo_fits, if_neg h1, if_pos h2, if_neg h35, if_neg h37, if_neg h38, if_pos h52, if_neg h53, if_neg h54, if_pos h55]
                    exact W.zret (v := 0) hx hb hr rfl (fun t ht hW => ⟨⟨0, (), rfl, (by show _ = _; rw [e9]), by rw [ht]; exact hP, hD⟩, hS.F ht⟩) hS.2.2 dMo_fits_157
                · refine lv_iload hx hb dMo_fits_103 (lv_at hl 1 rfl) ?_
                  refine lv_if_eq (tgt := 127) hx hb dMo_fits_105 (by decide) (fun _ => ?_) (fun h9 => absurd h9 (by decide))
                  refine lv_iconst (v := 0) hx hb dMo_fits_127 (by first | rfl | decide) ?_
                  have e9 : FMo_fits xk xa xb xc = 0 := by simp only [FMo_fits, if_neg h1, if_pos h2, if_neg h35, if_neg h37, if_neg h38, if_pos h52, if_neg h53, if_pos h54]
                  exact W.zret (v := 0) hx hb hr rfl (fun t ht hW => ⟨⟨0, (), rfl, (by show _ = _; rw [e9]), by rw [ht]; exact hP, hD⟩, hS.F ht⟩) hS.2.2 dMo_fits_128
            · refine lv_iload hx hb dMo_fits_70 (lv_at hl 1 rfl) ?_
              refine lv_if_eq (tgt := 90) hx hb dMo_fits_72 (by decide) (fun _ => ?_) (fun h9 => absurd h9 (by decide))
              refine lv_iconst (v := 0) hx hb dMo_fits_90 (by first | rfl | decide) ?_
              have e9 : FMo_fits xk xa xb xc = 0 := by simp only [FMo_fits, if_neg h1, if_pos h2, if_neg h35, if_neg h37, if_neg h38, if_neg h52]
              exact W.zret (v := 0) hx hb hr rfl (fun t ht hW => ⟨⟨0, (), rfl, (by show _ = _; rw [e9]), by rw [ht]; exact hP, hD⟩, hS.F ht⟩) hS.2.2 dMo_fits_91
        · refine lv_iload_n hx hb dMo_fits_44 rfl (lv_at hl 3 rfl) ?_
          refine lv_iconst (v := 0) hx hb dMo_fits_45 (by first | rfl | decide) ?_
          refine lv_bipush (v := 15) hx hb dMo_fits_46 (by first | rfl | decide) ?_
          refine pq_calli (fr := (FMo_outside xa 0 15)) (wc := (wN ad cI cS)) (wr := ([] : List Nat).filterMap (fun i => (wN ad cI cS)[i]?)) hP hD hS hA [] [] rfl rfl (by decide) (by decide) (va_runS (own := RMo) (As := [.int xa, .int 0, .int 15]) (rest := []) ⟨hx, hb, hml, hown, hw⟩ (k_Mo_outside l D ad cI cS xa 0 15 H.size) ⟨pq_cwB 3 hw wd_187 wd_186 wd_185 rfl rfl (by decide +kernel) ⟨Nat.le_of_ble_eq_true rfl, Nat.le_of_ble_eq_true rfl⟩, hw _ wd_188⟩ (pq_preS hE (hP.sub [] rfl) (hD.sub [] (by decide) rfl)) rfl rfl hl.1 rfl (lv_room (Nat.le_of_ble_eq_true rfl)) dMo_fits_48 ⟨Nat.zero_le _, Nat.zero_le _⟩) (fun H locs hP hD hS => ?_)
          have hP : va_P D vwCl (wN ad cI cS) H := hP.sub [] rfl
          have hD : va_D _ (wN ad cI cS) := hD.sub [] (by decide) rfl
          refine lv_if_ne (tgt := 58) hx hb dMo_fits_51 (by decide) (fun h66 => ?_) (fun h66 => ?_)
          · refine lv_iconst (v := 0) hx hb dMo_fits_58 (by first | rfl | decide) ?_
            have e9 : FMo_fits xk xa xb xc = 0 := by simp only [FMo_fits, if_neg h1, if_pos h2, if_neg h35, if_pos h37, if_neg h66]
            exact W.zret (v := 0) hx hb hr rfl (fun t ht hW => ⟨⟨0, (), rfl, (by show _ = _; rw [e9]), by rw [ht]; exact hP, hD⟩, hS.F ht⟩) hS.2.2 dMo_fits_59
          · refine lv_iconst (v := 1) hx hb dMo_fits_54 (by first | rfl | decide) ?_
            refine lv_goto (tgt := 59) hx hb dMo_fits_55 (by decide) ?_
            have e9 : FMo_fits xk xa xb xc = 1 := by simp only [FMo_fits, if_neg h1, if_pos h2, if_neg h35, if_pos h37, if_pos h66]
            exact W.zret (v := 1) hx hb hr rfl (fun t ht hW => ⟨⟨1, (), rfl, (by show _ = _; rw [e9]), by rw [ht]; exact hP, hD⟩, hS.F ht⟩) hS.2.2 dMo_fits_59
  · refine lv_iconst (v := 1) hx hb dMo_fits_10 (by first | rfl | decide) ?_
    refine lv_goto (tgt := 15) hx hb dMo_fits_11 (by decide) ?_
    refine lv_istore (lv' := [(4, .int 1), (0, .int xk), (1, .int xa), (2, .int xb), (3, .int xc)]) hx hb dMo_fits_15 hl (by decide) rfl (fun ls hl => ?_)
    refine lv_iload_n hx hb dMo_fits_17 rfl (lv_at hl 3 rfl) ?_
    refine lv_iconst (v := 0) hx hb dMo_fits_18 (by first | rfl | decide) ?_
    refine lv_bipush (v := 7) hx hb dMo_fits_19 (by first | rfl | decide) ?_
    refine pq_calli (fr := (FMo_outside xb 0 7)) (wc := (wN ad cI cS)) (wr := ([] : List Nat).filterMap (fun i => (wN ad cI cS)[i]?)) hP hD hS hA [] [] rfl rfl (by decide) (by decide) (va_runS (own := RMo) (As := [.int xb, .int 0, .int 7]) (rest := []) ⟨hx, hb, hml, hown, hw⟩ (k_Mo_outside l D ad cI cS xb 0 7 H.size) ⟨pq_cwB 3 hw wd_187 wd_186 wd_185 rfl rfl (by decide +kernel) ⟨Nat.le_of_ble_eq_true rfl, Nat.le_of_ble_eq_true rfl⟩, hw _ wd_188⟩ (pq_preS hE (hP.sub [] rfl) (hD.sub [] (by decide) rfl)) rfl rfl hl.1 rfl (lv_room (Nat.le_of_ble_eq_true rfl)) dMo_fits_21 ⟨Nat.zero_le _, Nat.zero_le _⟩) (fun H locs hP hD hS => ?_)
    have hP : va_P D vwCl (wN ad cI cS) H := hP.sub [] rfl
    have hD : va_D _ (wN ad cI cS) := hD.sub [] (by decide) rfl
    refine lv_if_ne (tgt := 31) hx hb dMo_fits_24 (by decide) (fun h67 => ?_) (fun h67 => ?_)
    · refine lv_iconst (v := 0) hx hb dMo_fits_31 (by first | rfl | decide) ?_
      refine lv_istore (lv' := [(5, .int 0), (4, .int 1), (0, .int xk), (1, .int xa), (2, .int xb), (3, .int xc)]) hx hb dMo_fits_32 hl (by decide) rfl (fun ls hl => ?_)
      refine lv_iload_n hx hb dMo_fits_34 rfl (lv_at hl 2 rfl) ?_
      refine lv_if_eq (tgt := 44) hx hb dMo_fits_35 (by decide) (fun h68 => ?_) (fun h68 => ?_)
      · refine lv_iload_n hx hb dMo_fits_44 rfl (lv_at hl 3 rfl) ?_
        refine lv_iconst (v := 0) hx hb dMo_fits_45 (by first | rfl | decide) ?_
        refine lv_bipush (v := 15) hx hb dMo_fits_46 (by first | rfl | decide) ?_
        refine pq_calli (fr := (FMo_outside xa 0 15)) (wc := (wN ad cI cS)) (wr := ([] : List Nat).filterMap (fun i => (wN ad cI cS)[i]?)) hP hD hS hA [] [] rfl rfl (by decide) (by decide) (va_runS (own := RMo) (As := [.int xa, .int 0, .int 15]) (rest := []) ⟨hx, hb, hml, hown, hw⟩ (k_Mo_outside l D ad cI cS xa 0 15 H.size) ⟨pq_cwB 3 hw wd_187 wd_186 wd_185 rfl rfl (by decide +kernel) ⟨Nat.le_of_ble_eq_true rfl, Nat.le_of_ble_eq_true rfl⟩, hw _ wd_188⟩ (pq_preS hE (hP.sub [] rfl) (hD.sub [] (by decide) rfl)) rfl rfl hl.1 rfl (lv_room (Nat.le_of_ble_eq_true rfl)) dMo_fits_48 ⟨Nat.zero_le _, Nat.zero_le _⟩) (fun H locs hP hD hS => ?_)
        have hP : va_P D vwCl (wN ad cI cS) H := hP.sub [] rfl
        have hD : va_D _ (wN ad cI cS) := hD.sub [] (by decide) rfl
        refine lv_if_ne (tgt := 58) hx hb dMo_fits_51 (by decide) (fun h69 => ?_) (fun h69 => ?_)
        · refine lv_iconst (v := 0) hx hb dMo_fits_58 (by first | rfl | decide) ?_
          have e9 : FMo_fits xk xa xb xc = 0 := by simp only [FMo_fits, if_pos h1, if_neg h67, if_pos h68, if_neg h69]
          exact W.zret (v := 0) hx hb hr rfl (fun t ht hW => ⟨⟨0, (), rfl, (by show _ = _; rw [e9]), by rw [ht]; exact hP, hD⟩, hS.F ht⟩) hS.2.2 dMo_fits_59
        · refine lv_iconst (v := 1) hx hb dMo_fits_54 (by first | rfl | decide) ?_
          refine lv_goto (tgt := 59) hx hb dMo_fits_55 (by decide) ?_
          have e9 : FMo_fits xk xa xb xc = 1 := by simp only [FMo_fits, if_pos h1, if_neg h67, if_pos h68, if_pos h69]
          exact W.zret (v := 1) hx hb hr rfl (fun t ht hW => ⟨⟨1, (), rfl, (by show _ = _; rw [e9]), by rw [ht]; exact hP, hD⟩, hS.F ht⟩) hS.2.2 dMo_fits_59
      · refine lv_iload_n hx hb dMo_fits_38 rfl (lv_at hl 2 rfl) ?_
        refine lv_bipush (v := 11) hx hb dMo_fits_39 (by first | rfl | decide) ?_
        refine lv_icmp_ne (tgt := 60) hx hb dMo_fits_41 (by decide) (fun h70 => ?_) (fun h70 => ?_)
        · refine lv_iload_n hx hb dMo_fits_60 rfl (lv_at hl 2 rfl) ?_
          refine lv_iconst (v := 1) hx hb dMo_fits_61 (by first | rfl | decide) ?_
          refine lv_icmp_lt (tgt := 92) hx hb dMo_fits_62 (by decide) (fun h71 => ?_) (fun h71 => ?_)
          · refine lv_iload_n hx hb dMo_fits_92 rfl (lv_at hl 2 rfl) ?_
            refine lv_iconst (v := 5) hx hb dMo_fits_93 (by first | rfl | decide) ?_
            refine lv_icmp_eq (tgt := 103) hx hb dMo_fits_94 (by decide) (fun h72 => ?_) (fun h72 => ?_)
            · refine lv_iload hx hb dMo_fits_103 (lv_at hl 1 rfl) ?_
              refine lv_if_eq (tgt := 127) hx hb dMo_fits_105 (by decide) (fun h9 => absurd h9 (by decide)) (fun _ => ?_)
              refine lv_iload hx hb dMo_fits_108 (lv_at hl 0 rfl) ?_
              refine lv_if_eq (tgt := 127) hx hb dMo_fits_110 (by decide) (fun _ => ?_) (fun h9 => absurd h9 (by decide))
              refine lv_iconst (v := 0) hx hb dMo_fits_127 (by first | rfl | decide) ?_
              have e9 : FMo_fits xk xa xb xc = 0 := by simp only [FMo_fits, if_pos h1, if_neg h67, if_neg h68, if_neg h70, if_pos h71, if_pos h72]
              exact W.zret (v := 0) hx hb hr rfl (fun t ht hW => ⟨⟨0, (), rfl, (by show _ = _; rw [e9]), by rw [ht]; exact hP, hD⟩, hS.F ht⟩) hS.2.2 dMo_fits_128
            · refine lv_iload_n hx hb dMo_fits_97 rfl (lv_at hl 2 rfl) ?_
              refine lv_bipush (v := 6) hx hb dMo_fits_98 (by first | rfl | decide) ?_
              refine lv_icmp_ne (tgt := 129) hx hb dMo_fits_100 (by decide) (fun h73 => ?_) (fun h73 => ?_)
              · refine lv_iload_n hx hb dMo_fits_129 rfl (lv_at hl 2 rfl) ?_
                refine lv_bipush (v := 7) hx hb dMo_fits_130 (by first | rfl | decide) ?_
                refine lv_icmp_ne (tgt := 158) hx hb dMo_fits_132 (by decide) (fun h74 => ?_) (fun h74 => ?_)
                · refine lv_iload_n hx hb dMo_fits_158 rfl (lv_at hl 2 rfl) ?_
                  refine lv_bipush (v := 8) hx hb dMo_fits_159 (by first | rfl | decide) ?_
                  refine lv_icmp_eq (tgt := 170) hx hb dMo_fits_161 (by decide) (fun h75 => ?_) (fun h75 => ?_)
                  · refine lv_iload hx hb dMo_fits_170 (lv_at hl 1 rfl) ?_
                    refine lv_if_eq (tgt := 194) hx hb dMo_fits_172 (by decide) (fun h9 => absurd h9 (by decide)) (fun _ => ?_)
                    refine lv_iload hx hb dMo_fits_175 (lv_at hl 0 rfl) ?_
                    refine lv_if_eq (tgt := 194) hx hb dMo_fits_177 (by decide) (fun _ => ?_) (fun h9 => absurd h9 (by decide))
                    refine lv_iconst (v := 0) hx hb dMo_fits_194 (by first | rfl | decide) ?_
                    have e9 : FMo_fits xk xa xb xc = 0 := by simp only [FMo_fits, if_pos h1, if_neg h67, if_neg h68, if_neg h70, if_pos h71, if_neg h72, if_neg h73, if_neg h74, if_pos h75]
                    exact W.zret (v := 0) hx hb hr rfl (fun t ht hW => ⟨⟨0, (), rfl, (by show _ = _; rw [e9]), by rw [ht]; exact hP, hD⟩, hS.F ht⟩) hS.2.2 dMo_fits_195
                  · refine lv_iload_n hx hb dMo_fits_164 rfl (lv_at hl 2 rfl) ?_
                    refine lv_bipush (v := 9) hx hb dMo_fits_165 (by first | rfl | decide) ?_
                    refine lv_icmp_ne (tgt := 196) hx hb dMo_fits_167 (by decide) (fun h76 => ?_) (fun h76 => ?_)
                    · refine lv_iload_n hx hb dMo_fits_196 rfl (lv_at hl 2 rfl) ?_
                      refine lv_bipush (v := 10) hx hb dMo_fits_197 (by first | rfl | decide) ?_
                      refine lv_icmp_ne (tgt := 205) hx hb dMo_fits_199 (by decide) (fun h77 => ?_) (fun h77 => ?_)
                      · refine lv_iload_n hx hb dMo_fits_205 rfl (lv_at hl 2 rfl) ?_
                        refine lv_bipush (v := 12) hx hb dMo_fits_206 (by first | rfl | decide) ?_
                        refine lv_icmp_ne (tgt := 234) hx hb dMo_fits_208 (by decide) (fun h78 => ?_) (fun h78 => ?_)
                        · refine lv_iload_n hx hb dMo_fits_234 rfl (lv_at hl 2 rfl) ?_
                          refine lv_bipush (v := 13) hx hb dMo_fits_235 (by first | rfl | decide) ?_
                          refine lv_icmp_ne (tgt := 256) hx hb dMo_fits_237 (by decide) (fun h79 => ?_) (fun h79 => ?_)
                          · refine lv_iload_n hx hb dMo_fits_256 rfl (lv_at hl 2 rfl) ?_
                            refine lv_bipush (v := 14) hx hb dMo_fits_257 (by first | rfl | decide) ?_
                            refine lv_icmp_eq (tgt := 268) hx hb dMo_fits_259 (by decide) (fun h80 => ?_) (fun h80 => ?_)
                            · refine lv_iconst (v := 1) hx hb dMo_fits_268 (by first | rfl | decide) ?_
                              refine lv_goto (tgt := 273) hx hb dMo_fits_269 (by decide) ?_
                              have e9 : FMo_fits xk xa xb xc = 1 := by simp only [FMo_fits, if_pos h1, if_neg h67, if_neg h68, if_neg h70, if_pos h71, if_neg h72, if_neg h73, if_neg h74, if_neg h75, if_neg h76, if_neg h77, if_neg h78, if_neg h79, if_pos h80]
                              exact W.zret (v := 1) hx hb hr rfl (fun t ht hW => ⟨⟨1, (), rfl, (by show _ = _; rw [e9]), by rw [ht]; exact hP, hD⟩, hS.F ht⟩) hS.2.2 dMo_fits_273
                            · refine lv_iload_n hx hb dMo_fits_262 rfl (lv_at hl 2 rfl) ?_
                              refine lv_bipush (v := 15) hx hb dMo_fits_263 (by first | rfl | decide) ?_
                              refine lv_icmp_ne (tgt := 272) hx hb dMo_fits_265 (by decide) (fun h81 => ?_) (fun h81 => ?_)
                              · refine lv_iconst (v := 0) hx hb dMo_fits_272 (by first | rfl | decide) ?_
                                have e9 : FMo_fits xk xa xb xc = 0 := by simp only [FMo_fits, if_pos h1, if_neg h67, if_neg h68, if_neg h70, if_pos h71, if_neg h72, if_neg h73, if_neg h74, if_neg h75, if_neg h76, if_neg h77, if_neg h78, if_neg h79, if_neg h80, if_neg h81]
                                exact W.zret (v := 0) hx hb hr rfl (fun t ht hW => ⟨⟨0, (), rfl, (by show _ = _; rw [e9]), by rw [ht]; exact hP, hD⟩, hS.F ht⟩) hS.2.2 dMo_fits_273
                              · refine lv_iconst (v := 1) hx hb dMo_fits_268 (by first | rfl | decide) ?_
                                refine lv_goto (tgt := 273) hx hb dMo_fits_269 (by decide) ?_
                                have e9 : FMo_fits xk xa xb xc = 1 := by simp only [FMo_fits, if_pos h1, if_neg h67, if_neg h68, if_neg h70, if_pos h71, if_neg h72, if_neg h73, if_neg h74, if_neg h75, if_neg h76, if_neg h77, if_neg h78, if_neg h79, if_neg h80, if_pos h81]
                                exact W.zret (v := 1) hx hb hr rfl (fun t ht hW => ⟨⟨1, (), rfl, (by show _ = _; rw [e9]), by rw [ht]; exact hP, hD⟩, hS.F ht⟩) hS.2.2 dMo_fits_273
                          · refine lv_iload_n hx hb dMo_fits_240 rfl (lv_at hl 3 rfl) ?_
                            refine lv_iconst (v := 1) hx hb dMo_fits_241 (by first | rfl | decide) ?_
                            refine lv_bipush (v := 40) hx hb dMo_fits_242 (by first | rfl | decide) ?_
                            refine pq_calli (fr := (FMo_outside xa 1 40)) (wc := (wN ad cI cS)) (wr := ([] : List Nat).filterMap (fun i => (wN ad cI cS)[i]?)) hP hD hS hA [] [] rfl rfl (by decide) (by decide) (va_runS (own := RMo) (As := [.int xa, .int 1, .int 40]) (rest := []) ⟨hx, hb, hml, hown, hw⟩ (k_Mo_outside l D ad cI cS xa 1 40 H.size) ⟨pq_cwB 3 hw wd_187 wd_186 wd_185 rfl rfl (by decide +kernel) ⟨Nat.le_of_ble_eq_true rfl, Nat.le_of_ble_eq_true rfl⟩, hw _ wd_188⟩ (pq_preS hE (hP.sub [] rfl) (hD.sub [] (by decide) rfl)) rfl rfl hl.1 rfl (lv_room (Nat.le_of_ble_eq_true rfl)) dMo_fits_244 ⟨Nat.zero_le _, Nat.zero_le _⟩) (fun H locs hP hD hS => ?_)
                            have hP : va_P D vwCl (wN ad cI cS) H := hP.sub [] rfl
                            have hD : va_D _ (wN ad cI cS) := hD.sub [] (by decide) rfl
                            refine lv_if_ne (tgt := 254) hx hb dMo_fits_247 (by decide) (fun h82 => ?_) (fun h82 => ?_)
                            · refine lv_iconst (v := 0) hx hb dMo_fits_254 (by first | rfl | decide) ?_
                              have e9 : FMo_fits xk xa xb xc = 0 := by simp only [FMo_fits, if_pos h1, if_neg h67, if_neg h68, if_neg h70, if_pos h71, if_neg h72, if_neg h73, if_neg h74, if_neg h75, if_neg h76, if_neg h77, if_neg h78, if_pos h79, if_neg h82]
                              exact W.zret (v := 0) hx hb hr rfl (fun t ht hW => ⟨⟨0, (), rfl, (by show _ = _; rw [e9]), by rw [ht]; exact hP, hD⟩, hS.F ht⟩) hS.2.2 dMo_fits_255
                            · refine lv_iconst (v := 1) hx hb dMo_fits_250 (by first | rfl | decide) ?_
                              refine lv_goto (tgt := 255) hx hb dMo_fits_251 (by decide) ?_
                              have e9 : FMo_fits xk xa xb xc = 1 := by simp only [FMo_fits, if_pos h1, if_neg h67, if_neg h68, if_neg h70, if_pos h71, if_neg h72, if_neg h73, if_neg h74, if_neg h75, if_neg h76, if_neg h77, if_neg h78, if_pos h79, if_pos h82]
                              exact W.zret (v := 1) hx hb hr rfl (fun t ht hW => ⟨⟨1, (), rfl, (by show _ = _; rw [e9]), by rw [ht]; exact hP, hD⟩, hS.F ht⟩) hS.2.2 dMo_fits_255
                        · refine lv_iload_n hx hb dMo_fits_211 rfl (lv_at hl 3 rfl) ?_
                          refine lv_iconst (v := 0) hx hb dMo_fits_212 (by first | rfl | decide) ?_
                          refine lv_bipush (v := 15) hx hb dMo_fits_213 (by first | rfl | decide) ?_
                          refine pq_calli (fr := (FMo_outside xa 0 15)) (wc := (wN ad cI cS)) (wr := ([] : List Nat).filterMap (fun i => (wN ad cI cS)[i]?)) hP hD hS hA [] [] rfl rfl (by decide) (by decide) (va_runS (own := RMo) (As := [.int xa, .int 0, .int 15]) (rest := []) ⟨hx, hb, hml, hown, hw⟩ (k_Mo_outside l D ad cI cS xa 0 15 H.size) ⟨pq_cwB 3 hw wd_187 wd_186 wd_185 rfl rfl (by decide +kernel) ⟨Nat.le_of_ble_eq_true rfl, Nat.le_of_ble_eq_true rfl⟩, hw _ wd_188⟩ (pq_preS hE (hP.sub [] rfl) (hD.sub [] (by decide) rfl)) rfl rfl hl.1 rfl (lv_room (Nat.le_of_ble_eq_true rfl)) dMo_fits_215 ⟨Nat.zero_le _, Nat.zero_le _⟩) (fun H locs hP hD hS => ?_)
                          have hP : va_P D vwCl (wN ad cI cS) H := hP.sub [] rfl
                          have hD : va_D _ (wN ad cI cS) := hD.sub [] (by decide) rfl
                          refine lv_if_ne (tgt := 232) hx hb dMo_fits_218 (by decide) (fun h83 => ?_) (fun h83 => ?_)
                          · refine lv_iconst (v := 0) hx hb dMo_fits_232 (by first | rfl | decide) ?_
                            have e9 : FMo_fits xk xa xb xc = 0 := by simp only [FMo_fits, if_pos h1, if_neg h67, if_neg h68, if_neg h70, if_pos h71, if_neg h72, if_neg h73, if_neg h74, if_neg h75, if_neg h76, if_neg h77, if_pos h78, if_neg h83]
                            exact W.zret (v := 0) hx hb hr rfl (fun t ht hW => ⟨⟨0, (), rfl, (by show _ = _; rw [e9]), by rw [ht]; exact hP, hD⟩, hS.F ht⟩) hS.2.2 dMo_fits_233
                          · refine lv_iload_n hx hb dMo_fits_221 rfl (lv_at hl 5 rfl) ?_
                            refine pq_calli (fr := (FMo_isCondition xc)) (wc := (wN ad cI cS)) (wr := ([] : List Nat).filterMap (fun i => (wN ad cI cS)[i]?)) hP hD hS hA [] [] rfl rfl (by decide) (by decide) (va_runS (own := RMo) (As := [.int xc]) (rest := []) ⟨hx, hb, hml, hown, hw⟩ (k_Mo_isCondition l D ad cI cS xc H.size) ⟨pq_cwB 1 hw wd_190 wd_186 wd_189 rfl rfl (by decide +kernel) ⟨Nat.le_of_ble_eq_true rfl, Nat.le_of_ble_eq_true rfl⟩, hw _ wd_191⟩ (pq_preS hE (hP.sub [] rfl) (hD.sub [] (by decide) rfl)) rfl rfl hl.1 rfl (lv_room (Nat.le_of_ble_eq_true rfl)) dMo_fits_222 ⟨Nat.zero_le _, Nat.zero_le _⟩) (fun H locs hP hD hS => ?_)
                            have hP : va_P D vwCl (wN ad cI cS) H := hP.sub [] rfl
                            have hD : va_D _ (wN ad cI cS) := hD.sub [] (by decide) rfl
                            refine lv_if_eq (tgt := 232) hx hb dMo_fits_225 (by decide) (fun h84 => ?_) (fun h84 => ?_)
                            · refine lv_iconst (v := 0) hx hb dMo_fits_232 (by first | rfl | decide) ?_
                              have e9 : FMo_fits xk xa xb xc = 0 := by simp only [FMo_fits, if_pos h1, if_neg h67, if_neg h68, if_neg h70, if_pos h71, if_neg h72, if_neg h73, if_neg h74, if_neg h75, if_neg h76, if_neg h77, if_pos h78, if_pos h83, if_pos h84]
                              exact W.zret (v := 0) hx hb hr rfl (fun t ht hW => ⟨⟨0, (), rfl, (by show _ = _; rw [e9]), by rw [ht]; exact hP, hD⟩, hS.F ht⟩) hS.2.2 dMo_fits_233
                            · refine lv_iconst (v := 1) hx hb dMo_fits_228 (by first | rfl | decide) ?_
                              refine lv_goto (tgt := 233) hx hb dMo_fits_229 (by decide) ?_
                              have e9 : FMo_fits xk xa xb xc = 1 := by simp only [FMo_fits, if_pos h1, if_neg h67, if_neg h68, if_neg h70, if_pos h71, if_neg h72, if_neg h73, if_neg h74, if_neg h75, if_neg h76, if_neg h77, if_pos h78, if_pos h83, if_neg h84]
                              exact W.zret (v := 1) hx hb hr rfl (fun t ht hW => ⟨⟨1, (), rfl, (by show _ = _; rw [e9]), by rw [ht]; exact hP, hD⟩, hS.F ht⟩) hS.2.2 dMo_fits_233
                      · refine lv_iload hx hb dMo_fits_202 (lv_at hl 1 rfl) ?_
                        have e9 : FMo_fits xk xa xb xc = 1 := by simp only [FMo_fits, if_pos h1, if_neg h67, if_neg h68, if_neg h70, if_pos h71, if_neg h72, if_neg h73, if_neg h74, if_neg h75, if_neg h76, if_pos h77]
                        exact W.zret (v := 1) hx hb hr rfl (fun t ht hW => ⟨⟨1, (), rfl, (by show _ = _; rw [e9]), by rw [ht]; exact hP, hD⟩, hS.F ht⟩) hS.2.2 dMo_fits_204
                    · refine lv_iload hx hb dMo_fits_170 (lv_at hl 1 rfl) ?_
                      refine lv_if_eq (tgt := 194) hx hb dMo_fits_172 (by decide) (fun h9 => absurd h9 (by decide)) (fun _ => ?_)
                      refine lv_iload hx hb dMo_fits_175 (lv_at hl 0 rfl) ?_
                      refine lv_if_eq (tgt := 194) hx hb dMo_fits_177 (by decide) (fun _ => ?_) (fun h9 => absurd h9 (by decide))
                      refine lv_iconst (v := 0) hx hb dMo_fits_194 (by first | rfl | decide) ?_
                      have e9 : FMo_fits xk xa xb xc = 0 := by simp only [FMo_fits, if_pos h1, if_neg h67, if_neg h68, if_neg h70, if_pos h71, if_neg h72, if_neg h73, if_neg h74, if_neg h75, if_pos h76]
                      exact W.zret (v := 0) hx hb hr rfl (fun t ht hW => ⟨⟨0, (), rfl, (by show _ = _; rw [e9]), by rw [ht]; exact hP, hD⟩, hS.F ht⟩) hS.2.2 dMo_fits_195
                · refine lv_iload hx hb dMo_fits_135 (lv_at hl 1 rfl) ?_
                  refine lv_if_eq (tgt := 156) hx hb dMo_fits_137 (by decide) (fun h9 => absurd h9 (by decide)) (fun _ => ?_)
                  refine lv_iload hx hb dMo_fits_140 (lv_at hl 0 rfl) ?_
                  refine lv_if_eq (tgt := 156) hx hb dMo_fits_142 (by decide) (fun _ => ?_) (fun h9 => absurd h9 (by decide))
                  refine lv_iconst (v := 0) hx hb dMo_fits_156 (by first | rfl | decide) ?_
                  have e9 : FMo_fits xk xa xb xc = 0 := by simp only [FMo_fits, if_pos h1, if_neg h67, if_neg h68, if_neg h70, if_pos h71, if_neg h72, if_neg h73, if_pos h74]
                  exact W.zret (v := 0) hx hb hr rfl (fun t ht hW => ⟨⟨0, (), rfl, (by show _ = _; rw [e9]), by rw [ht]; exact hP, hD⟩, hS.F ht⟩) hS.2.2 dMo_fits_157
              · refine lv_iload hx hb dMo_fits_103 (lv_at hl 1 rfl) ?_
                refine lv_if_eq (tgt := 127) hx hb dMo_fits_105 (by decide) (fun h9 => absurd h9 (by decide)) (fun _ => ?_)
                refine lv_iload hx hb dMo_fits_108 (lv_at hl 0 rfl) ?_
                refine lv_if_eq (tgt := 127) hx hb dMo_fits_110 (by decide) (fun _ => ?_) (fun h9 => absurd h9 (by decide))
                refine lv_iconst (v := 0) hx hb dMo_fits_127 (by first | rfl | decide) ?_
                have e9 : FMo_fits xk xa xb xc = 0 := by simp only [FMo_fits, if_pos h1, if_neg h67, if_neg h68, if_neg h70, if_pos h71, if_neg h72, if_pos h73]
                exact W.zret (v := 0) hx hb hr rfl (fun t ht hW => ⟨⟨0, (), rfl, (by show _ = _; rw [e9]), by rw [ht]; exact hP, hD⟩, hS.F ht⟩) hS.2.2 dMo_fits_128
          · refine lv_iload_n hx hb dMo_fits_65 rfl (lv_at hl 2 rfl) ?_
            refine lv_iconst (v := 4) hx hb dMo_fits_66 (by first | rfl | decide) ?_
            refine lv_icmp_gt (tgt := 92) hx hb dMo_fits_67 (by decide) (fun h85 => ?_) (fun h85 => ?_)
            · refine lv_iload_n hx hb dMo_fits_92 rfl (lv_at hl 2 rfl) ?_
              refine lv_iconst (v := 5) hx hb dMo_fits_93 (by first | rfl | decide) ?_
              refine lv_icmp_eq (tgt := 103) hx hb dMo_fits_94 (by decide) (fun h86 => ?_) (fun h86 => ?_)
              · refine lv_iload hx hb dMo_fits_103 (lv_at hl 1 rfl) ?_
                refine lv_if_eq (tgt := 127) hx hb dMo_fits_105 (by decide) (fun h9 => absurd h9 (by decide)) (fun _ => ?_)
                refine lv_iload hx hb dMo_fits_108 (lv_at hl 0 rfl) ?_
                refine lv_if_eq (tgt := 127) hx hb dMo_fits_110 (by decide) (fun _ => ?_) (fun h9 => absurd h9 (by decide))
                refine lv_iconst (v := 0) hx hb dMo_fits_127 (by first | rfl | decide) ?_
                have e9 : FMo_fits xk xa xb xc = 0 := by simp only [FMo_fits, if_pos h1, if_neg h67, if_neg h68, if_neg h70, if_neg h71, if_pos h85, if_pos h86]
                exact W.zret (v := 0) hx hb hr rfl (fun t ht hW => ⟨⟨0, (), rfl, (by show _ = _; rw [e9]), by rw [ht]; exact hP, hD⟩, hS.F ht⟩) hS.2.2 dMo_fits_128
              · refine lv_iload_n hx hb dMo_fits_97 rfl (lv_at hl 2 rfl) ?_
                refine lv_bipush (v := 6) hx hb dMo_fits_98 (by first | rfl | decide) ?_
                refine lv_icmp_ne (tgt := 129) hx hb dMo_fits_100 (by decide) (fun h87 => ?_) (fun h87 => ?_)
                · refine lv_iload_n hx hb dMo_fits_129 rfl (lv_at hl 2 rfl) ?_
                  refine lv_bipush (v := 7) hx hb dMo_fits_130 (by first | rfl | decide) ?_
                  refine lv_icmp_ne (tgt := 158) hx hb dMo_fits_132 (by decide) (fun h88 => ?_) (fun h88 => ?_)
                  · refine lv_iload_n hx hb dMo_fits_158 rfl (lv_at hl 2 rfl) ?_
                    refine lv_bipush (v := 8) hx hb dMo_fits_159 (by first | rfl | decide) ?_
                    refine lv_icmp_eq (tgt := 170) hx hb dMo_fits_161 (by decide) (fun h89 => ?_) (fun h89 => ?_)
                    · refine lv_iload hx hb dMo_fits_170 (lv_at hl 1 rfl) ?_
                      refine lv_if_eq (tgt := 194) hx hb dMo_fits_172 (by decide) (fun h9 => absurd h9 (by decide)) (fun _ => ?_)
                      refine lv_iload hx hb dMo_fits_175 (lv_at hl 0 rfl) ?_
                      refine lv_if_eq (tgt := 194) hx hb dMo_fits_177 (by decide) (fun _ => ?_) (fun h9 => absurd h9 (by decide))
                      refine lv_iconst (v := 0) hx hb dMo_fits_194 (by first | rfl | decide) ?_
                      have e9 : FMo_fits xk xa xb xc = 0 := by simp only [FMo_fits, if_pos h1, if_neg h67, if_neg h68, if_neg h70, if_neg h71, if_pos h85, if_neg h86, if_neg h87, if_neg h88, if_pos h89]
                      exact W.zret (v := 0) hx hb hr rfl (fun t ht hW => ⟨⟨0, (), rfl, (by show _ = _; rw [e9]), by rw [ht]; exact hP, hD⟩, hS.F ht⟩) hS.2.2 dMo_fits_195
                    · refine lv_iload_n hx hb dMo_fits_164 rfl (lv_at hl 2 rfl) ?_
                      refine lv_bipush (v := 9) hx hb dMo_fits_165 (by first | rfl | decide) ?_
                      refine lv_icmp_ne (tgt := 196) hx hb dMo_fits_167 (by decide) (fun h90 => ?_) (fun h90 => ?_)
                      · refine lv_iload_n hx hb dMo_fits_196 rfl (lv_at hl 2 rfl) ?_
                        refine lv_bipush (v := 10) hx hb dMo_fits_197 (by first | rfl | decide) ?_
                        refine lv_icmp_ne (tgt := 205) hx hb dMo_fits_199 (by decide) (fun h91 => ?_) (fun h91 => ?_)
                        · refine lv_iload_n hx hb dMo_fits_205 rfl (lv_at hl 2 rfl) ?_
                          refine lv_bipush (v := 12) hx hb dMo_fits_206 (by first | rfl | decide) ?_
                          refine lv_icmp_ne (tgt := 234) hx hb dMo_fits_208 (by decide) (fun h92 => ?_) (fun h92 => ?_)
                          · refine lv_iload_n hx hb dMo_fits_234 rfl (lv_at hl 2 rfl) ?_
                            refine lv_bipush (v := 13) hx hb dMo_fits_235 (by first | rfl | decide) ?_
                            refine lv_icmp_ne (tgt := 256) hx hb dMo_fits_237 (by decide) (fun h93 => ?_) (fun h93 => ?_)
                            · refine lv_iload_n hx hb dMo_fits_256 rfl (lv_at hl 2 rfl) ?_
                              refine lv_bipush (v := 14) hx hb dMo_fits_257 (by first | rfl | decide) ?_
                              refine lv_icmp_eq (tgt := 268) hx hb dMo_fits_259 (by decide) (fun h94 => ?_) (fun h94 => ?_)
                              · refine lv_iconst (v := 1) hx hb dMo_fits_268 (by first | rfl | decide) ?_
                                refine lv_goto (tgt := 273) hx hb dMo_fits_269 (by decide) ?_
                                have e9 : FMo_fits xk xa xb xc = 1 := by simp only [FMo_fits, if_pos h1, if_neg h67, if_neg h68, if_neg h70, if_neg h71, if_pos h85, if_neg h86, if_neg h87, if_neg h88, if_neg h89, if_neg h90, if_neg h91, if_neg h92, if_neg h93, if_pos h94]
                                exact W.zret (v := 1) hx hb hr rfl (fun t ht hW => ⟨⟨1, (), rfl, (by show _ = _; rw [e9]), by rw [ht]; exact hP, hD⟩, hS.F ht⟩) hS.2.2 dMo_fits_273
                              · refine lv_iload_n hx hb dMo_fits_262 rfl (lv_at hl 2 rfl) ?_
                                refine lv_bipush (v := 15) hx hb dMo_fits_263 (by first | rfl | decide) ?_
                                refine lv_icmp_ne (tgt := 272) hx hb dMo_fits_265 (by decide) (fun h95 => ?_) (fun h95 => ?_)
                                · refine lv_iconst (v := 0) hx hb dMo_fits_272 (by first | rfl | decide) ?_
                                  have e9 : FMo_fits xk xa xb xc = 0 := by simp only [FMo_fits, if_pos h1, if_neg h67, if_neg h68, if_neg h70, if_neg h71, if_pos h85, if_neg h86, if_neg h87, if_neg h88, if_neg h89, if_neg h90, if_neg h91, if_neg h92, if_neg h93, if_neg h94, if_neg h95]
                                  exact W.zret (v := 0) hx hb hr rfl (fun t ht hW => ⟨⟨0, (), rfl, (by show _ = _; rw [e9]), by rw [ht]; exact hP, hD⟩, hS.F ht⟩) hS.2.2 dMo_fits_273
                                · refine lv_iconst (v := 1) hx hb dMo_fits_268 (by first | rfl | decide) ?_
                                  refine lv_goto (tgt := 273) hx hb dMo_fits_269 (by decide) ?_
                                  have e9 : FMo_fits xk xa xb xc = 1 := by simp only [FMo_fits, if_pos h1, if_neg h67, if_neg h68, if_neg h70, if_neg h71, if_pos h85, if_neg h86, if_neg h87, if_neg h88, if_neg h89, if_neg h90, if_neg h91, if_neg h92, if_neg h93, if_neg h94, if_pos h95]
                                  exact W.zret (v := 1) hx hb hr rfl (fun t ht hW => ⟨⟨1, (), rfl, (by show _ = _; rw [e9]), by rw [ht]; exact hP, hD⟩, hS.F ht⟩) hS.2.2 dMo_fits_273
                            · refine lv_iload_n hx hb dMo_fits_240 rfl (lv_at hl 3 rfl) ?_
                              refine lv_iconst (v := 1) hx hb dMo_fits_241 (by first | rfl | decide) ?_
                              refine lv_bipush (v := 40) hx hb dMo_fits_242 (by first | rfl | decide) ?_
                              refine pq_calli (fr := (FMo_outside xa 1 40)) (wc := (wN ad cI cS)) (wr := ([] : List Nat).filterMap (fun i => (wN ad cI cS)[i]?)) hP hD hS hA [] [] rfl rfl (by decide) (by decide) (va_runS (own := RMo) (As := [.int xa, .int 1, .int 40]) (rest := []) ⟨hx, hb, hml, hown, hw⟩ (k_Mo_outside l D ad cI cS xa 1 40 H.size) ⟨pq_cwB 3 hw wd_187 wd_186 wd_185 rfl rfl (by decide +kernel) ⟨Nat.le_of_ble_eq_true rfl, Nat.le_of_ble_eq_true rfl⟩, hw _ wd_188⟩ (pq_preS hE (hP.sub [] rfl) (hD.sub [] (by decide) rfl)) rfl rfl hl.1 rfl (lv_room (Nat.le_of_ble_eq_true rfl)) dMo_fits_244 ⟨Nat.zero_le _, Nat.zero_le _⟩) (fun H locs hP hD hS => ?_)
                              have hP : va_P D vwCl (wN ad cI cS) H := hP.sub [] rfl
                              have hD : va_D _ (wN ad cI cS) := hD.sub [] (by decide) rfl
                              refine lv_if_ne (tgt := 254) hx hb dMo_fits_247 (by decide) (fun h96 => ?_) (fun h96 => ?_)
                              · refine lv_iconst (v := 0) hx hb dMo_fits_254 (by first | rfl | decide) ?_
                                have e9 : FMo_fits xk xa xb xc = 0 := by simp only [FMo_fits, if_pos h1, if_neg h67, if_neg h68, if_neg h70, if_neg h71, if_pos h85, if_neg h86, if_neg h87, if_neg h88, if_neg h89, if_neg h90, if_neg h91, if_neg h92, if_pos h93, if_neg h96]
                                exact W.zret (v := 0) hx hb hr rfl (fun t ht hW => ⟨⟨0, (), rfl, (by show _ = _; rw [e9]), by rw [ht]; exact hP, hD⟩, hS.F ht⟩) hS.2.2 dMo_fits_255
                              · refine lv_iconst (v := 1) hx hb dMo_fits_250 (by first | rfl | decide) ?_
                                refine lv_goto (tgt := 255) hx hb dMo_fits_251 (by decide) ?_
                                have e9 : FMo_fits xk xa xb xc = 1 := by simp only [FMo_fits, if_pos h1, if_neg h67, if_neg h68, if_neg h70, if_neg h71, if_pos h85, if_neg h86, if_neg h87, if_neg h88, if_neg h89, if_neg h90, if_neg h91, if_neg h92, if_pos h93, if_pos h96]
                                exact W.zret (v := 1) hx hb hr rfl (fun t ht hW => ⟨⟨1, (), rfl, (by show _ = _; rw [e9]), by rw [ht]; exact hP, hD⟩, hS.F ht⟩) hS.2.2 dMo_fits_255
                          · refine lv_iload_n hx hb dMo_fits_211 rfl (lv_at hl 3 rfl) ?_
                            refine lv_iconst (v := 0) hx hb dMo_fits_212 (by first | rfl | decide) ?_
                            refine lv_bipush (v := 15) hx hb dMo_fits_213 (by first | rfl | decide) ?_
                            refine pq_calli (fr := (FMo_outside xa 0 15)) (wc := (wN ad cI cS)) (wr := ([] : List Nat).filterMap (fun i => (wN ad cI cS)[i]?)) hP hD hS hA [] [] rfl rfl (by decide) (by decide) (va_runS (own := RMo) (As := [.int xa, .int 0, .int 15]) (rest := []) ⟨hx, hb, hml, hown, hw⟩ (k_Mo_outside l D ad cI cS xa 0 15 H.size) ⟨pq_cwB 3 hw wd_187 wd_186 wd_185 rfl rfl (by decide +kernel) ⟨Nat.le_of_ble_eq_true rfl, Nat.le_of_ble_eq_true rfl⟩, hw _ wd_188⟩ (pq_preS hE (hP.sub [] rfl) (hD.sub [] (by decide) rfl)) rfl rfl hl.1 rfl (lv_room (Nat.le_of_ble_eq_true rfl)) dMo_fits_215 ⟨Nat.zero_le _, Nat.zero_le _⟩) (fun H locs hP hD hS => ?_)
                            have hP : va_P D vwCl (wN ad cI cS) H := hP.sub [] rfl
                            have hD : va_D _ (wN ad cI cS) := hD.sub [] (by decide) rfl
                            refine lv_if_ne (tgt := 232) hx hb dMo_fits_218 (by decide) (fun h97 => ?_) (fun h97 => ?_)
                            · refine lv_iconst (v := 0) hx hb dMo_fits_232 (by first | rfl | decide) ?_
                              have e9 : FMo_fits xk xa xb xc = 0 := by simp only [FMo_fits, if_pos h1, if_neg h67, if_neg h68, if_neg h70, if_neg h71, if_pos h85, if_neg h86, if_neg h87, if_neg h88, if_neg h89, if_neg h90, if_neg h91, if_pos h92, if_neg h97]
                              exact W.zret (v := 0) hx hb hr rfl (fun t ht hW => ⟨⟨0, (), rfl, (by show _ = _; rw [e9]), by rw [ht]; exact hP, hD⟩, hS.F ht⟩) hS.2.2 dMo_fits_233
                            · refine lv_iload_n hx hb dMo_fits_221 rfl (lv_at hl 5 rfl) ?_
                              refine pq_calli (fr := (FMo_isCondition xc)) (wc := (wN ad cI cS)) (wr := ([] : List Nat).filterMap (fun i => (wN ad cI cS)[i]?)) hP hD hS hA [] [] rfl rfl (by decide) (by decide) (va_runS (own := RMo) (As := [.int xc]) (rest := []) ⟨hx, hb, hml, hown, hw⟩ (k_Mo_isCondition l D ad cI cS xc H.size) ⟨pq_cwB 1 hw wd_190 wd_186 wd_189 rfl rfl (by decide +kernel) ⟨Nat.le_of_ble_eq_true rfl, Nat.le_of_ble_eq_true rfl⟩, hw _ wd_191⟩ (pq_preS hE (hP.sub [] rfl) (hD.sub [] (by decide) rfl)) rfl rfl hl.1 rfl (lv_room (Nat.le_of_ble_eq_true rfl)) dMo_fits_222 ⟨Nat.zero_le _, Nat.zero_le _⟩) (fun H locs hP hD hS => ?_)
                              have hP : va_P D vwCl (wN ad cI cS) H := hP.sub [] rfl
                              have hD : va_D _ (wN ad cI cS) := hD.sub [] (by decide) rfl
                              refine lv_if_eq (tgt := 232) hx hb dMo_fits_225 (by decide) (fun h98 => ?_) (fun h98 => ?_)
                              · refine lv_iconst (v := 0) hx hb dMo_fits_232 (by first | rfl | decide) ?_
                                have e9 : FMo_fits xk xa xb xc = 0 := by simp only [FMo_fits, if_pos h1, if_neg h67, if_neg h68, if_neg h70, if_neg h71, if_pos h85, if_neg h86, if_neg h87, if_neg h88, if_neg h89, if_neg h90, if_neg h91, if_pos h92, if_pos h97, if_pos h98]
                                exact W.zret (v := 0) hx hb hr rfl (fun t ht hW => ⟨⟨0, (), rfl, (by show _ = _; rw [e9]), by rw [ht]; exact hP, hD⟩, hS.F ht⟩) hS.2.2 dMo_fits_233
                              · refine lv_iconst (v := 1) hx hb dMo_fits_228 (by first | rfl | decide) ?_
                                refine lv_goto (tgt := 233) hx hb dMo_fits_229 (by decide) ?_
                                have e9 : FMo_fits xk xa xb xc = 1 := by simp only [FMo_fits, if_pos h1, if_neg h67, if_neg h68, if_neg h70, if_neg h71, if_pos h85, if_neg h86, if_neg h87, if_neg h88, if_neg h89, if_neg h90, if_neg h91, if_pos h92, if_pos h97, if_neg h98]
                                exact W.zret (v := 1) hx hb hr rfl (fun t ht hW => ⟨⟨1, (), rfl, (by show _ = _; rw [e9]), by rw [ht]; exact hP, hD⟩, hS.F ht⟩) hS.2.2 dMo_fits_233
                        · refine lv_iload hx hb dMo_fits_202 (lv_at hl 1 rfl) ?_
                          have e9 : FMo_fits xk xa xb xc = 1 := by simp only [FMo_fits, if_pos h1, if_neg h67, if_neg h68, if_neg h70, if_neg h71, if_pos h85, if_neg h86, if_neg h87, if_neg h88, if_neg h89, if_neg h90, if_pos h91]
                          exact W.zret (v := 1) hx hb hr rfl (fun t ht hW => ⟨⟨1, (), rfl, (by show _ = _; rw [e9]), by rw [ht]; exact hP, hD⟩, hS.F ht⟩) hS.2.2 dMo_fits_204
                      · refine lv_iload hx hb dMo_fits_170 (lv_at hl 1 rfl) ?_
                        refine lv_if_eq (tgt := 194) hx hb dMo_fits_172 (by decide) (fun h9 => absurd h9 (by decide)) (fun _ => ?_)
                        refine lv_iload hx hb dMo_fits_175 (lv_at hl 0 rfl) ?_
                        refine lv_if_eq (tgt := 194) hx hb dMo_fits_177 (by decide) (fun _ => ?_) (fun h9 => absurd h9 (by decide))
                        refine lv_iconst (v := 0) hx hb dMo_fits_194 (by first | rfl | decide) ?_
                        have e9 : FMo_fits xk xa xb xc = 0 := by simp only [FMo_fits, if_pos h1, if_neg h67, if_neg h68, if_neg h70, if_neg h71, if_pos h85, if_neg h86, if_neg h87, if_neg h88, if_neg h89, if_pos h90]
                        exact W.zret (v := 0) hx hb hr rfl (fun t ht hW => ⟨⟨0, (), rfl, (by show _ = _; rw [e9]), by rw [ht]; exact hP, hD⟩, hS.F ht⟩) hS.2.2 dMo_fits_195
                  · refine lv_iload hx hb dMo_fits_135 (lv_at hl 1 rfl) ?_
                    refine lv_if_eq (tgt := 156) hx hb dMo_fits_137 (by decide) (fun h9 => absurd h9 (by decide)) (fun _ => ?_)
                    refine lv_iload hx hb dMo_fits_140 (lv_at hl 0 rfl) ?_
                    refine lv_if_eq (tgt := 156) hx hb dMo_fits_142 (by decide) (fun _ => ?_) (fun h9 => absurd h9 (by decide))
                    refine lv_iconst (v := 0) hx hb dMo_fits_156 (by first | rfl | decide) ?_
                    have e9 : FMo_fits xk xa xb xc = 0 := by simp only [FMo_fits, if_pos h1, if_neg h67, if_neg h68, if_neg h70, if_neg h71, if_pos h85, if_neg h86, if_neg h87, if_pos h88]
                    exact W.zret (v := 0) hx hb hr rfl (fun t ht hW => ⟨⟨0, (), rfl, (by show _ = _; rw [e9]), by rw [ht]; exact hP, hD⟩, hS.F ht⟩) hS.2.2 dMo_fits_157
                · refine lv_iload hx hb dMo_fits_103 (lv_at hl 1 rfl) ?_
                  refine lv_if_eq (tgt := 127) hx hb dMo_fits_105 (by decide) (fun h9 => absurd h9 (by decide)) (fun _ => ?_)
                  refine lv_iload hx hb dMo_fits_108 (lv_at hl 0 rfl) ?_
                  refine lv_if_eq (tgt := 127) hx hb dMo_fits_110 (by decide) (fun _ => ?_) (fun h9 => absurd h9 (by decide))
                  refine lv_iconst (v := 0) hx hb dMo_fits_127 (by first | rfl | decide) ?_
                  have e9 : FMo_fits xk xa xb xc = 0 := by simp only [FMo_fits, if_pos h1, if_neg h67, if_neg h68, if_neg h70, if_neg h71, if_pos h85, if_neg h86, if_pos h87]
                  exact W.zret (v := 0) hx hb hr rfl (fun t ht hW => ⟨⟨0, (), rfl, (by show _ = _; rw [e9]), by rw [ht]; exact hP, hD⟩, hS.F ht⟩) hS.2.2 dMo_fits_128
            · refine lv_iload hx hb dMo_fits_70 (lv_at hl 1 rfl) ?_
              refine lv_if_eq (tgt := 90) hx hb dMo_fits_72 (by decide) (fun h9 => absurd h9 (by decide)) (fun _ => ?_)
              refine lv_iload_n hx hb dMo_fits_75 rfl (lv_at hl 4 rfl) ?_
              refine lv_iconst (v := 0) hx hb dMo_fits_76 (by first | rfl | decide) ?_
              refine lv_sipush (v := 255) hx hb dMo_fits_77 (by first | rfl | decide) ?_
              refine pq_calli (fr := (FMo_outside xb 0 255)) (wc := (wN ad cI cS)) (wr := ([] : List Nat).filterMap (fun i => (wN ad cI cS)[i]?)) hP hD hS hA [] [] rfl rfl (by decide) (by decide) (va_runS (own := RMo) (As := [.int xb, .int 0, .int 255]) (rest := []) ⟨hx, hb, hml, hown, hw⟩ (k_Mo_outside l D ad cI cS xb 0 255 H.size) ⟨pq_cwB 3 hw wd_187 wd_186 wd_185 rfl rfl (by decide +kernel) ⟨Nat.le_of_ble_eq_true rfl, Nat.le_of_ble_eq_true rfl⟩, hw _ wd_188⟩ (pq_preS hE (hP.sub [] rfl) (hD.sub [] (by decide) rfl)) rfl rfl hl.1 rfl (lv_room (Nat.le_of_ble_eq_true rfl)) dMo_fits_80 ⟨Nat.zero_le _, Nat.zero_le _⟩) (fun H locs hP hD hS => ?_)
              have hP : va_P D vwCl (wN ad cI cS) H := hP.sub [] rfl
              have hD : va_D _ (wN ad cI cS) := hD.sub [] (by decide) rfl
              refine lv_if_ne (tgt := 90) hx hb dMo_fits_83 (by decide) (fun h99 => ?_) (fun h99 => ?_)
              · refine lv_iconst (v := 0) hx hb dMo_fits_90 (by first | rfl | decide) ?_
                have e9 : FMo_fits xk xa xb xc = 0 := by simp only [FMo_fits, if_pos h1, if_neg h67, if_neg h68, if_neg h70, if_neg h71, if_neg h85, if_neg h99]
                exact W.zret (v := 0) hx hb hr rfl (fun t ht hW => ⟨⟨0, (), rfl, (by show _ = _; rw [e9]), by rw [ht]; exact hP, hD⟩, hS.F ht⟩) hS.2.2 dMo_fits_91
              · refine lv_iconst (v := 1) hx hb dMo_fits_86 (by first | rfl | decide) ?_
                refine lv_goto (tgt := 91) hx hb dMo_fits_87 (by decide) ?_
                have e9 : FMo_fits xk xa xb xc = 1 := by simp only [FMo_fits, if_pos h1, if_neg h67, if_neg h68, if_neg h70, if_neg h71, if_neg h85, if_pos h99]
                exact W.zret (v := 1) hx hb hr rfl (fun t ht hW => ⟨⟨1, (), rfl, (by show _ = _; rw [e9]), by rw [ht]; exact hP, hD⟩, hS.F ht⟩) hS.2.2 dMo_fits_91
        · refine lv_iload_n hx hb dMo_fits_44 rfl (lv_at hl 3 rfl) ?_
          refine lv_iconst (v := 0) hx hb dMo_fits_45 (by first | rfl | decide) ?_
          refine lv_bipush (v := 15) hx hb dMo_fits_46 (by first | rfl | decide) ?_
          refine pq_calli (fr := (FMo_outside xa 0 15)) (wc := (wN ad cI cS)) (wr := ([] : List Nat).filterMap (fun i => (wN ad cI cS)[i]?)) hP hD hS hA [] [] rfl rfl (by decide) (by decide) (va_runS (own := RMo) (As := [.int xa, .int 0, .int 15]) (rest := []) ⟨hx, hb, hml, hown, hw⟩ (k_Mo_outside l D ad cI cS xa 0 15 H.size) ⟨pq_cwB 3 hw wd_187 wd_186 wd_185 rfl rfl (by decide +kernel) ⟨Nat.le_of_ble_eq_true rfl, Nat.le_of_ble_eq_true rfl⟩, hw _ wd_188⟩ (pq_preS hE (hP.sub [] rfl) (hD.sub [] (by decide) rfl)) rfl rfl hl.1 rfl (lv_room (Nat.le_of_ble_eq_true rfl)) dMo_fits_48 ⟨Nat.zero_le _, Nat.zero_le _⟩) (fun H locs hP hD hS => ?_)
          have hP : va_P D vwCl (wN ad cI cS) H := hP.sub [] rfl
          have hD : va_D _ (wN ad cI cS) := hD.sub [] (by decide) rfl
          refine lv_if_ne (tgt := 58) hx hb dMo_fits_51 (by decide) (fun h100 => ?_) (fun h100 => ?_)
          · refine lv_iconst (v := 0) hx hb dMo_fits_58 (by first | rfl | decide) ?_
            have e9 : FMo_fits xk xa xb xc = 0 := by simp only [FMo_fits, if_pos h1, if_neg h67, if_neg h68, if_pos h70, if_neg h100]
            exact W.zret (v := 0) hx hb hr rfl (fun t ht hW => ⟨⟨0, (), rfl, (by show _ = _; rw [e9]), by rw [ht]; exact hP, hD⟩, hS.F ht⟩) hS.2.2 dMo_fits_59
          · refine lv_iconst (v := 1) hx hb dMo_fits_54 (by first | rfl | decide) ?_
            refine lv_goto (tgt := 59) hx hb dMo_fits_55 (by decide) ?_
            have e9 : FMo_fits xk xa xb xc = 1 := by simp only [FMo_fits, if_pos h1, if_neg h67, if_neg h68, if_pos h70, if_pos h100]
            exact W.zret (v := 1) hx hb hr rfl (fun t ht hW => ⟨⟨1, (), rfl, (by show _ = _; rw [e9]), by rw [ht]; exact hP, hD⟩, hS.F ht⟩) hS.2.2 dMo_fits_59
    · refine lv_iconst (v := 1) hx hb dMo_fits_27 (by first | rfl | decide) ?_
      refine lv_goto (tgt := 32) hx hb dMo_fits_28 (by decide) ?_
      refine lv_istore (lv' := [(5, .int 1), (4, .int 1), (0, .int xk), (1, .int xa), (2, .int xb), (3, .int xc)]) hx hb dMo_fits_32 hl (by decide) rfl (fun ls hl => ?_)
      refine lv_iload_n hx hb dMo_fits_34 rfl (lv_at hl 2 rfl) ?_
      refine lv_if_eq (tgt := 44) hx hb dMo_fits_35 (by decide) (fun h101 => ?_) (fun h101 => ?_)
      · refine lv_iload_n hx hb dMo_fits_44 rfl (lv_at hl 3 rfl) ?_
        refine lv_iconst (v := 0) hx hb dMo_fits_45 (by first | rfl | decide) ?_
        refine lv_bipush (v := 15) hx hb dMo_fits_46 (by first | rfl | decide) ?_
        refine pq_calli (fr := (FMo_outside xa 0 15)) (wc := (wN ad cI cS)) (wr := ([] : List Nat).filterMap (fun i => (wN ad cI cS)[i]?)) hP hD hS hA [] [] rfl rfl (by decide) (by decide) (va_runS (own := RMo) (As := [.int xa, .int 0, .int 15]) (rest := []) ⟨hx, hb, hml, hown, hw⟩ (k_Mo_outside l D ad cI cS xa 0 15 H.size) ⟨pq_cwB 3 hw wd_187 wd_186 wd_185 rfl rfl (by decide +kernel) ⟨Nat.le_of_ble_eq_true rfl, Nat.le_of_ble_eq_true rfl⟩, hw _ wd_188⟩ (pq_preS hE (hP.sub [] rfl) (hD.sub [] (by decide) rfl)) rfl rfl hl.1 rfl (lv_room (Nat.le_of_ble_eq_true rfl)) dMo_fits_48 ⟨Nat.zero_le _, Nat.zero_le _⟩) (fun H locs hP hD hS => ?_)
        have hP : va_P D vwCl (wN ad cI cS) H := hP.sub [] rfl
        have hD : va_D _ (wN ad cI cS) := hD.sub [] (by decide) rfl
        refine lv_if_ne (tgt := 58) hx hb dMo_fits_51 (by decide) (fun h102 => ?_) (fun h102 => ?_)
        · refine lv_iconst (v := 0) hx hb dMo_fits_58 (by first | rfl | decide) ?_
          have e9 : FMo_fits xk xa xb xc = 0 := by simp only [FMo_fits, if_pos h1, if_pos h67, if_pos h101, if_neg h102]
          exact W.zret (v := 0) hx hb hr rfl (fun t ht hW => ⟨⟨0, (), rfl, (by show _ = _; rw [e9]), by rw [ht]; exact hP, hD⟩, hS.F ht⟩) hS.2.2 dMo_fits_59
        · refine lv_iconst (v := 1) hx hb dMo_fits_54 (by first | rfl | decide) ?_
          refine lv_goto (tgt := 59) hx hb dMo_fits_55 (by decide) ?_
          have e9 : FMo_fits xk xa xb xc = 1 := by simp only [FMo_fits, if_pos h1, if_pos h67, if_pos h101, if_pos h102]
          exact W.zret (v := 1) hx hb hr rfl (fun t ht hW => ⟨⟨1, (), rfl, (by show _ = _; rw [e9]), by rw [ht]; exact hP, hD⟩, hS.F ht⟩) hS.2.2 dMo_fits_59
      · refine lv_iload_n hx hb dMo_fits_38 rfl (lv_at hl 2 rfl) ?_
        refine lv_bipush (v := 11) hx hb dMo_fits_39 (by first | rfl | decide) ?_
        refine lv_icmp_ne (tgt := 60) hx hb dMo_fits_41 (by decide) (fun h103 => ?_) (fun h103 => ?_)
        · refine lv_iload_n hx hb dMo_fits_60 rfl (lv_at hl 2 rfl) ?_
          refine lv_iconst (v := 1) hx hb dMo_fits_61 (by first | rfl | decide) ?_
          refine lv_icmp_lt (tgt := 92) hx hb dMo_fits_62 (by decide) (fun h104 => ?_) (fun h104 => ?_)
          · refine lv_iload_n hx hb dMo_fits_92 rfl (lv_at hl 2 rfl) ?_
            refine lv_iconst (v := 5) hx hb dMo_fits_93 (by first | rfl | decide) ?_
            refine lv_icmp_eq (tgt := 103) hx hb dMo_fits_94 (by decide) (fun h105 => ?_) (fun h105 => ?_)
            · refine lv_iload hx hb dMo_fits_103 (lv_at hl 1 rfl) ?_
              refine lv_if_eq (tgt := 127) hx hb dMo_fits_105 (by decide) (fun h9 => absurd h9 (by decide)) (fun _ => ?_)
              refine lv_iload hx hb dMo_fits_108 (lv_at hl 0 rfl) ?_
              refine lv_if_eq (tgt := 127) hx hb dMo_fits_110 (by decide) (fun h9 => absurd h9 (by decide)) (fun _ => ?_)
              refine lv_iload_n hx hb dMo_fits_113 rfl (lv_at hl 5 rfl) ?_
              refine lv_iconst (v := 0) hx hb dMo_fits_114 (by first | rfl | decide) ?_
              refine lv_bipush (v := 7) hx hb dMo_fits_115 (by first | rfl | decide) ?_
              refine pq_calli (fr := (FMo_outside xc 0 7)) (wc := (wN ad cI cS)) (wr := ([] : List Nat).filterMap (fun i => (wN ad cI cS)[i]?)) hP hD hS hA [] [] rfl rfl (by decide) (by decide) (va_runS (own := RMo) (As := [.int xc, .int 0, .int 7]) (rest := []) ⟨hx, hb, hml, hown, hw⟩ (k_Mo_outside l D ad cI cS xc 0 7 H.size) ⟨pq_cwB 3 hw wd_187 wd_186 wd_185 rfl rfl (by decide +kernel) ⟨Nat.le_of_ble_eq_true rfl, Nat.le_of_ble_eq_true rfl⟩, hw _ wd_188⟩ (pq_preS hE (hP.sub [] rfl) (hD.sub [] (by decide) rfl)) rfl rfl hl.1 rfl (lv_room (Nat.le_of_ble_eq_true rfl)) dMo_fits_117 ⟨Nat.zero_le _, Nat.zero_le _⟩) (fun H locs hP hD hS => ?_)
              have hP : va_P D vwCl (wN ad cI cS) H := hP.sub [] rfl
              have hD : va_D _ (wN ad cI cS) := hD.sub [] (by decide) rfl
              refine lv_if_ne (tgt := 127) hx hb dMo_fits_120 (by decide) (fun h106 => ?_) (fun h106 => ?_)
              · refine lv_iconst (v := 0) hx hb dMo_fits_127 (by first | rfl | decide) ?_
                have e9 : FMo_fits xk xa xb xc = 0 := by simp only [FMo_fits, if_pos h1, if_pos h67, if_neg h101, if_neg h103, if_pos h104, if_pos h105, if_neg h106]
                exact W.zret (v := 0) hx hb hr rfl (fun t ht hW => ⟨⟨0, (), rfl, (by show _ = _; rw [e9]), by rw [ht]; exact hP, hD⟩, hS.F ht⟩) hS.2.2 dMo_fits_128
              · refine lv_iconst (v := 1) hx hb dMo_fits_123 (by first | rfl | decide) ?_
                refine lv_goto (tgt := 128) hx hb dMo_fits_124 (by decide) ?_
                have e9 : FMo_fits xk xa xb xc = 1 := by simp only [FMo_fits, if_pos h1, if_pos h67, if_neg h101, if_neg h103, if_pos h104, if_pos h105, if_pos h106]
                exact W.zret (v := 1) hx hb hr rfl (fun t ht hW => ⟨⟨1, (), rfl, (by show _ = _; rw [e9]), by rw [ht]; exact hP, hD⟩, hS.F ht⟩) hS.2.2 dMo_fits_128
            · refine lv_iload_n hx hb dMo_fits_97 rfl (lv_at hl 2 rfl) ?_
              refine lv_bipush (v := 6) hx hb dMo_fits_98 (by first | rfl | decide) ?_
              refine lv_icmp_ne (tgt := 129) hx hb dMo_fits_100 (by decide) (fun h107 => ?_) (fun h107 => ?_)
              · refine lv_iload_n hx hb dMo_fits_129 rfl (lv_at hl 2 rfl) ?_
                refine lv_bipush (v := 7) hx hb dMo_fits_130 (by first | rfl | decide) ?_
                refine lv_icmp_ne (tgt := 158) hx hb dMo_fits_132 (by decide) (fun h108 => ?_) (fun h108 => ?_)
                · refine lv_iload_n hx hb dMo_fits_158 rfl (lv_at hl 2 rfl) ?_
                  refine lv_bipush (v := 8) hx hb dMo_fits_159 (by first | rfl | decide) ?_
                  refine lv_icmp_eq (tgt := 170) hx hb dMo_fits_161 (by decide) (fun h109 => ?_) (fun h109 => ?_)
                  · refine lv_iload hx hb dMo_fits_170 (lv_at hl 1 rfl) ?_
                    refine lv_if_eq (tgt := 194) hx hb dMo_fits_172 (by decide) (fun h9 => absurd h9 (by decide)) (fun _ => ?_)
                    refine lv_iload hx hb dMo_fits_175 (lv_at hl 0 rfl) ?_
                    refine lv_if_eq (tgt := 194) hx hb dMo_fits_177 (by decide) (fun h9 => absurd h9 (by decide)) (fun _ => ?_)
                    refine lv_iload_n hx hb dMo_fits_180 rfl (lv_at hl 5 rfl) ?_
                    refine lv_iconst (v := 0) hx hb dMo_fits_181 (by first | rfl | decide) ?_
                    refine lv_bipush (v := 31) hx hb dMo_fits_182 (by first | rfl | decide) ?_
                    refine pq_calli (fr := (FMo_outside xc 0 31)) (wc := (wN ad cI cS)) (wr := ([] : List Nat).filterMap (fun i => (wN ad cI cS)[i]?)) hP hD hS hA [] [] rfl rfl (by decide) (by decide) (va_runS (own := RMo) (As := [.int xc, .int 0, .int 31]) (rest := []) ⟨hx, hb, hml, hown, hw⟩ (k_Mo_outside l D ad cI cS xc 0 31 H.size) ⟨pq_cwB 3 hw wd_187 wd_186 wd_185 rfl rfl (by decide +kernel) ⟨Nat.le_of_ble_eq_true rfl, Nat.le_of_ble_eq_true rfl⟩, hw _ wd_188⟩ (pq_preS hE (hP.sub [] rfl) (hD.sub [] (by decide) rfl)) rfl rfl hl.1 rfl (lv_room (Nat.le_of_ble_eq_true rfl)) dMo_fits_184 ⟨Nat.zero_le _, Nat.zero_le _⟩) (fun H locs hP hD hS => ?_)
                    have hP : va_P D vwCl (wN ad cI cS) H := hP.sub [] rfl
                    have hD : va_D _ (wN ad cI cS) := hD.sub [] (by decide) rfl
                    refine lv_if_ne (tgt := 194) hx hb dMo_fits_187 (by decide) (fun h110 => ?_) (fun h110 => ?_)
                    · refine lv_iconst (v := 0) hx hb dMo_fits_194 (by first | rfl | decide) ?_
                      have e9 : FMo_fits xk xa xb xc = 0 := by simp only [FMo_fits, if_pos h1, if_pos h67, if_neg h101, if_neg h103, if_pos h104, if_neg h105, if_neg h107, if_neg h108, if_pos h109, if_neg h110]
                      exact W.zret (v := 0) hx hb hr rfl (fun t ht hW => ⟨⟨0, (), rfl, (by show _ = _; rw [e9]), by rw [ht]; exact hP, hD⟩, hS.F ht⟩) hS.2.2 dMo_fits_195
                    · refine lv_iconst (v := 1) hx hb dMo_fits_190 (by first | rfl | decide) ?_
                      refine lv_goto (tgt := 195) hx hb dMo_fits_191 (by decide) ?_
                      have e9 : FMo_fits xk xa xb xc = 1 := by simp only [FMo_fits, if_pos h1, if_pos h67, if_neg h101, if_neg h103, if_pos h104, if_neg h105, if_neg h107, if_neg h108, if_pos h109, if_pos h110]
                      exact W.zret (v := 1) hx hb hr rfl (fun t ht hW => ⟨⟨1, (), rfl, (by show _ = _; rw [e9]), by rw [ht]; exact hP, hD⟩, hS.F ht⟩) hS.2.2 dMo_fits_195
                  · refine lv_iload_n hx hb dMo_fits_164 rfl (lv_at hl 2 rfl) ?_
                    refine lv_bipush (v := 9) hx hb dMo_fits_165 (by first | rfl | decide) ?_
                    refine lv_icmp_ne (tgt := 196) hx hb dMo_fits_167 (by decide) (fun h111 => ?_) (fun h111 => ?_)
                    · refine lv_iload_n hx hb dMo_fits_196 rfl (lv_at hl 2 rfl) ?_
                      refine lv_bipush (v := 10) hx hb dMo_fits_197 (by first | rfl | decide) ?_
                      refine lv_icmp_ne (tgt := 205) hx hb dMo_fits_199 (by decide) (fun h112 => ?_) (fun h112 => ?_)
                      · refine lv_iload_n hx hb dMo_fits_205 rfl (lv_at hl 2 rfl) ?_
                        refine lv_bipush (v := 12) hx hb dMo_fits_206 (by first | rfl | decide) ?_
                        refine lv_icmp_ne (tgt := 234) hx hb dMo_fits_208 (by decide) (fun h113 => ?_) (fun h113 => ?_)
                        · refine lv_iload_n hx hb dMo_fits_234 rfl (lv_at hl 2 rfl) ?_
                          refine lv_bipush (v := 13) hx hb dMo_fits_235 (by first | rfl | decide) ?_
                          refine lv_icmp_ne (tgt := 256) hx hb dMo_fits_237 (by decide) (fun h114 => ?_) (fun h114 => ?_)
                          · refine lv_iload_n hx hb dMo_fits_256 rfl (lv_at hl 2 rfl) ?_
                            refine lv_bipush (v := 14) hx hb dMo_fits_257 (by first | rfl | decide) ?_
                            refine lv_icmp_eq (tgt := 268) hx hb dMo_fits_259 (by decide) (fun h115 => ?_) (fun h115 => ?_)
                            · refine lv_iconst (v := 1) hx hb dMo_fits_268 (by first | rfl | decide) ?_
                              refine lv_goto (tgt := 273) hx hb dMo_fits_269 (by decide) ?_
                              have e9 : FMo_fits xk xa xb xc = 1 := by simp only [FMo_fits, if_pos h1, if_pos h67, if_neg h101, if_neg h103, if_pos h104, if_neg h105, if_neg h107, if_neg h108, if_neg h109, if_neg h111, if_neg h112, if_neg h113, if_neg h114, if_pos h115]
                              exact W.zret (v := 1) hx hb hr rfl (fun t ht hW => ⟨⟨1, (), rfl, (by show _ = _; rw [e9]), by rw [ht]; exact hP, hD⟩, hS.F ht⟩) hS.2.2 dMo_fits_273
                            · refine lv_iload_n hx hb dMo_fits_262 rfl (lv_at hl 2 rfl) ?_
                              refine lv_bipush (v := 15) hx hb dMo_fits_263 (by first | rfl | decide) ?_
                              refine lv_icmp_ne (tgt := 272) hx hb dMo_fits_265 (by decide) (fun h116 => ?_) (fun h116 => ?_)
                              · refine lv_iconst (v := 0) hx hb dMo_fits_272 (by first | rfl | decide) ?_
                                have e9 : FMo_fits xk xa xb xc = 0 := by simp only [FMo_fits, if_pos h1, if_pos h67, if_neg h101, if_neg h103, if_pos h104, if_neg h105, if_neg h107, if_neg h108, if_neg h109, if_neg h111, if_neg h112, if_neg h113, if_neg h114, if_neg h115, if_neg h116]
                                exact W.zret (v := 0) hx hb hr rfl (fun t ht hW => ⟨⟨0, (), rfl, (by show _ = _; rw [e9]), by rw [ht]; exact hP, hD⟩, hS.F ht⟩) hS.2.2 dMo_fits_273
                              · refine lv_iconst (v := 1) hx hb dMo_fits_268 (by first | rfl | decide) ?_
                                refine lv_goto (tgt := 273) hx hb dMo_fits_269 (by decide) ?_
                                have e9 : FMo_fits xk xa xb xc = 1 := by simp only [FMo_fits, if_pos h1, if_pos h67, if_neg h101, if_neg h103, if_pos h104, if_neg h105, if_neg h107, if_neg h108, if_neg h109, if_neg h111, if_neg h112, if_neg h113, if_neg h114, if_neg h115, if_pos h116]
                                exact W.zret (v := 1) hx hb hr rfl (fun t ht hW => ⟨⟨1, (), rfl, (by show _ = _; rw [e9]), by rw [ht]; exact hP, hD⟩, hS.F ht⟩) hS.2.2 dMo_fits_273
                          · refine lv_iload_n hx hb dMo_fits_240 rfl (lv_at hl 3 rfl) ?_
                            refine lv_iconst (v := 1) hx hb dMo_fits_241 (by first | rfl | decide) ?_
                            refine lv_bipush (v := 40) hx hb dMo_fits_242 (by first | rfl | decide) ?_
                            refine pq_calli (fr := (FMo_outside xa 1 40)) (wc := (wN ad cI cS)) (wr := ([] : List Nat).filterMap (fun i => (wN ad cI cS)[i]?)) hP hD hS hA [] [] rfl rfl (by decide) (by decide) (va_runS (own := RMo) (As := [.int xa, .int 1, .int 40]) (rest := []) ⟨hx, hb, hml, hown, hw⟩ (k_Mo_outside l D ad cI cS xa 1 40 H.size) ⟨pq_cwB 3 hw wd_187 wd_186 wd_185 rfl rfl (by decide +kernel) ⟨Nat.le_of_ble_eq_true rfl, Nat.le_of_ble_eq_true rfl⟩, hw _ wd_188⟩ (pq_preS hE (hP.sub [] rfl) (hD.sub [] (by decide) rfl)) rfl rfl hl.1 rfl (lv_room (Nat.le_of_ble_eq_true rfl)) dMo_fits_244 ⟨Nat.zero_le _, Nat.zero_le _⟩) (fun H locs hP hD hS => ?_)
                            have hP : va_P D vwCl (wN ad cI cS) H := hP.sub [] rfl
                            have hD : va_D _ (wN ad cI cS) := hD.sub [] (by decide) rfl
                            refine lv_if_ne (tgt := 254) hx hb dMo_fits_247 (by decide) (fun h117 => ?_) (fun h117 => ?_)
                            · refine lv_iconst (v := 0) hx hb dMo_fits_254 (by first | rfl | decide) ?_
                              have e9 : FMo_fits xk xa xb xc = 0 := by simp only [FMo_fits, if_pos h1, if_pos h67, if_neg h101, if_neg h103, if_pos h104, if_neg h105, if_neg h107, if_neg h108, if_neg h109, if_neg h111, if_neg h112, if_neg h113, if_pos h114, if_neg h117]
                              exact W.zret (v := 0) hx hb hr rfl (fun t ht hW => ⟨⟨0, (), rfl, (by show _ = _; rw [e9]), by rw [ht]; exact hP, hD⟩, hS.F ht⟩) hS.2.2 dMo_fits_255
                            · refine lv_iconst (v := 1) hx hb dMo_fits_250 (by first | rfl | decide) ?_
                              refine lv_goto (tgt := 255) hx hb dMo_fits_251 (by decide) ?_
                              have e9 : FMo_fits xk xa xb xc = 1 := by simp only [FMo_fits, if_pos h1, if_pos h67, if_neg h101, if_neg h103, if_pos h104, if_neg h105, if_neg h107, if_neg h108, if_neg h109, if_neg h111, if_neg h112, if_neg h113, if_pos h114, if_pos h117]
                              exact W.zret (v := 1) hx hb hr rfl (fun t ht hW => ⟨⟨1, (), rfl, (by show _ = _; rw [e9]), by rw [ht]; exact hP, hD⟩, hS.F ht⟩) hS.2.2 dMo_fits_255
                        · refine lv_iload_n hx hb dMo_fits_211 rfl (lv_at hl 3 rfl) ?_
                          refine lv_iconst (v := 0) hx hb dMo_fits_212 (by first | rfl | decide) ?_
                          refine lv_bipush (v := 15) hx hb dMo_fits_213 (by first | rfl | decide) ?_
                          refine pq_calli (fr := (FMo_outside xa 0 15)) (wc := (wN ad cI cS)) (wr := ([] : List Nat).filterMap (fun i => (wN ad cI cS)[i]?)) hP hD hS hA [] [] rfl rfl (by decide) (by decide) (va_runS (own := RMo) (As := [.int xa, .int 0, .int 15]) (rest := []) ⟨hx, hb, hml, hown, hw⟩ (k_Mo_outside l D ad cI cS xa 0 15 H.size) ⟨pq_cwB 3 hw wd_187 wd_186 wd_185 rfl rfl (by decide +kernel) ⟨Nat.le_of_ble_eq_true rfl, Nat.le_of_ble_eq_true rfl⟩, hw _ wd_188⟩ (pq_preS hE (hP.sub [] rfl) (hD.sub [] (by decide) rfl)) rfl rfl hl.1 rfl (lv_room (Nat.le_of_ble_eq_true rfl)) dMo_fits_215 ⟨Nat.zero_le _, Nat.zero_le _⟩) (fun H locs hP hD hS => ?_)
                          have hP : va_P D vwCl (wN ad cI cS) H := hP.sub [] rfl
                          have hD : va_D _ (wN ad cI cS) := hD.sub [] (by decide) rfl
                          refine lv_if_ne (tgt := 232) hx hb dMo_fits_218 (by decide) (fun h118 => ?_) (fun h118 => ?_)
                          · refine lv_iconst (v := 0) hx hb dMo_fits_232 (by first | rfl | decide) ?_
                            have e9 : FMo_fits xk xa xb xc = 0 := by simp only [FMo_fits, if_pos h1, if_pos h67, if_neg h101, if_neg h103, if_pos h104, if_neg h105, if_neg h107, if_neg h108, if_neg h109, if_neg h111, if_neg h112, if_pos h113, if_neg h118]
                            exact W.zret (v := 0) hx hb hr rfl (fun t ht hW => ⟨⟨0, (), rfl, (by show _ = _; rw [e9]), by rw [ht]; exact hP, hD⟩, hS.F ht⟩) hS.2.2 dMo_fits_233
                          · refine lv_iload_n hx hb dMo_fits_221 rfl (lv_at hl 5 rfl) ?_
                            refine pq_calli (fr := (FMo_isCondition xc)) (wc := (wN ad cI cS)) (wr := ([] : List Nat).filterMap (fun i => (wN ad cI cS)[i]?)) hP hD hS hA [] [] rfl rfl (by decide) (by decide) (va_runS (own := RMo) (As := [.int xc]) (rest := []) ⟨hx, hb, hml, hown, hw⟩ (k_Mo_isCondition l D ad cI cS xc H.size) ⟨pq_cwB 1 hw wd_190 wd_186 wd_189 rfl rfl (by decide +kernel) ⟨Nat.le_of_ble_eq_true rfl, Nat.le_of_ble_eq_true rfl⟩, hw _ wd_191⟩ (pq_preS hE (hP.sub [] rfl) (hD.sub [] (by decide) rfl)) rfl rfl hl.1 rfl (lv_room (Nat.le_of_ble_eq_true rfl)) dMo_fits_222 ⟨Nat.zero_le _, Nat.zero_le _⟩) (fun H locs hP hD hS => ?_)
                            have hP : va_P D vwCl (wN ad cI cS) H := hP.sub [] rfl
                            have hD : va_D _ (wN ad cI cS) := hD.sub [] (by decide) rfl
                            refine lv_if_eq (tgt := 232) hx hb dMo_fits_225 (by decide) (fun h119 => ?_) (fun h119 => ?_)
                            · refine lv_iconst (v := 0) hx hb dMo_fits_232 (by first | rfl | decide) ?_
                              have e9 : FMo_fits xk xa xb xc = 0 := by simp only [FMo_fits, if_pos h1, if_pos h67, if_neg h101, if_neg h103, if_pos h104, if_neg h105, if_neg h107, if_neg h108, if_neg h109, if_neg h111, if_neg h112, if_pos h113, if_pos h118, if_pos h119]
                              exact W.zret (v := 0) hx hb hr rfl (fun t ht hW => ⟨⟨0, (), rfl, (by show _ = _; rw [e9]), by rw [ht]; exact hP, hD⟩, hS.F ht⟩) hS.2.2 dMo_fits_233
                            · refine lv_iconst (v := 1) hx hb dMo_fits_228 (by first | rfl | decide) ?_
                              refine lv_goto (tgt := 233) hx hb dMo_fits_229 (by decide) ?_
                              have e9 : FMo_fits xk xa xb xc = 1 := by simp only [FMo_fits, if_pos h1, if_pos h67, if_neg h101, if_neg h103, if_pos h104, if_neg h105, if_neg h107, if_neg h108, if_neg h109, if_neg h111, if_neg h112, if_pos h113, if_pos h118, if_neg h119]
                              exact W.zret (v := 1) hx hb hr rfl (fun t ht hW => ⟨⟨1, (), rfl, (by show _ = _; rw [e9]), by rw [ht]; exact hP, hD⟩, hS.F ht⟩) hS.2.2 dMo_fits_233
                      · refine lv_iload hx hb dMo_fits_202 (lv_at hl 1 rfl) ?_
                        have e9 : FMo_fits xk xa xb xc = 1 := by simp only [FMo_fits, if_pos h1, if_pos h67, if_neg h101, if_neg h103, if_pos h104, if_neg h105, if_neg h107, if_neg h108, if_neg h109, if_neg h111, if_pos h112]
                        exact W.zret (v := 1) hx hb hr rfl (fun t ht hW => ⟨⟨1, (), rfl, (by show _ = _; rw [e9]), by rw [ht]; exact hP, hD⟩, hS.F ht⟩) hS.2.2 dMo_fits_204
                    · refine lv_iload hx hb dMo_fits_170 (lv_at hl 1 rfl) ?_
                      refine lv_if_eq (tgt := 194) hx hb dMo_fits_172 (by decide) (fun h9 => absurd h9 (by decide)) (fun _ => ?_)
                      refine lv_iload hx hb dMo_fits_175 (lv_at hl 0 rfl) ?_
                      refine lv_if_eq (tgt := 194) hx hb dMo_fits_177 (by decide) (fun h9 => absurd h9 (by decide)) (fun _ => ?_)
                      refine lv_iload_n hx hb dMo_fits_180 rfl (lv_at hl 5 rfl) ?_
                      refine lv_iconst (v := 0) hx hb dMo_fits_181 (by first | rfl | decide) ?_
                      refine lv_bipush (v := 31) hx hb dMo_fits_182 (by first | rfl | decide) ?_
                      refine pq_calli (fr := (FMo_outside xc 0 31)) (wc := (wN ad cI cS)) (wr := ([] : List Nat).filterMap (fun i => (wN ad cI cS)[i]?)) hP hD hS hA [] [] rfl rfl (by decide) (by decide) (va_runS (own := RMo) (As := [.int xc, .int 0, .int 31]) (rest := []) ⟨hx, hb, hml, hown, hw⟩ (k_Mo_outside l D ad cI cS xc 0 31 H.size) ⟨pq_cwB 3 hw wd_187 wd_186 wd_185 rfl rfl (by decide +kernel) ⟨Nat.le_of_ble_eq_true rfl, Nat.le_of_ble_eq_true rfl⟩, hw _ wd_188⟩ (pq_preS hE (hP.sub [] rfl) (hD.sub [] (by decide) rfl)) rfl rfl hl.1 rfl (lv_room (Nat.le_of_ble_eq_true rfl)) dMo_fits_184 ⟨Nat.zero_le _, Nat.zero_le _⟩) (fun H locs hP hD hS => ?_)
                      have hP : va_P D vwCl (wN ad cI cS) H := hP.sub [] rfl
                      have hD : va_D _ (wN ad cI cS) := hD.sub [] (by decide) rfl
                      refine lv_if_ne (tgt := 194) hx hb dMo_fits_187 (by decide) (fun h120 => ?_) (fun h120 => ?_)
                      · refine lv_iconst (v := 0) hx hb dMo_fits_194 (by first | rfl | decide) ?_
                        have e9 : FMo_fits xk xa xb xc = 0 := by simp only [FMo_fits, if_pos h1, if_pos h67, if_neg h101, if_neg h103, if_pos h104, if_neg h105, if_neg h107, if_neg h108, if_neg h109, if_pos h111, if_neg h120]
                        exact W.zret (v := 0) hx hb hr rfl (fun t ht hW => ⟨⟨0, (), rfl, (by show _ = _; rw [e9]), by rw [ht]; exact hP, hD⟩, hS.F ht⟩) hS.2.2 dMo_fits_195
                      · refine lv_iconst (v := 1) hx hb dMo_fits_190 (by first | rfl | decide) ?_
                        refine lv_goto (tgt := 195) hx hb dMo_fits_191 (by decide) ?_
                        have e9 : FMo_fits xk xa xb xc = 1 := by simp only [FMo_fits, if_pos h1, if_pos h67, if_neg h101, if_neg h103, if_pos h104, if_neg h105, if_neg h107, if_neg h108, if_neg h109, if_pos h111, if_pos h120]
                        exact W.zret (v := 1) hx hb hr rfl (fun t ht hW => ⟨⟨1, (), rfl, (by show _ = _; rw [e9]), by rw [ht]; exact hP, hD⟩, hS.F ht⟩) hS.2.2 dMo_fits_195
                · refine lv_iload hx hb dMo_fits_135 (lv_at hl 1 rfl) ?_
                  refine lv_if_eq (tgt := 156) hx hb dMo_fits_137 (by decide) (fun h9 => absurd h9 (by decide)) (fun _ => ?_)
                  refine lv_iload hx hb dMo_fits_140 (lv_at hl 0 rfl) ?_
                  refine lv_if_eq (tgt := 156) hx hb dMo_fits_142 (by decide) (fun h9 => absurd h9 (by decide)) (fun _ => ?_)
                  refine lv_iload_n hx hb dMo_fits_145 rfl (lv_at hl 5 rfl) ?_
                  refine pq_calli (fr := (FMo_isDeed xc)) (wc := (wN ad cI cS)) (wr := ([] : List Nat).filterMap (fun i => (wN ad cI cS)[i]?)) hP hD hS hA [] [] rfl rfl (by decide) (by decide) (va_runS (own := RMo) (As := [.int xc]) (rest := []) ⟨hx, hb, hml, hown, hw⟩ (k_Mo_isDeed l D ad cI cS xc H.size) ⟨pq_cwB 1 hw wd_193 wd_186 wd_192 rfl rfl (by decide +kernel) ⟨Nat.le_of_ble_eq_true rfl, Nat.le_of_ble_eq_true rfl⟩, hw _ wd_194⟩ (pq_preS hE (hP.sub [] rfl) (hD.sub [] (by decide) rfl)) rfl rfl hl.1 rfl (lv_room (Nat.le_of_ble_eq_true rfl)) dMo_fits_146 ⟨Nat.zero_le _, Nat.zero_le _⟩) (fun H locs hP hD hS => ?_)
                  have hP : va_P D vwCl (wN ad cI cS) H := hP.sub [] rfl
                  have hD : va_D _ (wN ad cI cS) := hD.sub [] (by decide) rfl
                  refine lv_if_eq (tgt := 156) hx hb dMo_fits_149 (by decide) (fun h121 => ?_) (fun h121 => ?_)
                  · refine lv_iconst (v := 0) hx hb dMo_fits_156 (by first | rfl | decide) ?_
                    have e9 : FMo_fits xk xa xb xc = 0 := by simp only [FMo_fits, if_pos h1, if_pos h67, if_neg h101, if_neg h103, if_pos h104, if_neg h105, if_neg h107, if_pos h108, if_pos h121]
                    exact W.zret (v := 0) hx hb hr rfl (fun t ht hW => ⟨⟨0, (), rfl, (by show _ = _; rw [e9]), by rw [ht]; exact hP, hD⟩, hS.F ht⟩) hS.2.2 dMo_fits_157
                  · refine lv_iconst (v := 1) hx hb dMo_fits_152 (by first | rfl | decide) ?_
                    refine lv_goto (tgt := 157) hx hb dMo_fits_153 (by decide) ?_
                    have e9 : FMo_fits xk xa xb xc = 1 := by simp only [FMo_fits, if_pos h1, if_pos h67, if_neg h101, if_neg h103, if_pos h104, if_neg h105, if_neg h107, if_pos h108, if_neg h121]
                    exact W.zret (v := 1) hx hb hr rfl (fun t ht hW => ⟨⟨1, (), rfl, (by show _ = _; rw [e9]), by rw [ht]; exact hP, hD⟩, hS.F ht⟩) hS.2.2 dMo_fits_157
              · refine lv_iload hx hb dMo_fits_103 (lv_at hl 1 rfl) ?_
                refine lv_if_eq (tgt := 127) hx hb dMo_fits_105 (by decide) (fun h9 => absurd h9 (by decide)) (fun _ => ?_)
                refine lv_iload hx hb dMo_fits_108 (lv_at hl 0 rfl) ?_
                refine lv_if_eq (tgt := 127) hx hb dMo_fits_110 (by decide) (fun h9 => absurd h9 (by decide)) (fun _ => ?_)
                refine lv_iload_n hx hb dMo_fits_113 rfl (lv_at hl 5 rfl) ?_
                refine lv_iconst (v := 0) hx hb dMo_fits_114 (by first | rfl | decide) ?_
                refine lv_bipush (v := 7) hx hb dMo_fits_115 (by first | rfl | decide) ?_
                refine pq_calli (fr := (FMo_outside xc 0 7)) (wc := (wN ad cI cS)) (wr := ([] : List Nat).filterMap (fun i => (wN ad cI cS)[i]?)) hP hD hS hA [] [] rfl rfl (by decide) (by decide) (va_runS (own := RMo) (As := [.int xc, .int 0, .int 7]) (rest := []) ⟨hx, hb, hml, hown, hw⟩ (k_Mo_outside l D ad cI cS xc 0 7 H.size) ⟨pq_cwB 3 hw wd_187 wd_186 wd_185 rfl rfl (by decide +kernel) ⟨Nat.le_of_ble_eq_true rfl, Nat.le_of_ble_eq_true rfl⟩, hw _ wd_188⟩ (pq_preS hE (hP.sub [] rfl) (hD.sub [] (by decide) rfl)) rfl rfl hl.1 rfl (lv_room (Nat.le_of_ble_eq_true rfl)) dMo_fits_117 ⟨Nat.zero_le _, Nat.zero_le _⟩) (fun H locs hP hD hS => ?_)
                have hP : va_P D vwCl (wN ad cI cS) H := hP.sub [] rfl
                have hD : va_D _ (wN ad cI cS) := hD.sub [] (by decide) rfl
                refine lv_if_ne (tgt := 127) hx hb dMo_fits_120 (by decide) (fun h122 => ?_) (fun h122 => ?_)
                · refine lv_iconst (v := 0) hx hb dMo_fits_127 (by first | rfl | decide) ?_
                  have e9 : FMo_fits xk xa xb xc = 0 := by simp only [FMo_fits, if_pos h1, if_pos h67, if_neg h101, if_neg h103, if_pos h104, if_neg h105, if_pos h107, if_neg h122]
                  exact W.zret (v := 0) hx hb hr rfl (fun t ht hW => ⟨⟨0, (), rfl, (by show _ = _; rw [e9]), by rw [ht]; exact hP, hD⟩, hS.F ht⟩) hS.2.2 dMo_fits_128
                · refine lv_iconst (v := 1) hx hb dMo_fits_123 (by first | rfl | decide) ?_
                  refine lv_goto (tgt := 128) hx hb dMo_fits_124 (by decide) ?_
                  have e9 : FMo_fits xk xa xb xc = 1 := by simp only [FMo_fits, if_pos h1, if_pos h67, if_neg h101, if_neg h103, if_pos h104, if_neg h105, if_pos h107, if_pos h122]
                  exact W.zret (v := 1) hx hb hr rfl (fun t ht hW => ⟨⟨1, (), rfl, (by show _ = _; rw [e9]), by rw [ht]; exact hP, hD⟩, hS.F ht⟩) hS.2.2 dMo_fits_128
          · refine lv_iload_n hx hb dMo_fits_65 rfl (lv_at hl 2 rfl) ?_
            refine lv_iconst (v := 4) hx hb dMo_fits_66 (by first | rfl | decide) ?_
            refine lv_icmp_gt (tgt := 92) hx hb dMo_fits_67 (by decide) (fun h123 => ?_) (fun h123 => ?_)
            · refine lv_iload_n hx hb dMo_fits_92 rfl (lv_at hl 2 rfl) ?_
              refine lv_iconst (v := 5) hx hb dMo_fits_93 (by first | rfl | decide) ?_
              refine lv_icmp_eq (tgt := 103) hx hb dMo_fits_94 (by decide) (fun h124 => ?_) (fun h124 => ?_)
              · refine lv_iload hx hb dMo_fits_103 (lv_at hl 1 rfl) ?_
                refine lv_if_eq (tgt := 127) hx hb dMo_fits_105 (by decide) (fun h9 => absurd h9 (by decide)) (fun _ => ?_)
                refine lv_iload hx hb dMo_fits_108 (lv_at hl 0 rfl) ?_
                refine lv_if_eq (tgt := 127) hx hb dMo_fits_110 (by decide) (fun h9 => absurd h9 (by decide)) (fun _ => ?_)
                refine lv_iload_n hx hb dMo_fits_113 rfl (lv_at hl 5 rfl) ?_
                refine lv_iconst (v := 0) hx hb dMo_fits_114 (by first | rfl | decide) ?_
                refine lv_bipush (v := 7) hx hb dMo_fits_115 (by first | rfl | decide) ?_
                refine pq_calli (fr := (FMo_outside xc 0 7)) (wc := (wN ad cI cS)) (wr := ([] : List Nat).filterMap (fun i => (wN ad cI cS)[i]?)) hP hD hS hA [] [] rfl rfl (by decide) (by decide) (va_runS (own := RMo) (As := [.int xc, .int 0, .int 7]) (rest := []) ⟨hx, hb, hml, hown, hw⟩ (k_Mo_outside l D ad cI cS xc 0 7 H.size) ⟨pq_cwB 3 hw wd_187 wd_186 wd_185 rfl rfl (by decide +kernel) ⟨Nat.le_of_ble_eq_true rfl, Nat.le_of_ble_eq_true rfl⟩, hw _ wd_188⟩ (pq_preS hE (hP.sub [] rfl) (hD.sub [] (by decide) rfl)) rfl rfl hl.1 rfl (lv_room (Nat.le_of_ble_eq_true rfl)) dMo_fits_117 ⟨Nat.zero_le _, Nat.zero_le _⟩) (fun H locs hP hD hS => ?_)
                have hP : va_P D vwCl (wN ad cI cS) H := hP.sub [] rfl
                have hD : va_D _ (wN ad cI cS) := hD.sub [] (by decide) rfl
                refine lv_if_ne (tgt := 127) hx hb dMo_fits_120 (by decide) (fun h125 => ?_) (fun h125 => ?_)
                · refine lv_iconst (v := 0) hx hb dMo_fits_127 (by first | rfl | decide) ?_
                  have e9 : FMo_fits xk xa xb xc = 0 := by simp only [FMo_fits, if_pos h1, if_pos h67, if_neg h101, if_neg h103, if_neg h104, if_pos h123, if_pos h124, if_neg h125]
                  exact W.zret (v := 0) hx hb hr rfl (fun t ht hW => ⟨⟨0, (), rfl, (by show _ = _; rw [e9]), by rw [ht]; exact hP, hD⟩, hS.F ht⟩) hS.2.2 dMo_fits_128
                · refine lv_iconst (v := 1) hx hb dMo_fits_123 (by first | rfl | decide) ?_
                  refine lv_goto (tgt := 128) hx hb dMo_fits_124 (by decide) ?_
                  have e9 : FMo_fits xk xa xb xc = 1 := by simp only [FMo_fits, if_pos h1, if_pos h67, if_neg h101, if_neg h103, if_neg h104, if_pos h123, if_pos h124, if_pos h125]
                  exact W.zret (v := 1) hx hb hr rfl (fun t ht hW => ⟨⟨1, (), rfl, (by show _ = _; rw [e9]), by rw [ht]; exact hP, hD⟩, hS.F ht⟩) hS.2.2 dMo_fits_128
              · refine lv_iload_n hx hb dMo_fits_97 rfl (lv_at hl 2 rfl) ?_
                refine lv_bipush (v := 6) hx hb dMo_fits_98 (by first | rfl | decide) ?_
                refine lv_icmp_ne (tgt := 129) hx hb dMo_fits_100 (by decide) (fun h126 => ?_) (fun h126 => ?_)
                · refine lv_iload_n hx hb dMo_fits_129 rfl (lv_at hl 2 rfl) ?_
                  refine lv_bipush (v := 7) hx hb dMo_fits_130 (by first | rfl | decide) ?_
                  refine lv_icmp_ne (tgt := 158) hx hb dMo_fits_132 (by decide) (fun h127 => ?_) (fun h127 => ?_)
                  · refine lv_iload_n hx hb dMo_fits_158 rfl (lv_at hl 2 rfl) ?_
                    refine lv_bipush (v := 8) hx hb dMo_fits_159 (by first | rfl | decide) ?_
                    refine lv_icmp_eq (tgt := 170) hx hb dMo_fits_161 (by decide) (fun h128 => ?_) (fun h128 => ?_)
                    · refine lv_iload hx hb dMo_fits_170 (lv_at hl 1 rfl) ?_
                      refine lv_if_eq (tgt := 194) hx hb dMo_fits_172 (by decide) (fun h9 => absurd h9 (by decide)) (fun _ => ?_)
                      refine lv_iload hx hb dMo_fits_175 (lv_at hl 0 rfl) ?_
                      refine lv_if_eq (tgt := 194) hx hb dMo_fits_177 (by decide) (fun h9 => absurd h9 (by decide)) (fun _ => ?_)
                      refine lv_iload_n hx hb dMo_fits_180 rfl (lv_at hl 5 rfl) ?_
                      refine lv_iconst (v := 0) hx hb dMo_fits_181 (by first | rfl | decide) ?_
                      refine lv_bipush (v := 31) hx hb dMo_fits_182 (by first | rfl | decide) ?_
                      refine pq_calli (fr := (FMo_outside xc 0 31)) (wc := (wN ad cI cS)) (wr := ([] : List Nat).filterMap (fun i => (wN ad cI cS)[i]?)) hP hD hS hA [] [] rfl rfl (by decide) (by decide) (va_runS (own := RMo) (As := [.int xc, .int 0, .int 31]) (rest := []) ⟨hx, hb, hml, hown, hw⟩ (k_Mo_outside l D ad cI cS xc 0 31 H.size) ⟨pq_cwB 3 hw wd_187 wd_186 wd_185 rfl rfl (by decide +kernel) ⟨Nat.le_of_ble_eq_true rfl, Nat.le_of_ble_eq_true rfl⟩, hw _ wd_188⟩ (pq_preS hE (hP.sub [] rfl) (hD.sub [] (by decide) rfl)) rfl rfl hl.1 rfl (lv_room (Nat.le_of_ble_eq_true rfl)) dMo_fits_184 ⟨Nat.zero_le _, Nat.zero_le _⟩) (fun H locs hP hD hS => ?_)
                      have hP : va_P D vwCl (wN ad cI cS) H := hP.sub [] rfl
                      have hD : va_D _ (wN ad cI cS) := hD.sub [] (by decide) rfl
                      refine lv_if_ne (tgt := 194) hx hb dMo_fits_187 (by decide) (fun h129 => ?_) (fun h129 => ?_)
                      · refine lv_iconst (v := 0) hx hb dMo_fits_194 (by first | rfl | decide) ?_
                        have e9 : FMo_fits xk xa xb xc = 0 := by simp only [FMo_fits, if_pos h1, if_pos h67, if_neg h101, if_neg h103, if_neg h104, if_pos h123, if_neg h124, if_neg h126, if_neg h127, if_pos h128, if_neg h129]
                        exact W.zret (v := 0) hx hb hr rfl (fun t ht hW => ⟨⟨0, (), rfl, (by show _ = _; rw [e9]), by rw [ht]; exact hP, hD⟩, hS.F ht⟩) hS.2.2 dMo_fits_195
                      · refine lv_iconst (v := 1) hx hb dMo_fits_190 (by first | rfl | decide) ?_
                        refine lv_goto (tgt := 195) hx hb dMo_fits_191 (by decide) ?_
                        have e9 : FMo_fits xk xa xb xc = 1 := by simp only [FMo_fits, if_pos h1, if_pos h67, if_neg h101, if_neg h103, if_neg h104, if_pos h123, if_neg h124, if_neg h126, if_neg h127, if_pos h128, if_pos h129]
                        exact W.zret (v := 1) hx hb hr rfl (fun t ht hW => ⟨⟨1, (), rfl, (by show _ = _; rw [e9]), by rw [ht]; exact hP, hD⟩, hS.F ht⟩) hS.2.2 dMo_fits_195
                    · refine lv_iload_n hx hb dMo_fits_164 rfl (lv_at hl 2 rfl) ?_
                      refine lv_bipush (v := 9) hx hb dMo_fits_165 (by first | rfl | decide) ?_
                      refine lv_icmp_ne (tgt := 196) hx hb dMo_fits_167 (by decide) (fun h130 => ?_) (fun h130 => ?_)
                      · refine lv_iload_n hx hb dMo_fits_196 rfl (lv_at hl 2 rfl) ?_
                        refine lv_bipush (v := 10) hx hb dMo_fits_197 (by first | rfl | decide) ?_
                        refine lv_icmp_ne (tgt := 205) hx hb dMo_fits_199 (by decide) (fun h131 => ?_) (fun h131 => ?_)
                        · refine lv_iload_n hx hb dMo_fits_205 rfl (lv_at hl 2 rfl) ?_
                          refine lv_bipush (v := 12) hx hb dMo_fits_206 (by first | rfl | decide) ?_
                          refine lv_icmp_ne (tgt := 234) hx hb dMo_fits_208 (by decide) (fun h132 => ?_) (fun h132 => ?_)
                          · refine lv_iload_n hx hb dMo_fits_234 rfl (lv_at hl 2 rfl) ?_
                            refine lv_bipush (v := 13) hx hb dMo_fits_235 (by first | rfl | decide) ?_
                            refine lv_icmp_ne (tgt := 256) hx hb dMo_fits_237 (by decide) (fun h133 => ?_) (fun h133 => ?_)
                            · refine lv_iload_n hx hb dMo_fits_256 rfl (lv_at hl 2 rfl) ?_
                              refine lv_bipush (v := 14) hx hb dMo_fits_257 (by first | rfl | decide) ?_
                              refine lv_icmp_eq (tgt := 268) hx hb dMo_fits_259 (by decide) (fun h134 => ?_) (fun h134 => ?_)
                              · refine lv_iconst (v := 1) hx hb dMo_fits_268 (by first | rfl | decide) ?_
                                refine lv_goto (tgt := 273) hx hb dMo_fits_269 (by decide) ?_
                                have e9 : FMo_fits xk xa xb xc = 1 := by simp only [FMo_fits, if_pos h1, if_pos h67, if_neg h101, if_neg h103, if_neg h104, if_pos h123, if_neg h124, if_neg h126, if_neg h127, if_neg h128, if_neg h130, if_neg h131, if_neg h132, if_neg h133, if_pos h134]
                                exact W.zret (v := 1) hx hb hr rfl (fun t ht hW => ⟨⟨1, (), rfl, (by show _ = _; rw [e9]), by rw [ht]; exact hP, hD⟩, hS.F ht⟩) hS.2.2 dMo_fits_273
                              · refine lv_iload_n hx hb dMo_fits_262 rfl (lv_at hl 2 rfl) ?_
                                refine lv_bipush (v := 15) hx hb dMo_fits_263 (by first | rfl | decide) ?_
                                refine lv_icmp_ne (tgt := 272) hx hb dMo_fits_265 (by decide) (fun h135 => ?_) (fun h135 => ?_)
                                · refine lv_iconst (v := 0) hx hb dMo_fits_272 (by first | rfl | decide) ?_
                                  have e9 : FMo_fits xk xa xb xc = 0 := by simp only [FMo_fits, if_pos h1, if_pos h67, if_neg h101, if_neg h103, if_neg h104, if_pos h123, if_neg h124, if_neg h126, if_neg h127, if_neg h128, if_neg h130, if_neg h131, if_neg h132, if_neg h133, if_neg h134, if_neg h135]
                                  exact W.zret (v := 0) hx hb hr rfl (fun t ht hW => ⟨⟨0, (), rfl, (by show _ = _; rw [e9]), by rw [ht]; exact hP, hD⟩, hS.F ht⟩) hS.2.2 dMo_fits_273
                                · refine lv_iconst (v := 1) hx hb dMo_fits_268 (by first | rfl | decide) ?_
                                  refine lv_goto (tgt := 273) hx hb dMo_fits_269 (by decide) ?_
                                  have e9 : FMo_fits xk xa xb xc = 1 := by simp only [FMo_fits, if_pos h1, if_pos h67, if_neg h101, if_neg h103, if_neg h104, if_pos h123, if_neg h124, if_neg h126, if_neg h127, if_neg h128, if_neg h130, if_neg h131, if_neg h132, if_neg h133, if_neg h134, if_pos h135]
                                  exact W.zret (v := 1) hx hb hr rfl (fun t ht hW => ⟨⟨1, (), rfl, (by show _ = _; rw [e9]), by rw [ht]; exact hP, hD⟩, hS.F ht⟩) hS.2.2 dMo_fits_273
                            · refine lv_iload_n hx hb dMo_fits_240 rfl (lv_at hl 3 rfl) ?_
                              refine lv_iconst (v := 1) hx hb dMo_fits_241 (by first | rfl | decide) ?_
                              refine lv_bipush (v := 40) hx hb dMo_fits_242 (by first | rfl | decide) ?_
                              refine pq_calli (fr := (FMo_outside xa 1 40)) (wc := (wN ad cI cS)) (wr := ([] : List Nat).filterMap (fun i => (wN ad cI cS)[i]?)) hP hD hS hA [] [] rfl rfl (by decide) (by decide) (va_runS (own := RMo) (As := [.int xa, .int 1, .int 40]) (rest := []) ⟨hx, hb, hml, hown, hw⟩ (k_Mo_outside l D ad cI cS xa 1 40 H.size) ⟨pq_cwB 3 hw wd_187 wd_186 wd_185 rfl rfl (by decide +kernel) ⟨Nat.le_of_ble_eq_true rfl, Nat.le_of_ble_eq_true rfl⟩, hw _ wd_188⟩ (pq_preS hE (hP.sub [] rfl) (hD.sub [] (by decide) rfl)) rfl rfl hl.1 rfl (lv_room (Nat.le_of_ble_eq_true rfl)) dMo_fits_244 ⟨Nat.zero_le _, Nat.zero_le _⟩) (fun H locs hP hD hS => ?_)
                              have hP : va_P D vwCl (wN ad cI cS) H := hP.sub [] rfl
                              have hD : va_D _ (wN ad cI cS) := hD.sub [] (by decide) rfl
                              refine lv_if_ne (tgt := 254) hx hb dMo_fits_247 (by decide) (fun h136 => ?_) (fun h136 => ?_)
                              · refine lv_iconst (v := 0) hx hb dMo_fits_254 (by first | rfl | decide) ?_
                                have e9 : FMo_fits xk xa xb xc = 0 := by simp only [FMo_fits, if_pos h1, if_pos h67, if_neg h101, if_neg h103, if_neg h104, if_pos h123, if_neg h124, if_neg h126, if_neg h127, if_neg h128, if_neg h130, if_neg h131, if_neg h132, if_pos h133, if_neg h136]
                                exact W.zret (v := 0) hx hb hr rfl (fun t ht hW => ⟨⟨0, (), rfl, (by show _ = _; rw [e9]), by rw [ht]; exact hP, hD⟩, hS.F ht⟩) hS.2.2 dMo_fits_255
                              · refine lv_iconst (v := 1) hx hb dMo_fits_250 (by first | rfl | decide) ?_
                                refine lv_goto (tgt := 255) hx hb dMo_fits_251 (by decide) ?_
                                have e9 : FMo_fits xk xa xb xc = 1 := by simp only [FMo_fits, if_pos h1, if_pos h67, if_neg h101, if_neg h103, if_neg h104, if_pos h123, if_neg h124, if_neg h126, if_neg h127, if_neg h128, if_neg h130, if_neg h131, if_neg h132, if_pos h133, if_pos h136]
                                exact W.zret (v := 1) hx hb hr rfl (fun t ht hW => ⟨⟨1, (), rfl, (by show _ = _; rw [e9]), by rw [ht]; exact hP, hD⟩, hS.F ht⟩) hS.2.2 dMo_fits_255
                          · refine lv_iload_n hx hb dMo_fits_211 rfl (lv_at hl 3 rfl) ?_
                            refine lv_iconst (v := 0) hx hb dMo_fits_212 (by first | rfl | decide) ?_
                            refine lv_bipush (v := 15) hx hb dMo_fits_213 (by first | rfl | decide) ?_
                            refine pq_calli (fr := (FMo_outside xa 0 15)) (wc := (wN ad cI cS)) (wr := ([] : List Nat).filterMap (fun i => (wN ad cI cS)[i]?)) hP hD hS hA [] [] rfl rfl (by decide) (by decide) (va_runS (own := RMo) (As := [.int xa, .int 0, .int 15]) (rest := []) ⟨hx, hb, hml, hown, hw⟩ (k_Mo_outside l D ad cI cS xa 0 15 H.size) ⟨pq_cwB 3 hw wd_187 wd_186 wd_185 rfl rfl (by decide +kernel) ⟨Nat.le_of_ble_eq_true rfl, Nat.le_of_ble_eq_true rfl⟩, hw _ wd_188⟩ (pq_preS hE (hP.sub [] rfl) (hD.sub [] (by decide) rfl)) rfl rfl hl.1 rfl (lv_room (Nat.le_of_ble_eq_true rfl)) dMo_fits_215 ⟨Nat.zero_le _, Nat.zero_le _⟩) (fun H locs hP hD hS => ?_)
                            have hP : va_P D vwCl (wN ad cI cS) H := hP.sub [] rfl
                            have hD : va_D _ (wN ad cI cS) := hD.sub [] (by decide) rfl
                            refine lv_if_ne (tgt := 232) hx hb dMo_fits_218 (by decide) (fun h137 => ?_) (fun h137 => ?_)
                            · refine lv_iconst (v := 0) hx hb dMo_fits_232 (by first | rfl | decide) ?_
                              have e9 : FMo_fits xk xa xb xc = 0 := by simp only [FMo_fits, if_pos h1, if_pos h67, if_neg h101, if_neg h103, if_neg h104, if_pos h123, if_neg h124, if_neg h126, if_neg h127, if_neg h128, if_neg h130, if_neg h131, if_pos h132, if_neg h137]
                              exact W.zret (v := 0) hx hb hr rfl (fun t ht hW => ⟨⟨0, (), rfl, (by show _ = _; rw [e9]), by rw [ht]; exact hP, hD⟩, hS.F ht⟩) hS.2.2 dMo_fits_233
                            · refine lv_iload_n hx hb dMo_fits_221 rfl (lv_at hl 5 rfl) ?_
                              refine pq_calli (fr := (FMo_isCondition xc)) (wc := (wN ad cI cS)) (wr := ([] : List Nat).filterMap (fun i => (wN ad cI cS)[i]?)) hP hD hS hA [] [] rfl rfl (by decide) (by decide) (va_runS (own := RMo) (As := [.int xc]) (rest := []) ⟨hx, hb, hml, hown, hw⟩ (k_Mo_isCondition l D ad cI cS xc H.size) ⟨pq_cwB 1 hw wd_190 wd_186 wd_189 rfl rfl (by decide +kernel) ⟨Nat.le_of_ble_eq_true rfl, Nat.le_of_ble_eq_true rfl⟩, hw _ wd_191⟩ (pq_preS hE (hP.sub [] rfl) (hD.sub [] (by decide) rfl)) rfl rfl hl.1 rfl (lv_room (Nat.le_of_ble_eq_true rfl)) dMo_fits_222 ⟨Nat.zero_le _, Nat.zero_le _⟩) (fun H locs hP hD hS => ?_)
                              have hP : va_P D vwCl (wN ad cI cS) H := hP.sub [] rfl
                              have hD : va_D _ (wN ad cI cS) := hD.sub [] (by decide) rfl
                              refine lv_if_eq (tgt := 232) hx hb dMo_fits_225 (by decide) (fun h138 => ?_) (fun h138 => ?_)
                              · refine lv_iconst (v := 0) hx hb dMo_fits_232 (by first | rfl | decide) ?_
                                have e9 : FMo_fits xk xa xb xc = 0 := by simp only [FMo_fits, if_pos h1, if_pos h67, if_neg h101, if_neg h103, if_neg h104, if_pos h123, if_neg h124, if_neg h126, if_neg h127, if_neg h128, if_neg h130, if_neg h131, if_pos h132, if_pos h137, if_pos h138]
                                exact W.zret (v := 0) hx hb hr rfl (fun t ht hW => ⟨⟨0, (), rfl, (by show _ = _; rw [e9]), by rw [ht]; exact hP, hD⟩, hS.F ht⟩) hS.2.2 dMo_fits_233
                              · refine lv_iconst (v := 1) hx hb dMo_fits_228 (by first | rfl | decide) ?_
                                refine lv_goto (tgt := 233) hx hb dMo_fits_229 (by decide) ?_
                                have e9 : FMo_fits xk xa xb xc = 1 := by simp only [FMo_fits, if_pos h1, if_pos h67, if_neg h101, if_neg h103, if_neg h104, if_pos h123, if_neg h124, if_neg h126, if_neg h127, if_neg h128, if_neg h130, if_neg h131, if_pos h132, if_pos h137, if_neg h138]
                                exact W.zret (v := 1) hx hb hr rfl (fun t ht hW => ⟨⟨1, (), rfl, (by show _ = _; rw [e9]), by rw [ht]; exact hP, hD⟩, hS.F ht⟩) hS.2.2 dMo_fits_233
                        · refine lv_iload hx hb dMo_fits_202 (lv_at hl 1 rfl) ?_
                          have e9 : FMo_fits xk xa xb xc = 1 := by simp only [FMo_fits, if_pos h1, if_pos h67, if_neg h101, if_neg h103, if_neg h104, if_pos h123, if_neg h124, if_neg h126, if_neg h127, if_neg h128, if_neg h130, if_pos h131]
                          exact W.zret (v := 1) hx hb hr rfl (fun t ht hW => ⟨⟨1, (), rfl, (by show _ = _; rw [e9]), by rw [ht]; exact hP, hD⟩, hS.F ht⟩) hS.2.2 dMo_fits_204
                      · refine lv_iload hx hb dMo_fits_170 (lv_at hl 1 rfl) ?_
                        refine lv_if_eq (tgt := 194) hx hb dMo_fits_172 (by decide) (fun h9 => absurd h9 (by decide)) (fun _ => ?_)
                        refine lv_iload hx hb dMo_fits_175 (lv_at hl 0 rfl) ?_
                        refine lv_if_eq (tgt := 194) hx hb dMo_fits_177 (by decide) (fun h9 => absurd h9 (by decide)) (fun _ => ?_)
                        refine lv_iload_n hx hb dMo_fits_180 rfl (lv_at hl 5 rfl) ?_
                        refine lv_iconst (v := 0) hx hb dMo_fits_181 (by first | rfl | decide) ?_
                        refine lv_bipush (v := 31) hx hb dMo_fits_182 (by first | rfl | decide) ?_
                        refine pq_calli (fr := (FMo_outside xc 0 31)) (wc := (wN ad cI cS)) (wr := ([] : List Nat).filterMap (fun i => (wN ad cI cS)[i]?)) hP hD hS hA [] [] rfl rfl (by decide) (by decide) (va_runS (own := RMo) (As := [.int xc, .int 0, .int 31]) (rest := []) ⟨hx, hb, hml, hown, hw⟩ (k_Mo_outside l D ad cI cS xc 0 31 H.size) ⟨pq_cwB 3 hw wd_187 wd_186 wd_185 rfl rfl (by decide +kernel) ⟨Nat.le_of_ble_eq_true rfl, Nat.le_of_ble_eq_true rfl⟩, hw _ wd_188⟩ (pq_preS hE (hP.sub [] rfl) (hD.sub [] (by decide) rfl)) rfl rfl hl.1 rfl (lv_room (Nat.le_of_ble_eq_true rfl)) dMo_fits_184 ⟨Nat.zero_le _, Nat.zero_le _⟩) (fun H locs hP hD hS => ?_)
                        have hP : va_P D vwCl (wN ad cI cS) H := hP.sub [] rfl
                        have hD : va_D _ (wN ad cI cS) := hD.sub [] (by decide) rfl
                        refine lv_if_ne (tgt := 194) hx hb dMo_fits_187 (by decide) (fun h139 => ?_) (fun h139 => ?_)
                        · refine lv_iconst (v := 0) hx hb dMo_fits_194 (by first | rfl | decide) ?_
                          have e9 : FMo_fits xk xa xb xc = 0 := by simp only [FMo_fits, if_pos h1, if_pos h67, if_neg h101, if_neg h103, if_neg h104, if_pos h123, if_neg h124, if_neg h126, if_neg h127, if_neg h128, if_pos h130, if_neg h139]
                          exact W.zret (v := 0) hx hb hr rfl (fun t ht hW => ⟨⟨0, (), rfl, (by show _ = _; rw [e9]), by rw [ht]; exact hP, hD⟩, hS.F ht⟩) hS.2.2 dMo_fits_195
                        · refine lv_iconst (v := 1) hx hb dMo_fits_190 (by first | rfl | decide) ?_
                          refine lv_goto (tgt := 195) hx hb dMo_fits_191 (by decide) ?_
                          have e9 : FMo_fits xk xa xb xc = 1 := by simp only [FMo_fits, if_pos h1, if_pos h67, if_neg h101, if_neg h103, if_neg h104, if_pos h123, if_neg h124, if_neg h126, if_neg h127, if_neg h128, if_pos h130, if_pos h139]
                          exact W.zret (v := 1) hx hb hr rfl (fun t ht hW => ⟨⟨1, (), rfl, (by show _ = _; rw [e9]), by rw [ht]; exact hP, hD⟩, hS.F ht⟩) hS.2.2 dMo_fits_195
                  · refine lv_iload hx hb dMo_fits_135 (lv_at hl 1 rfl) ?_
                    refine lv_if_eq (tgt := 156) hx hb dMo_fits_137 (by decide) (fun h9 => absurd h9 (by decide)) (fun _ => ?_)
                    refine lv_iload hx hb dMo_fits_140 (lv_at hl 0 rfl) ?_
                    refine lv_if_eq (tgt := 156) hx hb dMo_fits_142 (by decide) (fun h9 => absurd h9 (by decide)) (fun _ => ?_)
                    refine lv_iload_n hx hb dMo_fits_145 rfl (lv_at hl 5 rfl) ?_
                    refine pq_calli (fr := (FMo_isDeed xc)) (wc := (wN ad cI cS)) (wr := ([] : List Nat).filterMap (fun i => (wN ad cI cS)[i]?)) hP hD hS hA [] [] rfl rfl (by decide) (by decide) (va_runS (own := RMo) (As := [.int xc]) (rest := []) ⟨hx, hb, hml, hown, hw⟩ (k_Mo_isDeed l D ad cI cS xc H.size) ⟨pq_cwB 1 hw wd_193 wd_186 wd_192 rfl rfl (by decide +kernel) ⟨Nat.le_of_ble_eq_true rfl, Nat.le_of_ble_eq_true rfl⟩, hw _ wd_194⟩ (pq_preS hE (hP.sub [] rfl) (hD.sub [] (by decide) rfl)) rfl rfl hl.1 rfl (lv_room (Nat.le_of_ble_eq_true rfl)) dMo_fits_146 ⟨Nat.zero_le _, Nat.zero_le _⟩) (fun H locs hP hD hS => ?_)
                    have hP : va_P D vwCl (wN ad cI cS) H := hP.sub [] rfl
                    have hD : va_D _ (wN ad cI cS) := hD.sub [] (by decide) rfl
                    refine lv_if_eq (tgt := 156) hx hb dMo_fits_149 (by decide) (fun h140 => ?_) (fun h140 => ?_)
                    · refine lv_iconst (v := 0) hx hb dMo_fits_156 (by first | rfl | decide) ?_
                      have e9 : FMo_fits xk xa xb xc = 0 := by simp only [FMo_fits, if_pos h1, if_pos h67, if_neg h101, if_neg h103, if_neg h104, if_pos h123, if_neg h124, if_neg h126, if_pos h127, if_pos h140]
                      exact W.zret (v := 0) hx hb hr rfl (fun t ht hW => ⟨⟨0, (), rfl, (by show _ = _; rw [e9]), by rw [ht]; exact hP, hD⟩, hS.F ht⟩) hS.2.2 dMo_fits_157
                    · refine lv_iconst (v := 1) hx hb dMo_fits_152 (by first | rfl | decide) ?_
                      refine lv_goto (tgt := 157) hx hb dMo_fits_153 (by decide) ?_
                      have e9 : FMo_fits xk xa xb xc = 1 := by simp only [FMo_fits, if_pos h1, if_pos h67, if_neg h101, if_neg h103, if_neg h104, if_pos h123, if_neg h124, if_neg h126, if_pos h127, if_neg h140]
                      exact W.zret (v := 1) hx hb hr rfl (fun t ht hW => ⟨⟨1, (), rfl, (by show _ = _; rw [e9]), by rw [ht]; exact hP, hD⟩, hS.F ht⟩) hS.2.2 dMo_fits_157
                · refine lv_iload hx hb dMo_fits_103 (lv_at hl 1 rfl) ?_
                  refine lv_if_eq (tgt := 127) hx hb dMo_fits_105 (by decide) (fun h9 => absurd h9 (by decide)) (fun _ => ?_)
                  refine lv_iload hx hb dMo_fits_108 (lv_at hl 0 rfl) ?_
                  refine lv_if_eq (tgt := 127) hx hb dMo_fits_110 (by decide) (fun h9 => absurd h9 (by decide)) (fun _ => ?_)
                  refine lv_iload_n hx hb dMo_fits_113 rfl (lv_at hl 5 rfl) ?_
                  refine lv_iconst (v := 0) hx hb dMo_fits_114 (by first | rfl | decide) ?_
                  refine lv_bipush (v := 7) hx hb dMo_fits_115 (by first | rfl | decide) ?_
                  refine pq_calli (fr := (FMo_outside xc 0 7)) (wc := (wN ad cI cS)) (wr := ([] : List Nat).filterMap (fun i => (wN ad cI cS)[i]?)) hP hD hS hA [] [] rfl rfl (by decide) (by decide) (va_runS (own := RMo) (As := [.int xc, .int 0, .int 7]) (rest := []) ⟨hx, hb, hml, hown, hw⟩ (k_Mo_outside l D ad cI cS xc 0 7 H.size) ⟨pq_cwB 3 hw wd_187 wd_186 wd_185 rfl rfl (by decide +kernel) ⟨Nat.le_of_ble_eq_true rfl, Nat.le_of_ble_eq_true rfl⟩, hw _ wd_188⟩ (pq_preS hE (hP.sub [] rfl) (hD.sub [] (by decide) rfl)) rfl rfl hl.1 rfl (lv_room (Nat.le_of_ble_eq_true rfl)) dMo_fits_117 ⟨Nat.zero_le _, Nat.zero_le _⟩) (fun H locs hP hD hS => ?_)
                  have hP : va_P D vwCl (wN ad cI cS) H := hP.sub [] rfl
                  have hD : va_D _ (wN ad cI cS) := hD.sub [] (by decide) rfl
                  refine lv_if_ne (tgt := 127) hx hb dMo_fits_120 (by decide) (fun h141 => ?_) (fun h141 => ?_)
                  · refine lv_iconst (v := 0) hx hb dMo_fits_127 (by first | rfl | decide) ?_
                    have e9 : FMo_fits xk xa xb xc = 0 := by simp only [FMo_fits, if_pos h1, if_pos h67, if_neg h101, if_neg h103, if_neg h104, if_pos h123, if_neg h124, if_pos h126, if_neg h141]
                    exact W.zret (v := 0) hx hb hr rfl (fun t ht hW => ⟨⟨0, (), rfl, (by show _ = _; rw [e9]), by rw [ht]; exact hP, hD⟩, hS.F ht⟩) hS.2.2 dMo_fits_128
                  · refine lv_iconst (v := 1) hx hb dMo_fits_123 (by first | rfl | decide) ?_
                    refine lv_goto (tgt := 128) hx hb dMo_fits_124 (by decide) ?_
                    have e9 : FMo_fits xk xa xb xc = 1 := by simp only [FMo_fits, if_pos h1, if_pos h67, if_neg h101, if_neg h103, if_neg h104, if_pos h123, if_neg h124, if_pos h126, if_pos h141]
                    exact W.zret (v := 1) hx hb hr rfl (fun t ht hW => ⟨⟨1, (), rfl, (by show _ = _; rw [e9]), by rw [ht]; exact hP, hD⟩, hS.F ht⟩) hS.2.2 dMo_fits_128
            · refine lv_iload hx hb dMo_fits_70 (lv_at hl 1 rfl) ?_
              refine lv_if_eq (tgt := 90) hx hb dMo_fits_72 (by decide) (fun h9 => absurd h9 (by decide)) (fun _ => ?_)
              refine lv_iload_n hx hb dMo_fits_75 rfl (lv_at hl 4 rfl) ?_
              refine lv_iconst (v := 0) hx hb dMo_fits_76 (by first | rfl | decide) ?_
              refine lv_sipush (v := 255) hx hb dMo_fits_77 (by first | rfl | decide) ?_
              refine pq_calli (fr := (FMo_outside xb 0 255)) (wc := (wN ad cI cS)) (wr := ([] : List Nat).filterMap (fun i => (wN ad cI cS)[i]?)) hP hD hS hA [] [] rfl rfl (by decide) (by decide) (va_runS (own := RMo) (As := [.int xb, .int 0, .int 255]) (rest := []) ⟨hx, hb, hml, hown, hw⟩ (k_Mo_outside l D ad cI cS xb 0 255 H.size) ⟨pq_cwB 3 hw wd_187 wd_186 wd_185 rfl rfl (by decide +kernel) ⟨Nat.le_of_ble_eq_true rfl, Nat.le_of_ble_eq_true rfl⟩, hw _ wd_188⟩ (pq_preS hE (hP.sub [] rfl) (hD.sub [] (by decide) rfl)) rfl rfl hl.1 rfl (lv_room (Nat.le_of_ble_eq_true rfl)) dMo_fits_80 ⟨Nat.zero_le _, Nat.zero_le _⟩) (fun H locs hP hD hS => ?_)
              have hP : va_P D vwCl (wN ad cI cS) H := hP.sub [] rfl
              have hD : va_D _ (wN ad cI cS) := hD.sub [] (by decide) rfl
              refine lv_if_ne (tgt := 90) hx hb dMo_fits_83 (by decide) (fun h142 => ?_) (fun h142 => ?_)
              · refine lv_iconst (v := 0) hx hb dMo_fits_90 (by first | rfl | decide) ?_
                have e9 : FMo_fits xk xa xb xc = 0 := by simp only [FMo_fits, if_pos h1, if_pos h67, if_neg h101, if_neg h103, if_neg h104, if_neg h123, if_neg h142]
                exact W.zret (v := 0) hx hb hr rfl (fun t ht hW => ⟨⟨0, (), rfl, (by show _ = _; rw [e9]), by rw [ht]; exact hP, hD⟩, hS.F ht⟩) hS.2.2 dMo_fits_91
              · refine lv_iconst (v := 1) hx hb dMo_fits_86 (by first | rfl | decide) ?_
                refine lv_goto (tgt := 91) hx hb dMo_fits_87 (by decide) ?_
                have e9 : FMo_fits xk xa xb xc = 1 := by simp only [FMo_fits, if_pos h1, if_pos h67, if_neg h101, if_neg h103, if_neg h104, if_neg h123, if_pos h142]
                exact W.zret (v := 1) hx hb hr rfl (fun t ht hW => ⟨⟨1, (), rfl, (by show _ = _; rw [e9]), by rw [ht]; exact hP, hD⟩, hS.F ht⟩) hS.2.2 dMo_fits_91
        · refine lv_iload_n hx hb dMo_fits_44 rfl (lv_at hl 3 rfl) ?_
          refine lv_iconst (v := 0) hx hb dMo_fits_45 (by first | rfl | decide) ?_
          refine lv_bipush (v := 15) hx hb dMo_fits_46 (by first | rfl | decide) ?_
          refine pq_calli (fr := (FMo_outside xa 0 15)) (wc := (wN ad cI cS)) (wr := ([] : List Nat).filterMap (fun i => (wN ad cI cS)[i]?)) hP hD hS hA [] [] rfl rfl (by decide) (by decide) (va_runS (own := RMo) (As := [.int xa, .int 0, .int 15]) (rest := []) ⟨hx, hb, hml, hown, hw⟩ (k_Mo_outside l D ad cI cS xa 0 15 H.size) ⟨pq_cwB 3 hw wd_187 wd_186 wd_185 rfl rfl (by decide +kernel) ⟨Nat.le_of_ble_eq_true rfl, Nat.le_of_ble_eq_true rfl⟩, hw _ wd_188⟩ (pq_preS hE (hP.sub [] rfl) (hD.sub [] (by decide) rfl)) rfl rfl hl.1 rfl (lv_room (Nat.le_of_ble_eq_true rfl)) dMo_fits_48 ⟨Nat.zero_le _, Nat.zero_le _⟩) (fun H locs hP hD hS => ?_)
          have hP : va_P D vwCl (wN ad cI cS) H := hP.sub [] rfl
          have hD : va_D _ (wN ad cI cS) := hD.sub [] (by decide) rfl
          refine lv_if_ne (tgt := 58) hx hb dMo_fits_51 (by decide) (fun h143 => ?_) (fun h143 => ?_)
          · refine lv_iconst (v := 0) hx hb dMo_fits_58 (by first | rfl | decide) ?_
            have e9 : FMo_fits xk xa xb xc = 0 := by simp only [FMo_fits, if_pos h1, if_pos h67, if_neg h101, if_pos h103, if_neg h143]
            exact W.zret (v := 0) hx hb hr rfl (fun t ht hW => ⟨⟨0, (), rfl, (by show _ = _; rw [e9]), by rw [ht]; exact hP, hD⟩, hS.F ht⟩) hS.2.2 dMo_fits_59
          · refine lv_iconst (v := 1) hx hb dMo_fits_54 (by first | rfl | decide) ?_
            refine lv_goto (tgt := 59) hx hb dMo_fits_55 (by decide) ?_
            have e9 : FMo_fits xk xa xb xc = 1 := by simp only [FMo_fits, if_pos h1, if_pos h67, if_neg h101, if_pos h103, if_pos h143]
            exact W.zret (v := 1) hx hb hr rfl (fun t ht hW => ⟨⟨1, (), rfl, (by show _ = _; rw [e9]), by rw [ht]; exact hP, hD⟩, hS.F ht⟩) hS.2.2 dMo_fits_59
def FMo_up (xa : Int32) : Int32 := if (xa - xa / 4 * 4) = 0 then xa else xa + 2
set_option maxHeartbeats 4000000 in
set_option maxRecDepth 100000 in
theorem k_Mo_up (l : Launch) (D : va_G) (ad : Nat → Nat) (cI cS : ClassId) (xa : Int32) : pq_I l yMo_up (.code yMo_up cMo_up 1 (some .int) :: pq_ws) { frames := 0, cells := 0, slots := 0, locals := 0 } D cI cS [.int xa] (wN ad cI cS) (FMo_up xa) (wN ad cI cS) := by
  intro sz
  refine Met.ofW (cc := cMo_up) (maxL := 1) (ret := (some .int)) (by decide) rfl ?_
  intro p e s m args below meth c s₁ B hml hv
  obtain ⟨rfl, hsz, hP, hD0, hE⟩ := hv
  have hx := B.exec
  have hb := B.bytes
  have hr := B.returns
  have hts := atoms_spec (ws := (.code yMo_up cMo_up 1 (some .int) :: pq_ws : List Cond)) B.pre
  have hw : ∀ w ∈ pq_ws, w.before _ s = true := fun w h => hts w (List.mem_cons_of_mem _ h)
  have hown : s.vm.findClass RMo = some m.cls := findClass_of_methodNamed B.named
  have hlocks := B.notSynchronized
  subst hsz
  have hD := hD0.self (sz := s.heap.size)
  have hA : ∀ q : Nat, s.heap.size ≤ q → va_A (wN ad cI cS) s.heap.size q := fun q h => Or.inr h
  have hS : va_S (va_A (wN ad cI cS) s.heap.size) s.heap s.heap [] := va_S.rf
  have hl := lv_entry ([.int xa] : List Value) (n := 1) (Nat.le_of_ble_eq_true rfl)
  rw [lg_entry_eq]
  generalize (lg_sl ([.int xa] : List Value) ++ List.replicate (1 - (lg_sl ([.int xa] : List Value)).length) Slot.unset).toArray = ls at hl ⊢
  have hl : lv_has ls 1 [(0, .int xa)] := hl
  refine lv_iload_n hx hb dMo_up_0 rfl (lv_at hl 0 rfl) ?_
  refine lv_iconst (v := 4) hx hb dMo_up_1 (by first | rfl | decide) ?_
  refine lv_irem hx hb dMo_up_2 (by decide) ?_
  refine lv_if_ne (tgt := 10) hx hb dMo_up_3 (by decide) (fun h1 => ?_) (fun h1 => ?_)
  · refine lv_iload_n hx hb dMo_up_10 rfl (lv_at hl 0 rfl) ?_
    refine lv_iconst (v := 2) hx hb dMo_up_11 (by first | rfl | decide) ?_
    refine lv_iadd hx hb dMo_up_12 ?_
    have e9 : FMo_up xa = xa + 2 := by simp only [FMo_up, if_neg h1]
    exact W.iret (v := xa + 2) hx hb hr (fun t ht hW => ⟨⟨xa + 2, (), rfl, (by show _ = _; rw [e9]), by rw [ht]; exact hP, hD⟩, hS.F ht⟩) hS.2.2 dMo_up_13
  · refine lv_iload_n hx hb dMo_up_6 rfl (lv_at hl 0 rfl) ?_
    refine lv_goto (tgt := 13) hx hb dMo_up_7 (by decide) ?_
    have e9 : FMo_up xa = xa := by simp only [FMo_up, if_pos h1]
    exact W.iret (v := xa) hx hb hr (fun t ht hW => ⟨⟨xa, (), rfl, (by show _ = _; rw [e9]), by rw [ht]; exact hP, hD⟩, hS.F ht⟩) hS.2.2 dMo_up_13
def FMo_base (xa : Int32) : Int32 := ((xa + 4) / 4) * 4
set_option maxHeartbeats 4000000 in
set_option maxRecDepth 100000 in
theorem k_Mo_base (l : Launch) (D : va_G) (ad : Nat → Nat) (cI cS : ClassId) (xa : Int32) : pq_I l yMo_base (.code yMo_base cMo_base 1 (some .int) :: pq_ws) { frames := 0, cells := 0, slots := 0, locals := 0 } D cI cS [.int xa] (wN ad cI cS) (FMo_base xa) (wN ad cI cS) := by
  intro sz
  refine Met.ofW (cc := cMo_base) (maxL := 1) (ret := (some .int)) (by decide) rfl ?_
  intro p e s m args below meth c s₁ B hml hv
  obtain ⟨rfl, hsz, hP, hD0, hE⟩ := hv
  have hx := B.exec
  have hb := B.bytes
  have hr := B.returns
  have hts := atoms_spec (ws := (.code yMo_base cMo_base 1 (some .int) :: pq_ws : List Cond)) B.pre
  have hw : ∀ w ∈ pq_ws, w.before _ s = true := fun w h => hts w (List.mem_cons_of_mem _ h)
  have hown : s.vm.findClass RMo = some m.cls := findClass_of_methodNamed B.named
  have hlocks := B.notSynchronized
  subst hsz
  have hD := hD0.self (sz := s.heap.size)
  have hA : ∀ q : Nat, s.heap.size ≤ q → va_A (wN ad cI cS) s.heap.size q := fun q h => Or.inr h
  have hS : va_S (va_A (wN ad cI cS) s.heap.size) s.heap s.heap [] := va_S.rf
  have hl := lv_entry ([.int xa] : List Value) (n := 1) (Nat.le_of_ble_eq_true rfl)
  rw [lg_entry_eq]
  generalize (lg_sl ([.int xa] : List Value) ++ List.replicate (1 - (lg_sl ([.int xa] : List Value)).length) Slot.unset).toArray = ls at hl ⊢
  have hl : lv_has ls 1 [(0, .int xa)] := hl
  refine lv_iload_n hx hb dMo_base_0 rfl (lv_at hl 0 rfl) ?_
  refine lv_iconst (v := 4) hx hb dMo_base_1 (by first | rfl | decide) ?_
  refine lv_iadd hx hb dMo_base_2 ?_
  refine lv_iconst (v := 4) hx hb dMo_base_3 (by first | rfl | decide) ?_
  refine lv_idiv hx hb dMo_base_4 (by decide) ?_
  refine lv_iconst (v := 4) hx hb dMo_base_5 (by first | rfl | decide) ?_
  refine lv_imul hx hb dMo_base_6 ?_
  have e9 : FMo_base xa = ((xa + 4) / 4) * 4 := rfl
  exact W.iret (v := ((xa + 4) / 4) * 4) hx hb hr (fun t ht hW => ⟨⟨((xa + 4) / 4) * 4, (), rfl, (by show _ = _; rw [e9]), by rw [ht]; exact hP, hD⟩, hS.F ht⟩) hS.2.2 dMo_base_7
def FMo_plain (xa : Int32) : Int64 := xa.toInt64 &&& (4294967295 : Int64)
set_option maxHeartbeats 4000000 in
set_option maxRecDepth 100000 in
theorem k_Mo_plain (l : Launch) (D : va_G) (ad : Nat → Nat) (cI cS : ClassId) (xa : Int32) : pq_G l yMo_plain (.code yMo_plain cMo_plain 1 (some .long) :: pq_ws) { frames := 0, cells := 0, slots := 0, locals := 0 } D cI cS [.int xa] (wN ad cI cS) (FMo_plain xa) (wN ad cI cS) := by
  intro sz
  refine Met.ofW (cc := cMo_plain) (maxL := 1) (ret := (some .long)) (by decide) rfl ?_
  intro p e s m args below meth c s₁ B hml hv
  obtain ⟨rfl, hsz, hP, hD0, hE⟩ := hv
  have hx := B.exec
  have hb := B.bytes
  have hr := B.returns
  have hts := atoms_spec (ws := (.code yMo_plain cMo_plain 1 (some .long) :: pq_ws : List Cond)) B.pre
  have hw : ∀ w ∈ pq_ws, w.before _ s = true := fun w h => hts w (List.mem_cons_of_mem _ h)
  have hown : s.vm.findClass RMo = some m.cls := findClass_of_methodNamed B.named
  have hlocks := B.notSynchronized
  subst hsz
  have hD := hD0.self (sz := s.heap.size)
  have hA : ∀ q : Nat, s.heap.size ≤ q → va_A (wN ad cI cS) s.heap.size q := fun q h => Or.inr h
  have hS : va_S (va_A (wN ad cI cS) s.heap.size) s.heap s.heap [] := va_S.rf
  have hl := lv_entry ([.int xa] : List Value) (n := 1) (Nat.le_of_ble_eq_true rfl)
  rw [lg_entry_eq]
  generalize (lg_sl ([.int xa] : List Value) ++ List.replicate (1 - (lg_sl ([.int xa] : List Value)).length) Slot.unset).toArray = ls at hl ⊢
  have hl : lv_has ls 1 [(0, .int xa)] := hl
  refine lv_iload_n hx hb dMo_plain_0 rfl (lv_at hl 0 rfl) ?_
  refine lv_i2l hx hb dMo_plain_1 rfl ?_
  refine lv_ldc2 hx hb hown (hw _ wd_195) dMo_plain_2 ?_
  refine lv_land hx hb dMo_plain_5 ?_
  have e9 : FMo_plain xa = xa.toInt64 &&& (4294967295 : Int64) := rfl
  exact W.lret (v := xa.toInt64 &&& (4294967295 : Int64)) hx hb hr (fun t ht hW => ⟨⟨xa.toInt64 &&& (4294967295 : Int64), (), rfl, (by show _ = _; rw [e9]), by rw [ht]; exact hP, hD⟩, hS.F ht⟩) hS.2.2 dMo_plain_6
def FMo_write (xa : Int32) (xh : Int32) (md : Nat → Int32) : (Nat → Int32) := upd md (xa / 2).toNatClampNeg (xh &&& (65535 : Int32))
set_option maxHeartbeats 4000000 in
set_option maxRecDepth 100000 in
theorem k_Mo_write (l : Launch) (D : va_G) (ad : Nat → Nat) (cI cS : ClassId) (xa : Int32) (xh : Int32) (mq : Int32) (mn : Int32) (me : Int32) (mo : Int32) (mt : Int32) (mx : Int32) (mp : Int32) (mz : Int32) (mu : Int32) (vn : Int32) (vz : Int32) (vc : Int32) (vv : Int32) (vp : Int32) (ve : Int32) (mK : Nat → Int32) (mA : Nat → Int32) (mB : Nat → Int32) (mC : Nat → Int32) (mf : Nat → Int32) (ml : Nat → Int32) (mc : Nat → Int32) (mL : Nat → Int32) (md : Nat → Int32) (mi : Nat → Int32) (mr : Nat → Int32) (mw : Nat → Int32) (hxa : vp_in (xa / 2) 7200) : pq_V l yMo_write (.code yMo_write cMo_write 3 none :: pq_ws) { frames := 0, cells := 0, slots := 0, locals := 0 } D cI cS [.ref (ad 17), .int xa, .int xh] (wM ad cI cS mq mn me mo mt mx mp mz mu vn vz vc vv vp ve mK mA mB mC mf ml mc mL md mi mr mw) (wM ad cI cS mq mn me mo mt mx mp mz mu vn vz vc vv vp ve mK mA mB mC mf ml mc mL (FMo_write xa xh md) mi mr mw) := by
  intro sz
  refine Met.ofW (cc := cMo_write) (maxL := 3) (ret := none) (by decide) rfl ?_
  intro p e s m args below meth c s₁ B hml hv
  obtain ⟨rfl, hsz, hP, hD0, hE⟩ := hv
  have hx := B.exec
  have hb := B.bytes
  have hr := B.returns
  have hts := atoms_spec (ws := (.code yMo_write cMo_write 3 none :: pq_ws : List Cond)) B.pre
  have hw : ∀ w ∈ pq_ws, w.before _ s = true := fun w h => hts w (List.mem_cons_of_mem _ h)
  have hown : s.vm.findClass RMo = some m.cls := findClass_of_methodNamed B.named
  have hlocks := B.notSynchronized
  subst hsz
  have hD := hD0.self (sz := s.heap.size)
  have hA : ∀ q : Nat, s.heap.size ≤ q → va_A (wM ad cI cS mq mn me mo mt mx mp mz mu vn vz vc vv vp ve mK mA mB mC mf ml mc mL md mi mr mw) s.heap.size q := fun q h => Or.inr h
  have hS : va_S (va_A (wM ad cI cS mq mn me mo mt mx mp mz mu vn vz vc vv vp ve mK mA mB mC mf ml mc mL md mi mr mw) s.heap.size) s.heap s.heap [] := va_S.rf
  have hl := lv_entry ([.ref (ad 17), .int xa, .int xh] : List Value) (n := 3) (Nat.le_of_ble_eq_true rfl)
  rw [lg_entry_eq]
  generalize (lg_sl ([.ref (ad 17), .int xa, .int xh] : List Value) ++ List.replicate (3 - (lg_sl ([.ref (ad 17), .int xa, .int xh] : List Value)).length) Slot.unset).toArray = ls at hl ⊢
  have hl : lv_has ls 3 [(0, .ref (ad 17)), (1, .int xa), (2, .int xh)] := hl
  refine lv_aload_n hx hb dMo_write_0 rfl (lv_at hl 0 rfl) ?_
  refine va_get (D := D) (ci := 5) (v := .ref (ad 26)) (C := RMo) (T := TMo) (N := 27) hx hb hw pinMo hown hE.1 hP 0 rfl rfl 15 (by decide) (hw _ wd_196) (fun _ h9 => h9) rfl dMo_write_1 ?_
  refine lv_iload_n hx hb dMo_write_4 rfl (lv_at hl 1 rfl) ?_
  refine lv_iconst (v := 2) hx hb dMo_write_5 (by first | rfl | decide) ?_
  refine lv_idiv hx hb dMo_write_6 (by decide) ?_
  refine lv_iload_n hx hb dMo_write_7 rfl (lv_at hl 2 rfl) ?_
  refine lv_ldc hx hb hown (hw _ wd_197) dMo_write_8 ?_
  refine lv_iand hx hb dMo_write_10 ?_
  refine va_iast hx hb hE.1 hP hD hS 9 0 rfl rfl hxa dMo_write_11 (fun H locs hP hD hS => ?_)
  have hP : va_P D vwCl (wM ad cI cS mq mn me mo mt mx mp mz mu vn vz vc vv vp ve mK mA mB mC mf ml mc mL (upd md (xa / 2).toNatClampNeg (xh &&& (65535 : Int32))) mi mr mw) H := hP
  have hD : va_D _ (wM ad cI cS mq mn me mo mt mx mp mz mu vn vz vc vv vp ve mK mA mB mC mf ml mc mL (upd md (xa / 2).toNatClampNeg (xh &&& (65535 : Int32))) mi mr mw) := hD
  have e9 : FMo_write xa xh md = upd md (xa / 2).toNatClampNeg (xh &&& (65535 : Int32)) := rfl
  exact W.vret hx hb hr (fun t ht hW => ⟨⟨(), rfl, trivial, by rw [e9, ht]; exact hP, by rw [e9]; exact hD⟩, hS.F ht⟩) hS.2.2 dMo_write_12
def FMo_refused (mx : Int32) : Int32 × Int32 := (mx, 0)
set_option maxHeartbeats 4000000 in
set_option maxRecDepth 100000 in
theorem k_Mo_refused (l : Launch) (D : va_G) (ad : Nat → Nat) (cI cS : ClassId) (mq : Int32) (mn : Int32) (me : Int32) (mo : Int32) (mt : Int32) (mx : Int32) (mp : Int32) (mz : Int32) (mu : Int32) (vn : Int32) (vz : Int32) (vc : Int32) (vv : Int32) (vp : Int32) (ve : Int32) (mK : Nat → Int32) (mA : Nat → Int32) (mB : Nat → Int32) (mC : Nat → Int32) (mf : Nat → Int32) (ml : Nat → Int32) (mc : Nat → Int32) (mL : Nat → Int32) (md : Nat → Int32) (mi : Nat → Int32) (mr : Nat → Int32) (mw : Nat → Int32) : pq_I l yMo_refused (.code yMo_refused cMo_refused 1 (some .int) :: pq_ws) { frames := 0, cells := 0, slots := 0, locals := 0 } D cI cS [.ref (ad 17)] (wM ad cI cS mq mn me mo mt mx mp mz mu vn vz vc vv vp ve mK mA mB mC mf ml mc mL md mi mr mw) ((FMo_refused mx).1) (wM ad cI cS ((FMo_refused mx).2) mn me mo mt mx mp mz mu vn vz vc vv vp ve mK mA mB mC mf ml mc mL md mi mr mw) := by
  intro sz
  refine Met.ofW (cc := cMo_refused) (maxL := 1) (ret := (some .int)) (by decide) rfl ?_
  intro p e s m args below meth c s₁ B hml hv
  obtain ⟨rfl, hsz, hP, hD0, hE⟩ := hv
  have hx := B.exec
  have hb := B.bytes
  have hr := B.returns
  have hts := atoms_spec (ws := (.code yMo_refused cMo_refused 1 (some .int) :: pq_ws : List Cond)) B.pre
  have hw : ∀ w ∈ pq_ws, w.before _ s = true := fun w h => hts w (List.mem_cons_of_mem _ h)
  have hown : s.vm.findClass RMo = some m.cls := findClass_of_methodNamed B.named
  have hlocks := B.notSynchronized
  subst hsz
  have hD := hD0.self (sz := s.heap.size)
  have hA : ∀ q : Nat, s.heap.size ≤ q → va_A (wM ad cI cS mq mn me mo mt mx mp mz mu vn vz vc vv vp ve mK mA mB mC mf ml mc mL md mi mr mw) s.heap.size q := fun q h => Or.inr h
  have hS : va_S (va_A (wM ad cI cS mq mn me mo mt mx mp mz mu vn vz vc vv vp ve mK mA mB mC mf ml mc mL md mi mr mw) s.heap.size) s.heap s.heap [] := va_S.rf
  have hl := lv_entry ([.ref (ad 17)] : List Value) (n := 1) (Nat.le_of_ble_eq_true rfl)
  rw [lg_entry_eq]
  generalize (lg_sl ([.ref (ad 17)] : List Value) ++ List.replicate (1 - (lg_sl ([.ref (ad 17)] : List Value)).length) Slot.unset).toArray = ls at hl ⊢
  have hl : lv_has ls 1 [(0, .ref (ad 17))] := hl
  refine lv_aload_n hx hb dMo_refused_0 rfl (lv_at hl 0 rfl) ?_
  refine lv_iconst (v := 0) hx hb dMo_refused_1 (by first | rfl | decide) ?_
  refine va_put (D := D) (ci := 5) (v := .int 0) (ty := .int) (C := RMo) (T := TMo) (N := 27) hx hb hw pinMo tyMo tyMo_ok nmMo hown hE.1 hP hD hS 0 rfl rfl 0 (by decide) (hw _ wd_184) (fun _ h9 => h9) rfl (by decide +kernel) rfl rfl (Nat.le_of_ble_eq_true rfl) dMo_refused_2 (fun H locs hP hD hS => ?_)
  have hP : va_P D vwCl (wM ad cI cS 0 mn me mo mt mx mp mz mu vn vz vc vv vp ve mK mA mB mC mf ml mc mL md mi mr mw) H := hP
  have hD : va_D _ (wM ad cI cS 0 mn me mo mt mx mp mz mu vn vz vc vv vp ve mK mA mB mC mf ml mc mL md mi mr mw) := hD
  refine lv_aload_n hx hb dMo_refused_5 rfl (lv_at hl 0 rfl) ?_
  refine va_get (D := D) (ci := 5) (v := .int mx) (C := RMo) (T := TMo) (N := 27) hx hb hw pinMo hown hE.1 hP 0 rfl rfl 13 (by decide) (hw _ wd_198) (fun _ h9 => h9) rfl dMo_refused_6 ?_
  have e9 : FMo_refused mx = (mx, 0) := rfl
  exact W.iret (v := mx) hx hb hr (fun t ht hW => ⟨⟨mx, (), rfl, (by show _ = _; rw [e9]), by rw [e9, ht]; exact hP, by rw [e9]; exact hD⟩, hS.F ht⟩) hS.2.2 dMo_refused_9
def FMo_size (mz : Int32) : Int32 × Int32 := (mz, 0)
set_option maxHeartbeats 4000000 in
set_option maxRecDepth 100000 in
theorem k_Mo_size (l : Launch) (D : va_G) (ad : Nat → Nat) (cI cS : ClassId) (mq : Int32) (mn : Int32) (me : Int32) (mo : Int32) (mt : Int32) (mx : Int32) (mp : Int32) (mz : Int32) (mu : Int32) (vn : Int32) (vz : Int32) (vc : Int32) (vv : Int32) (vp : Int32) (ve : Int32) (mK : Nat → Int32) (mA : Nat → Int32) (mB : Nat → Int32) (mC : Nat → Int32) (mf : Nat → Int32) (ml : Nat → Int32) (mc : Nat → Int32) (mL : Nat → Int32) (md : Nat → Int32) (mi : Nat → Int32) (mr : Nat → Int32) (mw : Nat → Int32) : pq_I l yMo_size (.code yMo_size cMo_size 1 (some .int) :: pq_ws) { frames := 0, cells := 0, slots := 0, locals := 0 } D cI cS [.ref (ad 17)] (wM ad cI cS mq mn me mo mt mx mp mz mu vn vz vc vv vp ve mK mA mB mC mf ml mc mL md mi mr mw) ((FMo_size mz).1) (wM ad cI cS ((FMo_size mz).2) mn me mo mt mx mp mz mu vn vz vc vv vp ve mK mA mB mC mf ml mc mL md mi mr mw) := by
  intro sz
  refine Met.ofW (cc := cMo_size) (maxL := 1) (ret := (some .int)) (by decide) rfl ?_
  intro p e s m args below meth c s₁ B hml hv
  obtain ⟨rfl, hsz, hP, hD0, hE⟩ := hv
  have hx := B.exec
  have hb := B.bytes
  have hr := B.returns
  have hts := atoms_spec (ws := (.code yMo_size cMo_size 1 (some .int) :: pq_ws : List Cond)) B.pre
  have hw : ∀ w ∈ pq_ws, w.before _ s = true := fun w h => hts w (List.mem_cons_of_mem _ h)
  have hown : s.vm.findClass RMo = some m.cls := findClass_of_methodNamed B.named
  have hlocks := B.notSynchronized
  subst hsz
  have hD := hD0.self (sz := s.heap.size)
  have hA : ∀ q : Nat, s.heap.size ≤ q → va_A (wM ad cI cS mq mn me mo mt mx mp mz mu vn vz vc vv vp ve mK mA mB mC mf ml mc mL md mi mr mw) s.heap.size q := fun q h => Or.inr h
  have hS : va_S (va_A (wM ad cI cS mq mn me mo mt mx mp mz mu vn vz vc vv vp ve mK mA mB mC mf ml mc mL md mi mr mw) s.heap.size) s.heap s.heap [] := va_S.rf
  have hl := lv_entry ([.ref (ad 17)] : List Value) (n := 1) (Nat.le_of_ble_eq_true rfl)
  rw [lg_entry_eq]
  generalize (lg_sl ([.ref (ad 17)] : List Value) ++ List.replicate (1 - (lg_sl ([.ref (ad 17)] : List Value)).length) Slot.unset).toArray = ls at hl ⊢
  have hl : lv_has ls 1 [(0, .ref (ad 17))] := hl
  refine lv_aload_n hx hb dMo_size_0 rfl (lv_at hl 0 rfl) ?_
  refine lv_iconst (v := 0) hx hb dMo_size_1 (by first | rfl | decide) ?_
  refine va_put (D := D) (ci := 5) (v := .int 0) (ty := .int) (C := RMo) (T := TMo) (N := 27) hx hb hw pinMo tyMo tyMo_ok nmMo hown hE.1 hP hD hS 0 rfl rfl 0 (by decide) (hw _ wd_184) (fun _ h9 => h9) rfl (by decide +kernel) rfl rfl (Nat.le_of_ble_eq_true rfl) dMo_size_2 (fun H locs hP hD hS => ?_)
  have hP : va_P D vwCl (wM ad cI cS 0 mn me mo mt mx mp mz mu vn vz vc vv vp ve mK mA mB mC mf ml mc mL md mi mr mw) H := hP
  have hD : va_D _ (wM ad cI cS 0 mn me mo mt mx mp mz mu vn vz vc vv vp ve mK mA mB mC mf ml mc mL md mi mr mw) := hD
  refine lv_aload_n hx hb dMo_size_5 rfl (lv_at hl 0 rfl) ?_
  refine va_get (D := D) (ci := 5) (v := .int mz) (C := RMo) (T := TMo) (N := 27) hx hb hw pinMo hown hE.1 hP 0 rfl rfl 16 (by decide) (hw _ wd_199) (fun _ h9 => h9) rfl dMo_size_6 ?_
  have e9 : FMo_size mz = (mz, 0) := rfl
  exact W.iret (v := mz) hx hb hr (fun t ht hW => ⟨⟨mz, (), rfl, (by show _ = _; rw [e9]), by rw [e9, ht]; exact hP, by rw [e9]; exact hD⟩, hS.F ht⟩) hS.2.2 dMo_size_9
def FMo_pools (mu : Int32) : Int32 × Int32 := (mu, 0)
set_option maxHeartbeats 4000000 in
set_option maxRecDepth 100000 in
theorem k_Mo_pools (l : Launch) (D : va_G) (ad : Nat → Nat) (cI cS : ClassId) (mq : Int32) (mn : Int32) (me : Int32) (mo : Int32) (mt : Int32) (mx : Int32) (mp : Int32) (mz : Int32) (mu : Int32) (vn : Int32) (vz : Int32) (vc : Int32) (vv : Int32) (vp : Int32) (ve : Int32) (mK : Nat → Int32) (mA : Nat → Int32) (mB : Nat → Int32) (mC : Nat → Int32) (mf : Nat → Int32) (ml : Nat → Int32) (mc : Nat → Int32) (mL : Nat → Int32) (md : Nat → Int32) (mi : Nat → Int32) (mr : Nat → Int32) (mw : Nat → Int32) : pq_I l yMo_pools (.code yMo_pools cMo_pools 1 (some .int) :: pq_ws) { frames := 0, cells := 0, slots := 0, locals := 0 } D cI cS [.ref (ad 17)] (wM ad cI cS mq mn me mo mt mx mp mz mu vn vz vc vv vp ve mK mA mB mC mf ml mc mL md mi mr mw) ((FMo_pools mu).1) (wM ad cI cS ((FMo_pools mu).2) mn me mo mt mx mp mz mu vn vz vc vv vp ve mK mA mB mC mf ml mc mL md mi mr mw) := by
  intro sz
  refine Met.ofW (cc := cMo_pools) (maxL := 1) (ret := (some .int)) (by decide) rfl ?_
  intro p e s m args below meth c s₁ B hml hv
  obtain ⟨rfl, hsz, hP, hD0, hE⟩ := hv
  have hx := B.exec
  have hb := B.bytes
  have hr := B.returns
  have hts := atoms_spec (ws := (.code yMo_pools cMo_pools 1 (some .int) :: pq_ws : List Cond)) B.pre
  have hw : ∀ w ∈ pq_ws, w.before _ s = true := fun w h => hts w (List.mem_cons_of_mem _ h)
  have hown : s.vm.findClass RMo = some m.cls := findClass_of_methodNamed B.named
  have hlocks := B.notSynchronized
  subst hsz
  have hD := hD0.self (sz := s.heap.size)
  have hA : ∀ q : Nat, s.heap.size ≤ q → va_A (wM ad cI cS mq mn me mo mt mx mp mz mu vn vz vc vv vp ve mK mA mB mC mf ml mc mL md mi mr mw) s.heap.size q := fun q h => Or.inr h
  have hS : va_S (va_A (wM ad cI cS mq mn me mo mt mx mp mz mu vn vz vc vv vp ve mK mA mB mC mf ml mc mL md mi mr mw) s.heap.size) s.heap s.heap [] := va_S.rf
  have hl := lv_entry ([.ref (ad 17)] : List Value) (n := 1) (Nat.le_of_ble_eq_true rfl)
  rw [lg_entry_eq]
  generalize (lg_sl ([.ref (ad 17)] : List Value) ++ List.replicate (1 - (lg_sl ([.ref (ad 17)] : List Value)).length) Slot.unset).toArray = ls at hl ⊢
  have hl : lv_has ls 1 [(0, .ref (ad 17))] := hl
  refine lv_aload_n hx hb dMo_pools_0 rfl (lv_at hl 0 rfl) ?_
  refine lv_iconst (v := 0) hx hb dMo_pools_1 (by first | rfl | decide) ?_
  refine va_put (D := D) (ci := 5) (v := .int 0) (ty := .int) (C := RMo) (T := TMo) (N := 27) hx hb hw pinMo tyMo tyMo_ok nmMo hown hE.1 hP hD hS 0 rfl rfl 0 (by decide) (hw _ wd_184) (fun _ h9 => h9) rfl (by decide +kernel) rfl rfl (Nat.le_of_ble_eq_true rfl) dMo_pools_2 (fun H locs hP hD hS => ?_)
  have hP : va_P D vwCl (wM ad cI cS 0 mn me mo mt mx mp mz mu vn vz vc vv vp ve mK mA mB mC mf ml mc mL md mi mr mw) H := hP
  have hD : va_D _ (wM ad cI cS 0 mn me mo mt mx mp mz mu vn vz vc vv vp ve mK mA mB mC mf ml mc mL md mi mr mw) := hD
  refine lv_aload_n hx hb dMo_pools_5 rfl (lv_at hl 0 rfl) ?_
  refine va_get (D := D) (ci := 5) (v := .int mu) (C := RMo) (T := TMo) (N := 27) hx hb hw pinMo hown hE.1 hP 0 rfl rfl 17 (by decide) (hw _ wd_200) (fun _ h9 => h9) rfl dMo_pools_6 ?_
  have e9 : FMo_pools mu = (mu, 0) := rfl
  exact W.iret (v := mu) hx hb hr (fun t ht hW => ⟨⟨mu, (), rfl, (by show _ = _; rw [e9]), by rw [e9, ht]; exact hP, by rw [e9]; exact hD⟩, hS.F ht⟩) hS.2.2 dMo_pools_9
def FMo_result (xr : Int32) : Int32 × Int32 × Int32 := if 0 ≤ xr then if xr = 0 then (xr, 0, 1) else (xr, 0, 0) else if xr = 0 then (xr, 1, 1) else (xr, 1, 0)
set_option maxHeartbeats 4000000 in
set_option maxRecDepth 100000 in
theorem k_Mo_result (l : Launch) (D : va_G) (ad : Nat → Nat) (cI cS : ClassId) (xr : Int32) (mq : Int32) (mn : Int32) (me : Int32) (mo : Int32) (mt : Int32) (mx : Int32) (mp : Int32) (mz : Int32) (mu : Int32) (vn : Int32) (vz : Int32) (vc : Int32) (vv : Int32) (vp : Int32) (ve : Int32) (mK : Nat → Int32) (mA : Nat → Int32) (mB : Nat → Int32) (mC : Nat → Int32) (mf : Nat → Int32) (ml : Nat → Int32) (mc : Nat → Int32) (mL : Nat → Int32) (md : Nat → Int32) (mi : Nat → Int32) (mr : Nat → Int32) (mw : Nat → Int32) : pq_IP l yMo_result (.code yMo_result cMo_result 2 (some .int) :: pq_ws) { frames := 0, cells := 0, slots := 0, locals := 0 } D cI cS [.ref (ad 17), .int xr] (wM ad cI cS mq mn me mo mt mx mp mz mu vn vz vc vv vp ve mK mA mB mC mf ml mc mL md mi mr mw) ((narrow .boolean (.int ((FMo_result xr).2.1)) = .int ((FMo_result xr).2.1)) ∧ (narrow .boolean (.int ((FMo_result xr).2.2)) = .int ((FMo_result xr).2.2))) ((FMo_result xr).1) (wM ad cI cS mq mn me mo mt mx mp mz mu ((FMo_result xr).2.1) ((FMo_result xr).2.2) vc vv vp ve mK mA mB mC mf ml mc mL md mi mr mw) := by
  intro sz
  refine Met.ofW (cc := cMo_result) (maxL := 2) (ret := (some .int)) (by decide) rfl ?_
  intro p e s m args below meth c s₁ B hml hv
  obtain ⟨rfl, hsz, hP, hD0, hE⟩ := hv
  have hx := B.exec
  have hb := B.bytes
  have hr := B.returns
  have hts := atoms_spec (ws := (.code yMo_result cMo_result 2 (some .int) :: pq_ws : List Cond)) B.pre
  have hw : ∀ w ∈ pq_ws, w.before _ s = true := fun w h => hts w (List.mem_cons_of_mem _ h)
  have hown : s.vm.findClass RMo = some m.cls := findClass_of_methodNamed B.named
  have hlocks := B.notSynchronized
  subst hsz
  have hD := hD0.self (sz := s.heap.size)
  have hA : ∀ q : Nat, s.heap.size ≤ q → va_A (wM ad cI cS mq mn me mo mt mx mp mz mu vn vz vc vv vp ve mK mA mB mC mf ml mc mL md mi mr mw) s.heap.size q := fun q h => Or.inr h
  have hS : va_S (va_A (wM ad cI cS mq mn me mo mt mx mp mz mu vn vz vc vv vp ve mK mA mB mC mf ml mc mL md mi mr mw) s.heap.size) s.heap s.heap [] := va_S.rf
  have hl := lv_entry ([.ref (ad 17), .int xr] : List Value) (n := 2) (Nat.le_of_ble_eq_true rfl)
  rw [lg_entry_eq]
  generalize (lg_sl ([.ref (ad 17), .int xr] : List Value) ++ List.replicate (2 - (lg_sl ([.ref (ad 17), .int xr] : List Value)).length) Slot.unset).toArray = ls at hl ⊢
  have hl : lv_has ls 2 [(0, .ref (ad 17)), (1, .int xr)] := hl
  refine lv_aload_n hx hb dMo_result_0 rfl (lv_at hl 0 rfl) ?_
  refine lv_iload_n hx hb dMo_result_1 rfl (lv_at hl 1 rfl) ?_
  refine lv_if_ge (tgt := 9) hx hb dMo_result_2 (by decide) (fun h1 => ?_) (fun h1 => ?_)
  · refine lv_iconst (v := 0) hx hb dMo_result_9 (by first | rfl | decide) ?_
    refine va_put (D := D) (ci := 5) (v := .int 0) (ty := .boolean) (C := RMo) (T := TMo) (N := 27) hx hb hw pinMo tyMo tyMo_ok nmMo hown hE.1 hP hD hS 0 rfl rfl 21 (by decide) (hw _ wd_201) (fun _ h9 => h9) rfl (by decide +kernel) rfl rfl (Nat.le_of_ble_eq_true rfl) dMo_result_10 (fun H locs hP hD hS => ?_)
    have hP : va_P D vwCl (wM ad cI cS mq mn me mo mt mx mp mz mu 0 vz vc vv vp ve mK mA mB mC mf ml mc mL md mi mr mw) H := hP
    have hD : va_D _ (wM ad cI cS mq mn me mo mt mx mp mz mu 0 vz vc vv vp ve mK mA mB mC mf ml mc mL md mi mr mw) := hD
    refine lv_aload_n hx hb dMo_result_13 rfl (lv_at hl 0 rfl) ?_
    refine lv_iload_n hx hb dMo_result_14 rfl (lv_at hl 1 rfl) ?_
    refine lv_if_ne (tgt := 22) hx hb dMo_result_15 (by decide) (fun h2 => ?_) (fun h2 => ?_)
    · refine lv_iconst (v := 0) hx hb dMo_result_22 (by first | rfl | decide) ?_
      refine va_put (D := D) (ci := 5) (v := .int 0) (ty := .boolean) (C := RMo) (T := TMo) (N := 27) hx hb hw pinMo tyMo tyMo_ok nmMo hown hE.1 hP hD hS 0 rfl rfl 22 (by decide) (hw _ wd_202) (fun _ h9 => h9) rfl (by decide +kernel) rfl rfl (Nat.le_of_ble_eq_true rfl) dMo_result_23 (fun H locs hP hD hS => ?_)
      have hP : va_P D vwCl (wM ad cI cS mq mn me mo mt mx mp mz mu 0 0 vc vv vp ve mK mA mB mC mf ml mc mL md mi mr mw) H := hP
      have hD : va_D _ (wM ad cI cS mq mn me mo mt mx mp mz mu 0 0 vc vv vp ve mK mA mB mC mf ml mc mL md mi mr mw) := hD
      refine lv_iload_n hx hb dMo_result_26 rfl (lv_at hl 1 rfl) ?_
      have e9 : FMo_result xr = (xr, 0, 0) := by simp only [FMo_result, if_pos h1, if_neg h2]
      have p9 : (narrow .boolean (.int (0 : Int32)) = .int (0 : Int32)) ∧ (narrow .boolean (.int (0 : Int32)) = .int (0 : Int32)) := ⟨by first | with_reducible assumption | exact pq_b0 | exact pq_b1 | assumption, by first | with_reducible assumption | exact pq_b0 | exact pq_b1 | assumption⟩
      exact W.iret (v := xr) hx hb hr (fun t ht hW => ⟨⟨xr, (), rfl, ⟨by show _ = _; rw [e9], by rw [e9]; exact p9⟩, by rw [e9, ht]; exact hP, by rw [e9]; exact hD⟩, hS.F ht⟩) hS.2.2 dMo_result_27
    · refine lv_iconst (v := 1) hx hb dMo_result_18 (by first | rfl | decide) ?_
      refine lv_goto (tgt := 23) hx hb dMo_result_19 (by decide) ?_
      refine va_put (D := D) (ci := 5) (v := .int 1) (ty := .boolean) (C := RMo) (T := TMo) (N := 27) hx hb hw pinMo tyMo tyMo_ok nmMo hown hE.1 hP hD hS 0 rfl rfl 22 (by decide) (hw _ wd_202) (fun _ h9 => h9) rfl (by decide +kernel) rfl rfl (Nat.le_of_ble_eq_true rfl) dMo_result_23 (fun H locs hP hD hS => ?_)
      have hP : va_P D vwCl (wM ad cI cS mq mn me mo mt mx mp mz mu 0 1 vc vv vp ve mK mA mB mC mf ml mc mL md mi mr mw) H := hP
      have hD : va_D _ (wM ad cI cS mq mn me mo mt mx mp mz mu 0 1 vc vv vp ve mK mA mB mC mf ml mc mL md mi mr mw) := hD
      refine lv_iload_n hx hb dMo_result_26 rfl (lv_at hl 1 rfl) ?_
      have e9 : FMo_result xr = (xr, 0, 1) := by simp only [FMo_result, if_pos h1, if_pos h2]
      have p9 : (narrow .boolean (.int (0 : Int32)) = .int (0 : Int32)) ∧ (narrow .boolean (.int (1 : Int32)) = .int (1 : Int32)) := ⟨by first | with_reducible assumption | exact pq_b0 | exact pq_b1 | assumption, by first | with_reducible assumption | exact pq_b0 | exact pq_b1 | assumption⟩
      exact W.iret (v := xr) hx hb hr (fun t ht hW => ⟨⟨xr, (), rfl, ⟨by show _ = _; rw [e9], by rw [e9]; exact p9⟩, by rw [e9, ht]; exact hP, by rw [e9]; exact hD⟩, hS.F ht⟩) hS.2.2 dMo_result_27
  · refine lv_iconst (v := 1) hx hb dMo_result_5 (by first | rfl | decide) ?_
    refine lv_goto (tgt := 10) hx hb dMo_result_6 (by decide) ?_
    refine va_put (D := D) (ci := 5) (v := .int 1) (ty := .boolean) (C := RMo) (T := TMo) (N := 27) hx hb hw pinMo tyMo tyMo_ok nmMo hown hE.1 hP hD hS 0 rfl rfl 21 (by decide) (hw _ wd_201) (fun _ h9 => h9) rfl (by decide +kernel) rfl rfl (Nat.le_of_ble_eq_true rfl) dMo_result_10 (fun H locs hP hD hS => ?_)
    have hP : va_P D vwCl (wM ad cI cS mq mn me mo mt mx mp mz mu 1 vz vc vv vp ve mK mA mB mC mf ml mc mL md mi mr mw) H := hP
    have hD : va_D _ (wM ad cI cS mq mn me mo mt mx mp mz mu 1 vz vc vv vp ve mK mA mB mC mf ml mc mL md mi mr mw) := hD
    refine lv_aload_n hx hb dMo_result_13 rfl (lv_at hl 0 rfl) ?_
    refine lv_iload_n hx hb dMo_result_14 rfl (lv_at hl 1 rfl) ?_
    refine lv_if_ne (tgt := 22) hx hb dMo_result_15 (by decide) (fun h3 => ?_) (fun h3 => ?_)
    · refine lv_iconst (v := 0) hx hb dMo_result_22 (by first | rfl | decide) ?_
      refine va_put (D := D) (ci := 5) (v := .int 0) (ty := .boolean) (C := RMo) (T := TMo) (N := 27) hx hb hw pinMo tyMo tyMo_ok nmMo hown hE.1 hP hD hS 0 rfl rfl 22 (by decide) (hw _ wd_202) (fun _ h9 => h9) rfl (by decide +kernel) rfl rfl (Nat.le_of_ble_eq_true rfl) dMo_result_23 (fun H locs hP hD hS => ?_)
      have hP : va_P D vwCl (wM ad cI cS mq mn me mo mt mx mp mz mu 1 0 vc vv vp ve mK mA mB mC mf ml mc mL md mi mr mw) H := hP
      have hD : va_D _ (wM ad cI cS mq mn me mo mt mx mp mz mu 1 0 vc vv vp ve mK mA mB mC mf ml mc mL md mi mr mw) := hD
      refine lv_iload_n hx hb dMo_result_26 rfl (lv_at hl 1 rfl) ?_
      have e9 : FMo_result xr = (xr, 1, 0) := by simp only [FMo_result, if_neg h1, if_neg h3]
      have p9 : (narrow .boolean (.int (1 : Int32)) = .int (1 : Int32)) ∧ (narrow .boolean (.int (0 : Int32)) = .int (0 : Int32)) := ⟨by first | with_reducible assumption | exact pq_b0 | exact pq_b1 | assumption, by first | with_reducible assumption | exact pq_b0 | exact pq_b1 | assumption⟩
      exact W.iret (v := xr) hx hb hr (fun t ht hW => ⟨⟨xr, (), rfl, ⟨by show _ = _; rw [e9], by rw [e9]; exact p9⟩, by rw [e9, ht]; exact hP, by rw [e9]; exact hD⟩, hS.F ht⟩) hS.2.2 dMo_result_27
    · refine lv_iconst (v := 1) hx hb dMo_result_18 (by first | rfl | decide) ?_
      refine lv_goto (tgt := 23) hx hb dMo_result_19 (by decide) ?_
      refine va_put (D := D) (ci := 5) (v := .int 1) (ty := .boolean) (C := RMo) (T := TMo) (N := 27) hx hb hw pinMo tyMo tyMo_ok nmMo hown hE.1 hP hD hS 0 rfl rfl 22 (by decide) (hw _ wd_202) (fun _ h9 => h9) rfl (by decide +kernel) rfl rfl (Nat.le_of_ble_eq_true rfl) dMo_result_23 (fun H locs hP hD hS => ?_)
      have hP : va_P D vwCl (wM ad cI cS mq mn me mo mt mx mp mz mu 1 1 vc vv vp ve mK mA mB mC mf ml mc mL md mi mr mw) H := hP
      have hD : va_D _ (wM ad cI cS mq mn me mo mt mx mp mz mu 1 1 vc vv vp ve mK mA mB mC mf ml mc mL md mi mr mw) := hD
      refine lv_iload_n hx hb dMo_result_26 rfl (lv_at hl 1 rfl) ?_
      have e9 : FMo_result xr = (xr, 1, 1) := by simp only [FMo_result, if_neg h1, if_pos h3]
      have p9 : (narrow .boolean (.int (1 : Int32)) = .int (1 : Int32)) ∧ (narrow .boolean (.int (1 : Int32)) = .int (1 : Int32)) := ⟨by first | with_reducible assumption | exact pq_b0 | exact pq_b1 | assumption, by first | with_reducible assumption | exact pq_b0 | exact pq_b1 | assumption⟩
      exact W.iret (v := xr) hx hb hr (fun t ht hW => ⟨⟨xr, (), rfl, ⟨by show _ = _; rw [e9], by rw [e9]; exact p9⟩, by rw [e9, ht]; exact hP, by rw [e9]; exact hD⟩, hS.F ht⟩) hS.2.2 dMo_result_27
def FMo_sum (xx : Int32) (xy : Int32) : Int32 × Int32 × Int32 × Int32 × Int32 := if (lg_cmp ((FMo_plain xx) + (FMo_plain xy)) 4294967295) ≤ 0 then if (lg_cmp (xx.toInt64 + xy.toInt64) ((xx + xy).toInt64)) = 0 then ((FMo_result (xx + xy)).1, (FMo_result (xx + xy)).2.1, (FMo_result (xx + xy)).2.2, 0, 0) else ((FMo_result (xx + xy)).1, (FMo_result (xx + xy)).2.1, (FMo_result (xx + xy)).2.2, 0, 1) else if (lg_cmp (xx.toInt64 + xy.toInt64) ((xx + xy).toInt64)) = 0 then ((FMo_result (xx + xy)).1, (FMo_result (xx + xy)).2.1, (FMo_result (xx + xy)).2.2, 1, 0) else ((FMo_result (xx + xy)).1, (FMo_result (xx + xy)).2.1, (FMo_result (xx + xy)).2.2, 1, 1)
set_option maxHeartbeats 4000000 in
set_option maxRecDepth 100000 in
theorem k_Mo_sum (l : Launch) (D : va_G) (ad : Nat → Nat) (cI cS : ClassId) (xx : Int32) (xy : Int32) (mq : Int32) (mn : Int32) (me : Int32) (mo : Int32) (mt : Int32) (mx : Int32) (mp : Int32) (mz : Int32) (mu : Int32) (vn : Int32) (vz : Int32) (vc : Int32) (vv : Int32) (vp : Int32) (ve : Int32) (mK : Nat → Int32) (mA : Nat → Int32) (mB : Nat → Int32) (mC : Nat → Int32) (mf : Nat → Int32) (ml : Nat → Int32) (mc : Nat → Int32) (mL : Nat → Int32) (md : Nat → Int32) (mi : Nat → Int32) (mr : Nat → Int32) (mw : Nat → Int32) : pq_IP l yMo_sum (.code yMo_sum cMo_sum 3 (some .int) :: pq_ws) { frames := 1, cells := 0, slots := 0, locals := 21 } D cI cS [.ref (ad 17), .int xx, .int xy] (wM ad cI cS mq mn me mo mt mx mp mz mu vn vz vc vv vp ve mK mA mB mC mf ml mc mL md mi mr mw) ((narrow .boolean (.int ((FMo_sum xx xy).2.1)) = .int ((FMo_sum xx xy).2.1)) ∧ (narrow .boolean (.int ((FMo_sum xx xy).2.2.1)) = .int ((FMo_sum xx xy).2.2.1)) ∧ (narrow .boolean (.int ((FMo_sum xx xy).2.2.2.1)) = .int ((FMo_sum xx xy).2.2.2.1))) ((FMo_sum xx xy).1) (wM ad cI cS mq mn me mo mt mx mp mz mu ((FMo_sum xx xy).2.1) ((FMo_sum xx xy).2.2.1) ((FMo_sum xx xy).2.2.2.1) ((FMo_sum xx xy).2.2.2.2) vp ve mK mA mB mC mf ml mc mL md mi mr mw) := by
  intro sz
  refine Met.ofW (cc := cMo_sum) (maxL := 3) (ret := (some .int)) (by decide) rfl ?_
  intro p e s m args below meth c s₁ B hml hv
  obtain ⟨rfl, hsz, hP, hD0, hE⟩ := hv
  have hx := B.exec
  have hb := B.bytes
  have hr := B.returns
  have hts := atoms_spec (ws := (.code yMo_sum cMo_sum 3 (some .int) :: pq_ws : List Cond)) B.pre
  have hw : ∀ w ∈ pq_ws, w.before _ s = true := fun w h => hts w (List.mem_cons_of_mem _ h)
  have hown : s.vm.findClass RMo = some m.cls := findClass_of_methodNamed B.named
  have hlocks := B.notSynchronized
  subst hsz
  have hD := hD0.self (sz := s.heap.size)
  have hA : ∀ q : Nat, s.heap.size ≤ q → va_A (wM ad cI cS mq mn me mo mt mx mp mz mu vn vz vc vv vp ve mK mA mB mC mf ml mc mL md mi mr mw) s.heap.size q := fun q h => Or.inr h
  have hS : va_S (va_A (wM ad cI cS mq mn me mo mt mx mp mz mu vn vz vc vv vp ve mK mA mB mC mf ml mc mL md mi mr mw) s.heap.size) s.heap s.heap [] := va_S.rf
  have hl := lv_entry ([.ref (ad 17), .int xx, .int xy] : List Value) (n := 3) (Nat.le_of_ble_eq_true rfl)
  rw [lg_entry_eq]
  generalize (lg_sl ([.ref (ad 17), .int xx, .int xy] : List Value) ++ List.replicate (3 - (lg_sl ([.ref (ad 17), .int xx, .int xy] : List Value)).length) Slot.unset).toArray = ls at hl ⊢
  have hl : lv_has ls 3 [(0, .ref (ad 17)), (1, .int xx), (2, .int xy)] := hl
  refine lv_aload_n hx hb dMo_sum_0 rfl (lv_at hl 0 rfl) ?_
  refine lv_iload_n hx hb dMo_sum_1 rfl (lv_at hl 1 rfl) ?_
  refine pq_calll (fr := (FMo_plain xx)) (wc := (wN ad cI cS)) (wr := ([0, 1, 2, 3, 4, 5, 6, 7, 8, 9, 10, 11, 12] : List Nat).filterMap (fun i => (wM ad cI cS mq mn me mo mt mx mp mz mu vn vz vc vv vp ve mK mA mB mC mf ml mc mL md mi mr mw)[i]?)) hP hD hS hA [] [0, 1, 2, 3, 4, 5, 6, 7, 8, 9, 10, 11, 12] rfl rfl (by decide) (by decide) (va_runS (own := RMo) (As := [.int xx]) (rest := [.ref (ad 17)]) ⟨hx, hb, hml, hown, hw⟩ (k_Mo_plain l D ad cI cS xx s.heap.size) ⟨pq_cwB 1 hw wd_204 wd_186 wd_203 rfl rfl (by decide +kernel) ⟨Nat.le_of_ble_eq_true rfl, Nat.le_of_ble_eq_true rfl⟩, hw _ wd_205⟩ (pq_preS hE (hP.sub [] rfl) (hD.sub [] (by decide) rfl)) rfl rfl hl.1 rfl (lv_room (Nat.le_of_ble_eq_true rfl)) dMo_sum_2 ⟨Nat.zero_le _, Nat.zero_le _⟩) (fun H locs hP hD hS => ?_)
  have hP : va_P D vwCl (wM ad cI cS mq mn me mo mt mx mp mz mu vn vz vc vv vp ve mK mA mB mC mf ml mc mL md mi mr mw) H := hP.sub [0, 1, 2, 3, 4, 5, 6, 7, 8, 9, 10, 11, 12] rfl
  have hD : va_D _ (wM ad cI cS mq mn me mo mt mx mp mz mu vn vz vc vv vp ve mK mA mB mC mf ml mc mL md mi mr mw) := hD.sub [0, 1, 2, 3, 4, 5, 6, 7, 8, 9, 10, 11, 12] (by decide) rfl
  refine lv_iload_n hx hb dMo_sum_5 rfl (lv_at hl 2 rfl) ?_
  refine pq_calll (fr := (FMo_plain xy)) (wc := (wN ad cI cS)) (wr := ([0, 1, 2, 3, 4, 5, 6, 7, 8, 9, 10, 11, 12] : List Nat).filterMap (fun i => (wM ad cI cS mq mn me mo mt mx mp mz mu vn vz vc vv vp ve mK mA mB mC mf ml mc mL md mi mr mw)[i]?)) hP hD hS hA [] [0, 1, 2, 3, 4, 5, 6, 7, 8, 9, 10, 11, 12] rfl rfl (by decide) (by decide) (va_runS (own := RMo) (As := [.int xy]) (rest := [.long (FMo_plain xx), .ref (ad 17)]) ⟨hx, hb, hml, hown, hw⟩ (k_Mo_plain l D ad cI cS xy H.size) ⟨pq_cwB 1 hw wd_204 wd_186 wd_203 rfl rfl (by decide +kernel) ⟨Nat.le_of_ble_eq_true rfl, Nat.le_of_ble_eq_true rfl⟩, hw _ wd_205⟩ (pq_preS hE (hP.sub [] rfl) (hD.sub [] (by decide) rfl)) rfl rfl hl.1 rfl (lv_room (Nat.le_of_ble_eq_true rfl)) dMo_sum_6 ⟨Nat.zero_le _, Nat.zero_le _⟩) (fun H locs hP hD hS => ?_)
  have hP : va_P D vwCl (wM ad cI cS mq mn me mo mt mx mp mz mu vn vz vc vv vp ve mK mA mB mC mf ml mc mL md mi mr mw) H := hP.sub [0, 1, 2, 3, 4, 5, 6, 7, 8, 9, 10, 11, 12] rfl
  have hD : va_D _ (wM ad cI cS mq mn me mo mt mx mp mz mu vn vz vc vv vp ve mK mA mB mC mf ml mc mL md mi mr mw) := hD.sub [0, 1, 2, 3, 4, 5, 6, 7, 8, 9, 10, 11, 12] (by decide) rfl
  refine lv_ladd hx hb dMo_sum_9 ?_
  refine lv_ldc2 hx hb hown (hw _ wd_195) dMo_sum_10 ?_
  refine W.lcmp hx hb dMo_sum_13 ?_
  refine lv_if_le (tgt := 21) hx hb dMo_sum_14 (by decide) (fun h1 => ?_) (fun h1 => ?_)
  · refine lv_iconst (v := 0) hx hb dMo_sum_21 (by first | rfl | decide) ?_
    refine va_put (D := D) (ci := 5) (v := .int 0) (ty := .boolean) (C := RMo) (T := TMo) (N := 27) hx hb hw pinMo tyMo tyMo_ok nmMo hown hE.1 hP hD hS 0 rfl rfl 23 (by decide) (hw _ wd_206) (fun _ h9 => h9) rfl (by decide +kernel) rfl rfl (Nat.le_of_ble_eq_true rfl) dMo_sum_22 (fun H locs hP hD hS => ?_)
    have hP : va_P D vwCl (wM ad cI cS mq mn me mo mt mx mp mz mu vn vz 0 vv vp ve mK mA mB mC mf ml mc mL md mi mr mw) H := hP
    have hD : va_D _ (wM ad cI cS mq mn me mo mt mx mp mz mu vn vz 0 vv vp ve mK mA mB mC mf ml mc mL md mi mr mw) := hD
    refine lv_aload_n hx hb dMo_sum_25 rfl (lv_at hl 0 rfl) ?_
    refine lv_iload_n hx hb dMo_sum_26 rfl (lv_at hl 1 rfl) ?_
    refine lv_i2l hx hb dMo_sum_27 rfl ?_
    refine lv_iload_n hx hb dMo_sum_28 rfl (lv_at hl 2 rfl) ?_
    refine lv_i2l hx hb dMo_sum_29 rfl ?_
    refine lv_ladd hx hb dMo_sum_30 ?_
    refine lv_iload_n hx hb dMo_sum_31 rfl (lv_at hl 1 rfl) ?_
    refine lv_iload_n hx hb dMo_sum_32 rfl (lv_at hl 2 rfl) ?_
    refine lv_iadd hx hb dMo_sum_33 ?_
    refine lv_i2l hx hb dMo_sum_34 rfl ?_
    refine W.lcmp hx hb dMo_sum_35 ?_
    refine lv_if_eq (tgt := 43) hx hb dMo_sum_36 (by decide) (fun h2 => ?_) (fun h2 => ?_)
    · refine lv_iconst (v := 0) hx hb dMo_sum_43 (by first | rfl | decide) ?_
      refine va_put (D := D) (ci := 5) (v := .int 0) (ty := .boolean) (C := RMo) (T := TMo) (N := 27) hx hb hw pinMo tyMo tyMo_ok nmMo hown hE.1 hP hD hS 0 rfl rfl 24 (by decide) (hw _ wd_207) (fun _ h9 => h9) rfl (by decide +kernel) rfl rfl (Nat.le_of_ble_eq_true rfl) dMo_sum_44 (fun H locs hP hD hS => ?_)
      have hP : va_P D vwCl (wM ad cI cS mq mn me mo mt mx mp mz mu vn vz 0 0 vp ve mK mA mB mC mf ml mc mL md mi mr mw) H := hP
      have hD : va_D _ (wM ad cI cS mq mn me mo mt mx mp mz mu vn vz 0 0 vp ve mK mA mB mC mf ml mc mL md mi mr mw) := hD
      refine lv_aload_n hx hb dMo_sum_47 rfl (lv_at hl 0 rfl) ?_
      refine lv_iload_n hx hb dMo_sum_48 rfl (lv_at hl 1 rfl) ?_
      refine lv_iload_n hx hb dMo_sum_49 rfl (lv_at hl 2 rfl) ?_
      refine lv_iadd hx hb dMo_sum_50 ?_
      obtain ⟨g1, hg1⟩ : ∃ g9, FMo_result (xx + xy) = g9 := ⟨_, rfl⟩
      have cg1 := k_Mo_result l D ad cI cS (xx + xy) mq mn me mo mt mx mp mz mu vn vz 0 0 vp ve mK mA mB mC mf ml mc mL md mi mr mw
      rw [hg1] at cg1
      refine pq_callip (fr := g1.1) (wc := (wM ad cI cS mq mn me mo mt mx mp mz mu vn vz 0 0 vp ve mK mA mB mC mf ml mc mL md mi mr mw)) (wr := ([] : List Nat).filterMap (fun i => (wM ad cI cS mq mn me mo mt mx mp mz mu vn vz 0 0 vp ve mK mA mB mC mf ml mc mL md mi mr mw)[i]?)) hP hD hS hA [0, 1, 2, 3, 4, 5, 6, 7, 8, 9, 10, 11, 12] [] rfl rfl (by decide) (by decide) (va_runV (own := RMo) (C := RMo) (As := [.int (xx + xy)]) (rest := []) ⟨hx, hb, hml, hown, hw⟩ (cg1 H.size) ⟨pq_cwB 1 hw wd_209 wd_186 wd_208 rfl rfl (by decide +kernel) ⟨Nat.le_of_ble_eq_true rfl, Nat.le_of_ble_eq_true rfl⟩, hw _ wd_210, hw _ wd_211⟩ (pq_preV (ci := 5) (C := RMo) (T := TMo) (N := 27) hE (hP.sub [0, 1, 2, 3, 4, 5, 6, 7, 8, 9, 10, 11, 12] rfl) (hD.sub [0, 1, 2, 3, 4, 5, 6, 7, 8, 9, 10, 11, 12] (by decide) rfl) rfl 0 rfl) rfl rfl hl.1 rfl (lv_room (Nat.le_of_ble_eq_true rfl)) dMo_sum_51 ⟨Nat.zero_le _, Nat.zero_le _⟩) (fun hq9 H locs hP hD hS => ?_)
      obtain ⟨bn, bz⟩ := hq9
      have hP : va_P D vwCl (wM ad cI cS mq mn me mo mt mx mp mz mu g1.2.1 g1.2.2 0 0 vp ve mK mA mB mC mf ml mc mL md mi mr mw) H := hP.sub [0, 1, 2, 3, 4, 5, 6, 7, 8, 9, 10, 11, 12] rfl
      have hD : va_D _ (wM ad cI cS mq mn me mo mt mx mp mz mu g1.2.1 g1.2.2 0 0 vp ve mK mA mB mC mf ml mc mL md mi mr mw) := hD.sub [0, 1, 2, 3, 4, 5, 6, 7, 8, 9, 10, 11, 12] (by decide) rfl
      have e9 : FMo_sum xx xy = (g1.1, g1.2.1, g1.2.2, 0, 0) := by simp only [FMo_sum, hg1, if_pos h1, if_pos h2]
      have p9 : (narrow .boolean (.int g1.2.1) = .int g1.2.1) ∧ (narrow .boolean (.int g1.2.2) = .int g1.2.2) ∧ (narrow .boolean (.int (0 : Int32)) = .int (0 : Int32)) := ⟨by first | with_reducible assumption | exact pq_b0 | exact pq_b1 | assumption, by first | with_reducible assumption | exact pq_b0 | exact pq_b1 | assumption, by first | with_reducible assumption | exact pq_b0 | exact pq_b1 | assumption⟩
      exact W.iret (v := g1.1) hx hb hr (fun t ht hW => ⟨⟨g1.1, (), rfl, ⟨by show _ = _; rw [e9], by rw [e9]; exact p9⟩, by rw [e9, ht]; exact hP, by rw [e9]; exact hD⟩, hS.F ht⟩) hS.2.2 dMo_sum_54
    · refine lv_iconst (v := 1) hx hb dMo_sum_39 (by first | rfl | decide) ?_
      refine lv_goto (tgt := 44) hx hb dMo_sum_40 (by decide) ?_
      refine va_put (D := D) (ci := 5) (v := .int 1) (ty := .boolean) (C := RMo) (T := TMo) (N := 27) hx hb hw pinMo tyMo tyMo_ok nmMo hown hE.1 hP hD hS 0 rfl rfl 24 (by decide) (hw _ wd_207) (fun _ h9 => h9) rfl (by decide +kernel) rfl rfl (Nat.le_of_ble_eq_true rfl) dMo_sum_44 (fun H locs hP hD hS => ?_)
      have hP : va_P D vwCl (wM ad cI cS mq mn me mo mt mx mp mz mu vn vz 0 1 vp ve mK mA mB mC mf ml mc mL md mi mr mw) H := hP
      have hD : va_D _ (wM ad cI cS mq mn me mo mt mx mp mz mu vn vz 0 1 vp ve mK mA mB mC mf ml mc mL md mi mr mw) := hD
      refine lv_aload_n hx hb dMo_sum_47 rfl (lv_at hl 0 rfl) ?_
      refine lv_iload_n hx hb dMo_sum_48 rfl (lv_at hl 1 rfl) ?_
      refine lv_iload_n hx hb dMo_sum_49 rfl (lv_at hl 2 rfl) ?_
      refine lv_iadd hx hb dMo_sum_50 ?_
      obtain ⟨g2, hg2⟩ : ∃ g9, FMo_result (xx + xy) = g9 := ⟨_, rfl⟩
      have cg2 := k_Mo_result l D ad cI cS (xx + xy) mq mn me mo mt mx mp mz mu vn vz 0 1 vp ve mK mA mB mC mf ml mc mL md mi mr mw
      rw [hg2] at cg2
      refine pq_callip (fr := g2.1) (wc := (wM ad cI cS mq mn me mo mt mx mp mz mu vn vz 0 1 vp ve mK mA mB mC mf ml mc mL md mi mr mw)) (wr := ([] : List Nat).filterMap (fun i => (wM ad cI cS mq mn me mo mt mx mp mz mu vn vz 0 1 vp ve mK mA mB mC mf ml mc mL md mi mr mw)[i]?)) hP hD hS hA [0, 1, 2, 3, 4, 5, 6, 7, 8, 9, 10, 11, 12] [] rfl rfl (by decide) (by decide) (va_runV (own := RMo) (C := RMo) (As := [.int (xx + xy)]) (rest := []) ⟨hx, hb, hml, hown, hw⟩ (cg2 H.size) ⟨pq_cwB 1 hw wd_209 wd_186 wd_208 rfl rfl (by decide +kernel) ⟨Nat.le_of_ble_eq_true rfl, Nat.le_of_ble_eq_true rfl⟩, hw _ wd_210, hw _ wd_211⟩ (pq_preV (ci := 5) (C := RMo) (T := TMo) (N := 27) hE (hP.sub [0, 1, 2, 3, 4, 5, 6, 7, 8, 9, 10, 11, 12] rfl) (hD.sub [0, 1, 2, 3, 4, 5, 6, 7, 8, 9, 10, 11, 12] (by decide) rfl) rfl 0 rfl) rfl rfl hl.1 rfl (lv_room (Nat.le_of_ble_eq_true rfl)) dMo_sum_51 ⟨Nat.zero_le _, Nat.zero_le _⟩) (fun hq9 H locs hP hD hS => ?_)
      obtain ⟨bn, bz⟩ := hq9
      have hP : va_P D vwCl (wM ad cI cS mq mn me mo mt mx mp mz mu g2.2.1 g2.2.2 0 1 vp ve mK mA mB mC mf ml mc mL md mi mr mw) H := hP.sub [0, 1, 2, 3, 4, 5, 6, 7, 8, 9, 10, 11, 12] rfl
      have hD : va_D _ (wM ad cI cS mq mn me mo mt mx mp mz mu g2.2.1 g2.2.2 0 1 vp ve mK mA mB mC mf ml mc mL md mi mr mw) := hD.sub [0, 1, 2, 3, 4, 5, 6, 7, 8, 9, 10, 11, 12] (by decide) rfl
      have e9 : FMo_sum xx xy = (g2.1, g2.2.1, g2.2.2, 0, 1) := by simp only [FMo_sum, hg2, if_pos h1, if_neg h2]
      have p9 : (narrow .boolean (.int g2.2.1) = .int g2.2.1) ∧ (narrow .boolean (.int g2.2.2) = .int g2.2.2) ∧ (narrow .boolean (.int (0 : Int32)) = .int (0 : Int32)) := ⟨by first | with_reducible assumption | exact pq_b0 | exact pq_b1 | assumption, by first | with_reducible assumption | exact pq_b0 | exact pq_b1 | assumption, by first | with_reducible assumption | exact pq_b0 | exact pq_b1 | assumption⟩
      exact W.iret (v := g2.1) hx hb hr (fun t ht hW => ⟨⟨g2.1, (), rfl, ⟨by show _ = _; rw [e9], by rw [e9]; exact p9⟩, by rw [e9, ht]; exact hP, by rw [e9]; exact hD⟩, hS.F ht⟩) hS.2.2 dMo_sum_54
  · refine lv_iconst (v := 1) hx hb dMo_sum_17 (by first | rfl | decide) ?_
    refine lv_goto (tgt := 22) hx hb dMo_sum_18 (by decide) ?_
    refine va_put (D := D) (ci := 5) (v := .int 1) (ty := .boolean) (C := RMo) (T := TMo) (N := 27) hx hb hw pinMo tyMo tyMo_ok nmMo hown hE.1 hP hD hS 0 rfl rfl 23 (by decide) (hw _ wd_206) (fun _ h9 => h9) rfl (by decide +kernel) rfl rfl (Nat.le_of_ble_eq_true rfl) dMo_sum_22 (fun H locs hP hD hS => ?_)
    have hP : va_P D vwCl (wM ad cI cS mq mn me mo mt mx mp mz mu vn vz 1 vv vp ve mK mA mB mC mf ml mc mL md mi mr mw) H := hP
    have hD : va_D _ (wM ad cI cS mq mn me mo mt mx mp mz mu vn vz 1 vv vp ve mK mA mB mC mf ml mc mL md mi mr mw) := hD
    refine lv_aload_n hx hb dMo_sum_25 rfl (lv_at hl 0 rfl) ?_
    refine lv_iload_n hx hb dMo_sum_26 rfl (lv_at hl 1 rfl) ?_
    refine lv_i2l hx hb dMo_sum_27 rfl ?_
    refine lv_iload_n hx hb dMo_sum_28 rfl (lv_at hl 2 rfl) ?_
    refine lv_i2l hx hb dMo_sum_29 rfl ?_
    refine lv_ladd hx hb dMo_sum_30 ?_
    refine lv_iload_n hx hb dMo_sum_31 rfl (lv_at hl 1 rfl) ?_
    refine lv_iload_n hx hb dMo_sum_32 rfl (lv_at hl 2 rfl) ?_
    refine lv_iadd hx hb dMo_sum_33 ?_
    refine lv_i2l hx hb dMo_sum_34 rfl ?_
    refine W.lcmp hx hb dMo_sum_35 ?_
    refine lv_if_eq (tgt := 43) hx hb dMo_sum_36 (by decide) (fun h3 => ?_) (fun h3 => ?_)
    · refine lv_iconst (v := 0) hx hb dMo_sum_43 (by first | rfl | decide) ?_
      refine va_put (D := D) (ci := 5) (v := .int 0) (ty := .boolean) (C := RMo) (T := TMo) (N := 27) hx hb hw pinMo tyMo tyMo_ok nmMo hown hE.1 hP hD hS 0 rfl rfl 24 (by decide) (hw _ wd_207) (fun _ h9 => h9) rfl (by decide +kernel) rfl rfl (Nat.le_of_ble_eq_true rfl) dMo_sum_44 (fun H locs hP hD hS => ?_)
      have hP : va_P D vwCl (wM ad cI cS mq mn me mo mt mx mp mz mu vn vz 1 0 vp ve mK mA mB mC mf ml mc mL md mi mr mw) H := hP
      have hD : va_D _ (wM ad cI cS mq mn me mo mt mx mp mz mu vn vz 1 0 vp ve mK mA mB mC mf ml mc mL md mi mr mw) := hD
      refine lv_aload_n hx hb dMo_sum_47 rfl (lv_at hl 0 rfl) ?_
      refine lv_iload_n hx hb dMo_sum_48 rfl (lv_at hl 1 rfl) ?_
      refine lv_iload_n hx hb dMo_sum_49 rfl (lv_at hl 2 rfl) ?_
      refine lv_iadd hx hb dMo_sum_50 ?_
      obtain ⟨g3, hg3⟩ : ∃ g9, FMo_result (xx + xy) = g9 := ⟨_, rfl⟩
      have cg3 := k_Mo_result l D ad cI cS (xx + xy) mq mn me mo mt mx mp mz mu vn vz 1 0 vp ve mK mA mB mC mf ml mc mL md mi mr mw
      rw [hg3] at cg3
      refine pq_callip (fr := g3.1) (wc := (wM ad cI cS mq mn me mo mt mx mp mz mu vn vz 1 0 vp ve mK mA mB mC mf ml mc mL md mi mr mw)) (wr := ([] : List Nat).filterMap (fun i => (wM ad cI cS mq mn me mo mt mx mp mz mu vn vz 1 0 vp ve mK mA mB mC mf ml mc mL md mi mr mw)[i]?)) hP hD hS hA [0, 1, 2, 3, 4, 5, 6, 7, 8, 9, 10, 11, 12] [] rfl rfl (by decide) (by decide) (va_runV (own := RMo) (C := RMo) (As := [.int (xx + xy)]) (rest := []) ⟨hx, hb, hml, hown, hw⟩ (cg3 H.size) ⟨pq_cwB 1 hw wd_209 wd_186 wd_208 rfl rfl (by decide +kernel) ⟨Nat.le_of_ble_eq_true rfl, Nat.le_of_ble_eq_true rfl⟩, hw _ wd_210, hw _ wd_211⟩ (pq_preV (ci := 5) (C := RMo) (T := TMo) (N := 27) hE (hP.sub [0, 1, 2, 3, 4, 5, 6, 7, 8, 9, 10, 11, 12] rfl) (hD.sub [0, 1, 2, 3, 4, 5, 6, 7, 8, 9, 10, 11, 12] (by decide) rfl) rfl 0 rfl) rfl rfl hl.1 rfl (lv_room (Nat.le_of_ble_eq_true rfl)) dMo_sum_51 ⟨Nat.zero_le _, Nat.zero_le _⟩) (fun hq9 H locs hP hD hS => ?_)
      obtain ⟨bn, bz⟩ := hq9
      have hP : va_P D vwCl (wM ad cI cS mq mn me mo mt mx mp mz mu g3.2.1 g3.2.2 1 0 vp ve mK mA mB mC mf ml mc mL md mi mr mw) H := hP.sub [0, 1, 2, 3, 4, 5, 6, 7, 8, 9, 10, 11, 12] rfl
      have hD : va_D _ (wM ad cI cS mq mn me mo mt mx mp mz mu g3.2.1 g3.2.2 1 0 vp ve mK mA mB mC mf ml mc mL md mi mr mw) := hD.sub [0, 1, 2, 3, 4, 5, 6, 7, 8, 9, 10, 11, 12] (by decide) rfl
      have e9 : FMo_sum xx xy = (g3.1, g3.2.1, g3.2.2, 1, 0) := by simp only [FMo_sum, hg3, if_neg h1, if_pos h3]
      have p9 : (narrow .boolean (.int g3.2.1) = .int g3.2.1) ∧ (narrow .boolean (.int g3.2.2) = .int g3.2.2) ∧ (narrow .boolean (.int (1 : Int32)) = .int (1 : Int32)) := ⟨by first | with_reducible assumption | exact pq_b0 | exact pq_b1 | assumption, by first | with_reducible assumption | exact pq_b0 | exact pq_b1 | assumption, by first | with_reducible assumption | exact pq_b0 | exact pq_b1 | assumption⟩
      exact W.iret (v := g3.1) hx hb hr (fun t ht hW => ⟨⟨g3.1, (), rfl, ⟨by show _ = _; rw [e9], by rw [e9]; exact p9⟩, by rw [e9, ht]; exact hP, by rw [e9]; exact hD⟩, hS.F ht⟩) hS.2.2 dMo_sum_54
    · refine lv_iconst (v := 1) hx hb dMo_sum_39 (by first | rfl | decide) ?_
      refine lv_goto (tgt := 44) hx hb dMo_sum_40 (by decide) ?_
      refine va_put (D := D) (ci := 5) (v := .int 1) (ty := .boolean) (C := RMo) (T := TMo) (N := 27) hx hb hw pinMo tyMo tyMo_ok nmMo hown hE.1 hP hD hS 0 rfl rfl 24 (by decide) (hw _ wd_207) (fun _ h9 => h9) rfl (by decide +kernel) rfl rfl (Nat.le_of_ble_eq_true rfl) dMo_sum_44 (fun H locs hP hD hS => ?_)
      have hP : va_P D vwCl (wM ad cI cS mq mn me mo mt mx mp mz mu vn vz 1 1 vp ve mK mA mB mC mf ml mc mL md mi mr mw) H := hP
      have hD : va_D _ (wM ad cI cS mq mn me mo mt mx mp mz mu vn vz 1 1 vp ve mK mA mB mC mf ml mc mL md mi mr mw) := hD
      refine lv_aload_n hx hb dMo_sum_47 rfl (lv_at hl 0 rfl) ?_
      refine lv_iload_n hx hb dMo_sum_48 rfl (lv_at hl 1 rfl) ?_
      refine lv_iload_n hx hb dMo_sum_49 rfl (lv_at hl 2 rfl) ?_
      refine lv_iadd hx hb dMo_sum_50 ?_
      obtain ⟨g4, hg4⟩ : ∃ g9, FMo_result (xx + xy) = g9 := ⟨_, rfl⟩
      have cg4 := k_Mo_result l D ad cI cS (xx + xy) mq mn me mo mt mx mp mz mu vn vz 1 1 vp ve mK mA mB mC mf ml mc mL md mi mr mw
      rw [hg4] at cg4
      refine pq_callip (fr := g4.1) (wc := (wM ad cI cS mq mn me mo mt mx mp mz mu vn vz 1 1 vp ve mK mA mB mC mf ml mc mL md mi mr mw)) (wr := ([] : List Nat).filterMap (fun i => (wM ad cI cS mq mn me mo mt mx mp mz mu vn vz 1 1 vp ve mK mA mB mC mf ml mc mL md mi mr mw)[i]?)) hP hD hS hA [0, 1, 2, 3, 4, 5, 6, 7, 8, 9, 10, 11, 12] [] rfl rfl (by decide) (by decide) (va_runV (own := RMo) (C := RMo) (As := [.int (xx + xy)]) (rest := []) ⟨hx, hb, hml, hown, hw⟩ (cg4 H.size) ⟨pq_cwB 1 hw wd_209 wd_186 wd_208 rfl rfl (by decide +kernel) ⟨Nat.le_of_ble_eq_true rfl, Nat.le_of_ble_eq_true rfl⟩, hw _ wd_210, hw _ wd_211⟩ (pq_preV (ci := 5) (C := RMo) (T := TMo) (N := 27) hE (hP.sub [0, 1, 2, 3, 4, 5, 6, 7, 8, 9, 10, 11, 12] rfl) (hD.sub [0, 1, 2, 3, 4, 5, 6, 7, 8, 9, 10, 11, 12] (by decide) rfl) rfl 0 rfl) rfl rfl hl.1 rfl (lv_room (Nat.le_of_ble_eq_true rfl)) dMo_sum_51 ⟨Nat.zero_le _, Nat.zero_le _⟩) (fun hq9 H locs hP hD hS => ?_)
      obtain ⟨bn, bz⟩ := hq9
      have hP : va_P D vwCl (wM ad cI cS mq mn me mo mt mx mp mz mu g4.2.1 g4.2.2 1 1 vp ve mK mA mB mC mf ml mc mL md mi mr mw) H := hP.sub [0, 1, 2, 3, 4, 5, 6, 7, 8, 9, 10, 11, 12] rfl
      have hD : va_D _ (wM ad cI cS mq mn me mo mt mx mp mz mu g4.2.1 g4.2.2 1 1 vp ve mK mA mB mC mf ml mc mL md mi mr mw) := hD.sub [0, 1, 2, 3, 4, 5, 6, 7, 8, 9, 10, 11, 12] (by decide) rfl
      have e9 : FMo_sum xx xy = (g4.1, g4.2.1, g4.2.2, 1, 1) := by simp only [FMo_sum, hg4, if_neg h1, if_neg h3]
      have p9 : (narrow .boolean (.int g4.2.1) = .int g4.2.1) ∧ (narrow .boolean (.int g4.2.2) = .int g4.2.2) ∧ (narrow .boolean (.int (1 : Int32)) = .int (1 : Int32)) := ⟨by first | with_reducible assumption | exact pq_b0 | exact pq_b1 | assumption, by first | with_reducible assumption | exact pq_b0 | exact pq_b1 | assumption, by first | with_reducible assumption | exact pq_b0 | exact pq_b1 | assumption⟩
      exact W.iret (v := g4.1) hx hb hr (fun t ht hW => ⟨⟨g4.1, (), rfl, ⟨by show _ = _; rw [e9], by rw [e9]; exact p9⟩, by rw [e9, ht]; exact hP, by rw [e9]; exact hD⟩, hS.F ht⟩) hS.2.2 dMo_sum_54
def FMo_difference (xx : Int32) (xy : Int32) : Int32 × Int32 × Int32 × Int32 × Int32 := if (lg_cmp (FMo_plain xx) (FMo_plain xy)) < 0 then if (lg_cmp (xx.toInt64 - xy.toInt64) ((xx - xy).toInt64)) = 0 then ((FMo_result (xx - xy)).1, (FMo_result (xx - xy)).2.1, (FMo_result (xx - xy)).2.2, 0, 0) else ((FMo_result (xx - xy)).1, (FMo_result (xx - xy)).2.1, (FMo_result (xx - xy)).2.2, 0, 1) else if (lg_cmp (xx.toInt64 - xy.toInt64) ((xx - xy).toInt64)) = 0 then ((FMo_result (xx - xy)).1, (FMo_result (xx - xy)).2.1, (FMo_result (xx - xy)).2.2, 1, 0) else ((FMo_result (xx - xy)).1, (FMo_result (xx - xy)).2.1, (FMo_result (xx - xy)).2.2, 1, 1)
set_option maxHeartbeats 4000000 in
set_option maxRecDepth 100000 in
theorem k_Mo_difference (l : Launch) (D : va_G) (ad : Nat → Nat) (cI cS : ClassId) (xx : Int32) (xy : Int32) (mq : Int32) (mn : Int32) (me : Int32) (mo : Int32) (mt : Int32) (mx : Int32) (mp : Int32) (mz : Int32) (mu : Int32) (vn : Int32) (vz : Int32) (vc : Int32) (vv : Int32) (vp : Int32) (ve : Int32) (mK : Nat → Int32) (mA : Nat → Int32) (mB : Nat → Int32) (mC : Nat → Int32) (mf : Nat → Int32) (ml : Nat → Int32) (mc : Nat → Int32) (mL : Nat → Int32) (md : Nat → Int32) (mi : Nat → Int32) (mr : Nat → Int32) (mw : Nat → Int32) : pq_IP l yMo_difference (.code yMo_difference cMo_difference 3 (some .int) :: pq_ws) { frames := 1, cells := 0, slots := 0, locals := 21 } D cI cS [.ref (ad 17), .int xx, .int xy] (wM ad cI cS mq mn me mo mt mx mp mz mu vn vz vc vv vp ve mK mA mB mC mf ml mc mL md mi mr mw) ((narrow .boolean (.int ((FMo_difference xx xy).2.1)) = .int ((FMo_difference xx xy).2.1)) ∧ (narrow .boolean (.int ((FMo_difference xx xy).2.2.1)) = .int ((FMo_difference xx xy).2.2.1)) ∧ (narrow .boolean (.int ((FMo_difference xx xy).2.2.2.1)) = .int ((FMo_difference xx xy).2.2.2.1))) ((FMo_difference xx xy).1) (wM ad cI cS mq mn me mo mt mx mp mz mu ((FMo_difference xx xy).2.1) ((FMo_difference xx xy).2.2.1) ((FMo_difference xx xy).2.2.2.1) ((FMo_difference xx xy).2.2.2.2) vp ve mK mA mB mC mf ml mc mL md mi mr mw) := by
  intro sz
  refine Met.ofW (cc := cMo_difference) (maxL := 3) (ret := (some .int)) (by decide) rfl ?_
  intro p e s m args below meth c s₁ B hml hv
  obtain ⟨rfl, hsz, hP, hD0, hE⟩ := hv
  have hx := B.exec
  have hb := B.bytes
  have hr := B.returns
  have hts := atoms_spec (ws := (.code yMo_difference cMo_difference 3 (some .int) :: pq_ws : List Cond)) B.pre
  have hw : ∀ w ∈ pq_ws, w.before _ s = true := fun w h => hts w (List.mem_cons_of_mem _ h)
  have hown : s.vm.findClass RMo = some m.cls := findClass_of_methodNamed B.named
  have hlocks := B.notSynchronized
  subst hsz
  have hD := hD0.self (sz := s.heap.size)
  have hA : ∀ q : Nat, s.heap.size ≤ q → va_A (wM ad cI cS mq mn me mo mt mx mp mz mu vn vz vc vv vp ve mK mA mB mC mf ml mc mL md mi mr mw) s.heap.size q := fun q h => Or.inr h
  have hS : va_S (va_A (wM ad cI cS mq mn me mo mt mx mp mz mu vn vz vc vv vp ve mK mA mB mC mf ml mc mL md mi mr mw) s.heap.size) s.heap s.heap [] := va_S.rf
  have hl := lv_entry ([.ref (ad 17), .int xx, .int xy] : List Value) (n := 3) (Nat.le_of_ble_eq_true rfl)
  rw [lg_entry_eq]
  generalize (lg_sl ([.ref (ad 17), .int xx, .int xy] : List Value) ++ List.replicate (3 - (lg_sl ([.ref (ad 17), .int xx, .int xy] : List Value)).length) Slot.unset).toArray = ls at hl ⊢
  have hl : lv_has ls 3 [(0, .ref (ad 17)), (1, .int xx), (2, .int xy)] := hl
  refine lv_aload_n hx hb dMo_difference_0 rfl (lv_at hl 0 rfl) ?_
  refine lv_iload_n hx hb dMo_difference_1 rfl (lv_at hl 1 rfl) ?_
  refine pq_calll (fr := (FMo_plain xx)) (wc := (wN ad cI cS)) (wr := ([0, 1, 2, 3, 4, 5, 6, 7, 8, 9, 10, 11, 12] : List Nat).filterMap (fun i => (wM ad cI cS mq mn me mo mt mx mp mz mu vn vz vc vv vp ve mK mA mB mC mf ml mc mL md mi mr mw)[i]?)) hP hD hS hA [] [0, 1, 2, 3, 4, 5, 6, 7, 8, 9, 10, 11, 12] rfl rfl (by decide) (by decide) (va_runS (own := RMo) (As := [.int xx]) (rest := [.ref (ad 17)]) ⟨hx, hb, hml, hown, hw⟩ (k_Mo_plain l D ad cI cS xx s.heap.size) ⟨pq_cwB 1 hw wd_204 wd_186 wd_203 rfl rfl (by decide +kernel) ⟨Nat.le_of_ble_eq_true rfl, Nat.le_of_ble_eq_true rfl⟩, hw _ wd_205⟩ (pq_preS hE (hP.sub [] rfl) (hD.sub [] (by decide) rfl)) rfl rfl hl.1 rfl (lv_room (Nat.le_of_ble_eq_true rfl)) dMo_difference_2 ⟨Nat.zero_le _, Nat.zero_le _⟩) (fun H locs hP hD hS => ?_)
  have hP : va_P D vwCl (wM ad cI cS mq mn me mo mt mx mp mz mu vn vz vc vv vp ve mK mA mB mC mf ml mc mL md mi mr mw) H := hP.sub [0, 1, 2, 3, 4, 5, 6, 7, 8, 9, 10, 11, 12] rfl
  have hD : va_D _ (wM ad cI cS mq mn me mo mt mx mp mz mu vn vz vc vv vp ve mK mA mB mC mf ml mc mL md mi mr mw) := hD.sub [0, 1, 2, 3, 4, 5, 6, 7, 8, 9, 10, 11, 12] (by decide) rfl
  refine lv_iload_n hx hb dMo_difference_5 rfl (lv_at hl 2 rfl) ?_
  refine pq_calll (fr := (FMo_plain xy)) (wc := (wN ad cI cS)) (wr := ([0, 1, 2, 3, 4, 5, 6, 7, 8, 9, 10, 11, 12] : List Nat).filterMap (fun i => (wM ad cI cS mq mn me mo mt mx mp mz mu vn vz vc vv vp ve mK mA mB mC mf ml mc mL md mi mr mw)[i]?)) hP hD hS hA [] [0, 1, 2, 3, 4, 5, 6, 7, 8, 9, 10, 11, 12] rfl rfl (by decide) (by decide) (va_runS (own := RMo) (As := [.int xy]) (rest := [.long (FMo_plain xx), .ref (ad 17)]) ⟨hx, hb, hml, hown, hw⟩ (k_Mo_plain l D ad cI cS xy H.size) ⟨pq_cwB 1 hw wd_204 wd_186 wd_203 rfl rfl (by decide +kernel) ⟨Nat.le_of_ble_eq_true rfl, Nat.le_of_ble_eq_true rfl⟩, hw _ wd_205⟩ (pq_preS hE (hP.sub [] rfl) (hD.sub [] (by decide) rfl)) rfl rfl hl.1 rfl (lv_room (Nat.le_of_ble_eq_true rfl)) dMo_difference_6 ⟨Nat.zero_le _, Nat.zero_le _⟩) (fun H locs hP hD hS => ?_)
  have hP : va_P D vwCl (wM ad cI cS mq mn me mo mt mx mp mz mu vn vz vc vv vp ve mK mA mB mC mf ml mc mL md mi mr mw) H := hP.sub [0, 1, 2, 3, 4, 5, 6, 7, 8, 9, 10, 11, 12] rfl
  have hD : va_D _ (wM ad cI cS mq mn me mo mt mx mp mz mu vn vz vc vv vp ve mK mA mB mC mf ml mc mL md mi mr mw) := hD.sub [0, 1, 2, 3, 4, 5, 6, 7, 8, 9, 10, 11, 12] (by decide) rfl
  refine W.lcmp hx hb dMo_difference_9 ?_
  refine lv_if_lt (tgt := 17) hx hb dMo_difference_10 (by decide) (fun h1 => ?_) (fun h1 => ?_)
  · refine lv_iconst (v := 0) hx hb dMo_difference_17 (by first | rfl | decide) ?_
    refine va_put (D := D) (ci := 5) (v := .int 0) (ty := .boolean) (C := RMo) (T := TMo) (N := 27) hx hb hw pinMo tyMo tyMo_ok nmMo hown hE.1 hP hD hS 0 rfl rfl 23 (by decide) (hw _ wd_206) (fun _ h9 => h9) rfl (by decide +kernel) rfl rfl (Nat.le_of_ble_eq_true rfl) dMo_difference_18 (fun H locs hP hD hS => ?_)
    have hP : va_P D vwCl (wM ad cI cS mq mn me mo mt mx mp mz mu vn vz 0 vv vp ve mK mA mB mC mf ml mc mL md mi mr mw) H := hP
    have hD : va_D _ (wM ad cI cS mq mn me mo mt mx mp mz mu vn vz 0 vv vp ve mK mA mB mC mf ml mc mL md mi mr mw) := hD
    refine lv_aload_n hx hb dMo_difference_21 rfl (lv_at hl 0 rfl) ?_
    refine lv_iload_n hx hb dMo_difference_22 rfl (lv_at hl 1 rfl) ?_
    refine lv_i2l hx hb dMo_difference_23 rfl ?_
    refine lv_iload_n hx hb dMo_difference_24 rfl (lv_at hl 2 rfl) ?_
    refine lv_i2l hx hb dMo_difference_25 rfl ?_
    refine lv_lsub hx hb dMo_difference_26 ?_
    refine lv_iload_n hx hb dMo_difference_27 rfl (lv_at hl 1 rfl) ?_
    refine lv_iload_n hx hb dMo_difference_28 rfl (lv_at hl 2 rfl) ?_
    refine lv_isub hx hb dMo_difference_29 ?_
    refine lv_i2l hx hb dMo_difference_30 rfl ?_
    refine W.lcmp hx hb dMo_difference_31 ?_
    refine lv_if_eq (tgt := 39) hx hb dMo_difference_32 (by decide) (fun h2 => ?_) (fun h2 => ?_)
    · refine lv_iconst (v := 0) hx hb dMo_difference_39 (by first | rfl | decide) ?_
      refine va_put (D := D) (ci := 5) (v := .int 0) (ty := .boolean) (C := RMo) (T := TMo) (N := 27) hx hb hw pinMo tyMo tyMo_ok nmMo hown hE.1 hP hD hS 0 rfl rfl 24 (by decide) (hw _ wd_207) (fun _ h9 => h9) rfl (by decide +kernel) rfl rfl (Nat.le_of_ble_eq_true rfl) dMo_difference_40 (fun H locs hP hD hS => ?_)
      have hP : va_P D vwCl (wM ad cI cS mq mn me mo mt mx mp mz mu vn vz 0 0 vp ve mK mA mB mC mf ml mc mL md mi mr mw) H := hP
      have hD : va_D _ (wM ad cI cS mq mn me mo mt mx mp mz mu vn vz 0 0 vp ve mK mA mB mC mf ml mc mL md mi mr mw) := hD
      refine lv_aload_n hx hb dMo_difference_43 rfl (lv_at hl 0 rfl) ?_
      refine lv_iload_n hx hb dMo_difference_44 rfl (lv_at hl 1 rfl) ?_
      refine lv_iload_n hx hb dMo_difference_45 rfl (lv_at hl 2 rfl) ?_
      refine lv_isub hx hb dMo_difference_46 ?_
      obtain ⟨g1, hg1⟩ : ∃ g9, FMo_result (xx - xy) = g9 := ⟨_, rfl⟩
      have cg1 := k_Mo_result l D ad cI cS (xx - xy) mq mn me mo mt mx mp mz mu vn vz 0 0 vp ve mK mA mB mC mf ml mc mL md mi mr mw
      rw [hg1] at cg1
      refine pq_callip (fr := g1.1) (wc := (wM ad cI cS mq mn me mo mt mx mp mz mu vn vz 0 0 vp ve mK mA mB mC mf ml mc mL md mi mr mw)) (wr := ([] : List Nat).filterMap (fun i => (wM ad cI cS mq mn me mo mt mx mp mz mu vn vz 0 0 vp ve mK mA mB mC mf ml mc mL md mi mr mw)[i]?)) hP hD hS hA [0, 1, 2, 3, 4, 5, 6, 7, 8, 9, 10, 11, 12] [] rfl rfl (by decide) (by decide) (va_runV (own := RMo) (C := RMo) (As := [.int (xx - xy)]) (rest := []) ⟨hx, hb, hml, hown, hw⟩ (cg1 H.size) ⟨pq_cwB 1 hw wd_209 wd_186 wd_208 rfl rfl (by decide +kernel) ⟨Nat.le_of_ble_eq_true rfl, Nat.le_of_ble_eq_true rfl⟩, hw _ wd_210, hw _ wd_211⟩ (pq_preV (ci := 5) (C := RMo) (T := TMo) (N := 27) hE (hP.sub [0, 1, 2, 3, 4, 5, 6, 7, 8, 9, 10, 11, 12] rfl) (hD.sub [0, 1, 2, 3, 4, 5, 6, 7, 8, 9, 10, 11, 12] (by decide) rfl) rfl 0 rfl) rfl rfl hl.1 rfl (lv_room (Nat.le_of_ble_eq_true rfl)) dMo_difference_47 ⟨Nat.zero_le _, Nat.zero_le _⟩) (fun hq9 H locs hP hD hS => ?_)
      obtain ⟨bn, bz⟩ := hq9
      have hP : va_P D vwCl (wM ad cI cS mq mn me mo mt mx mp mz mu g1.2.1 g1.2.2 0 0 vp ve mK mA mB mC mf ml mc mL md mi mr mw) H := hP.sub [0, 1, 2, 3, 4, 5, 6, 7, 8, 9, 10, 11, 12] rfl
      have hD : va_D _ (wM ad cI cS mq mn me mo mt mx mp mz mu g1.2.1 g1.2.2 0 0 vp ve mK mA mB mC mf ml mc mL md mi mr mw) := hD.sub [0, 1, 2, 3, 4, 5, 6, 7, 8, 9, 10, 11, 12] (by decide) rfl
      have e9 : FMo_difference xx xy = (g1.1, g1.2.1, g1.2.2, 0, 0) := by simp only [FMo_difference, hg1, if_pos h1, if_pos h2]
      have p9 : (narrow .boolean (.int g1.2.1) = .int g1.2.1) ∧ (narrow .boolean (.int g1.2.2) = .int g1.2.2) ∧ (narrow .boolean (.int (0 : Int32)) = .int (0 : Int32)) := ⟨by first | with_reducible assumption | exact pq_b0 | exact pq_b1 | assumption, by first | with_reducible assumption | exact pq_b0 | exact pq_b1 | assumption, by first | with_reducible assumption | exact pq_b0 | exact pq_b1 | assumption⟩
      exact W.iret (v := g1.1) hx hb hr (fun t ht hW => ⟨⟨g1.1, (), rfl, ⟨by show _ = _; rw [e9], by rw [e9]; exact p9⟩, by rw [e9, ht]; exact hP, by rw [e9]; exact hD⟩, hS.F ht⟩) hS.2.2 dMo_difference_50
    · refine lv_iconst (v := 1) hx hb dMo_difference_35 (by first | rfl | decide) ?_
      refine lv_goto (tgt := 40) hx hb dMo_difference_36 (by decide) ?_
      refine va_put (D := D) (ci := 5) (v := .int 1) (ty := .boolean) (C := RMo) (T := TMo) (N := 27) hx hb hw pinMo tyMo tyMo_ok nmMo hown hE.1 hP hD hS 0 rfl rfl 24 (by decide) (hw _ wd_207) (fun _ h9 => h9) rfl (by decide +kernel) rfl rfl (Nat.le_of_ble_eq_true rfl) dMo_difference_40 (fun H locs hP hD hS => ?_)
      have hP : va_P D vwCl (wM ad cI cS mq mn me mo mt mx mp mz mu vn vz 0 1 vp ve mK mA mB mC mf ml mc mL md mi mr mw) H := hP
      have hD : va_D _ (wM ad cI cS mq mn me mo mt mx mp mz mu vn vz 0 1 vp ve mK mA mB mC mf ml mc mL md mi mr mw) := hD
      refine lv_aload_n hx hb dMo_difference_43 rfl (lv_at hl 0 rfl) ?_
      refine lv_iload_n hx hb dMo_difference_44 rfl (lv_at hl 1 rfl) ?_
      refine lv_iload_n hx hb dMo_difference_45 rfl (lv_at hl 2 rfl) ?_
      refine lv_isub hx hb dMo_difference_46 ?_
      obtain ⟨g2, hg2⟩ : ∃ g9, FMo_result (xx - xy) = g9 := ⟨_, rfl⟩
      have cg2 := k_Mo_result l D ad cI cS (xx - xy) mq mn me mo mt mx mp mz mu vn vz 0 1 vp ve mK mA mB mC mf ml mc mL md mi mr mw
      rw [hg2] at cg2
      refine pq_callip (fr := g2.1) (wc := (wM ad cI cS mq mn me mo mt mx mp mz mu vn vz 0 1 vp ve mK mA mB mC mf ml mc mL md mi mr mw)) (wr := ([] : List Nat).filterMap (fun i => (wM ad cI cS mq mn me mo mt mx mp mz mu vn vz 0 1 vp ve mK mA mB mC mf ml mc mL md mi mr mw)[i]?)) hP hD hS hA [0, 1, 2, 3, 4, 5, 6, 7, 8, 9, 10, 11, 12] [] rfl rfl (by decide) (by decide) (va_runV (own := RMo) (C := RMo) (As := [.int (xx - xy)]) (rest := []) ⟨hx, hb, hml, hown, hw⟩ (cg2 H.size) ⟨pq_cwB 1 hw wd_209 wd_186 wd_208 rfl rfl (by decide +kernel) ⟨Nat.le_of_ble_eq_true rfl, Nat.le_of_ble_eq_true rfl⟩, hw _ wd_210, hw _ wd_211⟩ (pq_preV (ci := 5) (C := RMo) (T := TMo) (N := 27) hE (hP.sub [0, 1, 2, 3, 4, 5, 6, 7, 8, 9, 10, 11, 12] rfl) (hD.sub [0, 1, 2, 3, 4, 5, 6, 7, 8, 9, 10, 11, 12] (by decide) rfl) rfl 0 rfl) rfl rfl hl.1 rfl (lv_room (Nat.le_of_ble_eq_true rfl)) dMo_difference_47 ⟨Nat.zero_le _, Nat.zero_le _⟩) (fun hq9 H locs hP hD hS => ?_)
      obtain ⟨bn, bz⟩ := hq9
      have hP : va_P D vwCl (wM ad cI cS mq mn me mo mt mx mp mz mu g2.2.1 g2.2.2 0 1 vp ve mK mA mB mC mf ml mc mL md mi mr mw) H := hP.sub [0, 1, 2, 3, 4, 5, 6, 7, 8, 9, 10, 11, 12] rfl
      have hD : va_D _ (wM ad cI cS mq mn me mo mt mx mp mz mu g2.2.1 g2.2.2 0 1 vp ve mK mA mB mC mf ml mc mL md mi mr mw) := hD.sub [0, 1, 2, 3, 4, 5, 6, 7, 8, 9, 10, 11, 12] (by decide) rfl
      have e9 : FMo_difference xx xy = (g2.1, g2.2.1, g2.2.2, 0, 1) := by simp only [FMo_difference, hg2, if_pos h1, if_neg h2]
      have p9 : (narrow .boolean (.int g2.2.1) = .int g2.2.1) ∧ (narrow .boolean (.int g2.2.2) = .int g2.2.2) ∧ (narrow .boolean (.int (0 : Int32)) = .int (0 : Int32)) := ⟨by first | with_reducible assumption | exact pq_b0 | exact pq_b1 | assumption, by first | with_reducible assumption | exact pq_b0 | exact pq_b1 | assumption, by first | with_reducible assumption | exact pq_b0 | exact pq_b1 | assumption⟩
      exact W.iret (v := g2.1) hx hb hr (fun t ht hW => ⟨⟨g2.1, (), rfl, ⟨by show _ = _; rw [e9], by rw [e9]; exact p9⟩, by rw [e9, ht]; exact hP, by rw [e9]; exact hD⟩, hS.F ht⟩) hS.2.2 dMo_difference_50
  · refine lv_iconst (v := 1) hx hb dMo_difference_13 (by first | rfl | decide) ?_
    refine lv_goto (tgt := 18) hx hb dMo_difference_14 (by decide) ?_
    refine va_put (D := D) (ci := 5) (v := .int 1) (ty := .boolean) (C := RMo) (T := TMo) (N := 27) hx hb hw pinMo tyMo tyMo_ok nmMo hown hE.1 hP hD hS 0 rfl rfl 23 (by decide) (hw _ wd_206) (fun _ h9 => h9) rfl (by decide +kernel) rfl rfl (Nat.le_of_ble_eq_true rfl) dMo_difference_18 (fun H locs hP hD hS => ?_)
    have hP : va_P D vwCl (wM ad cI cS mq mn me mo mt mx mp mz mu vn vz 1 vv vp ve mK mA mB mC mf ml mc mL md mi mr mw) H := hP
    have hD : va_D _ (wM ad cI cS mq mn me mo mt mx mp mz mu vn vz 1 vv vp ve mK mA mB mC mf ml mc mL md mi mr mw) := hD
    refine lv_aload_n hx hb dMo_difference_21 rfl (lv_at hl 0 rfl) ?_
    refine lv_iload_n hx hb dMo_difference_22 rfl (lv_at hl 1 rfl) ?_
    refine lv_i2l hx hb dMo_difference_23 rfl ?_
    refine lv_iload_n hx hb dMo_difference_24 rfl (lv_at hl 2 rfl) ?_
    refine lv_i2l hx hb dMo_difference_25 rfl ?_
    refine lv_lsub hx hb dMo_difference_26 ?_
    refine lv_iload_n hx hb dMo_difference_27 rfl (lv_at hl 1 rfl) ?_
    refine lv_iload_n hx hb dMo_difference_28 rfl (lv_at hl 2 rfl) ?_
    refine lv_isub hx hb dMo_difference_29 ?_
    refine lv_i2l hx hb dMo_difference_30 rfl ?_
    refine W.lcmp hx hb dMo_difference_31 ?_
    refine lv_if_eq (tgt := 39) hx hb dMo_difference_32 (by decide) (fun h3 => ?_) (fun h3 => ?_)
    · refine lv_iconst (v := 0) hx hb dMo_difference_39 (by first | rfl | decide) ?_
      refine va_put (D := D) (ci := 5) (v := .int 0) (ty := .boolean) (C := RMo) (T := TMo) (N := 27) hx hb hw pinMo tyMo tyMo_ok nmMo hown hE.1 hP hD hS 0 rfl rfl 24 (by decide) (hw _ wd_207) (fun _ h9 => h9) rfl (by decide +kernel) rfl rfl (Nat.le_of_ble_eq_true rfl) dMo_difference_40 (fun H locs hP hD hS => ?_)
      have hP : va_P D vwCl (wM ad cI cS mq mn me mo mt mx mp mz mu vn vz 1 0 vp ve mK mA mB mC mf ml mc mL md mi mr mw) H := hP
      have hD : va_D _ (wM ad cI cS mq mn me mo mt mx mp mz mu vn vz 1 0 vp ve mK mA mB mC mf ml mc mL md mi mr mw) := hD
      refine lv_aload_n hx hb dMo_difference_43 rfl (lv_at hl 0 rfl) ?_
      refine lv_iload_n hx hb dMo_difference_44 rfl (lv_at hl 1 rfl) ?_
      refine lv_iload_n hx hb dMo_difference_45 rfl (lv_at hl 2 rfl) ?_
      refine lv_isub hx hb dMo_difference_46 ?_
      obtain ⟨g3, hg3⟩ : ∃ g9, FMo_result (xx - xy) = g9 := ⟨_, rfl⟩
      have cg3 := k_Mo_result l D ad cI cS (xx - xy) mq mn me mo mt mx mp mz mu vn vz 1 0 vp ve mK mA mB mC mf ml mc mL md mi mr mw
      rw [hg3] at cg3
      refine pq_callip (fr := g3.1) (wc := (wM ad cI cS mq mn me mo mt mx mp mz mu vn vz 1 0 vp ve mK mA mB mC mf ml mc mL md mi mr mw)) (wr := ([] : List Nat).filterMap (fun i => (wM ad cI cS mq mn me mo mt mx mp mz mu vn vz 1 0 vp ve mK mA mB mC mf ml mc mL md mi mr mw)[i]?)) hP hD hS hA [0, 1, 2, 3, 4, 5, 6, 7, 8, 9, 10, 11, 12] [] rfl rfl (by decide) (by decide) (va_runV (own := RMo) (C := RMo) (As := [.int (xx - xy)]) (rest := []) ⟨hx, hb, hml, hown, hw⟩ (cg3 H.size) ⟨pq_cwB 1 hw wd_209 wd_186 wd_208 rfl rfl (by decide +kernel) ⟨Nat.le_of_ble_eq_true rfl, Nat.le_of_ble_eq_true rfl⟩, hw _ wd_210, hw _ wd_211⟩ (pq_preV (ci := 5) (C := RMo) (T := TMo) (N := 27) hE (hP.sub [0, 1, 2, 3, 4, 5, 6, 7, 8, 9, 10, 11, 12] rfl) (hD.sub [0, 1, 2, 3, 4, 5, 6, 7, 8, 9, 10, 11, 12] (by decide) rfl) rfl 0 rfl) rfl rfl hl.1 rfl (lv_room (Nat.le_of_ble_eq_true rfl)) dMo_difference_47 ⟨Nat.zero_le _, Nat.zero_le _⟩) (fun hq9 H locs hP hD hS => ?_)
      obtain ⟨bn, bz⟩ := hq9
      have hP : va_P D vwCl (wM ad cI cS mq mn me mo mt mx mp mz mu g3.2.1 g3.2.2 1 0 vp ve mK mA mB mC mf ml mc mL md mi mr mw) H := hP.sub [0, 1, 2, 3, 4, 5, 6, 7, 8, 9, 10, 11, 12] rfl
      have hD : va_D _ (wM ad cI cS mq mn me mo mt mx mp mz mu g3.2.1 g3.2.2 1 0 vp ve mK mA mB mC mf ml mc mL md mi mr mw) := hD.sub [0, 1, 2, 3, 4, 5, 6, 7, 8, 9, 10, 11, 12] (by decide) rfl
      have e9 : FMo_difference xx xy = (g3.1, g3.2.1, g3.2.2, 1, 0) := by simp only [FMo_difference, hg3, if_neg h1, if_pos h3]
      have p9 : (narrow .boolean (.int g3.2.1) = .int g3.2.1) ∧ (narrow .boolean (.int g3.2.2) = .int g3.2.2) ∧ (narrow .boolean (.int (1 : Int32)) = .int (1 : Int32)) := ⟨by first | with_reducible assumption | exact pq_b0 | exact pq_b1 | assumption, by first | with_reducible assumption | exact pq_b0 | exact pq_b1 | assumption, by first | with_reducible assumption | exact pq_b0 | exact pq_b1 | assumption⟩
      exact W.iret (v := g3.1) hx hb hr (fun t ht hW => ⟨⟨g3.1, (), rfl, ⟨by show _ = _; rw [e9], by rw [e9]; exact p9⟩, by rw [e9, ht]; exact hP, by rw [e9]; exact hD⟩, hS.F ht⟩) hS.2.2 dMo_difference_50
    · refine lv_iconst (v := 1) hx hb dMo_difference_35 (by first | rfl | decide) ?_
      refine lv_goto (tgt := 40) hx hb dMo_difference_36 (by decide) ?_
      refine va_put (D := D) (ci := 5) (v := .int 1) (ty := .boolean) (C := RMo) (T := TMo) (N := 27) hx hb hw pinMo tyMo tyMo_ok nmMo hown hE.1 hP hD hS 0 rfl rfl 24 (by decide) (hw _ wd_207) (fun _ h9 => h9) rfl (by decide +kernel) rfl rfl (Nat.le_of_ble_eq_true rfl) dMo_difference_40 (fun H locs hP hD hS => ?_)
      have hP : va_P D vwCl (wM ad cI cS mq mn me mo mt mx mp mz mu vn vz 1 1 vp ve mK mA mB mC mf ml mc mL md mi mr mw) H := hP
      have hD : va_D _ (wM ad cI cS mq mn me mo mt mx mp mz mu vn vz 1 1 vp ve mK mA mB mC mf ml mc mL md mi mr mw) := hD
      refine lv_aload_n hx hb dMo_difference_43 rfl (lv_at hl 0 rfl) ?_
      refine lv_iload_n hx hb dMo_difference_44 rfl (lv_at hl 1 rfl) ?_
      refine lv_iload_n hx hb dMo_difference_45 rfl (lv_at hl 2 rfl) ?_
      refine lv_isub hx hb dMo_difference_46 ?_
      obtain ⟨g4, hg4⟩ : ∃ g9, FMo_result (xx - xy) = g9 := ⟨_, rfl⟩
      have cg4 := k_Mo_result l D ad cI cS (xx - xy) mq mn me mo mt mx mp mz mu vn vz 1 1 vp ve mK mA mB mC mf ml mc mL md mi mr mw
      rw [hg4] at cg4
      refine pq_callip (fr := g4.1) (wc := (wM ad cI cS mq mn me mo mt mx mp mz mu vn vz 1 1 vp ve mK mA mB mC mf ml mc mL md mi mr mw)) (wr := ([] : List Nat).filterMap (fun i => (wM ad cI cS mq mn me mo mt mx mp mz mu vn vz 1 1 vp ve mK mA mB mC mf ml mc mL md mi mr mw)[i]?)) hP hD hS hA [0, 1, 2, 3, 4, 5, 6, 7, 8, 9, 10, 11, 12] [] rfl rfl (by decide) (by decide) (va_runV (own := RMo) (C := RMo) (As := [.int (xx - xy)]) (rest := []) ⟨hx, hb, hml, hown, hw⟩ (cg4 H.size) ⟨pq_cwB 1 hw wd_209 wd_186 wd_208 rfl rfl (by decide +kernel) ⟨Nat.le_of_ble_eq_true rfl, Nat.le_of_ble_eq_true rfl⟩, hw _ wd_210, hw _ wd_211⟩ (pq_preV (ci := 5) (C := RMo) (T := TMo) (N := 27) hE (hP.sub [0, 1, 2, 3, 4, 5, 6, 7, 8, 9, 10, 11, 12] rfl) (hD.sub [0, 1, 2, 3, 4, 5, 6, 7, 8, 9, 10, 11, 12] (by decide) rfl) rfl 0 rfl) rfl rfl hl.1 rfl (lv_room (Nat.le_of_ble_eq_true rfl)) dMo_difference_47 ⟨Nat.zero_le _, Nat.zero_le _⟩) (fun hq9 H locs hP hD hS => ?_)
      obtain ⟨bn, bz⟩ := hq9
      have hP : va_P D vwCl (wM ad cI cS mq mn me mo mt mx mp mz mu g4.2.1 g4.2.2 1 1 vp ve mK mA mB mC mf ml mc mL md mi mr mw) H := hP.sub [0, 1, 2, 3, 4, 5, 6, 7, 8, 9, 10, 11, 12] rfl
      have hD : va_D _ (wM ad cI cS mq mn me mo mt mx mp mz mu g4.2.1 g4.2.2 1 1 vp ve mK mA mB mC mf ml mc mL md mi mr mw) := hD.sub [0, 1, 2, 3, 4, 5, 6, 7, 8, 9, 10, 11, 12] (by decide) rfl
      have e9 : FMo_difference xx xy = (g4.1, g4.2.1, g4.2.2, 1, 1) := by simp only [FMo_difference, hg4, if_neg h1, if_neg h3]
      have p9 : (narrow .boolean (.int g4.2.1) = .int g4.2.1) ∧ (narrow .boolean (.int g4.2.2) = .int g4.2.2) ∧ (narrow .boolean (.int (1 : Int32)) = .int (1 : Int32)) := ⟨by first | with_reducible assumption | exact pq_b0 | exact pq_b1 | assumption, by first | with_reducible assumption | exact pq_b0 | exact pq_b1 | assumption, by first | with_reducible assumption | exact pq_b0 | exact pq_b1 | assumption⟩
      exact W.iret (v := g4.1) hx hb hr (fun t ht hW => ⟨⟨g4.1, (), rfl, ⟨by show _ = _; rw [e9], by rw [e9]; exact p9⟩, by rw [e9, ht]; exact hP, by rw [e9]; exact hD⟩, hS.F ht⟩) hS.2.2 dMo_difference_50
def FMo_holds (xq : Int32) (vn : Int32) (vz : Int32) (vc : Int32) (vv : Int32) : Int32 := if vn = vv then if xq = 0 then vz else if xq = 1 then if vz = 0 then 1 else 0 else if xq = 2 then vc else if xq = 3 then if vc = 0 then 1 else 0 else if xq = 4 then vn else if xq = 5 then if vn = 0 then 1 else 0 else if xq = 6 then if vz = 0 then 0 else 1 else if xq = 7 then if vz = 0 then 0 else 1 else if xq = 8 then if vz = 0 then 0 else 1 else if xq = 9 then if vz = 0 then 0 else 1 else if xq = 10 then 1 else if xq = 11 then 0 else if xq = 12 then if vz = 0 then 1 else 0 else if vz = 0 then 0 else 1 else if xq = 0 then vz else if xq = 1 then if vz = 0 then 1 else 0 else if xq = 2 then vc else if xq = 3 then if vc = 0 then 1 else 0 else if xq = 4 then vn else if xq = 5 then if vn = 0 then 1 else 0 else if xq = 6 then if vz = 0 then 1 else 1 else if xq = 7 then if vz = 0 then 1 else 1 else if xq = 8 then if vz = 0 then 1 else 1 else if xq = 9 then if vz = 0 then 1 else 1 else if xq = 10 then 0 else if xq = 11 then 1 else if xq = 12 then if vz = 0 then 0 else 0 else if vz = 0 then 1 else 1
set_option maxHeartbeats 4000000 in
set_option maxRecDepth 100000 in
theorem k_Mo_holds (l : Launch) (D : va_G) (ad : Nat → Nat) (cI cS : ClassId) (xq : Int32) (mq : Int32) (mn : Int32) (me : Int32) (mo : Int32) (mt : Int32) (mx : Int32) (mp : Int32) (mz : Int32) (mu : Int32) (vn : Int32) (vz : Int32) (vc : Int32) (vv : Int32) (vp : Int32) (ve : Int32) (mK : Nat → Int32) (mA : Nat → Int32) (mB : Nat → Int32) (mC : Nat → Int32) (mf : Nat → Int32) (ml : Nat → Int32) (mc : Nat → Int32) (mL : Nat → Int32) (md : Nat → Int32) (mi : Nat → Int32) (mr : Nat → Int32) (mw : Nat → Int32) (bn : narrow .boolean (.int vn) = .int vn) (bz : narrow .boolean (.int vz) = .int vz) (bc : narrow .boolean (.int vc) = .int vc) : pq_I l yMo_holds (.code yMo_holds cMo_holds 3 (some .boolean) :: pq_ws) { frames := 0, cells := 0, slots := 0, locals := 0 } D cI cS [.ref (ad 17), .int xq] (wM ad cI cS mq mn me mo mt mx mp mz mu vn vz vc vv vp ve mK mA mB mC mf ml mc mL md mi mr mw) (FMo_holds xq vn vz vc vv) (wM ad cI cS mq mn me mo mt mx mp mz mu vn vz vc vv vp ve mK mA mB mC mf ml mc mL md mi mr mw) := by
  intro sz
  refine Met.ofW (cc := cMo_holds) (maxL := 3) (ret := (some .boolean)) (by decide) rfl ?_
  intro p e s m args below meth c s₁ B hml hv
  obtain ⟨rfl, hsz, hP, hD0, hE⟩ := hv
  have hx := B.exec
  have hb := B.bytes
  have hr := B.returns
  have hts := atoms_spec (ws := (.code yMo_holds cMo_holds 3 (some .boolean) :: pq_ws : List Cond)) B.pre
  have hw : ∀ w ∈ pq_ws, w.before _ s = true := fun w h => hts w (List.mem_cons_of_mem _ h)
  have hown : s.vm.findClass RMo = some m.cls := findClass_of_methodNamed B.named
  have hlocks := B.notSynchronized
  subst hsz
  have hD := hD0.self (sz := s.heap.size)
  have hA : ∀ q : Nat, s.heap.size ≤ q → va_A (wM ad cI cS mq mn me mo mt mx mp mz mu vn vz vc vv vp ve mK mA mB mC mf ml mc mL md mi mr mw) s.heap.size q := fun q h => Or.inr h
  have hS : va_S (va_A (wM ad cI cS mq mn me mo mt mx mp mz mu vn vz vc vv vp ve mK mA mB mC mf ml mc mL md mi mr mw) s.heap.size) s.heap s.heap [] := va_S.rf
  have hl := lv_entry ([.ref (ad 17), .int xq] : List Value) (n := 3) (Nat.le_of_ble_eq_true rfl)
  rw [lg_entry_eq]
  generalize (lg_sl ([.ref (ad 17), .int xq] : List Value) ++ List.replicate (3 - (lg_sl ([.ref (ad 17), .int xq] : List Value)).length) Slot.unset).toArray = ls at hl ⊢
  have hl : lv_has ls 3 [(0, .ref (ad 17)), (1, .int xq)] := hl
  refine lv_aload_n hx hb dMo_holds_0 rfl (lv_at hl 0 rfl) ?_
  refine va_get (D := D) (ci := 5) (v := .int vn) (C := RMo) (T := TMo) (N := 27) hx hb hw pinMo hown hE.1 hP 0 rfl rfl 21 (by decide) (hw _ wd_201) (fun _ h9 => h9) rfl dMo_holds_1 ?_
  refine lv_aload_n hx hb dMo_holds_4 rfl (lv_at hl 0 rfl) ?_
  refine va_get (D := D) (ci := 5) (v := .int vv) (C := RMo) (T := TMo) (N := 27) hx hb hw pinMo hown hE.1 hP 0 rfl rfl 24 (by decide) (hw _ wd_207) (fun _ h9 => h9) rfl dMo_holds_5 ?_
  refine lv_icmp_eq (tgt := 15) hx hb dMo_holds_8 (by decide) (fun h1 => ?_) (fun h1 => ?_)
  · refine lv_iconst (v := 0) hx hb dMo_holds_15 (by first | rfl | decide) ?_
    refine lv_istore_n (lv' := [(2, .int 0), (0, .ref (ad 17)), (1, .int xq)]) hx hb dMo_holds_16 rfl hl (by decide) rfl (fun ls hl => ?_)
    refine lv_iload_n hx hb dMo_holds_17 rfl (lv_at hl 2 rfl) ?_
    by_cases h2 : xq = 0
    · refine lv_tableIn (off := 66) (tgt := 84) hx hb dMo_holds_18 (by rw [h2]; decide) (by rw [h2]; decide) (by rw [h2]; rfl) (by decide) ?_
      refine lv_aload_n hx hb dMo_holds_84 rfl (lv_at hl 1 rfl) ?_
      refine va_get (D := D) (ci := 5) (v := .int vz) (C := RMo) (T := TMo) (N := 27) hx hb hw pinMo hown hE.1 hP 0 rfl rfl 22 (by decide) (hw _ wd_202) (fun _ h9 => h9) rfl dMo_holds_85 ?_
      have e9 : FMo_holds xq vn vz vc vv = vz := by simp only [FMo_holds, if_pos h1, if_pos h2]
      exact W.zret (v := vz) hx hb hr (by first | rfl | assumption) (fun t ht hW => ⟨⟨vz, (), rfl, (by show _ = _; rw [e9]), by rw [ht]; exact hP, hD⟩, hS.F ht⟩) hS.2.2 dMo_holds_88
    by_cases h3 : xq = 1
    · refine lv_tableIn (off := 71) (tgt := 89) hx hb dMo_holds_18 (by rw [h3]; decide) (by rw [h3]; decide) (by rw [h3]; rfl) (by decide) ?_
      refine lv_aload_n hx hb dMo_holds_89 rfl (lv_at hl 1 rfl) ?_
      refine va_get (D := D) (ci := 5) (v := .int vz) (C := RMo) (T := TMo) (N := 27) hx hb hw pinMo hown hE.1 hP 0 rfl rfl 22 (by decide) (hw _ wd_202) (fun _ h9 => h9) rfl dMo_holds_90 ?_
      refine lv_if_ne (tgt := 100) hx hb dMo_holds_93 (by decide) (fun h4 => ?_) (fun h4 => ?_)
      · refine lv_iconst (v := 0) hx hb dMo_holds_100 (by first | rfl | decide) ?_
        have e9 : FMo_holds xq vn vz vc vv = 0 := by simp only [FMo_holds, if_pos h1, if_neg h2, if_pos h3, if_neg h4]
        exact W.zret (v := 0) hx hb hr rfl (fun t ht hW => ⟨⟨0, (), rfl, (by show _ = _; rw [e9]), by rw [ht]; exact hP, hD⟩, hS.F ht⟩) hS.2.2 dMo_holds_101
      · refine lv_iconst (v := 1) hx hb dMo_holds_96 (by first | rfl | decide) ?_
        refine lv_goto (tgt := 101) hx hb dMo_holds_97 (by decide) ?_
        have e9 : FMo_holds xq vn vz vc vv = 1 := by simp only [FMo_holds, if_pos h1, if_neg h2, if_pos h3, if_pos h4]
        exact W.zret (v := 1) hx hb hr rfl (fun t ht hW => ⟨⟨1, (), rfl, (by show _ = _; rw [e9]), by rw [ht]; exact hP, hD⟩, hS.F ht⟩) hS.2.2 dMo_holds_101
    by_cases h5 : xq = 2
    · refine lv_tableIn (off := 84) (tgt := 102) hx hb dMo_holds_18 (by rw [h5]; decide) (by rw [h5]; decide) (by rw [h5]; rfl) (by decide) ?_
      refine lv_aload_n hx hb dMo_holds_102 rfl (lv_at hl 1 rfl) ?_
      refine va_get (D := D) (ci := 5) (v := .int vc) (C := RMo) (T := TMo) (N := 27) hx hb hw pinMo hown hE.1 hP 0 rfl rfl 23 (by decide) (hw _ wd_206) (fun _ h9 => h9) rfl dMo_holds_103 ?_
      have e9 : FMo_holds xq vn vz vc vv = vc := by simp only [FMo_holds, if_pos h1, if_neg h2, if_neg h3, if_pos h5]
      exact W.zret (v := vc) hx hb hr (by first | rfl | assumption) (fun t ht hW => ⟨⟨vc, (), rfl, (by show _ = _; rw [e9]), by rw [ht]; exact hP, hD⟩, hS.F ht⟩) hS.2.2 dMo_holds_106
    by_cases h6 : xq = 3
    · refine lv_tableIn (off := 89) (tgt := 107) hx hb dMo_holds_18 (by rw [h6]; decide) (by rw [h6]; decide) (by rw [h6]; rfl) (by decide) ?_
      refine lv_aload_n hx hb dMo_holds_107 rfl (lv_at hl 1 rfl) ?_
      refine va_get (D := D) (ci := 5) (v := .int vc) (C := RMo) (T := TMo) (N := 27) hx hb hw pinMo hown hE.1 hP 0 rfl rfl 23 (by decide) (hw _ wd_206) (fun _ h9 => h9) rfl dMo_holds_108 ?_
      refine lv_if_ne (tgt := 118) hx hb dMo_holds_111 (by decide) (fun h7 => ?_) (fun h7 => ?_)
      · refine lv_iconst (v := 0) hx hb dMo_holds_118 (by first | rfl | decide) ?_
        have e9 : FMo_holds xq vn vz vc vv = 0 := by simp only [FMo_holds, if_pos h1, if_neg h2, if_neg h3, if_neg h5, if_pos h6, if_neg h7]
        exact W.zret (v := 0) hx hb hr rfl (fun t ht hW => ⟨⟨0, (), rfl, (by show _ = _; rw [e9]), by rw [ht]; exact hP, hD⟩, hS.F ht⟩) hS.2.2 dMo_holds_119
      · refine lv_iconst (v := 1) hx hb dMo_holds_114 (by first | rfl | decide) ?_
        refine lv_goto (tgt := 119) hx hb dMo_holds_115 (by decide) ?_
        have e9 : FMo_holds xq vn vz vc vv = 1 := by simp only [FMo_holds, if_pos h1, if_neg h2, if_neg h3, if_neg h5, if_pos h6, if_pos h7]
        exact W.zret (v := 1) hx hb hr rfl (fun t ht hW => ⟨⟨1, (), rfl, (by show _ = _; rw [e9]), by rw [ht]; exact hP, hD⟩, hS.F ht⟩) hS.2.2 dMo_holds_119
    by_cases h8 : xq = 4
    · refine lv_tableIn (off := 102) (tgt := 120) hx hb dMo_holds_18 (by rw [h8]; decide) (by rw [h8]; decide) (by rw [h8]; rfl) (by decide) ?_
      refine lv_aload_n hx hb dMo_holds_120 rfl (lv_at hl 1 rfl) ?_
      refine va_get (D := D) (ci := 5) (v := .int vn) (C := RMo) (T := TMo) (N := 27) hx hb hw pinMo hown hE.1 hP 0 rfl rfl 21 (by decide) (hw _ wd_201) (fun _ h9 => h9) rfl dMo_holds_121 ?_
      have e9 : FMo_holds xq vn vz vc vv = vn := by simp only [FMo_holds, if_pos h1, if_neg h2, if_neg h3, if_neg h5, if_neg h6, if_pos h8]
      exact W.zret (v := vn) hx hb hr (by first | rfl | assumption) (fun t ht hW => ⟨⟨vn, (), rfl, (by show _ = _; rw [e9]), by rw [ht]; exact hP, hD⟩, hS.F ht⟩) hS.2.2 dMo_holds_124
    by_cases h9 : xq = 5
    · refine lv_tableIn (off := 107) (tgt := 125) hx hb dMo_holds_18 (by rw [h9]; decide) (by rw [h9]; decide) (by rw [h9]; rfl) (by decide) ?_
      refine lv_aload_n hx hb dMo_holds_125 rfl (lv_at hl 1 rfl) ?_
      refine va_get (D := D) (ci := 5) (v := .int vn) (C := RMo) (T := TMo) (N := 27) hx hb hw pinMo hown hE.1 hP 0 rfl rfl 21 (by decide) (hw _ wd_201) (fun _ h9 => h9) rfl dMo_holds_126 ?_
      refine lv_if_ne (tgt := 136) hx hb dMo_holds_129 (by decide) (fun h10 => ?_) (fun h10 => ?_)
      · refine lv_iconst (v := 0) hx hb dMo_holds_136 (by first | rfl | decide) ?_
        have e9 : FMo_holds xq vn vz vc vv = 0 := by simp only [FMo_holds, if_pos h1, if_neg h2, if_neg h3, if_neg h5, if_neg h6, if_neg h8, if_pos h9, if_neg h10]
        exact W.zret (v := 0) hx hb hr rfl (fun t ht hW => ⟨⟨0, (), rfl, (by show _ = _; rw [e9]), by rw [ht]; exact hP, hD⟩, hS.F ht⟩) hS.2.2 dMo_holds_137
      · refine lv_iconst (v := 1) hx hb dMo_holds_132 (by first | rfl | decide) ?_
        refine lv_goto (tgt := 137) hx hb dMo_holds_133 (by decide) ?_
        have e9 : FMo_holds xq vn vz vc vv = 1 := by simp only [FMo_holds, if_pos h1, if_neg h2, if_neg h3, if_neg h5, if_neg h6, if_neg h8, if_pos h9, if_pos h10]
        exact W.zret (v := 1) hx hb hr rfl (fun t ht hW => ⟨⟨1, (), rfl, (by show _ = _; rw [e9]), by rw [ht]; exact hP, hD⟩, hS.F ht⟩) hS.2.2 dMo_holds_137
    by_cases h11 : xq = 6
    · refine lv_tableIn (off := 149) (tgt := 167) hx hb dMo_holds_18 (by rw [h11]; decide) (by rw [h11]; decide) (by rw [h11]; rfl) (by decide) ?_
      refine lv_aload_n hx hb dMo_holds_167 rfl (lv_at hl 1 rfl) ?_
      refine va_get (D := D) (ci := 5) (v := .int vz) (C := RMo) (T := TMo) (N := 27) hx hb hw pinMo hown hE.1 hP 0 rfl rfl 22 (by decide) (hw _ wd_202) (fun _ h9 => h9) rfl dMo_holds_168 ?_
      refine lv_if_ne (tgt := 178) hx hb dMo_holds_171 (by decide) (fun h12 => ?_) (fun h12 => ?_)
      · refine lv_iconst (v := 1) hx hb dMo_holds_178 (by first | rfl | decide) ?_
        refine lv_goto (tgt := 183) hx hb dMo_holds_179 (by decide) ?_
        have e9 : FMo_holds xq vn vz vc vv = 1 := by simp only [FMo_holds, if_pos h1, if_neg h2, if_neg h3, if_neg h5, if_neg h6, if_neg h8, if_neg h9, if_pos h11, if_neg h12]
        exact W.zret (v := 1) hx hb hr rfl (fun t ht hW => ⟨⟨1, (), rfl, (by show _ = _; rw [e9]), by rw [ht]; exact hP, hD⟩, hS.F ht⟩) hS.2.2 dMo_holds_183
      · refine lv_iload_n hx hb dMo_holds_174 rfl (lv_at hl 0 rfl) ?_
        refine lv_if_eq (tgt := 182) hx hb dMo_holds_175 (by decide) (fun _ => ?_) (fun h9 => absurd h9 (by decide))
        refine lv_iconst (v := 0) hx hb dMo_holds_182 (by first | rfl | decide) ?_
        have e9 : FMo_holds xq vn vz vc vv = 0 := by simp only [FMo_holds, if_pos h1, if_neg h2, if_neg h3, if_neg h5, if_neg h6, if_neg h8, if_neg h9, if_pos h11, if_pos h12]
        exact W.zret (v := 0) hx hb hr rfl (fun t ht hW => ⟨⟨0, (), rfl, (by show _ = _; rw [e9]), by rw [ht]; exact hP, hD⟩, hS.F ht⟩) hS.2.2 dMo_holds_183
    by_cases h13 : xq = 7
    · refine lv_tableIn (off := 149) (tgt := 167) hx hb dMo_holds_18 (by rw [h13]; decide) (by rw [h13]; decide) (by rw [h13]; rfl) (by decide) ?_
      refine lv_aload_n hx hb dMo_holds_167 rfl (lv_at hl 1 rfl) ?_
      refine va_get (D := D) (ci := 5) (v := .int vz) (C := RMo) (T := TMo) (N := 27) hx hb hw pinMo hown hE.1 hP 0 rfl rfl 22 (by decide) (hw _ wd_202) (fun _ h9 => h9) rfl dMo_holds_168 ?_
      refine lv_if_ne (tgt := 178) hx hb dMo_holds_171 (by decide) (fun h14 => ?_) (fun h14 => ?_)
      · refine lv_iconst (v := 1) hx hb dMo_holds_178 (by first | rfl | decide) ?_
        refine lv_goto (tgt := 183) hx hb dMo_holds_179 (by decide) ?_
        have e9 : FMo_holds xq vn vz vc vv = 1 := by simp only [FMo_holds, if_pos h1, if_neg h2, if_neg h3, if_neg h5, if_neg h6, if_neg h8, if_neg h9, if_neg h11, if_pos h13, if_neg h14]
        exact W.zret (v := 1) hx hb hr rfl (fun t ht hW => ⟨⟨1, (), rfl, (by show _ = _; rw [e9]), by rw [ht]; exact hP, hD⟩, hS.F ht⟩) hS.2.2 dMo_holds_183
      · refine lv_iload_n hx hb dMo_holds_174 rfl (lv_at hl 0 rfl) ?_
        refine lv_if_eq (tgt := 182) hx hb dMo_holds_175 (by decide) (fun _ => ?_) (fun h9 => absurd h9 (by decide))
        refine lv_iconst (v := 0) hx hb dMo_holds_182 (by first | rfl | decide) ?_
        have e9 : FMo_holds xq vn vz vc vv = 0 := by simp only [FMo_holds, if_pos h1, if_neg h2, if_neg h3, if_neg h5, if_neg h6, if_neg h8, if_neg h9, if_neg h11, if_pos h13, if_pos h14]
        exact W.zret (v := 0) hx hb hr rfl (fun t ht hW => ⟨⟨0, (), rfl, (by show _ = _; rw [e9]), by rw [ht]; exact hP, hD⟩, hS.F ht⟩) hS.2.2 dMo_holds_183
    by_cases h15 : xq = 8
    · refine lv_tableIn (off := 149) (tgt := 167) hx hb dMo_holds_18 (by rw [h15]; decide) (by rw [h15]; decide) (by rw [h15]; rfl) (by decide) ?_
      refine lv_aload_n hx hb dMo_holds_167 rfl (lv_at hl 1 rfl) ?_
      refine va_get (D := D) (ci := 5) (v := .int vz) (C := RMo) (T := TMo) (N := 27) hx hb hw pinMo hown hE.1 hP 0 rfl rfl 22 (by decide) (hw _ wd_202) (fun _ h9 => h9) rfl dMo_holds_168 ?_
      refine lv_if_ne (tgt := 178) hx hb dMo_holds_171 (by decide) (fun h16 => ?_) (fun h16 => ?_)
      · refine lv_iconst (v := 1) hx hb dMo_holds_178 (by first | rfl | decide) ?_
        refine lv_goto (tgt := 183) hx hb dMo_holds_179 (by decide) ?_
        have e9 : FMo_holds xq vn vz vc vv = 1 := by simp only [FMo_holds, if_pos h1, if_neg h2, if_neg h3, if_neg h5, if_neg h6, if_neg h8, if_neg h9, if_neg h11, if_neg h13, if_pos h15, if_neg h16]
        exact W.zret (v := 1) hx hb hr rfl (fun t ht hW => ⟨⟨1, (), rfl, (by show _ = _; rw [e9]), by rw [ht]; exact hP, hD⟩, hS.F ht⟩) hS.2.2 dMo_holds_183
      · refine lv_iload_n hx hb dMo_holds_174 rfl (lv_at hl 0 rfl) ?_
        refine lv_if_eq (tgt := 182) hx hb dMo_holds_175 (by decide) (fun _ => ?_) (fun h9 => absurd h9 (by decide))
        refine lv_iconst (v := 0) hx hb dMo_holds_182 (by first | rfl | decide) ?_
        have e9 : FMo_holds xq vn vz vc vv = 0 := by simp only [FMo_holds, if_pos h1, if_neg h2, if_neg h3, if_neg h5, if_neg h6, if_neg h8, if_neg h9, if_neg h11, if_neg h13, if_pos h15, if_pos h16]
        exact W.zret (v := 0) hx hb hr rfl (fun t ht hW => ⟨⟨0, (), rfl, (by show _ = _; rw [e9]), by rw [ht]; exact hP, hD⟩, hS.F ht⟩) hS.2.2 dMo_holds_183
    by_cases h17 : xq = 9
    · refine lv_tableIn (off := 149) (tgt := 167) hx hb dMo_holds_18 (by rw [h17]; decide) (by rw [h17]; decide) (by rw [h17]; rfl) (by decide) ?_
      refine lv_aload_n hx hb dMo_holds_167 rfl (lv_at hl 1 rfl) ?_
      refine va_get (D := D) (ci := 5) (v := .int vz) (C := RMo) (T := TMo) (N := 27) hx hb hw pinMo hown hE.1 hP 0 rfl rfl 22 (by decide) (hw _ wd_202) (fun _ h9 => h9) rfl dMo_holds_168 ?_
      refine lv_if_ne (tgt := 178) hx hb dMo_holds_171 (by decide) (fun h18 => ?_) (fun h18 => ?_)
      · refine lv_iconst (v := 1) hx hb dMo_holds_178 (by first | rfl | decide) ?_
        refine lv_goto (tgt := 183) hx hb dMo_holds_179 (by decide) ?_
        have e9 : FMo_holds xq vn vz vc vv = 1 := by simp only [FMo_holds, if_pos h1, if_neg h2, if_neg h3, if_neg h5, if_neg h6, if_neg h8, if_neg h9, if_neg h11, if_neg h13, if_neg h15, if_pos h17, if_neg h18]
        exact W.zret (v := 1) hx hb hr rfl (fun t ht hW => ⟨⟨1, (), rfl, (by show _ = _; rw [e9]), by rw [ht]; exact hP, hD⟩, hS.F ht⟩) hS.2.2 dMo_holds_183
      · refine lv_iload_n hx hb dMo_holds_174 rfl (lv_at hl 0 rfl) ?_
        refine lv_if_eq (tgt := 182) hx hb dMo_holds_175 (by decide) (fun _ => ?_) (fun h9 => absurd h9 (by decide))
        refine lv_iconst (v := 0) hx hb dMo_holds_182 (by first | rfl | decide) ?_
        have e9 : FMo_holds xq vn vz vc vv = 0 := by simp only [FMo_holds, if_pos h1, if_neg h2, if_neg h3, if_neg h5, if_neg h6, if_neg h8, if_neg h9, if_neg h11, if_neg h13, if_neg h15, if_pos h17, if_pos h18]
        exact W.zret (v := 0) hx hb hr rfl (fun t ht hW => ⟨⟨0, (), rfl, (by show _ = _; rw [e9]), by rw [ht]; exact hP, hD⟩, hS.F ht⟩) hS.2.2 dMo_holds_183
    by_cases h19 : xq = 10
    · refine lv_tableIn (off := 120) (tgt := 138) hx hb dMo_holds_18 (by rw [h19]; decide) (by rw [h19]; decide) (by rw [h19]; rfl) (by decide) ?_
      refine lv_iload_n hx hb dMo_holds_138 rfl (lv_at hl 0 rfl) ?_
      refine lv_if_ne (tgt := 146) hx hb dMo_holds_139 (by decide) (fun h9 => absurd h9 (by decide)) (fun _ => ?_)
      refine lv_iconst (v := 1) hx hb dMo_holds_142 (by first | rfl | decide) ?_
      refine lv_goto (tgt := 147) hx hb dMo_holds_143 (by decide) ?_
      have e9 : FMo_holds xq vn vz vc vv = 1 := by simp only [FMo_holds, if_pos h1, if_neg h2, if_neg h3, if_neg h5, if_neg h6, if_neg h8, if_neg h9, if_neg h11, if_neg h13, if_neg h15, if_neg h17, if_pos h19]
      exact W.zret (v := 1) hx hb hr rfl (fun t ht hW => ⟨⟨1, (), rfl, (by show _ = _; rw [e9]), by rw [ht]; exact hP, hD⟩, hS.F ht⟩) hS.2.2 dMo_holds_147
    by_cases h20 : xq = 11
    · refine lv_tableIn (off := 130) (tgt := 148) hx hb dMo_holds_18 (by rw [h20]; decide) (by rw [h20]; decide) (by rw [h20]; rfl) (by decide) ?_
      refine lv_iload_n hx hb dMo_holds_148 rfl (lv_at hl 0 rfl) ?_
      have e9 : FMo_holds xq vn vz vc vv = 0 := by simp only [FMo_holds, if_pos h1, if_neg h2, if_neg h3, if_neg h5, if_neg h6, if_neg h8, if_neg h9, if_neg h11, if_neg h13, if_neg h15, if_neg h17, if_neg h19, if_pos h20]
      exact W.zret (v := 0) hx hb hr rfl (fun t ht hW => ⟨⟨0, (), rfl, (by show _ = _; rw [e9]), by rw [ht]; exact hP, hD⟩, hS.F ht⟩) hS.2.2 dMo_holds_149
    by_cases h21 : xq = 12
    · refine lv_tableIn (off := 132) (tgt := 150) hx hb dMo_holds_18 (by rw [h21]; decide) (by rw [h21]; decide) (by rw [h21]; rfl) (by decide) ?_
      refine lv_aload_n hx hb dMo_holds_150 rfl (lv_at hl 1 rfl) ?_
      refine va_get (D := D) (ci := 5) (v := .int vz) (C := RMo) (T := TMo) (N := 27) hx hb hw pinMo hown hE.1 hP 0 rfl rfl 22 (by decide) (hw _ wd_202) (fun _ h9 => h9) rfl dMo_holds_151 ?_
      refine lv_if_ne (tgt := 165) hx hb dMo_holds_154 (by decide) (fun h22 => ?_) (fun h22 => ?_)
      · refine lv_iconst (v := 0) hx hb dMo_holds_165 (by first | rfl | decide) ?_
        have e9 : FMo_holds xq vn vz vc vv = 0 := by simp only [FMo_holds, if_pos h1, if_neg h2, if_neg h3, if_neg h5, if_neg h6, if_neg h8, if_neg h9, if_neg h11, if_neg h13, if_neg h15, if_neg h17, if_neg h19, if_neg h20, if_pos h21, if_neg h22]
        exact W.zret (v := 0) hx hb hr rfl (fun t ht hW => ⟨⟨0, (), rfl, (by show _ = _; rw [e9]), by rw [ht]; exact hP, hD⟩, hS.F ht⟩) hS.2.2 dMo_holds_166
      · refine lv_iload_n hx hb dMo_holds_157 rfl (lv_at hl 0 rfl) ?_
        refine lv_if_ne (tgt := 165) hx hb dMo_holds_158 (by decide) (fun h9 => absurd h9 (by decide)) (fun _ => ?_)
        refine lv_iconst (v := 1) hx hb dMo_holds_161 (by first | rfl | decide) ?_
        refine lv_goto (tgt := 166) hx hb dMo_holds_162 (by decide) ?_
        have e9 : FMo_holds xq vn vz vc vv = 1 := by simp only [FMo_holds, if_pos h1, if_neg h2, if_neg h3, if_neg h5, if_neg h6, if_neg h8, if_neg h9, if_neg h11, if_neg h13, if_neg h15, if_neg h17, if_neg h19, if_neg h20, if_pos h21, if_pos h22]
        exact W.zret (v := 1) hx hb hr rfl (fun t ht hW => ⟨⟨1, (), rfl, (by show _ = _; rw [e9]), by rw [ht]; exact hP, hD⟩, hS.F ht⟩) hS.2.2 dMo_holds_166
    have th2 := pq_ne (x := xq) (k := 0) (y := 0) (by first | rfl | decide) h2
    have th3 := pq_ne (x := xq) (k := 1) (y := 1) (by first | rfl | decide) h3
    have th5 := pq_ne (x := xq) (k := 2) (y := 2) (by first | rfl | decide) h5
    have th6 := pq_ne (x := xq) (k := 3) (y := 3) (by first | rfl | decide) h6
    have th8 := pq_ne (x := xq) (k := 4) (y := 4) (by first | rfl | decide) h8
    have th9 := pq_ne (x := xq) (k := 5) (y := 5) (by first | rfl | decide) h9
    have th11 := pq_ne (x := xq) (k := 6) (y := 6) (by first | rfl | decide) h11
    have th13 := pq_ne (x := xq) (k := 7) (y := 7) (by first | rfl | decide) h13
    have th15 := pq_ne (x := xq) (k := 8) (y := 8) (by first | rfl | decide) h15
    have th17 := pq_ne (x := xq) (k := 9) (y := 9) (by first | rfl | decide) h17
    have th19 := pq_ne (x := xq) (k := 10) (y := 10) (by first | rfl | decide) h19
    have th20 := pq_ne (x := xq) (k := 11) (y := 11) (by first | rfl | decide) h20
    have th21 := pq_ne (x := xq) (k := 12) (y := 12) (by first | rfl | decide) h21
    refine lv_tableOut (tgt := 167) hx hb dMo_holds_18 (by omega) (by decide) ?_
    refine lv_aload_n hx hb dMo_holds_167 rfl (lv_at hl 1 rfl) ?_
    refine va_get (D := D) (ci := 5) (v := .int vz) (C := RMo) (T := TMo) (N := 27) hx hb hw pinMo hown hE.1 hP 0 rfl rfl 22 (by decide) (hw _ wd_202) (fun _ h9 => h9) rfl dMo_holds_168 ?_
    refine lv_if_ne (tgt := 178) hx hb dMo_holds_171 (by decide) (fun h23 => ?_) (fun h23 => ?_)
    · refine lv_iconst (v := 1) hx hb dMo_holds_178 (by first | rfl | decide) ?_
      refine lv_goto (tgt := 183) hx hb dMo_holds_179 (by decide) ?_
      have e9 : FMo_holds xq vn vz vc vv = 1 := by simp only [FMo_holds, if_pos h1, if_neg h2, if_neg h3, if_neg h5, if_neg h6, if_neg h8, if_neg h9, if_neg h11, if_neg h13, if_neg h15, if_neg h17, if_neg h19, if_neg h20, if_neg h21, if_neg h23]
      exact W.zret (v := 1) hx hb hr rfl (fun t ht hW => ⟨⟨1, (), rfl, (by show _ = _; rw [e9]), by rw [ht]; exact hP, hD⟩, hS.F ht⟩) hS.2.2 dMo_holds_183
    · refine lv_iload_n hx hb dMo_holds_174 rfl (lv_at hl 0 rfl) ?_
      refine lv_if_eq (tgt := 182) hx hb dMo_holds_175 (by decide) (fun _ => ?_) (fun h9 => absurd h9 (by decide))
      refine lv_iconst (v := 0) hx hb dMo_holds_182 (by first | rfl | decide) ?_
      have e9 : FMo_holds xq vn vz vc vv = 0 := by simp only [FMo_holds, if_pos h1, if_neg h2, if_neg h3, if_neg h5, if_neg h6, if_neg h8, if_neg h9, if_neg h11, if_neg h13, if_neg h15, if_neg h17, if_neg h19, if_neg h20, if_neg h21, if_pos h23]
      exact W.zret (v := 0) hx hb hr rfl (fun t ht hW => ⟨⟨0, (), rfl, (by show _ = _; rw [e9]), by rw [ht]; exact hP, hD⟩, hS.F ht⟩) hS.2.2 dMo_holds_183
  · refine lv_iconst (v := 1) hx hb dMo_holds_11 (by first | rfl | decide) ?_
    refine lv_goto (tgt := 16) hx hb dMo_holds_12 (by decide) ?_
    refine lv_istore_n (lv' := [(2, .int 1), (0, .ref (ad 17)), (1, .int xq)]) hx hb dMo_holds_16 rfl hl (by decide) rfl (fun ls hl => ?_)
    refine lv_iload_n hx hb dMo_holds_17 rfl (lv_at hl 2 rfl) ?_
    by_cases h24 : xq = 0
    · refine lv_tableIn (off := 66) (tgt := 84) hx hb dMo_holds_18 (by rw [h24]; decide) (by rw [h24]; decide) (by rw [h24]; rfl) (by decide) ?_
      refine lv_aload_n hx hb dMo_holds_84 rfl (lv_at hl 1 rfl) ?_
      refine va_get (D := D) (ci := 5) (v := .int vz) (C := RMo) (T := TMo) (N := 27) hx hb hw pinMo hown hE.1 hP 0 rfl rfl 22 (by decide) (hw _ wd_202) (fun _ h9 => h9) rfl dMo_holds_85 ?_
      have e9 : FMo_holds xq vn vz vc vv = vz := by simp only [FMo_holds, if_neg h1, if_pos h24]
      exact W.zret (v := vz) hx hb hr (by first | rfl | assumption) (fun t ht hW => ⟨⟨vz, (), rfl, (by show _ = _; rw [e9]), by rw [ht]; exact hP, hD⟩, hS.F ht⟩) hS.2.2 dMo_holds_88
    by_cases h25 : xq = 1
    · refine lv_tableIn (off := 71) (tgt := 89) hx hb dMo_holds_18 (by rw [h25]; decide) (by rw [h25]; decide) (by rw [h25]; rfl) (by decide) ?_
      refine lv_aload_n hx hb dMo_holds_89 rfl (lv_at hl 1 rfl) ?_
      refine va_get (D := D) (ci := 5) (v := .int vz) (C := RMo) (T := TMo) (N := 27) hx hb hw pinMo hown hE.1 hP 0 rfl rfl 22 (by decide) (hw _ wd_202) (fun _ h9 => h9) rfl dMo_holds_90 ?_
      refine lv_if_ne (tgt := 100) hx hb dMo_holds_93 (by decide) (fun h26 => ?_) (fun h26 => ?_)
      · refine lv_iconst (v := 0) hx hb dMo_holds_100 (by first | rfl | decide) ?_
        have e9 : FMo_holds xq vn vz vc vv = 0 := by simp only [FMo_holds, if_neg h1, if_neg h24, if_pos h25, if_neg h26]
        exact W.zret (v := 0) hx hb hr rfl (fun t ht hW => ⟨⟨0, (), rfl, (by show _ = _; rw [e9]), by rw [ht]; exact hP, hD⟩, hS.F ht⟩) hS.2.2 dMo_holds_101
      · refine lv_iconst (v := 1) hx hb dMo_holds_96 (by first | rfl | decide) ?_
        refine lv_goto (tgt := 101) hx hb dMo_holds_97 (by decide) ?_
        have e9 : FMo_holds xq vn vz vc vv = 1 := by simp only [FMo_holds, if_neg h1, if_neg h24, if_pos h25, if_pos h26]
        exact W.zret (v := 1) hx hb hr rfl (fun t ht hW => ⟨⟨1, (), rfl, (by show _ = _; rw [e9]), by rw [ht]; exact hP, hD⟩, hS.F ht⟩) hS.2.2 dMo_holds_101
    by_cases h27 : xq = 2
    · refine lv_tableIn (off := 84) (tgt := 102) hx hb dMo_holds_18 (by rw [h27]; decide) (by rw [h27]; decide) (by rw [h27]; rfl) (by decide) ?_
      refine lv_aload_n hx hb dMo_holds_102 rfl (lv_at hl 1 rfl) ?_
      refine va_get (D := D) (ci := 5) (v := .int vc) (C := RMo) (T := TMo) (N := 27) hx hb hw pinMo hown hE.1 hP 0 rfl rfl 23 (by decide) (hw _ wd_206) (fun _ h9 => h9) rfl dMo_holds_103 ?_
      have e9 : FMo_holds xq vn vz vc vv = vc := by simp only [FMo_holds, if_neg h1, if_neg h24, if_neg h25, if_pos h27]
      exact W.zret (v := vc) hx hb hr (by first | rfl | assumption) (fun t ht hW => ⟨⟨vc, (), rfl, (by show _ = _; rw [e9]), by rw [ht]; exact hP, hD⟩, hS.F ht⟩) hS.2.2 dMo_holds_106
    by_cases h28 : xq = 3
    · refine lv_tableIn (off := 89) (tgt := 107) hx hb dMo_holds_18 (by rw [h28]; decide) (by rw [h28]; decide) (by rw [h28]; rfl) (by decide) ?_
      refine lv_aload_n hx hb dMo_holds_107 rfl (lv_at hl 1 rfl) ?_
      refine va_get (D := D) (ci := 5) (v := .int vc) (C := RMo) (T := TMo) (N := 27) hx hb hw pinMo hown hE.1 hP 0 rfl rfl 23 (by decide) (hw _ wd_206) (fun _ h9 => h9) rfl dMo_holds_108 ?_
      refine lv_if_ne (tgt := 118) hx hb dMo_holds_111 (by decide) (fun h29 => ?_) (fun h29 => ?_)
      · refine lv_iconst (v := 0) hx hb dMo_holds_118 (by first | rfl | decide) ?_
        have e9 : FMo_holds xq vn vz vc vv = 0 := by simp only [FMo_holds, if_neg h1, if_neg h24, if_neg h25, if_neg h27, if_pos h28, if_neg h29]
        exact W.zret (v := 0) hx hb hr rfl (fun t ht hW => ⟨⟨0, (), rfl, (by show _ = _; rw [e9]), by rw [ht]; exact hP, hD⟩, hS.F ht⟩) hS.2.2 dMo_holds_119
      · refine lv_iconst (v := 1) hx hb dMo_holds_114 (by first | rfl | decide) ?_
        refine lv_goto (tgt := 119) hx hb dMo_holds_115 (by decide) ?_
        have e9 : FMo_holds xq vn vz vc vv = 1 := by simp only [FMo_holds, if_neg h1, if_neg h24, if_neg h25, if_neg h27, if_pos h28, if_pos h29]
        exact W.zret (v := 1) hx hb hr rfl (fun t ht hW => ⟨⟨1, (), rfl, (by show _ = _; rw [e9]), by rw [ht]; exact hP, hD⟩, hS.F ht⟩) hS.2.2 dMo_holds_119
    by_cases h30 : xq = 4
    · refine lv_tableIn (off := 102) (tgt := 120) hx hb dMo_holds_18 (by rw [h30]; decide) (by rw [h30]; decide) (by rw [h30]; rfl) (by decide) ?_
      refine lv_aload_n hx hb dMo_holds_120 rfl (lv_at hl 1 rfl) ?_
      refine va_get (D := D) (ci := 5) (v := .int vn) (C := RMo) (T := TMo) (N := 27) hx hb hw pinMo hown hE.1 hP 0 rfl rfl 21 (by decide) (hw _ wd_201) (fun _ h9 => h9) rfl dMo_holds_121 ?_
      have e9 : FMo_holds xq vn vz vc vv = vn := by simp only [FMo_holds, if_neg h1, if_neg h24, if_neg h25, if_neg h27, if_neg h28, if_pos h30]
      exact W.zret (v := vn) hx hb hr (by first | rfl | assumption) (fun t ht hW => ⟨⟨vn, (), rfl, (by show _ = _; rw [e9]), by rw [ht]; exact hP, hD⟩, hS.F ht⟩) hS.2.2 dMo_holds_124
    by_cases h31 : xq = 5
    · refine lv_tableIn (off := 107) (tgt := 125) hx hb dMo_holds_18 (by rw [h31]; decide) (by rw [h31]; decide) (by rw [h31]; rfl) (by decide) ?_
      refine lv_aload_n hx hb dMo_holds_125 rfl (lv_at hl 1 rfl) ?_
      refine va_get (D := D) (ci := 5) (v := .int vn) (C := RMo) (T := TMo) (N := 27) hx hb hw pinMo hown hE.1 hP 0 rfl rfl 21 (by decide) (hw _ wd_201) (fun _ h9 => h9) rfl dMo_holds_126 ?_
      refine lv_if_ne (tgt := 136) hx hb dMo_holds_129 (by decide) (fun h32 => ?_) (fun h32 => ?_)
      · refine lv_iconst (v := 0) hx hb dMo_holds_136 (by first | rfl | decide) ?_
        have e9 : FMo_holds xq vn vz vc vv = 0 := by simp only [FMo_holds, if_neg h1, if_neg h24, if_neg h25, if_neg h27, if_neg h28, if_neg h30, if_pos h31, if_neg h32]
        exact W.zret (v := 0) hx hb hr rfl (fun t ht hW => ⟨⟨0, (), rfl, (by show _ = _; rw [e9]), by rw [ht]; exact hP, hD⟩, hS.F ht⟩) hS.2.2 dMo_holds_137
      · refine lv_iconst (v := 1) hx hb dMo_holds_132 (by first | rfl | decide) ?_
        refine lv_goto (tgt := 137) hx hb dMo_holds_133 (by decide) ?_
        have e9 : FMo_holds xq vn vz vc vv = 1 := by simp only [FMo_holds, if_neg h1, if_neg h24, if_neg h25, if_neg h27, if_neg h28, if_neg h30, if_pos h31, if_pos h32]
        exact W.zret (v := 1) hx hb hr rfl (fun t ht hW => ⟨⟨1, (), rfl, (by show _ = _; rw [e9]), by rw [ht]; exact hP, hD⟩, hS.F ht⟩) hS.2.2 dMo_holds_137
    by_cases h33 : xq = 6
    · refine lv_tableIn (off := 149) (tgt := 167) hx hb dMo_holds_18 (by rw [h33]; decide) (by rw [h33]; decide) (by rw [h33]; rfl) (by decide) ?_
      refine lv_aload_n hx hb dMo_holds_167 rfl (lv_at hl 1 rfl) ?_
      refine va_get (D := D) (ci := 5) (v := .int vz) (C := RMo) (T := TMo) (N := 27) hx hb hw pinMo hown hE.1 hP 0 rfl rfl 22 (by decide) (hw _ wd_202) (fun _ h9 => h9) rfl dMo_holds_168 ?_
      refine lv_if_ne (tgt := 178) hx hb dMo_holds_171 (by decide) (fun h34 => ?_) (fun h34 => ?_)
      · refine lv_iconst (v := 1) hx hb dMo_holds_178 (by first | rfl | decide) ?_
        refine lv_goto (tgt := 183) hx hb dMo_holds_179 (by decide) ?_
        have e9 : FMo_holds xq vn vz vc vv = 1 := by simp only [FMo_holds, if_neg h1, if_neg h24, if_neg h25, if_neg h27, if_neg h28, if_neg h30, if_neg h31, if_pos h33, if_neg h34]
        exact W.zret (v := 1) hx hb hr rfl (fun t ht hW => ⟨⟨1, (), rfl, (by show _ = _; rw [e9]), by rw [ht]; exact hP, hD⟩, hS.F ht⟩) hS.2.2 dMo_holds_183
      · refine lv_iload_n hx hb dMo_holds_174 rfl (lv_at hl 0 rfl) ?_
        refine lv_if_eq (tgt := 182) hx hb dMo_holds_175 (by decide) (fun h9 => absurd h9 (by decide)) (fun _ => ?_)
        refine lv_iconst (v := 1) hx hb dMo_holds_178 (by first | rfl | decide) ?_
        refine lv_goto (tgt := 183) hx hb dMo_holds_179 (by decide) ?_
        have e9 : FMo_holds xq vn vz vc vv = 1 := by simp only [FMo_holds, if_neg h1, if_neg h24, if_neg h25, if_neg h27, if_neg h28, if_neg h30, if_neg h31, if_pos h33, if_pos h34]
        exact W.zret (v := 1) hx hb hr rfl (fun t ht hW => ⟨⟨1, (), rfl, (by show _ = _; rw [e9]), by rw [ht]; exact hP, hD⟩, hS.F ht⟩) hS.2.2 dMo_holds_183
    by_cases h35 : xq = 7
    · refine lv_tableIn (off := 149) (tgt := 167) hx hb dMo_holds_18 (by rw [h35]; decide) (by rw [h35]; decide) (by rw [h35]; rfl) (by decide) ?_
      refine lv_aload_n hx hb dMo_holds_167 rfl (lv_at hl 1 rfl) ?_
      refine va_get (D := D) (ci := 5) (v := .int vz) (C := RMo) (T := TMo) (N := 27) hx hb hw pinMo hown hE.1 hP 0 rfl rfl 22 (by decide) (hw _ wd_202) (fun _ h9 => h9) rfl dMo_holds_168 ?_
      refine lv_if_ne (tgt := 178) hx hb dMo_holds_171 (by decide) (fun h36 => ?_) (fun h36 => ?_)
      · refine lv_iconst (v := 1) hx hb dMo_holds_178 (by first | rfl | decide) ?_
        refine lv_goto (tgt := 183) hx hb dMo_holds_179 (by decide) ?_
        have e9 : FMo_holds xq vn vz vc vv = 1 := by simp only [FMo_holds, if_neg h1, if_neg h24, if_neg h25, if_neg h27, if_neg h28, if_neg h30, if_neg h31, if_neg h33, if_pos h35, if_neg h36]
        exact W.zret (v := 1) hx hb hr rfl (fun t ht hW => ⟨⟨1, (), rfl, (by show _ = _; rw [e9]), by rw [ht]; exact hP, hD⟩, hS.F ht⟩) hS.2.2 dMo_holds_183
      · refine lv_iload_n hx hb dMo_holds_174 rfl (lv_at hl 0 rfl) ?_
        refine lv_if_eq (tgt := 182) hx hb dMo_holds_175 (by decide) (fun h9 => absurd h9 (by decide)) (fun _ => ?_)
        refine lv_iconst (v := 1) hx hb dMo_holds_178 (by first | rfl | decide) ?_
        refine lv_goto (tgt := 183) hx hb dMo_holds_179 (by decide) ?_
        have e9 : FMo_holds xq vn vz vc vv = 1 := by simp only [FMo_holds, if_neg h1, if_neg h24, if_neg h25, if_neg h27, if_neg h28, if_neg h30, if_neg h31, if_neg h33, if_pos h35, if_pos h36]
        exact W.zret (v := 1) hx hb hr rfl (fun t ht hW => ⟨⟨1, (), rfl, (by show _ = _; rw [e9]), by rw [ht]; exact hP, hD⟩, hS.F ht⟩) hS.2.2 dMo_holds_183
    by_cases h37 : xq = 8
    · refine lv_tableIn (off := 149) (tgt := 167) hx hb dMo_holds_18 (by rw [h37]; decide) (by rw [h37]; decide) (by rw [h37]; rfl) (by decide) ?_
      refine lv_aload_n hx hb dMo_holds_167 rfl (lv_at hl 1 rfl) ?_
      refine va_get (D := D) (ci := 5) (v := .int vz) (C := RMo) (T := TMo) (N := 27) hx hb hw pinMo hown hE.1 hP 0 rfl rfl 22 (by decide) (hw _ wd_202) (fun _ h9 => h9) rfl dMo_holds_168 ?_
      refine lv_if_ne (tgt := 178) hx hb dMo_holds_171 (by decide) (fun h38 => ?_) (fun h38 => ?_)
      · refine lv_iconst (v := 1) hx hb dMo_holds_178 (by first | rfl | decide) ?_
        refine lv_goto (tgt := 183) hx hb dMo_holds_179 (by decide) ?_
        have e9 : FMo_holds xq vn vz vc vv = 1 := by simp only [FMo_holds, if_neg h1, if_neg h24, if_neg h25, if_neg h27, if_neg h28, if_neg h30, if_neg h31, if_neg h33, if_neg h35, if_pos h37, if_neg h38]
        exact W.zret (v := 1) hx hb hr rfl (fun t ht hW => ⟨⟨1, (), rfl, (by show _ = _; rw [e9]), by rw [ht]; exact hP, hD⟩, hS.F ht⟩) hS.2.2 dMo_holds_183
      · refine lv_iload_n hx hb dMo_holds_174 rfl (lv_at hl 0 rfl) ?_
        refine lv_if_eq (tgt := 182) hx hb dMo_holds_175 (by decide) (fun h9 => absurd h9 (by decide)) (fun _ => ?_)
        refine lv_iconst (v := 1) hx hb dMo_holds_178 (by first | rfl | decide) ?_
        refine lv_goto (tgt := 183) hx hb dMo_holds_179 (by decide) ?_
        have e9 : FMo_holds xq vn vz vc vv = 1 := by simp only [FMo_holds, if_neg h1, if_neg h24, if_neg h25, if_neg h27, if_neg h28, if_neg h30, if_neg h31, if_neg h33, if_neg h35, if_pos h37, if_pos h38]
        exact W.zret (v := 1) hx hb hr rfl (fun t ht hW => ⟨⟨1, (), rfl, (by show _ = _; rw [e9]), by rw [ht]; exact hP, hD⟩, hS.F ht⟩) hS.2.2 dMo_holds_183
    by_cases h39 : xq = 9
    · refine lv_tableIn (off := 149) (tgt := 167) hx hb dMo_holds_18 (by rw [h39]; decide) (by rw [h39]; decide) (by rw [h39]; rfl) (by decide) ?_
      refine lv_aload_n hx hb dMo_holds_167 rfl (lv_at hl 1 rfl) ?_
      refine va_get (D := D) (ci := 5) (v := .int vz) (C := RMo) (T := TMo) (N := 27) hx hb hw pinMo hown hE.1 hP 0 rfl rfl 22 (by decide) (hw _ wd_202) (fun _ h9 => h9) rfl dMo_holds_168 ?_
      refine lv_if_ne (tgt := 178) hx hb dMo_holds_171 (by decide) (fun h40 => ?_) (fun h40 => ?_)
      · refine lv_iconst (v := 1) hx hb dMo_holds_178 (by first | rfl | decide) ?_
        refine lv_goto (tgt := 183) hx hb dMo_holds_179 (by decide) ?_
        have e9 : FMo_holds xq vn vz vc vv = 1 := by simp only [FMo_holds, if_neg h1, if_neg h24, if_neg h25, if_neg h27, if_neg h28, if_neg h30, if_neg h31, if_neg h33, if_neg h35, if_neg h37, if_pos h39, if_neg h40]
        exact W.zret (v := 1) hx hb hr rfl (fun t ht hW => ⟨⟨1, (), rfl, (by show _ = _; rw [e9]), by rw [ht]; exact hP, hD⟩, hS.F ht⟩) hS.2.2 dMo_holds_183
      · refine lv_iload_n hx hb dMo_holds_174 rfl (lv_at hl 0 rfl) ?_
        refine lv_if_eq (tgt := 182) hx hb dMo_holds_175 (by decide) (fun h9 => absurd h9 (by decide)) (fun _ => ?_)
        refine lv_iconst (v := 1) hx hb dMo_holds_178 (by first | rfl | decide) ?_
        refine lv_goto (tgt := 183) hx hb dMo_holds_179 (by decide) ?_
        have e9 : FMo_holds xq vn vz vc vv = 1 := by simp only [FMo_holds, if_neg h1, if_neg h24, if_neg h25, if_neg h27, if_neg h28, if_neg h30, if_neg h31, if_neg h33, if_neg h35, if_neg h37, if_pos h39, if_pos h40]
        exact W.zret (v := 1) hx hb hr rfl (fun t ht hW => ⟨⟨1, (), rfl, (by show _ = _; rw [e9]), by rw [ht]; exact hP, hD⟩, hS.F ht⟩) hS.2.2 dMo_holds_183
    by_cases h41 : xq = 10
    · refine lv_tableIn (off := 120) (tgt := 138) hx hb dMo_holds_18 (by rw [h41]; decide) (by rw [h41]; decide) (by rw [h41]; rfl) (by decide) ?_
      refine lv_iload_n hx hb dMo_holds_138 rfl (lv_at hl 0 rfl) ?_
      refine lv_if_ne (tgt := 146) hx hb dMo_holds_139 (by decide) (fun _ => ?_) (fun h9 => absurd h9 (by decide))
      refine lv_iconst (v := 0) hx hb dMo_holds_146 (by first | rfl | decide) ?_
      have e9 : FMo_holds xq vn vz vc vv = 0 := by simp only [FMo_holds, if_neg h1, if_neg h24, if_neg h25, if_neg h27, if_neg h28, if_neg h30, if_neg h31, if_neg h33, if_neg h35, if_neg h37, if_neg h39, if_pos h41]
      exact W.zret (v := 0) hx hb hr rfl (fun t ht hW => ⟨⟨0, (), rfl, (by show _ = _; rw [e9]), by rw [ht]; exact hP, hD⟩, hS.F ht⟩) hS.2.2 dMo_holds_147
    by_cases h42 : xq = 11
    · refine lv_tableIn (off := 130) (tgt := 148) hx hb dMo_holds_18 (by rw [h42]; decide) (by rw [h42]; decide) (by rw [h42]; rfl) (by decide) ?_
      refine lv_iload_n hx hb dMo_holds_148 rfl (lv_at hl 0 rfl) ?_
      have e9 : FMo_holds xq vn vz vc vv = 1 := by simp only [FMo_holds, if_neg h1, if_neg h24, if_neg h25, if_neg h27, if_neg h28, if_neg h30, if_neg h31, if_neg h33, if_neg h35, if_neg h37, if_neg h39, if_neg h41, if_pos h42]
      exact W.zret (v := 1) hx hb hr rfl (fun t ht hW => ⟨⟨1, (), rfl, (by show _ = _; rw [e9]), by rw [ht]; exact hP, hD⟩, hS.F ht⟩) hS.2.2 dMo_holds_149
    by_cases h43 : xq = 12
    · refine lv_tableIn (off := 132) (tgt := 150) hx hb dMo_holds_18 (by rw [h43]; decide) (by rw [h43]; decide) (by rw [h43]; rfl) (by decide) ?_
      refine lv_aload_n hx hb dMo_holds_150 rfl (lv_at hl 1 rfl) ?_
      refine va_get (D := D) (ci := 5) (v := .int vz) (C := RMo) (T := TMo) (N := 27) hx hb hw pinMo hown hE.1 hP 0 rfl rfl 22 (by decide) (hw _ wd_202) (fun _ h9 => h9) rfl dMo_holds_151 ?_
      refine lv_if_ne (tgt := 165) hx hb dMo_holds_154 (by decide) (fun h44 => ?_) (fun h44 => ?_)
      · refine lv_iconst (v := 0) hx hb dMo_holds_165 (by first | rfl | decide) ?_
        have e9 : FMo_holds xq vn vz vc vv = 0 := by simp only [FMo_holds, if_neg h1, if_neg h24, if_neg h25, if_neg h27, if_neg h28, if_neg h30, if_neg h31, if_neg h33, if_neg h35, if_neg h37, if_neg h39, if_neg h41, if_neg h42, if_pos h43, if_neg h44]
        exact W.zret (v := 0) hx hb hr rfl (fun t ht hW => ⟨⟨0, (), rfl, (by show _ = _; rw [e9]), by rw [ht]; exact hP, hD⟩, hS.F ht⟩) hS.2.2 dMo_holds_166
      · refine lv_iload_n hx hb dMo_holds_157 rfl (lv_at hl 0 rfl) ?_
        refine lv_if_ne (tgt := 165) hx hb dMo_holds_158 (by decide) (fun _ => ?_) (fun h9 => absurd h9 (by decide))
        refine lv_iconst (v := 0) hx hb dMo_holds_165 (by first | rfl | decide) ?_
        have e9 : FMo_holds xq vn vz vc vv = 0 := by simp only [FMo_holds, if_neg h1, if_neg h24, if_neg h25, if_neg h27, if_neg h28, if_neg h30, if_neg h31, if_neg h33, if_neg h35, if_neg h37, if_neg h39, if_neg h41, if_neg h42, if_pos h43, if_pos h44]
        exact W.zret (v := 0) hx hb hr rfl (fun t ht hW => ⟨⟨0, (), rfl, (by show _ = _; rw [e9]), by rw [ht]; exact hP, hD⟩, hS.F ht⟩) hS.2.2 dMo_holds_166
    have th24 := pq_ne (x := xq) (k := 0) (y := 0) (by first | rfl | decide) h24
    have th25 := pq_ne (x := xq) (k := 1) (y := 1) (by first | rfl | decide) h25
    have th27 := pq_ne (x := xq) (k := 2) (y := 2) (by first | rfl | decide) h27
    have th28 := pq_ne (x := xq) (k := 3) (y := 3) (by first | rfl | decide) h28
    have th30 := pq_ne (x := xq) (k := 4) (y := 4) (by first | rfl | decide) h30
    have th31 := pq_ne (x := xq) (k := 5) (y := 5) (by first | rfl | decide) h31
    have th33 := pq_ne (x := xq) (k := 6) (y := 6) (by first | rfl | decide) h33
    have th35 := pq_ne (x := xq) (k := 7) (y := 7) (by first | rfl | decide) h35
    have th37 := pq_ne (x := xq) (k := 8) (y := 8) (by first | rfl | decide) h37
    have th39 := pq_ne (x := xq) (k := 9) (y := 9) (by first | rfl | decide) h39
    have th41 := pq_ne (x := xq) (k := 10) (y := 10) (by first | rfl | decide) h41
    have th42 := pq_ne (x := xq) (k := 11) (y := 11) (by first | rfl | decide) h42
    have th43 := pq_ne (x := xq) (k := 12) (y := 12) (by first | rfl | decide) h43
    refine lv_tableOut (tgt := 167) hx hb dMo_holds_18 (by omega) (by decide) ?_
    refine lv_aload_n hx hb dMo_holds_167 rfl (lv_at hl 1 rfl) ?_
    refine va_get (D := D) (ci := 5) (v := .int vz) (C := RMo) (T := TMo) (N := 27) hx hb hw pinMo hown hE.1 hP 0 rfl rfl 22 (by decide) (hw _ wd_202) (fun _ h9 => h9) rfl dMo_holds_168 ?_
    refine lv_if_ne (tgt := 178) hx hb dMo_holds_171 (by decide) (fun h45 => ?_) (fun h45 => ?_)
    · refine lv_iconst (v := 1) hx hb dMo_holds_178 (by first | rfl | decide) ?_
      refine lv_goto (tgt := 183) hx hb dMo_holds_179 (by decide) ?_
      have e9 : FMo_holds xq vn vz vc vv = 1 := by simp only [FMo_holds, if_neg h1, if_neg h24, if_neg h25, if_neg h27, if_neg h28, if_neg h30, if_neg h31, if_neg h33, if_neg h35, if_neg h37, if_neg h39, if_neg h41, if_neg h42, if_neg h43, if_neg h45]
      exact W.zret (v := 1) hx hb hr rfl (fun t ht hW => ⟨⟨1, (), rfl, (by show _ = _; rw [e9]), by rw [ht]; exact hP, hD⟩, hS.F ht⟩) hS.2.2 dMo_holds_183
    · refine lv_iload_n hx hb dMo_holds_174 rfl (lv_at hl 0 rfl) ?_
      refine lv_if_eq (tgt := 182) hx hb dMo_holds_175 (by decide) (fun h9 => absurd h9 (by decide)) (fun _ => ?_)
      refine lv_iconst (v := 1) hx hb dMo_holds_178 (by first | rfl | decide) ?_
      refine lv_goto (tgt := 183) hx hb dMo_holds_179 (by decide) ?_
      have e9 : FMo_holds xq vn vz vc vv = 1 := by simp only [FMo_holds, if_neg h1, if_neg h24, if_neg h25, if_neg h27, if_neg h28, if_neg h30, if_neg h31, if_neg h33, if_neg h35, if_neg h37, if_neg h39, if_neg h41, if_neg h42, if_neg h43, if_pos h45]
      exact W.zret (v := 1) hx hb hr rfl (fun t ht hW => ⟨⟨1, (), rfl, (by show _ = _; rw [e9]), by rw [ht]; exact hP, hD⟩, hS.F ht⟩) hS.2.2 dMo_holds_183
def FMo_goal (xs : Int32) (xv : Int32) (vp : Int32) : Int32 := if (xv / 2) ≤ xs then (vp + 4) + (2 * (xs - xv)) else (vp + 4) + (2 * xs)
set_option maxHeartbeats 4000000 in
set_option maxRecDepth 100000 in
theorem k_Mo_goal (l : Launch) (D : va_G) (ad : Nat → Nat) (cI cS : ClassId) (xs : Int32) (xv : Int32) (mq : Int32) (mn : Int32) (me : Int32) (mo : Int32) (mt : Int32) (mx : Int32) (mp : Int32) (mz : Int32) (mu : Int32) (vn : Int32) (vz : Int32) (vc : Int32) (vv : Int32) (vp : Int32) (ve : Int32) (mK : Nat → Int32) (mA : Nat → Int32) (mB : Nat → Int32) (mC : Nat → Int32) (mf : Nat → Int32) (ml : Nat → Int32) (mc : Nat → Int32) (mL : Nat → Int32) (md : Nat → Int32) (mi : Nat → Int32) (mr : Nat → Int32) (mw : Nat → Int32) : pq_I l yMo_goal (.code yMo_goal cMo_goal 3 (some .int) :: pq_ws) { frames := 0, cells := 0, slots := 0, locals := 0 } D cI cS [.ref (ad 17), .int xs, .int xv] (wM ad cI cS mq mn me mo mt mx mp mz mu vn vz vc vv vp ve mK mA mB mC mf ml mc mL md mi mr mw) (FMo_goal xs xv vp) (wM ad cI cS mq mn me mo mt mx mp mz mu vn vz vc vv vp ve mK mA mB mC mf ml mc mL md mi mr mw) := by
  intro sz
  refine Met.ofW (cc := cMo_goal) (maxL := 3) (ret := (some .int)) (by decide) rfl ?_
  intro p e s m args below meth c s₁ B hml hv
  obtain ⟨rfl, hsz, hP, hD0, hE⟩ := hv
  have hx := B.exec
  have hb := B.bytes
  have hr := B.returns
  have hts := atoms_spec (ws := (.code yMo_goal cMo_goal 3 (some .int) :: pq_ws : List Cond)) B.pre
  have hw : ∀ w ∈ pq_ws, w.before _ s = true := fun w h => hts w (List.mem_cons_of_mem _ h)
  have hown : s.vm.findClass RMo = some m.cls := findClass_of_methodNamed B.named
  have hlocks := B.notSynchronized
  subst hsz
  have hD := hD0.self (sz := s.heap.size)
  have hA : ∀ q : Nat, s.heap.size ≤ q → va_A (wM ad cI cS mq mn me mo mt mx mp mz mu vn vz vc vv vp ve mK mA mB mC mf ml mc mL md mi mr mw) s.heap.size q := fun q h => Or.inr h
  have hS : va_S (va_A (wM ad cI cS mq mn me mo mt mx mp mz mu vn vz vc vv vp ve mK mA mB mC mf ml mc mL md mi mr mw) s.heap.size) s.heap s.heap [] := va_S.rf
  have hl := lv_entry ([.ref (ad 17), .int xs, .int xv] : List Value) (n := 3) (Nat.le_of_ble_eq_true rfl)
  rw [lg_entry_eq]
  generalize (lg_sl ([.ref (ad 17), .int xs, .int xv] : List Value) ++ List.replicate (3 - (lg_sl ([.ref (ad 17), .int xs, .int xv] : List Value)).length) Slot.unset).toArray = ls at hl ⊢
  have hl : lv_has ls 3 [(0, .ref (ad 17)), (1, .int xs), (2, .int xv)] := hl
  refine lv_aload_n hx hb dMo_goal_0 rfl (lv_at hl 0 rfl) ?_
  refine va_get (D := D) (ci := 5) (v := .int vp) (C := RMo) (T := TMo) (N := 27) hx hb hw pinMo hown hE.1 hP 0 rfl rfl 25 (by decide) (hw _ wd_212) (fun _ h9 => h9) rfl dMo_goal_1 ?_
  refine lv_iconst (v := 4) hx hb dMo_goal_4 (by first | rfl | decide) ?_
  refine lv_iadd hx hb dMo_goal_5 ?_
  refine lv_iconst (v := 2) hx hb dMo_goal_6 (by first | rfl | decide) ?_
  refine lv_iload_n hx hb dMo_goal_7 rfl (lv_at hl 1 rfl) ?_
  refine lv_iload_n hx hb dMo_goal_8 rfl (lv_at hl 2 rfl) ?_
  refine lv_iconst (v := 2) hx hb dMo_goal_9 (by first | rfl | decide) ?_
  refine lv_idiv hx hb dMo_goal_10 (by decide) ?_
  refine lv_icmp_ge (tgt := 18) hx hb dMo_goal_11 (by decide) (fun h1 => ?_) (fun h1 => ?_)
  · refine lv_iload_n hx hb dMo_goal_18 rfl (lv_at hl 1 rfl) ?_
    refine lv_iload_n hx hb dMo_goal_19 rfl (lv_at hl 2 rfl) ?_
    refine lv_isub hx hb dMo_goal_20 ?_
    refine lv_imul hx hb dMo_goal_21 ?_
    refine lv_iadd hx hb dMo_goal_22 ?_
    have e9 : FMo_goal xs xv vp = (vp + 4) + (2 * (xs - xv)) := by simp only [FMo_goal, if_pos h1]
    exact W.iret (v := (vp + 4) + (2 * (xs - xv))) hx hb hr (fun t ht hW => ⟨⟨(vp + 4) + (2 * (xs - xv)), (), rfl, (by show _ = _; rw [e9]), by rw [ht]; exact hP, hD⟩, hS.F ht⟩) hS.2.2 dMo_goal_23
  · refine lv_iload_n hx hb dMo_goal_14 rfl (lv_at hl 1 rfl) ?_
    refine lv_goto (tgt := 21) hx hb dMo_goal_15 (by decide) ?_
    refine lv_imul hx hb dMo_goal_21 ?_
    refine lv_iadd hx hb dMo_goal_22 ?_
    have e9 : FMo_goal xs xv vp = (vp + 4) + (2 * xs) := by simp only [FMo_goal, if_neg h1]
    exact W.iret (v := (vp + 4) + (2 * xs)) hx hb hr (fun t ht hW => ⟨⟨(vp + 4) + (2 * xs), (), rfl, (by show _ = _; rw [e9]), by rw [ht]; exact hP, hD⟩, hS.F ht⟩) hS.2.2 dMo_goal_23
