theorem wd_277 : Cond.fieldLink RMo 22 RMo "first" "[I" ∈ pq_ws := pq_memT 545 (by decide +kernel) (by decide +kernel)
theorem wd_278 : Cond.fieldLink RMo 78 RMo "end" "I" ∈ pq_ws := pq_memT 549 (by decide +kernel) (by decide +kernel)
def LMo_fresh_2 : Nat → (Int32) → (Nat → Int32) → (Nat → Int32) → (Nat) → Nat × Int32
  | 0, _, _, _, i => (i, 0)
  | n + 1, xk, mK, mB, i => if xk ≤ (nI i) then (i, 0) else if (mK (nI i).toNatClampNeg) = 10 then if (mB (nI i).toNatClampNeg) = (mB xk.toNatClampNeg) then (i, 1) else LMo_fresh_2 n xk mK mB (i + 1) else LMo_fresh_2 n xk mK mB (i + 1)
set_option maxHeartbeats 4000000 in
set_option maxRecDepth 100000 in
theorem qMo_fresh_2 {p : Program} {l : Launch} {e : Env} {R : Room} {s : State} {m : MethodId} {args : Array Value} {below : List Frame} {meth : Method} {c : Code} {Q : State → Prop} {A : Nat → Prop} (D : va_G) (ad : Nat → Nat) (cI cS : ClassId) (hx : p.tables.exec = Jvm.exec) (hb : c.code = cMo_fresh) (hml : c.maxLocals = 4) (hw : ∀ w ∈ pq_ws, w.before args s = true) (hown : s.vm.findClass RMo = some m.cls) (hE : pq_E D cI cS s) (hA : ∀ q : Nat, s.heap.size ≤ q → A q) (xk : Int32) (k0 : Nat) (hk : xk = nI k0) (hk1 : k0 < 160) : ∀ (n : Nat) (i : Nat) (mq : Int32) (mn : Int32) (me : Int32) (mo : Int32) (mt : Int32) (mx : Int32) (mp : Int32) (mz : Int32) (mu : Int32) (vn : Int32) (vz : Int32) (vc : Int32) (vv : Int32) (vp : Int32) (ve : Int32) (mK : Nat → Int32) (mA : Nat → Int32) (mB : Nat → Int32) (mC : Nat → Int32) (mf : Nat → Int32) (ml : Nat → Int32) (mc : Nat → Int32) (mL : Nat → Int32) (md : Nat → Int32) (mi : Nat → Int32) (mr : Nat → Int32) (mw : Nat → Int32) (ls : Array Slot) (H : Heap) (locs : List Loc), (i < 2 ^ 31) → (k0 - i) < n → lv_has ls 4 [(0, .ref (ad 17)), (2, .int xk), (3, .int (nI i))] → va_P D vwCl (wM ad cI cS mq mn me mo mt mx mp mz mu vn vz vc vv vp ve mK mA mB mC mf ml mc mL md mi mr mw) H → va_D A (wM ad cI cS mq mn me mo mt mx mp mz mu vn vz vc vv vp ve mK mA mB mC mf ml mc mL md mi mr mw) → va_S A s.heap H locs → ((LMo_fresh_2 n xk mK mB i).2 = 1 → ∀ (ls : Array Slot) (H : Heap) (locs : List Loc), lv_has ls 4 [(0, .ref (ad 17)), (2, .int xk), (3, .int (nI ((LMo_fresh_2 n xk mK mB i).1)))] → va_P D vwCl (wM ad cI cS mq mn me mo mt mx mp mz mu vn vz vc vv vp ve mK mA mB mC mf ml mc mL md mi mr mw) H → va_D A (wM ad cI cS mq mn me mo mt mx mp mz mu vn vz vc vv vp ve mK mA mB mC mf ml mc mL md mi mr mw) → va_S A s.heap H locs → W p l e R s m args below meth c H locs 0 0 Q (F0 m 33 ls [])) → (¬ (LMo_fresh_2 n xk mK mB i).2 = 1 → ∀ (ls : Array Slot) (H : Heap) (locs : List Loc), lv_has ls 4 [(0, .ref (ad 17)), (2, .int xk), (3, .int (nI ((LMo_fresh_2 n xk mK mB i).1)))] → va_P D vwCl (wM ad cI cS mq mn me mo mt mx mp mz mu vn vz vc vv vp ve mK mA mB mC mf ml mc mL md mi mr mw) H → va_D A (wM ad cI cS mq mn me mo mt mx mp mz mu vn vz vc vv vp ve mK mA mB mC mf ml mc mL md mi mr mw) → va_S A s.heap H locs → W p l e R s m args below meth c H locs 0 0 Q (F0 m 41 ls [])) → W p l e R s m args below meth c H locs 0 0 Q (F0 m 2 ls []) := by
  intro n
  induction n with
  | zero =>
    intro i mq mn me mo mt mx mp mz mu vn vz vc vv vp ve mK mA mB mC mf ml mc mL md mi mr mw ls H locs hi hm hl hP hD hS kk kk2
    exact absurd hm (Nat.not_lt_zero _)
  | succ n ih =>
    intro i mq mn me mo mt mx mp mz mu vn vz vc vv vp ve mK mA mB mC mf ml mc mL md mi mr mw ls H locs hi hm hl hP hD hS kk kk2
    refine lv_iload_n hx hb dMo_fresh_2 rfl (lv_at hl 2 rfl) ?_
    refine lv_iload_n hx hb dMo_fresh_3 rfl (lv_at hl 1 rfl) ?_
    refine lv_icmp_ge (tgt := 41) hx hb dMo_fresh_4 (by decide) (fun h1 => ?_) (fun h1 => ?_)
    · have e9 : LMo_fresh_2 (n + 1) xk mK mB i = (i, 0) := by simp only [LMo_fresh_2, if_pos h1]
      rw [e9] at kk2
      exact kk2 (show ¬ (0 : Int32) = 1 by decide) ls H locs (lv_sub hl [0, 1, 2] rfl) hP hD hS
    · refine lv_aload_n hx hb dMo_fresh_7 rfl (lv_at hl 0 rfl) ?_
      refine va_get (D := D) (ci := 5) (v := .ref (ad 18)) (C := RMo) (T := TMo) (N := 27) hx hb hw pinMo hown hE.1 hP 0 rfl rfl 2 (by decide) (hw _ wd_273) (fun _ h9 => h9) rfl dMo_fresh_8 ?_
      refine lv_iload_n hx hb dMo_fresh_11 rfl (lv_at hl 2 rfl) ?_
      refine va_iald hx hb hE.1 hP 1 0 rfl rfl (pq_ix hk (Nat.le_of_lt hk1) (by decide) hi (by assumption)) dMo_fresh_12 ?_
      refine lv_bipush (v := 10) hx hb dMo_fresh_13 (by first | rfl | decide) ?_
      refine lv_icmp_ne (tgt := 35) hx hb dMo_fresh_15 (by decide) (fun h2 => ?_) (fun h2 => ?_)
      · refine lv_iinc (k := 2) (v := (nI i) + 1) (lv' := [(3, .int ((nI i) + 1)), (0, .ref (ad 17)), (2, .int xk)]) hx hb dMo_fresh_35 hl rfl (by first | rfl | decide) (by decide) rfl (fun ls hl => ?_)
        refine lv_goto (tgt := 2) hx hb dMo_fresh_38 (by decide) ?_
        have e9 : LMo_fresh_2 (n + 1) xk mK mB i = LMo_fresh_2 n xk mK mB (i + 1) := by simp only [LMo_fresh_2, if_neg h1, if_neg h2]
        rw [e9] at kk kk2
        rw [nI_1] at hl
        exact ih (i + 1) mq mn me mo mt mx mp mz mu vn vz vc vv vp ve mK mA mB mC mf ml mc mL md mi mr mw ls H locs (by have := pq_lt (j := i) hk (by omega) hi (by assumption); omega) (by have := pq_lt (j := i) hk (by omega) hi (by assumption); omega) (lv_sub hl [1, 2, 0] rfl) hP hD hS kk kk2
      · refine lv_aload_n hx hb dMo_fresh_18 rfl (lv_at hl 0 rfl) ?_
        refine va_get (D := D) (ci := 5) (v := .ref (ad 20)) (C := RMo) (T := TMo) (N := 27) hx hb hw pinMo hown hE.1 hP 0 rfl rfl 4 (by decide) (hw _ wd_275) (fun _ h9 => h9) rfl dMo_fresh_19 ?_
        refine lv_iload_n hx hb dMo_fresh_22 rfl (lv_at hl 2 rfl) ?_
        refine va_iald hx hb hE.1 hP 3 0 rfl rfl (pq_ix hk (Nat.le_of_lt hk1) (by decide) hi (by assumption)) dMo_fresh_23 ?_
        refine lv_aload_n hx hb dMo_fresh_24 rfl (lv_at hl 0 rfl) ?_
        refine va_get (D := D) (ci := 5) (v := .ref (ad 20)) (C := RMo) (T := TMo) (N := 27) hx hb hw pinMo hown hE.1 hP 0 rfl rfl 4 (by decide) (hw _ wd_275) (fun _ h9 => h9) rfl dMo_fresh_25 ?_
        refine lv_iload_n hx hb dMo_fresh_28 rfl (lv_at hl 1 rfl) ?_
        refine va_iald hx hb hE.1 hP 3 0 rfl rfl (pq_vk hk hk1) dMo_fresh_29 ?_
        refine lv_icmp_ne (tgt := 35) hx hb dMo_fresh_30 (by decide) (fun h3 => ?_) (fun h3 => ?_)
        · refine lv_iinc (k := 2) (v := (nI i) + 1) (lv' := [(3, .int ((nI i) + 1)), (0, .ref (ad 17)), (2, .int xk)]) hx hb dMo_fresh_35 hl rfl (by first | rfl | decide) (by decide) rfl (fun ls hl => ?_)
          refine lv_goto (tgt := 2) hx hb dMo_fresh_38 (by decide) ?_
          have e9 : LMo_fresh_2 (n + 1) xk mK mB i = LMo_fresh_2 n xk mK mB (i + 1) := by simp only [LMo_fresh_2, if_neg h1, if_pos h2, if_neg h3]
          rw [e9] at kk kk2
          rw [nI_1] at hl
          exact ih (i + 1) mq mn me mo mt mx mp mz mu vn vz vc vv vp ve mK mA mB mC mf ml mc mL md mi mr mw ls H locs (by have := pq_lt (j := i) hk (by omega) hi (by assumption); omega) (by have := pq_lt (j := i) hk (by omega) hi (by assumption); omega) (lv_sub hl [1, 2, 0] rfl) hP hD hS kk kk2
        · have e9 : LMo_fresh_2 (n + 1) xk mK mB i = (i, 1) := by simp only [LMo_fresh_2, if_neg h1, if_pos h2, if_pos h3]
          rw [e9] at kk
          exact kk rfl ls H locs (lv_sub hl [0, 1, 2] rfl) hP hD hS
def FMo_fresh (xf : Int32) (xk : Int32) (mK : Nat → Int32) (mB : Nat → Int32) : Int32 := if (LMo_fresh_2 (xk.toInt.toNat + 1) xk mK mB xf.toInt.toNat).2 = 1 then 0 else 1
set_option maxRecDepth 20000 in
theorem b_Mo_fresh (xf : Int32) (xk : Int32) (mK : Nat → Int32) (mB : Nat → Int32) : narrow .boolean (.int (FMo_fresh xf xk mK mB)) = .int (FMo_fresh xf xk mK mB) := by
  unfold FMo_fresh
  repeat' (first | apply pq_bif | exact pq_b0 | exact pq_b1)
set_option maxHeartbeats 4000000 in
set_option maxRecDepth 100000 in
theorem k_Mo_fresh (l : Launch) (D : va_G) (ad : Nat → Nat) (cI cS : ClassId) (xf : Int32) (xk : Int32) (mq : Int32) (mn : Int32) (me : Int32) (mo : Int32) (mt : Int32) (mx : Int32) (mp : Int32) (mz : Int32) (mu : Int32) (vn : Int32) (vz : Int32) (vc : Int32) (vv : Int32) (vp : Int32) (ve : Int32) (mK : Nat → Int32) (mA : Nat → Int32) (mB : Nat → Int32) (mC : Nat → Int32) (mf : Nat → Int32) (ml : Nat → Int32) (mc : Nat → Int32) (mL : Nat → Int32) (md : Nat → Int32) (mi : Nat → Int32) (mr : Nat → Int32) (mw : Nat → Int32) (hf0 : ¬ xf < 0) (hxk : vp_in xk 160) : pq_I l yMo_fresh (.code yMo_fresh cMo_fresh 4 (some .boolean) :: pq_ws) { frames := 0, cells := 0, slots := 0, locals := 0 } D cI cS [.ref (ad 17), .int xf, .int xk] (wM ad cI cS mq mn me mo mt mx mp mz mu vn vz vc vv vp ve mK mA mB mC mf ml mc mL md mi mr mw) (FMo_fresh xf xk mK mB) (wM ad cI cS mq mn me mo mt mx mp mz mu vn vz vc vv vp ve mK mA mB mC mf ml mc mL md mi mr mw) := by
  intro sz
  refine Met.ofW (cc := cMo_fresh) (maxL := 4) (ret := (some .boolean)) (by decide) rfl ?_
  intro p e s m args below meth c s₁ B hml hv
  obtain ⟨rfl, hsz, hP, hD0, hE⟩ := hv
  have hx := B.exec
  have hb := B.bytes
  have hr := B.returns
  have hts := atoms_spec (ws := (.code yMo_fresh cMo_fresh 4 (some .boolean) :: pq_ws : List Cond)) B.pre
  have hw : ∀ w ∈ pq_ws, w.before _ s = true := fun w h => hts w (List.mem_cons_of_mem _ h)
  have hown : s.vm.findClass RMo = some m.cls := findClass_of_methodNamed B.named
  have hlocks := B.notSynchronized
  subst hsz
  have hD := hD0.self (sz := s.heap.size)
  have hA : ∀ q : Nat, s.heap.size ≤ q → va_A (wM ad cI cS mq mn me mo mt mx mp mz mu vn vz vc vv vp ve mK mA mB mC mf ml mc mL md mi mr mw) s.heap.size q := fun q h => Or.inr h
  have hS : va_S (va_A (wM ad cI cS mq mn me mo mt mx mp mz mu vn vz vc vv vp ve mK mA mB mC mf ml mc mL md mi mr mw) s.heap.size) s.heap s.heap [] := va_S.rf
  have hl := lv_entry ([.ref (ad 17), .int xf, .int xk] : List Value) (n := 4) (Nat.le_of_ble_eq_true rfl)
  rw [lg_entry_eq]
  generalize (lg_sl ([.ref (ad 17), .int xf, .int xk] : List Value) ++ List.replicate (4 - (lg_sl ([.ref (ad 17), .int xf, .int xk] : List Value)).length) Slot.unset).toArray = ls at hl ⊢
  have hl : lv_has ls 4 [(0, .ref (ad 17)), (1, .int xf), (2, .int xk)] := hl
  refine lv_iload_n hx hb dMo_fresh_0 rfl (lv_at hl 1 rfl) ?_
  refine lv_istore_n (lv' := [(3, .int xf), (0, .ref (ad 17)), (1, .int xf), (2, .int xk)]) hx hb dMo_fresh_1 rfl hl (by decide) rfl (fun ls hl => ?_)
  refine qMo_fresh_2 D ad cI cS hx hb hml hw hown hE hA xk xk.toInt.toNat (pq_nat (pq_in0 hxk)) (pq_vlt hxk) (xk.toInt.toNat + 1) xf.toInt.toNat mq mn me mo mt mx mp mz mu vn vz vc vv vp ve mK mA mB mC mf ml mc mL md mi mr mw ls s.heap [] (pq_nat_lt _) (by omega) (by rw [← pq_nat hf0]; exact lv_sub hl [1, 3, 0] rfl) hP hD hS (fun h1 ls H locs hl hP hD hS => ?_) (fun h1 ls H locs hl hP hD hS => ?_)
  · have hP : va_P D vwCl (wM ad cI cS mq mn me mo mt mx mp mz mu vn vz vc vv vp ve mK mA mB mC mf ml mc mL md mi mr mw) H := hP
    have hD : va_D _ (wM ad cI cS mq mn me mo mt mx mp mz mu vn vz vc vv vp ve mK mA mB mC mf ml mc mL md mi mr mw) := hD
    refine lv_iconst (v := 0) hx hb dMo_fresh_33 (by first | rfl | decide) ?_
    have e9 : FMo_fresh xf xk mK mB = 0 := by simp only [FMo_fresh, if_pos h1]
    exact W.zret (v := 0) hx hb hr rfl (fun t ht hW => ⟨⟨0, (), rfl, (by show _ = _; rw [e9]), by rw [ht]; exact hP, hD⟩, hS.F ht⟩) hS.2.2 dMo_fresh_34
  · have hP : va_P D vwCl (wM ad cI cS mq mn me mo mt mx mp mz mu vn vz vc vv vp ve mK mA mB mC mf ml mc mL md mi mr mw) H := hP
    have hD : va_D _ (wM ad cI cS mq mn me mo mt mx mp mz mu vn vz vc vv vp ve mK mA mB mC mf ml mc mL md mi mr mw) := hD
    refine lv_iconst (v := 1) hx hb dMo_fresh_41 (by first | rfl | decide) ?_
    have e9 : FMo_fresh xf xk mK mB = 1 := by simp only [FMo_fresh, if_neg h1]
    exact W.zret (v := 1) hx hb hr rfl (fun t ht hW => ⟨⟨1, (), rfl, (by show _ = _; rw [e9]), by rw [ht]; exact hP, hD⟩, hS.F ht⟩) hS.2.2 dMo_fresh_42
def LMo_address_7 : Nat → (Int32) → (Nat → Int32) → (Nat) → Nat
  | 0, _, _, i => i
  | n + 1, mn, mf, i => if mn ≤ (nI i) then i else if (mf (nI i).toNatClampNeg) = (-1) then LMo_address_7 n mn mf (i + 1) else i
set_option maxHeartbeats 4000000 in
set_option maxRecDepth 100000 in
theorem qMo_address_7 {p : Program} {l : Launch} {e : Env} {R : Room} {s : State} {m : MethodId} {args : Array Value} {below : List Frame} {meth : Method} {c : Code} {Q : State → Prop} {A : Nat → Prop} (D : va_G) (ad : Nat → Nat) (cI cS : ClassId) (hx : p.tables.exec = Jvm.exec) (hb : c.code = cMo_address) (hml : c.maxLocals = 3) (hw : ∀ w ∈ pq_ws, w.before args s = true) (hown : s.vm.findClass RMo = some m.cls) (hE : pq_E D cI cS s) (hA : ∀ q : Nat, s.heap.size ≤ q → A q) (c0 : Nat) : ∀ (n : Nat) (i : Nat) (mq : Int32) (mn : Int32) (me : Int32) (mo : Int32) (mt : Int32) (mx : Int32) (mp : Int32) (mz : Int32) (mu : Int32) (vn : Int32) (vz : Int32) (vc : Int32) (vv : Int32) (vp : Int32) (ve : Int32) (mK : Nat → Int32) (mA : Nat → Int32) (mB : Nat → Int32) (mC : Nat → Int32) (mf : Nat → Int32) (ml : Nat → Int32) (mc : Nat → Int32) (mL : Nat → Int32) (md : Nat → Int32) (mi : Nat → Int32) (mr : Nat → Int32) (mw : Nat → Int32) (ls : Array Slot) (H : Heap) (locs : List Loc), (mn = nI c0) → (c0 ≤ 160) → (i < 2 ^ 31) → (c0 - i) < n → lv_has ls 3 [(0, .ref (ad 17)), (2, .int (nI i))] → va_P D vwCl (wM ad cI cS mq mn me mo mt mx mp mz mu vn vz vc vv vp ve mK mA mB mC mf ml mc mL md mi mr mw) H → va_D A (wM ad cI cS mq mn me mo mt mx mp mz mu vn vz vc vv vp ve mK mA mB mC mf ml mc mL md mi mr mw) → va_S A s.heap H locs → (∀ (ls : Array Slot) (H : Heap) (locs : List Loc), ((LMo_address_7 n mn mf i) < 2 ^ 31) → lv_has ls 3 [(0, .ref (ad 17)), (2, .int (nI (LMo_address_7 n mn mf i)))] → va_P D vwCl (wM ad cI cS mq mn me mo mt mx mp mz mu vn vz vc vv vp ve mK mA mB mC mf ml mc mL md mi mr mw) H → va_D A (wM ad cI cS mq mn me mo mt mx mp mz mu vn vz vc vv vp ve mK mA mB mC mf ml mc mL md mi mr mw) → va_S A s.heap H locs → W p l e R s m args below meth c H locs 0 0 Q (F0 m 31 ls [])) → W p l e R s m args below meth c H locs 0 0 Q (F0 m 7 ls []) := by
  intro n
  induction n with
  | zero =>
    intro i mq mn me mo mt mx mp mz mu vn vz vc vv vp ve mK mA mB mC mf ml mc mL md mi mr mw ls H locs hc hc1 hi hm hl hP hD hS kk
    exact absurd hm (Nat.not_lt_zero _)
  | succ n ih =>
    intro i mq mn me mo mt mx mp mz mu vn vz vc vv vp ve mK mA mB mC mf ml mc mL md mi mr mw ls H locs hc hc1 hi hm hl hP hD hS kk
    refine lv_iload_n hx hb dMo_address_7 rfl (lv_at hl 1 rfl) ?_
    refine lv_aload_n hx hb dMo_address_8 rfl (lv_at hl 0 rfl) ?_
    refine va_get (D := D) (ci := 5) (v := .int mn) (C := RMo) (T := TMo) (N := 27) hx hb hw pinMo hown hE.1 hP 0 rfl rfl 1 (by decide) (hw _ wd_265) (fun _ h9 => h9) rfl dMo_address_9 ?_
    refine lv_icmp_ge (tgt := 31) hx hb dMo_address_12 (by decide) (fun h1 => ?_) (fun h1 => ?_)
    · have e9 : LMo_address_7 (n + 1) mn mf i = i := by simp only [LMo_address_7, if_pos h1]
      rw [e9] at kk
      exact kk ls H locs hi (lv_sub hl [0, 1] rfl) hP hD hS
    · refine lv_aload_n hx hb dMo_address_15 rfl (lv_at hl 0 rfl) ?_
      refine va_get (D := D) (ci := 5) (v := .ref (ad 22)) (C := RMo) (T := TMo) (N := 27) hx hb hw pinMo hown hE.1 hP 0 rfl rfl 6 (by decide) (hw _ wd_277) (fun _ h9 => h9) rfl dMo_address_16 ?_
      refine lv_iload_n hx hb dMo_address_19 rfl (lv_at hl 1 rfl) ?_
      refine va_iald hx hb hE.1 hP 5 0 rfl rfl (pq_ix hc hc1 (by decide) hi (by assumption)) dMo_address_20 ?_
      refine lv_iconst (v := (-1)) hx hb dMo_address_21 (by first | rfl | decide) ?_
      refine lv_icmp_ne (tgt := 31) hx hb dMo_address_22 (by decide) (fun h2 => ?_) (fun h2 => ?_)
      · have e9 : LMo_address_7 (n + 1) mn mf i = i := by simp only [LMo_address_7, if_neg h1, if_neg h2]
        rw [e9] at kk
        exact kk ls H locs hi (lv_sub hl [0, 1] rfl) hP hD hS
      · refine lv_iinc (k := 1) (v := (nI i) + 1) (lv' := [(2, .int ((nI i) + 1)), (0, .ref (ad 17))]) hx hb dMo_address_25 hl rfl (by first | rfl | decide) (by decide) rfl (fun ls hl => ?_)
        refine lv_goto (tgt := 7) hx hb dMo_address_28 (by decide) ?_
        have e9 : LMo_address_7 (n + 1) mn mf i = LMo_address_7 n mn mf (i + 1) := by simp only [LMo_address_7, if_neg h1, if_pos h2]
        rw [e9] at kk
        rw [nI_1] at hl
        exact ih (i + 1) mq mn me mo mt mx mp mz mu vn vz vc vv vp ve mK mA mB mC mf ml mc mL md mi mr mw ls H locs hc hc1 (by have := pq_lt (j := i) hc (by omega) hi (by assumption); omega) (by have := pq_lt (j := i) hc (by omega) hi (by assumption); omega) (lv_sub hl [1, 0] rfl) hP hD hS kk
def FMo_address (xl : Int32) (mn : Int32) (me : Int32) (mf : Nat → Int32) (mL : Nat → Int32) : Int32 := if mn ≤ (nI (LMo_address_7 (mn.toInt.toNat + 1) mn mf ((mL xl.toNatClampNeg).toInt.toNat))) then me else mf (nI (LMo_address_7 (mn.toInt.toNat + 1) mn mf ((mL xl.toNatClampNeg).toInt.toNat))).toNatClampNeg
set_option maxHeartbeats 4000000 in
set_option maxRecDepth 100000 in
theorem k_Mo_address (l : Launch) (D : va_G) (ad : Nat → Nat) (cI cS : ClassId) (xl : Int32) (mq : Int32) (mn : Int32) (me : Int32) (mo : Int32) (mt : Int32) (mx : Int32) (mp : Int32) (mz : Int32) (mu : Int32) (vn : Int32) (vz : Int32) (vc : Int32) (vv : Int32) (vp : Int32) (ve : Int32) (mK : Nat → Int32) (mA : Nat → Int32) (mB : Nat → Int32) (mC : Nat → Int32) (mf : Nat → Int32) (ml : Nat → Int32) (mc : Nat → Int32) (mL : Nat → Int32) (md : Nat → Int32) (mi : Nat → Int32) (mr : Nat → Int32) (mw : Nat → Int32) (hxl : vp_in xl 16) (hmn0 : ¬ mn < 0) (hmn1 : mn.toInt ≤ 160) (hmlb : ¬ mL xl.toNatClampNeg < 0) : pq_I l yMo_address (.code yMo_address cMo_address 3 (some .int) :: pq_ws) { frames := 0, cells := 0, slots := 0, locals := 0 } D cI cS [.ref (ad 17), .int xl] (wM ad cI cS mq mn me mo mt mx mp mz mu vn vz vc vv vp ve mK mA mB mC mf ml mc mL md mi mr mw) (FMo_address xl mn me mf mL) (wM ad cI cS mq mn me mo mt mx mp mz mu vn vz vc vv vp ve mK mA mB mC mf ml mc mL md mi mr mw) := by
  intro sz
  refine Met.ofW (cc := cMo_address) (maxL := 3) (ret := (some .int)) (by decide) rfl ?_
  intro p e s m args below meth c s₁ B hml hv
  obtain ⟨rfl, hsz, hP, hD0, hE⟩ := hv
  have hx := B.exec
  have hb := B.bytes
  have hr := B.returns
  have hts := atoms_spec (ws := (.code yMo_address cMo_address 3 (some .int) :: pq_ws : List Cond)) B.pre
  have hw : ∀ w ∈ pq_ws, w.before _ s = true := fun w h => hts w (List.mem_cons_of_mem _ h)
  have hown : s.vm.findClass RMo = some m.cls := findClass_of_methodNamed B.named
  have hlocks := B.notSynchronized
  subst hsz
  have hD := hD0.self (sz := s.heap.size)
  have hA : ∀ q : Nat, s.heap.size ≤ q → va_A (wM ad cI cS mq mn me mo mt mx mp mz mu vn vz vc vv vp ve mK mA mB mC mf ml mc mL md mi mr mw) s.heap.size q := fun q h => Or.inr h
  have hS : va_S (va_A (wM ad cI cS mq mn me mo mt mx mp mz mu vn vz vc vv vp ve mK mA mB mC mf ml mc mL md mi mr mw) s.heap.size) s.heap s.heap [] := va_S.rf
  have hl := lv_entry ([.ref (ad 17), .int xl] : List Value) (n := 3) (Nat.le_of_ble_eq_true rfl)
  rw [lg_entry_eq]
  generalize (lg_sl ([.ref (ad 17), .int xl] : List Value) ++ List.replicate (3 - (lg_sl ([.ref (ad 17), .int xl] : List Value)).length) Slot.unset).toArray = ls at hl ⊢
  have hl : lv_has ls 3 [(0, .ref (ad 17)), (1, .int xl)] := hl
  refine lv_aload_n hx hb dMo_address_0 rfl (lv_at hl 0 rfl) ?_
  refine va_get (D := D) (ci := 5) (v := .ref (ad 25)) (C := RMo) (T := TMo) (N := 27) hx hb hw pinMo hown hE.1 hP 0 rfl rfl 9 (by decide) (hw _ wd_264) (fun _ h9 => h9) rfl dMo_address_1 ?_
  refine lv_iload_n hx hb dMo_address_4 rfl (lv_at hl 1 rfl) ?_
  refine va_iald hx hb hE.1 hP 8 0 rfl rfl hxl dMo_address_5 ?_
  refine lv_istore_n (lv' := [(2, .int (mL xl.toNatClampNeg)), (0, .ref (ad 17)), (1, .int xl)]) hx hb dMo_address_6 rfl hl (by decide) rfl (fun ls hl => ?_)
  refine qMo_address_7 D ad cI cS hx hb hml hw hown hE hA mn.toInt.toNat (mn.toInt.toNat + 1) ((mL xl.toNatClampNeg).toInt.toNat) mq mn me mo mt mx mp mz mu vn vz vc vv vp ve mK mA mB mC mf ml mc mL md mi mr mw ls s.heap [] (pq_nat hmn0) (pq_nat_le hmn1) (pq_nat_lt _) (by omega) (by rw [← pq_nat hmlb]; exact lv_sub hl [1, 0] rfl) hP hD hS (fun ls H locs hi9 hl hP hD hS => ?_)
  have hP : va_P D vwCl (wM ad cI cS mq mn me mo mt mx mp mz mu vn vz vc vv vp ve mK mA mB mC mf ml mc mL md mi mr mw) H := hP
  have hD : va_D _ (wM ad cI cS mq mn me mo mt mx mp mz mu vn vz vc vv vp ve mK mA mB mC mf ml mc mL md mi mr mw) := hD
  refine lv_iload_n hx hb dMo_address_31 rfl (lv_at hl 1 rfl) ?_
  refine lv_aload_n hx hb dMo_address_32 rfl (lv_at hl 0 rfl) ?_
  refine va_get (D := D) (ci := 5) (v := .int mn) (C := RMo) (T := TMo) (N := 27) hx hb hw pinMo hown hE.1 hP 0 rfl rfl 1 (by decide) (hw _ wd_265) (fun _ h9 => h9) rfl dMo_address_33 ?_
  refine lv_icmp_ge (tgt := 48) hx hb dMo_address_36 (by decide) (fun h1 => ?_) (fun h1 => ?_)
  · refine lv_aload_n hx hb dMo_address_48 rfl (lv_at hl 0 rfl) ?_
    refine va_get (D := D) (ci := 5) (v := .int me) (C := RMo) (T := TMo) (N := 27) hx hb hw pinMo hown hE.1 hP 0 rfl rfl 10 (by decide) (hw _ wd_278) (fun _ h9 => h9) rfl dMo_address_49 ?_
    have e9 : FMo_address xl mn me mf mL = me := by simp only [FMo_address, if_pos h1]
    exact W.iret (v := me) hx hb hr (fun t ht hW => ⟨⟨me, (), rfl, (by show _ = _; rw [e9]), by rw [ht]; exact hP, hD⟩, hS.F ht⟩) hS.2.2 dMo_address_52
  · refine lv_aload_n hx hb dMo_address_39 rfl (lv_at hl 0 rfl) ?_
    refine va_get (D := D) (ci := 5) (v := .ref (ad 22)) (C := RMo) (T := TMo) (N := 27) hx hb hw pinMo hown hE.1 hP 0 rfl rfl 6 (by decide) (hw _ wd_277) (fun _ h9 => h9) rfl dMo_address_40 ?_
    refine lv_iload_n hx hb dMo_address_43 rfl (lv_at hl 1 rfl) ?_
    refine va_iald hx hb hE.1 hP 5 0 rfl rfl (pq_ix (pq_nat hmn0) (pq_nat_le hmn1) (by decide) hi9 (by assumption)) dMo_address_44 ?_
    refine lv_goto (tgt := 52) hx hb dMo_address_45 (by decide) ?_
    have e9 : FMo_address xl mn me mf mL = mf (nI (LMo_address_7 (mn.toInt.toNat + 1) mn mf ((mL xl.toNatClampNeg).toInt.toNat))).toNatClampNeg := by simp only [FMo_address, if_neg h1]
    exact W.iret (v := mf (nI (LMo_address_7 (mn.toInt.toNat + 1) mn mf ((mL xl.toNatClampNeg).toInt.toNat))).toNatClampNeg) hx hb hr (fun t ht hW => ⟨⟨mf (nI (LMo_address_7 (mn.toInt.toNat + 1) mn mf ((mL xl.toNatClampNeg).toInt.toNat))).toNatClampNeg, (), rfl, (by show _ = _; rw [e9]), by rw [ht]; exact hP, hD⟩, hS.F ht⟩) hS.2.2 dMo_address_52
