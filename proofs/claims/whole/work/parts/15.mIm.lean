theorem wd_19 : Cond.fieldLink RIm 15 RIm "count" "I" ∈ pq_ws := pq_memT 68 (by decide +kernel) (by decide +kernel)
theorem wd_20 : Cond.fieldLink RIm 9 RIm "halves" "[S" ∈ pq_ws := pq_memT 67 (by decide +kernel) (by decide +kernel)
theorem wd_21 : Cond.code yIm_at cIm_at 2 (some .short) ∈ pq_ws := pq_memT 193 (by decide +kernel) (by decide +kernel)
theorem wd_22 : Cond.initialized RIm ∈ pq_ws := pq_memT 4 (by decide +kernel) (by decide +kernel)
theorem wd_23 : Cond.methodLink RIm 19 yIm_at ∈ pq_ws := pq_memT 501 (by decide +kernel) (by decide +kernel)
theorem wd_24 : Cond.instanceMethod yIm_at ∈ pq_ws := pq_memT 192 (by decide +kernel) (by decide +kernel)
theorem wd_25 : Cond.selects RIm yIm_at yIm_at ∈ pq_ws := pq_mem (by decide +kernel) (by decide +kernel)
theorem wd_26 : Cond.constant RIm 23 65535 ∈ pq_ws := pq_memT 502 (by decide +kernel) (by decide +kernel)
def FIm_at (xk : Int32) (gn : Int32) (gh : Nat → Int32) : Int32 := if xk < 0 then 0 else if gn ≤ xk then 0 else (pq_sh gh) xk.toNatClampNeg
set_option maxHeartbeats 4000000 in
set_option maxRecDepth 100000 in
theorem k_Im_at (l : Launch) (D : va_G) (ad : Nat → Nat) (cI cS : ClassId) (xk : Int32) (gn : Int32) (gp : Int32) (gh : Nat → Int32) (hgn : gn.toInt ≤ 6400) : pq_I l yIm_at (.code yIm_at cIm_at 2 (some .short) :: pq_ws) { frames := 0, cells := 0, slots := 0, locals := 0 } D cI cS [.ref (ad 2), .int xk] (wI ad cI cS gn gp gh) (FIm_at xk gn gh) (wI ad cI cS gn gp gh) := by
  intro sz
  refine Met.ofW (cc := cIm_at) (maxL := 2) (ret := (some .short)) (by decide) rfl ?_
  intro p e s m args below meth c s₁ B hml hv
  obtain ⟨rfl, hsz, hP, hD0, hE⟩ := hv
  have hx := B.exec
  have hb := B.bytes
  have hr := B.returns
  have hts := atoms_spec (ws := (.code yIm_at cIm_at 2 (some .short) :: pq_ws : List Cond)) B.pre
  have hw : ∀ w ∈ pq_ws, w.before _ s = true := fun w h => hts w (List.mem_cons_of_mem _ h)
  have hown : s.vm.findClass RIm = some m.cls := findClass_of_methodNamed B.named
  have hlocks := B.notSynchronized
  subst hsz
  have hD := hD0.self (sz := s.heap.size)
  have hA : ∀ q : Nat, s.heap.size ≤ q → va_A (wI ad cI cS gn gp gh) s.heap.size q := fun q h => Or.inr h
  have hS : va_S (va_A (wI ad cI cS gn gp gh) s.heap.size) s.heap s.heap [] := va_S.rf
  have hl := lv_entry ([.ref (ad 2), .int xk] : List Value) (n := 2) (Nat.le_of_ble_eq_true rfl)
  rw [lg_entry_eq]
  generalize (lg_sl ([.ref (ad 2), .int xk] : List Value) ++ List.replicate (2 - (lg_sl ([.ref (ad 2), .int xk] : List Value)).length) Slot.unset).toArray = ls at hl ⊢
  have hl : lv_has ls 2 [(0, .ref (ad 2)), (1, .int xk)] := hl
  refine lv_iload_n hx hb dIm_at_0 rfl (lv_at hl 1 rfl) ?_
  refine lv_if_lt (tgt := 21) hx hb dIm_at_1 (by decide) (fun h1 => ?_) (fun h1 => ?_)
  · refine lv_iconst (v := 0) hx hb dIm_at_21 (by first | rfl | decide) ?_
    have e9 : FIm_at xk gn gh = 0 := by simp only [FIm_at, if_pos h1]
    exact W.zret (v := 0) hx hb hr rfl (fun t ht hW => ⟨⟨0, (), rfl, (by show _ = _; rw [e9]), by rw [ht]; exact hP, hD⟩, hS.F ht⟩) hS.2.2 dIm_at_22
  · refine lv_iload_n hx hb dIm_at_4 rfl (lv_at hl 1 rfl) ?_
    refine lv_aload_n hx hb dIm_at_5 rfl (lv_at hl 0 rfl) ?_
    refine va_get (D := D) (ci := 0) (v := .int gn) (C := RIm) (T := TIm) (N := 3) hx hb hw pinIm hown hE.1 hP 0 rfl rfl 1 (by decide) (hw _ wd_19) (fun _ h9 => h9) rfl dIm_at_6 ?_
    refine lv_icmp_ge (tgt := 21) hx hb dIm_at_9 (by decide) (fun h2 => ?_) (fun h2 => ?_)
    · refine lv_iconst (v := 0) hx hb dIm_at_21 (by first | rfl | decide) ?_
      have e9 : FIm_at xk gn gh = 0 := by simp only [FIm_at, if_neg h1, if_pos h2]
      exact W.zret (v := 0) hx hb hr rfl (fun t ht hW => ⟨⟨0, (), rfl, (by show _ = _; rw [e9]), by rw [ht]; exact hP, hD⟩, hS.F ht⟩) hS.2.2 dIm_at_22
    · refine lv_aload_n hx hb dIm_at_12 rfl (lv_at hl 0 rfl) ?_
      refine va_get (D := D) (ci := 0) (v := .ref (ad 10)) (C := RIm) (T := TIm) (N := 3) hx hb hw pinIm hown hE.1 hP 0 rfl rfl 0 (by decide) (hw _ wd_20) (fun _ h9 => h9) rfl dIm_at_13 ?_
      refine lv_iload_n hx hb dIm_at_16 rfl (lv_at hl 1 rfl) ?_
      refine va_sald hx hb hE.1 hP 1 1 rfl rfl (pq_inB (y := gn) (by assumption) (by assumption) hgn) dIm_at_17 ?_
      refine lv_goto (tgt := 22) hx hb dIm_at_18 (by decide) ?_
      have e9 : FIm_at xk gn gh = (pq_sh gh) xk.toNatClampNeg := by simp only [FIm_at, if_neg h1, if_neg h2]
      exact W.zret (v := (pq_sh gh) xk.toNatClampNeg) hx hb hr (by first | rfl | exact pk_ns _) (fun t ht hW => ⟨⟨(pq_sh gh) xk.toNatClampNeg, (), rfl, (by show _ = _; rw [e9]), by rw [ht]; exact hP, hD⟩, hS.F ht⟩) hS.2.2 dIm_at_22
def FIm_put (xk : Int32) (xv : Int32) (gh : Nat → Int32) : (Nat → Int32) := if xk < 0 then gh else if 6400 ≤ xk then gh else upd gh xk.toNatClampNeg xv.toInt16.toInt32
set_option maxHeartbeats 4000000 in
set_option maxRecDepth 100000 in
theorem k_Im_put (l : Launch) (D : va_G) (ad : Nat → Nat) (cI cS : ClassId) (xk : Int32) (xv : Int32) (gn : Int32) (gp : Int32) (gh : Nat → Int32) : pq_V l yIm_put (.code yIm_put cIm_put 3 none :: pq_ws) { frames := 0, cells := 0, slots := 0, locals := 0 } D cI cS [.ref (ad 2), .int xk, .int xv] (wI ad cI cS gn gp gh) (wI ad cI cS gn gp (FIm_put xk xv gh)) := by
  intro sz
  refine Met.ofW (cc := cIm_put) (maxL := 3) (ret := none) (by decide) rfl ?_
  intro p e s m args below meth c s₁ B hml hv
  obtain ⟨rfl, hsz, hP, hD0, hE⟩ := hv
  have hx := B.exec
  have hb := B.bytes
  have hr := B.returns
  have hts := atoms_spec (ws := (.code yIm_put cIm_put 3 none :: pq_ws : List Cond)) B.pre
  have hw : ∀ w ∈ pq_ws, w.before _ s = true := fun w h => hts w (List.mem_cons_of_mem _ h)
  have hown : s.vm.findClass RIm = some m.cls := findClass_of_methodNamed B.named
  have hlocks := B.notSynchronized
  subst hsz
  have hD := hD0.self (sz := s.heap.size)
  have hA : ∀ q : Nat, s.heap.size ≤ q → va_A (wI ad cI cS gn gp gh) s.heap.size q := fun q h => Or.inr h
  have hS : va_S (va_A (wI ad cI cS gn gp gh) s.heap.size) s.heap s.heap [] := va_S.rf
  have hl := lv_entry ([.ref (ad 2), .int xk, .int xv] : List Value) (n := 3) (Nat.le_of_ble_eq_true rfl)
  rw [lg_entry_eq]
  generalize (lg_sl ([.ref (ad 2), .int xk, .int xv] : List Value) ++ List.replicate (3 - (lg_sl ([.ref (ad 2), .int xk, .int xv] : List Value)).length) Slot.unset).toArray = ls at hl ⊢
  have hl : lv_has ls 3 [(0, .ref (ad 2)), (1, .int xk), (2, .int xv)] := hl
  refine lv_iload_n hx hb dIm_put_0 rfl (lv_at hl 1 rfl) ?_
  refine lv_if_lt (tgt := 19) hx hb dIm_put_1 (by decide) (fun h1 => ?_) (fun h1 => ?_)
  · have e9 : FIm_put xk xv gh = gh := by simp only [FIm_put, if_pos h1]
    exact W.vret hx hb hr (fun t ht hW => ⟨⟨(), rfl, trivial, by rw [e9, ht]; exact hP, by rw [e9]; exact hD⟩, hS.F ht⟩) hS.2.2 dIm_put_19
  · refine lv_iload_n hx hb dIm_put_4 rfl (lv_at hl 1 rfl) ?_
    refine lv_sipush (v := 6400) hx hb dIm_put_5 (by first | rfl | decide) ?_
    refine lv_icmp_ge (tgt := 19) hx hb dIm_put_8 (by decide) (fun h2 => ?_) (fun h2 => ?_)
    · have e9 : FIm_put xk xv gh = gh := by simp only [FIm_put, if_neg h1, if_pos h2]
      exact W.vret hx hb hr (fun t ht hW => ⟨⟨(), rfl, trivial, by rw [e9, ht]; exact hP, by rw [e9]; exact hD⟩, hS.F ht⟩) hS.2.2 dIm_put_19
    · refine lv_aload_n hx hb dIm_put_11 rfl (lv_at hl 0 rfl) ?_
      refine va_get (D := D) (ci := 0) (v := .ref (ad 10)) (C := RIm) (T := TIm) (N := 3) hx hb hw pinIm hown hE.1 hP 0 rfl rfl 0 (by decide) (hw _ wd_20) (fun _ h9 => h9) rfl dIm_put_12 ?_
      refine lv_iload_n hx hb dIm_put_15 rfl (lv_at hl 1 rfl) ?_
      refine lv_iload_n hx hb dIm_put_16 rfl (lv_at hl 2 rfl) ?_
      refine lv_i2s hx hb dIm_put_17 rfl ?_
      refine va_sast hx hb hE.1 hP hD hS 1 1 rfl rfl (pq_inB (y := 6400) (by assumption) (by assumption) (by decide)) dIm_put_18 (fun H locs hP hD hS => ?_)
      rw [pq_sh_upd] at hP hD
      have hP : va_P D vwCl (wI ad cI cS gn gp (upd gh xk.toNatClampNeg xv.toInt16.toInt32)) H := hP
      have hD : va_D _ (wI ad cI cS gn gp (upd gh xk.toNatClampNeg xv.toInt16.toInt32)) := hD
      have e9 : FIm_put xk xv gh = upd gh xk.toNatClampNeg xv.toInt16.toInt32 := by simp only [FIm_put, if_neg h1, if_neg h2]
      exact W.vret hx hb hr (fun t ht hW => ⟨⟨(), rfl, trivial, by rw [e9, ht]; exact hP, by rw [e9]; exact hD⟩, hS.F ht⟩) hS.2.2 dIm_put_19
def FIm_holds (xa : Int32) (gn : Int32) : Int32 := if xa < 0 then 0 else if (2 * gn) ≤ xa then 0 else 1
set_option maxRecDepth 20000 in
theorem b_Im_holds (xa : Int32) (gn : Int32) : narrow .boolean (.int (FIm_holds xa gn)) = .int (FIm_holds xa gn) := by
  unfold FIm_holds
  repeat' (first | apply pq_bif | exact pq_b0 | exact pq_b1)
set_option maxHeartbeats 4000000 in
set_option maxRecDepth 100000 in
theorem k_Im_holds (l : Launch) (D : va_G) (ad : Nat → Nat) (cI cS : ClassId) (xa : Int32) (gn : Int32) (gp : Int32) (gh : Nat → Int32) : pq_I l yIm_holds (.code yIm_holds cIm_holds 2 (some .boolean) :: pq_ws) { frames := 0, cells := 0, slots := 0, locals := 0 } D cI cS [.ref (ad 2), .int xa] (wI ad cI cS gn gp gh) (FIm_holds xa gn) (wI ad cI cS gn gp gh) := by
  intro sz
  refine Met.ofW (cc := cIm_holds) (maxL := 2) (ret := (some .boolean)) (by decide) rfl ?_
  intro p e s m args below meth c s₁ B hml hv
  obtain ⟨rfl, hsz, hP, hD0, hE⟩ := hv
  have hx := B.exec
  have hb := B.bytes
  have hr := B.returns
  have hts := atoms_spec (ws := (.code yIm_holds cIm_holds 2 (some .boolean) :: pq_ws : List Cond)) B.pre
  have hw : ∀ w ∈ pq_ws, w.before _ s = true := fun w h => hts w (List.mem_cons_of_mem _ h)
  have hown : s.vm.findClass RIm = some m.cls := findClass_of_methodNamed B.named
  have hlocks := B.notSynchronized
  subst hsz
  have hD := hD0.self (sz := s.heap.size)
  have hA : ∀ q : Nat, s.heap.size ≤ q → va_A (wI ad cI cS gn gp gh) s.heap.size q := fun q h => Or.inr h
  have hS : va_S (va_A (wI ad cI cS gn gp gh) s.heap.size) s.heap s.heap [] := va_S.rf
  have hl := lv_entry ([.ref (ad 2), .int xa] : List Value) (n := 2) (Nat.le_of_ble_eq_true rfl)
  rw [lg_entry_eq]
  generalize (lg_sl ([.ref (ad 2), .int xa] : List Value) ++ List.replicate (2 - (lg_sl ([.ref (ad 2), .int xa] : List Value)).length) Slot.unset).toArray = ls at hl ⊢
  have hl : lv_has ls 2 [(0, .ref (ad 2)), (1, .int xa)] := hl
  refine lv_iload_n hx hb dIm_holds_0 rfl (lv_at hl 1 rfl) ?_
  refine lv_if_lt (tgt := 18) hx hb dIm_holds_1 (by decide) (fun h1 => ?_) (fun h1 => ?_)
  · refine lv_iconst (v := 0) hx hb dIm_holds_18 (by first | rfl | decide) ?_
    have e9 : FIm_holds xa gn = 0 := by simp only [FIm_holds, if_pos h1]
    exact W.zret (v := 0) hx hb hr rfl (fun t ht hW => ⟨⟨0, (), rfl, (by show _ = _; rw [e9]), by rw [ht]; exact hP, hD⟩, hS.F ht⟩) hS.2.2 dIm_holds_19
  · refine lv_iload_n hx hb dIm_holds_4 rfl (lv_at hl 1 rfl) ?_
    refine lv_iconst (v := 2) hx hb dIm_holds_5 (by first | rfl | decide) ?_
    refine lv_aload_n hx hb dIm_holds_6 rfl (lv_at hl 0 rfl) ?_
    refine va_get (D := D) (ci := 0) (v := .int gn) (C := RIm) (T := TIm) (N := 3) hx hb hw pinIm hown hE.1 hP 0 rfl rfl 1 (by decide) (hw _ wd_19) (fun _ h9 => h9) rfl dIm_holds_7 ?_
    refine lv_imul hx hb dIm_holds_10 ?_
    refine lv_icmp_ge (tgt := 18) hx hb dIm_holds_11 (by decide) (fun h2 => ?_) (fun h2 => ?_)
    · refine lv_iconst (v := 0) hx hb dIm_holds_18 (by first | rfl | decide) ?_
      have e9 : FIm_holds xa gn = 0 := by simp only [FIm_holds, if_neg h1, if_pos h2]
      exact W.zret (v := 0) hx hb hr rfl (fun t ht hW => ⟨⟨0, (), rfl, (by show _ = _; rw [e9]), by rw [ht]; exact hP, hD⟩, hS.F ht⟩) hS.2.2 dIm_holds_19
    · refine lv_iconst (v := 1) hx hb dIm_holds_14 (by first | rfl | decide) ?_
      refine lv_goto (tgt := 19) hx hb dIm_holds_15 (by decide) ?_
      have e9 : FIm_holds xa gn = 1 := by simp only [FIm_holds, if_neg h1, if_neg h2]
      exact W.zret (v := 1) hx hb hr rfl (fun t ht hW => ⟨⟨1, (), rfl, (by show _ = _; rw [e9]), by rw [ht]; exact hP, hD⟩, hS.F ht⟩) hS.2.2 dIm_holds_19
def FIm_wordAt (xa : Int32) (gn : Int32) (gh : Nat → Int32) : Int32 := ((FIm_at (xa / 2) gn gh) &&& (65535 : Int32)) ||| ((FIm_at ((xa / 2) + 1) gn gh) <<< ((16 : Int32) &&& 31))
set_option maxHeartbeats 4000000 in
set_option maxRecDepth 100000 in
theorem k_Im_wordAt (l : Launch) (D : va_G) (ad : Nat → Nat) (cI cS : ClassId) (xa : Int32) (gn : Int32) (gp : Int32) (gh : Nat → Int32) (hgn : gn.toInt ≤ 6400) : pq_I l yIm_wordAt (.code yIm_wordAt cIm_wordAt 3 (some .int) :: pq_ws) { frames := 1, cells := 0, slots := 0, locals := 21 } D cI cS [.ref (ad 2), .int xa] (wI ad cI cS gn gp gh) (FIm_wordAt xa gn gh) (wI ad cI cS gn gp gh) := by
  intro sz
  refine Met.ofW (cc := cIm_wordAt) (maxL := 3) (ret := (some .int)) (by decide) rfl ?_
  intro p e s m args below meth c s₁ B hml hv
  obtain ⟨rfl, hsz, hP, hD0, hE⟩ := hv
  have hx := B.exec
  have hb := B.bytes
  have hr := B.returns
  have hts := atoms_spec (ws := (.code yIm_wordAt cIm_wordAt 3 (some .int) :: pq_ws : List Cond)) B.pre
  have hw : ∀ w ∈ pq_ws, w.before _ s = true := fun w h => hts w (List.mem_cons_of_mem _ h)
  have hown : s.vm.findClass RIm = some m.cls := findClass_of_methodNamed B.named
  have hlocks := B.notSynchronized
  subst hsz
  have hD := hD0.self (sz := s.heap.size)
  have hA : ∀ q : Nat, s.heap.size ≤ q → va_A (wI ad cI cS gn gp gh) s.heap.size q := fun q h => Or.inr h
  have hS : va_S (va_A (wI ad cI cS gn gp gh) s.heap.size) s.heap s.heap [] := va_S.rf
  have hl := lv_entry ([.ref (ad 2), .int xa] : List Value) (n := 3) (Nat.le_of_ble_eq_true rfl)
  rw [lg_entry_eq]
  generalize (lg_sl ([.ref (ad 2), .int xa] : List Value) ++ List.replicate (3 - (lg_sl ([.ref (ad 2), .int xa] : List Value)).length) Slot.unset).toArray = ls at hl ⊢
  have hl : lv_has ls 3 [(0, .ref (ad 2)), (1, .int xa)] := hl
  refine lv_iload_n hx hb dIm_wordAt_0 rfl (lv_at hl 1 rfl) ?_
  refine lv_iconst (v := 2) hx hb dIm_wordAt_1 (by first | rfl | decide) ?_
  refine lv_idiv hx hb dIm_wordAt_2 (by decide) ?_
  refine lv_istore_n (lv' := [(2, .int (xa / 2)), (0, .ref (ad 2)), (1, .int xa)]) hx hb dIm_wordAt_3 rfl hl (by decide) rfl (fun ls hl => ?_)
  refine lv_aload_n hx hb dIm_wordAt_4 rfl (lv_at hl 1 rfl) ?_
  refine lv_iload_n hx hb dIm_wordAt_5 rfl (lv_at hl 0 rfl) ?_
  refine pq_calli (fr := (FIm_at (xa / 2) gn gh)) (wc := (wI ad cI cS gn gp gh)) (wr := ([] : List Nat).filterMap (fun i => (wI ad cI cS gn gp gh)[i]?)) hP hD hS hA [0, 1] [] rfl rfl (by decide) (by decide) (va_runV (own := RIm) (C := RIm) (As := [.int (xa / 2)]) (rest := []) ⟨hx, hb, hml, hown, hw⟩ (k_Im_at l D ad cI cS (xa / 2) gn gp gh hgn s.heap.size) ⟨pq_cwB 1 hw wd_23 wd_22 wd_21 rfl rfl (by decide +kernel) ⟨Nat.le_of_ble_eq_true rfl, Nat.le_of_ble_eq_true rfl⟩, hw _ wd_24, hw _ wd_25⟩ (pq_preV (ci := 0) (C := RIm) (T := TIm) (N := 3) hE (hP.sub [0, 1] rfl) (hD.sub [0, 1] (by decide) rfl) rfl 0 rfl) rfl rfl hl.1 rfl (lv_room (Nat.le_of_ble_eq_true rfl)) dIm_wordAt_6 ⟨Nat.zero_le _, Nat.zero_le _⟩) (fun H locs hP hD hS => ?_)
  have hP : va_P D vwCl (wI ad cI cS gn gp gh) H := hP.sub [0, 1] rfl
  have hD : va_D _ (wI ad cI cS gn gp gh) := hD.sub [0, 1] (by decide) rfl
  refine lv_ldc hx hb hown (hw _ wd_26) dIm_wordAt_9 ?_
  refine lv_iand hx hb dIm_wordAt_11 ?_
  refine lv_aload_n hx hb dIm_wordAt_12 rfl (lv_at hl 1 rfl) ?_
  refine lv_iload_n hx hb dIm_wordAt_13 rfl (lv_at hl 0 rfl) ?_
  refine lv_iconst (v := 1) hx hb dIm_wordAt_14 (by first | rfl | decide) ?_
  refine lv_iadd hx hb dIm_wordAt_15 ?_
  refine pq_calli (fr := (FIm_at ((xa / 2) + 1) gn gh)) (wc := (wI ad cI cS gn gp gh)) (wr := ([] : List Nat).filterMap (fun i => (wI ad cI cS gn gp gh)[i]?)) hP hD hS hA [0, 1] [] rfl rfl (by decide) (by decide) (va_runV (own := RIm) (C := RIm) (As := [.int ((xa / 2) + 1)]) (rest := [.int ((FIm_at (xa / 2) gn gh) &&& (65535 : Int32))]) ⟨hx, hb, hml, hown, hw⟩ (k_Im_at l D ad cI cS ((xa / 2) + 1) gn gp gh hgn H.size) ⟨pq_cwB 1 hw wd_23 wd_22 wd_21 rfl rfl (by decide +kernel) ⟨Nat.le_of_ble_eq_true rfl, Nat.le_of_ble_eq_true rfl⟩, hw _ wd_24, hw _ wd_25⟩ (pq_preV (ci := 0) (C := RIm) (T := TIm) (N := 3) hE (hP.sub [0, 1] rfl) (hD.sub [0, 1] (by decide) rfl) rfl 0 rfl) rfl rfl hl.1 rfl (lv_room (Nat.le_of_ble_eq_true rfl)) dIm_wordAt_16 ⟨Nat.zero_le _, Nat.zero_le _⟩) (fun H locs hP hD hS => ?_)
  have hP : va_P D vwCl (wI ad cI cS gn gp gh) H := hP.sub [0, 1] rfl
  have hD : va_D _ (wI ad cI cS gn gp gh) := hD.sub [0, 1] (by decide) rfl
  refine lv_bipush (v := 16) hx hb dIm_wordAt_19 (by first | rfl | decide) ?_
  refine lv_ishl hx hb dIm_wordAt_21 ?_
  refine lv_ior hx hb dIm_wordAt_22 ?_
  have e9 : FIm_wordAt xa gn gh = ((FIm_at (xa / 2) gn gh) &&& (65535 : Int32)) ||| ((FIm_at ((xa / 2) + 1) gn gh) <<< ((16 : Int32) &&& 31)) := rfl
  exact W.iret (v := ((FIm_at (xa / 2) gn gh) &&& (65535 : Int32)) ||| ((FIm_at ((xa / 2) + 1) gn gh) <<< ((16 : Int32) &&& 31))) hx hb hr (fun t ht hW => ⟨⟨((FIm_at (xa / 2) gn gh) &&& (65535 : Int32)) ||| ((FIm_at ((xa / 2) + 1) gn gh) <<< ((16 : Int32) &&& 31)), (), rfl, (by show _ = _; rw [e9]), by rw [ht]; exact hP, hD⟩, hS.F ht⟩) hS.2.2 dIm_wordAt_23
