theorem wd_94 : Cond.fieldLink RLa 32 RLa "writing" "Z" ∈ pq_ws := pq_memT 98 (by decide +kernel) (by decide +kernel)
theorem wd_95 : Cond.fieldLink RLa 42 RLa "address" "I" ∈ pq_ws := pq_memT 95 (by decide +kernel) (by decide +kernel)
theorem wd_96 : Cond.fieldLink RLa 28 RLa "image" "LPoolAssembler$Image;" ∈ pq_ws := pq_memT 88 (by decide +kernel) (by decide +kernel)
theorem wd_97 : Cond.code yIm_put cIm_put 3 none ∈ pq_ws := pq_memT 385 (by decide +kernel) (by decide +kernel)
theorem wd_98 : Cond.instanceMethod yIm_put ∈ pq_ws := pq_memT 384 (by decide +kernel) (by decide +kernel)
theorem wd_99 : Cond.selects RIm yIm_put yIm_put ∈ pq_ws := pq_mem (by decide +kernel) (by decide +kernel)
theorem nw_4 : Cond.methodLinkNest RLa 110 yIm_put "PoolAssembler" ∈ pq_nws := pq_nmem 382 (by decide +kernel) rfl
theorem wd_100 : Cond.fieldLink RLa 24 RLa "source" "LPoolAssembler$Source;" ∈ pq_ws := pq_memT 87 (by decide +kernel) (by decide +kernel)
theorem wd_101 : Cond.code ySo_lineOfLabel cSo_lineOfLabel 2 (some .int) ∈ pq_ws := pq_memT 330 (by decide +kernel) (by decide +kernel)
theorem wd_102 : Cond.initialized RSo ∈ pq_ws := pq_memT 2 (by decide +kernel) (by decide +kernel)
theorem wd_103 : Cond.instanceMethod ySo_lineOfLabel ∈ pq_ws := pq_memT 329 (by decide +kernel) (by decide +kernel)
theorem wd_104 : Cond.selects RSo ySo_lineOfLabel ySo_lineOfLabel ∈ pq_ws := pq_mem (by decide +kernel) (by decide +kernel)
theorem nw_5 : Cond.fieldLinkNest RLa 127 RSo "firsts" "[I" "PoolAssembler" ∈ pq_nws := pq_nmem 39 (by decide +kernel) rfl
theorem nw_6 : Cond.methodLinkNest RLa 130 ySo_lineOfLabel "PoolAssembler" ∈ pq_nws := pq_nmem 398 (by decide +kernel) rfl
theorem wd_105 : Cond.fieldLink RLa 15 RLa "constantAt" "[I" ∈ pq_ws := pq_memT 90 (by decide +kernel) (by decide +kernel)
theorem wd_106 : Cond.fieldLink RLa 9 RLa "lineAt" "[I" ∈ pq_ws := pq_memT 89 (by decide +kernel) (by decide +kernel)
theorem nw_7 : Cond.methodLinkNest RLa 102 yFo_baseOf "PoolAssembler" ∈ pq_nws := pq_nmem 367 (by decide +kernel) rfl
theorem wd_107 : Cond.code yLa_stepsFrom cLa_stepsFrom 2 (some .int) ∈ pq_ws := pq_memT 377 (by decide +kernel) (by decide +kernel)
theorem wd_108 : Cond.initialized RLa ∈ pq_ws := pq_memT 5 (by decide +kernel) (by decide +kernel)
theorem wd_109 : Cond.methodLink RLa 106 yLa_stepsFrom ∈ pq_ws := pq_memT 375 (by decide +kernel) (by decide +kernel)
theorem wd_110 : Cond.static yLa_stepsFrom ∈ pq_ws := pq_memT 376 (by decide +kernel) (by decide +kernel)
theorem wd_111 : Cond.code yLa_wordsToConstant cLa_wordsToConstant 2 (some .int) ∈ pq_ws := pq_memT 393 (by decide +kernel) (by decide +kernel)
theorem wd_112 : Cond.methodLink RLa 118 yLa_wordsToConstant ∈ pq_ws := pq_memT 390 (by decide +kernel) (by decide +kernel)
theorem wd_113 : Cond.instanceMethod yLa_wordsToConstant ∈ pq_ws := pq_memT 392 (by decide +kernel) (by decide +kernel)
theorem wd_114 : Cond.selects RLa yLa_wordsToConstant yLa_wordsToConstant ∈ pq_ws := pq_mem (by decide +kernel) (by decide +kernel)
theorem wd_115 : Cond.code yLa_hasTarget cLa_hasTarget 2 (some .boolean) ∈ pq_ws := pq_memT 420 (by decide +kernel) (by decide +kernel)
theorem wd_116 : Cond.methodLink RLa 121 yLa_hasTarget ∈ pq_ws := pq_memT 417 (by decide +kernel) (by decide +kernel)
theorem wd_117 : Cond.instanceMethod yLa_hasTarget ∈ pq_ws := pq_memT 419 (by decide +kernel) (by decide +kernel)
theorem wd_118 : Cond.selects RLa yLa_hasTarget yLa_hasTarget ∈ pq_ws := pq_mem (by decide +kernel) (by decide +kernel)
theorem wd_119 : Cond.code yLa_stepsToLabel cLa_stepsToLabel 3 (some .int) ∈ pq_ws := pq_memT 397 (by decide +kernel) (by decide +kernel)
theorem wd_120 : Cond.methodLink RLa 124 yLa_stepsToLabel ∈ pq_ws := pq_memT 394 (by decide +kernel) (by decide +kernel)
theorem wd_121 : Cond.instanceMethod yLa_stepsToLabel ∈ pq_ws := pq_memT 396 (by decide +kernel) (by decide +kernel)
theorem wd_122 : Cond.selects RLa yLa_stepsToLabel yLa_stepsToLabel ∈ pq_ws := pq_mem (by decide +kernel) (by decide +kernel)
theorem nw_8 : Cond.fieldLinkNest RLa 71 RSo "kinds" "[I" "PoolAssembler" ∈ pq_nws := pq_nmem 37 (by decide +kernel) rfl
theorem wd_123 : Cond.fieldLink RLa 55 RLa "waitingCount" "I" ∈ pq_ws := pq_memT 93 (by decide +kernel) (by decide +kernel)
theorem wd_124 : Cond.code yFo_upToFour cFo_upToFour 1 (some .int) ∈ pq_ws := pq_memT 366 (by decide +kernel) (by decide +kernel)
theorem wd_125 : Cond.static yFo_upToFour ∈ pq_ws := pq_memT 365 (by decide +kernel) (by decide +kernel)
theorem wd_126 : Cond.fieldLink RLa 91 RLa "oldestLine" "I" ∈ pq_ws := pq_memT 94 (by decide +kernel) (by decide +kernel)
theorem nw_9 : Cond.methodLinkNest RLa 97 yFo_upToFour "PoolAssembler" ∈ pq_nws := pq_nmem 364 (by decide +kernel) rfl
theorem wd_127 : Cond.constant RLa 105 57344 ∈ pq_ws := pq_memT 374 (by decide +kernel) (by decide +kernel)
theorem wd_128 : Cond.constant RLa 136 53248 ∈ pq_ws := pq_memT 399 (by decide +kernel) (by decide +kernel)
theorem wd_129 : Cond.constant RLa 137 48640 ∈ pq_ws := pq_memT 400 (by decide +kernel) (by decide +kernel)
theorem nw_10 : Cond.fieldLinkNest RLa 94 RSo "seconds" "[I" "PoolAssembler" ∈ pq_nws := pq_nmem 41 (by decide +kernel) rfl
theorem nw_11 : Cond.fieldLinkNest RLa 133 RSo "thirds" "[I" "PoolAssembler" ∈ pq_nws := pq_nmem 43 (by decide +kernel) rfl
def FLa_stepsFrom (xa : Int32) (xb : Int32) : Int32 := ((xb - xa) - 4) / 2
set_option maxHeartbeats 4000000 in
set_option maxRecDepth 100000 in
theorem k_La_stepsFrom (l : Launch) (D : va_G) (ad : Nat → Nat) (cI cS : ClassId) (xa : Int32) (xb : Int32) : pq_I l yLa_stepsFrom (.code yLa_stepsFrom cLa_stepsFrom 2 (some .int) :: pq_ws) { frames := 0, cells := 0, slots := 0, locals := 0 } D cI cS [.int xa, .int xb] (wN ad cI cS) (FLa_stepsFrom xa xb) (wN ad cI cS) := by
  intro sz
  refine Met.ofW (cc := cLa_stepsFrom) (maxL := 2) (ret := (some .int)) (by decide) rfl ?_
  intro p e s m args below meth c s₁ B hml hv
  obtain ⟨rfl, hsz, hP, hD0, hE⟩ := hv
  have hx := B.exec
  have hb := B.bytes
  have hr := B.returns
  have hts := atoms_spec (ws := (.code yLa_stepsFrom cLa_stepsFrom 2 (some .int) :: pq_ws : List Cond)) B.pre
  have hw : ∀ w ∈ pq_ws, w.before _ s = true := fun w h => hts w (List.mem_cons_of_mem _ h)
  have hown : s.vm.findClass RLa = some m.cls := findClass_of_methodNamed B.named
  have hlocks := B.notSynchronized
  subst hsz
  have hD := hD0.self (sz := s.heap.size)
  have hA : ∀ q : Nat, s.heap.size ≤ q → va_A (wN ad cI cS) s.heap.size q := fun q h => Or.inr h
  have hS : va_S (va_A (wN ad cI cS) s.heap.size) s.heap s.heap [] := va_S.rf
  have hl := lv_entry ([.int xa, .int xb] : List Value) (n := 2) (Nat.le_of_ble_eq_true rfl)
  rw [lg_entry_eq]
  generalize (lg_sl ([.int xa, .int xb] : List Value) ++ List.replicate (2 - (lg_sl ([.int xa, .int xb] : List Value)).length) Slot.unset).toArray = ls at hl ⊢
  have hl : lv_has ls 2 [(0, .int xa), (1, .int xb)] := hl
  refine lv_iload_n hx hb dLa_stepsFrom_0 rfl (lv_at hl 1 rfl) ?_
  refine lv_iload_n hx hb dLa_stepsFrom_1 rfl (lv_at hl 0 rfl) ?_
  refine lv_isub hx hb dLa_stepsFrom_2 ?_
  refine lv_iconst (v := 4) hx hb dLa_stepsFrom_3 (by first | rfl | decide) ?_
  refine lv_isub hx hb dLa_stepsFrom_4 ?_
  refine lv_iconst (v := 2) hx hb dLa_stepsFrom_5 (by first | rfl | decide) ?_
  refine lv_idiv hx hb dLa_stepsFrom_6 (by decide) ?_
  have e9 : FLa_stepsFrom xa xb = ((xb - xa) - 4) / 2 := rfl
  exact W.iret (v := ((xb - xa) - 4) / 2) hx hb hr (fun t ht hW => ⟨⟨((xb - xa) - 4) / 2, (), rfl, (by show _ = _; rw [e9]), by rw [ht]; exact hP, hD⟩, hS.F ht⟩) hS.2.2 dLa_stepsFrom_7
def FLa_putHalf (xv : Int32) (ta : Int32) (tw : Int32) (gh : Nat → Int32) : Int32 × (Nat → Int32) := if tw = 0 then (ta + 2, gh) else (ta + 2, (FIm_put (ta / 2) xv gh))
set_option maxHeartbeats 4000000 in
set_option maxRecDepth 100000 in
theorem k_La_putHalf (l : Launch) (D : va_G) (ad : Nat → Nat) (cI cS : ClassId) (xv : Int32) (tn : Int32) (to : Int32) (ta : Int32) (tp : Int32) (tk : Int32) (tw : Int32) (tl : Nat → Int32) (tc : Nat → Int32) (ts : Nat → Int32) (tv : Nat → Int32) (sn : Int32) (sK : Nat → Int32) (sA : Nat → Int32) (sB : Nat → Int32) (sC : Nat → Int32) (sL : Nat → Int32) (gn : Int32) (gp : Int32) (gh : Nat → Int32) : pq_V l yLa_putHalf (.code yLa_putHalf cLa_putHalf 2 none :: pq_ws) { frames := 1, cells := 0, slots := 0, locals := 22 } D cI cS [.ref (ad 3), .int xv] (wL ad cI cS tn to ta tp tk tw tl tc ts tv sn sK sA sB sC sL gn gp gh) (wL ad cI cS tn to ((FLa_putHalf xv ta tw gh).1) tp tk tw tl tc ts tv sn sK sA sB sC sL gn gp ((FLa_putHalf xv ta tw gh).2)) := by
  intro sz
  refine Met.ofW (cc := cLa_putHalf) (maxL := 2) (ret := none) (by decide) rfl ?_
  intro p e s m args below meth c s₁ B hml hv
  obtain ⟨rfl, hsz, hP, hD0, hE⟩ := hv
  have hx := B.exec
  have hb := B.bytes
  have hr := B.returns
  have hts := atoms_spec (ws := (.code yLa_putHalf cLa_putHalf 2 none :: pq_ws : List Cond)) B.pre
  have hw : ∀ w ∈ pq_ws, w.before _ s = true := fun w h => hts w (List.mem_cons_of_mem _ h)
  have hown : s.vm.findClass RLa = some m.cls := findClass_of_methodNamed B.named
  have hlocks := B.notSynchronized
  subst hsz
  have hD := hD0.self (sz := s.heap.size)
  have hA : ∀ q : Nat, s.heap.size ≤ q → va_A (wL ad cI cS tn to ta tp tk tw tl tc ts tv sn sK sA sB sC sL gn gp gh) s.heap.size q := fun q h => Or.inr h
  have hS : va_S (va_A (wL ad cI cS tn to ta tp tk tw tl tc ts tv sn sK sA sB sC sL gn gp gh) s.heap.size) s.heap s.heap [] := va_S.rf
  have hl := lv_entry ([.ref (ad 3), .int xv] : List Value) (n := 2) (Nat.le_of_ble_eq_true rfl)
  rw [lg_entry_eq]
  generalize (lg_sl ([.ref (ad 3), .int xv] : List Value) ++ List.replicate (2 - (lg_sl ([.ref (ad 3), .int xv] : List Value)).length) Slot.unset).toArray = ls at hl ⊢
  have hl : lv_has ls 2 [(0, .ref (ad 3)), (1, .int xv)] := hl
  refine lv_aload_n hx hb dLa_putHalf_0 rfl (lv_at hl 0 rfl) ?_
  refine va_get (D := D) (ci := 1) (v := .int tw) (C := RLa) (T := TLa) (N := 12) hx hb hw pinLa hown hE.1 hP 0 rfl rfl 11 (by decide) (hw _ wd_94) (fun _ h9 => h9) rfl dLa_putHalf_1 ?_
  refine lv_if_eq (tgt := 21) hx hb dLa_putHalf_4 (by decide) (fun h1 => ?_) (fun h1 => ?_)
  · refine lv_aload_n hx hb dLa_putHalf_21 rfl (lv_at hl 0 rfl) ?_
    refine lv_dup hx hb dLa_putHalf_22 rfl ?_
    refine va_get (D := D) (ci := 1) (v := .int ta) (C := RLa) (T := TLa) (N := 12) hx hb hw pinLa hown hE.1 hP 0 rfl rfl 8 (by decide) (hw _ wd_95) (fun _ h9 => h9) rfl dLa_putHalf_23 ?_
    refine lv_iconst (v := 2) hx hb dLa_putHalf_26 (by first | rfl | decide) ?_
    refine lv_iadd hx hb dLa_putHalf_27 ?_
    refine va_put (D := D) (ci := 1) (v := .int (ta + 2)) (ty := .int) (C := RLa) (T := TLa) (N := 12) hx hb hw pinLa tyLa tyLa_ok nmLa hown hE.1 hP hD hS 0 rfl rfl 8 (by decide) (hw _ wd_95) (fun _ h9 => h9) rfl (by decide +kernel) rfl rfl (Nat.le_of_ble_eq_true rfl) dLa_putHalf_28 (fun H locs hP hD hS => ?_)
    have hP : va_P D vwCl (wL ad cI cS tn to (ta + 2) tp tk tw tl tc ts tv sn sK sA sB sC sL gn gp gh) H := hP
    have hD : va_D _ (wL ad cI cS tn to (ta + 2) tp tk tw tl tc ts tv sn sK sA sB sC sL gn gp gh) := hD
    have e9 : FLa_putHalf xv ta tw gh = (ta + 2, gh) := by simp only [FLa_putHalf, if_pos h1]
    exact W.vret hx hb hr (fun t ht hW => ⟨⟨(), rfl, trivial, by rw [e9, ht]; exact hP, by rw [e9]; exact hD⟩, hS.F ht⟩) hS.2.2 dLa_putHalf_31
  · refine lv_aload_n hx hb dLa_putHalf_7 rfl (lv_at hl 0 rfl) ?_
    refine va_get (D := D) (ci := 1) (v := .ref (ad 2)) (C := RLa) (T := TLa) (N := 12) hx hb hw pinLa hown hE.1 hP 0 rfl rfl 1 (by decide) (hw _ wd_96) (fun _ h9 => h9) rfl dLa_putHalf_8 ?_
    refine lv_aload_n hx hb dLa_putHalf_11 rfl (lv_at hl 0 rfl) ?_
    refine va_get (D := D) (ci := 1) (v := .int ta) (C := RLa) (T := TLa) (N := 12) hx hb hw pinLa hown hE.1 hP 0 rfl rfl 8 (by decide) (hw _ wd_95) (fun _ h9 => h9) rfl dLa_putHalf_12 ?_
    refine lv_iconst (v := 2) hx hb dLa_putHalf_15 (by first | rfl | decide) ?_
    refine lv_idiv hx hb dLa_putHalf_16 (by decide) ?_
    refine lv_iload_n hx hb dLa_putHalf_17 rfl (lv_at hl 1 rfl) ?_
    refine pq_callv (wc := (wI ad cI cS gn gp gh)) (wr := ([0, 1, 2, 3, 4, 5, 6, 7, 8, 9, 10] : List Nat).filterMap (fun i => (wL ad cI cS tn to ta tp tk tw tl tc ts tv sn sK sA sB sC sL gn gp gh)[i]?)) hP hD hS hA [11, 12] [0, 1, 2, 3, 4, 5, 6, 7, 8, 9, 10] rfl rfl (by decide) (by decide) (va_runVN (own := RLa) (C := RIm) (As := [.int (ta / 2), .int xv]) (rest := []) ⟨hx, hb, hml, hown, hw⟩ (k_Im_put l D ad cI cS (ta / 2) xv gn gp gh s.heap.size) ⟨pq_cnB 2 hw (hE.2 _ nw_4) wd_22 wd_97 rfl rfl (by decide +kernel) ⟨Nat.le_of_ble_eq_true rfl, Nat.le_of_ble_eq_true rfl⟩, hw _ wd_98, hw _ wd_99⟩ (pq_preV (ci := 0) (C := RIm) (T := TIm) (N := 3) hE (hP.sub [11, 12] rfl) (hD.sub [11, 12] (by decide) rfl) rfl 0 rfl) rfl rfl hl.1 rfl (lv_room (Nat.le_of_ble_eq_true rfl)) dLa_putHalf_18 ⟨Nat.zero_le _, Nat.zero_le _⟩) (fun _ H locs hP hD hS => ?_)
    have hP : va_P D vwCl (wL ad cI cS tn to ta tp tk tw tl tc ts tv sn sK sA sB sC sL gn gp (FIm_put (ta / 2) xv gh)) H := hP.sub [0, 1, 2, 3, 4, 5, 6, 7, 8, 9, 10, 11, 12] rfl
    have hD : va_D _ (wL ad cI cS tn to ta tp tk tw tl tc ts tv sn sK sA sB sC sL gn gp (FIm_put (ta / 2) xv gh)) := hD.sub [0, 1, 2, 3, 4, 5, 6, 7, 8, 9, 10, 11, 12] (by decide) rfl
    refine lv_aload_n hx hb dLa_putHalf_21 rfl (lv_at hl 0 rfl) ?_
    refine lv_dup hx hb dLa_putHalf_22 rfl ?_
    refine va_get (D := D) (ci := 1) (v := .int ta) (C := RLa) (T := TLa) (N := 12) hx hb hw pinLa hown hE.1 hP 0 rfl rfl 8 (by decide) (hw _ wd_95) (fun _ h9 => h9) rfl dLa_putHalf_23 ?_
    refine lv_iconst (v := 2) hx hb dLa_putHalf_26 (by first | rfl | decide) ?_
    refine lv_iadd hx hb dLa_putHalf_27 ?_
    refine va_put (D := D) (ci := 1) (v := .int (ta + 2)) (ty := .int) (C := RLa) (T := TLa) (N := 12) hx hb hw pinLa tyLa tyLa_ok nmLa hown hE.1 hP hD hS 0 rfl rfl 8 (by decide) (hw _ wd_95) (fun _ h9 => h9) rfl (by decide +kernel) rfl rfl (Nat.le_of_ble_eq_true rfl) dLa_putHalf_28 (fun H locs hP hD hS => ?_)
    have hP : va_P D vwCl (wL ad cI cS tn to (ta + 2) tp tk tw tl tc ts tv sn sK sA sB sC sL gn gp (FIm_put (ta / 2) xv gh)) H := hP
    have hD : va_D _ (wL ad cI cS tn to (ta + 2) tp tk tw tl tc ts tv sn sK sA sB sC sL gn gp (FIm_put (ta / 2) xv gh)) := hD
    have e9 : FLa_putHalf xv ta tw gh = (ta + 2, (FIm_put (ta / 2) xv gh)) := by simp only [FLa_putHalf, if_neg h1]
    exact W.vret hx hb hr (fun t ht hW => ⟨⟨(), rfl, trivial, by rw [e9, ht]; exact hP, by rw [e9]; exact hD⟩, hS.F ht⟩) hS.2.2 dLa_putHalf_31
def FLa_hasTarget (xl : Int32) (sA : Nat → Int32) (sL : Nat → Int32) : Int32 := if (FSo_lineOfLabel (sA xl.toNatClampNeg) sL) = (-1) then 0 else 1
set_option maxRecDepth 20000 in
theorem b_La_hasTarget (xl : Int32) (sA : Nat → Int32) (sL : Nat → Int32) : narrow .boolean (.int (FLa_hasTarget xl sA sL)) = .int (FLa_hasTarget xl sA sL) := by
  unfold FLa_hasTarget
  repeat' (first | apply pq_bif | exact pq_b0 | exact pq_b1)
set_option maxHeartbeats 4000000 in
set_option maxRecDepth 100000 in
theorem k_La_hasTarget (l : Launch) (D : va_G) (ad : Nat → Nat) (cI cS : ClassId) (xl : Int32) (tn : Int32) (to : Int32) (ta : Int32) (tp : Int32) (tk : Int32) (tw : Int32) (tl : Nat → Int32) (tc : Nat → Int32) (ts : Nat → Int32) (tv : Nat → Int32) (sn : Int32) (sK : Nat → Int32) (sA : Nat → Int32) (sB : Nat → Int32) (sC : Nat → Int32) (sL : Nat → Int32) (gn : Int32) (gp : Int32) (gh : Nat → Int32) (hxl : vp_in xl 160) : pq_I l yLa_hasTarget (.code yLa_hasTarget cLa_hasTarget 2 (some .boolean) :: pq_ws) { frames := 1, cells := 0, slots := 0, locals := 21 } D cI cS [.ref (ad 3), .int xl] (wL ad cI cS tn to ta tp tk tw tl tc ts tv sn sK sA sB sC sL gn gp gh) (FLa_hasTarget xl sA sL) (wL ad cI cS tn to ta tp tk tw tl tc ts tv sn sK sA sB sC sL gn gp gh) := by
  intro sz
  refine Met.ofW (cc := cLa_hasTarget) (maxL := 2) (ret := (some .boolean)) (by decide) rfl ?_
  intro p e s m args below meth c s₁ B hml hv
  obtain ⟨rfl, hsz, hP, hD0, hE⟩ := hv
  have hx := B.exec
  have hb := B.bytes
  have hr := B.returns
  have hts := atoms_spec (ws := (.code yLa_hasTarget cLa_hasTarget 2 (some .boolean) :: pq_ws : List Cond)) B.pre
  have hw : ∀ w ∈ pq_ws, w.before _ s = true := fun w h => hts w (List.mem_cons_of_mem _ h)
  have hown : s.vm.findClass RLa = some m.cls := findClass_of_methodNamed B.named
  have hlocks := B.notSynchronized
  subst hsz
  have hD := hD0.self (sz := s.heap.size)
  have hA : ∀ q : Nat, s.heap.size ≤ q → va_A (wL ad cI cS tn to ta tp tk tw tl tc ts tv sn sK sA sB sC sL gn gp gh) s.heap.size q := fun q h => Or.inr h
  have hS : va_S (va_A (wL ad cI cS tn to ta tp tk tw tl tc ts tv sn sK sA sB sC sL gn gp gh) s.heap.size) s.heap s.heap [] := va_S.rf
  have hl := lv_entry ([.ref (ad 3), .int xl] : List Value) (n := 2) (Nat.le_of_ble_eq_true rfl)
  rw [lg_entry_eq]
  generalize (lg_sl ([.ref (ad 3), .int xl] : List Value) ++ List.replicate (2 - (lg_sl ([.ref (ad 3), .int xl] : List Value)).length) Slot.unset).toArray = ls at hl ⊢
  have hl : lv_has ls 2 [(0, .ref (ad 3)), (1, .int xl)] := hl
  refine lv_aload_n hx hb dLa_hasTarget_0 rfl (lv_at hl 0 rfl) ?_
  refine va_get (D := D) (ci := 1) (v := .ref (ad 1)) (C := RLa) (T := TLa) (N := 12) hx hb hw pinLa hown hE.1 hP 0 rfl rfl 0 (by decide) (hw _ wd_100) (fun _ h9 => h9) rfl dLa_hasTarget_1 ?_
  refine lv_aload_n hx hb dLa_hasTarget_4 rfl (lv_at hl 0 rfl) ?_
  refine va_get (D := D) (ci := 1) (v := .ref (ad 1)) (C := RLa) (T := TLa) (N := 12) hx hb hw pinLa hown hE.1 hP 0 rfl rfl 0 (by decide) (hw _ wd_100) (fun _ h9 => h9) rfl dLa_hasTarget_5 ?_
  refine va_getN (D := D) (ci := 3) (v := .ref (ad 6)) (C := RSo) (T := TSo) (N := 6) hx hb hw pinSo hown hE.1 hP 5 rfl rfl 1 (by decide) (va_Nw.use rfl (hE.2 _ nw_5)) (fun _ h9 => h9) rfl dLa_hasTarget_8 ?_
  refine lv_iload_n hx hb dLa_hasTarget_11 rfl (lv_at hl 1 rfl) ?_
  refine va_iald hx hb hE.1 hP 7 0 rfl rfl hxl dLa_hasTarget_12 ?_
  refine pq_calli (fr := (FSo_lineOfLabel (sA xl.toNatClampNeg) sL)) (wc := (wS ad cI cS sn sK sA sB sC sL)) (wr := ([0, 1, 2, 3, 4, 11, 12] : List Nat).filterMap (fun i => (wL ad cI cS tn to ta tp tk tw tl tc ts tv sn sK sA sB sC sL gn gp gh)[i]?)) hP hD hS hA [5, 6, 7, 8, 9, 10] [0, 1, 2, 3, 4, 11, 12] rfl rfl (by decide) (by decide) (va_runVN (own := RLa) (C := RSo) (As := [.int (sA xl.toNatClampNeg)]) (rest := []) ⟨hx, hb, hml, hown, hw⟩ (k_So_lineOfLabel l D ad cI cS (sA xl.toNatClampNeg) sn sK sA sB sC sL s.heap.size) ⟨pq_cnB 1 hw (hE.2 _ nw_6) wd_102 wd_101 rfl rfl (by decide +kernel) ⟨Nat.le_of_ble_eq_true rfl, Nat.le_of_ble_eq_true rfl⟩, hw _ wd_103, hw _ wd_104⟩ (pq_preV (ci := 3) (C := RSo) (T := TSo) (N := 6) hE (hP.sub [5, 6, 7, 8, 9, 10] rfl) (hD.sub [5, 6, 7, 8, 9, 10] (by decide) rfl) rfl 0 rfl) rfl rfl hl.1 rfl (lv_room (Nat.le_of_ble_eq_true rfl)) dLa_hasTarget_13 ⟨Nat.zero_le _, Nat.zero_le _⟩) (fun H locs hP hD hS => ?_)
  have hP : va_P D vwCl (wL ad cI cS tn to ta tp tk tw tl tc ts tv sn sK sA sB sC sL gn gp gh) H := hP.sub [0, 1, 2, 3, 4, 7, 8, 9, 10, 11, 12, 5, 6] rfl
  have hD : va_D _ (wL ad cI cS tn to ta tp tk tw tl tc ts tv sn sK sA sB sC sL gn gp gh) := hD.sub [0, 1, 2, 3, 4, 7, 8, 9, 10, 11, 12, 5, 6] (by decide) rfl
  refine lv_iconst (v := (-1)) hx hb dLa_hasTarget_16 (by first | rfl | decide) ?_
  refine lv_icmp_eq (tgt := 24) hx hb dLa_hasTarget_17 (by decide) (fun h1 => ?_) (fun h1 => ?_)
  · refine lv_iconst (v := 0) hx hb dLa_hasTarget_24 (by first | rfl | decide) ?_
    have e9 : FLa_hasTarget xl sA sL = 0 := by simp only [FLa_hasTarget, if_pos h1]
    exact W.zret (v := 0) hx hb hr rfl (fun t ht hW => ⟨⟨0, (), rfl, (by show _ = _; rw [e9]), by rw [ht]; exact hP, hD⟩, hS.F ht⟩) hS.2.2 dLa_hasTarget_25
  · refine lv_iconst (v := 1) hx hb dLa_hasTarget_20 (by first | rfl | decide) ?_
    refine lv_goto (tgt := 25) hx hb dLa_hasTarget_21 (by decide) ?_
    have e9 : FLa_hasTarget xl sA sL = 1 := by simp only [FLa_hasTarget, if_neg h1]
    exact W.zret (v := 1) hx hb hr rfl (fun t ht hW => ⟨⟨1, (), rfl, (by show _ = _; rw [e9]), by rw [ht]; exact hP, hD⟩, hS.F ht⟩) hS.2.2 dLa_hasTarget_25
def FLa_wordsToConstant (xl : Int32) (tl : Nat → Int32) (tc : Nat → Int32) : Int32 := ((tc xl.toNatClampNeg) - (FFo_baseOf (tl xl.toNatClampNeg))) / 4
set_option maxHeartbeats 4000000 in
set_option maxRecDepth 100000 in
theorem k_La_wordsToConstant (l : Launch) (D : va_G) (ad : Nat → Nat) (cI cS : ClassId) (xl : Int32) (tn : Int32) (to : Int32) (ta : Int32) (tp : Int32) (tk : Int32) (tw : Int32) (tl : Nat → Int32) (tc : Nat → Int32) (ts : Nat → Int32) (tv : Nat → Int32) (sn : Int32) (sK : Nat → Int32) (sA : Nat → Int32) (sB : Nat → Int32) (sC : Nat → Int32) (sL : Nat → Int32) (gn : Int32) (gp : Int32) (gh : Nat → Int32) (hxl : vp_in xl 160) : pq_I l yLa_wordsToConstant (.code yLa_wordsToConstant cLa_wordsToConstant 2 (some .int) :: pq_ws) { frames := 1, cells := 0, slots := 0, locals := 20 } D cI cS [.ref (ad 3), .int xl] (wL ad cI cS tn to ta tp tk tw tl tc ts tv sn sK sA sB sC sL gn gp gh) (FLa_wordsToConstant xl tl tc) (wL ad cI cS tn to ta tp tk tw tl tc ts tv sn sK sA sB sC sL gn gp gh) := by
  intro sz
  refine Met.ofW (cc := cLa_wordsToConstant) (maxL := 2) (ret := (some .int)) (by decide) rfl ?_
  intro p e s m args below meth c s₁ B hml hv
  obtain ⟨rfl, hsz, hP, hD0, hE⟩ := hv
  have hx := B.exec
  have hb := B.bytes
  have hr := B.returns
  have hts := atoms_spec (ws := (.code yLa_wordsToConstant cLa_wordsToConstant 2 (some .int) :: pq_ws : List Cond)) B.pre
  have hw : ∀ w ∈ pq_ws, w.before _ s = true := fun w h => hts w (List.mem_cons_of_mem _ h)
  have hown : s.vm.findClass RLa = some m.cls := findClass_of_methodNamed B.named
  have hlocks := B.notSynchronized
  subst hsz
  have hD := hD0.self (sz := s.heap.size)
  have hA : ∀ q : Nat, s.heap.size ≤ q → va_A (wL ad cI cS tn to ta tp tk tw tl tc ts tv sn sK sA sB sC sL gn gp gh) s.heap.size q := fun q h => Or.inr h
  have hS : va_S (va_A (wL ad cI cS tn to ta tp tk tw tl tc ts tv sn sK sA sB sC sL gn gp gh) s.heap.size) s.heap s.heap [] := va_S.rf
  have hl := lv_entry ([.ref (ad 3), .int xl] : List Value) (n := 2) (Nat.le_of_ble_eq_true rfl)
  rw [lg_entry_eq]
  generalize (lg_sl ([.ref (ad 3), .int xl] : List Value) ++ List.replicate (2 - (lg_sl ([.ref (ad 3), .int xl] : List Value)).length) Slot.unset).toArray = ls at hl ⊢
  have hl : lv_has ls 2 [(0, .ref (ad 3)), (1, .int xl)] := hl
  refine lv_aload_n hx hb dLa_wordsToConstant_0 rfl (lv_at hl 0 rfl) ?_
  refine va_get (D := D) (ci := 1) (v := .ref (ad 12)) (C := RLa) (T := TLa) (N := 12) hx hb hw pinLa hown hE.1 hP 0 rfl rfl 3 (by decide) (hw _ wd_105) (fun _ h9 => h9) rfl dLa_wordsToConstant_1 ?_
  refine lv_iload_n hx hb dLa_wordsToConstant_4 rfl (lv_at hl 1 rfl) ?_
  refine va_iald hx hb hE.1 hP 2 0 rfl rfl hxl dLa_wordsToConstant_5 ?_
  refine lv_aload_n hx hb dLa_wordsToConstant_6 rfl (lv_at hl 0 rfl) ?_
  refine va_get (D := D) (ci := 1) (v := .ref (ad 11)) (C := RLa) (T := TLa) (N := 12) hx hb hw pinLa hown hE.1 hP 0 rfl rfl 2 (by decide) (hw _ wd_106) (fun _ h9 => h9) rfl dLa_wordsToConstant_7 ?_
  refine lv_iload_n hx hb dLa_wordsToConstant_10 rfl (lv_at hl 1 rfl) ?_
  refine va_iald hx hb hE.1 hP 1 0 rfl rfl hxl dLa_wordsToConstant_11 ?_
  refine pq_calli (fr := (FFo_baseOf (tl xl.toNatClampNeg))) (wc := (wN ad cI cS)) (wr := ([0, 1, 2, 3, 4, 5, 6, 7, 8, 9, 10, 11, 12] : List Nat).filterMap (fun i => (wL ad cI cS tn to ta tp tk tw tl tc ts tv sn sK sA sB sC sL gn gp gh)[i]?)) hP hD hS hA [] [0, 1, 2, 3, 4, 5, 6, 7, 8, 9, 10, 11, 12] rfl rfl (by decide) (by decide) (va_runSN (own := RLa) (As := [.int (tl xl.toNatClampNeg)]) (rest := [.int (tc xl.toNatClampNeg)]) ⟨hx, hb, hml, hown, hw⟩ (k_Fo_baseOf l D ad cI cS (tl xl.toNatClampNeg) s.heap.size) ⟨pq_cnB 1 hw (hE.2 _ nw_7) wd_1 wd_59 rfl rfl (by decide +kernel) ⟨Nat.le_of_ble_eq_true rfl, Nat.le_of_ble_eq_true rfl⟩, hw _ wd_60, trivial⟩ (pq_preS hE (hP.sub [] rfl) (hD.sub [] (by decide) rfl)) rfl rfl hl.1 rfl (lv_room (Nat.le_of_ble_eq_true rfl)) dLa_wordsToConstant_12 ⟨Nat.zero_le _, Nat.zero_le _⟩) (fun H locs hP hD hS => ?_)
  have hP : va_P D vwCl (wL ad cI cS tn to ta tp tk tw tl tc ts tv sn sK sA sB sC sL gn gp gh) H := hP.sub [0, 1, 2, 3, 4, 5, 6, 7, 8, 9, 10, 11, 12] rfl
  have hD : va_D _ (wL ad cI cS tn to ta tp tk tw tl tc ts tv sn sK sA sB sC sL gn gp gh) := hD.sub [0, 1, 2, 3, 4, 5, 6, 7, 8, 9, 10, 11, 12] (by decide) rfl
  refine lv_isub hx hb dLa_wordsToConstant_15 ?_
  refine lv_iconst (v := 4) hx hb dLa_wordsToConstant_16 (by first | rfl | decide) ?_
  refine lv_idiv hx hb dLa_wordsToConstant_17 (by decide) ?_
  have e9 : FLa_wordsToConstant xl tl tc = ((tc xl.toNatClampNeg) - (FFo_baseOf (tl xl.toNatClampNeg))) / 4 := rfl
  exact W.iret (v := ((tc xl.toNatClampNeg) - (FFo_baseOf (tl xl.toNatClampNeg))) / 4) hx hb hr (fun t ht hW => ⟨⟨((tc xl.toNatClampNeg) - (FFo_baseOf (tl xl.toNatClampNeg))) / 4, (), rfl, (by show _ = _; rw [e9]), by rw [ht]; exact hP, hD⟩, hS.F ht⟩) hS.2.2 dLa_wordsToConstant_18
def FLa_stepsToLabel (xl : Int32) (tl : Nat → Int32) (sA : Nat → Int32) (sL : Nat → Int32) : Int32 := if (FSo_lineOfLabel (sA xl.toNatClampNeg) sL) = (-1) then 0 else (FLa_stepsFrom (tl xl.toNatClampNeg) (tl (FSo_lineOfLabel (sA xl.toNatClampNeg) sL).toNatClampNeg))
set_option maxHeartbeats 4000000 in
set_option maxRecDepth 100000 in
theorem k_La_stepsToLabel (l : Launch) (D : va_G) (ad : Nat → Nat) (cI cS : ClassId) (xl : Int32) (tn : Int32) (to : Int32) (ta : Int32) (tp : Int32) (tk : Int32) (tw : Int32) (tl : Nat → Int32) (tc : Nat → Int32) (ts : Nat → Int32) (tv : Nat → Int32) (sn : Int32) (sK : Nat → Int32) (sA : Nat → Int32) (sB : Nat → Int32) (sC : Nat → Int32) (sL : Nat → Int32) (gn : Int32) (gp : Int32) (gh : Nat → Int32) (hxl : vp_in xl 160) (hsl : ∀ j : Nat, j < 16 → ¬ sL j = (-1) → vp_in (sL j) 160) : pq_I l yLa_stepsToLabel (.code yLa_stepsToLabel cLa_stepsToLabel 3 (some .int) :: pq_ws) { frames := 1, cells := 0, slots := 0, locals := 21 } D cI cS [.ref (ad 3), .int xl] (wL ad cI cS tn to ta tp tk tw tl tc ts tv sn sK sA sB sC sL gn gp gh) (FLa_stepsToLabel xl tl sA sL) (wL ad cI cS tn to ta tp tk tw tl tc ts tv sn sK sA sB sC sL gn gp gh) := by
  intro sz
  refine Met.ofW (cc := cLa_stepsToLabel) (maxL := 3) (ret := (some .int)) (by decide) rfl ?_
  intro p e s m args below meth c s₁ B hml hv
  obtain ⟨rfl, hsz, hP, hD0, hE⟩ := hv
  have hx := B.exec
  have hb := B.bytes
  have hr := B.returns
  have hts := atoms_spec (ws := (.code yLa_stepsToLabel cLa_stepsToLabel 3 (some .int) :: pq_ws : List Cond)) B.pre
  have hw : ∀ w ∈ pq_ws, w.before _ s = true := fun w h => hts w (List.mem_cons_of_mem _ h)
  have hown : s.vm.findClass RLa = some m.cls := findClass_of_methodNamed B.named
  have hlocks := B.notSynchronized
  subst hsz
  have hD := hD0.self (sz := s.heap.size)
  have hA : ∀ q : Nat, s.heap.size ≤ q → va_A (wL ad cI cS tn to ta tp tk tw tl tc ts tv sn sK sA sB sC sL gn gp gh) s.heap.size q := fun q h => Or.inr h
  have hS : va_S (va_A (wL ad cI cS tn to ta tp tk tw tl tc ts tv sn sK sA sB sC sL gn gp gh) s.heap.size) s.heap s.heap [] := va_S.rf
  have hl := lv_entry ([.ref (ad 3), .int xl] : List Value) (n := 3) (Nat.le_of_ble_eq_true rfl)
  rw [lg_entry_eq]
  generalize (lg_sl ([.ref (ad 3), .int xl] : List Value) ++ List.replicate (3 - (lg_sl ([.ref (ad 3), .int xl] : List Value)).length) Slot.unset).toArray = ls at hl ⊢
  have hl : lv_has ls 3 [(0, .ref (ad 3)), (1, .int xl)] := hl
  refine lv_aload_n hx hb dLa_stepsToLabel_0 rfl (lv_at hl 0 rfl) ?_
  refine va_get (D := D) (ci := 1) (v := .ref (ad 1)) (C := RLa) (T := TLa) (N := 12) hx hb hw pinLa hown hE.1 hP 0 rfl rfl 0 (by decide) (hw _ wd_100) (fun _ h9 => h9) rfl dLa_stepsToLabel_1 ?_
  refine lv_aload_n hx hb dLa_stepsToLabel_4 rfl (lv_at hl 0 rfl) ?_
  refine va_get (D := D) (ci := 1) (v := .ref (ad 1)) (C := RLa) (T := TLa) (N := 12) hx hb hw pinLa hown hE.1 hP 0 rfl rfl 0 (by decide) (hw _ wd_100) (fun _ h9 => h9) rfl dLa_stepsToLabel_5 ?_
  refine va_getN (D := D) (ci := 3) (v := .ref (ad 6)) (C := RSo) (T := TSo) (N := 6) hx hb hw pinSo hown hE.1 hP 5 rfl rfl 1 (by decide) (va_Nw.use rfl (hE.2 _ nw_5)) (fun _ h9 => h9) rfl dLa_stepsToLabel_8 ?_
  refine lv_iload_n hx hb dLa_stepsToLabel_11 rfl (lv_at hl 1 rfl) ?_
  refine va_iald hx hb hE.1 hP 7 0 rfl rfl hxl dLa_stepsToLabel_12 ?_
  refine pq_calli (fr := (FSo_lineOfLabel (sA xl.toNatClampNeg) sL)) (wc := (wS ad cI cS sn sK sA sB sC sL)) (wr := ([0, 1, 2, 3, 4, 11, 12] : List Nat).filterMap (fun i => (wL ad cI cS tn to ta tp tk tw tl tc ts tv sn sK sA sB sC sL gn gp gh)[i]?)) hP hD hS hA [5, 6, 7, 8, 9, 10] [0, 1, 2, 3, 4, 11, 12] rfl rfl (by decide) (by decide) (va_runVN (own := RLa) (C := RSo) (As := [.int (sA xl.toNatClampNeg)]) (rest := []) ⟨hx, hb, hml, hown, hw⟩ (k_So_lineOfLabel l D ad cI cS (sA xl.toNatClampNeg) sn sK sA sB sC sL s.heap.size) ⟨pq_cnB 1 hw (hE.2 _ nw_6) wd_102 wd_101 rfl rfl (by decide +kernel) ⟨Nat.le_of_ble_eq_true rfl, Nat.le_of_ble_eq_true rfl⟩, hw _ wd_103, hw _ wd_104⟩ (pq_preV (ci := 3) (C := RSo) (T := TSo) (N := 6) hE (hP.sub [5, 6, 7, 8, 9, 10] rfl) (hD.sub [5, 6, 7, 8, 9, 10] (by decide) rfl) rfl 0 rfl) rfl rfl hl.1 rfl (lv_room (Nat.le_of_ble_eq_true rfl)) dLa_stepsToLabel_13 ⟨Nat.zero_le _, Nat.zero_le _⟩) (fun H locs hP hD hS => ?_)
  have hP : va_P D vwCl (wL ad cI cS tn to ta tp tk tw tl tc ts tv sn sK sA sB sC sL gn gp gh) H := hP.sub [0, 1, 2, 3, 4, 7, 8, 9, 10, 11, 12, 5, 6] rfl
  have hD : va_D _ (wL ad cI cS tn to ta tp tk tw tl tc ts tv sn sK sA sB sC sL gn gp gh) := hD.sub [0, 1, 2, 3, 4, 7, 8, 9, 10, 11, 12, 5, 6] (by decide) rfl
  refine lv_istore_n (lv' := [(2, .int (FSo_lineOfLabel (sA xl.toNatClampNeg) sL)), (0, .ref (ad 3)), (1, .int xl)]) hx hb dLa_stepsToLabel_16 rfl hl (by decide) rfl (fun ls hl => ?_)
  refine lv_iload_n hx hb dLa_stepsToLabel_17 rfl (lv_at hl 0 rfl) ?_
  refine lv_iconst (v := (-1)) hx hb dLa_stepsToLabel_18 (by first | rfl | decide) ?_
  refine lv_icmp_ne (tgt := 26) hx hb dLa_stepsToLabel_19 (by decide) (fun h1 => ?_) (fun h1 => ?_)
  · refine lv_aload_n hx hb dLa_stepsToLabel_26 rfl (lv_at hl 1 rfl) ?_
    refine va_get (D := D) (ci := 1) (v := .ref (ad 11)) (C := RLa) (T := TLa) (N := 12) hx hb hw pinLa hown hE.1 hP 0 rfl rfl 2 (by decide) (hw _ wd_106) (fun _ h9 => h9) rfl dLa_stepsToLabel_27 ?_
    refine lv_iload_n hx hb dLa_stepsToLabel_30 rfl (lv_at hl 2 rfl) ?_
    refine va_iald hx hb hE.1 hP 1 0 rfl rfl hxl dLa_stepsToLabel_31 ?_
    refine lv_aload_n hx hb dLa_stepsToLabel_32 rfl (lv_at hl 1 rfl) ?_
    refine va_get (D := D) (ci := 1) (v := .ref (ad 11)) (C := RLa) (T := TLa) (N := 12) hx hb hw pinLa hown hE.1 hP 0 rfl rfl 2 (by decide) (hw _ wd_106) (fun _ h9 => h9) rfl dLa_stepsToLabel_33 ?_
    refine lv_iload_n hx hb dLa_stepsToLabel_36 rfl (lv_at hl 0 rfl) ?_
    refine va_iald hx hb hE.1 hP 1 0 rfl rfl (pq_lol hsl (by assumption)) dLa_stepsToLabel_37 ?_
    refine pq_calli (fr := (FLa_stepsFrom (tl xl.toNatClampNeg) (tl (FSo_lineOfLabel (sA xl.toNatClampNeg) sL).toNatClampNeg))) (wc := (wN ad cI cS)) (wr := ([0, 1, 2, 3, 4, 5, 6, 7, 8, 9, 10, 11, 12] : List Nat).filterMap (fun i => (wL ad cI cS tn to ta tp tk tw tl tc ts tv sn sK sA sB sC sL gn gp gh)[i]?)) hP hD hS hA [] [0, 1, 2, 3, 4, 5, 6, 7, 8, 9, 10, 11, 12] rfl rfl (by decide) (by decide) (va_runS (own := RLa) (As := [.int (tl xl.toNatClampNeg), .int (tl (FSo_lineOfLabel (sA xl.toNatClampNeg) sL).toNatClampNeg)]) (rest := []) ⟨hx, hb, hml, hown, hw⟩ (k_La_stepsFrom l D ad cI cS (tl xl.toNatClampNeg) (tl (FSo_lineOfLabel (sA xl.toNatClampNeg) sL).toNatClampNeg) H.size) ⟨pq_cwB 2 hw wd_109 wd_108 wd_107 rfl rfl (by decide +kernel) ⟨Nat.le_of_ble_eq_true rfl, Nat.le_of_ble_eq_true rfl⟩, hw _ wd_110⟩ (pq_preS hE (hP.sub [] rfl) (hD.sub [] (by decide) rfl)) rfl rfl hl.1 rfl (lv_room (Nat.le_of_ble_eq_true rfl)) dLa_stepsToLabel_38 ⟨Nat.zero_le _, Nat.zero_le _⟩) (fun H locs hP hD hS => ?_)
    have hP : va_P D vwCl (wL ad cI cS tn to ta tp tk tw tl tc ts tv sn sK sA sB sC sL gn gp gh) H := hP.sub [0, 1, 2, 3, 4, 5, 6, 7, 8, 9, 10, 11, 12] rfl
    have hD : va_D _ (wL ad cI cS tn to ta tp tk tw tl tc ts tv sn sK sA sB sC sL gn gp gh) := hD.sub [0, 1, 2, 3, 4, 5, 6, 7, 8, 9, 10, 11, 12] (by decide) rfl
    have e9 : FLa_stepsToLabel xl tl sA sL = (FLa_stepsFrom (tl xl.toNatClampNeg) (tl (FSo_lineOfLabel (sA xl.toNatClampNeg) sL).toNatClampNeg)) := by simp only [FLa_stepsToLabel, if_neg h1]
    exact W.iret (v := (FLa_stepsFrom (tl xl.toNatClampNeg) (tl (FSo_lineOfLabel (sA xl.toNatClampNeg) sL).toNatClampNeg))) hx hb hr (fun t ht hW => ⟨⟨(FLa_stepsFrom (tl xl.toNatClampNeg) (tl (FSo_lineOfLabel (sA xl.toNatClampNeg) sL).toNatClampNeg)), (), rfl, (by show _ = _; rw [e9]), by rw [ht]; exact hP, hD⟩, hS.F ht⟩) hS.2.2 dLa_stepsToLabel_41
  · refine lv_iconst (v := 0) hx hb dLa_stepsToLabel_22 (by first | rfl | decide) ?_
    refine lv_goto (tgt := 41) hx hb dLa_stepsToLabel_23 (by decide) ?_
    have e9 : FLa_stepsToLabel xl tl sA sL = 0 := by simp only [FLa_stepsToLabel, if_pos h1]
    exact W.iret (v := 0) hx hb hr (fun t ht hW => ⟨⟨0, (), rfl, (by show _ = _; rw [e9]), by rw [ht]; exact hP, hD⟩, hS.F ht⟩) hS.2.2 dLa_stepsToLabel_41
def FLa_isInReach (xl : Int32) (tl : Nat → Int32) (tc : Nat → Int32) (sK : Nat → Int32) (sA : Nat → Int32) (sL : Nat → Int32) : Int32 := if (sK xl.toNatClampNeg) = 10 then if (FLa_wordsToConstant xl tl tc) < 0 then 0 else if 255 < (FLa_wordsToConstant xl tl tc) then 0 else 1 else if (sK xl.toNatClampNeg) = 11 then if (FLa_hasTarget xl sA sL) = 0 then 0 else if (FLa_stepsToLabel xl tl sA sL) < (-1024) then 0 else if 1023 < (FLa_stepsToLabel xl tl sA sL) then 0 else 1 else if (sK xl.toNatClampNeg) = 12 then if (FLa_hasTarget xl sA sL) = 0 then 0 else if (FLa_stepsToLabel xl tl sA sL) < (-128) then 0 else if 127 < (FLa_stepsToLabel xl tl sA sL) then 0 else 1 else 1
set_option maxRecDepth 20000 in
theorem b_La_isInReach (xl : Int32) (tl : Nat → Int32) (tc : Nat → Int32) (sK : Nat → Int32) (sA : Nat → Int32) (sL : Nat → Int32) : narrow .boolean (.int (FLa_isInReach xl tl tc sK sA sL)) = .int (FLa_isInReach xl tl tc sK sA sL) := by
  unfold FLa_isInReach
  repeat' (first | apply pq_bif | exact pq_b0 | exact pq_b1 | apply b_La_hasTarget)
set_option maxHeartbeats 4000000 in
set_option maxRecDepth 100000 in
theorem k_La_isInReach (l : Launch) (D : va_G) (ad : Nat → Nat) (cI cS : ClassId) (xl : Int32) (tn : Int32) (to : Int32) (ta : Int32) (tp : Int32) (tk : Int32) (tw : Int32) (tl : Nat → Int32) (tc : Nat → Int32) (ts : Nat → Int32) (tv : Nat → Int32) (sn : Int32) (sK : Nat → Int32) (sA : Nat → Int32) (sB : Nat → Int32) (sC : Nat → Int32) (sL : Nat → Int32) (gn : Int32) (gp : Int32) (gh : Nat → Int32) (hxl : vp_in xl 160) (hsl : ∀ j : Nat, j < 16 → ¬ sL j = (-1) → vp_in (sL j) 160) : pq_I l yLa_isInReach (.code yLa_isInReach cLa_isInReach 2 (some .boolean) :: pq_ws) { frames := 2, cells := 0, slots := 0, locals := 43 } D cI cS [.ref (ad 3), .int xl] (wL ad cI cS tn to ta tp tk tw tl tc ts tv sn sK sA sB sC sL gn gp gh) (FLa_isInReach xl tl tc sK sA sL) (wL ad cI cS tn to ta tp tk tw tl tc ts tv sn sK sA sB sC sL gn gp gh) := by
  intro sz
  refine Met.ofW (cc := cLa_isInReach) (maxL := 2) (ret := (some .boolean)) (by decide) rfl ?_
  intro p e s m args below meth c s₁ B hml hv
  obtain ⟨rfl, hsz, hP, hD0, hE⟩ := hv
  have hx := B.exec
  have hb := B.bytes
  have hr := B.returns
  have hts := atoms_spec (ws := (.code yLa_isInReach cLa_isInReach 2 (some .boolean) :: pq_ws : List Cond)) B.pre
  have hw : ∀ w ∈ pq_ws, w.before _ s = true := fun w h => hts w (List.mem_cons_of_mem _ h)
  have hown : s.vm.findClass RLa = some m.cls := findClass_of_methodNamed B.named
  have hlocks := B.notSynchronized
  subst hsz
  have hD := hD0.self (sz := s.heap.size)
  have hA : ∀ q : Nat, s.heap.size ≤ q → va_A (wL ad cI cS tn to ta tp tk tw tl tc ts tv sn sK sA sB sC sL gn gp gh) s.heap.size q := fun q h => Or.inr h
  have hS : va_S (va_A (wL ad cI cS tn to ta tp tk tw tl tc ts tv sn sK sA sB sC sL gn gp gh) s.heap.size) s.heap s.heap [] := va_S.rf
  have hl := lv_entry ([.ref (ad 3), .int xl] : List Value) (n := 2) (Nat.le_of_ble_eq_true rfl)
  rw [lg_entry_eq]
  generalize (lg_sl ([.ref (ad 3), .int xl] : List Value) ++ List.replicate (2 - (lg_sl ([.ref (ad 3), .int xl] : List Value)).length) Slot.unset).toArray = ls at hl ⊢
  have hl : lv_has ls 2 [(0, .ref (ad 3)), (1, .int xl)] := hl
  refine lv_aload_n hx hb dLa_isInReach_0 rfl (lv_at hl 0 rfl) ?_
  refine va_get (D := D) (ci := 1) (v := .ref (ad 1)) (C := RLa) (T := TLa) (N := 12) hx hb hw pinLa hown hE.1 hP 0 rfl rfl 0 (by decide) (hw _ wd_100) (fun _ h9 => h9) rfl dLa_isInReach_1 ?_
  refine va_getN (D := D) (ci := 3) (v := .ref (ad 5)) (C := RSo) (T := TSo) (N := 6) hx hb hw pinSo hown hE.1 hP 5 rfl rfl 0 (by decide) (va_Nw.use rfl (hE.2 _ nw_8)) (fun _ h9 => h9) rfl dLa_isInReach_4 ?_
  refine lv_iload_n hx hb dLa_isInReach_7 rfl (lv_at hl 1 rfl) ?_
  refine va_iald hx hb hE.1 hP 6 0 rfl rfl hxl dLa_isInReach_8 ?_
  by_cases h1 : (sK xl.toNatClampNeg) = 10
  · refine lv_tableIn (off := 27) (tgt := 36) hx hb dLa_isInReach_9 (by rw [h1]; decide) (by rw [h1]; decide) (by rw [h1]; rfl) (by decide) ?_
    refine lv_aload_n hx hb dLa_isInReach_36 rfl (lv_at hl 0 rfl) ?_
    refine lv_iload_n hx hb dLa_isInReach_37 rfl (lv_at hl 1 rfl) ?_
    refine pq_calli (fr := (FLa_wordsToConstant xl tl tc)) (wc := (wL ad cI cS tn to ta tp tk tw tl tc ts tv sn sK sA sB sC sL gn gp gh)) (wr := ([] : List Nat).filterMap (fun i => (wL ad cI cS tn to ta tp tk tw tl tc ts tv sn sK sA sB sC sL gn gp gh)[i]?)) hP hD hS hA [0, 1, 2, 3, 4, 5, 6, 7, 8, 9, 10, 11, 12] [] rfl rfl (by decide) (by decide) (va_runV (own := RLa) (C := RLa) (As := [.int xl]) (rest := []) ⟨hx, hb, hml, hown, hw⟩ (k_La_wordsToConstant l D ad cI cS xl tn to ta tp tk tw tl tc ts tv sn sK sA sB sC sL gn gp gh hxl s.heap.size) ⟨pq_cwB 1 hw wd_112 wd_108 wd_111 rfl rfl (by decide +kernel) ⟨Nat.le_of_ble_eq_true rfl, Nat.le_of_ble_eq_true rfl⟩, hw _ wd_113, hw _ wd_114⟩ (pq_preV (ci := 1) (C := RLa) (T := TLa) (N := 12) hE (hP.sub [0, 1, 2, 3, 4, 5, 6, 7, 8, 9, 10, 11, 12] rfl) (hD.sub [0, 1, 2, 3, 4, 5, 6, 7, 8, 9, 10, 11, 12] (by decide) rfl) rfl 0 rfl) rfl rfl hl.1 rfl (lv_room (Nat.le_of_ble_eq_true rfl)) dLa_isInReach_38 ⟨Nat.zero_le _, Nat.zero_le _⟩) (fun H locs hP hD hS => ?_)
    have hP : va_P D vwCl (wL ad cI cS tn to ta tp tk tw tl tc ts tv sn sK sA sB sC sL gn gp gh) H := hP.sub [0, 1, 2, 3, 4, 5, 6, 7, 8, 9, 10, 11, 12] rfl
    have hD : va_D _ (wL ad cI cS tn to ta tp tk tw tl tc ts tv sn sK sA sB sC sL gn gp gh) := hD.sub [0, 1, 2, 3, 4, 5, 6, 7, 8, 9, 10, 11, 12] (by decide) rfl
    refine lv_if_lt (tgt := 59) hx hb dLa_isInReach_41 (by decide) (fun h2 => ?_) (fun h2 => ?_)
    · refine lv_iconst (v := 0) hx hb dLa_isInReach_59 (by first | rfl | decide) ?_
      have e9 : FLa_isInReach xl tl tc sK sA sL = 0 := by simp only [FLa_isInReach, if_pos h1, if_pos h2]
      exact W.zret (v := 0) hx hb hr rfl (fun t ht hW => ⟨⟨0, (), rfl, (by show _ = _; rw [e9]), by rw [ht]; exact hP, hD⟩, hS.F ht⟩) hS.2.2 dLa_isInReach_60
    · refine lv_aload_n hx hb dLa_isInReach_44 rfl (lv_at hl 0 rfl) ?_
      refine lv_iload_n hx hb dLa_isInReach_45 rfl (lv_at hl 1 rfl) ?_
      refine pq_calli (fr := (FLa_wordsToConstant xl tl tc)) (wc := (wL ad cI cS tn to ta tp tk tw tl tc ts tv sn sK sA sB sC sL gn gp gh)) (wr := ([] : List Nat).filterMap (fun i => (wL ad cI cS tn to ta tp tk tw tl tc ts tv sn sK sA sB sC sL gn gp gh)[i]?)) hP hD hS hA [0, 1, 2, 3, 4, 5, 6, 7, 8, 9, 10, 11, 12] [] rfl rfl (by decide) (by decide) (va_runV (own := RLa) (C := RLa) (As := [.int xl]) (rest := []) ⟨hx, hb, hml, hown, hw⟩ (k_La_wordsToConstant l D ad cI cS xl tn to ta tp tk tw tl tc ts tv sn sK sA sB sC sL gn gp gh hxl H.size) ⟨pq_cwB 1 hw wd_112 wd_108 wd_111 rfl rfl (by decide +kernel) ⟨Nat.le_of_ble_eq_true rfl, Nat.le_of_ble_eq_true rfl⟩, hw _ wd_113, hw _ wd_114⟩ (pq_preV (ci := 1) (C := RLa) (T := TLa) (N := 12) hE (hP.sub [0, 1, 2, 3, 4, 5, 6, 7, 8, 9, 10, 11, 12] rfl) (hD.sub [0, 1, 2, 3, 4, 5, 6, 7, 8, 9, 10, 11, 12] (by decide) rfl) rfl 0 rfl) rfl rfl hl.1 rfl (lv_room (Nat.le_of_ble_eq_true rfl)) dLa_isInReach_46 ⟨Nat.zero_le _, Nat.zero_le _⟩) (fun H locs hP hD hS => ?_)
      have hP : va_P D vwCl (wL ad cI cS tn to ta tp tk tw tl tc ts tv sn sK sA sB sC sL gn gp gh) H := hP.sub [0, 1, 2, 3, 4, 5, 6, 7, 8, 9, 10, 11, 12] rfl
      have hD : va_D _ (wL ad cI cS tn to ta tp tk tw tl tc ts tv sn sK sA sB sC sL gn gp gh) := hD.sub [0, 1, 2, 3, 4, 5, 6, 7, 8, 9, 10, 11, 12] (by decide) rfl
      refine lv_sipush (v := 255) hx hb dLa_isInReach_49 (by first | rfl | decide) ?_
      refine lv_icmp_gt (tgt := 59) hx hb dLa_isInReach_52 (by decide) (fun h3 => ?_) (fun h3 => ?_)
      · refine lv_iconst (v := 0) hx hb dLa_isInReach_59 (by first | rfl | decide) ?_
        have e9 : FLa_isInReach xl tl tc sK sA sL = 0 := by simp only [FLa_isInReach, if_pos h1, if_neg h2, if_pos h3]
        exact W.zret (v := 0) hx hb hr rfl (fun t ht hW => ⟨⟨0, (), rfl, (by show _ = _; rw [e9]), by rw [ht]; exact hP, hD⟩, hS.F ht⟩) hS.2.2 dLa_isInReach_60
      · refine lv_iconst (v := 1) hx hb dLa_isInReach_55 (by first | rfl | decide) ?_
        refine lv_goto (tgt := 60) hx hb dLa_isInReach_56 (by decide) ?_
        have e9 : FLa_isInReach xl tl tc sK sA sL = 1 := by simp only [FLa_isInReach, if_pos h1, if_neg h2, if_neg h3]
        exact W.zret (v := 1) hx hb hr rfl (fun t ht hW => ⟨⟨1, (), rfl, (by show _ = _; rw [e9]), by rw [ht]; exact hP, hD⟩, hS.F ht⟩) hS.2.2 dLa_isInReach_60
  by_cases h4 : (sK xl.toNatClampNeg) = 11
  · refine lv_tableIn (off := 52) (tgt := 61) hx hb dLa_isInReach_9 (by rw [h4]; decide) (by rw [h4]; decide) (by rw [h4]; rfl) (by decide) ?_
    refine lv_aload_n hx hb dLa_isInReach_61 rfl (lv_at hl 0 rfl) ?_
    refine lv_iload_n hx hb dLa_isInReach_62 rfl (lv_at hl 1 rfl) ?_
    refine pq_calli (fr := (FLa_hasTarget xl sA sL)) (wc := (wL ad cI cS tn to ta tp tk tw tl tc ts tv sn sK sA sB sC sL gn gp gh)) (wr := ([] : List Nat).filterMap (fun i => (wL ad cI cS tn to ta tp tk tw tl tc ts tv sn sK sA sB sC sL gn gp gh)[i]?)) hP hD hS hA [0, 1, 2, 3, 4, 5, 6, 7, 8, 9, 10, 11, 12] [] rfl rfl (by decide) (by decide) (va_runV (own := RLa) (C := RLa) (As := [.int xl]) (rest := []) ⟨hx, hb, hml, hown, hw⟩ (k_La_hasTarget l D ad cI cS xl tn to ta tp tk tw tl tc ts tv sn sK sA sB sC sL gn gp gh hxl s.heap.size) ⟨pq_cwB 1 hw wd_116 wd_108 wd_115 rfl rfl (by decide +kernel) ⟨Nat.le_of_ble_eq_true rfl, Nat.le_of_ble_eq_true rfl⟩, hw _ wd_117, hw _ wd_118⟩ (pq_preV (ci := 1) (C := RLa) (T := TLa) (N := 12) hE (hP.sub [0, 1, 2, 3, 4, 5, 6, 7, 8, 9, 10, 11, 12] rfl) (hD.sub [0, 1, 2, 3, 4, 5, 6, 7, 8, 9, 10, 11, 12] (by decide) rfl) rfl 0 rfl) rfl rfl hl.1 rfl (lv_room (Nat.le_of_ble_eq_true rfl)) dLa_isInReach_63 ⟨Nat.zero_le _, Nat.zero_le _⟩) (fun H locs hP hD hS => ?_)
    have hP : va_P D vwCl (wL ad cI cS tn to ta tp tk tw tl tc ts tv sn sK sA sB sC sL gn gp gh) H := hP.sub [0, 1, 2, 3, 4, 5, 6, 7, 8, 9, 10, 11, 12] rfl
    have hD : va_D _ (wL ad cI cS tn to ta tp tk tw tl tc ts tv sn sK sA sB sC sL gn gp gh) := hD.sub [0, 1, 2, 3, 4, 5, 6, 7, 8, 9, 10, 11, 12] (by decide) rfl
    refine lv_if_eq (tgt := 95) hx hb dLa_isInReach_66 (by decide) (fun h5 => ?_) (fun h5 => ?_)
    · refine lv_iconst (v := 0) hx hb dLa_isInReach_95 (by first | rfl | decide) ?_
      have e9 : FLa_isInReach xl tl tc sK sA sL = 0 := by simp only [FLa_isInReach, if_neg h1, if_pos h4, if_pos h5]
      exact W.zret (v := 0) hx hb hr rfl (fun t ht hW => ⟨⟨0, (), rfl, (by show _ = _; rw [e9]), by rw [ht]; exact hP, hD⟩, hS.F ht⟩) hS.2.2 dLa_isInReach_96
    · refine lv_aload_n hx hb dLa_isInReach_69 rfl (lv_at hl 0 rfl) ?_
      refine lv_iload_n hx hb dLa_isInReach_70 rfl (lv_at hl 1 rfl) ?_
      refine pq_calli (fr := (FLa_stepsToLabel xl tl sA sL)) (wc := (wL ad cI cS tn to ta tp tk tw tl tc ts tv sn sK sA sB sC sL gn gp gh)) (wr := ([] : List Nat).filterMap (fun i => (wL ad cI cS tn to ta tp tk tw tl tc ts tv sn sK sA sB sC sL gn gp gh)[i]?)) hP hD hS hA [0, 1, 2, 3, 4, 5, 6, 7, 8, 9, 10, 11, 12] [] rfl rfl (by decide) (by decide) (va_runV (own := RLa) (C := RLa) (As := [.int xl]) (rest := []) ⟨hx, hb, hml, hown, hw⟩ (k_La_stepsToLabel l D ad cI cS xl tn to ta tp tk tw tl tc ts tv sn sK sA sB sC sL gn gp gh hxl hsl H.size) ⟨pq_cwB 1 hw wd_120 wd_108 wd_119 rfl rfl (by decide +kernel) ⟨Nat.le_of_ble_eq_true rfl, Nat.le_of_ble_eq_true rfl⟩, hw _ wd_121, hw _ wd_122⟩ (pq_preV (ci := 1) (C := RLa) (T := TLa) (N := 12) hE (hP.sub [0, 1, 2, 3, 4, 5, 6, 7, 8, 9, 10, 11, 12] rfl) (hD.sub [0, 1, 2, 3, 4, 5, 6, 7, 8, 9, 10, 11, 12] (by decide) rfl) rfl 0 rfl) rfl rfl hl.1 rfl (lv_room (Nat.le_of_ble_eq_true rfl)) dLa_isInReach_71 ⟨Nat.zero_le _, Nat.zero_le _⟩) (fun H locs hP hD hS => ?_)
      have hP : va_P D vwCl (wL ad cI cS tn to ta tp tk tw tl tc ts tv sn sK sA sB sC sL gn gp gh) H := hP.sub [0, 1, 2, 3, 4, 5, 6, 7, 8, 9, 10, 11, 12] rfl
      have hD : va_D _ (wL ad cI cS tn to ta tp tk tw tl tc ts tv sn sK sA sB sC sL gn gp gh) := hD.sub [0, 1, 2, 3, 4, 5, 6, 7, 8, 9, 10, 11, 12] (by decide) rfl
      refine lv_sipush (v := (-1024)) hx hb dLa_isInReach_74 (by first | rfl | decide) ?_
      refine lv_icmp_lt (tgt := 95) hx hb dLa_isInReach_77 (by decide) (fun h6 => ?_) (fun h6 => ?_)
      · refine lv_iconst (v := 0) hx hb dLa_isInReach_95 (by first | rfl | decide) ?_
        have e9 : FLa_isInReach xl tl tc sK sA sL = 0 := by simp only [FLa_isInReach, if_neg h1, if_pos h4, if_neg h5, if_pos h6]
        exact W.zret (v := 0) hx hb hr rfl (fun t ht hW => ⟨⟨0, (), rfl, (by show _ = _; rw [e9]), by rw [ht]; exact hP, hD⟩, hS.F ht⟩) hS.2.2 dLa_isInReach_96
      · refine lv_aload_n hx hb dLa_isInReach_80 rfl (lv_at hl 0 rfl) ?_
        refine lv_iload_n hx hb dLa_isInReach_81 rfl (lv_at hl 1 rfl) ?_
        refine pq_calli (fr := (FLa_stepsToLabel xl tl sA sL)) (wc := (wL ad cI cS tn to ta tp tk tw tl tc ts tv sn sK sA sB sC sL gn gp gh)) (wr := ([] : List Nat).filterMap (fun i => (wL ad cI cS tn to ta tp tk tw tl tc ts tv sn sK sA sB sC sL gn gp gh)[i]?)) hP hD hS hA [0, 1, 2, 3, 4, 5, 6, 7, 8, 9, 10, 11, 12] [] rfl rfl (by decide) (by decide) (va_runV (own := RLa) (C := RLa) (As := [.int xl]) (rest := []) ⟨hx, hb, hml, hown, hw⟩ (k_La_stepsToLabel l D ad cI cS xl tn to ta tp tk tw tl tc ts tv sn sK sA sB sC sL gn gp gh hxl hsl H.size) ⟨pq_cwB 1 hw wd_120 wd_108 wd_119 rfl rfl (by decide +kernel) ⟨Nat.le_of_ble_eq_true rfl, Nat.le_of_ble_eq_true rfl⟩, hw _ wd_121, hw _ wd_122⟩ (pq_preV (ci := 1) (C := RLa) (T := TLa) (N := 12) hE (hP.sub [0, 1, 2, 3, 4, 5, 6, 7, 8, 9, 10, 11, 12] rfl) (hD.sub [0, 1, 2, 3, 4, 5, 6, 7, 8, 9, 10, 11, 12] (by decide) rfl) rfl 0 rfl) rfl rfl hl.1 rfl (lv_room (Nat.le_of_ble_eq_true rfl)) dLa_isInReach_82 ⟨Nat.zero_le _, Nat.zero_le _⟩) (fun H locs hP hD hS => ?_)
        have hP : va_P D vwCl (wL ad cI cS tn to ta tp tk tw tl tc ts tv sn sK sA sB sC sL gn gp gh) H := hP.sub [0, 1, 2, 3, 4, 5, 6, 7, 8, 9, 10, 11, 12] rfl
        have hD : va_D _ (wL ad cI cS tn to ta tp tk tw tl tc ts tv sn sK sA sB sC sL gn gp gh) := hD.sub [0, 1, 2, 3, 4, 5, 6, 7, 8, 9, 10, 11, 12] (by decide) rfl
        refine lv_sipush (v := 1023) hx hb dLa_isInReach_85 (by first | rfl | decide) ?_
        refine lv_icmp_gt (tgt := 95) hx hb dLa_isInReach_88 (by decide) (fun h7 => ?_) (fun h7 => ?_)
        · refine lv_iconst (v := 0) hx hb dLa_isInReach_95 (by first | rfl | decide) ?_
          have e9 : FLa_isInReach xl tl tc sK sA sL = 0 := by simp only [FLa_isInReach, if_neg h1, if_pos h4, if_neg h5, if_neg h6, if_pos h7]
          exact W.zret (v := 0) hx hb hr rfl (fun t ht hW => ⟨⟨0, (), rfl, (by show _ = _; rw [e9]), by rw [ht]; exact hP, hD⟩, hS.F ht⟩) hS.2.2 dLa_isInReach_96
        · refine lv_iconst (v := 1) hx hb dLa_isInReach_91 (by first | rfl | decide) ?_
          refine lv_goto (tgt := 96) hx hb dLa_isInReach_92 (by decide) ?_
          have e9 : FLa_isInReach xl tl tc sK sA sL = 1 := by simp only [FLa_isInReach, if_neg h1, if_pos h4, if_neg h5, if_neg h6, if_neg h7]
          exact W.zret (v := 1) hx hb hr rfl (fun t ht hW => ⟨⟨1, (), rfl, (by show _ = _; rw [e9]), by rw [ht]; exact hP, hD⟩, hS.F ht⟩) hS.2.2 dLa_isInReach_96
  by_cases h8 : (sK xl.toNatClampNeg) = 12
  · refine lv_tableIn (off := 88) (tgt := 97) hx hb dLa_isInReach_9 (by rw [h8]; decide) (by rw [h8]; decide) (by rw [h8]; rfl) (by decide) ?_
    refine lv_aload_n hx hb dLa_isInReach_97 rfl (lv_at hl 0 rfl) ?_
    refine lv_iload_n hx hb dLa_isInReach_98 rfl (lv_at hl 1 rfl) ?_
    refine pq_calli (fr := (FLa_hasTarget xl sA sL)) (wc := (wL ad cI cS tn to ta tp tk tw tl tc ts tv sn sK sA sB sC sL gn gp gh)) (wr := ([] : List Nat).filterMap (fun i => (wL ad cI cS tn to ta tp tk tw tl tc ts tv sn sK sA sB sC sL gn gp gh)[i]?)) hP hD hS hA [0, 1, 2, 3, 4, 5, 6, 7, 8, 9, 10, 11, 12] [] rfl rfl (by decide) (by decide) (va_runV (own := RLa) (C := RLa) (As := [.int xl]) (rest := []) ⟨hx, hb, hml, hown, hw⟩ (k_La_hasTarget l D ad cI cS xl tn to ta tp tk tw tl tc ts tv sn sK sA sB sC sL gn gp gh hxl s.heap.size) ⟨pq_cwB 1 hw wd_116 wd_108 wd_115 rfl rfl (by decide +kernel) ⟨Nat.le_of_ble_eq_true rfl, Nat.le_of_ble_eq_true rfl⟩, hw _ wd_117, hw _ wd_118⟩ (pq_preV (ci := 1) (C := RLa) (T := TLa) (N := 12) hE (hP.sub [0, 1, 2, 3, 4, 5, 6, 7, 8, 9, 10, 11, 12] rfl) (hD.sub [0, 1, 2, 3, 4, 5, 6, 7, 8, 9, 10, 11, 12] (by decide) rfl) rfl 0 rfl) rfl rfl hl.1 rfl (lv_room (Nat.le_of_ble_eq_true rfl)) dLa_isInReach_99 ⟨Nat.zero_le _, Nat.zero_le _⟩) (fun H locs hP hD hS => ?_)
    have hP : va_P D vwCl (wL ad cI cS tn to ta tp tk tw tl tc ts tv sn sK sA sB sC sL gn gp gh) H := hP.sub [0, 1, 2, 3, 4, 5, 6, 7, 8, 9, 10, 11, 12] rfl
    have hD : va_D _ (wL ad cI cS tn to ta tp tk tw tl tc ts tv sn sK sA sB sC sL gn gp gh) := hD.sub [0, 1, 2, 3, 4, 5, 6, 7, 8, 9, 10, 11, 12] (by decide) rfl
    refine lv_if_eq (tgt := 129) hx hb dLa_isInReach_102 (by decide) (fun h9 => ?_) (fun h9 => ?_)
    · refine lv_iconst (v := 0) hx hb dLa_isInReach_129 (by first | rfl | decide) ?_
      have e9 : FLa_isInReach xl tl tc sK sA sL = 0 := by simp only [FLa_isInReach, if_neg h1, if_neg h4, if_pos h8, if_pos h9]
      exact W.zret (v := 0) hx hb hr rfl (fun t ht hW => ⟨⟨0, (), rfl, (by show _ = _; rw [e9]), by rw [ht]; exact hP, hD⟩, hS.F ht⟩) hS.2.2 dLa_isInReach_130
    · refine lv_aload_n hx hb dLa_isInReach_105 rfl (lv_at hl 0 rfl) ?_
      refine lv_iload_n hx hb dLa_isInReach_106 rfl (lv_at hl 1 rfl) ?_
      refine pq_calli (fr := (FLa_stepsToLabel xl tl sA sL)) (wc := (wL ad cI cS tn to ta tp tk tw tl tc ts tv sn sK sA sB sC sL gn gp gh)) (wr := ([] : List Nat).filterMap (fun i => (wL ad cI cS tn to ta tp tk tw tl tc ts tv sn sK sA sB sC sL gn gp gh)[i]?)) hP hD hS hA [0, 1, 2, 3, 4, 5, 6, 7, 8, 9, 10, 11, 12] [] rfl rfl (by decide) (by decide) (va_runV (own := RLa) (C := RLa) (As := [.int xl]) (rest := []) ⟨hx, hb, hml, hown, hw⟩ (k_La_stepsToLabel l D ad cI cS xl tn to ta tp tk tw tl tc ts tv sn sK sA sB sC sL gn gp gh hxl hsl H.size) ⟨pq_cwB 1 hw wd_120 wd_108 wd_119 rfl rfl (by decide +kernel) ⟨Nat.le_of_ble_eq_true rfl, Nat.le_of_ble_eq_true rfl⟩, hw _ wd_121, hw _ wd_122⟩ (pq_preV (ci := 1) (C := RLa) (T := TLa) (N := 12) hE (hP.sub [0, 1, 2, 3, 4, 5, 6, 7, 8, 9, 10, 11, 12] rfl) (hD.sub [0, 1, 2, 3, 4, 5, 6, 7, 8, 9, 10, 11, 12] (by decide) rfl) rfl 0 rfl) rfl rfl hl.1 rfl (lv_room (Nat.le_of_ble_eq_true rfl)) dLa_isInReach_107 ⟨Nat.zero_le _, Nat.zero_le _⟩) (fun H locs hP hD hS => ?_)
      have hP : va_P D vwCl (wL ad cI cS tn to ta tp tk tw tl tc ts tv sn sK sA sB sC sL gn gp gh) H := hP.sub [0, 1, 2, 3, 4, 5, 6, 7, 8, 9, 10, 11, 12] rfl
      have hD : va_D _ (wL ad cI cS tn to ta tp tk tw tl tc ts tv sn sK sA sB sC sL gn gp gh) := hD.sub [0, 1, 2, 3, 4, 5, 6, 7, 8, 9, 10, 11, 12] (by decide) rfl
      refine lv_bipush (v := (-128)) hx hb dLa_isInReach_110 (by first | rfl | decide) ?_
      refine lv_icmp_lt (tgt := 129) hx hb dLa_isInReach_112 (by decide) (fun h10 => ?_) (fun h10 => ?_)
      · refine lv_iconst (v := 0) hx hb dLa_isInReach_129 (by first | rfl | decide) ?_
        have e9 : FLa_isInReach xl tl tc sK sA sL = 0 := by simp only [FLa_isInReach, if_neg h1, if_neg h4, if_pos h8, if_neg h9, if_pos h10]
        exact W.zret (v := 0) hx hb hr rfl (fun t ht hW => ⟨⟨0, (), rfl, (by show _ = _; rw [e9]), by rw [ht]; exact hP, hD⟩, hS.F ht⟩) hS.2.2 dLa_isInReach_130
      · refine lv_aload_n hx hb dLa_isInReach_115 rfl (lv_at hl 0 rfl) ?_
        refine lv_iload_n hx hb dLa_isInReach_116 rfl (lv_at hl 1 rfl) ?_
        refine pq_calli (fr := (FLa_stepsToLabel xl tl sA sL)) (wc := (wL ad cI cS tn to ta tp tk tw tl tc ts tv sn sK sA sB sC sL gn gp gh)) (wr := ([] : List Nat).filterMap (fun i => (wL ad cI cS tn to ta tp tk tw tl tc ts tv sn sK sA sB sC sL gn gp gh)[i]?)) hP hD hS hA [0, 1, 2, 3, 4, 5, 6, 7, 8, 9, 10, 11, 12] [] rfl rfl (by decide) (by decide) (va_runV (own := RLa) (C := RLa) (As := [.int xl]) (rest := []) ⟨hx, hb, hml, hown, hw⟩ (k_La_stepsToLabel l D ad cI cS xl tn to ta tp tk tw tl tc ts tv sn sK sA sB sC sL gn gp gh hxl hsl H.size) ⟨pq_cwB 1 hw wd_120 wd_108 wd_119 rfl rfl (by decide +kernel) ⟨Nat.le_of_ble_eq_true rfl, Nat.le_of_ble_eq_true rfl⟩, hw _ wd_121, hw _ wd_122⟩ (pq_preV (ci := 1) (C := RLa) (T := TLa) (N := 12) hE (hP.sub [0, 1, 2, 3, 4, 5, 6, 7, 8, 9, 10, 11, 12] rfl) (hD.sub [0, 1, 2, 3, 4, 5, 6, 7, 8, 9, 10, 11, 12] (by decide) rfl) rfl 0 rfl) rfl rfl hl.1 rfl (lv_room (Nat.le_of_ble_eq_true rfl)) dLa_isInReach_117 ⟨Nat.zero_le _, Nat.zero_le _⟩) (fun H locs hP hD hS => ?_)
        have hP : va_P D vwCl (wL ad cI cS tn to ta tp tk tw tl tc ts tv sn sK sA sB sC sL gn gp gh) H := hP.sub [0, 1, 2, 3, 4, 5, 6, 7, 8, 9, 10, 11, 12] rfl
        have hD : va_D _ (wL ad cI cS tn to ta tp tk tw tl tc ts tv sn sK sA sB sC sL gn gp gh) := hD.sub [0, 1, 2, 3, 4, 5, 6, 7, 8, 9, 10, 11, 12] (by decide) rfl
        refine lv_bipush (v := 127) hx hb dLa_isInReach_120 (by first | rfl | decide) ?_
        refine lv_icmp_gt (tgt := 129) hx hb dLa_isInReach_122 (by decide) (fun h11 => ?_) (fun h11 => ?_)
        · refine lv_iconst (v := 0) hx hb dLa_isInReach_129 (by first | rfl | decide) ?_
          have e9 : FLa_isInReach xl tl tc sK sA sL = 0 := by simp only [FLa_isInReach, if_neg h1, if_neg h4, if_pos h8, if_neg h9, if_neg h10, if_pos h11]
          exact W.zret (v := 0) hx hb hr rfl (fun t ht hW => ⟨⟨0, (), rfl, (by show _ = _; rw [e9]), by rw [ht]; exact hP, hD⟩, hS.F ht⟩) hS.2.2 dLa_isInReach_130
        · refine lv_iconst (v := 1) hx hb dLa_isInReach_125 (by first | rfl | decide) ?_
          refine lv_goto (tgt := 130) hx hb dLa_isInReach_126 (by decide) ?_
          have e9 : FLa_isInReach xl tl tc sK sA sL = 1 := by simp only [FLa_isInReach, if_neg h1, if_neg h4, if_pos h8, if_neg h9, if_neg h10, if_neg h11]
          exact W.zret (v := 1) hx hb hr rfl (fun t ht hW => ⟨⟨1, (), rfl, (by show _ = _; rw [e9]), by rw [ht]; exact hP, hD⟩, hS.F ht⟩) hS.2.2 dLa_isInReach_130
  have th1 := pq_ne (x := sK xl.toNatClampNeg) (k := 10) (y := 10) (by first | rfl | decide) h1
  have th4 := pq_ne (x := sK xl.toNatClampNeg) (k := 11) (y := 11) (by first | rfl | decide) h4
  have th8 := pq_ne (x := sK xl.toNatClampNeg) (k := 12) (y := 12) (by first | rfl | decide) h8
  refine lv_tableOut (tgt := 131) hx hb dLa_isInReach_9 (by omega) (by decide) ?_
  refine lv_iconst (v := 1) hx hb dLa_isInReach_131 (by first | rfl | decide) ?_
  have e9 : FLa_isInReach xl tl tc sK sA sL = 1 := by simp only [FLa_isInReach, if_neg h1, if_neg h4, if_neg h8]
  exact W.zret (v := 1) hx hb hr rfl (fun t ht hW => ⟨⟨1, (), rfl, (by show _ = _; rw [e9]), by rw [ht]; exact hP, hD⟩, hS.F ht⟩) hS.2.2 dLa_isInReach_132
def FLa_isPoolDue (tn : Int32) (to : Int32) (ta : Int32) (tl : Nat → Int32) : Int32 := if tn ≤ 0 then 0 else if ((FFo_upToFour (ta + 4)) - (FFo_baseOf (tl to.toNatClampNeg))) ≤ 1020 then 0 else 1
set_option maxRecDepth 20000 in
theorem b_La_isPoolDue (tn : Int32) (to : Int32) (ta : Int32) (tl : Nat → Int32) : narrow .boolean (.int (FLa_isPoolDue tn to ta tl)) = .int (FLa_isPoolDue tn to ta tl) := by
  unfold FLa_isPoolDue
  repeat' (first | apply pq_bif | exact pq_b0 | exact pq_b1)
set_option maxHeartbeats 4000000 in
set_option maxRecDepth 100000 in
theorem k_La_isPoolDue (l : Launch) (D : va_G) (ad : Nat → Nat) (cI cS : ClassId) (tn : Int32) (to : Int32) (ta : Int32) (tp : Int32) (tk : Int32) (tw : Int32) (tl : Nat → Int32) (tc : Nat → Int32) (ts : Nat → Int32) (tv : Nat → Int32) (sn : Int32) (sK : Nat → Int32) (sA : Nat → Int32) (sB : Nat → Int32) (sC : Nat → Int32) (sL : Nat → Int32) (gn : Int32) (gp : Int32) (gh : Nat → Int32) (htn0 : ¬ tn < 0) (htn1 : tn.toInt ≤ 160) (hto : vp_in to 160) : pq_I l yLa_isPoolDue (.code yLa_isPoolDue cLa_isPoolDue 1 (some .boolean) :: pq_ws) { frames := 1, cells := 0, slots := 0, locals := 20 } D cI cS [.ref (ad 3)] (wL ad cI cS tn to ta tp tk tw tl tc ts tv sn sK sA sB sC sL gn gp gh) (FLa_isPoolDue tn to ta tl) (wL ad cI cS tn to ta tp tk tw tl tc ts tv sn sK sA sB sC sL gn gp gh) := by
  intro sz
  refine Met.ofW (cc := cLa_isPoolDue) (maxL := 1) (ret := (some .boolean)) (by decide) rfl ?_
  intro p e s m args below meth c s₁ B hml hv
  obtain ⟨rfl, hsz, hP, hD0, hE⟩ := hv
  have hx := B.exec
  have hb := B.bytes
  have hr := B.returns
  have hts := atoms_spec (ws := (.code yLa_isPoolDue cLa_isPoolDue 1 (some .boolean) :: pq_ws : List Cond)) B.pre
  have hw : ∀ w ∈ pq_ws, w.before _ s = true := fun w h => hts w (List.mem_cons_of_mem _ h)
  have hown : s.vm.findClass RLa = some m.cls := findClass_of_methodNamed B.named
  have hlocks := B.notSynchronized
  subst hsz
  have hD := hD0.self (sz := s.heap.size)
  have hA : ∀ q : Nat, s.heap.size ≤ q → va_A (wL ad cI cS tn to ta tp tk tw tl tc ts tv sn sK sA sB sC sL gn gp gh) s.heap.size q := fun q h => Or.inr h
  have hS : va_S (va_A (wL ad cI cS tn to ta tp tk tw tl tc ts tv sn sK sA sB sC sL gn gp gh) s.heap.size) s.heap s.heap [] := va_S.rf
  have hl := lv_entry ([.ref (ad 3)] : List Value) (n := 1) (Nat.le_of_ble_eq_true rfl)
  rw [lg_entry_eq]
  generalize (lg_sl ([.ref (ad 3)] : List Value) ++ List.replicate (1 - (lg_sl ([.ref (ad 3)] : List Value)).length) Slot.unset).toArray = ls at hl ⊢
  have hl : lv_has ls 1 [(0, .ref (ad 3))] := hl
  refine lv_aload_n hx hb dLa_isPoolDue_0 rfl (lv_at hl 0 rfl) ?_
  refine va_get (D := D) (ci := 1) (v := .int tn) (C := RLa) (T := TLa) (N := 12) hx hb hw pinLa hown hE.1 hP 0 rfl rfl 6 (by decide) (hw _ wd_123) (fun _ h9 => h9) rfl dLa_isPoolDue_1 ?_
  refine lv_if_le (tgt := 39) hx hb dLa_isPoolDue_4 (by decide) (fun h1 => ?_) (fun h1 => ?_)
  · refine lv_iconst (v := 0) hx hb dLa_isPoolDue_39 (by first | rfl | decide) ?_
    have e9 : FLa_isPoolDue tn to ta tl = 0 := by simp only [FLa_isPoolDue, if_pos h1]
    exact W.zret (v := 0) hx hb hr rfl (fun t ht hW => ⟨⟨0, (), rfl, (by show _ = _; rw [e9]), by rw [ht]; exact hP, hD⟩, hS.F ht⟩) hS.2.2 dLa_isPoolDue_40
  · refine lv_aload_n hx hb dLa_isPoolDue_7 rfl (lv_at hl 0 rfl) ?_
    refine va_get (D := D) (ci := 1) (v := .int ta) (C := RLa) (T := TLa) (N := 12) hx hb hw pinLa hown hE.1 hP 0 rfl rfl 8 (by decide) (hw _ wd_95) (fun _ h9 => h9) rfl dLa_isPoolDue_8 ?_
    refine lv_iconst (v := 4) hx hb dLa_isPoolDue_11 (by first | rfl | decide) ?_
    refine lv_iadd hx hb dLa_isPoolDue_12 ?_
    refine pq_calli (fr := (FFo_upToFour (ta + 4))) (wc := (wN ad cI cS)) (wr := ([0, 1, 2, 3, 4, 5, 6, 7, 8, 9, 10, 11, 12] : List Nat).filterMap (fun i => (wL ad cI cS tn to ta tp tk tw tl tc ts tv sn sK sA sB sC sL gn gp gh)[i]?)) hP hD hS hA [] [0, 1, 2, 3, 4, 5, 6, 7, 8, 9, 10, 11, 12] rfl rfl (by decide) (by decide) (va_runSN (own := RLa) (As := [.int (ta + 4)]) (rest := []) ⟨hx, hb, hml, hown, hw⟩ (k_Fo_upToFour l D ad cI cS (ta + 4) s.heap.size) ⟨pq_cnB 1 hw (hE.2 _ nw_9) wd_1 wd_124 rfl rfl (by decide +kernel) ⟨Nat.le_of_ble_eq_true rfl, Nat.le_of_ble_eq_true rfl⟩, hw _ wd_125, trivial⟩ (pq_preS hE (hP.sub [] rfl) (hD.sub [] (by decide) rfl)) rfl rfl hl.1 rfl (lv_room (Nat.le_of_ble_eq_true rfl)) dLa_isPoolDue_13 ⟨Nat.zero_le _, Nat.zero_le _⟩) (fun H locs hP hD hS => ?_)
    have hP : va_P D vwCl (wL ad cI cS tn to ta tp tk tw tl tc ts tv sn sK sA sB sC sL gn gp gh) H := hP.sub [0, 1, 2, 3, 4, 5, 6, 7, 8, 9, 10, 11, 12] rfl
    have hD : va_D _ (wL ad cI cS tn to ta tp tk tw tl tc ts tv sn sK sA sB sC sL gn gp gh) := hD.sub [0, 1, 2, 3, 4, 5, 6, 7, 8, 9, 10, 11, 12] (by decide) rfl
    refine lv_aload_n hx hb dLa_isPoolDue_16 rfl (lv_at hl 0 rfl) ?_
    refine va_get (D := D) (ci := 1) (v := .ref (ad 11)) (C := RLa) (T := TLa) (N := 12) hx hb hw pinLa hown hE.1 hP 0 rfl rfl 2 (by decide) (hw _ wd_106) (fun _ h9 => h9) rfl dLa_isPoolDue_17 ?_
    refine lv_aload_n hx hb dLa_isPoolDue_20 rfl (lv_at hl 0 rfl) ?_
    refine va_get (D := D) (ci := 1) (v := .int to) (C := RLa) (T := TLa) (N := 12) hx hb hw pinLa hown hE.1 hP 0 rfl rfl 7 (by decide) (hw _ wd_126) (fun _ h9 => h9) rfl dLa_isPoolDue_21 ?_
    refine va_iald hx hb hE.1 hP 1 0 rfl rfl hto dLa_isPoolDue_24 ?_
    refine pq_calli (fr := (FFo_baseOf (tl to.toNatClampNeg))) (wc := (wN ad cI cS)) (wr := ([0, 1, 2, 3, 4, 5, 6, 7, 8, 9, 10, 11, 12] : List Nat).filterMap (fun i => (wL ad cI cS tn to ta tp tk tw tl tc ts tv sn sK sA sB sC sL gn gp gh)[i]?)) hP hD hS hA [] [0, 1, 2, 3, 4, 5, 6, 7, 8, 9, 10, 11, 12] rfl rfl (by decide) (by decide) (va_runSN (own := RLa) (As := [.int (tl to.toNatClampNeg)]) (rest := [.int (FFo_upToFour (ta + 4))]) ⟨hx, hb, hml, hown, hw⟩ (k_Fo_baseOf l D ad cI cS (tl to.toNatClampNeg) H.size) ⟨pq_cnB 1 hw (hE.2 _ nw_7) wd_1 wd_59 rfl rfl (by decide +kernel) ⟨Nat.le_of_ble_eq_true rfl, Nat.le_of_ble_eq_true rfl⟩, hw _ wd_60, trivial⟩ (pq_preS hE (hP.sub [] rfl) (hD.sub [] (by decide) rfl)) rfl rfl hl.1 rfl (lv_room (Nat.le_of_ble_eq_true rfl)) dLa_isPoolDue_25 ⟨Nat.zero_le _, Nat.zero_le _⟩) (fun H locs hP hD hS => ?_)
    have hP : va_P D vwCl (wL ad cI cS tn to ta tp tk tw tl tc ts tv sn sK sA sB sC sL gn gp gh) H := hP.sub [0, 1, 2, 3, 4, 5, 6, 7, 8, 9, 10, 11, 12] rfl
    have hD : va_D _ (wL ad cI cS tn to ta tp tk tw tl tc ts tv sn sK sA sB sC sL gn gp gh) := hD.sub [0, 1, 2, 3, 4, 5, 6, 7, 8, 9, 10, 11, 12] (by decide) rfl
    refine lv_isub hx hb dLa_isPoolDue_28 ?_
    refine lv_sipush (v := 1020) hx hb dLa_isPoolDue_29 (by first | rfl | decide) ?_
    refine lv_icmp_le (tgt := 39) hx hb dLa_isPoolDue_32 (by decide) (fun h2 => ?_) (fun h2 => ?_)
    · refine lv_iconst (v := 0) hx hb dLa_isPoolDue_39 (by first | rfl | decide) ?_
      have e9 : FLa_isPoolDue tn to ta tl = 0 := by simp only [FLa_isPoolDue, if_neg h1, if_pos h2]
      exact W.zret (v := 0) hx hb hr rfl (fun t ht hW => ⟨⟨0, (), rfl, (by show _ = _; rw [e9]), by rw [ht]; exact hP, hD⟩, hS.F ht⟩) hS.2.2 dLa_isPoolDue_40
    · refine lv_iconst (v := 1) hx hb dLa_isPoolDue_35 (by first | rfl | decide) ?_
      refine lv_goto (tgt := 40) hx hb dLa_isPoolDue_36 (by decide) ?_
      have e9 : FLa_isPoolDue tn to ta tl = 1 := by simp only [FLa_isPoolDue, if_neg h1, if_neg h2]
      exact W.zret (v := 1) hx hb hr rfl (fun t ht hW => ⟨⟨1, (), rfl, (by show _ = _; rw [e9]), by rw [ht]; exact hP, hD⟩, hS.F ht⟩) hS.2.2 dLa_isPoolDue_40
def FLa_halfOf (xl : Int32) (tl : Nat → Int32) (tc : Nat → Int32) (sK : Nat → Int32) (sA : Nat → Int32) (sB : Nat → Int32) (sC : Nat → Int32) (sL : Nat → Int32) : Int32 := if (sK xl.toNatClampNeg) = 1 then ((8192 + (2048 * ((sK xl.toNatClampNeg) - 1))) + (256 * (sA xl.toNatClampNeg))) + (sB xl.toNatClampNeg) else if (sK xl.toNatClampNeg) = 2 then ((8192 + (2048 * ((sK xl.toNatClampNeg) - 1))) + (256 * (sA xl.toNatClampNeg))) + (sB xl.toNatClampNeg) else if (sK xl.toNatClampNeg) = 3 then ((8192 + (2048 * ((sK xl.toNatClampNeg) - 1))) + (256 * (sA xl.toNatClampNeg))) + (sB xl.toNatClampNeg) else if (sK xl.toNatClampNeg) = 4 then ((8192 + (2048 * ((sK xl.toNatClampNeg) - 1))) + (256 * (sA xl.toNatClampNeg))) + (sB xl.toNatClampNeg) else if (sK xl.toNatClampNeg) = 5 then ((6144 + (64 * (sC xl.toNatClampNeg))) + (8 * (sB xl.toNatClampNeg))) + (sA xl.toNatClampNeg) else if (sK xl.toNatClampNeg) = 6 then ((6656 + (64 * (sC xl.toNatClampNeg))) + (8 * (sB xl.toNatClampNeg))) + (sA xl.toNatClampNeg) else if (sK xl.toNatClampNeg) = 7 then ((16384 + (64 * (sC xl.toNatClampNeg))) + (8 * (sB xl.toNatClampNeg))) + (sA xl.toNatClampNeg) else if (sK xl.toNatClampNeg) = 8 then ((24576 + (64 * (sC xl.toNatClampNeg))) + (8 * (sB xl.toNatClampNeg))) + (sA xl.toNatClampNeg) else if (sK xl.toNatClampNeg) = 9 then ((26624 + (64 * (sC xl.toNatClampNeg))) + (8 * (sB xl.toNatClampNeg))) + (sA xl.toNatClampNeg) else if (sK xl.toNatClampNeg) = 10 then (18432 + (256 * (sA xl.toNatClampNeg))) + (FLa_wordsToConstant xl tl tc) else if (sK xl.toNatClampNeg) = 11 then 57344 + ((FLa_stepsToLabel xl tl sA sL) &&& (2047 : Int32)) else if (sK xl.toNatClampNeg) = 12 then (53248 + (256 * (sC xl.toNatClampNeg))) + ((FLa_stepsToLabel xl tl sA sL) &&& (255 : Int32)) else if (sK xl.toNatClampNeg) = 13 then 18112 else if (sK xl.toNatClampNeg) = 14 then 18112 else if (sK xl.toNatClampNeg) = 15 then 48640 else 18112
set_option maxHeartbeats 4000000 in
set_option maxRecDepth 100000 in
theorem k_La_halfOf (l : Launch) (D : va_G) (ad : Nat → Nat) (cI cS : ClassId) (xl : Int32) (tn : Int32) (to : Int32) (ta : Int32) (tp : Int32) (tk : Int32) (tw : Int32) (tl : Nat → Int32) (tc : Nat → Int32) (ts : Nat → Int32) (tv : Nat → Int32) (sn : Int32) (sK : Nat → Int32) (sA : Nat → Int32) (sB : Nat → Int32) (sC : Nat → Int32) (sL : Nat → Int32) (gn : Int32) (gp : Int32) (gh : Nat → Int32) (hxl : vp_in xl 160) (hsl : ∀ j : Nat, j < 16 → ¬ sL j = (-1) → vp_in (sL j) 160) : pq_I l yLa_halfOf (.code yLa_halfOf cLa_halfOf 6 (some .int) :: pq_ws) { frames := 2, cells := 0, slots := 0, locals := 43 } D cI cS [.ref (ad 3), .int xl] (wL ad cI cS tn to ta tp tk tw tl tc ts tv sn sK sA sB sC sL gn gp gh) (FLa_halfOf xl tl tc sK sA sB sC sL) (wL ad cI cS tn to ta tp tk tw tl tc ts tv sn sK sA sB sC sL gn gp gh) := by
  intro sz
  refine Met.ofW (cc := cLa_halfOf) (maxL := 6) (ret := (some .int)) (by decide) rfl ?_
  intro p e s m args below meth c s₁ B hml hv
  obtain ⟨rfl, hsz, hP, hD0, hE⟩ := hv
  have hx := B.exec
  have hb := B.bytes
  have hr := B.returns
  have hts := atoms_spec (ws := (.code yLa_halfOf cLa_halfOf 6 (some .int) :: pq_ws : List Cond)) B.pre
  have hw : ∀ w ∈ pq_ws, w.before _ s = true := fun w h => hts w (List.mem_cons_of_mem _ h)
  have hown : s.vm.findClass RLa = some m.cls := findClass_of_methodNamed B.named
  have hlocks := B.notSynchronized
  subst hsz
  have hD := hD0.self (sz := s.heap.size)
  have hA : ∀ q : Nat, s.heap.size ≤ q → va_A (wL ad cI cS tn to ta tp tk tw tl tc ts tv sn sK sA sB sC sL gn gp gh) s.heap.size q := fun q h => Or.inr h
  have hS : va_S (va_A (wL ad cI cS tn to ta tp tk tw tl tc ts tv sn sK sA sB sC sL gn gp gh) s.heap.size) s.heap s.heap [] := va_S.rf
  have hl := lv_entry ([.ref (ad 3), .int xl] : List Value) (n := 6) (Nat.le_of_ble_eq_true rfl)
  rw [lg_entry_eq]
  generalize (lg_sl ([.ref (ad 3), .int xl] : List Value) ++ List.replicate (6 - (lg_sl ([.ref (ad 3), .int xl] : List Value)).length) Slot.unset).toArray = ls at hl ⊢
  have hl : lv_has ls 6 [(0, .ref (ad 3)), (1, .int xl)] := hl
  refine lv_aload_n hx hb dLa_halfOf_0 rfl (lv_at hl 0 rfl) ?_
  refine va_get (D := D) (ci := 1) (v := .ref (ad 1)) (C := RLa) (T := TLa) (N := 12) hx hb hw pinLa hown hE.1 hP 0 rfl rfl 0 (by decide) (hw _ wd_100) (fun _ h9 => h9) rfl dLa_halfOf_1 ?_
  refine va_getN (D := D) (ci := 3) (v := .ref (ad 5)) (C := RSo) (T := TSo) (N := 6) hx hb hw pinSo hown hE.1 hP 5 rfl rfl 0 (by decide) (va_Nw.use rfl (hE.2 _ nw_8)) (fun _ h9 => h9) rfl dLa_halfOf_4 ?_
  refine lv_iload_n hx hb dLa_halfOf_7 rfl (lv_at hl 1 rfl) ?_
  refine va_iald hx hb hE.1 hP 6 0 rfl rfl hxl dLa_halfOf_8 ?_
  refine lv_istore_n (lv' := [(2, .int (sK xl.toNatClampNeg)), (0, .ref (ad 3)), (1, .int xl)]) hx hb dLa_halfOf_9 rfl hl (by decide) rfl (fun ls hl => ?_)
  refine lv_aload_n hx hb dLa_halfOf_10 rfl (lv_at hl 1 rfl) ?_
  refine va_get (D := D) (ci := 1) (v := .ref (ad 1)) (C := RLa) (T := TLa) (N := 12) hx hb hw pinLa hown hE.1 hP 0 rfl rfl 0 (by decide) (hw _ wd_100) (fun _ h9 => h9) rfl dLa_halfOf_11 ?_
  refine va_getN (D := D) (ci := 3) (v := .ref (ad 6)) (C := RSo) (T := TSo) (N := 6) hx hb hw pinSo hown hE.1 hP 5 rfl rfl 1 (by decide) (va_Nw.use rfl (hE.2 _ nw_5)) (fun _ h9 => h9) rfl dLa_halfOf_14 ?_
  refine lv_iload_n hx hb dLa_halfOf_17 rfl (lv_at hl 2 rfl) ?_
  refine va_iald hx hb hE.1 hP 7 0 rfl rfl hxl dLa_halfOf_18 ?_
  refine lv_istore_n (lv' := [(3, .int (sA xl.toNatClampNeg)), (2, .int (sK xl.toNatClampNeg)), (0, .ref (ad 3)), (1, .int xl)]) hx hb dLa_halfOf_19 rfl hl (by decide) rfl (fun ls hl => ?_)
  refine lv_aload_n hx hb dLa_halfOf_20 rfl (lv_at hl 2 rfl) ?_
  refine va_get (D := D) (ci := 1) (v := .ref (ad 1)) (C := RLa) (T := TLa) (N := 12) hx hb hw pinLa hown hE.1 hP 0 rfl rfl 0 (by decide) (hw _ wd_100) (fun _ h9 => h9) rfl dLa_halfOf_21 ?_
  refine va_getN (D := D) (ci := 3) (v := .ref (ad 7)) (C := RSo) (T := TSo) (N := 6) hx hb hw pinSo hown hE.1 hP 5 rfl rfl 2 (by decide) (va_Nw.use rfl (hE.2 _ nw_10)) (fun _ h9 => h9) rfl dLa_halfOf_24 ?_
  refine lv_iload_n hx hb dLa_halfOf_27 rfl (lv_at hl 3 rfl) ?_
  refine va_iald hx hb hE.1 hP 8 0 rfl rfl hxl dLa_halfOf_28 ?_
  refine lv_istore (lv' := [(4, .int (sB xl.toNatClampNeg)), (3, .int (sA xl.toNatClampNeg)), (2, .int (sK xl.toNatClampNeg)), (0, .ref (ad 3)), (1, .int xl)]) hx hb dLa_halfOf_29 hl (by decide) rfl (fun ls hl => ?_)
  refine lv_aload_n hx hb dLa_halfOf_31 rfl (lv_at hl 3 rfl) ?_
  refine va_get (D := D) (ci := 1) (v := .ref (ad 1)) (C := RLa) (T := TLa) (N := 12) hx hb hw pinLa hown hE.1 hP 0 rfl rfl 0 (by decide) (hw _ wd_100) (fun _ h9 => h9) rfl dLa_halfOf_32 ?_
  refine va_getN (D := D) (ci := 3) (v := .ref (ad 8)) (C := RSo) (T := TSo) (N := 6) hx hb hw pinSo hown hE.1 hP 5 rfl rfl 3 (by decide) (va_Nw.use rfl (hE.2 _ nw_11)) (fun _ h9 => h9) rfl dLa_halfOf_35 ?_
  refine lv_iload_n hx hb dLa_halfOf_38 rfl (lv_at hl 4 rfl) ?_
  refine va_iald hx hb hE.1 hP 9 0 rfl rfl hxl dLa_halfOf_39 ?_
  refine lv_istore (lv' := [(5, .int (sC xl.toNatClampNeg)), (4, .int (sB xl.toNatClampNeg)), (3, .int (sA xl.toNatClampNeg)), (2, .int (sK xl.toNatClampNeg)), (0, .ref (ad 3)), (1, .int xl)]) hx hb dLa_halfOf_40 hl (by decide) rfl (fun ls hl => ?_)
  refine lv_iload_n hx hb dLa_halfOf_42 rfl (lv_at hl 3 rfl) ?_
  by_cases h1 : (sK xl.toNatClampNeg) = 1
  · refine lv_tableIn (off := 73) (tgt := 116) hx hb dLa_halfOf_43 (by rw [h1]; decide) (by rw [h1]; decide) (by rw [h1]; rfl) (by decide) ?_
    refine lv_sipush (v := 8192) hx hb dLa_halfOf_116 (by first | rfl | decide) ?_
    refine lv_sipush (v := 2048) hx hb dLa_halfOf_119 (by first | rfl | decide) ?_
    refine lv_iload_n hx hb dLa_halfOf_122 rfl (lv_at hl 3 rfl) ?_
    refine lv_iconst (v := 1) hx hb dLa_halfOf_123 (by first | rfl | decide) ?_
    refine lv_isub hx hb dLa_halfOf_124 ?_
    refine lv_imul hx hb dLa_halfOf_125 ?_
    refine lv_iadd hx hb dLa_halfOf_126 ?_
    refine lv_sipush (v := 256) hx hb dLa_halfOf_127 (by first | rfl | decide) ?_
    refine lv_iload_n hx hb dLa_halfOf_130 rfl (lv_at hl 2 rfl) ?_
    refine lv_imul hx hb dLa_halfOf_131 ?_
    refine lv_iadd hx hb dLa_halfOf_132 ?_
    refine lv_iload hx hb dLa_halfOf_133 (lv_at hl 1 rfl) ?_
    refine lv_iadd hx hb dLa_halfOf_135 ?_
    have e9 : FLa_halfOf xl tl tc sK sA sB sC sL = ((8192 + (2048 * ((sK xl.toNatClampNeg) - 1))) + (256 * (sA xl.toNatClampNeg))) + (sB xl.toNatClampNeg) := by simp only [FLa_halfOf, if_pos h1]
    exact W.iret (v := ((8192 + (2048 * ((sK xl.toNatClampNeg) - 1))) + (256 * (sA xl.toNatClampNeg))) + (sB xl.toNatClampNeg)) hx hb hr (fun t ht hW => ⟨⟨((8192 + (2048 * ((sK xl.toNatClampNeg) - 1))) + (256 * (sA xl.toNatClampNeg))) + (sB xl.toNatClampNeg), (), rfl, (by show _ = _; rw [e9]), by rw [ht]; exact hP, hD⟩, hS.F ht⟩) hS.2.2 dLa_halfOf_136
  by_cases h2 : (sK xl.toNatClampNeg) = 2
  · refine lv_tableIn (off := 73) (tgt := 116) hx hb dLa_halfOf_43 (by rw [h2]; decide) (by rw [h2]; decide) (by rw [h2]; rfl) (by decide) ?_
    refine lv_sipush (v := 8192) hx hb dLa_halfOf_116 (by first | rfl | decide) ?_
    refine lv_sipush (v := 2048) hx hb dLa_halfOf_119 (by first | rfl | decide) ?_
    refine lv_iload_n hx hb dLa_halfOf_122 rfl (lv_at hl 3 rfl) ?_
    refine lv_iconst (v := 1) hx hb dLa_halfOf_123 (by first | rfl | decide) ?_
    refine lv_isub hx hb dLa_halfOf_124 ?_
    refine lv_imul hx hb dLa_halfOf_125 ?_
    refine lv_iadd hx hb dLa_halfOf_126 ?_
    refine lv_sipush (v := 256) hx hb dLa_halfOf_127 (by first | rfl | decide) ?_
    refine lv_iload_n hx hb dLa_halfOf_130 rfl (lv_at hl 2 rfl) ?_
    refine lv_imul hx hb dLa_halfOf_131 ?_
    refine lv_iadd hx hb dLa_halfOf_132 ?_
    refine lv_iload hx hb dLa_halfOf_133 (lv_at hl 1 rfl) ?_
    refine lv_iadd hx hb dLa_halfOf_135 ?_
    have e9 : FLa_halfOf xl tl tc sK sA sB sC sL = ((8192 + (2048 * ((sK xl.toNatClampNeg) - 1))) + (256 * (sA xl.toNatClampNeg))) + (sB xl.toNatClampNeg) := by simp only [FLa_halfOf, if_neg h1, if_pos h2]
    exact W.iret (v := ((8192 + (2048 * ((sK xl.toNatClampNeg) - 1))) + (256 * (sA xl.toNatClampNeg))) + (sB xl.toNatClampNeg)) hx hb hr (fun t ht hW => ⟨⟨((8192 + (2048 * ((sK xl.toNatClampNeg) - 1))) + (256 * (sA xl.toNatClampNeg))) + (sB xl.toNatClampNeg), (), rfl, (by show _ = _; rw [e9]), by rw [ht]; exact hP, hD⟩, hS.F ht⟩) hS.2.2 dLa_halfOf_136
  by_cases h3 : (sK xl.toNatClampNeg) = 3
  · refine lv_tableIn (off := 73) (tgt := 116) hx hb dLa_halfOf_43 (by rw [h3]; decide) (by rw [h3]; decide) (by rw [h3]; rfl) (by decide) ?_
    refine lv_sipush (v := 8192) hx hb dLa_halfOf_116 (by first | rfl | decide) ?_
    refine lv_sipush (v := 2048) hx hb dLa_halfOf_119 (by first | rfl | decide) ?_
    refine lv_iload_n hx hb dLa_halfOf_122 rfl (lv_at hl 3 rfl) ?_
    refine lv_iconst (v := 1) hx hb dLa_halfOf_123 (by first | rfl | decide) ?_
    refine lv_isub hx hb dLa_halfOf_124 ?_
    refine lv_imul hx hb dLa_halfOf_125 ?_
    refine lv_iadd hx hb dLa_halfOf_126 ?_
    refine lv_sipush (v := 256) hx hb dLa_halfOf_127 (by first | rfl | decide) ?_
    refine lv_iload_n hx hb dLa_halfOf_130 rfl (lv_at hl 2 rfl) ?_
    refine lv_imul hx hb dLa_halfOf_131 ?_
    refine lv_iadd hx hb dLa_halfOf_132 ?_
    refine lv_iload hx hb dLa_halfOf_133 (lv_at hl 1 rfl) ?_
    refine lv_iadd hx hb dLa_halfOf_135 ?_
    have e9 : FLa_halfOf xl tl tc sK sA sB sC sL = ((8192 + (2048 * ((sK xl.toNatClampNeg) - 1))) + (256 * (sA xl.toNatClampNeg))) + (sB xl.toNatClampNeg) := by simp only [FLa_halfOf, if_neg h1, if_neg h2, if_pos h3]
    exact W.iret (v := ((8192 + (2048 * ((sK xl.toNatClampNeg) - 1))) + (256 * (sA xl.toNatClampNeg))) + (sB xl.toNatClampNeg)) hx hb hr (fun t ht hW => ⟨⟨((8192 + (2048 * ((sK xl.toNatClampNeg) - 1))) + (256 * (sA xl.toNatClampNeg))) + (sB xl.toNatClampNeg), (), rfl, (by show _ = _; rw [e9]), by rw [ht]; exact hP, hD⟩, hS.F ht⟩) hS.2.2 dLa_halfOf_136
  by_cases h4 : (sK xl.toNatClampNeg) = 4
  · refine lv_tableIn (off := 73) (tgt := 116) hx hb dLa_halfOf_43 (by rw [h4]; decide) (by rw [h4]; decide) (by rw [h4]; rfl) (by decide) ?_
    refine lv_sipush (v := 8192) hx hb dLa_halfOf_116 (by first | rfl | decide) ?_
    refine lv_sipush (v := 2048) hx hb dLa_halfOf_119 (by first | rfl | decide) ?_
    refine lv_iload_n hx hb dLa_halfOf_122 rfl (lv_at hl 3 rfl) ?_
    refine lv_iconst (v := 1) hx hb dLa_halfOf_123 (by first | rfl | decide) ?_
    refine lv_isub hx hb dLa_halfOf_124 ?_
    refine lv_imul hx hb dLa_halfOf_125 ?_
    refine lv_iadd hx hb dLa_halfOf_126 ?_
    refine lv_sipush (v := 256) hx hb dLa_halfOf_127 (by first | rfl | decide) ?_
    refine lv_iload_n hx hb dLa_halfOf_130 rfl (lv_at hl 2 rfl) ?_
    refine lv_imul hx hb dLa_halfOf_131 ?_
    refine lv_iadd hx hb dLa_halfOf_132 ?_
    refine lv_iload hx hb dLa_halfOf_133 (lv_at hl 1 rfl) ?_
    refine lv_iadd hx hb dLa_halfOf_135 ?_
    have e9 : FLa_halfOf xl tl tc sK sA sB sC sL = ((8192 + (2048 * ((sK xl.toNatClampNeg) - 1))) + (256 * (sA xl.toNatClampNeg))) + (sB xl.toNatClampNeg) := by simp only [FLa_halfOf, if_neg h1, if_neg h2, if_neg h3, if_pos h4]
    exact W.iret (v := ((8192 + (2048 * ((sK xl.toNatClampNeg) - 1))) + (256 * (sA xl.toNatClampNeg))) + (sB xl.toNatClampNeg)) hx hb hr (fun t ht hW => ⟨⟨((8192 + (2048 * ((sK xl.toNatClampNeg) - 1))) + (256 * (sA xl.toNatClampNeg))) + (sB xl.toNatClampNeg), (), rfl, (by show _ = _; rw [e9]), by rw [ht]; exact hP, hD⟩, hS.F ht⟩) hS.2.2 dLa_halfOf_136
  by_cases h5 : (sK xl.toNatClampNeg) = 5
  · refine lv_tableIn (off := 94) (tgt := 137) hx hb dLa_halfOf_43 (by rw [h5]; decide) (by rw [h5]; decide) (by rw [h5]; rfl) (by decide) ?_
    refine lv_sipush (v := 6144) hx hb dLa_halfOf_137 (by first | rfl | decide) ?_
    refine lv_bipush (v := 64) hx hb dLa_halfOf_140 (by first | rfl | decide) ?_
    refine lv_iload hx hb dLa_halfOf_142 (lv_at hl 0 rfl) ?_
    refine lv_imul hx hb dLa_halfOf_144 ?_
    refine lv_iadd hx hb dLa_halfOf_145 ?_
    refine lv_bipush (v := 8) hx hb dLa_halfOf_146 (by first | rfl | decide) ?_
    refine lv_iload hx hb dLa_halfOf_148 (lv_at hl 1 rfl) ?_
    refine lv_imul hx hb dLa_halfOf_150 ?_
    refine lv_iadd hx hb dLa_halfOf_151 ?_
    refine lv_iload_n hx hb dLa_halfOf_152 rfl (lv_at hl 2 rfl) ?_
    refine lv_iadd hx hb dLa_halfOf_153 ?_
    have e9 : FLa_halfOf xl tl tc sK sA sB sC sL = ((6144 + (64 * (sC xl.toNatClampNeg))) + (8 * (sB xl.toNatClampNeg))) + (sA xl.toNatClampNeg) := by simp only [FLa_halfOf, if_neg h1, if_neg h2, if_neg h3, if_neg h4, if_pos h5]
    exact W.iret (v := ((6144 + (64 * (sC xl.toNatClampNeg))) + (8 * (sB xl.toNatClampNeg))) + (sA xl.toNatClampNeg)) hx hb hr (fun t ht hW => ⟨⟨((6144 + (64 * (sC xl.toNatClampNeg))) + (8 * (sB xl.toNatClampNeg))) + (sA xl.toNatClampNeg), (), rfl, (by show _ = _; rw [e9]), by rw [ht]; exact hP, hD⟩, hS.F ht⟩) hS.2.2 dLa_halfOf_154
  by_cases h6 : (sK xl.toNatClampNeg) = 6
  · refine lv_tableIn (off := 112) (tgt := 155) hx hb dLa_halfOf_43 (by rw [h6]; decide) (by rw [h6]; decide) (by rw [h6]; rfl) (by decide) ?_
    refine lv_sipush (v := 6656) hx hb dLa_halfOf_155 (by first | rfl | decide) ?_
    refine lv_bipush (v := 64) hx hb dLa_halfOf_158 (by first | rfl | decide) ?_
    refine lv_iload hx hb dLa_halfOf_160 (lv_at hl 0 rfl) ?_
    refine lv_imul hx hb dLa_halfOf_162 ?_
    refine lv_iadd hx hb dLa_halfOf_163 ?_
    refine lv_bipush (v := 8) hx hb dLa_halfOf_164 (by first | rfl | decide) ?_
    refine lv_iload hx hb dLa_halfOf_166 (lv_at hl 1 rfl) ?_
    refine lv_imul hx hb dLa_halfOf_168 ?_
    refine lv_iadd hx hb dLa_halfOf_169 ?_
    refine lv_iload_n hx hb dLa_halfOf_170 rfl (lv_at hl 2 rfl) ?_
    refine lv_iadd hx hb dLa_halfOf_171 ?_
    have e9 : FLa_halfOf xl tl tc sK sA sB sC sL = ((6656 + (64 * (sC xl.toNatClampNeg))) + (8 * (sB xl.toNatClampNeg))) + (sA xl.toNatClampNeg) := by simp only [FLa_halfOf, if_neg h1, if_neg h2, if_neg h3, if_neg h4, if_neg h5, if_pos h6]
    exact W.iret (v := ((6656 + (64 * (sC xl.toNatClampNeg))) + (8 * (sB xl.toNatClampNeg))) + (sA xl.toNatClampNeg)) hx hb hr (fun t ht hW => ⟨⟨((6656 + (64 * (sC xl.toNatClampNeg))) + (8 * (sB xl.toNatClampNeg))) + (sA xl.toNatClampNeg), (), rfl, (by show _ = _; rw [e9]), by rw [ht]; exact hP, hD⟩, hS.F ht⟩) hS.2.2 dLa_halfOf_172
  by_cases h7 : (sK xl.toNatClampNeg) = 7
  · refine lv_tableIn (off := 130) (tgt := 173) hx hb dLa_halfOf_43 (by rw [h7]; decide) (by rw [h7]; decide) (by rw [h7]; rfl) (by decide) ?_
    refine lv_sipush (v := 16384) hx hb dLa_halfOf_173 (by first | rfl | decide) ?_
    refine lv_bipush (v := 64) hx hb dLa_halfOf_176 (by first | rfl | decide) ?_
    refine lv_iload hx hb dLa_halfOf_178 (lv_at hl 0 rfl) ?_
    refine lv_imul hx hb dLa_halfOf_180 ?_
    refine lv_iadd hx hb dLa_halfOf_181 ?_
    refine lv_bipush (v := 8) hx hb dLa_halfOf_182 (by first | rfl | decide) ?_
    refine lv_iload hx hb dLa_halfOf_184 (lv_at hl 1 rfl) ?_
    refine lv_imul hx hb dLa_halfOf_186 ?_
    refine lv_iadd hx hb dLa_halfOf_187 ?_
    refine lv_iload_n hx hb dLa_halfOf_188 rfl (lv_at hl 2 rfl) ?_
    refine lv_iadd hx hb dLa_halfOf_189 ?_
    have e9 : FLa_halfOf xl tl tc sK sA sB sC sL = ((16384 + (64 * (sC xl.toNatClampNeg))) + (8 * (sB xl.toNatClampNeg))) + (sA xl.toNatClampNeg) := by simp only [FLa_halfOf, if_neg h1, if_neg h2, if_neg h3, if_neg h4, if_neg h5, if_neg h6, if_pos h7]
    exact W.iret (v := ((16384 + (64 * (sC xl.toNatClampNeg))) + (8 * (sB xl.toNatClampNeg))) + (sA xl.toNatClampNeg)) hx hb hr (fun t ht hW => ⟨⟨((16384 + (64 * (sC xl.toNatClampNeg))) + (8 * (sB xl.toNatClampNeg))) + (sA xl.toNatClampNeg), (), rfl, (by show _ = _; rw [e9]), by rw [ht]; exact hP, hD⟩, hS.F ht⟩) hS.2.2 dLa_halfOf_190
  by_cases h8 : (sK xl.toNatClampNeg) = 8
  · refine lv_tableIn (off := 148) (tgt := 191) hx hb dLa_halfOf_43 (by rw [h8]; decide) (by rw [h8]; decide) (by rw [h8]; rfl) (by decide) ?_
    refine lv_sipush (v := 24576) hx hb dLa_halfOf_191 (by first | rfl | decide) ?_
    refine lv_bipush (v := 64) hx hb dLa_halfOf_194 (by first | rfl | decide) ?_
    refine lv_iload hx hb dLa_halfOf_196 (lv_at hl 0 rfl) ?_
    refine lv_imul hx hb dLa_halfOf_198 ?_
    refine lv_iadd hx hb dLa_halfOf_199 ?_
    refine lv_bipush (v := 8) hx hb dLa_halfOf_200 (by first | rfl | decide) ?_
    refine lv_iload hx hb dLa_halfOf_202 (lv_at hl 1 rfl) ?_
    refine lv_imul hx hb dLa_halfOf_204 ?_
    refine lv_iadd hx hb dLa_halfOf_205 ?_
    refine lv_iload_n hx hb dLa_halfOf_206 rfl (lv_at hl 2 rfl) ?_
    refine lv_iadd hx hb dLa_halfOf_207 ?_
    have e9 : FLa_halfOf xl tl tc sK sA sB sC sL = ((24576 + (64 * (sC xl.toNatClampNeg))) + (8 * (sB xl.toNatClampNeg))) + (sA xl.toNatClampNeg) := by simp only [FLa_halfOf, if_neg h1, if_neg h2, if_neg h3, if_neg h4, if_neg h5, if_neg h6, if_neg h7, if_pos h8]
    exact W.iret (v := ((24576 + (64 * (sC xl.toNatClampNeg))) + (8 * (sB xl.toNatClampNeg))) + (sA xl.toNatClampNeg)) hx hb hr (fun t ht hW => ⟨⟨((24576 + (64 * (sC xl.toNatClampNeg))) + (8 * (sB xl.toNatClampNeg))) + (sA xl.toNatClampNeg), (), rfl, (by show _ = _; rw [e9]), by rw [ht]; exact hP, hD⟩, hS.F ht⟩) hS.2.2 dLa_halfOf_208
  by_cases h9 : (sK xl.toNatClampNeg) = 9
  · refine lv_tableIn (off := 166) (tgt := 209) hx hb dLa_halfOf_43 (by rw [h9]; decide) (by rw [h9]; decide) (by rw [h9]; rfl) (by decide) ?_
    refine lv_sipush (v := 26624) hx hb dLa_halfOf_209 (by first | rfl | decide) ?_
    refine lv_bipush (v := 64) hx hb dLa_halfOf_212 (by first | rfl | decide) ?_
    refine lv_iload hx hb dLa_halfOf_214 (lv_at hl 0 rfl) ?_
    refine lv_imul hx hb dLa_halfOf_216 ?_
    refine lv_iadd hx hb dLa_halfOf_217 ?_
    refine lv_bipush (v := 8) hx hb dLa_halfOf_218 (by first | rfl | decide) ?_
    refine lv_iload hx hb dLa_halfOf_220 (lv_at hl 1 rfl) ?_
    refine lv_imul hx hb dLa_halfOf_222 ?_
    refine lv_iadd hx hb dLa_halfOf_223 ?_
    refine lv_iload_n hx hb dLa_halfOf_224 rfl (lv_at hl 2 rfl) ?_
    refine lv_iadd hx hb dLa_halfOf_225 ?_
    have e9 : FLa_halfOf xl tl tc sK sA sB sC sL = ((26624 + (64 * (sC xl.toNatClampNeg))) + (8 * (sB xl.toNatClampNeg))) + (sA xl.toNatClampNeg) := by simp only [FLa_halfOf, if_neg h1, if_neg h2, if_neg h3, if_neg h4, if_neg h5, if_neg h6, if_neg h7, if_neg h8, if_pos h9]
    exact W.iret (v := ((26624 + (64 * (sC xl.toNatClampNeg))) + (8 * (sB xl.toNatClampNeg))) + (sA xl.toNatClampNeg)) hx hb hr (fun t ht hW => ⟨⟨((26624 + (64 * (sC xl.toNatClampNeg))) + (8 * (sB xl.toNatClampNeg))) + (sA xl.toNatClampNeg), (), rfl, (by show _ = _; rw [e9]), by rw [ht]; exact hP, hD⟩, hS.F ht⟩) hS.2.2 dLa_halfOf_226
  by_cases h10 : (sK xl.toNatClampNeg) = 10
  · refine lv_tableIn (off := 184) (tgt := 227) hx hb dLa_halfOf_43 (by rw [h10]; decide) (by rw [h10]; decide) (by rw [h10]; rfl) (by decide) ?_
    refine lv_sipush (v := 18432) hx hb dLa_halfOf_227 (by first | rfl | decide) ?_
    refine lv_sipush (v := 256) hx hb dLa_halfOf_230 (by first | rfl | decide) ?_
    refine lv_iload_n hx hb dLa_halfOf_233 rfl (lv_at hl 2 rfl) ?_
    refine lv_imul hx hb dLa_halfOf_234 ?_
    refine lv_iadd hx hb dLa_halfOf_235 ?_
    refine lv_aload_n hx hb dLa_halfOf_236 rfl (lv_at hl 4 rfl) ?_
    refine lv_iload_n hx hb dLa_halfOf_237 rfl (lv_at hl 5 rfl) ?_
    refine pq_calli (fr := (FLa_wordsToConstant xl tl tc)) (wc := (wL ad cI cS tn to ta tp tk tw tl tc ts tv sn sK sA sB sC sL gn gp gh)) (wr := ([] : List Nat).filterMap (fun i => (wL ad cI cS tn to ta tp tk tw tl tc ts tv sn sK sA sB sC sL gn gp gh)[i]?)) hP hD hS hA [0, 1, 2, 3, 4, 5, 6, 7, 8, 9, 10, 11, 12] [] rfl rfl (by decide) (by decide) (va_runV (own := RLa) (C := RLa) (As := [.int xl]) (rest := [.int (18432 + (256 * (sA xl.toNatClampNeg)))]) ⟨hx, hb, hml, hown, hw⟩ (k_La_wordsToConstant l D ad cI cS xl tn to ta tp tk tw tl tc ts tv sn sK sA sB sC sL gn gp gh hxl s.heap.size) ⟨pq_cwB 1 hw wd_112 wd_108 wd_111 rfl rfl (by decide +kernel) ⟨Nat.le_of_ble_eq_true rfl, Nat.le_of_ble_eq_true rfl⟩, hw _ wd_113, hw _ wd_114⟩ (pq_preV (ci := 1) (C := RLa) (T := TLa) (N := 12) hE (hP.sub [0, 1, 2, 3, 4, 5, 6, 7, 8, 9, 10, 11, 12] rfl) (hD.sub [0, 1, 2, 3, 4, 5, 6, 7, 8, 9, 10, 11, 12] (by decide) rfl) rfl 0 rfl) rfl rfl hl.1 rfl (lv_room (Nat.le_of_ble_eq_true rfl)) dLa_halfOf_238 ⟨Nat.zero_le _, Nat.zero_le _⟩) (fun H locs hP hD hS => ?_)
    have hP : va_P D vwCl (wL ad cI cS tn to ta tp tk tw tl tc ts tv sn sK sA sB sC sL gn gp gh) H := hP.sub [0, 1, 2, 3, 4, 5, 6, 7, 8, 9, 10, 11, 12] rfl
    have hD : va_D _ (wL ad cI cS tn to ta tp tk tw tl tc ts tv sn sK sA sB sC sL gn gp gh) := hD.sub [0, 1, 2, 3, 4, 5, 6, 7, 8, 9, 10, 11, 12] (by decide) rfl
    refine lv_iadd hx hb dLa_halfOf_241 ?_
    have e9 : FLa_halfOf xl tl tc sK sA sB sC sL = (18432 + (256 * (sA xl.toNatClampNeg))) + (FLa_wordsToConstant xl tl tc) := by simp only [FLa_halfOf, if_neg h1, if_neg h2, if_neg h3, if_neg h4, if_neg h5, if_neg h6, if_neg h7, if_neg h8, if_neg h9, if_pos h10]
    exact W.iret (v := (18432 + (256 * (sA xl.toNatClampNeg))) + (FLa_wordsToConstant xl tl tc)) hx hb hr (fun t ht hW => ⟨⟨(18432 + (256 * (sA xl.toNatClampNeg))) + (FLa_wordsToConstant xl tl tc), (), rfl, (by show _ = _; rw [e9]), by rw [ht]; exact hP, hD⟩, hS.F ht⟩) hS.2.2 dLa_halfOf_242
  by_cases h11 : (sK xl.toNatClampNeg) = 11
  · refine lv_tableIn (off := 200) (tgt := 243) hx hb dLa_halfOf_43 (by rw [h11]; decide) (by rw [h11]; decide) (by rw [h11]; rfl) (by decide) ?_
    refine lv_ldc hx hb hown (hw _ wd_127) dLa_halfOf_243 ?_
    refine lv_aload_n hx hb dLa_halfOf_245 rfl (lv_at hl 4 rfl) ?_
    refine lv_iload_n hx hb dLa_halfOf_246 rfl (lv_at hl 5 rfl) ?_
    refine pq_calli (fr := (FLa_stepsToLabel xl tl sA sL)) (wc := (wL ad cI cS tn to ta tp tk tw tl tc ts tv sn sK sA sB sC sL gn gp gh)) (wr := ([] : List Nat).filterMap (fun i => (wL ad cI cS tn to ta tp tk tw tl tc ts tv sn sK sA sB sC sL gn gp gh)[i]?)) hP hD hS hA [0, 1, 2, 3, 4, 5, 6, 7, 8, 9, 10, 11, 12] [] rfl rfl (by decide) (by decide) (va_runV (own := RLa) (C := RLa) (As := [.int xl]) (rest := [.int 57344]) ⟨hx, hb, hml, hown, hw⟩ (k_La_stepsToLabel l D ad cI cS xl tn to ta tp tk tw tl tc ts tv sn sK sA sB sC sL gn gp gh hxl hsl s.heap.size) ⟨pq_cwB 1 hw wd_120 wd_108 wd_119 rfl rfl (by decide +kernel) ⟨Nat.le_of_ble_eq_true rfl, Nat.le_of_ble_eq_true rfl⟩, hw _ wd_121, hw _ wd_122⟩ (pq_preV (ci := 1) (C := RLa) (T := TLa) (N := 12) hE (hP.sub [0, 1, 2, 3, 4, 5, 6, 7, 8, 9, 10, 11, 12] rfl) (hD.sub [0, 1, 2, 3, 4, 5, 6, 7, 8, 9, 10, 11, 12] (by decide) rfl) rfl 0 rfl) rfl rfl hl.1 rfl (lv_room (Nat.le_of_ble_eq_true rfl)) dLa_halfOf_247 ⟨Nat.zero_le _, Nat.zero_le _⟩) (fun H locs hP hD hS => ?_)
    have hP : va_P D vwCl (wL ad cI cS tn to ta tp tk tw tl tc ts tv sn sK sA sB sC sL gn gp gh) H := hP.sub [0, 1, 2, 3, 4, 5, 6, 7, 8, 9, 10, 11, 12] rfl
    have hD : va_D _ (wL ad cI cS tn to ta tp tk tw tl tc ts tv sn sK sA sB sC sL gn gp gh) := hD.sub [0, 1, 2, 3, 4, 5, 6, 7, 8, 9, 10, 11, 12] (by decide) rfl
    refine lv_sipush (v := 2047) hx hb dLa_halfOf_250 (by first | rfl | decide) ?_
    refine lv_iand hx hb dLa_halfOf_253 ?_
    refine lv_iadd hx hb dLa_halfOf_254 ?_
    have e9 : FLa_halfOf xl tl tc sK sA sB sC sL = 57344 + ((FLa_stepsToLabel xl tl sA sL) &&& (2047 : Int32)) := by simp only [FLa_halfOf, if_neg h1, if_neg h2, if_neg h3, if_neg h4, if_neg h5, if_neg h6, if_neg h7, if_neg h8, if_neg h9, if_neg h10, if_pos h11]
    exact W.iret (v := 57344 + ((FLa_stepsToLabel xl tl sA sL) &&& (2047 : Int32))) hx hb hr (fun t ht hW => ⟨⟨57344 + ((FLa_stepsToLabel xl tl sA sL) &&& (2047 : Int32)), (), rfl, (by show _ = _; rw [e9]), by rw [ht]; exact hP, hD⟩, hS.F ht⟩) hS.2.2 dLa_halfOf_255
  by_cases h12 : (sK xl.toNatClampNeg) = 12
  · refine lv_tableIn (off := 213) (tgt := 256) hx hb dLa_halfOf_43 (by rw [h12]; decide) (by rw [h12]; decide) (by rw [h12]; rfl) (by decide) ?_
    refine lv_ldc hx hb hown (hw _ wd_128) dLa_halfOf_256 ?_
    refine lv_sipush (v := 256) hx hb dLa_halfOf_258 (by first | rfl | decide) ?_
    refine lv_iload hx hb dLa_halfOf_261 (lv_at hl 0 rfl) ?_
    refine lv_imul hx hb dLa_halfOf_263 ?_
    refine lv_iadd hx hb dLa_halfOf_264 ?_
    refine lv_aload_n hx hb dLa_halfOf_265 rfl (lv_at hl 4 rfl) ?_
    refine lv_iload_n hx hb dLa_halfOf_266 rfl (lv_at hl 5 rfl) ?_
    refine pq_calli (fr := (FLa_stepsToLabel xl tl sA sL)) (wc := (wL ad cI cS tn to ta tp tk tw tl tc ts tv sn sK sA sB sC sL gn gp gh)) (wr := ([] : List Nat).filterMap (fun i => (wL ad cI cS tn to ta tp tk tw tl tc ts tv sn sK sA sB sC sL gn gp gh)[i]?)) hP hD hS hA [0, 1, 2, 3, 4, 5, 6, 7, 8, 9, 10, 11, 12] [] rfl rfl (by decide) (by decide) (va_runV (own := RLa) (C := RLa) (As := [.int xl]) (rest := [.int (53248 + (256 * (sC xl.toNatClampNeg)))]) ⟨hx, hb, hml, hown, hw⟩ (k_La_stepsToLabel l D ad cI cS xl tn to ta tp tk tw tl tc ts tv sn sK sA sB sC sL gn gp gh hxl hsl s.heap.size) ⟨pq_cwB 1 hw wd_120 wd_108 wd_119 rfl rfl (by decide +kernel) ⟨Nat.le_of_ble_eq_true rfl, Nat.le_of_ble_eq_true rfl⟩, hw _ wd_121, hw _ wd_122⟩ (pq_preV (ci := 1) (C := RLa) (T := TLa) (N := 12) hE (hP.sub [0, 1, 2, 3, 4, 5, 6, 7, 8, 9, 10, 11, 12] rfl) (hD.sub [0, 1, 2, 3, 4, 5, 6, 7, 8, 9, 10, 11, 12] (by decide) rfl) rfl 0 rfl) rfl rfl hl.1 rfl (lv_room (Nat.le_of_ble_eq_true rfl)) dLa_halfOf_267 ⟨Nat.zero_le _, Nat.zero_le _⟩) (fun H locs hP hD hS => ?_)
    have hP : va_P D vwCl (wL ad cI cS tn to ta tp tk tw tl tc ts tv sn sK sA sB sC sL gn gp gh) H := hP.sub [0, 1, 2, 3, 4, 5, 6, 7, 8, 9, 10, 11, 12] rfl
    have hD : va_D _ (wL ad cI cS tn to ta tp tk tw tl tc ts tv sn sK sA sB sC sL gn gp gh) := hD.sub [0, 1, 2, 3, 4, 5, 6, 7, 8, 9, 10, 11, 12] (by decide) rfl
    refine lv_sipush (v := 255) hx hb dLa_halfOf_270 (by first | rfl | decide) ?_
    refine lv_iand hx hb dLa_halfOf_273 ?_
    refine lv_iadd hx hb dLa_halfOf_274 ?_
    have e9 : FLa_halfOf xl tl tc sK sA sB sC sL = (53248 + (256 * (sC xl.toNatClampNeg))) + ((FLa_stepsToLabel xl tl sA sL) &&& (255 : Int32)) := by simp only [FLa_halfOf, if_neg h1, if_neg h2, if_neg h3, if_neg h4, if_neg h5, if_neg h6, if_neg h7, if_neg h8, if_neg h9, if_neg h10, if_neg h11, if_pos h12]
    exact W.iret (v := (53248 + (256 * (sC xl.toNatClampNeg))) + ((FLa_stepsToLabel xl tl sA sL) &&& (255 : Int32))) hx hb hr (fun t ht hW => ⟨⟨(53248 + (256 * (sC xl.toNatClampNeg))) + ((FLa_stepsToLabel xl tl sA sL) &&& (255 : Int32)), (), rfl, (by show _ = _; rw [e9]), by rw [ht]; exact hP, hD⟩, hS.F ht⟩) hS.2.2 dLa_halfOf_275
  by_cases h13 : (sK xl.toNatClampNeg) = 13
  · refine lv_tableIn (off := 236) (tgt := 279) hx hb dLa_halfOf_43 (by rw [h13]; decide) (by rw [h13]; decide) (by rw [h13]; rfl) (by decide) ?_
    refine lv_sipush (v := 18112) hx hb dLa_halfOf_279 (by first | rfl | decide) ?_
    have e9 : FLa_halfOf xl tl tc sK sA sB sC sL = 18112 := by simp only [FLa_halfOf, if_neg h1, if_neg h2, if_neg h3, if_neg h4, if_neg h5, if_neg h6, if_neg h7, if_neg h8, if_neg h9, if_neg h10, if_neg h11, if_neg h12, if_pos h13]
    exact W.iret (v := 18112) hx hb hr (fun t ht hW => ⟨⟨18112, (), rfl, (by show _ = _; rw [e9]), by rw [ht]; exact hP, hD⟩, hS.F ht⟩) hS.2.2 dLa_halfOf_282
  by_cases h14 : (sK xl.toNatClampNeg) = 14
  · refine lv_tableIn (off := 236) (tgt := 279) hx hb dLa_halfOf_43 (by rw [h14]; decide) (by rw [h14]; decide) (by rw [h14]; rfl) (by decide) ?_
    refine lv_sipush (v := 18112) hx hb dLa_halfOf_279 (by first | rfl | decide) ?_
    have e9 : FLa_halfOf xl tl tc sK sA sB sC sL = 18112 := by simp only [FLa_halfOf, if_neg h1, if_neg h2, if_neg h3, if_neg h4, if_neg h5, if_neg h6, if_neg h7, if_neg h8, if_neg h9, if_neg h10, if_neg h11, if_neg h12, if_neg h13, if_pos h14]
    exact W.iret (v := 18112) hx hb hr (fun t ht hW => ⟨⟨18112, (), rfl, (by show _ = _; rw [e9]), by rw [ht]; exact hP, hD⟩, hS.F ht⟩) hS.2.2 dLa_halfOf_282
  by_cases h15 : (sK xl.toNatClampNeg) = 15
  · refine lv_tableIn (off := 233) (tgt := 276) hx hb dLa_halfOf_43 (by rw [h15]; decide) (by rw [h15]; decide) (by rw [h15]; rfl) (by decide) ?_
    refine lv_ldc hx hb hown (hw _ wd_129) dLa_halfOf_276 ?_
    have e9 : FLa_halfOf xl tl tc sK sA sB sC sL = 48640 := by simp only [FLa_halfOf, if_neg h1, if_neg h2, if_neg h3, if_neg h4, if_neg h5, if_neg h6, if_neg h7, if_neg h8, if_neg h9, if_neg h10, if_neg h11, if_neg h12, if_neg h13, if_neg h14, if_pos h15]
    exact W.iret (v := 48640) hx hb hr (fun t ht hW => ⟨⟨48640, (), rfl, (by show _ = _; rw [e9]), by rw [ht]; exact hP, hD⟩, hS.F ht⟩) hS.2.2 dLa_halfOf_278
  have th1 := pq_ne (x := sK xl.toNatClampNeg) (k := 1) (y := 1) (by first | rfl | decide) h1
  have th2 := pq_ne (x := sK xl.toNatClampNeg) (k := 2) (y := 2) (by first | rfl | decide) h2
  have th3 := pq_ne (x := sK xl.toNatClampNeg) (k := 3) (y := 3) (by first | rfl | decide) h3
  have th4 := pq_ne (x := sK xl.toNatClampNeg) (k := 4) (y := 4) (by first | rfl | decide) h4
  have th5 := pq_ne (x := sK xl.toNatClampNeg) (k := 5) (y := 5) (by first | rfl | decide) h5
  have th6 := pq_ne (x := sK xl.toNatClampNeg) (k := 6) (y := 6) (by first | rfl | decide) h6
  have th7 := pq_ne (x := sK xl.toNatClampNeg) (k := 7) (y := 7) (by first | rfl | decide) h7
  have th8 := pq_ne (x := sK xl.toNatClampNeg) (k := 8) (y := 8) (by first | rfl | decide) h8
  have th9 := pq_ne (x := sK xl.toNatClampNeg) (k := 9) (y := 9) (by first | rfl | decide) h9
  have th10 := pq_ne (x := sK xl.toNatClampNeg) (k := 10) (y := 10) (by first | rfl | decide) h10
  have th11 := pq_ne (x := sK xl.toNatClampNeg) (k := 11) (y := 11) (by first | rfl | decide) h11
  have th12 := pq_ne (x := sK xl.toNatClampNeg) (k := 12) (y := 12) (by first | rfl | decide) h12
  have th13 := pq_ne (x := sK xl.toNatClampNeg) (k := 13) (y := 13) (by first | rfl | decide) h13
  have th14 := pq_ne (x := sK xl.toNatClampNeg) (k := 14) (y := 14) (by first | rfl | decide) h14
  have th15 := pq_ne (x := sK xl.toNatClampNeg) (k := 15) (y := 15) (by first | rfl | decide) h15
  refine lv_tableOut (tgt := 279) hx hb dLa_halfOf_43 (by omega) (by decide) ?_
  refine lv_sipush (v := 18112) hx hb dLa_halfOf_279 (by first | rfl | decide) ?_
  have e9 : FLa_halfOf xl tl tc sK sA sB sC sL = 18112 := by simp only [FLa_halfOf, if_neg h1, if_neg h2, if_neg h3, if_neg h4, if_neg h5, if_neg h6, if_neg h7, if_neg h8, if_neg h9, if_neg h10, if_neg h11, if_neg h12, if_neg h13, if_neg h14, if_neg h15]
  exact W.iret (v := 18112) hx hb hr (fun t ht hW => ⟨⟨18112, (), rfl, (by show _ = _; rw [e9]), by rw [ht]; exact hP, hD⟩, hS.F ht⟩) hS.2.2 dLa_halfOf_282
