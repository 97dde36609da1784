theorem wd_13 : Cond.fieldLink RSo 30 RSo "count" "I" ∈ pq_ws := pq_memT 45 (by decide +kernel) (by decide +kernel)
theorem wd_14 : Cond.fieldLink RSo 24 RSo "labelLines" "[I" ∈ pq_ws := pq_memT 44 (by decide +kernel) (by decide +kernel)
theorem wd_15 : Cond.fieldLink RSo 9 RSo "kinds" "[I" ∈ pq_ws := pq_memT 36 (by decide +kernel) (by decide +kernel)
theorem wd_16 : Cond.fieldLink RSo 15 RSo "firsts" "[I" ∈ pq_ws := pq_memT 38 (by decide +kernel) (by decide +kernel)
theorem wd_17 : Cond.fieldLink RSo 18 RSo "seconds" "[I" ∈ pq_ws := pq_memT 40 (by decide +kernel) (by decide +kernel)
theorem wd_18 : Cond.fieldLink RSo 21 RSo "thirds" "[I" ∈ pq_ws := pq_memT 42 (by decide +kernel) (by decide +kernel)
def FSo_hasRoom (sn : Int32) : Int32 := if 160 ≤ sn then 0 else 1
set_option maxRecDepth 20000 in
theorem b_So_hasRoom (sn : Int32) : narrow .boolean (.int (FSo_hasRoom sn)) = .int (FSo_hasRoom sn) := by
  unfold FSo_hasRoom
  repeat' (first | apply pq_bif | exact pq_b0 | exact pq_b1)
set_option maxHeartbeats 4000000 in
set_option maxRecDepth 100000 in
theorem k_So_hasRoom (l : Launch) (D : va_G) (ad : Nat → Nat) (cI cS : ClassId) (sn : Int32) (sK : Nat → Int32) (sA : Nat → Int32) (sB : Nat → Int32) (sC : Nat → Int32) (sL : Nat → Int32) : pq_I l ySo_hasRoom (.code ySo_hasRoom cSo_hasRoom 1 (some .boolean) :: pq_ws) { frames := 0, cells := 0, slots := 0, locals := 0 } D cI cS [.ref (ad 1)] (wS ad cI cS sn sK sA sB sC sL) (FSo_hasRoom sn) (wS ad cI cS sn sK sA sB sC sL) := by
  intro sz
  refine Met.ofW (cc := cSo_hasRoom) (maxL := 1) (ret := (some .boolean)) (by decide) rfl ?_
  intro p e s m args below meth c s₁ B hml hv
  obtain ⟨rfl, hsz, hP, hD0, hE⟩ := hv
  have hx := B.exec
  have hb := B.bytes
  have hr := B.returns
  have hts := atoms_spec (ws := (.code ySo_hasRoom cSo_hasRoom 1 (some .boolean) :: pq_ws : List Cond)) B.pre
  have hw : ∀ w ∈ pq_ws, w.before _ s = true := fun w h => hts w (List.mem_cons_of_mem _ h)
  have hown : s.vm.findClass RSo = some m.cls := findClass_of_methodNamed B.named
  have hlocks := B.notSynchronized
  subst hsz
  have hD := hD0.self (sz := s.heap.size)
  have hA : ∀ q : Nat, s.heap.size ≤ q → va_A (wS ad cI cS sn sK sA sB sC sL) s.heap.size q := fun q h => Or.inr h
  have hS : va_S (va_A (wS ad cI cS sn sK sA sB sC sL) s.heap.size) s.heap s.heap [] := va_S.rf
  have hl := lv_entry ([.ref (ad 1)] : List Value) (n := 1) (Nat.le_of_ble_eq_true rfl)
  rw [lg_entry_eq]
  generalize (lg_sl ([.ref (ad 1)] : List Value) ++ List.replicate (1 - (lg_sl ([.ref (ad 1)] : List Value)).length) Slot.unset).toArray = ls at hl ⊢
  have hl : lv_has ls 1 [(0, .ref (ad 1))] := hl
  refine lv_aload_n hx hb dSo_hasRoom_0 rfl (lv_at hl 0 rfl) ?_
  refine va_get (D := D) (ci := 3) (v := .int sn) (C := RSo) (T := TSo) (N := 6) hx hb hw pinSo hown hE.1 hP 0 rfl rfl 5 (by decide) (hw _ wd_13) (fun _ h9 => h9) rfl dSo_hasRoom_1 ?_
  refine lv_sipush (v := 160) hx hb dSo_hasRoom_4 (by first | rfl | decide) ?_
  refine lv_icmp_ge (tgt := 14) hx hb dSo_hasRoom_7 (by decide) (fun h1 => ?_) (fun h1 => ?_)
  · refine lv_iconst (v := 0) hx hb dSo_hasRoom_14 (by first | rfl | decide) ?_
    have e9 : FSo_hasRoom sn = 0 := by simp only [FSo_hasRoom, if_pos h1]
    exact W.zret (v := 0) hx hb hr rfl (fun t ht hW => ⟨⟨0, (), rfl, (by show _ = _; rw [e9]), by rw [ht]; exact hP, hD⟩, hS.F ht⟩) hS.2.2 dSo_hasRoom_15
  · refine lv_iconst (v := 1) hx hb dSo_hasRoom_10 (by first | rfl | decide) ?_
    refine lv_goto (tgt := 15) hx hb dSo_hasRoom_11 (by decide) ?_
    have e9 : FSo_hasRoom sn = 1 := by simp only [FSo_hasRoom, if_neg h1]
    exact W.zret (v := 1) hx hb hr rfl (fun t ht hW => ⟨⟨1, (), rfl, (by show _ = _; rw [e9]), by rw [ht]; exact hP, hD⟩, hS.F ht⟩) hS.2.2 dSo_hasRoom_15
def FSo_lineOfLabel (xa : Int32) (sL : Nat → Int32) : Int32 := if xa < 0 then (-1) else if 16 ≤ xa then (-1) else sL xa.toNatClampNeg
set_option maxHeartbeats 4000000 in
set_option maxRecDepth 100000 in
theorem k_So_lineOfLabel (l : Launch) (D : va_G) (ad : Nat → Nat) (cI cS : ClassId) (xa : Int32) (sn : Int32) (sK : Nat → Int32) (sA : Nat → Int32) (sB : Nat → Int32) (sC : Nat → Int32) (sL : Nat → Int32) : pq_I l ySo_lineOfLabel (.code ySo_lineOfLabel cSo_lineOfLabel 2 (some .int) :: pq_ws) { frames := 0, cells := 0, slots := 0, locals := 0 } D cI cS [.ref (ad 1), .int xa] (wS ad cI cS sn sK sA sB sC sL) (FSo_lineOfLabel xa sL) (wS ad cI cS sn sK sA sB sC sL) := by
  intro sz
  refine Met.ofW (cc := cSo_lineOfLabel) (maxL := 2) (ret := (some .int)) (by decide) rfl ?_
  intro p e s m args below meth c s₁ B hml hv
  obtain ⟨rfl, hsz, hP, hD0, hE⟩ := hv
  have hx := B.exec
  have hb := B.bytes
  have hr := B.returns
  have hts := atoms_spec (ws := (.code ySo_lineOfLabel cSo_lineOfLabel 2 (some .int) :: pq_ws : List Cond)) B.pre
  have hw : ∀ w ∈ pq_ws, w.before _ s = true := fun w h => hts w (List.mem_cons_of_mem _ h)
  have hown : s.vm.findClass RSo = some m.cls := findClass_of_methodNamed B.named
  have hlocks := B.notSynchronized
  subst hsz
  have hD := hD0.self (sz := s.heap.size)
  have hA : ∀ q : Nat, s.heap.size ≤ q → va_A (wS ad cI cS sn sK sA sB sC sL) s.heap.size q := fun q h => Or.inr h
  have hS : va_S (va_A (wS ad cI cS sn sK sA sB sC sL) s.heap.size) s.heap s.heap [] := va_S.rf
  have hl := lv_entry ([.ref (ad 1), .int xa] : List Value) (n := 2) (Nat.le_of_ble_eq_true rfl)
  rw [lg_entry_eq]
  generalize (lg_sl ([.ref (ad 1), .int xa] : List Value) ++ List.replicate (2 - (lg_sl ([.ref (ad 1), .int xa] : List Value)).length) Slot.unset).toArray = ls at hl ⊢
  have hl : lv_has ls 2 [(0, .ref (ad 1)), (1, .int xa)] := hl
  refine lv_iload_n hx hb dSo_lineOfLabel_0 rfl (lv_at hl 1 rfl) ?_
  refine lv_if_lt (tgt := 19) hx hb dSo_lineOfLabel_1 (by decide) (fun h1 => ?_) (fun h1 => ?_)
  · refine lv_iconst (v := (-1)) hx hb dSo_lineOfLabel_19 (by first | rfl | decide) ?_
    have e9 : FSo_lineOfLabel xa sL = (-1) := by simp only [FSo_lineOfLabel, if_pos h1]
    exact W.iret (v := (-1)) hx hb hr (fun t ht hW => ⟨⟨(-1), (), rfl, (by show _ = _; rw [e9]), by rw [ht]; exact hP, hD⟩, hS.F ht⟩) hS.2.2 dSo_lineOfLabel_20
  · refine lv_iload_n hx hb dSo_lineOfLabel_4 rfl (lv_at hl 1 rfl) ?_
    refine lv_bipush (v := 16) hx hb dSo_lineOfLabel_5 (by first | rfl | decide) ?_
    refine lv_icmp_ge (tgt := 19) hx hb dSo_lineOfLabel_7 (by decide) (fun h2 => ?_) (fun h2 => ?_)
    · refine lv_iconst (v := (-1)) hx hb dSo_lineOfLabel_19 (by first | rfl | decide) ?_
      have e9 : FSo_lineOfLabel xa sL = (-1) := by simp only [FSo_lineOfLabel, if_neg h1, if_pos h2]
      exact W.iret (v := (-1)) hx hb hr (fun t ht hW => ⟨⟨(-1), (), rfl, (by show _ = _; rw [e9]), by rw [ht]; exact hP, hD⟩, hS.F ht⟩) hS.2.2 dSo_lineOfLabel_20
    · refine lv_aload_n hx hb dSo_lineOfLabel_10 rfl (lv_at hl 0 rfl) ?_
      refine va_get (D := D) (ci := 3) (v := .ref (ad 9)) (C := RSo) (T := TSo) (N := 6) hx hb hw pinSo hown hE.1 hP 0 rfl rfl 4 (by decide) (hw _ wd_14) (fun _ h9 => h9) rfl dSo_lineOfLabel_11 ?_
      refine lv_iload_n hx hb dSo_lineOfLabel_14 rfl (lv_at hl 1 rfl) ?_
      refine va_iald hx hb hE.1 hP 5 0 rfl rfl (pq_inB (y := 16) (by assumption) (by assumption) (by decide)) dSo_lineOfLabel_15 ?_
      refine lv_goto (tgt := 20) hx hb dSo_lineOfLabel_16 (by decide) ?_
      have e9 : FSo_lineOfLabel xa sL = sL xa.toNatClampNeg := by simp only [FSo_lineOfLabel, if_neg h1, if_neg h2]
      exact W.iret (v := sL xa.toNatClampNeg) hx hb hr (fun t ht hW => ⟨⟨sL xa.toNatClampNeg, (), rfl, (by show _ = _; rw [e9]), by rw [ht]; exact hP, hD⟩, hS.F ht⟩) hS.2.2 dSo_lineOfLabel_20
def FSo_halvesOf (xl : Int32) (sK : Nat → Int32) (sA : Nat → Int32) : Int32 := if (sK xl.toNatClampNeg) = 0 then 0 else if (sK xl.toNatClampNeg) = 13 then sA xl.toNatClampNeg else if (sK xl.toNatClampNeg) = 14 then 0 else 1
set_option maxHeartbeats 4000000 in
set_option maxRecDepth 100000 in
theorem k_So_halvesOf (l : Launch) (D : va_G) (ad : Nat → Nat) (cI cS : ClassId) (xl : Int32) (sn : Int32) (sK : Nat → Int32) (sA : Nat → Int32) (sB : Nat → Int32) (sC : Nat → Int32) (sL : Nat → Int32) (hxl : vp_in xl 160) : pq_I l ySo_halvesOf (.code ySo_halvesOf cSo_halvesOf 2 (some .int) :: pq_ws) { frames := 0, cells := 0, slots := 0, locals := 0 } D cI cS [.ref (ad 1), .int xl] (wS ad cI cS sn sK sA sB sC sL) (FSo_halvesOf xl sK sA) (wS ad cI cS sn sK sA sB sC sL) := by
  intro sz
  refine Met.ofW (cc := cSo_halvesOf) (maxL := 2) (ret := (some .int)) (by decide) rfl ?_
  intro p e s m args below meth c s₁ B hml hv
  obtain ⟨rfl, hsz, hP, hD0, hE⟩ := hv
  have hx := B.exec
  have hb := B.bytes
  have hr := B.returns
  have hts := atoms_spec (ws := (.code ySo_halvesOf cSo_halvesOf 2 (some .int) :: pq_ws : List Cond)) B.pre
  have hw : ∀ w ∈ pq_ws, w.before _ s = true := fun w h => hts w (List.mem_cons_of_mem _ h)
  have hown : s.vm.findClass RSo = some m.cls := findClass_of_methodNamed B.named
  have hlocks := B.notSynchronized
  subst hsz
  have hD := hD0.self (sz := s.heap.size)
  have hA : ∀ q : Nat, s.heap.size ≤ q → va_A (wS ad cI cS sn sK sA sB sC sL) s.heap.size q := fun q h => Or.inr h
  have hS : va_S (va_A (wS ad cI cS sn sK sA sB sC sL) s.heap.size) s.heap s.heap [] := va_S.rf
  have hl := lv_entry ([.ref (ad 1), .int xl] : List Value) (n := 2) (Nat.le_of_ble_eq_true rfl)
  rw [lg_entry_eq]
  generalize (lg_sl ([.ref (ad 1), .int xl] : List Value) ++ List.replicate (2 - (lg_sl ([.ref (ad 1), .int xl] : List Value)).length) Slot.unset).toArray = ls at hl ⊢
  have hl : lv_has ls 2 [(0, .ref (ad 1)), (1, .int xl)] := hl
  refine lv_aload_n hx hb dSo_halvesOf_0 rfl (lv_at hl 0 rfl) ?_
  refine va_get (D := D) (ci := 3) (v := .ref (ad 5)) (C := RSo) (T := TSo) (N := 6) hx hb hw pinSo hown hE.1 hP 0 rfl rfl 0 (by decide) (hw _ wd_15) (fun _ h9 => h9) rfl dSo_halvesOf_1 ?_
  refine lv_iload_n hx hb dSo_halvesOf_4 rfl (lv_at hl 1 rfl) ?_
  refine va_iald hx hb hE.1 hP 1 0 rfl rfl hxl dSo_halvesOf_5 ?_
  by_cases h1 : (sK xl.toNatClampNeg) = 0
  · refine lv_lookup (off := 34) (tgt := 40) hx hb dSo_halvesOf_6 (by decide) (by rw [h1]; rfl) (by decide) ?_
    refine lv_iconst (v := 0) hx hb dSo_halvesOf_40 (by first | rfl | decide) ?_
    have e9 : FSo_halvesOf xl sK sA = 0 := by simp only [FSo_halvesOf, if_pos h1]
    exact W.iret (v := 0) hx hb hr (fun t ht hW => ⟨⟨0, (), rfl, (by show _ = _; rw [e9]), by rw [ht]; exact hP, hD⟩, hS.F ht⟩) hS.2.2 dSo_halvesOf_41
  by_cases h2 : (sK xl.toNatClampNeg) = 13
  · refine lv_lookup (off := 36) (tgt := 42) hx hb dSo_halvesOf_6 (by decide) (by rw [h2]; rfl) (by decide) ?_
    refine lv_aload_n hx hb dSo_halvesOf_42 rfl (lv_at hl 0 rfl) ?_
    refine va_get (D := D) (ci := 3) (v := .ref (ad 6)) (C := RSo) (T := TSo) (N := 6) hx hb hw pinSo hown hE.1 hP 0 rfl rfl 1 (by decide) (hw _ wd_16) (fun _ h9 => h9) rfl dSo_halvesOf_43 ?_
    refine lv_iload_n hx hb dSo_halvesOf_46 rfl (lv_at hl 1 rfl) ?_
    refine va_iald hx hb hE.1 hP 2 0 rfl rfl hxl dSo_halvesOf_47 ?_
    have e9 : FSo_halvesOf xl sK sA = sA xl.toNatClampNeg := by simp only [FSo_halvesOf, if_neg h1, if_pos h2]
    exact W.iret (v := sA xl.toNatClampNeg) hx hb hr (fun t ht hW => ⟨⟨sA xl.toNatClampNeg, (), rfl, (by show _ = _; rw [e9]), by rw [ht]; exact hP, hD⟩, hS.F ht⟩) hS.2.2 dSo_halvesOf_48
  by_cases h3 : (sK xl.toNatClampNeg) = 14
  · refine lv_lookup (off := 34) (tgt := 40) hx hb dSo_halvesOf_6 (by decide) (by rw [h3]; rfl) (by decide) ?_
    refine lv_iconst (v := 0) hx hb dSo_halvesOf_40 (by first | rfl | decide) ?_
    have e9 : FSo_halvesOf xl sK sA = 0 := by simp only [FSo_halvesOf, if_neg h1, if_neg h2, if_pos h3]
    exact W.iret (v := 0) hx hb hr (fun t ht hW => ⟨⟨0, (), rfl, (by show _ = _; rw [e9]), by rw [ht]; exact hP, hD⟩, hS.F ht⟩) hS.2.2 dSo_halvesOf_41
  have th1 := pq_ne (x := sK xl.toNatClampNeg) (k := 0) (y := 0) (by first | rfl | decide) h1
  have th2 := pq_ne (x := sK xl.toNatClampNeg) (k := 13) (y := 13) (by first | rfl | decide) h2
  have th3 := pq_ne (x := sK xl.toNatClampNeg) (k := 14) (y := 14) (by first | rfl | decide) h3
  refine lv_lookup (off := 43) (tgt := 49) hx hb dSo_halvesOf_6 (by decide) (by simp [Op.lookupswitch.offset, th1, th2, th3, Ne.symm th1, Ne.symm th2, Ne.symm th3]) (by decide) ?_
  refine lv_iconst (v := 1) hx hb dSo_halvesOf_49 (by first | rfl | decide) ?_
  have e9 : FSo_halvesOf xl sK sA = 1 := by simp only [FSo_halvesOf, if_neg h1, if_neg h2, if_neg h3]
  exact W.iret (v := 1) hx hb hr (fun t ht hW => ⟨⟨1, (), rfl, (by show _ = _; rw [e9]), by rw [ht]; exact hP, hD⟩, hS.F ht⟩) hS.2.2 dSo_halvesOf_50
def FSo_append (xk : Int32) (xa : Int32) (xb : Int32) (xc : Int32) (sn : Int32) (sK : Nat → Int32) (sA : Nat → Int32) (sB : Nat → Int32) (sC : Nat → Int32) (sL : Nat → Int32) : Int32 × (Nat → Int32) × (Nat → Int32) × (Nat → Int32) × (Nat → Int32) × (Nat → Int32) × Int32 := if xk = 0 then (sn, upd sK sn.toNatClampNeg xk, upd sA sn.toNatClampNeg xa, upd sB sn.toNatClampNeg xb, upd sC sn.toNatClampNeg xc, upd sL xa.toNatClampNeg sn, sn + 1) else (sn, upd sK sn.toNatClampNeg xk, upd sA sn.toNatClampNeg xa, upd sB sn.toNatClampNeg xb, upd sC sn.toNatClampNeg xc, sL, sn + 1)
set_option maxHeartbeats 4000000 in
set_option maxRecDepth 100000 in
theorem k_So_append (l : Launch) (D : va_G) (ad : Nat → Nat) (cI cS : ClassId) (xk : Int32) (xa : Int32) (xb : Int32) (xc : Int32) (sn : Int32) (sK : Nat → Int32) (sA : Nat → Int32) (sB : Nat → Int32) (sC : Nat → Int32) (sL : Nat → Int32) (hsn : vp_in sn 160) (hxa : xk = 0 → vp_in xa 16) : pq_I l ySo_append (.code ySo_append cSo_append 6 (some .int) :: pq_ws) { frames := 0, cells := 0, slots := 0, locals := 0 } D cI cS [.ref (ad 1), .int xk, .int xa, .int xb, .int xc] (wS ad cI cS sn sK sA sB sC sL) ((FSo_append xk xa xb xc sn sK sA sB sC sL).1) (wS ad cI cS ((FSo_append xk xa xb xc sn sK sA sB sC sL).2.2.2.2.2.2) ((FSo_append xk xa xb xc sn sK sA sB sC sL).2.1) ((FSo_append xk xa xb xc sn sK sA sB sC sL).2.2.1) ((FSo_append xk xa xb xc sn sK sA sB sC sL).2.2.2.1) ((FSo_append xk xa xb xc sn sK sA sB sC sL).2.2.2.2.1) ((FSo_append xk xa xb xc sn sK sA sB sC sL).2.2.2.2.2.1)) := by
  intro sz
  refine Met.ofW (cc := cSo_append) (maxL := 6) (ret := (some .int)) (by decide) rfl ?_
  intro p e s m args below meth c s₁ B hml hv
  obtain ⟨rfl, hsz, hP, hD0, hE⟩ := hv
  have hx := B.exec
  have hb := B.bytes
  have hr := B.returns
  have hts := atoms_spec (ws := (.code ySo_append cSo_append 6 (some .int) :: pq_ws : List Cond)) B.pre
  have hw : ∀ w ∈ pq_ws, w.before _ s = true := fun w h => hts w (List.mem_cons_of_mem _ h)
  have hown : s.vm.findClass RSo = some m.cls := findClass_of_methodNamed B.named
  have hlocks := B.notSynchronized
  subst hsz
  have hD := hD0.self (sz := s.heap.size)
  have hA : ∀ q : Nat, s.heap.size ≤ q → va_A (wS ad cI cS sn sK sA sB sC sL) s.heap.size q := fun q h => Or.inr h
  have hS : va_S (va_A (wS ad cI cS sn sK sA sB sC sL) s.heap.size) s.heap s.heap [] := va_S.rf
  have hl := lv_entry ([.ref (ad 1), .int xk, .int xa, .int xb, .int xc] : List Value) (n := 6) (Nat.le_of_ble_eq_true rfl)
  rw [lg_entry_eq]
  generalize (lg_sl ([.ref (ad 1), .int xk, .int xa, .int xb, .int xc] : List Value) ++ List.replicate (6 - (lg_sl ([.ref (ad 1), .int xk, .int xa, .int xb, .int xc] : List Value)).length) Slot.unset).toArray = ls at hl ⊢
  have hl : lv_has ls 6 [(0, .ref (ad 1)), (1, .int xk), (2, .int xa), (3, .int xb), (4, .int xc)] := hl
  refine lv_aload_n hx hb dSo_append_0 rfl (lv_at hl 0 rfl) ?_
  refine va_get (D := D) (ci := 3) (v := .int sn) (C := RSo) (T := TSo) (N := 6) hx hb hw pinSo hown hE.1 hP 0 rfl rfl 5 (by decide) (hw _ wd_13) (fun _ h9 => h9) rfl dSo_append_1 ?_
  refine lv_istore (lv' := [(5, .int sn), (0, .ref (ad 1)), (1, .int xk), (2, .int xa), (3, .int xb), (4, .int xc)]) hx hb dSo_append_4 hl (by decide) rfl (fun ls hl => ?_)
  refine lv_aload_n hx hb dSo_append_6 rfl (lv_at hl 1 rfl) ?_
  refine va_get (D := D) (ci := 3) (v := .ref (ad 5)) (C := RSo) (T := TSo) (N := 6) hx hb hw pinSo hown hE.1 hP 0 rfl rfl 0 (by decide) (hw _ wd_15) (fun _ h9 => h9) rfl dSo_append_7 ?_
  refine lv_iload hx hb dSo_append_10 (lv_at hl 0 rfl) ?_
  refine lv_iload_n hx hb dSo_append_12 rfl (lv_at hl 2 rfl) ?_
  refine va_iast hx hb hE.1 hP hD hS 1 0 rfl rfl hsn dSo_append_13 (fun H locs hP hD hS => ?_)
  have hP : va_P D vwCl (wS ad cI cS sn (upd sK sn.toNatClampNeg xk) sA sB sC sL) H := hP
  have hD : va_D _ (wS ad cI cS sn (upd sK sn.toNatClampNeg xk) sA sB sC sL) := hD
  refine lv_aload_n hx hb dSo_append_14 rfl (lv_at hl 1 rfl) ?_
  refine va_get (D := D) (ci := 3) (v := .ref (ad 6)) (C := RSo) (T := TSo) (N := 6) hx hb hw pinSo hown hE.1 hP 0 rfl rfl 1 (by decide) (hw _ wd_16) (fun _ h9 => h9) rfl dSo_append_15 ?_
  refine lv_iload hx hb dSo_append_18 (lv_at hl 0 rfl) ?_
  refine lv_iload_n hx hb dSo_append_20 rfl (lv_at hl 3 rfl) ?_
  refine va_iast hx hb hE.1 hP hD hS 2 0 rfl rfl hsn dSo_append_21 (fun H locs hP hD hS => ?_)
  have hP : va_P D vwCl (wS ad cI cS sn (upd sK sn.toNatClampNeg xk) (upd sA sn.toNatClampNeg xa) sB sC sL) H := hP
  have hD : va_D _ (wS ad cI cS sn (upd sK sn.toNatClampNeg xk) (upd sA sn.toNatClampNeg xa) sB sC sL) := hD
  refine lv_aload_n hx hb dSo_append_22 rfl (lv_at hl 1 rfl) ?_
  refine va_get (D := D) (ci := 3) (v := .ref (ad 7)) (C := RSo) (T := TSo) (N := 6) hx hb hw pinSo hown hE.1 hP 0 rfl rfl 2 (by decide) (hw _ wd_17) (fun _ h9 => h9) rfl dSo_append_23 ?_
  refine lv_iload hx hb dSo_append_26 (lv_at hl 0 rfl) ?_
  refine lv_iload_n hx hb dSo_append_28 rfl (lv_at hl 4 rfl) ?_
  refine va_iast hx hb hE.1 hP hD hS 3 0 rfl rfl hsn dSo_append_29 (fun H locs hP hD hS => ?_)
  have hP : va_P D vwCl (wS ad cI cS sn (upd sK sn.toNatClampNeg xk) (upd sA sn.toNatClampNeg xa) (upd sB sn.toNatClampNeg xb) sC sL) H := hP
  have hD : va_D _ (wS ad cI cS sn (upd sK sn.toNatClampNeg xk) (upd sA sn.toNatClampNeg xa) (upd sB sn.toNatClampNeg xb) sC sL) := hD
  refine lv_aload_n hx hb dSo_append_30 rfl (lv_at hl 1 rfl) ?_
  refine va_get (D := D) (ci := 3) (v := .ref (ad 8)) (C := RSo) (T := TSo) (N := 6) hx hb hw pinSo hown hE.1 hP 0 rfl rfl 3 (by decide) (hw _ wd_18) (fun _ h9 => h9) rfl dSo_append_31 ?_
  refine lv_iload hx hb dSo_append_34 (lv_at hl 0 rfl) ?_
  refine lv_iload hx hb dSo_append_36 (lv_at hl 5 rfl) ?_
  refine va_iast hx hb hE.1 hP hD hS 4 0 rfl rfl hsn dSo_append_38 (fun H locs hP hD hS => ?_)
  have hP : va_P D vwCl (wS ad cI cS sn (upd sK sn.toNatClampNeg xk) (upd sA sn.toNatClampNeg xa) (upd sB sn.toNatClampNeg xb) (upd sC sn.toNatClampNeg xc) sL) H := hP
  have hD : va_D _ (wS ad cI cS sn (upd sK sn.toNatClampNeg xk) (upd sA sn.toNatClampNeg xa) (upd sB sn.toNatClampNeg xb) (upd sC sn.toNatClampNeg xc) sL) := hD
  refine lv_iload_n hx hb dSo_append_39 rfl (lv_at hl 2 rfl) ?_
  refine lv_if_ne (tgt := 51) hx hb dSo_append_40 (by decide) (fun h1 => ?_) (fun h1 => ?_)
  · refine lv_aload_n hx hb dSo_append_51 rfl (lv_at hl 1 rfl) ?_
    refine lv_iload hx hb dSo_append_52 (lv_at hl 0 rfl) ?_
    refine lv_iconst (v := 1) hx hb dSo_append_54 (by first | rfl | decide) ?_
    refine lv_iadd hx hb dSo_append_55 ?_
    refine va_put (D := D) (ci := 3) (v := .int (sn + 1)) (ty := .int) (C := RSo) (T := TSo) (N := 6) hx hb hw pinSo tySo tySo_ok nmSo hown hE.1 hP hD hS 0 rfl rfl 5 (by decide) (hw _ wd_13) (fun _ h9 => h9) rfl (by decide +kernel) rfl rfl (Nat.le_of_ble_eq_true rfl) dSo_append_56 (fun H locs hP hD hS => ?_)
    have hP : va_P D vwCl (wS ad cI cS (sn + 1) (upd sK sn.toNatClampNeg xk) (upd sA sn.toNatClampNeg xa) (upd sB sn.toNatClampNeg xb) (upd sC sn.toNatClampNeg xc) sL) H := hP
    have hD : va_D _ (wS ad cI cS (sn + 1) (upd sK sn.toNatClampNeg xk) (upd sA sn.toNatClampNeg xa) (upd sB sn.toNatClampNeg xb) (upd sC sn.toNatClampNeg xc) sL) := hD
    refine lv_iload hx hb dSo_append_59 (lv_at hl 0 rfl) ?_
    have e9 : FSo_append xk xa xb xc sn sK sA sB sC sL = (sn, upd sK sn.toNatClampNeg xk, upd sA sn.toNatClampNeg xa, upd sB sn.toNatClampNeg xb, upd sC sn.toNatClampNeg xc, sL, sn + 1) := by simp only [FSo_append, if_neg h1]
    exact W.iret (v := sn) hx hb hr (fun t ht hW => ⟨⟨sn, (), rfl, (by show _ = _; rw [e9]), by rw [e9, ht]; exact hP, by rw [e9]; exact hD⟩, hS.F ht⟩) hS.2.2 dSo_append_61
  · refine lv_aload_n hx hb dSo_append_43 rfl (lv_at hl 1 rfl) ?_
    refine va_get (D := D) (ci := 3) (v := .ref (ad 9)) (C := RSo) (T := TSo) (N := 6) hx hb hw pinSo hown hE.1 hP 0 rfl rfl 4 (by decide) (hw _ wd_14) (fun _ h9 => h9) rfl dSo_append_44 ?_
    refine lv_iload_n hx hb dSo_append_47 rfl (lv_at hl 3 rfl) ?_
    refine lv_iload hx hb dSo_append_48 (lv_at hl 0 rfl) ?_
    refine va_iast hx hb hE.1 hP hD hS 5 0 rfl rfl (hxa (by assumption)) dSo_append_50 (fun H locs hP hD hS => ?_)
    have hP : va_P D vwCl (wS ad cI cS sn (upd sK sn.toNatClampNeg xk) (upd sA sn.toNatClampNeg xa) (upd sB sn.toNatClampNeg xb) (upd sC sn.toNatClampNeg xc) (upd sL xa.toNatClampNeg sn)) H := hP
    have hD : va_D _ (wS ad cI cS sn (upd sK sn.toNatClampNeg xk) (upd sA sn.toNatClampNeg xa) (upd sB sn.toNatClampNeg xb) (upd sC sn.toNatClampNeg xc) (upd sL xa.toNatClampNeg sn)) := hD
    refine lv_aload_n hx hb dSo_append_51 rfl (lv_at hl 1 rfl) ?_
    refine lv_iload hx hb dSo_append_52 (lv_at hl 0 rfl) ?_
    refine lv_iconst (v := 1) hx hb dSo_append_54 (by first | rfl | decide) ?_
    refine lv_iadd hx hb dSo_append_55 ?_
    refine va_put (D := D) (ci := 3) (v := .int (sn + 1)) (ty := .int) (C := RSo) (T := TSo) (N := 6) hx hb hw pinSo tySo tySo_ok nmSo hown hE.1 hP hD hS 0 rfl rfl 5 (by decide) (hw _ wd_13) (fun _ h9 => h9) rfl (by decide +kernel) rfl rfl (Nat.le_of_ble_eq_true rfl) dSo_append_56 (fun H locs hP hD hS => ?_)
    have hP : va_P D vwCl (wS ad cI cS (sn + 1) (upd sK sn.toNatClampNeg xk) (upd sA sn.toNatClampNeg xa) (upd sB sn.toNatClampNeg xb) (upd sC sn.toNatClampNeg xc) (upd sL xa.toNatClampNeg sn)) H := hP
    have hD : va_D _ (wS ad cI cS (sn + 1) (upd sK sn.toNatClampNeg xk) (upd sA sn.toNatClampNeg xa) (upd sB sn.toNatClampNeg xb) (upd sC sn.toNatClampNeg xc) (upd sL xa.toNatClampNeg sn)) := hD
    refine lv_iload hx hb dSo_append_59 (lv_at hl 0 rfl) ?_
    have e9 : FSo_append xk xa xb xc sn sK sA sB sC sL = (sn, upd sK sn.toNatClampNeg xk, upd sA sn.toNatClampNeg xa, upd sB sn.toNatClampNeg xb, upd sC sn.toNatClampNeg xc, upd sL xa.toNatClampNeg sn, sn + 1) := by simp only [FSo_append, if_pos h1]
    exact W.iret (v := sn) hx hb hr (fun t ht hW => ⟨⟨sn, (), rfl, (by show _ = _; rw [e9]), by rw [e9, ht]; exact hP, by rw [e9]; exact hD⟩, hS.F ht⟩) hS.2.2 dSo_append_61
theorem pq_lol {xa : Int32} {sL : Nat → Int32} (h : ∀ j : Nat, j < 16 → ¬ sL j = (-1) → vp_in (sL j) 160) (hn : ¬ FSo_lineOfLabel xa sL = (-1)) : vp_in (FSo_lineOfLabel xa sL) 160 := by
  unfold FSo_lineOfLabel at hn ⊢
  split at hn
  · exact absurd rfl hn
  · rename_i h1
    rw [if_neg h1]
    split at hn
    · exact absurd rfl hn
    · rename_i h2
      rw [if_neg h2]
      obtain ⟨j, hj, rfl⟩ := vp_in_of (pq_inB (N := 16) h1 h2 (by decide)) (by decide)
      rw [nI_clamp (by omega)] at hn ⊢
      exact h j hj hn
