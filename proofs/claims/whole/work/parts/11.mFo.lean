theorem wd_0 : Cond.code yFo_isLabel cFo_isLabel 1 (some .boolean) ∈ pq_ws := pq_memT 229 (by decide +kernel) (by decide +kernel)
theorem wd_1 : Cond.initialized RFo ∈ pq_ws := pq_memT 8 (by decide +kernel) (by decide +kernel)
theorem wd_2 : Cond.methodLink RFo 9 yFo_isLabel ∈ pq_ws := pq_memT 227 (by decide +kernel) (by decide +kernel)
theorem wd_3 : Cond.static yFo_isLabel ∈ pq_ws := pq_memT 228 (by decide +kernel) (by decide +kernel)
theorem wd_4 : Cond.code yFo_isRegister cFo_isRegister 1 (some .boolean) ∈ pq_ws := pq_memT 232 (by decide +kernel) (by decide +kernel)
theorem wd_5 : Cond.methodLink RFo 15 yFo_isRegister ∈ pq_ws := pq_memT 230 (by decide +kernel) (by decide +kernel)
theorem wd_6 : Cond.static yFo_isRegister ∈ pq_ws := pq_memT 231 (by decide +kernel) (by decide +kernel)
theorem wd_7 : Cond.code yFo_isWork cFo_isWork 1 (some .boolean) ∈ pq_ws := pq_memT 235 (by decide +kernel) (by decide +kernel)
theorem wd_8 : Cond.methodLink RFo 18 yFo_isWork ∈ pq_ws := pq_memT 233 (by decide +kernel) (by decide +kernel)
theorem wd_9 : Cond.static yFo_isWork ∈ pq_ws := pq_memT 234 (by decide +kernel) (by decide +kernel)
theorem wd_10 : Cond.code yFo_isCondition cFo_isCondition 1 (some .boolean) ∈ pq_ws := pq_memT 238 (by decide +kernel) (by decide +kernel)
theorem wd_11 : Cond.methodLink RFo 21 yFo_isCondition ∈ pq_ws := pq_memT 236 (by decide +kernel) (by decide +kernel)
theorem wd_12 : Cond.static yFo_isCondition ∈ pq_ws := pq_memT 237 (by decide +kernel) (by decide +kernel)
def FFo_isLabel (xa : Int32) : Int32 := if xa < 0 then 0 else if 16 ≤ xa then 0 else 1
set_option maxRecDepth 20000 in
theorem b_Fo_isLabel (xa : Int32) : narrow .boolean (.int (FFo_isLabel xa)) = .int (FFo_isLabel xa) := by
  unfold FFo_isLabel
  repeat' (first | apply pq_bif | exact pq_b0 | exact pq_b1)
set_option maxHeartbeats 4000000 in
set_option maxRecDepth 100000 in
theorem k_Fo_isLabel (l : Launch) (D : va_G) (ad : Nat → Nat) (cI cS : ClassId) (xa : Int32) : pq_I l yFo_isLabel (.code yFo_isLabel cFo_isLabel 1 (some .boolean) :: pq_ws) { frames := 0, cells := 0, slots := 0, locals := 0 } D cI cS [.int xa] (wN ad cI cS) (FFo_isLabel xa) (wN ad cI cS) := by
  intro sz
  refine Met.ofW (cc := cFo_isLabel) (maxL := 1) (ret := (some .boolean)) (by decide) rfl ?_
  intro p e s m args below meth c s₁ B hml hv
  obtain ⟨rfl, hsz, hP, hD0, hE⟩ := hv
  have hx := B.exec
  have hb := B.bytes
  have hr := B.returns
  have hts := atoms_spec (ws := (.code yFo_isLabel cFo_isLabel 1 (some .boolean) :: pq_ws : List Cond)) B.pre
  have hw : ∀ w ∈ pq_ws, w.before _ s = true := fun w h => hts w (List.mem_cons_of_mem _ h)
  have hown : s.vm.findClass RFo = some m.cls := findClass_of_methodNamed B.named
  have hlocks := B.notSynchronized
  subst hsz
  have hD := hD0.self (sz := s.heap.size)
  have hA : ∀ q : Nat, s.heap.size ≤ q → va_A (wN ad cI cS) s.heap.size q := fun q h => Or.inr h
  have hS : va_S (va_A (wN ad cI cS) s.heap.size) s.heap s.heap [] := va_S.rf
  have hl := lv_entry ([.int xa] : List Value) (n := 1) (Nat.le_of_ble_eq_true rfl)
  rw [lg_entry_eq]
  generalize (lg_sl ([.int xa] : List Value) ++ List.replicate (1 - (lg_sl ([.int xa] : List Value)).length) Slot.unset).toArray = ls at hl ⊢
  have hl : lv_has ls 1 [(0, .int xa)] := hl
  refine lv_iload_n hx hb dFo_isLabel_0 rfl (lv_at hl 0 rfl) ?_
  refine lv_if_lt (tgt := 14) hx hb dFo_isLabel_1 (by decide) (fun h1 => ?_) (fun h1 => ?_)
  · refine lv_iconst (v := 0) hx hb dFo_isLabel_14 (by first | rfl | decide) ?_
    have e9 : FFo_isLabel xa = 0 := by simp only [FFo_isLabel, if_pos h1]
    exact W.zret (v := 0) hx hb hr rfl (fun t ht hW => ⟨⟨0, (), rfl, (by show _ = _; rw [e9]), by rw [ht]; exact hP, hD⟩, hS.F ht⟩) hS.2.2 dFo_isLabel_15
  · refine lv_iload_n hx hb dFo_isLabel_4 rfl (lv_at hl 0 rfl) ?_
    refine lv_bipush (v := 16) hx hb dFo_isLabel_5 (by first | rfl | decide) ?_
    refine lv_icmp_ge (tgt := 14) hx hb dFo_isLabel_7 (by decide) (fun h2 => ?_) (fun h2 => ?_)
    · refine lv_iconst (v := 0) hx hb dFo_isLabel_14 (by first | rfl | decide) ?_
      have e9 : FFo_isLabel xa = 0 := by simp only [FFo_isLabel, if_neg h1, if_pos h2]
      exact W.zret (v := 0) hx hb hr rfl (fun t ht hW => ⟨⟨0, (), rfl, (by show _ = _; rw [e9]), by rw [ht]; exact hP, hD⟩, hS.F ht⟩) hS.2.2 dFo_isLabel_15
    · refine lv_iconst (v := 1) hx hb dFo_isLabel_10 (by first | rfl | decide) ?_
      refine lv_goto (tgt := 15) hx hb dFo_isLabel_11 (by decide) ?_
      have e9 : FFo_isLabel xa = 1 := by simp only [FFo_isLabel, if_neg h1, if_neg h2]
      exact W.zret (v := 1) hx hb hr rfl (fun t ht hW => ⟨⟨1, (), rfl, (by show _ = _; rw [e9]), by rw [ht]; exact hP, hD⟩, hS.F ht⟩) hS.2.2 dFo_isLabel_15
def FFo_isRegister (xa : Int32) : Int32 := if xa < 0 then 0 else if 8 ≤ xa then 0 else 1
set_option maxRecDepth 20000 in
theorem b_Fo_isRegister (xa : Int32) : narrow .boolean (.int (FFo_isRegister xa)) = .int (FFo_isRegister xa) := by
  unfold FFo_isRegister
  repeat' (first | apply pq_bif | exact pq_b0 | exact pq_b1)
set_option maxHeartbeats 4000000 in
set_option maxRecDepth 100000 in
theorem k_Fo_isRegister (l : Launch) (D : va_G) (ad : Nat → Nat) (cI cS : ClassId) (xa : Int32) : pq_I l yFo_isRegister (.code yFo_isRegister cFo_isRegister 1 (some .boolean) :: pq_ws) { frames := 0, cells := 0, slots := 0, locals := 0 } D cI cS [.int xa] (wN ad cI cS) (FFo_isRegister xa) (wN ad cI cS) := by
  intro sz
  refine Met.ofW (cc := cFo_isRegister) (maxL := 1) (ret := (some .boolean)) (by decide) rfl ?_
  intro p e s m args below meth c s₁ B hml hv
  obtain ⟨rfl, hsz, hP, hD0, hE⟩ := hv
  have hx := B.exec
  have hb := B.bytes
  have hr := B.returns
  have hts := atoms_spec (ws := (.code yFo_isRegister cFo_isRegister 1 (some .boolean) :: pq_ws : List Cond)) B.pre
  have hw : ∀ w ∈ pq_ws, w.before _ s = true := fun w h => hts w (List.mem_cons_of_mem _ h)
  have hown : s.vm.findClass RFo = some m.cls := findClass_of_methodNamed B.named
  have hlocks := B.notSynchronized
  subst hsz
  have hD := hD0.self (sz := s.heap.size)
  have hA : ∀ q : Nat, s.heap.size ≤ q → va_A (wN ad cI cS) s.heap.size q := fun q h => Or.inr h
  have hS : va_S (va_A (wN ad cI cS) s.heap.size) s.heap s.heap [] := va_S.rf
  have hl := lv_entry ([.int xa] : List Value) (n := 1) (Nat.le_of_ble_eq_true rfl)
  rw [lg_entry_eq]
  generalize (lg_sl ([.int xa] : List Value) ++ List.replicate (1 - (lg_sl ([.int xa] : List Value)).length) Slot.unset).toArray = ls at hl ⊢
  have hl : lv_has ls 1 [(0, .int xa)] := hl
  refine lv_iload_n hx hb dFo_isRegister_0 rfl (lv_at hl 0 rfl) ?_
  refine lv_if_lt (tgt := 14) hx hb dFo_isRegister_1 (by decide) (fun h1 => ?_) (fun h1 => ?_)
  · refine lv_iconst (v := 0) hx hb dFo_isRegister_14 (by first | rfl | decide) ?_
    have e9 : FFo_isRegister xa = 0 := by simp only [FFo_isRegister, if_pos h1]
    exact W.zret (v := 0) hx hb hr rfl (fun t ht hW => ⟨⟨0, (), rfl, (by show _ = _; rw [e9]), by rw [ht]; exact hP, hD⟩, hS.F ht⟩) hS.2.2 dFo_isRegister_15
  · refine lv_iload_n hx hb dFo_isRegister_4 rfl (lv_at hl 0 rfl) ?_
    refine lv_bipush (v := 8) hx hb dFo_isRegister_5 (by first | rfl | decide) ?_
    refine lv_icmp_ge (tgt := 14) hx hb dFo_isRegister_7 (by decide) (fun h2 => ?_) (fun h2 => ?_)
    · refine lv_iconst (v := 0) hx hb dFo_isRegister_14 (by first | rfl | decide) ?_
      have e9 : FFo_isRegister xa = 0 := by simp only [FFo_isRegister, if_neg h1, if_pos h2]
      exact W.zret (v := 0) hx hb hr rfl (fun t ht hW => ⟨⟨0, (), rfl, (by show _ = _; rw [e9]), by rw [ht]; exact hP, hD⟩, hS.F ht⟩) hS.2.2 dFo_isRegister_15
    · refine lv_iconst (v := 1) hx hb dFo_isRegister_10 (by first | rfl | decide) ?_
      refine lv_goto (tgt := 15) hx hb dFo_isRegister_11 (by decide) ?_
      have e9 : FFo_isRegister xa = 1 := by simp only [FFo_isRegister, if_neg h1, if_neg h2]
      exact W.zret (v := 1) hx hb hr rfl (fun t ht hW => ⟨⟨1, (), rfl, (by show _ = _; rw [e9]), by rw [ht]; exact hP, hD⟩, hS.F ht⟩) hS.2.2 dFo_isRegister_15
def FFo_isWork (xa : Int32) : Int32 := if xa = 0 then 1 else if xa = 1 then 1 else if xa = 10 then 1 else if xa < 12 then 0 else if 15 < xa then 0 else 1
set_option maxRecDepth 20000 in
theorem b_Fo_isWork (xa : Int32) : narrow .boolean (.int (FFo_isWork xa)) = .int (FFo_isWork xa) := by
  unfold FFo_isWork
  repeat' (first | apply pq_bif | exact pq_b0 | exact pq_b1)
set_option maxHeartbeats 4000000 in
set_option maxRecDepth 100000 in
theorem k_Fo_isWork (l : Launch) (D : va_G) (ad : Nat → Nat) (cI cS : ClassId) (xa : Int32) : pq_I l yFo_isWork (.code yFo_isWork cFo_isWork 1 (some .boolean) :: pq_ws) { frames := 0, cells := 0, slots := 0, locals := 0 } D cI cS [.int xa] (wN ad cI cS) (FFo_isWork xa) (wN ad cI cS) := by
  intro sz
  refine Met.ofW (cc := cFo_isWork) (maxL := 1) (ret := (some .boolean)) (by decide) rfl ?_
  intro p e s m args below meth c s₁ B hml hv
  obtain ⟨rfl, hsz, hP, hD0, hE⟩ := hv
  have hx := B.exec
  have hb := B.bytes
  have hr := B.returns
  have hts := atoms_spec (ws := (.code yFo_isWork cFo_isWork 1 (some .boolean) :: pq_ws : List Cond)) B.pre
  have hw : ∀ w ∈ pq_ws, w.before _ s = true := fun w h => hts w (List.mem_cons_of_mem _ h)
  have hown : s.vm.findClass RFo = some m.cls := findClass_of_methodNamed B.named
  have hlocks := B.notSynchronized
  subst hsz
  have hD := hD0.self (sz := s.heap.size)
  have hA : ∀ q : Nat, s.heap.size ≤ q → va_A (wN ad cI cS) s.heap.size q := fun q h => Or.inr h
  have hS : va_S (va_A (wN ad cI cS) s.heap.size) s.heap s.heap [] := va_S.rf
  have hl := lv_entry ([.int xa] : List Value) (n := 1) (Nat.le_of_ble_eq_true rfl)
  rw [lg_entry_eq]
  generalize (lg_sl ([.int xa] : List Value) ++ List.replicate (1 - (lg_sl ([.int xa] : List Value)).length) Slot.unset).toArray = ls at hl ⊢
  have hl : lv_has ls 1 [(0, .int xa)] := hl
  refine lv_iload_n hx hb dFo_isWork_0 rfl (lv_at hl 0 rfl) ?_
  refine lv_if_eq (tgt := 27) hx hb dFo_isWork_1 (by decide) (fun h1 => ?_) (fun h1 => ?_)
  · refine lv_iconst (v := 1) hx hb dFo_isWork_27 (by first | rfl | decide) ?_
    refine lv_goto (tgt := 32) hx hb dFo_isWork_28 (by decide) ?_
    have e9 : FFo_isWork xa = 1 := by simp only [FFo_isWork, if_pos h1]
    exact W.zret (v := 1) hx hb hr rfl (fun t ht hW => ⟨⟨1, (), rfl, (by show _ = _; rw [e9]), by rw [ht]; exact hP, hD⟩, hS.F ht⟩) hS.2.2 dFo_isWork_32
  · refine lv_iload_n hx hb dFo_isWork_4 rfl (lv_at hl 0 rfl) ?_
    refine lv_iconst (v := 1) hx hb dFo_isWork_5 (by first | rfl | decide) ?_
    refine lv_icmp_eq (tgt := 27) hx hb dFo_isWork_6 (by decide) (fun h2 => ?_) (fun h2 => ?_)
    · refine lv_iconst (v := 1) hx hb dFo_isWork_27 (by first | rfl | decide) ?_
      refine lv_goto (tgt := 32) hx hb dFo_isWork_28 (by decide) ?_
      have e9 : FFo_isWork xa = 1 := by simp only [FFo_isWork, if_neg h1, if_pos h2]
      exact W.zret (v := 1) hx hb hr rfl (fun t ht hW => ⟨⟨1, (), rfl, (by show _ = _; rw [e9]), by rw [ht]; exact hP, hD⟩, hS.F ht⟩) hS.2.2 dFo_isWork_32
    · refine lv_iload_n hx hb dFo_isWork_9 rfl (lv_at hl 0 rfl) ?_
      refine lv_bipush (v := 10) hx hb dFo_isWork_10 (by first | rfl | decide) ?_
      refine lv_icmp_eq (tgt := 27) hx hb dFo_isWork_12 (by decide) (fun h3 => ?_) (fun h3 => ?_)
      · refine lv_iconst (v := 1) hx hb dFo_isWork_27 (by first | rfl | decide) ?_
        refine lv_goto (tgt := 32) hx hb dFo_isWork_28 (by decide) ?_
        have e9 : FFo_isWork xa = 1 := by simp only [FFo_isWork, if_neg h1, if_neg h2, if_pos h3]
        exact W.zret (v := 1) hx hb hr rfl (fun t ht hW => ⟨⟨1, (), rfl, (by show _ = _; rw [e9]), by rw [ht]; exact hP, hD⟩, hS.F ht⟩) hS.2.2 dFo_isWork_32
      · refine lv_iload_n hx hb dFo_isWork_15 rfl (lv_at hl 0 rfl) ?_
        refine lv_bipush (v := 12) hx hb dFo_isWork_16 (by first | rfl | decide) ?_
        refine lv_icmp_lt (tgt := 31) hx hb dFo_isWork_18 (by decide) (fun h4 => ?_) (fun h4 => ?_)
        · refine lv_iconst (v := 0) hx hb dFo_isWork_31 (by first | rfl | decide) ?_
          have e9 : FFo_isWork xa = 0 := by simp only [FFo_isWork, if_neg h1, if_neg h2, if_neg h3, if_pos h4]
          exact W.zret (v := 0) hx hb hr rfl (fun t ht hW => ⟨⟨0, (), rfl, (by show _ = _; rw [e9]), by rw [ht]; exact hP, hD⟩, hS.F ht⟩) hS.2.2 dFo_isWork_32
        · refine lv_iload_n hx hb dFo_isWork_21 rfl (lv_at hl 0 rfl) ?_
          refine lv_bipush (v := 15) hx hb dFo_isWork_22 (by first | rfl | decide) ?_
          refine lv_icmp_gt (tgt := 31) hx hb dFo_isWork_24 (by decide) (fun h5 => ?_) (fun h5 => ?_)
          · refine lv_iconst (v := 0) hx hb dFo_isWork_31 (by first | rfl | decide) ?_
            have e9 : FFo_isWork xa = 0 := by simp only [FFo_isWork, if_neg h1, if_neg h2, if_neg h3, if_neg h4, if_pos h5]
            exact W.zret (v := 0) hx hb hr rfl (fun t ht hW => ⟨⟨0, (), rfl, (by show _ = _; rw [e9]), by rw [ht]; exact hP, hD⟩, hS.F ht⟩) hS.2.2 dFo_isWork_32
          · refine lv_iconst (v := 1) hx hb dFo_isWork_27 (by first | rfl | decide) ?_
            refine lv_goto (tgt := 32) hx hb dFo_isWork_28 (by decide) ?_
            have e9 : FFo_isWork xa = 1 := by simp only [FFo_isWork, if_neg h1, if_neg h2, if_neg h3, if_neg h4, if_neg h5]
            exact W.zret (v := 1) hx hb hr rfl (fun t ht hW => ⟨⟨1, (), rfl, (by show _ = _; rw [e9]), by rw [ht]; exact hP, hD⟩, hS.F ht⟩) hS.2.2 dFo_isWork_32
def FFo_isCondition (xa : Int32) : Int32 := if xa < 0 then if xa < 10 then 0 else if 13 < xa then 0 else 1 else if xa ≤ 5 then 1 else if xa < 10 then 0 else if 13 < xa then 0 else 1
set_option maxRecDepth 20000 in
theorem b_Fo_isCondition (xa : Int32) : narrow .boolean (.int (FFo_isCondition xa)) = .int (FFo_isCondition xa) := by
  unfold FFo_isCondition
  repeat' (first | apply pq_bif | exact pq_b0 | exact pq_b1)
set_option maxHeartbeats 4000000 in
set_option maxRecDepth 100000 in
theorem k_Fo_isCondition (l : Launch) (D : va_G) (ad : Nat → Nat) (cI cS : ClassId) (xa : Int32) : pq_I l yFo_isCondition (.code yFo_isCondition cFo_isCondition 1 (some .boolean) :: pq_ws) { frames := 0, cells := 0, slots := 0, locals := 0 } D cI cS [.int xa] (wN ad cI cS) (FFo_isCondition xa) (wN ad cI cS) := by
  intro sz
  refine Met.ofW (cc := cFo_isCondition) (maxL := 1) (ret := (some .boolean)) (by decide) rfl ?_
  intro p e s m args below meth c s₁ B hml hv
  obtain ⟨rfl, hsz, hP, hD0, hE⟩ := hv
  have hx := B.exec
  have hb := B.bytes
  have hr := B.returns
  have hts := atoms_spec (ws := (.code yFo_isCondition cFo_isCondition 1 (some .boolean) :: pq_ws : List Cond)) B.pre
  have hw : ∀ w ∈ pq_ws, w.before _ s = true := fun w h => hts w (List.mem_cons_of_mem _ h)
  have hown : s.vm.findClass RFo = some m.cls := findClass_of_methodNamed B.named
  have hlocks := B.notSynchronized
  subst hsz
  have hD := hD0.self (sz := s.heap.size)
  have hA : ∀ q : Nat, s.heap.size ≤ q → va_A (wN ad cI cS) s.heap.size q := fun q h => Or.inr h
  have hS : va_S (va_A (wN ad cI cS) s.heap.size) s.heap s.heap [] := va_S.rf
  have hl := lv_entry ([.int xa] : List Value) (n := 1) (Nat.le_of_ble_eq_true rfl)
  rw [lg_entry_eq]
  generalize (lg_sl ([.int xa] : List Value) ++ List.replicate (1 - (lg_sl ([.int xa] : List Value)).length) Slot.unset).toArray = ls at hl ⊢
  have hl : lv_has ls 1 [(0, .int xa)] := hl
  refine lv_iload_n hx hb dFo_isCondition_0 rfl (lv_at hl 0 rfl) ?_
  refine lv_if_lt (tgt := 9) hx hb dFo_isCondition_1 (by decide) (fun h1 => ?_) (fun h1 => ?_)
  · refine lv_iload_n hx hb dFo_isCondition_9 rfl (lv_at hl 0 rfl) ?_
    refine lv_bipush (v := 10) hx hb dFo_isCondition_10 (by first | rfl | decide) ?_
    refine lv_icmp_lt (tgt := 25) hx hb dFo_isCondition_12 (by decide) (fun h2 => ?_) (fun h2 => ?_)
    · refine lv_iconst (v := 0) hx hb dFo_isCondition_25 (by first | rfl | decide) ?_
      have e9 : FFo_isCondition xa = 0 := by simp only [FFo_isCondition, if_pos h1, if_pos h2]
      exact W.zret (v := 0) hx hb hr rfl (fun t ht hW => ⟨⟨0, (), rfl, (by show _ = _; rw [e9]), by rw [ht]; exact hP, hD⟩, hS.F ht⟩) hS.2.2 dFo_isCondition_26
    · refine lv_iload_n hx hb dFo_isCondition_15 rfl (lv_at hl 0 rfl) ?_
      refine lv_bipush (v := 13) hx hb dFo_isCondition_16 (by first | rfl | decide) ?_
      refine lv_icmp_gt (tgt := 25) hx hb dFo_isCondition_18 (by decide) (fun h3 => ?_) (fun h3 => ?_)
      · refine lv_iconst (v := 0) hx hb dFo_isCondition_25 (by first | rfl | decide) ?_
        have e9 : FFo_isCondition xa = 0 := by simp only [FFo_isCondition, if_pos h1, if_neg h2, if_pos h3]
        exact W.zret (v := 0) hx hb hr rfl (fun t ht hW => ⟨⟨0, (), rfl, (by show _ = _; rw [e9]), by rw [ht]; exact hP, hD⟩, hS.F ht⟩) hS.2.2 dFo_isCondition_26
      · refine lv_iconst (v := 1) hx hb dFo_isCondition_21 (by first | rfl | decide) ?_
        refine lv_goto (tgt := 26) hx hb dFo_isCondition_22 (by decide) ?_
        have e9 : FFo_isCondition xa = 1 := by simp only [FFo_isCondition, if_pos h1, if_neg h2, if_neg h3]
        exact W.zret (v := 1) hx hb hr rfl (fun t ht hW => ⟨⟨1, (), rfl, (by show _ = _; rw [e9]), by rw [ht]; exact hP, hD⟩, hS.F ht⟩) hS.2.2 dFo_isCondition_26
  · refine lv_iload_n hx hb dFo_isCondition_4 rfl (lv_at hl 0 rfl) ?_
    refine lv_iconst (v := 5) hx hb dFo_isCondition_5 (by first | rfl | decide) ?_
    refine lv_icmp_le (tgt := 21) hx hb dFo_isCondition_6 (by decide) (fun h4 => ?_) (fun h4 => ?_)
    · refine lv_iconst (v := 1) hx hb dFo_isCondition_21 (by first | rfl | decide) ?_
      refine lv_goto (tgt := 26) hx hb dFo_isCondition_22 (by decide) ?_
      have e9 : FFo_isCondition xa = 1 := by simp only [FFo_isCondition, if_neg h1, if_pos h4]
      exact W.zret (v := 1) hx hb hr rfl (fun t ht hW => ⟨⟨1, (), rfl, (by show _ = _; rw [e9]), by rw [ht]; exact hP, hD⟩, hS.F ht⟩) hS.2.2 dFo_isCondition_26
    · refine lv_iload_n hx hb dFo_isCondition_9 rfl (lv_at hl 0 rfl) ?_
      refine lv_bipush (v := 10) hx hb dFo_isCondition_10 (by first | rfl | decide) ?_
      refine lv_icmp_lt (tgt := 25) hx hb dFo_isCondition_12 (by decide) (fun h5 => ?_) (fun h5 => ?_)
      · refine lv_iconst (v := 0) hx hb dFo_isCondition_25 (by first | rfl | decide) ?_
        have e9 : FFo_isCondition xa = 0 := by simp only [FFo_isCondition, if_neg h1, if_neg h4, if_pos h5]
        exact W.zret (v := 0) hx hb hr rfl (fun t ht hW => ⟨⟨0, (), rfl, (by show _ = _; rw [e9]), by rw [ht]; exact hP, hD⟩, hS.F ht⟩) hS.2.2 dFo_isCondition_26
      · refine lv_iload_n hx hb dFo_isCondition_15 rfl (lv_at hl 0 rfl) ?_
        refine lv_bipush (v := 13) hx hb dFo_isCondition_16 (by first | rfl | decide) ?_
        refine lv_icmp_gt (tgt := 25) hx hb dFo_isCondition_18 (by decide) (fun h6 => ?_) (fun h6 => ?_)
        · refine lv_iconst (v := 0) hx hb dFo_isCondition_25 (by first | rfl | decide) ?_
          have e9 : FFo_isCondition xa = 0 := by simp only [FFo_isCondition, if_neg h1, if_neg h4, if_neg h5, if_pos h6]
          exact W.zret (v := 0) hx hb hr rfl (fun t ht hW => ⟨⟨0, (), rfl, (by show _ = _; rw [e9]), by rw [ht]; exact hP, hD⟩, hS.F ht⟩) hS.2.2 dFo_isCondition_26
        · refine lv_iconst (v := 1) hx hb dFo_isCondition_21 (by first | rfl | decide) ?_
          refine lv_goto (tgt := 26) hx hb dFo_isCondition_22 (by decide) ?_
          have e9 : FFo_isCondition xa = 1 := by simp only [FFo_isCondition, if_neg h1, if_neg h4, if_neg h5, if_neg h6]
          exact W.zret (v := 1) hx hb hr rfl (fun t ht hW => ⟨⟨1, (), rfl, (by show _ = _; rw [e9]), by rw [ht]; exact hP, hD⟩, hS.F ht⟩) hS.2.2 dFo_isCondition_26
def FFo_upToFour (xa : Int32) : Int32 := (xa + 3) &&& ((-4) : Int32)
set_option maxHeartbeats 4000000 in
set_option maxRecDepth 100000 in
theorem k_Fo_upToFour (l : Launch) (D : va_G) (ad : Nat → Nat) (cI cS : ClassId) (xa : Int32) : pq_I l yFo_upToFour (.code yFo_upToFour cFo_upToFour 1 (some .int) :: pq_ws) { frames := 0, cells := 0, slots := 0, locals := 0 } D cI cS [.int xa] (wN ad cI cS) (FFo_upToFour xa) (wN ad cI cS) := by
  intro sz
  refine Met.ofW (cc := cFo_upToFour) (maxL := 1) (ret := (some .int)) (by decide) rfl ?_
  intro p e s m args below meth c s₁ B hml hv
  obtain ⟨rfl, hsz, hP, hD0, hE⟩ := hv
  have hx := B.exec
  have hb := B.bytes
  have hr := B.returns
  have hts := atoms_spec (ws := (.code yFo_upToFour cFo_upToFour 1 (some .int) :: pq_ws : List Cond)) B.pre
  have hw : ∀ w ∈ pq_ws, w.before _ s = true := fun w h => hts w (List.mem_cons_of_mem _ h)
  have hown : s.vm.findClass RFo = some m.cls := findClass_of_methodNamed B.named
  have hlocks := B.notSynchronized
  subst hsz
  have hD := hD0.self (sz := s.heap.size)
  have hA : ∀ q : Nat, s.heap.size ≤ q → va_A (wN ad cI cS) s.heap.size q := fun q h => Or.inr h
  have hS : va_S (va_A (wN ad cI cS) s.heap.size) s.heap s.heap [] := va_S.rf
  have hl := lv_entry ([.int xa] : List Value) (n := 1) (Nat.le_of_ble_eq_true rfl)
  rw [lg_entry_eq]
  generalize (lg_sl ([.int xa] : List Value) ++ List.replicate (1 - (lg_sl ([.int xa] : List Value)).length) Slot.unset).toArray = ls at hl ⊢
  have hl : lv_has ls 1 [(0, .int xa)] := hl
  refine lv_iload_n hx hb dFo_upToFour_0 rfl (lv_at hl 0 rfl) ?_
  refine lv_iconst (v := 3) hx hb dFo_upToFour_1 (by first | rfl | decide) ?_
  refine lv_iadd hx hb dFo_upToFour_2 ?_
  refine lv_bipush (v := (-4)) hx hb dFo_upToFour_3 (by first | rfl | decide) ?_
  refine lv_iand hx hb dFo_upToFour_5 ?_
  have e9 : FFo_upToFour xa = (xa + 3) &&& ((-4) : Int32) := rfl
  exact W.iret (v := (xa + 3) &&& ((-4) : Int32)) hx hb hr (fun t ht hW => ⟨⟨(xa + 3) &&& ((-4) : Int32), (), rfl, (by show _ = _; rw [e9]), by rw [ht]; exact hP, hD⟩, hS.F ht⟩) hS.2.2 dFo_upToFour_6
def FFo_baseOf (xa : Int32) : Int32 := (xa + 4) &&& ((-4) : Int32)
set_option maxHeartbeats 4000000 in
set_option maxRecDepth 100000 in
theorem k_Fo_baseOf (l : Launch) (D : va_G) (ad : Nat → Nat) (cI cS : ClassId) (xa : Int32) : pq_I l yFo_baseOf (.code yFo_baseOf cFo_baseOf 1 (some .int) :: pq_ws) { frames := 0, cells := 0, slots := 0, locals := 0 } D cI cS [.int xa] (wN ad cI cS) (FFo_baseOf xa) (wN ad cI cS) := by
  intro sz
  refine Met.ofW (cc := cFo_baseOf) (maxL := 1) (ret := (some .int)) (by decide) rfl ?_
  intro p e s m args below meth c s₁ B hml hv
  obtain ⟨rfl, hsz, hP, hD0, hE⟩ := hv
  have hx := B.exec
  have hb := B.bytes
  have hr := B.returns
  have hts := atoms_spec (ws := (.code yFo_baseOf cFo_baseOf 1 (some .int) :: pq_ws : List Cond)) B.pre
  have hw : ∀ w ∈ pq_ws, w.before _ s = true := fun w h => hts w (List.mem_cons_of_mem _ h)
  have hown : s.vm.findClass RFo = some m.cls := findClass_of_methodNamed B.named
  have hlocks := B.notSynchronized
  subst hsz
  have hD := hD0.self (sz := s.heap.size)
  have hA : ∀ q : Nat, s.heap.size ≤ q → va_A (wN ad cI cS) s.heap.size q := fun q h => Or.inr h
  have hS : va_S (va_A (wN ad cI cS) s.heap.size) s.heap s.heap [] := va_S.rf
  have hl := lv_entry ([.int xa] : List Value) (n := 1) (Nat.le_of_ble_eq_true rfl)
  rw [lg_entry_eq]
  generalize (lg_sl ([.int xa] : List Value) ++ List.replicate (1 - (lg_sl ([.int xa] : List Value)).length) Slot.unset).toArray = ls at hl ⊢
  have hl : lv_has ls 1 [(0, .int xa)] := hl
  refine lv_iload_n hx hb dFo_baseOf_0 rfl (lv_at hl 0 rfl) ?_
  refine lv_iconst (v := 4) hx hb dFo_baseOf_1 (by first | rfl | decide) ?_
  refine lv_iadd hx hb dFo_baseOf_2 ?_
  refine lv_bipush (v := (-4)) hx hb dFo_baseOf_3 (by first | rfl | decide) ?_
  refine lv_iand hx hb dFo_baseOf_5 ?_
  have e9 : FFo_baseOf xa = (xa + 4) &&& ((-4) : Int32) := rfl
  exact W.iret (v := (xa + 4) &&& ((-4) : Int32)) hx hb hr (fun t ht hW => ⟨⟨(xa + 4) &&& ((-4) : Int32), (), rfl, (by show _ = _; rw [e9]), by rw [ht]; exact hP, hD⟩, hS.F ht⟩) hS.2.2 dFo_baseOf_6
def FFo_isLine (xk : Int32) (xa : Int32) (xb : Int32) (xc : Int32) : Int32 := if xk = 0 then (FFo_isLabel xa) else if xk = 1 then if (FFo_isRegister xa) = 0 then 0 else if xb < 0 then 0 else if 256 ≤ xb then 0 else 1 else if xk = 2 then if (FFo_isRegister xa) = 0 then 0 else if xb < 0 then 0 else if 256 ≤ xb then 0 else 1 else if xk = 3 then if (FFo_isRegister xa) = 0 then 0 else if xb < 0 then 0 else if 256 ≤ xb then 0 else 1 else if xk = 4 then if (FFo_isRegister xa) = 0 then 0 else if xb < 0 then 0 else if 256 ≤ xb then 0 else 1 else if xk = 5 then if (FFo_isRegister xa) = 0 then 0 else if (FFo_isRegister xb) = 0 then 0 else if (FFo_isRegister xc) = 0 then 0 else 1 else if xk = 6 then if (FFo_isRegister xa) = 0 then 0 else if (FFo_isRegister xb) = 0 then 0 else if (FFo_isRegister xc) = 0 then 0 else 1 else if xk = 7 then if (FFo_isRegister xa) = 0 then 0 else if (FFo_isRegister xb) = 0 then 0 else if (FFo_isWork xc) = 0 then 0 else 1 else if xk = 8 then if (FFo_isRegister xa) = 0 then 0 else if (FFo_isRegister xb) = 0 then 0 else if xc < 0 then 0 else if 32 ≤ xc then 0 else 1 else if xk = 9 then if (FFo_isRegister xa) = 0 then 0 else if (FFo_isRegister xb) = 0 then 0 else if xc < 0 then 0 else if 32 ≤ xc then 0 else 1 else if xk = 10 then (FFo_isRegister xa) else if xk = 11 then (FFo_isLabel xa) else if xk = 12 then if (FFo_isLabel xa) = 0 then 0 else if (FFo_isCondition xc) = 0 then 0 else 1 else if xk = 13 then if xa < 1 then 0 else if 40 < xa then 0 else 1 else if xk = 14 then 1 else if xk = 15 then 1 else 0
set_option maxRecDepth 20000 in
theorem b_Fo_isLine (xk : Int32) (xa : Int32) (xb : Int32) (xc : Int32) : narrow .boolean (.int (FFo_isLine xk xa xb xc)) = .int (FFo_isLine xk xa xb xc) := by
  unfold FFo_isLine
  repeat' (first | apply pq_bif | exact pq_b0 | exact pq_b1 | apply b_Fo_isCondition | apply b_Fo_isLabel | apply b_Fo_isRegister | apply b_Fo_isWork)
set_option maxHeartbeats 4000000 in
set_option maxRecDepth 100000 in
theorem k_Fo_isLine (l : Launch) (D : va_G) (ad : Nat → Nat) (cI cS : ClassId) (xk : Int32) (xa : Int32) (xb : Int32) (xc : Int32) : pq_I l yFo_isLine (.code yFo_isLine cFo_isLine 4 (some .boolean) :: pq_ws) { frames := 1, cells := 0, slots := 0, locals := 20 } D cI cS [.int xk, .int xa, .int xb, .int xc] (wN ad cI cS) (FFo_isLine xk xa xb xc) (wN ad cI cS) := by
  intro sz
  refine Met.ofW (cc := cFo_isLine) (maxL := 4) (ret := (some .boolean)) (by decide) rfl ?_
  intro p e s m args below meth c s₁ B hml hv
  obtain ⟨rfl, hsz, hP, hD0, hE⟩ := hv
  have hx := B.exec
  have hb := B.bytes
  have hr := B.returns
  have hts := atoms_spec (ws := (.code yFo_isLine cFo_isLine 4 (some .boolean) :: pq_ws : List Cond)) B.pre
  have hw : ∀ w ∈ pq_ws, w.before _ s = true := fun w h => hts w (List.mem_cons_of_mem _ h)
  have hown : s.vm.findClass RFo = some m.cls := findClass_of_methodNamed B.named
  have hlocks := B.notSynchronized
  subst hsz
  have hD := hD0.self (sz := s.heap.size)
  have hA : ∀ q : Nat, s.heap.size ≤ q → va_A (wN ad cI cS) s.heap.size q := fun q h => Or.inr h
  have hS : va_S (va_A (wN ad cI cS) s.heap.size) s.heap s.heap [] := va_S.rf
  have hl := lv_entry ([.int xk, .int xa, .int xb, .int xc] : List Value) (n := 4) (Nat.le_of_ble_eq_true rfl)
  rw [lg_entry_eq]
  generalize (lg_sl ([.int xk, .int xa, .int xb, .int xc] : List Value) ++ List.replicate (4 - (lg_sl ([.int xk, .int xa, .int xb, .int xc] : List Value)).length) Slot.unset).toArray = ls at hl ⊢
  have hl : lv_has ls 4 [(0, .int xk), (1, .int xa), (2, .int xb), (3, .int xc)] := hl
  refine lv_iload_n hx hb dFo_isLine_0 rfl (lv_at hl 0 rfl) ?_
  by_cases h1 : xk = 0
  · refine lv_tableIn (off := 79) (tgt := 80) hx hb dFo_isLine_1 (by rw [h1]; decide) (by rw [h1]; decide) (by rw [h1]; rfl) (by decide) ?_
    refine lv_iload_n hx hb dFo_isLine_80 rfl (lv_at hl 1 rfl) ?_
    refine pq_calli (fr := (FFo_isLabel xa)) (wc := (wN ad cI cS)) (wr := ([] : List Nat).filterMap (fun i => (wN ad cI cS)[i]?)) hP hD hS hA [] [] rfl rfl (by decide) (by decide) (va_runS (own := RFo) (As := [.int xa]) (rest := []) ⟨hx, hb, hml, hown, hw⟩ (k_Fo_isLabel l D ad cI cS xa s.heap.size) ⟨pq_cwB 1 hw wd_2 wd_1 wd_0 rfl rfl (by decide +kernel) ⟨Nat.le_of_ble_eq_true rfl, Nat.le_of_ble_eq_true rfl⟩, hw _ wd_3⟩ (pq_preS hE (hP.sub [] rfl) (hD.sub [] (by decide) rfl)) rfl rfl hl.1 rfl (lv_room (Nat.le_of_ble_eq_true rfl)) dFo_isLine_81 ⟨Nat.zero_le _, Nat.zero_le _⟩) (fun H locs hP hD hS => ?_)
    have hP : va_P D vwCl (wN ad cI cS) H := hP.sub [] rfl
    have hD : va_D _ (wN ad cI cS) := hD.sub [] (by decide) rfl
    have e9 : FFo_isLine xk xa xb xc = (FFo_isLabel xa) := by simp only [FFo_isLine, if_pos h1]
    exact W.zret (v := (FFo_isLabel xa)) hx hb hr (by first | rfl | apply b_Fo_isLabel) (fun t ht hW => ⟨⟨(FFo_isLabel xa), (), rfl, (by show _ = _; rw [e9]), by rw [ht]; exact hP, hD⟩, hS.F ht⟩) hS.2.2 dFo_isLine_84
  by_cases h2 : xk = 1
  · refine lv_tableIn (off := 84) (tgt := 85) hx hb dFo_isLine_1 (by rw [h2]; decide) (by rw [h2]; decide) (by rw [h2]; rfl) (by decide) ?_
    refine lv_iload_n hx hb dFo_isLine_85 rfl (lv_at hl 1 rfl) ?_
    refine pq_calli (fr := (FFo_isRegister xa)) (wc := (wN ad cI cS)) (wr := ([] : List Nat).filterMap (fun i => (wN ad cI cS)[i]?)) hP hD hS hA [] [] rfl rfl (by decide) (by decide) (va_runS (own := RFo) (As := [.int xa]) (rest := []) ⟨hx, hb, hml, hown, hw⟩ (k_Fo_isRegister l D ad cI cS xa s.heap.size) ⟨pq_cwB 1 hw wd_5 wd_1 wd_4 rfl rfl (by decide +kernel) ⟨Nat.le_of_ble_eq_true rfl, Nat.le_of_ble_eq_true rfl⟩, hw _ wd_6⟩ (pq_preS hE (hP.sub [] rfl) (hD.sub [] (by decide) rfl)) rfl rfl hl.1 rfl (lv_room (Nat.le_of_ble_eq_true rfl)) dFo_isLine_86 ⟨Nat.zero_le _, Nat.zero_le _⟩) (fun H locs hP hD hS => ?_)
    have hP : va_P D vwCl (wN ad cI cS) H := hP.sub [] rfl
    have hD : va_D _ (wN ad cI cS) := hD.sub [] (by decide) rfl
    refine lv_if_eq (tgt := 107) hx hb dFo_isLine_89 (by decide) (fun h3 => ?_) (fun h3 => ?_)
    · refine lv_iconst (v := 0) hx hb dFo_isLine_107 (by first | rfl | decide) ?_
      have e9 : FFo_isLine xk xa xb xc = 0 := by simp only [FFo_isLine, if_neg h1, if_pos h2, if_pos h3]
      exact W.zret (v := 0) hx hb hr rfl (fun t ht hW => ⟨⟨0, (), rfl, (by show _ = _; rw [e9]), by rw [ht]; exact hP, hD⟩, hS.F ht⟩) hS.2.2 dFo_isLine_108
    · refine lv_iload_n hx hb dFo_isLine_92 rfl (lv_at hl 2 rfl) ?_
      refine lv_if_lt (tgt := 107) hx hb dFo_isLine_93 (by decide) (fun h4 => ?_) (fun h4 => ?_)
      · refine lv_iconst (v := 0) hx hb dFo_isLine_107 (by first | rfl | decide) ?_
        have e9 : FFo_isLine xk xa xb xc = 0 := by simp only [FFo_isLine, if_neg h1, if_pos h2, if_neg h3, if_pos h4]
        exact W.zret (v := 0) hx hb hr rfl (fun t ht hW => ⟨⟨0, (), rfl, (by show _ = _; rw [e9]), by rw [ht]; exact hP, hD⟩, hS.F ht⟩) hS.2.2 dFo_isLine_108
      · refine lv_iload_n hx hb dFo_isLine_96 rfl (lv_at hl 2 rfl) ?_
        refine lv_sipush (v := 256) hx hb dFo_isLine_97 (by first | rfl | decide) ?_
        refine lv_icmp_ge (tgt := 107) hx hb dFo_isLine_100 (by decide) (fun h5 => ?_) (fun h5 => ?_)
        · refine lv_iconst (v := 0) hx hb dFo_isLine_107 (by first | rfl | decide) ?_
          have e9 : FFo_isLine xk xa xb xc = 0 := by simp only [FFo_isLine, if_neg h1, if_pos h2, if_neg h3, if_neg h4, if_pos h5]
          exact W.zret (v := 0) hx hb hr rfl (fun t ht hW => ⟨⟨0, (), rfl, (by show _ = _; rw [e9]), by rw [ht]; exact hP, hD⟩, hS.F ht⟩) hS.2.2 dFo_isLine_108
        · refine lv_iconst (v := 1) hx hb dFo_isLine_103 (by first | rfl | decide) ?_
          refine lv_goto (tgt := 108) hx hb dFo_isLine_104 (by decide) ?_
          have e9 : FFo_isLine xk xa xb xc = 1 := by simp only [FFo_isLine, if_neg h1, if_pos h2, if_neg h3, if_neg h4, if_neg h5]
          exact W.zret (v := 1) hx hb hr rfl (fun t ht hW => ⟨⟨1, (), rfl, (by show _ = _; rw [e9]), by rw [ht]; exact hP, hD⟩, hS.F ht⟩) hS.2.2 dFo_isLine_108
  by_cases h6 : xk = 2
  · refine lv_tableIn (off := 84) (tgt := 85) hx hb dFo_isLine_1 (by rw [h6]; decide) (by rw [h6]; decide) (by rw [h6]; rfl) (by decide) ?_
    refine lv_iload_n hx hb dFo_isLine_85 rfl (lv_at hl 1 rfl) ?_
    refine pq_calli (fr := (FFo_isRegister xa)) (wc := (wN ad cI cS)) (wr := ([] : List Nat).filterMap (fun i => (wN ad cI cS)[i]?)) hP hD hS hA [] [] rfl rfl (by decide) (by decide) (va_runS (own := RFo) (As := [.int xa]) (rest := []) ⟨hx, hb, hml, hown, hw⟩ (k_Fo_isRegister l D ad cI cS xa s.heap.size) ⟨pq_cwB 1 hw wd_5 wd_1 wd_4 rfl rfl (by decide +kernel) ⟨Nat.le_of_ble_eq_true rfl, Nat.le_of_ble_eq_true rfl⟩, hw _ wd_6⟩ (pq_preS hE (hP.sub [] rfl) (hD.sub [] (by decide) rfl)) rfl rfl hl.1 rfl (lv_room (Nat.le_of_ble_eq_true rfl)) dFo_isLine_86 ⟨Nat.zero_le _, Nat.zero_le _⟩) (fun H locs hP hD hS => ?_)
    have hP : va_P D vwCl (wN ad cI cS) H := hP.sub [] rfl
    have hD : va_D _ (wN ad cI cS) := hD.sub [] (by decide) rfl
    refine lv_if_eq (tgt := 107) hx hb dFo_isLine_89 (by decide) (fun h7 => ?_) (fun h7 => ?_)
    · refine lv_iconst (v := 0) hx hb dFo_isLine_107 (by first | rfl | decide) ?_
      have e9 : FFo_isLine xk xa xb xc = 0 := by simp only [FFo_isLine, if_neg h1, if_neg h2, if_pos h6, if_pos h7]
      exact W.zret (v := 0) hx hb hr rfl (fun t ht hW => ⟨⟨0, (), rfl, (by show _ = _; rw [e9]), by rw [ht]; exact hP, hD⟩, hS.F ht⟩) hS.2.2 dFo_isLine_108
    · refine lv_iload_n hx hb dFo_isLine_92 rfl (lv_at hl 2 rfl) ?_
      refine lv_if_lt (tgt := 107) hx hb dFo_isLine_93 (by decide) (fun h8 => ?_) (fun h8 => ?_)
      · refine lv_iconst (v := 0) hx hb dFo_isLine_107 (by first | rfl | decide) ?_
        have e9 : FFo_isLine xk xa xb xc = 0 := by simp only [FFo_isLine, if_neg h1, if_neg h2, if_pos h6, if_neg h7, if_pos h8]
        exact W.zret (v := 0) hx hb hr rfl (fun t ht hW => ⟨⟨0, (), rfl, (by show _ = _; rw [e9]), by rw [ht]; exact hP, hD⟩, hS.F ht⟩) hS.2.2 dFo_isLine_108
      · refine lv_iload_n hx hb dFo_isLine_96 rfl (lv_at hl 2 rfl) ?_
        refine lv_sipush (v := 256) hx hb dFo_isLine_97 (by first | rfl | decide) ?_
        refine lv_icmp_ge (tgt := 107) hx hb dFo_isLine_100 (by decide) (fun h9 => ?_) (fun h9 => ?_)
        · refine lv_iconst (v := 0) hx hb dFo_isLine_107 (by first | rfl | decide) ?_
          have e9 : FFo_isLine xk xa xb xc = 0 := by simp only [FFo_isLine, if_neg h1, if_neg h2, if_pos h6, if_neg h7, if_neg h8, if_pos h9]
          exact W.zret (v := 0) hx hb hr rfl (fun t ht hW => ⟨⟨0, (), rfl, (by show _ = _; rw [e9]), by rw [ht]; exact hP, hD⟩, hS.F ht⟩) hS.2.2 dFo_isLine_108
        · refine lv_iconst (v := 1) hx hb dFo_isLine_103 (by first | rfl | decide) ?_
          refine lv_goto (tgt := 108) hx hb dFo_isLine_104 (by decide) ?_
          have e9 : FFo_isLine xk xa xb xc = 1 := by simp only [FFo_isLine, if_neg h1, if_neg h2, if_pos h6, if_neg h7, if_neg h8, if_neg h9]
          exact W.zret (v := 1) hx hb hr rfl (fun t ht hW => ⟨⟨1, (), rfl, (by show _ = _; rw [e9]), by rw [ht]; exact hP, hD⟩, hS.F ht⟩) hS.2.2 dFo_isLine_108
  by_cases h10 : xk = 3
  · refine lv_tableIn (off := 84) (tgt := 85) hx hb dFo_isLine_1 (by rw [h10]; decide) (by rw [h10]; decide) (by rw [h10]; rfl) (by decide) ?_
    refine lv_iload_n hx hb dFo_isLine_85 rfl (lv_at hl 1 rfl) ?_
    refine pq_calli (fr := (FFo_isRegister xa)) (wc := (wN ad cI cS)) (wr := ([] : List Nat).filterMap (fun i => (wN ad cI cS)[i]?)) hP hD hS hA [] [] rfl rfl (by decide) (by decide) (va_runS (own := RFo) (As := [.int xa]) (rest := []) ⟨hx, hb, hml, hown, hw⟩ (k_Fo_isRegister l D ad cI cS xa s.heap.size) ⟨pq_cwB 1 hw wd_5 wd_1 wd_4 rfl rfl (by decide +kernel) ⟨Nat.le_of_ble_eq_true rfl, Nat.le_of_ble_eq_true rfl⟩, hw _ wd_6⟩ (pq_preS hE (hP.sub [] rfl) (hD.sub [] (by decide) rfl)) rfl rfl hl.1 rfl (lv_room (Nat.le_of_ble_eq_true rfl)) dFo_isLine_86 ⟨Nat.zero_le _, Nat.zero_le _⟩) (fun H locs hP hD hS => ?_)
    have hP : va_P D vwCl (wN ad cI cS) H := hP.sub [] rfl
    have hD : va_D _ (wN ad cI cS) := hD.sub [] (by decide) rfl
    refine lv_if_eq (tgt := 107) hx hb dFo_isLine_89 (by decide) (fun h11 => ?_) (fun h11 => ?_)
    · refine lv_iconst (v := 0) hx hb dFo_isLine_107 (by first | rfl | decide) ?_
      have e9 : FFo_isLine xk xa xb xc = 0 := by simp only [FFo_isLine, if_neg h1, if_neg h2, if_neg h6, if_pos h10, if_pos h11]
      exact W.zret (v := 0) hx hb hr rfl (fun t ht hW => ⟨⟨0, (), rfl, (by show _ = _; rw [e9]), by rw [ht]; exact hP, hD⟩, hS.F ht⟩) hS.2.2 dFo_isLine_108
    · refine lv_iload_n hx hb dFo_isLine_92 rfl (lv_at hl 2 rfl) ?_
      refine lv_if_lt (tgt := 107) hx hb dFo_isLine_93 (by decide) (fun h12 => ?_) (fun h12 => ?_)
      · refine lv_iconst (v := 0) hx hb dFo_isLine_107 (by first | rfl | decide) ?_
        have e9 : FFo_isLine xk xa xb xc = 0 := by simp only [FFo_isLine, if_neg h1, if_neg h2, if_neg h6, if_pos h10, if_neg h11, if_pos h12]
        exact W.zret (v := 0) hx hb hr rfl (fun t ht hW => ⟨⟨0, (), rfl, (by show _ = _; rw [e9]), by rw [ht]; exact hP, hD⟩, hS.F ht⟩) hS.2.2 dFo_isLine_108
      · refine lv_iload_n hx hb dFo_isLine_96 rfl (lv_at hl 2 rfl) ?_
        refine lv_sipush (v := 256) hx hb dFo_isLine_97 (by first | rfl | decide) ?_
        refine lv_icmp_ge (tgt := 107) hx hb dFo_isLine_100 (by decide) (fun h13 => ?_) (fun h13 => ?_)
        · refine lv_iconst (v := 0) hx hb dFo_isLine_107 (by first | rfl | decide) ?_
          have e9 : FFo_isLine xk xa xb xc = 0 := by simp only [FFo_isLine, if_neg h1, if_neg h2, if_neg h6, if_pos h10, if_neg h11, if_neg h12, if_pos h13]
          exact W.zret (v := 0) hx hb hr rfl (fun t ht hW => ⟨⟨0, (), rfl, (by show _ = _; rw [e9]), by rw [ht]; exact hP, hD⟩, hS.F ht⟩) hS.2.2 dFo_isLine_108
        · refine lv_iconst (v := 1) hx hb dFo_isLine_103 (by first | rfl | decide) ?_
          refine lv_goto (tgt := 108) hx hb dFo_isLine_104 (by decide) ?_
          have e9 : FFo_isLine xk xa xb xc = 1 := by simp only [FFo_isLine, if_neg h1, if_neg h2, if_neg h6, if_pos h10, if_neg h11, if_neg h12, if_neg h13]
          exact W.zret (v := 1) hx hb hr rfl (fun t ht hW => ⟨⟨1, (), rfl, (by show _ = _; rw [e9]), by rw [ht]; exact hP, hD⟩, hS.F ht⟩) hS.2.2 dFo_isLine_108
  by_cases h14 : xk = 4
  · refine lv_tableIn (off := 84) (tgt := 85) hx hb dFo_isLine_1 (by rw [h14]; decide) (by rw [h14]; decide) (by rw [h14]; rfl) (by decide) ?_
    refine lv_iload_n hx hb dFo_isLine_85 rfl (lv_at hl 1 rfl) ?_
    refine pq_calli (fr := (FFo_isRegister xa)) (wc := (wN ad cI cS)) (wr := ([] : List Nat).filterMap (fun i => (wN ad cI cS)[i]?)) hP hD hS hA [] [] rfl rfl (by decide) (by decide) (va_runS (own := RFo) (As := [.int xa]) (rest := []) ⟨hx, hb, hml, hown, hw⟩ (k_Fo_isRegister l D ad cI cS xa s.heap.size) ⟨pq_cwB 1 hw wd_5 wd_1 wd_4 rfl rfl (by decide +kernel) ⟨Nat.le_of_ble_eq_true rfl, Nat.le_of_ble_eq_true rfl⟩, hw _ wd_6⟩ (pq_preS hE (hP.sub [] rfl) (hD.sub [] (by decide) rfl)) rfl rfl hl.1 rfl (lv_room (Nat.le_of_ble_eq_true rfl)) dFo_isLine_86 ⟨Nat.zero_le _, Nat.zero_le _⟩) (fun H locs hP hD hS => ?_)
    have hP : va_P D vwCl (wN ad cI cS) H := hP.sub [] rfl
    have hD : va_D _ (wN ad cI cS) := hD.sub [] (by decide) rfl
    refine lv_if_eq (tgt := 107) hx hb dFo_isLine_89 (by decide) (fun h15 => ?_) (fun h15 => ?_)
    · refine lv_iconst (v := 0) hx hb dFo_isLine_107 (by first | rfl | decide) ?_
      have e9 : FFo_isLine xk xa xb xc = 0 := by simp only [FFo_isLine, if_neg h1, if_neg h2, if_neg h6, if_neg h10, if_pos h14, if_pos h15]
      exact W.zret (v := 0) hx hb hr rfl (fun t ht hW => ⟨⟨0, (), rfl, (by show _ = _; rw [e9]), by rw [ht]; exact hP, hD⟩, hS.F ht⟩) hS.2.2 dFo_isLine_108
    · refine lv_iload_n hx hb dFo_isLine_92 rfl (lv_at hl 2 rfl) ?_
      refine lv_if_lt (tgt := 107) hx hb dFo_isLine_93 (by decide) (fun h16 => ?_) (fun h16 => ?_)
      · refine lv_iconst (v := 0) hx hb dFo_isLine_107 (by first | rfl | decide) ?_
        have e9 : FFo_isLine xk xa xb xc = 0 := by simp only [FFo_isLine, if_neg h1, if_neg h2, if_neg h6, if_neg h10, if_pos h14, if_neg h15, if_pos h16]
        exact W.zret (v := 0) hx hb hr rfl (fun t ht hW => ⟨⟨0, (), rfl, (by show _ = _; rw [e9]), by rw [ht]; exact hP, hD⟩, hS.F ht⟩) hS.2.2 dFo_isLine_108
      · refine lv_iload_n hx hb dFo_isLine_96 rfl (lv_at hl 2 rfl) ?_
        refine lv_sipush (v := 256) hx hb dFo_isLine_97 (by first | rfl | decide) ?_
        refine lv_icmp_ge (tgt := 107) hx hb dFo_isLine_100 (by decide) (fun h17 => ?_) (fun h17 => ?_)
        · refine lv_iconst (v := 0) hx hb dFo_isLine_107 (by first | rfl | decide) ?_
          have e9 : FFo_isLine xk xa xb xc = 0 := by simp only [FFo_isLine, if_neg h1, if_neg h2, if_neg h6, if_neg h10, if_pos h14, if_neg h15, if_neg h16, if_pos h17]
          exact W.zret (v := 0) hx hb hr rfl (fun t ht hW => ⟨⟨0, (), rfl, (by show _ = _; rw [e9]), by rw [ht]; exact hP, hD⟩, hS.F ht⟩) hS.2.2 dFo_isLine_108
        · refine lv_iconst (v := 1) hx hb dFo_isLine_103 (by first | rfl | decide) ?_
          refine lv_goto (tgt := 108) hx hb dFo_isLine_104 (by decide) ?_
          have e9 : FFo_isLine xk xa xb xc = 1 := by simp only [FFo_isLine, if_neg h1, if_neg h2, if_neg h6, if_neg h10, if_pos h14, if_neg h15, if_neg h16, if_neg h17]
          exact W.zret (v := 1) hx hb hr rfl (fun t ht hW => ⟨⟨1, (), rfl, (by show _ = _; rw [e9]), by rw [ht]; exact hP, hD⟩, hS.F ht⟩) hS.2.2 dFo_isLine_108
  by_cases h18 : xk = 5
  · refine lv_tableIn (off := 108) (tgt := 109) hx hb dFo_isLine_1 (by rw [h18]; decide) (by rw [h18]; decide) (by rw [h18]; rfl) (by decide) ?_
    refine lv_iload_n hx hb dFo_isLine_109 rfl (lv_at hl 1 rfl) ?_
    refine pq_calli (fr := (FFo_isRegister xa)) (wc := (wN ad cI cS)) (wr := ([] : List Nat).filterMap (fun i => (wN ad cI cS)[i]?)) hP hD hS hA [] [] rfl rfl (by decide) (by decide) (va_runS (own := RFo) (As := [.int xa]) (rest := []) ⟨hx, hb, hml, hown, hw⟩ (k_Fo_isRegister l D ad cI cS xa s.heap.size) ⟨pq_cwB 1 hw wd_5 wd_1 wd_4 rfl rfl (by decide +kernel) ⟨Nat.le_of_ble_eq_true rfl, Nat.le_of_ble_eq_true rfl⟩, hw _ wd_6⟩ (pq_preS hE (hP.sub [] rfl) (hD.sub [] (by decide) rfl)) rfl rfl hl.1 rfl (lv_room (Nat.le_of_ble_eq_true rfl)) dFo_isLine_110 ⟨Nat.zero_le _, Nat.zero_le _⟩) (fun H locs hP hD hS => ?_)
    have hP : va_P D vwCl (wN ad cI cS) H := hP.sub [] rfl
    have hD : va_D _ (wN ad cI cS) := hD.sub [] (by decide) rfl
    refine lv_if_eq (tgt := 134) hx hb dFo_isLine_113 (by decide) (fun h19 => ?_) (fun h19 => ?_)
    · refine lv_iconst (v := 0) hx hb dFo_isLine_134 (by first | rfl | decide) ?_
      have e9 : FFo_isLine xk xa xb xc = 0 := by simp only [FFo_isLine, if_neg h1, if_neg h2, if_neg h6, if_neg h10, if_neg h14, if_pos h18, if_pos h19]
      exact W.zret (v := 0) hx hb hr rfl (fun t ht hW => ⟨⟨0, (), rfl, (by show _ = _; rw [e9]), by rw [ht]; exact hP, hD⟩, hS.F ht⟩) hS.2.2 dFo_isLine_135
    · refine lv_iload_n hx hb dFo_isLine_116 rfl (lv_at hl 2 rfl) ?_
      refine pq_calli (fr := (FFo_isRegister xb)) (wc := (wN ad cI cS)) (wr := ([] : List Nat).filterMap (fun i => (wN ad cI cS)[i]?)) hP hD hS hA [] [] rfl rfl (by decide) (by decide) (va_runS (own := RFo) (As := [.int xb]) (rest := []) ⟨hx, hb, hml, hown, hw⟩ (k_Fo_isRegister l D ad cI cS xb H.size) ⟨pq_cwB 1 hw wd_5 wd_1 wd_4 rfl rfl (by decide +kernel) ⟨Nat.le_of_ble_eq_true rfl, Nat.le_of_ble_eq_true rfl⟩, hw _ wd_6⟩ (pq_preS hE (hP.sub [] rfl) (hD.sub [] (by decide) rfl)) rfl rfl hl.1 rfl (lv_room (Nat.le_of_ble_eq_true rfl)) dFo_isLine_117 ⟨Nat.zero_le _, Nat.zero_le _⟩) (fun H locs hP hD hS => ?_)
      have hP : va_P D vwCl (wN ad cI cS) H := hP.sub [] rfl
      have hD : va_D _ (wN ad cI cS) := hD.sub [] (by decide) rfl
      refine lv_if_eq (tgt := 134) hx hb dFo_isLine_120 (by decide) (fun h20 => ?_) (fun h20 => ?_)
      · refine lv_iconst (v := 0) hx hb dFo_isLine_134 (by first | rfl | decide) ?_
        have e9 : FFo_isLine xk xa xb xc = 0 := by simp only [FFo_isLine, if_neg h1, if_neg h2, if_neg h6, if_neg h10, if_neg h14, if_pos h18, if_neg h19, if_pos h20]
        exact W.zret (v := 0) hx hb hr rfl (fun t ht hW => ⟨⟨0, (), rfl, (by show _ = _; rw [e9]), by rw [ht]; exact hP, hD⟩, hS.F ht⟩) hS.2.2 dFo_isLine_135
      · refine lv_iload_n hx hb dFo_isLine_123 rfl (lv_at hl 3 rfl) ?_
        refine pq_calli (fr := (FFo_isRegister xc)) (wc := (wN ad cI cS)) (wr := ([] : List Nat).filterMap (fun i => (wN ad cI cS)[i]?)) hP hD hS hA [] [] rfl rfl (by decide) (by decide) (va_runS (own := RFo) (As := [.int xc]) (rest := []) ⟨hx, hb, hml, hown, hw⟩ (k_Fo_isRegister l D ad cI cS xc H.size) ⟨pq_cwB 1 hw wd_5 wd_1 wd_4 rfl rfl (by decide +kernel) ⟨Nat.le_of_ble_eq_true rfl, Nat.le_of_ble_eq_true rfl⟩, hw _ wd_6⟩ (pq_preS hE (hP.sub [] rfl) (hD.sub [] (by decide) rfl)) rfl rfl hl.1 rfl (lv_room (Nat.le_of_ble_eq_true rfl)) dFo_isLine_124 ⟨Nat.zero_le _, Nat.zero_le _⟩) (fun H locs hP hD hS => ?_)
        have hP : va_P D vwCl (wN ad cI cS) H := hP.sub [] rfl
        have hD : va_D _ (wN ad cI cS) := hD.sub [] (by decide) rfl
        refine lv_if_eq (tgt := 134) hx hb dFo_isLine_127 (by decide) (fun h21 => ?_) (fun h21 => ?_)
        · refine lv_iconst (v := 0) hx hb dFo_isLine_134 (by first | rfl | decide) ?_
          have e9 : FFo_isLine xk xa xb xc = 0 := by simp only [FFo_isLine, if_neg h1, if_neg h2, if_neg h6, if_neg h10, if_neg h14, if_pos h18, if_neg h19, if_neg h20, if_pos h21]
          exact W.zret (v := 0) hx hb hr rfl (fun t ht hW => ⟨⟨0, (), rfl, (by show _ = _; rw [e9]), by rw [ht]; exact hP, hD⟩, hS.F ht⟩) hS.2.2 dFo_isLine_135
        · refine lv_iconst (v := 1) hx hb dFo_isLine_130 (by first | rfl | decide) ?_
          refine lv_goto (tgt := 135) hx hb dFo_isLine_131 (by decide) ?_
          have e9 : FFo_isLine xk xa xb xc = 1 := by simp only [FFo_isLine, if_neg h1, if_neg h2, if_neg h6, if_neg h10, if_neg h14, if_pos h18, if_neg h19, if_neg h20, if_neg h21]
          exact W.zret (v := 1) hx hb hr rfl (fun t ht hW => ⟨⟨1, (), rfl, (by show _ = _; rw [e9]), by rw [ht]; exact hP, hD⟩, hS.F ht⟩) hS.2.2 dFo_isLine_135
  by_cases h22 : xk = 6
  · refine lv_tableIn (off := 108) (tgt := 109) hx hb dFo_isLine_1 (by rw [h22]; decide) (by rw [h22]; decide) (by rw [h22]; rfl) (by decide) ?_
    refine lv_iload_n hx hb dFo_isLine_109 rfl (lv_at hl 1 rfl) ?_
    refine pq_calli (fr := (FFo_isRegister xa)) (wc := (wN ad cI cS)) (wr := ([] : List Nat).filterMap (fun i => (wN ad cI cS)[i]?)) hP hD hS hA [] [] rfl rfl (by decide) (by decide) (va_runS (own := RFo) (As := [.int xa]) (rest := []) ⟨hx, hb, hml, hown, hw⟩ (k_Fo_isRegister l D ad cI cS xa s.heap.size) ⟨pq_cwB 1 hw wd_5 wd_1 wd_4 rfl rfl (by decide +kernel) ⟨Nat.le_of_ble_eq_true rfl, Nat.le_of_ble_eq_true rfl⟩, hw _ wd_6⟩ (pq_preS hE (hP.sub [] rfl) (hD.sub [] (by decide) rfl)) rfl rfl hl.1 rfl (lv_room (Nat.le_of_ble_eq_true rfl)) dFo_isLine_110 ⟨Nat.zero_le _, Nat.zero_le _⟩) (fun H locs hP hD hS => ?_)
    have hP : va_P D vwCl (wN ad cI cS) H := hP.sub [] rfl
    have hD : va_D _ (wN ad cI cS) := hD.sub [] (by decide) rfl
    refine lv_if_eq (tgt := 134) hx hb dFo_isLine_113 (by decide) (fun h23 => ?_) (fun h23 => ?_)
    · refine lv_iconst (v := 0) hx hb dFo_isLine_134 (by first | rfl | decide) ?_
      have e9 : FFo_isLine xk xa xb xc = 0 := by simp only [FFo_isLine, if_neg h1, if_neg h2, if_neg h6, if_neg h10, if_neg h14, if_neg h18, if_pos h22, if_pos h23]
      exact W.zret (v := 0) hx hb hr rfl (fun t ht hW => ⟨⟨0, (), rfl, (by show _ = _; rw [e9]), by rw [ht]; exact hP, hD⟩, hS.F ht⟩) hS.2.2 dFo_isLine_135
    · refine lv_iload_n hx hb dFo_isLine_116 rfl (lv_at hl 2 rfl) ?_
      refine pq_calli (fr := (FFo_isRegister xb)) (wc := (wN ad cI cS)) (wr := ([] : List Nat).filterMap (fun i => (wN ad cI cS)[i]?)) hP hD hS hA [] [] rfl rfl (by decide) (by decide) (va_runS (own := RFo) (As := [.int xb]) (rest := []) ⟨hx, hb, hml, hown, hw⟩ (k_Fo_isRegister l D ad cI cS xb H.size) ⟨pq_cwB 1 hw wd_5 wd_1 wd_4 rfl rfl (by decide +kernel) ⟨Nat.le_of_ble_eq_true rfl, Nat.le_of_ble_eq_true rfl⟩, hw _ wd_6⟩ (pq_preS hE (hP.sub [] rfl) (hD.sub [] (by decide) rfl)) rfl rfl hl.1 rfl (lv_room (Nat.le_of_ble_eq_true rfl)) dFo_isLine_117 ⟨Nat.zero_le _, Nat.zero_le _⟩) (fun H locs hP hD hS => ?_)
      have hP : va_P D vwCl (wN ad cI cS) H := hP.sub [] rfl
      have hD : va_D _ (wN ad cI cS) := hD.sub [] (by decide) rfl
      refine lv_if_eq (tgt := 134) hx hb dFo_isLine_120 (by decide) (fun h24 => ?_) (fun h24 => ?_)
      · refine lv_iconst (v := 0) hx hb dFo_isLine_134 (by first | rfl | decide) ?_
        have e9 : FFo_isLine xk xa xb xc = 0 := by simp only [FFo_isLine, if_neg h1, if_neg h2, if_neg h6, if_neg h10, if_neg h14, if_neg h18, if_pos h22, if_neg h23, if_pos h24]
        exact W.zret (v := 0) hx hb hr rfl (fun t ht hW => ⟨⟨0, (), rfl, (by show _ = _; rw [e9]), by rw [ht]; exact hP, hD⟩, hS.F ht⟩) hS.2.2 dFo_isLine_135
      · refine lv_iload_n hx hb dFo_isLine_123 rfl (lv_at hl 3 rfl) ?_
        refine pq_calli (fr := (FFo_isRegister xc)) (wc := (wN ad cI cS)) (wr := ([] : List Nat).filterMap (fun i => (wN ad cI cS)[i]?)) hP hD hS hA [] [] rfl rfl (by decide) (by decide) (va_runS (own := RFo) (As := [.int xc]) (rest := []) ⟨hx, hb, hml, hown, hw⟩ (k_Fo_isRegister l D ad cI cS xc H.size) ⟨pq_cwB 1 hw wd_5 wd_1 wd_4 rfl rfl (by decide +kernel) ⟨Nat.le_of_ble_eq_true rfl, Nat.le_of_ble_eq_true rfl⟩, hw _ wd_6⟩ (pq_preS hE (hP.sub [] rfl) (hD.sub [] (by decide) rfl)) rfl rfl hl.1 rfl (lv_room (Nat.le_of_ble_eq_true rfl)) dFo_isLine_124 ⟨Nat.zero_le _, Nat.zero_le _⟩) (fun H locs hP hD hS => ?_)
        have hP : va_P D vwCl (wN ad cI cS) H := hP.sub [] rfl
        have hD : va_D _ (wN ad cI cS) := hD.sub [] (by decide) rfl
        refine lv_if_eq (tgt := 134) hx hb dFo_isLine_127 (by decide) (fun h25 => ?_) (fun h25 => ?_)
        · refine lv_iconst (v := 0) hx hb dFo_isLine_134 (by first | rfl | decide) ?_
          have e9 : FFo_isLine xk xa xb xc = 0 := by simp only [FFo_isLine, if_neg h1, if_neg h2, if_neg h6, if_neg h10, if_neg h14, if_neg h18, if_pos h22, if_neg h23, if_neg h24, if_pos h25]
          exact W.zret (v := 0) hx hb hr rfl (fun t ht hW => ⟨⟨0, (), rfl, (by show _ = _; rw [e9]), by rw [ht]; exact hP, hD⟩, hS.F ht⟩) hS.2.2 dFo_isLine_135
        · refine lv_iconst (v := 1) hx hb dFo_isLine_130 (by first | rfl | decide) ?_
          refine lv_goto (tgt := 135) hx hb dFo_isLine_131 (by decide) ?_
          have e9 : FFo_isLine xk xa xb xc = 1 := by simp only [FFo_isLine, if_neg h1, if_neg h2, if_neg h6, if_neg h10, if_neg h14, if_neg h18, if_pos h22, if_neg h23, if_neg h24, if_neg h25]
          exact W.zret (v := 1) hx hb hr rfl (fun t ht hW => ⟨⟨1, (), rfl, (by show _ = _; rw [e9]), by rw [ht]; exact hP, hD⟩, hS.F ht⟩) hS.2.2 dFo_isLine_135
  by_cases h26 : xk = 7
  · refine lv_tableIn (off := 135) (tgt := 136) hx hb dFo_isLine_1 (by rw [h26]; decide) (by rw [h26]; decide) (by rw [h26]; rfl) (by decide) ?_
    refine lv_iload_n hx hb dFo_isLine_136 rfl (lv_at hl 1 rfl) ?_
    refine pq_calli (fr := (FFo_isRegister xa)) (wc := (wN ad cI cS)) (wr := ([] : List Nat).filterMap (fun i => (wN ad cI cS)[i]?)) hP hD hS hA [] [] rfl rfl (by decide) (by decide) (va_runS (own := RFo) (As := [.int xa]) (rest := []) ⟨hx, hb, hml, hown, hw⟩ (k_Fo_isRegister l D ad cI cS xa s.heap.size) ⟨pq_cwB 1 hw wd_5 wd_1 wd_4 rfl rfl (by decide +kernel) ⟨Nat.le_of_ble_eq_true rfl, Nat.le_of_ble_eq_true rfl⟩, hw _ wd_6⟩ (pq_preS hE (hP.sub [] rfl) (hD.sub [] (by decide) rfl)) rfl rfl hl.1 rfl (lv_room (Nat.le_of_ble_eq_true rfl)) dFo_isLine_137 ⟨Nat.zero_le _, Nat.zero_le _⟩) (fun H locs hP hD hS => ?_)
    have hP : va_P D vwCl (wN ad cI cS) H := hP.sub [] rfl
    have hD : va_D _ (wN ad cI cS) := hD.sub [] (by decide) rfl
    refine lv_if_eq (tgt := 161) hx hb dFo_isLine_140 (by decide) (fun h27 => ?_) (fun h27 => ?_)
    · refine lv_iconst (v := 0) hx hb dFo_isLine_161 (by first | rfl | decide) ?_
      have e9 : FFo_isLine xk xa xb xc = 0 := by simp only [FFo_isLine, if_neg h1, if_neg h2, if_neg h6, if_neg h10, if_neg h14, if_neg h18, if_neg h22, if_pos h26, if_pos h27]
      exact W.zret (v := 0) hx hb hr rfl (fun t ht hW => ⟨⟨0, (), rfl, (by show _ = _; rw [e9]), by rw [ht]; exact hP, hD⟩, hS.F ht⟩) hS.2.2 dFo_isLine_162
    · refine lv_iload_n hx hb dFo_isLine_143 rfl (lv_at hl 2 rfl) ?_
      refine pq_calli (fr := (FFo_isRegister xb)) (wc := (wN ad cI cS)) (wr := ([] : List Nat).filterMap (fun i => (wN ad cI cS)[i]?)) hP hD hS hA [] [] rfl rfl (by decide) (by decide) (va_runS (own := RFo) (As := [.int xb]) (rest := []) ⟨hx, hb, hml, hown, hw⟩ (k_Fo_isRegister l D ad cI cS xb H.size) ⟨pq_cwB 1 hw wd_5 wd_1 wd_4 rfl rfl (by decide +kernel) ⟨Nat.le_of_ble_eq_true rfl, Nat.le_of_ble_eq_true rfl⟩, hw _ wd_6⟩ (pq_preS hE (hP.sub [] rfl) (hD.sub [] (by decide) rfl)) rfl rfl hl.1 rfl (lv_room (Nat.le_of_ble_eq_true rfl)) dFo_isLine_144 ⟨Nat.zero_le _, Nat.zero_le _⟩) (fun H locs hP hD hS => ?_)
      have hP : va_P D vwCl (wN ad cI cS) H := hP.sub [] rfl
      have hD : va_D _ (wN ad cI cS) := hD.sub [] (by decide) rfl
      refine lv_if_eq (tgt := 161) hx hb dFo_isLine_147 (by decide) (fun h28 => ?_) (fun h28 => ?_)
      · refine lv_iconst (v := 0) hx hb dFo_isLine_161 (by first | rfl | decide) ?_
        have e9 : FFo_isLine xk xa xb xc = 0 := by simp only [FFo_isLine, if_neg h1, if_neg h2, if_neg h6, if_neg h10, if_neg h14, if_neg h18, if_neg h22, if_pos h26, if_neg h27, if_pos h28]
        exact W.zret (v := 0) hx hb hr rfl (fun t ht hW => ⟨⟨0, (), rfl, (by show _ = _; rw [e9]), by rw [ht]; exact hP, hD⟩, hS.F ht⟩) hS.2.2 dFo_isLine_162
      · refine lv_iload_n hx hb dFo_isLine_150 rfl (lv_at hl 3 rfl) ?_
        refine pq_calli (fr := (FFo_isWork xc)) (wc := (wN ad cI cS)) (wr := ([] : List Nat).filterMap (fun i => (wN ad cI cS)[i]?)) hP hD hS hA [] [] rfl rfl (by decide) (by decide) (va_runS (own := RFo) (As := [.int xc]) (rest := []) ⟨hx, hb, hml, hown, hw⟩ (k_Fo_isWork l D ad cI cS xc H.size) ⟨pq_cwB 1 hw wd_8 wd_1 wd_7 rfl rfl (by decide +kernel) ⟨Nat.le_of_ble_eq_true rfl, Nat.le_of_ble_eq_true rfl⟩, hw _ wd_9⟩ (pq_preS hE (hP.sub [] rfl) (hD.sub [] (by decide) rfl)) rfl rfl hl.1 rfl (lv_room (Nat.le_of_ble_eq_true rfl)) dFo_isLine_151 ⟨Nat.zero_le _, Nat.zero_le _⟩) (fun H locs hP hD hS => ?_)
        have hP : va_P D vwCl (wN ad cI cS) H := hP.sub [] rfl
        have hD : va_D _ (wN ad cI cS) := hD.sub [] (by decide) rfl
        refine lv_if_eq (tgt := 161) hx hb dFo_isLine_154 (by decide) (fun h29 => ?_) (fun h29 => ?_)
        · refine lv_iconst (v := 0) hx hb dFo_isLine_161 (by first | rfl | decide) ?_
          have e9 : FFo_isLine xk xa xb xc = 0 := by simp only [FFo_isLine, if_neg h1, if_neg h2, if_neg h6, if_neg h10, if_neg h14, if_neg h18, if_neg h22, if_pos h26, if_neg h27, if_neg h28, if_pos h29]
          exact W.zret (v := 0) hx hb hr rfl (fun t ht hW => ⟨⟨0, (), rfl, (by show _ = _; rw [e9]), by rw [ht]; exact hP, hD⟩, hS.F ht⟩) hS.2.2 dFo_isLine_162
        · refine lv_iconst (v := 1) hx hb dFo_isLine_157 (by first | rfl | decide) ?_
          refine lv_goto (tgt := 162) hx hb dFo_isLine_158 (by decide) ?_
          have e9 : FFo_isLine xk xa xb xc = 1 := by simp only [FFo_isLine, if_neg h1, if_neg h2, if_neg h6, if_neg h10, if_neg h14, if_neg h18, if_neg h22, if_pos h26, if_neg h27, if_neg h28, if_neg h29]
          exact W.zret (v := 1) hx hb hr rfl (fun t ht hW => ⟨⟨1, (), rfl, (by show _ = _; rw [e9]), by rw [ht]; exact hP, hD⟩, hS.F ht⟩) hS.2.2 dFo_isLine_162
  by_cases h30 : xk = 8
  · refine lv_tableIn (off := 162) (tgt := 163) hx hb dFo_isLine_1 (by rw [h30]; decide) (by rw [h30]; decide) (by rw [h30]; rfl) (by decide) ?_
    refine lv_iload_n hx hb dFo_isLine_163 rfl (lv_at hl 1 rfl) ?_
    refine pq_calli (fr := (FFo_isRegister xa)) (wc := (wN ad cI cS)) (wr := ([] : List Nat).filterMap (fun i => (wN ad cI cS)[i]?)) hP hD hS hA [] [] rfl rfl (by decide) (by decide) (va_runS (own := RFo) (As := [.int xa]) (rest := []) ⟨hx, hb, hml, hown, hw⟩ (k_Fo_isRegister l D ad cI cS xa s.heap.size) ⟨pq_cwB 1 hw wd_5 wd_1 wd_4 rfl rfl (by decide +kernel) ⟨Nat.le_of_ble_eq_true rfl, Nat.le_of_ble_eq_true rfl⟩, hw _ wd_6⟩ (pq_preS hE (hP.sub [] rfl) (hD.sub [] (by decide) rfl)) rfl rfl hl.1 rfl (lv_room (Nat.le_of_ble_eq_true rfl)) dFo_isLine_164 ⟨Nat.zero_le _, Nat.zero_le _⟩) (fun H locs hP hD hS => ?_)
    have hP : va_P D vwCl (wN ad cI cS) H := hP.sub [] rfl
    have hD : va_D _ (wN ad cI cS) := hD.sub [] (by decide) rfl
    refine lv_if_eq (tgt := 191) hx hb dFo_isLine_167 (by decide) (fun h31 => ?_) (fun h31 => ?_)
    · refine lv_iconst (v := 0) hx hb dFo_isLine_191 (by first | rfl | decide) ?_
      have e9 : FFo_isLine xk xa xb xc = 0 := by simp only [FFo_isLine, if_neg h1, if_neg h2, if_neg h6, if_neg h10, if_neg h14, if_neg h18, if_neg h22, if_neg h26, if_pos h30, if_pos h31]
      exact W.zret (v := 0) hx hb hr rfl (fun t ht hW => ⟨⟨0, (), rfl, (by show _ = _; rw [e9]), by rw [ht]; exact hP, hD⟩, hS.F ht⟩) hS.2.2 dFo_isLine_192
    · refine lv_iload_n hx hb dFo_isLine_170 rfl (lv_at hl 2 rfl) ?_
      refine pq_calli (fr := (FFo_isRegister xb)) (wc := (wN ad cI cS)) (wr := ([] : List Nat).filterMap (fun i => (wN ad cI cS)[i]?)) hP hD hS hA [] [] rfl rfl (by decide) (by decide) (va_runS (own := RFo) (As := [.int xb]) (rest := []) ⟨hx, hb, hml, hown, hw⟩ (k_Fo_isRegister l D ad cI cS xb H.size) ⟨pq_cwB 1 hw wd_5 wd_1 wd_4 rfl rfl (by decide +kernel) ⟨Nat.le_of_ble_eq_true rfl, Nat.le_of_ble_eq_true rfl⟩, hw _ wd_6⟩ (pq_preS hE (hP.sub [] rfl) (hD.sub [] (by decide) rfl)) rfl rfl hl.1 rfl (lv_room (Nat.le_of_ble_eq_true rfl)) dFo_isLine_171 ⟨Nat.zero_le _, Nat.zero_le _⟩) (fun H locs hP hD hS => ?_)
      have hP : va_P D vwCl (wN ad cI cS) H := hP.sub [] rfl
      have hD : va_D _ (wN ad cI cS) := hD.sub [] (by decide) rfl
      refine lv_if_eq (tgt := 191) hx hb dFo_isLine_174 (by decide) (fun h32 => ?_) (fun h32 => ?_)
      · refine lv_iconst (v := 0) hx hb dFo_isLine_191 (by first | rfl | decide) ?_
        have e9 : FFo_isLine xk xa xb xc = 0 := by simp only [FFo_isLine, if_neg h1, if_neg h2, if_neg h6, if_neg h10, if_neg h14, if_neg h18, if_neg h22, if_neg h26, if_pos h30, if_neg h31, if_pos h32]
        exact W.zret (v := 0) hx hb hr rfl (fun t ht hW => ⟨⟨0, (), rfl, (by show _ = _; rw [e9]), by rw [ht]; exact hP, hD⟩, hS.F ht⟩) hS.2.2 dFo_isLine_192
      · refine lv_iload_n hx hb dFo_isLine_177 rfl (lv_at hl 3 rfl) ?_
        refine lv_if_lt (tgt := 191) hx hb dFo_isLine_178 (by decide) (fun h33 => ?_) (fun h33 => ?_)
        · refine lv_iconst (v := 0) hx hb dFo_isLine_191 (by first | rfl | decide) ?_
          have e9 : FFo_isLine xk xa xb xc = 0 := by simp only [FFo_isLine, if_neg h1, if_neg h2, if_neg h6, if_neg h10, if_neg h14, if_neg h18, if_neg h22, if_neg h26, if_pos h30, if_neg h31, if_neg h32, if_pos h33]
          exact W.zret (v := 0) hx hb hr rfl (fun t ht hW => ⟨⟨0, (), rfl, (by show _ = _; rw [e9]), by rw [ht]; exact hP, hD⟩, hS.F ht⟩) hS.2.2 dFo_isLine_192
        · refine lv_iload_n hx hb dFo_isLine_181 rfl (lv_at hl 3 rfl) ?_
          refine lv_bipush (v := 32) hx hb dFo_isLine_182 (by first | rfl | decide) ?_
          refine lv_icmp_ge (tgt := 191) hx hb dFo_isLine_184 (by decide) (fun h34 => ?_) (fun h34 => ?_)
          · refine lv_iconst (v := 0) hx hb dFo_isLine_191 (by first | rfl | decide) ?_
            have e9 : FFo_isLine xk xa xb xc = 0 := by simp only [FFo_isLine, if_neg h1, if_neg h2, if_neg h6, if_neg h10, if_neg h14, if_neg h18, if_neg h22, if_neg h26, if_pos h30, if_neg h31, if_neg h32, if_neg h33, if_pos h34]
            exact W.zret (v := 0) hx hb hr rfl (fun t ht hW => ⟨⟨0, (), rfl, (by show _ = _; rw [e9]), by rw [ht]; exact hP, hD⟩, hS.F ht⟩) hS.2.2 dFo_isLine_192
          · refine lv_iconst (v := 1) hx hb dFo_isLine_187 (by first | rfl | decide) ?_
            refine lv_goto (tgt := 192) hx hb dFo_isLine_188 (by decide) ?_
            have e9 : FFo_isLine xk xa xb xc = 1 := by simp only [FFo_isLine, if_neg h1, if_neg h2, if_neg h6, if_neg h10, if_neg h14, if_neg h18, if_neg h22, if_neg h26, if_pos h30, if_neg h31, if_neg h32, if_neg h33, if_neg h34]
            exact W.zret (v := 1) hx hb hr rfl (fun t ht hW => ⟨⟨1, (), rfl, (by show _ = _; rw [e9]), by rw [ht]; exact hP, hD⟩, hS.F ht⟩) hS.2.2 dFo_isLine_192
  by_cases h35 : xk = 9
  · refine lv_tableIn (off := 162) (tgt := 163) hx hb dFo_isLine_1 (by rw [h35]; decide) (by rw [h35]; decide) (by rw [h35]; rfl) (by decide) ?_
    refine lv_iload_n hx hb dFo_isLine_163 rfl (lv_at hl 1 rfl) ?_
    refine pq_calli (fr := (FFo_isRegister xa)) (wc := (wN ad cI cS)) (wr := ([] : List Nat).filterMap (fun i => (wN ad cI cS)[i]?)) hP hD hS hA [] [] rfl rfl (by decide) (by decide) (va_runS (own := RFo) (As := [.int xa]) (rest := []) ⟨hx, hb, hml, hown, hw⟩ (k_Fo_isRegister l D ad cI cS xa s.heap.size) ⟨pq_cwB 1 hw wd_5 wd_1 wd_4 rfl rfl (by decide +kernel) ⟨Nat.le_of_ble_eq_true rfl, Nat.le_of_ble_eq_true rfl⟩, hw _ wd_6⟩ (pq_preS hE (hP.sub [] rfl) (hD.sub [] (by decide) rfl)) rfl rfl hl.1 rfl (lv_room (Nat.le_of_ble_eq_true rfl)) dFo_isLine_164 ⟨Nat.zero_le _, Nat.zero_le _⟩) (fun H locs hP hD hS => ?_)
    have hP : va_P D vwCl (wN ad cI cS) H := hP.sub [] rfl
    have hD : va_D _ (wN ad cI cS) := hD.sub [] (by decide) rfl
    refine lv_if_eq (tgt := 191) hx hb dFo_isLine_167 (by decide) (fun h36 => ?_) (fun h36 => ?_)
    · refine lv_iconst (v := 0) hx hb dFo_isLine_191 (by first | rfl | decide) ?_
      have e9 : FFo_isLine xk xa xb xc = 0 := by simp only [FFo_isLine, if_neg h1, if_neg h2, if_neg h6, if_neg h10, if_neg h14, if_neg h18, if_neg h22, if_neg h26, if_neg h30, if_pos h35, if_pos h36]
      exact W.zret (v := 0) hx hb hr rfl (fun t ht hW => ⟨⟨0, (), rfl, (by show _ = _; rw [e9]), by rw [ht]; exact hP, hD⟩, hS.F ht⟩) hS.2.2 dFo_isLine_192
    · refine lv_iload_n hx hb dFo_isLine_170 rfl (lv_at hl 2 rfl) ?_
      refine pq_calli (fr := (FFo_isRegister xb)) (wc := (wN ad cI cS)) (wr := ([] : List Nat).filterMap (fun i => (wN ad cI cS)[i]?)) hP hD hS hA [] [] rfl rfl (by decide) (by decide) (va_runS (own := RFo) (As := [.int xb]) (rest := []) ⟨hx, hb, hml, hown, hw⟩ (k_Fo_isRegister l D ad cI cS xb H.size) ⟨pq_cwB 1 hw wd_5 wd_1 wd_4 rfl rfl (by decide +kernel) ⟨Nat.le_of_ble_eq_true rfl, Nat.le_of_ble_eq_true rfl⟩, hw _ wd_6⟩ (pq_preS hE (hP.sub [] rfl) (hD.sub [] (by decide) rfl)) rfl rfl hl.1 rfl (lv_room (Nat.le_of_ble_eq_true rfl)) dFo_isLine_171 ⟨Nat.zero_le _, Nat.zero_le _⟩) (fun H locs hP hD hS => ?_)
      have hP : va_P D vwCl (wN ad cI cS) H := hP.sub [] rfl
      have hD : va_D _ (wN ad cI cS) := hD.sub [] (by decide) rfl
      refine lv_if_eq (tgt := 191) hx hb dFo_isLine_174 (by decide) (fun h37 => ?_) (fun h37 => ?_)
      · refine lv_iconst (v := 0) hx hb dFo_isLine_191 (by first | rfl | decide) ?_
        have e9 : FFo_isLine xk xa xb xc = 0 := by simp only [FFo_isLine, if_neg h1, if_neg h2, if_neg h6, if_neg h10, if_neg h14, if_neg h18, if_neg h22, if_neg h26, if_neg h30, if_pos h35, if_neg h36, if_pos h37]
        exact W.zret (v := 0) hx hb hr rfl (fun t ht hW => ⟨⟨0, (), rfl, (by show _ = _; rw [e9]), by rw [ht]; exact hP, hD⟩, hS.F ht⟩) hS.2.2 dFo_isLine_192
      · refine lv_iload_n hx hb dFo_isLine_177 rfl (lv_at hl 3 rfl) ?_
        refine lv_if_lt (tgt := 191) hx hb dFo_isLine_178 (by decide) (fun h38 => ?_) (fun h38 => ?_)
        · refine lv_iconst (v := 0) hx hb dFo_isLine_191 (by first | rfl | decide) ?_
          have e9 : FFo_isLine xk xa xb xc = 0 := by simp only [FFo_isLine, if_neg h1, if_neg h2, if_neg h6, if_neg h10, if_neg h14, if_neg h18, if_neg h22, if_neg h26, if_neg h30, if_pos h35, if_neg h36, if_neg h37, if_pos h38]
          exact W.zret (v := 0) hx hb hr rfl (fun t ht hW => ⟨⟨0, (), rfl, (by show _ = _; rw [e9]), by rw [ht]; exact hP, hD⟩, hS.F ht⟩) hS.2.2 dFo_isLine_192
        · refine lv_iload_n hx hb dFo_isLine_181 rfl (lv_at hl 3 rfl) ?_
          refine lv_bipush (v := 32) hx hb dFo_isLine_182 (by first | rfl | decide) ?_
          refine lv_icmp_ge (tgt := 191) hx hb dFo_isLine_184 (by decide) (fun h39 => ?_) (fun h39 => ?_)
          · refine lv_iconst (v := 0) hx hb dFo_isLine_191 (by first | rfl | decide) ?_
            have e9 : FFo_isLine xk xa xb xc = 0 := by simp only [FFo_isLine, if_neg h1, if_neg h2, if_neg h6, if_neg h10, if_neg h14, if_neg h18, if_neg h22, if_neg h26, if_neg h30, if_pos h35, if_neg h36, if_neg h37, if_neg h38, if_pos h39]
            exact W.zret (v := 0) hx hb hr rfl (fun t ht hW => ⟨⟨0, (), rfl, (by show _ = _; rw [e9]), by rw [ht]; exact hP, hD⟩, hS.F ht⟩) hS.2.2 dFo_isLine_192
          · refine lv_iconst (v := 1) hx hb dFo_isLine_187 (by first | rfl | decide) ?_
            refine lv_goto (tgt := 192) hx hb dFo_isLine_188 (by decide) ?_
            have e9 : FFo_isLine xk xa xb xc = 1 := by simp only [FFo_isLine, if_neg h1, if_neg h2, if_neg h6, if_neg h10, if_neg h14, if_neg h18, if_neg h22, if_neg h26, if_neg h30, if_pos h35, if_neg h36, if_neg h37, if_neg h38, if_neg h39]
            exact W.zret (v := 1) hx hb hr rfl (fun t ht hW => ⟨⟨1, (), rfl, (by show _ = _; rw [e9]), by rw [ht]; exact hP, hD⟩, hS.F ht⟩) hS.2.2 dFo_isLine_192
  by_cases h40 : xk = 10
  · refine lv_tableIn (off := 192) (tgt := 193) hx hb dFo_isLine_1 (by rw [h40]; decide) (by rw [h40]; decide) (by rw [h40]; rfl) (by decide) ?_
    refine lv_iload_n hx hb dFo_isLine_193 rfl (lv_at hl 1 rfl) ?_
    refine pq_calli (fr := (FFo_isRegister xa)) (wc := (wN ad cI cS)) (wr := ([] : List Nat).filterMap (fun i => (wN ad cI cS)[i]?)) hP hD hS hA [] [] rfl rfl (by decide) (by decide) (va_runS (own := RFo) (As := [.int xa]) (rest := []) ⟨hx, hb, hml, hown, hw⟩ (k_Fo_isRegister l D ad cI cS xa s.heap.size) ⟨pq_cwB 1 hw wd_5 wd_1 wd_4 rfl rfl (by decide +kernel) ⟨Nat.le_of_ble_eq_true rfl, Nat.le_of_ble_eq_true rfl⟩, hw _ wd_6⟩ (pq_preS hE (hP.sub [] rfl) (hD.sub [] (by decide) rfl)) rfl rfl hl.1 rfl (lv_room (Nat.le_of_ble_eq_true rfl)) dFo_isLine_194 ⟨Nat.zero_le _, Nat.zero_le _⟩) (fun H locs hP hD hS => ?_)
    have hP : va_P D vwCl (wN ad cI cS) H := hP.sub [] rfl
    have hD : va_D _ (wN ad cI cS) := hD.sub [] (by decide) rfl
    have e9 : FFo_isLine xk xa xb xc = (FFo_isRegister xa) := by simp only [FFo_isLine, if_neg h1, if_neg h2, if_neg h6, if_neg h10, if_neg h14, if_neg h18, if_neg h22, if_neg h26, if_neg h30, if_neg h35, if_pos h40]
    exact W.zret (v := (FFo_isRegister xa)) hx hb hr (by first | rfl | apply b_Fo_isRegister) (fun t ht hW => ⟨⟨(FFo_isRegister xa), (), rfl, (by show _ = _; rw [e9]), by rw [ht]; exact hP, hD⟩, hS.F ht⟩) hS.2.2 dFo_isLine_197
  by_cases h41 : xk = 11
  · refine lv_tableIn (off := 79) (tgt := 80) hx hb dFo_isLine_1 (by rw [h41]; decide) (by rw [h41]; decide) (by rw [h41]; rfl) (by decide) ?_
    refine lv_iload_n hx hb dFo_isLine_80 rfl (lv_at hl 1 rfl) ?_
    refine pq_calli (fr := (FFo_isLabel xa)) (wc := (wN ad cI cS)) (wr := ([] : List Nat).filterMap (fun i => (wN ad cI cS)[i]?)) hP hD hS hA [] [] rfl rfl (by decide) (by decide) (va_runS (own := RFo) (As := [.int xa]) (rest := []) ⟨hx, hb, hml, hown, hw⟩ (k_Fo_isLabel l D ad cI cS xa s.heap.size) ⟨pq_cwB 1 hw wd_2 wd_1 wd_0 rfl rfl (by decide +kernel) ⟨Nat.le_of_ble_eq_true rfl, Nat.le_of_ble_eq_true rfl⟩, hw _ wd_3⟩ (pq_preS hE (hP.sub [] rfl) (hD.sub [] (by decide) rfl)) rfl rfl hl.1 rfl (lv_room (Nat.le_of_ble_eq_true rfl)) dFo_isLine_81 ⟨Nat.zero_le _, Nat.zero_le _⟩) (fun H locs hP hD hS => ?_)
    have hP : va_P D vwCl (wN ad cI cS) H := hP.sub [] rfl
    have hD : va_D _ (wN ad cI cS) := hD.sub [] (by decide) rfl
    have e9 : FFo_isLine xk xa xb xc = (FFo_isLabel xa) := by simp only [FFo_isLine, if_neg h1, if_neg h2, if_neg h6, if_neg h10, if_neg h14, if_neg h18, if_neg h22, if_neg h26, if_neg h30, if_neg h35, if_neg h40, if_pos h41]
    exact W.zret (v := (FFo_isLabel xa)) hx hb hr (by first | rfl | apply b_Fo_isLabel) (fun t ht hW => ⟨⟨(FFo_isLabel xa), (), rfl, (by show _ = _; rw [e9]), by rw [ht]; exact hP, hD⟩, hS.F ht⟩) hS.2.2 dFo_isLine_84
  by_cases h42 : xk = 12
  · refine lv_tableIn (off := 197) (tgt := 198) hx hb dFo_isLine_1 (by rw [h42]; decide) (by rw [h42]; decide) (by rw [h42]; rfl) (by decide) ?_
    refine lv_iload_n hx hb dFo_isLine_198 rfl (lv_at hl 1 rfl) ?_
    refine pq_calli (fr := (FFo_isLabel xa)) (wc := (wN ad cI cS)) (wr := ([] : List Nat).filterMap (fun i => (wN ad cI cS)[i]?)) hP hD hS hA [] [] rfl rfl (by decide) (by decide) (va_runS (own := RFo) (As := [.int xa]) (rest := []) ⟨hx, hb, hml, hown, hw⟩ (k_Fo_isLabel l D ad cI cS xa s.heap.size) ⟨pq_cwB 1 hw wd_2 wd_1 wd_0 rfl rfl (by decide +kernel) ⟨Nat.le_of_ble_eq_true rfl, Nat.le_of_ble_eq_true rfl⟩, hw _ wd_3⟩ (pq_preS hE (hP.sub [] rfl) (hD.sub [] (by decide) rfl)) rfl rfl hl.1 rfl (lv_room (Nat.le_of_ble_eq_true rfl)) dFo_isLine_199 ⟨Nat.zero_le _, Nat.zero_le _⟩) (fun H locs hP hD hS => ?_)
    have hP : va_P D vwCl (wN ad cI cS) H := hP.sub [] rfl
    have hD : va_D _ (wN ad cI cS) := hD.sub [] (by decide) rfl
    refine lv_if_eq (tgt := 216) hx hb dFo_isLine_202 (by decide) (fun h43 => ?_) (fun h43 => ?_)
    · refine lv_iconst (v := 0) hx hb dFo_isLine_216 (by first | rfl | decide) ?_
      have e9 : FFo_isLine xk xa xb xc = 0 := by simp only [FFo_isLine, if_neg h1, if_neg h2, if_neg h6, if_neg h10, if_neg h14, if_neg h18, if_neg h22, if_neg h26, if_neg h30, if_neg h35, if_neg h40, if_neg h41, if_pos h42, if_pos h43]
      exact W.zret (v := 0) hx hb hr rfl (fun t ht hW => ⟨⟨0, (), rfl, (by show _ = _; rw [e9]), by rw [ht]; exact hP, hD⟩, hS.F ht⟩) hS.2.2 dFo_isLine_217
    · refine lv_iload_n hx hb dFo_isLine_205 rfl (lv_at hl 3 rfl) ?_
      refine pq_calli (fr := (FFo_isCondition xc)) (wc := (wN ad cI cS)) (wr := ([] : List Nat).filterMap (fun i => (wN ad cI cS)[i]?)) hP hD hS hA [] [] rfl rfl (by decide) (by decide) (va_runS (own := RFo) (As := [.int xc]) (rest := []) ⟨hx, hb, hml, hown, hw⟩ (k_Fo_isCondition l D ad cI cS xc H.size) ⟨pq_cwB 1 hw wd_11 wd_1 wd_10 rfl rfl (by decide +kernel) ⟨Nat.le_of_ble_eq_true rfl, Nat.le_of_ble_eq_true rfl⟩, hw _ wd_12⟩ (pq_preS hE (hP.sub [] rfl) (hD.sub [] (by decide) rfl)) rfl rfl hl.1 rfl (lv_room (Nat.le_of_ble_eq_true rfl)) dFo_isLine_206 ⟨Nat.zero_le _, Nat.zero_le _⟩) (fun H locs hP hD hS => ?_)
      have hP : va_P D vwCl (wN ad cI cS) H := hP.sub [] rfl
      have hD : va_D _ (wN ad cI cS) := hD.sub [] (by decide) rfl
      refine lv_if_eq (tgt := 216) hx hb dFo_isLine_209 (by decide) (fun h44 => ?_) (fun h44 => ?_)
      · refine lv_iconst (v := 0) hx hb dFo_isLine_216 (by first | rfl | decide) ?_
        have e9 : FFo_isLine xk xa xb xc = 0 := by simp only [FFo_isLine, if_neg h1, if_neg h2, if_neg h6, if_neg h10, if_neg h14, if_neg h18, if_neg h22, if_neg h26, if_neg h30, if_neg h35, if_neg h40, if_neg h41, if_pos h42, if_neg h43, if_pos h44]
        exact W.zret (v := 0) hx hb hr rfl (fun t ht hW => ⟨⟨0, (), rfl, (by show _ = _; rw [e9]), by rw [ht]; exact hP, hD⟩, hS.F ht⟩) hS.2.2 dFo_isLine_217
      · refine lv_iconst (v := 1) hx hb dFo_isLine_212 (by first | rfl | decide) ?_
        refine lv_goto (tgt := 217) hx hb dFo_isLine_213 (by decide) ?_
        have e9 : FFo_isLine xk xa xb xc = 1 := by simp only [FFo_isLine, if_neg h1, if_neg h2, if_neg h6, if_neg h10, if_neg h14, if_neg h18, if_neg h22, if_neg h26, if_neg h30, if_neg h35, if_neg h40, if_neg h41, if_pos h42, if_neg h43, if_neg h44]
        exact W.zret (v := 1) hx hb hr rfl (fun t ht hW => ⟨⟨1, (), rfl, (by show _ = _; rw [e9]), by rw [ht]; exact hP, hD⟩, hS.F ht⟩) hS.2.2 dFo_isLine_217
  by_cases h45 : xk = 13
  · refine lv_tableIn (off := 217) (tgt := 218) hx hb dFo_isLine_1 (by rw [h45]; decide) (by rw [h45]; decide) (by rw [h45]; rfl) (by decide) ?_
    refine lv_iload_n hx hb dFo_isLine_218 rfl (lv_at hl 1 rfl) ?_
    refine lv_iconst (v := 1) hx hb dFo_isLine_219 (by first | rfl | decide) ?_
    refine lv_icmp_lt (tgt := 233) hx hb dFo_isLine_220 (by decide) (fun h46 => ?_) (fun h46 => ?_)
    · refine lv_iconst (v := 0) hx hb dFo_isLine_233 (by first | rfl | decide) ?_
      have e9 : FFo_isLine xk xa xb xc = 0 := by simp only [FFo_isLine, if_neg h1, if_neg h2, if_neg h6, if_neg h10, if_neg h14, if_neg h18, if_neg h22, if_neg h26, if_neg h30, if_neg h35, if_neg h40, if_neg h41, if_neg h42, if_pos h45, if_pos h46]
      exact W.zret (v := 0) hx hb hr rfl (fun t ht hW => ⟨⟨0, (), rfl, (by show _ = _; rw [e9]), by rw [ht]; exact hP, hD⟩, hS.F ht⟩) hS.2.2 dFo_isLine_234
    · refine lv_iload_n hx hb dFo_isLine_223 rfl (lv_at hl 1 rfl) ?_
      refine lv_bipush (v := 40) hx hb dFo_isLine_224 (by first | rfl | decide) ?_
      refine lv_icmp_gt (tgt := 233) hx hb dFo_isLine_226 (by decide) (fun h47 => ?_) (fun h47 => ?_)
      · refine lv_iconst (v := 0) hx hb dFo_isLine_233 (by first | rfl | decide) ?_
        have e9 : FFo_isLine xk xa xb xc = 0 := by simp only [FFo_isLine, if_neg h1, if_neg h2, if_neg h6, if_neg h10, if_neg h14, if_neg h18, if_neg h22, if_neg h26, if_neg h30, if_neg h35, if_neg h40, if_neg h41, if_neg h42, if_pos h45, if_neg h46, if_pos h47]
        exact W.zret (v := 0) hx hb hr rfl (fun t ht hW => ⟨⟨0, (), rfl, (by show _ = _; rw [e9]), by rw [ht]; exact hP, hD⟩, hS.F ht⟩) hS.2.2 dFo_isLine_234
      · refine lv_iconst (v := 1) hx hb dFo_isLine_229 (by first | rfl | decide) ?_
        refine lv_goto (tgt := 234) hx hb dFo_isLine_230 (by decide) ?_
        have e9 : FFo_isLine xk xa xb xc = 1 := by simp only [FFo_isLine, if_neg h1, if_neg h2, if_neg h6, if_neg h10, if_neg h14, if_neg h18, if_neg h22, if_neg h26, if_neg h30, if_neg h35, if_neg h40, if_neg h41, if_neg h42, if_pos h45, if_neg h46, if_neg h47]
        exact W.zret (v := 1) hx hb hr rfl (fun t ht hW => ⟨⟨1, (), rfl, (by show _ = _; rw [e9]), by rw [ht]; exact hP, hD⟩, hS.F ht⟩) hS.2.2 dFo_isLine_234
  by_cases h48 : xk = 14
  · refine lv_tableIn (off := 234) (tgt := 235) hx hb dFo_isLine_1 (by rw [h48]; decide) (by rw [h48]; decide) (by rw [h48]; rfl) (by decide) ?_
    refine lv_iconst (v := 1) hx hb dFo_isLine_235 (by first | rfl | decide) ?_
    have e9 : FFo_isLine xk xa xb xc = 1 := by simp only [FFo_isLine, if_neg h1, if_neg h2, if_neg h6, if_neg h10, if_neg h14, if_neg h18, if_neg h22, if_neg h26, if_neg h30, if_neg h35, if_neg h40, if_neg h41, if_neg h42, if_neg h45, if_pos h48]
    exact W.zret (v := 1) hx hb hr rfl (fun t ht hW => ⟨⟨1, (), rfl, (by show _ = _; rw [e9]), by rw [ht]; exact hP, hD⟩, hS.F ht⟩) hS.2.2 dFo_isLine_236
  by_cases h49 : xk = 15
  · refine lv_tableIn (off := 234) (tgt := 235) hx hb dFo_isLine_1 (by rw [h49]; decide) (by rw [h49]; decide) (by rw [h49]; rfl) (by decide) ?_
    refine lv_iconst (v := 1) hx hb dFo_isLine_235 (by first | rfl | decide) ?_
    have e9 : FFo_isLine xk xa xb xc = 1 := by simp only [FFo_isLine, if_neg h1, if_neg h2, if_neg h6, if_neg h10, if_neg h14, if_neg h18, if_neg h22, if_neg h26, if_neg h30, if_neg h35, if_neg h40, if_neg h41, if_neg h42, if_neg h45, if_neg h48, if_pos h49]
    exact W.zret (v := 1) hx hb hr rfl (fun t ht hW => ⟨⟨1, (), rfl, (by show _ = _; rw [e9]), by rw [ht]; exact hP, hD⟩, hS.F ht⟩) hS.2.2 dFo_isLine_236
  have th1 := pq_ne (x := xk) (k := 0) (y := 0) (by first | rfl | decide) h1
  have th2 := pq_ne (x := xk) (k := 1) (y := 1) (by first | rfl | decide) h2
  have th6 := pq_ne (x := xk) (k := 2) (y := 2) (by first | rfl | decide) h6
  have th10 := pq_ne (x := xk) (k := 3) (y := 3) (by first | rfl | decide) h10
  have th14 := pq_ne (x := xk) (k := 4) (y := 4) (by first | rfl | decide) h14
  have th18 := pq_ne (x := xk) (k := 5) (y := 5) (by first | rfl | decide) h18
  have th22 := pq_ne (x := xk) (k := 6) (y := 6) (by first | rfl | decide) h22
  have th26 := pq_ne (x := xk) (k := 7) (y := 7) (by first | rfl | decide) h26
  have th30 := pq_ne (x := xk) (k := 8) (y := 8) (by first | rfl | decide) h30
  have th35 := pq_ne (x := xk) (k := 9) (y := 9) (by first | rfl | decide) h35
  have th40 := pq_ne (x := xk) (k := 10) (y := 10) (by first | rfl | decide) h40
  have th41 := pq_ne (x := xk) (k := 11) (y := 11) (by first | rfl | decide) h41
  have th42 := pq_ne (x := xk) (k := 12) (y := 12) (by first | rfl | decide) h42
  have th45 := pq_ne (x := xk) (k := 13) (y := 13) (by first | rfl | decide) h45
  have th48 := pq_ne (x := xk) (k := 14) (y := 14) (by first | rfl | decide) h48
  have th49 := pq_ne (x := xk) (k := 15) (y := 15) (by first | rfl | decide) h49
  refine lv_tableOut (tgt := 237) hx hb dFo_isLine_1 (by omega) (by decide) ?_
  refine lv_iconst (v := 0) hx hb dFo_isLine_237 (by first | rfl | decide) ?_
  have e9 : FFo_isLine xk xa xb xc = 0 := by simp only [FFo_isLine, if_neg h1, if_neg h2, if_neg h6, if_neg h10, if_neg h14, if_neg h18, if_neg h22, if_neg h26, if_neg h30, if_neg h35, if_neg h40, if_neg h41, if_neg h42, if_neg h45, if_neg h48, if_neg h49]
  exact W.zret (v := 0) hx hb hr rfl (fun t ht hW => ⟨⟨0, (), rfl, (by show _ = _; rw [e9]), by rw [ht]; exact hP, hD⟩, hS.F ht⟩) hS.2.2 dFo_isLine_238
