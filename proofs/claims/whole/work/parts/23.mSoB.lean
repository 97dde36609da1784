theorem wd_173 : Cond.methodLink RSo 34 yAr_fill ∈ pq_ws := pq_memT 33 (by decide +kernel) (by decide +kernel)
theorem wd_174 : Cond.initialized RAr ∈ pq_ws := pq_memT 3 (by decide +kernel) (by decide +kernel)
theorem wd_175 : Cond.code yAr_fill cAr_fill 4 none ∈ pq_ws := pq_memT 35 (by decide +kernel) (by decide +kernel)
theorem wd_176 : Cond.static yAr_fill ∈ pq_ws := pq_memT 34 (by decide +kernel) (by decide +kernel)
def FSo_forget  : (Nat → Int32) × Int32 := (fun _ => (-1), 0)
set_option maxHeartbeats 4000000 in
set_option maxRecDepth 100000 in
theorem k_So_forget (l : Launch) (D : va_G) (ad : Nat → Nat) (cI cS : ClassId) (sn : Int32) (sK : Nat → Int32) (sA : Nat → Int32) (sB : Nat → Int32) (sC : Nat → Int32) (sL : Nat → Int32) : pq_V l ySo_forget (.code ySo_forget cSo_forget 1 none :: pq_ws) { frames := 1, cells := 0, slots := 0, locals := 23 } D cI cS [.ref (ad 1)] (wS ad cI cS sn sK sA sB sC sL) (wS ad cI cS ((FSo_forget).2) sK sA sB sC ((FSo_forget).1)) := by
  intro sz
  refine Met.ofW (cc := cSo_forget) (maxL := 1) (ret := none) (by decide) rfl ?_
  intro p e s m args below meth c s₁ B hml hv
  obtain ⟨rfl, hsz, hP, hD0, hE⟩ := hv
  have hx := B.exec
  have hb := B.bytes
  have hr := B.returns
  have hts := atoms_spec (ws := (.code ySo_forget cSo_forget 1 none :: pq_ws : List Cond)) B.pre
  have hw : ∀ w ∈ pq_ws, w.before _ s = true := fun w h => hts w (List.mem_cons_of_mem _ h)
  have hown : s.vm.findClass RSo = some m.cls := findClass_of_methodNamed B.named
  have hlocks := B.notSynchronized
  subst hsz
  have hD := hD0.self (sz := s.heap.size)
  have hA : ∀ q : Nat, s.heap.size ≤ q → va_A (wS ad cI cS sn sK sA sB sC sL) s.heap.size q := fun q h => Or.inr h
  have hS : va_S (va_A (wS ad cI cS sn sK sA sB sC sL) s.heap.size) s.heap s.heap [] := va_S.rf
  have hl := lv_entry ([.ref (ad 1)] : List Value) (n := 1) (Nat.le_of_ble_eq_true rfl)
  rw [lg_entry_eq]
  generalize (lg_sl ([.ref (ad 1)] : List Value) ++ List.replicate (1 - (lg_sl ([.ref (ad 1)] : List Value)).length) Slot.unset).toArray = ls at hl ⊢
  have hl : lv_has ls 1 [(0, .ref (ad 1))] := hl
  refine lv_aload_n hx hb dSo_forget_0 rfl (lv_at hl 0 rfl) ?_
  refine lv_iconst (v := 0) hx hb dSo_forget_1 (by first | rfl | decide) ?_
  refine va_put (D := D) (ci := 3) (v := .int 0) (ty := .int) (C := RSo) (T := TSo) (N := 6) hx hb hw pinSo tySo tySo_ok nmSo hown hE.1 hP hD hS 0 rfl rfl 5 (by decide) (hw _ wd_13) (fun _ h9 => h9) rfl (by decide +kernel) rfl rfl (Nat.le_of_ble_eq_true rfl) dSo_forget_2 (fun H locs hP hD hS => ?_)
  have hP : va_P D vwCl (wS ad cI cS 0 sK sA sB sC sL) H := hP
  have hD : va_D _ (wS ad cI cS 0 sK sA sB sC sL) := hD
  refine lv_aload_n hx hb dSo_forget_5 rfl (lv_at hl 0 rfl) ?_
  refine va_get (D := D) (ci := 3) (v := .ref (ad 9)) (C := RSo) (T := TSo) (N := 6) hx hb hw pinSo hown hE.1 hP 0 rfl rfl 4 (by decide) (hw _ wd_14) (fun _ h9 => h9) rfl dSo_forget_6 ?_
  refine lv_iconst (v := (-1)) hx hb dSo_forget_9 (by first | rfl | decide) ?_
  refine pq_callv (wc := [(ad 9, .inl (cI, 16, .inl sL))]) (wr := ([0, 1, 2, 3, 4] : List Nat).filterMap (fun i => (wS ad cI cS 0 sK sA sB sC sL)[i]?)) hP hD hS hA [5] [0, 1, 2, 3, 4] rfl rfl (by decide) (by decide) (va_runS (own := RSo) (As := [.ref (ad 9), .int (-1)]) (rest := []) ⟨hx, hb, hml, hown, hw⟩ (k_Ar_fill l D cI cS (ad 9) 16 sL (-1) (by decide) H.size) ⟨pq_cwB 2 hw wd_173 wd_174 wd_175 rfl rfl (by decide +kernel) ⟨Nat.le_of_ble_eq_true rfl, Nat.le_of_ble_eq_true rfl⟩, hw _ wd_176⟩ (pq_preS hE (hP.sub [5] rfl) (hD.sub [5] (by decide) rfl)) rfl rfl hl.1 rfl (lv_room (Nat.le_of_ble_eq_true rfl)) dSo_forget_10 ⟨Nat.zero_le _, Nat.zero_le _⟩) (fun _ H locs hP hD hS => ?_)
  have hP : va_P D vwCl (wS ad cI cS 0 sK sA sB sC (fun _ => (-1))) H := hP.sub [0, 1, 2, 3, 4, 5] rfl
  have hD : va_D _ (wS ad cI cS 0 sK sA sB sC (fun _ => (-1))) := hD.sub [0, 1, 2, 3, 4, 5] (by decide) rfl
  have e9 : FSo_forget = (fun _ => (-1), 0) := rfl
  exact W.vret hx hb hr (fun t ht hW => ⟨⟨(), rfl, trivial, by rw [e9, ht]; exact hP, by rw [e9]; exact hD⟩, hS.F ht⟩) hS.2.2 dSo_forget_13
