theorem wd_177 : Cond.methodLink RPr 22 yAr_fill ∈ pq_ws := pq_memT 210 (by decide +kernel) (by decide +kernel)
theorem wd_178 : Cond.fieldLink RPr 32 RPr "ended" "I" ∈ pq_ws := pq_memT 137 (by decide +kernel) (by decide +kernel)
theorem wd_179 : Cond.constant RPr 58 65535 ∈ pq_ws := pq_memT 458 (by decide +kernel) (by decide +kernel)
theorem wd_180 : Cond.code yPr_perform cPr_perform 2 (some .int) ∈ pq_ws := pq_memT 462 (by decide +kernel) (by decide +kernel)
theorem wd_181 : Cond.methodLink RPr 59 yPr_perform ∈ pq_ws := pq_memT 459 (by decide +kernel) (by decide +kernel)
theorem wd_182 : Cond.instanceMethod yPr_perform ∈ pq_ws := pq_memT 461 (by decide +kernel) (by decide +kernel)
theorem wd_183 : Cond.selects RPr yPr_perform yPr_perform ∈ pq_ws := pq_mem (by decide +kernel) (by decide +kernel)
theorem nw_16 : Cond.methodLinkNest RPr 54 yIm_at "PoolAssembler" ∈ pq_nws := pq_nmem 457 (by decide +kernel) rfl
def FPr_begin  : (Nat → Int32) × (Nat → Int32) × Int32 × Int32 × Int32 × Int32 × Int32 × Int32 := (fun _ => 0, fun _ => 0, 0, 0, 0, 0, 0, 0)
set_option maxHeartbeats 4000000 in
set_option maxRecDepth 100000 in
theorem k_Pr_begin (l : Launch) (D : va_G) (ad : Nat → Nat) (cI cS : ClassId) (rp : Int32) (re : Int32) (fn : Int32) (fz : Int32) (fc : Int32) (fv : Int32) (rr : Nat → Int32) (rw : Nat → Int32) (gn : Int32) (gp : Int32) (gh : Nat → Int32) : pq_V l yPr_begin (.code yPr_begin cPr_begin 1 none :: pq_ws) { frames := 1, cells := 0, slots := 0, locals := 23 } D cI cS [.ref (ad 4)] (wP ad cI cS rp re fn fz fc fv rr rw gn gp gh) (wP ad cI cS ((FPr_begin).2.2.1) ((FPr_begin).2.2.2.1) ((FPr_begin).2.2.2.2.1) ((FPr_begin).2.2.2.2.2.1) ((FPr_begin).2.2.2.2.2.2.1) ((FPr_begin).2.2.2.2.2.2.2) ((FPr_begin).1) ((FPr_begin).2.1) gn gp gh) := by
  intro sz
  refine Met.ofW (cc := cPr_begin) (maxL := 1) (ret := none) (by decide) rfl ?_
  intro p e s m args below meth c s₁ B hml hv
  obtain ⟨rfl, hsz, hP, hD0, hE⟩ := hv
  have hx := B.exec
  have hb := B.bytes
  have hr := B.returns
  have hts := atoms_spec (ws := (.code yPr_begin cPr_begin 1 none :: pq_ws : List Cond)) B.pre
  have hw : ∀ w ∈ pq_ws, w.before _ s = true := fun w h => hts w (List.mem_cons_of_mem _ h)
  have hown : s.vm.findClass RPr = some m.cls := findClass_of_methodNamed B.named
  have hlocks := B.notSynchronized
  subst hsz
  have hD := hD0.self (sz := s.heap.size)
  have hA : ∀ q : Nat, s.heap.size ≤ q → va_A (wP ad cI cS rp re fn fz fc fv rr rw gn gp gh) s.heap.size q := fun q h => Or.inr h
  have hS : va_S (va_A (wP ad cI cS rp re fn fz fc fv rr rw gn gp gh) s.heap.size) s.heap s.heap [] := va_S.rf
  have hl := lv_entry ([.ref (ad 4)] : List Value) (n := 1) (Nat.le_of_ble_eq_true rfl)
  rw [lg_entry_eq]
  generalize (lg_sl ([.ref (ad 4)] : List Value) ++ List.replicate (1 - (lg_sl ([.ref (ad 4)] : List Value)).length) Slot.unset).toArray = ls at hl ⊢
  have hl : lv_has ls 1 [(0, .ref (ad 4))] := hl
  refine lv_aload_n hx hb dPr_begin_0 rfl (lv_at hl 0 rfl) ?_
  refine va_get (D := D) (ci := 2) (v := .ref (ad 15)) (C := RPr) (T := TPr) (N := 9) hx hb hw pinPr hown hE.1 hP 0 rfl rfl 1 (by decide) (hw _ wd_50) (fun _ h9 => h9) rfl dPr_begin_1 ?_
  refine lv_iconst (v := 0) hx hb dPr_begin_4 (by first | rfl | decide) ?_
  refine pq_callv (wc := [(ad 15, .inl (cI, 8, .inl rr))]) (wr := ([0, 2, 3, 4] : List Nat).filterMap (fun i => (wP ad cI cS rp re fn fz fc fv rr rw gn gp gh)[i]?)) hP hD hS hA [1] [0, 2, 3, 4] rfl rfl (by decide) (by decide) (va_runS (own := RPr) (As := [.ref (ad 15), .int 0]) (rest := []) ⟨hx, hb, hml, hown, hw⟩ (k_Ar_fill l D cI cS (ad 15) 8 rr 0 (by decide) s.heap.size) ⟨pq_cwB 2 hw wd_177 wd_174 wd_175 rfl rfl (by decide +kernel) ⟨Nat.le_of_ble_eq_true rfl, Nat.le_of_ble_eq_true rfl⟩, hw _ wd_176⟩ (pq_preS hE (hP.sub [1] rfl) (hD.sub [1] (by decide) rfl)) rfl rfl hl.1 rfl (lv_room (Nat.le_of_ble_eq_true rfl)) dPr_begin_5 ⟨Nat.zero_le _, Nat.zero_le _⟩) (fun _ H locs hP hD hS => ?_)
  have hP : va_P D vwCl (wP ad cI cS rp re fn fz fc fv (fun _ => 0) rw gn gp gh) H := hP.sub [0, 4, 1, 2, 3] rfl
  have hD : va_D _ (wP ad cI cS rp re fn fz fc fv (fun _ => 0) rw gn gp gh) := hD.sub [0, 4, 1, 2, 3] (by decide) rfl
  refine lv_aload_n hx hb dPr_begin_8 rfl (lv_at hl 0 rfl) ?_
  refine va_get (D := D) (ci := 2) (v := .ref (ad 16)) (C := RPr) (T := TPr) (N := 9) hx hb hw pinPr hown hE.1 hP 0 rfl rfl 2 (by decide) (hw _ wd_68) (fun _ h9 => h9) rfl dPr_begin_9 ?_
  refine lv_iconst (v := 0) hx hb dPr_begin_12 (by first | rfl | decide) ?_
  refine pq_callv (wc := [(ad 16, .inl (cI, 32, .inl rw))]) (wr := ([0, 1, 3, 4] : List Nat).filterMap (fun i => (wP ad cI cS rp re fn fz fc fv (fun _ => 0) rw gn gp gh)[i]?)) hP hD hS hA [2] [0, 1, 3, 4] rfl rfl (by decide) (by decide) (va_runS (own := RPr) (As := [.ref (ad 16), .int 0]) (rest := []) ⟨hx, hb, hml, hown, hw⟩ (k_Ar_fill l D cI cS (ad 16) 32 rw 0 (by decide) H.size) ⟨pq_cwB 2 hw wd_177 wd_174 wd_175 rfl rfl (by decide +kernel) ⟨Nat.le_of_ble_eq_true rfl, Nat.le_of_ble_eq_true rfl⟩, hw _ wd_176⟩ (pq_preS hE (hP.sub [2] rfl) (hD.sub [2] (by decide) rfl)) rfl rfl hl.1 rfl (lv_room (Nat.le_of_ble_eq_true rfl)) dPr_begin_13 ⟨Nat.zero_le _, Nat.zero_le _⟩) (fun _ H locs hP hD hS => ?_)
  have hP : va_P D vwCl (wP ad cI cS rp re fn fz fc fv (fun _ => 0) (fun _ => 0) gn gp gh) H := hP.sub [0, 1, 4, 2, 3] rfl
  have hD : va_D _ (wP ad cI cS rp re fn fz fc fv (fun _ => 0) (fun _ => 0) gn gp gh) := hD.sub [0, 1, 4, 2, 3] (by decide) rfl
  refine lv_aload_n hx hb dPr_begin_16 rfl (lv_at hl 0 rfl) ?_
  refine lv_iconst (v := 0) hx hb dPr_begin_17 (by first | rfl | decide) ?_
  refine va_put (D := D) (ci := 2) (v := .int 0) (ty := .int) (C := RPr) (T := TPr) (N := 9) hx hb hw pinPr tyPr tyPr_ok nmPr hown hE.1 hP hD hS 0 rfl rfl 3 (by decide) (hw _ wd_31) (fun _ h9 => h9) rfl (by decide +kernel) rfl rfl (Nat.le_of_ble_eq_true rfl) dPr_begin_18 (fun H locs hP hD hS => ?_)
  have hP : va_P D vwCl (wP ad cI cS 0 re fn fz fc fv (fun _ => 0) (fun _ => 0) gn gp gh) H := hP
  have hD : va_D _ (wP ad cI cS 0 re fn fz fc fv (fun _ => 0) (fun _ => 0) gn gp gh) := hD
  refine lv_aload_n hx hb dPr_begin_21 rfl (lv_at hl 0 rfl) ?_
  refine lv_iconst (v := 0) hx hb dPr_begin_22 (by first | rfl | decide) ?_
  refine va_put (D := D) (ci := 2) (v := .int 0) (ty := .int) (C := RPr) (T := TPr) (N := 9) hx hb hw pinPr tyPr tyPr_ok nmPr hown hE.1 hP hD hS 0 rfl rfl 4 (by decide) (hw _ wd_178) (fun _ h9 => h9) rfl (by decide +kernel) rfl rfl (Nat.le_of_ble_eq_true rfl) dPr_begin_23 (fun H locs hP hD hS => ?_)
  have hP : va_P D vwCl (wP ad cI cS 0 0 fn fz fc fv (fun _ => 0) (fun _ => 0) gn gp gh) H := hP
  have hD : va_D _ (wP ad cI cS 0 0 fn fz fc fv (fun _ => 0) (fun _ => 0) gn gp gh) := hD
  refine lv_aload_n hx hb dPr_begin_26 rfl (lv_at hl 0 rfl) ?_
  refine lv_iconst (v := 0) hx hb dPr_begin_27 (by first | rfl | decide) ?_
  refine va_put (D := D) (ci := 2) (v := .int 0) (ty := .boolean) (C := RPr) (T := TPr) (N := 9) hx hb hw pinPr tyPr tyPr_ok nmPr hown hE.1 hP hD hS 0 rfl rfl 5 (by decide) (hw _ wd_27) (fun _ h9 => h9) rfl (by decide +kernel) rfl rfl (Nat.le_of_ble_eq_true rfl) dPr_begin_28 (fun H locs hP hD hS => ?_)
  have hP : va_P D vwCl (wP ad cI cS 0 0 0 fz fc fv (fun _ => 0) (fun _ => 0) gn gp gh) H := hP
  have hD : va_D _ (wP ad cI cS 0 0 0 fz fc fv (fun _ => 0) (fun _ => 0) gn gp gh) := hD
  refine lv_aload_n hx hb dPr_begin_31 rfl (lv_at hl 0 rfl) ?_
  refine lv_iconst (v := 0) hx hb dPr_begin_32 (by first | rfl | decide) ?_
  refine va_put (D := D) (ci := 2) (v := .int 0) (ty := .boolean) (C := RPr) (T := TPr) (N := 9) hx hb hw pinPr tyPr tyPr_ok nmPr hown hE.1 hP hD hS 0 rfl rfl 6 (by decide) (hw _ wd_28) (fun _ h9 => h9) rfl (by decide +kernel) rfl rfl (Nat.le_of_ble_eq_true rfl) dPr_begin_33 (fun H locs hP hD hS => ?_)
  have hP : va_P D vwCl (wP ad cI cS 0 0 0 0 fc fv (fun _ => 0) (fun _ => 0) gn gp gh) H := hP
  have hD : va_D _ (wP ad cI cS 0 0 0 0 fc fv (fun _ => 0) (fun _ => 0) gn gp gh) := hD
  refine lv_aload_n hx hb dPr_begin_36 rfl (lv_at hl 0 rfl) ?_
  refine lv_iconst (v := 0) hx hb dPr_begin_37 (by first | rfl | decide) ?_
  refine va_put (D := D) (ci := 2) (v := .int 0) (ty := .boolean) (C := RPr) (T := TPr) (N := 9) hx hb hw pinPr tyPr tyPr_ok nmPr hown hE.1 hP hD hS 0 rfl rfl 7 (by decide) (hw _ wd_29) (fun _ h9 => h9) rfl (by decide +kernel) rfl rfl (Nat.le_of_ble_eq_true rfl) dPr_begin_38 (fun H locs hP hD hS => ?_)
  have hP : va_P D vwCl (wP ad cI cS 0 0 0 0 0 fv (fun _ => 0) (fun _ => 0) gn gp gh) H := hP
  have hD : va_D _ (wP ad cI cS 0 0 0 0 0 fv (fun _ => 0) (fun _ => 0) gn gp gh) := hD
  refine lv_aload_n hx hb dPr_begin_41 rfl (lv_at hl 0 rfl) ?_
  refine lv_iconst (v := 0) hx hb dPr_begin_42 (by first | rfl | decide) ?_
  refine va_put (D := D) (ci := 2) (v := .int 0) (ty := .boolean) (C := RPr) (T := TPr) (N := 9) hx hb hw pinPr tyPr tyPr_ok nmPr hown hE.1 hP hD hS 0 rfl rfl 8 (by decide) (hw _ wd_30) (fun _ h9 => h9) rfl (by decide +kernel) rfl rfl (Nat.le_of_ble_eq_true rfl) dPr_begin_43 (fun H locs hP hD hS => ?_)
  have hP : va_P D vwCl (wP ad cI cS 0 0 0 0 0 0 (fun _ => 0) (fun _ => 0) gn gp gh) H := hP
  have hD : va_D _ (wP ad cI cS 0 0 0 0 0 0 (fun _ => 0) (fun _ => 0) gn gp gh) := hD
  have e9 : FPr_begin = (fun _ => 0, fun _ => 0, 0, 0, 0, 0, 0, 0) := rfl
  exact W.vret hx hb hr (fun t ht hW => ⟨⟨(), rfl, trivial, by rw [e9, ht]; exact hP, by rw [e9]; exact hD⟩, hS.F ht⟩) hS.2.2 dPr_begin_46
def LPr_goOn_2 : Nat → (Int32) → (Int32) → (Nat → Int32) → (Nat) → (Nat → Int32) → (Nat → Int32) → (Int32) → (Int32) → (Int32) → (Int32) → (Int32) → (Int32) → Nat × (Nat → Int32) × (Nat → Int32) × Int32 × Int32 × Int32 × Int32 × Int32 × Int32
  | 0, _, _, _, i, rr, rw, rp, re, fn, fz, fc, fv => (i, rr, rw, rp, re, fn, fz, fc, fv)
  | n + 1, xf, gn, gh, i, rr, rw, rp, re, fn, fz, fc, fv => if xf ≤ (nI i) then (i, rr, rw, rp, re, fn, fz, fc, fv) else if re = 0 then if (FIm_holds rp gn) = 0 then LPr_goOn_2 n xf gn gh (i + 1) rr rw rp 2 fn fz fc fv else LPr_goOn_2 n xf gn gh (i + 1) ((FPr_perform ((FIm_at (rp / 2) gn gh) &&& (65535 : Int32)) rp fn fz fc fv rr rw gn gh).2.1) ((FPr_perform ((FIm_at (rp / 2) gn gh) &&& (65535 : Int32)) rp fn fz fc fv rr rw gn gh).2.2.1) ((FPr_perform ((FIm_at (rp / 2) gn gh) &&& (65535 : Int32)) rp fn fz fc fv rr rw gn gh).2.2.2.1) ((FPr_perform ((FIm_at (rp / 2) gn gh) &&& (65535 : Int32)) rp fn fz fc fv rr rw gn gh).1) ((FPr_perform ((FIm_at (rp / 2) gn gh) &&& (65535 : Int32)) rp fn fz fc fv rr rw gn gh).2.2.2.2.1) ((FPr_perform ((FIm_at (rp / 2) gn gh) &&& (65535 : Int32)) rp fn fz fc fv rr rw gn gh).2.2.2.2.2.1) ((FPr_perform ((FIm_at (rp / 2) gn gh) &&& (65535 : Int32)) rp fn fz fc fv rr rw gn gh).2.2.2.2.2.2.1) ((FPr_perform ((FIm_at (rp / 2) gn gh) &&& (65535 : Int32)) rp fn fz fc fv rr rw gn gh).2.2.2.2.2.2.2) else (i, rr, rw, rp, re, fn, fz, fc, fv)
set_option maxHeartbeats 4000000 in
set_option maxRecDepth 100000 in
theorem qPr_goOn_2 {p : Program} {l : Launch} {e : Env} {R : Room} {s : State} {m : MethodId} {args : Array Value} {below : List Frame} {meth : Method} {c : Code} {Q : State → Prop} {A : Nat → Prop} (D : va_G) (ad : Nat → Nat) (cI cS : ClassId) (hx : p.tables.exec = Jvm.exec) (hb : c.code = cPr_goOn) (hml : c.maxLocals = 3) (hw : ∀ w ∈ pq_ws, w.before args s = true) (hown : s.vm.findClass RPr = some m.cls) (hE : pq_E D cI cS s) (hA : ∀ q : Nat, s.heap.size ≤ q → A q) (hR : 4 ≤ R.frames ∧ 89 ≤ R.locals) (xf : Int32) : ∀ (n : Nat) (i : Nat) (rp : Int32) (re : Int32) (fn : Int32) (fz : Int32) (fc : Int32) (fv : Int32) (rr : Nat → Int32) (rw : Nat → Int32) (gn : Int32) (gp : Int32) (gh : Nat → Int32) (ls : Array Slot) (H : Heap) (locs : List Loc), (i < 2 ^ 31) → (gn.toInt ≤ 6400) → (xf.toInt.toNat - i) < n → lv_has ls 3 [(0, .ref (ad 4)), (1, .int xf), (2, .int (nI i))] → va_P D vwCl (wP ad cI cS rp re fn fz fc fv rr rw gn gp gh) H → va_D A (wP ad cI cS rp re fn fz fc fv rr rw gn gp gh) → va_S A s.heap H locs → (∀ (ls : Array Slot) (H : Heap) (locs : List Loc), lv_has ls 3 [(0, .ref (ad 4)), (1, .int xf), (2, .int (nI ((LPr_goOn_2 n xf gn gh i rr rw rp re fn fz fc fv).1)))] → va_P D vwCl (wP ad cI cS ((LPr_goOn_2 n xf gn gh i rr rw rp re fn fz fc fv).2.2.2.1) ((LPr_goOn_2 n xf gn gh i rr rw rp re fn fz fc fv).2.2.2.2.1) ((LPr_goOn_2 n xf gn gh i rr rw rp re fn fz fc fv).2.2.2.2.2.1) ((LPr_goOn_2 n xf gn gh i rr rw rp re fn fz fc fv).2.2.2.2.2.2.1) ((LPr_goOn_2 n xf gn gh i rr rw rp re fn fz fc fv).2.2.2.2.2.2.2.1) ((LPr_goOn_2 n xf gn gh i rr rw rp re fn fz fc fv).2.2.2.2.2.2.2.2) ((LPr_goOn_2 n xf gn gh i rr rw rp re fn fz fc fv).2.1) ((LPr_goOn_2 n xf gn gh i rr rw rp re fn fz fc fv).2.2.1) gn gp gh) H → va_D A (wP ad cI cS ((LPr_goOn_2 n xf gn gh i rr rw rp re fn fz fc fv).2.2.2.1) ((LPr_goOn_2 n xf gn gh i rr rw rp re fn fz fc fv).2.2.2.2.1) ((LPr_goOn_2 n xf gn gh i rr rw rp re fn fz fc fv).2.2.2.2.2.1) ((LPr_goOn_2 n xf gn gh i rr rw rp re fn fz fc fv).2.2.2.2.2.2.1) ((LPr_goOn_2 n xf gn gh i rr rw rp re fn fz fc fv).2.2.2.2.2.2.2.1) ((LPr_goOn_2 n xf gn gh i rr rw rp re fn fz fc fv).2.2.2.2.2.2.2.2) ((LPr_goOn_2 n xf gn gh i rr rw rp re fn fz fc fv).2.1) ((LPr_goOn_2 n xf gn gh i rr rw rp re fn fz fc fv).2.2.1) gn gp gh) → va_S A s.heap H locs → W p l e R s m args below meth c H locs 0 0 Q (F0 m 62 ls [])) → W p l e R s m args below meth c H locs 0 0 Q (F0 m 2 ls []) := by
  intro n
  induction n with
  | zero =>
    intro i rp re fn fz fc fv rr rw gn gp gh ls H locs hi hgn hm hl hP hD hS kk
    exact absurd hm (Nat.not_lt_zero _)
  | succ n ih =>
    intro i rp re fn fz fc fv rr rw gn gp gh ls H locs hi hgn hm hl hP hD hS kk
    refine lv_iload_n hx hb dPr_goOn_2 rfl (lv_at hl 2 rfl) ?_
    refine lv_iload_n hx hb dPr_goOn_3 rfl (lv_at hl 1 rfl) ?_
    refine lv_icmp_ge (tgt := 62) hx hb dPr_goOn_4 (by decide) (fun h1 => ?_) (fun h1 => ?_)
    · have e9 : LPr_goOn_2 (n + 1) xf gn gh i rr rw rp re fn fz fc fv = (i, rr, rw, rp, re, fn, fz, fc, fv) := by simp only [LPr_goOn_2, if_pos h1]
      rw [e9] at kk
      exact kk ls H locs (lv_sub hl [0, 1, 2] rfl) hP hD hS
    · refine lv_aload_n hx hb dPr_goOn_7 rfl (lv_at hl 0 rfl) ?_
      refine va_get (D := D) (ci := 2) (v := .int re) (C := RPr) (T := TPr) (N := 9) hx hb hw pinPr hown hE.1 hP 0 rfl rfl 4 (by decide) (hw _ wd_178) (fun _ h9 => h9) rfl dPr_goOn_8 ?_
      refine lv_if_ne (tgt := 62) hx hb dPr_goOn_11 (by decide) (fun h2 => ?_) (fun h2 => ?_)
      · have e9 : LPr_goOn_2 (n + 1) xf gn gh i rr rw rp re fn fz fc fv = (i, rr, rw, rp, re, fn, fz, fc, fv) := by simp only [LPr_goOn_2, if_neg h1, if_neg h2]
        rw [e9] at kk
        exact kk ls H locs (lv_sub hl [0, 1, 2] rfl) hP hD hS
      · refine lv_aload_n hx hb dPr_goOn_14 rfl (lv_at hl 0 rfl) ?_
        refine lv_aload_n hx hb dPr_goOn_15 rfl (lv_at hl 0 rfl) ?_
        refine va_get (D := D) (ci := 2) (v := .ref (ad 2)) (C := RPr) (T := TPr) (N := 9) hx hb hw pinPr hown hE.1 hP 0 rfl rfl 0 (by decide) (hw _ wd_61) (fun _ h9 => h9) rfl dPr_goOn_16 ?_
        refine lv_aload_n hx hb dPr_goOn_19 rfl (lv_at hl 0 rfl) ?_
        refine va_get (D := D) (ci := 2) (v := .int rp) (C := RPr) (T := TPr) (N := 9) hx hb hw pinPr hown hE.1 hP 0 rfl rfl 3 (by decide) (hw _ wd_31) (fun _ h9 => h9) rfl dPr_goOn_20 ?_
        refine pq_calli (fr := (FIm_holds rp gn)) (wc := (wI ad cI cS gn gp gh)) (wr := ([0, 1, 2] : List Nat).filterMap (fun i => (wP ad cI cS rp re fn fz fc fv rr rw gn gp gh)[i]?)) hP hD hS hA [3, 4] [0, 1, 2] rfl rfl (by decide) (by decide) (va_runVN (own := RPr) (C := RIm) (As := [.int rp]) (rest := [.ref (ad 4)]) ⟨hx, hb, hml, hown, hw⟩ (k_Im_holds l D ad cI cS rp gn gp gh H.size) ⟨pq_cnB 1 hw (hE.2 _ nw_2) wd_22 wd_62 rfl rfl (by decide +kernel) ⟨Nat.le_trans (by decide) hR.1, Nat.le_trans (by decide) hR.2⟩, hw _ wd_63, hw _ wd_64⟩ (pq_preV (ci := 0) (C := RIm) (T := TIm) (N := 3) hE (hP.sub [3, 4] rfl) (hD.sub [3, 4] (by decide) rfl) rfl 0 rfl) rfl rfl hl.1 rfl (lv_room (Nat.le_of_ble_eq_true rfl)) dPr_goOn_23 ⟨Nat.zero_le _, Nat.zero_le _⟩) (fun H locs hP hD hS => ?_)
        have hP : va_P D vwCl (wP ad cI cS rp re fn fz fc fv rr rw gn gp gh) H := hP.sub [0, 1, 2, 3, 4] rfl
        have hD : va_D _ (wP ad cI cS rp re fn fz fc fv rr rw gn gp gh) := hD.sub [0, 1, 2, 3, 4] (by decide) rfl
        refine lv_if_eq (tgt := 52) hx hb dPr_goOn_26 (by decide) (fun h3 => ?_) (fun h3 => ?_)
        · refine lv_iconst (v := 2) hx hb dPr_goOn_52 (by first | rfl | decide) ?_
          refine va_put (D := D) (ci := 2) (v := .int 2) (ty := .int) (C := RPr) (T := TPr) (N := 9) hx hb hw pinPr tyPr tyPr_ok nmPr hown hE.1 hP hD hS 0 rfl rfl 4 (by decide) (hw _ wd_178) (fun _ h9 => h9) rfl (by decide +kernel) rfl rfl (Nat.le_of_ble_eq_true rfl) dPr_goOn_53 (fun H locs hP hD hS => ?_)
          have hP : va_P D vwCl (wP ad cI cS rp 2 fn fz fc fv rr rw gn gp gh) H := hP
          have hD : va_D _ (wP ad cI cS rp 2 fn fz fc fv rr rw gn gp gh) := hD
          refine lv_iinc (k := 2) (v := (nI i) + 1) (lv' := [(2, .int ((nI i) + 1)), (0, .ref (ad 4)), (1, .int xf)]) hx hb dPr_goOn_56 hl rfl (by first | rfl | decide) (by decide) rfl (fun ls hl => ?_)
          refine lv_goto (tgt := 2) hx hb dPr_goOn_59 (by decide) ?_
          have e9 : LPr_goOn_2 (n + 1) xf gn gh i rr rw rp re fn fz fc fv = LPr_goOn_2 n xf gn gh (i + 1) rr rw rp 2 fn fz fc fv := by simp only [LPr_goOn_2, if_neg h1, if_pos h2, if_pos h3]
          rw [e9] at kk
          rw [nI_1] at hl
          exact ih (i + 1) rp 2 fn fz fc fv rr rw gn gp gh ls H locs (by have := pq_up (j := i) hi (by assumption); have := Int32.toInt_lt xf; omega) hgn (by have := pq_up (j := i) hi (by assumption); omega) (lv_sub hl [1, 2, 0] rfl) hP hD hS kk
        · refine lv_aload_n hx hb dPr_goOn_29 rfl (lv_at hl 0 rfl) ?_
          refine lv_aload_n hx hb dPr_goOn_30 rfl (lv_at hl 0 rfl) ?_
          refine va_get (D := D) (ci := 2) (v := .ref (ad 2)) (C := RPr) (T := TPr) (N := 9) hx hb hw pinPr hown hE.1 hP 0 rfl rfl 0 (by decide) (hw _ wd_61) (fun _ h9 => h9) rfl dPr_goOn_31 ?_
          refine lv_aload_n hx hb dPr_goOn_34 rfl (lv_at hl 0 rfl) ?_
          refine va_get (D := D) (ci := 2) (v := .int rp) (C := RPr) (T := TPr) (N := 9) hx hb hw pinPr hown hE.1 hP 0 rfl rfl 3 (by decide) (hw _ wd_31) (fun _ h9 => h9) rfl dPr_goOn_35 ?_
          refine lv_iconst (v := 2) hx hb dPr_goOn_38 (by first | rfl | decide) ?_
          refine lv_idiv hx hb dPr_goOn_39 (by decide) ?_
          refine pq_calli (fr := (FIm_at (rp / 2) gn gh)) (wc := (wI ad cI cS gn gp gh)) (wr := ([0, 1, 2] : List Nat).filterMap (fun i => (wP ad cI cS rp re fn fz fc fv rr rw gn gp gh)[i]?)) hP hD hS hA [3, 4] [0, 1, 2] rfl rfl (by decide) (by decide) (va_runVN (own := RPr) (C := RIm) (As := [.int (rp / 2)]) (rest := [.ref (ad 4), .ref (ad 4)]) ⟨hx, hb, hml, hown, hw⟩ (k_Im_at l D ad cI cS (rp / 2) gn gp gh hgn H.size) ⟨pq_cnB 1 hw (hE.2 _ nw_16) wd_22 wd_21 rfl rfl (by decide +kernel) ⟨Nat.le_trans (by decide) hR.1, Nat.le_trans (by decide) hR.2⟩, hw _ wd_24, hw _ wd_25⟩ (pq_preV (ci := 0) (C := RIm) (T := TIm) (N := 3) hE (hP.sub [3, 4] rfl) (hD.sub [3, 4] (by decide) rfl) rfl 0 rfl) rfl rfl hl.1 rfl (lv_room (Nat.le_of_ble_eq_true rfl)) dPr_goOn_40 ⟨Nat.zero_le _, Nat.zero_le _⟩) (fun H locs hP hD hS => ?_)
          have hP : va_P D vwCl (wP ad cI cS rp re fn fz fc fv rr rw gn gp gh) H := hP.sub [0, 1, 2, 3, 4] rfl
          have hD : va_D _ (wP ad cI cS rp re fn fz fc fv rr rw gn gp gh) := hD.sub [0, 1, 2, 3, 4] (by decide) rfl
          refine lv_ldc hx hb hown (hw _ wd_179) dPr_goOn_43 ?_
          refine lv_iand hx hb dPr_goOn_45 ?_
          obtain ⟨g1, hg1⟩ : ∃ g9, FPr_perform ((FIm_at (rp / 2) gn gh) &&& (65535 : Int32)) rp fn fz fc fv rr rw gn gh = g9 := ⟨_, rfl⟩
          have cg1 := k_Pr_perform l D ad cI cS ((FIm_at (rp / 2) gn gh) &&& (65535 : Int32)) rp re fn fz fc fv rr rw gn gp gh hgn
          rw [hg1] at cg1
          refine pq_calli (fr := g1.1) (wc := (wP ad cI cS rp re fn fz fc fv rr rw gn gp gh)) (wr := ([] : List Nat).filterMap (fun i => (wP ad cI cS rp re fn fz fc fv rr rw gn gp gh)[i]?)) hP hD hS hA [0, 1, 2, 3, 4] [] rfl rfl (by decide) (by decide) (va_runV (own := RPr) (C := RPr) (As := [.int ((FIm_at (rp / 2) gn gh) &&& (65535 : Int32))]) (rest := [.ref (ad 4)]) ⟨hx, hb, hml, hown, hw⟩ (cg1 H.size) ⟨pq_cwB 1 hw wd_181 wd_33 wd_180 rfl rfl (by decide +kernel) ⟨Nat.le_trans (by decide) hR.1, Nat.le_trans (by decide) hR.2⟩, hw _ wd_182, hw _ wd_183⟩ (pq_preV (ci := 2) (C := RPr) (T := TPr) (N := 9) hE (hP.sub [0, 1, 2, 3, 4] rfl) (hD.sub [0, 1, 2, 3, 4] (by decide) rfl) rfl 0 rfl) rfl rfl hl.1 rfl (lv_room (Nat.le_of_ble_eq_true rfl)) dPr_goOn_46 ⟨Nat.zero_le _, Nat.zero_le _⟩) (fun H locs hP hD hS => ?_)
          have hP : va_P D vwCl (wP ad cI cS g1.2.2.2.1 re g1.2.2.2.2.1 g1.2.2.2.2.2.1 g1.2.2.2.2.2.2.1 g1.2.2.2.2.2.2.2 g1.2.1 g1.2.2.1 gn gp gh) H := hP.sub [0, 1, 2, 3, 4] rfl
          have hD : va_D _ (wP ad cI cS g1.2.2.2.1 re g1.2.2.2.2.1 g1.2.2.2.2.2.1 g1.2.2.2.2.2.2.1 g1.2.2.2.2.2.2.2 g1.2.1 g1.2.2.1 gn gp gh) := hD.sub [0, 1, 2, 3, 4] (by decide) rfl
          refine lv_goto (tgt := 53) hx hb dPr_goOn_49 (by decide) ?_
          refine va_put (D := D) (ci := 2) (v := .int g1.1) (ty := .int) (C := RPr) (T := TPr) (N := 9) hx hb hw pinPr tyPr tyPr_ok nmPr hown hE.1 hP hD hS 0 rfl rfl 4 (by decide) (hw _ wd_178) (fun _ h9 => h9) rfl (by decide +kernel) rfl rfl (Nat.le_of_ble_eq_true rfl) dPr_goOn_53 (fun H locs hP hD hS => ?_)
          have hP : va_P D vwCl (wP ad cI cS g1.2.2.2.1 g1.1 g1.2.2.2.2.1 g1.2.2.2.2.2.1 g1.2.2.2.2.2.2.1 g1.2.2.2.2.2.2.2 g1.2.1 g1.2.2.1 gn gp gh) H := hP
          have hD : va_D _ (wP ad cI cS g1.2.2.2.1 g1.1 g1.2.2.2.2.1 g1.2.2.2.2.2.1 g1.2.2.2.2.2.2.1 g1.2.2.2.2.2.2.2 g1.2.1 g1.2.2.1 gn gp gh) := hD
          refine lv_iinc (k := 2) (v := (nI i) + 1) (lv' := [(2, .int ((nI i) + 1)), (0, .ref (ad 4)), (1, .int xf)]) hx hb dPr_goOn_56 hl rfl (by first | rfl | decide) (by decide) rfl (fun ls hl => ?_)
          refine lv_goto (tgt := 2) hx hb dPr_goOn_59 (by decide) ?_
          have e9 : LPr_goOn_2 (n + 1) xf gn gh i rr rw rp re fn fz fc fv = LPr_goOn_2 n xf gn gh (i + 1) g1.2.1 g1.2.2.1 g1.2.2.2.1 g1.1 g1.2.2.2.2.1 g1.2.2.2.2.2.1 g1.2.2.2.2.2.2.1 g1.2.2.2.2.2.2.2 := by simp only [LPr_goOn_2, hg1, if_neg h1, if_pos h2, if_neg h3]
          rw [e9] at kk
          rw [nI_1] at hl
          exact ih (i + 1) g1.2.2.2.1 g1.1 g1.2.2.2.2.1 g1.2.2.2.2.2.1 g1.2.2.2.2.2.2.1 g1.2.2.2.2.2.2.2 g1.2.1 g1.2.2.1 gn gp gh ls H locs (by have := pq_up (j := i) hi (by assumption); have := Int32.toInt_lt xf; omega) hgn (by have := pq_up (j := i) hi (by assumption); omega) (lv_sub hl [1, 2, 0] rfl) hP hD hS kk
def FPr_goOn (xf : Int32) (rp : Int32) (re : Int32) (fn : Int32) (fz : Int32) (fc : Int32) (fv : Int32) (rr : Nat → Int32) (rw : Nat → Int32) (gn : Int32) (gh : Nat → Int32) : Int32 × (Nat → Int32) × (Nat → Int32) × Int32 × Int32 × Int32 × Int32 × Int32 × Int32 := ((LPr_goOn_2 (xf.toInt.toNat + 1) xf gn gh 0 rr rw rp re fn fz fc fv).2.2.2.2.1, (LPr_goOn_2 (xf.toInt.toNat + 1) xf gn gh 0 rr rw rp re fn fz fc fv).2.1, (LPr_goOn_2 (xf.toInt.toNat + 1) xf gn gh 0 rr rw rp re fn fz fc fv).2.2.1, (LPr_goOn_2 (xf.toInt.toNat + 1) xf gn gh 0 rr rw rp re fn fz fc fv).2.2.2.1, (LPr_goOn_2 (xf.toInt.toNat + 1) xf gn gh 0 rr rw rp re fn fz fc fv).2.2.2.2.1, (LPr_goOn_2 (xf.toInt.toNat + 1) xf gn gh 0 rr rw rp re fn fz fc fv).2.2.2.2.2.1, (LPr_goOn_2 (xf.toInt.toNat + 1) xf gn gh 0 rr rw rp re fn fz fc fv).2.2.2.2.2.2.1, (LPr_goOn_2 (xf.toInt.toNat + 1) xf gn gh 0 rr rw rp re fn fz fc fv).2.2.2.2.2.2.2.1, (LPr_goOn_2 (xf.toInt.toNat + 1) xf gn gh 0 rr rw rp re fn fz fc fv).2.2.2.2.2.2.2.2)
set_option maxHeartbeats 4000000 in
set_option maxRecDepth 100000 in
theorem k_Pr_goOn (l : Launch) (D : va_G) (ad : Nat → Nat) (cI cS : ClassId) (xf : Int32) (rp : Int32) (re : Int32) (fn : Int32) (fz : Int32) (fc : Int32) (fv : Int32) (rr : Nat → Int32) (rw : Nat → Int32) (gn : Int32) (gp : Int32) (gh : Nat → Int32) (hgn : gn.toInt ≤ 6400) : pq_I l yPr_goOn (.code yPr_goOn cPr_goOn 3 (some .int) :: pq_ws) { frames := 4, cells := 0, slots := 0, locals := 89 } D cI cS [.ref (ad 4), .int xf] (wP ad cI cS rp re fn fz fc fv rr rw gn gp gh) ((FPr_goOn xf rp re fn fz fc fv rr rw gn gh).1) (wP ad cI cS ((FPr_goOn xf rp re fn fz fc fv rr rw gn gh).2.2.2.1) ((FPr_goOn xf rp re fn fz fc fv rr rw gn gh).2.2.2.2.1) ((FPr_goOn xf rp re fn fz fc fv rr rw gn gh).2.2.2.2.2.1) ((FPr_goOn xf rp re fn fz fc fv rr rw gn gh).2.2.2.2.2.2.1) ((FPr_goOn xf rp re fn fz fc fv rr rw gn gh).2.2.2.2.2.2.2.1) ((FPr_goOn xf rp re fn fz fc fv rr rw gn gh).2.2.2.2.2.2.2.2) ((FPr_goOn xf rp re fn fz fc fv rr rw gn gh).2.1) ((FPr_goOn xf rp re fn fz fc fv rr rw gn gh).2.2.1) gn gp gh) := by
  intro sz
  refine Met.ofW (cc := cPr_goOn) (maxL := 3) (ret := (some .int)) (by decide) rfl ?_
  intro p e s m args below meth c s₁ B hml hv
  obtain ⟨rfl, hsz, hP, hD0, hE⟩ := hv
  have hx := B.exec
  have hb := B.bytes
  have hr := B.returns
  have hts := atoms_spec (ws := (.code yPr_goOn cPr_goOn 3 (some .int) :: pq_ws : List Cond)) B.pre
  have hw : ∀ w ∈ pq_ws, w.before _ s = true := fun w h => hts w (List.mem_cons_of_mem _ h)
  have hown : s.vm.findClass RPr = some m.cls := findClass_of_methodNamed B.named
  have hlocks := B.notSynchronized
  subst hsz
  have hD := hD0.self (sz := s.heap.size)
  have hA : ∀ q : Nat, s.heap.size ≤ q → va_A (wP ad cI cS rp re fn fz fc fv rr rw gn gp gh) s.heap.size q := fun q h => Or.inr h
  have hS : va_S (va_A (wP ad cI cS rp re fn fz fc fv rr rw gn gp gh) s.heap.size) s.heap s.heap [] := va_S.rf
  have hl := lv_entry ([.ref (ad 4), .int xf] : List Value) (n := 3) (Nat.le_of_ble_eq_true rfl)
  rw [lg_entry_eq]
  generalize (lg_sl ([.ref (ad 4), .int xf] : List Value) ++ List.replicate (3 - (lg_sl ([.ref (ad 4), .int xf] : List Value)).length) Slot.unset).toArray = ls at hl ⊢
  have hl : lv_has ls 3 [(0, .ref (ad 4)), (1, .int xf)] := hl
  refine lv_iconst (v := 0) hx hb dPr_goOn_0 (by first | rfl | decide) ?_
  refine lv_istore_n (lv' := [(2, .int 0), (0, .ref (ad 4)), (1, .int xf)]) hx hb dPr_goOn_1 rfl hl (by decide) rfl (fun ls hl => ?_)
  obtain ⟨g2, hg2⟩ : ∃ g9, LPr_goOn_2 (xf.toInt.toNat + 1) xf gn gh 0 rr rw rp re fn fz fc fv = g9 := ⟨_, rfl⟩
  refine qPr_goOn_2 D ad cI cS hx hb hml hw hown hE hA ⟨Nat.le_of_ble_eq_true rfl, Nat.le_of_ble_eq_true rfl⟩ xf (xf.toInt.toNat + 1) 0 rp re fn fz fc fv rr rw gn gp gh ls s.heap [] (by decide) hgn (by omega) (lv_sub hl [1, 2, 0] rfl) hP hD hS (fun ls H locs hl hP hD hS => ?_)
  try rw [hg2] at hl
  try rw [hg2] at hP
  try rw [hg2] at hD
  have hP : va_P D vwCl (wP ad cI cS g2.2.2.2.1 g2.2.2.2.2.1 g2.2.2.2.2.2.1 g2.2.2.2.2.2.2.1 g2.2.2.2.2.2.2.2.1 g2.2.2.2.2.2.2.2.2 g2.2.1 g2.2.2.1 gn gp gh) H := hP
  have hD : va_D _ (wP ad cI cS g2.2.2.2.1 g2.2.2.2.2.1 g2.2.2.2.2.2.1 g2.2.2.2.2.2.2.1 g2.2.2.2.2.2.2.2.1 g2.2.2.2.2.2.2.2.2 g2.2.1 g2.2.2.1 gn gp gh) := hD
  refine lv_aload_n hx hb dPr_goOn_62 rfl (lv_at hl 0 rfl) ?_
  refine va_get (D := D) (ci := 2) (v := .int g2.2.2.2.2.1) (C := RPr) (T := TPr) (N := 9) hx hb hw pinPr hown hE.1 hP 0 rfl rfl 4 (by decide) (hw _ wd_178) (fun _ h9 => h9) rfl dPr_goOn_63 ?_
  have e9 : FPr_goOn xf rp re fn fz fc fv rr rw gn gh = (g2.2.2.2.2.1, g2.2.1, g2.2.2.1, g2.2.2.2.1, g2.2.2.2.2.1, g2.2.2.2.2.2.1, g2.2.2.2.2.2.2.1, g2.2.2.2.2.2.2.2.1, g2.2.2.2.2.2.2.2.2) := by simp only [FPr_goOn, hg2]
  exact W.iret (v := g2.2.2.2.2.1) hx hb hr (fun t ht hW => ⟨⟨g2.2.2.2.2.1, (), rfl, (by show _ = _; rw [e9]), by rw [e9, ht]; exact hP, by rw [e9]; exact hD⟩, hS.F ht⟩) hS.2.2 dPr_goOn_66
