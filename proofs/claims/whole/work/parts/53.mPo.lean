theorem pq_atn (xk gn : Int32) (gh : Nat → Int32) : narrow .short (.int (FIm_at xk gn gh)) = .int (FIm_at xk gn gh) := by
  unfold FIm_at
  split
  · rfl
  · split
    · rfl
    · exact pk_ns _
theorem pq_roomF {n : Int32} (h0 : ¬ n < 0) (h : ¬ FSo_hasRoom n = 0) : vp_in n 160 := by
  unfold FSo_hasRoom at h
  split at h
  · exact absurd rfl h
  · rename_i h1
    exact pq_inB (y := 160) h0 h1 (by decide)
theorem pq_lineF {k a b c : Int32} (h : ¬ FFo_isLine k a b c = 0) (hk : k = 0) : vp_in a 16 := by
  subst hk
  have h2 : ¬ FFo_isLabel a = 0 := by
    unfold FFo_isLine at h
    simpa using h
  unfold FFo_isLabel at h2
  split at h2
  · exact absurd rfl h2
  · rename_i h3
    split at h2
    · exact absurd rfl h2
    · rename_i h4
      exact pq_inB (y := 16) h3 h4 (by decide)

theorem wd_315 : Cond.fieldLink RPo 12 RPo "source" "LPoolAssembler$Source;" ∈ pq_ws := pq_memT 161 (by decide +kernel) (by decide +kernel)
theorem wd_316 : Cond.code ySo_forget cSo_forget 1 none ∈ pq_ws := pq_memT 32 (by decide +kernel) (by decide +kernel)
theorem wd_317 : Cond.instanceMethod ySo_forget ∈ pq_ws := pq_memT 31 (by decide +kernel) (by decide +kernel)
theorem wd_318 : Cond.selects RSo ySo_forget ySo_forget ∈ pq_ws := pq_mem (by decide +kernel) (by decide +kernel)
theorem nw_17 : Cond.methodLinkNest RPo 77 ySo_forget "PoolAssembler" ∈ pq_nws := pq_nmem 181 (by decide +kernel) rfl
theorem wd_319 : Cond.fieldLink RPo 41 RPo "refusedLine" "I" ∈ pq_ws := pq_memT 165 (by decide +kernel) (by decide +kernel)
theorem wd_320 : Cond.fieldLink RPo 19 RPo "image" "LPoolAssembler$Image;" ∈ pq_ws := pq_memT 162 (by decide +kernel) (by decide +kernel)
theorem nw_18 : Cond.methodLinkNest RPo 101 yIm_at "PoolAssembler" ∈ pq_nws := pq_nmem 190 (by decide +kernel) rfl
theorem nw_19 : Cond.fieldLinkNest RPo 98 RIm "count" "I" "PoolAssembler" ∈ pq_nws := pq_nmem 70 (by decide +kernel) rfl
theorem nw_20 : Cond.fieldLinkNest RPo 105 RIm "poolCount" "I" "PoolAssembler" ∈ pq_nws := pq_nmem 72 (by decide +kernel) rfl
theorem wd_321 : Cond.fieldLink RPo 37 RPo "processor" "LPoolAssembler$Processor;" ∈ pq_ws := pq_memT 164 (by decide +kernel) (by decide +kernel)
theorem wd_322 : Cond.code yPr_begin cPr_begin 1 none ∈ pq_ws := pq_memT 209 (by decide +kernel) (by decide +kernel)
theorem wd_323 : Cond.instanceMethod yPr_begin ∈ pq_ws := pq_memT 208 (by decide +kernel) (by decide +kernel)
theorem wd_324 : Cond.selects RPr yPr_begin yPr_begin ∈ pq_ws := pq_mem (by decide +kernel) (by decide +kernel)
theorem nw_21 : Cond.methodLinkNest RPo 95 yPr_begin "PoolAssembler" ∈ pq_nws := pq_nmem 206 (by decide +kernel) rfl
theorem nw_22 : Cond.fieldLinkNest RPo 125 RPr "words" "[I" "PoolAssembler" ∈ pq_nws := pq_nmem 134 (by decide +kernel) rfl
theorem wd_325 : Cond.code yFo_isLine cFo_isLine 4 (some .boolean) ∈ pq_ws := pq_memT 226 (by decide +kernel) (by decide +kernel)
theorem wd_326 : Cond.static yFo_isLine ∈ pq_ws := pq_memT 225 (by decide +kernel) (by decide +kernel)
theorem wd_327 : Cond.code ySo_hasRoom cSo_hasRoom 1 (some .boolean) ∈ pq_ws := pq_memT 310 (by decide +kernel) (by decide +kernel)
theorem wd_328 : Cond.instanceMethod ySo_hasRoom ∈ pq_ws := pq_memT 309 (by decide +kernel) (by decide +kernel)
theorem wd_329 : Cond.selects RSo ySo_hasRoom ySo_hasRoom ∈ pq_ws := pq_mem (by decide +kernel) (by decide +kernel)
theorem wd_330 : Cond.code ySo_append cSo_append 6 (some .int) ∈ pq_ws := pq_memT 335 (by decide +kernel) (by decide +kernel)
theorem wd_331 : Cond.instanceMethod ySo_append ∈ pq_ws := pq_memT 334 (by decide +kernel) (by decide +kernel)
theorem wd_332 : Cond.selects RSo ySo_append ySo_append ∈ pq_ws := pq_mem (by decide +kernel) (by decide +kernel)
theorem nw_23 : Cond.methodLinkNest RPo 45 yFo_isLine "PoolAssembler" ∈ pq_nws := pq_nmem 224 (by decide +kernel) rfl
theorem nw_24 : Cond.methodLinkNest RPo 58 ySo_hasRoom "PoolAssembler" ∈ pq_nws := pq_nmem 307 (by decide +kernel) rfl
theorem nw_25 : Cond.methodLinkNest RPo 73 ySo_append "PoolAssembler" ∈ pq_nws := pq_nmem 332 (by decide +kernel) rfl
theorem nw_26 : Cond.methodLinkNest RPo 67 ySo_lineOfLabel "PoolAssembler" ∈ pq_nws := pq_nmem 327 (by decide +kernel) rfl
theorem wd_333 : Cond.code yPr_goOn cPr_goOn 3 (some .int) ∈ pq_ws := pq_memT 452 (by decide +kernel) (by decide +kernel)
theorem wd_334 : Cond.instanceMethod yPr_goOn ∈ pq_ws := pq_memT 451 (by decide +kernel) (by decide +kernel)
theorem wd_335 : Cond.selects RPr yPr_goOn yPr_goOn ∈ pq_ws := pq_mem (by decide +kernel) (by decide +kernel)
theorem nw_27 : Cond.methodLinkNest RPo 110 yPr_goOn "PoolAssembler" ∈ pq_nws := pq_nmem 449 (by decide +kernel) rfl
theorem wd_336 : Cond.code yPr_flags cPr_flags 1 (some .int) ∈ pq_ws := pq_memT 532 (by decide +kernel) (by decide +kernel)
theorem wd_337 : Cond.instanceMethod yPr_flags ∈ pq_ws := pq_memT 531 (by decide +kernel) (by decide +kernel)
theorem wd_338 : Cond.selects RPr yPr_flags yPr_flags ∈ pq_ws := pq_mem (by decide +kernel) (by decide +kernel)
theorem nw_28 : Cond.methodLinkNest RPo 122 yPr_flags "PoolAssembler" ∈ pq_nws := pq_nmem 529 (by decide +kernel) rfl
theorem nw_29 : Cond.fieldLinkNest RPo 118 RPr "registers" "[I" "PoolAssembler" ∈ pq_nws := pq_nmem 132 (by decide +kernel) rfl
theorem nw_30 : Cond.fieldLinkNest RPo 115 RPr "place" "I" "PoolAssembler" ∈ pq_nws := pq_nmem 136 (by decide +kernel) rfl
def FPo_clear  : (Nat → Int32) × Int32 := ((FSo_forget).1, (FSo_forget).2)
set_option maxHeartbeats 4000000 in
set_option maxRecDepth 100000 in
theorem k_Po_clear (l : Launch) (D : va_G) (ad : Nat → Nat) (cI cS : ClassId) (xr : Int32) (tn : Int32) (to : Int32) (ta : Int32) (tp : Int32) (tk : Int32) (tw : Int32) (tl : Nat → Int32) (tc : Nat → Int32) (ts : Nat → Int32) (tv : Nat → Int32) (sn : Int32) (sK : Nat → Int32) (sA : Nat → Int32) (sB : Nat → Int32) (sC : Nat → Int32) (sL : Nat → Int32) (gn : Int32) (gp : Int32) (gh : Nat → Int32) (rp : Int32) (re : Int32) (fn : Int32) (fz : Int32) (fc : Int32) (fv : Int32) (rr : Nat → Int32) (rw : Nat → Int32) : pq_V l yPo_clear (.code yPo_clear cPo_clear 1 none :: pq_ws) { frames := 2, cells := 0, slots := 0, locals := 43 } D cI cS [.ref (ad 0)] (wX ad cI cS xr tn to ta tp tk tw tl tc ts tv sn sK sA sB sC sL gn gp gh rp re fn fz fc fv rr rw) (wX ad cI cS xr tn to ta tp tk tw tl tc ts tv ((FPo_clear).2) sK sA sB sC ((FPo_clear).1) gn gp gh rp re fn fz fc fv rr rw) := by
  intro sz
  refine Met.ofW (cc := cPo_clear) (maxL := 1) (ret := none) (by decide) rfl ?_
  intro p e s m args below meth c s₁ B hml hv
  obtain ⟨rfl, hsz, hP, hD0, hE⟩ := hv
  have hx := B.exec
  have hb := B.bytes
  have hr := B.returns
  have hts := atoms_spec (ws := (.code yPo_clear cPo_clear 1 none :: pq_ws : List Cond)) B.pre
  have hw : ∀ w ∈ pq_ws, w.before _ s = true := fun w h => hts w (List.mem_cons_of_mem _ h)
  have hown : s.vm.findClass RPo = some m.cls := findClass_of_methodNamed B.named
  have hlocks := B.notSynchronized
  subst hsz
  have hD := hD0.self (sz := s.heap.size)
  have hA : ∀ q : Nat, s.heap.size ≤ q → va_A (wX ad cI cS xr tn to ta tp tk tw tl tc ts tv sn sK sA sB sC sL gn gp gh rp re fn fz fc fv rr rw) s.heap.size q := fun q h => Or.inr h
  have hS : va_S (va_A (wX ad cI cS xr tn to ta tp tk tw tl tc ts tv sn sK sA sB sC sL gn gp gh rp re fn fz fc fv rr rw) s.heap.size) s.heap s.heap [] := va_S.rf
  have hl := lv_entry ([.ref (ad 0)] : List Value) (n := 1) (Nat.le_of_ble_eq_true rfl)
  rw [lg_entry_eq]
  generalize (lg_sl ([.ref (ad 0)] : List Value) ++ List.replicate (1 - (lg_sl ([.ref (ad 0)] : List Value)).length) Slot.unset).toArray = ls at hl ⊢
  have hl : lv_has ls 1 [(0, .ref (ad 0))] := hl
  refine lv_aload_n hx hb dPo_clear_0 rfl (lv_at hl 0 rfl) ?_
  refine va_get (D := D) (ci := 4) (v := .ref (ad 1)) (C := RPo) (T := TPo) (N := 5) hx hb hw pinPo hown hE.1 hP 0 rfl rfl 0 (by decide) (hw _ wd_315) (fun _ h9 => h9) rfl dPo_clear_1 ?_
  refine pq_callv (wc := (wS ad cI cS sn sK sA sB sC sL)) (wr := ([0, 1, 2, 3, 4, 5, 12, 13, 14, 15, 16] : List Nat).filterMap (fun i => (wX ad cI cS xr tn to ta tp tk tw tl tc ts tv sn sK sA sB sC sL gn gp gh rp re fn fz fc fv rr rw)[i]?)) hP hD hS hA [6, 7, 8, 9, 10, 11] [0, 1, 2, 3, 4, 5, 12, 13, 14, 15, 16] rfl rfl (by decide) (by decide) (va_runVN (own := RPo) (C := RSo) (As := []) (rest := []) ⟨hx, hb, hml, hown, hw⟩ (k_So_forget l D ad cI cS sn sK sA sB sC sL s.heap.size) ⟨pq_cnB 0 hw (hE.2 _ nw_17) wd_102 wd_316 rfl rfl (by decide +kernel) ⟨Nat.le_of_ble_eq_true rfl, Nat.le_of_ble_eq_true rfl⟩, hw _ wd_317, hw _ wd_318⟩ (pq_preV (ci := 3) (C := RSo) (T := TSo) (N := 6) hE (hP.sub [6, 7, 8, 9, 10, 11] rfl) (hD.sub [6, 7, 8, 9, 10, 11] (by decide) rfl) rfl 0 rfl) rfl rfl hl.1 rfl (lv_room (Nat.le_of_ble_eq_true rfl)) dPo_clear_4 ⟨Nat.zero_le _, Nat.zero_le _⟩) (fun _ H locs hP hD hS => ?_)
  have hP : va_P D vwCl (wX ad cI cS xr tn to ta tp tk tw tl tc ts tv ((FSo_forget).2) sK sA sB sC ((FSo_forget).1) gn gp gh rp re fn fz fc fv rr rw) H := hP.sub [0, 1, 2, 3, 4, 5, 11, 12, 13, 14, 15, 16, 6, 7, 8, 9, 10] rfl
  have hD : va_D _ (wX ad cI cS xr tn to ta tp tk tw tl tc ts tv ((FSo_forget).2) sK sA sB sC ((FSo_forget).1) gn gp gh rp re fn fz fc fv rr rw) := hD.sub [0, 1, 2, 3, 4, 5, 11, 12, 13, 14, 15, 16, 6, 7, 8, 9, 10] (by decide) rfl
  have e9 : FPo_clear = ((FSo_forget).1, (FSo_forget).2) := rfl
  exact W.vret hx hb hr (fun t ht hW => ⟨⟨(), rfl, trivial, by rw [e9, ht]; exact hP, by rw [e9]; exact hD⟩, hS.F ht⟩) hS.2.2 dPo_clear_7
def FPo_refused (xr : Int32) : Int32 := xr
set_option maxHeartbeats 4000000 in
set_option maxRecDepth 100000 in
theorem k_Po_refused (l : Launch) (D : va_G) (ad : Nat → Nat) (cI cS : ClassId) (xr : Int32) (tn : Int32) (to : Int32) (ta : Int32) (tp : Int32) (tk : Int32) (tw : Int32) (tl : Nat → Int32) (tc : Nat → Int32) (ts : Nat → Int32) (tv : Nat → Int32) (sn : Int32) (sK : Nat → Int32) (sA : Nat → Int32) (sB : Nat → Int32) (sC : Nat → Int32) (sL : Nat → Int32) (gn : Int32) (gp : Int32) (gh : Nat → Int32) (rp : Int32) (re : Int32) (fn : Int32) (fz : Int32) (fc : Int32) (fv : Int32) (rr : Nat → Int32) (rw : Nat → Int32) : pq_I l yPo_refused (.code yPo_refused cPo_refused 1 (some .int) :: pq_ws) { frames := 0, cells := 0, slots := 0, locals := 0 } D cI cS [.ref (ad 0)] (wX ad cI cS xr tn to ta tp tk tw tl tc ts tv sn sK sA sB sC sL gn gp gh rp re fn fz fc fv rr rw) (FPo_refused xr) (wX ad cI cS xr tn to ta tp tk tw tl tc ts tv sn sK sA sB sC sL gn gp gh rp re fn fz fc fv rr rw) := by
  intro sz
  refine Met.ofW (cc := cPo_refused) (maxL := 1) (ret := (some .int)) (by decide) rfl ?_
  intro p e s m args below meth c s₁ B hml hv
  obtain ⟨rfl, hsz, hP, hD0, hE⟩ := hv
  have hx := B.exec
  have hb := B.bytes
  have hr := B.returns
  have hts := atoms_spec (ws := (.code yPo_refused cPo_refused 1 (some .int) :: pq_ws : List Cond)) B.pre
  have hw : ∀ w ∈ pq_ws, w.before _ s = true := fun w h => hts w (List.mem_cons_of_mem _ h)
  have hown : s.vm.findClass RPo = some m.cls := findClass_of_methodNamed B.named
  have hlocks := B.notSynchronized
  subst hsz
  have hD := hD0.self (sz := s.heap.size)
  have hA : ∀ q : Nat, s.heap.size ≤ q → va_A (wX ad cI cS xr tn to ta tp tk tw tl tc ts tv sn sK sA sB sC sL gn gp gh rp re fn fz fc fv rr rw) s.heap.size q := fun q h => Or.inr h
  have hS : va_S (va_A (wX ad cI cS xr tn to ta tp tk tw tl tc ts tv sn sK sA sB sC sL gn gp gh rp re fn fz fc fv rr rw) s.heap.size) s.heap s.heap [] := va_S.rf
  have hl := lv_entry ([.ref (ad 0)] : List Value) (n := 1) (Nat.le_of_ble_eq_true rfl)
  rw [lg_entry_eq]
  generalize (lg_sl ([.ref (ad 0)] : List Value) ++ List.replicate (1 - (lg_sl ([.ref (ad 0)] : List Value)).length) Slot.unset).toArray = ls at hl ⊢
  have hl : lv_has ls 1 [(0, .ref (ad 0))] := hl
  refine lv_aload_n hx hb dPo_refused_0 rfl (lv_at hl 0 rfl) ?_
  refine va_get (D := D) (ci := 4) (v := .int xr) (C := RPo) (T := TPo) (N := 5) hx hb hw pinPo hown hE.1 hP 0 rfl rfl 4 (by decide) (hw _ wd_319) (fun _ h9 => h9) rfl dPo_refused_1 ?_
  have e9 : FPo_refused xr = xr := rfl
  exact W.iret (v := xr) hx hb hr (fun t ht hW => ⟨⟨xr, (), rfl, (by show _ = _; rw [e9]), by rw [ht]; exact hP, hD⟩, hS.F ht⟩) hS.2.2 dPo_refused_4
def FPo_half (xk : Int32) (gn : Int32) (gh : Nat → Int32) : Int32 := (FIm_at xk gn gh)
set_option maxHeartbeats 4000000 in
set_option maxRecDepth 100000 in
theorem k_Po_half (l : Launch) (D : va_G) (ad : Nat → Nat) (cI cS : ClassId) (xk : Int32) (xr : Int32) (tn : Int32) (to : Int32) (ta : Int32) (tp : Int32) (tk : Int32) (tw : Int32) (tl : Nat → Int32) (tc : Nat → Int32) (ts : Nat → Int32) (tv : Nat → Int32) (sn : Int32) (sK : Nat → Int32) (sA : Nat → Int32) (sB : Nat → Int32) (sC : Nat → Int32) (sL : Nat → Int32) (gn : Int32) (gp : Int32) (gh : Nat → Int32) (rp : Int32) (re : Int32) (fn : Int32) (fz : Int32) (fc : Int32) (fv : Int32) (rr : Nat → Int32) (rw : Nat → Int32) (hgn : gn.toInt ≤ 6400) : pq_I l yPo_half (.code yPo_half cPo_half 2 (some .short) :: pq_ws) { frames := 1, cells := 0, slots := 0, locals := 21 } D cI cS [.ref (ad 0), .int xk] (wX ad cI cS xr tn to ta tp tk tw tl tc ts tv sn sK sA sB sC sL gn gp gh rp re fn fz fc fv rr rw) (FPo_half xk gn gh) (wX ad cI cS xr tn to ta tp tk tw tl tc ts tv sn sK sA sB sC sL gn gp gh rp re fn fz fc fv rr rw) := by
  intro sz
  refine Met.ofW (cc := cPo_half) (maxL := 2) (ret := (some .short)) (by decide) rfl ?_
  intro p e s m args below meth c s₁ B hml hv
  obtain ⟨rfl, hsz, hP, hD0, hE⟩ := hv
  have hx := B.exec
  have hb := B.bytes
  have hr := B.returns
  have hts := atoms_spec (ws := (.code yPo_half cPo_half 2 (some .short) :: pq_ws : List Cond)) B.pre
  have hw : ∀ w ∈ pq_ws, w.before _ s = true := fun w h => hts w (List.mem_cons_of_mem _ h)
  have hown : s.vm.findClass RPo = some m.cls := findClass_of_methodNamed B.named
  have hlocks := B.notSynchronized
  subst hsz
  have hD := hD0.self (sz := s.heap.size)
  have hA : ∀ q : Nat, s.heap.size ≤ q → va_A (wX ad cI cS xr tn to ta tp tk tw tl tc ts tv sn sK sA sB sC sL gn gp gh rp re fn fz fc fv rr rw) s.heap.size q := fun q h => Or.inr h
  have hS : va_S (va_A (wX ad cI cS xr tn to ta tp tk tw tl tc ts tv sn sK sA sB sC sL gn gp gh rp re fn fz fc fv rr rw) s.heap.size) s.heap s.heap [] := va_S.rf
  have hl := lv_entry ([.ref (ad 0), .int xk] : List Value) (n := 2) (Nat.le_of_ble_eq_true rfl)
  rw [lg_entry_eq]
  generalize (lg_sl ([.ref (ad 0), .int xk] : List Value) ++ List.replicate (2 - (lg_sl ([.ref (ad 0), .int xk] : List Value)).length) Slot.unset).toArray = ls at hl ⊢
  have hl : lv_has ls 2 [(0, .ref (ad 0)), (1, .int xk)] := hl
  refine lv_aload_n hx hb dPo_half_0 rfl (lv_at hl 0 rfl) ?_
  refine va_get (D := D) (ci := 4) (v := .ref (ad 2)) (C := RPo) (T := TPo) (N := 5) hx hb hw pinPo hown hE.1 hP 0 rfl rfl 1 (by decide) (hw _ wd_320) (fun _ h9 => h9) rfl dPo_half_1 ?_
  refine lv_iload_n hx hb dPo_half_4 rfl (lv_at hl 1 rfl) ?_
  refine pq_calli (fr := (FIm_at xk gn gh)) (wc := (wI ad cI cS gn gp gh)) (wr := ([0, 1, 2, 3, 4, 5, 6, 7, 8, 9, 10, 11, 14, 15, 16] : List Nat).filterMap (fun i => (wX ad cI cS xr tn to ta tp tk tw tl tc ts tv sn sK sA sB sC sL gn gp gh rp re fn fz fc fv rr rw)[i]?)) hP hD hS hA [12, 13] [0, 1, 2, 3, 4, 5, 6, 7, 8, 9, 10, 11, 14, 15, 16] rfl rfl (by decide) (by decide) (va_runVN (own := RPo) (C := RIm) (As := [.int xk]) (rest := []) ⟨hx, hb, hml, hown, hw⟩ (k_Im_at l D ad cI cS xk gn gp gh hgn s.heap.size) ⟨pq_cnB 1 hw (hE.2 _ nw_18) wd_22 wd_21 rfl rfl (by decide +kernel) ⟨Nat.le_of_ble_eq_true rfl, Nat.le_of_ble_eq_true rfl⟩, hw _ wd_24, hw _ wd_25⟩ (pq_preV (ci := 0) (C := RIm) (T := TIm) (N := 3) hE (hP.sub [12, 13] rfl) (hD.sub [12, 13] (by decide) rfl) rfl 0 rfl) rfl rfl hl.1 rfl (lv_room (Nat.le_of_ble_eq_true rfl)) dPo_half_5 ⟨Nat.zero_le _, Nat.zero_le _⟩) (fun H locs hP hD hS => ?_)
  have hP : va_P D vwCl (wX ad cI cS xr tn to ta tp tk tw tl tc ts tv sn sK sA sB sC sL gn gp gh rp re fn fz fc fv rr rw) H := hP.sub [0, 1, 2, 3, 4, 5, 6, 7, 8, 9, 10, 11, 15, 16, 12, 13, 14] rfl
  have hD : va_D _ (wX ad cI cS xr tn to ta tp tk tw tl tc ts tv sn sK sA sB sC sL gn gp gh rp re fn fz fc fv rr rw) := hD.sub [0, 1, 2, 3, 4, 5, 6, 7, 8, 9, 10, 11, 15, 16, 12, 13, 14] (by decide) rfl
  have e9 : FPo_half xk gn gh = (FIm_at xk gn gh) := rfl
  exact W.zret (v := (FIm_at xk gn gh)) hx hb hr (pq_atn _ _ _) (fun t ht hW => ⟨⟨(FIm_at xk gn gh), (), rfl, (by show _ = _; rw [e9]), by rw [ht]; exact hP, hD⟩, hS.F ht⟩) hS.2.2 dPo_half_8
def FPo_size (gn : Int32) : Int32 := gn
set_option maxHeartbeats 4000000 in
set_option maxRecDepth 100000 in
theorem k_Po_size (l : Launch) (D : va_G) (ad : Nat → Nat) (cI cS : ClassId) (xr : Int32) (tn : Int32) (to : Int32) (ta : Int32) (tp : Int32) (tk : Int32) (tw : Int32) (tl : Nat → Int32) (tc : Nat → Int32) (ts : Nat → Int32) (tv : Nat → Int32) (sn : Int32) (sK : Nat → Int32) (sA : Nat → Int32) (sB : Nat → Int32) (sC : Nat → Int32) (sL : Nat → Int32) (gn : Int32) (gp : Int32) (gh : Nat → Int32) (rp : Int32) (re : Int32) (fn : Int32) (fz : Int32) (fc : Int32) (fv : Int32) (rr : Nat → Int32) (rw : Nat → Int32) : pq_I l yPo_size (.code yPo_size cPo_size 1 (some .int) :: pq_ws) { frames := 0, cells := 0, slots := 0, locals := 0 } D cI cS [.ref (ad 0)] (wX ad cI cS xr tn to ta tp tk tw tl tc ts tv sn sK sA sB sC sL gn gp gh rp re fn fz fc fv rr rw) (FPo_size gn) (wX ad cI cS xr tn to ta tp tk tw tl tc ts tv sn sK sA sB sC sL gn gp gh rp re fn fz fc fv rr rw) := by
  intro sz
  refine Met.ofW (cc := cPo_size) (maxL := 1) (ret := (some .int)) (by decide) rfl ?_
  intro p e s m args below meth c s₁ B hml hv
  obtain ⟨rfl, hsz, hP, hD0, hE⟩ := hv
  have hx := B.exec
  have hb := B.bytes
  have hr := B.returns
  have hts := atoms_spec (ws := (.code yPo_size cPo_size 1 (some .int) :: pq_ws : List Cond)) B.pre
  have hw : ∀ w ∈ pq_ws, w.before _ s = true := fun w h => hts w (List.mem_cons_of_mem _ h)
  have hown : s.vm.findClass RPo = some m.cls := findClass_of_methodNamed B.named
  have hlocks := B.notSynchronized
  subst hsz
  have hD := hD0.self (sz := s.heap.size)
  have hA : ∀ q : Nat, s.heap.size ≤ q → va_A (wX ad cI cS xr tn to ta tp tk tw tl tc ts tv sn sK sA sB sC sL gn gp gh rp re fn fz fc fv rr rw) s.heap.size q := fun q h => Or.inr h
  have hS : va_S (va_A (wX ad cI cS xr tn to ta tp tk tw tl tc ts tv sn sK sA sB sC sL gn gp gh rp re fn fz fc fv rr rw) s.heap.size) s.heap s.heap [] := va_S.rf
  have hl := lv_entry ([.ref (ad 0)] : List Value) (n := 1) (Nat.le_of_ble_eq_true rfl)
  rw [lg_entry_eq]
  generalize (lg_sl ([.ref (ad 0)] : List Value) ++ List.replicate (1 - (lg_sl ([.ref (ad 0)] : List Value)).length) Slot.unset).toArray = ls at hl ⊢
  have hl : lv_has ls 1 [(0, .ref (ad 0))] := hl
  refine lv_aload_n hx hb dPo_size_0 rfl (lv_at hl 0 rfl) ?_
  refine va_get (D := D) (ci := 4) (v := .ref (ad 2)) (C := RPo) (T := TPo) (N := 5) hx hb hw pinPo hown hE.1 hP 0 rfl rfl 1 (by decide) (hw _ wd_320) (fun _ h9 => h9) rfl dPo_size_1 ?_
  refine va_getN (D := D) (ci := 0) (v := .int gn) (C := RIm) (T := TIm) (N := 3) hx hb hw pinIm hown hE.1 hP 12 rfl rfl 1 (by decide) (va_Nw.use rfl (hE.2 _ nw_19)) (fun _ h9 => h9) rfl dPo_size_4 ?_
  have e9 : FPo_size gn = gn := rfl
  exact W.iret (v := gn) hx hb hr (fun t ht hW => ⟨⟨gn, (), rfl, (by show _ = _; rw [e9]), by rw [ht]; exact hP, hD⟩, hS.F ht⟩) hS.2.2 dPo_size_7
def FPo_pools (gp : Int32) : Int32 := gp
set_option maxHeartbeats 4000000 in
set_option maxRecDepth 100000 in
theorem k_Po_pools (l : Launch) (D : va_G) (ad : Nat → Nat) (cI cS : ClassId) (xr : Int32) (tn : Int32) (to : Int32) (ta : Int32) (tp : Int32) (tk : Int32) (tw : Int32) (tl : Nat → Int32) (tc : Nat → Int32) (ts : Nat → Int32) (tv : Nat → Int32) (sn : Int32) (sK : Nat → Int32) (sA : Nat → Int32) (sB : Nat → Int32) (sC : Nat → Int32) (sL : Nat → Int32) (gn : Int32) (gp : Int32) (gh : Nat → Int32) (rp : Int32) (re : Int32) (fn : Int32) (fz : Int32) (fc : Int32) (fv : Int32) (rr : Nat → Int32) (rw : Nat → Int32) : pq_I l yPo_pools (.code yPo_pools cPo_pools 1 (some .int) :: pq_ws) { frames := 0, cells := 0, slots := 0, locals := 0 } D cI cS [.ref (ad 0)] (wX ad cI cS xr tn to ta tp tk tw tl tc ts tv sn sK sA sB sC sL gn gp gh rp re fn fz fc fv rr rw) (FPo_pools gp) (wX ad cI cS xr tn to ta tp tk tw tl tc ts tv sn sK sA sB sC sL gn gp gh rp re fn fz fc fv rr rw) := by
  intro sz
  refine Met.ofW (cc := cPo_pools) (maxL := 1) (ret := (some .int)) (by decide) rfl ?_
  intro p e s m args below meth c s₁ B hml hv
  obtain ⟨rfl, hsz, hP, hD0, hE⟩ := hv
  have hx := B.exec
  have hb := B.bytes
  have hr := B.returns
  have hts := atoms_spec (ws := (.code yPo_pools cPo_pools 1 (some .int) :: pq_ws : List Cond)) B.pre
  have hw : ∀ w ∈ pq_ws, w.before _ s = true := fun w h => hts w (List.mem_cons_of_mem _ h)
  have hown : s.vm.findClass RPo = some m.cls := findClass_of_methodNamed B.named
  have hlocks := B.notSynchronized
  subst hsz
  have hD := hD0.self (sz := s.heap.size)
  have hA : ∀ q : Nat, s.heap.size ≤ q → va_A (wX ad cI cS xr tn to ta tp tk tw tl tc ts tv sn sK sA sB sC sL gn gp gh rp re fn fz fc fv rr rw) s.heap.size q := fun q h => Or.inr h
  have hS : va_S (va_A (wX ad cI cS xr tn to ta tp tk tw tl tc ts tv sn sK sA sB sC sL gn gp gh rp re fn fz fc fv rr rw) s.heap.size) s.heap s.heap [] := va_S.rf
  have hl := lv_entry ([.ref (ad 0)] : List Value) (n := 1) (Nat.le_of_ble_eq_true rfl)
  rw [lg_entry_eq]
  generalize (lg_sl ([.ref (ad 0)] : List Value) ++ List.replicate (1 - (lg_sl ([.ref (ad 0)] : List Value)).length) Slot.unset).toArray = ls at hl ⊢
  have hl : lv_has ls 1 [(0, .ref (ad 0))] := hl
  refine lv_aload_n hx hb dPo_pools_0 rfl (lv_at hl 0 rfl) ?_
  refine va_get (D := D) (ci := 4) (v := .ref (ad 2)) (C := RPo) (T := TPo) (N := 5) hx hb hw pinPo hown hE.1 hP 0 rfl rfl 1 (by decide) (hw _ wd_320) (fun _ h9 => h9) rfl dPo_pools_1 ?_
  refine va_getN (D := D) (ci := 0) (v := .int gp) (C := RIm) (T := TIm) (N := 3) hx hb hw pinIm hown hE.1 hP 12 rfl rfl 2 (by decide) (va_Nw.use rfl (hE.2 _ nw_20)) (fun _ h9 => h9) rfl dPo_pools_4 ?_
  have e9 : FPo_pools gp = gp := rfl
  exact W.iret (v := gp) hx hb hr (fun t ht hW => ⟨⟨gp, (), rfl, (by show _ = _; rw [e9]), by rw [ht]; exact hP, hD⟩, hS.F ht⟩) hS.2.2 dPo_pools_7
def FPo_restart  : (Nat → Int32) × (Nat → Int32) × Int32 × Int32 × Int32 × Int32 × Int32 × Int32 := ((FPr_begin).1, (FPr_begin).2.1, (FPr_begin).2.2.1, (FPr_begin).2.2.2.1, (FPr_begin).2.2.2.2.1, (FPr_begin).2.2.2.2.2.1, (FPr_begin).2.2.2.2.2.2.1, (FPr_begin).2.2.2.2.2.2.2)
set_option maxHeartbeats 4000000 in
set_option maxRecDepth 100000 in
theorem k_Po_restart (l : Launch) (D : va_G) (ad : Nat → Nat) (cI cS : ClassId) (xr : Int32) (tn : Int32) (to : Int32) (ta : Int32) (tp : Int32) (tk : Int32) (tw : Int32) (tl : Nat → Int32) (tc : Nat → Int32) (ts : Nat → Int32) (tv : Nat → Int32) (sn : Int32) (sK : Nat → Int32) (sA : Nat → Int32) (sB : Nat → Int32) (sC : Nat → Int32) (sL : Nat → Int32) (gn : Int32) (gp : Int32) (gh : Nat → Int32) (rp : Int32) (re : Int32) (fn : Int32) (fz : Int32) (fc : Int32) (fv : Int32) (rr : Nat → Int32) (rw : Nat → Int32) : pq_V l yPo_restart (.code yPo_restart cPo_restart 1 none :: pq_ws) { frames := 2, cells := 0, slots := 0, locals := 43 } D cI cS [.ref (ad 0)] (wX ad cI cS xr tn to ta tp tk tw tl tc ts tv sn sK sA sB sC sL gn gp gh rp re fn fz fc fv rr rw) (wX ad cI cS xr tn to ta tp tk tw tl tc ts tv sn sK sA sB sC sL gn gp gh ((FPo_restart).2.2.1) ((FPo_restart).2.2.2.1) ((FPo_restart).2.2.2.2.1) ((FPo_restart).2.2.2.2.2.1) ((FPo_restart).2.2.2.2.2.2.1) ((FPo_restart).2.2.2.2.2.2.2) ((FPo_restart).1) ((FPo_restart).2.1)) := by
  intro sz
  refine Met.ofW (cc := cPo_restart) (maxL := 1) (ret := none) (by decide) rfl ?_
  intro p e s m args below meth c s₁ B hml hv
  obtain ⟨rfl, hsz, hP, hD0, hE⟩ := hv
  have hx := B.exec
  have hb := B.bytes
  have hr := B.returns
  have hts := atoms_spec (ws := (.code yPo_restart cPo_restart 1 none :: pq_ws : List Cond)) B.pre
  have hw : ∀ w ∈ pq_ws, w.before _ s = true := fun w h => hts w (List.mem_cons_of_mem _ h)
  have hown : s.vm.findClass RPo = some m.cls := findClass_of_methodNamed B.named
  have hlocks := B.notSynchronized
  subst hsz
  have hD := hD0.self (sz := s.heap.size)
  have hA : ∀ q : Nat, s.heap.size ≤ q → va_A (wX ad cI cS xr tn to ta tp tk tw tl tc ts tv sn sK sA sB sC sL gn gp gh rp re fn fz fc fv rr rw) s.heap.size q := fun q h => Or.inr h
  have hS : va_S (va_A (wX ad cI cS xr tn to ta tp tk tw tl tc ts tv sn sK sA sB sC sL gn gp gh rp re fn fz fc fv rr rw) s.heap.size) s.heap s.heap [] := va_S.rf
  have hl := lv_entry ([.ref (ad 0)] : List Value) (n := 1) (Nat.le_of_ble_eq_true rfl)
  rw [lg_entry_eq]
  generalize (lg_sl ([.ref (ad 0)] : List Value) ++ List.replicate (1 - (lg_sl ([.ref (ad 0)] : List Value)).length) Slot.unset).toArray = ls at hl ⊢
  have hl : lv_has ls 1 [(0, .ref (ad 0))] := hl
  refine lv_aload_n hx hb dPo_restart_0 rfl (lv_at hl 0 rfl) ?_
  refine va_get (D := D) (ci := 4) (v := .ref (ad 4)) (C := RPo) (T := TPo) (N := 5) hx hb hw pinPo hown hE.1 hP 0 rfl rfl 3 (by decide) (hw _ wd_321) (fun _ h9 => h9) rfl dPo_restart_1 ?_
  obtain ⟨g1, hg1⟩ : ∃ g9, FPr_begin = g9 := ⟨_, rfl⟩
  have cg1 := k_Pr_begin l D ad cI cS rp re fn fz fc fv rr rw gn gp gh
  rw [hg1] at cg1
  refine pq_callv (wc := (wP ad cI cS rp re fn fz fc fv rr rw gn gp gh)) (wr := ([0, 1, 2, 3, 4, 5, 6, 7, 8, 9, 10, 11] : List Nat).filterMap (fun i => (wX ad cI cS xr tn to ta tp tk tw tl tc ts tv sn sK sA sB sC sL gn gp gh rp re fn fz fc fv rr rw)[i]?)) hP hD hS hA [14, 15, 16, 12, 13] [0, 1, 2, 3, 4, 5, 6, 7, 8, 9, 10, 11] rfl rfl (by decide) (by decide) (va_runVN (own := RPo) (C := RPr) (As := []) (rest := []) ⟨hx, hb, hml, hown, hw⟩ (cg1 s.heap.size) ⟨pq_cnB 0 hw (hE.2 _ nw_21) wd_33 wd_322 rfl rfl (by decide +kernel) ⟨Nat.le_of_ble_eq_true rfl, Nat.le_of_ble_eq_true rfl⟩, hw _ wd_323, hw _ wd_324⟩ (pq_preV (ci := 2) (C := RPr) (T := TPr) (N := 9) hE (hP.sub [14, 15, 16, 12, 13] rfl) (hD.sub [14, 15, 16, 12, 13] (by decide) rfl) rfl 0 rfl) rfl rfl hl.1 rfl (lv_room (Nat.le_of_ble_eq_true rfl)) dPo_restart_4 ⟨Nat.zero_le _, Nat.zero_le _⟩) (fun _ H locs hP hD hS => ?_)
  have hP : va_P D vwCl (wX ad cI cS xr tn to ta tp tk tw tl tc ts tv sn sK sA sB sC sL gn gp gh g1.2.2.1 g1.2.2.2.1 g1.2.2.2.2.1 g1.2.2.2.2.2.1 g1.2.2.2.2.2.2.1 g1.2.2.2.2.2.2.2 g1.1 g1.2.1) H := hP.sub [0, 1, 2, 3, 4, 5, 6, 7, 8, 9, 10, 11, 15, 16, 12, 13, 14] rfl
  have hD : va_D _ (wX ad cI cS xr tn to ta tp tk tw tl tc ts tv sn sK sA sB sC sL gn gp gh g1.2.2.1 g1.2.2.2.1 g1.2.2.2.2.1 g1.2.2.2.2.2.1 g1.2.2.2.2.2.2.1 g1.2.2.2.2.2.2.2 g1.1 g1.2.1) := hD.sub [0, 1, 2, 3, 4, 5, 6, 7, 8, 9, 10, 11, 15, 16, 12, 13, 14] (by decide) rfl
  have e9 : FPo_restart = (g1.1, g1.2.1, g1.2.2.1, g1.2.2.2.1, g1.2.2.2.2.1, g1.2.2.2.2.2.1, g1.2.2.2.2.2.2.1, g1.2.2.2.2.2.2.2) := by simp only [FPo_restart, hg1]
  exact W.vret hx hb hr (fun t ht hW => ⟨⟨(), rfl, trivial, by rw [e9, ht]; exact hP, by rw [e9]; exact hD⟩, hS.F ht⟩) hS.2.2 dPo_restart_7
def FPo_data (xk : Int32) (rw : Nat → Int32) : Int32 := if xk < 0 then 0 else if 32 ≤ xk then 0 else rw xk.toNatClampNeg
set_option maxHeartbeats 4000000 in
set_option maxRecDepth 100000 in
theorem k_Po_data (l : Launch) (D : va_G) (ad : Nat → Nat) (cI cS : ClassId) (xk : Int32) (xr : Int32) (tn : Int32) (to : Int32) (ta : Int32) (tp : Int32) (tk : Int32) (tw : Int32) (tl : Nat → Int32) (tc : Nat → Int32) (ts : Nat → Int32) (tv : Nat → Int32) (sn : Int32) (sK : Nat → Int32) (sA : Nat → Int32) (sB : Nat → Int32) (sC : Nat → Int32) (sL : Nat → Int32) (gn : Int32) (gp : Int32) (gh : Nat → Int32) (rp : Int32) (re : Int32) (fn : Int32) (fz : Int32) (fc : Int32) (fv : Int32) (rr : Nat → Int32) (rw : Nat → Int32) : pq_I l yPo_data (.code yPo_data cPo_data 2 (some .int) :: pq_ws) { frames := 0, cells := 0, slots := 0, locals := 0 } D cI cS [.ref (ad 0), .int xk] (wX ad cI cS xr tn to ta tp tk tw tl tc ts tv sn sK sA sB sC sL gn gp gh rp re fn fz fc fv rr rw) (FPo_data xk rw) (wX ad cI cS xr tn to ta tp tk tw tl tc ts tv sn sK sA sB sC sL gn gp gh rp re fn fz fc fv rr rw) := by
  intro sz
  refine Met.ofW (cc := cPo_data) (maxL := 2) (ret := (some .int)) (by decide) rfl ?_
  intro p e s m args below meth c s₁ B hml hv
  obtain ⟨rfl, hsz, hP, hD0, hE⟩ := hv
  have hx := B.exec
  have hb := B.bytes
  have hr := B.returns
  have hts := atoms_spec (ws := (.code yPo_data cPo_data 2 (some .int) :: pq_ws : List Cond)) B.pre
  have hw : ∀ w ∈ pq_ws, w.before _ s = true := fun w h => hts w (List.mem_cons_of_mem _ h)
  have hown : s.vm.findClass RPo = some m.cls := findClass_of_methodNamed B.named
  have hlocks := B.notSynchronized
  subst hsz
  have hD := hD0.self (sz := s.heap.size)
  have hA : ∀ q : Nat, s.heap.size ≤ q → va_A (wX ad cI cS xr tn to ta tp tk tw tl tc ts tv sn sK sA sB sC sL gn gp gh rp re fn fz fc fv rr rw) s.heap.size q := fun q h => Or.inr h
  have hS : va_S (va_A (wX ad cI cS xr tn to ta tp tk tw tl tc ts tv sn sK sA sB sC sL gn gp gh rp re fn fz fc fv rr rw) s.heap.size) s.heap s.heap [] := va_S.rf
  have hl := lv_entry ([.ref (ad 0), .int xk] : List Value) (n := 2) (Nat.le_of_ble_eq_true rfl)
  rw [lg_entry_eq]
  generalize (lg_sl ([.ref (ad 0), .int xk] : List Value) ++ List.replicate (2 - (lg_sl ([.ref (ad 0), .int xk] : List Value)).length) Slot.unset).toArray = ls at hl ⊢
  have hl : lv_has ls 2 [(0, .ref (ad 0)), (1, .int xk)] := hl
  refine lv_iload_n hx hb dPo_data_0 rfl (lv_at hl 1 rfl) ?_
  refine lv_if_lt (tgt := 22) hx hb dPo_data_1 (by decide) (fun h1 => ?_) (fun h1 => ?_)
  · refine lv_iconst (v := 0) hx hb dPo_data_22 (by first | rfl | decide) ?_
    have e9 : FPo_data xk rw = 0 := by simp only [FPo_data, if_pos h1]
    exact W.iret (v := 0) hx hb hr (fun t ht hW => ⟨⟨0, (), rfl, (by show _ = _; rw [e9]), by rw [ht]; exact hP, hD⟩, hS.F ht⟩) hS.2.2 dPo_data_23
  · refine lv_iload_n hx hb dPo_data_4 rfl (lv_at hl 1 rfl) ?_
    refine lv_bipush (v := 32) hx hb dPo_data_5 (by first | rfl | decide) ?_
    refine lv_icmp_ge (tgt := 22) hx hb dPo_data_7 (by decide) (fun h2 => ?_) (fun h2 => ?_)
    · refine lv_iconst (v := 0) hx hb dPo_data_22 (by first | rfl | decide) ?_
      have e9 : FPo_data xk rw = 0 := by simp only [FPo_data, if_neg h1, if_pos h2]
      exact W.iret (v := 0) hx hb hr (fun t ht hW => ⟨⟨0, (), rfl, (by show _ = _; rw [e9]), by rw [ht]; exact hP, hD⟩, hS.F ht⟩) hS.2.2 dPo_data_23
    · refine lv_aload_n hx hb dPo_data_10 rfl (lv_at hl 0 rfl) ?_
      refine va_get (D := D) (ci := 4) (v := .ref (ad 4)) (C := RPo) (T := TPo) (N := 5) hx hb hw pinPo hown hE.1 hP 0 rfl rfl 3 (by decide) (hw _ wd_321) (fun _ h9 => h9) rfl dPo_data_11 ?_
      refine va_getN (D := D) (ci := 2) (v := .ref (ad 16)) (C := RPr) (T := TPr) (N := 9) hx hb hw pinPr hown hE.1 hP 14 rfl rfl 2 (by decide) (va_Nw.use rfl (hE.2 _ nw_22)) (fun _ h9 => h9) rfl dPo_data_14 ?_
      refine lv_iload_n hx hb dPo_data_17 rfl (lv_at hl 1 rfl) ?_
      refine va_iald hx hb hE.1 hP 16 0 rfl rfl (pq_inB (y := 32) (by assumption) (by assumption) (by decide)) dPo_data_18 ?_
      refine lv_goto (tgt := 23) hx hb dPo_data_19 (by decide) ?_
      have e9 : FPo_data xk rw = rw xk.toNatClampNeg := by simp only [FPo_data, if_neg h1, if_neg h2]
      exact W.iret (v := rw xk.toNatClampNeg) hx hb hr (fun t ht hW => ⟨⟨rw xk.toNatClampNeg, (), rfl, (by show _ = _; rw [e9]), by rw [ht]; exact hP, hD⟩, hS.F ht⟩) hS.2.2 dPo_data_23
def FPo_line (xk : Int32) (xa : Int32) (xb : Int32) (xc : Int32) (sn : Int32) (sK : Nat → Int32) (sA : Nat → Int32) (sB : Nat → Int32) (sC : Nat → Int32) (sL : Nat → Int32) : Option String × Int32 × (Nat → Int32) × (Nat → Int32) × (Nat → Int32) × (Nat → Int32) × (Nat → Int32) × Int32 := if (FFo_isLine xk xa xb xc) = 0 then (some "java/lang/IllegalArgumentException", 0, sK, sA, sB, sC, sL, sn) else if (FSo_hasRoom sn) = 0 then (some "java/lang/IllegalStateException", 0, sK, sA, sB, sC, sL, sn) else if xk = 0 then if (FSo_lineOfLabel xa sL) = (-1) then (none, (FSo_append xk xa xb xc sn sK sA sB sC sL).1, (FSo_append xk xa xb xc sn sK sA sB sC sL).2.1, (FSo_append xk xa xb xc sn sK sA sB sC sL).2.2.1, (FSo_append xk xa xb xc sn sK sA sB sC sL).2.2.2.1, (FSo_append xk xa xb xc sn sK sA sB sC sL).2.2.2.2.1, (FSo_append xk xa xb xc sn sK sA sB sC sL).2.2.2.2.2.1, (FSo_append xk xa xb xc sn sK sA sB sC sL).2.2.2.2.2.2) else (some "java/lang/IllegalStateException", 0, sK, sA, sB, sC, sL, sn) else (none, (FSo_append xk xa xb xc sn sK sA sB sC sL).1, (FSo_append xk xa xb xc sn sK sA sB sC sL).2.1, (FSo_append xk xa xb xc sn sK sA sB sC sL).2.2.1, (FSo_append xk xa xb xc sn sK sA sB sC sL).2.2.2.1, (FSo_append xk xa xb xc sn sK sA sB sC sL).2.2.2.2.1, (FSo_append xk xa xb xc sn sK sA sB sC sL).2.2.2.2.2.1, (FSo_append xk xa xb xc sn sK sA sB sC sL).2.2.2.2.2.2)
set_option maxHeartbeats 4000000 in
set_option maxRecDepth 100000 in
theorem k_Po_line (l : Launch) (hl9 : l.stackTraces = false) (D : va_G) (ad : Nat → Nat) (cI cS : ClassId) (xk : Int32) (xa : Int32) (xb : Int32) (xc : Int32) (xr : Int32) (tn : Int32) (to : Int32) (ta : Int32) (tp : Int32) (tk : Int32) (tw : Int32) (tl : Nat → Int32) (tc : Nat → Int32) (ts : Nat → Int32) (tv : Nat → Int32) (sn : Int32) (sK : Nat → Int32) (sA : Nat → Int32) (sB : Nat → Int32) (sC : Nat → Int32) (sL : Nat → Int32) (gn : Int32) (gp : Int32) (gh : Nat → Int32) (rp : Int32) (re : Int32) (fn : Int32) (fz : Int32) (fc : Int32) (fv : Int32) (rr : Nat → Int32) (rw : Nat → Int32) (hsn0 : ¬ sn < 0) : pq_X l yPo_line (.code yPo_line cPo_line 5 (some .int) :: pq_ws) { frames := 6, cells := 1, slots := 6, locals := 82 } D cI cS [.ref (ad 0), .int xk, .int xa, .int xb, .int xc] (wX ad cI cS xr tn to ta tp tk tw tl tc ts tv sn sK sA sB sC sL gn gp gh rp re fn fz fc fv rr rw) ((FPo_line xk xa xb xc sn sK sA sB sC sL).1) ((FPo_line xk xa xb xc sn sK sA sB sC sL).2.1) (wX ad cI cS xr tn to ta tp tk tw tl tc ts tv ((FPo_line xk xa xb xc sn sK sA sB sC sL).2.2.2.2.2.2.2) ((FPo_line xk xa xb xc sn sK sA sB sC sL).2.2.1) ((FPo_line xk xa xb xc sn sK sA sB sC sL).2.2.2.1) ((FPo_line xk xa xb xc sn sK sA sB sC sL).2.2.2.2.1) ((FPo_line xk xa xb xc sn sK sA sB sC sL).2.2.2.2.2.1) ((FPo_line xk xa xb xc sn sK sA sB sC sL).2.2.2.2.2.2.1) gn gp gh rp re fn fz fc fv rr rw) := by
  intro sz
  refine pq_ofX (cc := cPo_line) (maxL := 5) (ret := (some .int)) (by decide) rfl ?_
  intro p e s m args below meth c s₁ B hml htab hv
  obtain ⟨rfl, hsz, hP, hD0, hE, hT⟩ := hv
  have hx := B.exec
  have hb := B.bytes
  have hr := B.returns
  have hts := atoms_spec (ws := (.code yPo_line cPo_line 5 (some .int) :: pq_ws : List Cond)) B.pre
  have hw : ∀ w ∈ pq_ws, w.before _ s = true := fun w h => hts w (List.mem_cons_of_mem _ h)
  have hown : s.vm.findClass RPo = some m.cls := findClass_of_methodNamed B.named
  have hlocks := B.notSynchronized
  subst hsz
  have hP0 := hP
  have hD := hD0.self (sz := s.heap.size)
  have hA : ∀ q : Nat, s.heap.size ≤ q → va_A (wX ad cI cS xr tn to ta tp tk tw tl tc ts tv sn sK sA sB sC sL gn gp gh rp re fn fz fc fv rr rw) s.heap.size q := fun q h => Or.inr h
  have hS : va_S (va_A (wX ad cI cS xr tn to ta tp tk tw tl tc ts tv sn sK sA sB sC sL gn gp gh rp re fn fz fc fv rr rw) s.heap.size) s.heap s.heap [] := va_S.rf
  have hl := lv_entry ([.ref (ad 0), .int xk, .int xa, .int xb, .int xc] : List Value) (n := 5) (Nat.le_of_ble_eq_true rfl)
  rw [lg_entry_eq]
  generalize (lg_sl ([.ref (ad 0), .int xk, .int xa, .int xb, .int xc] : List Value) ++ List.replicate (5 - (lg_sl ([.ref (ad 0), .int xk, .int xa, .int xb, .int xc] : List Value)).length) Slot.unset).toArray = ls at hl ⊢
  have hl : lv_has ls 5 [(0, .ref (ad 0)), (1, .int xk), (2, .int xa), (3, .int xb), (4, .int xc)] := hl
  refine lv_iload_n hx hb dPo_line_0 rfl (lv_at hl 1 rfl) ?_
  refine lv_iload_n hx hb dPo_line_1 rfl (lv_at hl 2 rfl) ?_
  refine lv_iload_n hx hb dPo_line_2 rfl (lv_at hl 3 rfl) ?_
  refine lv_iload hx hb dPo_line_3 (lv_at hl 4 rfl) ?_
  refine pq_calli (fr := (FFo_isLine xk xa xb xc)) (wc := (wN ad cI cS)) (wr := ([0, 1, 2, 3, 4, 5, 6, 7, 8, 9, 10, 11, 12, 13, 14, 15, 16] : List Nat).filterMap (fun i => (wX ad cI cS xr tn to ta tp tk tw tl tc ts tv sn sK sA sB sC sL gn gp gh rp re fn fz fc fv rr rw)[i]?)) hP hD hS hA [] [0, 1, 2, 3, 4, 5, 6, 7, 8, 9, 10, 11, 12, 13, 14, 15, 16] rfl rfl (by decide) (by decide) (va_runSN (own := RPo) (As := [.int xk, .int xa, .int xb, .int xc]) (rest := []) ⟨hx, hb, hml, hown, hw⟩ (k_Fo_isLine l D ad cI cS xk xa xb xc s.heap.size) ⟨pq_cnB 4 hw (hE.2 _ nw_23) wd_1 wd_325 rfl rfl (by decide +kernel) ⟨Nat.le_of_ble_eq_true rfl, Nat.le_of_ble_eq_true rfl⟩, hw _ wd_326, trivial⟩ (pq_preS hE (hP.sub [] rfl) (hD.sub [] (by decide) rfl)) rfl rfl hl.1 rfl (lv_room (Nat.le_of_ble_eq_true rfl)) dPo_line_5 ⟨Nat.zero_le _, Nat.zero_le _⟩) (fun H locs hP hD hS => ?_)
  have hP : va_P D vwCl (wX ad cI cS xr tn to ta tp tk tw tl tc ts tv sn sK sA sB sC sL gn gp gh rp re fn fz fc fv rr rw) H := hP.sub [0, 1, 2, 3, 4, 5, 6, 7, 8, 9, 10, 11, 12, 13, 14, 15, 16] rfl
  have hD : va_D _ (wX ad cI cS xr tn to ta tp tk tw tl tc ts tv sn sK sA sB sC sL gn gp gh rp re fn fz fc fv rr rw) := hD.sub [0, 1, 2, 3, 4, 5, 6, 7, 8, 9, 10, 11, 12, 13, 14, 15, 16] (by decide) rfl
  refine lv_if_ne (tgt := 21) hx hb dPo_line_8 (by decide) (fun h1 => ?_) (fun h1 => ?_)
  · refine lv_aload_n hx hb dPo_line_21 rfl (lv_at hl 0 rfl) ?_
    refine va_get (D := D) (ci := 4) (v := .ref (ad 1)) (C := RPo) (T := TPo) (N := 5) hx hb hw pinPo hown hE.1 hP 0 rfl rfl 0 (by decide) (hw _ wd_315) (fun _ h9 => h9) rfl dPo_line_22 ?_
    refine pq_calli (fr := (FSo_hasRoom sn)) (wc := (wS ad cI cS sn sK sA sB sC sL)) (wr := ([0, 1, 2, 3, 4, 5, 12, 13, 14, 15, 16] : List Nat).filterMap (fun i => (wX ad cI cS xr tn to ta tp tk tw tl tc ts tv sn sK sA sB sC sL gn gp gh rp re fn fz fc fv rr rw)[i]?)) hP hD hS hA [6, 7, 8, 9, 10, 11] [0, 1, 2, 3, 4, 5, 12, 13, 14, 15, 16] rfl rfl (by decide) (by decide) (va_runVN (own := RPo) (C := RSo) (As := []) (rest := []) ⟨hx, hb, hml, hown, hw⟩ (k_So_hasRoom l D ad cI cS sn sK sA sB sC sL H.size) ⟨pq_cnB 0 hw (hE.2 _ nw_24) wd_102 wd_327 rfl rfl (by decide +kernel) ⟨Nat.le_of_ble_eq_true rfl, Nat.le_of_ble_eq_true rfl⟩, hw _ wd_328, hw _ wd_329⟩ (pq_preV (ci := 3) (C := RSo) (T := TSo) (N := 6) hE (hP.sub [6, 7, 8, 9, 10, 11] rfl) (hD.sub [6, 7, 8, 9, 10, 11] (by decide) rfl) rfl 0 rfl) rfl rfl hl.1 rfl (lv_room (Nat.le_of_ble_eq_true rfl)) dPo_line_25 ⟨Nat.zero_le _, Nat.zero_le _⟩) (fun H locs hP hD hS => ?_)
    have hP : va_P D vwCl (wX ad cI cS xr tn to ta tp tk tw tl tc ts tv sn sK sA sB sC sL gn gp gh rp re fn fz fc fv rr rw) H := hP.sub [0, 1, 2, 3, 4, 5, 11, 12, 13, 14, 15, 16, 6, 7, 8, 9, 10] rfl
    have hD : va_D _ (wX ad cI cS xr tn to ta tp tk tw tl tc ts tv sn sK sA sB sC sL gn gp gh rp re fn fz fc fv rr rw) := hD.sub [0, 1, 2, 3, 4, 5, 11, 12, 13, 14, 15, 16, 6, 7, 8, 9, 10] (by decide) rfl
    refine lv_if_ne (tgt := 41) hx hb dPo_line_28 (by decide) (fun h2 => ?_) (fun h2 => ?_)
    · refine lv_iload_n hx hb dPo_line_41 rfl (lv_at hl 1 rfl) ?_
      refine lv_if_ne (tgt := 67) hx hb dPo_line_42 (by decide) (fun h3 => ?_) (fun h3 => ?_)
      · refine lv_aload_n hx hb dPo_line_67 rfl (lv_at hl 0 rfl) ?_
        refine va_get (D := D) (ci := 4) (v := .ref (ad 1)) (C := RPo) (T := TPo) (N := 5) hx hb hw pinPo hown hE.1 hP 0 rfl rfl 0 (by decide) (hw _ wd_315) (fun _ h9 => h9) rfl dPo_line_68 ?_
        refine lv_iload_n hx hb dPo_line_71 rfl (lv_at hl 1 rfl) ?_
        refine lv_iload_n hx hb dPo_line_72 rfl (lv_at hl 2 rfl) ?_
        refine lv_iload_n hx hb dPo_line_73 rfl (lv_at hl 3 rfl) ?_
        refine lv_iload hx hb dPo_line_74 (lv_at hl 4 rfl) ?_
        obtain ⟨g1, hg1⟩ : ∃ g9, FSo_append xk xa xb xc sn sK sA sB sC sL = g9 := ⟨_, rfl⟩
        have cg1 := k_So_append l D ad cI cS xk xa xb xc sn sK sA sB sC sL (pq_roomF hsn0 (by assumption)) (fun q9 => pq_lineF (by assumption) q9)
        rw [hg1] at cg1
        refine pq_calli (fr := g1.1) (wc := (wS ad cI cS sn sK sA sB sC sL)) (wr := ([0, 1, 2, 3, 4, 5, 12, 13, 14, 15, 16] : List Nat).filterMap (fun i => (wX ad cI cS xr tn to ta tp tk tw tl tc ts tv sn sK sA sB sC sL gn gp gh rp re fn fz fc fv rr rw)[i]?)) hP hD hS hA [6, 7, 8, 9, 10, 11] [0, 1, 2, 3, 4, 5, 12, 13, 14, 15, 16] rfl rfl (by decide) (by decide) (va_runVN (own := RPo) (C := RSo) (As := [.int xk, .int xa, .int xb, .int xc]) (rest := []) ⟨hx, hb, hml, hown, hw⟩ (cg1 H.size) ⟨pq_cnB 4 hw (hE.2 _ nw_25) wd_102 wd_330 rfl rfl (by decide +kernel) ⟨Nat.le_of_ble_eq_true rfl, Nat.le_of_ble_eq_true rfl⟩, hw _ wd_331, hw _ wd_332⟩ (pq_preV (ci := 3) (C := RSo) (T := TSo) (N := 6) hE (hP.sub [6, 7, 8, 9, 10, 11] rfl) (hD.sub [6, 7, 8, 9, 10, 11] (by decide) rfl) rfl 0 rfl) rfl rfl hl.1 rfl (lv_room (Nat.le_of_ble_eq_true rfl)) dPo_line_76 ⟨Nat.zero_le _, Nat.zero_le _⟩) (fun H locs hP hD hS => ?_)
        have hP : va_P D vwCl (wX ad cI cS xr tn to ta tp tk tw tl tc ts tv g1.2.2.2.2.2.2 g1.2.1 g1.2.2.1 g1.2.2.2.1 g1.2.2.2.2.1 g1.2.2.2.2.2.1 gn gp gh rp re fn fz fc fv rr rw) H := hP.sub [0, 1, 2, 3, 4, 5, 11, 12, 13, 14, 15, 16, 6, 7, 8, 9, 10] rfl
        have hD : va_D _ (wX ad cI cS xr tn to ta tp tk tw tl tc ts tv g1.2.2.2.2.2.2 g1.2.1 g1.2.2.1 g1.2.2.2.1 g1.2.2.2.2.1 g1.2.2.2.2.2.1 gn gp gh rp re fn fz fc fv rr rw) := hD.sub [0, 1, 2, 3, 4, 5, 11, 12, 13, 14, 15, 16, 6, 7, 8, 9, 10] (by decide) rfl
        have e9 : FPo_line xk xa xb xc sn sK sA sB sC sL = (none, g1.1, g1.2.1, g1.2.2.1, g1.2.2.2.1, g1.2.2.2.2.1, g1.2.2.2.2.2.1, g1.2.2.2.2.2.2) := by simp only [FPo_line, hg1, if_neg h1, if_neg h2, if_neg h3]
        rw [e9]
        refine W.widen (k := 1) (n := 6) (Nat.zero_le _) (Nat.zero_le _) ?_
        refine pq_retX rfl ?_
        exact W.iret (v := g1.1) hx hb hr (fun t ht hW => ⟨⟨g1.1, (), rfl, rfl, by rw [ht]; exact hP, hD⟩, hS.F ht⟩) hS.2.2 dPo_line_79
      · refine lv_aload_n hx hb dPo_line_45 rfl (lv_at hl 0 rfl) ?_
        refine va_get (D := D) (ci := 4) (v := .ref (ad 1)) (C := RPo) (T := TPo) (N := 5) hx hb hw pinPo hown hE.1 hP 0 rfl rfl 0 (by decide) (hw _ wd_315) (fun _ h9 => h9) rfl dPo_line_46 ?_
        refine lv_iload_n hx hb dPo_line_49 rfl (lv_at hl 2 rfl) ?_
        refine pq_calli (fr := (FSo_lineOfLabel xa sL)) (wc := (wS ad cI cS sn sK sA sB sC sL)) (wr := ([0, 1, 2, 3, 4, 5, 12, 13, 14, 15, 16] : List Nat).filterMap (fun i => (wX ad cI cS xr tn to ta tp tk tw tl tc ts tv sn sK sA sB sC sL gn gp gh rp re fn fz fc fv rr rw)[i]?)) hP hD hS hA [6, 7, 8, 9, 10, 11] [0, 1, 2, 3, 4, 5, 12, 13, 14, 15, 16] rfl rfl (by decide) (by decide) (va_runVN (own := RPo) (C := RSo) (As := [.int xa]) (rest := []) ⟨hx, hb, hml, hown, hw⟩ (k_So_lineOfLabel l D ad cI cS xa sn sK sA sB sC sL H.size) ⟨pq_cnB 1 hw (hE.2 _ nw_26) wd_102 wd_101 rfl rfl (by decide +kernel) ⟨Nat.le_of_ble_eq_true rfl, Nat.le_of_ble_eq_true rfl⟩, hw _ wd_103, hw _ wd_104⟩ (pq_preV (ci := 3) (C := RSo) (T := TSo) (N := 6) hE (hP.sub [6, 7, 8, 9, 10, 11] rfl) (hD.sub [6, 7, 8, 9, 10, 11] (by decide) rfl) rfl 0 rfl) rfl rfl hl.1 rfl (lv_room (Nat.le_of_ble_eq_true rfl)) dPo_line_50 ⟨Nat.zero_le _, Nat.zero_le _⟩) (fun H locs hP hD hS => ?_)
        have hP : va_P D vwCl (wX ad cI cS xr tn to ta tp tk tw tl tc ts tv sn sK sA sB sC sL gn gp gh rp re fn fz fc fv rr rw) H := hP.sub [0, 1, 2, 3, 4, 5, 11, 12, 13, 14, 15, 16, 6, 7, 8, 9, 10] rfl
        have hD : va_D _ (wX ad cI cS xr tn to ta tp tk tw tl tc ts tv sn sK sA sB sC sL gn gp gh rp re fn fz fc fv rr rw) := hD.sub [0, 1, 2, 3, 4, 5, 11, 12, 13, 14, 15, 16, 6, 7, 8, 9, 10] (by decide) rfl
        refine lv_iconst (v := (-1)) hx hb dPo_line_53 (by first | rfl | decide) ?_
        refine lv_icmp_eq (tgt := 67) hx hb dPo_line_54 (by decide) (fun h4 => ?_) (fun h4 => ?_)
        · refine lv_aload_n hx hb dPo_line_67 rfl (lv_at hl 0 rfl) ?_
          refine va_get (D := D) (ci := 4) (v := .ref (ad 1)) (C := RPo) (T := TPo) (N := 5) hx hb hw pinPo hown hE.1 hP 0 rfl rfl 0 (by decide) (hw _ wd_315) (fun _ h9 => h9) rfl dPo_line_68 ?_
          refine lv_iload_n hx hb dPo_line_71 rfl (lv_at hl 1 rfl) ?_
          refine lv_iload_n hx hb dPo_line_72 rfl (lv_at hl 2 rfl) ?_
          refine lv_iload_n hx hb dPo_line_73 rfl (lv_at hl 3 rfl) ?_
          refine lv_iload hx hb dPo_line_74 (lv_at hl 4 rfl) ?_
          obtain ⟨g2, hg2⟩ : ∃ g9, FSo_append xk xa xb xc sn sK sA sB sC sL = g9 := ⟨_, rfl⟩
          have cg2 := k_So_append l D ad cI cS xk xa xb xc sn sK sA sB sC sL (pq_roomF hsn0 (by assumption)) (fun q9 => pq_lineF (by assumption) q9)
          rw [hg2] at cg2
          refine pq_calli (fr := g2.1) (wc := (wS ad cI cS sn sK sA sB sC sL)) (wr := ([0, 1, 2, 3, 4, 5, 12, 13, 14, 15, 16] : List Nat).filterMap (fun i => (wX ad cI cS xr tn to ta tp tk tw tl tc ts tv sn sK sA sB sC sL gn gp gh rp re fn fz fc fv rr rw)[i]?)) hP hD hS hA [6, 7, 8, 9, 10, 11] [0, 1, 2, 3, 4, 5, 12, 13, 14, 15, 16] rfl rfl (by decide) (by decide) (va_runVN (own := RPo) (C := RSo) (As := [.int xk, .int xa, .int xb, .int xc]) (rest := []) ⟨hx, hb, hml, hown, hw⟩ (cg2 H.size) ⟨pq_cnB 4 hw (hE.2 _ nw_25) wd_102 wd_330 rfl rfl (by decide +kernel) ⟨Nat.le_of_ble_eq_true rfl, Nat.le_of_ble_eq_true rfl⟩, hw _ wd_331, hw _ wd_332⟩ (pq_preV (ci := 3) (C := RSo) (T := TSo) (N := 6) hE (hP.sub [6, 7, 8, 9, 10, 11] rfl) (hD.sub [6, 7, 8, 9, 10, 11] (by decide) rfl) rfl 0 rfl) rfl rfl hl.1 rfl (lv_room (Nat.le_of_ble_eq_true rfl)) dPo_line_76 ⟨Nat.zero_le _, Nat.zero_le _⟩) (fun H locs hP hD hS => ?_)
          have hP : va_P D vwCl (wX ad cI cS xr tn to ta tp tk tw tl tc ts tv g2.2.2.2.2.2.2 g2.2.1 g2.2.2.1 g2.2.2.2.1 g2.2.2.2.2.1 g2.2.2.2.2.2.1 gn gp gh rp re fn fz fc fv rr rw) H := hP.sub [0, 1, 2, 3, 4, 5, 11, 12, 13, 14, 15, 16, 6, 7, 8, 9, 10] rfl
          have hD : va_D _ (wX ad cI cS xr tn to ta tp tk tw tl tc ts tv g2.2.2.2.2.2.2 g2.2.1 g2.2.2.1 g2.2.2.2.1 g2.2.2.2.2.1 g2.2.2.2.2.2.1 gn gp gh rp re fn fz fc fv rr rw) := hD.sub [0, 1, 2, 3, 4, 5, 11, 12, 13, 14, 15, 16, 6, 7, 8, 9, 10] (by decide) rfl
          have e9 : FPo_line xk xa xb xc sn sK sA sB sC sL = (none, g2.1, g2.2.1, g2.2.2.1, g2.2.2.2.1, g2.2.2.2.2.1, g2.2.2.2.2.2.1, g2.2.2.2.2.2.2) := by simp only [FPo_line, hg2, if_neg h1, if_neg h2, if_pos h3, if_pos h4]
          rw [e9]
          refine W.widen (k := 1) (n := 6) (Nat.zero_le _) (Nat.zero_le _) ?_
          refine pq_retX rfl ?_
          exact W.iret (v := g2.1) hx hb hr (fun t ht hW => ⟨⟨g2.1, (), rfl, rfl, by rw [ht]; exact hP, hD⟩, hS.F ht⟩) hS.2.2 dPo_line_79
        · have e9 : FPo_line xk xa xb xc sn sK sA sB sC sL = (some "java/lang/IllegalStateException", 0, sK, sA, sB, sC, sL, sn) := by simp only [FPo_line, if_neg h1, if_neg h2, if_pos h3, if_neg h4]
          rw [e9]
          obtain ⟨sa, hsa⟩ := hT.2 (71, "the label has a line") (by decide)
          exact pq_throw (own := RPo) (cls := "java/lang/IllegalStateException") (text := "the label has a line") (names := pq_nm) (sa := sa) hx hb hl9 pq_f2 pq_fn (pq_hmv hT hP0 hS hown pq_l2 pq_i2 pq_o2 hsa) hP hD hS (hl.1.trans hml.symm) htab dPo_line_57 dPo_line_60 dPo_line_61 dPo_line_63 dPo_line_66 (Nat.le_of_ble_eq_true rfl) (Nat.le_of_ble_eq_true rfl) (Nat.le_refl _) (Nat.le_refl _) hlocks (Nat.le_refl _) (Nat.le_refl _) rfl
    · have e9 : FPo_line xk xa xb xc sn sK sA sB sC sL = (some "java/lang/IllegalStateException", 0, sK, sA, sB, sC, sL, sn) := by simp only [FPo_line, if_neg h1, if_pos h2]
      rw [e9]
      obtain ⟨sa, hsa⟩ := hT.2 (64, "no more lines") (by decide)
      exact pq_throw (own := RPo) (cls := "java/lang/IllegalStateException") (text := "no more lines") (names := pq_nm) (sa := sa) hx hb hl9 pq_f2 pq_fn (pq_hmv hT hP0 hS hown pq_l2 pq_i2 pq_o2 hsa) hP hD hS (hl.1.trans hml.symm) htab dPo_line_31 dPo_line_34 dPo_line_35 dPo_line_37 dPo_line_40 (Nat.le_of_ble_eq_true rfl) (Nat.le_of_ble_eq_true rfl) (Nat.le_refl _) (Nat.le_refl _) hlocks (Nat.le_refl _) (Nat.le_refl _) rfl
  · have e9 : FPo_line xk xa xb xc sn sK sA sB sC sL = (some "java/lang/IllegalArgumentException", 0, sK, sA, sB, sC, sL, sn) := by simp only [FPo_line, if_pos h1]
    rw [e9]
    obtain ⟨sa, hsa⟩ := hT.2 (53, "no such line") (by decide)
    exact pq_throw (own := RPo) (cls := "java/lang/IllegalArgumentException") (text := "no such line") (names := pq_nm) (sa := sa) hx hb hl9 pq_f1 pq_fn (pq_hmv hT hP0 hS hown pq_l1 pq_i1 pq_o1 hsa) hP hD hS (hl.1.trans hml.symm) htab dPo_line_11 dPo_line_14 dPo_line_15 dPo_line_17 dPo_line_20 (Nat.le_of_ble_eq_true rfl) (Nat.le_of_ble_eq_true rfl) (Nat.le_refl _) (Nat.le_refl _) hlocks (Nat.le_refl _) (Nat.le_refl _) rfl
def FPo_run (xf : Int32) (gn : Int32) (gh : Nat → Int32) (rp : Int32) (re : Int32) (fn : Int32) (fz : Int32) (fc : Int32) (fv : Int32) (rr : Nat → Int32) (rw : Nat → Int32) : Option String × Int32 × (Nat → Int32) × (Nat → Int32) × Int32 × Int32 × Int32 × Int32 × Int32 × Int32 := if xf < 1 then (some "java/lang/IllegalArgumentException", 0, rr, rw, rp, re, fn, fz, fc, fv) else if xf ≤ 5000 then (none, (FPr_goOn xf rp re fn fz fc fv rr rw gn gh).1, (FPr_goOn xf rp re fn fz fc fv rr rw gn gh).2.1, (FPr_goOn xf rp re fn fz fc fv rr rw gn gh).2.2.1, (FPr_goOn xf rp re fn fz fc fv rr rw gn gh).2.2.2.1, (FPr_goOn xf rp re fn fz fc fv rr rw gn gh).2.2.2.2.1, (FPr_goOn xf rp re fn fz fc fv rr rw gn gh).2.2.2.2.2.1, (FPr_goOn xf rp re fn fz fc fv rr rw gn gh).2.2.2.2.2.2.1, (FPr_goOn xf rp re fn fz fc fv rr rw gn gh).2.2.2.2.2.2.2.1, (FPr_goOn xf rp re fn fz fc fv rr rw gn gh).2.2.2.2.2.2.2.2) else (some "java/lang/IllegalArgumentException", 0, rr, rw, rp, re, fn, fz, fc, fv)
set_option maxHeartbeats 4000000 in
set_option maxRecDepth 100000 in
theorem k_Po_run (l : Launch) (hl9 : l.stackTraces = false) (D : va_G) (ad : Nat → Nat) (cI cS : ClassId) (xf : Int32) (xr : Int32) (tn : Int32) (to : Int32) (ta : Int32) (tp : Int32) (tk : Int32) (tw : Int32) (tl : Nat → Int32) (tc : Nat → Int32) (ts : Nat → Int32) (tv : Nat → Int32) (sn : Int32) (sK : Nat → Int32) (sA : Nat → Int32) (sB : Nat → Int32) (sC : Nat → Int32) (sL : Nat → Int32) (gn : Int32) (gp : Int32) (gh : Nat → Int32) (rp : Int32) (re : Int32) (fn : Int32) (fz : Int32) (fc : Int32) (fv : Int32) (rr : Nat → Int32) (rw : Nat → Int32) (hgn : gn.toInt ≤ 6400) : pq_X l yPo_run (.code yPo_run cPo_run 2 (some .int) :: pq_ws) { frames := 6, cells := 1, slots := 6, locals := 111 } D cI cS [.ref (ad 0), .int xf] (wX ad cI cS xr tn to ta tp tk tw tl tc ts tv sn sK sA sB sC sL gn gp gh rp re fn fz fc fv rr rw) ((FPo_run xf gn gh rp re fn fz fc fv rr rw).1) ((FPo_run xf gn gh rp re fn fz fc fv rr rw).2.1) (wX ad cI cS xr tn to ta tp tk tw tl tc ts tv sn sK sA sB sC sL gn gp gh ((FPo_run xf gn gh rp re fn fz fc fv rr rw).2.2.2.2.1) ((FPo_run xf gn gh rp re fn fz fc fv rr rw).2.2.2.2.2.1) ((FPo_run xf gn gh rp re fn fz fc fv rr rw).2.2.2.2.2.2.1) ((FPo_run xf gn gh rp re fn fz fc fv rr rw).2.2.2.2.2.2.2.1) ((FPo_run xf gn gh rp re fn fz fc fv rr rw).2.2.2.2.2.2.2.2.1) ((FPo_run xf gn gh rp re fn fz fc fv rr rw).2.2.2.2.2.2.2.2.2) ((FPo_run xf gn gh rp re fn fz fc fv rr rw).2.2.1) ((FPo_run xf gn gh rp re fn fz fc fv rr rw).2.2.2.1)) := by
  intro sz
  refine pq_ofX (cc := cPo_run) (maxL := 2) (ret := (some .int)) (by decide) rfl ?_
  intro p e s m args below meth c s₁ B hml htab hv
  obtain ⟨rfl, hsz, hP, hD0, hE, hT⟩ := hv
  have hx := B.exec
  have hb := B.bytes
  have hr := B.returns
  have hts := atoms_spec (ws := (.code yPo_run cPo_run 2 (some .int) :: pq_ws : List Cond)) B.pre
  have hw : ∀ w ∈ pq_ws, w.before _ s = true := fun w h => hts w (List.mem_cons_of_mem _ h)
  have hown : s.vm.findClass RPo = some m.cls := findClass_of_methodNamed B.named
  have hlocks := B.notSynchronized
  subst hsz
  have hP0 := hP
  have hD := hD0.self (sz := s.heap.size)
  have hA : ∀ q : Nat, s.heap.size ≤ q → va_A (wX ad cI cS xr tn to ta tp tk tw tl tc ts tv sn sK sA sB sC sL gn gp gh rp re fn fz fc fv rr rw) s.heap.size q := fun q h => Or.inr h
  have hS : va_S (va_A (wX ad cI cS xr tn to ta tp tk tw tl tc ts tv sn sK sA sB sC sL gn gp gh rp re fn fz fc fv rr rw) s.heap.size) s.heap s.heap [] := va_S.rf
  have hl := lv_entry ([.ref (ad 0), .int xf] : List Value) (n := 2) (Nat.le_of_ble_eq_true rfl)
  rw [lg_entry_eq]
  generalize (lg_sl ([.ref (ad 0), .int xf] : List Value) ++ List.replicate (2 - (lg_sl ([.ref (ad 0), .int xf] : List Value)).length) Slot.unset).toArray = ls at hl ⊢
  have hl : lv_has ls 2 [(0, .ref (ad 0)), (1, .int xf)] := hl
  refine lv_iload_n hx hb dPo_run_0 rfl (lv_at hl 1 rfl) ?_
  refine lv_iconst (v := 1) hx hb dPo_run_1 (by first | rfl | decide) ?_
  refine lv_icmp_lt (tgt := 12) hx hb dPo_run_2 (by decide) (fun h1 => ?_) (fun h1 => ?_)
  · have e9 : FPo_run xf gn gh rp re fn fz fc fv rr rw = (some "java/lang/IllegalArgumentException", 0, rr, rw, rp, re, fn, fz, fc, fv) := by simp only [FPo_run, if_pos h1]
    rw [e9]
    obtain ⟨sa, hsa⟩ := hT.2 (108, "fuel is 1 .. 5000") (by decide)
    exact pq_throw (own := RPo) (cls := "java/lang/IllegalArgumentException") (text := "fuel is 1 .. 5000") (names := pq_nm) (sa := sa) hx hb hl9 pq_f1 pq_fn (pq_hmv hT hP0 hS hown pq_l1 pq_i1 pq_o1 hsa) hP hD hS (hl.1.trans hml.symm) htab dPo_run_12 dPo_run_15 dPo_run_16 dPo_run_18 dPo_run_21 (Nat.le_of_ble_eq_true rfl) (Nat.le_of_ble_eq_true rfl) (Nat.le_refl _) (Nat.le_refl _) hlocks (Nat.le_refl _) (Nat.le_refl _) rfl
  · refine lv_iload_n hx hb dPo_run_5 rfl (lv_at hl 1 rfl) ?_
    refine lv_sipush (v := 5000) hx hb dPo_run_6 (by first | rfl | decide) ?_
    refine lv_icmp_le (tgt := 22) hx hb dPo_run_9 (by decide) (fun h2 => ?_) (fun h2 => ?_)
    · refine lv_aload_n hx hb dPo_run_22 rfl (lv_at hl 0 rfl) ?_
      refine va_get (D := D) (ci := 4) (v := .ref (ad 4)) (C := RPo) (T := TPo) (N := 5) hx hb hw pinPo hown hE.1 hP 0 rfl rfl 3 (by decide) (hw _ wd_321) (fun _ h9 => h9) rfl dPo_run_23 ?_
      refine lv_iload_n hx hb dPo_run_26 rfl (lv_at hl 1 rfl) ?_
      obtain ⟨g1, hg1⟩ : ∃ g9, FPr_goOn xf rp re fn fz fc fv rr rw gn gh = g9 := ⟨_, rfl⟩
      have cg1 := k_Pr_goOn l D ad cI cS xf rp re fn fz fc fv rr rw gn gp gh hgn
      rw [hg1] at cg1
      refine pq_calli (fr := g1.1) (wc := (wP ad cI cS rp re fn fz fc fv rr rw gn gp gh)) (wr := ([0, 1, 2, 3, 4, 5, 6, 7, 8, 9, 10, 11] : List Nat).filterMap (fun i => (wX ad cI cS xr tn to ta tp tk tw tl tc ts tv sn sK sA sB sC sL gn gp gh rp re fn fz fc fv rr rw)[i]?)) hP hD hS hA [14, 15, 16, 12, 13] [0, 1, 2, 3, 4, 5, 6, 7, 8, 9, 10, 11] rfl rfl (by decide) (by decide) (va_runVN (own := RPo) (C := RPr) (As := [.int xf]) (rest := []) ⟨hx, hb, hml, hown, hw⟩ (cg1 s.heap.size) ⟨pq_cnB 1 hw (hE.2 _ nw_27) wd_33 wd_333 rfl rfl (by decide +kernel) ⟨Nat.le_of_ble_eq_true rfl, Nat.le_of_ble_eq_true rfl⟩, hw _ wd_334, hw _ wd_335⟩ (pq_preV (ci := 2) (C := RPr) (T := TPr) (N := 9) hE (hP.sub [14, 15, 16, 12, 13] rfl) (hD.sub [14, 15, 16, 12, 13] (by decide) rfl) rfl 0 rfl) rfl rfl hl.1 rfl (lv_room (Nat.le_of_ble_eq_true rfl)) dPo_run_27 ⟨Nat.zero_le _, Nat.zero_le _⟩) (fun H locs hP hD hS => ?_)
      have hP : va_P D vwCl (wX ad cI cS xr tn to ta tp tk tw tl tc ts tv sn sK sA sB sC sL gn gp gh g1.2.2.2.1 g1.2.2.2.2.1 g1.2.2.2.2.2.1 g1.2.2.2.2.2.2.1 g1.2.2.2.2.2.2.2.1 g1.2.2.2.2.2.2.2.2 g1.2.1 g1.2.2.1) H := hP.sub [0, 1, 2, 3, 4, 5, 6, 7, 8, 9, 10, 11, 15, 16, 12, 13, 14] rfl
      have hD : va_D _ (wX ad cI cS xr tn to ta tp tk tw tl tc ts tv sn sK sA sB sC sL gn gp gh g1.2.2.2.1 g1.2.2.2.2.1 g1.2.2.2.2.2.1 g1.2.2.2.2.2.2.1 g1.2.2.2.2.2.2.2.1 g1.2.2.2.2.2.2.2.2 g1.2.1 g1.2.2.1) := hD.sub [0, 1, 2, 3, 4, 5, 6, 7, 8, 9, 10, 11, 15, 16, 12, 13, 14] (by decide) rfl
      have e9 : FPo_run xf gn gh rp re fn fz fc fv rr rw = (none, g1.1, g1.2.1, g1.2.2.1, g1.2.2.2.1, g1.2.2.2.2.1, g1.2.2.2.2.2.1, g1.2.2.2.2.2.2.1, g1.2.2.2.2.2.2.2.1, g1.2.2.2.2.2.2.2.2) := by simp only [FPo_run, hg1, if_neg h1, if_pos h2]
      rw [e9]
      refine W.widen (k := 1) (n := 6) (Nat.zero_le _) (Nat.zero_le _) ?_
      refine pq_retX rfl ?_
      exact W.iret (v := g1.1) hx hb hr (fun t ht hW => ⟨⟨g1.1, (), rfl, rfl, by rw [ht]; exact hP, hD⟩, hS.F ht⟩) hS.2.2 dPo_run_30
    · have e9 : FPo_run xf gn gh rp re fn fz fc fv rr rw = (some "java/lang/IllegalArgumentException", 0, rr, rw, rp, re, fn, fz, fc, fv) := by simp only [FPo_run, if_neg h1, if_neg h2]
      rw [e9]
      obtain ⟨sa, hsa⟩ := hT.2 (108, "fuel is 1 .. 5000") (by decide)
      exact pq_throw (own := RPo) (cls := "java/lang/IllegalArgumentException") (text := "fuel is 1 .. 5000") (names := pq_nm) (sa := sa) hx hb hl9 pq_f1 pq_fn (pq_hmv hT hP0 hS hown pq_l1 pq_i1 pq_o1 hsa) hP hD hS (hl.1.trans hml.symm) htab dPo_run_12 dPo_run_15 dPo_run_16 dPo_run_18 dPo_run_21 (Nat.le_of_ble_eq_true rfl) (Nat.le_of_ble_eq_true rfl) (Nat.le_refl _) (Nat.le_refl _) hlocks (Nat.le_refl _) (Nat.le_refl _) rfl
def FPo_register (xg : Int32) (rp : Int32) (fn : Int32) (fz : Int32) (fc : Int32) (fv : Int32) (rr : Nat → Int32) : Option String × Int32 := if xg < 0 then (some "java/lang/IllegalArgumentException", 0) else if xg ≤ 9 then if xg = 8 then (none, rp) else if 8 ≤ xg then (none, (FPr_flags fn fz fc fv)) else (none, rr xg.toNatClampNeg) else (some "java/lang/IllegalArgumentException", 0)
set_option maxHeartbeats 4000000 in
set_option maxRecDepth 100000 in
theorem k_Po_register (l : Launch) (hl9 : l.stackTraces = false) (D : va_G) (ad : Nat → Nat) (cI cS : ClassId) (xg : Int32) (xr : Int32) (tn : Int32) (to : Int32) (ta : Int32) (tp : Int32) (tk : Int32) (tw : Int32) (tl : Nat → Int32) (tc : Nat → Int32) (ts : Nat → Int32) (tv : Nat → Int32) (sn : Int32) (sK : Nat → Int32) (sA : Nat → Int32) (sB : Nat → Int32) (sC : Nat → Int32) (sL : Nat → Int32) (gn : Int32) (gp : Int32) (gh : Nat → Int32) (rp : Int32) (re : Int32) (fn : Int32) (fz : Int32) (fc : Int32) (fv : Int32) (rr : Nat → Int32) (rw : Nat → Int32) : pq_X l yPo_register (.code yPo_register cPo_register 2 (some .int) :: pq_ws) { frames := 6, cells := 1, slots := 6, locals := 82 } D cI cS [.ref (ad 0), .int xg] (wX ad cI cS xr tn to ta tp tk tw tl tc ts tv sn sK sA sB sC sL gn gp gh rp re fn fz fc fv rr rw) ((FPo_register xg rp fn fz fc fv rr).1) ((FPo_register xg rp fn fz fc fv rr).2) (wX ad cI cS xr tn to ta tp tk tw tl tc ts tv sn sK sA sB sC sL gn gp gh rp re fn fz fc fv rr rw) := by
  intro sz
  refine pq_ofX (cc := cPo_register) (maxL := 2) (ret := (some .int)) (by decide) rfl ?_
  intro p e s m args below meth c s₁ B hml htab hv
  obtain ⟨rfl, hsz, hP, hD0, hE, hT⟩ := hv
  have hx := B.exec
  have hb := B.bytes
  have hr := B.returns
  have hts := atoms_spec (ws := (.code yPo_register cPo_register 2 (some .int) :: pq_ws : List Cond)) B.pre
  have hw : ∀ w ∈ pq_ws, w.before _ s = true := fun w h => hts w (List.mem_cons_of_mem _ h)
  have hown : s.vm.findClass RPo = some m.cls := findClass_of_methodNamed B.named
  have hlocks := B.notSynchronized
  subst hsz
  have hP0 := hP
  have hD := hD0.self (sz := s.heap.size)
  have hA : ∀ q : Nat, s.heap.size ≤ q → va_A (wX ad cI cS xr tn to ta tp tk tw tl tc ts tv sn sK sA sB sC sL gn gp gh rp re fn fz fc fv rr rw) s.heap.size q := fun q h => Or.inr h
  have hS : va_S (va_A (wX ad cI cS xr tn to ta tp tk tw tl tc ts tv sn sK sA sB sC sL gn gp gh rp re fn fz fc fv rr rw) s.heap.size) s.heap s.heap [] := va_S.rf
  have hl := lv_entry ([.ref (ad 0), .int xg] : List Value) (n := 2) (Nat.le_of_ble_eq_true rfl)
  rw [lg_entry_eq]
  generalize (lg_sl ([.ref (ad 0), .int xg] : List Value) ++ List.replicate (2 - (lg_sl ([.ref (ad 0), .int xg] : List Value)).length) Slot.unset).toArray = ls at hl ⊢
  have hl : lv_has ls 2 [(0, .ref (ad 0)), (1, .int xg)] := hl
  refine lv_iload_n hx hb dPo_register_0 rfl (lv_at hl 1 rfl) ?_
  refine lv_if_lt (tgt := 10) hx hb dPo_register_1 (by decide) (fun h1 => ?_) (fun h1 => ?_)
  · have e9 : FPo_register xg rp fn fz fc fv rr = (some "java/lang/IllegalArgumentException", 0) := by simp only [FPo_register, if_pos h1]
    rw [e9]
    obtain ⟨sa, hsa⟩ := hT.2 (113, "no such register") (by decide)
    exact pq_throw (own := RPo) (cls := "java/lang/IllegalArgumentException") (text := "no such register") (names := pq_nm) (sa := sa) hx hb hl9 pq_f1 pq_fn (pq_hmv hT hP0 hS hown pq_l1 pq_i1 pq_o1 hsa) hP hD hS (hl.1.trans hml.symm) htab dPo_register_10 dPo_register_13 dPo_register_14 dPo_register_16 dPo_register_19 (Nat.le_of_ble_eq_true rfl) (Nat.le_of_ble_eq_true rfl) (Nat.le_refl _) (Nat.le_refl _) hlocks (Nat.le_refl _) (Nat.le_refl _) rfl
  · refine lv_iload_n hx hb dPo_register_4 rfl (lv_at hl 1 rfl) ?_
    refine lv_bipush (v := 9) hx hb dPo_register_5 (by first | rfl | decide) ?_
    refine lv_icmp_le (tgt := 20) hx hb dPo_register_7 (by decide) (fun h2 => ?_) (fun h2 => ?_)
    · refine lv_iload_n hx hb dPo_register_20 rfl (lv_at hl 1 rfl) ?_
      refine lv_bipush (v := 8) hx hb dPo_register_21 (by first | rfl | decide) ?_
      refine lv_icmp_ne (tgt := 34) hx hb dPo_register_23 (by decide) (fun h3 => ?_) (fun h3 => ?_)
      · refine lv_iload_n hx hb dPo_register_34 rfl (lv_at hl 1 rfl) ?_
        refine lv_bipush (v := 8) hx hb dPo_register_35 (by first | rfl | decide) ?_
        refine lv_icmp_ge (tgt := 52) hx hb dPo_register_37 (by decide) (fun h4 => ?_) (fun h4 => ?_)
        · refine lv_aload_n hx hb dPo_register_52 rfl (lv_at hl 0 rfl) ?_
          refine va_get (D := D) (ci := 4) (v := .ref (ad 4)) (C := RPo) (T := TPo) (N := 5) hx hb hw pinPo hown hE.1 hP 0 rfl rfl 3 (by decide) (hw _ wd_321) (fun _ h9 => h9) rfl dPo_register_53 ?_
          refine pq_calli (fr := (FPr_flags fn fz fc fv)) (wc := (wP ad cI cS rp re fn fz fc fv rr rw gn gp gh)) (wr := ([0, 1, 2, 3, 4, 5, 6, 7, 8, 9, 10, 11] : List Nat).filterMap (fun i => (wX ad cI cS xr tn to ta tp tk tw tl tc ts tv sn sK sA sB sC sL gn gp gh rp re fn fz fc fv rr rw)[i]?)) hP hD hS hA [14, 15, 16, 12, 13] [0, 1, 2, 3, 4, 5, 6, 7, 8, 9, 10, 11] rfl rfl (by decide) (by decide) (va_runVN (own := RPo) (C := RPr) (As := []) (rest := []) ⟨hx, hb, hml, hown, hw⟩ (k_Pr_flags l D ad cI cS rp re fn fz fc fv rr rw gn gp gh s.heap.size) ⟨pq_cnB 0 hw (hE.2 _ nw_28) wd_33 wd_336 rfl rfl (by decide +kernel) ⟨Nat.le_of_ble_eq_true rfl, Nat.le_of_ble_eq_true rfl⟩, hw _ wd_337, hw _ wd_338⟩ (pq_preV (ci := 2) (C := RPr) (T := TPr) (N := 9) hE (hP.sub [14, 15, 16, 12, 13] rfl) (hD.sub [14, 15, 16, 12, 13] (by decide) rfl) rfl 0 rfl) rfl rfl hl.1 rfl (lv_room (Nat.le_of_ble_eq_true rfl)) dPo_register_56 ⟨Nat.zero_le _, Nat.zero_le _⟩) (fun H locs hP hD hS => ?_)
          have hP : va_P D vwCl (wX ad cI cS xr tn to ta tp tk tw tl tc ts tv sn sK sA sB sC sL gn gp gh rp re fn fz fc fv rr rw) H := hP.sub [0, 1, 2, 3, 4, 5, 6, 7, 8, 9, 10, 11, 15, 16, 12, 13, 14] rfl
          have hD : va_D _ (wX ad cI cS xr tn to ta tp tk tw tl tc ts tv sn sK sA sB sC sL gn gp gh rp re fn fz fc fv rr rw) := hD.sub [0, 1, 2, 3, 4, 5, 6, 7, 8, 9, 10, 11, 15, 16, 12, 13, 14] (by decide) rfl
          have e9 : FPo_register xg rp fn fz fc fv rr = (none, (FPr_flags fn fz fc fv)) := by simp only [FPo_register, if_neg h1, if_pos h2, if_neg h3, if_pos h4]
          rw [e9]
          refine W.widen (k := 1) (n := 6) (Nat.zero_le _) (Nat.zero_le _) ?_
          refine pq_retX rfl ?_
          exact W.iret (v := (FPr_flags fn fz fc fv)) hx hb hr (fun t ht hW => ⟨⟨(FPr_flags fn fz fc fv), (), rfl, rfl, by rw [ht]; exact hP, hD⟩, hS.F ht⟩) hS.2.2 dPo_register_59
        · refine lv_aload_n hx hb dPo_register_40 rfl (lv_at hl 0 rfl) ?_
          refine va_get (D := D) (ci := 4) (v := .ref (ad 4)) (C := RPo) (T := TPo) (N := 5) hx hb hw pinPo hown hE.1 hP 0 rfl rfl 3 (by decide) (hw _ wd_321) (fun _ h9 => h9) rfl dPo_register_41 ?_
          refine va_getN (D := D) (ci := 2) (v := .ref (ad 15)) (C := RPr) (T := TPr) (N := 9) hx hb hw pinPr hown hE.1 hP 14 rfl rfl 1 (by decide) (va_Nw.use rfl (hE.2 _ nw_29)) (fun _ h9 => h9) rfl dPo_register_44 ?_
          refine lv_iload_n hx hb dPo_register_47 rfl (lv_at hl 1 rfl) ?_
          refine va_iald hx hb hE.1 hP 15 0 rfl rfl (pq_inB (y := 8) (by assumption) (by assumption) (by decide)) dPo_register_48 ?_
          refine lv_goto (tgt := 59) hx hb dPo_register_49 (by decide) ?_
          have e9 : FPo_register xg rp fn fz fc fv rr = (none, rr xg.toNatClampNeg) := by simp only [FPo_register, if_neg h1, if_pos h2, if_neg h3, if_neg h4]
          rw [e9]
          refine W.widen (k := 1) (n := 6) (Nat.zero_le _) (Nat.zero_le _) ?_
          refine pq_retX rfl ?_
          exact W.iret (v := rr xg.toNatClampNeg) hx hb hr (fun t ht hW => ⟨⟨rr xg.toNatClampNeg, (), rfl, rfl, by rw [ht]; exact hP, hD⟩, hS.F ht⟩) hS.2.2 dPo_register_59
      · refine lv_aload_n hx hb dPo_register_26 rfl (lv_at hl 0 rfl) ?_
        refine va_get (D := D) (ci := 4) (v := .ref (ad 4)) (C := RPo) (T := TPo) (N := 5) hx hb hw pinPo hown hE.1 hP 0 rfl rfl 3 (by decide) (hw _ wd_321) (fun _ h9 => h9) rfl dPo_register_27 ?_
        refine va_getN (D := D) (ci := 2) (v := .int rp) (C := RPr) (T := TPr) (N := 9) hx hb hw pinPr hown hE.1 hP 14 rfl rfl 3 (by decide) (va_Nw.use rfl (hE.2 _ nw_30)) (fun _ h9 => h9) rfl dPo_register_30 ?_
        have e9 : FPo_register xg rp fn fz fc fv rr = (none, rp) := by simp only [FPo_register, if_neg h1, if_pos h2, if_pos h3]
        rw [e9]
        refine W.widen (k := 1) (n := 6) (Nat.zero_le _) (Nat.zero_le _) ?_
        refine pq_retX rfl ?_
        exact W.iret (v := rp) hx hb hr (fun t ht hW => ⟨⟨rp, (), rfl, rfl, by rw [ht]; exact hP, hD⟩, hS.F ht⟩) hS.2.2 dPo_register_33
    · have e9 : FPo_register xg rp fn fz fc fv rr = (some "java/lang/IllegalArgumentException", 0) := by simp only [FPo_register, if_neg h1, if_neg h2]
      rw [e9]
      obtain ⟨sa, hsa⟩ := hT.2 (113, "no such register") (by decide)
      exact pq_throw (own := RPo) (cls := "java/lang/IllegalArgumentException") (text := "no such register") (names := pq_nm) (sa := sa) hx hb hl9 pq_f1 pq_fn (pq_hmv hT hP0 hS hown pq_l1 pq_i1 pq_o1 hsa) hP hD hS (hl.1.trans hml.symm) htab dPo_register_10 dPo_register_13 dPo_register_14 dPo_register_16 dPo_register_19 (Nat.le_of_ble_eq_true rfl) (Nat.le_of_ble_eq_true rfl) (Nat.le_refl _) (Nat.le_refl _) hlocks (Nat.le_refl _) (Nat.le_refl _) rfl
